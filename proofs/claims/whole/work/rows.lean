section
-- ===== PART A: goes FIRST, ahead of the names: the tables' words, and 'selects' of the private methods out of them =====
/-- a private method of a class that the tables say can be made, by its rows of tables_1 -/
def lw_okq (q : MethodName × Nat) : Prop := (q.1.cls ≠ "java/lang/invoke/MethodHandle" ∧ q.1.cls ≠ "java/lang/invoke/VarHandle") ∧ Cond.instantiable q.1.cls q.2 ∈ tables_1 ∧ Cond.privateMethod q.1 ∈ tables_1 ∧ Cond.instanceMethod q.1 ∈ tables_1
theorem lw_p0 : lw_okq (⟨"OfflineGates$DayText", "isAllowed", "(II)Z"⟩, 2) := ⟨⟨by decide +kernel, by decide +kernel⟩, List.mem_of_getElem? (i := 219) (by decide +kernel), List.mem_of_getElem? (i := 317) (by decide +kernel), List.mem_of_getElem? (i := 318) (by decide +kernel)⟩
theorem lw_p1 : lw_okq (⟨"OfflineGates", "numberIfUp", "(II)I"⟩, 5) := ⟨⟨by decide +kernel, by decide +kernel⟩, List.mem_of_getElem? (i := 23) (by decide +kernel), List.mem_of_getElem? (i := 334) (by decide +kernel), List.mem_of_getElem? (i := 335) (by decide +kernel)⟩
theorem lw_p2 : lw_okq (⟨"OfflineGates$State", "settle", "(III)V"⟩, 10) := ⟨⟨by decide +kernel, by decide +kernel⟩, List.mem_of_getElem? (i := 31) (by decide +kernel), List.mem_of_getElem? (i := 388) (by decide +kernel), List.mem_of_getElem? (i := 389) (by decide +kernel)⟩
theorem lw_p3 : lw_okq (⟨"OfflineGates$Gates", "isOf", "(III)Z"⟩, 8) := ⟨⟨by decide +kernel, by decide +kernel⟩, List.mem_of_getElem? (i := 113) (by decide +kernel), List.mem_of_getElem? (i := 432) (by decide +kernel), List.mem_of_getElem? (i := 433) (by decide +kernel)⟩
theorem lw_p4 : lw_okq (⟨"java/lang/Throwable", "fillInStackTrace", "(I)Ljava/lang/Throwable;"⟩, 6) := ⟨⟨by decide +kernel, by decide +kernel⟩, List.mem_of_getElem? (i := 489) (by decide +kernel), List.mem_of_getElem? (i := 487) (by decide +kernel), List.mem_of_getElem? (i := 488) (by decide +kernel)⟩
theorem lw_p5 : lw_okq (⟨"OfflineGates$State", "judge", "(II)I"⟩, 10) := ⟨⟨by decide +kernel, by decide +kernel⟩, List.mem_of_getElem? (i := 31) (by decide +kernel), List.mem_of_getElem? (i := 634) (by decide +kernel), List.mem_of_getElem? (i := 635) (by decide +kernel)⟩
theorem lw_p6 : lw_okq (⟨"OfflineGates$State", "isOnList", "(II)Z"⟩, 10) := ⟨⟨by decide +kernel, by decide +kernel⟩, List.mem_of_getElem? (i := 31) (by decide +kernel), List.mem_of_getElem? (i := 638) (by decide +kernel), List.mem_of_getElem? (i := 639) (by decide +kernel)⟩
theorem lw_p7 : lw_okq (⟨"OfflineGates$State", "takeRide", "(II)V"⟩, 10) := ⟨⟨by decide +kernel, by decide +kernel⟩, List.mem_of_getElem? (i := 31) (by decide +kernel), List.mem_of_getElem? (i := 650) (by decide +kernel), List.mem_of_getElem? (i := 651) (by decide +kernel)⟩
theorem lw_p8 : lw_okq (⟨"OfflineGates", "remember", "()V"⟩, 5) := ⟨⟨by decide +kernel, by decide +kernel⟩, List.mem_of_getElem? (i := 23) (by decide +kernel), List.mem_of_getElem? (i := 803) (by decide +kernel), List.mem_of_getElem? (i := 804) (by decide +kernel)⟩
theorem lw_p9 : lw_okq (⟨"OfflineGatesModel", "refused", "(I)Z"⟩, 12) := ⟨⟨by decide +kernel, by decide +kernel⟩, List.mem_of_getElem? (i := 1034) (by decide +kernel), List.mem_of_getElem? (i := 1096) (by decide +kernel), List.mem_of_getElem? (i := 1097) (by decide +kernel)⟩
theorem lw_p10 : lw_okq (⟨"OfflineGatesModel", "readText", "([I)I"⟩, 12) := ⟨⟨by decide +kernel, by decide +kernel⟩, List.mem_of_getElem? (i := 1034) (by decide +kernel), List.mem_of_getElem? (i := 1108) (by decide +kernel), List.mem_of_getElem? (i := 1109) (by decide +kernel)⟩
theorem lw_p11 : lw_okq (⟨"OfflineGatesModel", "readCommand", "([I)Z"⟩, 12) := ⟨⟨by decide +kernel, by decide +kernel⟩, List.mem_of_getElem? (i := 1034) (by decide +kernel), List.mem_of_getElem? (i := 1112) (by decide +kernel), List.mem_of_getElem? (i := 1113) (by decide +kernel)⟩
theorem lw_p12 : lw_okq (⟨"OfflineGatesModel", "figures", "(IIII)I"⟩, 12) := ⟨⟨by decide +kernel, by decide +kernel⟩, List.mem_of_getElem? (i := 1034) (by decide +kernel), List.mem_of_getElem? (i := 1116) (by decide +kernel), List.mem_of_getElem? (i := 1117) (by decide +kernel)⟩
theorem lw_p13 : lw_okq (⟨"OfflineGatesModel", "done", "(Z)Z"⟩, 12) := ⟨⟨by decide +kernel, by decide +kernel⟩, List.mem_of_getElem? (i := 1034) (by decide +kernel), List.mem_of_getElem? (i := 1133) (by decide +kernel), List.mem_of_getElem? (i := 1134) (by decide +kernel)⟩
theorem lw_p14 : lw_okq (⟨"OfflineGatesModel", "remember", "()V"⟩, 12) := ⟨⟨by decide +kernel, by decide +kernel⟩, List.mem_of_getElem? (i := 1034) (by decide +kernel), List.mem_of_getElem? (i := 1244) (by decide +kernel), List.mem_of_getElem? (i := 1245) (by decide +kernel)⟩
theorem lw_p15 : lw_okq (⟨"OfflineGatesModel", "brings", "(II)I"⟩, 12) := ⟨⟨by decide +kernel, by decide +kernel⟩, List.mem_of_getElem? (i := 1034) (by decide +kernel), List.mem_of_getElem? (i := 1316) (by decide +kernel), List.mem_of_getElem? (i := 1317) (by decide +kernel)⟩
def lw_privs_1 : List (MethodName × Nat) := [(⟨"OfflineGates$DayText", "isAllowed", "(II)Z"⟩, 2), (⟨"OfflineGates", "numberIfUp", "(II)I"⟩, 5), (⟨"OfflineGates$State", "settle", "(III)V"⟩, 10), (⟨"OfflineGates$Gates", "isOf", "(III)Z"⟩, 8), (⟨"java/lang/Throwable", "fillInStackTrace", "(I)Ljava/lang/Throwable;"⟩, 6), (⟨"OfflineGates$State", "judge", "(II)I"⟩, 10), (⟨"OfflineGates$State", "isOnList", "(II)Z"⟩, 10), (⟨"OfflineGates$State", "takeRide", "(II)V"⟩, 10), (⟨"OfflineGates", "remember", "()V"⟩, 5), (⟨"OfflineGatesModel", "refused", "(I)Z"⟩, 12), (⟨"OfflineGatesModel", "readText", "([I)I"⟩, 12), (⟨"OfflineGatesModel", "readCommand", "([I)Z"⟩, 12), (⟨"OfflineGatesModel", "figures", "(IIII)I"⟩, 12), (⟨"OfflineGatesModel", "done", "(Z)Z"⟩, 12), (⟨"OfflineGatesModel", "remember", "()V"⟩, 12), (⟨"OfflineGatesModel", "brings", "(II)I"⟩, 12)]
theorem lw_r1 : ∀ q ∈ lw_privs_1, lw_okq q := List.forall_mem_cons.mpr ⟨lw_p0, List.forall_mem_cons.mpr ⟨lw_p1, List.forall_mem_cons.mpr ⟨lw_p2, List.forall_mem_cons.mpr ⟨lw_p3, List.forall_mem_cons.mpr ⟨lw_p4, List.forall_mem_cons.mpr ⟨lw_p5, List.forall_mem_cons.mpr ⟨lw_p6, List.forall_mem_cons.mpr ⟨lw_p7, List.forall_mem_cons.mpr ⟨lw_p8, List.forall_mem_cons.mpr ⟨lw_p9, List.forall_mem_cons.mpr ⟨lw_p10, List.forall_mem_cons.mpr ⟨lw_p11, List.forall_mem_cons.mpr ⟨lw_p12, List.forall_mem_cons.mpr ⟨lw_p13, List.forall_mem_cons.mpr ⟨lw_p14, List.forall_mem_cons.mpr ⟨lw_p15, fun _ h => absurd h List.not_mem_nil⟩⟩⟩⟩⟩⟩⟩⟩⟩⟩⟩⟩⟩⟩⟩⟩
def lw_privs : List (MethodName × Nat) := lw_privs_1
def lw_tbl : List Cond := k2_sels lw_privs ++ tables_1
theorem lw_privs_ok : ∀ q ∈ lw_privs, lw_okq q := lw_r1
-- ===== end of PART A; then your names; then what follows =====
/-! ===== BEGIN words of one list among another's, by their places ===== -/
theorem goodIn_r {big : List Cond} (ws : List Cond) (ps : List Nat) (hp : ws = ps.filterMap (fun i => big[i]?)) (h : ws.all goodWord = true) : GoodIn big ws := by
  intro w hw
  have h1 := List.all_eq_true.mp h w hw
  rw [hp] at hw
  obtain ⟨i, -, hi⟩ := List.mem_filterMap.mp hw
  have hm : w ∈ big := by first | exact List.mem_of_getElem? hi | exact List.getElem?_mem hi
  exact ⟨hm, good_of_word h1⟩
theorem goodIn_app {big a b : List Cond} (ha : GoodIn big a) (hb : GoodIn big b) : GoodIn big (a ++ b) := fun w h => (List.mem_append.mp h).elim (ha w) (hb w)
theorem goodIn_ca {big a b : List Cond} {c : Cond} (ha : GoodIn big (c :: a)) (hb : GoodIn big b) : GoodIn big (c :: (a ++ b)) := fun w h => (List.mem_cons.mp h).elim (fun e => ha w (List.mem_cons.mpr (Or.inl e))) (fun h => (List.mem_append.mp h).elim (fun h => ha w (List.mem_cons.mpr (Or.inr h))) (hb w))
theorem goodIn_sub {big ws : List Cond} (hm : ∀ w ∈ ws, w ∈ big) (h : ws.all goodWord = true) : GoodIn big ws := fun w hw => ⟨hm w hw, good_of_word (List.all_eq_true.mp h w hw)⟩
/-! ===== END ===== -/

/-! ===== BEGIN exceptions that leave a method, and their catching by the caller (launches without stack traces) ===== -/
section VXA
/-! The laws vx_back, vx_callV, vx_callS, vx_callSW, vx_throw0, vx_throwS follow proofs of the library, with one case more: JvmDerived/Free/Laws.lean (Back.of_free), Shelf42/LK1.lean (callV, callS), Shelf/KitTraced.lean (throwNew0V, throwNewS). -/
/-- where a method has thrown q: the class by its name, the cell, what was written, the world -/
def vx_T (XC : String → State → State → Prop) (st : State) (q : Addr) (t : State) (mc ms : Nat) (free : Addr → Prop) : Prop :=
  ∃ (E : String) (ce : Cell) (L : List Loc), XC E st t ∧ t.heap[q]? = some ce ∧ ce.vm = .none ∧ st.vm.findClass E = some ce.cls ∧ st.WarmedH t.vm ∧ st.sameButNew ({ t with vm := st.vm } : State) L mc ms ∧ ∀ z ∈ L, free z.base
def vx_Q (Qc : Array Value → State → Outcome → State → Prop) (XC : String → State → State → Prop) (mc ms : Nat) (free : Addr → Prop) : Array Value → State → Outcome → State → Prop := fun a st o t =>
  (Qc a st o t ∧ ∃ L, FrameEnd st o t L mc ms ∧ ∀ q ∈ L, free q.base) ∨ ∃ q, o = .threw q ∧ vx_T XC st q t mc ms free
/-- a callee that returns or throws -/
def vx_Met (l : Launch) (y : MethodName) (ws : List Cond) (rm : Room) (Pc : Array Value → State → Prop) (Qc : Array Value → State → Outcome → State → Prop) (XC : String → State → State → Prop) (mc ms : Nat) (free : Addr → Prop) : Prop :=
  MetFree l y (headSpec ws rm) Pc (fun _ _ _ _ _ => True) (vx_Q Qc XC mc ms free)
def vx_Post (XC : String → State → State → Prop) (mc ms : Nat) (free : Addr → Prop) : Pt → Array Value → Addr → Pt → Prop := fun A a q B =>
  ∃ (g : JFrame) (mk : MethodId) (t : State) (L : List Loc) (E : String) (ce : Cell), B.U.heap = t.heap ∧ B.U.vm = t.vm ∧ XC E (A.U.calling g mk a) t ∧ t.heap[q]? = some ce ∧ ce.vm = .none ∧ A.U.vm.findClass E = some ce.cls ∧ B.locs = A.locs ++ L ∧ (∀ z ∈ L, free z.base) ∧ B.cells = A.cells + mc ∧ B.slots = A.slots + ms
def vx_Back (l : Launch) (R : Room) (p : Program) (e : Env) (below : List Frame) (s : State) (sargs : Array Value) (y : MethodName) (len W9 : Nat)
    (Pre : Pt → Array Value → Prop) (Post : Pt → Array Value → Option Value → Pt → Prop) (PostX : Pt → Array Value → Addr → Pt → Prop) : Prop :=
  ∀ (m : MethodId) (meth : Method) (c : Code) (A : Pt) (g : JFrame) (ig : Instr) (mk : MethodId) (a : Array Value),
    Stand p l e R s m sargs below meth c A.U A.locs A.cells A.slots → g.method = m → g.locals.size = c.maxLocals → decode c.code g.pc = .ok (ig, len) →
    2 * g.monitorRoom + (g.stack.map fun v => v.category).sum ≤ W9 → A.U.methodNamed? y = some mk → Pre A a →
    (∃ (v : Option Value) (B : Pt), Stand p l e R s m sargs below meth c B.U B.locs B.cells B.slots ∧ Post A a v B ∧
      Steps p.tables e below (doInvoke e (A.U.setTop g) [] mk a).1 (B.U.setTop { g with pc := g.pc + len, stack := v.toList ++ g.stack })) ∨
    (∃ (q : Addr) (B : Pt), Stand p l e R s m sargs below meth c B.U B.locs B.cells B.slots ∧ PostX A a q B ∧
      Steps p.tables e below (doInvoke e (A.U.setTop g) [] mk a).1 ((B.U.setTop g).pushFrame (.throwing q)))
section Payer
variable {l : Launch} {R : Room} {p : Program} {e : Env} {below : List Frame} {s : State} {sargs : Array Value} {y : MethodName} {len W9 : Nat}
theorem vx_back {ws : List Cond} {rm : Room} {Pc : Array Value → State → Prop} {Qc : Array Value → State → Outcome → State → Prop} {XC : String → State → State → Prop} {mc ms : Nat} {free : Addr → Prop} {bytes : ByteArray} {maxL : Nat} {ret : Option FieldType}
    (hM : vx_Met l y ws rm Pc Qc XC mc ms free) (hblind : FrameBlind Pc) (hrc : rm.cells = mc) (hrs : rm.slots = ms)
    (hframes : rm.frames + 1 ≤ R.frames) (hlocals : W9 + (maxL + 11) + rm.locals ≤ R.locals)
    (hws : ∀ w ∈ ws, ∀ a' U, s.WarmedH U.vm → w.before a' U = true) (hcode : Cond.code y bytes maxL ret ∈ ws) (hinit : ∀ a' U, s.WarmedH U.vm → (Cond.initialized y.cls).before a' U = true) :
    vx_Back l R p e below s sargs y len W9 (PreOf R mc ms Pc) (PostOf Qc mc ms free) (vx_Post XC mc ms free) := by
  intro m meth c A g ig mk a X hg hsize hdg hW hn hp
  have h1 : (headSpec ws rm).pre.before a A.U = true := atoms_intro fun w hw => hws w hw _ _ X.warmed
  have h2 : (Cond.code y bytes maxL ret).before a A.U = true := hws _ hcode _ _ X.warmed
  have h3 : (Cond.initialized y.cls).before a A.U = true := hinit _ _ X.warmed
  have h4 : A.cells + (headSpec ws rm).room.cells ≤ R.cells := by rw [show (headSpec ws rm).room.cells = mc from hrc]; exact hp.1
  have h5 : A.slots + (headSpec ws rm).room.slots ≤ R.slots := by rw [show (headSpec ws rm).room.slots = ms from hrs]; exact hp.2.1
  have hPc : Pc a (A.U.calling g mk a) := hblind _ _ _ _ hp.2.2
  obtain ⟨U, Ls, c0, s0⟩ := A
  dsimp only [Pt.U, Pt.locs, Pt.cells, Pt.slots] at h1 h2 h3 h4 h5 X hn hPc ⊢
  obtain ⟨methY, cY, hmY, hcY, -, hlY, -, -, -, -⟩ := Cond.code_spec hn h2
  obtain ⟨kY, hkY, -⟩ := className_of_methodNamed hn
  have hinitY : kY.init = .initialized := Cond.initialized_spec (findClass_of_methodNamed hn) hkY h3
  have h : At U g.method c below := by rw [hg]; exact X.here
  have hlocals9 : W9 + (maxL + 11) + (headSpec ws rm).room.locals ≤ R.locals := hlocals
  have happ : (headSpec ws rm).appliesLoose y e.platform (U.calling g mk a) = true :=
    Spec.appliesLoose_calling (g := g) h hdg hn hkY hinitY
      (X.room_calling (g := g) (R' := (headSpec ws rm).room) hsize hmY hcY hframes (by rw [hlY]; omega) h4 h5) h1
  obtain ⟨mid, hmid⟩ := h.above
  have hfr : (U.setTop g).frames = (.java g :: mid) ++ below := by rw [State.frames_setTop' g h.top, hmid]; rfl
  obtain ⟨o, s₂, hsteps, -, hend, hq⟩ := Steps.callFree hM p X.admits X.cas X.clock (acts := []) hfr happ hPc trivial
  have hq' : vx_Q Qc XC mc ms free a (U.calling g mk a) o s₂ := hq
  rw [State.frames_setTop' g h.top] at hend
  obtain ⟨g₀, hg0⟩ := Option.isSome_iff_exists.mp h.top
  obtain ⟨r, hr⟩ := State.topJava?_eq_some.mp hg0
  have hr' : (({ U with heap := s₂.heap, slotsUsed := s₂.slotsUsed } : State).setVm s₂.vm).frames = .java g₀ :: r := hr
  rcases hq' with ⟨hqc, L, hfe, hL⟩ | ⟨q, rfl, E, ce, L, hx, hce, hcv, hcl, hW₂, hsm, hL⟩
  · obtain ⟨⟨v, rfl⟩, hW₂, e2, q2, q3, q4, q5, q6⟩ := id hfe
    have e3 : s₂ = ({ (U.calling g mk a).setFrames s₂.frames with heap := s₂.heap, slotsUsed := s₂.slotsUsed } : State).setVm s₂.vm := by
      have : s₂ = ({ s₂ with vm := (U.calling g mk a).vm } : State).setVm s₂.vm := rfl
      rw [e2] at this
      exact this
    obtain ⟨c₂, i₂, len₂, hc₂, hd₂, hf₂⟩ := hend
    have hW' : U.WarmedH s₂.vm := hW₂
    have hcc : c₂ = c := by
      have h1 : s₂.code? g.method = U.code? g.method := by
        rw [State.code?_eq, State.code?_eq, hW'.alike.method?]
      exact Option.some.inj (hc₂.symm.trans (h1.trans h.code))
    subst hcc
    have hlen : len₂ = len := by rw [hdg] at hd₂; cases hd₂; rfl
    subst hlen
    have hs₂ : s₂ = (({ U with heap := s₂.heap, slotsUsed := s₂.slotsUsed } : State).setVm s₂.vm).setTop { g with pc := g.pc + len₂, stack := v.toList ++ g.stack } := by
      refine e3.trans ?_
      rw [hf₂, State.calling_eq h.top, State.setFrames_setFrames, State.setTop_of_frames _ hr', hr]
      rfl
    have hsame : U.sameButNew ({ U with heap := s₂.heap, slotsUsed := s₂.slotsUsed } : State) L mc ms := by
      refine ⟨?_, q2, q3, q4, q5, q6⟩
      obtain ⟨t, ht, -⟩ := State.frames_cons hr
      show ({ U with heap := s₂.heap, slotsUsed := s₂.slotsUsed } : State) = { U.setFrames U.frames with heap := s₂.heap, slotsUsed := s₂.slotsUsed }
      rw [State.setFrames_self ht]
    subst hg
    refine Or.inl ⟨v, ⟨(({ U with heap := s₂.heap, slotsUsed := s₂.slotsUsed } : State).setVm s₂.vm), Ls ++ L, c0 + mc, s0 + ms⟩,
      ⟨X.admits, X.cas, X.clock, X.frames, X.room, X.hears, X.method, X.code, (X.here.setHeapUsed s₂.heap s₂.slotsUsed).setVm hW'.alike, X.tail, State.WarmedH.trans X.warmed hW', X.limits, X.bytes, X.same.trans (hsame.setVm s.vm)⟩,
      ⟨g, mk, s₂, L, rfl, rfl, hqc, rfl, hL, rfl, rfl⟩, ?_⟩
    show Steps p.tables e below _ ((({ U with heap := s₂.heap, slotsUsed := s₂.slotsUsed } : State).setVm s₂.vm).setTop { g with pc := g.pc + len₂, stack := v.toList ++ g.stack })
    rw [← hs₂]
    exact hsteps
  · obtain ⟨e2, q2, q3, q4, q5, q6⟩ := id hsm
    have e3 : s₂ = ({ (U.calling g mk a).setFrames s₂.frames with heap := s₂.heap, slotsUsed := s₂.slotsUsed } : State).setVm s₂.vm := by
      have : s₂ = ({ s₂ with vm := (U.calling g mk a).vm } : State).setVm s₂.vm := rfl
      rw [e2] at this
      exact this
    have hf₂ : s₂.frames = .throwing q :: .java g :: U.frames.tail := hend
    have hW' : U.WarmedH s₂.vm := hW₂
    have hs₂ : s₂ = ((({ U with heap := s₂.heap, slotsUsed := s₂.slotsUsed } : State).setVm s₂.vm).setTop g).pushFrame (.throwing q) := by
      refine e3.trans ?_
      rw [hf₂, State.calling_eq h.top, State.setFrames_setFrames, State.pushFrame, State.frames_setTop _ hr', State.setTop_of_frames _ hr', State.setFrames_setFrames, hr]
      rfl
    have hsame : U.sameButNew ({ U with heap := s₂.heap, slotsUsed := s₂.slotsUsed } : State) L mc ms := by
      refine ⟨?_, q2, q3, q4, q5, q6⟩
      obtain ⟨t, ht, -⟩ := State.frames_cons hr
      show ({ U with heap := s₂.heap, slotsUsed := s₂.slotsUsed } : State) = { U.setFrames U.frames with heap := s₂.heap, slotsUsed := s₂.slotsUsed }
      rw [State.setFrames_self ht]
    subst hg
    refine Or.inr ⟨q, ⟨(({ U with heap := s₂.heap, slotsUsed := s₂.slotsUsed } : State).setVm s₂.vm), Ls ++ L, c0 + mc, s0 + ms⟩,
      ⟨X.admits, X.cas, X.clock, X.frames, X.room, X.hears, X.method, X.code, (X.here.setHeapUsed s₂.heap s₂.slotsUsed).setVm hW'.alike, X.tail, State.WarmedH.trans X.warmed hW', X.limits, X.bytes, X.same.trans (hsame.setVm s.vm)⟩,
      ⟨g, mk, s₂, L, E, ce, rfl, rfl, hx, hce, hcv, hcl, rfl, hL, rfl, rfl⟩, ?_⟩
    show Steps p.tables e below _ (((({ U with heap := s₂.heap, slotsUsed := s₂.slotsUsed } : State).setVm s₂.vm).setTop g).pushFrame (.throwing q))
    rw [← hs₂]
    exact hsteps
end Payer
section Calls
variable {p : Program} {l : Launch} {e : Env} {R : Room} {s : State} {m : MethodId} {args : Array Value} {below : List Frame} {meth : Method} {c : Code} {T : State} {locs : List Loc} {cells slots : Nat}
theorem vx_callV (X : Stand p l e R s m args below meth c T locs cells slots) (hexec : p.tables.exec = Jvm.exec) {own C : String} {index : Nat} {y : MethodName} {bytes : ByteArray} {maxL : Nat} {ret : Option FieldType}
    (hown : s.vm.findClass own = some m.cls) (hlink : (Cond.methodLink own index y).before args s = true) (hinst : (Cond.instanceMethod y).before args s = true) (hsel : (Cond.selects C y y).before args s = true)
    (hcode : (Cond.code y bytes maxL ret).before args s = true) (hy : y.cls ≠ "java/lang/invoke/MethodHandle" ∧ y.cls ≠ "java/lang/invoke/VarHandle")
    {W9 : Nat} {Pre : Pt → Array Value → Prop} {Post : Pt → Array Value → Option Value → Pt → Prop} {PostX : Pt → Array Value → Addr → Pt → Prop} (hK : vx_Back l R p e below s args y 3 W9 Pre Post PostX)
    {b : Addr} {cellB : Cell} (hcell : T.heap[b]? = some cellB) (hobj : cellB.vm.isStatics = false) (hcls : s.vm.findClass C = some cellB.cls)
    {g : JFrame} (hg : g.method = m) (hsize : g.locals.size = c.maxLocals) {argsL rest : List Value} (hlen : ∀ sig, parseMethodDescriptor y.desc = some sig → argsL.length = sig.parameters.length)
    (hstack : g.stack = argsL.reverse ++ .ref b :: rest) (hW : 2 * g.monitorRoom + (rest.map fun v => v.category).sum ≤ W9) (hdg : decode c.code g.pc = .ok (.invokevirtual index, 3))
    (hpre : ∀ vm₁, s.WarmedH vm₁ → Pre ⟨T.setVm vm₁, locs, cells, slots⟩ (Value.ref b :: argsL).toArray) :
    (∃ (v : Option Value) (vm₁ : Vm) (B : Pt), s.WarmedH vm₁ ∧ Stand p l e R s m args below meth c B.U B.locs B.cells B.slots ∧ Post ⟨T.setVm vm₁, locs, cells, slots⟩ (Value.ref b :: argsL).toArray v B ∧
      ∀ target, Steps p.tables e below (B.U.setTop { g with pc := g.pc + 3, stack := v.toList ++ rest }) target → Steps p.tables e below (T.setTop g) target) ∨
    (∃ (q : Addr) (vm₁ : Vm) (B : Pt), s.WarmedH vm₁ ∧ Stand p l e R s m args below meth c B.U B.locs B.cells B.slots ∧ PostX ⟨T.setVm vm₁, locs, cells, slots⟩ (Value.ref b :: argsL).toArray q B ∧
      Steps p.tables e below (T.setTop g) ((B.U.setTop { g with stack := rest }).pushFrame (.throwing q))) := by
  obtain ⟨mk, methM, hnamed, hmethM, hstM, habM⟩ := Cond.instanceMethod_spec hinst
  obtain ⟨methM', cM, hmethM', -, -, -, -, -, -, hsigM⟩ := Cond.code_spec hnamed hcode
  cases hmethM.symm.trans hmethM'
  obtain ⟨c2, r2, m2, q1, q2, q3, q4, kP, hkP, hkPi⟩ := Cond.selects_spec hsel
  cases hcls.symm.trans q1
  cases (State.methodFound?_of_named hnamed hy).symm.trans q2
  cases hnamed.symm.trans q3
  have hselP : selectMethod e.platform s.vm cellB.cls mk = .method mk := by rw [Launch.admits_selectMethod X.admits]; exact q4
  obtain ⟨vm₁, X₁, hstep₁⟩ := X.invokevirtual hexec hown hlink hnamed hmethM hstM hkP hkPi hy (a := b) (cell := cellB) hcell
    (fun z h => by rw [h] at hobj; cases hobj) hselP hmethM habM hkP hkPi (g := g) hg (argsL := argsL) (rest := rest) (hlen _ hsigM) hstack hdg
  rcases hK m meth c ⟨T.setVm vm₁, locs, cells, slots⟩ { g with stack := rest } (.invokevirtual index) mk (Value.ref b :: argsL).toArray X₁ hg hsize hdg hW (X₁.named hnamed) (hpre vm₁ X₁.warmed) with ⟨v, B, X', hpost, hsteps⟩ | ⟨q, B, X', hpost, hsteps⟩
  · exact Or.inl ⟨v, vm₁, B, X₁.warmed, X', hpost, fun target h => hstep₁ _ fun acts => by rw [doInvoke_state]; exact hsteps.trans h⟩
  · exact Or.inr ⟨q, vm₁, B, X₁.warmed, X', hpost, hstep₁ _ fun acts => by rw [doInvoke_state]; exact hsteps⟩
theorem vx_callS (X : Stand p l e R s m args below meth c T locs cells slots) (hexec : p.tables.exec = Jvm.exec) {own : String} {index : Nat} {y : MethodName} {bytes : ByteArray} {maxL : Nat} {ret : Option FieldType}
    (hown : s.vm.findClass own = some m.cls) (hlink : (Cond.methodLink own index y).before args s = true) (hstat : (Cond.static y).before args s = true) (hinit : (Cond.initialized y.cls).before args s = true)
    (hcode : (Cond.code y bytes maxL ret).before args s = true) (hy : y.cls ≠ "java/lang/invoke/MethodHandle" ∧ y.cls ≠ "java/lang/invoke/VarHandle")
    {W9 : Nat} {Pre : Pt → Array Value → Prop} {Post : Pt → Array Value → Option Value → Pt → Prop} {PostX : Pt → Array Value → Addr → Pt → Prop} (hK : vx_Back l R p e below s args y 3 W9 Pre Post PostX)
    {g : JFrame} (hg : g.method = m) (hsize : g.locals.size = c.maxLocals) {argsL rest : List Value} (hlen : ∀ sig, parseMethodDescriptor y.desc = some sig → argsL.length = sig.parameters.length)
    (hstack : g.stack = argsL.reverse ++ rest) (hW : 2 * g.monitorRoom + (rest.map fun v => v.category).sum ≤ W9) (hdg : decode c.code g.pc = .ok (.invokestatic index, 3))
    (hpre : ∀ vm₁, s.WarmedH vm₁ → Pre ⟨T.setVm vm₁, locs, cells, slots⟩ argsL.toArray) :
    (∃ (v : Option Value) (vm₁ : Vm) (B : Pt), s.WarmedH vm₁ ∧ Stand p l e R s m args below meth c B.U B.locs B.cells B.slots ∧ Post ⟨T.setVm vm₁, locs, cells, slots⟩ argsL.toArray v B ∧
      ∀ target, Steps p.tables e below (B.U.setTop { g with pc := g.pc + 3, stack := v.toList ++ rest }) target → Steps p.tables e below (T.setTop g) target) ∨
    (∃ (q : Addr) (vm₁ : Vm) (B : Pt), s.WarmedH vm₁ ∧ Stand p l e R s m args below meth c B.U B.locs B.cells B.slots ∧ PostX ⟨T.setVm vm₁, locs, cells, slots⟩ argsL.toArray q B ∧
      Steps p.tables e below (T.setTop g) ((B.U.setTop { g with stack := rest }).pushFrame (.throwing q))) := by
  obtain ⟨mk, hnamed⟩ := Cond.code_named hcode
  obtain ⟨methM, cM, hmethM, -, -, -, -, -, -, hsigM⟩ := Cond.code_spec hnamed hcode
  have hstatic : methM.isStatic = true := Cond.static_spec hnamed hmethM hstat
  obtain ⟨kP, hkP, -⟩ := className_of_methodNamed hnamed
  have hinitP : kP.init = .initialized := Cond.initialized_spec (findClass_of_methodNamed hnamed) hkP hinit
  obtain ⟨vm₁, X₁, hstep₁⟩ := X.invokestatic hexec hown hlink hnamed hmethM hstatic hkP hinitP hy (g := g) hg (argsL := argsL) (rest := rest) (hlen _ hsigM) hstack hdg
  rcases hK m meth c ⟨T.setVm vm₁, locs, cells, slots⟩ { g with stack := rest } (.invokestatic index) mk argsL.toArray X₁ hg hsize hdg hW (X₁.named hnamed) (hpre vm₁ X₁.warmed) with ⟨v, B, X', hpost, hsteps⟩ | ⟨q, B, X', hpost, hsteps⟩
  · exact Or.inl ⟨v, vm₁, B, X₁.warmed, X', hpost, fun target h => hstep₁ _ fun acts => by rw [doInvoke_state]; exact hsteps.trans h⟩
  · exact Or.inr ⟨q, vm₁, B, X₁.warmed, X', hpost, hstep₁ _ fun acts => by rw [doInvoke_state]; exact hsteps⟩
end Calls
theorem vx_cls {s : State} {T : State} {vm₁ : Vm} {E : String} {k : ClassId} (hW : s.WarmedH vm₁) (h : (T.setVm vm₁).vm.findClass E = some k) : s.vm.findClass E = some k := by
  have h1 : vm₁.findClass E = some k := h
  rw [hW.alike.findClass] at h1
  exact h1
/-- the method's frame g, with q thrown over it -/
def vx_W (p : Program) (l : Launch) (e : Env) (R : Room) (s : State) (m : MethodId) (args : Array Value) (below : List Frame) (meth : Method) (c : Code) (H : Heap) (locs : List Loc) (cells slots : Nat) (Q : State → Prop) (g : JFrame) (q : Addr) : Prop :=
  ∀ T : State, T.heap = H → Stand p l e R s m args below meth c T locs cells slots → ∃ t, Steps p.tables e below ((T.setTop g).pushFrame (.throwing q)) t ∧ Q t
def vx_Run (p : Program) (l : Launch) (e : Env) (R : Room) (s : State) (m : MethodId) (args : Array Value) (below : List Frame) (meth : Method) (c : Code) (H : Heap) (locs : List Loc) (cells slots mc ms : Nat) (g : JFrame) (rest : List Value) (Qa : State → Outcome → State → Prop) (XC : String → State → State → Prop) (free : Addr → Prop) : Prop :=
  ∀ T : State, T.heap = H → Stand p l e R s m args below meth c T locs cells slots →
    (∃ (v : Option Value) (st₀ t T' : State) (L : List Loc), st₀.heap = H ∧ Stand p l e R s m args below meth c T' (locs ++ L) (cells + mc) (slots + ms) ∧ (∀ q ∈ L, free q.base) ∧ T'.heap = t.heap ∧ T'.vm = t.vm ∧ Qa st₀ (.returned v) t ∧
      Goes p e below T g T' { g with pc := g.pc + 3, stack := v.toList ++ rest }) ∨
    (∃ (q : Addr) (st₀ t T' : State) (L : List Loc) (E : String) (ce : Cell), st₀.heap = H ∧ Stand p l e R s m args below meth c T' (locs ++ L) (cells + mc) (slots + ms) ∧ (∀ z ∈ L, free z.base) ∧ T'.heap = t.heap ∧ T'.vm = t.vm ∧ XC E st₀ t ∧ t.heap[q]? = some ce ∧ ce.vm = .none ∧ s.vm.findClass E = some ce.cls ∧
      Steps p.tables e below (T.setTop g) ((T'.setTop { g with stack := rest }).pushFrame (.throwing q)))
def vx_X {S : Type} (px : S → Prop) (B : String → S → State → Prop) (A : Nat → Prop) : String → State → State → Prop := fun E st t => ∃ u : S, px u ∧ B E u t ∧ va_F A st t
section Runs
variable {p : Program} {l : Launch} {e : Env} {R : Room} {s : State} {m : MethodId} {args : Array Value} {below : List Frame} {meth : Method} {c : Code} {H : Heap} {locs : List Loc} {cells slots : Nat}
variable {y : MethodName} {bytes cc : ByteArray} {maxL nL mc ms n index : Nat} {ret : Option FieldType} {ws : List Cond} {rm : Room} {Pc : Array Value → State → Prop} {Qc : Array Value → State → Outcome → State → Prop} {XC : String → State → State → Prop} {free : Addr → Prop} {Ts : List Cond} {own C : String} {b : Addr} {As rest : List Value} {g : JFrame}
theorem vx_callBack (cb : CallB R s args own index y bytes maxL ret ws rm mc ms n) (hM : vx_Met l y ws rm Pc Qc XC mc ms free) (hbl : FrameBlind Pc) : vx_Back l R p e below s args y 3 8 (PreOf R mc ms Pc) (PostOf Qc mc ms free) (vx_Post XC mc ms free) := by
  obtain ⟨hrc, hrs, hfr, hlo, hws, hcw, -, hini, -⟩ := cb
  exact vx_back (bytes := bytes) (maxL := maxL) (ret := ret) hM hbl hrc hrs hfr hlo hws hcw (fun a' U hW => word_at hW (Or.inl (by first | rfl | simp [Cond.onTables, Cond.keeps, Cond.steady])) hini)
theorem vx_runV (S : CallFix p m c cc nL s args Ts own) (hM : vx_Met l y ws rm Pc Qc XC mc ms free) (cw : CallW R s args own C index y bytes maxL ret ws rm mc ms n) (hp : PreV s H C b Pc As)
    (hg : g.method = m) (hn : As.length = n) (hsize : g.locals.size = nL) (hstack : g.stack = As.reverse ++ .ref b :: rest) (hW : 2 * g.monitorRoom + (rest.map fun v => v.category).sum ≤ 8) (hdg : decode cc g.pc = .ok (.invokevirtual index, 3)) (hf : cells + mc ≤ R.cells ∧ slots + ms ≤ R.slots) :
    vx_Run p l e R s m args below meth c H locs cells slots mc ms g rest (Qc (Value.ref b :: As).toArray) XC free := by
  have hK : vx_Back l R p e below s args y 3 8 (PreOf R mc ms Pc) (PostOf Qc mc ms free) (vx_Post XC mc ms free) := vx_callBack cw.1 hM hp.1
  obtain ⟨⟨-, -, -, -, -, -, hcode, -, hy, hlen, hl⟩, hin, hse⟩ := cw
  obtain ⟨hx, hb, hml, ho, -⟩ := S
  obtain ⟨-, ⟨cellB, hcB, hoB, hclB⟩, hPc⟩ := hp
  intro T hT X
  rcases vx_callV X hx (C := C) (bytes := bytes) (maxL := maxL) (ret := ret) ho hl hin hse hcode hy hK (by rw [hT]; exact hcB) hoB hclB hg (hsize.trans hml.symm) (argsL := As) (rest := rest) (fun sig h => hn.trans (hlen sig h)) hstack hW (by rw [hb]; exact hdg)
    (fun vm₁ hW₁ => ⟨hf.1, hf.2, hPc (T.setVm vm₁) hT hW₁⟩) with ⟨v, vm₁, ⟨U', l2, c2, s2⟩, hW₁, X', ⟨g', mk, t, L, e1, e2, hq, h1, hL, h2, h3⟩, st⟩ | ⟨q, vm₁, ⟨U', l2, c2, s2⟩, hW₁, X', ⟨g', mk, t, L, E, ce, e1, e2, hq, hce, hcv, hcl, h1, hL, h2, h3⟩, st⟩
  · dsimp only [Pt.U, Pt.locs, Pt.cells, Pt.slots] at X' e1 e2 h1 h2 h3 st
    subst h1; subst h2; subst h3
    exact Or.inl ⟨v, (T.setVm vm₁).calling g' mk (Value.ref b :: As).toArray, t, U', L, hT, X', hL, e1, e2, hq, st⟩
  · dsimp only [Pt.U, Pt.locs, Pt.cells, Pt.slots] at X' e1 e2 h1 h2 h3 st hcl
    subst h1; subst h2; subst h3
    exact Or.inr ⟨q, (T.setVm vm₁).calling g' mk (Value.ref b :: As).toArray, t, U', L, E, ce, hT, X', hL, e1, e2, hq, hce, hcv, vx_cls hW₁ hcl, st⟩
theorem vx_runS (S : CallFix p m c cc nL s args Ts own) (hM : vx_Met l y ws rm Pc Qc XC mc ms free) (cw : CallB R s args own index y bytes maxL ret ws rm mc ms n ∧ (Cond.static y).before args s = true) (hp : PreS s H Pc As)
    (hg : g.method = m) (hn : As.length = n) (hsize : g.locals.size = nL) (hstack : g.stack = As.reverse ++ rest) (hW : 2 * g.monitorRoom + (rest.map fun v => v.category).sum ≤ 8) (hdg : decode cc g.pc = .ok (.invokestatic index, 3)) (hf : cells + mc ≤ R.cells ∧ slots + ms ≤ R.slots) :
    vx_Run p l e R s m args below meth c H locs cells slots mc ms g rest (Qc As.toArray) XC free := by
  have hK : vx_Back l R p e below s args y 3 8 (PreOf R mc ms Pc) (PostOf Qc mc ms free) (vx_Post XC mc ms free) := vx_callBack cw.1 hM hp.1
  obtain ⟨⟨-, -, -, -, -, -, hcode, hini, hy, hlen, hl⟩, hstt⟩ := cw
  obtain ⟨hx, hb, hml, ho, -⟩ := S
  intro T hT X
  rcases vx_callS X hx (bytes := bytes) (maxL := maxL) (ret := ret) ho hl hstt hini hcode hy hK hg (hsize.trans hml.symm) (argsL := As) (rest := rest) (fun sig h => hn.trans (hlen sig h)) hstack hW (by rw [hb]; exact hdg)
    (fun vm₁ hW₁ => ⟨hf.1, hf.2, hp.2 (T.setVm vm₁) hT hW₁⟩) with ⟨v, vm₁, ⟨U', l2, c2, s2⟩, hW₁, X', ⟨g', mk, t, L, e1, e2, hq, h1, hL, h2, h3⟩, st⟩ | ⟨q, vm₁, ⟨U', l2, c2, s2⟩, hW₁, X', ⟨g', mk, t, L, E, ce, e1, e2, hq, hce, hcv, hcl, h1, hL, h2, h3⟩, st⟩
  · dsimp only [Pt.U, Pt.locs, Pt.cells, Pt.slots] at X' e1 e2 h1 h2 h3 st
    subst h1; subst h2; subst h3
    exact Or.inl ⟨v, (T.setVm vm₁).calling g' mk As.toArray, t, U', L, hT, X', hL, e1, e2, hq, st⟩
  · dsimp only [Pt.U, Pt.locs, Pt.cells, Pt.slots] at X' e1 e2 h1 h2 h3 st hcl
    subst h1; subst h2; subst h3
    exact Or.inr ⟨q, (T.setVm vm₁).calling g' mk As.toArray, t, U', L, E, ce, hT, X', hL, e1, e2, hq, hce, hcv, vx_cls hW₁ hcl, st⟩
end Runs
section Rows
variable {p : Program} {l : Launch} {e : Env} {R : Room} {s : State} {m : MethodId} {args : Array Value} {below : List Frame} {meth : Method} {c : Code} {H : Heap} {locs : List Loc} {cells slots : Nat} {Q : State → Prop}
variable {mc ms : Nat} {free : Addr → Prop} {A0 A1 : Nat → Prop} {H0 : Heap} {a : Array Value} {pc : Nat} {ls : Array Slot} {st0 rest : List Value}
theorem vx_keep {st₀ t T' : State} {L : List Loc} (h0 : st₀.heap = H) (e1 : T'.heap = t.heap) (hS : va_S A0 H0 H locs) (hA : ∀ q, q < H.size → A1 q → A0 q) (hf : ∀ q, free q → A0 q) (hL : ∀ q ∈ L, free q.base) (hF : va_F A1 st₀ t) :
    H.size ≤ T'.heap.size ∧ (∀ q : Nat, q < H.size → ¬ A1 q → T'.heap[q]? = H[q]?) ∧ va_S A0 H0 T'.heap (locs ++ L) := by
  obtain ⟨hz, hk⟩ := hF
  rw [h0] at hz hk
  exact ⟨by rw [e1]; exact hz, fun q h1 h2 => by rw [e1]; exact hk q h1 h2,
    ⟨Nat.le_trans hS.1 (by rw [e1]; exact hz), fun q h1 h2 => by rw [e1, hk q (Nat.lt_of_lt_of_le h1 hS.1) (fun z => h2 (hA q (Nat.lt_of_lt_of_le h1 hS.1) z))]; exact hS.2.1 q h1 h2, fun q hq => by
      rcases List.mem_append.mp hq with h | h
      · exact hS.2.2 q h
      · exact hf _ (hL q h)⟩⟩
theorem vx_calli {S SX : Type} {post : Int32 → S → Prop} {px : SX → Prop} {B : S → State → Prop} {BX : String → SX → State → Prop} {AX : Nat → Prop} (hr : vx_Run p l e R s m args below meth c H locs cells slots mc ms (F0 m pc ls st0) rest (va_Qi post B A1 a) (vx_X px BX AX) free) (hS : va_S A0 H0 H locs) (hA : ∀ q, q < H.size → A1 q → A0 q) (hf : ∀ q, free q → A0 q) (hAX : ∀ q, q < H.size → AX q → A0 q)
    (kx : ∀ (E : String) (ce : Cell) (q9 : Addr) (u : SX) (t : State) (H1 : Heap) (locs1 : List Loc), t.heap = H1 → s.vm.Alike t.vm → px u → BX E u t → H.size ≤ H1.size → (∀ q : Nat, q < H.size → ¬ AX q → H1[q]? = H[q]?) → va_S A0 H0 H1 locs1 → H1[q9]? = some ce → ce.vm = .none → s.vm.findClass E = some ce.cls → vx_W p l e R s m args below meth c H1 locs1 (cells + mc) (slots + ms) Q (F0 m pc ls rest) q9)
    (kk : ∀ (r : Int32) (u : S) (t : State) (H1 : Heap) (locs1 : List Loc), t.heap = H1 → s.vm.Alike t.vm → post r u → B u t → H.size ≤ H1.size → (∀ q : Nat, q < H.size → ¬ A1 q → H1[q]? = H[q]?) → va_S A0 H0 H1 locs1 → W p l e R s m args below meth c H1 locs1 (cells + mc) (slots + ms) Q (F0 m (pc + 3) ls (.int r :: rest))) : W p l e R s m args below meth c H locs cells slots Q (F0 m pc ls st0) := by
  intro T hT X
  rcases hr T hT X with ⟨v, st₀, t, T', L, h0, X', hL, e1, e2, ⟨⟨r, u, hv, hp, hb⟩, hF⟩, st⟩ | ⟨q, st₀, t, T', L, E, ce, h0, X', hL, e1, e2, ⟨u, hp, hb, hF⟩, hce, hcv, hcl, st⟩
  · cases hv
    obtain ⟨k1, k2, k3⟩ := vx_keep h0 e1 hS hA hf hL hF
    obtain ⟨t2, a1, b1⟩ := kk r u t T'.heap (locs ++ L) e1.symm (by rw [← e2]; exact X'.warmed.alike) hp hb k1 k2 k3 T' rfl X'
    exact ⟨t2, st t2 a1, b1⟩
  · obtain ⟨k1, k2, k3⟩ := vx_keep h0 e1 hS hAX hf hL hF
    obtain ⟨t2, a1, b1⟩ := kx E ce q u t T'.heap (locs ++ L) e1.symm (by rw [← e2]; exact X'.warmed.alike) hp hb k1 k2 k3 (by rw [e1]; exact hce) hcv hcl T' rfl X'
    exact ⟨t2, st.trans a1, b1⟩
theorem vx_calll {S SX : Type} {post : Int64 → S → Prop} {px : SX → Prop} {B : S → State → Prop} {BX : String → SX → State → Prop} {AX : Nat → Prop} (hr : vx_Run p l e R s m args below meth c H locs cells slots mc ms (F0 m pc ls st0) rest (va_Ql post B A1 a) (vx_X px BX AX) free) (hS : va_S A0 H0 H locs) (hA : ∀ q, q < H.size → A1 q → A0 q) (hf : ∀ q, free q → A0 q) (hAX : ∀ q, q < H.size → AX q → A0 q)
    (kx : ∀ (E : String) (ce : Cell) (q9 : Addr) (u : SX) (t : State) (H1 : Heap) (locs1 : List Loc), t.heap = H1 → s.vm.Alike t.vm → px u → BX E u t → H.size ≤ H1.size → (∀ q : Nat, q < H.size → ¬ AX q → H1[q]? = H[q]?) → va_S A0 H0 H1 locs1 → H1[q9]? = some ce → ce.vm = .none → s.vm.findClass E = some ce.cls → vx_W p l e R s m args below meth c H1 locs1 (cells + mc) (slots + ms) Q (F0 m pc ls rest) q9)
    (kk : ∀ (r : Int64) (u : S) (t : State) (H1 : Heap) (locs1 : List Loc), t.heap = H1 → s.vm.Alike t.vm → post r u → B u t → H.size ≤ H1.size → (∀ q : Nat, q < H.size → ¬ A1 q → H1[q]? = H[q]?) → va_S A0 H0 H1 locs1 → W p l e R s m args below meth c H1 locs1 (cells + mc) (slots + ms) Q (F0 m (pc + 3) ls (.long r :: rest))) : W p l e R s m args below meth c H locs cells slots Q (F0 m pc ls st0) := by
  intro T hT X
  rcases hr T hT X with ⟨v, st₀, t, T', L, h0, X', hL, e1, e2, ⟨⟨r, u, hv, hp, hb⟩, hF⟩, st⟩ | ⟨q, st₀, t, T', L, E, ce, h0, X', hL, e1, e2, ⟨u, hp, hb, hF⟩, hce, hcv, hcl, st⟩
  · cases hv
    obtain ⟨k1, k2, k3⟩ := vx_keep h0 e1 hS hA hf hL hF
    obtain ⟨t2, a1, b1⟩ := kk r u t T'.heap (locs ++ L) e1.symm (by rw [← e2]; exact X'.warmed.alike) hp hb k1 k2 k3 T' rfl X'
    exact ⟨t2, st t2 a1, b1⟩
  · obtain ⟨k1, k2, k3⟩ := vx_keep h0 e1 hS hAX hf hL hF
    obtain ⟨t2, a1, b1⟩ := kx E ce q u t T'.heap (locs ++ L) e1.symm (by rw [← e2]; exact X'.warmed.alike) hp hb k1 k2 k3 (by rw [e1]; exact hce) hcv hcl T' rfl X'
    exact ⟨t2, st.trans a1, b1⟩
theorem vx_callf {S SX : Type} {post : UInt32 → S → Prop} {px : SX → Prop} {B : S → State → Prop} {BX : String → SX → State → Prop} {AX : Nat → Prop} (hr : vx_Run p l e R s m args below meth c H locs cells slots mc ms (F0 m pc ls st0) rest (va_Qf post B A1 a) (vx_X px BX AX) free) (hS : va_S A0 H0 H locs) (hA : ∀ q, q < H.size → A1 q → A0 q) (hf : ∀ q, free q → A0 q) (hAX : ∀ q, q < H.size → AX q → A0 q)
    (kx : ∀ (E : String) (ce : Cell) (q9 : Addr) (u : SX) (t : State) (H1 : Heap) (locs1 : List Loc), t.heap = H1 → s.vm.Alike t.vm → px u → BX E u t → H.size ≤ H1.size → (∀ q : Nat, q < H.size → ¬ AX q → H1[q]? = H[q]?) → va_S A0 H0 H1 locs1 → H1[q9]? = some ce → ce.vm = .none → s.vm.findClass E = some ce.cls → vx_W p l e R s m args below meth c H1 locs1 (cells + mc) (slots + ms) Q (F0 m pc ls rest) q9)
    (kk : ∀ (r : UInt32) (u : S) (t : State) (H1 : Heap) (locs1 : List Loc), t.heap = H1 → s.vm.Alike t.vm → post r u → B u t → H.size ≤ H1.size → (∀ q : Nat, q < H.size → ¬ A1 q → H1[q]? = H[q]?) → va_S A0 H0 H1 locs1 → W p l e R s m args below meth c H1 locs1 (cells + mc) (slots + ms) Q (F0 m (pc + 3) ls (.float r :: rest))) : W p l e R s m args below meth c H locs cells slots Q (F0 m pc ls st0) := by
  intro T hT X
  rcases hr T hT X with ⟨v, st₀, t, T', L, h0, X', hL, e1, e2, ⟨⟨r, u, hv, hp, hb⟩, hF⟩, st⟩ | ⟨q, st₀, t, T', L, E, ce, h0, X', hL, e1, e2, ⟨u, hp, hb, hF⟩, hce, hcv, hcl, st⟩
  · cases hv
    obtain ⟨k1, k2, k3⟩ := vx_keep h0 e1 hS hA hf hL hF
    obtain ⟨t2, a1, b1⟩ := kk r u t T'.heap (locs ++ L) e1.symm (by rw [← e2]; exact X'.warmed.alike) hp hb k1 k2 k3 T' rfl X'
    exact ⟨t2, st t2 a1, b1⟩
  · obtain ⟨k1, k2, k3⟩ := vx_keep h0 e1 hS hAX hf hL hF
    obtain ⟨t2, a1, b1⟩ := kx E ce q u t T'.heap (locs ++ L) e1.symm (by rw [← e2]; exact X'.warmed.alike) hp hb k1 k2 k3 (by rw [e1]; exact hce) hcv hcl T' rfl X'
    exact ⟨t2, st.trans a1, b1⟩
theorem vx_calld {S SX : Type} {post : UInt64 → S → Prop} {px : SX → Prop} {B : S → State → Prop} {BX : String → SX → State → Prop} {AX : Nat → Prop} (hr : vx_Run p l e R s m args below meth c H locs cells slots mc ms (F0 m pc ls st0) rest (va_Qd post B A1 a) (vx_X px BX AX) free) (hS : va_S A0 H0 H locs) (hA : ∀ q, q < H.size → A1 q → A0 q) (hf : ∀ q, free q → A0 q) (hAX : ∀ q, q < H.size → AX q → A0 q)
    (kx : ∀ (E : String) (ce : Cell) (q9 : Addr) (u : SX) (t : State) (H1 : Heap) (locs1 : List Loc), t.heap = H1 → s.vm.Alike t.vm → px u → BX E u t → H.size ≤ H1.size → (∀ q : Nat, q < H.size → ¬ AX q → H1[q]? = H[q]?) → va_S A0 H0 H1 locs1 → H1[q9]? = some ce → ce.vm = .none → s.vm.findClass E = some ce.cls → vx_W p l e R s m args below meth c H1 locs1 (cells + mc) (slots + ms) Q (F0 m pc ls rest) q9)
    (kk : ∀ (r : UInt64) (u : S) (t : State) (H1 : Heap) (locs1 : List Loc), t.heap = H1 → s.vm.Alike t.vm → post r u → B u t → H.size ≤ H1.size → (∀ q : Nat, q < H.size → ¬ A1 q → H1[q]? = H[q]?) → va_S A0 H0 H1 locs1 → W p l e R s m args below meth c H1 locs1 (cells + mc) (slots + ms) Q (F0 m (pc + 3) ls (.double r :: rest))) : W p l e R s m args below meth c H locs cells slots Q (F0 m pc ls st0) := by
  intro T hT X
  rcases hr T hT X with ⟨v, st₀, t, T', L, h0, X', hL, e1, e2, ⟨⟨r, u, hv, hp, hb⟩, hF⟩, st⟩ | ⟨q, st₀, t, T', L, E, ce, h0, X', hL, e1, e2, ⟨u, hp, hb, hF⟩, hce, hcv, hcl, st⟩
  · cases hv
    obtain ⟨k1, k2, k3⟩ := vx_keep h0 e1 hS hA hf hL hF
    obtain ⟨t2, a1, b1⟩ := kk r u t T'.heap (locs ++ L) e1.symm (by rw [← e2]; exact X'.warmed.alike) hp hb k1 k2 k3 T' rfl X'
    exact ⟨t2, st t2 a1, b1⟩
  · obtain ⟨k1, k2, k3⟩ := vx_keep h0 e1 hS hAX hf hL hF
    obtain ⟨t2, a1, b1⟩ := kx E ce q u t T'.heap (locs ++ L) e1.symm (by rw [← e2]; exact X'.warmed.alike) hp hb k1 k2 k3 (by rw [e1]; exact hce) hcv hcl T' rfl X'
    exact ⟨t2, st.trans a1, b1⟩
theorem vx_callv {S SX : Type} {post : S → Prop} {px : SX → Prop} {B : S → State → Prop} {BX : String → SX → State → Prop} {AX : Nat → Prop} (hr : vx_Run p l e R s m args below meth c H locs cells slots mc ms (F0 m pc ls st0) rest (va_Qv post B A1 a) (vx_X px BX AX) free) (hS : va_S A0 H0 H locs) (hA : ∀ q, q < H.size → A1 q → A0 q) (hf : ∀ q, free q → A0 q) (hAX : ∀ q, q < H.size → AX q → A0 q)
    (kx : ∀ (E : String) (ce : Cell) (q9 : Addr) (u : SX) (t : State) (H1 : Heap) (locs1 : List Loc), t.heap = H1 → s.vm.Alike t.vm → px u → BX E u t → H.size ≤ H1.size → (∀ q : Nat, q < H.size → ¬ AX q → H1[q]? = H[q]?) → va_S A0 H0 H1 locs1 → H1[q9]? = some ce → ce.vm = .none → s.vm.findClass E = some ce.cls → vx_W p l e R s m args below meth c H1 locs1 (cells + mc) (slots + ms) Q (F0 m pc ls rest) q9)
    (kk : ∀ (u : S) (t : State) (H1 : Heap) (locs1 : List Loc), t.heap = H1 → s.vm.Alike t.vm → post u → B u t → H.size ≤ H1.size → (∀ q : Nat, q < H.size → ¬ A1 q → H1[q]? = H[q]?) → va_S A0 H0 H1 locs1 → W p l e R s m args below meth c H1 locs1 (cells + mc) (slots + ms) Q (F0 m (pc + 3) ls (rest))) : W p l e R s m args below meth c H locs cells slots Q (F0 m pc ls st0) := by
  intro T hT X
  rcases hr T hT X with ⟨v, st₀, t, T', L, h0, X', hL, e1, e2, ⟨⟨u, hv, hp, hb⟩, hF⟩, st⟩ | ⟨q, st₀, t, T', L, E, ce, h0, X', hL, e1, e2, ⟨u, hp, hb, hF⟩, hce, hcv, hcl, st⟩
  · cases hv
    obtain ⟨k1, k2, k3⟩ := vx_keep h0 e1 hS hA hf hL hF
    obtain ⟨t2, a1, b1⟩ := kk u t T'.heap (locs ++ L) e1.symm (by rw [← e2]; exact X'.warmed.alike) hp hb k1 k2 k3 T' rfl X'
    exact ⟨t2, st t2 a1, b1⟩
  · obtain ⟨k1, k2, k3⟩ := vx_keep h0 e1 hS hAX hf hL hF
    obtain ⟨t2, a1, b1⟩ := kx E ce q u t T'.heap (locs ++ L) e1.symm (by rw [← e2]; exact X'.warmed.alike) hp hb k1 k2 k3 (by rw [e1]; exact hce) hcv hcl T' rfl X'
    exact ⟨t2, st.trans a1, b1⟩
/-- caught by the row x of this method's table; the rows ahead don't take it -/
theorem vx_catch {own name : String} {E : String} {ce : Cell} {q : Addr} (hown : s.vm.findClass own = some m.cls) (pre : List ExceptionTableEntry) (x : ExceptionTableEntry) (suf : List ExceptionTableEntry) (hsplit : c.exceptionTable.toList = pre ++ x :: suf)
    (hpass : ∀ z ∈ pre, covers z pc = false ∨ (z.catchType ≠ 0 ∧ ∃ nm : String, (Cond.classLink own z.catchType nm).before args s = true ∧ va_Nc E nm s)) (hx : covers x pc = true) (h0 : x.catchType ≠ 0)
    (hlink : (Cond.classLink own x.catchType name).before args s = true) (hcast : (Cond.castable E name).before args s = true) (hcell : H[q]? = some ce) (hv : ce.vm = .none) (hcl : s.vm.findClass E = some ce.cls)
    (kk : W p l e R s m args below meth c H locs cells slots Q (F0 m x.handlerPc ls [.ref q])) : vx_W p l e R s m args below meth c H locs cells slots Q (F0 m pc ls rest) q := by
  intro T hT X
  have hpl : e.platform.magicAccessors = ({} : Platform).magicAccessors := by rw [X.admits.platform]
  obtain ⟨c3, c4, hc3, hc4, hasg⟩ := Cond.castable_spec hcast
  cases Option.some.inj (hc3.symm.trans hcl)
  obtain ⟨c5, hc5, hcl5⟩ := Cond.classLink_spec hown hlink e.platform hpl
  cases Option.some.inj (hc4.symm.trans hc5)
  obtain ⟨vm', X', st⟩ := X.thenCaughtThrough q (g := F0 m pc ls rest) rfl (Steps.refl _) (by rw [hT]; exact hcell) (by rw [hv]; rfl) (by obtain ⟨k9, h9, -⟩ := Vm.findClass_spec hcl; exact ⟨k9, h9⟩) pre x suf hsplit
    (fun z hz => by
      rcases hpass z hz with h | ⟨hz0, nm, hl1, hn1⟩
      · exact Or.inl h
      · obtain ⟨c6, hc6, hcl6⟩ := Cond.classLink_spec hown hl1 e.platform hpl
        obtain ⟨a8, b8, h1, h2, h3⟩ := hn1
        cases Option.some.inj (h1.symm.trans hcl)
        cases Option.some.inj (h2.symm.trans hc6)
        exact Or.inr ⟨hz0, _, hcl6, h3⟩) hx (Or.inr ⟨h0, c4, hcl5, hasg⟩)
  obtain ⟨t, a1, b1⟩ := kk (T.setVm vm') hT X'
  exact ⟨t, st.trans a1, b1⟩
end Rows
section Ends
variable {p : Program} {l : Launch} {e : Env} {R : Room} {s : State} {m : MethodId} {args : Array Value} {below : List Frame} {meth : Method} {c : Code} {H : Heap} {locs : List Loc} {cells slots : Nat} {Q : State → Prop}
variable {mc ms : Nat} {free : Addr → Prop} {A0 A1 : Nat → Prop} {H0 : Heap} {a : Array Value} {ls : Array Slot} {st0 rest : List Value}
variable {Qc : Array Value → State → Outcome → State → Prop} {XC : String → State → State → Prop}
/-- what a body that may throw owes at its end -/
def vx_MQ (below : List Frame) (Qc : Array Value → State → Outcome → State → Prop) (XC : String → State → State → Prop) (a : Array Value) (s : State) (mc ms : Nat) (free : Addr → Prop) : State → Prop := fun t =>
  ∃ o, t.status = .running ∧ Ended t below o ∧ vx_Q Qc XC mc ms free a s o t
theorem vx_ret {g : JFrame} {mc ms : Nat} (k : W p l e R s m args below meth c H locs cells slots (MQ below Qc args s mc ms free) g) : W p l e R s m args below meth c H locs cells slots (vx_MQ below Qc XC args s mc ms free) g := by
  intro T hT X
  obtain ⟨t, a1, o, b1, b2, b3, b4⟩ := k T hT X
  exact ⟨t, a1, o, b1, b2, Or.inl ⟨b3, b4⟩⟩
/-- not caught here: it goes on to the caller -/
theorem vx_widen {g : JFrame} {q : Addr} {k n : Nat} (h1 : cells ≤ k) (h2 : slots ≤ n) (kk : vx_W p l e R s m args below meth c H locs k n Q g q) : vx_W p l e R s m args below meth c H locs cells slots Q g q := fun T hT X => kk T hT (stand_widen X h1 h2)
theorem vx_out {pc : Nat} {E : String} {ce : Cell} {q : Addr} {mc ms : Nat} (hout : ∀ x ∈ c.exceptionTable.toList, covers x pc = false) (hlocks : meth.locks = false) (hcell : H[q]? = some ce) (hv : ce.vm = .none) (hcl : s.vm.findClass E = some ce.cls)
    (hx : ∀ t : State, t.heap = H → s.vm.Alike t.vm → XC E s t) (hf : ∀ z ∈ locs, free z.base) (hc : cells ≤ mc) (hs : slots ≤ ms) :
    vx_W p l e R s m args below meth c H locs cells slots (vx_MQ below Qc XC args s mc ms free) (F0 m pc ls rest) q := by
  intro T hT X
  obtain ⟨st1, hrun, hend, hW, hsm⟩ := X.leaveThrown q (g := F0 m pc ls rest) rfl rfl rfl hout hlocks
  have hcell9 : (T.setFrames (.throwing q :: below)).heap[q]? = some ce := by
    show T.heap[q]? = some ce
    rw [hT]; exact hcell
  exact ⟨_, st1, .threw q, hrun, hend, Or.inr ⟨q, rfl, E, ce, locs, hx _ hT hW.alike, hcell9, hv, hcl, hW, hsm.mono hc hs, hf⟩⟩
theorem vx_frame {U : State} {k n : Nat} (h : s.sameButNew ({ U with vm := s.vm } : State) locs k n) : s.heap.size ≤ U.heap.size ∧ ∀ q : Nat, q < s.heap.size → (∀ z ∈ locs, z.base ≠ q) → U.heap[q]? = s.heap[q]? := by
  obtain ⟨-, h2, -, -, -, h6⟩ := h
  refine ⟨h2, fun q hq hz => ?_⟩
  obtain ⟨c9, e1, e2, e3, e4⟩ := h6 q _ (Array.getElem?_eq_getElem hq)
  have hs : c9.slots = (s.heap[q]).slots := Array.ext_getElem? fun i => e4 i fun hm => hz _ hm rfl
  have h9 : c9 = s.heap[q] := by
    rw [hs] at e2
    exact e2
  have e5 : U.heap[q]? = some c9 := e1
  rw [e5, h9, Array.getElem?_eq_getElem hq]
/-- the words of a throw but the four that speak of the heap -/
def vx_no (w : Cond) : Bool := decide (w ≠ .isRef (.static Bundle.tN "UNASSIGNED_STACK" Bundle.steD)) && decide (w ≠ .isRef (.static Bundle.tN "SUPPRESSED_SENTINEL" Bundle.listD)) && decide (w ≠ .laysStatic Bundle.tN "UNASSIGNED_STACK" Bundle.steD) && decide (w ≠ .laysStatic Bundle.tN "SUPPRESSED_SENTINEL" Bundle.listD)
def vx_at0 (own : String) (ic : Nat) (X : String) (names : List String) : List Cond := (Bundle.ownAtoms0 own ic X names).filter vx_no
def vx_atS (own : String) (ic : Nat) (X : String) (names : List String) : List Cond := (Bundle.ownAtoms own ic X names).filter vx_no
/-- a word that the tables alone decide, or a good one -/
def vx_ot (w : Cond) : Bool := w.onTables || goodWord w
theorem vx_ot_at {args a' : Array Value} {s U : State} {w : Cond} (hW : s.WarmedH U.vm) (hvm : s.vm = U.vm) (hg : vx_ot w = true) (h : w.before args s = true) : w.before a' U = true := by
  simp only [vx_ot, Bool.or_eq_true] at hg
  rcases hg with hg | hg
  · exact va_tabs hg hvm h
  · exact word_at hW (good_of_word hg) h
/-- a list's words: the good ones out of the method's own list, the others by premises of their own -/
theorem vx_hat {args : Array Value} {s : State} {L B : List Cond} (h1 : ∀ w ∈ L.filter goodWord, w.before args s = true) (h2 : ∀ w ∈ L.filter (fun w => !goodWord w), w ∈ B) (h3 : ∀ w ∈ B, w.before args s = true) : ∀ w ∈ L, w.before args s = true := by
  intro w hw
  by_cases g : goodWord w = true
  · exact h1 w (List.mem_filter.mpr ⟨hw, g⟩)
  · refine h3 w (h2 w (List.mem_filter.mpr ⟨hw, ?_⟩))
    show (!goodWord w) = true
    cases hgw : goodWord w
    · rfl
    · exact absurd hgw g
theorem vx_c {args : Array Value} {s : State} {w : Cond} {B : List Cond} (h : w.before args s = true) (t : ∀ w ∈ B, w.before args s = true) : ∀ w' ∈ w :: B, w'.before args s = true := fun w' h' => (List.mem_cons.mp h').elim (fun e => by rw [e]; exact h) (t w')
theorem vx_n {args : Array Value} {s : State} : ∀ w ∈ ([] : List Cond), w.before args s = true := fun _ h => nomatch h
theorem vx_own {args : Array Value} {s : State} {L : List Cond} (h1 : ∀ w ∈ L.filter vx_no, w.before args s = true)
    (hU : (Cond.isRef (.static Bundle.tN "UNASSIGNED_STACK" Bundle.steD)).before args s = true) (hN : (Cond.isRef (.static Bundle.tN "SUPPRESSED_SENTINEL" Bundle.listD)).before args s = true)
    (lU : (Cond.laysStatic Bundle.tN "UNASSIGNED_STACK" Bundle.steD).before args s = true) (lN : (Cond.laysStatic Bundle.tN "SUPPRESSED_SENTINEL" Bundle.listD).before args s = true) : ∀ w ∈ L, w.before args s = true := by
  intro w hw
  by_cases e1 : w = .isRef (.static Bundle.tN "UNASSIGNED_STACK" Bundle.steD)
  · rw [e1]; exact hU
  · by_cases e2 : w = .isRef (.static Bundle.tN "SUPPRESSED_SENTINEL" Bundle.listD)
    · rw [e2]; exact hN
    · by_cases e3 : w = .laysStatic Bundle.tN "UNASSIGNED_STACK" Bundle.steD
      · rw [e3]; exact lU
      · by_cases e4 : w = .laysStatic Bundle.tN "SUPPRESSED_SENTINEL" Bundle.listD
        · rw [e4]; exact lN
        · exact h1 w (List.mem_filter.mpr ⟨hw, by unfold vx_no; rw [decide_eq_true e1, decide_eq_true e2, decide_eq_true e3, decide_eq_true e4]; rfl⟩)
/-- where a static field lies, its class's statics cell in H -/
def vx_L (C n d : String) (A : Nat → Prop) (U : State) (H : Heap) : Prop := ∃ (c : ClassId) (k : Class) (i : Nat) (f : Field) (a : Nat) (cell : Cell), U.vm.findClass C = some c ∧ U.fieldFound? C n d = some (c, k, i, f) ∧ f.isStatic = true ∧ k.statics = some a ∧ H[a]? = some cell ∧ cell.vm.isStatics = true ∧ cell.cls = c ∧ f.slot < cell.slots.size ∧ k.staticTypes[f.slot]? = some f.type ∧ ¬ A a
theorem vx_L.moved {C n d : String} {A : Nat → Prop} {u U : State} {H : Heap} (hvm : u.vm.Alike U.vm) (h : vx_L C n d A u H) : vx_L C n d A U H := by
  obtain ⟨c, k, i, f, a, cell, h1, h2, h3, h4, h5, h6, h7, h8, h9, h10⟩ := h
  obtain ⟨k', hi', he⟩ := State.fieldFound?_setVm hvm h2
  exact ⟨c, k', i, f, a, cell, by rw [hvm.findClass]; exact h1, hi', h3, by rw [he]; exact h4, h5, h6, h7, h8, by rw [he]; exact h9, h10⟩
theorem vx_L.kept {C n d : String} {A : Nat → Prop} {U : State} {H H1 : Heap} (h : vx_L C n d A U H) (hq : ∀ a : Nat, a < H.size → ¬ A a → H1[a]? = H[a]?) : vx_L C n d A U H1 := by
  obtain ⟨c, k, i, f, a, cell, h1, h2, h3, h4, h5, h6, h7, h8, h9, h10⟩ := h
  exact ⟨c, k, i, f, a, cell, h1, h2, h3, h4, by rw [hq a (Array.getElem?_eq_some_iff.mp h5).1 h10]; exact h5, h6, h7, h8, h9, h10⟩
theorem vx_L.narrow {C n d : String} {A B : Nat → Prop} {U : State} {H : Heap} (h : vx_L C n d A U H) (hAB : ∀ q, B q → A q) : vx_L C n d B U H := by
  obtain ⟨c, k, i, f, a, cell, h1, h2, h3, h4, h5, h6, h7, h8, h9, h10⟩ := h
  exact ⟨c, k, i, f, a, cell, h1, h2, h3, h4, h5, h6, h7, h8, h9, fun z => h10 (hAB _ z)⟩
theorem vx_L.word {C n d : String} {A : Nat → Prop} {s : State} {args : Array Value} (h : vx_L C n d A s s.heap) : (Cond.laysStatic C n d).before args s = true := by
  obtain ⟨c, k, i, f, a, cell, h1, h2, h3, h4, h5, h6, h7, h8, h9, -⟩ := h
  show (Cond.laysStatic C n d).holds args s none s [] = true
  exact Cond.laysStatic_of h1 h2 h3 h4 h5 h6 h7 h8 h9
/-- .. and what it holds: null or some reference -/
def vx_Zq (C n d : String) (A : Nat → Prop) (U : State) (H : Heap) : Prop := va_Zq C n d A U H ∧ vx_L C n d A U H
theorem vx_Zq.moved {C n d : String} {A : Nat → Prop} {u U : State} {H : Heap} (hvm : u.vm.Alike U.vm) (h : vx_Zq C n d A u H) : vx_Zq C n d A U H := ⟨va_Zq.moved hvm h.1, vx_L.moved hvm h.2⟩
theorem vx_Zq.kept {C n d : String} {A : Nat → Prop} {U : State} {H H1 : Heap} (h : vx_Zq C n d A U H) (hq : ∀ a : Nat, a < H.size → ¬ A a → H1[a]? = H[a]?) : vx_Zq C n d A U H1 := ⟨va_Zq.kept h.1 hq, vx_L.kept h.2 hq⟩
theorem vx_Zq.narrow {C n d : String} {A B : Nat → Prop} {U : State} {H : Heap} (h : vx_Zq C n d A U H) (hAB : ∀ q, B q → A q) : vx_Zq C n d B U H := ⟨va_Zq.narrow h.1 hAB, vx_L.narrow h.2 hAB⟩
theorem vx_Zqof {args : Array Value} {s : State} {C n d : String} {A : Nat → Prop} (hl : (Cond.laysStatic C n d).before args s = true) (hini : (Cond.initialized C).before args s = true) (h : (Cond.isRef (.static C n d)).before args s = true) (hA : ∀ a : Nat, a < s.heap.size → ¬ A a) : vx_Zq C n d A s s.heap := by
  refine ⟨va_Zqof hl hini h hA, ?_⟩
  obtain ⟨c, k, i, f, a, cell, h1, h2, h3, h4, h5, h6, h7, h8, h9⟩ := Cond.laysStatic_spec hl
  exact ⟨c, k, i, f, a, cell, h1, h2, h3, h4, h5, h6, h7, h8, h9, hA a (Array.getElem?_eq_some_iff.mp h5).1⟩
theorem vx_isRef {C n d : String} {v : Value} {A : Nat → Prop} {s : State} {args : Array Value} (h : va_Z C n d v A s s.heap) (hv : v.isRef = true) : (Cond.isRef (.static C n d)).before args s = true := by
  obtain ⟨cf, kf, fi, f, a, cell, h1, h2, h3, h4, h5, h6, h7, -⟩ := h
  have he : (Term.static C n d).eval args s none [] s = some v := by
    simp [Term.eval, State.fieldNamed?, h1, h2, h4, h5, h6, h7]
  simp only [Cond.before, Cond.holds, Cond.value, he]
  cases v <;> simp_all [Value.isRef]
theorem vx_isRefq {C n d : String} {A : Nat → Prop} {s : State} {args : Array Value} (h : va_Zq C n d A s s.heap) : (Cond.isRef (.static C n d)).before args s = true := by
  rcases h with h | ⟨t, h⟩
  · exact vx_isRef h rfl
  · exact vx_isRef h rfl
/-- the same frame, seen from here: as if the method were called anew in this heap -/
theorem vx_rebase {T : State} (X : Stand p l e R s m args below meth c T locs cells slots) {R' : Room} (hf : R'.frames ≤ R.frames) (hl : R'.locals ≤ R.locals) (hc : cells + R'.cells ≤ R.cells) (hs : slots + R'.slots ≤ R.slots) :
    Stand p l e R' ((T.setVm s.vm).setFrames (.invoking m args :: below)) m args below meth c T [] 0 0 := by
  have htop : (T.setVm s.vm).topJava?.isSome := X.here.top
  have hF : ((T.setVm s.vm).setFrames (.invoking m args :: below)).frames = .invoking m args :: below := State.frames_setFrames _ (State.cur_lt_of_top htop)
  obtain ⟨g₀, hg0⟩ := Option.isSome_iff_exists.mp htop
  obtain ⟨r, hr⟩ := State.topJava?_eq_some.mp hg0
  have hl9 : e.platform.stackLimits (T.setVm s.vm).me = e.platform.stackLimits s.me := X.limits
  have hb9 : (T.setVm s.vm).me.stackBytes = s.me.stackBytes := X.bytes
  refine ⟨X.admits, X.cas, X.clock, hF, ?_, X.hears, X.method, X.code, X.here, X.tail, X.warmed, ?_, ?_, ?_⟩
  · have h := X.room
    have hU : ((T.setVm s.vm).setFrames (.invoking m args :: below)).localsInUse = s.localsInUse := by
      rw [State.localsInUse_invoking hF (meth := meth) (c := c) X.method X.code, State.localsInUse_invoking X.frames X.method X.code]
    simp only [State.hasRoom, Bool.and_eq_true, decide_eq_true_eq] at h ⊢
    obtain ⟨⟨⟨⟨h1, h2, h3, h4, h5, h6⟩, h7⟩, h8⟩, h9⟩ := h
    rw [X.frames, List.length_cons] at h2 h3
    have q1 := X.heapSize
    have q2 := X.used
    simp only [hF, hU, List.length_cons, State.stackLimits_setFrames, State.stackBytes_setFrames, hl9, hb9]
    refine ⟨⟨⟨⟨by omega, by omega, by omega, by omega, by omega, h6⟩, ?_⟩, ?_⟩, X.book⟩
    · show T.heap.size + R'.cells ≤ e.platform.maxCells
      omega
    · show T.slotsUsed + R'.slots ≤ e.platform.maxSlots
      omega
  · rw [State.stackLimits_setFrames]; rfl
  · rw [State.stackBytes_setFrames]; rfl
  · refine ⟨?_, Nat.le_refl _, Nat.le_refl _, ?_, ?_, fun a c9 h9 => ⟨c9, h9, rfl, rfl, fun _ _ => rfl⟩⟩
    · obtain ⟨t, ht, -⟩ := State.frames_cons hr
      show T.setVm s.vm = { ((T.setVm s.vm).setFrames (.invoking m args :: below)).setFrames (T.setVm s.vm).frames with heap := T.heap, slotsUsed := T.slotsUsed }
      rw [State.setFrames_setFrames, State.setFrames_self ht]
      rfl
    · show T.slotsUsed = T.slotsUsed + ((T.heap.toList.drop T.heap.size).map (·.slots.size)).sum
      rw [List.drop_eq_nil_of_le (Nat.le_of_eq Array.length_toList)]
      rfl
    · show ((T.heap.toList.drop T.heap.size).map (·.slots.size)).sum ≤ 0
      rw [List.drop_eq_nil_of_le (Nat.le_of_eq Array.length_toList)]
      exact Nat.le_refl _
/-- 'throw new E()': new; dup; invokespecial; athrow -/
theorem vx_throw0 {cc : ByteArray} {pc : Nat} (hexec : p.tables.exec = Jvm.exec) (hb : c.code = cc) (hl : l.stackTraces = false) {own cls : String} {names : List String} {ik ic mc ms : Nat} {A : Nat → Prop}
    (hown : s.vm.findClass own = some m.cls) (hcls : Bundle.fit cls = true) (hnames : ∀ n ∈ names, Bundle.fit n = true)
    (hk : (Cond.classLink own ik cls).before args s = true) (hini : (Cond.initialized cls).before args s = true) (hat : ∀ w ∈ vx_at0 own ic cls names, w.before args s = true)
    (hgood : ∀ w ∈ Cond.classLink own ik cls :: Cond.initialized cls :: vx_at0 own ic cls names, vx_ot w = true)
    (hU : vx_Zq Bundle.tN "UNASSIGNED_STACK" Bundle.steD A s s.heap) (hN : vx_Zq Bundle.tN "SUPPRESSED_SENTINEL" Bundle.listD A s s.heap) (hS : va_S A s.heap H locs) (hsize : ls.size = c.maxLocals)
    (d0 : decode cc pc = .ok (.new ik, 3)) (d3 : decode cc (pc + 3) = .ok (.dup, 1)) (d4 : decode cc (pc + 4) = .ok (.invokespecial ic, 3)) (d7 : decode cc (pc + 7) = .ok (.athrow, 1))
    (hout : ∀ x ∈ c.exceptionTable.toList, covers x (pc + 7) = false)
    (hRframes : names.length + 3 < R.frames) (hRlocals : (rest.map fun v => v.category).sum + (13 * (names.length + 1) + 42) ≤ R.locals) (hRcells : cells + 1 ≤ R.cells) (hRslots : slots + 6 ≤ R.slots) (hlocks : meth.locks = false)
    (hx : ∀ t : State, s.vm.Alike t.vm → H.size ≤ t.heap.size → (∀ q : Nat, q < H.size → t.heap[q]? = H[q]?) → XC cls s t)
    (hf : ∀ z ∈ locs, free z.base) (hc : cells + 1 ≤ mc) (hs : slots + 6 ≤ ms) :
    W p l e R s m args below meth c H locs cells slots (vx_MQ below Qc XC args s mc ms free) (F0 m pc ls rest) := by
  intro T hT X
  have htr : e.platform.stackTraces = false := (show e.platform.stackTraces = l.stackTraces by rw [X.admits.platform]).trans hl
  have Y := vx_rebase X (R' := { frames := R.frames, locals := R.locals, cells := 1, slots := 6 }) (Nat.le_refl _) (Nat.le_refl _) hRcells hRslots
  obtain ⟨s', hA⟩ : ∃ z, z = (T.setVm s.vm).setFrames (.invoking m args :: below) := ⟨_, rfl⟩
  rw [← hA] at Y
  have hvm : s'.vm = s.vm := by rw [hA]; rfl
  have hhp : s'.heap = H := by rw [hA]; exact hT
  have hW0 : s.WarmedH s'.vm := by rw [hvm]; exact State.WarmedH.refl s
  have hat' : ∀ w ∈ vx_at0 own ic cls names, w.before args s' = true := fun w hw => vx_ot_at hW0 hvm.symm (hgood w (List.mem_cons_of_mem _ (List.mem_cons_of_mem _ hw))) (hat w hw)
  have hk' : (Cond.classLink own ik cls).before args s' = true := vx_ot_at hW0 hvm.symm (hgood _ List.mem_cons_self) hk
  have hini' : (Cond.initialized cls).before args s' = true := vx_ot_at hW0 hvm.symm (hgood _ (List.mem_cons_of_mem _ List.mem_cons_self)) hini
  have hU' : vx_Zq Bundle.tN "UNASSIGNED_STACK" Bundle.steD A s' s'.heap := by rw [hhp]; exact vx_Zq.moved hW0.alike (hU.kept hS.2.1)
  have hN' : vx_Zq Bundle.tN "SUPPRESSED_SENTINEL" Bundle.listD A s' s'.heap := by rw [hhp]; exact vx_Zq.moved hW0.alike (hN.kept hS.2.1)
  have h : ∀ w ∈ Bundle.ownAtoms0 own ic cls names, w.before args s' = true := vx_own hat' (vx_isRefq hU'.1) (vx_isRefq hN'.1) hU'.2.word hN'.2.word
  have hown' : s'.vm.findClass own = some m.cls := by rw [hvm]; exact hown
  have hins : (Cond.instantiable cls 6).before args s' = true := h _ (by simp [Bundle.ownAtoms0])
  obtain ⟨vm₁, cX, kX, hfX, hkX, -, -, X₁, st1⟩ := Y.newCold hexec (own := own) (C := cls) (index := ik) (n := 6) hown' hk' hins hini'
    (g := F0 m pc ls rest) rfl (by rw [hb]; exact d0) (Nat.le_refl _) (Nat.le_refl _)
  generalize hT1 : (T.setVm vm₁).pushCell { cls := cX, slots := kX.instanceTypes.map defaultValue, vm := .none } = T1 at X₁ st1
  have hcat : (Value.ref T.heap.size).category = 1 := rfl
  have hcellA : T1.heap[T.heap.size]? = some (freshCell cX kX) := by rw [← hT1]; exact State.heap_pushCell_size _ _
  have d3' : decode c.code (pc + 3) = .ok (.dup, 1) := by rw [hb]; exact d3
  obtain ⟨U, hsteps, hrun, hend, hW, hsame, ce, hce, hO⟩ := X₁.ctorThrow0 hexec htr (own := own) (cls := cls) (names := names) (ic := ic) hown' hcls hnames h (fun x hx => nomatch hx) hfX hkX hcellA (by rw [hhp, hT]; exact Nat.le_refl _)
    (g := { method := m, pc := pc + 4, locals := ls, stack := .ref T.heap.size :: .ref T.heap.size :: rest, locked := none }) rfl hsize rfl rfl (rest := rest) rfl
    (by rw [hb]; exact d4) (by rw [hb]; exact d7) hout hRframes (by simp only [List.map_cons, List.sum_cons, hcat]; omega) hlocks
  obtain ⟨f1, f2⟩ := vx_frame hsame
  rw [hhp] at f1 f2
  have hWs : s.WarmedH U.vm := State.WarmedH.trans hW0 hW
  have hcl : s.vm.findClass cls = some ce.cls := by
    have h9 := hO.cls
    rw [hvm] at h9
    exact h9
  have hall : s.sameButNew ({ U with vm := s.vm } : State) locs mc ms := by
    subst hA
    obtain ⟨e1, e2⟩ := hsame
    rw [State.setFrames_setFrames] at e1
    have h2 : (T.setVm s.vm).sameButNew ({ U with vm := s.vm } : State) [] (0 + 1) (0 + 6) := ⟨e1, e2⟩
    have h3 := X.same.trans h2
    rw [List.append_nil] at h3
    exact h3.mono hc hs
  refine ⟨U, ?_, .threw T.heap.size, hrun, hend, Or.inr ⟨T.heap.size, rfl, cls, ce, locs, hx U hWs.alike f1 (fun q hq => f2 q hq (fun z hz => nomatch hz)), hce, hO.vm, hcl, hWs, hall, hf⟩⟩
  refine st1 _ ?_
  show Steps p.tables e below (T1.setTop { method := m, pc := pc + 3, locals := ls, stack := .ref T.heap.size :: rest, locked := none }) _
  jvm_step X₁.here [X₁.here.top, hexec, d3', Value.category]
  exact hsteps
/-- 'throw new E("text")': new; dup; ldc; invokespecial; athrow -/
theorem vx_throwS {cc : ByteArray} {pc : Nat} (hexec : p.tables.exec = Jvm.exec) (hb : c.code = cc) (hl : l.stackTraces = false) {own cls text : String} {names : List String} {ik is ic mc ms sa : Nat} {A : Nat → Prop}
    (hown : s.vm.findClass own = some m.cls) (hcls : Bundle.fit cls = true) (hnames : ∀ n ∈ names, Bundle.fit n = true)
    (hk : (Cond.classLink own ik cls).before args s = true) (hini : (Cond.initialized cls).before args s = true) (hstr : vk_R own is text sa s) (hat : ∀ w ∈ vx_atS own ic cls names, w.before args s = true)
    (hgood : ∀ w ∈ Cond.classLink own ik cls :: Cond.initialized cls :: vx_atS own ic cls names, vx_ot w = true)
    (hU : vx_Zq Bundle.tN "UNASSIGNED_STACK" Bundle.steD A s s.heap) (hN : vx_Zq Bundle.tN "SUPPRESSED_SENTINEL" Bundle.listD A s s.heap) (hS : va_S A s.heap H locs) (hsize : ls.size = c.maxLocals)
    (d0 : decode cc pc = .ok (.new ik, 3)) (d3 : decode cc (pc + 3) = .ok (.dup, 1)) (d4 : decode cc (pc + 4) = .ok (.ldc is, 2)) (d6 : decode cc (pc + 6) = .ok (.invokespecial ic, 3)) (d9 : decode cc (pc + 9) = .ok (.athrow, 1))
    (hout : ∀ x ∈ c.exceptionTable.toList, covers x (pc + 9) = false)
    (hRframes : names.length + 3 < R.frames) (hRlocals : (rest.map fun v => v.category).sum + (13 * (names.length + 1) + 43) ≤ R.locals) (hRcells : cells + 1 ≤ R.cells) (hRslots : slots + 6 ≤ R.slots) (hlocks : meth.locks = false)
    (hx : ∀ t : State, s.vm.Alike t.vm → H.size ≤ t.heap.size → (∀ q : Nat, q < H.size → t.heap[q]? = H[q]?) → XC cls s t)
    (hf : ∀ z ∈ locs, free z.base) (hc : cells + 1 ≤ mc) (hs : slots + 6 ≤ ms) :
    W p l e R s m args below meth c H locs cells slots (vx_MQ below Qc XC args s mc ms free) (F0 m pc ls rest) := by
  intro T hT X
  have htr : e.platform.stackTraces = false := (show e.platform.stackTraces = l.stackTraces by rw [X.admits.platform]).trans hl
  have Y := vx_rebase X (R' := { frames := R.frames, locals := R.locals, cells := 1, slots := 6 }) (Nat.le_refl _) (Nat.le_refl _) hRcells hRslots
  obtain ⟨s', hA⟩ : ∃ z, z = (T.setVm s.vm).setFrames (.invoking m args :: below) := ⟨_, rfl⟩
  rw [← hA] at Y
  have hvm : s'.vm = s.vm := by rw [hA]; rfl
  have hhp : s'.heap = H := by rw [hA]; exact hT
  have hW0 : s.WarmedH s'.vm := by rw [hvm]; exact State.WarmedH.refl s
  have hat' : ∀ w ∈ vx_atS own ic cls names, w.before args s' = true := fun w hw => vx_ot_at hW0 hvm.symm (hgood w (List.mem_cons_of_mem _ (List.mem_cons_of_mem _ hw))) (hat w hw)
  have hk' : (Cond.classLink own ik cls).before args s' = true := vx_ot_at hW0 hvm.symm (hgood _ List.mem_cons_self) hk
  have hini' : (Cond.initialized cls).before args s' = true := vx_ot_at hW0 hvm.symm (hgood _ (List.mem_cons_of_mem _ List.mem_cons_self)) hini
  have hU' : vx_Zq Bundle.tN "UNASSIGNED_STACK" Bundle.steD A s' s'.heap := by rw [hhp]; exact vx_Zq.moved hW0.alike (hU.kept hS.2.1)
  have hN' : vx_Zq Bundle.tN "SUPPRESSED_SENTINEL" Bundle.listD A s' s'.heap := by rw [hhp]; exact vx_Zq.moved hW0.alike (hN.kept hS.2.1)
  have h : ∀ w ∈ Bundle.ownAtoms own ic cls names, w.before args s' = true := vx_own hat' (vx_isRefq hU'.1) (vx_isRefq hN'.1) hU'.2.word hN'.2.word
  have hown' : s'.vm.findClass own = some m.cls := by rw [hvm]; exact hown
  have hins : (Cond.instantiable cls 6).before args s' = true := h _ (by simp [Bundle.ownAtoms])
  obtain ⟨vm₁, cX, kX, hfX, hkX, -, -, X₁, st1⟩ := Y.newCold hexec (own := own) (C := cls) (index := ik) (n := 6) hown' hk' hins hini'
    (g := F0 m pc ls rest) rfl (by rw [hb]; exact d0) (Nat.le_refl _) (Nat.le_refl _)
  generalize hT1 : (T.setVm vm₁).pushCell { cls := cX, slots := kX.instanceTypes.map defaultValue, vm := .none } = T1 at X₁ st1
  have hcat : (Value.ref T.heap.size).category = 1 := rfl
  have hcellA : T1.heap[T.heap.size]? = some (freshCell cX kX) := by rw [← hT1]; exact State.heap_pushCell_size _ _
  have d3' : decode c.code (pc + 3) = .ok (.dup, 1) := by rw [hb]; exact d3
  have d4' : decode c.code (pc + 4) = .ok (.ldc is, 2) := by rw [hb]; exact d4
  have hstr' : vk_R own is text sa s' := vk_R.warm hW0 hstr
  obtain ⟨U, hsteps, hrun, hend, hW, hsame, ce, hce, hO⟩ := X₁.ctorThrowS hexec htr (own := own) (cls := cls) (names := names) (ic := ic) hown' hcls hnames h (fun x hx => nomatch hx) hfX hkX hcellA (by rw [hhp, hT]; exact Nat.le_refl _) (msg := .ref sa) rfl
    (g := { method := m, pc := pc + 6, locals := ls, stack := .ref sa :: .ref T.heap.size :: .ref T.heap.size :: rest, locked := none }) rfl hsize rfl rfl (rest := rest) rfl
    (by rw [hb]; exact d6) (by rw [hb]; exact d9) hout hRframes (by simp only [List.map_cons, List.sum_cons, hcat]; omega) hlocks
  obtain ⟨f1, f2⟩ := vx_frame hsame
  rw [hhp] at f1 f2
  have hWs : s.WarmedH U.vm := State.WarmedH.trans hW0 hW
  have hcl : s.vm.findClass cls = some ce.cls := by
    have h9 := hO.cls
    rw [hvm] at h9
    exact h9
  have hall : s.sameButNew ({ U with vm := s.vm } : State) locs mc ms := by
    subst hA
    obtain ⟨e1, e2⟩ := hsame
    rw [State.setFrames_setFrames] at e1
    have h2 : (T.setVm s.vm).sameButNew ({ U with vm := s.vm } : State) [] (0 + 1) (0 + 6) := ⟨e1, e2⟩
    have h3 := X.same.trans h2
    rw [List.append_nil] at h3
    exact h3.mono hc hs
  refine ⟨U, ?_, .threw T.heap.size, hrun, hend, Or.inr ⟨T.heap.size, rfl, cls, ce, locs, hx U hWs.alike f1 (fun q hq => f2 q hq (fun z hz => nomatch hz)), hce, hO.vm, hcl, hWs, hall, hf⟩⟩
  refine st1 _ ?_
  show Steps p.tables e below (T1.setTop { method := m, pc := pc + 3, locals := ls, stack := .ref T.heap.size :: rest, locked := none }) _
  jvm_step X₁.here [X₁.here.top, hexec, d3', Value.category]
  exact X₁.ldcString hexec (own := own) (text := text) (index := is) (a := sa) hown' hstr'.1 hstr'.2
    (g := { method := m, pc := pc + 4, locals := ls, stack := .ref T.heap.size :: .ref T.heap.size :: rest, locked := none }) rfl d4' _ hsteps
/-- 'throw new E("text")', the text by a wide index -/
theorem vx_throwSW {cc : ByteArray} {pc : Nat} (hexec : p.tables.exec = Jvm.exec) (hb : c.code = cc) (hl : l.stackTraces = false) {own cls text : String} {names : List String} {ik is ic mc ms sa : Nat} {A : Nat → Prop}
    (hown : s.vm.findClass own = some m.cls) (hcls : Bundle.fit cls = true) (hnames : ∀ n ∈ names, Bundle.fit n = true)
    (hk : (Cond.classLink own ik cls).before args s = true) (hini : (Cond.initialized cls).before args s = true) (hstr : vk_R own is text sa s) (hat : ∀ w ∈ vx_atS own ic cls names, w.before args s = true)
    (hgood : ∀ w ∈ Cond.classLink own ik cls :: Cond.initialized cls :: vx_atS own ic cls names, vx_ot w = true)
    (hU : vx_Zq Bundle.tN "UNASSIGNED_STACK" Bundle.steD A s s.heap) (hN : vx_Zq Bundle.tN "SUPPRESSED_SENTINEL" Bundle.listD A s s.heap) (hS : va_S A s.heap H locs) (hsize : ls.size = c.maxLocals)
    (d0 : decode cc pc = .ok (.new ik, 3)) (d3 : decode cc (pc + 3) = .ok (.dup, 1)) (d4 : decode cc (pc + 4) = .ok (.ldc_w is, 3)) (d7 : decode cc (pc + 7) = .ok (.invokespecial ic, 3)) (d10 : decode cc (pc + 10) = .ok (.athrow, 1))
    (hout : ∀ x ∈ c.exceptionTable.toList, covers x (pc + 10) = false)
    (hRframes : names.length + 3 < R.frames) (hRlocals : (rest.map fun v => v.category).sum + (13 * (names.length + 1) + 43) ≤ R.locals) (hRcells : cells + 1 ≤ R.cells) (hRslots : slots + 6 ≤ R.slots) (hlocks : meth.locks = false)
    (hx : ∀ t : State, s.vm.Alike t.vm → H.size ≤ t.heap.size → (∀ q : Nat, q < H.size → t.heap[q]? = H[q]?) → XC cls s t)
    (hf : ∀ z ∈ locs, free z.base) (hc : cells + 1 ≤ mc) (hs : slots + 6 ≤ ms) :
    W p l e R s m args below meth c H locs cells slots (vx_MQ below Qc XC args s mc ms free) (F0 m pc ls rest) := by
  intro T hT X
  have htr : e.platform.stackTraces = false := (show e.platform.stackTraces = l.stackTraces by rw [X.admits.platform]).trans hl
  have Y := vx_rebase X (R' := { frames := R.frames, locals := R.locals, cells := 1, slots := 6 }) (Nat.le_refl _) (Nat.le_refl _) hRcells hRslots
  obtain ⟨s', hA⟩ : ∃ z, z = (T.setVm s.vm).setFrames (.invoking m args :: below) := ⟨_, rfl⟩
  rw [← hA] at Y
  have hvm : s'.vm = s.vm := by rw [hA]; rfl
  have hhp : s'.heap = H := by rw [hA]; exact hT
  have hW0 : s.WarmedH s'.vm := by rw [hvm]; exact State.WarmedH.refl s
  have hat' : ∀ w ∈ vx_atS own ic cls names, w.before args s' = true := fun w hw => vx_ot_at hW0 hvm.symm (hgood w (List.mem_cons_of_mem _ (List.mem_cons_of_mem _ hw))) (hat w hw)
  have hk' : (Cond.classLink own ik cls).before args s' = true := vx_ot_at hW0 hvm.symm (hgood _ List.mem_cons_self) hk
  have hini' : (Cond.initialized cls).before args s' = true := vx_ot_at hW0 hvm.symm (hgood _ (List.mem_cons_of_mem _ List.mem_cons_self)) hini
  have hU' : vx_Zq Bundle.tN "UNASSIGNED_STACK" Bundle.steD A s' s'.heap := by rw [hhp]; exact vx_Zq.moved hW0.alike (hU.kept hS.2.1)
  have hN' : vx_Zq Bundle.tN "SUPPRESSED_SENTINEL" Bundle.listD A s' s'.heap := by rw [hhp]; exact vx_Zq.moved hW0.alike (hN.kept hS.2.1)
  have h : ∀ w ∈ Bundle.ownAtoms own ic cls names, w.before args s' = true := vx_own hat' (vx_isRefq hU'.1) (vx_isRefq hN'.1) hU'.2.word hN'.2.word
  have hown' : s'.vm.findClass own = some m.cls := by rw [hvm]; exact hown
  have hins : (Cond.instantiable cls 6).before args s' = true := h _ (by simp [Bundle.ownAtoms])
  obtain ⟨vm₁, cX, kX, hfX, hkX, -, -, X₁, st1⟩ := Y.newCold hexec (own := own) (C := cls) (index := ik) (n := 6) hown' hk' hins hini'
    (g := F0 m pc ls rest) rfl (by rw [hb]; exact d0) (Nat.le_refl _) (Nat.le_refl _)
  generalize hT1 : (T.setVm vm₁).pushCell { cls := cX, slots := kX.instanceTypes.map defaultValue, vm := .none } = T1 at X₁ st1
  have hcat : (Value.ref T.heap.size).category = 1 := rfl
  have hcellA : T1.heap[T.heap.size]? = some (freshCell cX kX) := by rw [← hT1]; exact State.heap_pushCell_size _ _
  have d3' : decode c.code (pc + 3) = .ok (.dup, 1) := by rw [hb]; exact d3
  have d4' : decode c.code (pc + 4) = .ok (.ldc_w is, 3) := by rw [hb]; exact d4
  have hstr' : vk_R own is text sa s' := vk_R.warm hW0 hstr
  obtain ⟨U, hsteps, hrun, hend, hW, hsame, ce, hce, hO⟩ := X₁.ctorThrowS hexec htr (own := own) (cls := cls) (names := names) (ic := ic) hown' hcls hnames h (fun x hx => nomatch hx) hfX hkX hcellA (by rw [hhp, hT]; exact Nat.le_refl _) (msg := .ref sa) rfl
    (g := { method := m, pc := pc + 7, locals := ls, stack := .ref sa :: .ref T.heap.size :: .ref T.heap.size :: rest, locked := none }) rfl hsize rfl rfl (rest := rest) rfl
    (by rw [hb]; exact d7) (by rw [hb]; exact d10) hout hRframes (by simp only [List.map_cons, List.sum_cons, hcat]; omega) hlocks
  obtain ⟨f1, f2⟩ := vx_frame hsame
  rw [hhp] at f1 f2
  have hWs : s.WarmedH U.vm := State.WarmedH.trans hW0 hW
  have hcl : s.vm.findClass cls = some ce.cls := by
    have h9 := hO.cls
    rw [hvm] at h9
    exact h9
  have hall : s.sameButNew ({ U with vm := s.vm } : State) locs mc ms := by
    subst hA
    obtain ⟨e1, e2⟩ := hsame
    rw [State.setFrames_setFrames] at e1
    have h2 : (T.setVm s.vm).sameButNew ({ U with vm := s.vm } : State) [] (0 + 1) (0 + 6) := ⟨e1, e2⟩
    have h3 := X.same.trans h2
    rw [List.append_nil] at h3
    exact h3.mono hc hs
  refine ⟨U, ?_, .threw T.heap.size, hrun, hend, Or.inr ⟨T.heap.size, rfl, cls, ce, locs, hx U hWs.alike f1 (fun q hq => f2 q hq (fun z hz => nomatch hz)), hce, hO.vm, hcl, hWs, hall, hf⟩⟩
  refine st1 _ ?_
  show Steps p.tables e below (T1.setTop { method := m, pc := pc + 3, locals := ls, stack := .ref T.heap.size :: rest, locked := none }) _
  jvm_step X₁.here [X₁.here.top, hexec, d3', Value.category]
  exact X₁.ldcStringW hexec (own := own) (text := text) (index := is) (a := sa) hown' hstr'.1 hstr'.2
    (g := { method := m, pc := pc + 4, locals := ls, stack := .ref T.heap.size :: .ref T.heap.size :: rest, locked := none }) rfl d4' _ hsteps
end Ends
section Bodies
variable {l : Launch}
theorem vx_ofW {y : MethodName} {ws ws' : List Cond} {rm : Room} {Pc : Array Value → State → Prop} {Qc : Array Value → State → Outcome → State → Prop} {XC : String → State → State → Prop} {mc ms : Nat} {free : Addr → Prop} {cc : ByteArray} {maxL : Nat} {ret : Option FieldType}
    (hy : plainName y.cls = true) (hw : ws = Cond.code y cc maxL ret :: ws')
    (body : ∀ p e s m args below meth c s₁, BodyLoose p l y (headSpec ws rm) cc maxL ret e s m args below meth c s₁ → c.maxLocals = maxL → (∀ x ∈ c.exceptionTable.toList, False) → Pc args s →
      W p l e (headSpec ws rm).room s m args below meth c s.heap [] 0 0 (vx_MQ below Qc XC args s mc ms free) (entryFrame m args maxL)) : vx_Met l y ws rm Pc Qc XC mc ms free := by
  refine MetFree.of_bodyS (code := cc) (maxLocals := maxL) (ret := ret) hy ?_ ?_
  · intro args s m h hn
    obtain ⟨meth, c, h1, h2, h3, h4, h5, h6, -, -⟩ := Cond.code_spec hn (atoms_spec (ws := ws) h _ (by rw [hw]; exact List.mem_cons_self))
    exact ⟨meth, c, h1, h2, h3, h4, h5, h6⟩
  · intro p e s m args below meth c s₁ B hml hP _
    have hh0 : s₁.heap = s.heap := by rw [B.state]; rfl
    have ht : ∀ x ∈ c.exceptionTable.toList, False := by
      obtain ⟨meth9, c9, h1, h2, -, -, -, -, h7, -⟩ := Cond.code_spec B.named (atoms_spec (ws := ws) B.pre _ (by rw [hw]; exact List.mem_cons_self))
      cases Option.some.inj (h1.symm.trans B.method)
      cases Option.some.inj (h2.symm.trans (Stand.of_body B).code)
      intro x hx
      rw [Array.isEmpty_iff.mp h7] at hx
      cases hx
    obtain ⟨t, a1, o, b1, b2, b3⟩ := body p e s m args below meth c s₁ B hml ht hP s₁ hh0 (Stand.of_body B)
    exact ⟨t, o, a1, b1, b2, b3⟩
/-- the table of a body with handlers -/
theorem vx_table {p : Program} {x y : MethodName} {S : Spec} {cc bytes : ByteArray} {maxL maxL' : Nat} {ret ret' : Option FieldType} {e : Env} {s s₁ : State} {m : MethodId} {args : Array Value} {below : List Frame} {meth : Method} {c : Code} {hh : List (Nat × Nat × Nat × Nat)}
    (B : BodyLoose p l y S cc maxL ret e s m args below meth c s₁) (h : (Cond.codeWith y bytes maxL' ret' hh).before args s = true) : c.exceptionTable.toList = tableOf hh := by
  obtain ⟨m9, meth9, c9, hn9, h1, h2, -, -, h6, -⟩ := Cond.codeWith_spec h
  cases Option.some.inj (hn9.symm.trans B.named)
  cases Option.some.inj (h1.symm.trans B.method)
  cases Option.some.inj (h2.symm.trans (Stand.of_body B).code)
  rw [← h6, table_eq]
end Bodies
end VXA
/-! ===== END ===== -/
/-! ===== BEGIN a static call of a method with an exception table ===== -/
section VXS
variable {p : Program} {l : Launch} {e : Env} {R : Room} {s : State} {m : MethodId} {args : Array Value} {below : List Frame} {meth : Method} {c : Code} {T : State} {H : Heap} {locs : List Loc} {cells slots : Nat}
abbrev vx_CSW (R : Room) (s : State) (args : Array Value) (own : String) (index : Nat) (y : MethodName) (bytes : ByteArray) (maxL : Nat) (ret : Option FieldType) (hh : List (Nat × Nat × Nat × Nat)) (ws : List Cond) (rm : Room) (mc ms n : Nat) : Prop :=
  (rm.cells = mc ∧ rm.slots = ms ∧ rm.frames + 1 ≤ R.frames ∧ 8 + (maxL + 11) + rm.locals ≤ R.locals ∧ (∀ w ∈ ws, ∀ (a' : Array Value) (U : State), s.WarmedH U.vm → w.before a' U = true) ∧ Cond.codeWith y bytes maxL ret hh ∈ ws) ∧
  (Cond.codeWith y bytes maxL ret hh).before args s = true ∧ (Cond.initialized y.cls).before args s = true ∧ (y.cls ≠ "java/lang/invoke/MethodHandle" ∧ y.cls ≠ "java/lang/invoke/VarHandle") ∧
  (∀ sig, parseMethodDescriptor y.desc = some sig → n = sig.parameters.length) ∧ (Cond.methodLink own index y).before args s = true ∧ (Cond.static y).before args s = true
theorem vx_cwSW {own : String} {index maxL mc ms : Nat} {y : MethodName} {bytes : ByteArray} {ret : Option FieldType} {hh : List (Nat × Nat × Nat × Nat)} {Ts ws ws' : List Cond} {rm : Room} (n : Nat) (ht : ∀ w ∈ Ts, w.before args s = true) (hT : GoodIn Ts (va_wsS own index y ws)) (hw : ws = Cond.codeWith y bytes maxL ret hh :: ws') (hrc : rm.cells = mc) (hrs : rm.slots = ms)
    (hd : y.cls ≠ "java/lang/invoke/MethodHandle" ∧ y.cls ≠ "java/lang/invoke/VarHandle" ∧ (parseMethodDescriptor y.desc).map (fun d => d.parameters.length) = some n) (hR : rm.frames + 1 ≤ R.frames ∧ 8 + (maxL + 11) + rm.locals ≤ R.locals) :
    vx_CSW R s args own index y bytes maxL ret hh ws rm mc ms n := by
  have ok : ∀ w ∈ va_wsS own index y ws, w.before args s = true := fun w h => ht w (hT w h).1
  have hG : GoodIn Ts ws := fun w h => hT w (by unfold va_wsS; exact List.mem_append_right _ h)
  have hc : Cond.codeWith y bytes maxL ret hh ∈ ws := by rw [hw]; exact List.mem_cons_self
  refine ⟨⟨hrc, hrs, hR.1, hR.2, pay_in ht hG, hc⟩, ht _ (hG _ hc).1, ok _ (by simp [va_wsS]), ⟨hd.1, hd.2.1⟩, fun sig h => ?_, ok _ (by simp [va_wsS]), ok _ (by simp [va_wsS])⟩
  have h2 := hd.2.2
  rw [h] at h2
  exact (Option.some.inj h2).symm
theorem vx_callSW (X : Stand p l e R s m args below meth c T locs cells slots) (hexec : p.tables.exec = Jvm.exec) {own : String} {index : Nat} {y : MethodName} {bytes : ByteArray} {maxL : Nat} {ret : Option FieldType} {hh : List (Nat × Nat × Nat × Nat)}
    (hown : s.vm.findClass own = some m.cls) (hlink : (Cond.methodLink own index y).before args s = true) (hstat : (Cond.static y).before args s = true) (hinit : (Cond.initialized y.cls).before args s = true)
    (hcode : (Cond.codeWith y bytes maxL ret hh).before args s = true) (hy : y.cls ≠ "java/lang/invoke/MethodHandle" ∧ y.cls ≠ "java/lang/invoke/VarHandle")
    {W9 : Nat} {Pre : Pt → Array Value → Prop} {Post : Pt → Array Value → Option Value → Pt → Prop} (hK : Back l R p e below s args y 3 W9 Pre Post)
    {g : JFrame} (hg : g.method = m) (hsize : g.locals.size = c.maxLocals) {argsL rest : List Value} (hlen : ∀ sig, parseMethodDescriptor y.desc = some sig → argsL.length = sig.parameters.length)
    (hstack : g.stack = argsL.reverse ++ rest) (hW : 2 * g.monitorRoom + (rest.map fun v => v.category).sum ≤ W9) (hdg : decode c.code g.pc = .ok (.invokestatic index, 3))
    (hpre : ∀ vm₁, s.WarmedH vm₁ → Pre ⟨T.setVm vm₁, locs, cells, slots⟩ argsL.toArray) :
    ∃ (v : Option Value) (vm₁ : Vm) (B : Pt), s.WarmedH vm₁ ∧ Stand p l e R s m args below meth c B.U B.locs B.cells B.slots ∧ Post ⟨T.setVm vm₁, locs, cells, slots⟩ argsL.toArray v B ∧
      ∀ target, Steps p.tables e below (B.U.setTop { g with pc := g.pc + 3, stack := v.toList ++ rest }) target → Steps p.tables e below (T.setTop g) target := by
  obtain ⟨mk, methM, cM, hnamed, hmethM, -, -, -, -, -, -, hsigM⟩ := Cond.codeWith_spec hcode
  have hstatic : methM.isStatic = true := Cond.static_spec hnamed hmethM hstat
  obtain ⟨kP, hkP, -⟩ := className_of_methodNamed hnamed
  have hinitP : kP.init = .initialized := Cond.initialized_spec (findClass_of_methodNamed hnamed) hkP hinit
  obtain ⟨vm₁, X₁, hstep₁⟩ := X.invokestatic hexec hown hlink hnamed hmethM hstatic hkP hinitP hy (g := g) hg (argsL := argsL) (rest := rest) (hlen _ hsigM) hstack hdg
  obtain ⟨v, B, X', hpost, hsteps⟩ := hK m meth c ⟨T.setVm vm₁, locs, cells, slots⟩ { g with stack := rest } (.invokestatic index) mk argsL.toArray X₁ hg hsize hdg hW (X₁.named hnamed) (hpre vm₁ X₁.warmed)
  exact ⟨v, vm₁, B, X₁.warmed, X', hpost, fun target h => hstep₁ _ fun acts => by rw [doInvoke_state]; exact hsteps.trans h⟩
theorem vx_runSW {y : MethodName} {bytes cc : ByteArray} {maxL nL mc ms n index : Nat} {ret : Option FieldType} {hh : List (Nat × Nat × Nat × Nat)} {ws : List Cond} {rm : Room} {Pc : Array Value → State → Prop} {Qc : Array Value → State → Outcome → State → Prop} {free : Addr → Prop} {Ts : List Cond} {own : String} {As rest : List Value} {g : JFrame}
    (S : CallFix p m c cc nL s args Ts own) (hM : Met l y ws rm Pc Qc mc ms free) (cw : vx_CSW R s args own index y bytes maxL ret hh ws rm mc ms n) (hp : PreS s H Pc As)
    (hg : g.method = m) (hn : As.length = n) (hsize : g.locals.size = nL) (hstack : g.stack = As.reverse ++ rest) (hW : 2 * g.monitorRoom + (rest.map fun v => v.category).sum ≤ 8) (hdg : decode cc g.pc = .ok (.invokestatic index, 3)) (hf : cells + mc ≤ R.cells ∧ slots + ms ≤ R.slots) :
    va_Run p l e R s m args below meth c H locs cells slots mc ms g rest (Qc As.toArray) (free) := by
  obtain ⟨⟨hrc, hrs, hfr, hlo, hws, hcw⟩, hcode, hini, hy, hlen, hl, hstt⟩ := cw
  have hK : Back l R p e below s args y 3 8 (PreOf R mc ms Pc) (PostOf Qc mc ms free) := va_backW (hh := hh) (bytes := bytes) (maxL := maxL) (ret := ret) hM hp.1 hrc hrs hfr hlo hws hcw (fun a' U hW => word_at hW (Or.inl (by first | rfl | simp [Cond.onTables, Cond.keeps, Cond.steady])) hini)
  obtain ⟨hx, hb, hml, ho, -⟩ := S
  intro T hT X
  obtain ⟨v, vm₁, ⟨U', l2, c2, s2⟩, hW₁, X', ⟨g', mk, t, L, e1, e2, hq, h1, hL, h2, h3⟩, st⟩ := vx_callSW X hx (hh := hh) (bytes := bytes) (maxL := maxL) (ret := ret) ho hl hstt hini hcode hy hK hg (hsize.trans hml.symm) (argsL := As) (rest := rest) (fun sig h => hn.trans (hlen sig h)) hstack hW (by rw [hb]; exact hdg)
    (fun vm₁ hW₁ => ⟨hf.1, hf.2, hp.2 (T.setVm vm₁) hT hW₁⟩)
  dsimp only [Pt.U, Pt.locs, Pt.cells, Pt.slots] at X' e1 e2 h1 h2 h3 st
  subst h1; subst h2; subst h3
  exact ⟨v, (T.setVm vm₁).calling g' mk As.toArray, t, U', L, hT, X', hL, e1, e2, hq, st⟩
/-- not caught here, past rows that name other classes: it goes on to the caller -/
theorem vx_outP {p : Program} {l : Launch} {e : Env} {R : Room} {s : State} {m : MethodId} {args : Array Value} {below : List Frame} {meth : Method} {c : Code} {H : Heap} {locs : List Loc} {cells slots : Nat} {free : Addr → Prop} {ls : Array Slot} {rest : List Value} {Qc : Array Value → State → Outcome → State → Prop} {XC : String → State → State → Prop}
    {pc : Nat} {own E : String} {ce : Cell} {q : Addr} {mc ms : Nat} (hown : s.vm.findClass own = some m.cls) (hlocks : meth.locks = false)
    (hpass : ∀ z ∈ c.exceptionTable.toList, covers z pc = false ∨ (z.catchType ≠ 0 ∧ ∃ nm : String, (Cond.classLink own z.catchType nm).before args s = true ∧ va_Nc E nm s)) (hcell : H[q]? = some ce) (hv : ce.vm = .none) (hcl : s.vm.findClass E = some ce.cls)
    (hx : ∀ t : State, t.heap = H → s.vm.Alike t.vm → XC E s t) (hf : ∀ z ∈ locs, free z.base) (hc : cells ≤ mc) (hs : slots ≤ ms) :
    vx_W p l e R s m args below meth c H locs cells slots (vx_MQ below Qc XC args s mc ms free) (F0 m pc ls rest) q := by
  intro T hT X
  have hpl : e.platform.magicAccessors = ({} : Platform).magicAccessors := by rw [X.admits.platform]
  obtain ⟨vm', hW', X', st⟩ := X.outThrough hlocks q (g := F0 m pc ls rest) rfl rfl rfl (cell := ce) (by rw [hT]; exact hcell) (by rw [hv]; rfl)
    (by obtain ⟨k9, h9, -⟩ := Vm.findClass_spec hcl; exact ⟨k9, h9⟩) (fun z hz => by
      rcases hpass z hz with h | ⟨hz0, nm, hl1, hn1⟩
      · exact Or.inl h
      · obtain ⟨c6, hc6, hcl6⟩ := Cond.classLink_spec hown hl1 e.platform hpl
        obtain ⟨a8, b8, h1, h2, h3⟩ := hn1
        cases Option.some.inj (h1.symm.trans hcl)
        cases Option.some.inj (h2.symm.trans hc6)
        exact Or.inr ⟨hz0, _, hcl6, h3⟩)
  obtain ⟨g₀, hfr⟩ := X'.frames_eq
  have hcell9 : ((T.setVm vm').setFrames (.throwing q :: below)).heap[q]? = some ce := by
    show T.heap[q]? = some ce
    rw [hT]; exact hcell
  have hend : Ended ((T.setVm vm').setFrames (.throwing q :: below)) below (.threw q) := State.frames_setFrames _ (State.cur_lt_of_frames hfr)
  refine ⟨(T.setVm vm').setFrames (.throwing q :: below), ?_, .threw q, X'.here.running, hend, Or.inr ⟨q, rfl, E, ce, locs, hx _ hT (X'.ends _).1.alike, hcell9, hv, hcl, (X'.ends _).1, (X'.ends _).2.mono hc hs, hf⟩⟩
  rw [X.pushThrowing_eq]
  exact st
/-- a thing of a world lies in the heap -/
theorem vx_lt {D : va_G} {cl : List vw_C} {ws : va_W} {H1 : Heap} (h : va_P D cl ws H1) {k : Nat} {q : Nat × va_E} (hk : ws[k]? = some q) : q.1 < H1.size := (h k q hk).lt
end VXS
/-! ===== END ===== -/
/-! ===== BEGIN methods with a table of their own: called by a name, returning or throwing ===== -/
section VXH
/-! vx_backW, vx_callVX, vx_callSX, vx_callVW, vx_runVW, vx_runVX, vx_runSX, vx_ofWH follow the same proofs as their sisters above (Free/Laws.lean, Shelf42/LK1.lean); vx_outP calls Shelf42/NT130.lean (outThrough). -/
section
variable {l : Launch} {R : Room} {p : Program} {e : Env} {below : List Frame} {s : State} {sargs : Array Value} {y : MethodName} {len W9 : Nat}
theorem vx_backW {ws : List Cond} {rm : Room} {Pc : Array Value → State → Prop} {Qc : Array Value → State → Outcome → State → Prop} {XC : String → State → State → Prop} {mc ms : Nat} {free : Addr → Prop} {bytes : ByteArray} {maxL : Nat} {ret : Option FieldType} {hh : List (Nat × Nat × Nat × Nat)}
    (hM : vx_Met l y ws rm Pc Qc XC mc ms free) (hblind : FrameBlind Pc) (hrc : rm.cells = mc) (hrs : rm.slots = ms)
    (hframes : rm.frames + 1 ≤ R.frames) (hlocals : W9 + (maxL + 11) + rm.locals ≤ R.locals)
    (hws : ∀ w ∈ ws, ∀ a' U, s.WarmedH U.vm → w.before a' U = true) (hcode : Cond.codeWith y bytes maxL ret hh ∈ ws) (hinit : ∀ a' U, s.WarmedH U.vm → (Cond.initialized y.cls).before a' U = true) :
    vx_Back l R p e below s sargs y len W9 (PreOf R mc ms Pc) (PostOf Qc mc ms free) (vx_Post XC mc ms free) := by
  intro m meth c A g ig mk a X hg hsize hdg hW hn hp
  have h1 : (headSpec ws rm).pre.before a A.U = true := atoms_intro fun w hw => hws w hw _ _ X.warmed
  have h2 : (Cond.codeWith y bytes maxL ret hh).before a A.U = true := hws _ hcode _ _ X.warmed
  have h3 : (Cond.initialized y.cls).before a A.U = true := hinit _ _ X.warmed
  have h4 : A.cells + (headSpec ws rm).room.cells ≤ R.cells := by rw [show (headSpec ws rm).room.cells = mc from hrc]; exact hp.1
  have h5 : A.slots + (headSpec ws rm).room.slots ≤ R.slots := by rw [show (headSpec ws rm).room.slots = ms from hrs]; exact hp.2.1
  have hPc : Pc a (A.U.calling g mk a) := hblind _ _ _ _ hp.2.2
  obtain ⟨U, Ls, c0, s0⟩ := A
  dsimp only [Pt.U, Pt.locs, Pt.cells, Pt.slots] at h1 h2 h3 h4 h5 X hn hPc ⊢
  obtain ⟨m9, methY, cY, hn9, hmY, hcY, -, hlY, -⟩ := Cond.codeWith_spec h2
  cases Option.some.inj (hn9.symm.trans hn)
  obtain ⟨kY, hkY, -⟩ := className_of_methodNamed hn
  have hinitY : kY.init = .initialized := Cond.initialized_spec (findClass_of_methodNamed hn) hkY h3
  have h : At U g.method c below := by rw [hg]; exact X.here
  have hlocals9 : W9 + (maxL + 11) + (headSpec ws rm).room.locals ≤ R.locals := hlocals
  have happ : (headSpec ws rm).appliesLoose y e.platform (U.calling g mk a) = true :=
    Spec.appliesLoose_calling (g := g) h hdg hn hkY hinitY
      (X.room_calling (g := g) (R' := (headSpec ws rm).room) hsize hmY hcY hframes (by rw [hlY]; omega) h4 h5) h1
  obtain ⟨mid, hmid⟩ := h.above
  have hfr : (U.setTop g).frames = (.java g :: mid) ++ below := by rw [State.frames_setTop' g h.top, hmid]; rfl
  obtain ⟨o, s₂, hsteps, -, hend, hq⟩ := Steps.callFree hM p X.admits X.cas X.clock (acts := []) hfr happ hPc trivial
  have hq' : vx_Q Qc XC mc ms free a (U.calling g mk a) o s₂ := hq
  rw [State.frames_setTop' g h.top] at hend
  obtain ⟨g₀, hg0⟩ := Option.isSome_iff_exists.mp h.top
  obtain ⟨r, hr⟩ := State.topJava?_eq_some.mp hg0
  have hr' : (({ U with heap := s₂.heap, slotsUsed := s₂.slotsUsed } : State).setVm s₂.vm).frames = .java g₀ :: r := hr
  rcases hq' with ⟨hqc, L, hfe, hL⟩ | ⟨q, rfl, E, ce, L, hx, hce, hcv, hcl, hW₂, hsm, hL⟩
  · obtain ⟨⟨v, rfl⟩, hW₂, e2, q2, q3, q4, q5, q6⟩ := id hfe
    have e3 : s₂ = ({ (U.calling g mk a).setFrames s₂.frames with heap := s₂.heap, slotsUsed := s₂.slotsUsed } : State).setVm s₂.vm := by
      have : s₂ = ({ s₂ with vm := (U.calling g mk a).vm } : State).setVm s₂.vm := rfl
      rw [e2] at this
      exact this
    obtain ⟨c₂, i₂, len₂, hc₂, hd₂, hf₂⟩ := hend
    have hW' : U.WarmedH s₂.vm := hW₂
    have hcc : c₂ = c := by
      have h1 : s₂.code? g.method = U.code? g.method := by
        rw [State.code?_eq, State.code?_eq, hW'.alike.method?]
      exact Option.some.inj (hc₂.symm.trans (h1.trans h.code))
    subst hcc
    have hlen : len₂ = len := by rw [hdg] at hd₂; cases hd₂; rfl
    subst hlen
    have hs₂ : s₂ = (({ U with heap := s₂.heap, slotsUsed := s₂.slotsUsed } : State).setVm s₂.vm).setTop { g with pc := g.pc + len₂, stack := v.toList ++ g.stack } := by
      refine e3.trans ?_
      rw [hf₂, State.calling_eq h.top, State.setFrames_setFrames, State.setTop_of_frames _ hr', hr]
      rfl
    have hsame : U.sameButNew ({ U with heap := s₂.heap, slotsUsed := s₂.slotsUsed } : State) L mc ms := by
      refine ⟨?_, q2, q3, q4, q5, q6⟩
      obtain ⟨t, ht, -⟩ := State.frames_cons hr
      show ({ U with heap := s₂.heap, slotsUsed := s₂.slotsUsed } : State) = { U.setFrames U.frames with heap := s₂.heap, slotsUsed := s₂.slotsUsed }
      rw [State.setFrames_self ht]
    subst hg
    refine Or.inl ⟨v, ⟨(({ U with heap := s₂.heap, slotsUsed := s₂.slotsUsed } : State).setVm s₂.vm), Ls ++ L, c0 + mc, s0 + ms⟩,
      ⟨X.admits, X.cas, X.clock, X.frames, X.room, X.hears, X.method, X.code, (X.here.setHeapUsed s₂.heap s₂.slotsUsed).setVm hW'.alike, X.tail, State.WarmedH.trans X.warmed hW', X.limits, X.bytes, X.same.trans (hsame.setVm s.vm)⟩,
      ⟨g, mk, s₂, L, rfl, rfl, hqc, rfl, hL, rfl, rfl⟩, ?_⟩
    show Steps p.tables e below _ ((({ U with heap := s₂.heap, slotsUsed := s₂.slotsUsed } : State).setVm s₂.vm).setTop { g with pc := g.pc + len₂, stack := v.toList ++ g.stack })
    rw [← hs₂]
    exact hsteps
  · obtain ⟨e2, q2, q3, q4, q5, q6⟩ := id hsm
    have e3 : s₂ = ({ (U.calling g mk a).setFrames s₂.frames with heap := s₂.heap, slotsUsed := s₂.slotsUsed } : State).setVm s₂.vm := by
      have : s₂ = ({ s₂ with vm := (U.calling g mk a).vm } : State).setVm s₂.vm := rfl
      rw [e2] at this
      exact this
    have hf₂ : s₂.frames = .throwing q :: .java g :: U.frames.tail := hend
    have hW' : U.WarmedH s₂.vm := hW₂
    have hs₂ : s₂ = ((({ U with heap := s₂.heap, slotsUsed := s₂.slotsUsed } : State).setVm s₂.vm).setTop g).pushFrame (.throwing q) := by
      refine e3.trans ?_
      rw [hf₂, State.calling_eq h.top, State.setFrames_setFrames, State.pushFrame, State.frames_setTop _ hr', State.setTop_of_frames _ hr', State.setFrames_setFrames, hr]
      rfl
    have hsame : U.sameButNew ({ U with heap := s₂.heap, slotsUsed := s₂.slotsUsed } : State) L mc ms := by
      refine ⟨?_, q2, q3, q4, q5, q6⟩
      obtain ⟨t, ht, -⟩ := State.frames_cons hr
      show ({ U with heap := s₂.heap, slotsUsed := s₂.slotsUsed } : State) = { U.setFrames U.frames with heap := s₂.heap, slotsUsed := s₂.slotsUsed }
      rw [State.setFrames_self ht]
    subst hg
    refine Or.inr ⟨q, ⟨(({ U with heap := s₂.heap, slotsUsed := s₂.slotsUsed } : State).setVm s₂.vm), Ls ++ L, c0 + mc, s0 + ms⟩,
      ⟨X.admits, X.cas, X.clock, X.frames, X.room, X.hears, X.method, X.code, (X.here.setHeapUsed s₂.heap s₂.slotsUsed).setVm hW'.alike, X.tail, State.WarmedH.trans X.warmed hW', X.limits, X.bytes, X.same.trans (hsame.setVm s.vm)⟩,
      ⟨g, mk, s₂, L, E, ce, rfl, rfl, hx, hce, hcv, hcl, rfl, hL, rfl, rfl⟩, ?_⟩
    show Steps p.tables e below _ (((({ U with heap := s₂.heap, slotsUsed := s₂.slotsUsed } : State).setVm s₂.vm).setTop g).pushFrame (.throwing q))
    rw [← hs₂]
    exact hsteps
end
variable {p : Program} {l : Launch} {e : Env} {R : Room} {s : State} {m : MethodId} {args : Array Value} {below : List Frame} {meth : Method} {c : Code} {T : State} {H : Heap} {locs : List Loc} {cells slots : Nat}
theorem vx_callVX (X : Stand p l e R s m args below meth c T locs cells slots) (hexec : p.tables.exec = Jvm.exec) {own C : String} {index : Nat} {y : MethodName} {bytes : ByteArray} {maxL : Nat} {ret : Option FieldType} {hh : List (Nat × Nat × Nat × Nat)}
    (hown : s.vm.findClass own = some m.cls) (hlink : (Cond.methodLink own index y).before args s = true) (hinst : (Cond.instanceMethod y).before args s = true) (hsel : (Cond.selects C y y).before args s = true)
    (hcode : (Cond.codeWith y bytes maxL ret hh).before args s = true) (hy : y.cls ≠ "java/lang/invoke/MethodHandle" ∧ y.cls ≠ "java/lang/invoke/VarHandle")
    {W9 : Nat} {Pre : Pt → Array Value → Prop} {Post : Pt → Array Value → Option Value → Pt → Prop} {PostX : Pt → Array Value → Addr → Pt → Prop} (hK : vx_Back l R p e below s args y 3 W9 Pre Post PostX)
    {b : Addr} {cellB : Cell} (hcell : T.heap[b]? = some cellB) (hobj : cellB.vm.isStatics = false) (hcls : s.vm.findClass C = some cellB.cls)
    {g : JFrame} (hg : g.method = m) (hsize : g.locals.size = c.maxLocals) {argsL rest : List Value} (hlen : ∀ sig, parseMethodDescriptor y.desc = some sig → argsL.length = sig.parameters.length)
    (hstack : g.stack = argsL.reverse ++ .ref b :: rest) (hW : 2 * g.monitorRoom + (rest.map fun v => v.category).sum ≤ W9) (hdg : decode c.code g.pc = .ok (.invokevirtual index, 3))
    (hpre : ∀ vm₁, s.WarmedH vm₁ → Pre ⟨T.setVm vm₁, locs, cells, slots⟩ (Value.ref b :: argsL).toArray) :
    (∃ (v : Option Value) (vm₁ : Vm) (B : Pt), s.WarmedH vm₁ ∧ Stand p l e R s m args below meth c B.U B.locs B.cells B.slots ∧ Post ⟨T.setVm vm₁, locs, cells, slots⟩ (Value.ref b :: argsL).toArray v B ∧
      ∀ target, Steps p.tables e below (B.U.setTop { g with pc := g.pc + 3, stack := v.toList ++ rest }) target → Steps p.tables e below (T.setTop g) target) ∨
    (∃ (q : Addr) (vm₁ : Vm) (B : Pt), s.WarmedH vm₁ ∧ Stand p l e R s m args below meth c B.U B.locs B.cells B.slots ∧ PostX ⟨T.setVm vm₁, locs, cells, slots⟩ (Value.ref b :: argsL).toArray q B ∧
      Steps p.tables e below (T.setTop g) ((B.U.setTop { g with stack := rest }).pushFrame (.throwing q))) := by
  obtain ⟨mk, methM, hnamed, hmethM, hstM, habM⟩ := Cond.instanceMethod_spec hinst
  obtain ⟨m8, methM', cM, hn8, hmethM', -, -, -, -, -, -, hsigM⟩ := Cond.codeWith_spec hcode
  cases Option.some.inj (hn8.symm.trans hnamed)
  cases hmethM.symm.trans hmethM'
  obtain ⟨c2, r2, m2, q1, q2, q3, q4, kP, hkP, hkPi⟩ := Cond.selects_spec hsel
  cases hcls.symm.trans q1
  cases (State.methodFound?_of_named hnamed hy).symm.trans q2
  cases hnamed.symm.trans q3
  have hselP : selectMethod e.platform s.vm cellB.cls mk = .method mk := by rw [Launch.admits_selectMethod X.admits]; exact q4
  obtain ⟨vm₁, X₁, hstep₁⟩ := X.invokevirtual hexec hown hlink hnamed hmethM hstM hkP hkPi hy (a := b) (cell := cellB) hcell
    (fun z h => by rw [h] at hobj; cases hobj) hselP hmethM habM hkP hkPi (g := g) hg (argsL := argsL) (rest := rest) (hlen _ hsigM) hstack hdg
  rcases hK m meth c ⟨T.setVm vm₁, locs, cells, slots⟩ { g with stack := rest } (.invokevirtual index) mk (Value.ref b :: argsL).toArray X₁ hg hsize hdg hW (X₁.named hnamed) (hpre vm₁ X₁.warmed) with ⟨v, B, X', hpost, hsteps⟩ | ⟨q, B, X', hpost, hsteps⟩
  · exact Or.inl ⟨v, vm₁, B, X₁.warmed, X', hpost, fun target h => hstep₁ _ fun acts => by rw [doInvoke_state]; exact hsteps.trans h⟩
  · exact Or.inr ⟨q, vm₁, B, X₁.warmed, X', hpost, hstep₁ _ fun acts => by rw [doInvoke_state]; exact hsteps⟩
theorem vx_callSX (X : Stand p l e R s m args below meth c T locs cells slots) (hexec : p.tables.exec = Jvm.exec) {own : String} {index : Nat} {y : MethodName} {bytes : ByteArray} {maxL : Nat} {ret : Option FieldType} {hh : List (Nat × Nat × Nat × Nat)}
    (hown : s.vm.findClass own = some m.cls) (hlink : (Cond.methodLink own index y).before args s = true) (hstat : (Cond.static y).before args s = true) (hinit : (Cond.initialized y.cls).before args s = true)
    (hcode : (Cond.codeWith y bytes maxL ret hh).before args s = true) (hy : y.cls ≠ "java/lang/invoke/MethodHandle" ∧ y.cls ≠ "java/lang/invoke/VarHandle")
    {W9 : Nat} {Pre : Pt → Array Value → Prop} {Post : Pt → Array Value → Option Value → Pt → Prop} {PostX : Pt → Array Value → Addr → Pt → Prop} (hK : vx_Back l R p e below s args y 3 W9 Pre Post PostX)
    {g : JFrame} (hg : g.method = m) (hsize : g.locals.size = c.maxLocals) {argsL rest : List Value} (hlen : ∀ sig, parseMethodDescriptor y.desc = some sig → argsL.length = sig.parameters.length)
    (hstack : g.stack = argsL.reverse ++ rest) (hW : 2 * g.monitorRoom + (rest.map fun v => v.category).sum ≤ W9) (hdg : decode c.code g.pc = .ok (.invokestatic index, 3))
    (hpre : ∀ vm₁, s.WarmedH vm₁ → Pre ⟨T.setVm vm₁, locs, cells, slots⟩ argsL.toArray) :
    (∃ (v : Option Value) (vm₁ : Vm) (B : Pt), s.WarmedH vm₁ ∧ Stand p l e R s m args below meth c B.U B.locs B.cells B.slots ∧ Post ⟨T.setVm vm₁, locs, cells, slots⟩ argsL.toArray v B ∧
      ∀ target, Steps p.tables e below (B.U.setTop { g with pc := g.pc + 3, stack := v.toList ++ rest }) target → Steps p.tables e below (T.setTop g) target) ∨
    (∃ (q : Addr) (vm₁ : Vm) (B : Pt), s.WarmedH vm₁ ∧ Stand p l e R s m args below meth c B.U B.locs B.cells B.slots ∧ PostX ⟨T.setVm vm₁, locs, cells, slots⟩ argsL.toArray q B ∧
      Steps p.tables e below (T.setTop g) ((B.U.setTop { g with stack := rest }).pushFrame (.throwing q))) := by
  obtain ⟨mk, methM, cM, hnamed, hmethM, -, -, -, -, -, -, hsigM⟩ := Cond.codeWith_spec hcode
  have hstatic : methM.isStatic = true := Cond.static_spec hnamed hmethM hstat
  obtain ⟨kP, hkP, -⟩ := className_of_methodNamed hnamed
  have hinitP : kP.init = .initialized := Cond.initialized_spec (findClass_of_methodNamed hnamed) hkP hinit
  obtain ⟨vm₁, X₁, hstep₁⟩ := X.invokestatic hexec hown hlink hnamed hmethM hstatic hkP hinitP hy (g := g) hg (argsL := argsL) (rest := rest) (hlen _ hsigM) hstack hdg
  rcases hK m meth c ⟨T.setVm vm₁, locs, cells, slots⟩ { g with stack := rest } (.invokestatic index) mk argsL.toArray X₁ hg hsize hdg hW (X₁.named hnamed) (hpre vm₁ X₁.warmed) with ⟨v, B, X', hpost, hsteps⟩ | ⟨q, B, X', hpost, hsteps⟩
  · exact Or.inl ⟨v, vm₁, B, X₁.warmed, X', hpost, fun target h => hstep₁ _ fun acts => by rw [doInvoke_state]; exact hsteps.trans h⟩
  · exact Or.inr ⟨q, vm₁, B, X₁.warmed, X', hpost, hstep₁ _ fun acts => by rw [doInvoke_state]; exact hsteps⟩
theorem vx_callVW (X : Stand p l e R s m args below meth c T locs cells slots) (hexec : p.tables.exec = Jvm.exec) {own C : String} {index : Nat} {y : MethodName} {bytes : ByteArray} {maxL : Nat} {ret : Option FieldType} {hh : List (Nat × Nat × Nat × Nat)}
    (hown : s.vm.findClass own = some m.cls) (hlink : (Cond.methodLink own index y).before args s = true) (hinst : (Cond.instanceMethod y).before args s = true) (hsel : (Cond.selects C y y).before args s = true)
    (hcode : (Cond.codeWith y bytes maxL ret hh).before args s = true) (hy : y.cls ≠ "java/lang/invoke/MethodHandle" ∧ y.cls ≠ "java/lang/invoke/VarHandle")
    {W9 : Nat} {Pre : Pt → Array Value → Prop} {Post : Pt → Array Value → Option Value → Pt → Prop} (hK : Back l R p e below s args y 3 W9 Pre Post)
    {b : Addr} {cellB : Cell} (hcell : T.heap[b]? = some cellB) (hobj : cellB.vm.isStatics = false) (hcls : s.vm.findClass C = some cellB.cls)
    {g : JFrame} (hg : g.method = m) (hsize : g.locals.size = c.maxLocals) {argsL rest : List Value} (hlen : ∀ sig, parseMethodDescriptor y.desc = some sig → argsL.length = sig.parameters.length)
    (hstack : g.stack = argsL.reverse ++ .ref b :: rest) (hW : 2 * g.monitorRoom + (rest.map fun v => v.category).sum ≤ W9) (hdg : decode c.code g.pc = .ok (.invokevirtual index, 3))
    (hpre : ∀ vm₁, s.WarmedH vm₁ → Pre ⟨T.setVm vm₁, locs, cells, slots⟩ (Value.ref b :: argsL).toArray) :
    ∃ (v : Option Value) (vm₁ : Vm) (B : Pt), s.WarmedH vm₁ ∧ Stand p l e R s m args below meth c B.U B.locs B.cells B.slots ∧ Post ⟨T.setVm vm₁, locs, cells, slots⟩ (Value.ref b :: argsL).toArray v B ∧
      ∀ target, Steps p.tables e below (B.U.setTop { g with pc := g.pc + 3, stack := v.toList ++ rest }) target → Steps p.tables e below (T.setTop g) target := by
  obtain ⟨mk, methM, hnamed, hmethM, hstM, habM⟩ := Cond.instanceMethod_spec hinst
  obtain ⟨m8, methM', cM, hn8, hmethM', -, -, -, -, -, -, hsigM⟩ := Cond.codeWith_spec hcode
  cases Option.some.inj (hn8.symm.trans hnamed)
  cases hmethM.symm.trans hmethM'
  obtain ⟨c2, r2, m2, q1, q2, q3, q4, kP, hkP, hkPi⟩ := Cond.selects_spec hsel
  cases hcls.symm.trans q1
  cases (State.methodFound?_of_named hnamed hy).symm.trans q2
  cases hnamed.symm.trans q3
  have hselP : selectMethod e.platform s.vm cellB.cls mk = .method mk := by rw [Launch.admits_selectMethod X.admits]; exact q4
  obtain ⟨vm₁, X₁, hstep₁⟩ := X.invokevirtual hexec hown hlink hnamed hmethM hstM hkP hkPi hy (a := b) (cell := cellB) hcell
    (fun z h => by rw [h] at hobj; cases hobj) hselP hmethM habM hkP hkPi (g := g) hg (argsL := argsL) (rest := rest) (hlen _ hsigM) hstack hdg
  obtain ⟨v, B, X', hpost, hsteps⟩ := hK m meth c ⟨T.setVm vm₁, locs, cells, slots⟩ { g with stack := rest } (.invokevirtual index) mk (Value.ref b :: argsL).toArray X₁ hg hsize hdg hW (X₁.named hnamed) (hpre vm₁ X₁.warmed)
  exact ⟨v, vm₁, B, X₁.warmed, X', hpost, fun target h => hstep₁ _ fun acts => by rw [doInvoke_state]; exact hsteps.trans h⟩
abbrev vx_CVW (R : Room) (s : State) (args : Array Value) (own C : String) (index : Nat) (y : MethodName) (bytes : ByteArray) (maxL : Nat) (ret : Option FieldType) (hh : List (Nat × Nat × Nat × Nat)) (ws : List Cond) (rm : Room) (mc ms n : Nat) : Prop :=
  (rm.cells = mc ∧ rm.slots = ms ∧ rm.frames + 1 ≤ R.frames ∧ 8 + (maxL + 11) + rm.locals ≤ R.locals ∧ (∀ w ∈ ws, ∀ (a' : Array Value) (U : State), s.WarmedH U.vm → w.before a' U = true) ∧ Cond.codeWith y bytes maxL ret hh ∈ ws) ∧
  (Cond.codeWith y bytes maxL ret hh).before args s = true ∧ (Cond.initialized y.cls).before args s = true ∧ (y.cls ≠ "java/lang/invoke/MethodHandle" ∧ y.cls ≠ "java/lang/invoke/VarHandle") ∧
  (∀ sig, parseMethodDescriptor y.desc = some sig → n = sig.parameters.length) ∧ (Cond.methodLink own index y).before args s = true ∧ (Cond.instanceMethod y).before args s = true ∧ (Cond.selects C y y).before args s = true
theorem vx_cwVW {own C : String} {index maxL mc ms : Nat} {y : MethodName} {bytes : ByteArray} {ret : Option FieldType} {hh : List (Nat × Nat × Nat × Nat)} {Ts ws ws' : List Cond} {rm : Room} (n : Nat) (ht : ∀ w ∈ Ts, w.before args s = true) (hT : GoodIn Ts (wsV own index C y ws)) (hw : ws = Cond.codeWith y bytes maxL ret hh :: ws') (hrc : rm.cells = mc) (hrs : rm.slots = ms)
    (hd : y.cls = C ∧ y.cls ≠ "java/lang/invoke/MethodHandle" ∧ y.cls ≠ "java/lang/invoke/VarHandle" ∧ (parseMethodDescriptor y.desc).map (fun d => d.parameters.length) = some n) (hR : rm.frames + 1 ≤ R.frames ∧ 8 + (maxL + 11) + rm.locals ≤ R.locals) :
    vx_CVW R s args own C index y bytes maxL ret hh ws rm mc ms n := by
  obtain ⟨hC, hd⟩ := hd
  subst hC
  have ok : ∀ w ∈ wsV own index y.cls y ws, w.before args s = true := fun w h => ht w (hT w h).1
  have hG : GoodIn Ts ws := fun w h => hT w (by unfold wsV; exact List.mem_append_right _ h)
  have hc : Cond.codeWith y bytes maxL ret hh ∈ ws := by rw [hw]; exact List.mem_cons_self
  refine ⟨⟨hrc, hrs, hR.1, hR.2, pay_in ht hG, hc⟩, ht _ (hG _ hc).1, ok _ (by simp [wsV]), ⟨hd.1, hd.2.1⟩, fun sig h => ?_, ok _ (by simp [wsV]), ok _ (by simp [wsV]), ok _ (by simp [wsV])⟩
  have h2 := hd.2.2
  rw [h] at h2
  exact (Option.some.inj h2).symm
theorem vx_runVW {y : MethodName} {bytes cc : ByteArray} {maxL nL mc ms n index : Nat} {ret : Option FieldType} {hh : List (Nat × Nat × Nat × Nat)} {ws : List Cond} {rm : Room} {Pc : Array Value → State → Prop} {Qc : Array Value → State → Outcome → State → Prop} {free : Addr → Prop} {Ts : List Cond} {own C : String} {b : Addr} {As rest : List Value} {g : JFrame}
    (S : CallFix p m c cc nL s args Ts own) (hM : Met l y ws rm Pc Qc mc ms free) (cw : vx_CVW R s args own C index y bytes maxL ret hh ws rm mc ms n) (hp : PreV s H C b Pc As)
    (hg : g.method = m) (hn : As.length = n) (hsize : g.locals.size = nL) (hstack : g.stack = As.reverse ++ .ref b :: rest) (hW : 2 * g.monitorRoom + (rest.map fun v => v.category).sum ≤ 8) (hdg : decode cc g.pc = .ok (.invokevirtual index, 3)) (hf : cells + mc ≤ R.cells ∧ slots + ms ≤ R.slots) :
    va_Run p l e R s m args below meth c H locs cells slots mc ms g rest (Qc (Value.ref b :: As).toArray) free := by
  obtain ⟨⟨hrc, hrs, hfr, hlo, hws, hcw⟩, hcode, hini, hy, hlen, hl, hin, hse⟩ := cw
  have hK : Back l R p e below s args y 3 8 (PreOf R mc ms Pc) (PostOf Qc mc ms free) := va_backW (hh := hh) (bytes := bytes) (maxL := maxL) (ret := ret) hM hp.1 hrc hrs hfr hlo hws hcw (fun a' U hW => word_at hW (Or.inl (by first | rfl | simp [Cond.onTables, Cond.keeps, Cond.steady])) hini)
  obtain ⟨hx, hb, hml, ho, -⟩ := S
  obtain ⟨-, ⟨cellB, hcB, hoB, hclB⟩, hPc⟩ := hp
  intro T hT X
  obtain ⟨v, vm₁, ⟨U', l2, c2, s2⟩, hW₁, X', ⟨g', mk, t, L, e1, e2, hq, h1, hL, h2, h3⟩, st⟩ := vx_callVW X hx (C := C) (hh := hh) (bytes := bytes) (maxL := maxL) (ret := ret) ho hl hin hse hcode hy hK (by rw [hT]; exact hcB) hoB hclB hg (hsize.trans hml.symm) (argsL := As) (rest := rest) (fun sig h => hn.trans (hlen sig h)) hstack hW (by rw [hb]; exact hdg)
    (fun vm₁ hW₁ => ⟨hf.1, hf.2, hPc (T.setVm vm₁) hT hW₁⟩)
  dsimp only [Pt.U, Pt.locs, Pt.cells, Pt.slots] at X' e1 e2 h1 h2 h3 st
  subst h1; subst h2; subst h3
  exact ⟨v, (T.setVm vm₁).calling g' mk (Value.ref b :: As).toArray, t, U', L, hT, X', hL, e1, e2, hq, st⟩
section
variable {y : MethodName} {bytes cc : ByteArray} {maxL nL mc ms n index : Nat} {ret : Option FieldType} {ws : List Cond} {rm : Room} {Pc : Array Value → State → Prop} {Qc : Array Value → State → Outcome → State → Prop} {XC : String → State → State → Prop} {free : Addr → Prop} {Ts : List Cond} {own C : String} {b : Addr} {As rest : List Value} {g : JFrame}
theorem vx_runVX {hh : List (Nat × Nat × Nat × Nat)} (S : CallFix p m c cc nL s args Ts own) (hM : vx_Met l y ws rm Pc Qc XC mc ms free) (cw : vx_CVW R s args own C index y bytes maxL ret hh ws rm mc ms n) (hp : PreV s H C b Pc As)
    (hg : g.method = m) (hn : As.length = n) (hsize : g.locals.size = nL) (hstack : g.stack = As.reverse ++ .ref b :: rest) (hW : 2 * g.monitorRoom + (rest.map fun v => v.category).sum ≤ 8) (hdg : decode cc g.pc = .ok (.invokevirtual index, 3)) (hf : cells + mc ≤ R.cells ∧ slots + ms ≤ R.slots) :
    vx_Run p l e R s m args below meth c H locs cells slots mc ms g rest (Qc (Value.ref b :: As).toArray) XC free := by
  obtain ⟨⟨hrc, hrs, hfr, hlo, hws, hcw⟩, hcode, hini, hy, hlen, hl, hin, hse⟩ := cw
  have hK : vx_Back l R p e below s args y 3 8 (PreOf R mc ms Pc) (PostOf Qc mc ms free) (vx_Post XC mc ms free) := vx_backW (hh := hh) (bytes := bytes) (maxL := maxL) (ret := ret) hM hp.1 hrc hrs hfr hlo hws hcw (fun a' U hW => word_at hW (Or.inl (by first | rfl | simp [Cond.onTables, Cond.keeps, Cond.steady])) hini)
  obtain ⟨hx, hb, hml, ho, -⟩ := S
  obtain ⟨-, ⟨cellB, hcB, hoB, hclB⟩, hPc⟩ := hp
  intro T hT X
  rcases vx_callVX X hx (C := C) (hh := hh) (bytes := bytes) (maxL := maxL) (ret := ret) ho hl hin hse hcode hy hK (by rw [hT]; exact hcB) hoB hclB hg (hsize.trans hml.symm) (argsL := As) (rest := rest) (fun sig h => hn.trans (hlen sig h)) hstack hW (by rw [hb]; exact hdg)
    (fun vm₁ hW₁ => ⟨hf.1, hf.2, hPc (T.setVm vm₁) hT hW₁⟩) with ⟨v, vm₁, ⟨U', l2, c2, s2⟩, hW₁, X', ⟨g', mk, t, L, e1, e2, hq, h1, hL, h2, h3⟩, st⟩ | ⟨q, vm₁, ⟨U', l2, c2, s2⟩, hW₁, X', ⟨g', mk, t, L, E, ce, e1, e2, hq, hce, hcv, hcl, h1, hL, h2, h3⟩, st⟩
  · dsimp only [Pt.U, Pt.locs, Pt.cells, Pt.slots] at X' e1 e2 h1 h2 h3 st
    subst h1; subst h2; subst h3
    exact Or.inl ⟨v, (T.setVm vm₁).calling g' mk (Value.ref b :: As).toArray, t, U', L, hT, X', hL, e1, e2, hq, st⟩
  · dsimp only [Pt.U, Pt.locs, Pt.cells, Pt.slots] at X' e1 e2 h1 h2 h3 st hcl
    subst h1; subst h2; subst h3
    exact Or.inr ⟨q, (T.setVm vm₁).calling g' mk (Value.ref b :: As).toArray, t, U', L, E, ce, hT, X', hL, e1, e2, hq, hce, hcv, vx_cls hW₁ hcl, st⟩
theorem vx_runSX {hh : List (Nat × Nat × Nat × Nat)} (S : CallFix p m c cc nL s args Ts own) (hM : vx_Met l y ws rm Pc Qc XC mc ms free) (cw : vx_CSW R s args own index y bytes maxL ret hh ws rm mc ms n) (hp : PreS s H Pc As)
    (hg : g.method = m) (hn : As.length = n) (hsize : g.locals.size = nL) (hstack : g.stack = As.reverse ++ rest) (hW : 2 * g.monitorRoom + (rest.map fun v => v.category).sum ≤ 8) (hdg : decode cc g.pc = .ok (.invokestatic index, 3)) (hf : cells + mc ≤ R.cells ∧ slots + ms ≤ R.slots) :
    vx_Run p l e R s m args below meth c H locs cells slots mc ms g rest (Qc As.toArray) XC free := by
  obtain ⟨⟨hrc, hrs, hfr, hlo, hws, hcw⟩, hcode, hini, hy, hlen, hl, hstt⟩ := cw
  have hK : vx_Back l R p e below s args y 3 8 (PreOf R mc ms Pc) (PostOf Qc mc ms free) (vx_Post XC mc ms free) := vx_backW (hh := hh) (bytes := bytes) (maxL := maxL) (ret := ret) hM hp.1 hrc hrs hfr hlo hws hcw (fun a' U hW => word_at hW (Or.inl (by first | rfl | simp [Cond.onTables, Cond.keeps, Cond.steady])) hini)
  obtain ⟨hx, hb, hml, ho, -⟩ := S
  intro T hT X
  rcases vx_callSX X hx (hh := hh) (bytes := bytes) (maxL := maxL) (ret := ret) ho hl hstt hini hcode hy hK hg (hsize.trans hml.symm) (argsL := As) (rest := rest) (fun sig h => hn.trans (hlen sig h)) hstack hW (by rw [hb]; exact hdg)
    (fun vm₁ hW₁ => ⟨hf.1, hf.2, hp.2 (T.setVm vm₁) hT hW₁⟩) with ⟨v, vm₁, ⟨U', l2, c2, s2⟩, hW₁, X', ⟨g', mk, t, L, e1, e2, hq, h1, hL, h2, h3⟩, st⟩ | ⟨q, vm₁, ⟨U', l2, c2, s2⟩, hW₁, X', ⟨g', mk, t, L, E, ce, e1, e2, hq, hce, hcv, hcl, h1, hL, h2, h3⟩, st⟩
  · dsimp only [Pt.U, Pt.locs, Pt.cells, Pt.slots] at X' e1 e2 h1 h2 h3 st
    subst h1; subst h2; subst h3
    exact Or.inl ⟨v, (T.setVm vm₁).calling g' mk As.toArray, t, U', L, hT, X', hL, e1, e2, hq, st⟩
  · dsimp only [Pt.U, Pt.locs, Pt.cells, Pt.slots] at X' e1 e2 h1 h2 h3 st hcl
    subst h1; subst h2; subst h3
    exact Or.inr ⟨q, (T.setVm vm₁).calling g' mk As.toArray, t, U', L, E, ce, hT, X', hL, e1, e2, hq, hce, hcv, vx_cls hW₁ hcl, st⟩
end
end VXH
theorem vx_ofWH {l : Launch} {y : MethodName} {ws ws' : List Cond} {rm : Room} {Pc : Array Value → State → Prop} {Qc : Array Value → State → Outcome → State → Prop} {XC : String → State → State → Prop} {mc ms : Nat} {free : Addr → Prop} {cc : ByteArray} {maxL : Nat} {ret : Option FieldType} {hh : List (Nat × Nat × Nat × Nat)}
    (hy : plainName y.cls = true) (hw : ws = Cond.codeWith y cc maxL ret hh :: ws')
    (body : ∀ p e s m args below meth c s₁, BodyLoose p l y (headSpec ws rm) cc maxL ret e s m args below meth c s₁ → c.maxLocals = maxL → Pc args s →
      W p l e (headSpec ws rm).room s m args below meth c s.heap [] 0 0 (vx_MQ below Qc XC args s mc ms free) (entryFrame m args maxL)) : vx_Met l y ws rm Pc Qc XC mc ms free := by
  refine MetFree.of_bodyS (code := cc) (maxLocals := maxL) (ret := ret) hy ?_ ?_
  · intro args s m h hn
    obtain ⟨m9, meth, c, hn9, h1, h2, h3, h4, -, h5, h6, -⟩ := Cond.codeWith_spec (atoms_spec (ws := ws) h _ (by rw [hw]; exact List.mem_cons_self))
    cases hn.symm.trans hn9
    exact ⟨meth, c, h1, h2, h3, h4, h5, h6⟩
  · intro p e s m args below meth c s₁ B hml hP _
    have hh0 : s₁.heap = s.heap := by rw [B.state]; rfl
    obtain ⟨t, a1, o, b1, b2, b3⟩ := body p e s m args below meth c s₁ B hml hP s₁ hh0 (Stand.of_body B)
    exact ⟨t, o, a1, b1, b2, b3⟩
/-! ===== END ===== -/
/-! ===== BEGIN printed: names, fields, word lists, decode rows ===== -/
def RX0 : String := "OfflineGates$Cards"
def TX0 : u_T := fun k => match k with
  | 0 => ("OfflineGates$Cards", "count", "I", false)
  | 1 => ("OfflineGates$Cards", "accounts", "LOfflineGates$Row;", true)
  | 2 => ("OfflineGates$Cards", "money", "LOfflineGates$Row;", true)
  | 3 => ("OfflineGates$Cards", "rideCounts", "LOfflineGates$Row;", true)
  | _ => ("OfflineGates$Cards", "latest", "LOfflineGates$Row;", true)
def tyX0 : Nat → FieldType := fun k => match k with
  | 0 => .int
  | 1 => .object "OfflineGates$Row"
  | 2 => .object "OfflineGates$Row"
  | 3 => .object "OfflineGates$Row"
  | _ => .object "OfflineGates$Row"
abbrev wsX00 : List Cond := u_ws RX0 TX0 5
theorem nmX0 : ∀ a, a < 5 → ∀ b, b < 5 → a ≠ b → (TX0 a).2.1 ≠ (TX0 b).2.1 := by decide +kernel
theorem tyX0_ok : ∀ k, k < 5 → parseFieldDescriptor (TX0 k).2.2.1 = some (tyX0 k) := by decide +kernel
abbrev cX0_init : ByteArray := prog_2_method_1_code
def yX0_init : MethodName := ⟨RX0, "<init>", "()V"⟩
abbrev cX0_clear : ByteArray := prog_2_method_2_code
def yX0_clear : MethodName := ⟨RX0, "clear", "()V"⟩
abbrev cX0_copyFrom : ByteArray := prog_2_method_3_code
def yX0_copyFrom : MethodName := ⟨RX0, "copyFrom", "(LOfflineGates$Cards;)V"⟩
abbrev cX0_has : ByteArray := prog_2_method_4_code
def yX0_has : MethodName := ⟨RX0, "has", "(I)Z"⟩
abbrev cX0_isFull : ByteArray := prog_2_method_5_code
def yX0_isFull : MethodName := ⟨RX0, "isFull", "()Z"⟩
abbrev cX0_make : ByteArray := prog_2_method_6_code
def yX0_make : MethodName := ⟨RX0, "make", "(IIII)I"⟩
abbrev cX0_makeTwin : ByteArray := prog_2_method_7_code
def yX0_makeTwin : MethodName := ⟨RX0, "makeTwin", "(I)I"⟩
abbrev cX0_number : ByteArray := prog_2_method_8_code
def yX0_number : MethodName := ⟨RX0, "number", "(II)I"⟩
abbrev cX0_countOf : ByteArray := prog_2_method_9_code
def yX0_countOf : MethodName := ⟨RX0, "countOf", "(I)I"⟩
def RX1 : String := "OfflineGates$Commands"
def TX1 : u_T := fun k => match k with
  | _ => ("", "", "", false)
def tyX1 : Nat → FieldType := fun k => match k with
  | _ => .int
abbrev wsX10 : List Cond := u_ws RX1 TX1 0
theorem nmX1 : ∀ a, a < 0 → ∀ b, b < 0 → a ≠ b → (TX1 a).2.1 ≠ (TX1 b).2.1 := by decide +kernel
theorem tyX1_ok : ∀ k, k < 0 → parseFieldDescriptor (TX1 k).2.2.1 = some (tyX1 k) := by decide +kernel
abbrev cX1_perform : ByteArray := prog_3_method_2_code
def yX1_perform : MethodName := ⟨RX1, "perform", "(LOfflineGates$State;LOfflineGates$DayText;I)Z"⟩
def RX2 : String := "OfflineGates$DayText"
def TX2 : u_T := fun k => match k with
  | 0 => ("OfflineGates$DayText", "signs", "LOfflineGates$Row;", true)
  | _ => ("OfflineGates$DayText", "length", "I", false)
def tyX2 : Nat → FieldType := fun k => match k with
  | 0 => .object "OfflineGates$Row"
  | _ => .int
abbrev wsX20 : List Cond := u_ws RX2 TX2 2
theorem nmX2 : ∀ a, a < 2 → ∀ b, b < 2 → a ≠ b → (TX2 a).2.1 ≠ (TX2 b).2.1 := by decide +kernel
theorem tyX2_ok : ∀ k, k < 2 → parseFieldDescriptor (TX2 k).2.2.1 = some (tyX2 k) := by decide +kernel
abbrev cX2_init : ByteArray := prog_4_method_1_code
def yX2_init : MethodName := ⟨RX2, "<init>", "()V"⟩
abbrev cX2_length : ByteArray := prog_4_method_2_code
def yX2_length : MethodName := ⟨RX2, "length", "()I"⟩
abbrev cX2_sign : ByteArray := prog_4_method_3_code
def yX2_sign : MethodName := ⟨RX2, "sign", "(I)I"⟩
abbrev cX2_digit : ByteArray := prog_4_method_4_code
def yX2_digit : MethodName := ⟨RX2, "digit", "(I)I"⟩
abbrev cX2_twoDigits : ByteArray := prog_4_method_5_code
def yX2_twoDigits : MethodName := ⟨RX2, "twoDigits", "(I)I"⟩
abbrev cX2_add : ByteArray := prog_4_method_6_code
def yX2_add : MethodName := ⟨RX2, "add", "(I)I"⟩
abbrev cX2_empty : ByteArray := prog_4_method_7_code
def yX2_empty : MethodName := ⟨RX2, "empty", "()I"⟩
abbrev cX2_firstError : ByteArray := prog_4_method_8_code
def yX2_firstError : MethodName := ⟨RX2, "firstError", "()I"⟩
abbrev cX2_digitsOf : ByteArray := prog_4_method_9_code
def yX2_digitsOf : MethodName := ⟨RX2, "digitsOf", "(I)I"⟩
abbrev cX2_isAllowed : ByteArray := prog_4_method_10_code
def yX2_isAllowed : MethodName := ⟨RX2, "isAllowed", "(II)Z"⟩
def RX3 : String := "OfflineGates$Gates"
def TX3 : u_T := fun k => match k with
  | 0 => ("OfflineGates$Gates", "fares", "LOfflineGates$Row;", true)
  | 1 => ("OfflineGates$Gates", "keptLists", "LOfflineGates$Row;", true)
  | 2 => ("OfflineGates$Gates", "linesUp", "LOfflineGates$Row;", true)
  | 3 => ("OfflineGates$Gates", "standOpen", "LOfflineGates$Row;", true)
  | 4 => ("OfflineGates$Gates", "logSizes", "LOfflineGates$Row;", true)
  | 5 => ("OfflineGates$Gates", "logAccounts", "LOfflineGates$Row;", true)
  | 6 => ("OfflineGates$Gates", "logCounts", "LOfflineGates$Row;", true)
  | _ => ("OfflineGates$Gates", "logFares", "LOfflineGates$Row;", true)
def tyX3 : Nat → FieldType := fun k => match k with
  | 0 => .object "OfflineGates$Row"
  | 1 => .object "OfflineGates$Row"
  | 2 => .object "OfflineGates$Row"
  | 3 => .object "OfflineGates$Row"
  | 4 => .object "OfflineGates$Row"
  | 5 => .object "OfflineGates$Row"
  | 6 => .object "OfflineGates$Row"
  | _ => .object "OfflineGates$Row"
abbrev wsX30 : List Cond := u_ws RX3 TX3 8
theorem nmX3 : ∀ a, a < 8 → ∀ b, b < 8 → a ≠ b → (TX3 a).2.1 ≠ (TX3 b).2.1 := by decide +kernel
theorem tyX3_ok : ∀ k, k < 8 → parseFieldDescriptor (TX3 k).2.2.1 = some (tyX3 k) := by decide +kernel
abbrev cX3_init : ByteArray := prog_5_method_1_code
def yX3_init : MethodName := ⟨RX3, "<init>", "()V"⟩
abbrev cX3_clear : ByteArray := prog_5_method_2_code
def yX3_clear : MethodName := ⟨RX3, "clear", "()V"⟩
abbrev cX3_copyFrom : ByteArray := prog_5_method_3_code
def yX3_copyFrom : MethodName := ⟨RX3, "copyFrom", "(LOfflineGates$Gates;)V"⟩
abbrev cX3_has : ByteArray := prog_5_method_4_code
def yX3_has : MethodName := ⟨RX3, "has", "(I)Z"⟩
abbrev cX3_isUp : ByteArray := prog_5_method_5_code
def yX3_isUp : MethodName := ⟨RX3, "isUp", "(I)Z"⟩
abbrev cX3_isOpen : ByteArray := prog_5_method_6_code
def yX3_isOpen : MethodName := ⟨RX3, "isOpen", "(I)Z"⟩
abbrev cX3_setLine : ByteArray := prog_5_method_7_code
def yX3_setLine : MethodName := ⟨RX3, "setLine", "(IZ)V"⟩
abbrev cX3_turnOpen : ByteArray := prog_5_method_8_code
def yX3_turnOpen : MethodName := ⟨RX3, "turnOpen", "(I)I"⟩
abbrev cX3_number : ByteArray := prog_5_method_9_code
def yX3_number : MethodName := ⟨RX3, "number", "(II)I"⟩
abbrev cX3_logSize : ByteArray := prog_5_method_10_code
def yX3_logSize : MethodName := ⟨RX3, "logSize", "(I)I"⟩
abbrev cX3_isLogFull : ByteArray := prog_5_method_11_code
def yX3_isLogFull : MethodName := ⟨RX3, "isLogFull", "(I)Z"⟩
abbrev cX3_hasLogged : ByteArray := prog_5_method_12_code
def yX3_hasLogged : MethodName := ⟨RX3, "hasLogged", "(II)Z"⟩
abbrev cX3_loggedNumber : ByteArray := prog_5_method_13_code
def yX3_loggedNumber : MethodName := ⟨RX3, "loggedNumber", "(III)I"⟩
abbrev cX3_writeLog : ByteArray := prog_5_method_14_code
def yX3_writeLog : MethodName := ⟨RX3, "writeLog", "(IIII)V"⟩
abbrev cX3_emptyLog : ByteArray := prog_5_method_15_code
def yX3_emptyLog : MethodName := ⟨RX3, "emptyLog", "(I)V"⟩
abbrev cX3_ridesInLogs : ByteArray := prog_5_method_16_code
def yX3_ridesInLogs : MethodName := ⟨RX3, "ridesInLogs", "(I)I"⟩
abbrev cX3_faresInLogs : ByteArray := prog_5_method_17_code
def yX3_faresInLogs : MethodName := ⟨RX3, "faresInLogs", "(I)I"⟩
abbrev cX3_isOf : ByteArray := prog_5_method_18_code
def yX3_isOf : MethodName := ⟨RX3, "isOf", "(III)Z"⟩
def RX4 : String := "OfflineGates$History"
def TX4 : u_T := fun k => match k with
  | 0 => ("OfflineGates$History", "states", "[LOfflineGates$State;", true)
  | 1 => ("OfflineGates$History", "oldest", "I", false)
  | _ => ("OfflineGates$History", "size", "I", false)
def tyX4 : Nat → FieldType := fun k => match k with
  | 0 => .array (.object "OfflineGates$State")
  | 1 => .int
  | _ => .int
abbrev wsX40 : List Cond := u_ws RX4 TX4 3
theorem nmX4 : ∀ a, a < 3 → ∀ b, b < 3 → a ≠ b → (TX4 a).2.1 ≠ (TX4 b).2.1 := by decide +kernel
theorem tyX4_ok : ∀ k, k < 3 → parseFieldDescriptor (TX4 k).2.2.1 = some (tyX4 k) := by decide +kernel
abbrev cX4_init : ByteArray := prog_6_method_1_code
def yX4_init : MethodName := ⟨RX4, "<init>", "()V"⟩
abbrev cX4_isEmpty : ByteArray := prog_6_method_2_code
def yX4_isEmpty : MethodName := ⟨RX4, "isEmpty", "()Z"⟩
abbrev cX4_clear : ByteArray := prog_6_method_3_code
def yX4_clear : MethodName := ⟨RX4, "clear", "()V"⟩
abbrev cX4_push : ByteArray := prog_6_method_4_code
def yX4_push : MethodName := ⟨RX4, "push", "(LOfflineGates$State;)V"⟩
abbrev cX4_pop : ByteArray := prog_6_method_5_code
def yX4_pop : MethodName := ⟨RX4, "pop", "(LOfflineGates$State;)I"⟩
def RX5 : String := "OfflineGates$Office"
def TX5 : u_T := fun k => match k with
  | 0 => ("OfflineGates$Office", "count", "I", false)
  | 1 => ("OfflineGates$Office", "balance", "LOfflineGates$Row;", true)
  | 2 => ("OfflineGates$Office", "waiting", "LOfflineGates$Row;", true)
  | 3 => ("OfflineGates$Office", "marks", "LOfflineGates$Row;", true)
  | 4 => ("OfflineGates$Office", "settledCounts", "LOfflineGates$Row;", true)
  | _ => ("OfflineGates$Office", "settledBits", "LOfflineGates$Row;", true)
def tyX5 : Nat → FieldType := fun k => match k with
  | 0 => .int
  | 1 => .object "OfflineGates$Row"
  | 2 => .object "OfflineGates$Row"
  | 3 => .object "OfflineGates$Row"
  | 4 => .object "OfflineGates$Row"
  | _ => .object "OfflineGates$Row"
abbrev wsX50 : List Cond := u_ws RX5 TX5 6
theorem nmX5 : ∀ a, a < 6 → ∀ b, b < 6 → a ≠ b → (TX5 a).2.1 ≠ (TX5 b).2.1 := by decide +kernel
theorem tyX5_ok : ∀ k, k < 6 → parseFieldDescriptor (TX5 k).2.2.1 = some (tyX5 k) := by decide +kernel
abbrev cX5_init : ByteArray := prog_7_method_1_code
def yX5_init : MethodName := ⟨RX5, "<init>", "()V"⟩
abbrev cX5_clear : ByteArray := prog_7_method_2_code
def yX5_clear : MethodName := ⟨RX5, "clear", "()V"⟩
abbrev cX5_copyFrom : ByteArray := prog_7_method_3_code
def yX5_copyFrom : MethodName := ⟨RX5, "copyFrom", "(LOfflineGates$Office;)V"⟩
abbrev cX5_has : ByteArray := prog_7_method_4_code
def yX5_has : MethodName := ⟨RX5, "has", "(I)Z"⟩
abbrev cX5_isFull : ByteArray := prog_7_method_5_code
def yX5_isFull : MethodName := ⟨RX5, "isFull", "()Z"⟩
abbrev cX5_make : ByteArray := prog_7_method_6_code
def yX5_make : MethodName := ⟨RX5, "make", "(I)I"⟩
abbrev cX5_isMarked : ByteArray := prog_7_method_7_code
def yX5_isMarked : MethodName := ⟨RX5, "isMarked", "(I)Z"⟩
abbrev cX5_isBlocked : ByteArray := prog_7_method_8_code
def yX5_isBlocked : MethodName := ⟨RX5, "isBlocked", "(I)Z"⟩
abbrev cX5_blockedSet : ByteArray := prog_7_method_9_code
def yX5_blockedSet : MethodName := ⟨RX5, "blockedSet", "()I"⟩
abbrev cX5_payIn : ByteArray := prog_7_method_10_code
def yX5_payIn : MethodName := ⟨RX5, "payIn", "(II)I"⟩
abbrev cX5_takeWaiting : ByteArray := prog_7_method_11_code
def yX5_takeWaiting : MethodName := ⟨RX5, "takeWaiting", "(I)I"⟩
abbrev cX5_unmark : ByteArray := prog_7_method_12_code
def yX5_unmark : MethodName := ⟨RX5, "unmark", "(I)I"⟩
abbrev cX5_settleRide : ByteArray := prog_7_method_13_code
def yX5_settleRide : MethodName := ⟨RX5, "settleRide", "(IIII)Z"⟩
abbrev cX5_wordOf : ByteArray := prog_7_method_14_code
def yX5_wordOf : MethodName := ⟨RX5, "wordOf", "(II)I"⟩
def RX6 : String := "OfflineGates$Row"
def TX6 : u_T := fun k => match k with
  | _ => ("OfflineGates$Row", "cells", "[I", true)
def tyX6 : Nat → FieldType := fun k => match k with
  | _ => .array .int
abbrev wsX60 : List Cond := u_ws RX6 TX6 1
theorem nmX6 : ∀ a, a < 1 → ∀ b, b < 1 → a ≠ b → (TX6 a).2.1 ≠ (TX6 b).2.1 := by decide +kernel
theorem tyX6_ok : ∀ k, k < 1 → parseFieldDescriptor (TX6 k).2.2.1 = some (tyX6 k) := by decide +kernel
abbrev cX6_init : ByteArray := prog_8_method_1_code
def yX6_init : MethodName := ⟨RX6, "<init>", "(I)V"⟩
abbrev cX6_get : ByteArray := prog_8_method_2_code
def yX6_get : MethodName := ⟨RX6, "get", "(I)I"⟩
abbrev cX6_put : ByteArray := prog_8_method_3_code
def yX6_put : MethodName := ⟨RX6, "put", "(II)V"⟩
abbrev cX6_increase : ByteArray := prog_8_method_4_code
def yX6_increase : MethodName := ⟨RX6, "increase", "(II)V"⟩
abbrev cX6_replace : ByteArray := prog_8_method_5_code
def yX6_replace : MethodName := ⟨RX6, "replace", "(II)I"⟩
abbrev cX6_fill : ByteArray := prog_8_method_6_code
def yX6_fill : MethodName := ⟨RX6, "fill", "(I)V"⟩
abbrev cX6_copyFrom : ByteArray := prog_8_method_7_code
def yX6_copyFrom : MethodName := ⟨RX6, "copyFrom", "(LOfflineGates$Row;)V"⟩
def RX7 : String := "OfflineGates$Script"
def TX7 : u_T := fun k => match k with
  | _ => ("", "", "", false)
def tyX7 : Nat → FieldType := fun k => match k with
  | _ => .int
abbrev wsX70 : List Cond := u_ws RX7 TX7 0
theorem nmX7 : ∀ a, a < 0 → ∀ b, b < 0 → a ≠ b → (TX7 a).2.1 ≠ (TX7 b).2.1 := by decide +kernel
theorem tyX7_ok : ∀ k, k < 0 → parseFieldDescriptor (TX7 k).2.2.1 = some (tyX7 k) := by decide +kernel
abbrev cX7_fits : ByteArray := prog_9_method_2_code
def yX7_fits : MethodName := ⟨RX7, "fits", "(IJ)Z"⟩
abbrev cX7_group : ByteArray := prog_9_method_3_code
def yX7_group : MethodName := ⟨RX7, "group", "(IJI)I"⟩
abbrev cX7_succeeds : ByteArray := prog_9_method_4_code
def yX7_succeeds : MethodName := ⟨RX7, "succeeds", "(LOfflineGates$State;I)Z"⟩
def RX8 : String := "OfflineGates$Simulation"
def TX8 : u_T := fun k => match k with
  | _ => ("", "", "", false)
def tyX8 : Nat → FieldType := fun k => match k with
  | _ => .int
abbrev wsX80 : List Cond := u_ws RX8 TX8 0
theorem nmX8 : ∀ a, a < 0 → ∀ b, b < 0 → a ≠ b → (TX8 a).2.1 ≠ (TX8 b).2.1 := by decide +kernel
theorem tyX8_ok : ∀ k, k < 0 → parseFieldDescriptor (TX8 k).2.2.1 = some (tyX8 k) := by decide +kernel
abbrev cX8_turn : ByteArray := prog_10_method_2_code
def yX8_turn : MethodName := ⟨RX8, "turn", "(LOfflineGates$State;I)V"⟩
def RX9 : String := "OfflineGates$Slots"
def TX9 : u_T := fun k => match k with
  | 0 => ("OfflineGates$Slots", "first", "LOfflineGates$State;", true)
  | 1 => ("OfflineGates$Slots", "second", "LOfflineGates$State;", true)
  | 2 => ("OfflineGates$Slots", "firstFilled", "Z", false)
  | _ => ("OfflineGates$Slots", "secondFilled", "Z", false)
def tyX9 : Nat → FieldType := fun k => match k with
  | 0 => .object "OfflineGates$State"
  | 1 => .object "OfflineGates$State"
  | 2 => .boolean
  | _ => .boolean
abbrev wsX90 : List Cond := u_ws RX9 TX9 4
theorem nmX9 : ∀ a, a < 4 → ∀ b, b < 4 → a ≠ b → (TX9 a).2.1 ≠ (TX9 b).2.1 := by decide +kernel
theorem tyX9_ok : ∀ k, k < 4 → parseFieldDescriptor (TX9 k).2.2.1 = some (tyX9 k) := by decide +kernel
abbrev cX9_init : ByteArray := prog_11_method_1_code
def yX9_init : MethodName := ⟨RX9, "<init>", "()V"⟩
abbrev cX9_has : ByteArray := prog_11_method_2_code
def yX9_has : MethodName := ⟨RX9, "has", "(I)Z"⟩
abbrev cX9_isFilled : ByteArray := prog_11_method_3_code
def yX9_isFilled : MethodName := ⟨RX9, "isFilled", "(I)Z"⟩
abbrev cX9_clear : ByteArray := prog_11_method_4_code
def yX9_clear : MethodName := ⟨RX9, "clear", "()V"⟩
abbrev cX9_store : ByteArray := prog_11_method_5_code
def yX9_store : MethodName := ⟨RX9, "store", "(ILOfflineGates$State;)V"⟩
abbrev cX9_fetch : ByteArray := prog_11_method_6_code
def yX9_fetch : MethodName := ⟨RX9, "fetch", "(ILOfflineGates$State;)V"⟩
def RX10 : String := "OfflineGates$State"
def TX10 : u_T := fun k => match k with
  | 0 => ("OfflineGates$State", "cards", "LOfflineGates$Cards;", true)
  | 1 => ("OfflineGates$State", "office", "LOfflineGates$Office;", true)
  | 2 => ("OfflineGates$State", "gates", "LOfflineGates$Gates;", true)
  | 3 => ("OfflineGates$State", "settings", "LOfflineGates$Row;", true)
  | 4 => ("OfflineGates$State", "minute", "I", false)
  | 5 => ("OfflineGates$State", "settled", "I", false)
  | 6 => ("OfflineGates$State", "settledFares", "I", false)
  | 7 => ("OfflineGates$State", "doubles", "I", false)
  | 8 => ("OfflineGates$State", "refused", "I", false)
  | _ => ("OfflineGates$State", "unwritten", "I", false)
def tyX10 : Nat → FieldType := fun k => match k with
  | 0 => .object "OfflineGates$Cards"
  | 1 => .object "OfflineGates$Office"
  | 2 => .object "OfflineGates$Gates"
  | 3 => .object "OfflineGates$Row"
  | 4 => .int
  | 5 => .int
  | 6 => .int
  | 7 => .int
  | 8 => .int
  | _ => .int
abbrev wsX100 : List Cond := u_ws RX10 TX10 10
theorem nmX10 : ∀ a, a < 10 → ∀ b, b < 10 → a ≠ b → (TX10 a).2.1 ≠ (TX10 b).2.1 := by decide +kernel
theorem tyX10_ok : ∀ k, k < 10 → parseFieldDescriptor (TX10 k).2.2.1 = some (tyX10 k) := by decide +kernel
abbrev cX10_init : ByteArray := prog_12_method_1_code
def yX10_init : MethodName := ⟨RX10, "<init>", "()V"⟩
abbrev cX10_clear : ByteArray := prog_12_method_2_code
def yX10_clear : MethodName := ⟨RX10, "clear", "()V"⟩
abbrev cX10_copyFrom : ByteArray := prog_12_method_3_code
def yX10_copyFrom : MethodName := ⟨RX10, "copyFrom", "(LOfflineGates$State;)V"⟩
abbrev cX10_mostOfSetting : ByteArray := prog_12_method_4_code
def yX10_mostOfSetting : MethodName := ⟨RX10, "mostOfSetting", "(I)I"⟩
abbrev cX10_letsThrough : ByteArray := prog_12_method_5_code
def yX10_letsThrough : MethodName := ⟨RX10, "letsThrough", "(I)Z"⟩
abbrev cX10_total : ByteArray := prog_12_method_6_code
def yX10_total : MethodName := ⟨RX10, "total", "(I)I"⟩
abbrev cX10_accountNumber : ByteArray := prog_12_method_7_code
def yX10_accountNumber : MethodName := ⟨RX10, "accountNumber", "(II)I"⟩
abbrev cX10_listAt : ByteArray := prog_12_method_8_code
def yX10_listAt : MethodName := ⟨RX10, "listAt", "(I)I"⟩
abbrev cX10_hasRoomForAccount : ByteArray := prog_12_method_9_code
def yX10_hasRoomForAccount : MethodName := ⟨RX10, "hasRoomForAccount", "()Z"⟩
abbrev cX10_makeAccount : ByteArray := prog_12_method_10_code
def yX10_makeAccount : MethodName := ⟨RX10, "makeAccount", "(I)I"⟩
abbrev cX10_takeDown : ByteArray := prog_12_method_11_code
def yX10_takeDown : MethodName := ⟨RX10, "takeDown", "(I)I"⟩
abbrev cX10_bringUp : ByteArray := prog_12_method_12_code
def yX10_bringUp : MethodName := ⟨RX10, "bringUp", "(I)I"⟩
abbrev cX10_settle : ByteArray := prog_12_method_13_code
def yX10_settle : MethodName := ⟨RX10, "settle", "(III)V"⟩
abbrev cX10_showCard : ByteArray := prog_12_method_14_code
def yX10_showCard : MethodName := ⟨RX10, "showCard", "(II)I"⟩
abbrev cX10_judge : ByteArray := prog_12_method_15_code
def yX10_judge : MethodName := ⟨RX10, "judge", "(II)I"⟩
abbrev cX10_isOnList : ByteArray := prog_12_method_16_code
def yX10_isOnList : MethodName := ⟨RX10, "isOnList", "(II)Z"⟩
abbrev cX10_takeRide : ByteArray := prog_12_method_17_code
def yX10_takeRide : MethodName := ⟨RX10, "takeRide", "(II)V"⟩
abbrev cX10_tryIssue : ByteArray := prog_12_method_18_code
def yX10_tryIssue : MethodName := ⟨RX10, "tryIssue", "(I)Z"⟩
abbrev cX10_tryCopy : ByteArray := prog_12_method_19_code
def yX10_tryCopy : MethodName := ⟨RX10, "tryCopy", "(I)Z"⟩
abbrev cX10_tryPay : ByteArray := prog_12_method_20_code
def yX10_tryPay : MethodName := ⟨RX10, "tryPay", "(II)Z"⟩
abbrev cX10_tryPardon : ByteArray := prog_12_method_21_code
def yX10_tryPardon : MethodName := ⟨RX10, "tryPardon", "(I)Z"⟩
abbrev cX10_tryDown : ByteArray := prog_12_method_22_code
def yX10_tryDown : MethodName := ⟨RX10, "tryDown", "(I)Z"⟩
abbrev cX10_tryUp : ByteArray := prog_12_method_23_code
def yX10_tryUp : MethodName := ⟨RX10, "tryUp", "(I)Z"⟩
abbrev cX10_tryOpen : ByteArray := prog_12_method_24_code
def yX10_tryOpen : MethodName := ⟨RX10, "tryOpen", "(I)Z"⟩
abbrev cX10_tryRun : ByteArray := prog_12_method_25_code
def yX10_tryRun : MethodName := ⟨RX10, "tryRun", "(I)Z"⟩
def RX11 : String := "OfflineGates"
def TX11 : u_T := fun k => match k with
  | 0 => ("OfflineGates", "state", "LOfflineGates$State;", true)
  | 1 => ("OfflineGates", "scratch", "LOfflineGates$State;", true)
  | 2 => ("OfflineGates", "text", "LOfflineGates$DayText;", true)
  | 3 => ("OfflineGates", "history", "LOfflineGates$History;", true)
  | _ => ("OfflineGates", "slots", "LOfflineGates$Slots;", true)
def tyX11 : Nat → FieldType := fun k => match k with
  | 0 => .object "OfflineGates$State"
  | 1 => .object "OfflineGates$State"
  | 2 => .object "OfflineGates$DayText"
  | 3 => .object "OfflineGates$History"
  | _ => .object "OfflineGates$Slots"
abbrev wsX110 : List Cond := u_ws RX11 TX11 5
theorem nmX11 : ∀ a, a < 5 → ∀ b, b < 5 → a ≠ b → (TX11 a).2.1 ≠ (TX11 b).2.1 := by decide +kernel
theorem tyX11_ok : ∀ k, k < 5 → parseFieldDescriptor (TX11 k).2.2.1 = some (tyX11 k) := by decide +kernel
abbrev cX11_init : ByteArray := prog_1_method_1_code
def yX11_init : MethodName := ⟨RX11, "<init>", "()V"⟩
abbrev cX11_append : ByteArray := prog_1_method_2_code
def yX11_append : MethodName := ⟨RX11, "append", "(I)I"⟩
abbrev cX11_clearText : ByteArray := prog_1_method_3_code
def yX11_clearText : MethodName := ⟨RX11, "clearText", "()I"⟩
abbrev cX11_errorPosition : ByteArray := prog_1_method_4_code
def yX11_errorPosition : MethodName := ⟨RX11, "errorPosition", "()I"⟩
abbrev cX11_load : ByteArray := prog_1_method_5_code
def yX11_load : MethodName := ⟨RX11, "load", "()I"⟩
abbrev cX11_about : ByteArray := prog_1_method_6_code
def yX11_about : MethodName := ⟨RX11, "about", "(I)I"⟩
abbrev cX11_card : ByteArray := prog_1_method_7_code
def yX11_card : MethodName := ⟨RX11, "card", "(II)I"⟩
abbrev cX11_account : ByteArray := prog_1_method_8_code
def yX11_account : MethodName := ⟨RX11, "account", "(II)I"⟩
abbrev cX11_gate : ByteArray := prog_1_method_9_code
def yX11_gate : MethodName := ⟨RX11, "gate", "(II)I"⟩
abbrev cX11_logged : ByteArray := prog_1_method_10_code
def yX11_logged : MethodName := ⟨RX11, "logged", "(III)I"⟩
abbrev cX11_setting : ByteArray := prog_1_method_11_code
def yX11_setting : MethodName := ⟨RX11, "setting", "(I)I"⟩
abbrev cX11_issue : ByteArray := prog_1_method_12_code
def yX11_issue : MethodName := ⟨RX11, "issue", "(I)I"⟩
abbrev cX11_copy : ByteArray := prog_1_method_13_code
def yX11_copy : MethodName := ⟨RX11, "copy", "(I)I"⟩
abbrev cX11_ride : ByteArray := prog_1_method_14_code
def yX11_ride : MethodName := ⟨RX11, "ride", "(II)I"⟩
abbrev cX11_pay : ByteArray := prog_1_method_15_code
def yX11_pay : MethodName := ⟨RX11, "pay", "(II)I"⟩
abbrev cX11_pardon : ByteArray := prog_1_method_16_code
def yX11_pardon : MethodName := ⟨RX11, "pardon", "(I)I"⟩
abbrev cX11_down : ByteArray := prog_1_method_17_code
def yX11_down : MethodName := ⟨RX11, "down", "(I)I"⟩
abbrev cX11_up : ByteArray := prog_1_method_18_code
def yX11_up : MethodName := ⟨RX11, "up", "(I)I"⟩
abbrev cX11_open : ByteArray := prog_1_method_19_code
def yX11_open : MethodName := ⟨RX11, "open", "(I)I"⟩
abbrev cX11_fare : ByteArray := prog_1_method_20_code
def yX11_fare : MethodName := ⟨RX11, "fare", "(II)I"⟩
abbrev cX11_run : ByteArray := prog_1_method_21_code
def yX11_run : MethodName := ⟨RX11, "run", "(I)I"⟩
abbrev cX11_set : ByteArray := prog_1_method_22_code
def yX11_set : MethodName := ⟨RX11, "set", "(II)I"⟩
abbrev cX11_undo : ByteArray := prog_1_method_23_code
def yX11_undo : MethodName := ⟨RX11, "undo", "()I"⟩
abbrev cX11_would : ByteArray := prog_1_method_24_code
def yX11_would : MethodName := ⟨RX11, "would", "(II)I"⟩
abbrev cX11_rides : ByteArray := prog_1_method_25_code
def yX11_rides : MethodName := ⟨RX11, "rides", "(II)I"⟩
abbrev cX11_ifUp : ByteArray := prog_1_method_26_code
def yX11_ifUp : MethodName := ⟨RX11, "ifUp", "(II)I"⟩
abbrev cX11_bestUp : ByteArray := prog_1_method_27_code
def yX11_bestUp : MethodName := ⟨RX11, "bestUp", "()I"⟩
abbrev cX11_worst : ByteArray := prog_1_method_28_code
def yX11_worst : MethodName := ⟨RX11, "worst", "()I"⟩
abbrev cX11_owes : ByteArray := prog_1_method_29_code
def yX11_owes : MethodName := ⟨RX11, "owes", "(I)I"⟩
abbrev cX11_runScript : ByteArray := prog_1_method_30_code
def yX11_runScript : MethodName := ⟨RX11, "runScript", "(IJ)I"⟩
abbrev cX11_simulate : ByteArray := prog_1_method_31_code
def yX11_simulate : MethodName := ⟨RX11, "simulate", "(JI)I"⟩
abbrev cX11_save : ByteArray := prog_1_method_32_code
def yX11_save : MethodName := ⟨RX11, "save", "(I)I"⟩
abbrev cX11_restore : ByteArray := prog_1_method_33_code
def yX11_restore : MethodName := ⟨RX11, "restore", "(I)I"⟩
abbrev cX11_remember : ByteArray := prog_1_method_34_code
def yX11_remember : MethodName := ⟨RX11, "remember", "()V"⟩
abbrev cX11_numberIfUp : ByteArray := prog_1_method_35_code
def yX11_numberIfUp : MethodName := ⟨RX11, "numberIfUp", "(II)I"⟩
abbrev cX11_needRange : ByteArray := prog_1_method_36_code
def yX11_needRange : MethodName := ⟨RX11, "needRange", "(III)V"⟩
abbrev cX11_needArgument : ByteArray := prog_1_method_37_code
def yX11_needArgument : MethodName := ⟨RX11, "needArgument", "(Z)V"⟩
abbrev cX11_needThere : ByteArray := prog_1_method_38_code
def yX11_needThere : MethodName := ⟨RX11, "needThere", "(Z)V"⟩
abbrev cX11_needState : ByteArray := prog_1_method_39_code
def yX11_needState : MethodName := ⟨RX11, "needState", "(Z)V"⟩
def RX12 : String := "OfflineGatesModel"
def TX12 : u_T := fun k => match k with
  | 0 => ("OfflineGatesModel", "refusal", "I", false)
  | 1 => ("OfflineGatesModel", "text", "[I", true)
  | 2 => ("OfflineGatesModel", "size", "I", false)
  | 3 => ("OfflineGatesModel", "now", "[I", true)
  | 4 => ("OfflineGatesModel", "trial", "[I", true)
  | 5 => ("OfflineGatesModel", "apart", "[I", true)
  | 6 => ("OfflineGatesModel", "diary", "[I", true)
  | 7 => ("OfflineGatesModel", "acts", "I", false)
  | 8 => ("OfflineGatesModel", "kept", "[I", true)
  | 9 => ("OfflineGatesModel", "isKept", "[Z", true)
  | 10 => ("OfflineGatesModel", "spot", "I", false)
  | _ => ("OfflineGatesModel", "out", "I", false)
def tyX12 : Nat → FieldType := fun k => match k with
  | 0 => .int
  | 1 => .array .int
  | 2 => .int
  | 3 => .array .int
  | 4 => .array .int
  | 5 => .array .int
  | 6 => .array .int
  | 7 => .int
  | 8 => .array .int
  | 9 => .array .boolean
  | 10 => .int
  | _ => .int
abbrev wsX120 : List Cond := u_ws RX12 TX12 12
theorem nmX12 : ∀ a, a < 12 → ∀ b, b < 12 → a ≠ b → (TX12 a).2.1 ≠ (TX12 b).2.1 := by decide +kernel
theorem tyX12_ok : ∀ k, k < 12 → parseFieldDescriptor (TX12 k).2.2.1 = some (tyX12 k) := by decide +kernel
abbrev cX12_init : ByteArray := prog_14_method_1_code
def yX12_init : MethodName := ⟨RX12, "<init>", "()V"⟩
abbrev cX12_thrown : ByteArray := prog_14_method_2_code
def yX12_thrown : MethodName := ⟨RX12, "thrown", "()I"⟩
abbrev cX12_refused : ByteArray := prog_14_method_3_code
def yX12_refused : MethodName := ⟨RX12, "refused", "(I)Z"⟩
abbrev cX12_in : ByteArray := prog_14_method_4_code
def yX12_in : MethodName := ⟨RX12, "in", "(JJJ)Z"⟩
abbrev cX12_copyState : ByteArray := prog_14_method_5_code
def yX12_copyState : MethodName := ⟨RX12, "copyState", "([II[II)V"⟩
abbrev cX12_begin : ByteArray := prog_14_method_6_code
def yX12_begin : MethodName := ⟨RX12, "begin", "([I)V"⟩
abbrev cX12_cardAt : ByteArray := prog_14_method_7_code
def yX12_cardAt : MethodName := ⟨RX12, "cardAt", "(I)I"⟩
abbrev cX12_accountAt : ByteArray := prog_14_method_8_code
def yX12_accountAt : MethodName := ⟨RX12, "accountAt", "(I)I"⟩
abbrev cX12_gateAt : ByteArray := prog_14_method_9_code
def yX12_gateAt : MethodName := ⟨RX12, "gateAt", "(I)I"⟩
abbrev cX12_logAt : ByteArray := prog_14_method_10_code
def yX12_logAt : MethodName := ⟨RX12, "logAt", "(II)I"⟩
abbrev cX12_isCard : ByteArray := prog_14_method_11_code
def yX12_isCard : MethodName := ⟨RX12, "isCard", "([II)Z"⟩
abbrev cX12_isAccount : ByteArray := prog_14_method_12_code
def yX12_isAccount : MethodName := ⟨RX12, "isAccount", "([II)Z"⟩
abbrev cX12_isGate : ByteArray := prog_14_method_13_code
def yX12_isGate : MethodName := ⟨RX12, "isGate", "(I)Z"⟩
abbrev cX12_isUp : ByteArray := prog_14_method_14_code
def yX12_isUp : MethodName := ⟨RX12, "isUp", "([II)Z"⟩
abbrev cX12_isBlocked : ByteArray := prog_14_method_15_code
def yX12_isBlocked : MethodName := ⟨RX12, "isBlocked", "([II)Z"⟩
abbrev cX12_blocked : ByteArray := prog_14_method_16_code
def yX12_blocked : MethodName := ⟨RX12, "blocked", "([I)I"⟩
abbrev cX12_list : ByteArray := prog_14_method_17_code
def yX12_list : MethodName := ⟨RX12, "list", "([II)I"⟩
abbrev cX12_isSettled : ByteArray := prog_14_method_18_code
def yX12_isSettled : MethodName := ⟨RX12, "isSettled", "([III)Z"⟩
abbrev cX12_settle : ByteArray := prog_14_method_19_code
def yX12_settle : MethodName := ⟨RX12, "settle", "([IIII)Z"⟩
abbrev cX12_upOn : ByteArray := prog_14_method_20_code
def yX12_upOn : MethodName := ⟨RX12, "upOn", "([II)I"⟩
abbrev cX12_downOn : ByteArray := prog_14_method_21_code
def yX12_downOn : MethodName := ⟨RX12, "downOn", "([II)I"⟩
abbrev cX12_comesTo : ByteArray := prog_14_method_22_code
def yX12_comesTo : MethodName := ⟨RX12, "comesTo", "([III)I"⟩
abbrev cX12_rideOn : ByteArray := prog_14_method_23_code
def yX12_rideOn : MethodName := ⟨RX12, "rideOn", "([III)I"⟩
abbrev cX12_isThrough : ByteArray := prog_14_method_24_code
def yX12_isThrough : MethodName := ⟨RX12, "isThrough", "(I)Z"⟩
abbrev cX12_canIssue : ByteArray := prog_14_method_25_code
def yX12_canIssue : MethodName := ⟨RX12, "canIssue", "([I)Z"⟩
abbrev cX12_issueOn : ByteArray := prog_14_method_26_code
def yX12_issueOn : MethodName := ⟨RX12, "issueOn", "([II)I"⟩
abbrev cX12_canCopy : ByteArray := prog_14_method_27_code
def yX12_canCopy : MethodName := ⟨RX12, "canCopy", "([II)Z"⟩
abbrev cX12_copyOn : ByteArray := prog_14_method_28_code
def yX12_copyOn : MethodName := ⟨RX12, "copyOn", "([II)I"⟩
abbrev cX12_payOn : ByteArray := prog_14_method_29_code
def yX12_payOn : MethodName := ⟨RX12, "payOn", "([III)I"⟩
abbrev cX12_openOn : ByteArray := prog_14_method_30_code
def yX12_openOn : MethodName := ⟨RX12, "openOn", "([II)I"⟩
abbrev cX12_runOn : ByteArray := prog_14_method_31_code
def yX12_runOn : MethodName := ⟨RX12, "runOn", "([II)I"⟩
abbrev cX12_isSetting : ByteArray := prog_14_method_32_code
def yX12_isSetting : MethodName := ⟨RX12, "isSetting", "(II)Z"⟩
abbrev cX12_append : ByteArray := prog_14_method_33_code
def yX12_append : MethodName := ⟨RX12, "append", "(I)I"⟩
abbrev cX12_clearText : ByteArray := prog_14_method_34_code
def yX12_clearText : MethodName := ⟨RX12, "clearText", "()I"⟩
abbrev cX12_figures : ByteArray := prog_14_method_35_code
def yX12_figures : MethodName := ⟨RX12, "figures", "(IIII)I"⟩
abbrev cX12_done : ByteArray := prog_14_method_36_code
def yX12_done : MethodName := ⟨RX12, "done", "(Z)Z"⟩
abbrev cX12_doesLine : ByteArray := prog_14_method_37_code
def yX12_doesLine : MethodName := ⟨RX12, "doesLine", "([IIZ)Z"⟩
abbrev cX12_readCommand : ByteArray := prog_14_method_38_code
def yX12_readCommand : MethodName := ⟨RX12, "readCommand", "([I)Z"⟩
abbrev cX12_readText : ByteArray := prog_14_method_39_code
def yX12_readText : MethodName := ⟨RX12, "readText", "([I)I"⟩
abbrev cX12_errorPosition : ByteArray := prog_14_method_40_code
def yX12_errorPosition : MethodName := ⟨RX12, "errorPosition", "()I"⟩
abbrev cX12_load : ByteArray := prog_14_method_41_code
def yX12_load : MethodName := ⟨RX12, "load", "()I"⟩
abbrev cX12_inLogs : ByteArray := prog_14_method_42_code
def yX12_inLogs : MethodName := ⟨RX12, "inLogs", "([IIZ)I"⟩
abbrev cX12_about : ByteArray := prog_14_method_43_code
def yX12_about : MethodName := ⟨RX12, "about", "(I)I"⟩
abbrev cX12_card : ByteArray := prog_14_method_44_code
def yX12_card : MethodName := ⟨RX12, "card", "(II)I"⟩
abbrev cX12_cardsOf : ByteArray := prog_14_method_45_code
def yX12_cardsOf : MethodName := ⟨RX12, "cardsOf", "([II)I"⟩
abbrev cX12_account : ByteArray := prog_14_method_46_code
def yX12_account : MethodName := ⟨RX12, "account", "(II)I"⟩
abbrev cX12_gate : ByteArray := prog_14_method_47_code
def yX12_gate : MethodName := ⟨RX12, "gate", "(II)I"⟩
abbrev cX12_logged : ByteArray := prog_14_method_48_code
def yX12_logged : MethodName := ⟨RX12, "logged", "(III)I"⟩
abbrev cX12_setting : ByteArray := prog_14_method_49_code
def yX12_setting : MethodName := ⟨RX12, "setting", "(I)I"⟩
abbrev cX12_remember : ByteArray := prog_14_method_50_code
def yX12_remember : MethodName := ⟨RX12, "remember", "()V"⟩
abbrev cX12_issue : ByteArray := prog_14_method_51_code
def yX12_issue : MethodName := ⟨RX12, "issue", "(I)I"⟩
abbrev cX12_copy : ByteArray := prog_14_method_52_code
def yX12_copy : MethodName := ⟨RX12, "copy", "(I)I"⟩
abbrev cX12_ride : ByteArray := prog_14_method_53_code
def yX12_ride : MethodName := ⟨RX12, "ride", "(II)I"⟩
abbrev cX12_pay : ByteArray := prog_14_method_54_code
def yX12_pay : MethodName := ⟨RX12, "pay", "(II)I"⟩
abbrev cX12_canPardon : ByteArray := prog_14_method_55_code
def yX12_canPardon : MethodName := ⟨RX12, "canPardon", "([II)Z"⟩
abbrev cX12_pardon : ByteArray := prog_14_method_56_code
def yX12_pardon : MethodName := ⟨RX12, "pardon", "(I)I"⟩
abbrev cX12_down : ByteArray := prog_14_method_57_code
def yX12_down : MethodName := ⟨RX12, "down", "(I)I"⟩
abbrev cX12_up : ByteArray := prog_14_method_58_code
def yX12_up : MethodName := ⟨RX12, "up", "(I)I"⟩
abbrev cX12_open : ByteArray := prog_14_method_59_code
def yX12_open : MethodName := ⟨RX12, "open", "(I)I"⟩
abbrev cX12_fare : ByteArray := prog_14_method_60_code
def yX12_fare : MethodName := ⟨RX12, "fare", "(II)I"⟩
abbrev cX12_run : ByteArray := prog_14_method_61_code
def yX12_run : MethodName := ⟨RX12, "run", "(I)I"⟩
abbrev cX12_set : ByteArray := prog_14_method_62_code
def yX12_set : MethodName := ⟨RX12, "set", "(II)I"⟩
abbrev cX12_undo : ByteArray := prog_14_method_63_code
def yX12_undo : MethodName := ⟨RX12, "undo", "()I"⟩
abbrev cX12_would : ByteArray := prog_14_method_64_code
def yX12_would : MethodName := ⟨RX12, "would", "(II)I"⟩
abbrev cX12_rides : ByteArray := prog_14_method_65_code
def yX12_rides : MethodName := ⟨RX12, "rides", "(II)I"⟩
abbrev cX12_brings : ByteArray := prog_14_method_66_code
def yX12_brings : MethodName := ⟨RX12, "brings", "(II)I"⟩
abbrev cX12_ifUp : ByteArray := prog_14_method_67_code
def yX12_ifUp : MethodName := ⟨RX12, "ifUp", "(II)I"⟩
abbrev cX12_bestUp : ByteArray := prog_14_method_68_code
def yX12_bestUp : MethodName := ⟨RX12, "bestUp", "()I"⟩
abbrev cX12_standing : ByteArray := prog_14_method_69_code
def yX12_standing : MethodName := ⟨RX12, "standing", "([II)I"⟩
abbrev cX12_worst : ByteArray := prog_14_method_70_code
def yX12_worst : MethodName := ⟨RX12, "worst", "()I"⟩
abbrev cX12_owes : ByteArray := prog_14_method_71_code
def yX12_owes : MethodName := ⟨RX12, "owes", "(I)I"⟩
abbrev cX12_command : ByteArray := prog_14_method_72_code
def yX12_command : MethodName := ⟨RX12, "command", "([IIIII)Z"⟩
abbrev cX12_runScript : ByteArray := prog_14_method_73_code
def yX12_runScript : MethodName := ⟨RX12, "runScript", "(IJ)I"⟩
abbrev cX12_turn : ByteArray := prog_14_method_74_code
def yX12_turn : MethodName := ⟨RX12, "turn", "([II)V"⟩
abbrev cX12_simulate : ByteArray := prog_14_method_75_code
def yX12_simulate : MethodName := ⟨RX12, "simulate", "(JI)I"⟩
abbrev cX12_save : ByteArray := prog_14_method_76_code
def yX12_save : MethodName := ⟨RX12, "save", "(I)I"⟩
abbrev cX12_restore : ByteArray := prog_14_method_77_code
def yX12_restore : MethodName := ⟨RX12, "restore", "(I)I"⟩
def RJ9 : String := "java/lang/Math"
def TJ9 : u_T := fun k => match k with
  | _ => ("", "", "", false)
def tyJ9 : Nat → FieldType := fun k => match k with
  | _ => .int
abbrev wsJ90 : List Cond := u_ws RJ9 TJ9 0
theorem nmJ9 : ∀ a, a < 0 → ∀ b, b < 0 → a ≠ b → (TJ9 a).2.1 ≠ (TJ9 b).2.1 := by decide +kernel
theorem tyJ9_ok : ∀ k, k < 0 → parseFieldDescriptor (TJ9 k).2.2.1 = some (tyJ9 k) := by decide +kernel
abbrev cJ9_max_7cf53 : ByteArray := prog_19_method_65_code
def yJ9_max_7cf53 : MethodName := ⟨RJ9, "max", "(II)I"⟩
abbrev cJ9_min_7cf53 : ByteArray := prog_19_method_69_code
def yJ9_min_7cf53 : MethodName := ⟨RJ9, "min", "(II)I"⟩
def RJ0 : String := "java/lang/String"
def TJ0 : u_T := fun k => match k with
  | _ => ("", "", "", false)
def tyJ0 : Nat → FieldType := fun k => match k with
  | _ => .int
abbrev wsJ00 : List Cond := u_ws RJ0 TJ0 0
theorem nmJ0 : ∀ a, a < 0 → ∀ b, b < 0 → a ≠ b → (TJ0 a).2.1 ≠ (TJ0 b).2.1 := by decide +kernel
theorem tyJ0_ok : ∀ k, k < 0 → parseFieldDescriptor (TJ0 k).2.2.1 = some (tyJ0 k) := by decide +kernel
def RJ10 : String := "java/lang/System"
def TJ10 : u_T := fun k => match k with
  | _ => ("", "", "", false)
def tyJ10 : Nat → FieldType := fun k => match k with
  | _ => .int
abbrev wsJ100 : List Cond := u_ws RJ10 TJ10 0
theorem nmJ10 : ∀ a, a < 0 → ∀ b, b < 0 → a ≠ b → (TJ10 a).2.1 ≠ (TJ10 b).2.1 := by decide +kernel
theorem tyJ10_ok : ∀ k, k < 0 → parseFieldDescriptor (TJ10 k).2.2.1 = some (tyJ10 k) := by decide +kernel
def RL : String := "OfflineGatesLaw"
abbrev cL_append : ByteArray := method_3_code
def yL_append : MethodName := ⟨RL, "append", "(LOfflineGates;I[J)I"⟩
abbrev cL_load : ByteArray := method_4_code
def yL_load : MethodName := ⟨RL, "load", "(LOfflineGates;[J)I"⟩
abbrev cL_about : ByteArray := method_5_code
def yL_about : MethodName := ⟨RL, "about", "(LOfflineGates;I[J)I"⟩
abbrev cL_card : ByteArray := method_6_code
def yL_card : MethodName := ⟨RL, "card", "(LOfflineGates;II[J)I"⟩
abbrev cL_account : ByteArray := method_7_code
def yL_account : MethodName := ⟨RL, "account", "(LOfflineGates;II[J)I"⟩
abbrev cL_gate : ByteArray := method_8_code
def yL_gate : MethodName := ⟨RL, "gate", "(LOfflineGates;II[J)I"⟩
abbrev cL_logged : ByteArray := method_9_code
def yL_logged : MethodName := ⟨RL, "logged", "(LOfflineGates;III[J)I"⟩
abbrev cL_setting : ByteArray := method_10_code
def yL_setting : MethodName := ⟨RL, "setting", "(LOfflineGates;I[J)I"⟩
abbrev cL_issue : ByteArray := method_11_code
def yL_issue : MethodName := ⟨RL, "issue", "(LOfflineGates;I[J)I"⟩
abbrev cL_copy : ByteArray := method_12_code
def yL_copy : MethodName := ⟨RL, "copy", "(LOfflineGates;I[J)I"⟩
abbrev cL_ride : ByteArray := method_13_code
def yL_ride : MethodName := ⟨RL, "ride", "(LOfflineGates;II[J)I"⟩
abbrev cL_pay : ByteArray := method_14_code
def yL_pay : MethodName := ⟨RL, "pay", "(LOfflineGates;II[J)I"⟩
abbrev cL_pardon : ByteArray := method_15_code
def yL_pardon : MethodName := ⟨RL, "pardon", "(LOfflineGates;I[J)I"⟩
abbrev cL_down : ByteArray := method_16_code
def yL_down : MethodName := ⟨RL, "down", "(LOfflineGates;I[J)I"⟩
abbrev cL_up : ByteArray := method_17_code
def yL_up : MethodName := ⟨RL, "up", "(LOfflineGates;I[J)I"⟩
abbrev cL_open : ByteArray := method_18_code
def yL_open : MethodName := ⟨RL, "open", "(LOfflineGates;I[J)I"⟩
abbrev cL_fare : ByteArray := method_19_code
def yL_fare : MethodName := ⟨RL, "fare", "(LOfflineGates;II[J)I"⟩
abbrev cL_run : ByteArray := method_20_code
def yL_run : MethodName := ⟨RL, "run", "(LOfflineGates;I[J)I"⟩
abbrev cL_set : ByteArray := method_21_code
def yL_set : MethodName := ⟨RL, "set", "(LOfflineGates;II[J)I"⟩
abbrev cL_undo : ByteArray := method_22_code
def yL_undo : MethodName := ⟨RL, "undo", "(LOfflineGates;[J)I"⟩
abbrev cL_would : ByteArray := method_23_code
def yL_would : MethodName := ⟨RL, "would", "(LOfflineGates;II[J)I"⟩
abbrev cL_rides : ByteArray := method_24_code
def yL_rides : MethodName := ⟨RL, "rides", "(LOfflineGates;II[J)I"⟩
abbrev cL_ifUp : ByteArray := method_25_code
def yL_ifUp : MethodName := ⟨RL, "ifUp", "(LOfflineGates;II[J)I"⟩
abbrev cL_owes : ByteArray := method_26_code
def yL_owes : MethodName := ⟨RL, "owes", "(LOfflineGates;I[J)I"⟩
abbrev cL_runScript : ByteArray := method_27_code
def yL_runScript : MethodName := ⟨RL, "runScript", "(LOfflineGates;IJ[J)I"⟩
abbrev cL_simulate : ByteArray := method_28_code
def yL_simulate : MethodName := ⟨RL, "simulate", "(LOfflineGates;JI[J)I"⟩
abbrev cL_save : ByteArray := method_29_code
def yL_save : MethodName := ⟨RL, "save", "(LOfflineGates;I[J)I"⟩
abbrev cL_restore : ByteArray := method_30_code
def yL_restore : MethodName := ⟨RL, "restore", "(LOfflineGates;I[J)I"⟩
abbrev cL_law : ByteArray := code
def yL_law : MethodName := ⟨RL, "law", "([I)Z"⟩
abbrev vwCl : List vw_C := [(RX0, TX0, 5), (RX2, TX2, 2), (RX3, TX3, 8), (RX4, TX4, 3), (RX5, TX5, 6), (RX6, TX6, 1), (RX9, TX9, 4), (RX10, TX10, 10), (RX11, TX11, 5), (RX12, TX12, 12)]
end
section
/-! the words that every contract has: all good words of the tables -/
def gtbl : List Cond := lw_tbl.filter goodWord
theorem gt_in {w : Cond} (i : Nat) (h : lw_tbl[i]? = some w) (hg : goodWord w = true) : w ∈ gtbl := List.mem_filter.mpr ⟨List.mem_of_getElem? h, hg⟩
theorem gt_good : GoodIn gtbl gtbl := fun _ h => ⟨h, good_of_word (List.mem_filter.mp h).2⟩
theorem gt_cons {big : List Cond} {w : Cond} {ws : List Cond} (h1 : w ∈ gtbl) (hb : GoodIn big ws) (hs : ∀ x ∈ gtbl, x ∈ big) : GoodIn big (w :: ws) := fun x hx => (List.mem_cons.mp hx).elim (fun e => by rw [e]; exact ⟨hs _ h1, good_of_word (List.mem_filter.mp h1).2⟩) (hb x)
/-! the universal world: block t, object o, int i -/
abbrev uV : Type := Nat → Nat → Nat → Int32
abbrev UG : Type := va_G × (ClassId × ClassId × ClassId × ClassId) × (Nat → Nat → Nat) × List (Nat × Nat) × Nat
def gD (g : UG) : va_G := g.1
def gI (g : UG) : ClassId := g.2.1.1
def gZ (g : UG) : ClassId := g.2.1.2.1
def gJ (g : UG) : ClassId := g.2.1.2.2.1
def gO (g : UG) : ClassId := g.2.1.2.2.2
def ga (g : UG) : Nat → Nat → Nat := g.2.2.1
def gk (g : UG) : List (Nat × Nat) := g.2.2.2.1
def gB (g : UG) : Nat := g.2.2.2.2
def gT (g : UG) : List (ClassId × FieldType) := [(gI g, .int), (gZ g, .boolean), (gJ g, .long), (gO g, .object "OfflineGates$State")]
def uA (g : UG) : Nat → Prop := fun q => gB g ≤ q
def uRowC (g : UG) (t o : Nat) : va_E := .inr (5, [.ref (ga g t (o + 1))])
def uArr (g : UG) (n : Nat) (f : Nat → Int32) : va_E := .inl (gI g, n, .inl f)
def stSh (g : UG) (t o : Nat) (f : Nat → Int32) : va_E := match o with
  | 0 => .inr (7, [.ref (ga g t 1), .ref (ga g t 10), .ref (ga g t 21), .ref (ga g t 38), .int (f 4), .int (f 5), .int (f 6), .int (f 7), .int (f 8), .int (f 9)])
  | 1 => .inr (0, [.int (f 0), .ref (ga g t 2), .ref (ga g t 4), .ref (ga g t 6), .ref (ga g t 8)])
  | 2 => uRowC g t 2
  | 3 => uArr g 10 f
  | 4 => uRowC g t 4
  | 5 => uArr g 10 f
  | 6 => uRowC g t 6
  | 7 => uArr g 10 f
  | 8 => uRowC g t 8
  | 9 => uArr g 10 f
  | 10 => .inr (4, [.int (f 0), .ref (ga g t 11), .ref (ga g t 13), .ref (ga g t 15), .ref (ga g t 17), .ref (ga g t 19)])
  | 11 => uRowC g t 11
  | 12 => uArr g 8 f
  | 13 => uRowC g t 13
  | 14 => uArr g 8 f
  | 15 => uRowC g t 15
  | 16 => uArr g 8 f
  | 17 => uRowC g t 17
  | 18 => uArr g 8 f
  | 19 => uRowC g t 19
  | 20 => uArr g 256 f
  | 21 => .inr (2, [.ref (ga g t 22), .ref (ga g t 24), .ref (ga g t 26), .ref (ga g t 28), .ref (ga g t 30), .ref (ga g t 32), .ref (ga g t 34), .ref (ga g t 36)])
  | 22 => uRowC g t 22
  | 23 => uArr g 4 f
  | 24 => uRowC g t 24
  | 25 => uArr g 4 f
  | 26 => uRowC g t 26
  | 27 => uArr g 4 f
  | 28 => uRowC g t 28
  | 29 => uArr g 4 f
  | 30 => uRowC g t 30
  | 31 => uArr g 4 f
  | 32 => uRowC g t 32
  | 33 => uArr g 48 f
  | 34 => uRowC g t 34
  | 35 => uArr g 48 f
  | 36 => uRowC g t 36
  | 37 => uArr g 48 f
  | 38 => uRowC g t 38
  | _ => uArr g 4 f
def mnSh (g : UG) (o : Nat) (f : Nat → Int32) : va_E := match o with
  | 0 => .inr (8, [.ref (ga g 0 0), .ref (ga g 1 0), .ref (ga g 18 1), .ref (ga g 18 4), .ref (ga g 18 6)])
  | 1 => .inr (1, [.ref (ga g 18 2), .int (f 1)])
  | 2 => uRowC g 18 2
  | 3 => uArr g 120 f
  | 4 => .inr (3, [.ref (ga g 18 5), .int (f 1), .int (f 2)])
  | 5 => .inl (gO g, 14, .inr (.inr (.inr (.inr (fun i => some (ga g (i + 2) 0))))))
  | _ => .inr (6, [.ref (ga g 16 0), .ref (ga g 17 0), .int (f 2), .int (f 3)])
def mdSh (g : UG) (o : Nat) (f : Nat → Int32) : va_E := match o with
  | 0 => .inr (9, [.int (f 0), .ref (ga g 19 1), .int (f 2), .ref (ga g 19 2), .ref (ga g 19 3), .ref (ga g 19 4), .ref (ga g 19 5), .int (f 7), .ref (ga g 19 6), .ref (ga g 19 7), .int (f 10), .int (f 11)])
  | 1 => uArr g 120 f
  | 2 => uArr g 1272 f
  | 3 => uArr g 1272 f
  | 4 => uArr g 1272 f
  | 5 => uArr g 17808 f
  | 6 => uArr g 2544 f
  | _ => .inl (gZ g, 2, .inl f)
def otSh (g : UG) (f : Nat → Int32) : va_E := .inl (gJ g, 1, .inr (.inl (fun _ => (f 0).toInt64)))
def uSh (g : UG) (t o : Nat) (f : Nat → Int32) : va_E := if t < 18 then stSh g t o f else if t = 18 then mnSh g o f else if t = 19 then mdSh g o f else otSh g f
theorem uSh_st {g : UG} {t : Nat} (h : t < 18) (o : Nat) (f : Nat → Int32) : uSh g t o f = stSh g t o f := if_pos h
theorem uSh_mn {g : UG} (o : Nat) (f : Nat → Int32) : uSh g 18 o f = mnSh g o f := rfl
theorem uSh_md {g : UG} (o : Nat) (f : Nat → Int32) : uSh g 19 o f = mdSh g o f := rfl
theorem uSh_ot {g : UG} (o : Nat) (f : Nat → Int32) : uSh g 20 o f = otSh g f := rfl
def uW (g : UG) (V : uV) : va_W := (gk g).map fun k => (ga g k.1 k.2, uSh g k.1 k.2 (V k.1 k.2))
def UH (g : UG) (V : uV) (H : Heap) : Prop := va_P (gD g) vwCl (uW g V) H ∧ va_D (uA g) (uW g V)
theorem uW_at {g : UG} {V : uV} {t o : Nat} (hk : (t, o) ∈ gk g) : ∃ i : Nat, (gk g)[i]? = some (t, o) ∧ (uW g V)[i]? = some (ga g t o, uSh g t o (V t o)) := by
  obtain ⟨i, hi⟩ := List.getElem?_of_mem hk
  exact ⟨i, hi, by unfold uW; rw [List.getElem?_map, hi]; rfl⟩
/-- block t's object o holds f -/
def uS (V : uV) (t o : Nat) (f : Nat → Int32) : uV := va_up V t (va_up (V t) o f)
theorem va_up_s {α : Type} (f : Nat → α) (k : Nat) (v : α) : va_up f k v k = v := if_pos rfl
theorem va_up_n {α : Type} {f : Nat → α} {k j : Nat} {v : α} (h : j ≠ k) : va_up f k v j = f j := if_neg h
theorem va_up_id {α : Type} (f : Nat → α) (k : Nat) : va_up f k (f k) = f := by
  funext j
  by_cases h : j = k
  · subst h; exact va_up_s _ _ _
  · exact va_up_n h
theorem lm_set {α β : Type} (ks : List α) (G G' : α → β) (i : Nat) (k : α) (hi : ks[i]? = some k) (h : ∀ (j : Nat) (k' : α), i ≠ j → ks[j]? = some k' → G' k' = G k') : (ks.map G).set i (G' k) = ks.map G' := by
  apply List.ext_getElem?
  intro j
  rw [List.getElem?_set, List.getElem?_map, List.getElem?_map]
  by_cases hij : i = j
  · subst hij
    have hlt : i < (ks.map G).length := by rw [List.length_map]; exact (List.getElem?_eq_some_iff.mp hi).1
    rw [if_pos rfl, if_pos hlt, hi]; rfl
  · rw [if_neg hij]
    cases hj : ks[j]? with
    | none => rfl
    | some k' => show some (G k') = some (G' k'); rw [h j k' hij hj]
theorem uW_set {g : UG} {V : uV} {A : Nat → Prop} (hD : va_D A (uW g V)) {t o i : Nat} (hi : (gk g)[i]? = some (t, o)) (f : Nat → Int32) : (uW g V).set i (ga g t o, uSh g t o f) = uW g (uS V t o f) := by
  have hat : ∀ (j : Nat) (k : Nat × Nat), (gk g)[j]? = some k → (uW g V)[j]? = some (ga g k.1 k.2, uSh g k.1 k.2 (V k.1 k.2)) := fun j k h => by unfold uW; rw [List.getElem?_map, h]; rfl
  have e := lm_set (gk g) (fun k => (ga g k.1 k.2, uSh g k.1 k.2 (V k.1 k.2))) (fun k => (ga g k.1 k.2, uSh g k.1 k.2 (uS V t o f k.1 k.2))) i (t, o) hi (fun j k hij hj => by
    have hne : ¬ (k.1 = t ∧ k.2 = o) := by
      rintro ⟨e1, e2⟩
      exact hij (hD.1 i j _ _ (hat i _ hi) (hat j _ hj) (by simp only [e1, e2]))
    have e3 : uS V t o f k.1 k.2 = V k.1 k.2 := by
      unfold uS
      by_cases e1 : k.1 = t
      · have e2 : k.2 ≠ o := fun e2 => hne ⟨e1, e2⟩
        rw [e1, va_up_s, va_up_n e2]
      · rw [va_up_n e1]
    show (_, _) = (_, _)
    rw [e3])
  have e4 : uS V t o f t o = f := by unfold uS; rw [va_up_s, va_up_s]
  have e5 : (ga g t o, uSh g t o (uS V t o f t o)) = (ga g t o, uSh g t o f) := by rw [e4]
  exact (congrArg (fun z => (uW g V).set i z) e5.symm).trans e
theorem UH_set {g : UG} {V : uV} {H1 : Heap} {t o i : Nat} {f : Nat → Int32} {A : Nat → Prop} (hD : va_D A (uW g V)) (hi : (gk g)[i]? = some (t, o)) {e : va_E} (he : uSh g t o f = e) (h : va_P (gD g) vwCl ((uW g V).set i (ga g t o, e)) H1) (h2 : va_D (uA g) ((uW g V).set i (ga g t o, e))) : UH g (uS V t o f) H1 := by
  subst he
  rw [uW_set hD hi] at h h2
  exact ⟨h, h2⟩
/-- only what the shapes show of V matters -/
theorem UH_same {g : UG} {V V' : uV} {H : Heap} (h : UH g V H) (e : ∀ t o, (t, o) ∈ gk g → uSh g t o (V t o) = uSh g t o (V' t o)) : UH g V' H := by
  have : uW g V = uW g V' := by
    unfold uW
    exact List.map_congr_left fun k hk => by rw [e k.1 k.2 hk]
  unfold UH
  rw [← this]
  exact h
/-- what throws stand on -/
def uX (g : UG) (U : State) : Prop := vx_Zq Bundle.tN "UNASSIGNED_STACK" Bundle.steD (uA g) U U.heap ∧ vx_Zq Bundle.tN "SUPPRESSED_SENTINEL" Bundle.listD (uA g) U U.heap ∧ (∃ a, vk_R "OfflineGates" 279 "out of range" a U) ∧ (∃ a, vk_R "OfflineGates" 286 "does not exist" a U) ∧ ∃ a, vk_R "OfflineGates" 291 "not now" a U
theorem uX.moved {g : UG} {s U : State} {locs : List Loc} (h : uX g s) (hS : va_S (uA g) s.heap U.heap locs) (hW : s.WarmedH U.vm) : uX g U := by
  obtain ⟨h1, h2, ⟨a3, h3⟩, ⟨a4, h4⟩, ⟨a5, h5⟩⟩ := h
  refine ⟨(vx_Zq.moved hW.alike h1).kept (fun a ha hn => hS.2.1 a ha hn), (vx_Zq.moved hW.alike h2).kept (fun a ha hn => hS.2.1 a ha hn), ⟨a3, h3.warm hW⟩, ⟨a4, h4.warm hW⟩, ⟨a5, h5.warm hW⟩⟩
def UM (g : UG) (V : uV) (s : State) (H : Heap) (locs : List Loc) : Prop := UH g V H ∧ va_S (uA g) s.heap H locs
theorem UM.mk' {g : UG} {V : uV} {s : State} {H : Heap} {locs : List Loc} (h : UH g V H) (hS : va_S (uA g) s.heap H locs) : UM g V s H locs := ⟨h, hS⟩
theorem um_in {g : UG} {V : uV} {s : State} {H : Heap} {locs : List Loc} (t : Nat) (h : UM g V s H locs) : UM g (va_up V t (V t)) s H locs := by rw [va_up_id]; exact h
theorem um_in2 {g : UG} {V : uV} {t : Nat} {S : Nat → Nat → Int32} {s : State} {H : Heap} {locs : List Loc} (o : Nat) (h : UM g (va_up V t S) s H locs) : UM g (va_up V t (va_up S o (S o))) s H locs := by rw [va_up_id]; exact h
def uPre (g : UG) (V : uV) (U : State) : Prop := UH g V U.heap ∧ va_K (gD g) vwCl (gT g) U ∧ uX g U
abbrev uR (fr lo : Nat) : Room := { frames := fr, cells := 0, slots := 0, locals := lo }
abbrev uQi (g : UG) (ty : FieldType) (r : Int32) (V' : uV) : Array Value → State → Outcome → State → Prop := va_Qi (fun (r' : Int32) (_ : Unit) => r' = r ∧ narrow ty (.int r') = .int r') (fun _ t => UH g V' t.heap) (uA g)
abbrev uQv (g : UG) (V' : uV) : Array Value → State → Outcome → State → Prop := va_Qv (fun (_ : Unit) => True) (fun _ t => UH g V' t.heap) (uA g)
/-- a method that answers an int (of type ty), over the universal world -/
def uMi (l : Launch) (g : UG) (y : MethodName) (bytes : ByteArray) (ml : Nat) (ty : FieldType) (rm : Room) (As : List Value) (V : uV) (r : Int32) (V' : uV) : Prop :=
  Met l y (.code y bytes ml (some ty) :: gtbl) rm (va_Pc As (uPre g V)) (uQi g ty r V') 0 0 (uA g)
def uMv (l : Launch) (g : UG) (y : MethodName) (bytes : ByteArray) (ml : Nat) (rm : Room) (As : List Value) (V : uV) (V' : uV) : Prop :=
  Met l y (.code y bytes ml none :: gtbl) rm (va_Pc As (uPre g V)) (uQv g V') 0 0 (uA g)
/-- what a body stands on -/
def UC (p : Program) (s : State) (m : MethodId) (args : Array Value) (meth : Method) (c : Code) (cc : ByteArray) (nL : Nat) (own : String) (g : UG) : Prop :=
  CallFix p m c cc nL s args gtbl own ∧ va_K (gD g) vwCl (gT g) s ∧ uX g s ∧ meth.locks = false
theorem UC.hx {p : Program} {s : State} {m : MethodId} {args : Array Value} {meth : Method} {c : Code} {cc : ByteArray} {nL : Nat} {own : String} {g : UG} (X : UC p s m args meth c cc nL own g) : p.tables.exec = Jvm.exec := X.1.1
theorem UC.hb {p : Program} {s : State} {m : MethodId} {args : Array Value} {meth : Method} {c : Code} {cc : ByteArray} {nL : Nat} {own : String} {g : UG} (X : UC p s m args meth c cc nL own g) : c.code = cc := X.1.2.1
theorem UC.hts {p : Program} {s : State} {m : MethodId} {args : Array Value} {meth : Method} {c : Code} {cc : ByteArray} {nL : Nat} {own : String} {g : UG} (X : UC p s m args meth c cc nL own g) {w : Cond} (h : w ∈ gtbl) : w.before args s = true := X.1.2.2.2.2 w h
theorem uMi_of {l : Launch} {g : UG} {y : MethodName} {bytes : ByteArray} {ml : Nat} {ty : FieldType} {fr lo : Nat} {As : List Value} {V : uV} {r : Int32} {V' : uV} (hy : plainName y.cls = true) (hlen : (lg_sl As).length ≤ ml)
    (body : ∀ (p : Program) (e : Env) (s : State) (m : MethodId) (args : Array Value) (below : List Frame) (meth : Method) (c : Code) (ls : Array Slot), UC p s m args meth c bytes ml y.cls g → meth.sig.returnType = some ty → lv_has ls ml (lv_args 0 As) → UM g V s s.heap [] →
      W p l e (uR fr lo) s m args below meth c s.heap [] 0 0 (MQ below (uQi g ty r V') args s 0 0 (uA g)) (F0 m 0 ls [])) : uMi l g y bytes ml ty (uR fr lo) As V r V' := by
  refine Met.ofW (cc := bytes) (maxL := ml) (ret := some ty) hy rfl ?_
  intro p e s m args below meth c s₁ B hml hv
  obtain ⟨rfl, hU, hK, hX⟩ := hv
  have hts := atoms_spec (ws := .code y bytes ml (some ty) :: gtbl) B.pre
  have hl := lv_entry As (n := ml) hlen
  rw [lg_entry_eq]
  exact body p e s m As.toArray below meth c _ ⟨⟨B.exec, B.bytes, hml, findClass_of_methodNamed B.named, fun w h => hts w (List.mem_cons_of_mem _ h)⟩, hK, hX, B.notSynchronized⟩ B.returns hl ⟨hU, va_S.rf⟩
theorem uMv_of {l : Launch} {g : UG} {y : MethodName} {bytes : ByteArray} {ml : Nat} {fr lo : Nat} {As : List Value} {V : uV} {V' : uV} (hy : plainName y.cls = true) (hlen : (lg_sl As).length ≤ ml)
    (body : ∀ (p : Program) (e : Env) (s : State) (m : MethodId) (args : Array Value) (below : List Frame) (meth : Method) (c : Code) (ls : Array Slot), UC p s m args meth c bytes ml y.cls g → meth.sig.returnType = none → lv_has ls ml (lv_args 0 As) → UM g V s s.heap [] →
      W p l e (uR fr lo) s m args below meth c s.heap [] 0 0 (MQ below (uQv g V') args s 0 0 (uA g)) (F0 m 0 ls [])) : uMv l g y bytes ml (uR fr lo) As V V' := by
  refine Met.ofW (cc := bytes) (maxL := ml) (ret := none) hy rfl ?_
  intro p e s m args below meth c s₁ B hml hv
  obtain ⟨rfl, hU, hK, hX⟩ := hv
  have hts := atoms_spec (ws := .code y bytes ml none :: gtbl) B.pre
  have hl := lv_entry As (n := ml) hlen
  rw [lg_entry_eq]
  exact body p e s m As.toArray below meth c _ ⟨⟨B.exec, B.bytes, hml, findClass_of_methodNamed B.named, fun w h => hts w (List.mem_cons_of_mem _ h)⟩, hK, hX, B.notSynchronized⟩ B.returns hl ⟨hU, va_S.rf⟩
end
section
/-! rows over the universal world -/
def uCW (own C : String) (index : Nat) (y : MethodName) (bytes : ByteArray) (ml : Nat) (ret : Option FieldType) (n : Nat) : Prop :=
  (Cond.methodLink own index y) ∈ gtbl ∧ (Cond.instanceMethod y) ∈ gtbl ∧ (Cond.selects C y y) ∈ gtbl ∧ (Cond.initialized C) ∈ gtbl ∧ (Cond.code y bytes ml ret) ∈ gtbl ∧ (y.cls = C ∧ y.cls ≠ "java/lang/invoke/MethodHandle" ∧ y.cls ≠ "java/lang/invoke/VarHandle" ∧ (parseMethodDescriptor y.desc).map (fun d => d.parameters.length) = some n)
def uCS (own : String) (index : Nat) (y : MethodName) (bytes : ByteArray) (ml : Nat) (ret : Option FieldType) (n : Nat) : Prop :=
  (Cond.methodLink own index y) ∈ gtbl ∧ (Cond.static y) ∈ gtbl ∧ (Cond.initialized y.cls) ∈ gtbl ∧ (Cond.code y bytes ml ret) ∈ gtbl ∧ (y.cls ≠ "java/lang/invoke/MethodHandle" ∧ y.cls ≠ "java/lang/invoke/VarHandle" ∧ (parseMethodDescriptor y.desc).map (fun d => d.parameters.length) = some n)
section UROWS
variable {p : Program} {l : Launch} {e : Env} {R : Room} {s : State} {m : MethodId} {args : Array Value} {below : List Frame} {meth : Method} {c : Code} {H : Heap} {locs : List Loc} {cells slots : Nat} {Q : State → Prop}
variable {cc : ByteArray} {pc nL : Nat} {ls : Array Slot} {rest : List Value} {own : String} {g : UG} {V : uV} {t o : Nat}
theorem u_get (X : UC p s m args meth c cc nL own g) (M : UM g V s H locs) (hk : (t, o) ∈ gk g) {ci : Nat} {fs : List Value} (hs : uSh g t o (V t o) = .inr (ci, fs)) {C : String} {T : u_T} {N index : Nat} (hc : vwCl[ci]? = some (C, T, N)) (hin : ∀ w ∈ u_ws C T N, w ∈ gtbl) (k : Nat) (hkN : k < N) (hT : (T k).1 = C) (hl : (Cond.fieldLink own index C (T k).2.1 (T k).2.2.1) ∈ gtbl) {v : Value} (hv : fs[k]? = some v) (hdg : decode cc pc = .ok (.getfield index, 3))
    (kk : W p l e R s m args below meth c H locs cells slots Q (F0 m (pc + 3) ls (v :: rest))) : W p l e R s m args below meth c H locs cells slots Q (F0 m pc ls (.ref (ga g t o) :: rest)) := by
  obtain ⟨i, -, hw⟩ := uW_at (V := V) hk
  rw [hs] at hw
  exact va_get X.hx X.hb (fun w h => X.hts h) hin X.1.2.2.2.1 X.2.1 M.1.1 i hw hc k hkN (X.hts hl) (fun x h => by rw [hT] at h; exact h) hv hdg kk
theorem u_put (X : UC p s m args meth c cc nL own g) (M : UM g V s H locs) (hk : (t, o) ∈ gk g) {ci : Nat} {fs : List Value} (hs : uSh g t o (V t o) = .inr (ci, fs)) {C : String} {T : u_T} {N index : Nat} (hc : vwCl[ci]? = some (C, T, N)) (hin : ∀ w ∈ u_ws C T N, w ∈ gtbl) (ty0 : Nat → FieldType) (hty : ∀ k, k < N → parseFieldDescriptor (T k).2.2.1 = some (ty0 k)) (hnm : ∀ a, a < N → ∀ b, b < N → a ≠ b → (T a).2.1 ≠ (T b).2.1) (k : Nat) (hkN : k < N) (hT : (T k).1 = C) (hl : (Cond.fieldLink own index C (T k).2.1 (T k).2.2.1) ∈ gtbl) (hfin : (T k).2.2.2 = false) {x : Int32} {ty : FieldType} (hd : parseFieldDescriptor (T k).2.2.1 = some ty) (hn : narrow ty (.int x) = .int x) (hfit : fits ty (.int x) = true) (hlt : k < fs.length) {f' : Nat → Int32} (hs' : uSh g t o f' = .inr (ci, fs.set k (.int x))) (hdg : decode cc pc = .ok (.putfield index, 3))
    (kk : ∀ (H1 : Heap) (locs1 : List Loc), UM g (uS V t o f') s H1 locs1 → W p l e R s m args below meth c H1 locs1 cells slots Q (F0 m (pc + 3) ls rest)) : W p l e R s m args below meth c H locs cells slots Q (F0 m pc ls (.int x :: .ref (ga g t o) :: rest)) := by
  obtain ⟨i, hi, hw⟩ := uW_at (V := V) hk
  rw [hs] at hw
  exact va_put X.hx X.hb (fun w h => X.hts h) hin ty0 hty hnm X.1.2.2.2.1 X.2.1 M.1.1 M.1.2 M.2 i hw hc k hkN (X.hts hl) (fun x h => by rw [hT] at h; exact h) hfin hd hn hfit hlt hdg (fun H1 locs1 h1 h2 h3 => kk H1 locs1 ⟨UH_set M.1.2 hi hs' h1 h2, h3⟩)
theorem u_ald (X : UC p s m args meth c cc nL own g) (M : UM g V s H locs) (hk : (t, o) ∈ gk g) {n : Nat} {f : Nat → Int32} (hs : uSh g t o (V t o) = uArr g n f) {i x : Int32} (hin : vp_in i n) (hx : x = f i.toNatClampNeg) (hdg : decode cc pc = .ok (.iaload, 1))
    (kk : W p l e R s m args below meth c H locs cells slots Q (F0 m (pc + 1) ls (.int x :: rest))) : W p l e R s m args below meth c H locs cells slots Q (F0 m pc ls (.int i :: .ref (ga g t o) :: rest)) := by
  obtain ⟨j, -, hw⟩ := uW_at (V := V) hk
  rw [hs] at hw
  subst hx
  exact va_iald X.hx X.hb X.2.1 M.1.1 j 0 hw rfl hin hdg kk
theorem u_ast (X : UC p s m args meth c cc nL own g) (M : UM g V s H locs) (hk : (t, o) ∈ gk g) {n : Nat} {f : Nat → Int32} (hs : uSh g t o (V t o) = uArr g n f) {i x : Int32} (hin : vp_in i n) (hs' : ∀ f', uSh g t o f' = uArr g n f') (hdg : decode cc pc = .ok (.iastore, 1))
    (kk : ∀ (H1 : Heap) (locs1 : List Loc), UM g (uS V t o (upd f i.toNatClampNeg x)) s H1 locs1 → W p l e R s m args below meth c H1 locs1 cells slots Q (F0 m (pc + 1) ls rest)) : W p l e R s m args below meth c H locs cells slots Q (F0 m pc ls (.int x :: .int i :: .ref (ga g t o) :: rest)) := by
  obtain ⟨j, hj, hw⟩ := uW_at (V := V) hk
  rw [hs] at hw
  exact va_iast X.hx X.hb X.2.1 M.1.1 M.1.2 M.2 j 0 hw rfl hin hdg (fun H1 locs1 h1 h2 h3 => kk H1 locs1 ⟨UH_set M.1.2 hj (hs' _) h1 h2, h3⟩)
theorem u_len (X : UC p s m args meth c cc nL own g) (M : UM g V s H locs) (hk : (t, o) ∈ gk g) {n : Nat} {f : Nat → Int32} (hs : uSh g t o (V t o) = uArr g n f) {v : Int32} (hv : Int32.ofNat n = v) (hdg : decode cc pc = .ok (.arraylength, 1))
    (kk : W p l e R s m args below meth c H locs cells slots Q (F0 m (pc + 1) ls (.int v :: rest))) : W p l e R s m args below meth c H locs cells slots Q (F0 m pc ls (.ref (ga g t o) :: rest)) := by
  obtain ⟨j, -, hw⟩ := uW_at (V := V) hk
  rw [hs] at hw
  exact va_alen X.hx X.hb X.2.1 M.1.1 j 0 hw (ty := .int) rfl hv hdg kk
theorem u_zald (X : UC p s m args meth c cc nL own g) (M : UM g V s H locs) (hk : (t, o) ∈ gk g) {n : Nat} {f : Nat → Int32} (hs : uSh g t o (V t o) = .inl (gZ g, n, .inl f)) {i x : Int32} (hin : vp_in i n) (hx : x = f i.toNatClampNeg) (hdg : decode cc pc = .ok (.baload, 1))
    (kk : W p l e R s m args below meth c H locs cells slots Q (F0 m (pc + 1) ls (.int x :: rest))) : W p l e R s m args below meth c H locs cells slots Q (F0 m pc ls (.int i :: .ref (ga g t o) :: rest)) := by
  obtain ⟨j, -, hw⟩ := uW_at (V := V) hk
  rw [hs] at hw
  subst hx
  exact va_zald X.hx X.hb X.2.1 M.1.1 j 1 hw rfl hin hdg kk
theorem u_zast (X : UC p s m args meth c cc nL own g) (M : UM g V s H locs) (hk : (t, o) ∈ gk g) {n : Nat} {f : Nat → Int32} (hs : uSh g t o (V t o) = .inl (gZ g, n, .inl f)) {i x : Int32} (hin : vp_in i n) (hn : vp_nar .boolean x = x) (hs' : ∀ f', uSh g t o f' = .inl (gZ g, n, .inl f')) (hdg : decode cc pc = .ok (.bastore, 1))
    (kk : ∀ (H1 : Heap) (locs1 : List Loc), UM g (uS V t o (upd f i.toNatClampNeg x)) s H1 locs1 → W p l e R s m args below meth c H1 locs1 cells slots Q (F0 m (pc + 1) ls rest)) : W p l e R s m args below meth c H locs cells slots Q (F0 m pc ls (.int x :: .int i :: .ref (ga g t o) :: rest)) := by
  obtain ⟨j, hj, hw⟩ := uW_at (V := V) hk
  rw [hs] at hw
  refine va_zast X.hx X.hb X.2.1 M.1.1 M.1.2 M.2 j 1 hw rfl hin hdg (fun H1 locs1 h1 h2 h3 => ?_)
  rw [hn] at h1 h2
  exact kk H1 locs1 ⟨UH_set M.1.2 hj (hs' _) h1 h2, h3⟩
theorem u_aldq (X : UC p s m args meth c cc nL own g) (M : UM g V s H locs) (hk : (t, o) ∈ gk g) {n : Nat} {f : Nat → Option Nat} (hs : uSh g t o (V t o) = .inl (gO g, n, .inr (.inr (.inr (.inr f))))) {i : Int32} (hin : vp_in i n) {a : Nat} (ha : f i.toNatClampNeg = some a) (hdg : decode cc pc = .ok (.aaload, 1))
    (kk : W p l e R s m args below meth c H locs cells slots Q (F0 m (pc + 1) ls (.ref a :: rest))) : W p l e R s m args below meth c H locs cells slots Q (F0 m pc ls (.int i :: .ref (ga g t o) :: rest)) := by
  obtain ⟨j, -, hw⟩ := uW_at (V := V) hk
  rw [hs] at hw
  refine va_aldq X.hx X.hb X.2.1 M.1.1 j 3 hw rfl hin hdg ?_
  rw [ha]
  exact kk
theorem u_lenq (X : UC p s m args meth c cc nL own g) (M : UM g V s H locs) (hk : (t, o) ∈ gk g) {n : Nat} {f : Nat → Option Nat} (hs : uSh g t o (V t o) = .inl (gO g, n, .inr (.inr (.inr (.inr f))))) {v : Int32} (hv : Int32.ofNat n = v) (hdg : decode cc pc = .ok (.arraylength, 1))
    (kk : W p l e R s m args below meth c H locs cells slots Q (F0 m (pc + 1) ls (.int v :: rest))) : W p l e R s m args below meth c H locs cells slots Q (F0 m pc ls (.ref (ga g t o) :: rest)) := by
  obtain ⟨j, -, hw⟩ := uW_at (V := V) hk
  rw [hs] at hw
  exact va_alen X.hx X.hb X.2.1 M.1.1 j 3 hw (ty := .object "OfflineGates$State") rfl hv hdg kk
theorem u_recv (X : UC p s m args meth c cc nL own g) (M : UM g V s H locs) (hk : (t, o) ∈ gk g) {ci : Nat} {fs : List Value} (hs : uSh g t o (V t o) = .inr (ci, fs)) {C : String} {T : u_T} {N : Nat} (hc : vwCl[ci]? = some (C, T, N)) : ∃ cell : Cell, H[ga g t o]? = some cell ∧ cell.vm.isStatics = false ∧ s.vm.findClass C = some cell.cls := by
  obtain ⟨i, -, hw⟩ := uW_at (V := V) hk
  rw [hs] at hw
  exact va_recv X.2.1 M.1.1 hc hw
theorem u_pre (X : UC p s m args meth c cc nL own g) (M : UM g V s H locs) {U : State} (hU : U.heap = H) (hW : s.WarmedH U.vm) : uPre g V U := by
  subst hU
  exact ⟨M.1, va_K.moved hW.alike X.2.1, X.2.2.1.moved M.2 hW⟩
theorem u_blind {As : List Value} : FrameBlind (va_Pc As (uPre g V)) := fun a U fr mk q => by
  obtain ⟨q0, qH, qK, q1, q2, q3, q4, q5⟩ := q
  exact ⟨q0, qH, va_K.moved (u := U) (U := U.calling fr mk a) (Vm.Alike.refl U.vm) qK, vx_Zq.moved (u := U) (U := U.calling fr mk a) (Vm.Alike.refl U.vm) q1, vx_Zq.moved (u := U) (U := U.calling fr mk a) (Vm.Alike.refl U.vm) q2, q3.imp fun _ h => h.same rfl, q4.imp fun _ h => h.same rfl, q5.imp fun _ h => h.same rfl⟩
theorem u_iret {ty : FieldType} {r : Int32} {V' : uV} (X : UC p s m args meth c cc nL own g) (hret : meth.sig.returnType = some ty) (M : UM g V s H locs) {v : Int32} (hr : v = r) (hV : V = V') (hn : narrow ty (.int v) = .int v) (hdg : decode cc pc = .ok (.ireturn, 1)) :
    W p l e R s m args below meth c H locs cells slots (MQ below (uQi g ty r V') args s cells slots (uA g)) (F0 m pc ls [.int v]) := by
  subst hV
  exact W.zret X.hx X.hb hret hn (fun t ht hW => ⟨⟨v, (), rfl, ⟨hr, hn⟩, by show UH g V t.heap; rw [ht]; exact M.1⟩, M.2.F ht⟩) M.2.2.2 hdg X.2.2.2
theorem u_vret {V' : uV} (X : UC p s m args meth c cc nL own g) (hret : meth.sig.returnType = none) (M : UM g V s H locs) (hV : V = V') (hdg : decode cc pc = .ok (.return_, 1)) :
    W p l e R s m args below meth c H locs cells slots (MQ below (uQv g V') args s cells slots (uA g)) (F0 m pc ls []) := by
  subst hV
  exact W.vret X.hx X.hb hret (fun t ht hW => ⟨⟨(), rfl, trivial, by show UH g V t.heap; rw [ht]; exact M.1⟩, M.2.F ht⟩) M.2.2.2 hdg X.2.2.2
variable {y : MethodName} {bytes : ByteArray} {ml n index fr lo : Nat} {ty : FieldType} {As : List Value} {V' : uV} {r : Int32} {C : String} {b : Nat} {st0 : List Value}
theorem u_cw {ret : Option FieldType} (X : UC p s m args meth c cc nL own g) (h : uCW own C index y bytes ml ret n) (hR : fr + 1 ≤ R.frames ∧ 8 + (ml + 11) + lo ≤ R.locals) : CallW R s args own C index y bytes ml ret (.code y bytes ml ret :: gtbl) (uR fr lo) 0 0 n := by
  obtain ⟨h1, h2, h3, h4, h5, h6, h7⟩ := h
  have hb : CallB R s args own index y bytes ml ret (.code y bytes ml ret :: gtbl) (uR fr lo) 0 0 n := callB_of (ws' := gtbl) n (Ts := gtbl) (fun w h => X.hts h) (gt_cons h5 gt_good (fun _ h => h)) rfl rfl rfl (by rw [h6]; exact X.hts h4) (X.hts h1) h7 hR
  exact ⟨hb, X.hts h2, X.hts h3⟩
theorem u_cs {ret : Option FieldType} (X : UC p s m args meth c cc nL own g) (h : uCS own index y bytes ml ret n) (hR : fr + 1 ≤ R.frames ∧ 8 + (ml + 11) + lo ≤ R.locals) : CallB R s args own index y bytes ml ret (.code y bytes ml ret :: gtbl) (uR fr lo) 0 0 n ∧ (Cond.static y).before args s = true := by
  obtain ⟨h1, h2, h4, h5, h7⟩ := h
  exact ⟨callB_of (ws' := gtbl) n (Ts := gtbl) (fun w h => X.hts h) (gt_cons h5 gt_good (fun _ h => h)) rfl rfl rfl (X.hts h4) (X.hts h1) h7 hR, X.hts h2⟩
/-- a call of an object's method that answers an int -/
theorem u_cVi (X : UC p s m args meth c cc nL own g) (M : UM g V s H locs) (hl : ls.size = nL) (hM : uMi l g y bytes ml ty (uR fr lo) (.ref b :: As) V r V') (hC : uCW own C index y bytes ml (some ty) n) (hR : fr + 1 ≤ R.frames ∧ 8 + (ml + 11) + lo ≤ R.locals) (hrecv : ∃ cell : Cell, H[b]? = some cell ∧ cell.vm.isStatics = false ∧ s.vm.findClass C = some cell.cls) (hn : As.length = n) (hst : st0 = As.reverse ++ .ref b :: rest) (hw : (rest.map fun v => v.category).sum ≤ 8) (hf : cells ≤ R.cells ∧ slots ≤ R.slots) (hdg : decode cc pc = .ok (.invokevirtual index, 3))
    (kk : ∀ (H1 : Heap) (locs1 : List Loc), UM g V' s H1 locs1 → narrow ty (.int r) = .int r → W p l e R s m args below meth c H1 locs1 cells slots Q (F0 m (pc + 3) ls (.int r :: rest))) : W p l e R s m args below meth c H locs cells slots Q (F0 m pc ls st0) := by
  refine va_calli (va_runV (As := As) (rest := rest) X.1 hM (u_cw X hC hR) ⟨u_blind, hrecv, fun U hU hW => ⟨rfl, u_pre X M hU hW⟩⟩ rfl hn hl hst (lv_room hw) hdg ⟨hf.1, hf.2⟩) M.2 (fun q _ h => h) (fun q h => h) (fun r1 u t H1 locs1 ht hvm hw hB hz1 hk1 hS => ?_)
  obtain ⟨rfl, hw2⟩ := hw
  rw [ht] at hB
  exact kk H1 locs1 ⟨hB, hS⟩ hw2
theorem u_cVv (X : UC p s m args meth c cc nL own g) (M : UM g V s H locs) (hl : ls.size = nL) (hM : uMv l g y bytes ml (uR fr lo) (.ref b :: As) V V') (hC : uCW own C index y bytes ml none n) (hR : fr + 1 ≤ R.frames ∧ 8 + (ml + 11) + lo ≤ R.locals) (hrecv : ∃ cell : Cell, H[b]? = some cell ∧ cell.vm.isStatics = false ∧ s.vm.findClass C = some cell.cls) (hn : As.length = n) (hst : st0 = As.reverse ++ .ref b :: rest) (hw : (rest.map fun v => v.category).sum ≤ 8) (hf : cells ≤ R.cells ∧ slots ≤ R.slots) (hdg : decode cc pc = .ok (.invokevirtual index, 3))
    (kk : ∀ (H1 : Heap) (locs1 : List Loc), UM g V' s H1 locs1 → W p l e R s m args below meth c H1 locs1 cells slots Q (F0 m (pc + 3) ls rest)) : W p l e R s m args below meth c H locs cells slots Q (F0 m pc ls st0) := by
  refine va_callv (va_runV (As := As) (rest := rest) X.1 hM (u_cw X hC hR) ⟨u_blind, hrecv, fun U hU hW => ⟨rfl, u_pre X M hU hW⟩⟩ rfl hn hl hst (lv_room hw) hdg ⟨hf.1, hf.2⟩) M.2 (fun q _ h => h) (fun q h => h) (fun u t H1 locs1 ht hvm hw hB hz1 hk1 hS => ?_)
  rw [ht] at hB
  exact kk H1 locs1 ⟨hB, hS⟩
theorem u_cSi (X : UC p s m args meth c cc nL own g) (M : UM g V s H locs) (hl : ls.size = nL) (hM : uMi l g y bytes ml ty (uR fr lo) As V r V') (hC : uCS own index y bytes ml (some ty) n) (hR : fr + 1 ≤ R.frames ∧ 8 + (ml + 11) + lo ≤ R.locals) (hn : As.length = n) (hst : st0 = As.reverse ++ rest) (hw : (rest.map fun v => v.category).sum ≤ 8) (hf : cells ≤ R.cells ∧ slots ≤ R.slots) (hdg : decode cc pc = .ok (.invokestatic index, 3))
    (kk : ∀ (H1 : Heap) (locs1 : List Loc), UM g V' s H1 locs1 → narrow ty (.int r) = .int r → W p l e R s m args below meth c H1 locs1 cells slots Q (F0 m (pc + 3) ls (.int r :: rest))) : W p l e R s m args below meth c H locs cells slots Q (F0 m pc ls st0) := by
  refine va_calli (va_runS (As := As) (rest := rest) X.1 hM (u_cs X hC hR) ⟨u_blind, fun U hU hW => ⟨rfl, u_pre X M hU hW⟩⟩ rfl hn hl hst (lv_room hw) hdg ⟨hf.1, hf.2⟩) M.2 (fun q _ h => h) (fun q h => h) (fun r1 u t H1 locs1 ht hvm hw hB hz1 hk1 hS => ?_)
  obtain ⟨rfl, hw2⟩ := hw
  rw [ht] at hB
  exact kk H1 locs1 ⟨hB, hS⟩ hw2
theorem u_cSv (X : UC p s m args meth c cc nL own g) (M : UM g V s H locs) (hl : ls.size = nL) (hM : uMv l g y bytes ml (uR fr lo) As V V') (hC : uCS own index y bytes ml none n) (hR : fr + 1 ≤ R.frames ∧ 8 + (ml + 11) + lo ≤ R.locals) (hn : As.length = n) (hst : st0 = As.reverse ++ rest) (hw : (rest.map fun v => v.category).sum ≤ 8) (hf : cells ≤ R.cells ∧ slots ≤ R.slots) (hdg : decode cc pc = .ok (.invokestatic index, 3))
    (kk : ∀ (H1 : Heap) (locs1 : List Loc), UM g V' s H1 locs1 → W p l e R s m args below meth c H1 locs1 cells slots Q (F0 m (pc + 3) ls rest)) : W p l e R s m args below meth c H locs cells slots Q (F0 m pc ls st0) := by
  refine va_callv (va_runS (As := As) (rest := rest) X.1 hM (u_cs X hC hR) ⟨u_blind, fun U hU hW => ⟨rfl, u_pre X M hU hW⟩⟩ rfl hn hl hst (lv_room hw) hdg ⟨hf.1, hf.2⟩) M.2 (fun q _ h => h) (fun q h => h) (fun u t H1 locs1 ht hvm hw hB hz1 hk1 hS => ?_)
  rw [ht] at hB
  exact kk H1 locs1 ⟨hB, hS⟩
end UROWS
/-! how the pure functions are taken apart, step by step -/
theorem it_t {α : Type} {c : Prop} [Decidable c] {A B r : α} (h : (if c then A else B) = r) (hc : c) : A = r := (if_pos hc).symm.trans h
theorem it_f {α : Type} {c : Prop} [Decidable c] {A B r : α} (h : (if c then A else B) = r) (hc : ¬ c) : B = r := (if_neg hc).symm.trans h
def lt_ {α β : Type} (a : α) (f : α → β) : β := f a
theorem lt_e {α β : Type} {a : α} {f : α → β} {r : β} (h : lt_ a f = r) : ∃ x, x = a ∧ f x = r := ⟨a, rfl, h⟩
def gd {α : Type} (b : Bool) (x : Option α) : Option α := if b then x else none
theorem gd_e {α : Type} {b : Bool} {x : Option α} {r : α} (h : gd b x = some r) : b = true ∧ x = some r := by
  cases b
  · cases h
  · exact ⟨rfl, h⟩
def inb (i : Int32) (n : Nat) : Bool := decide (0 ≤ i.toInt) && decide (i.toInt < n)
theorem inb_e {i : Int32} {n : Nat} (h : inb i n = true) : vp_in i n := by
  simp only [inb, Bool.and_eq_true, decide_eq_true_eq] at h
  exact vp_in_iff.mpr h
def bd {α β : Type} (x : Option α) (f : α → Option β) : Option β := x.bind f
theorem bd_e {α β : Type} {x : Option α} {f : α → Option β} {r : β} (h : bd x f = some r) : ∃ a, x = some a ∧ f a = some r := Option.bind_eq_some_iff.mp h
def bd2 {α β γ : Type} (x : Option (α × β)) (f : α → β → Option γ) : Option γ := x.bind fun q => f q.1 q.2
theorem bd2_e {α β γ : Type} {x : Option (α × β)} {f : α → β → Option γ} {r : γ} (h : bd2 x f = some r) : ∃ a b, x = some (a, b) ∧ f a b = some r := by
  obtain ⟨⟨a, b⟩, h1, h2⟩ := Option.bind_eq_some_iff.mp h
  exact ⟨a, b, h1, h2⟩
def isz (x : Int32) : Bool := decide (x = 0) || decide (x = 1)
theorem isz_e {x : Int32} (h : isz x = true) : narrow .boolean (.int x) = .int x := by
  simp only [isz, Bool.or_eq_true, decide_eq_true_eq] at h
  rcases h with rfl | rfl <;> rfl
end
section
theorem dX6_get_0 : decode cX6_get 0 = .ok (.iload_n 1, 1) := by decide +kernel
theorem dX6_get_1 : decode cX6_get 1 = .ok (.ifCond .lt 21, 3) := by decide +kernel
theorem dX6_get_4 : decode cX6_get 4 = .ok (.iload_n 1, 1) := by decide +kernel
theorem dX6_get_5 : decode cX6_get 5 = .ok (.aload_n 0, 1) := by decide +kernel
theorem dX6_get_6 : decode cX6_get 6 = .ok (.getfield 13, 3) := by decide +kernel
theorem dX6_get_9 : decode cX6_get 9 = .ok (.arraylength, 1) := by decide +kernel
theorem dX6_get_10 : decode cX6_get 10 = .ok (.if_icmp .ge 12, 3) := by decide +kernel
theorem dX6_get_13 : decode cX6_get 13 = .ok (.aload_n 0, 1) := by decide +kernel
theorem dX6_get_14 : decode cX6_get 14 = .ok (.getfield 13, 3) := by decide +kernel
theorem dX6_get_17 : decode cX6_get 17 = .ok (.iload_n 1, 1) := by decide +kernel
theorem dX6_get_18 : decode cX6_get 18 = .ok (.iaload, 1) := by decide +kernel
theorem dX6_get_19 : decode cX6_get 19 = .ok (.goto 4, 3) := by decide +kernel
theorem dX6_get_22 : decode cX6_get 22 = .ok (.iconst 0, 1) := by decide +kernel
theorem dX6_get_23 : decode cX6_get 23 = .ok (.ireturn, 1) := by decide +kernel
theorem dX6_put_0 : decode cX6_put 0 = .ok (.iload_n 1, 1) := by decide +kernel
theorem dX6_put_1 : decode cX6_put 1 = .ok (.ifCond .lt 19, 3) := by decide +kernel
theorem dX6_put_4 : decode cX6_put 4 = .ok (.iload_n 1, 1) := by decide +kernel
theorem dX6_put_5 : decode cX6_put 5 = .ok (.aload_n 0, 1) := by decide +kernel
theorem dX6_put_6 : decode cX6_put 6 = .ok (.getfield 13, 3) := by decide +kernel
theorem dX6_put_9 : decode cX6_put 9 = .ok (.arraylength, 1) := by decide +kernel
theorem dX6_put_10 : decode cX6_put 10 = .ok (.if_icmp .ge 10, 3) := by decide +kernel
theorem dX6_put_13 : decode cX6_put 13 = .ok (.aload_n 0, 1) := by decide +kernel
theorem dX6_put_14 : decode cX6_put 14 = .ok (.getfield 13, 3) := by decide +kernel
theorem dX6_put_17 : decode cX6_put 17 = .ok (.iload_n 1, 1) := by decide +kernel
theorem dX6_put_18 : decode cX6_put 18 = .ok (.iload_n 2, 1) := by decide +kernel
theorem dX6_put_19 : decode cX6_put 19 = .ok (.iastore, 1) := by decide +kernel
theorem dX6_put_20 : decode cX6_put 20 = .ok (.return_, 1) := by decide +kernel
theorem dX6_increase_0 : decode cX6_increase 0 = .ok (.iload_n 1, 1) := by decide +kernel
theorem dX6_increase_1 : decode cX6_increase 1 = .ok (.ifCond .lt 22, 3) := by decide +kernel
theorem dX6_increase_4 : decode cX6_increase 4 = .ok (.iload_n 1, 1) := by decide +kernel
theorem dX6_increase_5 : decode cX6_increase 5 = .ok (.aload_n 0, 1) := by decide +kernel
theorem dX6_increase_6 : decode cX6_increase 6 = .ok (.getfield 13, 3) := by decide +kernel
theorem dX6_increase_9 : decode cX6_increase 9 = .ok (.arraylength, 1) := by decide +kernel
theorem dX6_increase_10 : decode cX6_increase 10 = .ok (.if_icmp .ge 13, 3) := by decide +kernel
theorem dX6_increase_13 : decode cX6_increase 13 = .ok (.aload_n 0, 1) := by decide +kernel
theorem dX6_increase_14 : decode cX6_increase 14 = .ok (.getfield 13, 3) := by decide +kernel
theorem dX6_increase_17 : decode cX6_increase 17 = .ok (.iload_n 1, 1) := by decide +kernel
theorem dX6_increase_18 : decode cX6_increase 18 = .ok (.dup2, 1) := by decide +kernel
theorem dX6_increase_19 : decode cX6_increase 19 = .ok (.iaload, 1) := by decide +kernel
theorem dX6_increase_20 : decode cX6_increase 20 = .ok (.iload_n 2, 1) := by decide +kernel
theorem dX6_increase_21 : decode cX6_increase 21 = .ok (.iadd, 1) := by decide +kernel
theorem dX6_increase_22 : decode cX6_increase 22 = .ok (.iastore, 1) := by decide +kernel
theorem dX6_increase_23 : decode cX6_increase 23 = .ok (.return_, 1) := by decide +kernel
theorem dX6_replace_0 : decode cX6_replace 0 = .ok (.aload_n 0, 1) := by decide +kernel
theorem dX6_replace_1 : decode cX6_replace 1 = .ok (.iload_n 1, 1) := by decide +kernel
theorem dX6_replace_2 : decode cX6_replace 2 = .ok (.invokevirtual 19, 3) := by decide +kernel
theorem dX6_replace_5 : decode cX6_replace 5 = .ok (.istore_n 3, 1) := by decide +kernel
theorem dX6_replace_6 : decode cX6_replace 6 = .ok (.aload_n 0, 1) := by decide +kernel
theorem dX6_replace_7 : decode cX6_replace 7 = .ok (.iload_n 1, 1) := by decide +kernel
theorem dX6_replace_8 : decode cX6_replace 8 = .ok (.iload_n 2, 1) := by decide +kernel
theorem dX6_replace_9 : decode cX6_replace 9 = .ok (.invokevirtual 23, 3) := by decide +kernel
theorem dX6_replace_12 : decode cX6_replace 12 = .ok (.iload_n 3, 1) := by decide +kernel
theorem dX6_replace_13 : decode cX6_replace 13 = .ok (.ireturn, 1) := by decide +kernel
theorem dX6_fill_0 : decode cX6_fill 0 = .ok (.iconst 0, 1) := by decide +kernel
theorem dX6_fill_1 : decode cX6_fill 1 = .ok (.istore_n 2, 1) := by decide +kernel
theorem dX6_fill_2 : decode cX6_fill 2 = .ok (.iload_n 2, 1) := by decide +kernel
theorem dX6_fill_3 : decode cX6_fill 3 = .ok (.aload_n 0, 1) := by decide +kernel
theorem dX6_fill_4 : decode cX6_fill 4 = .ok (.getfield 13, 3) := by decide +kernel
theorem dX6_fill_7 : decode cX6_fill 7 = .ok (.arraylength, 1) := by decide +kernel
theorem dX6_fill_8 : decode cX6_fill 8 = .ok (.if_icmp .ge 16, 3) := by decide +kernel
theorem dX6_fill_11 : decode cX6_fill 11 = .ok (.aload_n 0, 1) := by decide +kernel
theorem dX6_fill_12 : decode cX6_fill 12 = .ok (.getfield 13, 3) := by decide +kernel
theorem dX6_fill_15 : decode cX6_fill 15 = .ok (.iload_n 2, 1) := by decide +kernel
theorem dX6_fill_16 : decode cX6_fill 16 = .ok (.iload_n 1, 1) := by decide +kernel
theorem dX6_fill_17 : decode cX6_fill 17 = .ok (.iastore, 1) := by decide +kernel
theorem dX6_fill_18 : decode cX6_fill 18 = .ok (.iinc 2 1, 3) := by decide +kernel
theorem dX6_fill_21 : decode cX6_fill 21 = .ok (.goto (-19), 3) := by decide +kernel
theorem dX6_fill_24 : decode cX6_fill 24 = .ok (.return_, 1) := by decide +kernel
theorem dX6_copyFrom_0 : decode cX6_copyFrom 0 = .ok (.aload_n 1, 1) := by decide +kernel
theorem dX6_copyFrom_1 : decode cX6_copyFrom 1 = .ok (.getfield 13, 3) := by decide +kernel
theorem dX6_copyFrom_4 : decode cX6_copyFrom 4 = .ok (.iconst 0, 1) := by decide +kernel
theorem dX6_copyFrom_5 : decode cX6_copyFrom 5 = .ok (.aload_n 0, 1) := by decide +kernel
theorem dX6_copyFrom_6 : decode cX6_copyFrom 6 = .ok (.getfield 13, 3) := by decide +kernel
theorem dX6_copyFrom_9 : decode cX6_copyFrom 9 = .ok (.iconst 0, 1) := by decide +kernel
theorem dX6_copyFrom_10 : decode cX6_copyFrom 10 = .ok (.aload_n 0, 1) := by decide +kernel
theorem dX6_copyFrom_11 : decode cX6_copyFrom 11 = .ok (.getfield 13, 3) := by decide +kernel
theorem dX6_copyFrom_14 : decode cX6_copyFrom 14 = .ok (.arraylength, 1) := by decide +kernel
theorem dX6_copyFrom_15 : decode cX6_copyFrom 15 = .ok (.aload_n 1, 1) := by decide +kernel
theorem dX6_copyFrom_16 : decode cX6_copyFrom 16 = .ok (.getfield 13, 3) := by decide +kernel
theorem dX6_copyFrom_19 : decode cX6_copyFrom 19 = .ok (.arraylength, 1) := by decide +kernel
theorem dX6_copyFrom_20 : decode cX6_copyFrom 20 = .ok (.invokestatic 27, 3) := by decide +kernel
theorem dX6_copyFrom_23 : decode cX6_copyFrom 23 = .ok (.invokestatic 30, 3) := by decide +kernel
theorem dX6_copyFrom_26 : decode cX6_copyFrom 26 = .ok (.return_, 1) := by decide +kernel
theorem iw_X6 : ∀ w ∈ u_ws RX6 TX6 1, w ∈ gtbl := by decide +kernel
theorem yf_X6_get : (Cond.instanceMethod yX6_get) ∈ gtbl ∧ (Cond.selects RX6 yX6_get yX6_get) ∈ gtbl ∧ (Cond.initialized RX6) ∈ gtbl ∧ (Cond.code yX6_get cX6_get 2 (some .int)) ∈ gtbl ∧ (yX6_get.cls = RX6 ∧ yX6_get.cls ≠ "java/lang/invoke/MethodHandle" ∧ yX6_get.cls ≠ "java/lang/invoke/VarHandle" ∧ (parseMethodDescriptor yX6_get.desc).map (fun d => d.parameters.length) = some 1) := ⟨gt_in 326 (by decide +kernel) (by decide +kernel), gt_in 327 (by decide +kernel) (by decide +kernel), gt_in 20 (by decide +kernel) (by decide +kernel), gt_in 328 (by decide +kernel) (by decide +kernel), by decide +kernel⟩
theorem cw_X6_19 : uCW RX6 RX6 19 yX6_get cX6_get 2 (some .int) 1 := ⟨gt_in 646 (by decide +kernel) (by decide +kernel), yf_X6_get⟩
theorem yf_X6_put : (Cond.instanceMethod yX6_put) ∈ gtbl ∧ (Cond.selects RX6 yX6_put yX6_put) ∈ gtbl ∧ (Cond.initialized RX6) ∈ gtbl ∧ (Cond.code yX6_put cX6_put 3 none) ∈ gtbl ∧ (yX6_put.cls = RX6 ∧ yX6_put.cls ≠ "java/lang/invoke/MethodHandle" ∧ yX6_put.cls ≠ "java/lang/invoke/VarHandle" ∧ (parseMethodDescriptor yX6_put.desc).map (fun d => d.parameters.length) = some 2) := ⟨gt_in 188 (by decide +kernel) (by decide +kernel), gt_in 189 (by decide +kernel) (by decide +kernel), gt_in 20 (by decide +kernel) (by decide +kernel), gt_in 190 (by decide +kernel) (by decide +kernel), by decide +kernel⟩
theorem cw_X6_23 : uCW RX6 RX6 23 yX6_put cX6_put 3 none 2 := ⟨gt_in 647 (by decide +kernel) (by decide +kernel), yf_X6_put⟩

def uRow (G : UG) (t o n : Nat) : Prop := (t, o) ∈ gk G ∧ (t, o + 1) ∈ gk G ∧ (∀ f, uSh G t o f = uRowC G t o) ∧ (∀ f, uSh G t (o + 1) f = uArr G n f) ∧ n < 2 ^ 31
def fget (n : Nat) (f : Nat → Int32) (i : Int32) : Int32 := if i < 0 then 0 else if Int32.ofNat n ≤ i then 0 else f i.toNatClampNeg
def fput (n : Nat) (f : Nat → Int32) (i x : Int32) : Nat → Int32 := if i < 0 then f else if Int32.ofNat n ≤ i then f else upd f i.toNatClampNeg x
def finc (n : Nat) (f : Nat → Int32) (i x : Int32) : Nat → Int32 := if i < 0 then f else if Int32.ofNat n ≤ i then f else upd f i.toNatClampNeg (f i.toNatClampNeg + x)
theorem r_in {i : Int32} {n : Nat} (hn : n < 2 ^ 31) (h0 : ¬ i < 0) (h1 : ¬ Int32.ofNat n ≤ i) : vp_in i n := by
  rcases pk_ix i hn with h | h | ⟨j, hj, rfl⟩
  · exact absurd h h0
  · exact absurd h h1
  · exact vp_in_nI hj hn
theorem uS_b {V : uV} {t : Nat} {S : Nat → Nat → Int32} {o : Nat} {f : Nat → Int32} : uS (va_up V t S) t o f = va_up V t (va_up S o f) := by unfold uS; rw [va_up_s, bx_uu]
section ROW
variable {p : Program} {l : Launch} {e : Env} {R : Room} {s : State} {m : MethodId} {args : Array Value} {below : List Frame} {meth : Method} {c : Code} {H : Heap} {locs : List Loc} {cells slots : Nat} {Q : State → Prop}
variable {cc : ByteArray} {pc nL : Nat} {ls : Array Slot} {rest : List Value} {G : UG} {V : uV} {t o n : Nat} {S : Nat → Nat → Int32}
theorem gf_X6_13 (X : UC p s m args meth c cc nL RX6 G) (M : UM G V s H locs) (hR : uRow G t o n) (hdg : decode cc pc = .ok (.getfield 13, 3))
    (kk : W p l e R s m args below meth c H locs cells slots Q (F0 m (pc + 3) ls (.ref (ga G t (o + 1)) :: rest))) : W p l e R s m args below meth c H locs cells slots Q (F0 m pc ls (.ref (ga G t o) :: rest)) :=
  u_get X M hR.1 (hR.2.2.1 _) (C := RX6) (T := TX6) (N := 1) rfl iw_X6 0 (by decide) rfl (gt_in 67 (by decide +kernel) (by decide +kernel)) rfl hdg kk
theorem kX6_get {f : Nat → Int32} (hR : uRow G t o n) (hV : V t (o + 1) = f) {i r : Int32} (h : fget n f i = r) : uMi l G yX6_get cX6_get 2 .int (uR 0 0) [.ref (ga G t o), .int i] V r V := by
  refine uMi_of rfl (Nat.le_of_ble_eq_true rfl) (fun p e s m args below meth c ls X hret hl M => ?_)
  have hl : lv_has ls 2 [(0, .ref (ga G t o)), (1, .int i)] := hl
  have hx := X.hx
  have hb := X.hb
  have hsh : uSh G t (o + 1) (V t (o + 1)) = uArr G n f := by rw [hR.2.2.2.1, hV]
  unfold fget at h
  refine lv_iload_n hx hb dX6_get_0 rfl (lv_at hl 1 rfl) ?_
  refine lv_if_lt (tgt := 22) hx hb dX6_get_1 (by decide) (fun c1 => ?_) (fun c1 => ?_)
  · have h := it_t h c1
    refine lv_iconst (v := 0) hx hb dX6_get_22 rfl ?_
    exact u_iret X hret M h rfl rfl dX6_get_23
  · have h := it_f h c1
    refine lv_iload_n hx hb dX6_get_4 rfl (lv_at hl 1 rfl) ?_
    refine lv_aload_n hx hb dX6_get_5 rfl (lv_at hl 0 rfl) ?_
    refine gf_X6_13 X M hR dX6_get_6 ?_
    refine u_len X M hR.2.1 hsh rfl dX6_get_9 ?_
    refine lv_icmp_ge (tgt := 22) hx hb dX6_get_10 (by decide) (fun c2 => ?_) (fun c2 => ?_)
    · have h := it_t h c2
      refine lv_iconst (v := 0) hx hb dX6_get_22 rfl ?_
      exact u_iret X hret M h rfl rfl dX6_get_23
    · have h := it_f h c2
      refine lv_aload_n hx hb dX6_get_13 rfl (lv_at hl 0 rfl) ?_
      refine gf_X6_13 X M hR dX6_get_14 ?_
      refine lv_iload_n hx hb dX6_get_17 rfl (lv_at hl 1 rfl) ?_
      refine u_ald X M hR.2.1 hsh (r_in hR.2.2.2.2 c1 c2) rfl dX6_get_18 ?_
      refine lv_goto (tgt := 23) hx hb dX6_get_19 (by decide) ?_
      exact u_iret X hret M h rfl rfl dX6_get_23
theorem kX6_put (hR : uRow G t o n) {i x : Int32} {f' : Nat → Int32} (h : fput n (S (o + 1)) i x = f') : uMv l G yX6_put cX6_put 3 (uR 0 0) [.ref (ga G t o), .int i, .int x] (va_up V t S) (va_up V t (va_up S (o + 1) f')) := by
  refine uMv_of rfl (Nat.le_of_ble_eq_true rfl) (fun p e s m args below meth c ls X hret hl M => ?_)
  have hl : lv_has ls 3 [(0, .ref (ga G t o)), (1, .int i), (2, .int x)] := hl
  have hx := X.hx
  have hb := X.hb
  have hsh : uSh G t (o + 1) ((va_up V t S) t (o + 1)) = uArr G n (S (o + 1)) := by rw [hR.2.2.2.1, va_up_s]
  unfold fput at h
  refine lv_iload_n hx hb dX6_put_0 rfl (lv_at hl 1 rfl) ?_
  refine lv_if_lt (tgt := 20) hx hb dX6_put_1 (by decide) (fun c1 => ?_) (fun c1 => ?_)
  · have h := it_t h c1
    exact u_vret X hret M (by rw [← h, va_up_id]) dX6_put_20
  · have h := it_f h c1
    refine lv_iload_n hx hb dX6_put_4 rfl (lv_at hl 1 rfl) ?_
    refine lv_aload_n hx hb dX6_put_5 rfl (lv_at hl 0 rfl) ?_
    refine gf_X6_13 X M hR dX6_put_6 ?_
    refine u_len X M hR.2.1 hsh rfl dX6_put_9 ?_
    refine lv_icmp_ge (tgt := 20) hx hb dX6_put_10 (by decide) (fun c2 => ?_) (fun c2 => ?_)
    · have h := it_t h c2
      exact u_vret X hret M (by rw [← h, va_up_id]) dX6_put_20
    · have h := it_f h c2
      refine lv_aload_n hx hb dX6_put_13 rfl (lv_at hl 0 rfl) ?_
      refine gf_X6_13 X M hR dX6_put_14 ?_
      refine lv_iload_n hx hb dX6_put_17 rfl (lv_at hl 1 rfl) ?_
      refine lv_iload_n hx hb dX6_put_18 rfl (lv_at hl 2 rfl) ?_
      refine u_ast X M hR.2.1 hsh (r_in hR.2.2.2.2 c1 c2) hR.2.2.2.1 dX6_put_19 (fun H locs M => ?_)
      exact u_vret X hret M (by rw [uS_b, h]) dX6_put_20
theorem kX6_increase (hR : uRow G t o n) {i x : Int32} {f' : Nat → Int32} (h : finc n (S (o + 1)) i x = f') : uMv l G yX6_increase cX6_increase 3 (uR 0 0) [.ref (ga G t o), .int i, .int x] (va_up V t S) (va_up V t (va_up S (o + 1) f')) := by
  refine uMv_of rfl (Nat.le_of_ble_eq_true rfl) (fun p e s m args below meth c ls X hret hl M => ?_)
  have hl : lv_has ls 3 [(0, .ref (ga G t o)), (1, .int i), (2, .int x)] := hl
  have hx := X.hx
  have hb := X.hb
  have hsh : uSh G t (o + 1) ((va_up V t S) t (o + 1)) = uArr G n (S (o + 1)) := by rw [hR.2.2.2.1, va_up_s]
  unfold finc at h
  refine lv_iload_n hx hb dX6_increase_0 rfl (lv_at hl 1 rfl) ?_
  refine lv_if_lt (tgt := 23) hx hb dX6_increase_1 (by decide) (fun c1 => ?_) (fun c1 => ?_)
  · have h := it_t h c1
    exact u_vret X hret M (by rw [← h, va_up_id]) dX6_increase_23
  · have h := it_f h c1
    refine lv_iload_n hx hb dX6_increase_4 rfl (lv_at hl 1 rfl) ?_
    refine lv_aload_n hx hb dX6_increase_5 rfl (lv_at hl 0 rfl) ?_
    refine gf_X6_13 X M hR dX6_increase_6 ?_
    refine u_len X M hR.2.1 hsh rfl dX6_increase_9 ?_
    refine lv_icmp_ge (tgt := 23) hx hb dX6_increase_10 (by decide) (fun c2 => ?_) (fun c2 => ?_)
    · have h := it_t h c2
      exact u_vret X hret M (by rw [← h, va_up_id]) dX6_increase_23
    · have h := it_f h c2
      refine lv_aload_n hx hb dX6_increase_13 rfl (lv_at hl 0 rfl) ?_
      refine gf_X6_13 X M hR dX6_increase_14 ?_
      refine lv_iload_n hx hb dX6_increase_17 rfl (lv_at hl 1 rfl) ?_
      refine lv_dup2_11 hx hb dX6_increase_18 rfl rfl ?_
      refine u_ald X M hR.2.1 hsh (r_in hR.2.2.2.2 c1 c2) rfl dX6_increase_19 ?_
      refine lv_iload_n hx hb dX6_increase_20 rfl (lv_at hl 2 rfl) ?_
      refine lv_iadd hx hb dX6_increase_21 ?_
      refine u_ast X M hR.2.1 hsh (r_in hR.2.2.2.2 c1 c2) hR.2.2.2.1 dX6_increase_22 (fun H locs M => ?_)
      exact u_vret X hret M (by rw [uS_b, h]) dX6_increase_23
theorem uR_recv {H : Heap} {own : String} (X : UC p s m args meth c cc nL own G) (M : UM G V s H locs) (hR : uRow G t o n) : ∃ cell : Cell, H[ga G t o]? = some cell ∧ cell.vm.isStatics = false ∧ s.vm.findClass RX6 = some cell.cls := u_recv X M hR.1 (hR.2.2.1 _) (C := RX6) (T := TX6) (N := 1) rfl
theorem kX6_replace (hR : uRow G t o n) {i x r : Int32} {f' : Nat → Int32} (h1 : fget n (S (o + 1)) i = r) (h2 : fput n (S (o + 1)) i x = f') : uMi l G yX6_replace cX6_replace 4 .int (uR 1 22) [.ref (ga G t o), .int i, .int x] (va_up V t S) r (va_up V t (va_up S (o + 1) f')) := by
  refine uMi_of rfl (Nat.le_of_ble_eq_true rfl) (fun p e s m args below meth c ls X hret hl M => ?_)
  have hl : lv_has ls 4 [(0, .ref (ga G t o)), (1, .int i), (2, .int x)] := hl
  have hx := X.hx
  have hb := X.hb
  refine lv_aload_n hx hb dX6_replace_0 rfl (lv_at hl 0 rfl) ?_
  refine lv_iload_n hx hb dX6_replace_1 rfl (lv_at hl 1 rfl) ?_
  refine u_cVi X M hl.1 (kX6_get hR (congrFun (va_up_s V t S) (o + 1)) h1) cw_X6_19 ⟨by decide, by decide⟩ (uR_recv X M hR) rfl rfl (by decide) ⟨Nat.zero_le _, Nat.zero_le _⟩ dX6_replace_2 (fun H locs M hn => ?_)
  refine lv_istore_n (lv' := [(3, .int r), (0, .ref (ga G t o)), (1, .int i), (2, .int x)]) hx hb dX6_replace_5 rfl hl (by decide) rfl (fun ls hl => ?_)
  refine lv_aload_n hx hb dX6_replace_6 rfl (lv_at hl 1 rfl) ?_
  refine lv_iload_n hx hb dX6_replace_7 rfl (lv_at hl 2 rfl) ?_
  refine lv_iload_n hx hb dX6_replace_8 rfl (lv_at hl 3 rfl) ?_
  refine u_cVv X M hl.1 (kX6_put hR h2) cw_X6_23 ⟨by decide, by decide⟩ (uR_recv X M hR) rfl rfl (by decide) ⟨Nat.zero_le _, Nat.zero_le _⟩ dX6_replace_9 (fun H locs M => ?_)
  refine lv_iload_n hx hb dX6_replace_12 rfl (lv_at hl 0 rfl) ?_
  exact u_iret X hret M rfl rfl rfl dX6_replace_13
end ROW
end
section

theorem arrV_congr (cI : ClassId) (n : Nat) {f f' : Nat → Value} (h : ∀ j, j < n → f j = f' j) : arrV cI n f = arrV cI n f' := by
  unfold arrV
  have e : (Array.ofFn (n := n) fun j => f j.val) = Array.ofFn (n := n) fun j => f' j.val := congrArg Array.ofFn (funext fun j => h j.val j.isLt)
  rw [e]
/-- only the places below the length matter -/
theorem UH_arr {G : UG} {V : uV} {t o n : Nat} {f f' : Nat → Int32} {H : Heap} (hs : ∀ f, uSh G t o f = uArr G n f) (h : UH G (uS V t o f) H) (e : ∀ j, j < n → f j = f' j) : UH G (uS V t o f') H := by
  have hc : ∀ k : Nat × Nat, k.1 = t ∧ k.2 = o ∨ (uS V t o f k.1 k.2 = uS V t o f' k.1 k.2) := by
    intro k
    by_cases e1 : k.1 = t
    · by_cases e2 : k.2 = o
      · exact Or.inl ⟨e1, e2⟩
      · refine Or.inr ?_
        unfold uS
        rw [e1, va_up_s, va_up_s, va_up_n e2, va_up_n e2]
    · refine Or.inr ?_
      unfold uS
      rw [va_up_n e1, va_up_n e1]
  have es : ∀ x : Nat → Int32, uS V t o x t o = x := fun x => by unfold uS; rw [va_up_s, va_up_s]
  refine ⟨fun i q hq => ?_, ⟨fun i j p q hp hq => ?_, fun i q hq => ?_⟩⟩
  · unfold uW at hq
    rw [List.getElem?_map] at hq
    cases hi : (gk G)[i]? with
    | none => rw [hi] at hq; cases hq
    | some k =>
      rw [hi] at hq
      have hq' := Option.some.inj hq
      subst hq'
      have h0 := h.1 i (ga G k.1 k.2, uSh G k.1 k.2 (uS V t o f k.1 k.2)) (by unfold uW; rw [List.getElem?_map, hi]; rfl)
      rcases hc k with ⟨e1, e2⟩ | e1
      · obtain ⟨k1, k2⟩ := k
        dsimp only at e1 e2 h0 ⊢
        subst e1; subst e2
        rw [es, hs] at h0 ⊢
        show H[_]? = some (vp_cell _ _)
        have h1 : H[ga G k1 k2]? = some (vp_cell (gI G) (n, .inl f)) := h0
        rw [h1, vp_cell_i, vp_cell_i, arrV_congr _ _ (fun j hj => by rw [e j hj])]
      · show va_at (gD G) vwCl (ga G k.1 k.2, uSh G k.1 k.2 (uS V t o f' k.1 k.2)) H
        rw [← e1]
        exact h0
  · have cv : ∀ (i : Nat) (p : Nat × va_E), (uW G (uS V t o f'))[i]? = some p → ∃ p', (uW G (uS V t o f))[i]? = some p' ∧ p'.1 = p.1 := by
      intro i p hp
      unfold uW at hp ⊢
      rw [List.getElem?_map] at hp ⊢
      cases hi : (gk G)[i]? with
      | none => rw [hi] at hp; cases hp
      | some k =>
        rw [hi] at hp
        exact ⟨_, rfl, by rw [← Option.some.inj hp]⟩
    obtain ⟨p', h1, e1⟩ := cv i p hp
    obtain ⟨q', h2, e2⟩ := cv j q hq
    exact fun e3 => h.2.1 i j p' q' h1 h2 (by rw [e1, e2, e3])
  · unfold uW at hq
    rw [List.getElem?_map] at hq
    cases hi : (gk G)[i]? with
    | none => rw [hi] at hq; cases hq
    | some k =>
      rw [hi] at hq
      rw [← Option.some.inj hq]
      exact h.2.2 i (ga G k.1 k.2, uSh G k.1 k.2 (uS V t o f k.1 k.2)) (by unfold uW; rw [List.getElem?_map, hi]; rfl)
theorem u_topi {p : Program} {l : Launch} {e : Env} {R : Room} {s : State} {m : MethodId} {args : Array Value} {below : List Frame} {meth : Method} {c : Code} {H : Heap} {locs : List Loc} {cells slots : Nat} {Q : State → Prop} {pc : Nat} {ls : Array Slot} {rest : List Value} {x y : Int32} (h : y = x) (k : W p l e R s m args below meth c H locs cells slots Q (F0 m pc ls (.int y :: rest))) : W p l e R s m args below meth c H locs cells slots Q (F0 m pc ls (.int x :: rest)) := h ▸ k
theorem u_topl {p : Program} {l : Launch} {e : Env} {R : Room} {s : State} {m : MethodId} {args : Array Value} {below : List Frame} {meth : Method} {c : Code} {H : Heap} {locs : List Loc} {cells slots : Nat} {Q : State → Prop} {pc : Nat} {ls : Array Slot} {rest : List Value} {x y : Int64} (h : y = x) (k : W p l e R s m args below meth c H locs cells slots Q (F0 m pc ls (.long y :: rest))) : W p l e R s m args below meth c H locs cells slots Q (F0 m pc ls (.long x :: rest)) := h ▸ k
theorem kX6_copyFrom {l : Launch} {G : UG} {V : uV} {t o n t2 o2 : Nat} (hR : uRow G t o n) (hR2 : uRow G t2 o2 n) : uMv l G yX6_copyFrom cX6_copyFrom 2 (uR 1 40) [.ref (ga G t o), .ref (ga G t2 o2)] V (uS V t (o + 1) (V t2 (o2 + 1))) := by
  refine uMv_of rfl (Nat.le_of_ble_eq_true rfl) (fun p e s m args below meth c ls X hret hl M => ?_)
  have hl : lv_has ls 2 [(0, .ref (ga G t o)), (1, .ref (ga G t2 o2))] := hl
  have hx := X.hx
  have hb := X.hb
  have hn : n < 2 ^ 31 := hR.2.2.2.2
  have hcn : (Int32.ofNat n).toNatClampNeg = n := nI_clamp hn
  have hsh : uSh G t (o + 1) (V t (o + 1)) = uArr G n (V t (o + 1)) := hR.2.2.2.1 _
  have hsh2 : uSh G t2 (o2 + 1) (V t2 (o2 + 1)) = uArr G n (V t2 (o2 + 1)) := hR2.2.2.2.1 _
  refine lv_aload_n hx hb dX6_copyFrom_0 rfl (lv_at hl 1 rfl) ?_
  refine gf_X6_13 X M hR2 dX6_copyFrom_1 ?_
  refine lv_iconst (v := 0) hx hb dX6_copyFrom_4 rfl ?_
  refine lv_aload_n hx hb dX6_copyFrom_5 rfl (lv_at hl 0 rfl) ?_
  refine gf_X6_13 X M hR dX6_copyFrom_6 ?_
  refine lv_iconst (v := 0) hx hb dX6_copyFrom_9 rfl ?_
  refine lv_aload_n hx hb dX6_copyFrom_10 rfl (lv_at hl 0 rfl) ?_
  refine gf_X6_13 X M hR dX6_copyFrom_11 ?_
  refine u_len X M hR.2.1 hsh rfl dX6_copyFrom_14 ?_
  refine lv_aload_n hx hb dX6_copyFrom_15 rfl (lv_at hl 1 rfl) ?_
  refine gf_X6_13 X M hR2 dX6_copyFrom_16 ?_
  refine u_len X M hR2.2.1 hsh2 rfl dX6_copyFrom_19 ?_
  refine va_mmin hx hb (X.1.2.2.1.trans hl.1.symm) X.1.2.2.2.1 (X.hts (gt_in 365 (by decide +kernel) (by decide +kernel))) (X.hts (gt_in 366 (by decide +kernel) (by decide +kernel))) (X.hts (gt_in 21 (by decide +kernel) (by decide +kernel))) (X.hts (gt_in 367 (by decide +kernel) (by decide +kernel))) (by decide) (Nat.le_of_ble_eq_true rfl) (Nat.zero_le _) (Nat.zero_le _) dX6_copyFrom_20 ?_
  refine u_topi (y := Int32.ofNat n) (by split <;> rfl) ?_
  obtain ⟨i, hi, hw⟩ := uW_at (V := V) hR.2.1
  obtain ⟨i2, hi2, hw2⟩ := uW_at (V := V) hR2.2.1
  rw [hsh] at hw
  rw [hsh2] at hw2
  refine va_copyi hx hb (X.1.2.2.1.trans hl.1.symm) X.1.2.2.2.1 (X.hts (gt_in 368 (by decide +kernel) (by decide +kernel))) (X.hts (gt_in 370 (by decide +kernel) (by decide +kernel))) (X.hts (gt_in 369 (by decide +kernel) (by decide +kernel))) (X.hts (gt_in 35 (by decide +kernel) (by decide +kernel))) X.2.1 M.1.1 M.1.2 M.2 i2 i 0 0 hw2 hw rfl rfl rfl (by decide) (by decide) (nI_pos hn) (by rw [hcn, sb_cl0]; omega) (by rw [hcn, sb_cl0]; omega) (fun _ _ => rfl) (by decide) (Nat.le_of_ble_eq_true rfl) dX6_copyFrom_23 (fun H locs h1 h2 h3 => ?_)
  rw [hcn, sb_cl0] at h1 h2
  have hU : UH G (uS V t (o + 1) (va_cpy (V t2 (o2 + 1)) (V t (o + 1)) 0 0 n)) H := UH_set M.1.2 hi (hR.2.2.2.1 _) h1 h2
  have hU2 : UH G (uS V t (o + 1) (V t2 (o2 + 1))) H := UH_arr hR.2.2.2.1 hU (fun j hj => sb_cpy0 hj)
  exact u_vret X hret ⟨hU2, h3⟩ rfl dX6_copyFrom_26
theorem lpX6_fill {l : Launch} {G : UG} {V : uV} {t o n : Nat} {S : Nat → Nat → Int32} (hR : uRow G t o n) {v : Int32} {p : Program} {e : Env} {s : State} {m : MethodId} {args : Array Value} {below : List Frame} {meth : Method} {c : Code} (X : UC p s m args meth c cX6_fill 3 RX6 G) (hret : meth.sig.returnType = none) :
    ∀ (d k : Nat), k + d = n → ∀ (f : Nat → Int32), (∀ j, j < k → f j = v) → ∀ (H : Heap) (locs : List Loc) (ls : Array Slot), UM G (va_up V t (va_up S (o + 1) f)) s H locs → lv_has ls 3 [(0, .ref (ga G t o)), (1, .int v), (2, .int (nI k))] →
      W p l e (uR 0 0) s m args below meth c H locs 0 0 (MQ below (uQv G (va_up V t (va_up S (o + 1) (fun _ => v)))) args s 0 0 (uA G)) (F0 m 2 ls []) := by
  intro d
  have hn : n < 2 ^ 31 := hR.2.2.2.2
  have hx := X.hx
  have hb := X.hb
  induction d with
  | zero =>
    intro k hk f hf H locs ls M hl
    have hsh : uSh G t (o + 1) ((va_up V t (va_up S (o + 1) f)) t (o + 1)) = uArr G n f := by rw [hR.2.2.2.1, va_up_s, va_up_s]
    refine lv_iload_n hx hb dX6_fill_2 rfl (lv_at hl 2 rfl) ?_
    refine lv_aload_n hx hb dX6_fill_3 rfl (lv_at hl 0 rfl) ?_
    refine gf_X6_13 X M hR dX6_fill_4 ?_
    refine u_len X M hR.2.1 hsh rfl dX6_fill_7 ?_
    refine lv_icmp_ge (tgt := 24) hx hb dX6_fill_8 (by decide) (fun c2 => ?_) (fun c2 => ?_)
    · have e1 : va_up V t (va_up S (o + 1) f) = uS (va_up V t S) t (o + 1) f := uS_b.symm
      have hU : UH G (uS (va_up V t S) t (o + 1) f) H := e1 ▸ M.1
      have hU2 := UH_arr (f' := fun _ => v) hR.2.2.2.1 hU (fun j hj => hf j (by omega))
      rw [uS_b] at hU2
      exact u_vret X hret ⟨hU2, M.2⟩ rfl dX6_fill_24
    · exact absurd (nI_le (a := n) (b := k) (by omega) (by omega)) c2
  | succ d ih =>
    intro k hk f hf H locs ls M hl
    have hsh : uSh G t (o + 1) ((va_up V t (va_up S (o + 1) f)) t (o + 1)) = uArr G n f := by rw [hR.2.2.2.1, va_up_s, va_up_s]
    refine lv_iload_n hx hb dX6_fill_2 rfl (lv_at hl 2 rfl) ?_
    refine lv_aload_n hx hb dX6_fill_3 rfl (lv_at hl 0 rfl) ?_
    refine gf_X6_13 X M hR dX6_fill_4 ?_
    refine u_len X M hR.2.1 hsh rfl dX6_fill_7 ?_
    refine lv_icmp_ge (tgt := 24) hx hb dX6_fill_8 (by decide) (fun c2 => ?_) (fun c2 => ?_)
    · exact absurd c2 (nI_ge (a := k) (b := n) (by omega) hn)
    · refine lv_aload_n hx hb dX6_fill_11 rfl (lv_at hl 0 rfl) ?_
      refine gf_X6_13 X M hR dX6_fill_12 ?_
      refine lv_iload_n hx hb dX6_fill_15 rfl (lv_at hl 2 rfl) ?_
      refine lv_iload_n hx hb dX6_fill_16 rfl (lv_at hl 1 rfl) ?_
      refine u_ast X M hR.2.1 hsh (vp_in_nI (by omega) hn) hR.2.2.2.1 dX6_fill_17 (fun H locs M => ?_)
      rw [uS_b, bx_uu, nI_clamp (by omega)] at M
      refine lv_iinc (v := nI (k + 1)) (lv' := [(2, .int (nI (k + 1))), (0, .ref (ga G t o)), (1, .int v)]) hx hb dX6_fill_18 hl (k := 2) rfl (nI_1 k) (by decide) rfl (fun ls hl => ?_)
      refine lv_goto (tgt := 2) hx hb dX6_fill_21 (by decide) ?_
      exact ih (k + 1) (by omega) (upd f k v) (fun j hj => by
        by_cases e : j = k
        · subst e; exact pk_us
        · rw [pk_un e]; exact hf j (by omega)) H locs ls M (lv_sub hl [1, 2, 0] rfl)
theorem kX6_fill {l : Launch} {G : UG} {V : uV} {t o n : Nat} {S : Nat → Nat → Int32} (hR : uRow G t o n) {v : Int32} : uMv l G yX6_fill cX6_fill 3 (uR 0 0) [.ref (ga G t o), .int v] (va_up V t S) (va_up V t (va_up S (o + 1) (fun _ => v))) := by
  refine uMv_of rfl (Nat.le_of_ble_eq_true rfl) (fun p e s m args below meth c ls X hret hl M => ?_)
  have hl : lv_has ls 3 [(0, .ref (ga G t o)), (1, .int v)] := hl
  have hx := X.hx
  have hb := X.hb
  refine lv_iconst (v := 0) hx hb dX6_fill_0 rfl ?_
  refine lv_istore_n (lv' := [(2, .int (nI 0)), (0, .ref (ga G t o)), (1, .int v)]) hx hb dX6_fill_1 rfl hl (by decide) rfl (fun ls hl => ?_)
  exact lpX6_fill hR X hret n 0 (by omega) (S (o + 1)) (fun j hj => absurd hj (Nat.not_lt_zero j)) _ _ ls (um_in2 (o + 1) M) (lv_sub hl [1, 2, 0] rfl)
end
section
def uSt (G : UG) (t : Nat) : Prop := t < 18 ∧ ∀ o, o < 40 → (t, o) ∈ gk G
def uMn (G : UG) : Prop := ∀ o, o < 7 → (18, o) ∈ gk G
def uMd (G : UG) : Prop := ∀ o, o < 8 → (19, o) ∈ gk G
def uOt (G : UG) : Prop := (20, 0) ∈ gk G
def uAll (G : UG) : Prop := (∀ t, t < 18 → uSt G t) ∧ uMn G ∧ uMd G ∧ uOt G
theorem uRw2 {G : UG} {t : Nat} (h : uSt G t) : uRow G t 2 10 := ⟨h.2 2 (by decide), h.2 3 (by decide), fun f => uSh_st h.1 2 f, fun f => uSh_st h.1 3 f, by decide⟩
theorem uRw4 {G : UG} {t : Nat} (h : uSt G t) : uRow G t 4 10 := ⟨h.2 4 (by decide), h.2 5 (by decide), fun f => uSh_st h.1 4 f, fun f => uSh_st h.1 5 f, by decide⟩
theorem uRw6 {G : UG} {t : Nat} (h : uSt G t) : uRow G t 6 10 := ⟨h.2 6 (by decide), h.2 7 (by decide), fun f => uSh_st h.1 6 f, fun f => uSh_st h.1 7 f, by decide⟩
theorem uRw8 {G : UG} {t : Nat} (h : uSt G t) : uRow G t 8 10 := ⟨h.2 8 (by decide), h.2 9 (by decide), fun f => uSh_st h.1 8 f, fun f => uSh_st h.1 9 f, by decide⟩
theorem uRw11 {G : UG} {t : Nat} (h : uSt G t) : uRow G t 11 8 := ⟨h.2 11 (by decide), h.2 12 (by decide), fun f => uSh_st h.1 11 f, fun f => uSh_st h.1 12 f, by decide⟩
theorem uRw13 {G : UG} {t : Nat} (h : uSt G t) : uRow G t 13 8 := ⟨h.2 13 (by decide), h.2 14 (by decide), fun f => uSh_st h.1 13 f, fun f => uSh_st h.1 14 f, by decide⟩
theorem uRw15 {G : UG} {t : Nat} (h : uSt G t) : uRow G t 15 8 := ⟨h.2 15 (by decide), h.2 16 (by decide), fun f => uSh_st h.1 15 f, fun f => uSh_st h.1 16 f, by decide⟩
theorem uRw17 {G : UG} {t : Nat} (h : uSt G t) : uRow G t 17 8 := ⟨h.2 17 (by decide), h.2 18 (by decide), fun f => uSh_st h.1 17 f, fun f => uSh_st h.1 18 f, by decide⟩
theorem uRw19 {G : UG} {t : Nat} (h : uSt G t) : uRow G t 19 256 := ⟨h.2 19 (by decide), h.2 20 (by decide), fun f => uSh_st h.1 19 f, fun f => uSh_st h.1 20 f, by decide⟩
theorem uRw22 {G : UG} {t : Nat} (h : uSt G t) : uRow G t 22 4 := ⟨h.2 22 (by decide), h.2 23 (by decide), fun f => uSh_st h.1 22 f, fun f => uSh_st h.1 23 f, by decide⟩
theorem uRw24 {G : UG} {t : Nat} (h : uSt G t) : uRow G t 24 4 := ⟨h.2 24 (by decide), h.2 25 (by decide), fun f => uSh_st h.1 24 f, fun f => uSh_st h.1 25 f, by decide⟩
theorem uRw26 {G : UG} {t : Nat} (h : uSt G t) : uRow G t 26 4 := ⟨h.2 26 (by decide), h.2 27 (by decide), fun f => uSh_st h.1 26 f, fun f => uSh_st h.1 27 f, by decide⟩
theorem uRw28 {G : UG} {t : Nat} (h : uSt G t) : uRow G t 28 4 := ⟨h.2 28 (by decide), h.2 29 (by decide), fun f => uSh_st h.1 28 f, fun f => uSh_st h.1 29 f, by decide⟩
theorem uRw30 {G : UG} {t : Nat} (h : uSt G t) : uRow G t 30 4 := ⟨h.2 30 (by decide), h.2 31 (by decide), fun f => uSh_st h.1 30 f, fun f => uSh_st h.1 31 f, by decide⟩
theorem uRw32 {G : UG} {t : Nat} (h : uSt G t) : uRow G t 32 48 := ⟨h.2 32 (by decide), h.2 33 (by decide), fun f => uSh_st h.1 32 f, fun f => uSh_st h.1 33 f, by decide⟩
theorem uRw34 {G : UG} {t : Nat} (h : uSt G t) : uRow G t 34 48 := ⟨h.2 34 (by decide), h.2 35 (by decide), fun f => uSh_st h.1 34 f, fun f => uSh_st h.1 35 f, by decide⟩
theorem uRw36 {G : UG} {t : Nat} (h : uSt G t) : uRow G t 36 48 := ⟨h.2 36 (by decide), h.2 37 (by decide), fun f => uSh_st h.1 36 f, fun f => uSh_st h.1 37 f, by decide⟩
theorem uRw38 {G : UG} {t : Nat} (h : uSt G t) : uRow G t 38 4 := ⟨h.2 38 (by decide), h.2 39 (by decide), fun f => uSh_st h.1 38 f, fun f => uSh_st h.1 39 f, by decide⟩
theorem uRwN {G : UG} (h : uMn G) : uRow G 18 2 120 := ⟨h 2 (by decide), h 3 (by decide), fun f => uSh_mn 2 f, fun f => uSh_mn 3 f, by decide⟩
section LINKS
variable {p : Program} {l : Launch} {e : Env} {R : Room} {s : State} {m : MethodId} {args : Array Value} {below : List Frame} {meth : Method} {c : Code} {H : Heap} {locs : List Loc} {cells slots : Nat} {Q : State → Prop}
variable {cc : ByteArray} {pc nL : Nat} {ls : Array Slot} {rest : List Value} {G : UG} {V : uV} {t : Nat} {S : Nat → Nat → Int32}
theorem iw_X0 : ∀ w ∈ u_ws RX0 TX0 5, w ∈ gtbl := by decide +kernel
theorem gf_X0_14 (X : UC p s m args meth c cc nL RX0 G) (M : UM G V s H locs) (hS : uSt G t) (hdg : decode cc pc = .ok (.getfield 14, 3))
    (kk : W p l e R s m args below meth c H locs cells slots Q (F0 m (pc + 3) ls (.ref (ga G t 2) :: rest))) : W p l e R s m args below meth c H locs cells slots Q (F0 m pc ls (.ref (ga G t 1) :: rest)) :=
  u_get X M (hS.2 1 (by decide)) (uSh_st hS.1 1 _) (C := RX0) (T := TX0) (N := 5) rfl iw_X0 1 (by decide) rfl (gt_in 74 (by decide +kernel) (by decide +kernel)) (v := .ref (ga G t 2)) rfl hdg kk
theorem gf_X0_18 (X : UC p s m args meth c cc nL RX0 G) (M : UM G V s H locs) (hS : uSt G t) (hdg : decode cc pc = .ok (.getfield 18, 3))
    (kk : W p l e R s m args below meth c H locs cells slots Q (F0 m (pc + 3) ls (.ref (ga G t 4) :: rest))) : W p l e R s m args below meth c H locs cells slots Q (F0 m pc ls (.ref (ga G t 1) :: rest)) :=
  u_get X M (hS.2 1 (by decide)) (uSh_st hS.1 1 _) (C := RX0) (T := TX0) (N := 5) rfl iw_X0 2 (by decide) rfl (gt_in 76 (by decide +kernel) (by decide +kernel)) (v := .ref (ga G t 4)) rfl hdg kk
theorem gf_X0_21 (X : UC p s m args meth c cc nL RX0 G) (M : UM G V s H locs) (hS : uSt G t) (hdg : decode cc pc = .ok (.getfield 21, 3))
    (kk : W p l e R s m args below meth c H locs cells slots Q (F0 m (pc + 3) ls (.ref (ga G t 6) :: rest))) : W p l e R s m args below meth c H locs cells slots Q (F0 m pc ls (.ref (ga G t 1) :: rest)) :=
  u_get X M (hS.2 1 (by decide)) (uSh_st hS.1 1 _) (C := RX0) (T := TX0) (N := 5) rfl iw_X0 3 (by decide) rfl (gt_in 79 (by decide +kernel) (by decide +kernel)) (v := .ref (ga G t 6)) rfl hdg kk
theorem gf_X0_24 (X : UC p s m args meth c cc nL RX0 G) (M : UM G V s H locs) (hS : uSt G t) (hdg : decode cc pc = .ok (.getfield 24, 3))
    (kk : W p l e R s m args below meth c H locs cells slots Q (F0 m (pc + 3) ls (.ref (ga G t 8) :: rest))) : W p l e R s m args below meth c H locs cells slots Q (F0 m pc ls (.ref (ga G t 1) :: rest)) :=
  u_get X M (hS.2 1 (by decide)) (uSh_st hS.1 1 _) (C := RX0) (T := TX0) (N := 5) rfl iw_X0 4 (by decide) rfl (gt_in 81 (by decide +kernel) (by decide +kernel)) (v := .ref (ga G t 8)) rfl hdg kk
theorem gf_X0_27 (X : UC p s m args meth c cc nL RX0 G) (M : UM G V s H locs) (hS : uSt G t) (hV : V t = S) {x : Int32} (ex : x = S 1 0) (hdg : decode cc pc = .ok (.getfield 27, 3))
    (kk : W p l e R s m args below meth c H locs cells slots Q (F0 m (pc + 3) ls (.int x :: rest))) : W p l e R s m args below meth c H locs cells slots Q (F0 m pc ls (.ref (ga G t 1) :: rest)) :=
  u_get X M (hS.2 1 (by decide)) (uSh_st hS.1 1 _) (C := RX0) (T := TX0) (N := 5) rfl iw_X0 0 (by decide) rfl (gt_in 72 (by decide +kernel) (by decide +kernel)) (v := .int x) (by rw [ex, ← hV]; rfl) hdg kk
theorem iw_X2 : ∀ w ∈ u_ws RX2 TX2 2, w ∈ gtbl := by decide +kernel
theorem gf_X2_14 (X : UC p s m args meth c cc nL RX2 G) (M : UM G V s H locs) (hN : uMn G) (hdg : decode cc pc = .ok (.getfield 14, 3))
    (kk : W p l e R s m args below meth c H locs cells slots Q (F0 m (pc + 3) ls (.ref (ga G 18 2) :: rest))) : W p l e R s m args below meth c H locs cells slots Q (F0 m pc ls (.ref (ga G 18 1) :: rest)) :=
  u_get X M (hN 1 (by decide)) (uSh_mn 1 _) (C := RX2) (T := TX2) (N := 2) rfl iw_X2 0 (by decide) rfl (gt_in 242 (by decide +kernel) (by decide +kernel)) (v := .ref (ga G 18 2)) rfl hdg kk
theorem gf_X2_20 (X : UC p s m args meth c cc nL RX2 G) (M : UM G V s H locs) (hN : uMn G) (hV : V 18 = S) {x : Int32} (ex : x = S 1 1) (hdg : decode cc pc = .ok (.getfield 20, 3))
    (kk : W p l e R s m args below meth c H locs cells slots Q (F0 m (pc + 3) ls (.int x :: rest))) : W p l e R s m args below meth c H locs cells slots Q (F0 m pc ls (.ref (ga G 18 1) :: rest)) :=
  u_get X M (hN 1 (by decide)) (uSh_mn 1 _) (C := RX2) (T := TX2) (N := 2) rfl iw_X2 1 (by decide) rfl (gt_in 243 (by decide +kernel) (by decide +kernel)) (v := .int x) (by rw [ex, ← hV]; rfl) hdg kk
theorem iw_X3 : ∀ w ∈ u_ws RX3 TX3 8, w ∈ gtbl := by decide +kernel
theorem gf_X3_14 (X : UC p s m args meth c cc nL RX3 G) (M : UM G V s H locs) (hS : uSt G t) (hdg : decode cc pc = .ok (.getfield 14, 3))
    (kk : W p l e R s m args below meth c H locs cells slots Q (F0 m (pc + 3) ls (.ref (ga G t 22) :: rest))) : W p l e R s m args below meth c H locs cells slots Q (F0 m pc ls (.ref (ga G t 21) :: rest)) :=
  u_get X M (hS.2 21 (by decide)) (uSh_st hS.1 21 _) (C := RX3) (T := TX3) (N := 8) rfl iw_X3 0 (by decide) rfl (gt_in 136 (by decide +kernel) (by decide +kernel)) (v := .ref (ga G t 22)) rfl hdg kk
theorem gf_X3_18 (X : UC p s m args meth c cc nL RX3 G) (M : UM G V s H locs) (hS : uSt G t) (hdg : decode cc pc = .ok (.getfield 18, 3))
    (kk : W p l e R s m args below meth c H locs cells slots Q (F0 m (pc + 3) ls (.ref (ga G t 24) :: rest))) : W p l e R s m args below meth c H locs cells slots Q (F0 m pc ls (.ref (ga G t 21) :: rest)) :=
  u_get X M (hS.2 21 (by decide)) (uSh_st hS.1 21 _) (C := RX3) (T := TX3) (N := 8) rfl iw_X3 1 (by decide) rfl (gt_in 139 (by decide +kernel) (by decide +kernel)) (v := .ref (ga G t 24)) rfl hdg kk
theorem gf_X3_21 (X : UC p s m args meth c cc nL RX3 G) (M : UM G V s H locs) (hS : uSt G t) (hdg : decode cc pc = .ok (.getfield 21, 3))
    (kk : W p l e R s m args below meth c H locs cells slots Q (F0 m (pc + 3) ls (.ref (ga G t 26) :: rest))) : W p l e R s m args below meth c H locs cells slots Q (F0 m pc ls (.ref (ga G t 21) :: rest)) :=
  u_get X M (hS.2 21 (by decide)) (uSh_st hS.1 21 _) (C := RX3) (T := TX3) (N := 8) rfl iw_X3 2 (by decide) rfl (gt_in 141 (by decide +kernel) (by decide +kernel)) (v := .ref (ga G t 26)) rfl hdg kk
theorem gf_X3_24 (X : UC p s m args meth c cc nL RX3 G) (M : UM G V s H locs) (hS : uSt G t) (hdg : decode cc pc = .ok (.getfield 24, 3))
    (kk : W p l e R s m args below meth c H locs cells slots Q (F0 m (pc + 3) ls (.ref (ga G t 28) :: rest))) : W p l e R s m args below meth c H locs cells slots Q (F0 m pc ls (.ref (ga G t 21) :: rest)) :=
  u_get X M (hS.2 21 (by decide)) (uSh_st hS.1 21 _) (C := RX3) (T := TX3) (N := 8) rfl iw_X3 3 (by decide) rfl (gt_in 142 (by decide +kernel) (by decide +kernel)) (v := .ref (ga G t 28)) rfl hdg kk
theorem gf_X3_27 (X : UC p s m args meth c cc nL RX3 G) (M : UM G V s H locs) (hS : uSt G t) (hdg : decode cc pc = .ok (.getfield 27, 3))
    (kk : W p l e R s m args below meth c H locs cells slots Q (F0 m (pc + 3) ls (.ref (ga G t 30) :: rest))) : W p l e R s m args below meth c H locs cells slots Q (F0 m pc ls (.ref (ga G t 21) :: rest)) :=
  u_get X M (hS.2 21 (by decide)) (uSh_st hS.1 21 _) (C := RX3) (T := TX3) (N := 8) rfl iw_X3 4 (by decide) rfl (gt_in 143 (by decide +kernel) (by decide +kernel)) (v := .ref (ga G t 30)) rfl hdg kk
theorem gf_X3_30 (X : UC p s m args meth c cc nL RX3 G) (M : UM G V s H locs) (hS : uSt G t) (hdg : decode cc pc = .ok (.getfield 30, 3))
    (kk : W p l e R s m args below meth c H locs cells slots Q (F0 m (pc + 3) ls (.ref (ga G t 32) :: rest))) : W p l e R s m args below meth c H locs cells slots Q (F0 m pc ls (.ref (ga G t 21) :: rest)) :=
  u_get X M (hS.2 21 (by decide)) (uSh_st hS.1 21 _) (C := RX3) (T := TX3) (N := 8) rfl iw_X3 5 (by decide) rfl (gt_in 144 (by decide +kernel) (by decide +kernel)) (v := .ref (ga G t 32)) rfl hdg kk
theorem gf_X3_33 (X : UC p s m args meth c cc nL RX3 G) (M : UM G V s H locs) (hS : uSt G t) (hdg : decode cc pc = .ok (.getfield 33, 3))
    (kk : W p l e R s m args below meth c H locs cells slots Q (F0 m (pc + 3) ls (.ref (ga G t 34) :: rest))) : W p l e R s m args below meth c H locs cells slots Q (F0 m pc ls (.ref (ga G t 21) :: rest)) :=
  u_get X M (hS.2 21 (by decide)) (uSh_st hS.1 21 _) (C := RX3) (T := TX3) (N := 8) rfl iw_X3 6 (by decide) rfl (gt_in 145 (by decide +kernel) (by decide +kernel)) (v := .ref (ga G t 34)) rfl hdg kk
theorem gf_X3_36 (X : UC p s m args meth c cc nL RX3 G) (M : UM G V s H locs) (hS : uSt G t) (hdg : decode cc pc = .ok (.getfield 36, 3))
    (kk : W p l e R s m args below meth c H locs cells slots Q (F0 m (pc + 3) ls (.ref (ga G t 36) :: rest))) : W p l e R s m args below meth c H locs cells slots Q (F0 m pc ls (.ref (ga G t 21) :: rest)) :=
  u_get X M (hS.2 21 (by decide)) (uSh_st hS.1 21 _) (C := RX3) (T := TX3) (N := 8) rfl iw_X3 7 (by decide) rfl (gt_in 146 (by decide +kernel) (by decide +kernel)) (v := .ref (ga G t 36)) rfl hdg kk
theorem iw_X4 : ∀ w ∈ u_ws RX4 TX4 3, w ∈ gtbl := by decide +kernel
theorem gf_X4_11 (X : UC p s m args meth c cc nL RX4 G) (M : UM G V s H locs) (hN : uMn G) (hdg : decode cc pc = .ok (.getfield 11, 3))
    (kk : W p l e R s m args below meth c H locs cells slots Q (F0 m (pc + 3) ls (.ref (ga G 18 5) :: rest))) : W p l e R s m args below meth c H locs cells slots Q (F0 m pc ls (.ref (ga G 18 4) :: rest)) :=
  u_get X M (hN 4 (by decide)) (uSh_mn 4 _) (C := RX4) (T := TX4) (N := 3) rfl iw_X4 0 (by decide) rfl (gt_in 258 (by decide +kernel) (by decide +kernel)) (v := .ref (ga G 18 5)) rfl hdg kk
theorem gf_X4_16 (X : UC p s m args meth c cc nL RX4 G) (M : UM G V s H locs) (hN : uMn G) (hV : V 18 = S) {x : Int32} (ex : x = S 4 2) (hdg : decode cc pc = .ok (.getfield 16, 3))
    (kk : W p l e R s m args below meth c H locs cells slots Q (F0 m (pc + 3) ls (.int x :: rest))) : W p l e R s m args below meth c H locs cells slots Q (F0 m pc ls (.ref (ga G 18 4) :: rest)) :=
  u_get X M (hN 4 (by decide)) (uSh_mn 4 _) (C := RX4) (T := TX4) (N := 3) rfl iw_X4 2 (by decide) rfl (gt_in 260 (by decide +kernel) (by decide +kernel)) (v := .int x) (by rw [ex, ← hV]; rfl) hdg kk
theorem gf_X4_20 (X : UC p s m args meth c cc nL RX4 G) (M : UM G V s H locs) (hN : uMn G) (hV : V 18 = S) {x : Int32} (ex : x = S 4 1) (hdg : decode cc pc = .ok (.getfield 20, 3))
    (kk : W p l e R s m args below meth c H locs cells slots Q (F0 m (pc + 3) ls (.int x :: rest))) : W p l e R s m args below meth c H locs cells slots Q (F0 m pc ls (.ref (ga G 18 4) :: rest)) :=
  u_get X M (hN 4 (by decide)) (uSh_mn 4 _) (C := RX4) (T := TX4) (N := 3) rfl iw_X4 1 (by decide) rfl (gt_in 259 (by decide +kernel) (by decide +kernel)) (v := .int x) (by rw [ex, ← hV]; rfl) hdg kk
theorem iw_X5 : ∀ w ∈ u_ws RX5 TX5 6, w ∈ gtbl := by decide +kernel
theorem gf_X5_16 (X : UC p s m args meth c cc nL RX5 G) (M : UM G V s H locs) (hS : uSt G t) (hdg : decode cc pc = .ok (.getfield 16, 3))
    (kk : W p l e R s m args below meth c H locs cells slots Q (F0 m (pc + 3) ls (.ref (ga G t 11) :: rest))) : W p l e R s m args below meth c H locs cells slots Q (F0 m pc ls (.ref (ga G t 10) :: rest)) :=
  u_get X M (hS.2 10 (by decide)) (uSh_st hS.1 10 _) (C := RX5) (T := TX5) (N := 6) rfl iw_X5 1 (by decide) rfl (gt_in 105 (by decide +kernel) (by decide +kernel)) (v := .ref (ga G t 11)) rfl hdg kk
theorem gf_X5_20 (X : UC p s m args meth c cc nL RX5 G) (M : UM G V s H locs) (hS : uSt G t) (hdg : decode cc pc = .ok (.getfield 20, 3))
    (kk : W p l e R s m args below meth c H locs cells slots Q (F0 m (pc + 3) ls (.ref (ga G t 13) :: rest))) : W p l e R s m args below meth c H locs cells slots Q (F0 m pc ls (.ref (ga G t 10) :: rest)) :=
  u_get X M (hS.2 10 (by decide)) (uSh_st hS.1 10 _) (C := RX5) (T := TX5) (N := 6) rfl iw_X5 2 (by decide) rfl (gt_in 108 (by decide +kernel) (by decide +kernel)) (v := .ref (ga G t 13)) rfl hdg kk
theorem gf_X5_23 (X : UC p s m args meth c cc nL RX5 G) (M : UM G V s H locs) (hS : uSt G t) (hdg : decode cc pc = .ok (.getfield 23, 3))
    (kk : W p l e R s m args below meth c H locs cells slots Q (F0 m (pc + 3) ls (.ref (ga G t 15) :: rest))) : W p l e R s m args below meth c H locs cells slots Q (F0 m pc ls (.ref (ga G t 10) :: rest)) :=
  u_get X M (hS.2 10 (by decide)) (uSh_st hS.1 10 _) (C := RX5) (T := TX5) (N := 6) rfl iw_X5 3 (by decide) rfl (gt_in 110 (by decide +kernel) (by decide +kernel)) (v := .ref (ga G t 15)) rfl hdg kk
theorem gf_X5_26 (X : UC p s m args meth c cc nL RX5 G) (M : UM G V s H locs) (hS : uSt G t) (hdg : decode cc pc = .ok (.getfield 26, 3))
    (kk : W p l e R s m args below meth c H locs cells slots Q (F0 m (pc + 3) ls (.ref (ga G t 17) :: rest))) : W p l e R s m args below meth c H locs cells slots Q (F0 m pc ls (.ref (ga G t 10) :: rest)) :=
  u_get X M (hS.2 10 (by decide)) (uSh_st hS.1 10 _) (C := RX5) (T := TX5) (N := 6) rfl iw_X5 4 (by decide) rfl (gt_in 112 (by decide +kernel) (by decide +kernel)) (v := .ref (ga G t 17)) rfl hdg kk
theorem gf_X5_29 (X : UC p s m args meth c cc nL RX5 G) (M : UM G V s H locs) (hS : uSt G t) (hdg : decode cc pc = .ok (.getfield 29, 3))
    (kk : W p l e R s m args below meth c H locs cells slots Q (F0 m (pc + 3) ls (.ref (ga G t 19) :: rest))) : W p l e R s m args below meth c H locs cells slots Q (F0 m pc ls (.ref (ga G t 10) :: rest)) :=
  u_get X M (hS.2 10 (by decide)) (uSh_st hS.1 10 _) (C := RX5) (T := TX5) (N := 6) rfl iw_X5 5 (by decide) rfl (gt_in 114 (by decide +kernel) (by decide +kernel)) (v := .ref (ga G t 19)) rfl hdg kk
theorem gf_X5_32 (X : UC p s m args meth c cc nL RX5 G) (M : UM G V s H locs) (hS : uSt G t) (hV : V t = S) {x : Int32} (ex : x = S 10 0) (hdg : decode cc pc = .ok (.getfield 32, 3))
    (kk : W p l e R s m args below meth c H locs cells slots Q (F0 m (pc + 3) ls (.int x :: rest))) : W p l e R s m args below meth c H locs cells slots Q (F0 m pc ls (.ref (ga G t 10) :: rest)) :=
  u_get X M (hS.2 10 (by decide)) (uSh_st hS.1 10 _) (C := RX5) (T := TX5) (N := 6) rfl iw_X5 0 (by decide) rfl (gt_in 102 (by decide +kernel) (by decide +kernel)) (v := .int x) (by rw [ex, ← hV]; rfl) hdg kk
theorem iw_X10 : ∀ w ∈ u_ws RX10 TX10 10, w ∈ gtbl := by decide +kernel
theorem gf_X7_37 (X : UC p s m args meth c cc nL RX7 G) (M : UM G V s H locs) (hS : uSt G t) (hdg : decode cc pc = .ok (.getfield 37, 3))
    (kk : W p l e R s m args below meth c H locs cells slots Q (F0 m (pc + 3) ls (.ref (ga G t 10) :: rest))) : W p l e R s m args below meth c H locs cells slots Q (F0 m pc ls (.ref (ga G t 0) :: rest)) :=
  u_get X M (hS.2 0 (by decide)) (uSh_st hS.1 0 _) (C := RX10) (T := TX10) (N := 10) rfl iw_X10 1 (by decide) rfl (gt_in 195 (by decide +kernel) (by decide +kernel)) (v := .ref (ga G t 10)) rfl hdg kk
theorem gf_X7_49 (X : UC p s m args meth c cc nL RX7 G) (M : UM G V s H locs) (hS : uSt G t) (hdg : decode cc pc = .ok (.getfield 49, 3))
    (kk : W p l e R s m args below meth c H locs cells slots Q (F0 m (pc + 3) ls (.ref (ga G t 21) :: rest))) : W p l e R s m args below meth c H locs cells slots Q (F0 m pc ls (.ref (ga G t 0) :: rest)) :=
  u_get X M (hS.2 0 (by decide)) (uSh_st hS.1 0 _) (C := RX10) (T := TX10) (N := 10) rfl iw_X10 2 (by decide) rfl (gt_in 198 (by decide +kernel) (by decide +kernel)) (v := .ref (ga G t 21)) rfl hdg kk
theorem gf_X7_60 (X : UC p s m args meth c cc nL RX7 G) (M : UM G V s H locs) (hS : uSt G t) (hdg : decode cc pc = .ok (.getfield 60, 3))
    (kk : W p l e R s m args below meth c H locs cells slots Q (F0 m (pc + 3) ls (.ref (ga G t 1) :: rest))) : W p l e R s m args below meth c H locs cells slots Q (F0 m pc ls (.ref (ga G t 0) :: rest)) :=
  u_get X M (hS.2 0 (by decide)) (uSh_st hS.1 0 _) (C := RX10) (T := TX10) (N := 10) rfl iw_X10 0 (by decide) rfl (gt_in 192 (by decide +kernel) (by decide +kernel)) (v := .ref (ga G t 1)) rfl hdg kk
theorem gf_X7_67 (X : UC p s m args meth c cc nL RX7 G) (M : UM G V s H locs) (hS : uSt G t) (hdg : decode cc pc = .ok (.getfield 67, 3))
    (kk : W p l e R s m args below meth c H locs cells slots Q (F0 m (pc + 3) ls (.ref (ga G t 4) :: rest))) : W p l e R s m args below meth c H locs cells slots Q (F0 m pc ls (.ref (ga G t 1) :: rest)) :=
  u_get X M (hS.2 1 (by decide)) (uSh_st hS.1 1 _) (C := RX0) (T := TX0) (N := 5) rfl iw_X0 2 (by decide) rfl (gt_in 77 (by decide +kernel) (by decide +kernel)) (v := .ref (ga G t 4)) rfl hdg kk
theorem gf_X7_76 (X : UC p s m args meth c cc nL RX7 G) (M : UM G V s H locs) (hS : uSt G t) (hV : V t = S) {x : Int32} (ex : x = S 0 7) (hdg : decode cc pc = .ok (.getfield 76, 3))
    (kk : W p l e R s m args below meth c H locs cells slots Q (F0 m (pc + 3) ls (.int x :: rest))) : W p l e R s m args below meth c H locs cells slots Q (F0 m pc ls (.ref (ga G t 0) :: rest)) :=
  u_get X M (hS.2 0 (by decide)) (uSh_st hS.1 0 _) (C := RX10) (T := TX10) (N := 10) rfl iw_X10 7 (by decide) rfl (gt_in 209 (by decide +kernel) (by decide +kernel)) (v := .int x) (by rw [ex, ← hV]; rfl) hdg kk
theorem iw_X9 : ∀ w ∈ u_ws RX9 TX9 4, w ∈ gtbl := by decide +kernel
theorem gf_X9_10 (X : UC p s m args meth c cc nL RX9 G) (M : UM G V s H locs) (hN : uMn G) (hdg : decode cc pc = .ok (.getfield 10, 3))
    (kk : W p l e R s m args below meth c H locs cells slots Q (F0 m (pc + 3) ls (.ref (ga G 16 0) :: rest))) : W p l e R s m args below meth c H locs cells slots Q (F0 m pc ls (.ref (ga G 18 6) :: rest)) :=
  u_get X M (hN 6 (by decide)) (uSh_mn 6 _) (C := RX9) (T := TX9) (N := 4) rfl iw_X9 0 (by decide) rfl (gt_in 276 (by decide +kernel) (by decide +kernel)) (v := .ref (ga G 16 0)) rfl hdg kk
theorem gf_X9_16 (X : UC p s m args meth c cc nL RX9 G) (M : UM G V s H locs) (hN : uMn G) (hdg : decode cc pc = .ok (.getfield 16, 3))
    (kk : W p l e R s m args below meth c H locs cells slots Q (F0 m (pc + 3) ls (.ref (ga G 17 0) :: rest))) : W p l e R s m args below meth c H locs cells slots Q (F0 m pc ls (.ref (ga G 18 6) :: rest)) :=
  u_get X M (hN 6 (by decide)) (uSh_mn 6 _) (C := RX9) (T := TX9) (N := 4) rfl iw_X9 1 (by decide) rfl (gt_in 277 (by decide +kernel) (by decide +kernel)) (v := .ref (ga G 17 0)) rfl hdg kk
theorem gf_X9_19 (X : UC p s m args meth c cc nL RX9 G) (M : UM G V s H locs) (hN : uMn G) (hV : V 18 = S) {x : Int32} (ex : x = S 6 2) (hdg : decode cc pc = .ok (.getfield 19, 3))
    (kk : W p l e R s m args below meth c H locs cells slots Q (F0 m (pc + 3) ls (.int x :: rest))) : W p l e R s m args below meth c H locs cells slots Q (F0 m pc ls (.ref (ga G 18 6) :: rest)) :=
  u_get X M (hN 6 (by decide)) (uSh_mn 6 _) (C := RX9) (T := TX9) (N := 4) rfl iw_X9 2 (by decide) rfl (gt_in 278 (by decide +kernel) (by decide +kernel)) (v := .int x) (by rw [ex, ← hV]; rfl) hdg kk
theorem gf_X9_23 (X : UC p s m args meth c cc nL RX9 G) (M : UM G V s H locs) (hN : uMn G) (hV : V 18 = S) {x : Int32} (ex : x = S 6 3) (hdg : decode cc pc = .ok (.getfield 23, 3))
    (kk : W p l e R s m args below meth c H locs cells slots Q (F0 m (pc + 3) ls (.int x :: rest))) : W p l e R s m args below meth c H locs cells slots Q (F0 m pc ls (.ref (ga G 18 6) :: rest)) :=
  u_get X M (hN 6 (by decide)) (uSh_mn 6 _) (C := RX9) (T := TX9) (N := 4) rfl iw_X9 3 (by decide) rfl (gt_in 279 (by decide +kernel) (by decide +kernel)) (v := .int x) (by rw [ex, ← hV]; rfl) hdg kk
theorem gf_X10_12 (X : UC p s m args meth c cc nL RX10 G) (M : UM G V s H locs) (hS : uSt G t) (hdg : decode cc pc = .ok (.getfield 12, 3))
    (kk : W p l e R s m args below meth c H locs cells slots Q (F0 m (pc + 3) ls (.ref (ga G t 1) :: rest))) : W p l e R s m args below meth c H locs cells slots Q (F0 m pc ls (.ref (ga G t 0) :: rest)) :=
  u_get X M (hS.2 0 (by decide)) (uSh_st hS.1 0 _) (C := RX10) (T := TX10) (N := 10) rfl iw_X10 0 (by decide) rfl (gt_in 191 (by decide +kernel) (by decide +kernel)) (v := .ref (ga G t 1)) rfl hdg kk
theorem gf_X10_21 (X : UC p s m args meth c cc nL RX10 G) (M : UM G V s H locs) (hS : uSt G t) (hdg : decode cc pc = .ok (.getfield 21, 3))
    (kk : W p l e R s m args below meth c H locs cells slots Q (F0 m (pc + 3) ls (.ref (ga G t 10) :: rest))) : W p l e R s m args below meth c H locs cells slots Q (F0 m pc ls (.ref (ga G t 0) :: rest)) :=
  u_get X M (hS.2 0 (by decide)) (uSh_st hS.1 0 _) (C := RX10) (T := TX10) (N := 10) rfl iw_X10 1 (by decide) rfl (gt_in 194 (by decide +kernel) (by decide +kernel)) (v := .ref (ga G t 10)) rfl hdg kk
theorem gf_X10_28 (X : UC p s m args meth c cc nL RX10 G) (M : UM G V s H locs) (hS : uSt G t) (hdg : decode cc pc = .ok (.getfield 28, 3))
    (kk : W p l e R s m args below meth c H locs cells slots Q (F0 m (pc + 3) ls (.ref (ga G t 21) :: rest))) : W p l e R s m args below meth c H locs cells slots Q (F0 m pc ls (.ref (ga G t 0) :: rest)) :=
  u_get X M (hS.2 0 (by decide)) (uSh_st hS.1 0 _) (C := RX10) (T := TX10) (N := 10) rfl iw_X10 2 (by decide) rfl (gt_in 197 (by decide +kernel) (by decide +kernel)) (v := .ref (ga G t 21)) rfl hdg kk
theorem gf_X10_37 (X : UC p s m args meth c cc nL RX10 G) (M : UM G V s H locs) (hS : uSt G t) (hdg : decode cc pc = .ok (.getfield 37, 3))
    (kk : W p l e R s m args below meth c H locs cells slots Q (F0 m (pc + 3) ls (.ref (ga G t 38) :: rest))) : W p l e R s m args below meth c H locs cells slots Q (F0 m pc ls (.ref (ga G t 0) :: rest)) :=
  u_get X M (hS.2 0 (by decide)) (uSh_st hS.1 0 _) (C := RX10) (T := TX10) (N := 10) rfl iw_X10 3 (by decide) rfl (gt_in 200 (by decide +kernel) (by decide +kernel)) (v := .ref (ga G t 38)) rfl hdg kk
theorem gf_X10_51 (X : UC p s m args meth c cc nL RX10 G) (M : UM G V s H locs) (hS : uSt G t) (hV : V t = S) {x : Int32} (ex : x = S 0 4) (hdg : decode cc pc = .ok (.getfield 51, 3))
    (kk : W p l e R s m args below meth c H locs cells slots Q (F0 m (pc + 3) ls (.int x :: rest))) : W p l e R s m args below meth c H locs cells slots Q (F0 m pc ls (.ref (ga G t 0) :: rest)) :=
  u_get X M (hS.2 0 (by decide)) (uSh_st hS.1 0 _) (C := RX10) (T := TX10) (N := 10) rfl iw_X10 4 (by decide) rfl (gt_in 202 (by decide +kernel) (by decide +kernel)) (v := .int x) (by rw [ex, ← hV]; rfl) hdg kk
theorem gf_X10_55 (X : UC p s m args meth c cc nL RX10 G) (M : UM G V s H locs) (hS : uSt G t) (hV : V t = S) {x : Int32} (ex : x = S 0 5) (hdg : decode cc pc = .ok (.getfield 55, 3))
    (kk : W p l e R s m args below meth c H locs cells slots Q (F0 m (pc + 3) ls (.int x :: rest))) : W p l e R s m args below meth c H locs cells slots Q (F0 m pc ls (.ref (ga G t 0) :: rest)) :=
  u_get X M (hS.2 0 (by decide)) (uSh_st hS.1 0 _) (C := RX10) (T := TX10) (N := 10) rfl iw_X10 5 (by decide) rfl (gt_in 204 (by decide +kernel) (by decide +kernel)) (v := .int x) (by rw [ex, ← hV]; rfl) hdg kk
theorem gf_X10_58 (X : UC p s m args meth c cc nL RX10 G) (M : UM G V s H locs) (hS : uSt G t) (hV : V t = S) {x : Int32} (ex : x = S 0 6) (hdg : decode cc pc = .ok (.getfield 58, 3))
    (kk : W p l e R s m args below meth c H locs cells slots Q (F0 m (pc + 3) ls (.int x :: rest))) : W p l e R s m args below meth c H locs cells slots Q (F0 m pc ls (.ref (ga G t 0) :: rest)) :=
  u_get X M (hS.2 0 (by decide)) (uSh_st hS.1 0 _) (C := RX10) (T := TX10) (N := 10) rfl iw_X10 6 (by decide) rfl (gt_in 206 (by decide +kernel) (by decide +kernel)) (v := .int x) (by rw [ex, ← hV]; rfl) hdg kk
theorem gf_X10_61 (X : UC p s m args meth c cc nL RX10 G) (M : UM G V s H locs) (hS : uSt G t) (hV : V t = S) {x : Int32} (ex : x = S 0 7) (hdg : decode cc pc = .ok (.getfield 61, 3))
    (kk : W p l e R s m args below meth c H locs cells slots Q (F0 m (pc + 3) ls (.int x :: rest))) : W p l e R s m args below meth c H locs cells slots Q (F0 m pc ls (.ref (ga G t 0) :: rest)) :=
  u_get X M (hS.2 0 (by decide)) (uSh_st hS.1 0 _) (C := RX10) (T := TX10) (N := 10) rfl iw_X10 7 (by decide) rfl (gt_in 208 (by decide +kernel) (by decide +kernel)) (v := .int x) (by rw [ex, ← hV]; rfl) hdg kk
theorem gf_X10_64 (X : UC p s m args meth c cc nL RX10 G) (M : UM G V s H locs) (hS : uSt G t) (hV : V t = S) {x : Int32} (ex : x = S 0 8) (hdg : decode cc pc = .ok (.getfield 64, 3))
    (kk : W p l e R s m args below meth c H locs cells slots Q (F0 m (pc + 3) ls (.int x :: rest))) : W p l e R s m args below meth c H locs cells slots Q (F0 m pc ls (.ref (ga G t 0) :: rest)) :=
  u_get X M (hS.2 0 (by decide)) (uSh_st hS.1 0 _) (C := RX10) (T := TX10) (N := 10) rfl iw_X10 8 (by decide) rfl (gt_in 211 (by decide +kernel) (by decide +kernel)) (v := .int x) (by rw [ex, ← hV]; rfl) hdg kk
theorem gf_X10_67 (X : UC p s m args meth c cc nL RX10 G) (M : UM G V s H locs) (hS : uSt G t) (hV : V t = S) {x : Int32} (ex : x = S 0 9) (hdg : decode cc pc = .ok (.getfield 67, 3))
    (kk : W p l e R s m args below meth c H locs cells slots Q (F0 m (pc + 3) ls (.int x :: rest))) : W p l e R s m args below meth c H locs cells slots Q (F0 m pc ls (.ref (ga G t 0) :: rest)) :=
  u_get X M (hS.2 0 (by decide)) (uSh_st hS.1 0 _) (C := RX10) (T := TX10) (N := 10) rfl iw_X10 9 (by decide) rfl (gt_in 212 (by decide +kernel) (by decide +kernel)) (v := .int x) (by rw [ex, ← hV]; rfl) hdg kk
theorem gf_X10_83 (X : UC p s m args meth c cc nL RX10 G) (M : UM G V s H locs) (hS : uSt G t) (hV : V t = S) {x : Int32} (ex : x = S 1 0) (hdg : decode cc pc = .ok (.getfield 83, 3))
    (kk : W p l e R s m args below meth c H locs cells slots Q (F0 m (pc + 3) ls (.int x :: rest))) : W p l e R s m args below meth c H locs cells slots Q (F0 m pc ls (.ref (ga G t 1) :: rest)) :=
  u_get X M (hS.2 1 (by decide)) (uSh_st hS.1 1 _) (C := RX0) (T := TX0) (N := 5) rfl iw_X0 0 (by decide) rfl (gt_in 73 (by decide +kernel) (by decide +kernel)) (v := .int x) (by rw [ex, ← hV]; rfl) hdg kk
theorem gf_X10_86 (X : UC p s m args meth c cc nL RX10 G) (M : UM G V s H locs) (hS : uSt G t) (hV : V t = S) {x : Int32} (ex : x = S 10 0) (hdg : decode cc pc = .ok (.getfield 86, 3))
    (kk : W p l e R s m args below meth c H locs cells slots Q (F0 m (pc + 3) ls (.int x :: rest))) : W p l e R s m args below meth c H locs cells slots Q (F0 m pc ls (.ref (ga G t 10) :: rest)) :=
  u_get X M (hS.2 10 (by decide)) (uSh_st hS.1 10 _) (C := RX5) (T := TX5) (N := 6) rfl iw_X5 0 (by decide) rfl (gt_in 103 (by decide +kernel) (by decide +kernel)) (v := .int x) (by rw [ex, ← hV]; rfl) hdg kk
theorem gf_X10_98 (X : UC p s m args meth c cc nL RX10 G) (M : UM G V s H locs) (hS : uSt G t) (hdg : decode cc pc = .ok (.getfield 98, 3))
    (kk : W p l e R s m args below meth c H locs cells slots Q (F0 m (pc + 3) ls (.ref (ga G t 11) :: rest))) : W p l e R s m args below meth c H locs cells slots Q (F0 m pc ls (.ref (ga G t 10) :: rest)) :=
  u_get X M (hS.2 10 (by decide)) (uSh_st hS.1 10 _) (C := RX5) (T := TX5) (N := 6) rfl iw_X5 1 (by decide) rfl (gt_in 106 (by decide +kernel) (by decide +kernel)) (v := .ref (ga G t 11)) rfl hdg kk
theorem gf_X10_104 (X : UC p s m args meth c cc nL RX10 G) (M : UM G V s H locs) (hS : uSt G t) (hdg : decode cc pc = .ok (.getfield 104, 3))
    (kk : W p l e R s m args below meth c H locs cells slots Q (F0 m (pc + 3) ls (.ref (ga G t 13) :: rest))) : W p l e R s m args below meth c H locs cells slots Q (F0 m pc ls (.ref (ga G t 10) :: rest)) :=
  u_get X M (hS.2 10 (by decide)) (uSh_st hS.1 10 _) (C := RX5) (T := TX5) (N := 6) rfl iw_X5 2 (by decide) rfl (gt_in 109 (by decide +kernel) (by decide +kernel)) (v := .ref (ga G t 13)) rfl hdg kk
theorem gf_X10_107 (X : UC p s m args meth c cc nL RX10 G) (M : UM G V s H locs) (hS : uSt G t) (hdg : decode cc pc = .ok (.getfield 107, 3))
    (kk : W p l e R s m args below meth c H locs cells slots Q (F0 m (pc + 3) ls (.ref (ga G t 17) :: rest))) : W p l e R s m args below meth c H locs cells slots Q (F0 m pc ls (.ref (ga G t 10) :: rest)) :=
  u_get X M (hS.2 10 (by decide)) (uSh_st hS.1 10 _) (C := RX5) (T := TX5) (N := 6) rfl iw_X5 4 (by decide) rfl (gt_in 113 (by decide +kernel) (by decide +kernel)) (v := .ref (ga G t 17)) rfl hdg kk
theorem gf_X10_110 (X : UC p s m args meth c cc nL RX10 G) (M : UM G V s H locs) (hS : uSt G t) (hdg : decode cc pc = .ok (.getfield 110, 3))
    (kk : W p l e R s m args below meth c H locs cells slots Q (F0 m (pc + 3) ls (.ref (ga G t 15) :: rest))) : W p l e R s m args below meth c H locs cells slots Q (F0 m pc ls (.ref (ga G t 10) :: rest)) :=
  u_get X M (hS.2 10 (by decide)) (uSh_st hS.1 10 _) (C := RX5) (T := TX5) (N := 6) rfl iw_X5 3 (by decide) rfl (gt_in 111 (by decide +kernel) (by decide +kernel)) (v := .ref (ga G t 15)) rfl hdg kk
theorem gf_X10_123 (X : UC p s m args meth c cc nL RX10 G) (M : UM G V s H locs) (hS : uSt G t) (hdg : decode cc pc = .ok (.getfield 123, 3))
    (kk : W p l e R s m args below meth c H locs cells slots Q (F0 m (pc + 3) ls (.ref (ga G t 24) :: rest))) : W p l e R s m args below meth c H locs cells slots Q (F0 m pc ls (.ref (ga G t 21) :: rest)) :=
  u_get X M (hS.2 21 (by decide)) (uSh_st hS.1 21 _) (C := RX3) (T := TX3) (N := 8) rfl iw_X3 1 (by decide) rfl (gt_in 140 (by decide +kernel) (by decide +kernel)) (v := .ref (ga G t 24)) rfl hdg kk
theorem gf_X10_166 (X : UC p s m args meth c cc nL RX10 G) (M : UM G V s H locs) (hS : uSt G t) (hdg : decode cc pc = .ok (.getfield 166, 3))
    (kk : W p l e R s m args below meth c H locs cells slots Q (F0 m (pc + 3) ls (.ref (ga G t 4) :: rest))) : W p l e R s m args below meth c H locs cells slots Q (F0 m pc ls (.ref (ga G t 1) :: rest)) :=
  u_get X M (hS.2 1 (by decide)) (uSh_st hS.1 1 _) (C := RX0) (T := TX0) (N := 5) rfl iw_X0 2 (by decide) rfl (gt_in 78 (by decide +kernel) (by decide +kernel)) (v := .ref (ga G t 4)) rfl hdg kk
theorem gf_X10_169 (X : UC p s m args meth c cc nL RX10 G) (M : UM G V s H locs) (hS : uSt G t) (hdg : decode cc pc = .ok (.getfield 169, 3))
    (kk : W p l e R s m args below meth c H locs cells slots Q (F0 m (pc + 3) ls (.ref (ga G t 2) :: rest))) : W p l e R s m args below meth c H locs cells slots Q (F0 m pc ls (.ref (ga G t 1) :: rest)) :=
  u_get X M (hS.2 1 (by decide)) (uSh_st hS.1 1 _) (C := RX0) (T := TX0) (N := 5) rfl iw_X0 1 (by decide) rfl (gt_in 75 (by decide +kernel) (by decide +kernel)) (v := .ref (ga G t 2)) rfl hdg kk
theorem gf_X10_192 (X : UC p s m args meth c cc nL RX10 G) (M : UM G V s H locs) (hS : uSt G t) (hdg : decode cc pc = .ok (.getfield 192, 3))
    (kk : W p l e R s m args below meth c H locs cells slots Q (F0 m (pc + 3) ls (.ref (ga G t 8) :: rest))) : W p l e R s m args below meth c H locs cells slots Q (F0 m pc ls (.ref (ga G t 1) :: rest)) :=
  u_get X M (hS.2 1 (by decide)) (uSh_st hS.1 1 _) (C := RX0) (T := TX0) (N := 5) rfl iw_X0 4 (by decide) rfl (gt_in 82 (by decide +kernel) (by decide +kernel)) (v := .ref (ga G t 8)) rfl hdg kk
theorem gf_X10_195 (X : UC p s m args meth c cc nL RX10 G) (M : UM G V s H locs) (hS : uSt G t) (hdg : decode cc pc = .ok (.getfield 195, 3))
    (kk : W p l e R s m args below meth c H locs cells slots Q (F0 m (pc + 3) ls (.ref (ga G t 22) :: rest))) : W p l e R s m args below meth c H locs cells slots Q (F0 m pc ls (.ref (ga G t 21) :: rest)) :=
  u_get X M (hS.2 21 (by decide)) (uSh_st hS.1 21 _) (C := RX3) (T := TX3) (N := 8) rfl iw_X3 0 (by decide) rfl (gt_in 137 (by decide +kernel) (by decide +kernel)) (v := .ref (ga G t 22)) rfl hdg kk
theorem gf_X10_201 (X : UC p s m args meth c cc nL RX10 G) (M : UM G V s H locs) (hS : uSt G t) (hdg : decode cc pc = .ok (.getfield 201, 3))
    (kk : W p l e R s m args below meth c H locs cells slots Q (F0 m (pc + 3) ls (.ref (ga G t 6) :: rest))) : W p l e R s m args below meth c H locs cells slots Q (F0 m pc ls (.ref (ga G t 1) :: rest)) :=
  u_get X M (hS.2 1 (by decide)) (uSh_st hS.1 1 _) (C := RX0) (T := TX0) (N := 5) rfl iw_X0 3 (by decide) rfl (gt_in 80 (by decide +kernel) (by decide +kernel)) (v := .ref (ga G t 6)) rfl hdg kk
theorem iw_X11 : ∀ w ∈ u_ws RX11 TX11 5, w ∈ gtbl := by decide +kernel
theorem gf_X11_10 (X : UC p s m args meth c cc nL RX11 G) (M : UM G V s H locs) (hN : uMn G) (hdg : decode cc pc = .ok (.getfield 10, 3))
    (kk : W p l e R s m args below meth c H locs cells slots Q (F0 m (pc + 3) ls (.ref (ga G 0 0) :: rest))) : W p l e R s m args below meth c H locs cells slots Q (F0 m pc ls (.ref (ga G 18 0) :: rest)) :=
  u_get X M (hN 0 (by decide)) (uSh_mn 0 _) (C := RX11) (T := TX11) (N := 5) rfl iw_X11 0 (by decide) rfl (gt_in 289 (by decide +kernel) (by decide +kernel)) (v := .ref (ga G 0 0)) rfl hdg kk
theorem gf_X11_16 (X : UC p s m args meth c cc nL RX11 G) (M : UM G V s H locs) (hN : uMn G) (hdg : decode cc pc = .ok (.getfield 16, 3))
    (kk : W p l e R s m args below meth c H locs cells slots Q (F0 m (pc + 3) ls (.ref (ga G 1 0) :: rest))) : W p l e R s m args below meth c H locs cells slots Q (F0 m pc ls (.ref (ga G 18 0) :: rest)) :=
  u_get X M (hN 0 (by decide)) (uSh_mn 0 _) (C := RX11) (T := TX11) (N := 5) rfl iw_X11 1 (by decide) rfl (gt_in 290 (by decide +kernel) (by decide +kernel)) (v := .ref (ga G 1 0)) rfl hdg kk
theorem gf_X11_22 (X : UC p s m args meth c cc nL RX11 G) (M : UM G V s H locs) (hN : uMn G) (hdg : decode cc pc = .ok (.getfield 22, 3))
    (kk : W p l e R s m args below meth c H locs cells slots Q (F0 m (pc + 3) ls (.ref (ga G 18 1) :: rest))) : W p l e R s m args below meth c H locs cells slots Q (F0 m pc ls (.ref (ga G 18 0) :: rest)) :=
  u_get X M (hN 0 (by decide)) (uSh_mn 0 _) (C := RX11) (T := TX11) (N := 5) rfl iw_X11 2 (by decide) rfl (gt_in 291 (by decide +kernel) (by decide +kernel)) (v := .ref (ga G 18 1)) rfl hdg kk
theorem gf_X11_29 (X : UC p s m args meth c cc nL RX11 G) (M : UM G V s H locs) (hN : uMn G) (hdg : decode cc pc = .ok (.getfield 29, 3))
    (kk : W p l e R s m args below meth c H locs cells slots Q (F0 m (pc + 3) ls (.ref (ga G 18 4) :: rest))) : W p l e R s m args below meth c H locs cells slots Q (F0 m pc ls (.ref (ga G 18 0) :: rest)) :=
  u_get X M (hN 0 (by decide)) (uSh_mn 0 _) (C := RX11) (T := TX11) (N := 5) rfl iw_X11 3 (by decide) rfl (gt_in 292 (by decide +kernel) (by decide +kernel)) (v := .ref (ga G 18 4)) rfl hdg kk
theorem gf_X11_36 (X : UC p s m args meth c cc nL RX11 G) (M : UM G V s H locs) (hN : uMn G) (hdg : decode cc pc = .ok (.getfield 36, 3))
    (kk : W p l e R s m args below meth c H locs cells slots Q (F0 m (pc + 3) ls (.ref (ga G 18 6) :: rest))) : W p l e R s m args below meth c H locs cells slots Q (F0 m pc ls (.ref (ga G 18 0) :: rest)) :=
  u_get X M (hN 0 (by decide)) (uSh_mn 0 _) (C := RX11) (T := TX11) (N := 5) rfl iw_X11 4 (by decide) rfl (gt_in 293 (by decide +kernel) (by decide +kernel)) (v := .ref (ga G 18 6)) rfl hdg kk
theorem gf_X11_82 (X : UC p s m args meth c cc nL RX11 G) (M : UM G V s H locs) (hS : uSt G t) (hdg : decode cc pc = .ok (.getfield 82, 3))
    (kk : W p l e R s m args below meth c H locs cells slots Q (F0 m (pc + 3) ls (.ref (ga G t 1) :: rest))) : W p l e R s m args below meth c H locs cells slots Q (F0 m pc ls (.ref (ga G t 0) :: rest)) :=
  u_get X M (hS.2 0 (by decide)) (uSh_st hS.1 0 _) (C := RX10) (T := TX10) (N := 10) rfl iw_X10 0 (by decide) rfl (gt_in 193 (by decide +kernel) (by decide +kernel)) (v := .ref (ga G t 1)) rfl hdg kk
theorem gf_X11_99 (X : UC p s m args meth c cc nL RX11 G) (M : UM G V s H locs) (hS : uSt G t) (hdg : decode cc pc = .ok (.getfield 99, 3))
    (kk : W p l e R s m args below meth c H locs cells slots Q (F0 m (pc + 3) ls (.ref (ga G t 10) :: rest))) : W p l e R s m args below meth c H locs cells slots Q (F0 m pc ls (.ref (ga G t 0) :: rest)) :=
  u_get X M (hS.2 0 (by decide)) (uSh_st hS.1 0 _) (C := RX10) (T := TX10) (N := 10) rfl iw_X10 1 (by decide) rfl (gt_in 196 (by decide +kernel) (by decide +kernel)) (v := .ref (ga G t 10)) rfl hdg kk
theorem gf_X11_109 (X : UC p s m args meth c cc nL RX11 G) (M : UM G V s H locs) (hS : uSt G t) (hdg : decode cc pc = .ok (.getfield 109, 3))
    (kk : W p l e R s m args below meth c H locs cells slots Q (F0 m (pc + 3) ls (.ref (ga G t 21) :: rest))) : W p l e R s m args below meth c H locs cells slots Q (F0 m pc ls (.ref (ga G t 0) :: rest)) :=
  u_get X M (hS.2 0 (by decide)) (uSh_st hS.1 0 _) (C := RX10) (T := TX10) (N := 10) rfl iw_X10 2 (by decide) rfl (gt_in 199 (by decide +kernel) (by decide +kernel)) (v := .ref (ga G t 21)) rfl hdg kk
theorem gf_X11_128 (X : UC p s m args meth c cc nL RX11 G) (M : UM G V s H locs) (hS : uSt G t) (hdg : decode cc pc = .ok (.getfield 128, 3))
    (kk : W p l e R s m args below meth c H locs cells slots Q (F0 m (pc + 3) ls (.ref (ga G t 38) :: rest))) : W p l e R s m args below meth c H locs cells slots Q (F0 m pc ls (.ref (ga G t 0) :: rest)) :=
  u_get X M (hS.2 0 (by decide)) (uSh_st hS.1 0 _) (C := RX10) (T := TX10) (N := 10) rfl iw_X10 3 (by decide) rfl (gt_in 201 (by decide +kernel) (by decide +kernel)) (v := .ref (ga G t 38)) rfl hdg kk
theorem gf_X11_177 (X : UC p s m args meth c cc nL RX11 G) (M : UM G V s H locs) (hS : uSt G t) (hdg : decode cc pc = .ok (.getfield 177, 3))
    (kk : W p l e R s m args below meth c H locs cells slots Q (F0 m (pc + 3) ls (.ref (ga G t 22) :: rest))) : W p l e R s m args below meth c H locs cells slots Q (F0 m pc ls (.ref (ga G t 21) :: rest)) :=
  u_get X M (hS.2 21 (by decide)) (uSh_st hS.1 21 _) (C := RX3) (T := TX3) (N := 8) rfl iw_X3 0 (by decide) rfl (gt_in 138 (by decide +kernel) (by decide +kernel)) (v := .ref (ga G t 22)) rfl hdg kk
theorem gf_X11_183 (X : UC p s m args meth c cc nL RX11 G) (M : UM G V s H locs) (hS : uSt G t) (hV : V t = S) {x : Int32} (ex : x = S 0 4) (hdg : decode cc pc = .ok (.getfield 183, 3))
    (kk : W p l e R s m args below meth c H locs cells slots Q (F0 m (pc + 3) ls (.int x :: rest))) : W p l e R s m args below meth c H locs cells slots Q (F0 m pc ls (.ref (ga G t 0) :: rest)) :=
  u_get X M (hS.2 0 (by decide)) (uSh_st hS.1 0 _) (C := RX10) (T := TX10) (N := 10) rfl iw_X10 4 (by decide) rfl (gt_in 203 (by decide +kernel) (by decide +kernel)) (v := .int x) (by rw [ex, ← hV]; rfl) hdg kk
theorem gf_X11_207 (X : UC p s m args meth c cc nL RX11 G) (M : UM G V s H locs) (hS : uSt G t) (hV : V t = S) {x : Int32} (ex : x = S 10 0) (hdg : decode cc pc = .ok (.getfield 207, 3))
    (kk : W p l e R s m args below meth c H locs cells slots Q (F0 m (pc + 3) ls (.int x :: rest))) : W p l e R s m args below meth c H locs cells slots Q (F0 m pc ls (.ref (ga G t 10) :: rest)) :=
  u_get X M (hS.2 10 (by decide)) (uSh_st hS.1 10 _) (C := RX5) (T := TX5) (N := 6) rfl iw_X5 0 (by decide) rfl (gt_in 104 (by decide +kernel) (by decide +kernel)) (v := .int x) (by rw [ex, ← hV]; rfl) hdg kk
theorem gf_X11_210 (X : UC p s m args meth c cc nL RX11 G) (M : UM G V s H locs) (hS : uSt G t) (hdg : decode cc pc = .ok (.getfield 210, 3))
    (kk : W p l e R s m args below meth c H locs cells slots Q (F0 m (pc + 3) ls (.ref (ga G t 11) :: rest))) : W p l e R s m args below meth c H locs cells slots Q (F0 m pc ls (.ref (ga G t 10) :: rest)) :=
  u_get X M (hS.2 10 (by decide)) (uSh_st hS.1 10 _) (C := RX5) (T := TX5) (N := 6) rfl iw_X5 1 (by decide) rfl (gt_in 107 (by decide +kernel) (by decide +kernel)) (v := .ref (ga G t 11)) rfl hdg kk
theorem gf_X11_251 (X : UC p s m args meth c cc nL RX11 G) (M : UM G V s H locs) (hS : uSt G t) (hV : V t = S) {x : Int32} (ex : x = S 0 5) (hdg : decode cc pc = .ok (.getfield 251, 3))
    (kk : W p l e R s m args below meth c H locs cells slots Q (F0 m (pc + 3) ls (.int x :: rest))) : W p l e R s m args below meth c H locs cells slots Q (F0 m pc ls (.ref (ga G t 0) :: rest)) :=
  u_get X M (hS.2 0 (by decide)) (uSh_st hS.1 0 _) (C := RX10) (T := TX10) (N := 10) rfl iw_X10 5 (by decide) rfl (gt_in 205 (by decide +kernel) (by decide +kernel)) (v := .int x) (by rw [ex, ← hV]; rfl) hdg kk
theorem gf_X11_254 (X : UC p s m args meth c cc nL RX11 G) (M : UM G V s H locs) (hS : uSt G t) (hV : V t = S) {x : Int32} (ex : x = S 0 7) (hdg : decode cc pc = .ok (.getfield 254, 3))
    (kk : W p l e R s m args below meth c H locs cells slots Q (F0 m (pc + 3) ls (.int x :: rest))) : W p l e R s m args below meth c H locs cells slots Q (F0 m pc ls (.ref (ga G t 0) :: rest)) :=
  u_get X M (hS.2 0 (by decide)) (uSh_st hS.1 0 _) (C := RX10) (T := TX10) (N := 10) rfl iw_X10 7 (by decide) rfl (gt_in 210 (by decide +kernel) (by decide +kernel)) (v := .int x) (by rw [ex, ← hV]; rfl) hdg kk
theorem gf_X11_274 (X : UC p s m args meth c cc nL RX11 G) (M : UM G V s H locs) (hS : uSt G t) (hV : V t = S) {x : Int32} (ex : x = S 0 6) (hdg : decode cc pc = .ok (.getfield 274, 3))
    (kk : W p l e R s m args below meth c H locs cells slots Q (F0 m (pc + 3) ls (.int x :: rest))) : W p l e R s m args below meth c H locs cells slots Q (F0 m pc ls (.ref (ga G t 0) :: rest)) :=
  u_get X M (hS.2 0 (by decide)) (uSh_st hS.1 0 _) (C := RX10) (T := TX10) (N := 10) rfl iw_X10 6 (by decide) rfl (gt_in 207 (by decide +kernel) (by decide +kernel)) (v := .int x) (by rw [ex, ← hV]; rfl) hdg kk
theorem iw_X12 : ∀ w ∈ u_ws RX12 TX12 12, w ∈ gtbl := by decide +kernel
theorem gf_X12_7 (X : UC p s m args meth c cc nL RX12 G) (M : UM G V s H locs) (hD : uMd G) (hdg : decode cc pc = .ok (.getfield 7, 3))
    (kk : W p l e R s m args below meth c H locs cells slots Q (F0 m (pc + 3) ls (.ref (ga G 19 1) :: rest))) : W p l e R s m args below meth c H locs cells slots Q (F0 m pc ls (.ref (ga G 19 0) :: rest)) :=
  u_get X M (hD 0 (by decide)) (uSh_md 0 _) (C := RX12) (T := TX12) (N := 12) rfl iw_X12 1 (by decide) rfl (gt_in 1062 (by decide +kernel) (by decide +kernel)) (v := .ref (ga G 19 1)) rfl hdg kk
theorem gf_X12_13 (X : UC p s m args meth c cc nL RX12 G) (M : UM G V s H locs) (hD : uMd G) (hdg : decode cc pc = .ok (.getfield 13, 3))
    (kk : W p l e R s m args below meth c H locs cells slots Q (F0 m (pc + 3) ls (.ref (ga G 19 2) :: rest))) : W p l e R s m args below meth c H locs cells slots Q (F0 m pc ls (.ref (ga G 19 0) :: rest)) :=
  u_get X M (hD 0 (by decide)) (uSh_md 0 _) (C := RX12) (T := TX12) (N := 12) rfl iw_X12 3 (by decide) rfl (gt_in 1064 (by decide +kernel) (by decide +kernel)) (v := .ref (ga G 19 2)) rfl hdg kk
theorem gf_X12_16 (X : UC p s m args meth c cc nL RX12 G) (M : UM G V s H locs) (hD : uMd G) (hdg : decode cc pc = .ok (.getfield 16, 3))
    (kk : W p l e R s m args below meth c H locs cells slots Q (F0 m (pc + 3) ls (.ref (ga G 19 3) :: rest))) : W p l e R s m args below meth c H locs cells slots Q (F0 m pc ls (.ref (ga G 19 0) :: rest)) :=
  u_get X M (hD 0 (by decide)) (uSh_md 0 _) (C := RX12) (T := TX12) (N := 12) rfl iw_X12 4 (by decide) rfl (gt_in 1065 (by decide +kernel) (by decide +kernel)) (v := .ref (ga G 19 3)) rfl hdg kk
theorem gf_X12_19 (X : UC p s m args meth c cc nL RX12 G) (M : UM G V s H locs) (hD : uMd G) (hdg : decode cc pc = .ok (.getfield 19, 3))
    (kk : W p l e R s m args below meth c H locs cells slots Q (F0 m (pc + 3) ls (.ref (ga G 19 4) :: rest))) : W p l e R s m args below meth c H locs cells slots Q (F0 m pc ls (.ref (ga G 19 0) :: rest)) :=
  u_get X M (hD 0 (by decide)) (uSh_md 0 _) (C := RX12) (T := TX12) (N := 12) rfl iw_X12 5 (by decide) rfl (gt_in 1066 (by decide +kernel) (by decide +kernel)) (v := .ref (ga G 19 4)) rfl hdg kk
theorem gf_X12_22 (X : UC p s m args meth c cc nL RX12 G) (M : UM G V s H locs) (hD : uMd G) (hdg : decode cc pc = .ok (.getfield 22, 3))
    (kk : W p l e R s m args below meth c H locs cells slots Q (F0 m (pc + 3) ls (.ref (ga G 19 5) :: rest))) : W p l e R s m args below meth c H locs cells slots Q (F0 m pc ls (.ref (ga G 19 0) :: rest)) :=
  u_get X M (hD 0 (by decide)) (uSh_md 0 _) (C := RX12) (T := TX12) (N := 12) rfl iw_X12 6 (by decide) rfl (gt_in 1067 (by decide +kernel) (by decide +kernel)) (v := .ref (ga G 19 5)) rfl hdg kk
theorem gf_X12_25 (X : UC p s m args meth c cc nL RX12 G) (M : UM G V s H locs) (hD : uMd G) (hdg : decode cc pc = .ok (.getfield 25, 3))
    (kk : W p l e R s m args below meth c H locs cells slots Q (F0 m (pc + 3) ls (.ref (ga G 19 6) :: rest))) : W p l e R s m args below meth c H locs cells slots Q (F0 m pc ls (.ref (ga G 19 0) :: rest)) :=
  u_get X M (hD 0 (by decide)) (uSh_md 0 _) (C := RX12) (T := TX12) (N := 12) rfl iw_X12 8 (by decide) rfl (gt_in 1069 (by decide +kernel) (by decide +kernel)) (v := .ref (ga G 19 6)) rfl hdg kk
theorem gf_X12_28 (X : UC p s m args meth c cc nL RX12 G) (M : UM G V s H locs) (hD : uMd G) (hdg : decode cc pc = .ok (.getfield 28, 3))
    (kk : W p l e R s m args below meth c H locs cells slots Q (F0 m (pc + 3) ls (.ref (ga G 19 7) :: rest))) : W p l e R s m args below meth c H locs cells slots Q (F0 m pc ls (.ref (ga G 19 0) :: rest)) :=
  u_get X M (hD 0 (by decide)) (uSh_md 0 _) (C := RX12) (T := TX12) (N := 12) rfl iw_X12 9 (by decide) rfl (gt_in 1070 (by decide +kernel) (by decide +kernel)) (v := .ref (ga G 19 7)) rfl hdg kk
theorem gf_X12_36 (X : UC p s m args meth c cc nL RX12 G) (M : UM G V s H locs) (hD : uMd G) (hV : V 19 = S) {x : Int32} (ex : x = S 0 0) (hdg : decode cc pc = .ok (.getfield 36, 3))
    (kk : W p l e R s m args below meth c H locs cells slots Q (F0 m (pc + 3) ls (.int x :: rest))) : W p l e R s m args below meth c H locs cells slots Q (F0 m pc ls (.ref (ga G 19 0) :: rest)) :=
  u_get X M (hD 0 (by decide)) (uSh_md 0 _) (C := RX12) (T := TX12) (N := 12) rfl iw_X12 0 (by decide) rfl (gt_in 1061 (by decide +kernel) (by decide +kernel)) (v := .int x) (by rw [ex, ← hV]; rfl) hdg kk
theorem gf_X12_98 (X : UC p s m args meth c cc nL RX12 G) (M : UM G V s H locs) (hD : uMd G) (hV : V 19 = S) {x : Int32} (ex : x = S 0 2) (hdg : decode cc pc = .ok (.getfield 98, 3))
    (kk : W p l e R s m args below meth c H locs cells slots Q (F0 m (pc + 3) ls (.int x :: rest))) : W p l e R s m args below meth c H locs cells slots Q (F0 m pc ls (.ref (ga G 19 0) :: rest)) :=
  u_get X M (hD 0 (by decide)) (uSh_md 0 _) (C := RX12) (T := TX12) (N := 12) rfl iw_X12 2 (by decide) rfl (gt_in 1063 (by decide +kernel) (by decide +kernel)) (v := .int x) (by rw [ex, ← hV]; rfl) hdg kk
theorem gf_X12_105 (X : UC p s m args meth c cc nL RX12 G) (M : UM G V s H locs) (hD : uMd G) (hV : V 19 = S) {x : Int32} (ex : x = S 0 10) (hdg : decode cc pc = .ok (.getfield 105, 3))
    (kk : W p l e R s m args below meth c H locs cells slots Q (F0 m (pc + 3) ls (.int x :: rest))) : W p l e R s m args below meth c H locs cells slots Q (F0 m pc ls (.ref (ga G 19 0) :: rest)) :=
  u_get X M (hD 0 (by decide)) (uSh_md 0 _) (C := RX12) (T := TX12) (N := 12) rfl iw_X12 10 (by decide) rfl (gt_in 1071 (by decide +kernel) (by decide +kernel)) (v := .int x) (by rw [ex, ← hV]; rfl) hdg kk
theorem gf_X12_110 (X : UC p s m args meth c cc nL RX12 G) (M : UM G V s H locs) (hD : uMd G) (hV : V 19 = S) {x : Int32} (ex : x = S 0 11) (hdg : decode cc pc = .ok (.getfield 110, 3))
    (kk : W p l e R s m args below meth c H locs cells slots Q (F0 m (pc + 3) ls (.int x :: rest))) : W p l e R s m args below meth c H locs cells slots Q (F0 m pc ls (.ref (ga G 19 0) :: rest)) :=
  u_get X M (hD 0 (by decide)) (uSh_md 0 _) (C := RX12) (T := TX12) (N := 12) rfl iw_X12 11 (by decide) rfl (gt_in 1072 (by decide +kernel) (by decide +kernel)) (v := .int x) (by rw [ex, ← hV]; rfl) hdg kk
theorem gf_X12_169 (X : UC p s m args meth c cc nL RX12 G) (M : UM G V s H locs) (hD : uMd G) (hV : V 19 = S) {x : Int32} (ex : x = S 0 7) (hdg : decode cc pc = .ok (.getfield 169, 3))
    (kk : W p l e R s m args below meth c H locs cells slots Q (F0 m (pc + 3) ls (.int x :: rest))) : W p l e R s m args below meth c H locs cells slots Q (F0 m pc ls (.ref (ga G 19 0) :: rest)) :=
  u_get X M (hD 0 (by decide)) (uSh_md 0 _) (C := RX12) (T := TX12) (N := 12) rfl iw_X12 7 (by decide) rfl (gt_in 1068 (by decide +kernel) (by decide +kernel)) (v := .int x) (by rw [ex, ← hV]; rfl) hdg kk
theorem pf_X0_27 (X : UC p s m args meth c cc nL RX0 G) (M : UM G (va_up V t S) s H locs) (hS : uSt G t) {x : Int32} {S1 : Nat → Nat → Int32} (e1 : S1 = va_up S 1 (upd (S 1) 0 x)) (hdg : decode cc pc = .ok (.putfield 27, 3))
    (kk : ∀ (H1 : Heap) (locs1 : List Loc), UM G (va_up V t S1) s H1 locs1 → W p l e R s m args below meth c H1 locs1 cells slots Q (F0 m (pc + 3) ls rest)) : W p l e R s m args below meth c H locs cells slots Q (F0 m pc ls (.int x :: .ref (ga G t 1) :: rest)) := by
  refine u_put X M (hS.2 1 (by decide)) (uSh_st hS.1 1 _) (C := RX0) (T := TX0) (N := 5) rfl iw_X0 tyX0 tyX0_ok nmX0 0 (by decide) rfl (gt_in 72 (by decide +kernel) (by decide +kernel)) rfl (ty := .int) (by decide +kernel) rfl rfl (Nat.le_of_ble_eq_true rfl) (f' := upd (S 1) 0 x) ((uSh_st hS.1 1 _).trans (by rw [va_up_s]; rfl)) hdg (fun H locs M => kk H locs ?_)
  rw [uS_b, ← e1] at M
  exact M
theorem pf_X2_20 (X : UC p s m args meth c cc nL RX2 G) (M : UM G (va_up V 18 S) s H locs) (hN : uMn G) {x : Int32} {S1 : Nat → Nat → Int32} (e1 : S1 = va_up S 1 (upd (S 1) 1 x)) (hdg : decode cc pc = .ok (.putfield 20, 3))
    (kk : ∀ (H1 : Heap) (locs1 : List Loc), UM G (va_up V 18 S1) s H1 locs1 → W p l e R s m args below meth c H1 locs1 cells slots Q (F0 m (pc + 3) ls rest)) : W p l e R s m args below meth c H locs cells slots Q (F0 m pc ls (.int x :: .ref (ga G 18 1) :: rest)) := by
  refine u_put X M (hN 1 (by decide)) (uSh_mn 1 _) (C := RX2) (T := TX2) (N := 2) rfl iw_X2 tyX2 tyX2_ok nmX2 1 (by decide) rfl (gt_in 243 (by decide +kernel) (by decide +kernel)) rfl (ty := .int) (by decide +kernel) rfl rfl (Nat.le_of_ble_eq_true rfl) (f' := upd (S 1) 1 x) ((uSh_mn 1 _).trans (by rw [va_up_s]; rfl)) hdg (fun H locs M => kk H locs ?_)
  rw [uS_b, ← e1] at M
  exact M
theorem pf_X4_16 (X : UC p s m args meth c cc nL RX4 G) (M : UM G (va_up V 18 S) s H locs) (hN : uMn G) {x : Int32} {S1 : Nat → Nat → Int32} (e1 : S1 = va_up S 4 (upd (S 4) 2 x)) (hdg : decode cc pc = .ok (.putfield 16, 3))
    (kk : ∀ (H1 : Heap) (locs1 : List Loc), UM G (va_up V 18 S1) s H1 locs1 → W p l e R s m args below meth c H1 locs1 cells slots Q (F0 m (pc + 3) ls rest)) : W p l e R s m args below meth c H locs cells slots Q (F0 m pc ls (.int x :: .ref (ga G 18 4) :: rest)) := by
  refine u_put X M (hN 4 (by decide)) (uSh_mn 4 _) (C := RX4) (T := TX4) (N := 3) rfl iw_X4 tyX4 tyX4_ok nmX4 2 (by decide) rfl (gt_in 260 (by decide +kernel) (by decide +kernel)) rfl (ty := .int) (by decide +kernel) rfl rfl (Nat.le_of_ble_eq_true rfl) (f' := upd (S 4) 2 x) ((uSh_mn 4 _).trans (by rw [va_up_s]; rfl)) hdg (fun H locs M => kk H locs ?_)
  rw [uS_b, ← e1] at M
  exact M
theorem pf_X4_20 (X : UC p s m args meth c cc nL RX4 G) (M : UM G (va_up V 18 S) s H locs) (hN : uMn G) {x : Int32} {S1 : Nat → Nat → Int32} (e1 : S1 = va_up S 4 (upd (S 4) 1 x)) (hdg : decode cc pc = .ok (.putfield 20, 3))
    (kk : ∀ (H1 : Heap) (locs1 : List Loc), UM G (va_up V 18 S1) s H1 locs1 → W p l e R s m args below meth c H1 locs1 cells slots Q (F0 m (pc + 3) ls rest)) : W p l e R s m args below meth c H locs cells slots Q (F0 m pc ls (.int x :: .ref (ga G 18 4) :: rest)) := by
  refine u_put X M (hN 4 (by decide)) (uSh_mn 4 _) (C := RX4) (T := TX4) (N := 3) rfl iw_X4 tyX4 tyX4_ok nmX4 1 (by decide) rfl (gt_in 259 (by decide +kernel) (by decide +kernel)) rfl (ty := .int) (by decide +kernel) rfl rfl (Nat.le_of_ble_eq_true rfl) (f' := upd (S 4) 1 x) ((uSh_mn 4 _).trans (by rw [va_up_s]; rfl)) hdg (fun H locs M => kk H locs ?_)
  rw [uS_b, ← e1] at M
  exact M
theorem pf_X5_32 (X : UC p s m args meth c cc nL RX5 G) (M : UM G (va_up V t S) s H locs) (hS : uSt G t) {x : Int32} {S1 : Nat → Nat → Int32} (e1 : S1 = va_up S 10 (upd (S 10) 0 x)) (hdg : decode cc pc = .ok (.putfield 32, 3))
    (kk : ∀ (H1 : Heap) (locs1 : List Loc), UM G (va_up V t S1) s H1 locs1 → W p l e R s m args below meth c H1 locs1 cells slots Q (F0 m (pc + 3) ls rest)) : W p l e R s m args below meth c H locs cells slots Q (F0 m pc ls (.int x :: .ref (ga G t 10) :: rest)) := by
  refine u_put X M (hS.2 10 (by decide)) (uSh_st hS.1 10 _) (C := RX5) (T := TX5) (N := 6) rfl iw_X5 tyX5 tyX5_ok nmX5 0 (by decide) rfl (gt_in 102 (by decide +kernel) (by decide +kernel)) rfl (ty := .int) (by decide +kernel) rfl rfl (Nat.le_of_ble_eq_true rfl) (f' := upd (S 10) 0 x) ((uSh_st hS.1 10 _).trans (by rw [va_up_s]; rfl)) hdg (fun H locs M => kk H locs ?_)
  rw [uS_b, ← e1] at M
  exact M
theorem pf_X9_19 (X : UC p s m args meth c cc nL RX9 G) (M : UM G (va_up V 18 S) s H locs) (hN : uMn G) {x : Int32} {S1 : Nat → Nat → Int32} (e1 : S1 = va_up S 6 (upd (S 6) 2 x)) (hz : narrow .boolean (.int x) = .int x) (hz2 : fits .boolean (.int x) = true) (hdg : decode cc pc = .ok (.putfield 19, 3))
    (kk : ∀ (H1 : Heap) (locs1 : List Loc), UM G (va_up V 18 S1) s H1 locs1 → W p l e R s m args below meth c H1 locs1 cells slots Q (F0 m (pc + 3) ls rest)) : W p l e R s m args below meth c H locs cells slots Q (F0 m pc ls (.int x :: .ref (ga G 18 6) :: rest)) := by
  refine u_put X M (hN 6 (by decide)) (uSh_mn 6 _) (C := RX9) (T := TX9) (N := 4) rfl iw_X9 tyX9 tyX9_ok nmX9 2 (by decide) rfl (gt_in 278 (by decide +kernel) (by decide +kernel)) rfl (ty := .boolean) (by decide +kernel) hz hz2 (Nat.le_of_ble_eq_true rfl) (f' := upd (S 6) 2 x) ((uSh_mn 6 _).trans (by rw [va_up_s]; rfl)) hdg (fun H locs M => kk H locs ?_)
  rw [uS_b, ← e1] at M
  exact M
theorem pf_X9_23 (X : UC p s m args meth c cc nL RX9 G) (M : UM G (va_up V 18 S) s H locs) (hN : uMn G) {x : Int32} {S1 : Nat → Nat → Int32} (e1 : S1 = va_up S 6 (upd (S 6) 3 x)) (hz : narrow .boolean (.int x) = .int x) (hz2 : fits .boolean (.int x) = true) (hdg : decode cc pc = .ok (.putfield 23, 3))
    (kk : ∀ (H1 : Heap) (locs1 : List Loc), UM G (va_up V 18 S1) s H1 locs1 → W p l e R s m args below meth c H1 locs1 cells slots Q (F0 m (pc + 3) ls rest)) : W p l e R s m args below meth c H locs cells slots Q (F0 m pc ls (.int x :: .ref (ga G 18 6) :: rest)) := by
  refine u_put X M (hN 6 (by decide)) (uSh_mn 6 _) (C := RX9) (T := TX9) (N := 4) rfl iw_X9 tyX9 tyX9_ok nmX9 3 (by decide) rfl (gt_in 279 (by decide +kernel) (by decide +kernel)) rfl (ty := .boolean) (by decide +kernel) hz hz2 (Nat.le_of_ble_eq_true rfl) (f' := upd (S 6) 3 x) ((uSh_mn 6 _).trans (by rw [va_up_s]; rfl)) hdg (fun H locs M => kk H locs ?_)
  rw [uS_b, ← e1] at M
  exact M
theorem pf_X10_51 (X : UC p s m args meth c cc nL RX10 G) (M : UM G (va_up V t S) s H locs) (hS : uSt G t) {x : Int32} {S1 : Nat → Nat → Int32} (e1 : S1 = va_up S 0 (upd (S 0) 4 x)) (hdg : decode cc pc = .ok (.putfield 51, 3))
    (kk : ∀ (H1 : Heap) (locs1 : List Loc), UM G (va_up V t S1) s H1 locs1 → W p l e R s m args below meth c H1 locs1 cells slots Q (F0 m (pc + 3) ls rest)) : W p l e R s m args below meth c H locs cells slots Q (F0 m pc ls (.int x :: .ref (ga G t 0) :: rest)) := by
  refine u_put X M (hS.2 0 (by decide)) (uSh_st hS.1 0 _) (C := RX10) (T := TX10) (N := 10) rfl iw_X10 tyX10 tyX10_ok nmX10 4 (by decide) rfl (gt_in 202 (by decide +kernel) (by decide +kernel)) rfl (ty := .int) (by decide +kernel) rfl rfl (Nat.le_of_ble_eq_true rfl) (f' := upd (S 0) 4 x) ((uSh_st hS.1 0 _).trans (by rw [va_up_s]; rfl)) hdg (fun H locs M => kk H locs ?_)
  rw [uS_b, ← e1] at M
  exact M
theorem pf_X10_55 (X : UC p s m args meth c cc nL RX10 G) (M : UM G (va_up V t S) s H locs) (hS : uSt G t) {x : Int32} {S1 : Nat → Nat → Int32} (e1 : S1 = va_up S 0 (upd (S 0) 5 x)) (hdg : decode cc pc = .ok (.putfield 55, 3))
    (kk : ∀ (H1 : Heap) (locs1 : List Loc), UM G (va_up V t S1) s H1 locs1 → W p l e R s m args below meth c H1 locs1 cells slots Q (F0 m (pc + 3) ls rest)) : W p l e R s m args below meth c H locs cells slots Q (F0 m pc ls (.int x :: .ref (ga G t 0) :: rest)) := by
  refine u_put X M (hS.2 0 (by decide)) (uSh_st hS.1 0 _) (C := RX10) (T := TX10) (N := 10) rfl iw_X10 tyX10 tyX10_ok nmX10 5 (by decide) rfl (gt_in 204 (by decide +kernel) (by decide +kernel)) rfl (ty := .int) (by decide +kernel) rfl rfl (Nat.le_of_ble_eq_true rfl) (f' := upd (S 0) 5 x) ((uSh_st hS.1 0 _).trans (by rw [va_up_s]; rfl)) hdg (fun H locs M => kk H locs ?_)
  rw [uS_b, ← e1] at M
  exact M
theorem pf_X10_58 (X : UC p s m args meth c cc nL RX10 G) (M : UM G (va_up V t S) s H locs) (hS : uSt G t) {x : Int32} {S1 : Nat → Nat → Int32} (e1 : S1 = va_up S 0 (upd (S 0) 6 x)) (hdg : decode cc pc = .ok (.putfield 58, 3))
    (kk : ∀ (H1 : Heap) (locs1 : List Loc), UM G (va_up V t S1) s H1 locs1 → W p l e R s m args below meth c H1 locs1 cells slots Q (F0 m (pc + 3) ls rest)) : W p l e R s m args below meth c H locs cells slots Q (F0 m pc ls (.int x :: .ref (ga G t 0) :: rest)) := by
  refine u_put X M (hS.2 0 (by decide)) (uSh_st hS.1 0 _) (C := RX10) (T := TX10) (N := 10) rfl iw_X10 tyX10 tyX10_ok nmX10 6 (by decide) rfl (gt_in 206 (by decide +kernel) (by decide +kernel)) rfl (ty := .int) (by decide +kernel) rfl rfl (Nat.le_of_ble_eq_true rfl) (f' := upd (S 0) 6 x) ((uSh_st hS.1 0 _).trans (by rw [va_up_s]; rfl)) hdg (fun H locs M => kk H locs ?_)
  rw [uS_b, ← e1] at M
  exact M
theorem pf_X10_61 (X : UC p s m args meth c cc nL RX10 G) (M : UM G (va_up V t S) s H locs) (hS : uSt G t) {x : Int32} {S1 : Nat → Nat → Int32} (e1 : S1 = va_up S 0 (upd (S 0) 7 x)) (hdg : decode cc pc = .ok (.putfield 61, 3))
    (kk : ∀ (H1 : Heap) (locs1 : List Loc), UM G (va_up V t S1) s H1 locs1 → W p l e R s m args below meth c H1 locs1 cells slots Q (F0 m (pc + 3) ls rest)) : W p l e R s m args below meth c H locs cells slots Q (F0 m pc ls (.int x :: .ref (ga G t 0) :: rest)) := by
  refine u_put X M (hS.2 0 (by decide)) (uSh_st hS.1 0 _) (C := RX10) (T := TX10) (N := 10) rfl iw_X10 tyX10 tyX10_ok nmX10 7 (by decide) rfl (gt_in 208 (by decide +kernel) (by decide +kernel)) rfl (ty := .int) (by decide +kernel) rfl rfl (Nat.le_of_ble_eq_true rfl) (f' := upd (S 0) 7 x) ((uSh_st hS.1 0 _).trans (by rw [va_up_s]; rfl)) hdg (fun H locs M => kk H locs ?_)
  rw [uS_b, ← e1] at M
  exact M
theorem pf_X10_64 (X : UC p s m args meth c cc nL RX10 G) (M : UM G (va_up V t S) s H locs) (hS : uSt G t) {x : Int32} {S1 : Nat → Nat → Int32} (e1 : S1 = va_up S 0 (upd (S 0) 8 x)) (hdg : decode cc pc = .ok (.putfield 64, 3))
    (kk : ∀ (H1 : Heap) (locs1 : List Loc), UM G (va_up V t S1) s H1 locs1 → W p l e R s m args below meth c H1 locs1 cells slots Q (F0 m (pc + 3) ls rest)) : W p l e R s m args below meth c H locs cells slots Q (F0 m pc ls (.int x :: .ref (ga G t 0) :: rest)) := by
  refine u_put X M (hS.2 0 (by decide)) (uSh_st hS.1 0 _) (C := RX10) (T := TX10) (N := 10) rfl iw_X10 tyX10 tyX10_ok nmX10 8 (by decide) rfl (gt_in 211 (by decide +kernel) (by decide +kernel)) rfl (ty := .int) (by decide +kernel) rfl rfl (Nat.le_of_ble_eq_true rfl) (f' := upd (S 0) 8 x) ((uSh_st hS.1 0 _).trans (by rw [va_up_s]; rfl)) hdg (fun H locs M => kk H locs ?_)
  rw [uS_b, ← e1] at M
  exact M
theorem pf_X10_67 (X : UC p s m args meth c cc nL RX10 G) (M : UM G (va_up V t S) s H locs) (hS : uSt G t) {x : Int32} {S1 : Nat → Nat → Int32} (e1 : S1 = va_up S 0 (upd (S 0) 9 x)) (hdg : decode cc pc = .ok (.putfield 67, 3))
    (kk : ∀ (H1 : Heap) (locs1 : List Loc), UM G (va_up V t S1) s H1 locs1 → W p l e R s m args below meth c H1 locs1 cells slots Q (F0 m (pc + 3) ls rest)) : W p l e R s m args below meth c H locs cells slots Q (F0 m pc ls (.int x :: .ref (ga G t 0) :: rest)) := by
  refine u_put X M (hS.2 0 (by decide)) (uSh_st hS.1 0 _) (C := RX10) (T := TX10) (N := 10) rfl iw_X10 tyX10 tyX10_ok nmX10 9 (by decide) rfl (gt_in 212 (by decide +kernel) (by decide +kernel)) rfl (ty := .int) (by decide +kernel) rfl rfl (Nat.le_of_ble_eq_true rfl) (f' := upd (S 0) 9 x) ((uSh_st hS.1 0 _).trans (by rw [va_up_s]; rfl)) hdg (fun H locs M => kk H locs ?_)
  rw [uS_b, ← e1] at M
  exact M
theorem pf_X11_183 (X : UC p s m args meth c cc nL RX11 G) (M : UM G (va_up V t S) s H locs) (hS : uSt G t) {x : Int32} {S1 : Nat → Nat → Int32} (e1 : S1 = va_up S 0 (upd (S 0) 4 x)) (hdg : decode cc pc = .ok (.putfield 183, 3))
    (kk : ∀ (H1 : Heap) (locs1 : List Loc), UM G (va_up V t S1) s H1 locs1 → W p l e R s m args below meth c H1 locs1 cells slots Q (F0 m (pc + 3) ls rest)) : W p l e R s m args below meth c H locs cells slots Q (F0 m pc ls (.int x :: .ref (ga G t 0) :: rest)) := by
  refine u_put X M (hS.2 0 (by decide)) (uSh_st hS.1 0 _) (C := RX10) (T := TX10) (N := 10) rfl iw_X10 tyX10 tyX10_ok nmX10 4 (by decide) rfl (gt_in 203 (by decide +kernel) (by decide +kernel)) rfl (ty := .int) (by decide +kernel) rfl rfl (Nat.le_of_ble_eq_true rfl) (f' := upd (S 0) 4 x) ((uSh_st hS.1 0 _).trans (by rw [va_up_s]; rfl)) hdg (fun H locs M => kk H locs ?_)
  rw [uS_b, ← e1] at M
  exact M
theorem pf_X12_36 (X : UC p s m args meth c cc nL RX12 G) (M : UM G (va_up V 19 S) s H locs) (hD : uMd G) {x : Int32} {S1 : Nat → Nat → Int32} (e1 : S1 = va_up S 0 (upd (S 0) 0 x)) (hdg : decode cc pc = .ok (.putfield 36, 3))
    (kk : ∀ (H1 : Heap) (locs1 : List Loc), UM G (va_up V 19 S1) s H1 locs1 → W p l e R s m args below meth c H1 locs1 cells slots Q (F0 m (pc + 3) ls rest)) : W p l e R s m args below meth c H locs cells slots Q (F0 m pc ls (.int x :: .ref (ga G 19 0) :: rest)) := by
  refine u_put X M (hD 0 (by decide)) (uSh_md 0 _) (C := RX12) (T := TX12) (N := 12) rfl iw_X12 tyX12 tyX12_ok nmX12 0 (by decide) rfl (gt_in 1061 (by decide +kernel) (by decide +kernel)) rfl (ty := .int) (by decide +kernel) rfl rfl (Nat.le_of_ble_eq_true rfl) (f' := upd (S 0) 0 x) ((uSh_md 0 _).trans (by rw [va_up_s]; rfl)) hdg (fun H locs M => kk H locs ?_)
  rw [uS_b, ← e1] at M
  exact M
theorem pf_X12_98 (X : UC p s m args meth c cc nL RX12 G) (M : UM G (va_up V 19 S) s H locs) (hD : uMd G) {x : Int32} {S1 : Nat → Nat → Int32} (e1 : S1 = va_up S 0 (upd (S 0) 2 x)) (hdg : decode cc pc = .ok (.putfield 98, 3))
    (kk : ∀ (H1 : Heap) (locs1 : List Loc), UM G (va_up V 19 S1) s H1 locs1 → W p l e R s m args below meth c H1 locs1 cells slots Q (F0 m (pc + 3) ls rest)) : W p l e R s m args below meth c H locs cells slots Q (F0 m pc ls (.int x :: .ref (ga G 19 0) :: rest)) := by
  refine u_put X M (hD 0 (by decide)) (uSh_md 0 _) (C := RX12) (T := TX12) (N := 12) rfl iw_X12 tyX12 tyX12_ok nmX12 2 (by decide) rfl (gt_in 1063 (by decide +kernel) (by decide +kernel)) rfl (ty := .int) (by decide +kernel) rfl rfl (Nat.le_of_ble_eq_true rfl) (f' := upd (S 0) 2 x) ((uSh_md 0 _).trans (by rw [va_up_s]; rfl)) hdg (fun H locs M => kk H locs ?_)
  rw [uS_b, ← e1] at M
  exact M
theorem pf_X12_105 (X : UC p s m args meth c cc nL RX12 G) (M : UM G (va_up V 19 S) s H locs) (hD : uMd G) {x : Int32} {S1 : Nat → Nat → Int32} (e1 : S1 = va_up S 0 (upd (S 0) 10 x)) (hdg : decode cc pc = .ok (.putfield 105, 3))
    (kk : ∀ (H1 : Heap) (locs1 : List Loc), UM G (va_up V 19 S1) s H1 locs1 → W p l e R s m args below meth c H1 locs1 cells slots Q (F0 m (pc + 3) ls rest)) : W p l e R s m args below meth c H locs cells slots Q (F0 m pc ls (.int x :: .ref (ga G 19 0) :: rest)) := by
  refine u_put X M (hD 0 (by decide)) (uSh_md 0 _) (C := RX12) (T := TX12) (N := 12) rfl iw_X12 tyX12 tyX12_ok nmX12 10 (by decide) rfl (gt_in 1071 (by decide +kernel) (by decide +kernel)) rfl (ty := .int) (by decide +kernel) rfl rfl (Nat.le_of_ble_eq_true rfl) (f' := upd (S 0) 10 x) ((uSh_md 0 _).trans (by rw [va_up_s]; rfl)) hdg (fun H locs M => kk H locs ?_)
  rw [uS_b, ← e1] at M
  exact M
theorem pf_X12_110 (X : UC p s m args meth c cc nL RX12 G) (M : UM G (va_up V 19 S) s H locs) (hD : uMd G) {x : Int32} {S1 : Nat → Nat → Int32} (e1 : S1 = va_up S 0 (upd (S 0) 11 x)) (hdg : decode cc pc = .ok (.putfield 110, 3))
    (kk : ∀ (H1 : Heap) (locs1 : List Loc), UM G (va_up V 19 S1) s H1 locs1 → W p l e R s m args below meth c H1 locs1 cells slots Q (F0 m (pc + 3) ls rest)) : W p l e R s m args below meth c H locs cells slots Q (F0 m pc ls (.int x :: .ref (ga G 19 0) :: rest)) := by
  refine u_put X M (hD 0 (by decide)) (uSh_md 0 _) (C := RX12) (T := TX12) (N := 12) rfl iw_X12 tyX12 tyX12_ok nmX12 11 (by decide) rfl (gt_in 1072 (by decide +kernel) (by decide +kernel)) rfl (ty := .int) (by decide +kernel) rfl rfl (Nat.le_of_ble_eq_true rfl) (f' := upd (S 0) 11 x) ((uSh_md 0 _).trans (by rw [va_up_s]; rfl)) hdg (fun H locs M => kk H locs ?_)
  rw [uS_b, ← e1] at M
  exact M
theorem pf_X12_169 (X : UC p s m args meth c cc nL RX12 G) (M : UM G (va_up V 19 S) s H locs) (hD : uMd G) {x : Int32} {S1 : Nat → Nat → Int32} (e1 : S1 = va_up S 0 (upd (S 0) 7 x)) (hdg : decode cc pc = .ok (.putfield 169, 3))
    (kk : ∀ (H1 : Heap) (locs1 : List Loc), UM G (va_up V 19 S1) s H1 locs1 → W p l e R s m args below meth c H1 locs1 cells slots Q (F0 m (pc + 3) ls rest)) : W p l e R s m args below meth c H locs cells slots Q (F0 m pc ls (.int x :: .ref (ga G 19 0) :: rest)) := by
  refine u_put X M (hD 0 (by decide)) (uSh_md 0 _) (C := RX12) (T := TX12) (N := 12) rfl iw_X12 tyX12 tyX12_ok nmX12 7 (by decide) rfl (gt_in 1068 (by decide +kernel) (by decide +kernel)) rfl (ty := .int) (by decide +kernel) rfl rfl (Nat.le_of_ble_eq_true rfl) (f' := upd (S 0) 7 x) ((uSh_md 0 _).trans (by rw [va_up_s]; rfl)) hdg (fun H locs M => kk H locs ?_)
  rw [uS_b, ← e1] at M
  exact M
theorem rc_X10 {own : String} (X : UC p s m args meth c cc nL own G) (M : UM G V s H locs) (hS : uSt G t) : ∃ cell : Cell, H[ga G t 0]? = some cell ∧ cell.vm.isStatics = false ∧ s.vm.findClass RX10 = some cell.cls := u_recv X M (hS.2 0 (by decide)) (uSh_st hS.1 0 _) (C := RX10) (T := TX10) (N := 10) rfl
theorem rc_X0 {own : String} (X : UC p s m args meth c cc nL own G) (M : UM G V s H locs) (hS : uSt G t) : ∃ cell : Cell, H[ga G t 1]? = some cell ∧ cell.vm.isStatics = false ∧ s.vm.findClass RX0 = some cell.cls := u_recv X M (hS.2 1 (by decide)) (uSh_st hS.1 1 _) (C := RX0) (T := TX0) (N := 5) rfl
theorem rc_X5 {own : String} (X : UC p s m args meth c cc nL own G) (M : UM G V s H locs) (hS : uSt G t) : ∃ cell : Cell, H[ga G t 10]? = some cell ∧ cell.vm.isStatics = false ∧ s.vm.findClass RX5 = some cell.cls := u_recv X M (hS.2 10 (by decide)) (uSh_st hS.1 10 _) (C := RX5) (T := TX5) (N := 6) rfl
theorem rc_X3 {own : String} (X : UC p s m args meth c cc nL own G) (M : UM G V s H locs) (hS : uSt G t) : ∃ cell : Cell, H[ga G t 21]? = some cell ∧ cell.vm.isStatics = false ∧ s.vm.findClass RX3 = some cell.cls := u_recv X M (hS.2 21 (by decide)) (uSh_st hS.1 21 _) (C := RX3) (T := TX3) (N := 8) rfl
theorem rc_X2 {own : String} (X : UC p s m args meth c cc nL own G) (M : UM G V s H locs) (hN : uMn G) : ∃ cell : Cell, H[ga G 18 1]? = some cell ∧ cell.vm.isStatics = false ∧ s.vm.findClass RX2 = some cell.cls := u_recv X M (hN 1 (by decide)) (uSh_mn 1 _) (C := RX2) (T := TX2) (N := 2) rfl
theorem rc_X4 {own : String} (X : UC p s m args meth c cc nL own G) (M : UM G V s H locs) (hN : uMn G) : ∃ cell : Cell, H[ga G 18 4]? = some cell ∧ cell.vm.isStatics = false ∧ s.vm.findClass RX4 = some cell.cls := u_recv X M (hN 4 (by decide)) (uSh_mn 4 _) (C := RX4) (T := TX4) (N := 3) rfl
theorem rc_X9 {own : String} (X : UC p s m args meth c cc nL own G) (M : UM G V s H locs) (hN : uMn G) : ∃ cell : Cell, H[ga G 18 6]? = some cell ∧ cell.vm.isStatics = false ∧ s.vm.findClass RX9 = some cell.cls := u_recv X M (hN 6 (by decide)) (uSh_mn 6 _) (C := RX9) (T := TX9) (N := 4) rfl
theorem rc_X11 {own : String} (X : UC p s m args meth c cc nL own G) (M : UM G V s H locs) (hN : uMn G) : ∃ cell : Cell, H[ga G 18 0]? = some cell ∧ cell.vm.isStatics = false ∧ s.vm.findClass RX11 = some cell.cls := u_recv X M (hN 0 (by decide)) (uSh_mn 0 _) (C := RX11) (T := TX11) (N := 5) rfl
theorem rc_X12 {own : String} (X : UC p s m args meth c cc nL own G) (M : UM G V s H locs) (hD : uMd G) : ∃ cell : Cell, H[ga G 19 0]? = some cell ∧ cell.vm.isStatics = false ∧ s.vm.findClass RX12 = some cell.cls := u_recv X M (hD 0 (by decide)) (uSh_md 0 _) (C := RX12) (T := TX12) (N := 12) rfl
end LINKS
end
section

theorem rt2 {α β : Type} {a c : α} {b d : β} (h : some (a, b) = some (c, d)) : a = c ∧ b = d := Prod.mk.inj (Option.some.inj h)
theorem ne18 {G : UG} {t : Nat} (h : uSt G t) : (18 : Nat) ≠ t := fun e => by have := h.1; omega
theorem va_up_s2 {α : Type} (V : Nat → Nat → α) (t : Nat) (B : Nat → α) (q : Nat) (f : α) : va_up V t (va_up B q f) t q = f := by rw [va_up_s, va_up_s]
section ROWS2
variable {l : Launch} {G : UG} {V : uV} {t o n : Nat} {S S1 : Nat → Nat → Int32}
theorem kX6_putS (hR : uRow G t o n) {i x : Int32} (h : S1 = va_up S (o + 1) (fput n (S (o + 1)) i x)) : uMv l G yX6_put cX6_put 3 (uR 0 0) [.ref (ga G t o), .int i, .int x] (va_up V t S) (va_up V t S1) := h ▸ kX6_put hR rfl
theorem kX6_increaseS (hR : uRow G t o n) {i x : Int32} (h : S1 = va_up S (o + 1) (finc n (S (o + 1)) i x)) : uMv l G yX6_increase cX6_increase 3 (uR 0 0) [.ref (ga G t o), .int i, .int x] (va_up V t S) (va_up V t S1) := h ▸ kX6_increase hR rfl
theorem kX6_fillS (hR : uRow G t o n) {x : Int32} (h : S1 = va_up S (o + 1) (fun _ => x)) : uMv l G yX6_fill cX6_fill 3 (uR 0 0) [.ref (ga G t o), .int x] (va_up V t S) (va_up V t S1) := h ▸ kX6_fill hR
theorem kX6_replaceS (hR : uRow G t o n) {i x r : Int32} (h1 : fget n (S (o + 1)) i = r) (h : S1 = va_up S (o + 1) (fput n (S (o + 1)) i x)) : uMi l G yX6_replace cX6_replace 4 .int (uR 1 22) [.ref (ga G t o), .int i, .int x] (va_up V t S) r (va_up V t S1) := h ▸ kX6_replace hR h1 rfl
end ROWS2
theorem dX0_clear_0 : decode cX0_clear 0 = .ok (.aload_n 0, 1) := by decide +kernel
theorem dX0_clear_1 : decode cX0_clear 1 = .ok (.iconst 0, 1) := by decide +kernel
theorem dX0_clear_2 : decode cX0_clear 2 = .ok (.putfield 27, 3) := by decide +kernel
theorem dX0_clear_5 : decode cX0_clear 5 = .ok (.return_, 1) := by decide +kernel
theorem dX0_has_0 : decode cX0_has 0 = .ok (.iload_n 1, 1) := by decide +kernel
theorem dX0_has_1 : decode cX0_has 1 = .ok (.ifCond .lt 15, 3) := by decide +kernel
theorem dX0_has_4 : decode cX0_has 4 = .ok (.iload_n 1, 1) := by decide +kernel
theorem dX0_has_5 : decode cX0_has 5 = .ok (.aload_n 0, 1) := by decide +kernel
theorem dX0_has_6 : decode cX0_has 6 = .ok (.getfield 27, 3) := by decide +kernel
theorem dX0_has_9 : decode cX0_has 9 = .ok (.if_icmp .ge 7, 3) := by decide +kernel
theorem dX0_has_12 : decode cX0_has 12 = .ok (.iconst 1, 1) := by decide +kernel
theorem dX0_has_13 : decode cX0_has 13 = .ok (.goto 4, 3) := by decide +kernel
theorem dX0_has_16 : decode cX0_has 16 = .ok (.iconst 0, 1) := by decide +kernel
theorem dX0_has_17 : decode cX0_has 17 = .ok (.ireturn, 1) := by decide +kernel
theorem dX0_isFull_0 : decode cX0_isFull 0 = .ok (.aload_n 0, 1) := by decide +kernel
theorem dX0_isFull_1 : decode cX0_isFull 1 = .ok (.getfield 27, 3) := by decide +kernel
theorem dX0_isFull_4 : decode cX0_isFull 4 = .ok (.bipush 10, 2) := by decide +kernel
theorem dX0_isFull_6 : decode cX0_isFull 6 = .ok (.if_icmp .lt 7, 3) := by decide +kernel
theorem dX0_isFull_9 : decode cX0_isFull 9 = .ok (.iconst 1, 1) := by decide +kernel
theorem dX0_isFull_10 : decode cX0_isFull 10 = .ok (.goto 4, 3) := by decide +kernel
theorem dX0_isFull_13 : decode cX0_isFull 13 = .ok (.iconst 0, 1) := by decide +kernel
theorem dX0_isFull_14 : decode cX0_isFull 14 = .ok (.ireturn, 1) := by decide +kernel
theorem dX0_make_0 : decode cX0_make 0 = .ok (.aload_n 0, 1) := by decide +kernel
theorem dX0_make_1 : decode cX0_make 1 = .ok (.getfield 27, 3) := by decide +kernel
theorem dX0_make_4 : decode cX0_make 4 = .ok (.istore 5, 2) := by decide +kernel
theorem dX0_make_6 : decode cX0_make 6 = .ok (.aload_n 0, 1) := by decide +kernel
theorem dX0_make_7 : decode cX0_make 7 = .ok (.getfield 14, 3) := by decide +kernel
theorem dX0_make_10 : decode cX0_make 10 = .ok (.iload 5, 2) := by decide +kernel
theorem dX0_make_12 : decode cX0_make 12 = .ok (.iload_n 1, 1) := by decide +kernel
theorem dX0_make_13 : decode cX0_make 13 = .ok (.invokevirtual 35, 3) := by decide +kernel
theorem dX0_make_16 : decode cX0_make 16 = .ok (.aload_n 0, 1) := by decide +kernel
theorem dX0_make_17 : decode cX0_make 17 = .ok (.getfield 18, 3) := by decide +kernel
theorem dX0_make_20 : decode cX0_make 20 = .ok (.iload 5, 2) := by decide +kernel
theorem dX0_make_22 : decode cX0_make 22 = .ok (.iload_n 2, 1) := by decide +kernel
theorem dX0_make_23 : decode cX0_make 23 = .ok (.invokevirtual 35, 3) := by decide +kernel
theorem dX0_make_26 : decode cX0_make 26 = .ok (.aload_n 0, 1) := by decide +kernel
theorem dX0_make_27 : decode cX0_make 27 = .ok (.getfield 21, 3) := by decide +kernel
theorem dX0_make_30 : decode cX0_make 30 = .ok (.iload 5, 2) := by decide +kernel
theorem dX0_make_32 : decode cX0_make 32 = .ok (.iload_n 3, 1) := by decide +kernel
theorem dX0_make_33 : decode cX0_make 33 = .ok (.invokevirtual 35, 3) := by decide +kernel
theorem dX0_make_36 : decode cX0_make 36 = .ok (.aload_n 0, 1) := by decide +kernel
theorem dX0_make_37 : decode cX0_make 37 = .ok (.getfield 24, 3) := by decide +kernel
theorem dX0_make_40 : decode cX0_make 40 = .ok (.iload 5, 2) := by decide +kernel
theorem dX0_make_42 : decode cX0_make 42 = .ok (.iload 4, 2) := by decide +kernel
theorem dX0_make_44 : decode cX0_make 44 = .ok (.invokevirtual 35, 3) := by decide +kernel
theorem dX0_make_47 : decode cX0_make 47 = .ok (.aload_n 0, 1) := by decide +kernel
theorem dX0_make_48 : decode cX0_make 48 = .ok (.dup, 1) := by decide +kernel
theorem dX0_make_49 : decode cX0_make 49 = .ok (.getfield 27, 3) := by decide +kernel
theorem dX0_make_52 : decode cX0_make 52 = .ok (.iconst 1, 1) := by decide +kernel
theorem dX0_make_53 : decode cX0_make 53 = .ok (.iadd, 1) := by decide +kernel
theorem dX0_make_54 : decode cX0_make 54 = .ok (.putfield 27, 3) := by decide +kernel
theorem dX0_make_57 : decode cX0_make 57 = .ok (.iload 5, 2) := by decide +kernel
theorem dX0_make_59 : decode cX0_make 59 = .ok (.ireturn, 1) := by decide +kernel
theorem dX0_makeTwin_0 : decode cX0_makeTwin 0 = .ok (.aload_n 0, 1) := by decide +kernel
theorem dX0_makeTwin_1 : decode cX0_makeTwin 1 = .ok (.aload_n 0, 1) := by decide +kernel
theorem dX0_makeTwin_2 : decode cX0_makeTwin 2 = .ok (.getfield 14, 3) := by decide +kernel
theorem dX0_makeTwin_5 : decode cX0_makeTwin 5 = .ok (.iload_n 1, 1) := by decide +kernel
theorem dX0_makeTwin_6 : decode cX0_makeTwin 6 = .ok (.invokevirtual 39, 3) := by decide +kernel
theorem dX0_makeTwin_9 : decode cX0_makeTwin 9 = .ok (.aload_n 0, 1) := by decide +kernel
theorem dX0_makeTwin_10 : decode cX0_makeTwin 10 = .ok (.getfield 18, 3) := by decide +kernel
theorem dX0_makeTwin_13 : decode cX0_makeTwin 13 = .ok (.iload_n 1, 1) := by decide +kernel
theorem dX0_makeTwin_14 : decode cX0_makeTwin 14 = .ok (.invokevirtual 39, 3) := by decide +kernel
theorem dX0_makeTwin_17 : decode cX0_makeTwin 17 = .ok (.aload_n 0, 1) := by decide +kernel
theorem dX0_makeTwin_18 : decode cX0_makeTwin 18 = .ok (.getfield 21, 3) := by decide +kernel
theorem dX0_makeTwin_21 : decode cX0_makeTwin 21 = .ok (.iload_n 1, 1) := by decide +kernel
theorem dX0_makeTwin_22 : decode cX0_makeTwin 22 = .ok (.invokevirtual 39, 3) := by decide +kernel
theorem dX0_makeTwin_25 : decode cX0_makeTwin 25 = .ok (.aload_n 0, 1) := by decide +kernel
theorem dX0_makeTwin_26 : decode cX0_makeTwin 26 = .ok (.getfield 24, 3) := by decide +kernel
theorem dX0_makeTwin_29 : decode cX0_makeTwin 29 = .ok (.iload_n 1, 1) := by decide +kernel
theorem dX0_makeTwin_30 : decode cX0_makeTwin 30 = .ok (.invokevirtual 39, 3) := by decide +kernel
theorem dX0_makeTwin_33 : decode cX0_makeTwin 33 = .ok (.invokevirtual 43, 3) := by decide +kernel
theorem dX0_makeTwin_36 : decode cX0_makeTwin 36 = .ok (.ireturn, 1) := by decide +kernel
theorem dX0_number_0 : decode cX0_number 0 = .ok (.iload_n 2, 1) := by decide +kernel
theorem dX0_number_1 : decode cX0_number 1 = .ok (.tableswitch 54 0 2 #[27, 36, 45], 27) := by decide +kernel
theorem dX0_number_28 : decode cX0_number 28 = .ok (.aload_n 0, 1) := by decide +kernel
theorem dX0_number_29 : decode cX0_number 29 = .ok (.getfield 14, 3) := by decide +kernel
theorem dX0_number_32 : decode cX0_number 32 = .ok (.iload_n 1, 1) := by decide +kernel
theorem dX0_number_33 : decode cX0_number 33 = .ok (.invokevirtual 39, 3) := by decide +kernel
theorem dX0_number_36 : decode cX0_number 36 = .ok (.ireturn, 1) := by decide +kernel
theorem dX0_number_37 : decode cX0_number 37 = .ok (.aload_n 0, 1) := by decide +kernel
theorem dX0_number_38 : decode cX0_number 38 = .ok (.getfield 18, 3) := by decide +kernel
theorem dX0_number_41 : decode cX0_number 41 = .ok (.iload_n 1, 1) := by decide +kernel
theorem dX0_number_42 : decode cX0_number 42 = .ok (.invokevirtual 39, 3) := by decide +kernel
theorem dX0_number_45 : decode cX0_number 45 = .ok (.ireturn, 1) := by decide +kernel
theorem dX0_number_46 : decode cX0_number 46 = .ok (.aload_n 0, 1) := by decide +kernel
theorem dX0_number_47 : decode cX0_number 47 = .ok (.getfield 21, 3) := by decide +kernel
theorem dX0_number_50 : decode cX0_number 50 = .ok (.iload_n 1, 1) := by decide +kernel
theorem dX0_number_51 : decode cX0_number 51 = .ok (.invokevirtual 39, 3) := by decide +kernel
theorem dX0_number_54 : decode cX0_number 54 = .ok (.ireturn, 1) := by decide +kernel
theorem dX0_number_55 : decode cX0_number 55 = .ok (.aload_n 0, 1) := by decide +kernel
theorem dX0_number_56 : decode cX0_number 56 = .ok (.getfield 24, 3) := by decide +kernel
theorem dX0_number_59 : decode cX0_number 59 = .ok (.iload_n 1, 1) := by decide +kernel
theorem dX0_number_60 : decode cX0_number 60 = .ok (.invokevirtual 39, 3) := by decide +kernel
theorem dX0_number_63 : decode cX0_number 63 = .ok (.ireturn, 1) := by decide +kernel
theorem dX0_countOf_0 : decode cX0_countOf 0 = .ok (.iconst 0, 1) := by decide +kernel
theorem dX0_countOf_1 : decode cX0_countOf 1 = .ok (.istore_n 2, 1) := by decide +kernel
theorem dX0_countOf_2 : decode cX0_countOf 2 = .ok (.iconst 0, 1) := by decide +kernel
theorem dX0_countOf_3 : decode cX0_countOf 3 = .ok (.istore_n 3, 1) := by decide +kernel
theorem dX0_countOf_4 : decode cX0_countOf 4 = .ok (.iload_n 3, 1) := by decide +kernel
theorem dX0_countOf_5 : decode cX0_countOf 5 = .ok (.aload_n 0, 1) := by decide +kernel
theorem dX0_countOf_6 : decode cX0_countOf 6 = .ok (.getfield 27, 3) := by decide +kernel
theorem dX0_countOf_9 : decode cX0_countOf 9 = .ok (.if_icmp .ge 24, 3) := by decide +kernel
theorem dX0_countOf_12 : decode cX0_countOf 12 = .ok (.aload_n 0, 1) := by decide +kernel
theorem dX0_countOf_13 : decode cX0_countOf 13 = .ok (.getfield 14, 3) := by decide +kernel
theorem dX0_countOf_16 : decode cX0_countOf 16 = .ok (.iload_n 3, 1) := by decide +kernel
theorem dX0_countOf_17 : decode cX0_countOf 17 = .ok (.invokevirtual 39, 3) := by decide +kernel
theorem dX0_countOf_20 : decode cX0_countOf 20 = .ok (.iload_n 1, 1) := by decide +kernel
theorem dX0_countOf_21 : decode cX0_countOf 21 = .ok (.if_icmp .ne 6, 3) := by decide +kernel
theorem dX0_countOf_24 : decode cX0_countOf 24 = .ok (.iinc 2 1, 3) := by decide +kernel
theorem dX0_countOf_27 : decode cX0_countOf 27 = .ok (.iinc 3 1, 3) := by decide +kernel
theorem dX0_countOf_30 : decode cX0_countOf 30 = .ok (.goto (-26), 3) := by decide +kernel
theorem dX0_countOf_33 : decode cX0_countOf 33 = .ok (.iload_n 2, 1) := by decide +kernel
theorem dX0_countOf_34 : decode cX0_countOf 34 = .ok (.ireturn, 1) := by decide +kernel
theorem cw_X0_35 : uCW RX0 RX6 35 yX6_put cX6_put 3 none 2 := ⟨gt_in 615 (by decide +kernel) (by decide +kernel), yf_X6_put⟩
theorem cw_X0_39 : uCW RX0 RX6 39 yX6_get cX6_get 2 (some .int) 1 := ⟨gt_in 628 (by decide +kernel) (by decide +kernel), yf_X6_get⟩
theorem yf_X0_make : (Cond.instanceMethod yX0_make) ∈ gtbl ∧ (Cond.selects RX0 yX0_make yX0_make) ∈ gtbl ∧ (Cond.initialized RX0) ∈ gtbl ∧ (Cond.code yX0_make cX0_make 6 (some .int)) ∈ gtbl ∧ (yX0_make.cls = RX0 ∧ yX0_make.cls ≠ "java/lang/invoke/MethodHandle" ∧ yX0_make.cls ≠ "java/lang/invoke/VarHandle" ∧ (parseMethodDescriptor yX0_make.desc).map (fun d => d.parameters.length) = some 4) := ⟨gt_in 612 (by decide +kernel) (by decide +kernel), gt_in 613 (by decide +kernel) (by decide +kernel), gt_in 19 (by decide +kernel) (by decide +kernel), gt_in 614 (by decide +kernel) (by decide +kernel), by decide +kernel⟩
theorem cw_X0_43 : uCW RX0 RX0 43 yX0_make cX0_make 6 (some .int) 4 := ⟨gt_in 629 (by decide +kernel) (by decide +kernel), yf_X0_make⟩
def fX0_clear (S : (Nat → Nat → Int32)) : Option (Nat → Nat → Int32) :=
  lt_ (va_up S 1 (upd (S 1) 0 0)) fun S1 =>
  some S1
set_option maxHeartbeats 4000000 in
set_option maxRecDepth 20000 in
theorem kX0_clear {l : Launch} {G : UG} {V : uV} {t : Nat} (hS : uSt G t) {S S' : (Nat → Nat → Int32)}  (h : fX0_clear S = some S') : uMv l G yX0_clear cX0_clear 1 (uR 0 0) [.ref (ga G t 1)] (va_up V t S) (va_up V t S') := by
  refine uMv_of rfl (Nat.le_of_ble_eq_true rfl) (fun p e s m args below meth c ls X hret hl M => ?_)
  have hl : lv_has ls 1 [(0, .ref (ga G t 1))] := hl
  have hx := X.hx
  have hb := X.hb
  unfold fX0_clear at h
  refine lv_aload_n hx hb dX0_clear_0 rfl (lv_at hl 0 rfl) ?_
  refine lv_iconst (v := 0) hx hb dX0_clear_1 (by decide) ?_
  obtain ⟨S1, e2, h⟩ := lt_e h
  refine pf_X0_27 X M hS e2 dX0_clear_2 (fun H locs M => ?_)
  exact u_vret X hret M (congrArg (va_up V t) (Option.some.inj h)) dX0_clear_5
def fX0_has (S : (Nat → Nat → Int32)) (a1 : Int32) : Int32 :=
  if a1 < 0 then
    0
  else
    lt_ (S 1 0) fun x2 =>
    if x2 ≤ a1 then
      0
    else
      1
set_option maxHeartbeats 4000000 in
set_option maxRecDepth 20000 in
theorem kX0_has {l : Launch} {G : UG} {V : uV} {t : Nat} (hS : uSt G t) {S : (Nat → Nat → Int32)} (hV : V t = S) {a1 : Int32} {r : Int32} (h : fX0_has S a1 = r) : uMi l G yX0_has cX0_has 2 .boolean (uR 0 0) [.ref (ga G t 1), .int a1] V r V := by
  refine uMi_of rfl (Nat.le_of_ble_eq_true rfl) (fun p e s m args below meth c ls X hret hl M => ?_)
  have hl : lv_has ls 2 [(0, .ref (ga G t 1)), (1, .int a1)] := hl
  have hx := X.hx
  have hb := X.hb
  unfold fX0_has at h
  refine lv_iload_n hx hb dX0_has_0 rfl (lv_at hl 1 rfl) ?_
  refine lv_if_lt (tgt := 16) hx hb dX0_has_1 (by decide) (fun c1 => ?_) (fun c1 => ?_)
  · have h := it_t h c1
    refine lv_iconst (v := 0) hx hb dX0_has_16 (by decide) ?_
    exact u_iret X hret M h (rfl) rfl dX0_has_17
  · have h := it_f h c1
    refine lv_iload_n hx hb dX0_has_4 rfl (lv_at hl 1 rfl) ?_
    refine lv_aload_n hx hb dX0_has_5 rfl (lv_at hl 0 rfl) ?_
    obtain ⟨x2, e3, h⟩ := lt_e h
    refine gf_X0_27 X M hS hV e3 dX0_has_6 ?_
    refine lv_icmp_ge (tgt := 16) hx hb dX0_has_9 (by decide) (fun c4 => ?_) (fun c4 => ?_)
    · have h := it_t h c4
      refine lv_iconst (v := 0) hx hb dX0_has_16 (by decide) ?_
      exact u_iret X hret M h (rfl) rfl dX0_has_17
    · have h := it_f h c4
      refine lv_iconst (v := 1) hx hb dX0_has_12 (by decide) ?_
      refine lv_goto (tgt := 17) hx hb dX0_has_13 (by decide) ?_
      exact u_iret X hret M h (rfl) rfl dX0_has_17
def fX0_isFull (S : (Nat → Nat → Int32)) : Int32 :=
  lt_ (S 1 0) fun x1 =>
  if x1 < 10 then
    0
  else
    1
set_option maxHeartbeats 4000000 in
set_option maxRecDepth 20000 in
theorem kX0_isFull {l : Launch} {G : UG} {V : uV} {t : Nat} (hS : uSt G t) {S : (Nat → Nat → Int32)} (hV : V t = S)  {r : Int32} (h : fX0_isFull S = r) : uMi l G yX0_isFull cX0_isFull 1 .boolean (uR 0 0) [.ref (ga G t 1)] V r V := by
  refine uMi_of rfl (Nat.le_of_ble_eq_true rfl) (fun p e s m args below meth c ls X hret hl M => ?_)
  have hl : lv_has ls 1 [(0, .ref (ga G t 1))] := hl
  have hx := X.hx
  have hb := X.hb
  unfold fX0_isFull at h
  refine lv_aload_n hx hb dX0_isFull_0 rfl (lv_at hl 0 rfl) ?_
  obtain ⟨x1, e2, h⟩ := lt_e h
  refine gf_X0_27 X M hS hV e2 dX0_isFull_1 ?_
  refine lv_bipush (v := 10) hx hb dX0_isFull_4 (by decide) ?_
  refine lv_icmp_lt (tgt := 13) hx hb dX0_isFull_6 (by decide) (fun c3 => ?_) (fun c3 => ?_)
  · have h := it_t h c3
    refine lv_iconst (v := 0) hx hb dX0_isFull_13 (by decide) ?_
    exact u_iret X hret M h (rfl) rfl dX0_isFull_14
  · have h := it_f h c3
    refine lv_iconst (v := 1) hx hb dX0_isFull_9 (by decide) ?_
    refine lv_goto (tgt := 14) hx hb dX0_isFull_10 (by decide) ?_
    exact u_iret X hret M h (rfl) rfl dX0_isFull_14
def fX0_make (S : (Nat → Nat → Int32)) (a1 : Int32) (a2 : Int32) (a3 : Int32) (a4 : Int32) : Option (Int32 × (Nat → Nat → Int32)) :=
  lt_ (S 1 0) fun x1 =>
  lt_ (va_up S 3 (fput 10 (S 3) x1 a1)) fun S4 =>
  lt_ (va_up S4 5 (fput 10 (S4 5) x1 a2)) fun S7 =>
  lt_ (va_up S7 7 (fput 10 (S7 7) x1 a3)) fun S10 =>
  lt_ (va_up S10 9 (fput 10 (S10 9) x1 a4)) fun S13 =>
  lt_ (S13 1 0) fun x15 =>
  lt_ (va_up S13 1 (upd (S13 1) 0 (x15 + 1))) fun S17 =>
  some (x1, S17)
set_option maxHeartbeats 4000000 in
set_option maxRecDepth 20000 in
theorem kX0_make {l : Launch} {G : UG} {V : uV} {t : Nat} (hS : uSt G t) {S S' : (Nat → Nat → Int32)} {a1 : Int32} {a2 : Int32} {a3 : Int32} {a4 : Int32} {r : Int32} (h : fX0_make S a1 a2 a3 a4 = some (r, S')) : uMi l G yX0_make cX0_make 6 .int (uR 1 22) [.ref (ga G t 1), .int a1, .int a2, .int a3, .int a4] (va_up V t S) r (va_up V t S') := by
  refine uMi_of rfl (Nat.le_of_ble_eq_true rfl) (fun p e s m args below meth c ls X hret hl M => ?_)
  have hl : lv_has ls 6 [(0, .ref (ga G t 1)), (1, .int a1), (2, .int a2), (3, .int a3), (4, .int a4)] := hl
  have hx := X.hx
  have hb := X.hb
  unfold fX0_make at h
  refine lv_aload_n hx hb dX0_make_0 rfl (lv_at hl 0 rfl) ?_
  obtain ⟨x1, e2, h⟩ := lt_e h
  refine gf_X0_27 X M hS (va_up_s V t _) e2 dX0_make_1 ?_
  refine lv_istore (lv' := [(5, .int x1), (0, .ref (ga G t 1)), (1, .int a1), (2, .int a2), (3, .int a3), (4, .int a4)]) hx hb dX0_make_4 hl (by decide) rfl (fun ls hl => ?_)
  refine lv_aload_n hx hb dX0_make_6 rfl (lv_at hl 1 rfl) ?_
  refine gf_X0_14 X M hS dX0_make_7 ?_
  refine lv_iload hx hb dX0_make_10 (lv_at hl 0 rfl) ?_
  refine lv_iload_n hx hb dX0_make_12 rfl (lv_at hl 2 rfl) ?_
  obtain ⟨S4, e3, h⟩ := lt_e h
  refine u_cVv X M hl.1 (kX6_putS (uRw2 hS) e3) cw_X0_35 ⟨by decide, by decide⟩ (uR_recv X M (uRw2 hS)) rfl rfl (Nat.le_of_ble_eq_true rfl) ⟨Nat.zero_le _, Nat.zero_le _⟩ dX0_make_13 (fun H locs M => ?_)
  refine lv_aload_n hx hb dX0_make_16 rfl (lv_at hl 1 rfl) ?_
  refine gf_X0_18 X M hS dX0_make_17 ?_
  refine lv_iload hx hb dX0_make_20 (lv_at hl 0 rfl) ?_
  refine lv_iload_n hx hb dX0_make_22 rfl (lv_at hl 3 rfl) ?_
  obtain ⟨S7, e6, h⟩ := lt_e h
  refine u_cVv X M hl.1 (kX6_putS (uRw4 hS) e6) cw_X0_35 ⟨by decide, by decide⟩ (uR_recv X M (uRw4 hS)) rfl rfl (Nat.le_of_ble_eq_true rfl) ⟨Nat.zero_le _, Nat.zero_le _⟩ dX0_make_23 (fun H locs M => ?_)
  refine lv_aload_n hx hb dX0_make_26 rfl (lv_at hl 1 rfl) ?_
  refine gf_X0_21 X M hS dX0_make_27 ?_
  refine lv_iload hx hb dX0_make_30 (lv_at hl 0 rfl) ?_
  refine lv_iload_n hx hb dX0_make_32 rfl (lv_at hl 4 rfl) ?_
  obtain ⟨S10, e9, h⟩ := lt_e h
  refine u_cVv X M hl.1 (kX6_putS (uRw6 hS) e9) cw_X0_35 ⟨by decide, by decide⟩ (uR_recv X M (uRw6 hS)) rfl rfl (Nat.le_of_ble_eq_true rfl) ⟨Nat.zero_le _, Nat.zero_le _⟩ dX0_make_33 (fun H locs M => ?_)
  refine lv_aload_n hx hb dX0_make_36 rfl (lv_at hl 1 rfl) ?_
  refine gf_X0_24 X M hS dX0_make_37 ?_
  refine lv_iload hx hb dX0_make_40 (lv_at hl 0 rfl) ?_
  refine lv_iload hx hb dX0_make_42 (lv_at hl 5 rfl) ?_
  obtain ⟨S13, e12, h⟩ := lt_e h
  refine u_cVv X M hl.1 (kX6_putS (uRw8 hS) e12) cw_X0_35 ⟨by decide, by decide⟩ (uR_recv X M (uRw8 hS)) rfl rfl (Nat.le_of_ble_eq_true rfl) ⟨Nat.zero_le _, Nat.zero_le _⟩ dX0_make_44 (fun H locs M => ?_)
  refine lv_aload_n hx hb dX0_make_47 rfl (lv_at hl 1 rfl) ?_
  refine lv_dup hx hb dX0_make_48 rfl ?_
  obtain ⟨x15, e16, h⟩ := lt_e h
  refine gf_X0_27 X M hS (va_up_s V t _) e16 dX0_make_49 ?_
  refine lv_iconst (v := 1) hx hb dX0_make_52 (by decide) ?_
  refine lv_iadd hx hb dX0_make_53 ?_
  obtain ⟨S17, e18, h⟩ := lt_e h
  refine pf_X0_27 X M hS e18 dX0_make_54 (fun H locs M => ?_)
  refine lv_iload hx hb dX0_make_57 (lv_at hl 0 rfl) ?_
  exact u_iret X hret M (rt2 h).1 (congrArg (va_up V t) ((rt2 h).2)) rfl dX0_make_59
def fX0_makeTwin (S : (Nat → Nat → Int32)) (a1 : Int32) : Option (Int32 × (Nat → Nat → Int32)) :=
  lt_ (fget 10 (S 3) a1) fun x2 =>
  lt_ (fget 10 (S 5) a1) fun x5 =>
  lt_ (fget 10 (S 7) a1) fun x8 =>
  lt_ (fget 10 (S 9) a1) fun x11 =>
  bd2 (fX0_make S x2 x5 x8 x11) fun x14 S15 =>
  some (x14, S15)
set_option maxHeartbeats 4000000 in
set_option maxRecDepth 20000 in
theorem kX0_makeTwin {l : Launch} {G : UG} {V : uV} {t : Nat} (hS : uSt G t) {S S' : (Nat → Nat → Int32)} {a1 : Int32} {r : Int32} (h : fX0_makeTwin S a1 = some (r, S')) : uMi l G yX0_makeTwin cX0_makeTwin 2 .int (uR 2 47) [.ref (ga G t 1), .int a1] (va_up V t S) r (va_up V t S') := by
  refine uMi_of rfl (Nat.le_of_ble_eq_true rfl) (fun p e s m args below meth c ls X hret hl M => ?_)
  have hl : lv_has ls 2 [(0, .ref (ga G t 1)), (1, .int a1)] := hl
  have hx := X.hx
  have hb := X.hb
  unfold fX0_makeTwin at h
  refine lv_aload_n hx hb dX0_makeTwin_0 rfl (lv_at hl 0 rfl) ?_
  refine lv_aload_n hx hb dX0_makeTwin_1 rfl (lv_at hl 0 rfl) ?_
  refine gf_X0_14 X M hS dX0_makeTwin_2 ?_
  refine lv_iload_n hx hb dX0_makeTwin_5 rfl (lv_at hl 1 rfl) ?_
  obtain ⟨x2, e1, h⟩ := lt_e h
  refine u_cVi X M hl.1 (kX6_get (uRw2 hS) (congrFun (va_up_s V t _) 3) e1.symm) cw_X0_39 ⟨by decide, by decide⟩ (uR_recv X M (uRw2 hS)) rfl rfl (Nat.le_of_ble_eq_true rfl) ⟨Nat.zero_le _, Nat.zero_le _⟩ dX0_makeTwin_6 (fun H locs M n3 => ?_)
  refine lv_aload_n hx hb dX0_makeTwin_9 rfl (lv_at hl 0 rfl) ?_
  refine gf_X0_18 X M hS dX0_makeTwin_10 ?_
  refine lv_iload_n hx hb dX0_makeTwin_13 rfl (lv_at hl 1 rfl) ?_
  obtain ⟨x5, e4, h⟩ := lt_e h
  refine u_cVi X M hl.1 (kX6_get (uRw4 hS) (congrFun (va_up_s V t _) 5) e4.symm) cw_X0_39 ⟨by decide, by decide⟩ (uR_recv X M (uRw4 hS)) rfl rfl (Nat.le_of_ble_eq_true rfl) ⟨Nat.zero_le _, Nat.zero_le _⟩ dX0_makeTwin_14 (fun H locs M n6 => ?_)
  refine lv_aload_n hx hb dX0_makeTwin_17 rfl (lv_at hl 0 rfl) ?_
  refine gf_X0_21 X M hS dX0_makeTwin_18 ?_
  refine lv_iload_n hx hb dX0_makeTwin_21 rfl (lv_at hl 1 rfl) ?_
  obtain ⟨x8, e7, h⟩ := lt_e h
  refine u_cVi X M hl.1 (kX6_get (uRw6 hS) (congrFun (va_up_s V t _) 7) e7.symm) cw_X0_39 ⟨by decide, by decide⟩ (uR_recv X M (uRw6 hS)) rfl rfl (Nat.le_of_ble_eq_true rfl) ⟨Nat.zero_le _, Nat.zero_le _⟩ dX0_makeTwin_22 (fun H locs M n9 => ?_)
  refine lv_aload_n hx hb dX0_makeTwin_25 rfl (lv_at hl 0 rfl) ?_
  refine gf_X0_24 X M hS dX0_makeTwin_26 ?_
  refine lv_iload_n hx hb dX0_makeTwin_29 rfl (lv_at hl 1 rfl) ?_
  obtain ⟨x11, e10, h⟩ := lt_e h
  refine u_cVi X M hl.1 (kX6_get (uRw8 hS) (congrFun (va_up_s V t _) 9) e10.symm) cw_X0_39 ⟨by decide, by decide⟩ (uR_recv X M (uRw8 hS)) rfl rfl (Nat.le_of_ble_eq_true rfl) ⟨Nat.zero_le _, Nat.zero_le _⟩ dX0_makeTwin_30 (fun H locs M n12 => ?_)
  obtain ⟨x14, S15, e13, h⟩ := bd2_e h
  refine u_cVi X M hl.1 (kX0_make hS e13) cw_X0_43 ⟨by decide, by decide⟩ (rc_X0 X M hS) rfl rfl (Nat.le_of_ble_eq_true rfl) ⟨Nat.zero_le _, Nat.zero_le _⟩ dX0_makeTwin_33 (fun H locs M n16 => ?_)
  exact u_iret X hret M (rt2 h).1 (congrArg (va_up V t) ((rt2 h).2)) rfl dX0_makeTwin_36
def fX0_number (S : (Nat → Nat → Int32)) (a1 : Int32) (a2 : Int32) : Int32 :=
  if a2 = 0 then
    lt_ (fget 10 (S 3) a1) fun x3 =>
    x3
  else if a2 = 1 then
    lt_ (fget 10 (S 5) a1) fun x7 =>
    x7
  else if a2 = 2 then
    lt_ (fget 10 (S 7) a1) fun x11 =>
    x11
  else 
  lt_ (fget 10 (S 9) a1) fun x14 =>
  x14
set_option maxHeartbeats 4000000 in
set_option maxRecDepth 20000 in
theorem kX0_number {l : Launch} {G : UG} {V : uV} {t : Nat} (hS : uSt G t) {S : (Nat → Nat → Int32)} (hV : V t = S) {a1 : Int32} {a2 : Int32} {r : Int32} (h : fX0_number S a1 a2 = r) : uMi l G yX0_number cX0_number 3 .int (uR 1 21) [.ref (ga G t 1), .int a1, .int a2] V r V := by
  refine uMi_of rfl (Nat.le_of_ble_eq_true rfl) (fun p e s m args below meth c ls X hret hl M => ?_)
  have hl : lv_has ls 3 [(0, .ref (ga G t 1)), (1, .int a1), (2, .int a2)] := hl
  have hx := X.hx
  have hb := X.hb
  unfold fX0_number at h
  refine lv_iload_n hx hb dX0_number_0 rfl (lv_at hl 2 rfl) ?_
  by_cases c1 : a2 = 0
  · have h := it_t h c1
    refine lv_tableIn (off := 27) (tgt := 28) hx hb dX0_number_1 (by rw [c1]; decide) (by rw [c1]; decide) (by rw [c1]; rfl) (by decide) ?_
    refine lv_aload_n hx hb dX0_number_28 rfl (lv_at hl 0 rfl) ?_
    refine gf_X0_14 X M hS dX0_number_29 ?_
    refine lv_iload_n hx hb dX0_number_32 rfl (lv_at hl 1 rfl) ?_
    obtain ⟨x3, e2, h⟩ := lt_e h
    refine u_cVi X M hl.1 (kX6_get (uRw2 hS) (congrFun hV 3) e2.symm) cw_X0_39 ⟨by decide, by decide⟩ (uR_recv X M (uRw2 hS)) rfl rfl (Nat.le_of_ble_eq_true rfl) ⟨Nat.zero_le _, Nat.zero_le _⟩ dX0_number_33 (fun H locs M n4 => ?_)
    exact u_iret X hret M h (rfl) rfl dX0_number_36
  · have h := it_f h c1
    by_cases c5 : a2 = 1
    · have h := it_t h c5
      refine lv_tableIn (off := 36) (tgt := 37) hx hb dX0_number_1 (by rw [c5]; decide) (by rw [c5]; decide) (by rw [c5]; rfl) (by decide) ?_
      refine lv_aload_n hx hb dX0_number_37 rfl (lv_at hl 0 rfl) ?_
      refine gf_X0_18 X M hS dX0_number_38 ?_
      refine lv_iload_n hx hb dX0_number_41 rfl (lv_at hl 1 rfl) ?_
      obtain ⟨x7, e6, h⟩ := lt_e h
      refine u_cVi X M hl.1 (kX6_get (uRw4 hS) (congrFun hV 5) e6.symm) cw_X0_39 ⟨by decide, by decide⟩ (uR_recv X M (uRw4 hS)) rfl rfl (Nat.le_of_ble_eq_true rfl) ⟨Nat.zero_le _, Nat.zero_le _⟩ dX0_number_42 (fun H locs M n8 => ?_)
      exact u_iret X hret M h (rfl) rfl dX0_number_45
    · have h := it_f h c5
      by_cases c9 : a2 = 2
      · have h := it_t h c9
        refine lv_tableIn (off := 45) (tgt := 46) hx hb dX0_number_1 (by rw [c9]; decide) (by rw [c9]; decide) (by rw [c9]; rfl) (by decide) ?_
        refine lv_aload_n hx hb dX0_number_46 rfl (lv_at hl 0 rfl) ?_
        refine gf_X0_21 X M hS dX0_number_47 ?_
        refine lv_iload_n hx hb dX0_number_50 rfl (lv_at hl 1 rfl) ?_
        obtain ⟨x11, e10, h⟩ := lt_e h
        refine u_cVi X M hl.1 (kX6_get (uRw6 hS) (congrFun hV 7) e10.symm) cw_X0_39 ⟨by decide, by decide⟩ (uR_recv X M (uRw6 hS)) rfl rfl (Nat.le_of_ble_eq_true rfl) ⟨Nat.zero_le _, Nat.zero_le _⟩ dX0_number_51 (fun H locs M n12 => ?_)
        exact u_iret X hret M h (rfl) rfl dX0_number_54
      · have h := it_f h c9
        have tc1 := lv_neT (a := 0) c1 (by decide)
        have tc5 := lv_neT (a := 1) c5 (by decide)
        have tc9 := lv_neT (a := 2) c9 (by decide)
        refine lv_tableOut (tgt := 55) hx hb dX0_number_1 (by omega) (by decide) ?_
        refine lv_aload_n hx hb dX0_number_55 rfl (lv_at hl 0 rfl) ?_
        refine gf_X0_24 X M hS dX0_number_56 ?_
        refine lv_iload_n hx hb dX0_number_59 rfl (lv_at hl 1 rfl) ?_
        obtain ⟨x14, e13, h⟩ := lt_e h
        refine u_cVi X M hl.1 (kX6_get (uRw8 hS) (congrFun hV 9) e13.symm) cw_X0_39 ⟨by decide, by decide⟩ (uR_recv X M (uRw8 hS)) rfl rfl (Nat.le_of_ble_eq_true rfl) ⟨Nat.zero_le _, Nat.zero_le _⟩ dX0_number_60 (fun H locs M n15 => ?_)
        exact u_iret X hret M h (rfl) rfl dX0_number_63
def fX0_countOf_L4 (S : (Nat → Nat → Int32)) (n : Nat) (y1 : Int32) (y2 : Int32) (y3 : Int32) : Option Int32 :=
  match n with
  | 0 => none
  | n + 1 =>
    lt_ (S 1 0) fun x1 =>
    if x1 ≤ y3 then
      some y2
    else
      lt_ (fget 10 (S 3) y3) fun x5 =>
      if x5 = y1 then
        lt_ (y2 + 1) fun x10 =>
        lt_ (y3 + 1) fun x12 =>
        fX0_countOf_L4 S n y1 x10 x12
      else
        lt_ (y3 + 1) fun x8 =>
        fX0_countOf_L4 S n y1 y2 x8
set_option maxHeartbeats 4000000 in
set_option maxRecDepth 20000 in
theorem lpX0_countOf_4 {l : Launch} {G : UG} {V : uV} {t : Nat} (hS : uSt G t) {S : (Nat → Nat → Int32)} (hV : V t = S) {r : Int32} {p : Program} {e : Env} {s : State} {m : MethodId} {args : Array Value} {below : List Frame} {meth : Method} {c : Code} (X : UC p s m args meth c cX0_countOf 4 RX0 G) (hret : meth.sig.returnType = some .int) : ∀ (n : Nat) (y1 : Int32) (y2 : Int32) (y3 : Int32) (H : Heap) (locs : List Loc) (ls : Array Slot), fX0_countOf_L4 S n y1 y2 y3 = some r → UM G (V) s H locs → lv_has ls 4 [(0, .ref (ga G t 1)), (1, .int y1), (2, .int y2), (3, .int y3)] → W p l e (uR 1 21) s m args below meth c H locs 0 0 (MQ below (uQi G .int r V) args s 0 0 (uA G)) (F0 m 4 ls []) := by
  intro n
  have hx := X.hx
  have hb := X.hb
  induction n with
  | zero => intro y1 y2 y3 H locs ls h M hl; rw [fX0_countOf_L4] at h; cases h
  | succ n ih =>
    intro y1 y2 y3 H locs ls h M hl
    rw [fX0_countOf_L4] at h
    refine lv_iload_n hx hb dX0_countOf_4 rfl (lv_at hl 3 rfl) ?_
    refine lv_aload_n hx hb dX0_countOf_5 rfl (lv_at hl 0 rfl) ?_
    obtain ⟨x1, e2, h⟩ := lt_e h
    refine gf_X0_27 X M hS hV e2 dX0_countOf_6 ?_
    refine lv_icmp_ge (tgt := 33) hx hb dX0_countOf_9 (by decide) (fun c3 => ?_) (fun c3 => ?_)
    · have h := it_t h c3
      refine lv_iload_n hx hb dX0_countOf_33 rfl (lv_at hl 2 rfl) ?_
      exact u_iret X hret M (Option.some.inj h) (rfl) rfl dX0_countOf_34
    · have h := it_f h c3
      refine lv_aload_n hx hb dX0_countOf_12 rfl (lv_at hl 0 rfl) ?_
      refine gf_X0_14 X M hS dX0_countOf_13 ?_
      refine lv_iload_n hx hb dX0_countOf_16 rfl (lv_at hl 3 rfl) ?_
      obtain ⟨x5, e4, h⟩ := lt_e h
      refine u_cVi X M hl.1 (kX6_get (uRw2 hS) (congrFun hV 3) e4.symm) cw_X0_39 ⟨by decide, by decide⟩ (uR_recv X M (uRw2 hS)) rfl rfl (Nat.le_of_ble_eq_true rfl) ⟨Nat.zero_le _, Nat.zero_le _⟩ dX0_countOf_17 (fun H locs M n6 => ?_)
      refine lv_iload_n hx hb dX0_countOf_20 rfl (lv_at hl 1 rfl) ?_
      refine lv_icmp_ne (tgt := 27) hx hb dX0_countOf_21 (by decide) (fun c7 => ?_) (fun c7 => ?_)
      · have h := it_f h c7
        obtain ⟨x8, e9, h⟩ := lt_e h
        refine lv_iinc (v := x8) (lv' := [(3, .int x8), (0, .ref (ga G t 1)), (1, .int y1), (2, .int y2)]) hx hb dX0_countOf_27 hl (k := 3) rfl (by rw [e9]; rfl) (by decide) rfl (fun ls hl => ?_)
        refine lv_goto (tgt := 4) hx hb dX0_countOf_30 (by decide) ?_
        exact ih _ _ _ _ _ _ h M (lv_sub hl [1, 2, 3, 0] rfl)
      · have h := it_t h c7
        obtain ⟨x10, e11, h⟩ := lt_e h
        refine lv_iinc (v := x10) (lv' := [(2, .int x10), (0, .ref (ga G t 1)), (1, .int y1), (3, .int y3)]) hx hb dX0_countOf_24 hl (k := 2) rfl (by rw [e11]; rfl) (by decide) rfl (fun ls hl => ?_)
        obtain ⟨x12, e13, h⟩ := lt_e h
        refine lv_iinc (v := x12) (lv' := [(3, .int x12), (2, .int x10), (0, .ref (ga G t 1)), (1, .int y1)]) hx hb dX0_countOf_27 hl (k := 3) rfl (by rw [e13]; rfl) (by decide) rfl (fun ls hl => ?_)
        refine lv_goto (tgt := 4) hx hb dX0_countOf_30 (by decide) ?_
        exact ih _ _ _ _ _ _ h M (lv_sub hl [2, 3, 1, 0] rfl)
def fX0_countOf (S : (Nat → Nat → Int32)) (a1 : Int32) : Option Int32 :=
  fX0_countOf_L4 S 3000 a1 0 0
set_option maxHeartbeats 4000000 in
set_option maxRecDepth 20000 in
theorem kX0_countOf {l : Launch} {G : UG} {V : uV} {t : Nat} (hS : uSt G t) {S : (Nat → Nat → Int32)} (hV : V t = S) {a1 : Int32} {r : Int32} (h : fX0_countOf S a1 = some r) : uMi l G yX0_countOf cX0_countOf 4 .int (uR 1 21) [.ref (ga G t 1), .int a1] V r V := by
  refine uMi_of rfl (Nat.le_of_ble_eq_true rfl) (fun p e s m args below meth c ls X hret hl M => ?_)
  have hl : lv_has ls 4 [(0, .ref (ga G t 1)), (1, .int a1)] := hl
  have hx := X.hx
  have hb := X.hb
  unfold fX0_countOf at h
  refine lv_iconst (v := 0) hx hb dX0_countOf_0 (by decide) ?_
  refine lv_istore_n (lv' := [(2, .int 0), (0, .ref (ga G t 1)), (1, .int a1)]) hx hb dX0_countOf_1 rfl hl (by decide) rfl (fun ls hl => ?_)
  refine lv_iconst (v := 0) hx hb dX0_countOf_2 (by decide) ?_
  refine lv_istore_n (lv' := [(3, .int 0), (2, .int 0), (0, .ref (ga G t 1)), (1, .int a1)]) hx hb dX0_countOf_3 rfl hl (by decide) rfl (fun ls hl => ?_)
  exact lpX0_countOf_4 hS hV X hret 3000 _ _ _ _ _ _ h M (lv_sub hl [2, 3, 1, 0] rfl)
end
section
theorem dX5_wordOf_0 : decode cX5_wordOf 0 = .ok (.iload_n 1, 1) := by decide +kernel
theorem dX5_wordOf_1 : decode cX5_wordOf 1 = .ok (.ifCond .lt 10, 3) := by decide +kernel
theorem dX5_wordOf_4 : decode cX5_wordOf 4 = .ok (.iload_n 1, 1) := by decide +kernel
theorem dX5_wordOf_5 : decode cX5_wordOf 5 = .ok (.sipush 1024, 3) := by decide +kernel
theorem dX5_wordOf_8 : decode cX5_wordOf 8 = .ok (.if_icmp .lt 5, 3) := by decide +kernel
theorem dX5_wordOf_11 : decode cX5_wordOf 11 = .ok (.iconst (-1), 1) := by decide +kernel
theorem dX5_wordOf_12 : decode cX5_wordOf 12 = .ok (.ireturn, 1) := by decide +kernel
theorem dX5_wordOf_13 : decode cX5_wordOf 13 = .ok (.iload_n 0, 1) := by decide +kernel
theorem dX5_wordOf_14 : decode cX5_wordOf 14 = .ok (.bipush 32, 2) := by decide +kernel
theorem dX5_wordOf_16 : decode cX5_wordOf 16 = .ok (.imul, 1) := by decide +kernel
theorem dX5_wordOf_17 : decode cX5_wordOf 17 = .ok (.iload_n 1, 1) := by decide +kernel
theorem dX5_wordOf_18 : decode cX5_wordOf 18 = .ok (.bipush 32, 2) := by decide +kernel
theorem dX5_wordOf_20 : decode cX5_wordOf 20 = .ok (.idiv, 1) := by decide +kernel
theorem dX5_wordOf_21 : decode cX5_wordOf 21 = .ok (.iadd, 1) := by decide +kernel
theorem dX5_wordOf_22 : decode cX5_wordOf 22 = .ok (.ireturn, 1) := by decide +kernel
theorem dX5_has_0 : decode cX5_has 0 = .ok (.iload_n 1, 1) := by decide +kernel
theorem dX5_has_1 : decode cX5_has 1 = .ok (.ifCond .lt 15, 3) := by decide +kernel
theorem dX5_has_4 : decode cX5_has 4 = .ok (.iload_n 1, 1) := by decide +kernel
theorem dX5_has_5 : decode cX5_has 5 = .ok (.aload_n 0, 1) := by decide +kernel
theorem dX5_has_6 : decode cX5_has 6 = .ok (.getfield 32, 3) := by decide +kernel
theorem dX5_has_9 : decode cX5_has 9 = .ok (.if_icmp .ge 7, 3) := by decide +kernel
theorem dX5_has_12 : decode cX5_has 12 = .ok (.iconst 1, 1) := by decide +kernel
theorem dX5_has_13 : decode cX5_has 13 = .ok (.goto 4, 3) := by decide +kernel
theorem dX5_has_16 : decode cX5_has 16 = .ok (.iconst 0, 1) := by decide +kernel
theorem dX5_has_17 : decode cX5_has 17 = .ok (.ireturn, 1) := by decide +kernel
theorem dX5_isFull_0 : decode cX5_isFull 0 = .ok (.aload_n 0, 1) := by decide +kernel
theorem dX5_isFull_1 : decode cX5_isFull 1 = .ok (.getfield 32, 3) := by decide +kernel
theorem dX5_isFull_4 : decode cX5_isFull 4 = .ok (.bipush 8, 2) := by decide +kernel
theorem dX5_isFull_6 : decode cX5_isFull 6 = .ok (.if_icmp .lt 7, 3) := by decide +kernel
theorem dX5_isFull_9 : decode cX5_isFull 9 = .ok (.iconst 1, 1) := by decide +kernel
theorem dX5_isFull_10 : decode cX5_isFull 10 = .ok (.goto 4, 3) := by decide +kernel
theorem dX5_isFull_13 : decode cX5_isFull 13 = .ok (.iconst 0, 1) := by decide +kernel
theorem dX5_isFull_14 : decode cX5_isFull 14 = .ok (.ireturn, 1) := by decide +kernel
theorem dX5_make_0 : decode cX5_make 0 = .ok (.aload_n 0, 1) := by decide +kernel
theorem dX5_make_1 : decode cX5_make 1 = .ok (.getfield 32, 3) := by decide +kernel
theorem dX5_make_4 : decode cX5_make 4 = .ok (.istore_n 2, 1) := by decide +kernel
theorem dX5_make_5 : decode cX5_make 5 = .ok (.aload_n 0, 1) := by decide +kernel
theorem dX5_make_6 : decode cX5_make 6 = .ok (.getfield 16, 3) := by decide +kernel
theorem dX5_make_9 : decode cX5_make 9 = .ok (.iload_n 2, 1) := by decide +kernel
theorem dX5_make_10 : decode cX5_make 10 = .ok (.iload_n 1, 1) := by decide +kernel
theorem dX5_make_11 : decode cX5_make 11 = .ok (.invokevirtual 43, 3) := by decide +kernel
theorem dX5_make_14 : decode cX5_make 14 = .ok (.aload_n 0, 1) := by decide +kernel
theorem dX5_make_15 : decode cX5_make 15 = .ok (.dup, 1) := by decide +kernel
theorem dX5_make_16 : decode cX5_make 16 = .ok (.getfield 32, 3) := by decide +kernel
theorem dX5_make_19 : decode cX5_make 19 = .ok (.iconst 1, 1) := by decide +kernel
theorem dX5_make_20 : decode cX5_make 20 = .ok (.iadd, 1) := by decide +kernel
theorem dX5_make_21 : decode cX5_make 21 = .ok (.putfield 32, 3) := by decide +kernel
theorem dX5_make_24 : decode cX5_make 24 = .ok (.iload_n 2, 1) := by decide +kernel
theorem dX5_make_25 : decode cX5_make 25 = .ok (.ireturn, 1) := by decide +kernel
theorem dX5_isMarked_0 : decode cX5_isMarked 0 = .ok (.aload_n 0, 1) := by decide +kernel
theorem dX5_isMarked_1 : decode cX5_isMarked 1 = .ok (.getfield 23, 3) := by decide +kernel
theorem dX5_isMarked_4 : decode cX5_isMarked 4 = .ok (.iload_n 1, 1) := by decide +kernel
theorem dX5_isMarked_5 : decode cX5_isMarked 5 = .ok (.invokevirtual 47, 3) := by decide +kernel
theorem dX5_isMarked_8 : decode cX5_isMarked 8 = .ok (.ifCond .eq 7, 3) := by decide +kernel
theorem dX5_isMarked_11 : decode cX5_isMarked 11 = .ok (.iconst 1, 1) := by decide +kernel
theorem dX5_isMarked_12 : decode cX5_isMarked 12 = .ok (.goto 4, 3) := by decide +kernel
theorem dX5_isMarked_15 : decode cX5_isMarked 15 = .ok (.iconst 0, 1) := by decide +kernel
theorem dX5_isMarked_16 : decode cX5_isMarked 16 = .ok (.ireturn, 1) := by decide +kernel
theorem dX5_isBlocked_0 : decode cX5_isBlocked 0 = .ok (.aload_n 0, 1) := by decide +kernel
theorem dX5_isBlocked_1 : decode cX5_isBlocked 1 = .ok (.getfield 16, 3) := by decide +kernel
theorem dX5_isBlocked_4 : decode cX5_isBlocked 4 = .ok (.iload_n 1, 1) := by decide +kernel
theorem dX5_isBlocked_5 : decode cX5_isBlocked 5 = .ok (.invokevirtual 47, 3) := by decide +kernel
theorem dX5_isBlocked_8 : decode cX5_isBlocked 8 = .ok (.ifCond .lt 14, 3) := by decide +kernel
theorem dX5_isBlocked_11 : decode cX5_isBlocked 11 = .ok (.aload_n 0, 1) := by decide +kernel
theorem dX5_isBlocked_12 : decode cX5_isBlocked 12 = .ok (.getfield 23, 3) := by decide +kernel
theorem dX5_isBlocked_15 : decode cX5_isBlocked 15 = .ok (.iload_n 1, 1) := by decide +kernel
theorem dX5_isBlocked_16 : decode cX5_isBlocked 16 = .ok (.invokevirtual 47, 3) := by decide +kernel
theorem dX5_isBlocked_19 : decode cX5_isBlocked 19 = .ok (.ifCond .eq 7, 3) := by decide +kernel
theorem dX5_isBlocked_22 : decode cX5_isBlocked 22 = .ok (.iconst 1, 1) := by decide +kernel
theorem dX5_isBlocked_23 : decode cX5_isBlocked 23 = .ok (.goto 4, 3) := by decide +kernel
theorem dX5_isBlocked_26 : decode cX5_isBlocked 26 = .ok (.iconst 0, 1) := by decide +kernel
theorem dX5_isBlocked_27 : decode cX5_isBlocked 27 = .ok (.ireturn, 1) := by decide +kernel
theorem dX5_blockedSet_0 : decode cX5_blockedSet 0 = .ok (.iconst 0, 1) := by decide +kernel
theorem dX5_blockedSet_1 : decode cX5_blockedSet 1 = .ok (.istore_n 1, 1) := by decide +kernel
theorem dX5_blockedSet_2 : decode cX5_blockedSet 2 = .ok (.iconst 0, 1) := by decide +kernel
theorem dX5_blockedSet_3 : decode cX5_blockedSet 3 = .ok (.istore_n 2, 1) := by decide +kernel
theorem dX5_blockedSet_4 : decode cX5_blockedSet 4 = .ok (.iload_n 2, 1) := by decide +kernel
theorem dX5_blockedSet_5 : decode cX5_blockedSet 5 = .ok (.aload_n 0, 1) := by decide +kernel
theorem dX5_blockedSet_6 : decode cX5_blockedSet 6 = .ok (.getfield 32, 3) := by decide +kernel
theorem dX5_blockedSet_9 : decode cX5_blockedSet 9 = .ok (.if_icmp .ge 23, 3) := by decide +kernel
theorem dX5_blockedSet_12 : decode cX5_blockedSet 12 = .ok (.aload_n 0, 1) := by decide +kernel
theorem dX5_blockedSet_13 : decode cX5_blockedSet 13 = .ok (.iload_n 2, 1) := by decide +kernel
theorem dX5_blockedSet_14 : decode cX5_blockedSet 14 = .ok (.invokevirtual 51, 3) := by decide +kernel
theorem dX5_blockedSet_17 : decode cX5_blockedSet 17 = .ok (.ifCond .eq 9, 3) := by decide +kernel
theorem dX5_blockedSet_20 : decode cX5_blockedSet 20 = .ok (.iload_n 1, 1) := by decide +kernel
theorem dX5_blockedSet_21 : decode cX5_blockedSet 21 = .ok (.iconst 1, 1) := by decide +kernel
theorem dX5_blockedSet_22 : decode cX5_blockedSet 22 = .ok (.iload_n 2, 1) := by decide +kernel
theorem dX5_blockedSet_23 : decode cX5_blockedSet 23 = .ok (.ishl, 1) := by decide +kernel
theorem dX5_blockedSet_24 : decode cX5_blockedSet 24 = .ok (.ior, 1) := by decide +kernel
theorem dX5_blockedSet_25 : decode cX5_blockedSet 25 = .ok (.istore_n 1, 1) := by decide +kernel
theorem dX5_blockedSet_26 : decode cX5_blockedSet 26 = .ok (.iinc 2 1, 3) := by decide +kernel
theorem dX5_blockedSet_29 : decode cX5_blockedSet 29 = .ok (.goto (-25), 3) := by decide +kernel
theorem dX5_blockedSet_32 : decode cX5_blockedSet 32 = .ok (.iload_n 1, 1) := by decide +kernel
theorem dX5_blockedSet_33 : decode cX5_blockedSet 33 = .ok (.ireturn, 1) := by decide +kernel
theorem dX5_payIn_0 : decode cX5_payIn 0 = .ok (.aload_n 0, 1) := by decide +kernel
theorem dX5_payIn_1 : decode cX5_payIn 1 = .ok (.getfield 16, 3) := by decide +kernel
theorem dX5_payIn_4 : decode cX5_payIn 4 = .ok (.iload_n 1, 1) := by decide +kernel
theorem dX5_payIn_5 : decode cX5_payIn 5 = .ok (.iload_n 2, 1) := by decide +kernel
theorem dX5_payIn_6 : decode cX5_payIn 6 = .ok (.invokevirtual 55, 3) := by decide +kernel
theorem dX5_payIn_9 : decode cX5_payIn 9 = .ok (.aload_n 0, 1) := by decide +kernel
theorem dX5_payIn_10 : decode cX5_payIn 10 = .ok (.getfield 20, 3) := by decide +kernel
theorem dX5_payIn_13 : decode cX5_payIn 13 = .ok (.iload_n 1, 1) := by decide +kernel
theorem dX5_payIn_14 : decode cX5_payIn 14 = .ok (.iload_n 2, 1) := by decide +kernel
theorem dX5_payIn_15 : decode cX5_payIn 15 = .ok (.invokevirtual 55, 3) := by decide +kernel
theorem dX5_payIn_18 : decode cX5_payIn 18 = .ok (.aload_n 0, 1) := by decide +kernel
theorem dX5_payIn_19 : decode cX5_payIn 19 = .ok (.getfield 16, 3) := by decide +kernel
theorem dX5_payIn_22 : decode cX5_payIn 22 = .ok (.iload_n 1, 1) := by decide +kernel
theorem dX5_payIn_23 : decode cX5_payIn 23 = .ok (.invokevirtual 47, 3) := by decide +kernel
theorem dX5_payIn_26 : decode cX5_payIn 26 = .ok (.ireturn, 1) := by decide +kernel
theorem dX5_takeWaiting_0 : decode cX5_takeWaiting 0 = .ok (.aload_n 0, 1) := by decide +kernel
theorem dX5_takeWaiting_1 : decode cX5_takeWaiting 1 = .ok (.getfield 20, 3) := by decide +kernel
theorem dX5_takeWaiting_4 : decode cX5_takeWaiting 4 = .ok (.iload_n 1, 1) := by decide +kernel
theorem dX5_takeWaiting_5 : decode cX5_takeWaiting 5 = .ok (.iconst 0, 1) := by decide +kernel
theorem dX5_takeWaiting_6 : decode cX5_takeWaiting 6 = .ok (.invokevirtual 58, 3) := by decide +kernel
theorem dX5_takeWaiting_9 : decode cX5_takeWaiting 9 = .ok (.ireturn, 1) := by decide +kernel
theorem dX5_unmark_0 : decode cX5_unmark 0 = .ok (.aload_n 0, 1) := by decide +kernel
theorem dX5_unmark_1 : decode cX5_unmark 1 = .ok (.getfield 23, 3) := by decide +kernel
theorem dX5_unmark_4 : decode cX5_unmark 4 = .ok (.iload_n 1, 1) := by decide +kernel
theorem dX5_unmark_5 : decode cX5_unmark 5 = .ok (.iconst 0, 1) := by decide +kernel
theorem dX5_unmark_6 : decode cX5_unmark 6 = .ok (.invokevirtual 43, 3) := by decide +kernel
theorem dX5_unmark_9 : decode cX5_unmark 9 = .ok (.aload_n 0, 1) := by decide +kernel
theorem dX5_unmark_10 : decode cX5_unmark 10 = .ok (.getfield 16, 3) := by decide +kernel
theorem dX5_unmark_13 : decode cX5_unmark 13 = .ok (.iload_n 1, 1) := by decide +kernel
theorem dX5_unmark_14 : decode cX5_unmark 14 = .ok (.invokevirtual 47, 3) := by decide +kernel
theorem dX5_unmark_17 : decode cX5_unmark 17 = .ok (.ireturn, 1) := by decide +kernel
theorem dX5_settleRide_0 : decode cX5_settleRide 0 = .ok (.iload_n 1, 1) := by decide +kernel
theorem dX5_settleRide_1 : decode cX5_settleRide 1 = .ok (.iload_n 2, 1) := by decide +kernel
theorem dX5_settleRide_2 : decode cX5_settleRide 2 = .ok (.invokestatic 62, 3) := by decide +kernel
theorem dX5_settleRide_5 : decode cX5_settleRide 5 = .ok (.istore 5, 2) := by decide +kernel
theorem dX5_settleRide_7 : decode cX5_settleRide 7 = .ok (.iconst 1, 1) := by decide +kernel
theorem dX5_settleRide_8 : decode cX5_settleRide 8 = .ok (.iload_n 2, 1) := by decide +kernel
theorem dX5_settleRide_9 : decode cX5_settleRide 9 = .ok (.bipush 31, 2) := by decide +kernel
theorem dX5_settleRide_11 : decode cX5_settleRide 11 = .ok (.iand, 1) := by decide +kernel
theorem dX5_settleRide_12 : decode cX5_settleRide 12 = .ok (.ishl, 1) := by decide +kernel
theorem dX5_settleRide_13 : decode cX5_settleRide 13 = .ok (.istore 6, 2) := by decide +kernel
theorem dX5_settleRide_15 : decode cX5_settleRide 15 = .ok (.aload_n 0, 1) := by decide +kernel
theorem dX5_settleRide_16 : decode cX5_settleRide 16 = .ok (.getfield 29, 3) := by decide +kernel
theorem dX5_settleRide_19 : decode cX5_settleRide 19 = .ok (.iload 5, 2) := by decide +kernel
theorem dX5_settleRide_21 : decode cX5_settleRide 21 = .ok (.invokevirtual 47, 3) := by decide +kernel
theorem dX5_settleRide_24 : decode cX5_settleRide 24 = .ok (.istore 7, 2) := by decide +kernel
theorem dX5_settleRide_26 : decode cX5_settleRide 26 = .ok (.iload 7, 2) := by decide +kernel
theorem dX5_settleRide_28 : decode cX5_settleRide 28 = .ok (.iload 6, 2) := by decide +kernel
theorem dX5_settleRide_30 : decode cX5_settleRide 30 = .ok (.iand, 1) := by decide +kernel
theorem dX5_settleRide_31 : decode cX5_settleRide 31 = .ok (.ifCond .eq 25, 3) := by decide +kernel
theorem dX5_settleRide_34 : decode cX5_settleRide 34 = .ok (.aload_n 0, 1) := by decide +kernel
theorem dX5_settleRide_35 : decode cX5_settleRide 35 = .ok (.getfield 16, 3) := by decide +kernel
theorem dX5_settleRide_38 : decode cX5_settleRide 38 = .ok (.iload_n 1, 1) := by decide +kernel
theorem dX5_settleRide_39 : decode cX5_settleRide 39 = .ok (.iload 4, 2) := by decide +kernel
theorem dX5_settleRide_41 : decode cX5_settleRide 41 = .ok (.ineg, 1) := by decide +kernel
theorem dX5_settleRide_42 : decode cX5_settleRide 42 = .ok (.invokevirtual 55, 3) := by decide +kernel
theorem dX5_settleRide_45 : decode cX5_settleRide 45 = .ok (.aload_n 0, 1) := by decide +kernel
theorem dX5_settleRide_46 : decode cX5_settleRide 46 = .ok (.getfield 23, 3) := by decide +kernel
theorem dX5_settleRide_49 : decode cX5_settleRide 49 = .ok (.iload_n 1, 1) := by decide +kernel
theorem dX5_settleRide_50 : decode cX5_settleRide 50 = .ok (.iconst 1, 1) := by decide +kernel
theorem dX5_settleRide_51 : decode cX5_settleRide 51 = .ok (.invokevirtual 43, 3) := by decide +kernel
theorem dX5_settleRide_54 : decode cX5_settleRide 54 = .ok (.iconst 0, 1) := by decide +kernel
theorem dX5_settleRide_55 : decode cX5_settleRide 55 = .ok (.ireturn, 1) := by decide +kernel
theorem dX5_settleRide_56 : decode cX5_settleRide 56 = .ok (.aload_n 0, 1) := by decide +kernel
theorem dX5_settleRide_57 : decode cX5_settleRide 57 = .ok (.getfield 29, 3) := by decide +kernel
theorem dX5_settleRide_60 : decode cX5_settleRide 60 = .ok (.iload 5, 2) := by decide +kernel
theorem dX5_settleRide_62 : decode cX5_settleRide 62 = .ok (.iload 7, 2) := by decide +kernel
theorem dX5_settleRide_64 : decode cX5_settleRide 64 = .ok (.iload 6, 2) := by decide +kernel
theorem dX5_settleRide_66 : decode cX5_settleRide 66 = .ok (.ior, 1) := by decide +kernel
theorem dX5_settleRide_67 : decode cX5_settleRide 67 = .ok (.invokevirtual 43, 3) := by decide +kernel
theorem dX5_settleRide_70 : decode cX5_settleRide 70 = .ok (.aload_n 0, 1) := by decide +kernel
theorem dX5_settleRide_71 : decode cX5_settleRide 71 = .ok (.getfield 26, 3) := by decide +kernel
theorem dX5_settleRide_74 : decode cX5_settleRide 74 = .ok (.iload_n 1, 1) := by decide +kernel
theorem dX5_settleRide_75 : decode cX5_settleRide 75 = .ok (.iconst 1, 1) := by decide +kernel
theorem dX5_settleRide_76 : decode cX5_settleRide 76 = .ok (.invokevirtual 55, 3) := by decide +kernel
theorem dX5_settleRide_79 : decode cX5_settleRide 79 = .ok (.aload_n 0, 1) := by decide +kernel
theorem dX5_settleRide_80 : decode cX5_settleRide 80 = .ok (.getfield 16, 3) := by decide +kernel
theorem dX5_settleRide_83 : decode cX5_settleRide 83 = .ok (.iload_n 1, 1) := by decide +kernel
theorem dX5_settleRide_84 : decode cX5_settleRide 84 = .ok (.iload_n 3, 1) := by decide +kernel
theorem dX5_settleRide_85 : decode cX5_settleRide 85 = .ok (.ineg, 1) := by decide +kernel
theorem dX5_settleRide_86 : decode cX5_settleRide 86 = .ok (.invokevirtual 55, 3) := by decide +kernel
theorem dX5_settleRide_89 : decode cX5_settleRide 89 = .ok (.iconst 1, 1) := by decide +kernel
theorem dX5_settleRide_90 : decode cX5_settleRide 90 = .ok (.ireturn, 1) := by decide +kernel
theorem dX5_clear_0 : decode cX5_clear 0 = .ok (.aload_n 0, 1) := by decide +kernel
theorem dX5_clear_1 : decode cX5_clear 1 = .ok (.iconst 0, 1) := by decide +kernel
theorem dX5_clear_2 : decode cX5_clear 2 = .ok (.putfield 32, 3) := by decide +kernel
theorem dX5_clear_5 : decode cX5_clear 5 = .ok (.aload_n 0, 1) := by decide +kernel
theorem dX5_clear_6 : decode cX5_clear 6 = .ok (.getfield 16, 3) := by decide +kernel
theorem dX5_clear_9 : decode cX5_clear 9 = .ok (.iconst 0, 1) := by decide +kernel
theorem dX5_clear_10 : decode cX5_clear 10 = .ok (.invokevirtual 36, 3) := by decide +kernel
theorem dX5_clear_13 : decode cX5_clear 13 = .ok (.aload_n 0, 1) := by decide +kernel
theorem dX5_clear_14 : decode cX5_clear 14 = .ok (.getfield 20, 3) := by decide +kernel
theorem dX5_clear_17 : decode cX5_clear 17 = .ok (.iconst 0, 1) := by decide +kernel
theorem dX5_clear_18 : decode cX5_clear 18 = .ok (.invokevirtual 36, 3) := by decide +kernel
theorem dX5_clear_21 : decode cX5_clear 21 = .ok (.aload_n 0, 1) := by decide +kernel
theorem dX5_clear_22 : decode cX5_clear 22 = .ok (.getfield 23, 3) := by decide +kernel
theorem dX5_clear_25 : decode cX5_clear 25 = .ok (.iconst 0, 1) := by decide +kernel
theorem dX5_clear_26 : decode cX5_clear 26 = .ok (.invokevirtual 36, 3) := by decide +kernel
theorem dX5_clear_29 : decode cX5_clear 29 = .ok (.aload_n 0, 1) := by decide +kernel
theorem dX5_clear_30 : decode cX5_clear 30 = .ok (.getfield 26, 3) := by decide +kernel
theorem dX5_clear_33 : decode cX5_clear 33 = .ok (.iconst 0, 1) := by decide +kernel
theorem dX5_clear_34 : decode cX5_clear 34 = .ok (.invokevirtual 36, 3) := by decide +kernel
theorem dX5_clear_37 : decode cX5_clear 37 = .ok (.aload_n 0, 1) := by decide +kernel
theorem dX5_clear_38 : decode cX5_clear 38 = .ok (.getfield 29, 3) := by decide +kernel
theorem dX5_clear_41 : decode cX5_clear 41 = .ok (.iconst 0, 1) := by decide +kernel
theorem dX5_clear_42 : decode cX5_clear 42 = .ok (.invokevirtual 36, 3) := by decide +kernel
theorem dX5_clear_45 : decode cX5_clear 45 = .ok (.return_, 1) := by decide +kernel
theorem yf_X6_fill : (Cond.instanceMethod yX6_fill) ∈ gtbl ∧ (Cond.selects RX6 yX6_fill yX6_fill) ∈ gtbl ∧ (Cond.initialized RX6) ∈ gtbl ∧ (Cond.code yX6_fill cX6_fill 3 none) ∈ gtbl ∧ (yX6_fill.cls = RX6 ∧ yX6_fill.cls ≠ "java/lang/invoke/MethodHandle" ∧ yX6_fill.cls ≠ "java/lang/invoke/VarHandle" ∧ (parseMethodDescriptor yX6_fill.desc).map (fun d => d.parameters.length) = some 1) := ⟨gt_in 179 (by decide +kernel) (by decide +kernel), gt_in 180 (by decide +kernel) (by decide +kernel), gt_in 20 (by decide +kernel) (by decide +kernel), gt_in 181 (by decide +kernel) (by decide +kernel), by decide +kernel⟩
theorem cw_X5_36 : uCW RX5 RX6 36 yX6_fill cX6_fill 3 none 1 := ⟨gt_in 178 (by decide +kernel) (by decide +kernel), yf_X6_fill⟩
theorem cw_X5_43 : uCW RX5 RX6 43 yX6_put cX6_put 3 none 2 := ⟨gt_in 420 (by decide +kernel) (by decide +kernel), yf_X6_put⟩
theorem cw_X5_47 : uCW RX5 RX6 47 yX6_get cX6_get 2 (some .int) 1 := ⟨gt_in 415 (by decide +kernel) (by decide +kernel), yf_X6_get⟩
theorem yf_X5_isBlocked : (Cond.instanceMethod yX5_isBlocked) ∈ gtbl ∧ (Cond.selects RX5 yX5_isBlocked yX5_isBlocked) ∈ gtbl ∧ (Cond.initialized RX5) ∈ gtbl ∧ (Cond.code yX5_isBlocked cX5_isBlocked 2 (some .boolean)) ∈ gtbl ∧ (yX5_isBlocked.cls = RX5 ∧ yX5_isBlocked.cls ≠ "java/lang/invoke/MethodHandle" ∧ yX5_isBlocked.cls ≠ "java/lang/invoke/VarHandle" ∧ (parseMethodDescriptor yX5_isBlocked.desc).map (fun d => d.parameters.length) = some 1) := ⟨gt_in 435 (by decide +kernel) (by decide +kernel), gt_in 436 (by decide +kernel) (by decide +kernel), gt_in 22 (by decide +kernel) (by decide +kernel), gt_in 437 (by decide +kernel) (by decide +kernel), by decide +kernel⟩
theorem cw_X5_51 : uCW RX5 RX5 51 yX5_isBlocked cX5_isBlocked 2 (some .boolean) 1 := ⟨gt_in 434 (by decide +kernel) (by decide +kernel), yf_X5_isBlocked⟩
theorem yf_X6_increase : (Cond.instanceMethod yX6_increase) ∈ gtbl ∧ (Cond.selects RX6 yX6_increase yX6_increase) ∈ gtbl ∧ (Cond.initialized RX6) ∈ gtbl ∧ (Cond.code yX6_increase cX6_increase 3 none) ∈ gtbl ∧ (yX6_increase.cls = RX6 ∧ yX6_increase.cls ≠ "java/lang/invoke/MethodHandle" ∧ yX6_increase.cls ≠ "java/lang/invoke/VarHandle" ∧ (parseMethodDescriptor yX6_increase.desc).map (fun d => d.parameters.length) = some 2) := ⟨gt_in 417 (by decide +kernel) (by decide +kernel), gt_in 418 (by decide +kernel) (by decide +kernel), gt_in 20 (by decide +kernel) (by decide +kernel), gt_in 419 (by decide +kernel) (by decide +kernel), by decide +kernel⟩
theorem cw_X5_55 : uCW RX5 RX6 55 yX6_increase cX6_increase 3 none 2 := ⟨gt_in 416 (by decide +kernel) (by decide +kernel), yf_X6_increase⟩
theorem yf_X6_replace : (Cond.instanceMethod yX6_replace) ∈ gtbl ∧ (Cond.selects RX6 yX6_replace yX6_replace) ∈ gtbl ∧ (Cond.initialized RX6) ∈ gtbl ∧ (Cond.code yX6_replace cX6_replace 4 (some .int)) ∈ gtbl ∧ (yX6_replace.cls = RX6 ∧ yX6_replace.cls ≠ "java/lang/invoke/MethodHandle" ∧ yX6_replace.cls ≠ "java/lang/invoke/VarHandle" ∧ (parseMethodDescriptor yX6_replace.desc).map (fun d => d.parameters.length) = some 2) := ⟨gt_in 643 (by decide +kernel) (by decide +kernel), gt_in 644 (by decide +kernel) (by decide +kernel), gt_in 20 (by decide +kernel) (by decide +kernel), gt_in 645 (by decide +kernel) (by decide +kernel), by decide +kernel⟩
theorem cw_X5_58 : uCW RX5 RX6 58 yX6_replace cX6_replace 4 (some .int) 2 := ⟨gt_in 642 (by decide +kernel) (by decide +kernel), yf_X6_replace⟩
theorem yf_X5_wordOf : (Cond.static yX5_wordOf) ∈ gtbl ∧ (Cond.initialized yX5_wordOf.cls) ∈ gtbl ∧ (Cond.code yX5_wordOf cX5_wordOf 2 (some .int)) ∈ gtbl ∧ (yX5_wordOf.cls ≠ "java/lang/invoke/MethodHandle" ∧ yX5_wordOf.cls ≠ "java/lang/invoke/VarHandle" ∧ (parseMethodDescriptor yX5_wordOf.desc).map (fun d => d.parameters.length) = some 2) := ⟨gt_in 413 (by decide +kernel) (by decide +kernel), gt_in 22 (by decide +kernel) (by decide +kernel), gt_in 414 (by decide +kernel) (by decide +kernel), by decide +kernel⟩
theorem cw_X5_62 : uCS RX5 62 yX5_wordOf cX5_wordOf 2 (some .int) 2 := ⟨gt_in 412 (by decide +kernel) (by decide +kernel), yf_X5_wordOf⟩
def fX5_wordOf (a1 : Int32) (a2 : Int32) : Int32 :=
  if a2 < 0 then
    (-1)
  else
    if a2 < 1024 then
      ((a1 * 32) + (a2 / 32))
    else
      (-1)
set_option maxHeartbeats 4000000 in
set_option maxRecDepth 20000 in
theorem kX5_wordOf {l : Launch} {G : UG} {V : uV}  {a1 : Int32} {a2 : Int32} {r : Int32} (h : fX5_wordOf a1 a2 = r) : uMi l G yX5_wordOf cX5_wordOf 2 .int (uR 0 0) [.int a1, .int a2] V r V := by
  refine uMi_of rfl (Nat.le_of_ble_eq_true rfl) (fun p e s m args below meth c ls X hret hl M => ?_)
  have hl : lv_has ls 2 [(0, .int a1), (1, .int a2)] := hl
  have hx := X.hx
  have hb := X.hb
  unfold fX5_wordOf at h
  refine lv_iload_n hx hb dX5_wordOf_0 rfl (lv_at hl 1 rfl) ?_
  refine lv_if_lt (tgt := 11) hx hb dX5_wordOf_1 (by decide) (fun c1 => ?_) (fun c1 => ?_)
  · have h := it_t h c1
    refine lv_iconst (v := (-1)) hx hb dX5_wordOf_11 (by decide) ?_
    exact u_iret X hret M h (rfl) rfl dX5_wordOf_12
  · have h := it_f h c1
    refine lv_iload_n hx hb dX5_wordOf_4 rfl (lv_at hl 1 rfl) ?_
    refine lv_sipush (v := 1024) hx hb dX5_wordOf_5 (by decide) ?_
    refine lv_icmp_lt (tgt := 13) hx hb dX5_wordOf_8 (by decide) (fun c2 => ?_) (fun c2 => ?_)
    · have h := it_t h c2
      refine lv_iload_n hx hb dX5_wordOf_13 rfl (lv_at hl 0 rfl) ?_
      refine lv_bipush (v := 32) hx hb dX5_wordOf_14 (by decide) ?_
      refine lv_imul hx hb dX5_wordOf_16 ?_
      refine lv_iload_n hx hb dX5_wordOf_17 rfl (lv_at hl 1 rfl) ?_
      refine lv_bipush (v := 32) hx hb dX5_wordOf_18 (by decide) ?_
      refine lv_idiv hx hb dX5_wordOf_20 (by decide) ?_
      refine lv_iadd hx hb dX5_wordOf_21 ?_
      exact u_iret X hret M h (rfl) rfl dX5_wordOf_22
    · have h := it_f h c2
      refine lv_iconst (v := (-1)) hx hb dX5_wordOf_11 (by decide) ?_
      exact u_iret X hret M h (rfl) rfl dX5_wordOf_12
def fX5_has (S : (Nat → Nat → Int32)) (a1 : Int32) : Int32 :=
  if a1 < 0 then
    0
  else
    lt_ (S 10 0) fun x2 =>
    if x2 ≤ a1 then
      0
    else
      1
set_option maxHeartbeats 4000000 in
set_option maxRecDepth 20000 in
theorem kX5_has {l : Launch} {G : UG} {V : uV} {t : Nat} (hS : uSt G t) {S : (Nat → Nat → Int32)} (hV : V t = S) {a1 : Int32} {r : Int32} (h : fX5_has S a1 = r) : uMi l G yX5_has cX5_has 2 .boolean (uR 0 0) [.ref (ga G t 10), .int a1] V r V := by
  refine uMi_of rfl (Nat.le_of_ble_eq_true rfl) (fun p e s m args below meth c ls X hret hl M => ?_)
  have hl : lv_has ls 2 [(0, .ref (ga G t 10)), (1, .int a1)] := hl
  have hx := X.hx
  have hb := X.hb
  unfold fX5_has at h
  refine lv_iload_n hx hb dX5_has_0 rfl (lv_at hl 1 rfl) ?_
  refine lv_if_lt (tgt := 16) hx hb dX5_has_1 (by decide) (fun c1 => ?_) (fun c1 => ?_)
  · have h := it_t h c1
    refine lv_iconst (v := 0) hx hb dX5_has_16 (by decide) ?_
    exact u_iret X hret M h (rfl) rfl dX5_has_17
  · have h := it_f h c1
    refine lv_iload_n hx hb dX5_has_4 rfl (lv_at hl 1 rfl) ?_
    refine lv_aload_n hx hb dX5_has_5 rfl (lv_at hl 0 rfl) ?_
    obtain ⟨x2, e3, h⟩ := lt_e h
    refine gf_X5_32 X M hS hV e3 dX5_has_6 ?_
    refine lv_icmp_ge (tgt := 16) hx hb dX5_has_9 (by decide) (fun c4 => ?_) (fun c4 => ?_)
    · have h := it_t h c4
      refine lv_iconst (v := 0) hx hb dX5_has_16 (by decide) ?_
      exact u_iret X hret M h (rfl) rfl dX5_has_17
    · have h := it_f h c4
      refine lv_iconst (v := 1) hx hb dX5_has_12 (by decide) ?_
      refine lv_goto (tgt := 17) hx hb dX5_has_13 (by decide) ?_
      exact u_iret X hret M h (rfl) rfl dX5_has_17
def fX5_isFull (S : (Nat → Nat → Int32)) : Int32 :=
  lt_ (S 10 0) fun x1 =>
  if x1 < 8 then
    0
  else
    1
set_option maxHeartbeats 4000000 in
set_option maxRecDepth 20000 in
theorem kX5_isFull {l : Launch} {G : UG} {V : uV} {t : Nat} (hS : uSt G t) {S : (Nat → Nat → Int32)} (hV : V t = S)  {r : Int32} (h : fX5_isFull S = r) : uMi l G yX5_isFull cX5_isFull 1 .boolean (uR 0 0) [.ref (ga G t 10)] V r V := by
  refine uMi_of rfl (Nat.le_of_ble_eq_true rfl) (fun p e s m args below meth c ls X hret hl M => ?_)
  have hl : lv_has ls 1 [(0, .ref (ga G t 10))] := hl
  have hx := X.hx
  have hb := X.hb
  unfold fX5_isFull at h
  refine lv_aload_n hx hb dX5_isFull_0 rfl (lv_at hl 0 rfl) ?_
  obtain ⟨x1, e2, h⟩ := lt_e h
  refine gf_X5_32 X M hS hV e2 dX5_isFull_1 ?_
  refine lv_bipush (v := 8) hx hb dX5_isFull_4 (by decide) ?_
  refine lv_icmp_lt (tgt := 13) hx hb dX5_isFull_6 (by decide) (fun c3 => ?_) (fun c3 => ?_)
  · have h := it_t h c3
    refine lv_iconst (v := 0) hx hb dX5_isFull_13 (by decide) ?_
    exact u_iret X hret M h (rfl) rfl dX5_isFull_14
  · have h := it_f h c3
    refine lv_iconst (v := 1) hx hb dX5_isFull_9 (by decide) ?_
    refine lv_goto (tgt := 14) hx hb dX5_isFull_10 (by decide) ?_
    exact u_iret X hret M h (rfl) rfl dX5_isFull_14
def fX5_make (S : (Nat → Nat → Int32)) (a1 : Int32) : Option (Int32 × (Nat → Nat → Int32)) :=
  lt_ (S 10 0) fun x1 =>
  lt_ (va_up S 12 (fput 8 (S 12) x1 a1)) fun S4 =>
  lt_ (S4 10 0) fun x6 =>
  lt_ (va_up S4 10 (upd (S4 10) 0 (x6 + 1))) fun S8 =>
  some (x1, S8)
set_option maxHeartbeats 4000000 in
set_option maxRecDepth 20000 in
theorem kX5_make {l : Launch} {G : UG} {V : uV} {t : Nat} (hS : uSt G t) {S S' : (Nat → Nat → Int32)} {a1 : Int32} {r : Int32} (h : fX5_make S a1 = some (r, S')) : uMi l G yX5_make cX5_make 3 .int (uR 1 22) [.ref (ga G t 10), .int a1] (va_up V t S) r (va_up V t S') := by
  refine uMi_of rfl (Nat.le_of_ble_eq_true rfl) (fun p e s m args below meth c ls X hret hl M => ?_)
  have hl : lv_has ls 3 [(0, .ref (ga G t 10)), (1, .int a1)] := hl
  have hx := X.hx
  have hb := X.hb
  unfold fX5_make at h
  refine lv_aload_n hx hb dX5_make_0 rfl (lv_at hl 0 rfl) ?_
  obtain ⟨x1, e2, h⟩ := lt_e h
  refine gf_X5_32 X M hS (va_up_s V t _) e2 dX5_make_1 ?_
  refine lv_istore_n (lv' := [(2, .int x1), (0, .ref (ga G t 10)), (1, .int a1)]) hx hb dX5_make_4 rfl hl (by decide) rfl (fun ls hl => ?_)
  refine lv_aload_n hx hb dX5_make_5 rfl (lv_at hl 1 rfl) ?_
  refine gf_X5_16 X M hS dX5_make_6 ?_
  refine lv_iload_n hx hb dX5_make_9 rfl (lv_at hl 0 rfl) ?_
  refine lv_iload_n hx hb dX5_make_10 rfl (lv_at hl 2 rfl) ?_
  obtain ⟨S4, e3, h⟩ := lt_e h
  refine u_cVv X M hl.1 (kX6_putS (uRw11 hS) e3) cw_X5_43 ⟨by decide, by decide⟩ (uR_recv X M (uRw11 hS)) rfl rfl (Nat.le_of_ble_eq_true rfl) ⟨Nat.zero_le _, Nat.zero_le _⟩ dX5_make_11 (fun H locs M => ?_)
  refine lv_aload_n hx hb dX5_make_14 rfl (lv_at hl 1 rfl) ?_
  refine lv_dup hx hb dX5_make_15 rfl ?_
  obtain ⟨x6, e7, h⟩ := lt_e h
  refine gf_X5_32 X M hS (va_up_s V t _) e7 dX5_make_16 ?_
  refine lv_iconst (v := 1) hx hb dX5_make_19 (by decide) ?_
  refine lv_iadd hx hb dX5_make_20 ?_
  obtain ⟨S8, e9, h⟩ := lt_e h
  refine pf_X5_32 X M hS e9 dX5_make_21 (fun H locs M => ?_)
  refine lv_iload_n hx hb dX5_make_24 rfl (lv_at hl 0 rfl) ?_
  exact u_iret X hret M (rt2 h).1 (congrArg (va_up V t) ((rt2 h).2)) rfl dX5_make_25
def fX5_isMarked (S : (Nat → Nat → Int32)) (a1 : Int32) : Int32 :=
  lt_ (fget 8 (S 16) a1) fun x2 =>
  if x2 = 0 then
    0
  else
    1
set_option maxHeartbeats 4000000 in
set_option maxRecDepth 20000 in
theorem kX5_isMarked {l : Launch} {G : UG} {V : uV} {t : Nat} (hS : uSt G t) {S : (Nat → Nat → Int32)} (hV : V t = S) {a1 : Int32} {r : Int32} (h : fX5_isMarked S a1 = r) : uMi l G yX5_isMarked cX5_isMarked 2 .boolean (uR 1 21) [.ref (ga G t 10), .int a1] V r V := by
  refine uMi_of rfl (Nat.le_of_ble_eq_true rfl) (fun p e s m args below meth c ls X hret hl M => ?_)
  have hl : lv_has ls 2 [(0, .ref (ga G t 10)), (1, .int a1)] := hl
  have hx := X.hx
  have hb := X.hb
  unfold fX5_isMarked at h
  refine lv_aload_n hx hb dX5_isMarked_0 rfl (lv_at hl 0 rfl) ?_
  refine gf_X5_23 X M hS dX5_isMarked_1 ?_
  refine lv_iload_n hx hb dX5_isMarked_4 rfl (lv_at hl 1 rfl) ?_
  obtain ⟨x2, e1, h⟩ := lt_e h
  refine u_cVi X M hl.1 (kX6_get (uRw15 hS) (congrFun hV 16) e1.symm) cw_X5_47 ⟨by decide, by decide⟩ (uR_recv X M (uRw15 hS)) rfl rfl (Nat.le_of_ble_eq_true rfl) ⟨Nat.zero_le _, Nat.zero_le _⟩ dX5_isMarked_5 (fun H locs M n3 => ?_)
  refine lv_if_eq (tgt := 15) hx hb dX5_isMarked_8 (by decide) (fun c4 => ?_) (fun c4 => ?_)
  · have h := it_t h c4
    refine lv_iconst (v := 0) hx hb dX5_isMarked_15 (by decide) ?_
    exact u_iret X hret M h (rfl) rfl dX5_isMarked_16
  · have h := it_f h c4
    refine lv_iconst (v := 1) hx hb dX5_isMarked_11 (by decide) ?_
    refine lv_goto (tgt := 16) hx hb dX5_isMarked_12 (by decide) ?_
    exact u_iret X hret M h (rfl) rfl dX5_isMarked_16
def fX5_isBlocked (S : (Nat → Nat → Int32)) (a1 : Int32) : Int32 :=
  lt_ (fget 8 (S 12) a1) fun x2 =>
  if x2 < 0 then
    1
  else
    lt_ (fget 8 (S 16) a1) fun x6 =>
    if x6 = 0 then
      0
    else
      1
set_option maxHeartbeats 4000000 in
set_option maxRecDepth 20000 in
theorem kX5_isBlocked {l : Launch} {G : UG} {V : uV} {t : Nat} (hS : uSt G t) {S : (Nat → Nat → Int32)} (hV : V t = S) {a1 : Int32} {r : Int32} (h : fX5_isBlocked S a1 = r) : uMi l G yX5_isBlocked cX5_isBlocked 2 .boolean (uR 1 21) [.ref (ga G t 10), .int a1] V r V := by
  refine uMi_of rfl (Nat.le_of_ble_eq_true rfl) (fun p e s m args below meth c ls X hret hl M => ?_)
  have hl : lv_has ls 2 [(0, .ref (ga G t 10)), (1, .int a1)] := hl
  have hx := X.hx
  have hb := X.hb
  unfold fX5_isBlocked at h
  refine lv_aload_n hx hb dX5_isBlocked_0 rfl (lv_at hl 0 rfl) ?_
  refine gf_X5_16 X M hS dX5_isBlocked_1 ?_
  refine lv_iload_n hx hb dX5_isBlocked_4 rfl (lv_at hl 1 rfl) ?_
  obtain ⟨x2, e1, h⟩ := lt_e h
  refine u_cVi X M hl.1 (kX6_get (uRw11 hS) (congrFun hV 12) e1.symm) cw_X5_47 ⟨by decide, by decide⟩ (uR_recv X M (uRw11 hS)) rfl rfl (Nat.le_of_ble_eq_true rfl) ⟨Nat.zero_le _, Nat.zero_le _⟩ dX5_isBlocked_5 (fun H locs M n3 => ?_)
  refine lv_if_lt (tgt := 22) hx hb dX5_isBlocked_8 (by decide) (fun c4 => ?_) (fun c4 => ?_)
  · have h := it_t h c4
    refine lv_iconst (v := 1) hx hb dX5_isBlocked_22 (by decide) ?_
    refine lv_goto (tgt := 27) hx hb dX5_isBlocked_23 (by decide) ?_
    exact u_iret X hret M h (rfl) rfl dX5_isBlocked_27
  · have h := it_f h c4
    refine lv_aload_n hx hb dX5_isBlocked_11 rfl (lv_at hl 0 rfl) ?_
    refine gf_X5_23 X M hS dX5_isBlocked_12 ?_
    refine lv_iload_n hx hb dX5_isBlocked_15 rfl (lv_at hl 1 rfl) ?_
    obtain ⟨x6, e5, h⟩ := lt_e h
    refine u_cVi X M hl.1 (kX6_get (uRw15 hS) (congrFun hV 16) e5.symm) cw_X5_47 ⟨by decide, by decide⟩ (uR_recv X M (uRw15 hS)) rfl rfl (Nat.le_of_ble_eq_true rfl) ⟨Nat.zero_le _, Nat.zero_le _⟩ dX5_isBlocked_16 (fun H locs M n7 => ?_)
    refine lv_if_eq (tgt := 26) hx hb dX5_isBlocked_19 (by decide) (fun c8 => ?_) (fun c8 => ?_)
    · have h := it_t h c8
      refine lv_iconst (v := 0) hx hb dX5_isBlocked_26 (by decide) ?_
      exact u_iret X hret M h (rfl) rfl dX5_isBlocked_27
    · have h := it_f h c8
      refine lv_iconst (v := 1) hx hb dX5_isBlocked_22 (by decide) ?_
      refine lv_goto (tgt := 27) hx hb dX5_isBlocked_23 (by decide) ?_
      exact u_iret X hret M h (rfl) rfl dX5_isBlocked_27
def fX5_blockedSet_L4 (S : (Nat → Nat → Int32)) (n : Nat) (y1 : Int32) (y2 : Int32) : Option Int32 :=
  match n with
  | 0 => none
  | n + 1 =>
    lt_ (S 10 0) fun x1 =>
    if x1 ≤ y2 then
      some y1
    else
      lt_ (fX5_isBlocked S y2) fun x5 =>
      if x5 = 0 then
        lt_ (y2 + 1) fun x8 =>
        fX5_blockedSet_L4 S n y1 x8
      else
        lt_ ((y1 ||| (1 <<< (y2 &&& 31)))) fun x10 =>
        lt_ (y2 + 1) fun x12 =>
        fX5_blockedSet_L4 S n x10 x12
set_option maxHeartbeats 4000000 in
set_option maxRecDepth 20000 in
theorem lpX5_blockedSet_4 {l : Launch} {G : UG} {V : uV} {t : Nat} (hS : uSt G t) {S : (Nat → Nat → Int32)} (hV : V t = S) {r : Int32} {p : Program} {e : Env} {s : State} {m : MethodId} {args : Array Value} {below : List Frame} {meth : Method} {c : Code} (X : UC p s m args meth c cX5_blockedSet 3 RX5 G) (hret : meth.sig.returnType = some .int) : ∀ (n : Nat) (y1 : Int32) (y2 : Int32) (H : Heap) (locs : List Loc) (ls : Array Slot), fX5_blockedSet_L4 S n y1 y2 = some r → UM G (V) s H locs → lv_has ls 3 [(0, .ref (ga G t 10)), (1, .int y1), (2, .int y2)] → W p l e (uR 2 42) s m args below meth c H locs 0 0 (MQ below (uQi G .int r V) args s 0 0 (uA G)) (F0 m 4 ls []) := by
  intro n
  have hx := X.hx
  have hb := X.hb
  induction n with
  | zero => intro y1 y2 H locs ls h M hl; rw [fX5_blockedSet_L4] at h; cases h
  | succ n ih =>
    intro y1 y2 H locs ls h M hl
    rw [fX5_blockedSet_L4] at h
    refine lv_iload_n hx hb dX5_blockedSet_4 rfl (lv_at hl 2 rfl) ?_
    refine lv_aload_n hx hb dX5_blockedSet_5 rfl (lv_at hl 0 rfl) ?_
    obtain ⟨x1, e2, h⟩ := lt_e h
    refine gf_X5_32 X M hS hV e2 dX5_blockedSet_6 ?_
    refine lv_icmp_ge (tgt := 32) hx hb dX5_blockedSet_9 (by decide) (fun c3 => ?_) (fun c3 => ?_)
    · have h := it_t h c3
      refine lv_iload_n hx hb dX5_blockedSet_32 rfl (lv_at hl 1 rfl) ?_
      exact u_iret X hret M (Option.some.inj h) (rfl) rfl dX5_blockedSet_33
    · have h := it_f h c3
      refine lv_aload_n hx hb dX5_blockedSet_12 rfl (lv_at hl 0 rfl) ?_
      refine lv_iload_n hx hb dX5_blockedSet_13 rfl (lv_at hl 2 rfl) ?_
      obtain ⟨x5, e4, h⟩ := lt_e h
      refine u_cVi X M hl.1 (kX5_isBlocked hS hV e4.symm) cw_X5_51 ⟨by decide, by decide⟩ (rc_X5 X M hS) rfl rfl (Nat.le_of_ble_eq_true rfl) ⟨Nat.zero_le _, Nat.zero_le _⟩ dX5_blockedSet_14 (fun H locs M n6 => ?_)
      refine lv_if_eq (tgt := 26) hx hb dX5_blockedSet_17 (by decide) (fun c7 => ?_) (fun c7 => ?_)
      · have h := it_t h c7
        obtain ⟨x8, e9, h⟩ := lt_e h
        refine lv_iinc (v := x8) (lv' := [(2, .int x8), (0, .ref (ga G t 10)), (1, .int y1)]) hx hb dX5_blockedSet_26 hl (k := 2) rfl (by rw [e9]; rfl) (by decide) rfl (fun ls hl => ?_)
        refine lv_goto (tgt := 4) hx hb dX5_blockedSet_29 (by decide) ?_
        exact ih _ _ _ _ _ h M (lv_sub hl [1, 2, 0] rfl)
      · have h := it_f h c7
        refine lv_iload_n hx hb dX5_blockedSet_20 rfl (lv_at hl 1 rfl) ?_
        refine lv_iconst (v := 1) hx hb dX5_blockedSet_21 (by decide) ?_
        refine lv_iload_n hx hb dX5_blockedSet_22 rfl (lv_at hl 2 rfl) ?_
        refine lv_ishl hx hb dX5_blockedSet_23 ?_
        refine lv_ior hx hb dX5_blockedSet_24 ?_
        obtain ⟨x10, e11, h⟩ := lt_e h
        refine u_topi e11 ?_
        refine lv_istore_n (lv' := [(1, .int x10), (0, .ref (ga G t 10)), (2, .int y2)]) hx hb dX5_blockedSet_25 rfl hl (by decide) rfl (fun ls hl => ?_)
        obtain ⟨x12, e13, h⟩ := lt_e h
        refine lv_iinc (v := x12) (lv' := [(2, .int x12), (1, .int x10), (0, .ref (ga G t 10))]) hx hb dX5_blockedSet_26 hl (k := 2) rfl (by rw [e13]; rfl) (by decide) rfl (fun ls hl => ?_)
        refine lv_goto (tgt := 4) hx hb dX5_blockedSet_29 (by decide) ?_
        exact ih _ _ _ _ _ h M (lv_sub hl [2, 1, 0] rfl)
def fX5_blockedSet (S : (Nat → Nat → Int32)) : Option Int32 :=
  fX5_blockedSet_L4 S 3000 0 0
set_option maxHeartbeats 4000000 in
set_option maxRecDepth 20000 in
theorem kX5_blockedSet {l : Launch} {G : UG} {V : uV} {t : Nat} (hS : uSt G t) {S : (Nat → Nat → Int32)} (hV : V t = S)  {r : Int32} (h : fX5_blockedSet S = some r) : uMi l G yX5_blockedSet cX5_blockedSet 3 .int (uR 2 42) [.ref (ga G t 10)] V r V := by
  refine uMi_of rfl (Nat.le_of_ble_eq_true rfl) (fun p e s m args below meth c ls X hret hl M => ?_)
  have hl : lv_has ls 3 [(0, .ref (ga G t 10))] := hl
  have hx := X.hx
  have hb := X.hb
  unfold fX5_blockedSet at h
  refine lv_iconst (v := 0) hx hb dX5_blockedSet_0 (by decide) ?_
  refine lv_istore_n (lv' := [(1, .int 0), (0, .ref (ga G t 10))]) hx hb dX5_blockedSet_1 rfl hl (by decide) rfl (fun ls hl => ?_)
  refine lv_iconst (v := 0) hx hb dX5_blockedSet_2 (by decide) ?_
  refine lv_istore_n (lv' := [(2, .int 0), (1, .int 0), (0, .ref (ga G t 10))]) hx hb dX5_blockedSet_3 rfl hl (by decide) rfl (fun ls hl => ?_)
  exact lpX5_blockedSet_4 hS hV X hret 3000 _ _ _ _ _ h M (lv_sub hl [2, 1, 0] rfl)
def fX5_payIn (S : (Nat → Nat → Int32)) (a1 : Int32) (a2 : Int32) : Option (Int32 × (Nat → Nat → Int32)) :=
  lt_ (va_up S 12 (finc 8 (S 12) a1 a2)) fun S2 =>
  lt_ (va_up S2 14 (finc 8 (S2 14) a1 a2)) fun S5 =>
  lt_ (fget 8 (S5 12) a1) fun x8 =>
  some (x8, S5)
set_option maxHeartbeats 4000000 in
set_option maxRecDepth 20000 in
theorem kX5_payIn {l : Launch} {G : UG} {V : uV} {t : Nat} (hS : uSt G t) {S S' : (Nat → Nat → Int32)} {a1 : Int32} {a2 : Int32} {r : Int32} (h : fX5_payIn S a1 a2 = some (r, S')) : uMi l G yX5_payIn cX5_payIn 3 .int (uR 1 22) [.ref (ga G t 10), .int a1, .int a2] (va_up V t S) r (va_up V t S') := by
  refine uMi_of rfl (Nat.le_of_ble_eq_true rfl) (fun p e s m args below meth c ls X hret hl M => ?_)
  have hl : lv_has ls 3 [(0, .ref (ga G t 10)), (1, .int a1), (2, .int a2)] := hl
  have hx := X.hx
  have hb := X.hb
  unfold fX5_payIn at h
  refine lv_aload_n hx hb dX5_payIn_0 rfl (lv_at hl 0 rfl) ?_
  refine gf_X5_16 X M hS dX5_payIn_1 ?_
  refine lv_iload_n hx hb dX5_payIn_4 rfl (lv_at hl 1 rfl) ?_
  refine lv_iload_n hx hb dX5_payIn_5 rfl (lv_at hl 2 rfl) ?_
  obtain ⟨S2, e1, h⟩ := lt_e h
  refine u_cVv X M hl.1 (kX6_increaseS (uRw11 hS) e1) cw_X5_55 ⟨by decide, by decide⟩ (uR_recv X M (uRw11 hS)) rfl rfl (Nat.le_of_ble_eq_true rfl) ⟨Nat.zero_le _, Nat.zero_le _⟩ dX5_payIn_6 (fun H locs M => ?_)
  refine lv_aload_n hx hb dX5_payIn_9 rfl (lv_at hl 0 rfl) ?_
  refine gf_X5_20 X M hS dX5_payIn_10 ?_
  refine lv_iload_n hx hb dX5_payIn_13 rfl (lv_at hl 1 rfl) ?_
  refine lv_iload_n hx hb dX5_payIn_14 rfl (lv_at hl 2 rfl) ?_
  obtain ⟨S5, e4, h⟩ := lt_e h
  refine u_cVv X M hl.1 (kX6_increaseS (uRw13 hS) e4) cw_X5_55 ⟨by decide, by decide⟩ (uR_recv X M (uRw13 hS)) rfl rfl (Nat.le_of_ble_eq_true rfl) ⟨Nat.zero_le _, Nat.zero_le _⟩ dX5_payIn_15 (fun H locs M => ?_)
  refine lv_aload_n hx hb dX5_payIn_18 rfl (lv_at hl 0 rfl) ?_
  refine gf_X5_16 X M hS dX5_payIn_19 ?_
  refine lv_iload_n hx hb dX5_payIn_22 rfl (lv_at hl 1 rfl) ?_
  obtain ⟨x8, e7, h⟩ := lt_e h
  refine u_cVi X M hl.1 (kX6_get (uRw11 hS) (congrFun (va_up_s V t _) 12) e7.symm) cw_X5_47 ⟨by decide, by decide⟩ (uR_recv X M (uRw11 hS)) rfl rfl (Nat.le_of_ble_eq_true rfl) ⟨Nat.zero_le _, Nat.zero_le _⟩ dX5_payIn_23 (fun H locs M n9 => ?_)
  exact u_iret X hret M (rt2 h).1 (congrArg (va_up V t) ((rt2 h).2)) rfl dX5_payIn_26
def fX5_takeWaiting (S : (Nat → Nat → Int32)) (a1 : Int32) : Option (Int32 × (Nat → Nat → Int32)) :=
  lt_ (fget 8 (S 14) a1) fun x2 =>
  lt_ (va_up S 14 (fput 8 (S 14) a1 0)) fun S4 =>
  some (x2, S4)
set_option maxHeartbeats 4000000 in
set_option maxRecDepth 20000 in
theorem kX5_takeWaiting {l : Launch} {G : UG} {V : uV} {t : Nat} (hS : uSt G t) {S S' : (Nat → Nat → Int32)} {a1 : Int32} {r : Int32} (h : fX5_takeWaiting S a1 = some (r, S')) : uMi l G yX5_takeWaiting cX5_takeWaiting 2 .int (uR 2 45) [.ref (ga G t 10), .int a1] (va_up V t S) r (va_up V t S') := by
  refine uMi_of rfl (Nat.le_of_ble_eq_true rfl) (fun p e s m args below meth c ls X hret hl M => ?_)
  have hl : lv_has ls 2 [(0, .ref (ga G t 10)), (1, .int a1)] := hl
  have hx := X.hx
  have hb := X.hb
  unfold fX5_takeWaiting at h
  refine lv_aload_n hx hb dX5_takeWaiting_0 rfl (lv_at hl 0 rfl) ?_
  refine gf_X5_20 X M hS dX5_takeWaiting_1 ?_
  refine lv_iload_n hx hb dX5_takeWaiting_4 rfl (lv_at hl 1 rfl) ?_
  refine lv_iconst (v := 0) hx hb dX5_takeWaiting_5 (by decide) ?_
  obtain ⟨x2, e3, h⟩ := lt_e h
  obtain ⟨S4, e1, h⟩ := lt_e h
  refine u_cVi X M hl.1 (kX6_replaceS (uRw13 hS) e3.symm e1) cw_X5_58 ⟨by decide, by decide⟩ (uR_recv X M (uRw13 hS)) rfl rfl (Nat.le_of_ble_eq_true rfl) ⟨Nat.zero_le _, Nat.zero_le _⟩ dX5_takeWaiting_6 (fun H locs M n5 => ?_)
  exact u_iret X hret M (rt2 h).1 (congrArg (va_up V t) ((rt2 h).2)) rfl dX5_takeWaiting_9
def fX5_unmark (S : (Nat → Nat → Int32)) (a1 : Int32) : Option (Int32 × (Nat → Nat → Int32)) :=
  lt_ (va_up S 16 (fput 8 (S 16) a1 0)) fun S2 =>
  lt_ (fget 8 (S2 12) a1) fun x5 =>
  some (x5, S2)
set_option maxHeartbeats 4000000 in
set_option maxRecDepth 20000 in
theorem kX5_unmark {l : Launch} {G : UG} {V : uV} {t : Nat} (hS : uSt G t) {S S' : (Nat → Nat → Int32)} {a1 : Int32} {r : Int32} (h : fX5_unmark S a1 = some (r, S')) : uMi l G yX5_unmark cX5_unmark 2 .int (uR 1 22) [.ref (ga G t 10), .int a1] (va_up V t S) r (va_up V t S') := by
  refine uMi_of rfl (Nat.le_of_ble_eq_true rfl) (fun p e s m args below meth c ls X hret hl M => ?_)
  have hl : lv_has ls 2 [(0, .ref (ga G t 10)), (1, .int a1)] := hl
  have hx := X.hx
  have hb := X.hb
  unfold fX5_unmark at h
  refine lv_aload_n hx hb dX5_unmark_0 rfl (lv_at hl 0 rfl) ?_
  refine gf_X5_23 X M hS dX5_unmark_1 ?_
  refine lv_iload_n hx hb dX5_unmark_4 rfl (lv_at hl 1 rfl) ?_
  refine lv_iconst (v := 0) hx hb dX5_unmark_5 (by decide) ?_
  obtain ⟨S2, e1, h⟩ := lt_e h
  refine u_cVv X M hl.1 (kX6_putS (uRw15 hS) e1) cw_X5_43 ⟨by decide, by decide⟩ (uR_recv X M (uRw15 hS)) rfl rfl (Nat.le_of_ble_eq_true rfl) ⟨Nat.zero_le _, Nat.zero_le _⟩ dX5_unmark_6 (fun H locs M => ?_)
  refine lv_aload_n hx hb dX5_unmark_9 rfl (lv_at hl 0 rfl) ?_
  refine gf_X5_16 X M hS dX5_unmark_10 ?_
  refine lv_iload_n hx hb dX5_unmark_13 rfl (lv_at hl 1 rfl) ?_
  obtain ⟨x5, e4, h⟩ := lt_e h
  refine u_cVi X M hl.1 (kX6_get (uRw11 hS) (congrFun (va_up_s V t _) 12) e4.symm) cw_X5_47 ⟨by decide, by decide⟩ (uR_recv X M (uRw11 hS)) rfl rfl (Nat.le_of_ble_eq_true rfl) ⟨Nat.zero_le _, Nat.zero_le _⟩ dX5_unmark_14 (fun H locs M n6 => ?_)
  exact u_iret X hret M (rt2 h).1 (congrArg (va_up V t) ((rt2 h).2)) rfl dX5_unmark_17
def fX5_settleRide (S : (Nat → Nat → Int32)) (a1 : Int32) (a2 : Int32) (a3 : Int32) (a4 : Int32) : Option (Int32 × (Nat → Nat → Int32)) :=
  lt_ (fX5_wordOf  a1 a2) fun x2 =>
  lt_ ((1 <<< ((a2 &&& 31) &&& 31))) fun x4 =>
  lt_ (fget 256 (S 20) x2) fun x7 =>
  if (x7 &&& x4) = 0 then
    lt_ (va_up S 20 (fput 256 (S 20) x2 (x7 ||| x4))) fun S11 =>
    lt_ (va_up S11 18 (finc 8 (S11 18) a1 1)) fun S14 =>
    lt_ (va_up S14 12 (finc 8 (S14 12) a1 (-a3))) fun S17 =>
    some (1, S17)
  else
    lt_ (va_up S 12 (finc 8 (S 12) a1 (-a4))) fun S20 =>
    lt_ (va_up S20 16 (fput 8 (S20 16) a1 1)) fun S23 =>
    some (0, S23)
set_option maxHeartbeats 4000000 in
set_option maxRecDepth 20000 in
theorem kX5_settleRide {l : Launch} {G : UG} {V : uV} {t : Nat} (hS : uSt G t) {S S' : (Nat → Nat → Int32)} {a1 : Int32} {a2 : Int32} {a3 : Int32} {a4 : Int32} {r : Int32} (h : fX5_settleRide S a1 a2 a3 a4 = some (r, S')) : uMi l G yX5_settleRide cX5_settleRide 8 .boolean (uR 1 22) [.ref (ga G t 10), .int a1, .int a2, .int a3, .int a4] (va_up V t S) r (va_up V t S') := by
  refine uMi_of rfl (Nat.le_of_ble_eq_true rfl) (fun p e s m args below meth c ls X hret hl M => ?_)
  have hl : lv_has ls 8 [(0, .ref (ga G t 10)), (1, .int a1), (2, .int a2), (3, .int a3), (4, .int a4)] := hl
  have hx := X.hx
  have hb := X.hb
  unfold fX5_settleRide at h
  refine lv_iload_n hx hb dX5_settleRide_0 rfl (lv_at hl 1 rfl) ?_
  refine lv_iload_n hx hb dX5_settleRide_1 rfl (lv_at hl 2 rfl) ?_
  obtain ⟨x2, e1, h⟩ := lt_e h
  refine u_cSi X M hl.1 (kX5_wordOf  e1.symm) cw_X5_62 ⟨by decide, by decide⟩ rfl rfl (Nat.le_of_ble_eq_true rfl) ⟨Nat.zero_le _, Nat.zero_le _⟩ dX5_settleRide_2 (fun H locs M n3 => ?_)
  refine lv_istore (lv' := [(5, .int x2), (0, .ref (ga G t 10)), (1, .int a1), (2, .int a2), (3, .int a3), (4, .int a4)]) hx hb dX5_settleRide_5 hl (by decide) rfl (fun ls hl => ?_)
  refine lv_iconst (v := 1) hx hb dX5_settleRide_7 (by decide) ?_
  refine lv_iload_n hx hb dX5_settleRide_8 rfl (lv_at hl 3 rfl) ?_
  refine lv_bipush (v := 31) hx hb dX5_settleRide_9 (by decide) ?_
  refine lv_iand hx hb dX5_settleRide_11 ?_
  refine lv_ishl hx hb dX5_settleRide_12 ?_
  obtain ⟨x4, e5, h⟩ := lt_e h
  refine u_topi e5 ?_
  refine lv_istore (lv' := [(6, .int x4), (5, .int x2), (0, .ref (ga G t 10)), (1, .int a1), (2, .int a2), (3, .int a3), (4, .int a4)]) hx hb dX5_settleRide_13 hl (by decide) rfl (fun ls hl => ?_)
  refine lv_aload_n hx hb dX5_settleRide_15 rfl (lv_at hl 2 rfl) ?_
  refine gf_X5_29 X M hS dX5_settleRide_16 ?_
  refine lv_iload hx hb dX5_settleRide_19 (lv_at hl 1 rfl) ?_
  obtain ⟨x7, e6, h⟩ := lt_e h
  refine u_cVi X M hl.1 (kX6_get (uRw19 hS) (congrFun (va_up_s V t _) 20) e6.symm) cw_X5_47 ⟨by decide, by decide⟩ (uR_recv X M (uRw19 hS)) rfl rfl (Nat.le_of_ble_eq_true rfl) ⟨Nat.zero_le _, Nat.zero_le _⟩ dX5_settleRide_21 (fun H locs M n8 => ?_)
  refine lv_istore (lv' := [(7, .int x7), (6, .int x4), (5, .int x2), (0, .ref (ga G t 10)), (1, .int a1), (2, .int a2), (3, .int a3), (4, .int a4)]) hx hb dX5_settleRide_24 hl (by decide) rfl (fun ls hl => ?_)
  refine lv_iload hx hb dX5_settleRide_26 (lv_at hl 0 rfl) ?_
  refine lv_iload hx hb dX5_settleRide_28 (lv_at hl 1 rfl) ?_
  refine lv_iand hx hb dX5_settleRide_30 ?_
  refine lv_if_eq (tgt := 56) hx hb dX5_settleRide_31 (by decide) (fun c9 => ?_) (fun c9 => ?_)
  · have h := it_t h c9
    refine lv_aload_n hx hb dX5_settleRide_56 rfl (lv_at hl 3 rfl) ?_
    refine gf_X5_29 X M hS dX5_settleRide_57 ?_
    refine lv_iload hx hb dX5_settleRide_60 (lv_at hl 2 rfl) ?_
    refine lv_iload hx hb dX5_settleRide_62 (lv_at hl 0 rfl) ?_
    refine lv_iload hx hb dX5_settleRide_64 (lv_at hl 1 rfl) ?_
    refine lv_ior hx hb dX5_settleRide_66 ?_
    obtain ⟨S11, e10, h⟩ := lt_e h
    refine u_cVv X M hl.1 (kX6_putS (uRw19 hS) e10) cw_X5_43 ⟨by decide, by decide⟩ (uR_recv X M (uRw19 hS)) rfl rfl (Nat.le_of_ble_eq_true rfl) ⟨Nat.zero_le _, Nat.zero_le _⟩ dX5_settleRide_67 (fun H locs M => ?_)
    refine lv_aload_n hx hb dX5_settleRide_70 rfl (lv_at hl 3 rfl) ?_
    refine gf_X5_26 X M hS dX5_settleRide_71 ?_
    refine lv_iload_n hx hb dX5_settleRide_74 rfl (lv_at hl 4 rfl) ?_
    refine lv_iconst (v := 1) hx hb dX5_settleRide_75 (by decide) ?_
    obtain ⟨S14, e13, h⟩ := lt_e h
    refine u_cVv X M hl.1 (kX6_increaseS (uRw17 hS) e13) cw_X5_55 ⟨by decide, by decide⟩ (uR_recv X M (uRw17 hS)) rfl rfl (Nat.le_of_ble_eq_true rfl) ⟨Nat.zero_le _, Nat.zero_le _⟩ dX5_settleRide_76 (fun H locs M => ?_)
    refine lv_aload_n hx hb dX5_settleRide_79 rfl (lv_at hl 3 rfl) ?_
    refine gf_X5_16 X M hS dX5_settleRide_80 ?_
    refine lv_iload_n hx hb dX5_settleRide_83 rfl (lv_at hl 4 rfl) ?_
    refine lv_iload_n hx hb dX5_settleRide_84 rfl (lv_at hl 6 rfl) ?_
    refine lv_ineg hx hb dX5_settleRide_85 ?_
    obtain ⟨S17, e16, h⟩ := lt_e h
    refine u_cVv X M hl.1 (kX6_increaseS (uRw11 hS) e16) cw_X5_55 ⟨by decide, by decide⟩ (uR_recv X M (uRw11 hS)) rfl rfl (Nat.le_of_ble_eq_true rfl) ⟨Nat.zero_le _, Nat.zero_le _⟩ dX5_settleRide_86 (fun H locs M => ?_)
    refine lv_iconst (v := 1) hx hb dX5_settleRide_89 (by decide) ?_
    exact u_iret X hret M (rt2 h).1 (congrArg (va_up V t) ((rt2 h).2)) rfl dX5_settleRide_90
  · have h := it_f h c9
    refine lv_aload_n hx hb dX5_settleRide_34 rfl (lv_at hl 3 rfl) ?_
    refine gf_X5_16 X M hS dX5_settleRide_35 ?_
    refine lv_iload_n hx hb dX5_settleRide_38 rfl (lv_at hl 4 rfl) ?_
    refine lv_iload hx hb dX5_settleRide_39 (lv_at hl 7 rfl) ?_
    refine lv_ineg hx hb dX5_settleRide_41 ?_
    obtain ⟨S20, e19, h⟩ := lt_e h
    refine u_cVv X M hl.1 (kX6_increaseS (uRw11 hS) e19) cw_X5_55 ⟨by decide, by decide⟩ (uR_recv X M (uRw11 hS)) rfl rfl (Nat.le_of_ble_eq_true rfl) ⟨Nat.zero_le _, Nat.zero_le _⟩ dX5_settleRide_42 (fun H locs M => ?_)
    refine lv_aload_n hx hb dX5_settleRide_45 rfl (lv_at hl 3 rfl) ?_
    refine gf_X5_23 X M hS dX5_settleRide_46 ?_
    refine lv_iload_n hx hb dX5_settleRide_49 rfl (lv_at hl 4 rfl) ?_
    refine lv_iconst (v := 1) hx hb dX5_settleRide_50 (by decide) ?_
    obtain ⟨S23, e22, h⟩ := lt_e h
    refine u_cVv X M hl.1 (kX6_putS (uRw15 hS) e22) cw_X5_43 ⟨by decide, by decide⟩ (uR_recv X M (uRw15 hS)) rfl rfl (Nat.le_of_ble_eq_true rfl) ⟨Nat.zero_le _, Nat.zero_le _⟩ dX5_settleRide_51 (fun H locs M => ?_)
    refine lv_iconst (v := 0) hx hb dX5_settleRide_54 (by decide) ?_
    exact u_iret X hret M (rt2 h).1 (congrArg (va_up V t) ((rt2 h).2)) rfl dX5_settleRide_55
def fX5_clear (S : (Nat → Nat → Int32)) : Option (Nat → Nat → Int32) :=
  lt_ (va_up S 10 (upd (S 10) 0 0)) fun S1 =>
  lt_ (va_up S1 12 (fun _ => 0)) fun S4 =>
  lt_ (va_up S4 14 (fun _ => 0)) fun S7 =>
  lt_ (va_up S7 16 (fun _ => 0)) fun S10 =>
  lt_ (va_up S10 18 (fun _ => 0)) fun S13 =>
  lt_ (va_up S13 20 (fun _ => 0)) fun S16 =>
  some S16
set_option maxHeartbeats 4000000 in
set_option maxRecDepth 20000 in
theorem kX5_clear {l : Launch} {G : UG} {V : uV} {t : Nat} (hS : uSt G t) {S S' : (Nat → Nat → Int32)}  (h : fX5_clear S = some S') : uMv l G yX5_clear cX5_clear 1 (uR 1 22) [.ref (ga G t 10)] (va_up V t S) (va_up V t S') := by
  refine uMv_of rfl (Nat.le_of_ble_eq_true rfl) (fun p e s m args below meth c ls X hret hl M => ?_)
  have hl : lv_has ls 1 [(0, .ref (ga G t 10))] := hl
  have hx := X.hx
  have hb := X.hb
  unfold fX5_clear at h
  refine lv_aload_n hx hb dX5_clear_0 rfl (lv_at hl 0 rfl) ?_
  refine lv_iconst (v := 0) hx hb dX5_clear_1 (by decide) ?_
  obtain ⟨S1, e2, h⟩ := lt_e h
  refine pf_X5_32 X M hS e2 dX5_clear_2 (fun H locs M => ?_)
  refine lv_aload_n hx hb dX5_clear_5 rfl (lv_at hl 0 rfl) ?_
  refine gf_X5_16 X M hS dX5_clear_6 ?_
  refine lv_iconst (v := 0) hx hb dX5_clear_9 (by decide) ?_
  obtain ⟨S4, e3, h⟩ := lt_e h
  refine u_cVv X M hl.1 (kX6_fillS (uRw11 hS) e3) cw_X5_36 ⟨by decide, by decide⟩ (uR_recv X M (uRw11 hS)) rfl rfl (Nat.le_of_ble_eq_true rfl) ⟨Nat.zero_le _, Nat.zero_le _⟩ dX5_clear_10 (fun H locs M => ?_)
  refine lv_aload_n hx hb dX5_clear_13 rfl (lv_at hl 0 rfl) ?_
  refine gf_X5_20 X M hS dX5_clear_14 ?_
  refine lv_iconst (v := 0) hx hb dX5_clear_17 (by decide) ?_
  obtain ⟨S7, e6, h⟩ := lt_e h
  refine u_cVv X M hl.1 (kX6_fillS (uRw13 hS) e6) cw_X5_36 ⟨by decide, by decide⟩ (uR_recv X M (uRw13 hS)) rfl rfl (Nat.le_of_ble_eq_true rfl) ⟨Nat.zero_le _, Nat.zero_le _⟩ dX5_clear_18 (fun H locs M => ?_)
  refine lv_aload_n hx hb dX5_clear_21 rfl (lv_at hl 0 rfl) ?_
  refine gf_X5_23 X M hS dX5_clear_22 ?_
  refine lv_iconst (v := 0) hx hb dX5_clear_25 (by decide) ?_
  obtain ⟨S10, e9, h⟩ := lt_e h
  refine u_cVv X M hl.1 (kX6_fillS (uRw15 hS) e9) cw_X5_36 ⟨by decide, by decide⟩ (uR_recv X M (uRw15 hS)) rfl rfl (Nat.le_of_ble_eq_true rfl) ⟨Nat.zero_le _, Nat.zero_le _⟩ dX5_clear_26 (fun H locs M => ?_)
  refine lv_aload_n hx hb dX5_clear_29 rfl (lv_at hl 0 rfl) ?_
  refine gf_X5_26 X M hS dX5_clear_30 ?_
  refine lv_iconst (v := 0) hx hb dX5_clear_33 (by decide) ?_
  obtain ⟨S13, e12, h⟩ := lt_e h
  refine u_cVv X M hl.1 (kX6_fillS (uRw17 hS) e12) cw_X5_36 ⟨by decide, by decide⟩ (uR_recv X M (uRw17 hS)) rfl rfl (Nat.le_of_ble_eq_true rfl) ⟨Nat.zero_le _, Nat.zero_le _⟩ dX5_clear_34 (fun H locs M => ?_)
  refine lv_aload_n hx hb dX5_clear_37 rfl (lv_at hl 0 rfl) ?_
  refine gf_X5_29 X M hS dX5_clear_38 ?_
  refine lv_iconst (v := 0) hx hb dX5_clear_41 (by decide) ?_
  obtain ⟨S16, e15, h⟩ := lt_e h
  refine u_cVv X M hl.1 (kX6_fillS (uRw19 hS) e15) cw_X5_36 ⟨by decide, by decide⟩ (uR_recv X M (uRw19 hS)) rfl rfl (Nat.le_of_ble_eq_true rfl) ⟨Nat.zero_le _, Nat.zero_le _⟩ dX5_clear_42 (fun H locs M => ?_)
  exact u_vret X hret M (congrArg (va_up V t) (Option.some.inj h)) dX5_clear_45
end
section
theorem dX3_has_0 : decode cX3_has 0 = .ok (.iload_n 1, 1) := by decide +kernel
theorem dX3_has_1 : decode cX3_has 1 = .ok (.ifCond .lt 12, 3) := by decide +kernel
theorem dX3_has_4 : decode cX3_has 4 = .ok (.iload_n 1, 1) := by decide +kernel
theorem dX3_has_5 : decode cX3_has 5 = .ok (.iconst 4, 1) := by decide +kernel
theorem dX3_has_6 : decode cX3_has 6 = .ok (.if_icmp .ge 7, 3) := by decide +kernel
theorem dX3_has_9 : decode cX3_has 9 = .ok (.iconst 1, 1) := by decide +kernel
theorem dX3_has_10 : decode cX3_has 10 = .ok (.goto 4, 3) := by decide +kernel
theorem dX3_has_13 : decode cX3_has 13 = .ok (.iconst 0, 1) := by decide +kernel
theorem dX3_has_14 : decode cX3_has 14 = .ok (.ireturn, 1) := by decide +kernel
theorem dX3_isUp_0 : decode cX3_isUp 0 = .ok (.aload_n 0, 1) := by decide +kernel
theorem dX3_isUp_1 : decode cX3_isUp 1 = .ok (.getfield 21, 3) := by decide +kernel
theorem dX3_isUp_4 : decode cX3_isUp 4 = .ok (.iload_n 1, 1) := by decide +kernel
theorem dX3_isUp_5 : decode cX3_isUp 5 = .ok (.invokevirtual 46, 3) := by decide +kernel
theorem dX3_isUp_8 : decode cX3_isUp 8 = .ok (.ifCond .eq 7, 3) := by decide +kernel
theorem dX3_isUp_11 : decode cX3_isUp 11 = .ok (.iconst 1, 1) := by decide +kernel
theorem dX3_isUp_12 : decode cX3_isUp 12 = .ok (.goto 4, 3) := by decide +kernel
theorem dX3_isUp_15 : decode cX3_isUp 15 = .ok (.iconst 0, 1) := by decide +kernel
theorem dX3_isUp_16 : decode cX3_isUp 16 = .ok (.ireturn, 1) := by decide +kernel
theorem dX3_isOpen_0 : decode cX3_isOpen 0 = .ok (.aload_n 0, 1) := by decide +kernel
theorem dX3_isOpen_1 : decode cX3_isOpen 1 = .ok (.getfield 24, 3) := by decide +kernel
theorem dX3_isOpen_4 : decode cX3_isOpen 4 = .ok (.iload_n 1, 1) := by decide +kernel
theorem dX3_isOpen_5 : decode cX3_isOpen 5 = .ok (.invokevirtual 46, 3) := by decide +kernel
theorem dX3_isOpen_8 : decode cX3_isOpen 8 = .ok (.ifCond .eq 7, 3) := by decide +kernel
theorem dX3_isOpen_11 : decode cX3_isOpen 11 = .ok (.iconst 1, 1) := by decide +kernel
theorem dX3_isOpen_12 : decode cX3_isOpen 12 = .ok (.goto 4, 3) := by decide +kernel
theorem dX3_isOpen_15 : decode cX3_isOpen 15 = .ok (.iconst 0, 1) := by decide +kernel
theorem dX3_isOpen_16 : decode cX3_isOpen 16 = .ok (.ireturn, 1) := by decide +kernel
theorem dX3_setLine_0 : decode cX3_setLine 0 = .ok (.aload_n 0, 1) := by decide +kernel
theorem dX3_setLine_1 : decode cX3_setLine 1 = .ok (.getfield 21, 3) := by decide +kernel
theorem dX3_setLine_4 : decode cX3_setLine 4 = .ok (.iload_n 1, 1) := by decide +kernel
theorem dX3_setLine_5 : decode cX3_setLine 5 = .ok (.iload_n 2, 1) := by decide +kernel
theorem dX3_setLine_6 : decode cX3_setLine 6 = .ok (.ifCond .eq 7, 3) := by decide +kernel
theorem dX3_setLine_9 : decode cX3_setLine 9 = .ok (.iconst 1, 1) := by decide +kernel
theorem dX3_setLine_10 : decode cX3_setLine 10 = .ok (.goto 4, 3) := by decide +kernel
theorem dX3_setLine_13 : decode cX3_setLine 13 = .ok (.iconst 0, 1) := by decide +kernel
theorem dX3_setLine_14 : decode cX3_setLine 14 = .ok (.invokevirtual 50, 3) := by decide +kernel
theorem dX3_setLine_17 : decode cX3_setLine 17 = .ok (.return_, 1) := by decide +kernel
theorem dX3_turnOpen_0 : decode cX3_turnOpen 0 = .ok (.aload_n 0, 1) := by decide +kernel
theorem dX3_turnOpen_1 : decode cX3_turnOpen 1 = .ok (.getfield 24, 3) := by decide +kernel
theorem dX3_turnOpen_4 : decode cX3_turnOpen 4 = .ok (.iload_n 1, 1) := by decide +kernel
theorem dX3_turnOpen_5 : decode cX3_turnOpen 5 = .ok (.aload_n 0, 1) := by decide +kernel
theorem dX3_turnOpen_6 : decode cX3_turnOpen 6 = .ok (.iload_n 1, 1) := by decide +kernel
theorem dX3_turnOpen_7 : decode cX3_turnOpen 7 = .ok (.invokevirtual 54, 3) := by decide +kernel
theorem dX3_turnOpen_10 : decode cX3_turnOpen 10 = .ok (.ifCond .eq 7, 3) := by decide +kernel
theorem dX3_turnOpen_13 : decode cX3_turnOpen 13 = .ok (.iconst 0, 1) := by decide +kernel
theorem dX3_turnOpen_14 : decode cX3_turnOpen 14 = .ok (.goto 4, 3) := by decide +kernel
theorem dX3_turnOpen_17 : decode cX3_turnOpen 17 = .ok (.iconst 1, 1) := by decide +kernel
theorem dX3_turnOpen_18 : decode cX3_turnOpen 18 = .ok (.invokevirtual 50, 3) := by decide +kernel
theorem dX3_turnOpen_21 : decode cX3_turnOpen 21 = .ok (.aload_n 0, 1) := by decide +kernel
theorem dX3_turnOpen_22 : decode cX3_turnOpen 22 = .ok (.getfield 24, 3) := by decide +kernel
theorem dX3_turnOpen_25 : decode cX3_turnOpen 25 = .ok (.iload_n 1, 1) := by decide +kernel
theorem dX3_turnOpen_26 : decode cX3_turnOpen 26 = .ok (.invokevirtual 46, 3) := by decide +kernel
theorem dX3_turnOpen_29 : decode cX3_turnOpen 29 = .ok (.ireturn, 1) := by decide +kernel
theorem dX3_number_0 : decode cX3_number 0 = .ok (.iload_n 2, 1) := by decide +kernel
theorem dX3_number_1 : decode cX3_number 1 = .ok (.tableswitch 54 0 2 #[27, 36, 45], 27) := by decide +kernel
theorem dX3_number_28 : decode cX3_number 28 = .ok (.aload_n 0, 1) := by decide +kernel
theorem dX3_number_29 : decode cX3_number 29 = .ok (.getfield 14, 3) := by decide +kernel
theorem dX3_number_32 : decode cX3_number 32 = .ok (.iload_n 1, 1) := by decide +kernel
theorem dX3_number_33 : decode cX3_number 33 = .ok (.invokevirtual 46, 3) := by decide +kernel
theorem dX3_number_36 : decode cX3_number 36 = .ok (.ireturn, 1) := by decide +kernel
theorem dX3_number_37 : decode cX3_number 37 = .ok (.aload_n 0, 1) := by decide +kernel
theorem dX3_number_38 : decode cX3_number 38 = .ok (.getfield 21, 3) := by decide +kernel
theorem dX3_number_41 : decode cX3_number 41 = .ok (.iload_n 1, 1) := by decide +kernel
theorem dX3_number_42 : decode cX3_number 42 = .ok (.invokevirtual 46, 3) := by decide +kernel
theorem dX3_number_45 : decode cX3_number 45 = .ok (.ireturn, 1) := by decide +kernel
theorem dX3_number_46 : decode cX3_number 46 = .ok (.aload_n 0, 1) := by decide +kernel
theorem dX3_number_47 : decode cX3_number 47 = .ok (.getfield 24, 3) := by decide +kernel
theorem dX3_number_50 : decode cX3_number 50 = .ok (.iload_n 1, 1) := by decide +kernel
theorem dX3_number_51 : decode cX3_number 51 = .ok (.invokevirtual 46, 3) := by decide +kernel
theorem dX3_number_54 : decode cX3_number 54 = .ok (.ireturn, 1) := by decide +kernel
theorem dX3_number_55 : decode cX3_number 55 = .ok (.aload_n 0, 1) := by decide +kernel
theorem dX3_number_56 : decode cX3_number 56 = .ok (.getfield 27, 3) := by decide +kernel
theorem dX3_number_59 : decode cX3_number 59 = .ok (.iload_n 1, 1) := by decide +kernel
theorem dX3_number_60 : decode cX3_number 60 = .ok (.invokevirtual 46, 3) := by decide +kernel
theorem dX3_number_63 : decode cX3_number 63 = .ok (.ireturn, 1) := by decide +kernel
theorem dX3_logSize_0 : decode cX3_logSize 0 = .ok (.aload_n 0, 1) := by decide +kernel
theorem dX3_logSize_1 : decode cX3_logSize 1 = .ok (.getfield 27, 3) := by decide +kernel
theorem dX3_logSize_4 : decode cX3_logSize 4 = .ok (.iload_n 1, 1) := by decide +kernel
theorem dX3_logSize_5 : decode cX3_logSize 5 = .ok (.invokevirtual 46, 3) := by decide +kernel
theorem dX3_logSize_8 : decode cX3_logSize 8 = .ok (.ireturn, 1) := by decide +kernel
theorem dX3_isLogFull_0 : decode cX3_isLogFull 0 = .ok (.aload_n 0, 1) := by decide +kernel
theorem dX3_isLogFull_1 : decode cX3_isLogFull 1 = .ok (.getfield 27, 3) := by decide +kernel
theorem dX3_isLogFull_4 : decode cX3_isLogFull 4 = .ok (.iload_n 1, 1) := by decide +kernel
theorem dX3_isLogFull_5 : decode cX3_isLogFull 5 = .ok (.invokevirtual 46, 3) := by decide +kernel
theorem dX3_isLogFull_8 : decode cX3_isLogFull 8 = .ok (.bipush 12, 2) := by decide +kernel
theorem dX3_isLogFull_10 : decode cX3_isLogFull 10 = .ok (.if_icmp .lt 7, 3) := by decide +kernel
theorem dX3_isLogFull_13 : decode cX3_isLogFull 13 = .ok (.iconst 1, 1) := by decide +kernel
theorem dX3_isLogFull_14 : decode cX3_isLogFull 14 = .ok (.goto 4, 3) := by decide +kernel
theorem dX3_isLogFull_17 : decode cX3_isLogFull 17 = .ok (.iconst 0, 1) := by decide +kernel
theorem dX3_isLogFull_18 : decode cX3_isLogFull 18 = .ok (.ireturn, 1) := by decide +kernel
theorem dX3_hasLogged_0 : decode cX3_hasLogged 0 = .ok (.iload_n 2, 1) := by decide +kernel
theorem dX3_hasLogged_1 : decode cX3_hasLogged 1 = .ok (.ifCond .lt 19, 3) := by decide +kernel
theorem dX3_hasLogged_4 : decode cX3_hasLogged 4 = .ok (.iload_n 2, 1) := by decide +kernel
theorem dX3_hasLogged_5 : decode cX3_hasLogged 5 = .ok (.aload_n 0, 1) := by decide +kernel
theorem dX3_hasLogged_6 : decode cX3_hasLogged 6 = .ok (.getfield 27, 3) := by decide +kernel
theorem dX3_hasLogged_9 : decode cX3_hasLogged 9 = .ok (.iload_n 1, 1) := by decide +kernel
theorem dX3_hasLogged_10 : decode cX3_hasLogged 10 = .ok (.invokevirtual 46, 3) := by decide +kernel
theorem dX3_hasLogged_13 : decode cX3_hasLogged 13 = .ok (.if_icmp .ge 7, 3) := by decide +kernel
theorem dX3_hasLogged_16 : decode cX3_hasLogged 16 = .ok (.iconst 1, 1) := by decide +kernel
theorem dX3_hasLogged_17 : decode cX3_hasLogged 17 = .ok (.goto 4, 3) := by decide +kernel
theorem dX3_hasLogged_20 : decode cX3_hasLogged 20 = .ok (.iconst 0, 1) := by decide +kernel
theorem dX3_hasLogged_21 : decode cX3_hasLogged 21 = .ok (.ireturn, 1) := by decide +kernel
theorem dX3_loggedNumber_0 : decode cX3_loggedNumber 0 = .ok (.iload_n 1, 1) := by decide +kernel
theorem dX3_loggedNumber_1 : decode cX3_loggedNumber 1 = .ok (.bipush 12, 2) := by decide +kernel
theorem dX3_loggedNumber_3 : decode cX3_loggedNumber 3 = .ok (.imul, 1) := by decide +kernel
theorem dX3_loggedNumber_4 : decode cX3_loggedNumber 4 = .ok (.iload_n 2, 1) := by decide +kernel
theorem dX3_loggedNumber_5 : decode cX3_loggedNumber 5 = .ok (.iadd, 1) := by decide +kernel
theorem dX3_loggedNumber_6 : decode cX3_loggedNumber 6 = .ok (.istore 4, 2) := by decide +kernel
theorem dX3_loggedNumber_8 : decode cX3_loggedNumber 8 = .ok (.iload_n 3, 1) := by decide +kernel
theorem dX3_loggedNumber_9 : decode cX3_loggedNumber 9 = .ok (.lookupswitch 47 #[(0, 27), (1, 37)], 27) := by decide +kernel
theorem dX3_loggedNumber_36 : decode cX3_loggedNumber 36 = .ok (.aload_n 0, 1) := by decide +kernel
theorem dX3_loggedNumber_37 : decode cX3_loggedNumber 37 = .ok (.getfield 30, 3) := by decide +kernel
theorem dX3_loggedNumber_40 : decode cX3_loggedNumber 40 = .ok (.iload 4, 2) := by decide +kernel
theorem dX3_loggedNumber_42 : decode cX3_loggedNumber 42 = .ok (.invokevirtual 46, 3) := by decide +kernel
theorem dX3_loggedNumber_45 : decode cX3_loggedNumber 45 = .ok (.ireturn, 1) := by decide +kernel
theorem dX3_loggedNumber_46 : decode cX3_loggedNumber 46 = .ok (.aload_n 0, 1) := by decide +kernel
theorem dX3_loggedNumber_47 : decode cX3_loggedNumber 47 = .ok (.getfield 33, 3) := by decide +kernel
theorem dX3_loggedNumber_50 : decode cX3_loggedNumber 50 = .ok (.iload 4, 2) := by decide +kernel
theorem dX3_loggedNumber_52 : decode cX3_loggedNumber 52 = .ok (.invokevirtual 46, 3) := by decide +kernel
theorem dX3_loggedNumber_55 : decode cX3_loggedNumber 55 = .ok (.ireturn, 1) := by decide +kernel
theorem dX3_loggedNumber_56 : decode cX3_loggedNumber 56 = .ok (.aload_n 0, 1) := by decide +kernel
theorem dX3_loggedNumber_57 : decode cX3_loggedNumber 57 = .ok (.getfield 36, 3) := by decide +kernel
theorem dX3_loggedNumber_60 : decode cX3_loggedNumber 60 = .ok (.iload 4, 2) := by decide +kernel
theorem dX3_loggedNumber_62 : decode cX3_loggedNumber 62 = .ok (.invokevirtual 46, 3) := by decide +kernel
theorem dX3_loggedNumber_65 : decode cX3_loggedNumber 65 = .ok (.ireturn, 1) := by decide +kernel
theorem dX3_writeLog_0 : decode cX3_writeLog 0 = .ok (.iload_n 1, 1) := by decide +kernel
theorem dX3_writeLog_1 : decode cX3_writeLog 1 = .ok (.bipush 12, 2) := by decide +kernel
theorem dX3_writeLog_3 : decode cX3_writeLog 3 = .ok (.imul, 1) := by decide +kernel
theorem dX3_writeLog_4 : decode cX3_writeLog 4 = .ok (.aload_n 0, 1) := by decide +kernel
theorem dX3_writeLog_5 : decode cX3_writeLog 5 = .ok (.getfield 27, 3) := by decide +kernel
theorem dX3_writeLog_8 : decode cX3_writeLog 8 = .ok (.iload_n 1, 1) := by decide +kernel
theorem dX3_writeLog_9 : decode cX3_writeLog 9 = .ok (.invokevirtual 46, 3) := by decide +kernel
theorem dX3_writeLog_12 : decode cX3_writeLog 12 = .ok (.iadd, 1) := by decide +kernel
theorem dX3_writeLog_13 : decode cX3_writeLog 13 = .ok (.istore 5, 2) := by decide +kernel
theorem dX3_writeLog_15 : decode cX3_writeLog 15 = .ok (.aload_n 0, 1) := by decide +kernel
theorem dX3_writeLog_16 : decode cX3_writeLog 16 = .ok (.getfield 30, 3) := by decide +kernel
theorem dX3_writeLog_19 : decode cX3_writeLog 19 = .ok (.iload 5, 2) := by decide +kernel
theorem dX3_writeLog_21 : decode cX3_writeLog 21 = .ok (.iload_n 2, 1) := by decide +kernel
theorem dX3_writeLog_22 : decode cX3_writeLog 22 = .ok (.invokevirtual 50, 3) := by decide +kernel
theorem dX3_writeLog_25 : decode cX3_writeLog 25 = .ok (.aload_n 0, 1) := by decide +kernel
theorem dX3_writeLog_26 : decode cX3_writeLog 26 = .ok (.getfield 33, 3) := by decide +kernel
theorem dX3_writeLog_29 : decode cX3_writeLog 29 = .ok (.iload 5, 2) := by decide +kernel
theorem dX3_writeLog_31 : decode cX3_writeLog 31 = .ok (.iload_n 3, 1) := by decide +kernel
theorem dX3_writeLog_32 : decode cX3_writeLog 32 = .ok (.invokevirtual 50, 3) := by decide +kernel
theorem dX3_writeLog_35 : decode cX3_writeLog 35 = .ok (.aload_n 0, 1) := by decide +kernel
theorem dX3_writeLog_36 : decode cX3_writeLog 36 = .ok (.getfield 36, 3) := by decide +kernel
theorem dX3_writeLog_39 : decode cX3_writeLog 39 = .ok (.iload 5, 2) := by decide +kernel
theorem dX3_writeLog_41 : decode cX3_writeLog 41 = .ok (.iload 4, 2) := by decide +kernel
theorem dX3_writeLog_43 : decode cX3_writeLog 43 = .ok (.invokevirtual 50, 3) := by decide +kernel
theorem dX3_writeLog_46 : decode cX3_writeLog 46 = .ok (.aload_n 0, 1) := by decide +kernel
theorem dX3_writeLog_47 : decode cX3_writeLog 47 = .ok (.getfield 27, 3) := by decide +kernel
theorem dX3_writeLog_50 : decode cX3_writeLog 50 = .ok (.iload_n 1, 1) := by decide +kernel
theorem dX3_writeLog_51 : decode cX3_writeLog 51 = .ok (.iconst 1, 1) := by decide +kernel
theorem dX3_writeLog_52 : decode cX3_writeLog 52 = .ok (.invokevirtual 58, 3) := by decide +kernel
theorem dX3_writeLog_55 : decode cX3_writeLog 55 = .ok (.return_, 1) := by decide +kernel
theorem dX3_emptyLog_0 : decode cX3_emptyLog 0 = .ok (.aload_n 0, 1) := by decide +kernel
theorem dX3_emptyLog_1 : decode cX3_emptyLog 1 = .ok (.getfield 27, 3) := by decide +kernel
theorem dX3_emptyLog_4 : decode cX3_emptyLog 4 = .ok (.iload_n 1, 1) := by decide +kernel
theorem dX3_emptyLog_5 : decode cX3_emptyLog 5 = .ok (.iconst 0, 1) := by decide +kernel
theorem dX3_emptyLog_6 : decode cX3_emptyLog 6 = .ok (.invokevirtual 50, 3) := by decide +kernel
theorem dX3_emptyLog_9 : decode cX3_emptyLog 9 = .ok (.return_, 1) := by decide +kernel
theorem dX3_isOf_0 : decode cX3_isOf 0 = .ok (.iload_n 3, 1) := by decide +kernel
theorem dX3_isOf_1 : decode cX3_isOf 1 = .ok (.iconst (-1), 1) := by decide +kernel
theorem dX3_isOf_2 : decode cX3_isOf 2 = .ok (.if_icmp .eq 20, 3) := by decide +kernel
theorem dX3_isOf_5 : decode cX3_isOf 5 = .ok (.aload_n 0, 1) := by decide +kernel
theorem dX3_isOf_6 : decode cX3_isOf 6 = .ok (.getfield 30, 3) := by decide +kernel
theorem dX3_isOf_9 : decode cX3_isOf 9 = .ok (.iload_n 1, 1) := by decide +kernel
theorem dX3_isOf_10 : decode cX3_isOf 10 = .ok (.bipush 12, 2) := by decide +kernel
theorem dX3_isOf_12 : decode cX3_isOf 12 = .ok (.imul, 1) := by decide +kernel
theorem dX3_isOf_13 : decode cX3_isOf 13 = .ok (.iload_n 2, 1) := by decide +kernel
theorem dX3_isOf_14 : decode cX3_isOf 14 = .ok (.iadd, 1) := by decide +kernel
theorem dX3_isOf_15 : decode cX3_isOf 15 = .ok (.invokevirtual 46, 3) := by decide +kernel
theorem dX3_isOf_18 : decode cX3_isOf 18 = .ok (.iload_n 3, 1) := by decide +kernel
theorem dX3_isOf_19 : decode cX3_isOf 19 = .ok (.if_icmp .ne 7, 3) := by decide +kernel
theorem dX3_isOf_22 : decode cX3_isOf 22 = .ok (.iconst 1, 1) := by decide +kernel
theorem dX3_isOf_23 : decode cX3_isOf 23 = .ok (.goto 4, 3) := by decide +kernel
theorem dX3_isOf_26 : decode cX3_isOf 26 = .ok (.iconst 0, 1) := by decide +kernel
theorem dX3_isOf_27 : decode cX3_isOf 27 = .ok (.ireturn, 1) := by decide +kernel
theorem dX3_clear_0 : decode cX3_clear 0 = .ok (.aload_n 0, 1) := by decide +kernel
theorem dX3_clear_1 : decode cX3_clear 1 = .ok (.getfield 14, 3) := by decide +kernel
theorem dX3_clear_4 : decode cX3_clear 4 = .ok (.iconst 2, 1) := by decide +kernel
theorem dX3_clear_5 : decode cX3_clear 5 = .ok (.invokevirtual 39, 3) := by decide +kernel
theorem dX3_clear_8 : decode cX3_clear 8 = .ok (.aload_n 0, 1) := by decide +kernel
theorem dX3_clear_9 : decode cX3_clear 9 = .ok (.getfield 21, 3) := by decide +kernel
theorem dX3_clear_12 : decode cX3_clear 12 = .ok (.iconst 1, 1) := by decide +kernel
theorem dX3_clear_13 : decode cX3_clear 13 = .ok (.invokevirtual 39, 3) := by decide +kernel
theorem dX3_clear_16 : decode cX3_clear 16 = .ok (.aload_n 0, 1) := by decide +kernel
theorem dX3_clear_17 : decode cX3_clear 17 = .ok (.getfield 18, 3) := by decide +kernel
theorem dX3_clear_20 : decode cX3_clear 20 = .ok (.iconst 0, 1) := by decide +kernel
theorem dX3_clear_21 : decode cX3_clear 21 = .ok (.invokevirtual 39, 3) := by decide +kernel
theorem dX3_clear_24 : decode cX3_clear 24 = .ok (.aload_n 0, 1) := by decide +kernel
theorem dX3_clear_25 : decode cX3_clear 25 = .ok (.getfield 24, 3) := by decide +kernel
theorem dX3_clear_28 : decode cX3_clear 28 = .ok (.iconst 0, 1) := by decide +kernel
theorem dX3_clear_29 : decode cX3_clear 29 = .ok (.invokevirtual 39, 3) := by decide +kernel
theorem dX3_clear_32 : decode cX3_clear 32 = .ok (.aload_n 0, 1) := by decide +kernel
theorem dX3_clear_33 : decode cX3_clear 33 = .ok (.getfield 27, 3) := by decide +kernel
theorem dX3_clear_36 : decode cX3_clear 36 = .ok (.iconst 0, 1) := by decide +kernel
theorem dX3_clear_37 : decode cX3_clear 37 = .ok (.invokevirtual 39, 3) := by decide +kernel
theorem dX3_clear_40 : decode cX3_clear 40 = .ok (.return_, 1) := by decide +kernel
theorem dX3_ridesInLogs_0 : decode cX3_ridesInLogs 0 = .ok (.iconst 0, 1) := by decide +kernel
theorem dX3_ridesInLogs_1 : decode cX3_ridesInLogs 1 = .ok (.istore_n 2, 1) := by decide +kernel
theorem dX3_ridesInLogs_2 : decode cX3_ridesInLogs 2 = .ok (.iconst 0, 1) := by decide +kernel
theorem dX3_ridesInLogs_3 : decode cX3_ridesInLogs 3 = .ok (.istore_n 3, 1) := by decide +kernel
theorem dX3_ridesInLogs_4 : decode cX3_ridesInLogs 4 = .ok (.iload_n 3, 1) := by decide +kernel
theorem dX3_ridesInLogs_5 : decode cX3_ridesInLogs 5 = .ok (.iconst 4, 1) := by decide +kernel
theorem dX3_ridesInLogs_6 : decode cX3_ridesInLogs 6 = .ok (.if_icmp .ge 49, 3) := by decide +kernel
theorem dX3_ridesInLogs_9 : decode cX3_ridesInLogs 9 = .ok (.aload_n 0, 1) := by decide +kernel
theorem dX3_ridesInLogs_10 : decode cX3_ridesInLogs 10 = .ok (.getfield 27, 3) := by decide +kernel
theorem dX3_ridesInLogs_13 : decode cX3_ridesInLogs 13 = .ok (.iload_n 3, 1) := by decide +kernel
theorem dX3_ridesInLogs_14 : decode cX3_ridesInLogs 14 = .ok (.invokevirtual 46, 3) := by decide +kernel
theorem dX3_ridesInLogs_17 : decode cX3_ridesInLogs 17 = .ok (.istore 4, 2) := by decide +kernel
theorem dX3_ridesInLogs_19 : decode cX3_ridesInLogs 19 = .ok (.iconst 0, 1) := by decide +kernel
theorem dX3_ridesInLogs_20 : decode cX3_ridesInLogs 20 = .ok (.istore 5, 2) := by decide +kernel
theorem dX3_ridesInLogs_22 : decode cX3_ridesInLogs 22 = .ok (.iload 5, 2) := by decide +kernel
theorem dX3_ridesInLogs_24 : decode cX3_ridesInLogs 24 = .ok (.iload 4, 2) := by decide +kernel
theorem dX3_ridesInLogs_26 : decode cX3_ridesInLogs 26 = .ok (.if_icmp .ge 23, 3) := by decide +kernel
theorem dX3_ridesInLogs_29 : decode cX3_ridesInLogs 29 = .ok (.aload_n 0, 1) := by decide +kernel
theorem dX3_ridesInLogs_30 : decode cX3_ridesInLogs 30 = .ok (.iload_n 3, 1) := by decide +kernel
theorem dX3_ridesInLogs_31 : decode cX3_ridesInLogs 31 = .ok (.iload 5, 2) := by decide +kernel
theorem dX3_ridesInLogs_33 : decode cX3_ridesInLogs 33 = .ok (.iload_n 1, 1) := by decide +kernel
theorem dX3_ridesInLogs_34 : decode cX3_ridesInLogs 34 = .ok (.invokevirtual 61, 3) := by decide +kernel
theorem dX3_ridesInLogs_37 : decode cX3_ridesInLogs 37 = .ok (.ifCond .eq 6, 3) := by decide +kernel
theorem dX3_ridesInLogs_40 : decode cX3_ridesInLogs 40 = .ok (.iinc 2 1, 3) := by decide +kernel
theorem dX3_ridesInLogs_43 : decode cX3_ridesInLogs 43 = .ok (.iinc 5 1, 3) := by decide +kernel
theorem dX3_ridesInLogs_46 : decode cX3_ridesInLogs 46 = .ok (.goto (-24), 3) := by decide +kernel
theorem dX3_ridesInLogs_49 : decode cX3_ridesInLogs 49 = .ok (.iinc 3 1, 3) := by decide +kernel
theorem dX3_ridesInLogs_52 : decode cX3_ridesInLogs 52 = .ok (.goto (-48), 3) := by decide +kernel
theorem dX3_ridesInLogs_55 : decode cX3_ridesInLogs 55 = .ok (.iload_n 2, 1) := by decide +kernel
theorem dX3_ridesInLogs_56 : decode cX3_ridesInLogs 56 = .ok (.ireturn, 1) := by decide +kernel
theorem dX3_faresInLogs_0 : decode cX3_faresInLogs 0 = .ok (.iconst 0, 1) := by decide +kernel
theorem dX3_faresInLogs_1 : decode cX3_faresInLogs 1 = .ok (.istore_n 2, 1) := by decide +kernel
theorem dX3_faresInLogs_2 : decode cX3_faresInLogs 2 = .ok (.iconst 0, 1) := by decide +kernel
theorem dX3_faresInLogs_3 : decode cX3_faresInLogs 3 = .ok (.istore_n 3, 1) := by decide +kernel
theorem dX3_faresInLogs_4 : decode cX3_faresInLogs 4 = .ok (.iload_n 3, 1) := by decide +kernel
theorem dX3_faresInLogs_5 : decode cX3_faresInLogs 5 = .ok (.iconst 4, 1) := by decide +kernel
theorem dX3_faresInLogs_6 : decode cX3_faresInLogs 6 = .ok (.if_icmp .ge 63, 3) := by decide +kernel
theorem dX3_faresInLogs_9 : decode cX3_faresInLogs 9 = .ok (.aload_n 0, 1) := by decide +kernel
theorem dX3_faresInLogs_10 : decode cX3_faresInLogs 10 = .ok (.getfield 27, 3) := by decide +kernel
theorem dX3_faresInLogs_13 : decode cX3_faresInLogs 13 = .ok (.iload_n 3, 1) := by decide +kernel
theorem dX3_faresInLogs_14 : decode cX3_faresInLogs 14 = .ok (.invokevirtual 46, 3) := by decide +kernel
theorem dX3_faresInLogs_17 : decode cX3_faresInLogs 17 = .ok (.istore 4, 2) := by decide +kernel
theorem dX3_faresInLogs_19 : decode cX3_faresInLogs 19 = .ok (.iconst 0, 1) := by decide +kernel
theorem dX3_faresInLogs_20 : decode cX3_faresInLogs 20 = .ok (.istore 5, 2) := by decide +kernel
theorem dX3_faresInLogs_22 : decode cX3_faresInLogs 22 = .ok (.iload 5, 2) := by decide +kernel
theorem dX3_faresInLogs_24 : decode cX3_faresInLogs 24 = .ok (.iload 4, 2) := by decide +kernel
theorem dX3_faresInLogs_26 : decode cX3_faresInLogs 26 = .ok (.if_icmp .ge 37, 3) := by decide +kernel
theorem dX3_faresInLogs_29 : decode cX3_faresInLogs 29 = .ok (.aload_n 0, 1) := by decide +kernel
theorem dX3_faresInLogs_30 : decode cX3_faresInLogs 30 = .ok (.iload_n 3, 1) := by decide +kernel
theorem dX3_faresInLogs_31 : decode cX3_faresInLogs 31 = .ok (.iload 5, 2) := by decide +kernel
theorem dX3_faresInLogs_33 : decode cX3_faresInLogs 33 = .ok (.iload_n 1, 1) := by decide +kernel
theorem dX3_faresInLogs_34 : decode cX3_faresInLogs 34 = .ok (.invokevirtual 61, 3) := by decide +kernel
theorem dX3_faresInLogs_37 : decode cX3_faresInLogs 37 = .ok (.ifCond .eq 20, 3) := by decide +kernel
theorem dX3_faresInLogs_40 : decode cX3_faresInLogs 40 = .ok (.iload_n 2, 1) := by decide +kernel
theorem dX3_faresInLogs_41 : decode cX3_faresInLogs 41 = .ok (.aload_n 0, 1) := by decide +kernel
theorem dX3_faresInLogs_42 : decode cX3_faresInLogs 42 = .ok (.getfield 36, 3) := by decide +kernel
theorem dX3_faresInLogs_45 : decode cX3_faresInLogs 45 = .ok (.iload_n 3, 1) := by decide +kernel
theorem dX3_faresInLogs_46 : decode cX3_faresInLogs 46 = .ok (.bipush 12, 2) := by decide +kernel
theorem dX3_faresInLogs_48 : decode cX3_faresInLogs 48 = .ok (.imul, 1) := by decide +kernel
theorem dX3_faresInLogs_49 : decode cX3_faresInLogs 49 = .ok (.iload 5, 2) := by decide +kernel
theorem dX3_faresInLogs_51 : decode cX3_faresInLogs 51 = .ok (.iadd, 1) := by decide +kernel
theorem dX3_faresInLogs_52 : decode cX3_faresInLogs 52 = .ok (.invokevirtual 46, 3) := by decide +kernel
theorem dX3_faresInLogs_55 : decode cX3_faresInLogs 55 = .ok (.iadd, 1) := by decide +kernel
theorem dX3_faresInLogs_56 : decode cX3_faresInLogs 56 = .ok (.istore_n 2, 1) := by decide +kernel
theorem dX3_faresInLogs_57 : decode cX3_faresInLogs 57 = .ok (.iinc 5 1, 3) := by decide +kernel
theorem dX3_faresInLogs_60 : decode cX3_faresInLogs 60 = .ok (.goto (-38), 3) := by decide +kernel
theorem dX3_faresInLogs_63 : decode cX3_faresInLogs 63 = .ok (.iinc 3 1, 3) := by decide +kernel
theorem dX3_faresInLogs_66 : decode cX3_faresInLogs 66 = .ok (.goto (-62), 3) := by decide +kernel
theorem dX3_faresInLogs_69 : decode cX3_faresInLogs 69 = .ok (.iload_n 2, 1) := by decide +kernel
theorem dX3_faresInLogs_70 : decode cX3_faresInLogs 70 = .ok (.ireturn, 1) := by decide +kernel
theorem cw_X3_39 : uCW RX3 RX6 39 yX6_fill cX6_fill 3 none 1 := ⟨gt_in 186 (by decide +kernel) (by decide +kernel), yf_X6_fill⟩
theorem cw_X3_46 : uCW RX3 RX6 46 yX6_get cX6_get 2 (some .int) 1 := ⟨gt_in 348 (by decide +kernel) (by decide +kernel), yf_X6_get⟩
theorem cw_X3_50 : uCW RX3 RX6 50 yX6_put cX6_put 3 none 2 := ⟨gt_in 425 (by decide +kernel) (by decide +kernel), yf_X6_put⟩
theorem yf_X3_isOpen : (Cond.instanceMethod yX3_isOpen) ∈ gtbl ∧ (Cond.selects RX3 yX3_isOpen yX3_isOpen) ∈ gtbl ∧ (Cond.initialized RX3) ∈ gtbl ∧ (Cond.code yX3_isOpen cX3_isOpen 2 (some .boolean)) ∈ gtbl ∧ (yX3_isOpen.cls = RX3 ∧ yX3_isOpen.cls ≠ "java/lang/invoke/MethodHandle" ∧ yX3_isOpen.cls ≠ "java/lang/invoke/VarHandle" ∧ (parseMethodDescriptor yX3_isOpen.desc).map (fun d => d.parameters.length) = some 1) := ⟨gt_in 635 (by decide +kernel) (by decide +kernel), gt_in 636 (by decide +kernel) (by decide +kernel), gt_in 23 (by decide +kernel) (by decide +kernel), gt_in 637 (by decide +kernel) (by decide +kernel), by decide +kernel⟩
theorem cw_X3_54 : uCW RX3 RX3 54 yX3_isOpen cX3_isOpen 2 (some .boolean) 1 := ⟨gt_in 704 (by decide +kernel) (by decide +kernel), yf_X3_isOpen⟩
theorem cw_X3_58 : uCW RX3 RX6 58 yX6_increase cX6_increase 3 none 2 := ⟨gt_in 673 (by decide +kernel) (by decide +kernel), yf_X6_increase⟩
theorem yf_X3_isOf : (Cond.instanceMethod yX3_isOf) ∈ gtbl ∧ (Cond.selects RX3 yX3_isOf yX3_isOf) ∈ gtbl ∧ (Cond.initialized RX3) ∈ gtbl ∧ (Cond.code yX3_isOf cX3_isOf 4 (some .boolean)) ∈ gtbl ∧ (yX3_isOf.cls = RX3 ∧ yX3_isOf.cls ≠ "java/lang/invoke/MethodHandle" ∧ yX3_isOf.cls ≠ "java/lang/invoke/VarHandle" ∧ (parseMethodDescriptor yX3_isOf.desc).map (fun d => d.parameters.length) = some 3) := ⟨gt_in 449 (by decide +kernel) (by decide +kernel), gt_in 3 (by decide +kernel) (by decide +kernel), gt_in 23 (by decide +kernel) (by decide +kernel), gt_in 450 (by decide +kernel) (by decide +kernel), by decide +kernel⟩
theorem cw_X3_61 : uCW RX3 RX3 61 yX3_isOf cX3_isOf 4 (some .boolean) 3 := ⟨gt_in 447 (by decide +kernel) (by decide +kernel), yf_X3_isOf⟩
def fX3_has (S : (Nat → Nat → Int32)) (a1 : Int32) : Int32 :=
  if a1 < 0 then
    0
  else
    if 4 ≤ a1 then
      0
    else
      1
set_option maxHeartbeats 4000000 in
set_option maxRecDepth 20000 in
theorem kX3_has {l : Launch} {G : UG} {V : uV} {t : Nat} (hS : uSt G t) {S : (Nat → Nat → Int32)} (hV : V t = S) {a1 : Int32} {r : Int32} (h : fX3_has S a1 = r) : uMi l G yX3_has cX3_has 2 .boolean (uR 0 0) [.ref (ga G t 21), .int a1] V r V := by
  refine uMi_of rfl (Nat.le_of_ble_eq_true rfl) (fun p e s m args below meth c ls X hret hl M => ?_)
  have hl : lv_has ls 2 [(0, .ref (ga G t 21)), (1, .int a1)] := hl
  have hx := X.hx
  have hb := X.hb
  unfold fX3_has at h
  refine lv_iload_n hx hb dX3_has_0 rfl (lv_at hl 1 rfl) ?_
  refine lv_if_lt (tgt := 13) hx hb dX3_has_1 (by decide) (fun c1 => ?_) (fun c1 => ?_)
  · have h := it_t h c1
    refine lv_iconst (v := 0) hx hb dX3_has_13 (by decide) ?_
    exact u_iret X hret M h (rfl) rfl dX3_has_14
  · have h := it_f h c1
    refine lv_iload_n hx hb dX3_has_4 rfl (lv_at hl 1 rfl) ?_
    refine lv_iconst (v := 4) hx hb dX3_has_5 (by decide) ?_
    refine lv_icmp_ge (tgt := 13) hx hb dX3_has_6 (by decide) (fun c2 => ?_) (fun c2 => ?_)
    · have h := it_t h c2
      refine lv_iconst (v := 0) hx hb dX3_has_13 (by decide) ?_
      exact u_iret X hret M h (rfl) rfl dX3_has_14
    · have h := it_f h c2
      refine lv_iconst (v := 1) hx hb dX3_has_9 (by decide) ?_
      refine lv_goto (tgt := 14) hx hb dX3_has_10 (by decide) ?_
      exact u_iret X hret M h (rfl) rfl dX3_has_14
def fX3_isUp (S : (Nat → Nat → Int32)) (a1 : Int32) : Int32 :=
  lt_ (fget 4 (S 27) a1) fun x2 =>
  if x2 = 0 then
    0
  else
    1
set_option maxHeartbeats 4000000 in
set_option maxRecDepth 20000 in
theorem kX3_isUp {l : Launch} {G : UG} {V : uV} {t : Nat} (hS : uSt G t) {S : (Nat → Nat → Int32)} (hV : V t = S) {a1 : Int32} {r : Int32} (h : fX3_isUp S a1 = r) : uMi l G yX3_isUp cX3_isUp 2 .boolean (uR 1 21) [.ref (ga G t 21), .int a1] V r V := by
  refine uMi_of rfl (Nat.le_of_ble_eq_true rfl) (fun p e s m args below meth c ls X hret hl M => ?_)
  have hl : lv_has ls 2 [(0, .ref (ga G t 21)), (1, .int a1)] := hl
  have hx := X.hx
  have hb := X.hb
  unfold fX3_isUp at h
  refine lv_aload_n hx hb dX3_isUp_0 rfl (lv_at hl 0 rfl) ?_
  refine gf_X3_21 X M hS dX3_isUp_1 ?_
  refine lv_iload_n hx hb dX3_isUp_4 rfl (lv_at hl 1 rfl) ?_
  obtain ⟨x2, e1, h⟩ := lt_e h
  refine u_cVi X M hl.1 (kX6_get (uRw26 hS) (congrFun hV 27) e1.symm) cw_X3_46 ⟨by decide, by decide⟩ (uR_recv X M (uRw26 hS)) rfl rfl (Nat.le_of_ble_eq_true rfl) ⟨Nat.zero_le _, Nat.zero_le _⟩ dX3_isUp_5 (fun H locs M n3 => ?_)
  refine lv_if_eq (tgt := 15) hx hb dX3_isUp_8 (by decide) (fun c4 => ?_) (fun c4 => ?_)
  · have h := it_t h c4
    refine lv_iconst (v := 0) hx hb dX3_isUp_15 (by decide) ?_
    exact u_iret X hret M h (rfl) rfl dX3_isUp_16
  · have h := it_f h c4
    refine lv_iconst (v := 1) hx hb dX3_isUp_11 (by decide) ?_
    refine lv_goto (tgt := 16) hx hb dX3_isUp_12 (by decide) ?_
    exact u_iret X hret M h (rfl) rfl dX3_isUp_16
def fX3_isOpen (S : (Nat → Nat → Int32)) (a1 : Int32) : Int32 :=
  lt_ (fget 4 (S 29) a1) fun x2 =>
  if x2 = 0 then
    0
  else
    1
set_option maxHeartbeats 4000000 in
set_option maxRecDepth 20000 in
theorem kX3_isOpen {l : Launch} {G : UG} {V : uV} {t : Nat} (hS : uSt G t) {S : (Nat → Nat → Int32)} (hV : V t = S) {a1 : Int32} {r : Int32} (h : fX3_isOpen S a1 = r) : uMi l G yX3_isOpen cX3_isOpen 2 .boolean (uR 1 21) [.ref (ga G t 21), .int a1] V r V := by
  refine uMi_of rfl (Nat.le_of_ble_eq_true rfl) (fun p e s m args below meth c ls X hret hl M => ?_)
  have hl : lv_has ls 2 [(0, .ref (ga G t 21)), (1, .int a1)] := hl
  have hx := X.hx
  have hb := X.hb
  unfold fX3_isOpen at h
  refine lv_aload_n hx hb dX3_isOpen_0 rfl (lv_at hl 0 rfl) ?_
  refine gf_X3_24 X M hS dX3_isOpen_1 ?_
  refine lv_iload_n hx hb dX3_isOpen_4 rfl (lv_at hl 1 rfl) ?_
  obtain ⟨x2, e1, h⟩ := lt_e h
  refine u_cVi X M hl.1 (kX6_get (uRw28 hS) (congrFun hV 29) e1.symm) cw_X3_46 ⟨by decide, by decide⟩ (uR_recv X M (uRw28 hS)) rfl rfl (Nat.le_of_ble_eq_true rfl) ⟨Nat.zero_le _, Nat.zero_le _⟩ dX3_isOpen_5 (fun H locs M n3 => ?_)
  refine lv_if_eq (tgt := 15) hx hb dX3_isOpen_8 (by decide) (fun c4 => ?_) (fun c4 => ?_)
  · have h := it_t h c4
    refine lv_iconst (v := 0) hx hb dX3_isOpen_15 (by decide) ?_
    exact u_iret X hret M h (rfl) rfl dX3_isOpen_16
  · have h := it_f h c4
    refine lv_iconst (v := 1) hx hb dX3_isOpen_11 (by decide) ?_
    refine lv_goto (tgt := 16) hx hb dX3_isOpen_12 (by decide) ?_
    exact u_iret X hret M h (rfl) rfl dX3_isOpen_16
def fX3_setLine (S : (Nat → Nat → Int32)) (a1 : Int32) (a2 : Int32) : Option (Nat → Nat → Int32) :=
  if a2 = 0 then
    lt_ (va_up S 27 (fput 4 (S 27) a1 0)) fun S3 =>
    some S3
  else
    lt_ (va_up S 27 (fput 4 (S 27) a1 1)) fun S6 =>
    some S6
set_option maxHeartbeats 4000000 in
set_option maxRecDepth 20000 in
theorem kX3_setLine {l : Launch} {G : UG} {V : uV} {t : Nat} (hS : uSt G t) {S S' : (Nat → Nat → Int32)} {a1 : Int32} {a2 : Int32} (h : fX3_setLine S a1 a2 = some S') : uMv l G yX3_setLine cX3_setLine 3 (uR 1 22) [.ref (ga G t 21), .int a1, .int a2] (va_up V t S) (va_up V t S') := by
  refine uMv_of rfl (Nat.le_of_ble_eq_true rfl) (fun p e s m args below meth c ls X hret hl M => ?_)
  have hl : lv_has ls 3 [(0, .ref (ga G t 21)), (1, .int a1), (2, .int a2)] := hl
  have hx := X.hx
  have hb := X.hb
  unfold fX3_setLine at h
  refine lv_aload_n hx hb dX3_setLine_0 rfl (lv_at hl 0 rfl) ?_
  refine gf_X3_21 X M hS dX3_setLine_1 ?_
  refine lv_iload_n hx hb dX3_setLine_4 rfl (lv_at hl 1 rfl) ?_
  refine lv_iload_n hx hb dX3_setLine_5 rfl (lv_at hl 2 rfl) ?_
  refine lv_if_eq (tgt := 13) hx hb dX3_setLine_6 (by decide) (fun c1 => ?_) (fun c1 => ?_)
  · have h := it_t h c1
    refine lv_iconst (v := 0) hx hb dX3_setLine_13 (by decide) ?_
    obtain ⟨S3, e2, h⟩ := lt_e h
    refine u_cVv X M hl.1 (kX6_putS (uRw26 hS) e2) cw_X3_50 ⟨by decide, by decide⟩ (uR_recv X M (uRw26 hS)) rfl rfl (Nat.le_of_ble_eq_true rfl) ⟨Nat.zero_le _, Nat.zero_le _⟩ dX3_setLine_14 (fun H locs M => ?_)
    exact u_vret X hret M (congrArg (va_up V t) (Option.some.inj h)) dX3_setLine_17
  · have h := it_f h c1
    refine lv_iconst (v := 1) hx hb dX3_setLine_9 (by decide) ?_
    refine lv_goto (tgt := 14) hx hb dX3_setLine_10 (by decide) ?_
    obtain ⟨S6, e5, h⟩ := lt_e h
    refine u_cVv X M hl.1 (kX6_putS (uRw26 hS) e5) cw_X3_50 ⟨by decide, by decide⟩ (uR_recv X M (uRw26 hS)) rfl rfl (Nat.le_of_ble_eq_true rfl) ⟨Nat.zero_le _, Nat.zero_le _⟩ dX3_setLine_14 (fun H locs M => ?_)
    exact u_vret X hret M (congrArg (va_up V t) (Option.some.inj h)) dX3_setLine_17
def fX3_turnOpen (S : (Nat → Nat → Int32)) (a1 : Int32) : Option (Int32 × (Nat → Nat → Int32)) :=
  lt_ (fX3_isOpen S a1) fun x2 =>
  if x2 = 0 then
    lt_ (va_up S 29 (fput 4 (S 29) a1 1)) fun S6 =>
    lt_ (fget 4 (S6 29) a1) fun x9 =>
    some (x9, S6)
  else
    lt_ (va_up S 29 (fput 4 (S 29) a1 0)) fun S12 =>
    lt_ (fget 4 (S12 29) a1) fun x15 =>
    some (x15, S12)
set_option maxHeartbeats 4000000 in
set_option maxRecDepth 20000 in
theorem kX3_turnOpen {l : Launch} {G : UG} {V : uV} {t : Nat} (hS : uSt G t) {S S' : (Nat → Nat → Int32)} {a1 : Int32} {r : Int32} (h : fX3_turnOpen S a1 = some (r, S')) : uMi l G yX3_turnOpen cX3_turnOpen 2 .int (uR 2 42) [.ref (ga G t 21), .int a1] (va_up V t S) r (va_up V t S') := by
  refine uMi_of rfl (Nat.le_of_ble_eq_true rfl) (fun p e s m args below meth c ls X hret hl M => ?_)
  have hl : lv_has ls 2 [(0, .ref (ga G t 21)), (1, .int a1)] := hl
  have hx := X.hx
  have hb := X.hb
  unfold fX3_turnOpen at h
  refine lv_aload_n hx hb dX3_turnOpen_0 rfl (lv_at hl 0 rfl) ?_
  refine gf_X3_24 X M hS dX3_turnOpen_1 ?_
  refine lv_iload_n hx hb dX3_turnOpen_4 rfl (lv_at hl 1 rfl) ?_
  refine lv_aload_n hx hb dX3_turnOpen_5 rfl (lv_at hl 0 rfl) ?_
  refine lv_iload_n hx hb dX3_turnOpen_6 rfl (lv_at hl 1 rfl) ?_
  obtain ⟨x2, e1, h⟩ := lt_e h
  refine u_cVi X M hl.1 (kX3_isOpen hS (va_up_s V t _) e1.symm) cw_X3_54 ⟨by decide, by decide⟩ (rc_X3 X M hS) rfl rfl (Nat.le_of_ble_eq_true rfl) ⟨Nat.zero_le _, Nat.zero_le _⟩ dX3_turnOpen_7 (fun H locs M n3 => ?_)
  refine lv_if_eq (tgt := 17) hx hb dX3_turnOpen_10 (by decide) (fun c4 => ?_) (fun c4 => ?_)
  · have h := it_t h c4
    refine lv_iconst (v := 1) hx hb dX3_turnOpen_17 (by decide) ?_
    obtain ⟨S6, e5, h⟩ := lt_e h
    refine u_cVv X M hl.1 (kX6_putS (uRw28 hS) e5) cw_X3_50 ⟨by decide, by decide⟩ (uR_recv X M (uRw28 hS)) rfl rfl (Nat.le_of_ble_eq_true rfl) ⟨Nat.zero_le _, Nat.zero_le _⟩ dX3_turnOpen_18 (fun H locs M => ?_)
    refine lv_aload_n hx hb dX3_turnOpen_21 rfl (lv_at hl 0 rfl) ?_
    refine gf_X3_24 X M hS dX3_turnOpen_22 ?_
    refine lv_iload_n hx hb dX3_turnOpen_25 rfl (lv_at hl 1 rfl) ?_
    obtain ⟨x9, e8, h⟩ := lt_e h
    refine u_cVi X M hl.1 (kX6_get (uRw28 hS) (congrFun (va_up_s V t _) 29) e8.symm) cw_X3_46 ⟨by decide, by decide⟩ (uR_recv X M (uRw28 hS)) rfl rfl (Nat.le_of_ble_eq_true rfl) ⟨Nat.zero_le _, Nat.zero_le _⟩ dX3_turnOpen_26 (fun H locs M n10 => ?_)
    exact u_iret X hret M (rt2 h).1 (congrArg (va_up V t) ((rt2 h).2)) rfl dX3_turnOpen_29
  · have h := it_f h c4
    refine lv_iconst (v := 0) hx hb dX3_turnOpen_13 (by decide) ?_
    refine lv_goto (tgt := 18) hx hb dX3_turnOpen_14 (by decide) ?_
    obtain ⟨S12, e11, h⟩ := lt_e h
    refine u_cVv X M hl.1 (kX6_putS (uRw28 hS) e11) cw_X3_50 ⟨by decide, by decide⟩ (uR_recv X M (uRw28 hS)) rfl rfl (Nat.le_of_ble_eq_true rfl) ⟨Nat.zero_le _, Nat.zero_le _⟩ dX3_turnOpen_18 (fun H locs M => ?_)
    refine lv_aload_n hx hb dX3_turnOpen_21 rfl (lv_at hl 0 rfl) ?_
    refine gf_X3_24 X M hS dX3_turnOpen_22 ?_
    refine lv_iload_n hx hb dX3_turnOpen_25 rfl (lv_at hl 1 rfl) ?_
    obtain ⟨x15, e14, h⟩ := lt_e h
    refine u_cVi X M hl.1 (kX6_get (uRw28 hS) (congrFun (va_up_s V t _) 29) e14.symm) cw_X3_46 ⟨by decide, by decide⟩ (uR_recv X M (uRw28 hS)) rfl rfl (Nat.le_of_ble_eq_true rfl) ⟨Nat.zero_le _, Nat.zero_le _⟩ dX3_turnOpen_26 (fun H locs M n16 => ?_)
    exact u_iret X hret M (rt2 h).1 (congrArg (va_up V t) ((rt2 h).2)) rfl dX3_turnOpen_29
def fX3_number (S : (Nat → Nat → Int32)) (a1 : Int32) (a2 : Int32) : Int32 :=
  if a2 = 0 then
    lt_ (fget 4 (S 23) a1) fun x3 =>
    x3
  else if a2 = 1 then
    lt_ (fget 4 (S 27) a1) fun x7 =>
    x7
  else if a2 = 2 then
    lt_ (fget 4 (S 29) a1) fun x11 =>
    x11
  else 
  lt_ (fget 4 (S 31) a1) fun x14 =>
  x14
set_option maxHeartbeats 4000000 in
set_option maxRecDepth 20000 in
theorem kX3_number {l : Launch} {G : UG} {V : uV} {t : Nat} (hS : uSt G t) {S : (Nat → Nat → Int32)} (hV : V t = S) {a1 : Int32} {a2 : Int32} {r : Int32} (h : fX3_number S a1 a2 = r) : uMi l G yX3_number cX3_number 3 .int (uR 1 21) [.ref (ga G t 21), .int a1, .int a2] V r V := by
  refine uMi_of rfl (Nat.le_of_ble_eq_true rfl) (fun p e s m args below meth c ls X hret hl M => ?_)
  have hl : lv_has ls 3 [(0, .ref (ga G t 21)), (1, .int a1), (2, .int a2)] := hl
  have hx := X.hx
  have hb := X.hb
  unfold fX3_number at h
  refine lv_iload_n hx hb dX3_number_0 rfl (lv_at hl 2 rfl) ?_
  by_cases c1 : a2 = 0
  · have h := it_t h c1
    refine lv_tableIn (off := 27) (tgt := 28) hx hb dX3_number_1 (by rw [c1]; decide) (by rw [c1]; decide) (by rw [c1]; rfl) (by decide) ?_
    refine lv_aload_n hx hb dX3_number_28 rfl (lv_at hl 0 rfl) ?_
    refine gf_X3_14 X M hS dX3_number_29 ?_
    refine lv_iload_n hx hb dX3_number_32 rfl (lv_at hl 1 rfl) ?_
    obtain ⟨x3, e2, h⟩ := lt_e h
    refine u_cVi X M hl.1 (kX6_get (uRw22 hS) (congrFun hV 23) e2.symm) cw_X3_46 ⟨by decide, by decide⟩ (uR_recv X M (uRw22 hS)) rfl rfl (Nat.le_of_ble_eq_true rfl) ⟨Nat.zero_le _, Nat.zero_le _⟩ dX3_number_33 (fun H locs M n4 => ?_)
    exact u_iret X hret M h (rfl) rfl dX3_number_36
  · have h := it_f h c1
    by_cases c5 : a2 = 1
    · have h := it_t h c5
      refine lv_tableIn (off := 36) (tgt := 37) hx hb dX3_number_1 (by rw [c5]; decide) (by rw [c5]; decide) (by rw [c5]; rfl) (by decide) ?_
      refine lv_aload_n hx hb dX3_number_37 rfl (lv_at hl 0 rfl) ?_
      refine gf_X3_21 X M hS dX3_number_38 ?_
      refine lv_iload_n hx hb dX3_number_41 rfl (lv_at hl 1 rfl) ?_
      obtain ⟨x7, e6, h⟩ := lt_e h
      refine u_cVi X M hl.1 (kX6_get (uRw26 hS) (congrFun hV 27) e6.symm) cw_X3_46 ⟨by decide, by decide⟩ (uR_recv X M (uRw26 hS)) rfl rfl (Nat.le_of_ble_eq_true rfl) ⟨Nat.zero_le _, Nat.zero_le _⟩ dX3_number_42 (fun H locs M n8 => ?_)
      exact u_iret X hret M h (rfl) rfl dX3_number_45
    · have h := it_f h c5
      by_cases c9 : a2 = 2
      · have h := it_t h c9
        refine lv_tableIn (off := 45) (tgt := 46) hx hb dX3_number_1 (by rw [c9]; decide) (by rw [c9]; decide) (by rw [c9]; rfl) (by decide) ?_
        refine lv_aload_n hx hb dX3_number_46 rfl (lv_at hl 0 rfl) ?_
        refine gf_X3_24 X M hS dX3_number_47 ?_
        refine lv_iload_n hx hb dX3_number_50 rfl (lv_at hl 1 rfl) ?_
        obtain ⟨x11, e10, h⟩ := lt_e h
        refine u_cVi X M hl.1 (kX6_get (uRw28 hS) (congrFun hV 29) e10.symm) cw_X3_46 ⟨by decide, by decide⟩ (uR_recv X M (uRw28 hS)) rfl rfl (Nat.le_of_ble_eq_true rfl) ⟨Nat.zero_le _, Nat.zero_le _⟩ dX3_number_51 (fun H locs M n12 => ?_)
        exact u_iret X hret M h (rfl) rfl dX3_number_54
      · have h := it_f h c9
        have tc1 := lv_neT (a := 0) c1 (by decide)
        have tc5 := lv_neT (a := 1) c5 (by decide)
        have tc9 := lv_neT (a := 2) c9 (by decide)
        refine lv_tableOut (tgt := 55) hx hb dX3_number_1 (by omega) (by decide) ?_
        refine lv_aload_n hx hb dX3_number_55 rfl (lv_at hl 0 rfl) ?_
        refine gf_X3_27 X M hS dX3_number_56 ?_
        refine lv_iload_n hx hb dX3_number_59 rfl (lv_at hl 1 rfl) ?_
        obtain ⟨x14, e13, h⟩ := lt_e h
        refine u_cVi X M hl.1 (kX6_get (uRw30 hS) (congrFun hV 31) e13.symm) cw_X3_46 ⟨by decide, by decide⟩ (uR_recv X M (uRw30 hS)) rfl rfl (Nat.le_of_ble_eq_true rfl) ⟨Nat.zero_le _, Nat.zero_le _⟩ dX3_number_60 (fun H locs M n15 => ?_)
        exact u_iret X hret M h (rfl) rfl dX3_number_63
def fX3_logSize (S : (Nat → Nat → Int32)) (a1 : Int32) : Int32 :=
  lt_ (fget 4 (S 31) a1) fun x2 =>
  x2
set_option maxHeartbeats 4000000 in
set_option maxRecDepth 20000 in
theorem kX3_logSize {l : Launch} {G : UG} {V : uV} {t : Nat} (hS : uSt G t) {S : (Nat → Nat → Int32)} (hV : V t = S) {a1 : Int32} {r : Int32} (h : fX3_logSize S a1 = r) : uMi l G yX3_logSize cX3_logSize 2 .int (uR 1 21) [.ref (ga G t 21), .int a1] V r V := by
  refine uMi_of rfl (Nat.le_of_ble_eq_true rfl) (fun p e s m args below meth c ls X hret hl M => ?_)
  have hl : lv_has ls 2 [(0, .ref (ga G t 21)), (1, .int a1)] := hl
  have hx := X.hx
  have hb := X.hb
  unfold fX3_logSize at h
  refine lv_aload_n hx hb dX3_logSize_0 rfl (lv_at hl 0 rfl) ?_
  refine gf_X3_27 X M hS dX3_logSize_1 ?_
  refine lv_iload_n hx hb dX3_logSize_4 rfl (lv_at hl 1 rfl) ?_
  obtain ⟨x2, e1, h⟩ := lt_e h
  refine u_cVi X M hl.1 (kX6_get (uRw30 hS) (congrFun hV 31) e1.symm) cw_X3_46 ⟨by decide, by decide⟩ (uR_recv X M (uRw30 hS)) rfl rfl (Nat.le_of_ble_eq_true rfl) ⟨Nat.zero_le _, Nat.zero_le _⟩ dX3_logSize_5 (fun H locs M n3 => ?_)
  exact u_iret X hret M h (rfl) rfl dX3_logSize_8
def fX3_isLogFull (S : (Nat → Nat → Int32)) (a1 : Int32) : Int32 :=
  lt_ (fget 4 (S 31) a1) fun x2 =>
  if x2 < 12 then
    0
  else
    1
set_option maxHeartbeats 4000000 in
set_option maxRecDepth 20000 in
theorem kX3_isLogFull {l : Launch} {G : UG} {V : uV} {t : Nat} (hS : uSt G t) {S : (Nat → Nat → Int32)} (hV : V t = S) {a1 : Int32} {r : Int32} (h : fX3_isLogFull S a1 = r) : uMi l G yX3_isLogFull cX3_isLogFull 2 .boolean (uR 1 21) [.ref (ga G t 21), .int a1] V r V := by
  refine uMi_of rfl (Nat.le_of_ble_eq_true rfl) (fun p e s m args below meth c ls X hret hl M => ?_)
  have hl : lv_has ls 2 [(0, .ref (ga G t 21)), (1, .int a1)] := hl
  have hx := X.hx
  have hb := X.hb
  unfold fX3_isLogFull at h
  refine lv_aload_n hx hb dX3_isLogFull_0 rfl (lv_at hl 0 rfl) ?_
  refine gf_X3_27 X M hS dX3_isLogFull_1 ?_
  refine lv_iload_n hx hb dX3_isLogFull_4 rfl (lv_at hl 1 rfl) ?_
  obtain ⟨x2, e1, h⟩ := lt_e h
  refine u_cVi X M hl.1 (kX6_get (uRw30 hS) (congrFun hV 31) e1.symm) cw_X3_46 ⟨by decide, by decide⟩ (uR_recv X M (uRw30 hS)) rfl rfl (Nat.le_of_ble_eq_true rfl) ⟨Nat.zero_le _, Nat.zero_le _⟩ dX3_isLogFull_5 (fun H locs M n3 => ?_)
  refine lv_bipush (v := 12) hx hb dX3_isLogFull_8 (by decide) ?_
  refine lv_icmp_lt (tgt := 17) hx hb dX3_isLogFull_10 (by decide) (fun c4 => ?_) (fun c4 => ?_)
  · have h := it_t h c4
    refine lv_iconst (v := 0) hx hb dX3_isLogFull_17 (by decide) ?_
    exact u_iret X hret M h (rfl) rfl dX3_isLogFull_18
  · have h := it_f h c4
    refine lv_iconst (v := 1) hx hb dX3_isLogFull_13 (by decide) ?_
    refine lv_goto (tgt := 18) hx hb dX3_isLogFull_14 (by decide) ?_
    exact u_iret X hret M h (rfl) rfl dX3_isLogFull_18
def fX3_hasLogged (S : (Nat → Nat → Int32)) (a1 : Int32) (a2 : Int32) : Int32 :=
  if a2 < 0 then
    0
  else
    lt_ (fget 4 (S 31) a1) fun x3 =>
    if x3 ≤ a2 then
      0
    else
      1
set_option maxHeartbeats 4000000 in
set_option maxRecDepth 20000 in
theorem kX3_hasLogged {l : Launch} {G : UG} {V : uV} {t : Nat} (hS : uSt G t) {S : (Nat → Nat → Int32)} (hV : V t = S) {a1 : Int32} {a2 : Int32} {r : Int32} (h : fX3_hasLogged S a1 a2 = r) : uMi l G yX3_hasLogged cX3_hasLogged 3 .boolean (uR 1 21) [.ref (ga G t 21), .int a1, .int a2] V r V := by
  refine uMi_of rfl (Nat.le_of_ble_eq_true rfl) (fun p e s m args below meth c ls X hret hl M => ?_)
  have hl : lv_has ls 3 [(0, .ref (ga G t 21)), (1, .int a1), (2, .int a2)] := hl
  have hx := X.hx
  have hb := X.hb
  unfold fX3_hasLogged at h
  refine lv_iload_n hx hb dX3_hasLogged_0 rfl (lv_at hl 2 rfl) ?_
  refine lv_if_lt (tgt := 20) hx hb dX3_hasLogged_1 (by decide) (fun c1 => ?_) (fun c1 => ?_)
  · have h := it_t h c1
    refine lv_iconst (v := 0) hx hb dX3_hasLogged_20 (by decide) ?_
    exact u_iret X hret M h (rfl) rfl dX3_hasLogged_21
  · have h := it_f h c1
    refine lv_iload_n hx hb dX3_hasLogged_4 rfl (lv_at hl 2 rfl) ?_
    refine lv_aload_n hx hb dX3_hasLogged_5 rfl (lv_at hl 0 rfl) ?_
    refine gf_X3_27 X M hS dX3_hasLogged_6 ?_
    refine lv_iload_n hx hb dX3_hasLogged_9 rfl (lv_at hl 1 rfl) ?_
    obtain ⟨x3, e2, h⟩ := lt_e h
    refine u_cVi X M hl.1 (kX6_get (uRw30 hS) (congrFun hV 31) e2.symm) cw_X3_46 ⟨by decide, by decide⟩ (uR_recv X M (uRw30 hS)) rfl rfl (Nat.le_of_ble_eq_true rfl) ⟨Nat.zero_le _, Nat.zero_le _⟩ dX3_hasLogged_10 (fun H locs M n4 => ?_)
    refine lv_icmp_ge (tgt := 20) hx hb dX3_hasLogged_13 (by decide) (fun c5 => ?_) (fun c5 => ?_)
    · have h := it_t h c5
      refine lv_iconst (v := 0) hx hb dX3_hasLogged_20 (by decide) ?_
      exact u_iret X hret M h (rfl) rfl dX3_hasLogged_21
    · have h := it_f h c5
      refine lv_iconst (v := 1) hx hb dX3_hasLogged_16 (by decide) ?_
      refine lv_goto (tgt := 21) hx hb dX3_hasLogged_17 (by decide) ?_
      exact u_iret X hret M h (rfl) rfl dX3_hasLogged_21
def fX3_loggedNumber (S : (Nat → Nat → Int32)) (a1 : Int32) (a2 : Int32) (a3 : Int32) : Int32 :=
  lt_ (((a1 * 12) + a2)) fun x1 =>
  if a3 = 0 then
    lt_ (fget 48 (S 33) x1) fun x5 =>
    x5
  else if a3 = 1 then
    lt_ (fget 48 (S 35) x1) fun x9 =>
    x9
  else 
  lt_ (fget 48 (S 37) x1) fun x12 =>
  x12
set_option maxHeartbeats 4000000 in
set_option maxRecDepth 20000 in
theorem kX3_loggedNumber {l : Launch} {G : UG} {V : uV} {t : Nat} (hS : uSt G t) {S : (Nat → Nat → Int32)} (hV : V t = S) {a1 : Int32} {a2 : Int32} {a3 : Int32} {r : Int32} (h : fX3_loggedNumber S a1 a2 a3 = r) : uMi l G yX3_loggedNumber cX3_loggedNumber 5 .int (uR 1 21) [.ref (ga G t 21), .int a1, .int a2, .int a3] V r V := by
  refine uMi_of rfl (Nat.le_of_ble_eq_true rfl) (fun p e s m args below meth c ls X hret hl M => ?_)
  have hl : lv_has ls 5 [(0, .ref (ga G t 21)), (1, .int a1), (2, .int a2), (3, .int a3)] := hl
  have hx := X.hx
  have hb := X.hb
  unfold fX3_loggedNumber at h
  refine lv_iload_n hx hb dX3_loggedNumber_0 rfl (lv_at hl 1 rfl) ?_
  refine lv_bipush (v := 12) hx hb dX3_loggedNumber_1 (by decide) ?_
  refine lv_imul hx hb dX3_loggedNumber_3 ?_
  refine lv_iload_n hx hb dX3_loggedNumber_4 rfl (lv_at hl 2 rfl) ?_
  refine lv_iadd hx hb dX3_loggedNumber_5 ?_
  obtain ⟨x1, e2, h⟩ := lt_e h
  refine u_topi e2 ?_
  refine lv_istore (lv' := [(4, .int x1), (0, .ref (ga G t 21)), (1, .int a1), (2, .int a2), (3, .int a3)]) hx hb dX3_loggedNumber_6 hl (by decide) rfl (fun ls hl => ?_)
  refine lv_iload_n hx hb dX3_loggedNumber_8 rfl (lv_at hl 4 rfl) ?_
  by_cases c3 : a3 = 0
  · have h := it_t h c3
    refine lv_lookup (off := 27) (tgt := 36) hx hb dX3_loggedNumber_9 (by decide) (by rw [c3]; rfl) (by decide) ?_
    refine lv_aload_n hx hb dX3_loggedNumber_36 rfl (lv_at hl 1 rfl) ?_
    refine gf_X3_30 X M hS dX3_loggedNumber_37 ?_
    refine lv_iload hx hb dX3_loggedNumber_40 (lv_at hl 0 rfl) ?_
    obtain ⟨x5, e4, h⟩ := lt_e h
    refine u_cVi X M hl.1 (kX6_get (uRw32 hS) (congrFun hV 33) e4.symm) cw_X3_46 ⟨by decide, by decide⟩ (uR_recv X M (uRw32 hS)) rfl rfl (Nat.le_of_ble_eq_true rfl) ⟨Nat.zero_le _, Nat.zero_le _⟩ dX3_loggedNumber_42 (fun H locs M n6 => ?_)
    exact u_iret X hret M h (rfl) rfl dX3_loggedNumber_45
  · have h := it_f h c3
    by_cases c7 : a3 = 1
    · have h := it_t h c7
      refine lv_lookup (off := 37) (tgt := 46) hx hb dX3_loggedNumber_9 (by decide) (by rw [c7]; rfl) (by decide) ?_
      refine lv_aload_n hx hb dX3_loggedNumber_46 rfl (lv_at hl 1 rfl) ?_
      refine gf_X3_33 X M hS dX3_loggedNumber_47 ?_
      refine lv_iload hx hb dX3_loggedNumber_50 (lv_at hl 0 rfl) ?_
      obtain ⟨x9, e8, h⟩ := lt_e h
      refine u_cVi X M hl.1 (kX6_get (uRw34 hS) (congrFun hV 35) e8.symm) cw_X3_46 ⟨by decide, by decide⟩ (uR_recv X M (uRw34 hS)) rfl rfl (Nat.le_of_ble_eq_true rfl) ⟨Nat.zero_le _, Nat.zero_le _⟩ dX3_loggedNumber_52 (fun H locs M n10 => ?_)
      exact u_iret X hret M h (rfl) rfl dX3_loggedNumber_55
    · have h := it_f h c7
      refine lv_lookup (off := 47) (tgt := 56) hx hb dX3_loggedNumber_9 (by decide) ((lv_osw c3 (by decide)).trans ((lv_osw c7 (by decide)).trans rfl)) (by decide) ?_
      refine lv_aload_n hx hb dX3_loggedNumber_56 rfl (lv_at hl 1 rfl) ?_
      refine gf_X3_36 X M hS dX3_loggedNumber_57 ?_
      refine lv_iload hx hb dX3_loggedNumber_60 (lv_at hl 0 rfl) ?_
      obtain ⟨x12, e11, h⟩ := lt_e h
      refine u_cVi X M hl.1 (kX6_get (uRw36 hS) (congrFun hV 37) e11.symm) cw_X3_46 ⟨by decide, by decide⟩ (uR_recv X M (uRw36 hS)) rfl rfl (Nat.le_of_ble_eq_true rfl) ⟨Nat.zero_le _, Nat.zero_le _⟩ dX3_loggedNumber_62 (fun H locs M n13 => ?_)
      exact u_iret X hret M h (rfl) rfl dX3_loggedNumber_65
def fX3_writeLog (S : (Nat → Nat → Int32)) (a1 : Int32) (a2 : Int32) (a3 : Int32) (a4 : Int32) : Option (Nat → Nat → Int32) :=
  lt_ (fget 4 (S 31) a1) fun x2 =>
  lt_ (((a1 * 12) + x2)) fun x4 =>
  lt_ (va_up S 33 (fput 48 (S 33) x4 a2)) fun S7 =>
  lt_ (va_up S7 35 (fput 48 (S7 35) x4 a3)) fun S10 =>
  lt_ (va_up S10 37 (fput 48 (S10 37) x4 a4)) fun S13 =>
  lt_ (va_up S13 31 (finc 4 (S13 31) a1 1)) fun S16 =>
  some S16
set_option maxHeartbeats 4000000 in
set_option maxRecDepth 20000 in
theorem kX3_writeLog {l : Launch} {G : UG} {V : uV} {t : Nat} (hS : uSt G t) {S S' : (Nat → Nat → Int32)} {a1 : Int32} {a2 : Int32} {a3 : Int32} {a4 : Int32} (h : fX3_writeLog S a1 a2 a3 a4 = some S') : uMv l G yX3_writeLog cX3_writeLog 6 (uR 1 22) [.ref (ga G t 21), .int a1, .int a2, .int a3, .int a4] (va_up V t S) (va_up V t S') := by
  refine uMv_of rfl (Nat.le_of_ble_eq_true rfl) (fun p e s m args below meth c ls X hret hl M => ?_)
  have hl : lv_has ls 6 [(0, .ref (ga G t 21)), (1, .int a1), (2, .int a2), (3, .int a3), (4, .int a4)] := hl
  have hx := X.hx
  have hb := X.hb
  unfold fX3_writeLog at h
  refine lv_iload_n hx hb dX3_writeLog_0 rfl (lv_at hl 1 rfl) ?_
  refine lv_bipush (v := 12) hx hb dX3_writeLog_1 (by decide) ?_
  refine lv_imul hx hb dX3_writeLog_3 ?_
  refine lv_aload_n hx hb dX3_writeLog_4 rfl (lv_at hl 0 rfl) ?_
  refine gf_X3_27 X M hS dX3_writeLog_5 ?_
  refine lv_iload_n hx hb dX3_writeLog_8 rfl (lv_at hl 1 rfl) ?_
  obtain ⟨x2, e1, h⟩ := lt_e h
  refine u_cVi X M hl.1 (kX6_get (uRw30 hS) (congrFun (va_up_s V t _) 31) e1.symm) cw_X3_46 ⟨by decide, by decide⟩ (uR_recv X M (uRw30 hS)) rfl rfl (Nat.le_of_ble_eq_true rfl) ⟨Nat.zero_le _, Nat.zero_le _⟩ dX3_writeLog_9 (fun H locs M n3 => ?_)
  refine lv_iadd hx hb dX3_writeLog_12 ?_
  obtain ⟨x4, e5, h⟩ := lt_e h
  refine u_topi e5 ?_
  refine lv_istore (lv' := [(5, .int x4), (0, .ref (ga G t 21)), (1, .int a1), (2, .int a2), (3, .int a3), (4, .int a4)]) hx hb dX3_writeLog_13 hl (by decide) rfl (fun ls hl => ?_)
  refine lv_aload_n hx hb dX3_writeLog_15 rfl (lv_at hl 1 rfl) ?_
  refine gf_X3_30 X M hS dX3_writeLog_16 ?_
  refine lv_iload hx hb dX3_writeLog_19 (lv_at hl 0 rfl) ?_
  refine lv_iload_n hx hb dX3_writeLog_21 rfl (lv_at hl 3 rfl) ?_
  obtain ⟨S7, e6, h⟩ := lt_e h
  refine u_cVv X M hl.1 (kX6_putS (uRw32 hS) e6) cw_X3_50 ⟨by decide, by decide⟩ (uR_recv X M (uRw32 hS)) rfl rfl (Nat.le_of_ble_eq_true rfl) ⟨Nat.zero_le _, Nat.zero_le _⟩ dX3_writeLog_22 (fun H locs M => ?_)
  refine lv_aload_n hx hb dX3_writeLog_25 rfl (lv_at hl 1 rfl) ?_
  refine gf_X3_33 X M hS dX3_writeLog_26 ?_
  refine lv_iload hx hb dX3_writeLog_29 (lv_at hl 0 rfl) ?_
  refine lv_iload_n hx hb dX3_writeLog_31 rfl (lv_at hl 4 rfl) ?_
  obtain ⟨S10, e9, h⟩ := lt_e h
  refine u_cVv X M hl.1 (kX6_putS (uRw34 hS) e9) cw_X3_50 ⟨by decide, by decide⟩ (uR_recv X M (uRw34 hS)) rfl rfl (Nat.le_of_ble_eq_true rfl) ⟨Nat.zero_le _, Nat.zero_le _⟩ dX3_writeLog_32 (fun H locs M => ?_)
  refine lv_aload_n hx hb dX3_writeLog_35 rfl (lv_at hl 1 rfl) ?_
  refine gf_X3_36 X M hS dX3_writeLog_36 ?_
  refine lv_iload hx hb dX3_writeLog_39 (lv_at hl 0 rfl) ?_
  refine lv_iload hx hb dX3_writeLog_41 (lv_at hl 5 rfl) ?_
  obtain ⟨S13, e12, h⟩ := lt_e h
  refine u_cVv X M hl.1 (kX6_putS (uRw36 hS) e12) cw_X3_50 ⟨by decide, by decide⟩ (uR_recv X M (uRw36 hS)) rfl rfl (Nat.le_of_ble_eq_true rfl) ⟨Nat.zero_le _, Nat.zero_le _⟩ dX3_writeLog_43 (fun H locs M => ?_)
  refine lv_aload_n hx hb dX3_writeLog_46 rfl (lv_at hl 1 rfl) ?_
  refine gf_X3_27 X M hS dX3_writeLog_47 ?_
  refine lv_iload_n hx hb dX3_writeLog_50 rfl (lv_at hl 2 rfl) ?_
  refine lv_iconst (v := 1) hx hb dX3_writeLog_51 (by decide) ?_
  obtain ⟨S16, e15, h⟩ := lt_e h
  refine u_cVv X M hl.1 (kX6_increaseS (uRw30 hS) e15) cw_X3_58 ⟨by decide, by decide⟩ (uR_recv X M (uRw30 hS)) rfl rfl (Nat.le_of_ble_eq_true rfl) ⟨Nat.zero_le _, Nat.zero_le _⟩ dX3_writeLog_52 (fun H locs M => ?_)
  exact u_vret X hret M (congrArg (va_up V t) (Option.some.inj h)) dX3_writeLog_55
def fX3_emptyLog (S : (Nat → Nat → Int32)) (a1 : Int32) : Option (Nat → Nat → Int32) :=
  lt_ (va_up S 31 (fput 4 (S 31) a1 0)) fun S2 =>
  some S2
set_option maxHeartbeats 4000000 in
set_option maxRecDepth 20000 in
theorem kX3_emptyLog {l : Launch} {G : UG} {V : uV} {t : Nat} (hS : uSt G t) {S S' : (Nat → Nat → Int32)} {a1 : Int32} (h : fX3_emptyLog S a1 = some S') : uMv l G yX3_emptyLog cX3_emptyLog 2 (uR 1 22) [.ref (ga G t 21), .int a1] (va_up V t S) (va_up V t S') := by
  refine uMv_of rfl (Nat.le_of_ble_eq_true rfl) (fun p e s m args below meth c ls X hret hl M => ?_)
  have hl : lv_has ls 2 [(0, .ref (ga G t 21)), (1, .int a1)] := hl
  have hx := X.hx
  have hb := X.hb
  unfold fX3_emptyLog at h
  refine lv_aload_n hx hb dX3_emptyLog_0 rfl (lv_at hl 0 rfl) ?_
  refine gf_X3_27 X M hS dX3_emptyLog_1 ?_
  refine lv_iload_n hx hb dX3_emptyLog_4 rfl (lv_at hl 1 rfl) ?_
  refine lv_iconst (v := 0) hx hb dX3_emptyLog_5 (by decide) ?_
  obtain ⟨S2, e1, h⟩ := lt_e h
  refine u_cVv X M hl.1 (kX6_putS (uRw30 hS) e1) cw_X3_50 ⟨by decide, by decide⟩ (uR_recv X M (uRw30 hS)) rfl rfl (Nat.le_of_ble_eq_true rfl) ⟨Nat.zero_le _, Nat.zero_le _⟩ dX3_emptyLog_6 (fun H locs M => ?_)
  exact u_vret X hret M (congrArg (va_up V t) (Option.some.inj h)) dX3_emptyLog_9
def fX3_isOf (S : (Nat → Nat → Int32)) (a1 : Int32) (a2 : Int32) (a3 : Int32) : Int32 :=
  if a3 = (-1) then
    1
  else
    lt_ (fget 48 (S 33) ((a1 * 12) + a2)) fun x3 =>
    if x3 = a3 then
      1
    else
      0
set_option maxHeartbeats 4000000 in
set_option maxRecDepth 20000 in
theorem kX3_isOf {l : Launch} {G : UG} {V : uV} {t : Nat} (hS : uSt G t) {S : (Nat → Nat → Int32)} (hV : V t = S) {a1 : Int32} {a2 : Int32} {a3 : Int32} {r : Int32} (h : fX3_isOf S a1 a2 a3 = r) : uMi l G yX3_isOf cX3_isOf 4 .boolean (uR 1 21) [.ref (ga G t 21), .int a1, .int a2, .int a3] V r V := by
  refine uMi_of rfl (Nat.le_of_ble_eq_true rfl) (fun p e s m args below meth c ls X hret hl M => ?_)
  have hl : lv_has ls 4 [(0, .ref (ga G t 21)), (1, .int a1), (2, .int a2), (3, .int a3)] := hl
  have hx := X.hx
  have hb := X.hb
  unfold fX3_isOf at h
  refine lv_iload_n hx hb dX3_isOf_0 rfl (lv_at hl 3 rfl) ?_
  refine lv_iconst (v := (-1)) hx hb dX3_isOf_1 (by decide) ?_
  refine lv_icmp_eq (tgt := 22) hx hb dX3_isOf_2 (by decide) (fun c1 => ?_) (fun c1 => ?_)
  · have h := it_t h c1
    refine lv_iconst (v := 1) hx hb dX3_isOf_22 (by decide) ?_
    refine lv_goto (tgt := 27) hx hb dX3_isOf_23 (by decide) ?_
    exact u_iret X hret M h (rfl) rfl dX3_isOf_27
  · have h := it_f h c1
    refine lv_aload_n hx hb dX3_isOf_5 rfl (lv_at hl 0 rfl) ?_
    refine gf_X3_30 X M hS dX3_isOf_6 ?_
    refine lv_iload_n hx hb dX3_isOf_9 rfl (lv_at hl 1 rfl) ?_
    refine lv_bipush (v := 12) hx hb dX3_isOf_10 (by decide) ?_
    refine lv_imul hx hb dX3_isOf_12 ?_
    refine lv_iload_n hx hb dX3_isOf_13 rfl (lv_at hl 2 rfl) ?_
    refine lv_iadd hx hb dX3_isOf_14 ?_
    obtain ⟨x3, e2, h⟩ := lt_e h
    refine u_cVi X M hl.1 (kX6_get (uRw32 hS) (congrFun hV 33) e2.symm) cw_X3_46 ⟨by decide, by decide⟩ (uR_recv X M (uRw32 hS)) rfl rfl (Nat.le_of_ble_eq_true rfl) ⟨Nat.zero_le _, Nat.zero_le _⟩ dX3_isOf_15 (fun H locs M n4 => ?_)
    refine lv_iload_n hx hb dX3_isOf_18 rfl (lv_at hl 3 rfl) ?_
    refine lv_icmp_ne (tgt := 26) hx hb dX3_isOf_19 (by decide) (fun c5 => ?_) (fun c5 => ?_)
    · have h := it_f h c5
      refine lv_iconst (v := 0) hx hb dX3_isOf_26 (by decide) ?_
      exact u_iret X hret M h (rfl) rfl dX3_isOf_27
    · have h := it_t h c5
      refine lv_iconst (v := 1) hx hb dX3_isOf_22 (by decide) ?_
      refine lv_goto (tgt := 27) hx hb dX3_isOf_23 (by decide) ?_
      exact u_iret X hret M h (rfl) rfl dX3_isOf_27
def fX3_clear (S : (Nat → Nat → Int32)) : Option (Nat → Nat → Int32) :=
  lt_ (va_up S 23 (fun _ => 2)) fun S2 =>
  lt_ (va_up S2 27 (fun _ => 1)) fun S5 =>
  lt_ (va_up S5 25 (fun _ => 0)) fun S8 =>
  lt_ (va_up S8 29 (fun _ => 0)) fun S11 =>
  lt_ (va_up S11 31 (fun _ => 0)) fun S14 =>
  some S14
set_option maxHeartbeats 4000000 in
set_option maxRecDepth 20000 in
theorem kX3_clear {l : Launch} {G : UG} {V : uV} {t : Nat} (hS : uSt G t) {S S' : (Nat → Nat → Int32)}  (h : fX3_clear S = some S') : uMv l G yX3_clear cX3_clear 1 (uR 1 22) [.ref (ga G t 21)] (va_up V t S) (va_up V t S') := by
  refine uMv_of rfl (Nat.le_of_ble_eq_true rfl) (fun p e s m args below meth c ls X hret hl M => ?_)
  have hl : lv_has ls 1 [(0, .ref (ga G t 21))] := hl
  have hx := X.hx
  have hb := X.hb
  unfold fX3_clear at h
  refine lv_aload_n hx hb dX3_clear_0 rfl (lv_at hl 0 rfl) ?_
  refine gf_X3_14 X M hS dX3_clear_1 ?_
  refine lv_iconst (v := 2) hx hb dX3_clear_4 (by decide) ?_
  obtain ⟨S2, e1, h⟩ := lt_e h
  refine u_cVv X M hl.1 (kX6_fillS (uRw22 hS) e1) cw_X3_39 ⟨by decide, by decide⟩ (uR_recv X M (uRw22 hS)) rfl rfl (Nat.le_of_ble_eq_true rfl) ⟨Nat.zero_le _, Nat.zero_le _⟩ dX3_clear_5 (fun H locs M => ?_)
  refine lv_aload_n hx hb dX3_clear_8 rfl (lv_at hl 0 rfl) ?_
  refine gf_X3_21 X M hS dX3_clear_9 ?_
  refine lv_iconst (v := 1) hx hb dX3_clear_12 (by decide) ?_
  obtain ⟨S5, e4, h⟩ := lt_e h
  refine u_cVv X M hl.1 (kX6_fillS (uRw26 hS) e4) cw_X3_39 ⟨by decide, by decide⟩ (uR_recv X M (uRw26 hS)) rfl rfl (Nat.le_of_ble_eq_true rfl) ⟨Nat.zero_le _, Nat.zero_le _⟩ dX3_clear_13 (fun H locs M => ?_)
  refine lv_aload_n hx hb dX3_clear_16 rfl (lv_at hl 0 rfl) ?_
  refine gf_X3_18 X M hS dX3_clear_17 ?_
  refine lv_iconst (v := 0) hx hb dX3_clear_20 (by decide) ?_
  obtain ⟨S8, e7, h⟩ := lt_e h
  refine u_cVv X M hl.1 (kX6_fillS (uRw24 hS) e7) cw_X3_39 ⟨by decide, by decide⟩ (uR_recv X M (uRw24 hS)) rfl rfl (Nat.le_of_ble_eq_true rfl) ⟨Nat.zero_le _, Nat.zero_le _⟩ dX3_clear_21 (fun H locs M => ?_)
  refine lv_aload_n hx hb dX3_clear_24 rfl (lv_at hl 0 rfl) ?_
  refine gf_X3_24 X M hS dX3_clear_25 ?_
  refine lv_iconst (v := 0) hx hb dX3_clear_28 (by decide) ?_
  obtain ⟨S11, e10, h⟩ := lt_e h
  refine u_cVv X M hl.1 (kX6_fillS (uRw28 hS) e10) cw_X3_39 ⟨by decide, by decide⟩ (uR_recv X M (uRw28 hS)) rfl rfl (Nat.le_of_ble_eq_true rfl) ⟨Nat.zero_le _, Nat.zero_le _⟩ dX3_clear_29 (fun H locs M => ?_)
  refine lv_aload_n hx hb dX3_clear_32 rfl (lv_at hl 0 rfl) ?_
  refine gf_X3_27 X M hS dX3_clear_33 ?_
  refine lv_iconst (v := 0) hx hb dX3_clear_36 (by decide) ?_
  obtain ⟨S14, e13, h⟩ := lt_e h
  refine u_cVv X M hl.1 (kX6_fillS (uRw30 hS) e13) cw_X3_39 ⟨by decide, by decide⟩ (uR_recv X M (uRw30 hS)) rfl rfl (Nat.le_of_ble_eq_true rfl) ⟨Nat.zero_le _, Nat.zero_le _⟩ dX3_clear_37 (fun H locs M => ?_)
  exact u_vret X hret M (congrArg (va_up V t) (Option.some.inj h)) dX3_clear_40
def fX3_ridesInLogs_L22 (k : Int32 → Int32 → Int32 → Int32 → Int32 → Option Int32) (S : (Nat → Nat → Int32)) (n : Nat) (y1 : Int32) (y2 : Int32) (y3 : Int32) (y4 : Int32) (y5 : Int32) : Option Int32 :=
  match n with
  | 0 => none
  | n + 1 =>
    if y4 ≤ y5 then
      k y1 y2 y3 y4 y5
    else
      lt_ (fX3_isOf S y3 y5 y1) fun x7 =>
      if x7 = 0 then
        lt_ (y5 + 1) fun x10 =>
        fX3_ridesInLogs_L22 k S n y1 y2 y3 y4 x10
      else
        lt_ (y2 + 1) fun x12 =>
        lt_ (y5 + 1) fun x14 =>
        fX3_ridesInLogs_L22 k S n y1 x12 y3 y4 x14
set_option maxHeartbeats 4000000 in
set_option maxRecDepth 20000 in
theorem lpX3_ridesInLogs_22 {l : Launch} {G : UG} {V : uV} {t : Nat} (hS : uSt G t) {S : (Nat → Nat → Int32)} (hV : V t = S) {r : Int32} {p : Program} {e : Env} {s : State} {m : MethodId} {args : Array Value} {below : List Frame} {meth : Method} {c : Code} (X : UC p s m args meth c cX3_ridesInLogs 6 RX3 G) (hret : meth.sig.returnType = some .int) {k : Int32 → Int32 → Int32 → Int32 → Int32 → Option Int32} (kk : ∀ (y1 : Int32) (y2 : Int32) (y3 : Int32) (y4 : Int32) (y5 : Int32) (H : Heap) (locs : List Loc) (ls : Array Slot), k y1 y2 y3 y4 y5 = some r → UM G (V) s H locs → lv_has ls 6 [(0, .ref (ga G t 21)), (1, .int y1), (2, .int y2), (3, .int y3), (4, .int y4), (5, .int y5)] → W p l e (uR 2 44) s m args below meth c H locs 0 0 (MQ below (uQi G .int r V) args s 0 0 (uA G)) (F0 m 49 ls [])) : ∀ (n : Nat) (y1 : Int32) (y2 : Int32) (y3 : Int32) (y4 : Int32) (y5 : Int32) (H : Heap) (locs : List Loc) (ls : Array Slot), fX3_ridesInLogs_L22 k S n y1 y2 y3 y4 y5 = some r → UM G (V) s H locs → lv_has ls 6 [(0, .ref (ga G t 21)), (1, .int y1), (2, .int y2), (3, .int y3), (4, .int y4), (5, .int y5)] → W p l e (uR 2 44) s m args below meth c H locs 0 0 (MQ below (uQi G .int r V) args s 0 0 (uA G)) (F0 m 22 ls []) := by
  intro n
  have hx := X.hx
  have hb := X.hb
  induction n with
  | zero => intro y1 y2 y3 y4 y5 H locs ls h M hl; rw [fX3_ridesInLogs_L22] at h; cases h
  | succ n ih =>
    intro y1 y2 y3 y4 y5 H locs ls h M hl
    rw [fX3_ridesInLogs_L22] at h
    refine lv_iload hx hb dX3_ridesInLogs_22 (lv_at hl 5 rfl) ?_
    refine lv_iload hx hb dX3_ridesInLogs_24 (lv_at hl 4 rfl) ?_
    refine lv_icmp_ge (tgt := 49) hx hb dX3_ridesInLogs_26 (by decide) (fun c5 => ?_) (fun c5 => ?_)
    · have h := it_t h c5
      exact kk _ _ _ _ _ _ _ _ h M (lv_sub hl [0, 1, 2, 3, 4, 5] rfl)
    · have h := it_f h c5
      refine lv_aload_n hx hb dX3_ridesInLogs_29 rfl (lv_at hl 0 rfl) ?_
      refine lv_iload_n hx hb dX3_ridesInLogs_30 rfl (lv_at hl 3 rfl) ?_
      refine lv_iload hx hb dX3_ridesInLogs_31 (lv_at hl 5 rfl) ?_
      refine lv_iload_n hx hb dX3_ridesInLogs_33 rfl (lv_at hl 1 rfl) ?_
      obtain ⟨x7, e6, h⟩ := lt_e h
      refine u_cVi X M hl.1 (kX3_isOf hS hV e6.symm) cw_X3_61 ⟨by decide, by decide⟩ (rc_X3 X M hS) rfl rfl (Nat.le_of_ble_eq_true rfl) ⟨Nat.zero_le _, Nat.zero_le _⟩ dX3_ridesInLogs_34 (fun H locs M n8 => ?_)
      refine lv_if_eq (tgt := 43) hx hb dX3_ridesInLogs_37 (by decide) (fun c9 => ?_) (fun c9 => ?_)
      · have h := it_t h c9
        obtain ⟨x10, e11, h⟩ := lt_e h
        refine lv_iinc (v := x10) (lv' := [(5, .int x10), (0, .ref (ga G t 21)), (1, .int y1), (2, .int y2), (3, .int y3), (4, .int y4)]) hx hb dX3_ridesInLogs_43 hl (k := 5) rfl (by rw [e11]; rfl) (by decide) rfl (fun ls hl => ?_)
        refine lv_goto (tgt := 22) hx hb dX3_ridesInLogs_46 (by decide) ?_
        exact ih _ _ _ _ _ _ _ _ h M (lv_sub hl [1, 2, 3, 4, 5, 0] rfl)
      · have h := it_f h c9
        obtain ⟨x12, e13, h⟩ := lt_e h
        refine lv_iinc (v := x12) (lv' := [(2, .int x12), (0, .ref (ga G t 21)), (1, .int y1), (3, .int y3), (4, .int y4), (5, .int y5)]) hx hb dX3_ridesInLogs_40 hl (k := 2) rfl (by rw [e13]; rfl) (by decide) rfl (fun ls hl => ?_)
        obtain ⟨x14, e15, h⟩ := lt_e h
        refine lv_iinc (v := x14) (lv' := [(5, .int x14), (2, .int x12), (0, .ref (ga G t 21)), (1, .int y1), (3, .int y3), (4, .int y4)]) hx hb dX3_ridesInLogs_43 hl (k := 5) rfl (by rw [e15]; rfl) (by decide) rfl (fun ls hl => ?_)
        refine lv_goto (tgt := 22) hx hb dX3_ridesInLogs_46 (by decide) ?_
        exact ih _ _ _ _ _ _ _ _ h M (lv_sub hl [2, 3, 1, 4, 5, 0] rfl)
def fX3_ridesInLogs_L4 (S : (Nat → Nat → Int32)) (n : Nat) (y1 : Int32) (y2 : Int32) (y3 : Int32) : Option Int32 :=
  match n with
  | 0 => none
  | n + 1 =>
    if 4 ≤ y3 then
      some y2
    else
      lt_ (fget 4 (S 31) y3) fun x3 =>
      fX3_ridesInLogs_L22 (fun x16 x17 x18 x19 x20 =>
          lt_ (x18 + 1) fun x21 =>
          fX3_ridesInLogs_L4 S n x16 x17 x21) S 3000 y1 y2 y3 x3 0
set_option maxHeartbeats 4000000 in
set_option maxRecDepth 20000 in
theorem lpX3_ridesInLogs_4 {l : Launch} {G : UG} {V : uV} {t : Nat} (hS : uSt G t) {S : (Nat → Nat → Int32)} (hV : V t = S) {r : Int32} {p : Program} {e : Env} {s : State} {m : MethodId} {args : Array Value} {below : List Frame} {meth : Method} {c : Code} (X : UC p s m args meth c cX3_ridesInLogs 6 RX3 G) (hret : meth.sig.returnType = some .int) : ∀ (n : Nat) (y1 : Int32) (y2 : Int32) (y3 : Int32) (H : Heap) (locs : List Loc) (ls : Array Slot), fX3_ridesInLogs_L4 S n y1 y2 y3 = some r → UM G (V) s H locs → lv_has ls 6 [(0, .ref (ga G t 21)), (1, .int y1), (2, .int y2), (3, .int y3)] → W p l e (uR 2 44) s m args below meth c H locs 0 0 (MQ below (uQi G .int r V) args s 0 0 (uA G)) (F0 m 4 ls []) := by
  intro n
  have hx := X.hx
  have hb := X.hb
  induction n with
  | zero => intro y1 y2 y3 H locs ls h M hl; rw [fX3_ridesInLogs_L4] at h; cases h
  | succ n ih =>
    intro y1 y2 y3 H locs ls h M hl
    rw [fX3_ridesInLogs_L4] at h
    refine lv_iload_n hx hb dX3_ridesInLogs_4 rfl (lv_at hl 3 rfl) ?_
    refine lv_iconst (v := 4) hx hb dX3_ridesInLogs_5 (by decide) ?_
    refine lv_icmp_ge (tgt := 55) hx hb dX3_ridesInLogs_6 (by decide) (fun c1 => ?_) (fun c1 => ?_)
    · have h := it_t h c1
      refine lv_iload_n hx hb dX3_ridesInLogs_55 rfl (lv_at hl 2 rfl) ?_
      exact u_iret X hret M (Option.some.inj h) (rfl) rfl dX3_ridesInLogs_56
    · have h := it_f h c1
      refine lv_aload_n hx hb dX3_ridesInLogs_9 rfl (lv_at hl 0 rfl) ?_
      refine gf_X3_27 X M hS dX3_ridesInLogs_10 ?_
      refine lv_iload_n hx hb dX3_ridesInLogs_13 rfl (lv_at hl 3 rfl) ?_
      obtain ⟨x3, e2, h⟩ := lt_e h
      refine u_cVi X M hl.1 (kX6_get (uRw30 hS) (congrFun hV 31) e2.symm) cw_X3_46 ⟨by decide, by decide⟩ (uR_recv X M (uRw30 hS)) rfl rfl (Nat.le_of_ble_eq_true rfl) ⟨Nat.zero_le _, Nat.zero_le _⟩ dX3_ridesInLogs_14 (fun H locs M n4 => ?_)
      refine lv_istore (lv' := [(4, .int x3), (0, .ref (ga G t 21)), (1, .int y1), (2, .int y2), (3, .int y3)]) hx hb dX3_ridesInLogs_17 hl (by decide) rfl (fun ls hl => ?_)
      refine lv_iconst (v := 0) hx hb dX3_ridesInLogs_19 (by decide) ?_
      refine lv_istore (lv' := [(5, .int 0), (4, .int x3), (0, .ref (ga G t 21)), (1, .int y1), (2, .int y2), (3, .int y3)]) hx hb dX3_ridesInLogs_20 hl (by decide) rfl (fun ls hl => ?_)
      refine lpX3_ridesInLogs_22 hS hV X hret (fun x16 x17 x18 x19 x20 H locs ls h M hl => ?_) 3000 _ _ _ _ _ _ _ _ h M (lv_sub hl [2, 3, 4, 5, 1, 0] rfl)
      obtain ⟨x21, e22, h⟩ := lt_e h
      refine lv_iinc (v := x21) (lv' := [(3, .int x21), (0, .ref (ga G t 21)), (1, .int x16), (2, .int x17), (4, .int x19), (5, .int x20)]) hx hb dX3_ridesInLogs_49 hl (k := 3) rfl (by rw [e22]; rfl) (by decide) rfl (fun ls hl => ?_)
      refine lv_goto (tgt := 4) hx hb dX3_ridesInLogs_52 (by decide) ?_
      exact ih _ _ _ _ _ _ h M (lv_sub hl [1, 2, 3, 0] rfl)
def fX3_ridesInLogs (S : (Nat → Nat → Int32)) (a1 : Int32) : Option Int32 :=
  fX3_ridesInLogs_L4 S 3000 a1 0 0
set_option maxHeartbeats 4000000 in
set_option maxRecDepth 20000 in
theorem kX3_ridesInLogs {l : Launch} {G : UG} {V : uV} {t : Nat} (hS : uSt G t) {S : (Nat → Nat → Int32)} (hV : V t = S) {a1 : Int32} {r : Int32} (h : fX3_ridesInLogs S a1 = some r) : uMi l G yX3_ridesInLogs cX3_ridesInLogs 6 .int (uR 2 44) [.ref (ga G t 21), .int a1] V r V := by
  refine uMi_of rfl (Nat.le_of_ble_eq_true rfl) (fun p e s m args below meth c ls X hret hl M => ?_)
  have hl : lv_has ls 6 [(0, .ref (ga G t 21)), (1, .int a1)] := hl
  have hx := X.hx
  have hb := X.hb
  unfold fX3_ridesInLogs at h
  refine lv_iconst (v := 0) hx hb dX3_ridesInLogs_0 (by decide) ?_
  refine lv_istore_n (lv' := [(2, .int 0), (0, .ref (ga G t 21)), (1, .int a1)]) hx hb dX3_ridesInLogs_1 rfl hl (by decide) rfl (fun ls hl => ?_)
  refine lv_iconst (v := 0) hx hb dX3_ridesInLogs_2 (by decide) ?_
  refine lv_istore_n (lv' := [(3, .int 0), (2, .int 0), (0, .ref (ga G t 21)), (1, .int a1)]) hx hb dX3_ridesInLogs_3 rfl hl (by decide) rfl (fun ls hl => ?_)
  exact lpX3_ridesInLogs_4 hS hV X hret 3000 _ _ _ _ _ _ h M (lv_sub hl [2, 3, 1, 0] rfl)
def fX3_faresInLogs_L22 (k : Int32 → Int32 → Int32 → Int32 → Int32 → Option Int32) (S : (Nat → Nat → Int32)) (n : Nat) (y1 : Int32) (y2 : Int32) (y3 : Int32) (y4 : Int32) (y5 : Int32) : Option Int32 :=
  match n with
  | 0 => none
  | n + 1 =>
    if y4 ≤ y5 then
      k y1 y2 y3 y4 y5
    else
      lt_ (fX3_isOf S y3 y5 y1) fun x7 =>
      if x7 = 0 then
        lt_ (y5 + 1) fun x10 =>
        fX3_faresInLogs_L22 k S n y1 y2 y3 y4 x10
      else
        lt_ (fget 48 (S 37) ((y3 * 12) + y5)) fun x13 =>
        lt_ ((y2 + x13)) fun x15 =>
        lt_ (y5 + 1) fun x17 =>
        fX3_faresInLogs_L22 k S n y1 x15 y3 y4 x17
set_option maxHeartbeats 4000000 in
set_option maxRecDepth 20000 in
theorem lpX3_faresInLogs_22 {l : Launch} {G : UG} {V : uV} {t : Nat} (hS : uSt G t) {S : (Nat → Nat → Int32)} (hV : V t = S) {r : Int32} {p : Program} {e : Env} {s : State} {m : MethodId} {args : Array Value} {below : List Frame} {meth : Method} {c : Code} (X : UC p s m args meth c cX3_faresInLogs 6 RX3 G) (hret : meth.sig.returnType = some .int) {k : Int32 → Int32 → Int32 → Int32 → Int32 → Option Int32} (kk : ∀ (y1 : Int32) (y2 : Int32) (y3 : Int32) (y4 : Int32) (y5 : Int32) (H : Heap) (locs : List Loc) (ls : Array Slot), k y1 y2 y3 y4 y5 = some r → UM G (V) s H locs → lv_has ls 6 [(0, .ref (ga G t 21)), (1, .int y1), (2, .int y2), (3, .int y3), (4, .int y4), (5, .int y5)] → W p l e (uR 2 44) s m args below meth c H locs 0 0 (MQ below (uQi G .int r V) args s 0 0 (uA G)) (F0 m 63 ls [])) : ∀ (n : Nat) (y1 : Int32) (y2 : Int32) (y3 : Int32) (y4 : Int32) (y5 : Int32) (H : Heap) (locs : List Loc) (ls : Array Slot), fX3_faresInLogs_L22 k S n y1 y2 y3 y4 y5 = some r → UM G (V) s H locs → lv_has ls 6 [(0, .ref (ga G t 21)), (1, .int y1), (2, .int y2), (3, .int y3), (4, .int y4), (5, .int y5)] → W p l e (uR 2 44) s m args below meth c H locs 0 0 (MQ below (uQi G .int r V) args s 0 0 (uA G)) (F0 m 22 ls []) := by
  intro n
  have hx := X.hx
  have hb := X.hb
  induction n with
  | zero => intro y1 y2 y3 y4 y5 H locs ls h M hl; rw [fX3_faresInLogs_L22] at h; cases h
  | succ n ih =>
    intro y1 y2 y3 y4 y5 H locs ls h M hl
    rw [fX3_faresInLogs_L22] at h
    refine lv_iload hx hb dX3_faresInLogs_22 (lv_at hl 5 rfl) ?_
    refine lv_iload hx hb dX3_faresInLogs_24 (lv_at hl 4 rfl) ?_
    refine lv_icmp_ge (tgt := 63) hx hb dX3_faresInLogs_26 (by decide) (fun c5 => ?_) (fun c5 => ?_)
    · have h := it_t h c5
      exact kk _ _ _ _ _ _ _ _ h M (lv_sub hl [0, 1, 2, 3, 4, 5] rfl)
    · have h := it_f h c5
      refine lv_aload_n hx hb dX3_faresInLogs_29 rfl (lv_at hl 0 rfl) ?_
      refine lv_iload_n hx hb dX3_faresInLogs_30 rfl (lv_at hl 3 rfl) ?_
      refine lv_iload hx hb dX3_faresInLogs_31 (lv_at hl 5 rfl) ?_
      refine lv_iload_n hx hb dX3_faresInLogs_33 rfl (lv_at hl 1 rfl) ?_
      obtain ⟨x7, e6, h⟩ := lt_e h
      refine u_cVi X M hl.1 (kX3_isOf hS hV e6.symm) cw_X3_61 ⟨by decide, by decide⟩ (rc_X3 X M hS) rfl rfl (Nat.le_of_ble_eq_true rfl) ⟨Nat.zero_le _, Nat.zero_le _⟩ dX3_faresInLogs_34 (fun H locs M n8 => ?_)
      refine lv_if_eq (tgt := 57) hx hb dX3_faresInLogs_37 (by decide) (fun c9 => ?_) (fun c9 => ?_)
      · have h := it_t h c9
        obtain ⟨x10, e11, h⟩ := lt_e h
        refine lv_iinc (v := x10) (lv' := [(5, .int x10), (0, .ref (ga G t 21)), (1, .int y1), (2, .int y2), (3, .int y3), (4, .int y4)]) hx hb dX3_faresInLogs_57 hl (k := 5) rfl (by rw [e11]; rfl) (by decide) rfl (fun ls hl => ?_)
        refine lv_goto (tgt := 22) hx hb dX3_faresInLogs_60 (by decide) ?_
        exact ih _ _ _ _ _ _ _ _ h M (lv_sub hl [1, 2, 3, 4, 5, 0] rfl)
      · have h := it_f h c9
        refine lv_iload_n hx hb dX3_faresInLogs_40 rfl (lv_at hl 2 rfl) ?_
        refine lv_aload_n hx hb dX3_faresInLogs_41 rfl (lv_at hl 0 rfl) ?_
        refine gf_X3_36 X M hS dX3_faresInLogs_42 ?_
        refine lv_iload_n hx hb dX3_faresInLogs_45 rfl (lv_at hl 3 rfl) ?_
        refine lv_bipush (v := 12) hx hb dX3_faresInLogs_46 (by decide) ?_
        refine lv_imul hx hb dX3_faresInLogs_48 ?_
        refine lv_iload hx hb dX3_faresInLogs_49 (lv_at hl 5 rfl) ?_
        refine lv_iadd hx hb dX3_faresInLogs_51 ?_
        obtain ⟨x13, e12, h⟩ := lt_e h
        refine u_cVi X M hl.1 (kX6_get (uRw36 hS) (congrFun hV 37) e12.symm) cw_X3_46 ⟨by decide, by decide⟩ (uR_recv X M (uRw36 hS)) rfl rfl (Nat.le_of_ble_eq_true rfl) ⟨Nat.zero_le _, Nat.zero_le _⟩ dX3_faresInLogs_52 (fun H locs M n14 => ?_)
        refine lv_iadd hx hb dX3_faresInLogs_55 ?_
        obtain ⟨x15, e16, h⟩ := lt_e h
        refine u_topi e16 ?_
        refine lv_istore_n (lv' := [(2, .int x15), (0, .ref (ga G t 21)), (1, .int y1), (3, .int y3), (4, .int y4), (5, .int y5)]) hx hb dX3_faresInLogs_56 rfl hl (by decide) rfl (fun ls hl => ?_)
        obtain ⟨x17, e18, h⟩ := lt_e h
        refine lv_iinc (v := x17) (lv' := [(5, .int x17), (2, .int x15), (0, .ref (ga G t 21)), (1, .int y1), (3, .int y3), (4, .int y4)]) hx hb dX3_faresInLogs_57 hl (k := 5) rfl (by rw [e18]; rfl) (by decide) rfl (fun ls hl => ?_)
        refine lv_goto (tgt := 22) hx hb dX3_faresInLogs_60 (by decide) ?_
        exact ih _ _ _ _ _ _ _ _ h M (lv_sub hl [2, 3, 1, 4, 5, 0] rfl)
def fX3_faresInLogs_L4 (S : (Nat → Nat → Int32)) (n : Nat) (y1 : Int32) (y2 : Int32) (y3 : Int32) : Option Int32 :=
  match n with
  | 0 => none
  | n + 1 =>
    if 4 ≤ y3 then
      some y2
    else
      lt_ (fget 4 (S 31) y3) fun x3 =>
      fX3_faresInLogs_L22 (fun x19 x20 x21 x22 x23 =>
          lt_ (x21 + 1) fun x24 =>
          fX3_faresInLogs_L4 S n x19 x20 x24) S 3000 y1 y2 y3 x3 0
set_option maxHeartbeats 4000000 in
set_option maxRecDepth 20000 in
theorem lpX3_faresInLogs_4 {l : Launch} {G : UG} {V : uV} {t : Nat} (hS : uSt G t) {S : (Nat → Nat → Int32)} (hV : V t = S) {r : Int32} {p : Program} {e : Env} {s : State} {m : MethodId} {args : Array Value} {below : List Frame} {meth : Method} {c : Code} (X : UC p s m args meth c cX3_faresInLogs 6 RX3 G) (hret : meth.sig.returnType = some .int) : ∀ (n : Nat) (y1 : Int32) (y2 : Int32) (y3 : Int32) (H : Heap) (locs : List Loc) (ls : Array Slot), fX3_faresInLogs_L4 S n y1 y2 y3 = some r → UM G (V) s H locs → lv_has ls 6 [(0, .ref (ga G t 21)), (1, .int y1), (2, .int y2), (3, .int y3)] → W p l e (uR 2 44) s m args below meth c H locs 0 0 (MQ below (uQi G .int r V) args s 0 0 (uA G)) (F0 m 4 ls []) := by
  intro n
  have hx := X.hx
  have hb := X.hb
  induction n with
  | zero => intro y1 y2 y3 H locs ls h M hl; rw [fX3_faresInLogs_L4] at h; cases h
  | succ n ih =>
    intro y1 y2 y3 H locs ls h M hl
    rw [fX3_faresInLogs_L4] at h
    refine lv_iload_n hx hb dX3_faresInLogs_4 rfl (lv_at hl 3 rfl) ?_
    refine lv_iconst (v := 4) hx hb dX3_faresInLogs_5 (by decide) ?_
    refine lv_icmp_ge (tgt := 69) hx hb dX3_faresInLogs_6 (by decide) (fun c1 => ?_) (fun c1 => ?_)
    · have h := it_t h c1
      refine lv_iload_n hx hb dX3_faresInLogs_69 rfl (lv_at hl 2 rfl) ?_
      exact u_iret X hret M (Option.some.inj h) (rfl) rfl dX3_faresInLogs_70
    · have h := it_f h c1
      refine lv_aload_n hx hb dX3_faresInLogs_9 rfl (lv_at hl 0 rfl) ?_
      refine gf_X3_27 X M hS dX3_faresInLogs_10 ?_
      refine lv_iload_n hx hb dX3_faresInLogs_13 rfl (lv_at hl 3 rfl) ?_
      obtain ⟨x3, e2, h⟩ := lt_e h
      refine u_cVi X M hl.1 (kX6_get (uRw30 hS) (congrFun hV 31) e2.symm) cw_X3_46 ⟨by decide, by decide⟩ (uR_recv X M (uRw30 hS)) rfl rfl (Nat.le_of_ble_eq_true rfl) ⟨Nat.zero_le _, Nat.zero_le _⟩ dX3_faresInLogs_14 (fun H locs M n4 => ?_)
      refine lv_istore (lv' := [(4, .int x3), (0, .ref (ga G t 21)), (1, .int y1), (2, .int y2), (3, .int y3)]) hx hb dX3_faresInLogs_17 hl (by decide) rfl (fun ls hl => ?_)
      refine lv_iconst (v := 0) hx hb dX3_faresInLogs_19 (by decide) ?_
      refine lv_istore (lv' := [(5, .int 0), (4, .int x3), (0, .ref (ga G t 21)), (1, .int y1), (2, .int y2), (3, .int y3)]) hx hb dX3_faresInLogs_20 hl (by decide) rfl (fun ls hl => ?_)
      refine lpX3_faresInLogs_22 hS hV X hret (fun x19 x20 x21 x22 x23 H locs ls h M hl => ?_) 3000 _ _ _ _ _ _ _ _ h M (lv_sub hl [2, 3, 4, 5, 1, 0] rfl)
      obtain ⟨x24, e25, h⟩ := lt_e h
      refine lv_iinc (v := x24) (lv' := [(3, .int x24), (0, .ref (ga G t 21)), (1, .int x19), (2, .int x20), (4, .int x22), (5, .int x23)]) hx hb dX3_faresInLogs_63 hl (k := 3) rfl (by rw [e25]; rfl) (by decide) rfl (fun ls hl => ?_)
      refine lv_goto (tgt := 4) hx hb dX3_faresInLogs_66 (by decide) ?_
      exact ih _ _ _ _ _ _ h M (lv_sub hl [1, 2, 3, 0] rfl)
def fX3_faresInLogs (S : (Nat → Nat → Int32)) (a1 : Int32) : Option Int32 :=
  fX3_faresInLogs_L4 S 3000 a1 0 0
set_option maxHeartbeats 4000000 in
set_option maxRecDepth 20000 in
theorem kX3_faresInLogs {l : Launch} {G : UG} {V : uV} {t : Nat} (hS : uSt G t) {S : (Nat → Nat → Int32)} (hV : V t = S) {a1 : Int32} {r : Int32} (h : fX3_faresInLogs S a1 = some r) : uMi l G yX3_faresInLogs cX3_faresInLogs 6 .int (uR 2 44) [.ref (ga G t 21), .int a1] V r V := by
  refine uMi_of rfl (Nat.le_of_ble_eq_true rfl) (fun p e s m args below meth c ls X hret hl M => ?_)
  have hl : lv_has ls 6 [(0, .ref (ga G t 21)), (1, .int a1)] := hl
  have hx := X.hx
  have hb := X.hb
  unfold fX3_faresInLogs at h
  refine lv_iconst (v := 0) hx hb dX3_faresInLogs_0 (by decide) ?_
  refine lv_istore_n (lv' := [(2, .int 0), (0, .ref (ga G t 21)), (1, .int a1)]) hx hb dX3_faresInLogs_1 rfl hl (by decide) rfl (fun ls hl => ?_)
  refine lv_iconst (v := 0) hx hb dX3_faresInLogs_2 (by decide) ?_
  refine lv_istore_n (lv' := [(3, .int 0), (2, .int 0), (0, .ref (ga G t 21)), (1, .int a1)]) hx hb dX3_faresInLogs_3 rfl hl (by decide) rfl (fun ls hl => ?_)
  exact lpX3_faresInLogs_4 hS hV X hret 3000 _ _ _ _ _ _ h M (lv_sub hl [2, 3, 1, 0] rfl)
end
section
theorem dX10_mostOfSetting_0 : decode cX10_mostOfSetting 0 = .ok (.iload_n 0, 1) := by decide +kernel
theorem dX10_mostOfSetting_1 : decode cX10_mostOfSetting 1 = .ok (.tableswitch 35 0 2 #[27, 30, 33], 27) := by decide +kernel
theorem dX10_mostOfSetting_28 : decode cX10_mostOfSetting 28 = .ok (.bipush 50, 2) := by decide +kernel
theorem dX10_mostOfSetting_30 : decode cX10_mostOfSetting 30 = .ok (.ireturn, 1) := by decide +kernel
theorem dX10_mostOfSetting_31 : decode cX10_mostOfSetting 31 = .ok (.bipush 30, 2) := by decide +kernel
theorem dX10_mostOfSetting_33 : decode cX10_mostOfSetting 33 = .ok (.ireturn, 1) := by decide +kernel
theorem dX10_mostOfSetting_34 : decode cX10_mostOfSetting 34 = .ok (.iconst 1, 1) := by decide +kernel
theorem dX10_mostOfSetting_35 : decode cX10_mostOfSetting 35 = .ok (.ireturn, 1) := by decide +kernel
theorem dX10_mostOfSetting_36 : decode cX10_mostOfSetting 36 = .ok (.bipush 99, 2) := by decide +kernel
theorem dX10_mostOfSetting_38 : decode cX10_mostOfSetting 38 = .ok (.ireturn, 1) := by decide +kernel
theorem dX10_letsThrough_0 : decode cX10_letsThrough 0 = .ok (.iload_n 0, 1) := by decide +kernel
theorem dX10_letsThrough_1 : decode cX10_letsThrough 1 = .ok (.ifCond .lt 8, 3) := by decide +kernel
theorem dX10_letsThrough_4 : decode cX10_letsThrough 4 = .ok (.iload_n 0, 1) := by decide +kernel
theorem dX10_letsThrough_5 : decode cX10_letsThrough 5 = .ok (.iconst 2, 1) := by decide +kernel
theorem dX10_letsThrough_6 : decode cX10_letsThrough 6 = .ok (.if_icmp .le 9, 3) := by decide +kernel
theorem dX10_letsThrough_9 : decode cX10_letsThrough 9 = .ok (.iload_n 0, 1) := by decide +kernel
theorem dX10_letsThrough_10 : decode cX10_letsThrough 10 = .ok (.bipush 7, 2) := by decide +kernel
theorem dX10_letsThrough_12 : decode cX10_letsThrough 12 = .ok (.if_icmp .ne 7, 3) := by decide +kernel
theorem dX10_letsThrough_15 : decode cX10_letsThrough 15 = .ok (.iconst 1, 1) := by decide +kernel
theorem dX10_letsThrough_16 : decode cX10_letsThrough 16 = .ok (.goto 4, 3) := by decide +kernel
theorem dX10_letsThrough_19 : decode cX10_letsThrough 19 = .ok (.iconst 0, 1) := by decide +kernel
theorem dX10_letsThrough_20 : decode cX10_letsThrough 20 = .ok (.ireturn, 1) := by decide +kernel
theorem dX10_total_0 : decode cX10_total 0 = .ok (.iload_n 1, 1) := by decide +kernel
theorem dX10_total_1 : decode cX10_total 1 = .ok (.tableswitch 119 0 9 #[55, 63, 71, 76, 81, 86, 91, 100, 109, 114], 55) := by decide +kernel
theorem dX10_total_56 : decode cX10_total 56 = .ok (.aload_n 0, 1) := by decide +kernel
theorem dX10_total_57 : decode cX10_total 57 = .ok (.getfield 12, 3) := by decide +kernel
theorem dX10_total_60 : decode cX10_total 60 = .ok (.getfield 83, 3) := by decide +kernel
theorem dX10_total_63 : decode cX10_total 63 = .ok (.ireturn, 1) := by decide +kernel
theorem dX10_total_64 : decode cX10_total 64 = .ok (.aload_n 0, 1) := by decide +kernel
theorem dX10_total_65 : decode cX10_total 65 = .ok (.getfield 21, 3) := by decide +kernel
theorem dX10_total_68 : decode cX10_total 68 = .ok (.getfield 86, 3) := by decide +kernel
theorem dX10_total_71 : decode cX10_total 71 = .ok (.ireturn, 1) := by decide +kernel
theorem dX10_total_72 : decode cX10_total 72 = .ok (.aload_n 0, 1) := by decide +kernel
theorem dX10_total_73 : decode cX10_total 73 = .ok (.getfield 51, 3) := by decide +kernel
theorem dX10_total_76 : decode cX10_total 76 = .ok (.ireturn, 1) := by decide +kernel
theorem dX10_total_77 : decode cX10_total 77 = .ok (.aload_n 0, 1) := by decide +kernel
theorem dX10_total_78 : decode cX10_total 78 = .ok (.getfield 55, 3) := by decide +kernel
theorem dX10_total_81 : decode cX10_total 81 = .ok (.ireturn, 1) := by decide +kernel
theorem dX10_total_82 : decode cX10_total 82 = .ok (.aload_n 0, 1) := by decide +kernel
theorem dX10_total_83 : decode cX10_total 83 = .ok (.getfield 58, 3) := by decide +kernel
theorem dX10_total_86 : decode cX10_total 86 = .ok (.ireturn, 1) := by decide +kernel
theorem dX10_total_87 : decode cX10_total 87 = .ok (.aload_n 0, 1) := by decide +kernel
theorem dX10_total_88 : decode cX10_total 88 = .ok (.getfield 61, 3) := by decide +kernel
theorem dX10_total_91 : decode cX10_total 91 = .ok (.ireturn, 1) := by decide +kernel
theorem dX10_total_92 : decode cX10_total 92 = .ok (.aload_n 0, 1) := by decide +kernel
theorem dX10_total_93 : decode cX10_total 93 = .ok (.getfield 28, 3) := by decide +kernel
theorem dX10_total_96 : decode cX10_total 96 = .ok (.iconst (-1), 1) := by decide +kernel
theorem dX10_total_97 : decode cX10_total 97 = .ok (.invokevirtual 87, 3) := by decide +kernel
theorem dX10_total_100 : decode cX10_total 100 = .ok (.ireturn, 1) := by decide +kernel
theorem dX10_total_101 : decode cX10_total 101 = .ok (.aload_n 0, 1) := by decide +kernel
theorem dX10_total_102 : decode cX10_total 102 = .ok (.getfield 28, 3) := by decide +kernel
theorem dX10_total_105 : decode cX10_total 105 = .ok (.iconst (-1), 1) := by decide +kernel
theorem dX10_total_106 : decode cX10_total 106 = .ok (.invokevirtual 91, 3) := by decide +kernel
theorem dX10_total_109 : decode cX10_total 109 = .ok (.ireturn, 1) := by decide +kernel
theorem dX10_total_110 : decode cX10_total 110 = .ok (.aload_n 0, 1) := by decide +kernel
theorem dX10_total_111 : decode cX10_total 111 = .ok (.getfield 64, 3) := by decide +kernel
theorem dX10_total_114 : decode cX10_total 114 = .ok (.ireturn, 1) := by decide +kernel
theorem dX10_total_115 : decode cX10_total 115 = .ok (.aload_n 0, 1) := by decide +kernel
theorem dX10_total_116 : decode cX10_total 116 = .ok (.getfield 67, 3) := by decide +kernel
theorem dX10_total_119 : decode cX10_total 119 = .ok (.ireturn, 1) := by decide +kernel
theorem dX10_total_120 : decode cX10_total 120 = .ok (.aload_n 0, 1) := by decide +kernel
theorem dX10_total_121 : decode cX10_total 121 = .ok (.getfield 21, 3) := by decide +kernel
theorem dX10_total_124 : decode cX10_total 124 = .ok (.invokevirtual 94, 3) := by decide +kernel
theorem dX10_total_127 : decode cX10_total 127 = .ok (.ireturn, 1) := by decide +kernel
theorem dX10_accountNumber_0 : decode cX10_accountNumber 0 = .ok (.iload_n 2, 1) := by decide +kernel
theorem dX10_accountNumber_1 : decode cX10_accountNumber 1 = .ok (.tableswitch 126 0 6 #[43, 55, 67, 79, 91, 108, 117], 43) := by decide +kernel
theorem dX10_accountNumber_44 : decode cX10_accountNumber 44 = .ok (.aload_n 0, 1) := by decide +kernel
theorem dX10_accountNumber_45 : decode cX10_accountNumber 45 = .ok (.getfield 21, 3) := by decide +kernel
theorem dX10_accountNumber_48 : decode cX10_accountNumber 48 = .ok (.getfield 98, 3) := by decide +kernel
theorem dX10_accountNumber_51 : decode cX10_accountNumber 51 = .ok (.iload_n 1, 1) := by decide +kernel
theorem dX10_accountNumber_52 : decode cX10_accountNumber 52 = .ok (.invokevirtual 101, 3) := by decide +kernel
theorem dX10_accountNumber_55 : decode cX10_accountNumber 55 = .ok (.ireturn, 1) := by decide +kernel
theorem dX10_accountNumber_56 : decode cX10_accountNumber 56 = .ok (.aload_n 0, 1) := by decide +kernel
theorem dX10_accountNumber_57 : decode cX10_accountNumber 57 = .ok (.getfield 21, 3) := by decide +kernel
theorem dX10_accountNumber_60 : decode cX10_accountNumber 60 = .ok (.getfield 104, 3) := by decide +kernel
theorem dX10_accountNumber_63 : decode cX10_accountNumber 63 = .ok (.iload_n 1, 1) := by decide +kernel
theorem dX10_accountNumber_64 : decode cX10_accountNumber 64 = .ok (.invokevirtual 101, 3) := by decide +kernel
theorem dX10_accountNumber_67 : decode cX10_accountNumber 67 = .ok (.ireturn, 1) := by decide +kernel
theorem dX10_accountNumber_68 : decode cX10_accountNumber 68 = .ok (.aload_n 0, 1) := by decide +kernel
theorem dX10_accountNumber_69 : decode cX10_accountNumber 69 = .ok (.getfield 21, 3) := by decide +kernel
theorem dX10_accountNumber_72 : decode cX10_accountNumber 72 = .ok (.getfield 107, 3) := by decide +kernel
theorem dX10_accountNumber_75 : decode cX10_accountNumber 75 = .ok (.iload_n 1, 1) := by decide +kernel
theorem dX10_accountNumber_76 : decode cX10_accountNumber 76 = .ok (.invokevirtual 101, 3) := by decide +kernel
theorem dX10_accountNumber_79 : decode cX10_accountNumber 79 = .ok (.ireturn, 1) := by decide +kernel
theorem dX10_accountNumber_80 : decode cX10_accountNumber 80 = .ok (.aload_n 0, 1) := by decide +kernel
theorem dX10_accountNumber_81 : decode cX10_accountNumber 81 = .ok (.getfield 21, 3) := by decide +kernel
theorem dX10_accountNumber_84 : decode cX10_accountNumber 84 = .ok (.getfield 110, 3) := by decide +kernel
theorem dX10_accountNumber_87 : decode cX10_accountNumber 87 = .ok (.iload_n 1, 1) := by decide +kernel
theorem dX10_accountNumber_88 : decode cX10_accountNumber 88 = .ok (.invokevirtual 101, 3) := by decide +kernel
theorem dX10_accountNumber_91 : decode cX10_accountNumber 91 = .ok (.ireturn, 1) := by decide +kernel
theorem dX10_accountNumber_92 : decode cX10_accountNumber 92 = .ok (.aload_n 0, 1) := by decide +kernel
theorem dX10_accountNumber_93 : decode cX10_accountNumber 93 = .ok (.getfield 21, 3) := by decide +kernel
theorem dX10_accountNumber_96 : decode cX10_accountNumber 96 = .ok (.iload_n 1, 1) := by decide +kernel
theorem dX10_accountNumber_97 : decode cX10_accountNumber 97 = .ok (.invokevirtual 113, 3) := by decide +kernel
theorem dX10_accountNumber_100 : decode cX10_accountNumber 100 = .ok (.ifCond .eq 7, 3) := by decide +kernel
theorem dX10_accountNumber_103 : decode cX10_accountNumber 103 = .ok (.iconst 1, 1) := by decide +kernel
theorem dX10_accountNumber_104 : decode cX10_accountNumber 104 = .ok (.goto 4, 3) := by decide +kernel
theorem dX10_accountNumber_107 : decode cX10_accountNumber 107 = .ok (.iconst 0, 1) := by decide +kernel
theorem dX10_accountNumber_108 : decode cX10_accountNumber 108 = .ok (.ireturn, 1) := by decide +kernel
theorem dX10_accountNumber_109 : decode cX10_accountNumber 109 = .ok (.aload_n 0, 1) := by decide +kernel
theorem dX10_accountNumber_110 : decode cX10_accountNumber 110 = .ok (.getfield 12, 3) := by decide +kernel
theorem dX10_accountNumber_113 : decode cX10_accountNumber 113 = .ok (.iload_n 1, 1) := by decide +kernel
theorem dX10_accountNumber_114 : decode cX10_accountNumber 114 = .ok (.invokevirtual 117, 3) := by decide +kernel
theorem dX10_accountNumber_117 : decode cX10_accountNumber 117 = .ok (.ireturn, 1) := by decide +kernel
theorem dX10_accountNumber_118 : decode cX10_accountNumber 118 = .ok (.aload_n 0, 1) := by decide +kernel
theorem dX10_accountNumber_119 : decode cX10_accountNumber 119 = .ok (.getfield 28, 3) := by decide +kernel
theorem dX10_accountNumber_122 : decode cX10_accountNumber 122 = .ok (.iload_n 1, 1) := by decide +kernel
theorem dX10_accountNumber_123 : decode cX10_accountNumber 123 = .ok (.invokevirtual 87, 3) := by decide +kernel
theorem dX10_accountNumber_126 : decode cX10_accountNumber 126 = .ok (.ireturn, 1) := by decide +kernel
theorem dX10_accountNumber_127 : decode cX10_accountNumber 127 = .ok (.aload_n 0, 1) := by decide +kernel
theorem dX10_accountNumber_128 : decode cX10_accountNumber 128 = .ok (.getfield 28, 3) := by decide +kernel
theorem dX10_accountNumber_131 : decode cX10_accountNumber 131 = .ok (.iload_n 1, 1) := by decide +kernel
theorem dX10_accountNumber_132 : decode cX10_accountNumber 132 = .ok (.invokevirtual 91, 3) := by decide +kernel
theorem dX10_accountNumber_135 : decode cX10_accountNumber 135 = .ok (.ireturn, 1) := by decide +kernel
theorem dX10_listAt_0 : decode cX10_listAt 0 = .ok (.aload_n 0, 1) := by decide +kernel
theorem dX10_listAt_1 : decode cX10_listAt 1 = .ok (.getfield 28, 3) := by decide +kernel
theorem dX10_listAt_4 : decode cX10_listAt 4 = .ok (.iload_n 1, 1) := by decide +kernel
theorem dX10_listAt_5 : decode cX10_listAt 5 = .ok (.invokevirtual 120, 3) := by decide +kernel
theorem dX10_listAt_8 : decode cX10_listAt 8 = .ok (.ifCond .eq 13, 3) := by decide +kernel
theorem dX10_listAt_11 : decode cX10_listAt 11 = .ok (.aload_n 0, 1) := by decide +kernel
theorem dX10_listAt_12 : decode cX10_listAt 12 = .ok (.getfield 21, 3) := by decide +kernel
theorem dX10_listAt_15 : decode cX10_listAt 15 = .ok (.invokevirtual 94, 3) := by decide +kernel
theorem dX10_listAt_18 : decode cX10_listAt 18 = .ok (.goto 14, 3) := by decide +kernel
theorem dX10_listAt_21 : decode cX10_listAt 21 = .ok (.aload_n 0, 1) := by decide +kernel
theorem dX10_listAt_22 : decode cX10_listAt 22 = .ok (.getfield 28, 3) := by decide +kernel
theorem dX10_listAt_25 : decode cX10_listAt 25 = .ok (.getfield 123, 3) := by decide +kernel
theorem dX10_listAt_28 : decode cX10_listAt 28 = .ok (.iload_n 1, 1) := by decide +kernel
theorem dX10_listAt_29 : decode cX10_listAt 29 = .ok (.invokevirtual 101, 3) := by decide +kernel
theorem dX10_listAt_32 : decode cX10_listAt 32 = .ok (.ireturn, 1) := by decide +kernel
theorem dX10_hasRoomForAccount_0 : decode cX10_hasRoomForAccount 0 = .ok (.aload_n 0, 1) := by decide +kernel
theorem dX10_hasRoomForAccount_1 : decode cX10_hasRoomForAccount 1 = .ok (.getfield 21, 3) := by decide +kernel
theorem dX10_hasRoomForAccount_4 : decode cX10_hasRoomForAccount 4 = .ok (.invokevirtual 126, 3) := by decide +kernel
theorem dX10_hasRoomForAccount_7 : decode cX10_hasRoomForAccount 7 = .ok (.ifCond .ne 17, 3) := by decide +kernel
theorem dX10_hasRoomForAccount_10 : decode cX10_hasRoomForAccount 10 = .ok (.aload_n 0, 1) := by decide +kernel
theorem dX10_hasRoomForAccount_11 : decode cX10_hasRoomForAccount 11 = .ok (.getfield 12, 3) := by decide +kernel
theorem dX10_hasRoomForAccount_14 : decode cX10_hasRoomForAccount 14 = .ok (.invokevirtual 130, 3) := by decide +kernel
theorem dX10_hasRoomForAccount_17 : decode cX10_hasRoomForAccount 17 = .ok (.ifCond .ne 7, 3) := by decide +kernel
theorem dX10_hasRoomForAccount_20 : decode cX10_hasRoomForAccount 20 = .ok (.iconst 1, 1) := by decide +kernel
theorem dX10_hasRoomForAccount_21 : decode cX10_hasRoomForAccount 21 = .ok (.goto 4, 3) := by decide +kernel
theorem dX10_hasRoomForAccount_24 : decode cX10_hasRoomForAccount 24 = .ok (.iconst 0, 1) := by decide +kernel
theorem dX10_hasRoomForAccount_25 : decode cX10_hasRoomForAccount 25 = .ok (.ireturn, 1) := by decide +kernel
theorem dX10_makeAccount_0 : decode cX10_makeAccount 0 = .ok (.aload_n 0, 1) := by decide +kernel
theorem dX10_makeAccount_1 : decode cX10_makeAccount 1 = .ok (.getfield 12, 3) := by decide +kernel
theorem dX10_makeAccount_4 : decode cX10_makeAccount 4 = .ok (.aload_n 0, 1) := by decide +kernel
theorem dX10_makeAccount_5 : decode cX10_makeAccount 5 = .ok (.getfield 21, 3) := by decide +kernel
theorem dX10_makeAccount_8 : decode cX10_makeAccount 8 = .ok (.iload_n 1, 1) := by decide +kernel
theorem dX10_makeAccount_9 : decode cX10_makeAccount 9 = .ok (.invokevirtual 131, 3) := by decide +kernel
theorem dX10_makeAccount_12 : decode cX10_makeAccount 12 = .ok (.iload_n 1, 1) := by decide +kernel
theorem dX10_makeAccount_13 : decode cX10_makeAccount 13 = .ok (.iconst 0, 1) := by decide +kernel
theorem dX10_makeAccount_14 : decode cX10_makeAccount 14 = .ok (.iconst (-1), 1) := by decide +kernel
theorem dX10_makeAccount_15 : decode cX10_makeAccount 15 = .ok (.invokevirtual 134, 3) := by decide +kernel
theorem dX10_makeAccount_18 : decode cX10_makeAccount 18 = .ok (.ireturn, 1) := by decide +kernel
theorem dX10_takeDown_0 : decode cX10_takeDown 0 = .ok (.aload_n 0, 1) := by decide +kernel
theorem dX10_takeDown_1 : decode cX10_takeDown 1 = .ok (.getfield 28, 3) := by decide +kernel
theorem dX10_takeDown_4 : decode cX10_takeDown 4 = .ok (.getfield 123, 3) := by decide +kernel
theorem dX10_takeDown_7 : decode cX10_takeDown 7 = .ok (.iload_n 1, 1) := by decide +kernel
theorem dX10_takeDown_8 : decode cX10_takeDown 8 = .ok (.aload_n 0, 1) := by decide +kernel
theorem dX10_takeDown_9 : decode cX10_takeDown 9 = .ok (.getfield 21, 3) := by decide +kernel
theorem dX10_takeDown_12 : decode cX10_takeDown 12 = .ok (.invokevirtual 94, 3) := by decide +kernel
theorem dX10_takeDown_15 : decode cX10_takeDown 15 = .ok (.invokevirtual 47, 3) := by decide +kernel
theorem dX10_takeDown_18 : decode cX10_takeDown 18 = .ok (.aload_n 0, 1) := by decide +kernel
theorem dX10_takeDown_19 : decode cX10_takeDown 19 = .ok (.getfield 28, 3) := by decide +kernel
theorem dX10_takeDown_22 : decode cX10_takeDown 22 = .ok (.iload_n 1, 1) := by decide +kernel
theorem dX10_takeDown_23 : decode cX10_takeDown 23 = .ok (.iconst 0, 1) := by decide +kernel
theorem dX10_takeDown_24 : decode cX10_takeDown 24 = .ok (.invokevirtual 137, 3) := by decide +kernel
theorem dX10_takeDown_27 : decode cX10_takeDown 27 = .ok (.aload_n 0, 1) := by decide +kernel
theorem dX10_takeDown_28 : decode cX10_takeDown 28 = .ok (.getfield 28, 3) := by decide +kernel
theorem dX10_takeDown_31 : decode cX10_takeDown 31 = .ok (.getfield 123, 3) := by decide +kernel
theorem dX10_takeDown_34 : decode cX10_takeDown 34 = .ok (.iload_n 1, 1) := by decide +kernel
theorem dX10_takeDown_35 : decode cX10_takeDown 35 = .ok (.invokevirtual 101, 3) := by decide +kernel
theorem dX10_takeDown_38 : decode cX10_takeDown 38 = .ok (.ireturn, 1) := by decide +kernel
theorem dX10_settle_0 : decode cX10_settle 0 = .ok (.aload_n 0, 1) := by decide +kernel
theorem dX10_settle_1 : decode cX10_settle 1 = .ok (.getfield 21, 3) := by decide +kernel
theorem dX10_settle_4 : decode cX10_settle 4 = .ok (.iload_n 1, 1) := by decide +kernel
theorem dX10_settle_5 : decode cX10_settle 5 = .ok (.iload_n 2, 1) := by decide +kernel
theorem dX10_settle_6 : decode cX10_settle 6 = .ok (.iload_n 3, 1) := by decide +kernel
theorem dX10_settle_7 : decode cX10_settle 7 = .ok (.aload_n 0, 1) := by decide +kernel
theorem dX10_settle_8 : decode cX10_settle 8 = .ok (.getfield 37, 3) := by decide +kernel
theorem dX10_settle_11 : decode cX10_settle 11 = .ok (.iconst 3, 1) := by decide +kernel
theorem dX10_settle_12 : decode cX10_settle 12 = .ok (.invokevirtual 101, 3) := by decide +kernel
theorem dX10_settle_15 : decode cX10_settle 15 = .ok (.invokevirtual 155, 3) := by decide +kernel
theorem dX10_settle_18 : decode cX10_settle 18 = .ok (.ifCond .eq 26, 3) := by decide +kernel
theorem dX10_settle_21 : decode cX10_settle 21 = .ok (.aload_n 0, 1) := by decide +kernel
theorem dX10_settle_22 : decode cX10_settle 22 = .ok (.dup, 1) := by decide +kernel
theorem dX10_settle_23 : decode cX10_settle 23 = .ok (.getfield 55, 3) := by decide +kernel
theorem dX10_settle_26 : decode cX10_settle 26 = .ok (.iconst 1, 1) := by decide +kernel
theorem dX10_settle_27 : decode cX10_settle 27 = .ok (.iadd, 1) := by decide +kernel
theorem dX10_settle_28 : decode cX10_settle 28 = .ok (.putfield 55, 3) := by decide +kernel
theorem dX10_settle_31 : decode cX10_settle 31 = .ok (.aload_n 0, 1) := by decide +kernel
theorem dX10_settle_32 : decode cX10_settle 32 = .ok (.dup, 1) := by decide +kernel
theorem dX10_settle_33 : decode cX10_settle 33 = .ok (.getfield 58, 3) := by decide +kernel
theorem dX10_settle_36 : decode cX10_settle 36 = .ok (.iload_n 3, 1) := by decide +kernel
theorem dX10_settle_37 : decode cX10_settle 37 = .ok (.iadd, 1) := by decide +kernel
theorem dX10_settle_38 : decode cX10_settle 38 = .ok (.putfield 58, 3) := by decide +kernel
theorem dX10_settle_41 : decode cX10_settle 41 = .ok (.goto 13, 3) := by decide +kernel
theorem dX10_settle_44 : decode cX10_settle 44 = .ok (.aload_n 0, 1) := by decide +kernel
theorem dX10_settle_45 : decode cX10_settle 45 = .ok (.dup, 1) := by decide +kernel
theorem dX10_settle_46 : decode cX10_settle 46 = .ok (.getfield 61, 3) := by decide +kernel
theorem dX10_settle_49 : decode cX10_settle 49 = .ok (.iconst 1, 1) := by decide +kernel
theorem dX10_settle_50 : decode cX10_settle 50 = .ok (.iadd, 1) := by decide +kernel
theorem dX10_settle_51 : decode cX10_settle 51 = .ok (.putfield 61, 3) := by decide +kernel
theorem dX10_settle_54 : decode cX10_settle 54 = .ok (.return_, 1) := by decide +kernel
theorem dX10_bringUp_0 : decode cX10_bringUp 0 = .ok (.aload_n 0, 1) := by decide +kernel
theorem dX10_bringUp_1 : decode cX10_bringUp 1 = .ok (.getfield 61, 3) := by decide +kernel
theorem dX10_bringUp_4 : decode cX10_bringUp 4 = .ok (.istore_n 2, 1) := by decide +kernel
theorem dX10_bringUp_5 : decode cX10_bringUp 5 = .ok (.aload_n 0, 1) := by decide +kernel
theorem dX10_bringUp_6 : decode cX10_bringUp 6 = .ok (.getfield 28, 3) := by decide +kernel
theorem dX10_bringUp_9 : decode cX10_bringUp 9 = .ok (.iload_n 1, 1) := by decide +kernel
theorem dX10_bringUp_10 : decode cX10_bringUp 10 = .ok (.invokevirtual 141, 3) := by decide +kernel
theorem dX10_bringUp_13 : decode cX10_bringUp 13 = .ok (.istore_n 3, 1) := by decide +kernel
theorem dX10_bringUp_14 : decode cX10_bringUp 14 = .ok (.iconst 0, 1) := by decide +kernel
theorem dX10_bringUp_15 : decode cX10_bringUp 15 = .ok (.istore 4, 2) := by decide +kernel
theorem dX10_bringUp_17 : decode cX10_bringUp 17 = .ok (.iload 4, 2) := by decide +kernel
theorem dX10_bringUp_19 : decode cX10_bringUp 19 = .ok (.iload_n 3, 1) := by decide +kernel
theorem dX10_bringUp_20 : decode cX10_bringUp 20 = .ok (.if_icmp .ge 46, 3) := by decide +kernel
theorem dX10_bringUp_23 : decode cX10_bringUp 23 = .ok (.aload_n 0, 1) := by decide +kernel
theorem dX10_bringUp_24 : decode cX10_bringUp 24 = .ok (.aload_n 0, 1) := by decide +kernel
theorem dX10_bringUp_25 : decode cX10_bringUp 25 = .ok (.getfield 28, 3) := by decide +kernel
theorem dX10_bringUp_28 : decode cX10_bringUp 28 = .ok (.iload_n 1, 1) := by decide +kernel
theorem dX10_bringUp_29 : decode cX10_bringUp 29 = .ok (.iload 4, 2) := by decide +kernel
theorem dX10_bringUp_31 : decode cX10_bringUp 31 = .ok (.iconst 0, 1) := by decide +kernel
theorem dX10_bringUp_32 : decode cX10_bringUp 32 = .ok (.invokevirtual 144, 3) := by decide +kernel
theorem dX10_bringUp_35 : decode cX10_bringUp 35 = .ok (.aload_n 0, 1) := by decide +kernel
theorem dX10_bringUp_36 : decode cX10_bringUp 36 = .ok (.getfield 28, 3) := by decide +kernel
theorem dX10_bringUp_39 : decode cX10_bringUp 39 = .ok (.iload_n 1, 1) := by decide +kernel
theorem dX10_bringUp_40 : decode cX10_bringUp 40 = .ok (.iload 4, 2) := by decide +kernel
theorem dX10_bringUp_42 : decode cX10_bringUp 42 = .ok (.iconst 1, 1) := by decide +kernel
theorem dX10_bringUp_43 : decode cX10_bringUp 43 = .ok (.invokevirtual 144, 3) := by decide +kernel
theorem dX10_bringUp_46 : decode cX10_bringUp 46 = .ok (.aload_n 0, 1) := by decide +kernel
theorem dX10_bringUp_47 : decode cX10_bringUp 47 = .ok (.getfield 28, 3) := by decide +kernel
theorem dX10_bringUp_50 : decode cX10_bringUp 50 = .ok (.iload_n 1, 1) := by decide +kernel
theorem dX10_bringUp_51 : decode cX10_bringUp 51 = .ok (.iload 4, 2) := by decide +kernel
theorem dX10_bringUp_53 : decode cX10_bringUp 53 = .ok (.iconst 2, 1) := by decide +kernel
theorem dX10_bringUp_54 : decode cX10_bringUp 54 = .ok (.invokevirtual 144, 3) := by decide +kernel
theorem dX10_bringUp_57 : decode cX10_bringUp 57 = .ok (.invokevirtual 148, 3) := by decide +kernel
theorem dX10_bringUp_60 : decode cX10_bringUp 60 = .ok (.iinc 4 1, 3) := by decide +kernel
theorem dX10_bringUp_63 : decode cX10_bringUp 63 = .ok (.goto (-46), 3) := by decide +kernel
theorem dX10_bringUp_66 : decode cX10_bringUp 66 = .ok (.aload_n 0, 1) := by decide +kernel
theorem dX10_bringUp_67 : decode cX10_bringUp 67 = .ok (.getfield 28, 3) := by decide +kernel
theorem dX10_bringUp_70 : decode cX10_bringUp 70 = .ok (.iload_n 1, 1) := by decide +kernel
theorem dX10_bringUp_71 : decode cX10_bringUp 71 = .ok (.invokevirtual 152, 3) := by decide +kernel
theorem dX10_bringUp_74 : decode cX10_bringUp 74 = .ok (.aload_n 0, 1) := by decide +kernel
theorem dX10_bringUp_75 : decode cX10_bringUp 75 = .ok (.getfield 28, 3) := by decide +kernel
theorem dX10_bringUp_78 : decode cX10_bringUp 78 = .ok (.iload_n 1, 1) := by decide +kernel
theorem dX10_bringUp_79 : decode cX10_bringUp 79 = .ok (.iconst 1, 1) := by decide +kernel
theorem dX10_bringUp_80 : decode cX10_bringUp 80 = .ok (.invokevirtual 137, 3) := by decide +kernel
theorem dX10_bringUp_83 : decode cX10_bringUp 83 = .ok (.aload_n 0, 1) := by decide +kernel
theorem dX10_bringUp_84 : decode cX10_bringUp 84 = .ok (.getfield 61, 3) := by decide +kernel
theorem dX10_bringUp_87 : decode cX10_bringUp 87 = .ok (.iload_n 2, 1) := by decide +kernel
theorem dX10_bringUp_88 : decode cX10_bringUp 88 = .ok (.isub, 1) := by decide +kernel
theorem dX10_bringUp_89 : decode cX10_bringUp 89 = .ok (.ireturn, 1) := by decide +kernel
theorem dX10_clear_0 : decode cX10_clear 0 = .ok (.aload_n 0, 1) := by decide +kernel
theorem dX10_clear_1 : decode cX10_clear 1 = .ok (.getfield 12, 3) := by decide +kernel
theorem dX10_clear_4 : decode cX10_clear 4 = .ok (.invokevirtual 44, 3) := by decide +kernel
theorem dX10_clear_7 : decode cX10_clear 7 = .ok (.aload_n 0, 1) := by decide +kernel
theorem dX10_clear_8 : decode cX10_clear 8 = .ok (.getfield 21, 3) := by decide +kernel
theorem dX10_clear_11 : decode cX10_clear 11 = .ok (.invokevirtual 45, 3) := by decide +kernel
theorem dX10_clear_14 : decode cX10_clear 14 = .ok (.aload_n 0, 1) := by decide +kernel
theorem dX10_clear_15 : decode cX10_clear 15 = .ok (.getfield 28, 3) := by decide +kernel
theorem dX10_clear_18 : decode cX10_clear 18 = .ok (.invokevirtual 46, 3) := by decide +kernel
theorem dX10_clear_21 : decode cX10_clear 21 = .ok (.aload_n 0, 1) := by decide +kernel
theorem dX10_clear_22 : decode cX10_clear 22 = .ok (.getfield 37, 3) := by decide +kernel
theorem dX10_clear_25 : decode cX10_clear 25 = .ok (.iconst 0, 1) := by decide +kernel
theorem dX10_clear_26 : decode cX10_clear 26 = .ok (.bipush 10, 2) := by decide +kernel
theorem dX10_clear_28 : decode cX10_clear 28 = .ok (.invokevirtual 47, 3) := by decide +kernel
theorem dX10_clear_31 : decode cX10_clear 31 = .ok (.aload_n 0, 1) := by decide +kernel
theorem dX10_clear_32 : decode cX10_clear 32 = .ok (.getfield 37, 3) := by decide +kernel
theorem dX10_clear_35 : decode cX10_clear 35 = .ok (.iconst 1, 1) := by decide +kernel
theorem dX10_clear_36 : decode cX10_clear 36 = .ok (.iconst 5, 1) := by decide +kernel
theorem dX10_clear_37 : decode cX10_clear 37 = .ok (.invokevirtual 47, 3) := by decide +kernel
theorem dX10_clear_40 : decode cX10_clear 40 = .ok (.aload_n 0, 1) := by decide +kernel
theorem dX10_clear_41 : decode cX10_clear 41 = .ok (.getfield 37, 3) := by decide +kernel
theorem dX10_clear_44 : decode cX10_clear 44 = .ok (.iconst 2, 1) := by decide +kernel
theorem dX10_clear_45 : decode cX10_clear 45 = .ok (.iconst 0, 1) := by decide +kernel
theorem dX10_clear_46 : decode cX10_clear 46 = .ok (.invokevirtual 47, 3) := by decide +kernel
theorem dX10_clear_49 : decode cX10_clear 49 = .ok (.aload_n 0, 1) := by decide +kernel
theorem dX10_clear_50 : decode cX10_clear 50 = .ok (.getfield 37, 3) := by decide +kernel
theorem dX10_clear_53 : decode cX10_clear 53 = .ok (.iconst 3, 1) := by decide +kernel
theorem dX10_clear_54 : decode cX10_clear 54 = .ok (.bipush 20, 2) := by decide +kernel
theorem dX10_clear_56 : decode cX10_clear 56 = .ok (.invokevirtual 47, 3) := by decide +kernel
theorem dX10_clear_59 : decode cX10_clear 59 = .ok (.aload_n 0, 1) := by decide +kernel
theorem dX10_clear_60 : decode cX10_clear 60 = .ok (.iconst 0, 1) := by decide +kernel
theorem dX10_clear_61 : decode cX10_clear 61 = .ok (.putfield 51, 3) := by decide +kernel
theorem dX10_clear_64 : decode cX10_clear 64 = .ok (.aload_n 0, 1) := by decide +kernel
theorem dX10_clear_65 : decode cX10_clear 65 = .ok (.iconst 0, 1) := by decide +kernel
theorem dX10_clear_66 : decode cX10_clear 66 = .ok (.putfield 55, 3) := by decide +kernel
theorem dX10_clear_69 : decode cX10_clear 69 = .ok (.aload_n 0, 1) := by decide +kernel
theorem dX10_clear_70 : decode cX10_clear 70 = .ok (.iconst 0, 1) := by decide +kernel
theorem dX10_clear_71 : decode cX10_clear 71 = .ok (.putfield 58, 3) := by decide +kernel
theorem dX10_clear_74 : decode cX10_clear 74 = .ok (.aload_n 0, 1) := by decide +kernel
theorem dX10_clear_75 : decode cX10_clear 75 = .ok (.iconst 0, 1) := by decide +kernel
theorem dX10_clear_76 : decode cX10_clear 76 = .ok (.putfield 61, 3) := by decide +kernel
theorem dX10_clear_79 : decode cX10_clear 79 = .ok (.aload_n 0, 1) := by decide +kernel
theorem dX10_clear_80 : decode cX10_clear 80 = .ok (.iconst 0, 1) := by decide +kernel
theorem dX10_clear_81 : decode cX10_clear 81 = .ok (.putfield 64, 3) := by decide +kernel
theorem dX10_clear_84 : decode cX10_clear 84 = .ok (.aload_n 0, 1) := by decide +kernel
theorem dX10_clear_85 : decode cX10_clear 85 = .ok (.iconst 0, 1) := by decide +kernel
theorem dX10_clear_86 : decode cX10_clear 86 = .ok (.putfield 67, 3) := by decide +kernel
theorem dX10_clear_89 : decode cX10_clear 89 = .ok (.return_, 1) := by decide +kernel
theorem yf_X0_clear : (Cond.instanceMethod yX0_clear) ∈ gtbl ∧ (Cond.selects RX0 yX0_clear yX0_clear) ∈ gtbl ∧ (Cond.initialized RX0) ∈ gtbl ∧ (Cond.code yX0_clear cX0_clear 1 none) ∈ gtbl ∧ (yX0_clear.cls = RX0 ∧ yX0_clear.cls ≠ "java/lang/invoke/MethodHandle" ∧ yX0_clear.cls ≠ "java/lang/invoke/VarHandle" ∧ (parseMethodDescriptor yX0_clear.desc).map (fun d => d.parameters.length) = some 0) := ⟨gt_in 171 (by decide +kernel) (by decide +kernel), gt_in 172 (by decide +kernel) (by decide +kernel), gt_in 19 (by decide +kernel) (by decide +kernel), gt_in 173 (by decide +kernel) (by decide +kernel), by decide +kernel⟩
theorem cw_X10_44 : uCW RX10 RX0 44 yX0_clear cX0_clear 1 none 0 := ⟨gt_in 170 (by decide +kernel) (by decide +kernel), yf_X0_clear⟩
theorem yf_X5_clear : (Cond.instanceMethod yX5_clear) ∈ gtbl ∧ (Cond.selects RX5 yX5_clear yX5_clear) ∈ gtbl ∧ (Cond.initialized RX5) ∈ gtbl ∧ (Cond.code yX5_clear cX5_clear 1 none) ∈ gtbl ∧ (yX5_clear.cls = RX5 ∧ yX5_clear.cls ≠ "java/lang/invoke/MethodHandle" ∧ yX5_clear.cls ≠ "java/lang/invoke/VarHandle" ∧ (parseMethodDescriptor yX5_clear.desc).map (fun d => d.parameters.length) = some 0) := ⟨gt_in 175 (by decide +kernel) (by decide +kernel), gt_in 176 (by decide +kernel) (by decide +kernel), gt_in 22 (by decide +kernel) (by decide +kernel), gt_in 177 (by decide +kernel) (by decide +kernel), by decide +kernel⟩
theorem cw_X10_45 : uCW RX10 RX5 45 yX5_clear cX5_clear 1 none 0 := ⟨gt_in 174 (by decide +kernel) (by decide +kernel), yf_X5_clear⟩
theorem yf_X3_clear : (Cond.instanceMethod yX3_clear) ∈ gtbl ∧ (Cond.selects RX3 yX3_clear yX3_clear) ∈ gtbl ∧ (Cond.initialized RX3) ∈ gtbl ∧ (Cond.code yX3_clear cX3_clear 1 none) ∈ gtbl ∧ (yX3_clear.cls = RX3 ∧ yX3_clear.cls ≠ "java/lang/invoke/MethodHandle" ∧ yX3_clear.cls ≠ "java/lang/invoke/VarHandle" ∧ (parseMethodDescriptor yX3_clear.desc).map (fun d => d.parameters.length) = some 0) := ⟨gt_in 183 (by decide +kernel) (by decide +kernel), gt_in 184 (by decide +kernel) (by decide +kernel), gt_in 23 (by decide +kernel) (by decide +kernel), gt_in 185 (by decide +kernel) (by decide +kernel), by decide +kernel⟩
theorem cw_X10_46 : uCW RX10 RX3 46 yX3_clear cX3_clear 1 none 0 := ⟨gt_in 182 (by decide +kernel) (by decide +kernel), yf_X3_clear⟩
theorem cw_X10_47 : uCW RX10 RX6 47 yX6_put cX6_put 3 none 2 := ⟨gt_in 187 (by decide +kernel) (by decide +kernel), yf_X6_put⟩
theorem yf_X3_ridesInLogs : (Cond.instanceMethod yX3_ridesInLogs) ∈ gtbl ∧ (Cond.selects RX3 yX3_ridesInLogs yX3_ridesInLogs) ∈ gtbl ∧ (Cond.initialized RX3) ∈ gtbl ∧ (Cond.code yX3_ridesInLogs cX3_ridesInLogs 6 (some .int)) ∈ gtbl ∧ (yX3_ridesInLogs.cls = RX3 ∧ yX3_ridesInLogs.cls ≠ "java/lang/invoke/MethodHandle" ∧ yX3_ridesInLogs.cls ≠ "java/lang/invoke/VarHandle" ∧ (parseMethodDescriptor yX3_ridesInLogs.desc).map (fun d => d.parameters.length) = some 1) := ⟨gt_in 723 (by decide +kernel) (by decide +kernel), gt_in 724 (by decide +kernel) (by decide +kernel), gt_in 23 (by decide +kernel) (by decide +kernel), gt_in 725 (by decide +kernel) (by decide +kernel), by decide +kernel⟩
theorem cw_X10_87 : uCW RX10 RX3 87 yX3_ridesInLogs cX3_ridesInLogs 6 (some .int) 1 := ⟨gt_in 722 (by decide +kernel) (by decide +kernel), yf_X3_ridesInLogs⟩
theorem yf_X3_faresInLogs : (Cond.instanceMethod yX3_faresInLogs) ∈ gtbl ∧ (Cond.selects RX3 yX3_faresInLogs yX3_faresInLogs) ∈ gtbl ∧ (Cond.initialized RX3) ∈ gtbl ∧ (Cond.code yX3_faresInLogs cX3_faresInLogs 6 (some .int)) ∈ gtbl ∧ (yX3_faresInLogs.cls = RX3 ∧ yX3_faresInLogs.cls ≠ "java/lang/invoke/MethodHandle" ∧ yX3_faresInLogs.cls ≠ "java/lang/invoke/VarHandle" ∧ (parseMethodDescriptor yX3_faresInLogs.desc).map (fun d => d.parameters.length) = some 1) := ⟨gt_in 444 (by decide +kernel) (by decide +kernel), gt_in 445 (by decide +kernel) (by decide +kernel), gt_in 23 (by decide +kernel) (by decide +kernel), gt_in 446 (by decide +kernel) (by decide +kernel), by decide +kernel⟩
theorem cw_X10_91 : uCW RX10 RX3 91 yX3_faresInLogs cX3_faresInLogs 6 (some .int) 1 := ⟨gt_in 726 (by decide +kernel) (by decide +kernel), yf_X3_faresInLogs⟩
theorem yf_X5_blockedSet : (Cond.instanceMethod yX5_blockedSet) ∈ gtbl ∧ (Cond.selects RX5 yX5_blockedSet yX5_blockedSet) ∈ gtbl ∧ (Cond.initialized RX5) ∈ gtbl ∧ (Cond.code yX5_blockedSet cX5_blockedSet 3 (some .int)) ∈ gtbl ∧ (yX5_blockedSet.cls = RX5 ∧ yX5_blockedSet.cls ≠ "java/lang/invoke/MethodHandle" ∧ yX5_blockedSet.cls ≠ "java/lang/invoke/VarHandle" ∧ (parseMethodDescriptor yX5_blockedSet.desc).map (fun d => d.parameters.length) = some 0) := ⟨gt_in 431 (by decide +kernel) (by decide +kernel), gt_in 432 (by decide +kernel) (by decide +kernel), gt_in 22 (by decide +kernel) (by decide +kernel), gt_in 433 (by decide +kernel) (by decide +kernel), by decide +kernel⟩
theorem cw_X10_94 : uCW RX10 RX5 94 yX5_blockedSet cX5_blockedSet 3 (some .int) 0 := ⟨gt_in 694 (by decide +kernel) (by decide +kernel), yf_X5_blockedSet⟩
theorem cw_X10_101 : uCW RX10 RX6 101 yX6_get cX6_get 2 (some .int) 1 := ⟨gt_in 407 (by decide +kernel) (by decide +kernel), yf_X6_get⟩
theorem cw_X10_113 : uCW RX10 RX5 113 yX5_isBlocked cX5_isBlocked 2 (some .boolean) 1 := ⟨gt_in 657 (by decide +kernel) (by decide +kernel), yf_X5_isBlocked⟩
theorem yf_X0_countOf : (Cond.instanceMethod yX0_countOf) ∈ gtbl ∧ (Cond.selects RX0 yX0_countOf yX0_countOf) ∈ gtbl ∧ (Cond.initialized RX0) ∈ gtbl ∧ (Cond.code yX0_countOf cX0_countOf 4 (some .int)) ∈ gtbl ∧ (yX0_countOf.cls = RX0 ∧ yX0_countOf.cls ≠ "java/lang/invoke/MethodHandle" ∧ yX0_countOf.cls ≠ "java/lang/invoke/VarHandle" ∧ (parseMethodDescriptor yX0_countOf.desc).map (fun d => d.parameters.length) = some 1) := ⟨gt_in 772 (by decide +kernel) (by decide +kernel), gt_in 773 (by decide +kernel) (by decide +kernel), gt_in 19 (by decide +kernel) (by decide +kernel), gt_in 774 (by decide +kernel) (by decide +kernel), by decide +kernel⟩
theorem cw_X10_117 : uCW RX10 RX0 117 yX0_countOf cX0_countOf 4 (some .int) 1 := ⟨gt_in 771 (by decide +kernel) (by decide +kernel), yf_X0_countOf⟩
theorem yf_X3_isUp : (Cond.instanceMethod yX3_isUp) ∈ gtbl ∧ (Cond.selects RX3 yX3_isUp yX3_isUp) ∈ gtbl ∧ (Cond.initialized RX3) ∈ gtbl ∧ (Cond.code yX3_isUp cX3_isUp 2 (some .boolean)) ∈ gtbl ∧ (yX3_isUp.cls = RX3 ∧ yX3_isUp.cls ≠ "java/lang/invoke/MethodHandle" ∧ yX3_isUp.cls ≠ "java/lang/invoke/VarHandle" ∧ (parseMethodDescriptor yX3_isUp.desc).map (fun d => d.parameters.length) = some 1) := ⟨gt_in 345 (by decide +kernel) (by decide +kernel), gt_in 346 (by decide +kernel) (by decide +kernel), gt_in 23 (by decide +kernel) (by decide +kernel), gt_in 347 (by decide +kernel) (by decide +kernel), by decide +kernel⟩
theorem cw_X10_120 : uCW RX10 RX3 120 yX3_isUp cX3_isUp 2 (some .boolean) 1 := ⟨gt_in 390 (by decide +kernel) (by decide +kernel), yf_X3_isUp⟩
theorem yf_X5_isFull : (Cond.instanceMethod yX5_isFull) ∈ gtbl ∧ (Cond.selects RX5 yX5_isFull yX5_isFull) ∈ gtbl ∧ (Cond.initialized RX5) ∈ gtbl ∧ (Cond.code yX5_isFull cX5_isFull 1 (some .boolean)) ∈ gtbl ∧ (yX5_isFull.cls = RX5 ∧ yX5_isFull.cls ≠ "java/lang/invoke/MethodHandle" ∧ yX5_isFull.cls ≠ "java/lang/invoke/VarHandle" ∧ (parseMethodDescriptor yX5_isFull.desc).map (fun d => d.parameters.length) = some 0) := ⟨gt_in 596 (by decide +kernel) (by decide +kernel), gt_in 597 (by decide +kernel) (by decide +kernel), gt_in 22 (by decide +kernel) (by decide +kernel), gt_in 598 (by decide +kernel) (by decide +kernel), by decide +kernel⟩
theorem cw_X10_126 : uCW RX10 RX5 126 yX5_isFull cX5_isFull 1 (some .boolean) 0 := ⟨gt_in 595 (by decide +kernel) (by decide +kernel), yf_X5_isFull⟩
theorem yf_X0_isFull : (Cond.instanceMethod yX0_isFull) ∈ gtbl ∧ (Cond.selects RX0 yX0_isFull yX0_isFull) ∈ gtbl ∧ (Cond.initialized RX0) ∈ gtbl ∧ (Cond.code yX0_isFull cX0_isFull 1 (some .boolean)) ∈ gtbl ∧ (yX0_isFull.cls = RX0 ∧ yX0_isFull.cls ≠ "java/lang/invoke/MethodHandle" ∧ yX0_isFull.cls ≠ "java/lang/invoke/VarHandle" ∧ (parseMethodDescriptor yX0_isFull.desc).map (fun d => d.parameters.length) = some 0) := ⟨gt_in 600 (by decide +kernel) (by decide +kernel), gt_in 601 (by decide +kernel) (by decide +kernel), gt_in 19 (by decide +kernel) (by decide +kernel), gt_in 602 (by decide +kernel) (by decide +kernel), by decide +kernel⟩
theorem cw_X10_130 : uCW RX10 RX0 130 yX0_isFull cX0_isFull 1 (some .boolean) 0 := ⟨gt_in 599 (by decide +kernel) (by decide +kernel), yf_X0_isFull⟩
theorem yf_X5_make : (Cond.instanceMethod yX5_make) ∈ gtbl ∧ (Cond.selects RX5 yX5_make yX5_make) ∈ gtbl ∧ (Cond.initialized RX5) ∈ gtbl ∧ (Cond.code yX5_make cX5_make 3 (some .int)) ∈ gtbl ∧ (yX5_make.cls = RX5 ∧ yX5_make.cls ≠ "java/lang/invoke/MethodHandle" ∧ yX5_make.cls ≠ "java/lang/invoke/VarHandle" ∧ (parseMethodDescriptor yX5_make.desc).map (fun d => d.parameters.length) = some 1) := ⟨gt_in 608 (by decide +kernel) (by decide +kernel), gt_in 609 (by decide +kernel) (by decide +kernel), gt_in 22 (by decide +kernel) (by decide +kernel), gt_in 610 (by decide +kernel) (by decide +kernel), by decide +kernel⟩
theorem cw_X10_131 : uCW RX10 RX5 131 yX5_make cX5_make 3 (some .int) 1 := ⟨gt_in 607 (by decide +kernel) (by decide +kernel), yf_X5_make⟩
theorem cw_X10_134 : uCW RX10 RX0 134 yX0_make cX0_make 6 (some .int) 4 := ⟨gt_in 611 (by decide +kernel) (by decide +kernel), yf_X0_make⟩
theorem yf_X3_setLine : (Cond.instanceMethod yX3_setLine) ∈ gtbl ∧ (Cond.selects RX3 yX3_setLine yX3_setLine) ∈ gtbl ∧ (Cond.initialized RX3) ∈ gtbl ∧ (Cond.code yX3_setLine cX3_setLine 3 none) ∈ gtbl ∧ (yX3_setLine.cls = RX3 ∧ yX3_setLine.cls ≠ "java/lang/invoke/MethodHandle" ∧ yX3_setLine.cls ≠ "java/lang/invoke/VarHandle" ∧ (parseMethodDescriptor yX3_setLine.desc).map (fun d => d.parameters.length) = some 2) := ⟨gt_in 427 (by decide +kernel) (by decide +kernel), gt_in 428 (by decide +kernel) (by decide +kernel), gt_in 23 (by decide +kernel) (by decide +kernel), gt_in 429 (by decide +kernel) (by decide +kernel), by decide +kernel⟩
theorem cw_X10_137 : uCW RX10 RX3 137 yX3_setLine cX3_setLine 3 none 2 := ⟨gt_in 426 (by decide +kernel) (by decide +kernel), yf_X3_setLine⟩
theorem yf_X3_logSize : (Cond.instanceMethod yX3_logSize) ∈ gtbl ∧ (Cond.selects RX3 yX3_logSize yX3_logSize) ∈ gtbl ∧ (Cond.initialized RX3) ∈ gtbl ∧ (Cond.code yX3_logSize cX3_logSize 2 (some .int)) ∈ gtbl ∧ (yX3_logSize.cls = RX3 ∧ yX3_logSize.cls ≠ "java/lang/invoke/MethodHandle" ∧ yX3_logSize.cls ≠ "java/lang/invoke/VarHandle" ∧ (parseMethodDescriptor yX3_logSize.desc).map (fun d => d.parameters.length) = some 1) := ⟨gt_in 396 (by decide +kernel) (by decide +kernel), gt_in 397 (by decide +kernel) (by decide +kernel), gt_in 23 (by decide +kernel) (by decide +kernel), gt_in 398 (by decide +kernel) (by decide +kernel), by decide +kernel⟩
theorem cw_X10_141 : uCW RX10 RX3 141 yX3_logSize cX3_logSize 2 (some .int) 1 := ⟨gt_in 395 (by decide +kernel) (by decide +kernel), yf_X3_logSize⟩
theorem yf_X3_loggedNumber : (Cond.instanceMethod yX3_loggedNumber) ∈ gtbl ∧ (Cond.selects RX3 yX3_loggedNumber yX3_loggedNumber) ∈ gtbl ∧ (Cond.initialized RX3) ∈ gtbl ∧ (Cond.code yX3_loggedNumber cX3_loggedNumber 5 (some .int)) ∈ gtbl ∧ (yX3_loggedNumber.cls = RX3 ∧ yX3_loggedNumber.cls ≠ "java/lang/invoke/MethodHandle" ∧ yX3_loggedNumber.cls ≠ "java/lang/invoke/VarHandle" ∧ (parseMethodDescriptor yX3_loggedNumber.desc).map (fun d => d.parameters.length) = some 3) := ⟨gt_in 400 (by decide +kernel) (by decide +kernel), gt_in 401 (by decide +kernel) (by decide +kernel), gt_in 23 (by decide +kernel) (by decide +kernel), gt_in 402 (by decide +kernel) (by decide +kernel), by decide +kernel⟩
theorem cw_X10_144 : uCW RX10 RX3 144 yX3_loggedNumber cX3_loggedNumber 5 (some .int) 3 := ⟨gt_in 399 (by decide +kernel) (by decide +kernel), yf_X3_loggedNumber⟩
theorem yf_X10_settle : (Cond.instanceMethod yX10_settle) ∈ gtbl ∧ (Cond.selects RX10 yX10_settle yX10_settle) ∈ gtbl ∧ (Cond.initialized RX10) ∈ gtbl ∧ (Cond.code yX10_settle cX10_settle 4 none) ∈ gtbl ∧ (yX10_settle.cls = RX10 ∧ yX10_settle.cls ≠ "java/lang/invoke/MethodHandle" ∧ yX10_settle.cls ≠ "java/lang/invoke/VarHandle" ∧ (parseMethodDescriptor yX10_settle.desc).map (fun d => d.parameters.length) = some 3) := ⟨gt_in 405 (by decide +kernel) (by decide +kernel), gt_in 2 (by decide +kernel) (by decide +kernel), gt_in 18 (by decide +kernel) (by decide +kernel), gt_in 406 (by decide +kernel) (by decide +kernel), by decide +kernel⟩
theorem cw_X10_148 : uCW RX10 RX10 148 yX10_settle cX10_settle 4 none 3 := ⟨gt_in 403 (by decide +kernel) (by decide +kernel), yf_X10_settle⟩
theorem yf_X3_emptyLog : (Cond.instanceMethod yX3_emptyLog) ∈ gtbl ∧ (Cond.selects RX3 yX3_emptyLog yX3_emptyLog) ∈ gtbl ∧ (Cond.initialized RX3) ∈ gtbl ∧ (Cond.code yX3_emptyLog cX3_emptyLog 2 none) ∈ gtbl ∧ (yX3_emptyLog.cls = RX3 ∧ yX3_emptyLog.cls ≠ "java/lang/invoke/MethodHandle" ∧ yX3_emptyLog.cls ≠ "java/lang/invoke/VarHandle" ∧ (parseMethodDescriptor yX3_emptyLog.desc).map (fun d => d.parameters.length) = some 1) := ⟨gt_in 422 (by decide +kernel) (by decide +kernel), gt_in 423 (by decide +kernel) (by decide +kernel), gt_in 23 (by decide +kernel) (by decide +kernel), gt_in 424 (by decide +kernel) (by decide +kernel), by decide +kernel⟩
theorem cw_X10_152 : uCW RX10 RX3 152 yX3_emptyLog cX3_emptyLog 2 none 1 := ⟨gt_in 421 (by decide +kernel) (by decide +kernel), yf_X3_emptyLog⟩
theorem yf_X5_settleRide : (Cond.instanceMethod yX5_settleRide) ∈ gtbl ∧ (Cond.selects RX5 yX5_settleRide yX5_settleRide) ∈ gtbl ∧ (Cond.initialized RX5) ∈ gtbl ∧ (Cond.code yX5_settleRide cX5_settleRide 8 (some .boolean)) ∈ gtbl ∧ (yX5_settleRide.cls = RX5 ∧ yX5_settleRide.cls ≠ "java/lang/invoke/MethodHandle" ∧ yX5_settleRide.cls ≠ "java/lang/invoke/VarHandle" ∧ (parseMethodDescriptor yX5_settleRide.desc).map (fun d => d.parameters.length) = some 4) := ⟨gt_in 409 (by decide +kernel) (by decide +kernel), gt_in 410 (by decide +kernel) (by decide +kernel), gt_in 22 (by decide +kernel) (by decide +kernel), gt_in 411 (by decide +kernel) (by decide +kernel), by decide +kernel⟩
theorem cw_X10_155 : uCW RX10 RX5 155 yX5_settleRide cX5_settleRide 8 (some .boolean) 4 := ⟨gt_in 408 (by decide +kernel) (by decide +kernel), yf_X5_settleRide⟩
def fX10_mostOfSetting (a1 : Int32) : Int32 :=
  if a1 = 0 then
    50
  else if a1 = 1 then
    30
  else if a1 = 2 then
    1
  else 
  99
set_option maxHeartbeats 4000000 in
set_option maxRecDepth 20000 in
theorem kX10_mostOfSetting {l : Launch} {G : UG} {V : uV}  {a1 : Int32} {r : Int32} (h : fX10_mostOfSetting a1 = r) : uMi l G yX10_mostOfSetting cX10_mostOfSetting 1 .int (uR 0 0) [.int a1] V r V := by
  refine uMi_of rfl (Nat.le_of_ble_eq_true rfl) (fun p e s m args below meth c ls X hret hl M => ?_)
  have hl : lv_has ls 1 [(0, .int a1)] := hl
  have hx := X.hx
  have hb := X.hb
  unfold fX10_mostOfSetting at h
  refine lv_iload_n hx hb dX10_mostOfSetting_0 rfl (lv_at hl 0 rfl) ?_
  by_cases c1 : a1 = 0
  · have h := it_t h c1
    refine lv_tableIn (off := 27) (tgt := 28) hx hb dX10_mostOfSetting_1 (by rw [c1]; decide) (by rw [c1]; decide) (by rw [c1]; rfl) (by decide) ?_
    refine lv_bipush (v := 50) hx hb dX10_mostOfSetting_28 (by decide) ?_
    exact u_iret X hret M h (rfl) rfl dX10_mostOfSetting_30
  · have h := it_f h c1
    by_cases c2 : a1 = 1
    · have h := it_t h c2
      refine lv_tableIn (off := 30) (tgt := 31) hx hb dX10_mostOfSetting_1 (by rw [c2]; decide) (by rw [c2]; decide) (by rw [c2]; rfl) (by decide) ?_
      refine lv_bipush (v := 30) hx hb dX10_mostOfSetting_31 (by decide) ?_
      exact u_iret X hret M h (rfl) rfl dX10_mostOfSetting_33
    · have h := it_f h c2
      by_cases c3 : a1 = 2
      · have h := it_t h c3
        refine lv_tableIn (off := 33) (tgt := 34) hx hb dX10_mostOfSetting_1 (by rw [c3]; decide) (by rw [c3]; decide) (by rw [c3]; rfl) (by decide) ?_
        refine lv_iconst (v := 1) hx hb dX10_mostOfSetting_34 (by decide) ?_
        exact u_iret X hret M h (rfl) rfl dX10_mostOfSetting_35
      · have h := it_f h c3
        have tc1 := lv_neT (a := 0) c1 (by decide)
        have tc2 := lv_neT (a := 1) c2 (by decide)
        have tc3 := lv_neT (a := 2) c3 (by decide)
        refine lv_tableOut (tgt := 36) hx hb dX10_mostOfSetting_1 (by omega) (by decide) ?_
        refine lv_bipush (v := 99) hx hb dX10_mostOfSetting_36 (by decide) ?_
        exact u_iret X hret M h (rfl) rfl dX10_mostOfSetting_38
def fX10_letsThrough (a1 : Int32) : Int32 :=
  if a1 < 0 then
    if a1 = 7 then
      1
    else
      0
  else
    if a1 ≤ 2 then
      1
    else
      if a1 = 7 then
        1
      else
        0
set_option maxHeartbeats 4000000 in
set_option maxRecDepth 20000 in
theorem kX10_letsThrough {l : Launch} {G : UG} {V : uV}  {a1 : Int32} {r : Int32} (h : fX10_letsThrough a1 = r) : uMi l G yX10_letsThrough cX10_letsThrough 1 .boolean (uR 0 0) [.int a1] V r V := by
  refine uMi_of rfl (Nat.le_of_ble_eq_true rfl) (fun p e s m args below meth c ls X hret hl M => ?_)
  have hl : lv_has ls 1 [(0, .int a1)] := hl
  have hx := X.hx
  have hb := X.hb
  unfold fX10_letsThrough at h
  refine lv_iload_n hx hb dX10_letsThrough_0 rfl (lv_at hl 0 rfl) ?_
  refine lv_if_lt (tgt := 9) hx hb dX10_letsThrough_1 (by decide) (fun c1 => ?_) (fun c1 => ?_)
  · have h := it_t h c1
    refine lv_iload_n hx hb dX10_letsThrough_9 rfl (lv_at hl 0 rfl) ?_
    refine lv_bipush (v := 7) hx hb dX10_letsThrough_10 (by decide) ?_
    refine lv_icmp_ne (tgt := 19) hx hb dX10_letsThrough_12 (by decide) (fun c2 => ?_) (fun c2 => ?_)
    · have h := it_f h c2
      refine lv_iconst (v := 0) hx hb dX10_letsThrough_19 (by decide) ?_
      exact u_iret X hret M h (rfl) rfl dX10_letsThrough_20
    · have h := it_t h c2
      refine lv_iconst (v := 1) hx hb dX10_letsThrough_15 (by decide) ?_
      refine lv_goto (tgt := 20) hx hb dX10_letsThrough_16 (by decide) ?_
      exact u_iret X hret M h (rfl) rfl dX10_letsThrough_20
  · have h := it_f h c1
    refine lv_iload_n hx hb dX10_letsThrough_4 rfl (lv_at hl 0 rfl) ?_
    refine lv_iconst (v := 2) hx hb dX10_letsThrough_5 (by decide) ?_
    refine lv_icmp_le (tgt := 15) hx hb dX10_letsThrough_6 (by decide) (fun c3 => ?_) (fun c3 => ?_)
    · have h := it_t h c3
      refine lv_iconst (v := 1) hx hb dX10_letsThrough_15 (by decide) ?_
      refine lv_goto (tgt := 20) hx hb dX10_letsThrough_16 (by decide) ?_
      exact u_iret X hret M h (rfl) rfl dX10_letsThrough_20
    · have h := it_f h c3
      refine lv_iload_n hx hb dX10_letsThrough_9 rfl (lv_at hl 0 rfl) ?_
      refine lv_bipush (v := 7) hx hb dX10_letsThrough_10 (by decide) ?_
      refine lv_icmp_ne (tgt := 19) hx hb dX10_letsThrough_12 (by decide) (fun c4 => ?_) (fun c4 => ?_)
      · have h := it_f h c4
        refine lv_iconst (v := 0) hx hb dX10_letsThrough_19 (by decide) ?_
        exact u_iret X hret M h (rfl) rfl dX10_letsThrough_20
      · have h := it_t h c4
        refine lv_iconst (v := 1) hx hb dX10_letsThrough_15 (by decide) ?_
        refine lv_goto (tgt := 20) hx hb dX10_letsThrough_16 (by decide) ?_
        exact u_iret X hret M h (rfl) rfl dX10_letsThrough_20
def fX10_total (S : (Nat → Nat → Int32)) (a1 : Int32) : Option Int32 :=
  if a1 = 0 then
    lt_ (S 1 0) fun x2 =>
    some x2
  else if a1 = 1 then
    lt_ (S 10 0) fun x5 =>
    some x5
  else if a1 = 2 then
    lt_ (S 0 4) fun x8 =>
    some x8
  else if a1 = 3 then
    lt_ (S 0 5) fun x11 =>
    some x11
  else if a1 = 4 then
    lt_ (S 0 6) fun x14 =>
    some x14
  else if a1 = 5 then
    lt_ (S 0 7) fun x17 =>
    some x17
  else if a1 = 6 then
    bd (fX3_ridesInLogs S (-1)) fun x21 =>
    some x21
  else if a1 = 7 then
    bd (fX3_faresInLogs S (-1)) fun x25 =>
    some x25
  else if a1 = 8 then
    lt_ (S 0 8) fun x28 =>
    some x28
  else if a1 = 9 then
    lt_ (S 0 9) fun x31 =>
    some x31
  else 
  bd (fX5_blockedSet S) fun x34 =>
  some x34
set_option maxHeartbeats 4000000 in
set_option maxRecDepth 20000 in
theorem kX10_total {l : Launch} {G : UG} {V : uV} {t : Nat} (hS : uSt G t) {S : (Nat → Nat → Int32)} (hV : V t = S) {a1 : Int32} {r : Int32} (h : fX10_total S a1 = some r) : uMi l G yX10_total cX10_total 2 .int (uR 3 69) [.ref (ga G t 0), .int a1] V r V := by
  refine uMi_of rfl (Nat.le_of_ble_eq_true rfl) (fun p e s m args below meth c ls X hret hl M => ?_)
  have hl : lv_has ls 2 [(0, .ref (ga G t 0)), (1, .int a1)] := hl
  have hx := X.hx
  have hb := X.hb
  unfold fX10_total at h
  refine lv_iload_n hx hb dX10_total_0 rfl (lv_at hl 1 rfl) ?_
  by_cases c1 : a1 = 0
  · have h := it_t h c1
    refine lv_tableIn (off := 55) (tgt := 56) hx hb dX10_total_1 (by rw [c1]; decide) (by rw [c1]; decide) (by rw [c1]; rfl) (by decide) ?_
    refine lv_aload_n hx hb dX10_total_56 rfl (lv_at hl 0 rfl) ?_
    refine gf_X10_12 X M hS dX10_total_57 ?_
    obtain ⟨x2, e3, h⟩ := lt_e h
    refine gf_X10_83 X M hS hV e3 dX10_total_60 ?_
    exact u_iret X hret M (Option.some.inj h) (rfl) rfl dX10_total_63
  · have h := it_f h c1
    by_cases c4 : a1 = 1
    · have h := it_t h c4
      refine lv_tableIn (off := 63) (tgt := 64) hx hb dX10_total_1 (by rw [c4]; decide) (by rw [c4]; decide) (by rw [c4]; rfl) (by decide) ?_
      refine lv_aload_n hx hb dX10_total_64 rfl (lv_at hl 0 rfl) ?_
      refine gf_X10_21 X M hS dX10_total_65 ?_
      obtain ⟨x5, e6, h⟩ := lt_e h
      refine gf_X10_86 X M hS hV e6 dX10_total_68 ?_
      exact u_iret X hret M (Option.some.inj h) (rfl) rfl dX10_total_71
    · have h := it_f h c4
      by_cases c7 : a1 = 2
      · have h := it_t h c7
        refine lv_tableIn (off := 71) (tgt := 72) hx hb dX10_total_1 (by rw [c7]; decide) (by rw [c7]; decide) (by rw [c7]; rfl) (by decide) ?_
        refine lv_aload_n hx hb dX10_total_72 rfl (lv_at hl 0 rfl) ?_
        obtain ⟨x8, e9, h⟩ := lt_e h
        refine gf_X10_51 X M hS hV e9 dX10_total_73 ?_
        exact u_iret X hret M (Option.some.inj h) (rfl) rfl dX10_total_76
      · have h := it_f h c7
        by_cases c10 : a1 = 3
        · have h := it_t h c10
          refine lv_tableIn (off := 76) (tgt := 77) hx hb dX10_total_1 (by rw [c10]; decide) (by rw [c10]; decide) (by rw [c10]; rfl) (by decide) ?_
          refine lv_aload_n hx hb dX10_total_77 rfl (lv_at hl 0 rfl) ?_
          obtain ⟨x11, e12, h⟩ := lt_e h
          refine gf_X10_55 X M hS hV e12 dX10_total_78 ?_
          exact u_iret X hret M (Option.some.inj h) (rfl) rfl dX10_total_81
        · have h := it_f h c10
          by_cases c13 : a1 = 4
          · have h := it_t h c13
            refine lv_tableIn (off := 81) (tgt := 82) hx hb dX10_total_1 (by rw [c13]; decide) (by rw [c13]; decide) (by rw [c13]; rfl) (by decide) ?_
            refine lv_aload_n hx hb dX10_total_82 rfl (lv_at hl 0 rfl) ?_
            obtain ⟨x14, e15, h⟩ := lt_e h
            refine gf_X10_58 X M hS hV e15 dX10_total_83 ?_
            exact u_iret X hret M (Option.some.inj h) (rfl) rfl dX10_total_86
          · have h := it_f h c13
            by_cases c16 : a1 = 5
            · have h := it_t h c16
              refine lv_tableIn (off := 86) (tgt := 87) hx hb dX10_total_1 (by rw [c16]; decide) (by rw [c16]; decide) (by rw [c16]; rfl) (by decide) ?_
              refine lv_aload_n hx hb dX10_total_87 rfl (lv_at hl 0 rfl) ?_
              obtain ⟨x17, e18, h⟩ := lt_e h
              refine gf_X10_61 X M hS hV e18 dX10_total_88 ?_
              exact u_iret X hret M (Option.some.inj h) (rfl) rfl dX10_total_91
            · have h := it_f h c16
              by_cases c19 : a1 = 6
              · have h := it_t h c19
                refine lv_tableIn (off := 91) (tgt := 92) hx hb dX10_total_1 (by rw [c19]; decide) (by rw [c19]; decide) (by rw [c19]; rfl) (by decide) ?_
                refine lv_aload_n hx hb dX10_total_92 rfl (lv_at hl 0 rfl) ?_
                refine gf_X10_28 X M hS dX10_total_93 ?_
                refine lv_iconst (v := (-1)) hx hb dX10_total_96 (by decide) ?_
                obtain ⟨x21, e20, h⟩ := bd_e h
                refine u_cVi X M hl.1 (kX3_ridesInLogs hS hV e20) cw_X10_87 ⟨by decide, by decide⟩ (rc_X3 X M hS) rfl rfl (Nat.le_of_ble_eq_true rfl) ⟨Nat.zero_le _, Nat.zero_le _⟩ dX10_total_97 (fun H locs M n22 => ?_)
                exact u_iret X hret M (Option.some.inj h) (rfl) rfl dX10_total_100
              · have h := it_f h c19
                by_cases c23 : a1 = 7
                · have h := it_t h c23
                  refine lv_tableIn (off := 100) (tgt := 101) hx hb dX10_total_1 (by rw [c23]; decide) (by rw [c23]; decide) (by rw [c23]; rfl) (by decide) ?_
                  refine lv_aload_n hx hb dX10_total_101 rfl (lv_at hl 0 rfl) ?_
                  refine gf_X10_28 X M hS dX10_total_102 ?_
                  refine lv_iconst (v := (-1)) hx hb dX10_total_105 (by decide) ?_
                  obtain ⟨x25, e24, h⟩ := bd_e h
                  refine u_cVi X M hl.1 (kX3_faresInLogs hS hV e24) cw_X10_91 ⟨by decide, by decide⟩ (rc_X3 X M hS) rfl rfl (Nat.le_of_ble_eq_true rfl) ⟨Nat.zero_le _, Nat.zero_le _⟩ dX10_total_106 (fun H locs M n26 => ?_)
                  exact u_iret X hret M (Option.some.inj h) (rfl) rfl dX10_total_109
                · have h := it_f h c23
                  by_cases c27 : a1 = 8
                  · have h := it_t h c27
                    refine lv_tableIn (off := 109) (tgt := 110) hx hb dX10_total_1 (by rw [c27]; decide) (by rw [c27]; decide) (by rw [c27]; rfl) (by decide) ?_
                    refine lv_aload_n hx hb dX10_total_110 rfl (lv_at hl 0 rfl) ?_
                    obtain ⟨x28, e29, h⟩ := lt_e h
                    refine gf_X10_64 X M hS hV e29 dX10_total_111 ?_
                    exact u_iret X hret M (Option.some.inj h) (rfl) rfl dX10_total_114
                  · have h := it_f h c27
                    by_cases c30 : a1 = 9
                    · have h := it_t h c30
                      refine lv_tableIn (off := 114) (tgt := 115) hx hb dX10_total_1 (by rw [c30]; decide) (by rw [c30]; decide) (by rw [c30]; rfl) (by decide) ?_
                      refine lv_aload_n hx hb dX10_total_115 rfl (lv_at hl 0 rfl) ?_
                      obtain ⟨x31, e32, h⟩ := lt_e h
                      refine gf_X10_67 X M hS hV e32 dX10_total_116 ?_
                      exact u_iret X hret M (Option.some.inj h) (rfl) rfl dX10_total_119
                    · have h := it_f h c30
                      have tc1 := lv_neT (a := 0) c1 (by decide)
                      have tc4 := lv_neT (a := 1) c4 (by decide)
                      have tc7 := lv_neT (a := 2) c7 (by decide)
                      have tc10 := lv_neT (a := 3) c10 (by decide)
                      have tc13 := lv_neT (a := 4) c13 (by decide)
                      have tc16 := lv_neT (a := 5) c16 (by decide)
                      have tc19 := lv_neT (a := 6) c19 (by decide)
                      have tc23 := lv_neT (a := 7) c23 (by decide)
                      have tc27 := lv_neT (a := 8) c27 (by decide)
                      have tc30 := lv_neT (a := 9) c30 (by decide)
                      refine lv_tableOut (tgt := 120) hx hb dX10_total_1 (by omega) (by decide) ?_
                      refine lv_aload_n hx hb dX10_total_120 rfl (lv_at hl 0 rfl) ?_
                      refine gf_X10_21 X M hS dX10_total_121 ?_
                      obtain ⟨x34, e33, h⟩ := bd_e h
                      refine u_cVi X M hl.1 (kX5_blockedSet hS hV e33) cw_X10_94 ⟨by decide, by decide⟩ (rc_X5 X M hS) rfl rfl (Nat.le_of_ble_eq_true rfl) ⟨Nat.zero_le _, Nat.zero_le _⟩ dX10_total_124 (fun H locs M n35 => ?_)
                      exact u_iret X hret M (Option.some.inj h) (rfl) rfl dX10_total_127
def fX10_accountNumber (S : (Nat → Nat → Int32)) (a1 : Int32) (a2 : Int32) : Option Int32 :=
  if a2 = 0 then
    lt_ (fget 8 (S 12) a1) fun x3 =>
    some x3
  else if a2 = 1 then
    lt_ (fget 8 (S 14) a1) fun x7 =>
    some x7
  else if a2 = 2 then
    lt_ (fget 8 (S 18) a1) fun x11 =>
    some x11
  else if a2 = 3 then
    lt_ (fget 8 (S 16) a1) fun x15 =>
    some x15
  else if a2 = 4 then
    lt_ (fX5_isBlocked S a1) fun x19 =>
    if x19 = 0 then
      some 0
    else
      some 1
  else if a2 = 5 then
    bd (fX0_countOf S a1) fun x24 =>
    some x24
  else if a2 = 6 then
    bd (fX3_ridesInLogs S a1) fun x28 =>
    some x28
  else 
  bd (fX3_faresInLogs S a1) fun x31 =>
  some x31
set_option maxHeartbeats 4000000 in
set_option maxRecDepth 20000 in
theorem kX10_accountNumber {l : Launch} {G : UG} {V : uV} {t : Nat} (hS : uSt G t) {S : (Nat → Nat → Int32)} (hV : V t = S) {a1 : Int32} {a2 : Int32} {r : Int32} (h : fX10_accountNumber S a1 a2 = some r) : uMi l G yX10_accountNumber cX10_accountNumber 3 .int (uR 3 69) [.ref (ga G t 0), .int a1, .int a2] V r V := by
  refine uMi_of rfl (Nat.le_of_ble_eq_true rfl) (fun p e s m args below meth c ls X hret hl M => ?_)
  have hl : lv_has ls 3 [(0, .ref (ga G t 0)), (1, .int a1), (2, .int a2)] := hl
  have hx := X.hx
  have hb := X.hb
  unfold fX10_accountNumber at h
  refine lv_iload_n hx hb dX10_accountNumber_0 rfl (lv_at hl 2 rfl) ?_
  by_cases c1 : a2 = 0
  · have h := it_t h c1
    refine lv_tableIn (off := 43) (tgt := 44) hx hb dX10_accountNumber_1 (by rw [c1]; decide) (by rw [c1]; decide) (by rw [c1]; rfl) (by decide) ?_
    refine lv_aload_n hx hb dX10_accountNumber_44 rfl (lv_at hl 0 rfl) ?_
    refine gf_X10_21 X M hS dX10_accountNumber_45 ?_
    refine gf_X10_98 X M hS dX10_accountNumber_48 ?_
    refine lv_iload_n hx hb dX10_accountNumber_51 rfl (lv_at hl 1 rfl) ?_
    obtain ⟨x3, e2, h⟩ := lt_e h
    refine u_cVi X M hl.1 (kX6_get (uRw11 hS) (congrFun hV 12) e2.symm) cw_X10_101 ⟨by decide, by decide⟩ (uR_recv X M (uRw11 hS)) rfl rfl (Nat.le_of_ble_eq_true rfl) ⟨Nat.zero_le _, Nat.zero_le _⟩ dX10_accountNumber_52 (fun H locs M n4 => ?_)
    exact u_iret X hret M (Option.some.inj h) (rfl) rfl dX10_accountNumber_55
  · have h := it_f h c1
    by_cases c5 : a2 = 1
    · have h := it_t h c5
      refine lv_tableIn (off := 55) (tgt := 56) hx hb dX10_accountNumber_1 (by rw [c5]; decide) (by rw [c5]; decide) (by rw [c5]; rfl) (by decide) ?_
      refine lv_aload_n hx hb dX10_accountNumber_56 rfl (lv_at hl 0 rfl) ?_
      refine gf_X10_21 X M hS dX10_accountNumber_57 ?_
      refine gf_X10_104 X M hS dX10_accountNumber_60 ?_
      refine lv_iload_n hx hb dX10_accountNumber_63 rfl (lv_at hl 1 rfl) ?_
      obtain ⟨x7, e6, h⟩ := lt_e h
      refine u_cVi X M hl.1 (kX6_get (uRw13 hS) (congrFun hV 14) e6.symm) cw_X10_101 ⟨by decide, by decide⟩ (uR_recv X M (uRw13 hS)) rfl rfl (Nat.le_of_ble_eq_true rfl) ⟨Nat.zero_le _, Nat.zero_le _⟩ dX10_accountNumber_64 (fun H locs M n8 => ?_)
      exact u_iret X hret M (Option.some.inj h) (rfl) rfl dX10_accountNumber_67
    · have h := it_f h c5
      by_cases c9 : a2 = 2
      · have h := it_t h c9
        refine lv_tableIn (off := 67) (tgt := 68) hx hb dX10_accountNumber_1 (by rw [c9]; decide) (by rw [c9]; decide) (by rw [c9]; rfl) (by decide) ?_
        refine lv_aload_n hx hb dX10_accountNumber_68 rfl (lv_at hl 0 rfl) ?_
        refine gf_X10_21 X M hS dX10_accountNumber_69 ?_
        refine gf_X10_107 X M hS dX10_accountNumber_72 ?_
        refine lv_iload_n hx hb dX10_accountNumber_75 rfl (lv_at hl 1 rfl) ?_
        obtain ⟨x11, e10, h⟩ := lt_e h
        refine u_cVi X M hl.1 (kX6_get (uRw17 hS) (congrFun hV 18) e10.symm) cw_X10_101 ⟨by decide, by decide⟩ (uR_recv X M (uRw17 hS)) rfl rfl (Nat.le_of_ble_eq_true rfl) ⟨Nat.zero_le _, Nat.zero_le _⟩ dX10_accountNumber_76 (fun H locs M n12 => ?_)
        exact u_iret X hret M (Option.some.inj h) (rfl) rfl dX10_accountNumber_79
      · have h := it_f h c9
        by_cases c13 : a2 = 3
        · have h := it_t h c13
          refine lv_tableIn (off := 79) (tgt := 80) hx hb dX10_accountNumber_1 (by rw [c13]; decide) (by rw [c13]; decide) (by rw [c13]; rfl) (by decide) ?_
          refine lv_aload_n hx hb dX10_accountNumber_80 rfl (lv_at hl 0 rfl) ?_
          refine gf_X10_21 X M hS dX10_accountNumber_81 ?_
          refine gf_X10_110 X M hS dX10_accountNumber_84 ?_
          refine lv_iload_n hx hb dX10_accountNumber_87 rfl (lv_at hl 1 rfl) ?_
          obtain ⟨x15, e14, h⟩ := lt_e h
          refine u_cVi X M hl.1 (kX6_get (uRw15 hS) (congrFun hV 16) e14.symm) cw_X10_101 ⟨by decide, by decide⟩ (uR_recv X M (uRw15 hS)) rfl rfl (Nat.le_of_ble_eq_true rfl) ⟨Nat.zero_le _, Nat.zero_le _⟩ dX10_accountNumber_88 (fun H locs M n16 => ?_)
          exact u_iret X hret M (Option.some.inj h) (rfl) rfl dX10_accountNumber_91
        · have h := it_f h c13
          by_cases c17 : a2 = 4
          · have h := it_t h c17
            refine lv_tableIn (off := 91) (tgt := 92) hx hb dX10_accountNumber_1 (by rw [c17]; decide) (by rw [c17]; decide) (by rw [c17]; rfl) (by decide) ?_
            refine lv_aload_n hx hb dX10_accountNumber_92 rfl (lv_at hl 0 rfl) ?_
            refine gf_X10_21 X M hS dX10_accountNumber_93 ?_
            refine lv_iload_n hx hb dX10_accountNumber_96 rfl (lv_at hl 1 rfl) ?_
            obtain ⟨x19, e18, h⟩ := lt_e h
            refine u_cVi X M hl.1 (kX5_isBlocked hS hV e18.symm) cw_X10_113 ⟨by decide, by decide⟩ (rc_X5 X M hS) rfl rfl (Nat.le_of_ble_eq_true rfl) ⟨Nat.zero_le _, Nat.zero_le _⟩ dX10_accountNumber_97 (fun H locs M n20 => ?_)
            refine lv_if_eq (tgt := 107) hx hb dX10_accountNumber_100 (by decide) (fun c21 => ?_) (fun c21 => ?_)
            · have h := it_t h c21
              refine lv_iconst (v := 0) hx hb dX10_accountNumber_107 (by decide) ?_
              exact u_iret X hret M (Option.some.inj h) (rfl) rfl dX10_accountNumber_108
            · have h := it_f h c21
              refine lv_iconst (v := 1) hx hb dX10_accountNumber_103 (by decide) ?_
              refine lv_goto (tgt := 108) hx hb dX10_accountNumber_104 (by decide) ?_
              exact u_iret X hret M (Option.some.inj h) (rfl) rfl dX10_accountNumber_108
          · have h := it_f h c17
            by_cases c22 : a2 = 5
            · have h := it_t h c22
              refine lv_tableIn (off := 108) (tgt := 109) hx hb dX10_accountNumber_1 (by rw [c22]; decide) (by rw [c22]; decide) (by rw [c22]; rfl) (by decide) ?_
              refine lv_aload_n hx hb dX10_accountNumber_109 rfl (lv_at hl 0 rfl) ?_
              refine gf_X10_12 X M hS dX10_accountNumber_110 ?_
              refine lv_iload_n hx hb dX10_accountNumber_113 rfl (lv_at hl 1 rfl) ?_
              obtain ⟨x24, e23, h⟩ := bd_e h
              refine u_cVi X M hl.1 (kX0_countOf hS hV e23) cw_X10_117 ⟨by decide, by decide⟩ (rc_X0 X M hS) rfl rfl (Nat.le_of_ble_eq_true rfl) ⟨Nat.zero_le _, Nat.zero_le _⟩ dX10_accountNumber_114 (fun H locs M n25 => ?_)
              exact u_iret X hret M (Option.some.inj h) (rfl) rfl dX10_accountNumber_117
            · have h := it_f h c22
              by_cases c26 : a2 = 6
              · have h := it_t h c26
                refine lv_tableIn (off := 117) (tgt := 118) hx hb dX10_accountNumber_1 (by rw [c26]; decide) (by rw [c26]; decide) (by rw [c26]; rfl) (by decide) ?_
                refine lv_aload_n hx hb dX10_accountNumber_118 rfl (lv_at hl 0 rfl) ?_
                refine gf_X10_28 X M hS dX10_accountNumber_119 ?_
                refine lv_iload_n hx hb dX10_accountNumber_122 rfl (lv_at hl 1 rfl) ?_
                obtain ⟨x28, e27, h⟩ := bd_e h
                refine u_cVi X M hl.1 (kX3_ridesInLogs hS hV e27) cw_X10_87 ⟨by decide, by decide⟩ (rc_X3 X M hS) rfl rfl (Nat.le_of_ble_eq_true rfl) ⟨Nat.zero_le _, Nat.zero_le _⟩ dX10_accountNumber_123 (fun H locs M n29 => ?_)
                exact u_iret X hret M (Option.some.inj h) (rfl) rfl dX10_accountNumber_126
              · have h := it_f h c26
                have tc1 := lv_neT (a := 0) c1 (by decide)
                have tc5 := lv_neT (a := 1) c5 (by decide)
                have tc9 := lv_neT (a := 2) c9 (by decide)
                have tc13 := lv_neT (a := 3) c13 (by decide)
                have tc17 := lv_neT (a := 4) c17 (by decide)
                have tc22 := lv_neT (a := 5) c22 (by decide)
                have tc26 := lv_neT (a := 6) c26 (by decide)
                refine lv_tableOut (tgt := 127) hx hb dX10_accountNumber_1 (by omega) (by decide) ?_
                refine lv_aload_n hx hb dX10_accountNumber_127 rfl (lv_at hl 0 rfl) ?_
                refine gf_X10_28 X M hS dX10_accountNumber_128 ?_
                refine lv_iload_n hx hb dX10_accountNumber_131 rfl (lv_at hl 1 rfl) ?_
                obtain ⟨x31, e30, h⟩ := bd_e h
                refine u_cVi X M hl.1 (kX3_faresInLogs hS hV e30) cw_X10_91 ⟨by decide, by decide⟩ (rc_X3 X M hS) rfl rfl (Nat.le_of_ble_eq_true rfl) ⟨Nat.zero_le _, Nat.zero_le _⟩ dX10_accountNumber_132 (fun H locs M n32 => ?_)
                exact u_iret X hret M (Option.some.inj h) (rfl) rfl dX10_accountNumber_135
def fX10_listAt (S : (Nat → Nat → Int32)) (a1 : Int32) : Option Int32 :=
  lt_ (fX3_isUp S a1) fun x2 =>
  if x2 = 0 then
    lt_ (fget 4 (S 25) a1) fun x6 =>
    some x6
  else
    bd (fX5_blockedSet S) fun x9 =>
    some x9
set_option maxHeartbeats 4000000 in
set_option maxRecDepth 20000 in
theorem kX10_listAt {l : Launch} {G : UG} {V : uV} {t : Nat} (hS : uSt G t) {S : (Nat → Nat → Int32)} (hV : V t = S) {a1 : Int32} {r : Int32} (h : fX10_listAt S a1 = some r) : uMi l G yX10_listAt cX10_listAt 2 .int (uR 3 64) [.ref (ga G t 0), .int a1] V r V := by
  refine uMi_of rfl (Nat.le_of_ble_eq_true rfl) (fun p e s m args below meth c ls X hret hl M => ?_)
  have hl : lv_has ls 2 [(0, .ref (ga G t 0)), (1, .int a1)] := hl
  have hx := X.hx
  have hb := X.hb
  unfold fX10_listAt at h
  refine lv_aload_n hx hb dX10_listAt_0 rfl (lv_at hl 0 rfl) ?_
  refine gf_X10_28 X M hS dX10_listAt_1 ?_
  refine lv_iload_n hx hb dX10_listAt_4 rfl (lv_at hl 1 rfl) ?_
  obtain ⟨x2, e1, h⟩ := lt_e h
  refine u_cVi X M hl.1 (kX3_isUp hS hV e1.symm) cw_X10_120 ⟨by decide, by decide⟩ (rc_X3 X M hS) rfl rfl (Nat.le_of_ble_eq_true rfl) ⟨Nat.zero_le _, Nat.zero_le _⟩ dX10_listAt_5 (fun H locs M n3 => ?_)
  refine lv_if_eq (tgt := 21) hx hb dX10_listAt_8 (by decide) (fun c4 => ?_) (fun c4 => ?_)
  · have h := it_t h c4
    refine lv_aload_n hx hb dX10_listAt_21 rfl (lv_at hl 0 rfl) ?_
    refine gf_X10_28 X M hS dX10_listAt_22 ?_
    refine gf_X10_123 X M hS dX10_listAt_25 ?_
    refine lv_iload_n hx hb dX10_listAt_28 rfl (lv_at hl 1 rfl) ?_
    obtain ⟨x6, e5, h⟩ := lt_e h
    refine u_cVi X M hl.1 (kX6_get (uRw24 hS) (congrFun hV 25) e5.symm) cw_X10_101 ⟨by decide, by decide⟩ (uR_recv X M (uRw24 hS)) rfl rfl (Nat.le_of_ble_eq_true rfl) ⟨Nat.zero_le _, Nat.zero_le _⟩ dX10_listAt_29 (fun H locs M n7 => ?_)
    exact u_iret X hret M (Option.some.inj h) (rfl) rfl dX10_listAt_32
  · have h := it_f h c4
    refine lv_aload_n hx hb dX10_listAt_11 rfl (lv_at hl 0 rfl) ?_
    refine gf_X10_21 X M hS dX10_listAt_12 ?_
    obtain ⟨x9, e8, h⟩ := bd_e h
    refine u_cVi X M hl.1 (kX5_blockedSet hS hV e8) cw_X10_94 ⟨by decide, by decide⟩ (rc_X5 X M hS) rfl rfl (Nat.le_of_ble_eq_true rfl) ⟨Nat.zero_le _, Nat.zero_le _⟩ dX10_listAt_15 (fun H locs M n10 => ?_)
    refine lv_goto (tgt := 32) hx hb dX10_listAt_18 (by decide) ?_
    exact u_iret X hret M (Option.some.inj h) (rfl) rfl dX10_listAt_32
def fX10_hasRoomForAccount (S : (Nat → Nat → Int32)) : Int32 :=
  lt_ (fX5_isFull S) fun x2 =>
  if x2 = 0 then
    lt_ (fX0_isFull S) fun x6 =>
    if x6 = 0 then
      1
    else
      0
  else
    0
set_option maxHeartbeats 4000000 in
set_option maxRecDepth 20000 in
theorem kX10_hasRoomForAccount {l : Launch} {G : UG} {V : uV} {t : Nat} (hS : uSt G t) {S : (Nat → Nat → Int32)} (hV : V t = S)  {r : Int32} (h : fX10_hasRoomForAccount S = r) : uMi l G yX10_hasRoomForAccount cX10_hasRoomForAccount 1 .boolean (uR 1 20) [.ref (ga G t 0)] V r V := by
  refine uMi_of rfl (Nat.le_of_ble_eq_true rfl) (fun p e s m args below meth c ls X hret hl M => ?_)
  have hl : lv_has ls 1 [(0, .ref (ga G t 0))] := hl
  have hx := X.hx
  have hb := X.hb
  unfold fX10_hasRoomForAccount at h
  refine lv_aload_n hx hb dX10_hasRoomForAccount_0 rfl (lv_at hl 0 rfl) ?_
  refine gf_X10_21 X M hS dX10_hasRoomForAccount_1 ?_
  obtain ⟨x2, e1, h⟩ := lt_e h
  refine u_cVi X M hl.1 (kX5_isFull hS hV e1.symm) cw_X10_126 ⟨by decide, by decide⟩ (rc_X5 X M hS) rfl rfl (Nat.le_of_ble_eq_true rfl) ⟨Nat.zero_le _, Nat.zero_le _⟩ dX10_hasRoomForAccount_4 (fun H locs M n3 => ?_)
  refine lv_if_ne (tgt := 24) hx hb dX10_hasRoomForAccount_7 (by decide) (fun c4 => ?_) (fun c4 => ?_)
  · have h := it_f h c4
    refine lv_iconst (v := 0) hx hb dX10_hasRoomForAccount_24 (by decide) ?_
    exact u_iret X hret M h (rfl) rfl dX10_hasRoomForAccount_25
  · have h := it_t h c4
    refine lv_aload_n hx hb dX10_hasRoomForAccount_10 rfl (lv_at hl 0 rfl) ?_
    refine gf_X10_12 X M hS dX10_hasRoomForAccount_11 ?_
    obtain ⟨x6, e5, h⟩ := lt_e h
    refine u_cVi X M hl.1 (kX0_isFull hS hV e5.symm) cw_X10_130 ⟨by decide, by decide⟩ (rc_X0 X M hS) rfl rfl (Nat.le_of_ble_eq_true rfl) ⟨Nat.zero_le _, Nat.zero_le _⟩ dX10_hasRoomForAccount_14 (fun H locs M n7 => ?_)
    refine lv_if_ne (tgt := 24) hx hb dX10_hasRoomForAccount_17 (by decide) (fun c8 => ?_) (fun c8 => ?_)
    · have h := it_f h c8
      refine lv_iconst (v := 0) hx hb dX10_hasRoomForAccount_24 (by decide) ?_
      exact u_iret X hret M h (rfl) rfl dX10_hasRoomForAccount_25
    · have h := it_t h c8
      refine lv_iconst (v := 1) hx hb dX10_hasRoomForAccount_20 (by decide) ?_
      refine lv_goto (tgt := 25) hx hb dX10_hasRoomForAccount_21 (by decide) ?_
      exact u_iret X hret M h (rfl) rfl dX10_hasRoomForAccount_25
def fX10_makeAccount (S : (Nat → Nat → Int32)) (a1 : Int32) : Option (Int32 × (Nat → Nat → Int32)) :=
  bd2 (fX5_make S a1) fun x2 S3 =>
  bd2 (fX0_make S3 x2 a1 0 (-1)) fun x6 S7 =>
  some (x6, S7)
set_option maxHeartbeats 4000000 in
set_option maxRecDepth 20000 in
theorem kX10_makeAccount {l : Launch} {G : UG} {V : uV} {t : Nat} (hS : uSt G t) {S S' : (Nat → Nat → Int32)} {a1 : Int32} {r : Int32} (h : fX10_makeAccount S a1 = some (r, S')) : uMi l G yX10_makeAccount cX10_makeAccount 2 .int (uR 2 47) [.ref (ga G t 0), .int a1] (va_up V t S) r (va_up V t S') := by
  refine uMi_of rfl (Nat.le_of_ble_eq_true rfl) (fun p e s m args below meth c ls X hret hl M => ?_)
  have hl : lv_has ls 2 [(0, .ref (ga G t 0)), (1, .int a1)] := hl
  have hx := X.hx
  have hb := X.hb
  unfold fX10_makeAccount at h
  refine lv_aload_n hx hb dX10_makeAccount_0 rfl (lv_at hl 0 rfl) ?_
  refine gf_X10_12 X M hS dX10_makeAccount_1 ?_
  refine lv_aload_n hx hb dX10_makeAccount_4 rfl (lv_at hl 0 rfl) ?_
  refine gf_X10_21 X M hS dX10_makeAccount_5 ?_
  refine lv_iload_n hx hb dX10_makeAccount_8 rfl (lv_at hl 1 rfl) ?_
  obtain ⟨x2, S3, e1, h⟩ := bd2_e h
  refine u_cVi X M hl.1 (kX5_make hS e1) cw_X10_131 ⟨by decide, by decide⟩ (rc_X5 X M hS) rfl rfl (Nat.le_of_ble_eq_true rfl) ⟨Nat.zero_le _, Nat.zero_le _⟩ dX10_makeAccount_9 (fun H locs M n4 => ?_)
  refine lv_iload_n hx hb dX10_makeAccount_12 rfl (lv_at hl 1 rfl) ?_
  refine lv_iconst (v := 0) hx hb dX10_makeAccount_13 (by decide) ?_
  refine lv_iconst (v := (-1)) hx hb dX10_makeAccount_14 (by decide) ?_
  obtain ⟨x6, S7, e5, h⟩ := bd2_e h
  refine u_cVi X M hl.1 (kX0_make hS e5) cw_X10_134 ⟨by decide, by decide⟩ (rc_X0 X M hS) rfl rfl (Nat.le_of_ble_eq_true rfl) ⟨Nat.zero_le _, Nat.zero_le _⟩ dX10_makeAccount_15 (fun H locs M n8 => ?_)
  exact u_iret X hret M (rt2 h).1 (congrArg (va_up V t) ((rt2 h).2)) rfl dX10_makeAccount_18
def fX10_takeDown (S : (Nat → Nat → Int32)) (a1 : Int32) : Option (Int32 × (Nat → Nat → Int32)) :=
  bd (fX5_blockedSet S) fun x2 =>
  lt_ (va_up S 25 (fput 4 (S 25) a1 x2)) fun S5 =>
  bd (fX3_setLine S5 a1 0) fun S8 =>
  lt_ (fget 4 (S8 25) a1) fun x11 =>
  some (x11, S8)
set_option maxHeartbeats 4000000 in
set_option maxRecDepth 20000 in
theorem kX10_takeDown {l : Launch} {G : UG} {V : uV} {t : Nat} (hS : uSt G t) {S S' : (Nat → Nat → Int32)} {a1 : Int32} {r : Int32} (h : fX10_takeDown S a1 = some (r, S')) : uMi l G yX10_takeDown cX10_takeDown 2 .int (uR 3 64) [.ref (ga G t 0), .int a1] (va_up V t S) r (va_up V t S') := by
  refine uMi_of rfl (Nat.le_of_ble_eq_true rfl) (fun p e s m args below meth c ls X hret hl M => ?_)
  have hl : lv_has ls 2 [(0, .ref (ga G t 0)), (1, .int a1)] := hl
  have hx := X.hx
  have hb := X.hb
  unfold fX10_takeDown at h
  refine lv_aload_n hx hb dX10_takeDown_0 rfl (lv_at hl 0 rfl) ?_
  refine gf_X10_28 X M hS dX10_takeDown_1 ?_
  refine gf_X10_123 X M hS dX10_takeDown_4 ?_
  refine lv_iload_n hx hb dX10_takeDown_7 rfl (lv_at hl 1 rfl) ?_
  refine lv_aload_n hx hb dX10_takeDown_8 rfl (lv_at hl 0 rfl) ?_
  refine gf_X10_21 X M hS dX10_takeDown_9 ?_
  obtain ⟨x2, e1, h⟩ := bd_e h
  refine u_cVi X M hl.1 (kX5_blockedSet hS (va_up_s V t _) e1) cw_X10_94 ⟨by decide, by decide⟩ (rc_X5 X M hS) rfl rfl (Nat.le_of_ble_eq_true rfl) ⟨Nat.zero_le _, Nat.zero_le _⟩ dX10_takeDown_12 (fun H locs M n3 => ?_)
  obtain ⟨S5, e4, h⟩ := lt_e h
  refine u_cVv X M hl.1 (kX6_putS (uRw24 hS) e4) cw_X10_47 ⟨by decide, by decide⟩ (uR_recv X M (uRw24 hS)) rfl rfl (Nat.le_of_ble_eq_true rfl) ⟨Nat.zero_le _, Nat.zero_le _⟩ dX10_takeDown_15 (fun H locs M => ?_)
  refine lv_aload_n hx hb dX10_takeDown_18 rfl (lv_at hl 0 rfl) ?_
  refine gf_X10_28 X M hS dX10_takeDown_19 ?_
  refine lv_iload_n hx hb dX10_takeDown_22 rfl (lv_at hl 1 rfl) ?_
  refine lv_iconst (v := 0) hx hb dX10_takeDown_23 (by decide) ?_
  obtain ⟨S8, e7, h⟩ := bd_e h
  refine u_cVv X M hl.1 (kX3_setLine hS e7) cw_X10_137 ⟨by decide, by decide⟩ (rc_X3 X M hS) rfl rfl (Nat.le_of_ble_eq_true rfl) ⟨Nat.zero_le _, Nat.zero_le _⟩ dX10_takeDown_24 (fun H locs M => ?_)
  refine lv_aload_n hx hb dX10_takeDown_27 rfl (lv_at hl 0 rfl) ?_
  refine gf_X10_28 X M hS dX10_takeDown_28 ?_
  refine gf_X10_123 X M hS dX10_takeDown_31 ?_
  refine lv_iload_n hx hb dX10_takeDown_34 rfl (lv_at hl 1 rfl) ?_
  obtain ⟨x11, e10, h⟩ := lt_e h
  refine u_cVi X M hl.1 (kX6_get (uRw24 hS) (congrFun (va_up_s V t _) 25) e10.symm) cw_X10_101 ⟨by decide, by decide⟩ (uR_recv X M (uRw24 hS)) rfl rfl (Nat.le_of_ble_eq_true rfl) ⟨Nat.zero_le _, Nat.zero_le _⟩ dX10_takeDown_35 (fun H locs M n12 => ?_)
  exact u_iret X hret M (rt2 h).1 (congrArg (va_up V t) ((rt2 h).2)) rfl dX10_takeDown_38
def fX10_settle (S : (Nat → Nat → Int32)) (a1 : Int32) (a2 : Int32) (a3 : Int32) : Option (Nat → Nat → Int32) :=
  lt_ (fget 4 (S 39) 3) fun x2 =>
  bd2 (fX5_settleRide S a1 a2 a3 x2) fun x5 S6 =>
  if x5 = 0 then
    lt_ (S6 0 7) fun x9 =>
    lt_ (va_up S6 0 (upd (S6 0) 7 (x9 + 1))) fun S11 =>
    some S11
  else
    lt_ (S6 0 5) fun x13 =>
    lt_ (va_up S6 0 (upd (S6 0) 5 (x13 + 1))) fun S15 =>
    lt_ (S15 0 6) fun x17 =>
    lt_ (va_up S15 0 (upd (S15 0) 6 (x17 + a3))) fun S19 =>
    some S19
set_option maxHeartbeats 4000000 in
set_option maxRecDepth 20000 in
theorem kX10_settle {l : Launch} {G : UG} {V : uV} {t : Nat} (hS : uSt G t) {S S' : (Nat → Nat → Int32)} {a1 : Int32} {a2 : Int32} {a3 : Int32} (h : fX10_settle S a1 a2 a3 = some S') : uMv l G yX10_settle cX10_settle 4 (uR 2 49) [.ref (ga G t 0), .int a1, .int a2, .int a3] (va_up V t S) (va_up V t S') := by
  refine uMv_of rfl (Nat.le_of_ble_eq_true rfl) (fun p e s m args below meth c ls X hret hl M => ?_)
  have hl : lv_has ls 4 [(0, .ref (ga G t 0)), (1, .int a1), (2, .int a2), (3, .int a3)] := hl
  have hx := X.hx
  have hb := X.hb
  unfold fX10_settle at h
  refine lv_aload_n hx hb dX10_settle_0 rfl (lv_at hl 0 rfl) ?_
  refine gf_X10_21 X M hS dX10_settle_1 ?_
  refine lv_iload_n hx hb dX10_settle_4 rfl (lv_at hl 1 rfl) ?_
  refine lv_iload_n hx hb dX10_settle_5 rfl (lv_at hl 2 rfl) ?_
  refine lv_iload_n hx hb dX10_settle_6 rfl (lv_at hl 3 rfl) ?_
  refine lv_aload_n hx hb dX10_settle_7 rfl (lv_at hl 0 rfl) ?_
  refine gf_X10_37 X M hS dX10_settle_8 ?_
  refine lv_iconst (v := 3) hx hb dX10_settle_11 (by decide) ?_
  obtain ⟨x2, e1, h⟩ := lt_e h
  refine u_cVi X M hl.1 (kX6_get (uRw38 hS) (congrFun (va_up_s V t _) 39) e1.symm) cw_X10_101 ⟨by decide, by decide⟩ (uR_recv X M (uRw38 hS)) rfl rfl (Nat.le_of_ble_eq_true rfl) ⟨Nat.zero_le _, Nat.zero_le _⟩ dX10_settle_12 (fun H locs M n3 => ?_)
  obtain ⟨x5, S6, e4, h⟩ := bd2_e h
  refine u_cVi X M hl.1 (kX5_settleRide hS e4) cw_X10_155 ⟨by decide, by decide⟩ (rc_X5 X M hS) rfl rfl (Nat.le_of_ble_eq_true rfl) ⟨Nat.zero_le _, Nat.zero_le _⟩ dX10_settle_15 (fun H locs M n7 => ?_)
  refine lv_if_eq (tgt := 44) hx hb dX10_settle_18 (by decide) (fun c8 => ?_) (fun c8 => ?_)
  · have h := it_t h c8
    refine lv_aload_n hx hb dX10_settle_44 rfl (lv_at hl 0 rfl) ?_
    refine lv_dup hx hb dX10_settle_45 rfl ?_
    obtain ⟨x9, e10, h⟩ := lt_e h
    refine gf_X10_61 X M hS (va_up_s V t _) e10 dX10_settle_46 ?_
    refine lv_iconst (v := 1) hx hb dX10_settle_49 (by decide) ?_
    refine lv_iadd hx hb dX10_settle_50 ?_
    obtain ⟨S11, e12, h⟩ := lt_e h
    refine pf_X10_61 X M hS e12 dX10_settle_51 (fun H locs M => ?_)
    exact u_vret X hret M (congrArg (va_up V t) (Option.some.inj h)) dX10_settle_54
  · have h := it_f h c8
    refine lv_aload_n hx hb dX10_settle_21 rfl (lv_at hl 0 rfl) ?_
    refine lv_dup hx hb dX10_settle_22 rfl ?_
    obtain ⟨x13, e14, h⟩ := lt_e h
    refine gf_X10_55 X M hS (va_up_s V t _) e14 dX10_settle_23 ?_
    refine lv_iconst (v := 1) hx hb dX10_settle_26 (by decide) ?_
    refine lv_iadd hx hb dX10_settle_27 ?_
    obtain ⟨S15, e16, h⟩ := lt_e h
    refine pf_X10_55 X M hS e16 dX10_settle_28 (fun H locs M => ?_)
    refine lv_aload_n hx hb dX10_settle_31 rfl (lv_at hl 0 rfl) ?_
    refine lv_dup hx hb dX10_settle_32 rfl ?_
    obtain ⟨x17, e18, h⟩ := lt_e h
    refine gf_X10_58 X M hS (va_up_s V t _) e18 dX10_settle_33 ?_
    refine lv_iload_n hx hb dX10_settle_36 rfl (lv_at hl 3 rfl) ?_
    refine lv_iadd hx hb dX10_settle_37 ?_
    obtain ⟨S19, e20, h⟩ := lt_e h
    refine pf_X10_58 X M hS e20 dX10_settle_38 (fun H locs M => ?_)
    refine lv_goto (tgt := 54) hx hb dX10_settle_41 (by decide) ?_
    exact u_vret X hret M (congrArg (va_up V t) (Option.some.inj h)) dX10_settle_54
def fX10_bringUp_L17 (n : Nat) (S : (Nat → Nat → Int32)) (y1 : Int32) (y2 : Int32) (y3 : Int32) (y4 : Int32) : Option (Int32 × (Nat → Nat → Int32)) :=
  match n with
  | 0 => none
  | n + 1 =>
    if y3 ≤ y4 then
      bd (fX3_emptyLog S y1) fun S8 =>
      bd (fX3_setLine S8 y1 1) fun S11 =>
      lt_ (S11 0 7) fun x13 =>
      some ((x13 - y2), S11)
    else
      lt_ (fX3_loggedNumber S y1 y4 0) fun x16 =>
      lt_ (fX3_loggedNumber S y1 y4 1) fun x19 =>
      lt_ (fX3_loggedNumber S y1 y4 2) fun x22 =>
      bd (fX10_settle S x16 x19 x22) fun S25 =>
      lt_ (y4 + 1) fun x27 =>
      fX10_bringUp_L17 n S25 y1 y2 y3 x27
set_option maxHeartbeats 4000000 in
set_option maxRecDepth 20000 in
theorem lpX10_bringUp_17 {l : Launch} {G : UG} {V : uV} {t : Nat} (hS : uSt G t) {S' : (Nat → Nat → Int32)} {r : Int32} {p : Program} {e : Env} {s : State} {m : MethodId} {args : Array Value} {below : List Frame} {meth : Method} {c : Code} (X : UC p s m args meth c cX10_bringUp 5 RX10 G) (hret : meth.sig.returnType = some .int) : ∀ (n : Nat) (S : (Nat → Nat → Int32)) (y1 : Int32) (y2 : Int32) (y3 : Int32) (y4 : Int32) (H : Heap) (locs : List Loc) (ls : Array Slot), fX10_bringUp_L17  n S y1 y2 y3 y4 = some (r, S') → UM G (va_up V t S) s H locs → lv_has ls 5 [(0, .ref (ga G t 0)), (1, .int y1), (2, .int y2), (3, .int y3), (4, .int y4)] → W p l e (uR 3 72) s m args below meth c H locs 0 0 (MQ below (uQi G .int r (va_up V t S')) args s 0 0 (uA G)) (F0 m 17 ls []) := by
  intro n
  have hx := X.hx
  have hb := X.hb
  induction n with
  | zero => intro S y1 y2 y3 y4 H locs ls h M hl; rw [fX10_bringUp_L17] at h; cases h
  | succ n ih =>
    intro S y1 y2 y3 y4 H locs ls h M hl
    rw [fX10_bringUp_L17] at h
    refine lv_iload hx hb dX10_bringUp_17 (lv_at hl 4 rfl) ?_
    refine lv_iload_n hx hb dX10_bringUp_19 rfl (lv_at hl 3 rfl) ?_
    refine lv_icmp_ge (tgt := 66) hx hb dX10_bringUp_20 (by decide) (fun c6 => ?_) (fun c6 => ?_)
    · have h := it_t h c6
      refine lv_aload_n hx hb dX10_bringUp_66 rfl (lv_at hl 0 rfl) ?_
      refine gf_X10_28 X M hS dX10_bringUp_67 ?_
      refine lv_iload_n hx hb dX10_bringUp_70 rfl (lv_at hl 1 rfl) ?_
      obtain ⟨S8, e7, h⟩ := bd_e h
      refine u_cVv X M hl.1 (kX3_emptyLog hS e7) cw_X10_152 ⟨by decide, by decide⟩ (rc_X3 X M hS) rfl rfl (Nat.le_of_ble_eq_true rfl) ⟨Nat.zero_le _, Nat.zero_le _⟩ dX10_bringUp_71 (fun H locs M => ?_)
      refine lv_aload_n hx hb dX10_bringUp_74 rfl (lv_at hl 0 rfl) ?_
      refine gf_X10_28 X M hS dX10_bringUp_75 ?_
      refine lv_iload_n hx hb dX10_bringUp_78 rfl (lv_at hl 1 rfl) ?_
      refine lv_iconst (v := 1) hx hb dX10_bringUp_79 (by decide) ?_
      obtain ⟨S11, e10, h⟩ := bd_e h
      refine u_cVv X M hl.1 (kX3_setLine hS e10) cw_X10_137 ⟨by decide, by decide⟩ (rc_X3 X M hS) rfl rfl (Nat.le_of_ble_eq_true rfl) ⟨Nat.zero_le _, Nat.zero_le _⟩ dX10_bringUp_80 (fun H locs M => ?_)
      refine lv_aload_n hx hb dX10_bringUp_83 rfl (lv_at hl 0 rfl) ?_
      obtain ⟨x13, e14, h⟩ := lt_e h
      refine gf_X10_61 X M hS (va_up_s V t _) e14 dX10_bringUp_84 ?_
      refine lv_iload_n hx hb dX10_bringUp_87 rfl (lv_at hl 2 rfl) ?_
      refine lv_isub hx hb dX10_bringUp_88 ?_
      exact u_iret X hret M (rt2 h).1 (congrArg (va_up V t) ((rt2 h).2)) rfl dX10_bringUp_89
    · have h := it_f h c6
      refine lv_aload_n hx hb dX10_bringUp_23 rfl (lv_at hl 0 rfl) ?_
      refine lv_aload_n hx hb dX10_bringUp_24 rfl (lv_at hl 0 rfl) ?_
      refine gf_X10_28 X M hS dX10_bringUp_25 ?_
      refine lv_iload_n hx hb dX10_bringUp_28 rfl (lv_at hl 1 rfl) ?_
      refine lv_iload hx hb dX10_bringUp_29 (lv_at hl 4 rfl) ?_
      refine lv_iconst (v := 0) hx hb dX10_bringUp_31 (by decide) ?_
      obtain ⟨x16, e15, h⟩ := lt_e h
      refine u_cVi X M hl.1 (kX3_loggedNumber hS (va_up_s V t _) e15.symm) cw_X10_144 ⟨by decide, by decide⟩ (rc_X3 X M hS) rfl rfl (Nat.le_of_ble_eq_true rfl) ⟨Nat.zero_le _, Nat.zero_le _⟩ dX10_bringUp_32 (fun H locs M n17 => ?_)
      refine lv_aload_n hx hb dX10_bringUp_35 rfl (lv_at hl 0 rfl) ?_
      refine gf_X10_28 X M hS dX10_bringUp_36 ?_
      refine lv_iload_n hx hb dX10_bringUp_39 rfl (lv_at hl 1 rfl) ?_
      refine lv_iload hx hb dX10_bringUp_40 (lv_at hl 4 rfl) ?_
      refine lv_iconst (v := 1) hx hb dX10_bringUp_42 (by decide) ?_
      obtain ⟨x19, e18, h⟩ := lt_e h
      refine u_cVi X M hl.1 (kX3_loggedNumber hS (va_up_s V t _) e18.symm) cw_X10_144 ⟨by decide, by decide⟩ (rc_X3 X M hS) rfl rfl (Nat.le_of_ble_eq_true rfl) ⟨Nat.zero_le _, Nat.zero_le _⟩ dX10_bringUp_43 (fun H locs M n20 => ?_)
      refine lv_aload_n hx hb dX10_bringUp_46 rfl (lv_at hl 0 rfl) ?_
      refine gf_X10_28 X M hS dX10_bringUp_47 ?_
      refine lv_iload_n hx hb dX10_bringUp_50 rfl (lv_at hl 1 rfl) ?_
      refine lv_iload hx hb dX10_bringUp_51 (lv_at hl 4 rfl) ?_
      refine lv_iconst (v := 2) hx hb dX10_bringUp_53 (by decide) ?_
      obtain ⟨x22, e21, h⟩ := lt_e h
      refine u_cVi X M hl.1 (kX3_loggedNumber hS (va_up_s V t _) e21.symm) cw_X10_144 ⟨by decide, by decide⟩ (rc_X3 X M hS) rfl rfl (Nat.le_of_ble_eq_true rfl) ⟨Nat.zero_le _, Nat.zero_le _⟩ dX10_bringUp_54 (fun H locs M n23 => ?_)
      obtain ⟨S25, e24, h⟩ := bd_e h
      refine u_cVv X M hl.1 (kX10_settle hS e24) cw_X10_148 ⟨by decide, by decide⟩ (rc_X10 X M hS) rfl rfl (Nat.le_of_ble_eq_true rfl) ⟨Nat.zero_le _, Nat.zero_le _⟩ dX10_bringUp_57 (fun H locs M => ?_)
      obtain ⟨x27, e28, h⟩ := lt_e h
      refine lv_iinc (v := x27) (lv' := [(4, .int x27), (0, .ref (ga G t 0)), (1, .int y1), (2, .int y2), (3, .int y3)]) hx hb dX10_bringUp_60 hl (k := 4) rfl (by rw [e28]; rfl) (by decide) rfl (fun ls hl => ?_)
      refine lv_goto (tgt := 17) hx hb dX10_bringUp_63 (by decide) ?_
      exact ih _ _ _ _ _ _ _ _ h M (lv_sub hl [1, 2, 3, 4, 0] rfl)
def fX10_bringUp (S : (Nat → Nat → Int32)) (a1 : Int32) : Option (Int32 × (Nat → Nat → Int32)) :=
  lt_ (S 0 7) fun x1 =>
  lt_ (fX3_logSize S a1) fun x4 =>
  fX10_bringUp_L17 3000 S a1 x1 x4 0
set_option maxHeartbeats 4000000 in
set_option maxRecDepth 20000 in
theorem kX10_bringUp {l : Launch} {G : UG} {V : uV} {t : Nat} (hS : uSt G t) {S S' : (Nat → Nat → Int32)} {a1 : Int32} {r : Int32} (h : fX10_bringUp S a1 = some (r, S')) : uMi l G yX10_bringUp cX10_bringUp 5 .int (uR 3 72) [.ref (ga G t 0), .int a1] (va_up V t S) r (va_up V t S') := by
  refine uMi_of rfl (Nat.le_of_ble_eq_true rfl) (fun p e s m args below meth c ls X hret hl M => ?_)
  have hl : lv_has ls 5 [(0, .ref (ga G t 0)), (1, .int a1)] := hl
  have hx := X.hx
  have hb := X.hb
  unfold fX10_bringUp at h
  refine lv_aload_n hx hb dX10_bringUp_0 rfl (lv_at hl 0 rfl) ?_
  obtain ⟨x1, e2, h⟩ := lt_e h
  refine gf_X10_61 X M hS (va_up_s V t _) e2 dX10_bringUp_1 ?_
  refine lv_istore_n (lv' := [(2, .int x1), (0, .ref (ga G t 0)), (1, .int a1)]) hx hb dX10_bringUp_4 rfl hl (by decide) rfl (fun ls hl => ?_)
  refine lv_aload_n hx hb dX10_bringUp_5 rfl (lv_at hl 1 rfl) ?_
  refine gf_X10_28 X M hS dX10_bringUp_6 ?_
  refine lv_iload_n hx hb dX10_bringUp_9 rfl (lv_at hl 2 rfl) ?_
  obtain ⟨x4, e3, h⟩ := lt_e h
  refine u_cVi X M hl.1 (kX3_logSize hS (va_up_s V t _) e3.symm) cw_X10_141 ⟨by decide, by decide⟩ (rc_X3 X M hS) rfl rfl (Nat.le_of_ble_eq_true rfl) ⟨Nat.zero_le _, Nat.zero_le _⟩ dX10_bringUp_10 (fun H locs M n5 => ?_)
  refine lv_istore_n (lv' := [(3, .int x4), (2, .int x1), (0, .ref (ga G t 0)), (1, .int a1)]) hx hb dX10_bringUp_13 rfl hl (by decide) rfl (fun ls hl => ?_)
  refine lv_iconst (v := 0) hx hb dX10_bringUp_14 (by decide) ?_
  refine lv_istore (lv' := [(4, .int 0), (3, .int x4), (2, .int x1), (0, .ref (ga G t 0)), (1, .int a1)]) hx hb dX10_bringUp_15 hl (by decide) rfl (fun ls hl => ?_)
  exact lpX10_bringUp_17 hS X hret 3000 _ _ _ _ _ _ _ _ h M (lv_sub hl [3, 4, 2, 1, 0] rfl)
def fX10_clear (S : (Nat → Nat → Int32)) : Option (Nat → Nat → Int32) :=
  bd (fX0_clear S) fun S2 =>
  bd (fX5_clear S2) fun S5 =>
  bd (fX3_clear S5) fun S8 =>
  lt_ (va_up S8 39 (fput 4 (S8 39) 0 10)) fun S11 =>
  lt_ (va_up S11 39 (fput 4 (S11 39) 1 5)) fun S14 =>
  lt_ (va_up S14 39 (fput 4 (S14 39) 2 0)) fun S17 =>
  lt_ (va_up S17 39 (fput 4 (S17 39) 3 20)) fun S20 =>
  lt_ (va_up S20 0 (upd (S20 0) 4 0)) fun S22 =>
  lt_ (va_up S22 0 (upd (S22 0) 5 0)) fun S24 =>
  lt_ (va_up S24 0 (upd (S24 0) 6 0)) fun S26 =>
  lt_ (va_up S26 0 (upd (S26 0) 7 0)) fun S28 =>
  lt_ (va_up S28 0 (upd (S28 0) 8 0)) fun S30 =>
  lt_ (va_up S30 0 (upd (S30 0) 9 0)) fun S32 =>
  some S32
set_option maxHeartbeats 4000000 in
set_option maxRecDepth 20000 in
theorem kX10_clear {l : Launch} {G : UG} {V : uV} {t : Nat} (hS : uSt G t) {S S' : (Nat → Nat → Int32)}  (h : fX10_clear S = some S') : uMv l G yX10_clear cX10_clear 1 (uR 2 42) [.ref (ga G t 0)] (va_up V t S) (va_up V t S') := by
  refine uMv_of rfl (Nat.le_of_ble_eq_true rfl) (fun p e s m args below meth c ls X hret hl M => ?_)
  have hl : lv_has ls 1 [(0, .ref (ga G t 0))] := hl
  have hx := X.hx
  have hb := X.hb
  unfold fX10_clear at h
  refine lv_aload_n hx hb dX10_clear_0 rfl (lv_at hl 0 rfl) ?_
  refine gf_X10_12 X M hS dX10_clear_1 ?_
  obtain ⟨S2, e1, h⟩ := bd_e h
  refine u_cVv X M hl.1 (kX0_clear hS e1) cw_X10_44 ⟨by decide, by decide⟩ (rc_X0 X M hS) rfl rfl (Nat.le_of_ble_eq_true rfl) ⟨Nat.zero_le _, Nat.zero_le _⟩ dX10_clear_4 (fun H locs M => ?_)
  refine lv_aload_n hx hb dX10_clear_7 rfl (lv_at hl 0 rfl) ?_
  refine gf_X10_21 X M hS dX10_clear_8 ?_
  obtain ⟨S5, e4, h⟩ := bd_e h
  refine u_cVv X M hl.1 (kX5_clear hS e4) cw_X10_45 ⟨by decide, by decide⟩ (rc_X5 X M hS) rfl rfl (Nat.le_of_ble_eq_true rfl) ⟨Nat.zero_le _, Nat.zero_le _⟩ dX10_clear_11 (fun H locs M => ?_)
  refine lv_aload_n hx hb dX10_clear_14 rfl (lv_at hl 0 rfl) ?_
  refine gf_X10_28 X M hS dX10_clear_15 ?_
  obtain ⟨S8, e7, h⟩ := bd_e h
  refine u_cVv X M hl.1 (kX3_clear hS e7) cw_X10_46 ⟨by decide, by decide⟩ (rc_X3 X M hS) rfl rfl (Nat.le_of_ble_eq_true rfl) ⟨Nat.zero_le _, Nat.zero_le _⟩ dX10_clear_18 (fun H locs M => ?_)
  refine lv_aload_n hx hb dX10_clear_21 rfl (lv_at hl 0 rfl) ?_
  refine gf_X10_37 X M hS dX10_clear_22 ?_
  refine lv_iconst (v := 0) hx hb dX10_clear_25 (by decide) ?_
  refine lv_bipush (v := 10) hx hb dX10_clear_26 (by decide) ?_
  obtain ⟨S11, e10, h⟩ := lt_e h
  refine u_cVv X M hl.1 (kX6_putS (uRw38 hS) e10) cw_X10_47 ⟨by decide, by decide⟩ (uR_recv X M (uRw38 hS)) rfl rfl (Nat.le_of_ble_eq_true rfl) ⟨Nat.zero_le _, Nat.zero_le _⟩ dX10_clear_28 (fun H locs M => ?_)
  refine lv_aload_n hx hb dX10_clear_31 rfl (lv_at hl 0 rfl) ?_
  refine gf_X10_37 X M hS dX10_clear_32 ?_
  refine lv_iconst (v := 1) hx hb dX10_clear_35 (by decide) ?_
  refine lv_iconst (v := 5) hx hb dX10_clear_36 (by decide) ?_
  obtain ⟨S14, e13, h⟩ := lt_e h
  refine u_cVv X M hl.1 (kX6_putS (uRw38 hS) e13) cw_X10_47 ⟨by decide, by decide⟩ (uR_recv X M (uRw38 hS)) rfl rfl (Nat.le_of_ble_eq_true rfl) ⟨Nat.zero_le _, Nat.zero_le _⟩ dX10_clear_37 (fun H locs M => ?_)
  refine lv_aload_n hx hb dX10_clear_40 rfl (lv_at hl 0 rfl) ?_
  refine gf_X10_37 X M hS dX10_clear_41 ?_
  refine lv_iconst (v := 2) hx hb dX10_clear_44 (by decide) ?_
  refine lv_iconst (v := 0) hx hb dX10_clear_45 (by decide) ?_
  obtain ⟨S17, e16, h⟩ := lt_e h
  refine u_cVv X M hl.1 (kX6_putS (uRw38 hS) e16) cw_X10_47 ⟨by decide, by decide⟩ (uR_recv X M (uRw38 hS)) rfl rfl (Nat.le_of_ble_eq_true rfl) ⟨Nat.zero_le _, Nat.zero_le _⟩ dX10_clear_46 (fun H locs M => ?_)
  refine lv_aload_n hx hb dX10_clear_49 rfl (lv_at hl 0 rfl) ?_
  refine gf_X10_37 X M hS dX10_clear_50 ?_
  refine lv_iconst (v := 3) hx hb dX10_clear_53 (by decide) ?_
  refine lv_bipush (v := 20) hx hb dX10_clear_54 (by decide) ?_
  obtain ⟨S20, e19, h⟩ := lt_e h
  refine u_cVv X M hl.1 (kX6_putS (uRw38 hS) e19) cw_X10_47 ⟨by decide, by decide⟩ (uR_recv X M (uRw38 hS)) rfl rfl (Nat.le_of_ble_eq_true rfl) ⟨Nat.zero_le _, Nat.zero_le _⟩ dX10_clear_56 (fun H locs M => ?_)
  refine lv_aload_n hx hb dX10_clear_59 rfl (lv_at hl 0 rfl) ?_
  refine lv_iconst (v := 0) hx hb dX10_clear_60 (by decide) ?_
  obtain ⟨S22, e23, h⟩ := lt_e h
  refine pf_X10_51 X M hS e23 dX10_clear_61 (fun H locs M => ?_)
  refine lv_aload_n hx hb dX10_clear_64 rfl (lv_at hl 0 rfl) ?_
  refine lv_iconst (v := 0) hx hb dX10_clear_65 (by decide) ?_
  obtain ⟨S24, e25, h⟩ := lt_e h
  refine pf_X10_55 X M hS e25 dX10_clear_66 (fun H locs M => ?_)
  refine lv_aload_n hx hb dX10_clear_69 rfl (lv_at hl 0 rfl) ?_
  refine lv_iconst (v := 0) hx hb dX10_clear_70 (by decide) ?_
  obtain ⟨S26, e27, h⟩ := lt_e h
  refine pf_X10_58 X M hS e27 dX10_clear_71 (fun H locs M => ?_)
  refine lv_aload_n hx hb dX10_clear_74 rfl (lv_at hl 0 rfl) ?_
  refine lv_iconst (v := 0) hx hb dX10_clear_75 (by decide) ?_
  obtain ⟨S28, e29, h⟩ := lt_e h
  refine pf_X10_61 X M hS e29 dX10_clear_76 (fun H locs M => ?_)
  refine lv_aload_n hx hb dX10_clear_79 rfl (lv_at hl 0 rfl) ?_
  refine lv_iconst (v := 0) hx hb dX10_clear_80 (by decide) ?_
  obtain ⟨S30, e31, h⟩ := lt_e h
  refine pf_X10_64 X M hS e31 dX10_clear_81 (fun H locs M => ?_)
  refine lv_aload_n hx hb dX10_clear_84 rfl (lv_at hl 0 rfl) ?_
  refine lv_iconst (v := 0) hx hb dX10_clear_85 (by decide) ?_
  obtain ⟨S32, e33, h⟩ := lt_e h
  refine pf_X10_67 X M hS e33 dX10_clear_86 (fun H locs M => ?_)
  exact u_vret X hret M (congrArg (va_up V t) (Option.some.inj h)) dX10_clear_89
end
section
theorem dX10_isOnList_0 : decode cX10_isOnList 0 = .ok (.aload_n 0, 1) := by decide +kernel
theorem dX10_isOnList_1 : decode cX10_isOnList 1 = .ok (.getfield 28, 3) := by decide +kernel
theorem dX10_isOnList_4 : decode cX10_isOnList 4 = .ok (.iload_n 2, 1) := by decide +kernel
theorem dX10_isOnList_5 : decode cX10_isOnList 5 = .ok (.invokevirtual 120, 3) := by decide +kernel
theorem dX10_isOnList_8 : decode cX10_isOnList 8 = .ok (.ifCond .eq 12, 3) := by decide +kernel
theorem dX10_isOnList_11 : decode cX10_isOnList 11 = .ok (.aload_n 0, 1) := by decide +kernel
theorem dX10_isOnList_12 : decode cX10_isOnList 12 = .ok (.getfield 21, 3) := by decide +kernel
theorem dX10_isOnList_15 : decode cX10_isOnList 15 = .ok (.iload_n 1, 1) := by decide +kernel
theorem dX10_isOnList_16 : decode cX10_isOnList 16 = .ok (.invokevirtual 113, 3) := by decide +kernel
theorem dX10_isOnList_19 : decode cX10_isOnList 19 = .ok (.ireturn, 1) := by decide +kernel
theorem dX10_isOnList_20 : decode cX10_isOnList 20 = .ok (.aload_n 0, 1) := by decide +kernel
theorem dX10_isOnList_21 : decode cX10_isOnList 21 = .ok (.getfield 28, 3) := by decide +kernel
theorem dX10_isOnList_24 : decode cX10_isOnList 24 = .ok (.getfield 123, 3) := by decide +kernel
theorem dX10_isOnList_27 : decode cX10_isOnList 27 = .ok (.iload_n 2, 1) := by decide +kernel
theorem dX10_isOnList_28 : decode cX10_isOnList 28 = .ok (.invokevirtual 101, 3) := by decide +kernel
theorem dX10_isOnList_31 : decode cX10_isOnList 31 = .ok (.iload_n 1, 1) := by decide +kernel
theorem dX10_isOnList_32 : decode cX10_isOnList 32 = .ok (.ishr, 1) := by decide +kernel
theorem dX10_isOnList_33 : decode cX10_isOnList 33 = .ok (.iconst 1, 1) := by decide +kernel
theorem dX10_isOnList_34 : decode cX10_isOnList 34 = .ok (.iand, 1) := by decide +kernel
theorem dX10_isOnList_35 : decode cX10_isOnList 35 = .ok (.ifCond .eq 7, 3) := by decide +kernel
theorem dX10_isOnList_38 : decode cX10_isOnList 38 = .ok (.iconst 1, 1) := by decide +kernel
theorem dX10_isOnList_39 : decode cX10_isOnList 39 = .ok (.goto 4, 3) := by decide +kernel
theorem dX10_isOnList_42 : decode cX10_isOnList 42 = .ok (.iconst 0, 1) := by decide +kernel
theorem dX10_isOnList_43 : decode cX10_isOnList 43 = .ok (.ireturn, 1) := by decide +kernel
theorem dX10_judge_0 : decode cX10_judge 0 = .ok (.aload_n 0, 1) := by decide +kernel
theorem dX10_judge_1 : decode cX10_judge 1 = .ok (.getfield 28, 3) := by decide +kernel
theorem dX10_judge_4 : decode cX10_judge 4 = .ok (.iload_n 2, 1) := by decide +kernel
theorem dX10_judge_5 : decode cX10_judge 5 = .ok (.invokevirtual 120, 3) := by decide +kernel
theorem dX10_judge_8 : decode cX10_judge 8 = .ok (.istore_n 3, 1) := by decide +kernel
theorem dX10_judge_9 : decode cX10_judge 9 = .ok (.aload_n 0, 1) := by decide +kernel
theorem dX10_judge_10 : decode cX10_judge 10 = .ok (.aload_n 0, 1) := by decide +kernel
theorem dX10_judge_11 : decode cX10_judge 11 = .ok (.getfield 12, 3) := by decide +kernel
theorem dX10_judge_14 : decode cX10_judge 14 = .ok (.getfield 169, 3) := by decide +kernel
theorem dX10_judge_17 : decode cX10_judge 17 = .ok (.iload_n 1, 1) := by decide +kernel
theorem dX10_judge_18 : decode cX10_judge 18 = .ok (.invokevirtual 101, 3) := by decide +kernel
theorem dX10_judge_21 : decode cX10_judge 21 = .ok (.iload_n 2, 1) := by decide +kernel
theorem dX10_judge_22 : decode cX10_judge 22 = .ok (.invokevirtual 188, 3) := by decide +kernel
theorem dX10_judge_25 : decode cX10_judge 25 = .ok (.ifCond .eq 5, 3) := by decide +kernel
theorem dX10_judge_28 : decode cX10_judge 28 = .ok (.iconst 3, 1) := by decide +kernel
theorem dX10_judge_29 : decode cX10_judge 29 = .ok (.ireturn, 1) := by decide +kernel
theorem dX10_judge_30 : decode cX10_judge 30 = .ok (.aload_n 0, 1) := by decide +kernel
theorem dX10_judge_31 : decode cX10_judge 31 = .ok (.getfield 12, 3) := by decide +kernel
theorem dX10_judge_34 : decode cX10_judge 34 = .ok (.getfield 192, 3) := by decide +kernel
theorem dX10_judge_37 : decode cX10_judge 37 = .ok (.iload_n 1, 1) := by decide +kernel
theorem dX10_judge_38 : decode cX10_judge 38 = .ok (.invokevirtual 101, 3) := by decide +kernel
theorem dX10_judge_41 : decode cX10_judge 41 = .ok (.istore 4, 2) := by decide +kernel
theorem dX10_judge_43 : decode cX10_judge 43 = .ok (.iload 4, 2) := by decide +kernel
theorem dX10_judge_45 : decode cX10_judge 45 = .ok (.iconst (-1), 1) := by decide +kernel
theorem dX10_judge_46 : decode cX10_judge 46 = .ok (.if_icmp .eq 23, 3) := by decide +kernel
theorem dX10_judge_49 : decode cX10_judge 49 = .ok (.aload_n 0, 1) := by decide +kernel
theorem dX10_judge_50 : decode cX10_judge 50 = .ok (.getfield 51, 3) := by decide +kernel
theorem dX10_judge_53 : decode cX10_judge 53 = .ok (.iload 4, 2) := by decide +kernel
theorem dX10_judge_55 : decode cX10_judge 55 = .ok (.isub, 1) := by decide +kernel
theorem dX10_judge_56 : decode cX10_judge 56 = .ok (.aload_n 0, 1) := by decide +kernel
theorem dX10_judge_57 : decode cX10_judge 57 = .ok (.getfield 37, 3) := by decide +kernel
theorem dX10_judge_60 : decode cX10_judge 60 = .ok (.iconst 1, 1) := by decide +kernel
theorem dX10_judge_61 : decode cX10_judge 61 = .ok (.invokevirtual 101, 3) := by decide +kernel
theorem dX10_judge_64 : decode cX10_judge 64 = .ok (.if_icmp .ge 5, 3) := by decide +kernel
theorem dX10_judge_67 : decode cX10_judge 67 = .ok (.iconst 4, 1) := by decide +kernel
theorem dX10_judge_68 : decode cX10_judge 68 = .ok (.ireturn, 1) := by decide +kernel
theorem dX10_judge_69 : decode cX10_judge 69 = .ok (.iload_n 3, 1) := by decide +kernel
theorem dX10_judge_70 : decode cX10_judge 70 = .ok (.ifCond .eq 7, 3) := by decide +kernel
theorem dX10_judge_73 : decode cX10_judge 73 = .ok (.iconst 0, 1) := by decide +kernel
theorem dX10_judge_74 : decode cX10_judge 74 = .ok (.goto 11, 3) := by decide +kernel
theorem dX10_judge_77 : decode cX10_judge 77 = .ok (.aload_n 0, 1) := by decide +kernel
theorem dX10_judge_78 : decode cX10_judge 78 = .ok (.getfield 37, 3) := by decide +kernel
theorem dX10_judge_81 : decode cX10_judge 81 = .ok (.iconst 0, 1) := by decide +kernel
theorem dX10_judge_82 : decode cX10_judge 82 = .ok (.invokevirtual 101, 3) := by decide +kernel
theorem dX10_judge_85 : decode cX10_judge 85 = .ok (.istore 5, 2) := by decide +kernel
theorem dX10_judge_87 : decode cX10_judge 87 = .ok (.aload_n 0, 1) := by decide +kernel
theorem dX10_judge_88 : decode cX10_judge 88 = .ok (.getfield 12, 3) := by decide +kernel
theorem dX10_judge_91 : decode cX10_judge 91 = .ok (.getfield 166, 3) := by decide +kernel
theorem dX10_judge_94 : decode cX10_judge 94 = .ok (.iload_n 1, 1) := by decide +kernel
theorem dX10_judge_95 : decode cX10_judge 95 = .ok (.invokevirtual 101, 3) := by decide +kernel
theorem dX10_judge_98 : decode cX10_judge 98 = .ok (.aload_n 0, 1) := by decide +kernel
theorem dX10_judge_99 : decode cX10_judge 99 = .ok (.getfield 28, 3) := by decide +kernel
theorem dX10_judge_102 : decode cX10_judge 102 = .ok (.getfield 195, 3) := by decide +kernel
theorem dX10_judge_105 : decode cX10_judge 105 = .ok (.iload_n 2, 1) := by decide +kernel
theorem dX10_judge_106 : decode cX10_judge 106 = .ok (.invokevirtual 101, 3) := by decide +kernel
theorem dX10_judge_109 : decode cX10_judge 109 = .ok (.isub, 1) := by decide +kernel
theorem dX10_judge_110 : decode cX10_judge 110 = .ok (.iload 5, 2) := by decide +kernel
theorem dX10_judge_112 : decode cX10_judge 112 = .ok (.ineg, 1) := by decide +kernel
theorem dX10_judge_113 : decode cX10_judge 113 = .ok (.if_icmp .ge 5, 3) := by decide +kernel
theorem dX10_judge_116 : decode cX10_judge 116 = .ok (.iconst 5, 1) := by decide +kernel
theorem dX10_judge_117 : decode cX10_judge 117 = .ok (.ireturn, 1) := by decide +kernel
theorem dX10_judge_118 : decode cX10_judge 118 = .ok (.iload_n 3, 1) := by decide +kernel
theorem dX10_judge_119 : decode cX10_judge 119 = .ok (.ifCond .ne 33, 3) := by decide +kernel
theorem dX10_judge_122 : decode cX10_judge 122 = .ok (.aload_n 0, 1) := by decide +kernel
theorem dX10_judge_123 : decode cX10_judge 123 = .ok (.getfield 28, 3) := by decide +kernel
theorem dX10_judge_126 : decode cX10_judge 126 = .ok (.iload_n 2, 1) := by decide +kernel
theorem dX10_judge_127 : decode cX10_judge 127 = .ok (.invokevirtual 198, 3) := by decide +kernel
theorem dX10_judge_130 : decode cX10_judge 130 = .ok (.ifCond .eq 22, 3) := by decide +kernel
theorem dX10_judge_133 : decode cX10_judge 133 = .ok (.aload_n 0, 1) := by decide +kernel
theorem dX10_judge_134 : decode cX10_judge 134 = .ok (.getfield 37, 3) := by decide +kernel
theorem dX10_judge_137 : decode cX10_judge 137 = .ok (.iconst 2, 1) := by decide +kernel
theorem dX10_judge_138 : decode cX10_judge 138 = .ok (.invokevirtual 101, 3) := by decide +kernel
theorem dX10_judge_141 : decode cX10_judge 141 = .ok (.ifCond .ne 8, 3) := by decide +kernel
theorem dX10_judge_144 : decode cX10_judge 144 = .ok (.bipush 6, 2) := by decide +kernel
theorem dX10_judge_146 : decode cX10_judge 146 = .ok (.goto 5, 3) := by decide +kernel
theorem dX10_judge_149 : decode cX10_judge 149 = .ok (.bipush 7, 2) := by decide +kernel
theorem dX10_judge_151 : decode cX10_judge 151 = .ok (.ireturn, 1) := by decide +kernel
theorem dX10_judge_152 : decode cX10_judge 152 = .ok (.iload_n 3, 1) := by decide +kernel
theorem dX10_judge_153 : decode cX10_judge 153 = .ok (.ifCond .eq 7, 3) := by decide +kernel
theorem dX10_judge_156 : decode cX10_judge 156 = .ok (.iconst 0, 1) := by decide +kernel
theorem dX10_judge_157 : decode cX10_judge 157 = .ok (.goto 4, 3) := by decide +kernel
theorem dX10_judge_160 : decode cX10_judge 160 = .ok (.iconst 1, 1) := by decide +kernel
theorem dX10_judge_161 : decode cX10_judge 161 = .ok (.ireturn, 1) := by decide +kernel
theorem dX10_takeRide_0 : decode cX10_takeRide 0 = .ok (.aload_n 0, 1) := by decide +kernel
theorem dX10_takeRide_1 : decode cX10_takeRide 1 = .ok (.getfield 28, 3) := by decide +kernel
theorem dX10_takeRide_4 : decode cX10_takeRide 4 = .ok (.getfield 195, 3) := by decide +kernel
theorem dX10_takeRide_7 : decode cX10_takeRide 7 = .ok (.iload_n 2, 1) := by decide +kernel
theorem dX10_takeRide_8 : decode cX10_takeRide 8 = .ok (.invokevirtual 101, 3) := by decide +kernel
theorem dX10_takeRide_11 : decode cX10_takeRide 11 = .ok (.istore_n 3, 1) := by decide +kernel
theorem dX10_takeRide_12 : decode cX10_takeRide 12 = .ok (.aload_n 0, 1) := by decide +kernel
theorem dX10_takeRide_13 : decode cX10_takeRide 13 = .ok (.getfield 12, 3) := by decide +kernel
theorem dX10_takeRide_16 : decode cX10_takeRide 16 = .ok (.getfield 166, 3) := by decide +kernel
theorem dX10_takeRide_19 : decode cX10_takeRide 19 = .ok (.iload_n 1, 1) := by decide +kernel
theorem dX10_takeRide_20 : decode cX10_takeRide 20 = .ok (.iload_n 3, 1) := by decide +kernel
theorem dX10_takeRide_21 : decode cX10_takeRide 21 = .ok (.ineg, 1) := by decide +kernel
theorem dX10_takeRide_22 : decode cX10_takeRide 22 = .ok (.invokevirtual 175, 3) := by decide +kernel
theorem dX10_takeRide_25 : decode cX10_takeRide 25 = .ok (.aload_n 0, 1) := by decide +kernel
theorem dX10_takeRide_26 : decode cX10_takeRide 26 = .ok (.getfield 12, 3) := by decide +kernel
theorem dX10_takeRide_29 : decode cX10_takeRide 29 = .ok (.getfield 201, 3) := by decide +kernel
theorem dX10_takeRide_32 : decode cX10_takeRide 32 = .ok (.iload_n 1, 1) := by decide +kernel
theorem dX10_takeRide_33 : decode cX10_takeRide 33 = .ok (.iconst 1, 1) := by decide +kernel
theorem dX10_takeRide_34 : decode cX10_takeRide 34 = .ok (.invokevirtual 175, 3) := by decide +kernel
theorem dX10_takeRide_37 : decode cX10_takeRide 37 = .ok (.aload_n 0, 1) := by decide +kernel
theorem dX10_takeRide_38 : decode cX10_takeRide 38 = .ok (.getfield 12, 3) := by decide +kernel
theorem dX10_takeRide_41 : decode cX10_takeRide 41 = .ok (.getfield 192, 3) := by decide +kernel
theorem dX10_takeRide_44 : decode cX10_takeRide 44 = .ok (.iload_n 1, 1) := by decide +kernel
theorem dX10_takeRide_45 : decode cX10_takeRide 45 = .ok (.aload_n 0, 1) := by decide +kernel
theorem dX10_takeRide_46 : decode cX10_takeRide 46 = .ok (.getfield 51, 3) := by decide +kernel
theorem dX10_takeRide_49 : decode cX10_takeRide 49 = .ok (.invokevirtual 47, 3) := by decide +kernel
theorem dX10_takeRide_52 : decode cX10_takeRide 52 = .ok (.aload_n 0, 1) := by decide +kernel
theorem dX10_takeRide_53 : decode cX10_takeRide 53 = .ok (.getfield 12, 3) := by decide +kernel
theorem dX10_takeRide_56 : decode cX10_takeRide 56 = .ok (.getfield 169, 3) := by decide +kernel
theorem dX10_takeRide_59 : decode cX10_takeRide 59 = .ok (.iload_n 1, 1) := by decide +kernel
theorem dX10_takeRide_60 : decode cX10_takeRide 60 = .ok (.invokevirtual 101, 3) := by decide +kernel
theorem dX10_takeRide_63 : decode cX10_takeRide 63 = .ok (.istore 4, 2) := by decide +kernel
theorem dX10_takeRide_65 : decode cX10_takeRide 65 = .ok (.aload_n 0, 1) := by decide +kernel
theorem dX10_takeRide_66 : decode cX10_takeRide 66 = .ok (.getfield 28, 3) := by decide +kernel
theorem dX10_takeRide_69 : decode cX10_takeRide 69 = .ok (.iload_n 2, 1) := by decide +kernel
theorem dX10_takeRide_70 : decode cX10_takeRide 70 = .ok (.invokevirtual 120, 3) := by decide +kernel
theorem dX10_takeRide_73 : decode cX10_takeRide 73 = .ok (.ifCond .eq 24, 3) := by decide +kernel
theorem dX10_takeRide_76 : decode cX10_takeRide 76 = .ok (.aload_n 0, 1) := by decide +kernel
theorem dX10_takeRide_77 : decode cX10_takeRide 77 = .ok (.iload 4, 2) := by decide +kernel
theorem dX10_takeRide_79 : decode cX10_takeRide 79 = .ok (.aload_n 0, 1) := by decide +kernel
theorem dX10_takeRide_80 : decode cX10_takeRide 80 = .ok (.getfield 12, 3) := by decide +kernel
theorem dX10_takeRide_83 : decode cX10_takeRide 83 = .ok (.getfield 201, 3) := by decide +kernel
theorem dX10_takeRide_86 : decode cX10_takeRide 86 = .ok (.iload_n 1, 1) := by decide +kernel
theorem dX10_takeRide_87 : decode cX10_takeRide 87 = .ok (.invokevirtual 101, 3) := by decide +kernel
theorem dX10_takeRide_90 : decode cX10_takeRide 90 = .ok (.iload_n 3, 1) := by decide +kernel
theorem dX10_takeRide_91 : decode cX10_takeRide 91 = .ok (.invokevirtual 148, 3) := by decide +kernel
theorem dX10_takeRide_94 : decode cX10_takeRide 94 = .ok (.goto 25, 3) := by decide +kernel
theorem dX10_takeRide_97 : decode cX10_takeRide 97 = .ok (.aload_n 0, 1) := by decide +kernel
theorem dX10_takeRide_98 : decode cX10_takeRide 98 = .ok (.getfield 28, 3) := by decide +kernel
theorem dX10_takeRide_101 : decode cX10_takeRide 101 = .ok (.iload_n 2, 1) := by decide +kernel
theorem dX10_takeRide_102 : decode cX10_takeRide 102 = .ok (.iload 4, 2) := by decide +kernel
theorem dX10_takeRide_104 : decode cX10_takeRide 104 = .ok (.aload_n 0, 1) := by decide +kernel
theorem dX10_takeRide_105 : decode cX10_takeRide 105 = .ok (.getfield 12, 3) := by decide +kernel
theorem dX10_takeRide_108 : decode cX10_takeRide 108 = .ok (.getfield 201, 3) := by decide +kernel
theorem dX10_takeRide_111 : decode cX10_takeRide 111 = .ok (.iload_n 1, 1) := by decide +kernel
theorem dX10_takeRide_112 : decode cX10_takeRide 112 = .ok (.invokevirtual 101, 3) := by decide +kernel
theorem dX10_takeRide_115 : decode cX10_takeRide 115 = .ok (.iload_n 3, 1) := by decide +kernel
theorem dX10_takeRide_116 : decode cX10_takeRide 116 = .ok (.invokevirtual 204, 3) := by decide +kernel
theorem dX10_takeRide_119 : decode cX10_takeRide 119 = .ok (.return_, 1) := by decide +kernel
theorem dX10_showCard_0 : decode cX10_showCard 0 = .ok (.aload_n 0, 1) := by decide +kernel
theorem dX10_showCard_1 : decode cX10_showCard 1 = .ok (.getfield 12, 3) := by decide +kernel
theorem dX10_showCard_4 : decode cX10_showCard 4 = .ok (.iload_n 1, 1) := by decide +kernel
theorem dX10_showCard_5 : decode cX10_showCard 5 = .ok (.invokevirtual 159, 3) := by decide +kernel
theorem dX10_showCard_8 : decode cX10_showCard 8 = .ok (.ifCond .eq 14, 3) := by decide +kernel
theorem dX10_showCard_11 : decode cX10_showCard 11 = .ok (.aload_n 0, 1) := by decide +kernel
theorem dX10_showCard_12 : decode cX10_showCard 12 = .ok (.getfield 28, 3) := by decide +kernel
theorem dX10_showCard_15 : decode cX10_showCard 15 = .ok (.iload_n 2, 1) := by decide +kernel
theorem dX10_showCard_16 : decode cX10_showCard 16 = .ok (.invokevirtual 162, 3) := by decide +kernel
theorem dX10_showCard_19 : decode cX10_showCard 19 = .ok (.ifCond .ne 5, 3) := by decide +kernel
theorem dX10_showCard_22 : decode cX10_showCard 22 = .ok (.iconst (-1), 1) := by decide +kernel
theorem dX10_showCard_23 : decode cX10_showCard 23 = .ok (.ireturn, 1) := by decide +kernel
theorem dX10_showCard_24 : decode cX10_showCard 24 = .ok (.aload_n 0, 1) := by decide +kernel
theorem dX10_showCard_25 : decode cX10_showCard 25 = .ok (.getfield 28, 3) := by decide +kernel
theorem dX10_showCard_28 : decode cX10_showCard 28 = .ok (.iload_n 2, 1) := by decide +kernel
theorem dX10_showCard_29 : decode cX10_showCard 29 = .ok (.invokevirtual 163, 3) := by decide +kernel
theorem dX10_showCard_32 : decode cX10_showCard 32 = .ok (.ifCond .eq 15, 3) := by decide +kernel
theorem dX10_showCard_35 : decode cX10_showCard 35 = .ok (.aload_n 0, 1) := by decide +kernel
theorem dX10_showCard_36 : decode cX10_showCard 36 = .ok (.dup, 1) := by decide +kernel
theorem dX10_showCard_37 : decode cX10_showCard 37 = .ok (.getfield 67, 3) := by decide +kernel
theorem dX10_showCard_40 : decode cX10_showCard 40 = .ok (.iconst 1, 1) := by decide +kernel
theorem dX10_showCard_41 : decode cX10_showCard 41 = .ok (.iadd, 1) := by decide +kernel
theorem dX10_showCard_42 : decode cX10_showCard 42 = .ok (.putfield 67, 3) := by decide +kernel
theorem dX10_showCard_45 : decode cX10_showCard 45 = .ok (.iconst 2, 1) := by decide +kernel
theorem dX10_showCard_46 : decode cX10_showCard 46 = .ok (.ireturn, 1) := by decide +kernel
theorem dX10_showCard_47 : decode cX10_showCard 47 = .ok (.aload_n 0, 1) := by decide +kernel
theorem dX10_showCard_48 : decode cX10_showCard 48 = .ok (.getfield 28, 3) := by decide +kernel
theorem dX10_showCard_51 : decode cX10_showCard 51 = .ok (.iload_n 2, 1) := by decide +kernel
theorem dX10_showCard_52 : decode cX10_showCard 52 = .ok (.invokevirtual 120, 3) := by decide +kernel
theorem dX10_showCard_55 : decode cX10_showCard 55 = .ok (.ifCond .eq 32, 3) := by decide +kernel
theorem dX10_showCard_58 : decode cX10_showCard 58 = .ok (.aload_n 0, 1) := by decide +kernel
theorem dX10_showCard_59 : decode cX10_showCard 59 = .ok (.getfield 12, 3) := by decide +kernel
theorem dX10_showCard_62 : decode cX10_showCard 62 = .ok (.getfield 166, 3) := by decide +kernel
theorem dX10_showCard_65 : decode cX10_showCard 65 = .ok (.iload_n 1, 1) := by decide +kernel
theorem dX10_showCard_66 : decode cX10_showCard 66 = .ok (.aload_n 0, 1) := by decide +kernel
theorem dX10_showCard_67 : decode cX10_showCard 67 = .ok (.getfield 21, 3) := by decide +kernel
theorem dX10_showCard_70 : decode cX10_showCard 70 = .ok (.aload_n 0, 1) := by decide +kernel
theorem dX10_showCard_71 : decode cX10_showCard 71 = .ok (.getfield 12, 3) := by decide +kernel
theorem dX10_showCard_74 : decode cX10_showCard 74 = .ok (.getfield 169, 3) := by decide +kernel
theorem dX10_showCard_77 : decode cX10_showCard 77 = .ok (.iload_n 1, 1) := by decide +kernel
theorem dX10_showCard_78 : decode cX10_showCard 78 = .ok (.invokevirtual 101, 3) := by decide +kernel
theorem dX10_showCard_81 : decode cX10_showCard 81 = .ok (.invokevirtual 172, 3) := by decide +kernel
theorem dX10_showCard_84 : decode cX10_showCard 84 = .ok (.invokevirtual 175, 3) := by decide +kernel
theorem dX10_showCard_87 : decode cX10_showCard 87 = .ok (.aload_n 0, 1) := by decide +kernel
theorem dX10_showCard_88 : decode cX10_showCard 88 = .ok (.iload_n 1, 1) := by decide +kernel
theorem dX10_showCard_89 : decode cX10_showCard 89 = .ok (.iload_n 2, 1) := by decide +kernel
theorem dX10_showCard_90 : decode cX10_showCard 90 = .ok (.invokevirtual 178, 3) := by decide +kernel
theorem dX10_showCard_93 : decode cX10_showCard 93 = .ok (.istore_n 3, 1) := by decide +kernel
theorem dX10_showCard_94 : decode cX10_showCard 94 = .ok (.iload_n 3, 1) := by decide +kernel
theorem dX10_showCard_95 : decode cX10_showCard 95 = .ok (.invokestatic 182, 3) := by decide +kernel
theorem dX10_showCard_98 : decode cX10_showCard 98 = .ok (.ifCond .ne 16, 3) := by decide +kernel
theorem dX10_showCard_101 : decode cX10_showCard 101 = .ok (.aload_n 0, 1) := by decide +kernel
theorem dX10_showCard_102 : decode cX10_showCard 102 = .ok (.dup, 1) := by decide +kernel
theorem dX10_showCard_103 : decode cX10_showCard 103 = .ok (.getfield 64, 3) := by decide +kernel
theorem dX10_showCard_106 : decode cX10_showCard 106 = .ok (.iconst 1, 1) := by decide +kernel
theorem dX10_showCard_107 : decode cX10_showCard 107 = .ok (.iadd, 1) := by decide +kernel
theorem dX10_showCard_108 : decode cX10_showCard 108 = .ok (.putfield 64, 3) := by decide +kernel
theorem dX10_showCard_111 : decode cX10_showCard 111 = .ok (.goto 28, 3) := by decide +kernel
theorem dX10_showCard_114 : decode cX10_showCard 114 = .ok (.iload_n 3, 1) := by decide +kernel
theorem dX10_showCard_115 : decode cX10_showCard 115 = .ok (.bipush 7, 2) := by decide +kernel
theorem dX10_showCard_117 : decode cX10_showCard 117 = .ok (.if_icmp .ne 16, 3) := by decide +kernel
theorem dX10_showCard_120 : decode cX10_showCard 120 = .ok (.aload_n 0, 1) := by decide +kernel
theorem dX10_showCard_121 : decode cX10_showCard 121 = .ok (.dup, 1) := by decide +kernel
theorem dX10_showCard_122 : decode cX10_showCard 122 = .ok (.getfield 67, 3) := by decide +kernel
theorem dX10_showCard_125 : decode cX10_showCard 125 = .ok (.iconst 1, 1) := by decide +kernel
theorem dX10_showCard_126 : decode cX10_showCard 126 = .ok (.iadd, 1) := by decide +kernel
theorem dX10_showCard_127 : decode cX10_showCard 127 = .ok (.putfield 67, 3) := by decide +kernel
theorem dX10_showCard_130 : decode cX10_showCard 130 = .ok (.goto 9, 3) := by decide +kernel
theorem dX10_showCard_133 : decode cX10_showCard 133 = .ok (.aload_n 0, 1) := by decide +kernel
theorem dX10_showCard_134 : decode cX10_showCard 134 = .ok (.iload_n 1, 1) := by decide +kernel
theorem dX10_showCard_135 : decode cX10_showCard 135 = .ok (.iload_n 2, 1) := by decide +kernel
theorem dX10_showCard_136 : decode cX10_showCard 136 = .ok (.invokevirtual 185, 3) := by decide +kernel
theorem dX10_showCard_139 : decode cX10_showCard 139 = .ok (.iload_n 3, 1) := by decide +kernel
theorem dX10_showCard_140 : decode cX10_showCard 140 = .ok (.ireturn, 1) := by decide +kernel
theorem dX10_tryIssue_0 : decode cX10_tryIssue 0 = .ok (.iload_n 1, 1) := by decide +kernel
theorem dX10_tryIssue_1 : decode cX10_tryIssue 1 = .ok (.ifCond .lt 16, 3) := by decide +kernel
theorem dX10_tryIssue_4 : decode cX10_tryIssue 4 = .ok (.iload_n 1, 1) := by decide +kernel
theorem dX10_tryIssue_5 : decode cX10_tryIssue 5 = .ok (.bipush 99, 2) := by decide +kernel
theorem dX10_tryIssue_7 : decode cX10_tryIssue 7 = .ok (.if_icmp .gt 10, 3) := by decide +kernel
theorem dX10_tryIssue_10 : decode cX10_tryIssue 10 = .ok (.aload_n 0, 1) := by decide +kernel
theorem dX10_tryIssue_11 : decode cX10_tryIssue 11 = .ok (.invokevirtual 208, 3) := by decide +kernel
theorem dX10_tryIssue_14 : decode cX10_tryIssue 14 = .ok (.ifCond .ne 5, 3) := by decide +kernel
theorem dX10_tryIssue_17 : decode cX10_tryIssue 17 = .ok (.iconst 0, 1) := by decide +kernel
theorem dX10_tryIssue_18 : decode cX10_tryIssue 18 = .ok (.ireturn, 1) := by decide +kernel
theorem dX10_tryIssue_19 : decode cX10_tryIssue 19 = .ok (.aload_n 0, 1) := by decide +kernel
theorem dX10_tryIssue_20 : decode cX10_tryIssue 20 = .ok (.iload_n 1, 1) := by decide +kernel
theorem dX10_tryIssue_21 : decode cX10_tryIssue 21 = .ok (.invokevirtual 211, 3) := by decide +kernel
theorem dX10_tryIssue_24 : decode cX10_tryIssue 24 = .ok (.pop, 1) := by decide +kernel
theorem dX10_tryIssue_25 : decode cX10_tryIssue 25 = .ok (.iconst 1, 1) := by decide +kernel
theorem dX10_tryIssue_26 : decode cX10_tryIssue 26 = .ok (.ireturn, 1) := by decide +kernel
theorem dX10_tryCopy_0 : decode cX10_tryCopy 0 = .ok (.aload_n 0, 1) := by decide +kernel
theorem dX10_tryCopy_1 : decode cX10_tryCopy 1 = .ok (.getfield 12, 3) := by decide +kernel
theorem dX10_tryCopy_4 : decode cX10_tryCopy 4 = .ok (.iload_n 1, 1) := by decide +kernel
theorem dX10_tryCopy_5 : decode cX10_tryCopy 5 = .ok (.invokevirtual 159, 3) := by decide +kernel
theorem dX10_tryCopy_8 : decode cX10_tryCopy 8 = .ok (.ifCond .eq 13, 3) := by decide +kernel
theorem dX10_tryCopy_11 : decode cX10_tryCopy 11 = .ok (.aload_n 0, 1) := by decide +kernel
theorem dX10_tryCopy_12 : decode cX10_tryCopy 12 = .ok (.getfield 12, 3) := by decide +kernel
theorem dX10_tryCopy_15 : decode cX10_tryCopy 15 = .ok (.invokevirtual 130, 3) := by decide +kernel
theorem dX10_tryCopy_18 : decode cX10_tryCopy 18 = .ok (.ifCond .eq 5, 3) := by decide +kernel
theorem dX10_tryCopy_21 : decode cX10_tryCopy 21 = .ok (.iconst 0, 1) := by decide +kernel
theorem dX10_tryCopy_22 : decode cX10_tryCopy 22 = .ok (.ireturn, 1) := by decide +kernel
theorem dX10_tryCopy_23 : decode cX10_tryCopy 23 = .ok (.aload_n 0, 1) := by decide +kernel
theorem dX10_tryCopy_24 : decode cX10_tryCopy 24 = .ok (.getfield 12, 3) := by decide +kernel
theorem dX10_tryCopy_27 : decode cX10_tryCopy 27 = .ok (.iload_n 1, 1) := by decide +kernel
theorem dX10_tryCopy_28 : decode cX10_tryCopy 28 = .ok (.invokevirtual 214, 3) := by decide +kernel
theorem dX10_tryCopy_31 : decode cX10_tryCopy 31 = .ok (.pop, 1) := by decide +kernel
theorem dX10_tryCopy_32 : decode cX10_tryCopy 32 = .ok (.iconst 1, 1) := by decide +kernel
theorem dX10_tryCopy_33 : decode cX10_tryCopy 33 = .ok (.ireturn, 1) := by decide +kernel
theorem dX10_tryPay_0 : decode cX10_tryPay 0 = .ok (.aload_n 0, 1) := by decide +kernel
theorem dX10_tryPay_1 : decode cX10_tryPay 1 = .ok (.getfield 21, 3) := by decide +kernel
theorem dX10_tryPay_4 : decode cX10_tryPay 4 = .ok (.iload_n 1, 1) := by decide +kernel
theorem dX10_tryPay_5 : decode cX10_tryPay 5 = .ok (.invokevirtual 217, 3) := by decide +kernel
theorem dX10_tryPay_8 : decode cX10_tryPay 8 = .ok (.ifCond .eq 14, 3) := by decide +kernel
theorem dX10_tryPay_11 : decode cX10_tryPay 11 = .ok (.iload_n 2, 1) := by decide +kernel
theorem dX10_tryPay_12 : decode cX10_tryPay 12 = .ok (.iconst 1, 1) := by decide +kernel
theorem dX10_tryPay_13 : decode cX10_tryPay 13 = .ok (.if_icmp .lt 9, 3) := by decide +kernel
theorem dX10_tryPay_16 : decode cX10_tryPay 16 = .ok (.iload_n 2, 1) := by decide +kernel
theorem dX10_tryPay_17 : decode cX10_tryPay 17 = .ok (.bipush 99, 2) := by decide +kernel
theorem dX10_tryPay_19 : decode cX10_tryPay 19 = .ok (.if_icmp .le 5, 3) := by decide +kernel
theorem dX10_tryPay_22 : decode cX10_tryPay 22 = .ok (.iconst 0, 1) := by decide +kernel
theorem dX10_tryPay_23 : decode cX10_tryPay 23 = .ok (.ireturn, 1) := by decide +kernel
theorem dX10_tryPay_24 : decode cX10_tryPay 24 = .ok (.aload_n 0, 1) := by decide +kernel
theorem dX10_tryPay_25 : decode cX10_tryPay 25 = .ok (.getfield 21, 3) := by decide +kernel
theorem dX10_tryPay_28 : decode cX10_tryPay 28 = .ok (.iload_n 1, 1) := by decide +kernel
theorem dX10_tryPay_29 : decode cX10_tryPay 29 = .ok (.iload_n 2, 1) := by decide +kernel
theorem dX10_tryPay_30 : decode cX10_tryPay 30 = .ok (.invokevirtual 218, 3) := by decide +kernel
theorem dX10_tryPay_33 : decode cX10_tryPay 33 = .ok (.pop, 1) := by decide +kernel
theorem dX10_tryPay_34 : decode cX10_tryPay 34 = .ok (.iconst 1, 1) := by decide +kernel
theorem dX10_tryPay_35 : decode cX10_tryPay 35 = .ok (.ireturn, 1) := by decide +kernel
theorem dX10_tryPardon_0 : decode cX10_tryPardon 0 = .ok (.aload_n 0, 1) := by decide +kernel
theorem dX10_tryPardon_1 : decode cX10_tryPardon 1 = .ok (.getfield 21, 3) := by decide +kernel
theorem dX10_tryPardon_4 : decode cX10_tryPardon 4 = .ok (.iload_n 1, 1) := by decide +kernel
theorem dX10_tryPardon_5 : decode cX10_tryPardon 5 = .ok (.invokevirtual 217, 3) := by decide +kernel
theorem dX10_tryPardon_8 : decode cX10_tryPardon 8 = .ok (.ifCond .eq 14, 3) := by decide +kernel
theorem dX10_tryPardon_11 : decode cX10_tryPardon 11 = .ok (.aload_n 0, 1) := by decide +kernel
theorem dX10_tryPardon_12 : decode cX10_tryPardon 12 = .ok (.getfield 21, 3) := by decide +kernel
theorem dX10_tryPardon_15 : decode cX10_tryPardon 15 = .ok (.iload_n 1, 1) := by decide +kernel
theorem dX10_tryPardon_16 : decode cX10_tryPardon 16 = .ok (.invokevirtual 221, 3) := by decide +kernel
theorem dX10_tryPardon_19 : decode cX10_tryPardon 19 = .ok (.ifCond .ne 5, 3) := by decide +kernel
theorem dX10_tryPardon_22 : decode cX10_tryPardon 22 = .ok (.iconst 0, 1) := by decide +kernel
theorem dX10_tryPardon_23 : decode cX10_tryPardon 23 = .ok (.ireturn, 1) := by decide +kernel
theorem dX10_tryPardon_24 : decode cX10_tryPardon 24 = .ok (.aload_n 0, 1) := by decide +kernel
theorem dX10_tryPardon_25 : decode cX10_tryPardon 25 = .ok (.getfield 21, 3) := by decide +kernel
theorem dX10_tryPardon_28 : decode cX10_tryPardon 28 = .ok (.iload_n 1, 1) := by decide +kernel
theorem dX10_tryPardon_29 : decode cX10_tryPardon 29 = .ok (.invokevirtual 224, 3) := by decide +kernel
theorem dX10_tryPardon_32 : decode cX10_tryPardon 32 = .ok (.pop, 1) := by decide +kernel
theorem dX10_tryPardon_33 : decode cX10_tryPardon 33 = .ok (.iconst 1, 1) := by decide +kernel
theorem dX10_tryPardon_34 : decode cX10_tryPardon 34 = .ok (.ireturn, 1) := by decide +kernel
theorem dX10_tryDown_0 : decode cX10_tryDown 0 = .ok (.aload_n 0, 1) := by decide +kernel
theorem dX10_tryDown_1 : decode cX10_tryDown 1 = .ok (.getfield 28, 3) := by decide +kernel
theorem dX10_tryDown_4 : decode cX10_tryDown 4 = .ok (.iload_n 1, 1) := by decide +kernel
theorem dX10_tryDown_5 : decode cX10_tryDown 5 = .ok (.invokevirtual 162, 3) := by decide +kernel
theorem dX10_tryDown_8 : decode cX10_tryDown 8 = .ok (.ifCond .eq 14, 3) := by decide +kernel
theorem dX10_tryDown_11 : decode cX10_tryDown 11 = .ok (.aload_n 0, 1) := by decide +kernel
theorem dX10_tryDown_12 : decode cX10_tryDown 12 = .ok (.getfield 28, 3) := by decide +kernel
theorem dX10_tryDown_15 : decode cX10_tryDown 15 = .ok (.iload_n 1, 1) := by decide +kernel
theorem dX10_tryDown_16 : decode cX10_tryDown 16 = .ok (.invokevirtual 120, 3) := by decide +kernel
theorem dX10_tryDown_19 : decode cX10_tryDown 19 = .ok (.ifCond .ne 5, 3) := by decide +kernel
theorem dX10_tryDown_22 : decode cX10_tryDown 22 = .ok (.iconst 0, 1) := by decide +kernel
theorem dX10_tryDown_23 : decode cX10_tryDown 23 = .ok (.ireturn, 1) := by decide +kernel
theorem dX10_tryDown_24 : decode cX10_tryDown 24 = .ok (.aload_n 0, 1) := by decide +kernel
theorem dX10_tryDown_25 : decode cX10_tryDown 25 = .ok (.iload_n 1, 1) := by decide +kernel
theorem dX10_tryDown_26 : decode cX10_tryDown 26 = .ok (.invokevirtual 227, 3) := by decide +kernel
theorem dX10_tryDown_29 : decode cX10_tryDown 29 = .ok (.pop, 1) := by decide +kernel
theorem dX10_tryDown_30 : decode cX10_tryDown 30 = .ok (.iconst 1, 1) := by decide +kernel
theorem dX10_tryDown_31 : decode cX10_tryDown 31 = .ok (.ireturn, 1) := by decide +kernel
theorem dX10_tryUp_0 : decode cX10_tryUp 0 = .ok (.aload_n 0, 1) := by decide +kernel
theorem dX10_tryUp_1 : decode cX10_tryUp 1 = .ok (.getfield 28, 3) := by decide +kernel
theorem dX10_tryUp_4 : decode cX10_tryUp 4 = .ok (.iload_n 1, 1) := by decide +kernel
theorem dX10_tryUp_5 : decode cX10_tryUp 5 = .ok (.invokevirtual 162, 3) := by decide +kernel
theorem dX10_tryUp_8 : decode cX10_tryUp 8 = .ok (.ifCond .eq 14, 3) := by decide +kernel
theorem dX10_tryUp_11 : decode cX10_tryUp 11 = .ok (.aload_n 0, 1) := by decide +kernel
theorem dX10_tryUp_12 : decode cX10_tryUp 12 = .ok (.getfield 28, 3) := by decide +kernel
theorem dX10_tryUp_15 : decode cX10_tryUp 15 = .ok (.iload_n 1, 1) := by decide +kernel
theorem dX10_tryUp_16 : decode cX10_tryUp 16 = .ok (.invokevirtual 120, 3) := by decide +kernel
theorem dX10_tryUp_19 : decode cX10_tryUp 19 = .ok (.ifCond .eq 5, 3) := by decide +kernel
theorem dX10_tryUp_22 : decode cX10_tryUp 22 = .ok (.iconst 0, 1) := by decide +kernel
theorem dX10_tryUp_23 : decode cX10_tryUp 23 = .ok (.ireturn, 1) := by decide +kernel
theorem dX10_tryUp_24 : decode cX10_tryUp 24 = .ok (.aload_n 0, 1) := by decide +kernel
theorem dX10_tryUp_25 : decode cX10_tryUp 25 = .ok (.iload_n 1, 1) := by decide +kernel
theorem dX10_tryUp_26 : decode cX10_tryUp 26 = .ok (.invokevirtual 230, 3) := by decide +kernel
theorem dX10_tryUp_29 : decode cX10_tryUp 29 = .ok (.pop, 1) := by decide +kernel
theorem dX10_tryUp_30 : decode cX10_tryUp 30 = .ok (.iconst 1, 1) := by decide +kernel
theorem dX10_tryUp_31 : decode cX10_tryUp 31 = .ok (.ireturn, 1) := by decide +kernel
theorem dX10_tryOpen_0 : decode cX10_tryOpen 0 = .ok (.aload_n 0, 1) := by decide +kernel
theorem dX10_tryOpen_1 : decode cX10_tryOpen 1 = .ok (.getfield 28, 3) := by decide +kernel
theorem dX10_tryOpen_4 : decode cX10_tryOpen 4 = .ok (.iload_n 1, 1) := by decide +kernel
theorem dX10_tryOpen_5 : decode cX10_tryOpen 5 = .ok (.invokevirtual 162, 3) := by decide +kernel
theorem dX10_tryOpen_8 : decode cX10_tryOpen 8 = .ok (.ifCond .ne 5, 3) := by decide +kernel
theorem dX10_tryOpen_11 : decode cX10_tryOpen 11 = .ok (.iconst 0, 1) := by decide +kernel
theorem dX10_tryOpen_12 : decode cX10_tryOpen 12 = .ok (.ireturn, 1) := by decide +kernel
theorem dX10_tryOpen_13 : decode cX10_tryOpen 13 = .ok (.aload_n 0, 1) := by decide +kernel
theorem dX10_tryOpen_14 : decode cX10_tryOpen 14 = .ok (.getfield 28, 3) := by decide +kernel
theorem dX10_tryOpen_17 : decode cX10_tryOpen 17 = .ok (.iload_n 1, 1) := by decide +kernel
theorem dX10_tryOpen_18 : decode cX10_tryOpen 18 = .ok (.invokevirtual 233, 3) := by decide +kernel
theorem dX10_tryOpen_21 : decode cX10_tryOpen 21 = .ok (.pop, 1) := by decide +kernel
theorem dX10_tryOpen_22 : decode cX10_tryOpen 22 = .ok (.iconst 1, 1) := by decide +kernel
theorem dX10_tryOpen_23 : decode cX10_tryOpen 23 = .ok (.ireturn, 1) := by decide +kernel
theorem dX10_tryRun_0 : decode cX10_tryRun 0 = .ok (.iload_n 1, 1) := by decide +kernel
theorem dX10_tryRun_1 : decode cX10_tryRun 1 = .ok (.iconst 1, 1) := by decide +kernel
theorem dX10_tryRun_2 : decode cX10_tryRun 2 = .ok (.if_icmp .lt 9, 3) := by decide +kernel
theorem dX10_tryRun_5 : decode cX10_tryRun 5 = .ok (.iload_n 1, 1) := by decide +kernel
theorem dX10_tryRun_6 : decode cX10_tryRun 6 = .ok (.bipush 60, 2) := by decide +kernel
theorem dX10_tryRun_8 : decode cX10_tryRun 8 = .ok (.if_icmp .le 5, 3) := by decide +kernel
theorem dX10_tryRun_11 : decode cX10_tryRun 11 = .ok (.iconst 0, 1) := by decide +kernel
theorem dX10_tryRun_12 : decode cX10_tryRun 12 = .ok (.ireturn, 1) := by decide +kernel
theorem dX10_tryRun_13 : decode cX10_tryRun 13 = .ok (.aload_n 0, 1) := by decide +kernel
theorem dX10_tryRun_14 : decode cX10_tryRun 14 = .ok (.dup, 1) := by decide +kernel
theorem dX10_tryRun_15 : decode cX10_tryRun 15 = .ok (.getfield 51, 3) := by decide +kernel
theorem dX10_tryRun_18 : decode cX10_tryRun 18 = .ok (.iload_n 1, 1) := by decide +kernel
theorem dX10_tryRun_19 : decode cX10_tryRun 19 = .ok (.iadd, 1) := by decide +kernel
theorem dX10_tryRun_20 : decode cX10_tryRun 20 = .ok (.putfield 51, 3) := by decide +kernel
theorem dX10_tryRun_23 : decode cX10_tryRun 23 = .ok (.iconst 1, 1) := by decide +kernel
theorem dX10_tryRun_24 : decode cX10_tryRun 24 = .ok (.ireturn, 1) := by decide +kernel
theorem yf_X0_has : (Cond.instanceMethod yX0_has) ∈ gtbl ∧ (Cond.selects RX0 yX0_has yX0_has) ∈ gtbl ∧ (Cond.initialized RX0) ∈ gtbl ∧ (Cond.code yX0_has cX0_has 2 (some .boolean)) ∈ gtbl ∧ (yX0_has.cls = RX0 ∧ yX0_has.cls ≠ "java/lang/invoke/MethodHandle" ∧ yX0_has.cls ≠ "java/lang/invoke/VarHandle" ∧ (parseMethodDescriptor yX0_has.desc).map (fun d => d.parameters.length) = some 1) := ⟨gt_in 621 (by decide +kernel) (by decide +kernel), gt_in 622 (by decide +kernel) (by decide +kernel), gt_in 19 (by decide +kernel) (by decide +kernel), gt_in 623 (by decide +kernel) (by decide +kernel), by decide +kernel⟩
theorem cw_X10_159 : uCW RX10 RX0 159 yX0_has cX0_has 2 (some .boolean) 1 := ⟨gt_in 620 (by decide +kernel) (by decide +kernel), yf_X0_has⟩
theorem yf_X3_has : (Cond.instanceMethod yX3_has) ∈ gtbl ∧ (Cond.selects RX3 yX3_has yX3_has) ∈ gtbl ∧ (Cond.initialized RX3) ∈ gtbl ∧ (Cond.code yX3_has cX3_has 2 (some .boolean)) ∈ gtbl ∧ (yX3_has.cls = RX3 ∧ yX3_has.cls ≠ "java/lang/invoke/MethodHandle" ∧ yX3_has.cls ≠ "java/lang/invoke/VarHandle" ∧ (parseMethodDescriptor yX3_has.desc).map (fun d => d.parameters.length) = some 1) := ⟨gt_in 387 (by decide +kernel) (by decide +kernel), gt_in 388 (by decide +kernel) (by decide +kernel), gt_in 23 (by decide +kernel) (by decide +kernel), gt_in 389 (by decide +kernel) (by decide +kernel), by decide +kernel⟩
theorem cw_X10_162 : uCW RX10 RX3 162 yX3_has cX3_has 2 (some .boolean) 1 := ⟨gt_in 386 (by decide +kernel) (by decide +kernel), yf_X3_has⟩
theorem cw_X10_163 : uCW RX10 RX3 163 yX3_isOpen cX3_isOpen 2 (some .boolean) 1 := ⟨gt_in 634 (by decide +kernel) (by decide +kernel), yf_X3_isOpen⟩
theorem yf_X5_takeWaiting : (Cond.instanceMethod yX5_takeWaiting) ∈ gtbl ∧ (Cond.selects RX5 yX5_takeWaiting yX5_takeWaiting) ∈ gtbl ∧ (Cond.initialized RX5) ∈ gtbl ∧ (Cond.code yX5_takeWaiting cX5_takeWaiting 2 (some .int)) ∈ gtbl ∧ (yX5_takeWaiting.cls = RX5 ∧ yX5_takeWaiting.cls ≠ "java/lang/invoke/MethodHandle" ∧ yX5_takeWaiting.cls ≠ "java/lang/invoke/VarHandle" ∧ (parseMethodDescriptor yX5_takeWaiting.desc).map (fun d => d.parameters.length) = some 1) := ⟨gt_in 639 (by decide +kernel) (by decide +kernel), gt_in 640 (by decide +kernel) (by decide +kernel), gt_in 22 (by decide +kernel) (by decide +kernel), gt_in 641 (by decide +kernel) (by decide +kernel), by decide +kernel⟩
theorem cw_X10_172 : uCW RX10 RX5 172 yX5_takeWaiting cX5_takeWaiting 2 (some .int) 1 := ⟨gt_in 638 (by decide +kernel) (by decide +kernel), yf_X5_takeWaiting⟩
theorem cw_X10_175 : uCW RX10 RX6 175 yX6_increase cX6_increase 3 none 2 := ⟨gt_in 648 (by decide +kernel) (by decide +kernel), yf_X6_increase⟩
theorem yf_X10_judge : (Cond.instanceMethod yX10_judge) ∈ gtbl ∧ (Cond.selects RX10 yX10_judge yX10_judge) ∈ gtbl ∧ (Cond.initialized RX10) ∈ gtbl ∧ (Cond.code yX10_judge cX10_judge 6 (some .int)) ∈ gtbl ∧ (yX10_judge.cls = RX10 ∧ yX10_judge.cls ≠ "java/lang/invoke/MethodHandle" ∧ yX10_judge.cls ≠ "java/lang/invoke/VarHandle" ∧ (parseMethodDescriptor yX10_judge.desc).map (fun d => d.parameters.length) = some 2) := ⟨gt_in 651 (by decide +kernel) (by decide +kernel), gt_in 5 (by decide +kernel) (by decide +kernel), gt_in 18 (by decide +kernel) (by decide +kernel), gt_in 652 (by decide +kernel) (by decide +kernel), by decide +kernel⟩
theorem cw_X10_178 : uCW RX10 RX10 178 yX10_judge cX10_judge 6 (some .int) 2 := ⟨gt_in 649 (by decide +kernel) (by decide +kernel), yf_X10_judge⟩
theorem yf_X10_letsThrough : (Cond.static yX10_letsThrough) ∈ gtbl ∧ (Cond.initialized yX10_letsThrough.cls) ∈ gtbl ∧ (Cond.code yX10_letsThrough cX10_letsThrough 1 (some .boolean)) ∈ gtbl ∧ (yX10_letsThrough.cls ≠ "java/lang/invoke/MethodHandle" ∧ yX10_letsThrough.cls ≠ "java/lang/invoke/VarHandle" ∧ (parseMethodDescriptor yX10_letsThrough.desc).map (fun d => d.parameters.length) = some 1) := ⟨gt_in 663 (by decide +kernel) (by decide +kernel), gt_in 18 (by decide +kernel) (by decide +kernel), gt_in 664 (by decide +kernel) (by decide +kernel), by decide +kernel⟩
theorem cw_X10_182 : uCS RX10 182 yX10_letsThrough cX10_letsThrough 1 (some .boolean) 1 := ⟨gt_in 662 (by decide +kernel) (by decide +kernel), yf_X10_letsThrough⟩
theorem yf_X10_takeRide : (Cond.instanceMethod yX10_takeRide) ∈ gtbl ∧ (Cond.selects RX10 yX10_takeRide yX10_takeRide) ∈ gtbl ∧ (Cond.initialized RX10) ∈ gtbl ∧ (Cond.code yX10_takeRide cX10_takeRide 5 none) ∈ gtbl ∧ (yX10_takeRide.cls = RX10 ∧ yX10_takeRide.cls ≠ "java/lang/invoke/MethodHandle" ∧ yX10_takeRide.cls ≠ "java/lang/invoke/VarHandle" ∧ (parseMethodDescriptor yX10_takeRide.desc).map (fun d => d.parameters.length) = some 2) := ⟨gt_in 667 (by decide +kernel) (by decide +kernel), gt_in 7 (by decide +kernel) (by decide +kernel), gt_in 18 (by decide +kernel) (by decide +kernel), gt_in 668 (by decide +kernel) (by decide +kernel), by decide +kernel⟩
theorem cw_X10_185 : uCW RX10 RX10 185 yX10_takeRide cX10_takeRide 5 none 2 := ⟨gt_in 665 (by decide +kernel) (by decide +kernel), yf_X10_takeRide⟩
theorem yf_X10_isOnList : (Cond.instanceMethod yX10_isOnList) ∈ gtbl ∧ (Cond.selects RX10 yX10_isOnList yX10_isOnList) ∈ gtbl ∧ (Cond.initialized RX10) ∈ gtbl ∧ (Cond.code yX10_isOnList cX10_isOnList 3 (some .boolean)) ∈ gtbl ∧ (yX10_isOnList.cls = RX10 ∧ yX10_isOnList.cls ≠ "java/lang/invoke/MethodHandle" ∧ yX10_isOnList.cls ≠ "java/lang/invoke/VarHandle" ∧ (parseMethodDescriptor yX10_isOnList.desc).map (fun d => d.parameters.length) = some 2) := ⟨gt_in 655 (by decide +kernel) (by decide +kernel), gt_in 6 (by decide +kernel) (by decide +kernel), gt_in 18 (by decide +kernel) (by decide +kernel), gt_in 656 (by decide +kernel) (by decide +kernel), by decide +kernel⟩
theorem cw_X10_188 : uCW RX10 RX10 188 yX10_isOnList cX10_isOnList 3 (some .boolean) 2 := ⟨gt_in 653 (by decide +kernel) (by decide +kernel), yf_X10_isOnList⟩
theorem yf_X3_isLogFull : (Cond.instanceMethod yX3_isLogFull) ∈ gtbl ∧ (Cond.selects RX3 yX3_isLogFull yX3_isLogFull) ∈ gtbl ∧ (Cond.initialized RX3) ∈ gtbl ∧ (Cond.code yX3_isLogFull cX3_isLogFull 2 (some .boolean)) ∈ gtbl ∧ (yX3_isLogFull.cls = RX3 ∧ yX3_isLogFull.cls ≠ "java/lang/invoke/MethodHandle" ∧ yX3_isLogFull.cls ≠ "java/lang/invoke/VarHandle" ∧ (parseMethodDescriptor yX3_isLogFull.desc).map (fun d => d.parameters.length) = some 1) := ⟨gt_in 659 (by decide +kernel) (by decide +kernel), gt_in 660 (by decide +kernel) (by decide +kernel), gt_in 23 (by decide +kernel) (by decide +kernel), gt_in 661 (by decide +kernel) (by decide +kernel), by decide +kernel⟩
theorem cw_X10_198 : uCW RX10 RX3 198 yX3_isLogFull cX3_isLogFull 2 (some .boolean) 1 := ⟨gt_in 658 (by decide +kernel) (by decide +kernel), yf_X3_isLogFull⟩
theorem yf_X3_writeLog : (Cond.instanceMethod yX3_writeLog) ∈ gtbl ∧ (Cond.selects RX3 yX3_writeLog yX3_writeLog) ∈ gtbl ∧ (Cond.initialized RX3) ∈ gtbl ∧ (Cond.code yX3_writeLog cX3_writeLog 6 none) ∈ gtbl ∧ (yX3_writeLog.cls = RX3 ∧ yX3_writeLog.cls ≠ "java/lang/invoke/MethodHandle" ∧ yX3_writeLog.cls ≠ "java/lang/invoke/VarHandle" ∧ (parseMethodDescriptor yX3_writeLog.desc).map (fun d => d.parameters.length) = some 4) := ⟨gt_in 670 (by decide +kernel) (by decide +kernel), gt_in 671 (by decide +kernel) (by decide +kernel), gt_in 23 (by decide +kernel) (by decide +kernel), gt_in 672 (by decide +kernel) (by decide +kernel), by decide +kernel⟩
theorem cw_X10_204 : uCW RX10 RX3 204 yX3_writeLog cX3_writeLog 6 none 4 := ⟨gt_in 669 (by decide +kernel) (by decide +kernel), yf_X3_writeLog⟩
theorem yf_X10_hasRoomForAccount : (Cond.instanceMethod yX10_hasRoomForAccount) ∈ gtbl ∧ (Cond.selects RX10 yX10_hasRoomForAccount yX10_hasRoomForAccount) ∈ gtbl ∧ (Cond.initialized RX10) ∈ gtbl ∧ (Cond.code yX10_hasRoomForAccount cX10_hasRoomForAccount 1 (some .boolean)) ∈ gtbl ∧ (yX10_hasRoomForAccount.cls = RX10 ∧ yX10_hasRoomForAccount.cls ≠ "java/lang/invoke/MethodHandle" ∧ yX10_hasRoomForAccount.cls ≠ "java/lang/invoke/VarHandle" ∧ (parseMethodDescriptor yX10_hasRoomForAccount.desc).map (fun d => d.parameters.length) = some 0) := ⟨gt_in 592 (by decide +kernel) (by decide +kernel), gt_in 593 (by decide +kernel) (by decide +kernel), gt_in 18 (by decide +kernel) (by decide +kernel), gt_in 594 (by decide +kernel) (by decide +kernel), by decide +kernel⟩
theorem cw_X10_208 : uCW RX10 RX10 208 yX10_hasRoomForAccount cX10_hasRoomForAccount 1 (some .boolean) 0 := ⟨gt_in 591 (by decide +kernel) (by decide +kernel), yf_X10_hasRoomForAccount⟩
theorem yf_X10_makeAccount : (Cond.instanceMethod yX10_makeAccount) ∈ gtbl ∧ (Cond.selects RX10 yX10_makeAccount yX10_makeAccount) ∈ gtbl ∧ (Cond.initialized RX10) ∈ gtbl ∧ (Cond.code yX10_makeAccount cX10_makeAccount 2 (some .int)) ∈ gtbl ∧ (yX10_makeAccount.cls = RX10 ∧ yX10_makeAccount.cls ≠ "java/lang/invoke/MethodHandle" ∧ yX10_makeAccount.cls ≠ "java/lang/invoke/VarHandle" ∧ (parseMethodDescriptor yX10_makeAccount.desc).map (fun d => d.parameters.length) = some 1) := ⟨gt_in 604 (by decide +kernel) (by decide +kernel), gt_in 605 (by decide +kernel) (by decide +kernel), gt_in 18 (by decide +kernel) (by decide +kernel), gt_in 606 (by decide +kernel) (by decide +kernel), by decide +kernel⟩
theorem cw_X10_211 : uCW RX10 RX10 211 yX10_makeAccount cX10_makeAccount 2 (some .int) 1 := ⟨gt_in 603 (by decide +kernel) (by decide +kernel), yf_X10_makeAccount⟩
theorem yf_X0_makeTwin : (Cond.instanceMethod yX0_makeTwin) ∈ gtbl ∧ (Cond.selects RX0 yX0_makeTwin yX0_makeTwin) ∈ gtbl ∧ (Cond.initialized RX0) ∈ gtbl ∧ (Cond.code yX0_makeTwin cX0_makeTwin 2 (some .int)) ∈ gtbl ∧ (yX0_makeTwin.cls = RX0 ∧ yX0_makeTwin.cls ≠ "java/lang/invoke/MethodHandle" ∧ yX0_makeTwin.cls ≠ "java/lang/invoke/VarHandle" ∧ (parseMethodDescriptor yX0_makeTwin.desc).map (fun d => d.parameters.length) = some 1) := ⟨gt_in 625 (by decide +kernel) (by decide +kernel), gt_in 626 (by decide +kernel) (by decide +kernel), gt_in 19 (by decide +kernel) (by decide +kernel), gt_in 627 (by decide +kernel) (by decide +kernel), by decide +kernel⟩
theorem cw_X10_214 : uCW RX10 RX0 214 yX0_makeTwin cX0_makeTwin 2 (some .int) 1 := ⟨gt_in 624 (by decide +kernel) (by decide +kernel), yf_X0_makeTwin⟩
theorem yf_X5_has : (Cond.instanceMethod yX5_has) ∈ gtbl ∧ (Cond.selects RX5 yX5_has yX5_has) ∈ gtbl ∧ (Cond.initialized RX5) ∈ gtbl ∧ (Cond.code yX5_has cX5_has 2 (some .boolean)) ∈ gtbl ∧ (yX5_has.cls = RX5 ∧ yX5_has.cls ≠ "java/lang/invoke/MethodHandle" ∧ yX5_has.cls ≠ "java/lang/invoke/VarHandle" ∧ (parseMethodDescriptor yX5_has.desc).map (fun d => d.parameters.length) = some 1) := ⟨gt_in 679 (by decide +kernel) (by decide +kernel), gt_in 680 (by decide +kernel) (by decide +kernel), gt_in 22 (by decide +kernel) (by decide +kernel), gt_in 681 (by decide +kernel) (by decide +kernel), by decide +kernel⟩
theorem cw_X10_217 : uCW RX10 RX5 217 yX5_has cX5_has 2 (some .boolean) 1 := ⟨gt_in 678 (by decide +kernel) (by decide +kernel), yf_X5_has⟩
theorem yf_X5_payIn : (Cond.instanceMethod yX5_payIn) ∈ gtbl ∧ (Cond.selects RX5 yX5_payIn yX5_payIn) ∈ gtbl ∧ (Cond.initialized RX5) ∈ gtbl ∧ (Cond.code yX5_payIn cX5_payIn 3 (some .int)) ∈ gtbl ∧ (yX5_payIn.cls = RX5 ∧ yX5_payIn.cls ≠ "java/lang/invoke/MethodHandle" ∧ yX5_payIn.cls ≠ "java/lang/invoke/VarHandle" ∧ (parseMethodDescriptor yX5_payIn.desc).map (fun d => d.parameters.length) = some 2) := ⟨gt_in 683 (by decide +kernel) (by decide +kernel), gt_in 684 (by decide +kernel) (by decide +kernel), gt_in 22 (by decide +kernel) (by decide +kernel), gt_in 685 (by decide +kernel) (by decide +kernel), by decide +kernel⟩
theorem cw_X10_218 : uCW RX10 RX5 218 yX5_payIn cX5_payIn 3 (some .int) 2 := ⟨gt_in 682 (by decide +kernel) (by decide +kernel), yf_X5_payIn⟩
theorem yf_X5_isMarked : (Cond.instanceMethod yX5_isMarked) ∈ gtbl ∧ (Cond.selects RX5 yX5_isMarked yX5_isMarked) ∈ gtbl ∧ (Cond.initialized RX5) ∈ gtbl ∧ (Cond.code yX5_isMarked cX5_isMarked 2 (some .boolean)) ∈ gtbl ∧ (yX5_isMarked.cls = RX5 ∧ yX5_isMarked.cls ≠ "java/lang/invoke/MethodHandle" ∧ yX5_isMarked.cls ≠ "java/lang/invoke/VarHandle" ∧ (parseMethodDescriptor yX5_isMarked.desc).map (fun d => d.parameters.length) = some 1) := ⟨gt_in 861 (by decide +kernel) (by decide +kernel), gt_in 862 (by decide +kernel) (by decide +kernel), gt_in 22 (by decide +kernel) (by decide +kernel), gt_in 863 (by decide +kernel) (by decide +kernel), by decide +kernel⟩
theorem cw_X10_221 : uCW RX10 RX5 221 yX5_isMarked cX5_isMarked 2 (some .boolean) 1 := ⟨gt_in 1014 (by decide +kernel) (by decide +kernel), yf_X5_isMarked⟩
theorem yf_X5_unmark : (Cond.instanceMethod yX5_unmark) ∈ gtbl ∧ (Cond.selects RX5 yX5_unmark yX5_unmark) ∈ gtbl ∧ (Cond.initialized RX5) ∈ gtbl ∧ (Cond.code yX5_unmark cX5_unmark 2 (some .int)) ∈ gtbl ∧ (yX5_unmark.cls = RX5 ∧ yX5_unmark.cls ≠ "java/lang/invoke/MethodHandle" ∧ yX5_unmark.cls ≠ "java/lang/invoke/VarHandle" ∧ (parseMethodDescriptor yX5_unmark.desc).map (fun d => d.parameters.length) = some 1) := ⟨gt_in 865 (by decide +kernel) (by decide +kernel), gt_in 866 (by decide +kernel) (by decide +kernel), gt_in 22 (by decide +kernel) (by decide +kernel), gt_in 867 (by decide +kernel) (by decide +kernel), by decide +kernel⟩
theorem cw_X10_224 : uCW RX10 RX5 224 yX5_unmark cX5_unmark 2 (some .int) 1 := ⟨gt_in 1015 (by decide +kernel) (by decide +kernel), yf_X5_unmark⟩
theorem yf_X10_takeDown : (Cond.instanceMethod yX10_takeDown) ∈ gtbl ∧ (Cond.selects RX10 yX10_takeDown yX10_takeDown) ∈ gtbl ∧ (Cond.initialized RX10) ∈ gtbl ∧ (Cond.code yX10_takeDown cX10_takeDown 2 (some .int)) ∈ gtbl ∧ (yX10_takeDown.cls = RX10 ∧ yX10_takeDown.cls ≠ "java/lang/invoke/MethodHandle" ∧ yX10_takeDown.cls ≠ "java/lang/invoke/VarHandle" ∧ (parseMethodDescriptor yX10_takeDown.desc).map (fun d => d.parameters.length) = some 1) := ⟨gt_in 691 (by decide +kernel) (by decide +kernel), gt_in 692 (by decide +kernel) (by decide +kernel), gt_in 18 (by decide +kernel) (by decide +kernel), gt_in 693 (by decide +kernel) (by decide +kernel), by decide +kernel⟩
theorem cw_X10_227 : uCW RX10 RX10 227 yX10_takeDown cX10_takeDown 2 (some .int) 1 := ⟨gt_in 690 (by decide +kernel) (by decide +kernel), yf_X10_takeDown⟩
theorem yf_X10_bringUp : (Cond.instanceMethod yX10_bringUp) ∈ gtbl ∧ (Cond.selects RX10 yX10_bringUp yX10_bringUp) ∈ gtbl ∧ (Cond.initialized RX10) ∈ gtbl ∧ (Cond.code yX10_bringUp cX10_bringUp 5 (some .int)) ∈ gtbl ∧ (yX10_bringUp.cls = RX10 ∧ yX10_bringUp.cls ≠ "java/lang/invoke/MethodHandle" ∧ yX10_bringUp.cls ≠ "java/lang/invoke/VarHandle" ∧ (parseMethodDescriptor yX10_bringUp.desc).map (fun d => d.parameters.length) = some 1) := ⟨gt_in 392 (by decide +kernel) (by decide +kernel), gt_in 393 (by decide +kernel) (by decide +kernel), gt_in 18 (by decide +kernel) (by decide +kernel), gt_in 394 (by decide +kernel) (by decide +kernel), by decide +kernel⟩
theorem cw_X10_230 : uCW RX10 RX10 230 yX10_bringUp cX10_bringUp 5 (some .int) 1 := ⟨gt_in 391 (by decide +kernel) (by decide +kernel), yf_X10_bringUp⟩
theorem yf_X3_turnOpen : (Cond.instanceMethod yX3_turnOpen) ∈ gtbl ∧ (Cond.selects RX3 yX3_turnOpen yX3_turnOpen) ∈ gtbl ∧ (Cond.initialized RX3) ∈ gtbl ∧ (Cond.code yX3_turnOpen cX3_turnOpen 2 (some .int)) ∈ gtbl ∧ (yX3_turnOpen.cls = RX3 ∧ yX3_turnOpen.cls ≠ "java/lang/invoke/MethodHandle" ∧ yX3_turnOpen.cls ≠ "java/lang/invoke/VarHandle" ∧ (parseMethodDescriptor yX3_turnOpen.desc).map (fun d => d.parameters.length) = some 1) := ⟨gt_in 701 (by decide +kernel) (by decide +kernel), gt_in 702 (by decide +kernel) (by decide +kernel), gt_in 23 (by decide +kernel) (by decide +kernel), gt_in 703 (by decide +kernel) (by decide +kernel), by decide +kernel⟩
theorem cw_X10_233 : uCW RX10 RX3 233 yX3_turnOpen cX3_turnOpen 2 (some .int) 1 := ⟨gt_in 700 (by decide +kernel) (by decide +kernel), yf_X3_turnOpen⟩
def fX10_isOnList (S : (Nat → Nat → Int32)) (a1 : Int32) (a2 : Int32) : Int32 :=
  lt_ (fX3_isUp S a2) fun x2 =>
  if x2 = 0 then
    lt_ (fget 4 (S 25) a2) fun x6 =>
    if ((x6 >>> (a1 &&& 31)) &&& 1) = 0 then
      0
    else
      1
  else
    lt_ (fX5_isBlocked S a1) fun x10 =>
    x10
set_option maxHeartbeats 4000000 in
set_option maxRecDepth 20000 in
theorem kX10_isOnList {l : Launch} {G : UG} {V : uV} {t : Nat} (hS : uSt G t) {S : (Nat → Nat → Int32)} (hV : V t = S) {a1 : Int32} {a2 : Int32} {r : Int32} (h : fX10_isOnList S a1 a2 = r) : uMi l G yX10_isOnList cX10_isOnList 3 .boolean (uR 2 42) [.ref (ga G t 0), .int a1, .int a2] V r V := by
  refine uMi_of rfl (Nat.le_of_ble_eq_true rfl) (fun p e s m args below meth c ls X hret hl M => ?_)
  have hl : lv_has ls 3 [(0, .ref (ga G t 0)), (1, .int a1), (2, .int a2)] := hl
  have hx := X.hx
  have hb := X.hb
  unfold fX10_isOnList at h
  refine lv_aload_n hx hb dX10_isOnList_0 rfl (lv_at hl 0 rfl) ?_
  refine gf_X10_28 X M hS dX10_isOnList_1 ?_
  refine lv_iload_n hx hb dX10_isOnList_4 rfl (lv_at hl 2 rfl) ?_
  obtain ⟨x2, e1, h⟩ := lt_e h
  refine u_cVi X M hl.1 (kX3_isUp hS hV e1.symm) cw_X10_120 ⟨by decide, by decide⟩ (rc_X3 X M hS) rfl rfl (Nat.le_of_ble_eq_true rfl) ⟨Nat.zero_le _, Nat.zero_le _⟩ dX10_isOnList_5 (fun H locs M n3 => ?_)
  refine lv_if_eq (tgt := 20) hx hb dX10_isOnList_8 (by decide) (fun c4 => ?_) (fun c4 => ?_)
  · have h := it_t h c4
    refine lv_aload_n hx hb dX10_isOnList_20 rfl (lv_at hl 0 rfl) ?_
    refine gf_X10_28 X M hS dX10_isOnList_21 ?_
    refine gf_X10_123 X M hS dX10_isOnList_24 ?_
    refine lv_iload_n hx hb dX10_isOnList_27 rfl (lv_at hl 2 rfl) ?_
    obtain ⟨x6, e5, h⟩ := lt_e h
    refine u_cVi X M hl.1 (kX6_get (uRw24 hS) (congrFun hV 25) e5.symm) cw_X10_101 ⟨by decide, by decide⟩ (uR_recv X M (uRw24 hS)) rfl rfl (Nat.le_of_ble_eq_true rfl) ⟨Nat.zero_le _, Nat.zero_le _⟩ dX10_isOnList_28 (fun H locs M n7 => ?_)
    refine lv_iload_n hx hb dX10_isOnList_31 rfl (lv_at hl 1 rfl) ?_
    refine lv_ishr hx hb dX10_isOnList_32 ?_
    refine lv_iconst (v := 1) hx hb dX10_isOnList_33 (by decide) ?_
    refine lv_iand hx hb dX10_isOnList_34 ?_
    refine lv_if_eq (tgt := 42) hx hb dX10_isOnList_35 (by decide) (fun c8 => ?_) (fun c8 => ?_)
    · have h := it_t h c8
      refine lv_iconst (v := 0) hx hb dX10_isOnList_42 (by decide) ?_
      exact u_iret X hret M h (rfl) rfl dX10_isOnList_43
    · have h := it_f h c8
      refine lv_iconst (v := 1) hx hb dX10_isOnList_38 (by decide) ?_
      refine lv_goto (tgt := 43) hx hb dX10_isOnList_39 (by decide) ?_
      exact u_iret X hret M h (rfl) rfl dX10_isOnList_43
  · have h := it_f h c4
    refine lv_aload_n hx hb dX10_isOnList_11 rfl (lv_at hl 0 rfl) ?_
    refine gf_X10_21 X M hS dX10_isOnList_12 ?_
    refine lv_iload_n hx hb dX10_isOnList_15 rfl (lv_at hl 1 rfl) ?_
    obtain ⟨x10, e9, h⟩ := lt_e h
    refine u_cVi X M hl.1 (kX5_isBlocked hS hV e9.symm) cw_X10_113 ⟨by decide, by decide⟩ (rc_X5 X M hS) rfl rfl (Nat.le_of_ble_eq_true rfl) ⟨Nat.zero_le _, Nat.zero_le _⟩ dX10_isOnList_16 (fun H locs M n11 => ?_)
    exact u_iret X hret M h (rfl) n11 dX10_isOnList_19
def fX10_judge (S : (Nat → Nat → Int32)) (a1 : Int32) (a2 : Int32) : Int32 :=
  lt_ (fX3_isUp S a2) fun x2 =>
  lt_ (fget 10 (S 3) a1) fun x5 =>
  lt_ (fX10_isOnList S x5 a2) fun x8 =>
  if x8 = 0 then
    lt_ (fget 10 (S 9) a1) fun x12 =>
    if x12 = (-1) then
      if x2 = 0 then
        lt_ (fget 4 (S 39) 0) fun x17 =>
        lt_ (fget 10 (S 5) a1) fun x20 =>
        lt_ (fget 4 (S 23) a2) fun x23 =>
        if (-x17) ≤ (x20 - x23) then
          if x2 = 0 then
            lt_ (fX3_isLogFull S a2) fun x29 =>
            if x29 = 0 then
              if x2 = 0 then
                1
              else
                0
            else
              lt_ (fget 4 (S 39) 2) fun x34 =>
              if x34 = 0 then
                6
              else
                7
          else
            if x2 = 0 then
              1
            else
              0
        else
          5
      else
        lt_ (fget 10 (S 5) a1) fun x38 =>
        lt_ (fget 4 (S 23) a2) fun x41 =>
        if (-0) ≤ (x38 - x41) then
          if x2 = 0 then
            lt_ (fX3_isLogFull S a2) fun x47 =>
            if x47 = 0 then
              if x2 = 0 then
                1
              else
                0
            else
              lt_ (fget 4 (S 39) 2) fun x52 =>
              if x52 = 0 then
                6
              else
                7
          else
            if x2 = 0 then
              1
            else
              0
        else
          5
    else
      lt_ (S 0 4) fun x55 =>
      lt_ (fget 4 (S 39) 1) fun x58 =>
      if x58 ≤ (x55 - x12) then
        if x2 = 0 then
          lt_ (fget 4 (S 39) 0) fun x63 =>
          lt_ (fget 10 (S 5) a1) fun x66 =>
          lt_ (fget 4 (S 23) a2) fun x69 =>
          if (-x63) ≤ (x66 - x69) then
            if x2 = 0 then
              lt_ (fX3_isLogFull S a2) fun x75 =>
              if x75 = 0 then
                if x2 = 0 then
                  1
                else
                  0
              else
                lt_ (fget 4 (S 39) 2) fun x80 =>
                if x80 = 0 then
                  6
                else
                  7
            else
              if x2 = 0 then
                1
              else
                0
          else
            5
        else
          lt_ (fget 10 (S 5) a1) fun x84 =>
          lt_ (fget 4 (S 23) a2) fun x87 =>
          if (-0) ≤ (x84 - x87) then
            if x2 = 0 then
              lt_ (fX3_isLogFull S a2) fun x93 =>
              if x93 = 0 then
                if x2 = 0 then
                  1
                else
                  0
              else
                lt_ (fget 4 (S 39) 2) fun x98 =>
                if x98 = 0 then
                  6
                else
                  7
            else
              if x2 = 0 then
                1
              else
                0
          else
            5
      else
        4
  else
    3
set_option maxHeartbeats 4000000 in
set_option maxRecDepth 20000 in
theorem kX10_judge {l : Launch} {G : UG} {V : uV} {t : Nat} (hS : uSt G t) {S : (Nat → Nat → Int32)} (hV : V t = S) {a1 : Int32} {a2 : Int32} {r : Int32} (h : fX10_judge S a1 a2 = r) : uMi l G yX10_judge cX10_judge 6 .int (uR 3 64) [.ref (ga G t 0), .int a1, .int a2] V r V := by
  refine uMi_of rfl (Nat.le_of_ble_eq_true rfl) (fun p e s m args below meth c ls X hret hl M => ?_)
  have hl : lv_has ls 6 [(0, .ref (ga G t 0)), (1, .int a1), (2, .int a2)] := hl
  have hx := X.hx
  have hb := X.hb
  unfold fX10_judge at h
  refine lv_aload_n hx hb dX10_judge_0 rfl (lv_at hl 0 rfl) ?_
  refine gf_X10_28 X M hS dX10_judge_1 ?_
  refine lv_iload_n hx hb dX10_judge_4 rfl (lv_at hl 2 rfl) ?_
  obtain ⟨x2, e1, h⟩ := lt_e h
  refine u_cVi X M hl.1 (kX3_isUp hS hV e1.symm) cw_X10_120 ⟨by decide, by decide⟩ (rc_X3 X M hS) rfl rfl (Nat.le_of_ble_eq_true rfl) ⟨Nat.zero_le _, Nat.zero_le _⟩ dX10_judge_5 (fun H locs M n3 => ?_)
  refine lv_istore_n (lv' := [(3, .int x2), (0, .ref (ga G t 0)), (1, .int a1), (2, .int a2)]) hx hb dX10_judge_8 rfl hl (by decide) rfl (fun ls hl => ?_)
  refine lv_aload_n hx hb dX10_judge_9 rfl (lv_at hl 1 rfl) ?_
  refine lv_aload_n hx hb dX10_judge_10 rfl (lv_at hl 1 rfl) ?_
  refine gf_X10_12 X M hS dX10_judge_11 ?_
  refine gf_X10_169 X M hS dX10_judge_14 ?_
  refine lv_iload_n hx hb dX10_judge_17 rfl (lv_at hl 2 rfl) ?_
  obtain ⟨x5, e4, h⟩ := lt_e h
  refine u_cVi X M hl.1 (kX6_get (uRw2 hS) (congrFun hV 3) e4.symm) cw_X10_101 ⟨by decide, by decide⟩ (uR_recv X M (uRw2 hS)) rfl rfl (Nat.le_of_ble_eq_true rfl) ⟨Nat.zero_le _, Nat.zero_le _⟩ dX10_judge_18 (fun H locs M n6 => ?_)
  refine lv_iload_n hx hb dX10_judge_21 rfl (lv_at hl 3 rfl) ?_
  obtain ⟨x8, e7, h⟩ := lt_e h
  refine u_cVi X M hl.1 (kX10_isOnList hS hV e7.symm) cw_X10_188 ⟨by decide, by decide⟩ (rc_X10 X M hS) rfl rfl (Nat.le_of_ble_eq_true rfl) ⟨Nat.zero_le _, Nat.zero_le _⟩ dX10_judge_22 (fun H locs M n9 => ?_)
  refine lv_if_eq (tgt := 30) hx hb dX10_judge_25 (by decide) (fun c10 => ?_) (fun c10 => ?_)
  · have h := it_t h c10
    refine lv_aload_n hx hb dX10_judge_30 rfl (lv_at hl 1 rfl) ?_
    refine gf_X10_12 X M hS dX10_judge_31 ?_
    refine gf_X10_192 X M hS dX10_judge_34 ?_
    refine lv_iload_n hx hb dX10_judge_37 rfl (lv_at hl 2 rfl) ?_
    obtain ⟨x12, e11, h⟩ := lt_e h
    refine u_cVi X M hl.1 (kX6_get (uRw8 hS) (congrFun hV 9) e11.symm) cw_X10_101 ⟨by decide, by decide⟩ (uR_recv X M (uRw8 hS)) rfl rfl (Nat.le_of_ble_eq_true rfl) ⟨Nat.zero_le _, Nat.zero_le _⟩ dX10_judge_38 (fun H locs M n13 => ?_)
    refine lv_istore (lv' := [(4, .int x12), (3, .int x2), (0, .ref (ga G t 0)), (1, .int a1), (2, .int a2)]) hx hb dX10_judge_41 hl (by decide) rfl (fun ls hl => ?_)
    refine lv_iload hx hb dX10_judge_43 (lv_at hl 0 rfl) ?_
    refine lv_iconst (v := (-1)) hx hb dX10_judge_45 (by decide) ?_
    refine lv_icmp_eq (tgt := 69) hx hb dX10_judge_46 (by decide) (fun c14 => ?_) (fun c14 => ?_)
    · have h := it_t h c14
      refine lv_iload_n hx hb dX10_judge_69 rfl (lv_at hl 1 rfl) ?_
      refine lv_if_eq (tgt := 77) hx hb dX10_judge_70 (by decide) (fun c15 => ?_) (fun c15 => ?_)
      · have h := it_t h c15
        refine lv_aload_n hx hb dX10_judge_77 rfl (lv_at hl 2 rfl) ?_
        refine gf_X10_37 X M hS dX10_judge_78 ?_
        refine lv_iconst (v := 0) hx hb dX10_judge_81 (by decide) ?_
        obtain ⟨x17, e16, h⟩ := lt_e h
        refine u_cVi X M hl.1 (kX6_get (uRw38 hS) (congrFun hV 39) e16.symm) cw_X10_101 ⟨by decide, by decide⟩ (uR_recv X M (uRw38 hS)) rfl rfl (Nat.le_of_ble_eq_true rfl) ⟨Nat.zero_le _, Nat.zero_le _⟩ dX10_judge_82 (fun H locs M n18 => ?_)
        refine lv_istore (lv' := [(5, .int x17), (4, .int x12), (3, .int x2), (0, .ref (ga G t 0)), (1, .int a1), (2, .int a2)]) hx hb dX10_judge_85 hl (by decide) rfl (fun ls hl => ?_)
        refine lv_aload_n hx hb dX10_judge_87 rfl (lv_at hl 3 rfl) ?_
        refine gf_X10_12 X M hS dX10_judge_88 ?_
        refine gf_X10_166 X M hS dX10_judge_91 ?_
        refine lv_iload_n hx hb dX10_judge_94 rfl (lv_at hl 4 rfl) ?_
        obtain ⟨x20, e19, h⟩ := lt_e h
        refine u_cVi X M hl.1 (kX6_get (uRw4 hS) (congrFun hV 5) e19.symm) cw_X10_101 ⟨by decide, by decide⟩ (uR_recv X M (uRw4 hS)) rfl rfl (Nat.le_of_ble_eq_true rfl) ⟨Nat.zero_le _, Nat.zero_le _⟩ dX10_judge_95 (fun H locs M n21 => ?_)
        refine lv_aload_n hx hb dX10_judge_98 rfl (lv_at hl 3 rfl) ?_
        refine gf_X10_28 X M hS dX10_judge_99 ?_
        refine gf_X10_195 X M hS dX10_judge_102 ?_
        refine lv_iload_n hx hb dX10_judge_105 rfl (lv_at hl 5 rfl) ?_
        obtain ⟨x23, e22, h⟩ := lt_e h
        refine u_cVi X M hl.1 (kX6_get (uRw22 hS) (congrFun hV 23) e22.symm) cw_X10_101 ⟨by decide, by decide⟩ (uR_recv X M (uRw22 hS)) rfl rfl (Nat.le_of_ble_eq_true rfl) ⟨Nat.zero_le _, Nat.zero_le _⟩ dX10_judge_106 (fun H locs M n24 => ?_)
        refine lv_isub hx hb dX10_judge_109 ?_
        refine lv_iload hx hb dX10_judge_110 (lv_at hl 0 rfl) ?_
        refine lv_ineg hx hb dX10_judge_112 ?_
        refine lv_icmp_ge (tgt := 118) hx hb dX10_judge_113 (by decide) (fun c25 => ?_) (fun c25 => ?_)
        · have h := it_t h c25
          refine lv_iload_n hx hb dX10_judge_118 rfl (lv_at hl 2 rfl) ?_
          refine lv_if_ne (tgt := 152) hx hb dX10_judge_119 (by decide) (fun c26 => ?_) (fun c26 => ?_)
          · have h := it_f h c26
            refine lv_iload_n hx hb dX10_judge_152 rfl (lv_at hl 2 rfl) ?_
            refine lv_if_eq (tgt := 160) hx hb dX10_judge_153 (by decide) (fun c27 => ?_) (fun c27 => ?_)
            · have h := it_t h c27
              refine lv_iconst (v := 1) hx hb dX10_judge_160 (by decide) ?_
              exact u_iret X hret M h (rfl) rfl dX10_judge_161
            · have h := it_f h c27
              refine lv_iconst (v := 0) hx hb dX10_judge_156 (by decide) ?_
              refine lv_goto (tgt := 161) hx hb dX10_judge_157 (by decide) ?_
              exact u_iret X hret M h (rfl) rfl dX10_judge_161
          · have h := it_t h c26
            refine lv_aload_n hx hb dX10_judge_122 rfl (lv_at hl 3 rfl) ?_
            refine gf_X10_28 X M hS dX10_judge_123 ?_
            refine lv_iload_n hx hb dX10_judge_126 rfl (lv_at hl 5 rfl) ?_
            obtain ⟨x29, e28, h⟩ := lt_e h
            refine u_cVi X M hl.1 (kX3_isLogFull hS hV e28.symm) cw_X10_198 ⟨by decide, by decide⟩ (rc_X3 X M hS) rfl rfl (Nat.le_of_ble_eq_true rfl) ⟨Nat.zero_le _, Nat.zero_le _⟩ dX10_judge_127 (fun H locs M n30 => ?_)
            refine lv_if_eq (tgt := 152) hx hb dX10_judge_130 (by decide) (fun c31 => ?_) (fun c31 => ?_)
            · have h := it_t h c31
              refine lv_iload_n hx hb dX10_judge_152 rfl (lv_at hl 2 rfl) ?_
              refine lv_if_eq (tgt := 160) hx hb dX10_judge_153 (by decide) (fun c32 => ?_) (fun c32 => ?_)
              · have h := it_t h c32
                refine lv_iconst (v := 1) hx hb dX10_judge_160 (by decide) ?_
                exact u_iret X hret M h (rfl) rfl dX10_judge_161
              · have h := it_f h c32
                refine lv_iconst (v := 0) hx hb dX10_judge_156 (by decide) ?_
                refine lv_goto (tgt := 161) hx hb dX10_judge_157 (by decide) ?_
                exact u_iret X hret M h (rfl) rfl dX10_judge_161
            · have h := it_f h c31
              refine lv_aload_n hx hb dX10_judge_133 rfl (lv_at hl 3 rfl) ?_
              refine gf_X10_37 X M hS dX10_judge_134 ?_
              refine lv_iconst (v := 2) hx hb dX10_judge_137 (by decide) ?_
              obtain ⟨x34, e33, h⟩ := lt_e h
              refine u_cVi X M hl.1 (kX6_get (uRw38 hS) (congrFun hV 39) e33.symm) cw_X10_101 ⟨by decide, by decide⟩ (uR_recv X M (uRw38 hS)) rfl rfl (Nat.le_of_ble_eq_true rfl) ⟨Nat.zero_le _, Nat.zero_le _⟩ dX10_judge_138 (fun H locs M n35 => ?_)
              refine lv_if_ne (tgt := 149) hx hb dX10_judge_141 (by decide) (fun c36 => ?_) (fun c36 => ?_)
              · have h := it_f h c36
                refine lv_bipush (v := 7) hx hb dX10_judge_149 (by decide) ?_
                exact u_iret X hret M h (rfl) rfl dX10_judge_151
              · have h := it_t h c36
                refine lv_bipush (v := 6) hx hb dX10_judge_144 (by decide) ?_
                refine lv_goto (tgt := 151) hx hb dX10_judge_146 (by decide) ?_
                exact u_iret X hret M h (rfl) rfl dX10_judge_151
        · have h := it_f h c25
          refine lv_iconst (v := 5) hx hb dX10_judge_116 (by decide) ?_
          exact u_iret X hret M h (rfl) rfl dX10_judge_117
      · have h := it_f h c15
        refine lv_iconst (v := 0) hx hb dX10_judge_73 (by decide) ?_
        refine lv_goto (tgt := 85) hx hb dX10_judge_74 (by decide) ?_
        refine lv_istore (lv' := [(5, .int 0), (4, .int x12), (3, .int x2), (0, .ref (ga G t 0)), (1, .int a1), (2, .int a2)]) hx hb dX10_judge_85 hl (by decide) rfl (fun ls hl => ?_)
        refine lv_aload_n hx hb dX10_judge_87 rfl (lv_at hl 3 rfl) ?_
        refine gf_X10_12 X M hS dX10_judge_88 ?_
        refine gf_X10_166 X M hS dX10_judge_91 ?_
        refine lv_iload_n hx hb dX10_judge_94 rfl (lv_at hl 4 rfl) ?_
        obtain ⟨x38, e37, h⟩ := lt_e h
        refine u_cVi X M hl.1 (kX6_get (uRw4 hS) (congrFun hV 5) e37.symm) cw_X10_101 ⟨by decide, by decide⟩ (uR_recv X M (uRw4 hS)) rfl rfl (Nat.le_of_ble_eq_true rfl) ⟨Nat.zero_le _, Nat.zero_le _⟩ dX10_judge_95 (fun H locs M n39 => ?_)
        refine lv_aload_n hx hb dX10_judge_98 rfl (lv_at hl 3 rfl) ?_
        refine gf_X10_28 X M hS dX10_judge_99 ?_
        refine gf_X10_195 X M hS dX10_judge_102 ?_
        refine lv_iload_n hx hb dX10_judge_105 rfl (lv_at hl 5 rfl) ?_
        obtain ⟨x41, e40, h⟩ := lt_e h
        refine u_cVi X M hl.1 (kX6_get (uRw22 hS) (congrFun hV 23) e40.symm) cw_X10_101 ⟨by decide, by decide⟩ (uR_recv X M (uRw22 hS)) rfl rfl (Nat.le_of_ble_eq_true rfl) ⟨Nat.zero_le _, Nat.zero_le _⟩ dX10_judge_106 (fun H locs M n42 => ?_)
        refine lv_isub hx hb dX10_judge_109 ?_
        refine lv_iload hx hb dX10_judge_110 (lv_at hl 0 rfl) ?_
        refine lv_ineg hx hb dX10_judge_112 ?_
        refine lv_icmp_ge (tgt := 118) hx hb dX10_judge_113 (by decide) (fun c43 => ?_) (fun c43 => ?_)
        · have h := it_t h c43
          refine lv_iload_n hx hb dX10_judge_118 rfl (lv_at hl 2 rfl) ?_
          refine lv_if_ne (tgt := 152) hx hb dX10_judge_119 (by decide) (fun c44 => ?_) (fun c44 => ?_)
          · have h := it_f h c44
            refine lv_iload_n hx hb dX10_judge_152 rfl (lv_at hl 2 rfl) ?_
            refine lv_if_eq (tgt := 160) hx hb dX10_judge_153 (by decide) (fun c45 => ?_) (fun c45 => ?_)
            · have h := it_t h c45
              refine lv_iconst (v := 1) hx hb dX10_judge_160 (by decide) ?_
              exact u_iret X hret M h (rfl) rfl dX10_judge_161
            · have h := it_f h c45
              refine lv_iconst (v := 0) hx hb dX10_judge_156 (by decide) ?_
              refine lv_goto (tgt := 161) hx hb dX10_judge_157 (by decide) ?_
              exact u_iret X hret M h (rfl) rfl dX10_judge_161
          · have h := it_t h c44
            refine lv_aload_n hx hb dX10_judge_122 rfl (lv_at hl 3 rfl) ?_
            refine gf_X10_28 X M hS dX10_judge_123 ?_
            refine lv_iload_n hx hb dX10_judge_126 rfl (lv_at hl 5 rfl) ?_
            obtain ⟨x47, e46, h⟩ := lt_e h
            refine u_cVi X M hl.1 (kX3_isLogFull hS hV e46.symm) cw_X10_198 ⟨by decide, by decide⟩ (rc_X3 X M hS) rfl rfl (Nat.le_of_ble_eq_true rfl) ⟨Nat.zero_le _, Nat.zero_le _⟩ dX10_judge_127 (fun H locs M n48 => ?_)
            refine lv_if_eq (tgt := 152) hx hb dX10_judge_130 (by decide) (fun c49 => ?_) (fun c49 => ?_)
            · have h := it_t h c49
              refine lv_iload_n hx hb dX10_judge_152 rfl (lv_at hl 2 rfl) ?_
              refine lv_if_eq (tgt := 160) hx hb dX10_judge_153 (by decide) (fun c50 => ?_) (fun c50 => ?_)
              · have h := it_t h c50
                refine lv_iconst (v := 1) hx hb dX10_judge_160 (by decide) ?_
                exact u_iret X hret M h (rfl) rfl dX10_judge_161
              · have h := it_f h c50
                refine lv_iconst (v := 0) hx hb dX10_judge_156 (by decide) ?_
                refine lv_goto (tgt := 161) hx hb dX10_judge_157 (by decide) ?_
                exact u_iret X hret M h (rfl) rfl dX10_judge_161
            · have h := it_f h c49
              refine lv_aload_n hx hb dX10_judge_133 rfl (lv_at hl 3 rfl) ?_
              refine gf_X10_37 X M hS dX10_judge_134 ?_
              refine lv_iconst (v := 2) hx hb dX10_judge_137 (by decide) ?_
              obtain ⟨x52, e51, h⟩ := lt_e h
              refine u_cVi X M hl.1 (kX6_get (uRw38 hS) (congrFun hV 39) e51.symm) cw_X10_101 ⟨by decide, by decide⟩ (uR_recv X M (uRw38 hS)) rfl rfl (Nat.le_of_ble_eq_true rfl) ⟨Nat.zero_le _, Nat.zero_le _⟩ dX10_judge_138 (fun H locs M n53 => ?_)
              refine lv_if_ne (tgt := 149) hx hb dX10_judge_141 (by decide) (fun c54 => ?_) (fun c54 => ?_)
              · have h := it_f h c54
                refine lv_bipush (v := 7) hx hb dX10_judge_149 (by decide) ?_
                exact u_iret X hret M h (rfl) rfl dX10_judge_151
              · have h := it_t h c54
                refine lv_bipush (v := 6) hx hb dX10_judge_144 (by decide) ?_
                refine lv_goto (tgt := 151) hx hb dX10_judge_146 (by decide) ?_
                exact u_iret X hret M h (rfl) rfl dX10_judge_151
        · have h := it_f h c43
          refine lv_iconst (v := 5) hx hb dX10_judge_116 (by decide) ?_
          exact u_iret X hret M h (rfl) rfl dX10_judge_117
    · have h := it_f h c14
      refine lv_aload_n hx hb dX10_judge_49 rfl (lv_at hl 2 rfl) ?_
      obtain ⟨x55, e56, h⟩ := lt_e h
      refine gf_X10_51 X M hS hV e56 dX10_judge_50 ?_
      refine lv_iload hx hb dX10_judge_53 (lv_at hl 0 rfl) ?_
      refine lv_isub hx hb dX10_judge_55 ?_
      refine lv_aload_n hx hb dX10_judge_56 rfl (lv_at hl 2 rfl) ?_
      refine gf_X10_37 X M hS dX10_judge_57 ?_
      refine lv_iconst (v := 1) hx hb dX10_judge_60 (by decide) ?_
      obtain ⟨x58, e57, h⟩ := lt_e h
      refine u_cVi X M hl.1 (kX6_get (uRw38 hS) (congrFun hV 39) e57.symm) cw_X10_101 ⟨by decide, by decide⟩ (uR_recv X M (uRw38 hS)) rfl rfl (Nat.le_of_ble_eq_true rfl) ⟨Nat.zero_le _, Nat.zero_le _⟩ dX10_judge_61 (fun H locs M n59 => ?_)
      refine lv_icmp_ge (tgt := 69) hx hb dX10_judge_64 (by decide) (fun c60 => ?_) (fun c60 => ?_)
      · have h := it_t h c60
        refine lv_iload_n hx hb dX10_judge_69 rfl (lv_at hl 1 rfl) ?_
        refine lv_if_eq (tgt := 77) hx hb dX10_judge_70 (by decide) (fun c61 => ?_) (fun c61 => ?_)
        · have h := it_t h c61
          refine lv_aload_n hx hb dX10_judge_77 rfl (lv_at hl 2 rfl) ?_
          refine gf_X10_37 X M hS dX10_judge_78 ?_
          refine lv_iconst (v := 0) hx hb dX10_judge_81 (by decide) ?_
          obtain ⟨x63, e62, h⟩ := lt_e h
          refine u_cVi X M hl.1 (kX6_get (uRw38 hS) (congrFun hV 39) e62.symm) cw_X10_101 ⟨by decide, by decide⟩ (uR_recv X M (uRw38 hS)) rfl rfl (Nat.le_of_ble_eq_true rfl) ⟨Nat.zero_le _, Nat.zero_le _⟩ dX10_judge_82 (fun H locs M n64 => ?_)
          refine lv_istore (lv' := [(5, .int x63), (4, .int x12), (3, .int x2), (0, .ref (ga G t 0)), (1, .int a1), (2, .int a2)]) hx hb dX10_judge_85 hl (by decide) rfl (fun ls hl => ?_)
          refine lv_aload_n hx hb dX10_judge_87 rfl (lv_at hl 3 rfl) ?_
          refine gf_X10_12 X M hS dX10_judge_88 ?_
          refine gf_X10_166 X M hS dX10_judge_91 ?_
          refine lv_iload_n hx hb dX10_judge_94 rfl (lv_at hl 4 rfl) ?_
          obtain ⟨x66, e65, h⟩ := lt_e h
          refine u_cVi X M hl.1 (kX6_get (uRw4 hS) (congrFun hV 5) e65.symm) cw_X10_101 ⟨by decide, by decide⟩ (uR_recv X M (uRw4 hS)) rfl rfl (Nat.le_of_ble_eq_true rfl) ⟨Nat.zero_le _, Nat.zero_le _⟩ dX10_judge_95 (fun H locs M n67 => ?_)
          refine lv_aload_n hx hb dX10_judge_98 rfl (lv_at hl 3 rfl) ?_
          refine gf_X10_28 X M hS dX10_judge_99 ?_
          refine gf_X10_195 X M hS dX10_judge_102 ?_
          refine lv_iload_n hx hb dX10_judge_105 rfl (lv_at hl 5 rfl) ?_
          obtain ⟨x69, e68, h⟩ := lt_e h
          refine u_cVi X M hl.1 (kX6_get (uRw22 hS) (congrFun hV 23) e68.symm) cw_X10_101 ⟨by decide, by decide⟩ (uR_recv X M (uRw22 hS)) rfl rfl (Nat.le_of_ble_eq_true rfl) ⟨Nat.zero_le _, Nat.zero_le _⟩ dX10_judge_106 (fun H locs M n70 => ?_)
          refine lv_isub hx hb dX10_judge_109 ?_
          refine lv_iload hx hb dX10_judge_110 (lv_at hl 0 rfl) ?_
          refine lv_ineg hx hb dX10_judge_112 ?_
          refine lv_icmp_ge (tgt := 118) hx hb dX10_judge_113 (by decide) (fun c71 => ?_) (fun c71 => ?_)
          · have h := it_t h c71
            refine lv_iload_n hx hb dX10_judge_118 rfl (lv_at hl 2 rfl) ?_
            refine lv_if_ne (tgt := 152) hx hb dX10_judge_119 (by decide) (fun c72 => ?_) (fun c72 => ?_)
            · have h := it_f h c72
              refine lv_iload_n hx hb dX10_judge_152 rfl (lv_at hl 2 rfl) ?_
              refine lv_if_eq (tgt := 160) hx hb dX10_judge_153 (by decide) (fun c73 => ?_) (fun c73 => ?_)
              · have h := it_t h c73
                refine lv_iconst (v := 1) hx hb dX10_judge_160 (by decide) ?_
                exact u_iret X hret M h (rfl) rfl dX10_judge_161
              · have h := it_f h c73
                refine lv_iconst (v := 0) hx hb dX10_judge_156 (by decide) ?_
                refine lv_goto (tgt := 161) hx hb dX10_judge_157 (by decide) ?_
                exact u_iret X hret M h (rfl) rfl dX10_judge_161
            · have h := it_t h c72
              refine lv_aload_n hx hb dX10_judge_122 rfl (lv_at hl 3 rfl) ?_
              refine gf_X10_28 X M hS dX10_judge_123 ?_
              refine lv_iload_n hx hb dX10_judge_126 rfl (lv_at hl 5 rfl) ?_
              obtain ⟨x75, e74, h⟩ := lt_e h
              refine u_cVi X M hl.1 (kX3_isLogFull hS hV e74.symm) cw_X10_198 ⟨by decide, by decide⟩ (rc_X3 X M hS) rfl rfl (Nat.le_of_ble_eq_true rfl) ⟨Nat.zero_le _, Nat.zero_le _⟩ dX10_judge_127 (fun H locs M n76 => ?_)
              refine lv_if_eq (tgt := 152) hx hb dX10_judge_130 (by decide) (fun c77 => ?_) (fun c77 => ?_)
              · have h := it_t h c77
                refine lv_iload_n hx hb dX10_judge_152 rfl (lv_at hl 2 rfl) ?_
                refine lv_if_eq (tgt := 160) hx hb dX10_judge_153 (by decide) (fun c78 => ?_) (fun c78 => ?_)
                · have h := it_t h c78
                  refine lv_iconst (v := 1) hx hb dX10_judge_160 (by decide) ?_
                  exact u_iret X hret M h (rfl) rfl dX10_judge_161
                · have h := it_f h c78
                  refine lv_iconst (v := 0) hx hb dX10_judge_156 (by decide) ?_
                  refine lv_goto (tgt := 161) hx hb dX10_judge_157 (by decide) ?_
                  exact u_iret X hret M h (rfl) rfl dX10_judge_161
              · have h := it_f h c77
                refine lv_aload_n hx hb dX10_judge_133 rfl (lv_at hl 3 rfl) ?_
                refine gf_X10_37 X M hS dX10_judge_134 ?_
                refine lv_iconst (v := 2) hx hb dX10_judge_137 (by decide) ?_
                obtain ⟨x80, e79, h⟩ := lt_e h
                refine u_cVi X M hl.1 (kX6_get (uRw38 hS) (congrFun hV 39) e79.symm) cw_X10_101 ⟨by decide, by decide⟩ (uR_recv X M (uRw38 hS)) rfl rfl (Nat.le_of_ble_eq_true rfl) ⟨Nat.zero_le _, Nat.zero_le _⟩ dX10_judge_138 (fun H locs M n81 => ?_)
                refine lv_if_ne (tgt := 149) hx hb dX10_judge_141 (by decide) (fun c82 => ?_) (fun c82 => ?_)
                · have h := it_f h c82
                  refine lv_bipush (v := 7) hx hb dX10_judge_149 (by decide) ?_
                  exact u_iret X hret M h (rfl) rfl dX10_judge_151
                · have h := it_t h c82
                  refine lv_bipush (v := 6) hx hb dX10_judge_144 (by decide) ?_
                  refine lv_goto (tgt := 151) hx hb dX10_judge_146 (by decide) ?_
                  exact u_iret X hret M h (rfl) rfl dX10_judge_151
          · have h := it_f h c71
            refine lv_iconst (v := 5) hx hb dX10_judge_116 (by decide) ?_
            exact u_iret X hret M h (rfl) rfl dX10_judge_117
        · have h := it_f h c61
          refine lv_iconst (v := 0) hx hb dX10_judge_73 (by decide) ?_
          refine lv_goto (tgt := 85) hx hb dX10_judge_74 (by decide) ?_
          refine lv_istore (lv' := [(5, .int 0), (4, .int x12), (3, .int x2), (0, .ref (ga G t 0)), (1, .int a1), (2, .int a2)]) hx hb dX10_judge_85 hl (by decide) rfl (fun ls hl => ?_)
          refine lv_aload_n hx hb dX10_judge_87 rfl (lv_at hl 3 rfl) ?_
          refine gf_X10_12 X M hS dX10_judge_88 ?_
          refine gf_X10_166 X M hS dX10_judge_91 ?_
          refine lv_iload_n hx hb dX10_judge_94 rfl (lv_at hl 4 rfl) ?_
          obtain ⟨x84, e83, h⟩ := lt_e h
          refine u_cVi X M hl.1 (kX6_get (uRw4 hS) (congrFun hV 5) e83.symm) cw_X10_101 ⟨by decide, by decide⟩ (uR_recv X M (uRw4 hS)) rfl rfl (Nat.le_of_ble_eq_true rfl) ⟨Nat.zero_le _, Nat.zero_le _⟩ dX10_judge_95 (fun H locs M n85 => ?_)
          refine lv_aload_n hx hb dX10_judge_98 rfl (lv_at hl 3 rfl) ?_
          refine gf_X10_28 X M hS dX10_judge_99 ?_
          refine gf_X10_195 X M hS dX10_judge_102 ?_
          refine lv_iload_n hx hb dX10_judge_105 rfl (lv_at hl 5 rfl) ?_
          obtain ⟨x87, e86, h⟩ := lt_e h
          refine u_cVi X M hl.1 (kX6_get (uRw22 hS) (congrFun hV 23) e86.symm) cw_X10_101 ⟨by decide, by decide⟩ (uR_recv X M (uRw22 hS)) rfl rfl (Nat.le_of_ble_eq_true rfl) ⟨Nat.zero_le _, Nat.zero_le _⟩ dX10_judge_106 (fun H locs M n88 => ?_)
          refine lv_isub hx hb dX10_judge_109 ?_
          refine lv_iload hx hb dX10_judge_110 (lv_at hl 0 rfl) ?_
          refine lv_ineg hx hb dX10_judge_112 ?_
          refine lv_icmp_ge (tgt := 118) hx hb dX10_judge_113 (by decide) (fun c89 => ?_) (fun c89 => ?_)
          · have h := it_t h c89
            refine lv_iload_n hx hb dX10_judge_118 rfl (lv_at hl 2 rfl) ?_
            refine lv_if_ne (tgt := 152) hx hb dX10_judge_119 (by decide) (fun c90 => ?_) (fun c90 => ?_)
            · have h := it_f h c90
              refine lv_iload_n hx hb dX10_judge_152 rfl (lv_at hl 2 rfl) ?_
              refine lv_if_eq (tgt := 160) hx hb dX10_judge_153 (by decide) (fun c91 => ?_) (fun c91 => ?_)
              · have h := it_t h c91
                refine lv_iconst (v := 1) hx hb dX10_judge_160 (by decide) ?_
                exact u_iret X hret M h (rfl) rfl dX10_judge_161
              · have h := it_f h c91
                refine lv_iconst (v := 0) hx hb dX10_judge_156 (by decide) ?_
                refine lv_goto (tgt := 161) hx hb dX10_judge_157 (by decide) ?_
                exact u_iret X hret M h (rfl) rfl dX10_judge_161
            · have h := it_t h c90
              refine lv_aload_n hx hb dX10_judge_122 rfl (lv_at hl 3 rfl) ?_
              refine gf_X10_28 X M hS dX10_judge_123 ?_
              refine lv_iload_n hx hb dX10_judge_126 rfl (lv_at hl 5 rfl) ?_
              obtain ⟨x93, e92, h⟩ := lt_e h
              refine u_cVi X M hl.1 (kX3_isLogFull hS hV e92.symm) cw_X10_198 ⟨by decide, by decide⟩ (rc_X3 X M hS) rfl rfl (Nat.le_of_ble_eq_true rfl) ⟨Nat.zero_le _, Nat.zero_le _⟩ dX10_judge_127 (fun H locs M n94 => ?_)
              refine lv_if_eq (tgt := 152) hx hb dX10_judge_130 (by decide) (fun c95 => ?_) (fun c95 => ?_)
              · have h := it_t h c95
                refine lv_iload_n hx hb dX10_judge_152 rfl (lv_at hl 2 rfl) ?_
                refine lv_if_eq (tgt := 160) hx hb dX10_judge_153 (by decide) (fun c96 => ?_) (fun c96 => ?_)
                · have h := it_t h c96
                  refine lv_iconst (v := 1) hx hb dX10_judge_160 (by decide) ?_
                  exact u_iret X hret M h (rfl) rfl dX10_judge_161
                · have h := it_f h c96
                  refine lv_iconst (v := 0) hx hb dX10_judge_156 (by decide) ?_
                  refine lv_goto (tgt := 161) hx hb dX10_judge_157 (by decide) ?_
                  exact u_iret X hret M h (rfl) rfl dX10_judge_161
              · have h := it_f h c95
                refine lv_aload_n hx hb dX10_judge_133 rfl (lv_at hl 3 rfl) ?_
                refine gf_X10_37 X M hS dX10_judge_134 ?_
                refine lv_iconst (v := 2) hx hb dX10_judge_137 (by decide) ?_
                obtain ⟨x98, e97, h⟩ := lt_e h
                refine u_cVi X M hl.1 (kX6_get (uRw38 hS) (congrFun hV 39) e97.symm) cw_X10_101 ⟨by decide, by decide⟩ (uR_recv X M (uRw38 hS)) rfl rfl (Nat.le_of_ble_eq_true rfl) ⟨Nat.zero_le _, Nat.zero_le _⟩ dX10_judge_138 (fun H locs M n99 => ?_)
                refine lv_if_ne (tgt := 149) hx hb dX10_judge_141 (by decide) (fun c100 => ?_) (fun c100 => ?_)
                · have h := it_f h c100
                  refine lv_bipush (v := 7) hx hb dX10_judge_149 (by decide) ?_
                  exact u_iret X hret M h (rfl) rfl dX10_judge_151
                · have h := it_t h c100
                  refine lv_bipush (v := 6) hx hb dX10_judge_144 (by decide) ?_
                  refine lv_goto (tgt := 151) hx hb dX10_judge_146 (by decide) ?_
                  exact u_iret X hret M h (rfl) rfl dX10_judge_151
          · have h := it_f h c89
            refine lv_iconst (v := 5) hx hb dX10_judge_116 (by decide) ?_
            exact u_iret X hret M h (rfl) rfl dX10_judge_117
      · have h := it_f h c60
        refine lv_iconst (v := 4) hx hb dX10_judge_67 (by decide) ?_
        exact u_iret X hret M h (rfl) rfl dX10_judge_68
  · have h := it_f h c10
    refine lv_iconst (v := 3) hx hb dX10_judge_28 (by decide) ?_
    exact u_iret X hret M h (rfl) rfl dX10_judge_29
def fX10_takeRide (S : (Nat → Nat → Int32)) (a1 : Int32) (a2 : Int32) : Option (Nat → Nat → Int32) :=
  lt_ (fget 4 (S 23) a2) fun x2 =>
  lt_ (va_up S 5 (finc 10 (S 5) a1 (-x2))) fun S5 =>
  lt_ (va_up S5 7 (finc 10 (S5 7) a1 1)) fun S8 =>
  lt_ (S8 0 4) fun x10 =>
  lt_ (va_up S8 9 (fput 10 (S8 9) a1 x10)) fun S13 =>
  lt_ (fget 10 (S13 3) a1) fun x16 =>
  lt_ (fX3_isUp S13 a2) fun x19 =>
  if x19 = 0 then
    lt_ (fget 10 (S13 7) a1) fun x23 =>
    bd (fX3_writeLog S13 a2 x16 x23 x2) fun S26 =>
    some S26
  else
    lt_ (fget 10 (S13 7) a1) fun x29 =>
    bd (fX10_settle S13 x16 x29 x2) fun S32 =>
    some S32
set_option maxHeartbeats 4000000 in
set_option maxRecDepth 20000 in
theorem kX10_takeRide {l : Launch} {G : UG} {V : uV} {t : Nat} (hS : uSt G t) {S S' : (Nat → Nat → Int32)} {a1 : Int32} {a2 : Int32} (h : fX10_takeRide S a1 a2 = some S') : uMv l G yX10_takeRide cX10_takeRide 5 (uR 3 72) [.ref (ga G t 0), .int a1, .int a2] (va_up V t S) (va_up V t S') := by
  refine uMv_of rfl (Nat.le_of_ble_eq_true rfl) (fun p e s m args below meth c ls X hret hl M => ?_)
  have hl : lv_has ls 5 [(0, .ref (ga G t 0)), (1, .int a1), (2, .int a2)] := hl
  have hx := X.hx
  have hb := X.hb
  unfold fX10_takeRide at h
  refine lv_aload_n hx hb dX10_takeRide_0 rfl (lv_at hl 0 rfl) ?_
  refine gf_X10_28 X M hS dX10_takeRide_1 ?_
  refine gf_X10_195 X M hS dX10_takeRide_4 ?_
  refine lv_iload_n hx hb dX10_takeRide_7 rfl (lv_at hl 2 rfl) ?_
  obtain ⟨x2, e1, h⟩ := lt_e h
  refine u_cVi X M hl.1 (kX6_get (uRw22 hS) (congrFun (va_up_s V t _) 23) e1.symm) cw_X10_101 ⟨by decide, by decide⟩ (uR_recv X M (uRw22 hS)) rfl rfl (Nat.le_of_ble_eq_true rfl) ⟨Nat.zero_le _, Nat.zero_le _⟩ dX10_takeRide_8 (fun H locs M n3 => ?_)
  refine lv_istore_n (lv' := [(3, .int x2), (0, .ref (ga G t 0)), (1, .int a1), (2, .int a2)]) hx hb dX10_takeRide_11 rfl hl (by decide) rfl (fun ls hl => ?_)
  refine lv_aload_n hx hb dX10_takeRide_12 rfl (lv_at hl 1 rfl) ?_
  refine gf_X10_12 X M hS dX10_takeRide_13 ?_
  refine gf_X10_166 X M hS dX10_takeRide_16 ?_
  refine lv_iload_n hx hb dX10_takeRide_19 rfl (lv_at hl 2 rfl) ?_
  refine lv_iload_n hx hb dX10_takeRide_20 rfl (lv_at hl 0 rfl) ?_
  refine lv_ineg hx hb dX10_takeRide_21 ?_
  obtain ⟨S5, e4, h⟩ := lt_e h
  refine u_cVv X M hl.1 (kX6_increaseS (uRw4 hS) e4) cw_X10_175 ⟨by decide, by decide⟩ (uR_recv X M (uRw4 hS)) rfl rfl (Nat.le_of_ble_eq_true rfl) ⟨Nat.zero_le _, Nat.zero_le _⟩ dX10_takeRide_22 (fun H locs M => ?_)
  refine lv_aload_n hx hb dX10_takeRide_25 rfl (lv_at hl 1 rfl) ?_
  refine gf_X10_12 X M hS dX10_takeRide_26 ?_
  refine gf_X10_201 X M hS dX10_takeRide_29 ?_
  refine lv_iload_n hx hb dX10_takeRide_32 rfl (lv_at hl 2 rfl) ?_
  refine lv_iconst (v := 1) hx hb dX10_takeRide_33 (by decide) ?_
  obtain ⟨S8, e7, h⟩ := lt_e h
  refine u_cVv X M hl.1 (kX6_increaseS (uRw6 hS) e7) cw_X10_175 ⟨by decide, by decide⟩ (uR_recv X M (uRw6 hS)) rfl rfl (Nat.le_of_ble_eq_true rfl) ⟨Nat.zero_le _, Nat.zero_le _⟩ dX10_takeRide_34 (fun H locs M => ?_)
  refine lv_aload_n hx hb dX10_takeRide_37 rfl (lv_at hl 1 rfl) ?_
  refine gf_X10_12 X M hS dX10_takeRide_38 ?_
  refine gf_X10_192 X M hS dX10_takeRide_41 ?_
  refine lv_iload_n hx hb dX10_takeRide_44 rfl (lv_at hl 2 rfl) ?_
  refine lv_aload_n hx hb dX10_takeRide_45 rfl (lv_at hl 1 rfl) ?_
  obtain ⟨x10, e11, h⟩ := lt_e h
  refine gf_X10_51 X M hS (va_up_s V t _) e11 dX10_takeRide_46 ?_
  obtain ⟨S13, e12, h⟩ := lt_e h
  refine u_cVv X M hl.1 (kX6_putS (uRw8 hS) e12) cw_X10_47 ⟨by decide, by decide⟩ (uR_recv X M (uRw8 hS)) rfl rfl (Nat.le_of_ble_eq_true rfl) ⟨Nat.zero_le _, Nat.zero_le _⟩ dX10_takeRide_49 (fun H locs M => ?_)
  refine lv_aload_n hx hb dX10_takeRide_52 rfl (lv_at hl 1 rfl) ?_
  refine gf_X10_12 X M hS dX10_takeRide_53 ?_
  refine gf_X10_169 X M hS dX10_takeRide_56 ?_
  refine lv_iload_n hx hb dX10_takeRide_59 rfl (lv_at hl 2 rfl) ?_
  obtain ⟨x16, e15, h⟩ := lt_e h
  refine u_cVi X M hl.1 (kX6_get (uRw2 hS) (congrFun (va_up_s V t _) 3) e15.symm) cw_X10_101 ⟨by decide, by decide⟩ (uR_recv X M (uRw2 hS)) rfl rfl (Nat.le_of_ble_eq_true rfl) ⟨Nat.zero_le _, Nat.zero_le _⟩ dX10_takeRide_60 (fun H locs M n17 => ?_)
  refine lv_istore (lv' := [(4, .int x16), (3, .int x2), (0, .ref (ga G t 0)), (1, .int a1), (2, .int a2)]) hx hb dX10_takeRide_63 hl (by decide) rfl (fun ls hl => ?_)
  refine lv_aload_n hx hb dX10_takeRide_65 rfl (lv_at hl 2 rfl) ?_
  refine gf_X10_28 X M hS dX10_takeRide_66 ?_
  refine lv_iload_n hx hb dX10_takeRide_69 rfl (lv_at hl 4 rfl) ?_
  obtain ⟨x19, e18, h⟩ := lt_e h
  refine u_cVi X M hl.1 (kX3_isUp hS (va_up_s V t _) e18.symm) cw_X10_120 ⟨by decide, by decide⟩ (rc_X3 X M hS) rfl rfl (Nat.le_of_ble_eq_true rfl) ⟨Nat.zero_le _, Nat.zero_le _⟩ dX10_takeRide_70 (fun H locs M n20 => ?_)
  refine lv_if_eq (tgt := 97) hx hb dX10_takeRide_73 (by decide) (fun c21 => ?_) (fun c21 => ?_)
  · have h := it_t h c21
    refine lv_aload_n hx hb dX10_takeRide_97 rfl (lv_at hl 2 rfl) ?_
    refine gf_X10_28 X M hS dX10_takeRide_98 ?_
    refine lv_iload_n hx hb dX10_takeRide_101 rfl (lv_at hl 4 rfl) ?_
    refine lv_iload hx hb dX10_takeRide_102 (lv_at hl 0 rfl) ?_
    refine lv_aload_n hx hb dX10_takeRide_104 rfl (lv_at hl 2 rfl) ?_
    refine gf_X10_12 X M hS dX10_takeRide_105 ?_
    refine gf_X10_201 X M hS dX10_takeRide_108 ?_
    refine lv_iload_n hx hb dX10_takeRide_111 rfl (lv_at hl 3 rfl) ?_
    obtain ⟨x23, e22, h⟩ := lt_e h
    refine u_cVi X M hl.1 (kX6_get (uRw6 hS) (congrFun (va_up_s V t _) 7) e22.symm) cw_X10_101 ⟨by decide, by decide⟩ (uR_recv X M (uRw6 hS)) rfl rfl (Nat.le_of_ble_eq_true rfl) ⟨Nat.zero_le _, Nat.zero_le _⟩ dX10_takeRide_112 (fun H locs M n24 => ?_)
    refine lv_iload_n hx hb dX10_takeRide_115 rfl (lv_at hl 1 rfl) ?_
    obtain ⟨S26, e25, h⟩ := bd_e h
    refine u_cVv X M hl.1 (kX3_writeLog hS e25) cw_X10_204 ⟨by decide, by decide⟩ (rc_X3 X M hS) rfl rfl (Nat.le_of_ble_eq_true rfl) ⟨Nat.zero_le _, Nat.zero_le _⟩ dX10_takeRide_116 (fun H locs M => ?_)
    exact u_vret X hret M (congrArg (va_up V t) (Option.some.inj h)) dX10_takeRide_119
  · have h := it_f h c21
    refine lv_aload_n hx hb dX10_takeRide_76 rfl (lv_at hl 2 rfl) ?_
    refine lv_iload hx hb dX10_takeRide_77 (lv_at hl 0 rfl) ?_
    refine lv_aload_n hx hb dX10_takeRide_79 rfl (lv_at hl 2 rfl) ?_
    refine gf_X10_12 X M hS dX10_takeRide_80 ?_
    refine gf_X10_201 X M hS dX10_takeRide_83 ?_
    refine lv_iload_n hx hb dX10_takeRide_86 rfl (lv_at hl 3 rfl) ?_
    obtain ⟨x29, e28, h⟩ := lt_e h
    refine u_cVi X M hl.1 (kX6_get (uRw6 hS) (congrFun (va_up_s V t _) 7) e28.symm) cw_X10_101 ⟨by decide, by decide⟩ (uR_recv X M (uRw6 hS)) rfl rfl (Nat.le_of_ble_eq_true rfl) ⟨Nat.zero_le _, Nat.zero_le _⟩ dX10_takeRide_87 (fun H locs M n30 => ?_)
    refine lv_iload_n hx hb dX10_takeRide_90 rfl (lv_at hl 1 rfl) ?_
    obtain ⟨S32, e31, h⟩ := bd_e h
    refine u_cVv X M hl.1 (kX10_settle hS e31) cw_X10_148 ⟨by decide, by decide⟩ (rc_X10 X M hS) rfl rfl (Nat.le_of_ble_eq_true rfl) ⟨Nat.zero_le _, Nat.zero_le _⟩ dX10_takeRide_91 (fun H locs M => ?_)
    refine lv_goto (tgt := 119) hx hb dX10_takeRide_94 (by decide) ?_
    exact u_vret X hret M (congrArg (va_up V t) (Option.some.inj h)) dX10_takeRide_119
def fX10_showCard (S : (Nat → Nat → Int32)) (a1 : Int32) (a2 : Int32) : Option (Int32 × (Nat → Nat → Int32)) :=
  lt_ (fX0_has S a1) fun x2 =>
  if x2 = 0 then
    some ((-1), S)
  else
    lt_ (fX3_has S a2) fun x6 =>
    if x6 = 0 then
      some ((-1), S)
    else
      lt_ (fX3_isOpen S a2) fun x10 =>
      if x10 = 0 then
        lt_ (fX3_isUp S a2) fun x14 =>
        if x14 = 0 then
          lt_ (fX10_judge S a1 a2) fun x18 =>
          lt_ (fX10_letsThrough  x18) fun x21 =>
          if x21 = 0 then
            lt_ (S 0 8) fun x32 =>
            lt_ (va_up S 0 (upd (S 0) 8 (x32 + 1))) fun S34 =>
            some (x18, S34)
          else
            if x18 = 7 then
              lt_ (S 0 9) fun x28 =>
              lt_ (va_up S 0 (upd (S 0) 9 (x28 + 1))) fun S30 =>
              some (x18, S30)
            else
              bd (fX10_takeRide S a1 a2) fun S26 =>
              some (x18, S26)
        else
          lt_ (fget 10 (S 3) a1) fun x37 =>
          bd2 (fX5_takeWaiting S x37) fun x40 S41 =>
          lt_ (va_up S41 5 (finc 10 (S41 5) a1 x40)) fun S44 =>
          lt_ (fX10_judge S44 a1 a2) fun x47 =>
          lt_ (fX10_letsThrough  x47) fun x50 =>
          if x50 = 0 then
            lt_ (S44 0 8) fun x61 =>
            lt_ (va_up S44 0 (upd (S44 0) 8 (x61 + 1))) fun S63 =>
            some (x47, S63)
          else
            if x47 = 7 then
              lt_ (S44 0 9) fun x57 =>
              lt_ (va_up S44 0 (upd (S44 0) 9 (x57 + 1))) fun S59 =>
              some (x47, S59)
            else
              bd (fX10_takeRide S44 a1 a2) fun S55 =>
              some (x47, S55)
      else
        lt_ (S 0 9) fun x65 =>
        lt_ (va_up S 0 (upd (S 0) 9 (x65 + 1))) fun S67 =>
        some (2, S67)
set_option maxHeartbeats 4000000 in
set_option maxRecDepth 20000 in
theorem kX10_showCard {l : Launch} {G : UG} {V : uV} {t : Nat} (hS : uSt G t) {S S' : (Nat → Nat → Int32)} {a1 : Int32} {a2 : Int32} {r : Int32} (h : fX10_showCard S a1 a2 = some (r, S')) : uMi l G yX10_showCard cX10_showCard 4 .int (uR 4 96) [.ref (ga G t 0), .int a1, .int a2] (va_up V t S) r (va_up V t S') := by
  refine uMi_of rfl (Nat.le_of_ble_eq_true rfl) (fun p e s m args below meth c ls X hret hl M => ?_)
  have hl : lv_has ls 4 [(0, .ref (ga G t 0)), (1, .int a1), (2, .int a2)] := hl
  have hx := X.hx
  have hb := X.hb
  unfold fX10_showCard at h
  refine lv_aload_n hx hb dX10_showCard_0 rfl (lv_at hl 0 rfl) ?_
  refine gf_X10_12 X M hS dX10_showCard_1 ?_
  refine lv_iload_n hx hb dX10_showCard_4 rfl (lv_at hl 1 rfl) ?_
  obtain ⟨x2, e1, h⟩ := lt_e h
  refine u_cVi X M hl.1 (kX0_has hS (va_up_s V t _) e1.symm) cw_X10_159 ⟨by decide, by decide⟩ (rc_X0 X M hS) rfl rfl (Nat.le_of_ble_eq_true rfl) ⟨Nat.zero_le _, Nat.zero_le _⟩ dX10_showCard_5 (fun H locs M n3 => ?_)
  refine lv_if_eq (tgt := 22) hx hb dX10_showCard_8 (by decide) (fun c4 => ?_) (fun c4 => ?_)
  · have h := it_t h c4
    refine lv_iconst (v := (-1)) hx hb dX10_showCard_22 (by decide) ?_
    exact u_iret X hret M (rt2 h).1 (congrArg (va_up V t) ((rt2 h).2)) rfl dX10_showCard_23
  · have h := it_f h c4
    refine lv_aload_n hx hb dX10_showCard_11 rfl (lv_at hl 0 rfl) ?_
    refine gf_X10_28 X M hS dX10_showCard_12 ?_
    refine lv_iload_n hx hb dX10_showCard_15 rfl (lv_at hl 2 rfl) ?_
    obtain ⟨x6, e5, h⟩ := lt_e h
    refine u_cVi X M hl.1 (kX3_has hS (va_up_s V t _) e5.symm) cw_X10_162 ⟨by decide, by decide⟩ (rc_X3 X M hS) rfl rfl (Nat.le_of_ble_eq_true rfl) ⟨Nat.zero_le _, Nat.zero_le _⟩ dX10_showCard_16 (fun H locs M n7 => ?_)
    refine lv_if_ne (tgt := 24) hx hb dX10_showCard_19 (by decide) (fun c8 => ?_) (fun c8 => ?_)
    · have h := it_f h c8
      refine lv_aload_n hx hb dX10_showCard_24 rfl (lv_at hl 0 rfl) ?_
      refine gf_X10_28 X M hS dX10_showCard_25 ?_
      refine lv_iload_n hx hb dX10_showCard_28 rfl (lv_at hl 2 rfl) ?_
      obtain ⟨x10, e9, h⟩ := lt_e h
      refine u_cVi X M hl.1 (kX3_isOpen hS (va_up_s V t _) e9.symm) cw_X10_163 ⟨by decide, by decide⟩ (rc_X3 X M hS) rfl rfl (Nat.le_of_ble_eq_true rfl) ⟨Nat.zero_le _, Nat.zero_le _⟩ dX10_showCard_29 (fun H locs M n11 => ?_)
      refine lv_if_eq (tgt := 47) hx hb dX10_showCard_32 (by decide) (fun c12 => ?_) (fun c12 => ?_)
      · have h := it_t h c12
        refine lv_aload_n hx hb dX10_showCard_47 rfl (lv_at hl 0 rfl) ?_
        refine gf_X10_28 X M hS dX10_showCard_48 ?_
        refine lv_iload_n hx hb dX10_showCard_51 rfl (lv_at hl 2 rfl) ?_
        obtain ⟨x14, e13, h⟩ := lt_e h
        refine u_cVi X M hl.1 (kX3_isUp hS (va_up_s V t _) e13.symm) cw_X10_120 ⟨by decide, by decide⟩ (rc_X3 X M hS) rfl rfl (Nat.le_of_ble_eq_true rfl) ⟨Nat.zero_le _, Nat.zero_le _⟩ dX10_showCard_52 (fun H locs M n15 => ?_)
        refine lv_if_eq (tgt := 87) hx hb dX10_showCard_55 (by decide) (fun c16 => ?_) (fun c16 => ?_)
        · have h := it_t h c16
          refine lv_aload_n hx hb dX10_showCard_87 rfl (lv_at hl 0 rfl) ?_
          refine lv_iload_n hx hb dX10_showCard_88 rfl (lv_at hl 1 rfl) ?_
          refine lv_iload_n hx hb dX10_showCard_89 rfl (lv_at hl 2 rfl) ?_
          obtain ⟨x18, e17, h⟩ := lt_e h
          refine u_cVi X M hl.1 (kX10_judge hS (va_up_s V t _) e17.symm) cw_X10_178 ⟨by decide, by decide⟩ (rc_X10 X M hS) rfl rfl (Nat.le_of_ble_eq_true rfl) ⟨Nat.zero_le _, Nat.zero_le _⟩ dX10_showCard_90 (fun H locs M n19 => ?_)
          refine lv_istore_n (lv' := [(3, .int x18), (0, .ref (ga G t 0)), (1, .int a1), (2, .int a2)]) hx hb dX10_showCard_93 rfl hl (by decide) rfl (fun ls hl => ?_)
          refine lv_iload_n hx hb dX10_showCard_94 rfl (lv_at hl 0 rfl) ?_
          obtain ⟨x21, e20, h⟩ := lt_e h
          refine u_cSi X M hl.1 (kX10_letsThrough  e20.symm) cw_X10_182 ⟨by decide, by decide⟩ rfl rfl (Nat.le_of_ble_eq_true rfl) ⟨Nat.zero_le _, Nat.zero_le _⟩ dX10_showCard_95 (fun H locs M n22 => ?_)
          refine lv_if_ne (tgt := 114) hx hb dX10_showCard_98 (by decide) (fun c23 => ?_) (fun c23 => ?_)
          · have h := it_f h c23
            refine lv_iload_n hx hb dX10_showCard_114 rfl (lv_at hl 0 rfl) ?_
            refine lv_bipush (v := 7) hx hb dX10_showCard_115 (by decide) ?_
            refine lv_icmp_ne (tgt := 133) hx hb dX10_showCard_117 (by decide) (fun c24 => ?_) (fun c24 => ?_)
            · have h := it_f h c24
              refine lv_aload_n hx hb dX10_showCard_133 rfl (lv_at hl 1 rfl) ?_
              refine lv_iload_n hx hb dX10_showCard_134 rfl (lv_at hl 2 rfl) ?_
              refine lv_iload_n hx hb dX10_showCard_135 rfl (lv_at hl 3 rfl) ?_
              obtain ⟨S26, e25, h⟩ := bd_e h
              refine u_cVv X M hl.1 (kX10_takeRide hS e25) cw_X10_185 ⟨by decide, by decide⟩ (rc_X10 X M hS) rfl rfl (Nat.le_of_ble_eq_true rfl) ⟨Nat.zero_le _, Nat.zero_le _⟩ dX10_showCard_136 (fun H locs M => ?_)
              refine lv_iload_n hx hb dX10_showCard_139 rfl (lv_at hl 0 rfl) ?_
              exact u_iret X hret M (rt2 h).1 (congrArg (va_up V t) ((rt2 h).2)) rfl dX10_showCard_140
            · have h := it_t h c24
              refine lv_aload_n hx hb dX10_showCard_120 rfl (lv_at hl 1 rfl) ?_
              refine lv_dup hx hb dX10_showCard_121 rfl ?_
              obtain ⟨x28, e29, h⟩ := lt_e h
              refine gf_X10_67 X M hS (va_up_s V t _) e29 dX10_showCard_122 ?_
              refine lv_iconst (v := 1) hx hb dX10_showCard_125 (by decide) ?_
              refine lv_iadd hx hb dX10_showCard_126 ?_
              obtain ⟨S30, e31, h⟩ := lt_e h
              refine pf_X10_67 X M hS e31 dX10_showCard_127 (fun H locs M => ?_)
              refine lv_goto (tgt := 139) hx hb dX10_showCard_130 (by decide) ?_
              refine lv_iload_n hx hb dX10_showCard_139 rfl (lv_at hl 0 rfl) ?_
              exact u_iret X hret M (rt2 h).1 (congrArg (va_up V t) ((rt2 h).2)) rfl dX10_showCard_140
          · have h := it_t h c23
            refine lv_aload_n hx hb dX10_showCard_101 rfl (lv_at hl 1 rfl) ?_
            refine lv_dup hx hb dX10_showCard_102 rfl ?_
            obtain ⟨x32, e33, h⟩ := lt_e h
            refine gf_X10_64 X M hS (va_up_s V t _) e33 dX10_showCard_103 ?_
            refine lv_iconst (v := 1) hx hb dX10_showCard_106 (by decide) ?_
            refine lv_iadd hx hb dX10_showCard_107 ?_
            obtain ⟨S34, e35, h⟩ := lt_e h
            refine pf_X10_64 X M hS e35 dX10_showCard_108 (fun H locs M => ?_)
            refine lv_goto (tgt := 139) hx hb dX10_showCard_111 (by decide) ?_
            refine lv_iload_n hx hb dX10_showCard_139 rfl (lv_at hl 0 rfl) ?_
            exact u_iret X hret M (rt2 h).1 (congrArg (va_up V t) ((rt2 h).2)) rfl dX10_showCard_140
        · have h := it_f h c16
          refine lv_aload_n hx hb dX10_showCard_58 rfl (lv_at hl 0 rfl) ?_
          refine gf_X10_12 X M hS dX10_showCard_59 ?_
          refine gf_X10_166 X M hS dX10_showCard_62 ?_
          refine lv_iload_n hx hb dX10_showCard_65 rfl (lv_at hl 1 rfl) ?_
          refine lv_aload_n hx hb dX10_showCard_66 rfl (lv_at hl 0 rfl) ?_
          refine gf_X10_21 X M hS dX10_showCard_67 ?_
          refine lv_aload_n hx hb dX10_showCard_70 rfl (lv_at hl 0 rfl) ?_
          refine gf_X10_12 X M hS dX10_showCard_71 ?_
          refine gf_X10_169 X M hS dX10_showCard_74 ?_
          refine lv_iload_n hx hb dX10_showCard_77 rfl (lv_at hl 1 rfl) ?_
          obtain ⟨x37, e36, h⟩ := lt_e h
          refine u_cVi X M hl.1 (kX6_get (uRw2 hS) (congrFun (va_up_s V t _) 3) e36.symm) cw_X10_101 ⟨by decide, by decide⟩ (uR_recv X M (uRw2 hS)) rfl rfl (Nat.le_of_ble_eq_true rfl) ⟨Nat.zero_le _, Nat.zero_le _⟩ dX10_showCard_78 (fun H locs M n38 => ?_)
          obtain ⟨x40, S41, e39, h⟩ := bd2_e h
          refine u_cVi X M hl.1 (kX5_takeWaiting hS e39) cw_X10_172 ⟨by decide, by decide⟩ (rc_X5 X M hS) rfl rfl (Nat.le_of_ble_eq_true rfl) ⟨Nat.zero_le _, Nat.zero_le _⟩ dX10_showCard_81 (fun H locs M n42 => ?_)
          obtain ⟨S44, e43, h⟩ := lt_e h
          refine u_cVv X M hl.1 (kX6_increaseS (uRw4 hS) e43) cw_X10_175 ⟨by decide, by decide⟩ (uR_recv X M (uRw4 hS)) rfl rfl (Nat.le_of_ble_eq_true rfl) ⟨Nat.zero_le _, Nat.zero_le _⟩ dX10_showCard_84 (fun H locs M => ?_)
          refine lv_aload_n hx hb dX10_showCard_87 rfl (lv_at hl 0 rfl) ?_
          refine lv_iload_n hx hb dX10_showCard_88 rfl (lv_at hl 1 rfl) ?_
          refine lv_iload_n hx hb dX10_showCard_89 rfl (lv_at hl 2 rfl) ?_
          obtain ⟨x47, e46, h⟩ := lt_e h
          refine u_cVi X M hl.1 (kX10_judge hS (va_up_s V t _) e46.symm) cw_X10_178 ⟨by decide, by decide⟩ (rc_X10 X M hS) rfl rfl (Nat.le_of_ble_eq_true rfl) ⟨Nat.zero_le _, Nat.zero_le _⟩ dX10_showCard_90 (fun H locs M n48 => ?_)
          refine lv_istore_n (lv' := [(3, .int x47), (0, .ref (ga G t 0)), (1, .int a1), (2, .int a2)]) hx hb dX10_showCard_93 rfl hl (by decide) rfl (fun ls hl => ?_)
          refine lv_iload_n hx hb dX10_showCard_94 rfl (lv_at hl 0 rfl) ?_
          obtain ⟨x50, e49, h⟩ := lt_e h
          refine u_cSi X M hl.1 (kX10_letsThrough  e49.symm) cw_X10_182 ⟨by decide, by decide⟩ rfl rfl (Nat.le_of_ble_eq_true rfl) ⟨Nat.zero_le _, Nat.zero_le _⟩ dX10_showCard_95 (fun H locs M n51 => ?_)
          refine lv_if_ne (tgt := 114) hx hb dX10_showCard_98 (by decide) (fun c52 => ?_) (fun c52 => ?_)
          · have h := it_f h c52
            refine lv_iload_n hx hb dX10_showCard_114 rfl (lv_at hl 0 rfl) ?_
            refine lv_bipush (v := 7) hx hb dX10_showCard_115 (by decide) ?_
            refine lv_icmp_ne (tgt := 133) hx hb dX10_showCard_117 (by decide) (fun c53 => ?_) (fun c53 => ?_)
            · have h := it_f h c53
              refine lv_aload_n hx hb dX10_showCard_133 rfl (lv_at hl 1 rfl) ?_
              refine lv_iload_n hx hb dX10_showCard_134 rfl (lv_at hl 2 rfl) ?_
              refine lv_iload_n hx hb dX10_showCard_135 rfl (lv_at hl 3 rfl) ?_
              obtain ⟨S55, e54, h⟩ := bd_e h
              refine u_cVv X M hl.1 (kX10_takeRide hS e54) cw_X10_185 ⟨by decide, by decide⟩ (rc_X10 X M hS) rfl rfl (Nat.le_of_ble_eq_true rfl) ⟨Nat.zero_le _, Nat.zero_le _⟩ dX10_showCard_136 (fun H locs M => ?_)
              refine lv_iload_n hx hb dX10_showCard_139 rfl (lv_at hl 0 rfl) ?_
              exact u_iret X hret M (rt2 h).1 (congrArg (va_up V t) ((rt2 h).2)) rfl dX10_showCard_140
            · have h := it_t h c53
              refine lv_aload_n hx hb dX10_showCard_120 rfl (lv_at hl 1 rfl) ?_
              refine lv_dup hx hb dX10_showCard_121 rfl ?_
              obtain ⟨x57, e58, h⟩ := lt_e h
              refine gf_X10_67 X M hS (va_up_s V t _) e58 dX10_showCard_122 ?_
              refine lv_iconst (v := 1) hx hb dX10_showCard_125 (by decide) ?_
              refine lv_iadd hx hb dX10_showCard_126 ?_
              obtain ⟨S59, e60, h⟩ := lt_e h
              refine pf_X10_67 X M hS e60 dX10_showCard_127 (fun H locs M => ?_)
              refine lv_goto (tgt := 139) hx hb dX10_showCard_130 (by decide) ?_
              refine lv_iload_n hx hb dX10_showCard_139 rfl (lv_at hl 0 rfl) ?_
              exact u_iret X hret M (rt2 h).1 (congrArg (va_up V t) ((rt2 h).2)) rfl dX10_showCard_140
          · have h := it_t h c52
            refine lv_aload_n hx hb dX10_showCard_101 rfl (lv_at hl 1 rfl) ?_
            refine lv_dup hx hb dX10_showCard_102 rfl ?_
            obtain ⟨x61, e62, h⟩ := lt_e h
            refine gf_X10_64 X M hS (va_up_s V t _) e62 dX10_showCard_103 ?_
            refine lv_iconst (v := 1) hx hb dX10_showCard_106 (by decide) ?_
            refine lv_iadd hx hb dX10_showCard_107 ?_
            obtain ⟨S63, e64, h⟩ := lt_e h
            refine pf_X10_64 X M hS e64 dX10_showCard_108 (fun H locs M => ?_)
            refine lv_goto (tgt := 139) hx hb dX10_showCard_111 (by decide) ?_
            refine lv_iload_n hx hb dX10_showCard_139 rfl (lv_at hl 0 rfl) ?_
            exact u_iret X hret M (rt2 h).1 (congrArg (va_up V t) ((rt2 h).2)) rfl dX10_showCard_140
      · have h := it_f h c12
        refine lv_aload_n hx hb dX10_showCard_35 rfl (lv_at hl 0 rfl) ?_
        refine lv_dup hx hb dX10_showCard_36 rfl ?_
        obtain ⟨x65, e66, h⟩ := lt_e h
        refine gf_X10_67 X M hS (va_up_s V t _) e66 dX10_showCard_37 ?_
        refine lv_iconst (v := 1) hx hb dX10_showCard_40 (by decide) ?_
        refine lv_iadd hx hb dX10_showCard_41 ?_
        obtain ⟨S67, e68, h⟩ := lt_e h
        refine pf_X10_67 X M hS e68 dX10_showCard_42 (fun H locs M => ?_)
        refine lv_iconst (v := 2) hx hb dX10_showCard_45 (by decide) ?_
        exact u_iret X hret M (rt2 h).1 (congrArg (va_up V t) ((rt2 h).2)) rfl dX10_showCard_46
    · have h := it_t h c8
      refine lv_iconst (v := (-1)) hx hb dX10_showCard_22 (by decide) ?_
      exact u_iret X hret M (rt2 h).1 (congrArg (va_up V t) ((rt2 h).2)) rfl dX10_showCard_23
def fX10_tryIssue (S : (Nat → Nat → Int32)) (a1 : Int32) : Option (Int32 × (Nat → Nat → Int32)) :=
  if a1 < 0 then
    some (0, S)
  else
    if 99 < a1 then
      some (0, S)
    else
      lt_ (fX10_hasRoomForAccount S) fun x4 =>
      if x4 = 0 then
        some (0, S)
      else
        bd2 (fX10_makeAccount S a1) fun x8 S9 =>
        some (1, S9)
set_option maxHeartbeats 4000000 in
set_option maxRecDepth 20000 in
theorem kX10_tryIssue {l : Launch} {G : UG} {V : uV} {t : Nat} (hS : uSt G t) {S S' : (Nat → Nat → Int32)} {a1 : Int32} {r : Int32} (h : fX10_tryIssue S a1 = some (r, S')) : uMi l G yX10_tryIssue cX10_tryIssue 2 .boolean (uR 3 68) [.ref (ga G t 0), .int a1] (va_up V t S) r (va_up V t S') := by
  refine uMi_of rfl (Nat.le_of_ble_eq_true rfl) (fun p e s m args below meth c ls X hret hl M => ?_)
  have hl : lv_has ls 2 [(0, .ref (ga G t 0)), (1, .int a1)] := hl
  have hx := X.hx
  have hb := X.hb
  unfold fX10_tryIssue at h
  refine lv_iload_n hx hb dX10_tryIssue_0 rfl (lv_at hl 1 rfl) ?_
  refine lv_if_lt (tgt := 17) hx hb dX10_tryIssue_1 (by decide) (fun c1 => ?_) (fun c1 => ?_)
  · have h := it_t h c1
    refine lv_iconst (v := 0) hx hb dX10_tryIssue_17 (by decide) ?_
    exact u_iret X hret M (rt2 h).1 (congrArg (va_up V t) ((rt2 h).2)) rfl dX10_tryIssue_18
  · have h := it_f h c1
    refine lv_iload_n hx hb dX10_tryIssue_4 rfl (lv_at hl 1 rfl) ?_
    refine lv_bipush (v := 99) hx hb dX10_tryIssue_5 (by decide) ?_
    refine lv_icmp_gt (tgt := 17) hx hb dX10_tryIssue_7 (by decide) (fun c2 => ?_) (fun c2 => ?_)
    · have h := it_t h c2
      refine lv_iconst (v := 0) hx hb dX10_tryIssue_17 (by decide) ?_
      exact u_iret X hret M (rt2 h).1 (congrArg (va_up V t) ((rt2 h).2)) rfl dX10_tryIssue_18
    · have h := it_f h c2
      refine lv_aload_n hx hb dX10_tryIssue_10 rfl (lv_at hl 0 rfl) ?_
      obtain ⟨x4, e3, h⟩ := lt_e h
      refine u_cVi X M hl.1 (kX10_hasRoomForAccount hS (va_up_s V t _) e3.symm) cw_X10_208 ⟨by decide, by decide⟩ (rc_X10 X M hS) rfl rfl (Nat.le_of_ble_eq_true rfl) ⟨Nat.zero_le _, Nat.zero_le _⟩ dX10_tryIssue_11 (fun H locs M n5 => ?_)
      refine lv_if_ne (tgt := 19) hx hb dX10_tryIssue_14 (by decide) (fun c6 => ?_) (fun c6 => ?_)
      · have h := it_f h c6
        refine lv_aload_n hx hb dX10_tryIssue_19 rfl (lv_at hl 0 rfl) ?_
        refine lv_iload_n hx hb dX10_tryIssue_20 rfl (lv_at hl 1 rfl) ?_
        obtain ⟨x8, S9, e7, h⟩ := bd2_e h
        refine u_cVi X M hl.1 (kX10_makeAccount hS e7) cw_X10_211 ⟨by decide, by decide⟩ (rc_X10 X M hS) rfl rfl (Nat.le_of_ble_eq_true rfl) ⟨Nat.zero_le _, Nat.zero_le _⟩ dX10_tryIssue_21 (fun H locs M n10 => ?_)
        refine lv_pop hx hb dX10_tryIssue_24 rfl ?_
        refine lv_iconst (v := 1) hx hb dX10_tryIssue_25 (by decide) ?_
        exact u_iret X hret M (rt2 h).1 (congrArg (va_up V t) ((rt2 h).2)) rfl dX10_tryIssue_26
      · have h := it_t h c6
        refine lv_iconst (v := 0) hx hb dX10_tryIssue_17 (by decide) ?_
        exact u_iret X hret M (rt2 h).1 (congrArg (va_up V t) ((rt2 h).2)) rfl dX10_tryIssue_18
def fX10_tryCopy (S : (Nat → Nat → Int32)) (a1 : Int32) : Option (Int32 × (Nat → Nat → Int32)) :=
  lt_ (fX0_has S a1) fun x2 =>
  if x2 = 0 then
    some (0, S)
  else
    lt_ (fX0_isFull S) fun x6 =>
    if x6 = 0 then
      bd2 (fX0_makeTwin S a1) fun x10 S11 =>
      some (1, S11)
    else
      some (0, S)
set_option maxHeartbeats 4000000 in
set_option maxRecDepth 20000 in
theorem kX10_tryCopy {l : Launch} {G : UG} {V : uV} {t : Nat} (hS : uSt G t) {S S' : (Nat → Nat → Int32)} {a1 : Int32} {r : Int32} (h : fX10_tryCopy S a1 = some (r, S')) : uMi l G yX10_tryCopy cX10_tryCopy 2 .boolean (uR 3 68) [.ref (ga G t 0), .int a1] (va_up V t S) r (va_up V t S') := by
  refine uMi_of rfl (Nat.le_of_ble_eq_true rfl) (fun p e s m args below meth c ls X hret hl M => ?_)
  have hl : lv_has ls 2 [(0, .ref (ga G t 0)), (1, .int a1)] := hl
  have hx := X.hx
  have hb := X.hb
  unfold fX10_tryCopy at h
  refine lv_aload_n hx hb dX10_tryCopy_0 rfl (lv_at hl 0 rfl) ?_
  refine gf_X10_12 X M hS dX10_tryCopy_1 ?_
  refine lv_iload_n hx hb dX10_tryCopy_4 rfl (lv_at hl 1 rfl) ?_
  obtain ⟨x2, e1, h⟩ := lt_e h
  refine u_cVi X M hl.1 (kX0_has hS (va_up_s V t _) e1.symm) cw_X10_159 ⟨by decide, by decide⟩ (rc_X0 X M hS) rfl rfl (Nat.le_of_ble_eq_true rfl) ⟨Nat.zero_le _, Nat.zero_le _⟩ dX10_tryCopy_5 (fun H locs M n3 => ?_)
  refine lv_if_eq (tgt := 21) hx hb dX10_tryCopy_8 (by decide) (fun c4 => ?_) (fun c4 => ?_)
  · have h := it_t h c4
    refine lv_iconst (v := 0) hx hb dX10_tryCopy_21 (by decide) ?_
    exact u_iret X hret M (rt2 h).1 (congrArg (va_up V t) ((rt2 h).2)) rfl dX10_tryCopy_22
  · have h := it_f h c4
    refine lv_aload_n hx hb dX10_tryCopy_11 rfl (lv_at hl 0 rfl) ?_
    refine gf_X10_12 X M hS dX10_tryCopy_12 ?_
    obtain ⟨x6, e5, h⟩ := lt_e h
    refine u_cVi X M hl.1 (kX0_isFull hS (va_up_s V t _) e5.symm) cw_X10_130 ⟨by decide, by decide⟩ (rc_X0 X M hS) rfl rfl (Nat.le_of_ble_eq_true rfl) ⟨Nat.zero_le _, Nat.zero_le _⟩ dX10_tryCopy_15 (fun H locs M n7 => ?_)
    refine lv_if_eq (tgt := 23) hx hb dX10_tryCopy_18 (by decide) (fun c8 => ?_) (fun c8 => ?_)
    · have h := it_t h c8
      refine lv_aload_n hx hb dX10_tryCopy_23 rfl (lv_at hl 0 rfl) ?_
      refine gf_X10_12 X M hS dX10_tryCopy_24 ?_
      refine lv_iload_n hx hb dX10_tryCopy_27 rfl (lv_at hl 1 rfl) ?_
      obtain ⟨x10, S11, e9, h⟩ := bd2_e h
      refine u_cVi X M hl.1 (kX0_makeTwin hS e9) cw_X10_214 ⟨by decide, by decide⟩ (rc_X0 X M hS) rfl rfl (Nat.le_of_ble_eq_true rfl) ⟨Nat.zero_le _, Nat.zero_le _⟩ dX10_tryCopy_28 (fun H locs M n12 => ?_)
      refine lv_pop hx hb dX10_tryCopy_31 rfl ?_
      refine lv_iconst (v := 1) hx hb dX10_tryCopy_32 (by decide) ?_
      exact u_iret X hret M (rt2 h).1 (congrArg (va_up V t) ((rt2 h).2)) rfl dX10_tryCopy_33
    · have h := it_f h c8
      refine lv_iconst (v := 0) hx hb dX10_tryCopy_21 (by decide) ?_
      exact u_iret X hret M (rt2 h).1 (congrArg (va_up V t) ((rt2 h).2)) rfl dX10_tryCopy_22
def fX10_tryPay (S : (Nat → Nat → Int32)) (a1 : Int32) (a2 : Int32) : Option (Int32 × (Nat → Nat → Int32)) :=
  lt_ (fX5_has S a1) fun x2 =>
  if x2 = 0 then
    some (0, S)
  else
    if a2 < 1 then
      some (0, S)
    else
      if a2 ≤ 99 then
        bd2 (fX5_payIn S a1 a2) fun x8 S9 =>
        some (1, S9)
      else
        some (0, S)
set_option maxHeartbeats 4000000 in
set_option maxRecDepth 20000 in
theorem kX10_tryPay {l : Launch} {G : UG} {V : uV} {t : Nat} (hS : uSt G t) {S S' : (Nat → Nat → Int32)} {a1 : Int32} {a2 : Int32} {r : Int32} (h : fX10_tryPay S a1 a2 = some (r, S')) : uMi l G yX10_tryPay cX10_tryPay 3 .boolean (uR 2 44) [.ref (ga G t 0), .int a1, .int a2] (va_up V t S) r (va_up V t S') := by
  refine uMi_of rfl (Nat.le_of_ble_eq_true rfl) (fun p e s m args below meth c ls X hret hl M => ?_)
  have hl : lv_has ls 3 [(0, .ref (ga G t 0)), (1, .int a1), (2, .int a2)] := hl
  have hx := X.hx
  have hb := X.hb
  unfold fX10_tryPay at h
  refine lv_aload_n hx hb dX10_tryPay_0 rfl (lv_at hl 0 rfl) ?_
  refine gf_X10_21 X M hS dX10_tryPay_1 ?_
  refine lv_iload_n hx hb dX10_tryPay_4 rfl (lv_at hl 1 rfl) ?_
  obtain ⟨x2, e1, h⟩ := lt_e h
  refine u_cVi X M hl.1 (kX5_has hS (va_up_s V t _) e1.symm) cw_X10_217 ⟨by decide, by decide⟩ (rc_X5 X M hS) rfl rfl (Nat.le_of_ble_eq_true rfl) ⟨Nat.zero_le _, Nat.zero_le _⟩ dX10_tryPay_5 (fun H locs M n3 => ?_)
  refine lv_if_eq (tgt := 22) hx hb dX10_tryPay_8 (by decide) (fun c4 => ?_) (fun c4 => ?_)
  · have h := it_t h c4
    refine lv_iconst (v := 0) hx hb dX10_tryPay_22 (by decide) ?_
    exact u_iret X hret M (rt2 h).1 (congrArg (va_up V t) ((rt2 h).2)) rfl dX10_tryPay_23
  · have h := it_f h c4
    refine lv_iload_n hx hb dX10_tryPay_11 rfl (lv_at hl 2 rfl) ?_
    refine lv_iconst (v := 1) hx hb dX10_tryPay_12 (by decide) ?_
    refine lv_icmp_lt (tgt := 22) hx hb dX10_tryPay_13 (by decide) (fun c5 => ?_) (fun c5 => ?_)
    · have h := it_t h c5
      refine lv_iconst (v := 0) hx hb dX10_tryPay_22 (by decide) ?_
      exact u_iret X hret M (rt2 h).1 (congrArg (va_up V t) ((rt2 h).2)) rfl dX10_tryPay_23
    · have h := it_f h c5
      refine lv_iload_n hx hb dX10_tryPay_16 rfl (lv_at hl 2 rfl) ?_
      refine lv_bipush (v := 99) hx hb dX10_tryPay_17 (by decide) ?_
      refine lv_icmp_le (tgt := 24) hx hb dX10_tryPay_19 (by decide) (fun c6 => ?_) (fun c6 => ?_)
      · have h := it_t h c6
        refine lv_aload_n hx hb dX10_tryPay_24 rfl (lv_at hl 0 rfl) ?_
        refine gf_X10_21 X M hS dX10_tryPay_25 ?_
        refine lv_iload_n hx hb dX10_tryPay_28 rfl (lv_at hl 1 rfl) ?_
        refine lv_iload_n hx hb dX10_tryPay_29 rfl (lv_at hl 2 rfl) ?_
        obtain ⟨x8, S9, e7, h⟩ := bd2_e h
        refine u_cVi X M hl.1 (kX5_payIn hS e7) cw_X10_218 ⟨by decide, by decide⟩ (rc_X5 X M hS) rfl rfl (Nat.le_of_ble_eq_true rfl) ⟨Nat.zero_le _, Nat.zero_le _⟩ dX10_tryPay_30 (fun H locs M n10 => ?_)
        refine lv_pop hx hb dX10_tryPay_33 rfl ?_
        refine lv_iconst (v := 1) hx hb dX10_tryPay_34 (by decide) ?_
        exact u_iret X hret M (rt2 h).1 (congrArg (va_up V t) ((rt2 h).2)) rfl dX10_tryPay_35
      · have h := it_f h c6
        refine lv_iconst (v := 0) hx hb dX10_tryPay_22 (by decide) ?_
        exact u_iret X hret M (rt2 h).1 (congrArg (va_up V t) ((rt2 h).2)) rfl dX10_tryPay_23
def fX10_tryPardon (S : (Nat → Nat → Int32)) (a1 : Int32) : Option (Int32 × (Nat → Nat → Int32)) :=
  lt_ (fX5_has S a1) fun x2 =>
  if x2 = 0 then
    some (0, S)
  else
    lt_ (fX5_isMarked S a1) fun x6 =>
    if x6 = 0 then
      some (0, S)
    else
      bd2 (fX5_unmark S a1) fun x10 S11 =>
      some (1, S11)
set_option maxHeartbeats 4000000 in
set_option maxRecDepth 20000 in
theorem kX10_tryPardon {l : Launch} {G : UG} {V : uV} {t : Nat} (hS : uSt G t) {S S' : (Nat → Nat → Int32)} {a1 : Int32} {r : Int32} (h : fX10_tryPardon S a1 = some (r, S')) : uMi l G yX10_tryPardon cX10_tryPardon 2 .boolean (uR 2 43) [.ref (ga G t 0), .int a1] (va_up V t S) r (va_up V t S') := by
  refine uMi_of rfl (Nat.le_of_ble_eq_true rfl) (fun p e s m args below meth c ls X hret hl M => ?_)
  have hl : lv_has ls 2 [(0, .ref (ga G t 0)), (1, .int a1)] := hl
  have hx := X.hx
  have hb := X.hb
  unfold fX10_tryPardon at h
  refine lv_aload_n hx hb dX10_tryPardon_0 rfl (lv_at hl 0 rfl) ?_
  refine gf_X10_21 X M hS dX10_tryPardon_1 ?_
  refine lv_iload_n hx hb dX10_tryPardon_4 rfl (lv_at hl 1 rfl) ?_
  obtain ⟨x2, e1, h⟩ := lt_e h
  refine u_cVi X M hl.1 (kX5_has hS (va_up_s V t _) e1.symm) cw_X10_217 ⟨by decide, by decide⟩ (rc_X5 X M hS) rfl rfl (Nat.le_of_ble_eq_true rfl) ⟨Nat.zero_le _, Nat.zero_le _⟩ dX10_tryPardon_5 (fun H locs M n3 => ?_)
  refine lv_if_eq (tgt := 22) hx hb dX10_tryPardon_8 (by decide) (fun c4 => ?_) (fun c4 => ?_)
  · have h := it_t h c4
    refine lv_iconst (v := 0) hx hb dX10_tryPardon_22 (by decide) ?_
    exact u_iret X hret M (rt2 h).1 (congrArg (va_up V t) ((rt2 h).2)) rfl dX10_tryPardon_23
  · have h := it_f h c4
    refine lv_aload_n hx hb dX10_tryPardon_11 rfl (lv_at hl 0 rfl) ?_
    refine gf_X10_21 X M hS dX10_tryPardon_12 ?_
    refine lv_iload_n hx hb dX10_tryPardon_15 rfl (lv_at hl 1 rfl) ?_
    obtain ⟨x6, e5, h⟩ := lt_e h
    refine u_cVi X M hl.1 (kX5_isMarked hS (va_up_s V t _) e5.symm) cw_X10_221 ⟨by decide, by decide⟩ (rc_X5 X M hS) rfl rfl (Nat.le_of_ble_eq_true rfl) ⟨Nat.zero_le _, Nat.zero_le _⟩ dX10_tryPardon_16 (fun H locs M n7 => ?_)
    refine lv_if_ne (tgt := 24) hx hb dX10_tryPardon_19 (by decide) (fun c8 => ?_) (fun c8 => ?_)
    · have h := it_f h c8
      refine lv_aload_n hx hb dX10_tryPardon_24 rfl (lv_at hl 0 rfl) ?_
      refine gf_X10_21 X M hS dX10_tryPardon_25 ?_
      refine lv_iload_n hx hb dX10_tryPardon_28 rfl (lv_at hl 1 rfl) ?_
      obtain ⟨x10, S11, e9, h⟩ := bd2_e h
      refine u_cVi X M hl.1 (kX5_unmark hS e9) cw_X10_224 ⟨by decide, by decide⟩ (rc_X5 X M hS) rfl rfl (Nat.le_of_ble_eq_true rfl) ⟨Nat.zero_le _, Nat.zero_le _⟩ dX10_tryPardon_29 (fun H locs M n12 => ?_)
      refine lv_pop hx hb dX10_tryPardon_32 rfl ?_
      refine lv_iconst (v := 1) hx hb dX10_tryPardon_33 (by decide) ?_
      exact u_iret X hret M (rt2 h).1 (congrArg (va_up V t) ((rt2 h).2)) rfl dX10_tryPardon_34
    · have h := it_t h c8
      refine lv_iconst (v := 0) hx hb dX10_tryPardon_22 (by decide) ?_
      exact u_iret X hret M (rt2 h).1 (congrArg (va_up V t) ((rt2 h).2)) rfl dX10_tryPardon_23
def fX10_tryDown (S : (Nat → Nat → Int32)) (a1 : Int32) : Option (Int32 × (Nat → Nat → Int32)) :=
  lt_ (fX3_has S a1) fun x2 =>
  if x2 = 0 then
    some (0, S)
  else
    lt_ (fX3_isUp S a1) fun x6 =>
    if x6 = 0 then
      some (0, S)
    else
      bd2 (fX10_takeDown S a1) fun x10 S11 =>
      some (1, S11)
set_option maxHeartbeats 4000000 in
set_option maxRecDepth 20000 in
theorem kX10_tryDown {l : Launch} {G : UG} {V : uV} {t : Nat} (hS : uSt G t) {S S' : (Nat → Nat → Int32)} {a1 : Int32} {r : Int32} (h : fX10_tryDown S a1 = some (r, S')) : uMi l G yX10_tryDown cX10_tryDown 2 .boolean (uR 4 85) [.ref (ga G t 0), .int a1] (va_up V t S) r (va_up V t S') := by
  refine uMi_of rfl (Nat.le_of_ble_eq_true rfl) (fun p e s m args below meth c ls X hret hl M => ?_)
  have hl : lv_has ls 2 [(0, .ref (ga G t 0)), (1, .int a1)] := hl
  have hx := X.hx
  have hb := X.hb
  unfold fX10_tryDown at h
  refine lv_aload_n hx hb dX10_tryDown_0 rfl (lv_at hl 0 rfl) ?_
  refine gf_X10_28 X M hS dX10_tryDown_1 ?_
  refine lv_iload_n hx hb dX10_tryDown_4 rfl (lv_at hl 1 rfl) ?_
  obtain ⟨x2, e1, h⟩ := lt_e h
  refine u_cVi X M hl.1 (kX3_has hS (va_up_s V t _) e1.symm) cw_X10_162 ⟨by decide, by decide⟩ (rc_X3 X M hS) rfl rfl (Nat.le_of_ble_eq_true rfl) ⟨Nat.zero_le _, Nat.zero_le _⟩ dX10_tryDown_5 (fun H locs M n3 => ?_)
  refine lv_if_eq (tgt := 22) hx hb dX10_tryDown_8 (by decide) (fun c4 => ?_) (fun c4 => ?_)
  · have h := it_t h c4
    refine lv_iconst (v := 0) hx hb dX10_tryDown_22 (by decide) ?_
    exact u_iret X hret M (rt2 h).1 (congrArg (va_up V t) ((rt2 h).2)) rfl dX10_tryDown_23
  · have h := it_f h c4
    refine lv_aload_n hx hb dX10_tryDown_11 rfl (lv_at hl 0 rfl) ?_
    refine gf_X10_28 X M hS dX10_tryDown_12 ?_
    refine lv_iload_n hx hb dX10_tryDown_15 rfl (lv_at hl 1 rfl) ?_
    obtain ⟨x6, e5, h⟩ := lt_e h
    refine u_cVi X M hl.1 (kX3_isUp hS (va_up_s V t _) e5.symm) cw_X10_120 ⟨by decide, by decide⟩ (rc_X3 X M hS) rfl rfl (Nat.le_of_ble_eq_true rfl) ⟨Nat.zero_le _, Nat.zero_le _⟩ dX10_tryDown_16 (fun H locs M n7 => ?_)
    refine lv_if_ne (tgt := 24) hx hb dX10_tryDown_19 (by decide) (fun c8 => ?_) (fun c8 => ?_)
    · have h := it_f h c8
      refine lv_aload_n hx hb dX10_tryDown_24 rfl (lv_at hl 0 rfl) ?_
      refine lv_iload_n hx hb dX10_tryDown_25 rfl (lv_at hl 1 rfl) ?_
      obtain ⟨x10, S11, e9, h⟩ := bd2_e h
      refine u_cVi X M hl.1 (kX10_takeDown hS e9) cw_X10_227 ⟨by decide, by decide⟩ (rc_X10 X M hS) rfl rfl (Nat.le_of_ble_eq_true rfl) ⟨Nat.zero_le _, Nat.zero_le _⟩ dX10_tryDown_26 (fun H locs M n12 => ?_)
      refine lv_pop hx hb dX10_tryDown_29 rfl ?_
      refine lv_iconst (v := 1) hx hb dX10_tryDown_30 (by decide) ?_
      exact u_iret X hret M (rt2 h).1 (congrArg (va_up V t) ((rt2 h).2)) rfl dX10_tryDown_31
    · have h := it_t h c8
      refine lv_iconst (v := 0) hx hb dX10_tryDown_22 (by decide) ?_
      exact u_iret X hret M (rt2 h).1 (congrArg (va_up V t) ((rt2 h).2)) rfl dX10_tryDown_23
def fX10_tryUp (S : (Nat → Nat → Int32)) (a1 : Int32) : Option (Int32 × (Nat → Nat → Int32)) :=
  lt_ (fX3_has S a1) fun x2 =>
  if x2 = 0 then
    some (0, S)
  else
    lt_ (fX3_isUp S a1) fun x6 =>
    if x6 = 0 then
      bd2 (fX10_bringUp S a1) fun x10 S11 =>
      some (1, S11)
    else
      some (0, S)
set_option maxHeartbeats 4000000 in
set_option maxRecDepth 20000 in
theorem kX10_tryUp {l : Launch} {G : UG} {V : uV} {t : Nat} (hS : uSt G t) {S S' : (Nat → Nat → Int32)} {a1 : Int32} {r : Int32} (h : fX10_tryUp S a1 = some (r, S')) : uMi l G yX10_tryUp cX10_tryUp 2 .boolean (uR 4 96) [.ref (ga G t 0), .int a1] (va_up V t S) r (va_up V t S') := by
  refine uMi_of rfl (Nat.le_of_ble_eq_true rfl) (fun p e s m args below meth c ls X hret hl M => ?_)
  have hl : lv_has ls 2 [(0, .ref (ga G t 0)), (1, .int a1)] := hl
  have hx := X.hx
  have hb := X.hb
  unfold fX10_tryUp at h
  refine lv_aload_n hx hb dX10_tryUp_0 rfl (lv_at hl 0 rfl) ?_
  refine gf_X10_28 X M hS dX10_tryUp_1 ?_
  refine lv_iload_n hx hb dX10_tryUp_4 rfl (lv_at hl 1 rfl) ?_
  obtain ⟨x2, e1, h⟩ := lt_e h
  refine u_cVi X M hl.1 (kX3_has hS (va_up_s V t _) e1.symm) cw_X10_162 ⟨by decide, by decide⟩ (rc_X3 X M hS) rfl rfl (Nat.le_of_ble_eq_true rfl) ⟨Nat.zero_le _, Nat.zero_le _⟩ dX10_tryUp_5 (fun H locs M n3 => ?_)
  refine lv_if_eq (tgt := 22) hx hb dX10_tryUp_8 (by decide) (fun c4 => ?_) (fun c4 => ?_)
  · have h := it_t h c4
    refine lv_iconst (v := 0) hx hb dX10_tryUp_22 (by decide) ?_
    exact u_iret X hret M (rt2 h).1 (congrArg (va_up V t) ((rt2 h).2)) rfl dX10_tryUp_23
  · have h := it_f h c4
    refine lv_aload_n hx hb dX10_tryUp_11 rfl (lv_at hl 0 rfl) ?_
    refine gf_X10_28 X M hS dX10_tryUp_12 ?_
    refine lv_iload_n hx hb dX10_tryUp_15 rfl (lv_at hl 1 rfl) ?_
    obtain ⟨x6, e5, h⟩ := lt_e h
    refine u_cVi X M hl.1 (kX3_isUp hS (va_up_s V t _) e5.symm) cw_X10_120 ⟨by decide, by decide⟩ (rc_X3 X M hS) rfl rfl (Nat.le_of_ble_eq_true rfl) ⟨Nat.zero_le _, Nat.zero_le _⟩ dX10_tryUp_16 (fun H locs M n7 => ?_)
    refine lv_if_eq (tgt := 24) hx hb dX10_tryUp_19 (by decide) (fun c8 => ?_) (fun c8 => ?_)
    · have h := it_t h c8
      refine lv_aload_n hx hb dX10_tryUp_24 rfl (lv_at hl 0 rfl) ?_
      refine lv_iload_n hx hb dX10_tryUp_25 rfl (lv_at hl 1 rfl) ?_
      obtain ⟨x10, S11, e9, h⟩ := bd2_e h
      refine u_cVi X M hl.1 (kX10_bringUp hS e9) cw_X10_230 ⟨by decide, by decide⟩ (rc_X10 X M hS) rfl rfl (Nat.le_of_ble_eq_true rfl) ⟨Nat.zero_le _, Nat.zero_le _⟩ dX10_tryUp_26 (fun H locs M n12 => ?_)
      refine lv_pop hx hb dX10_tryUp_29 rfl ?_
      refine lv_iconst (v := 1) hx hb dX10_tryUp_30 (by decide) ?_
      exact u_iret X hret M (rt2 h).1 (congrArg (va_up V t) ((rt2 h).2)) rfl dX10_tryUp_31
    · have h := it_f h c8
      refine lv_iconst (v := 0) hx hb dX10_tryUp_22 (by decide) ?_
      exact u_iret X hret M (rt2 h).1 (congrArg (va_up V t) ((rt2 h).2)) rfl dX10_tryUp_23
def fX10_tryOpen (S : (Nat → Nat → Int32)) (a1 : Int32) : Option (Int32 × (Nat → Nat → Int32)) :=
  lt_ (fX3_has S a1) fun x2 =>
  if x2 = 0 then
    some (0, S)
  else
    bd2 (fX3_turnOpen S a1) fun x6 S7 =>
    some (1, S7)
set_option maxHeartbeats 4000000 in
set_option maxRecDepth 20000 in
theorem kX10_tryOpen {l : Launch} {G : UG} {V : uV} {t : Nat} (hS : uSt G t) {S S' : (Nat → Nat → Int32)} {a1 : Int32} {r : Int32} (h : fX10_tryOpen S a1 = some (r, S')) : uMi l G yX10_tryOpen cX10_tryOpen 2 .boolean (uR 3 63) [.ref (ga G t 0), .int a1] (va_up V t S) r (va_up V t S') := by
  refine uMi_of rfl (Nat.le_of_ble_eq_true rfl) (fun p e s m args below meth c ls X hret hl M => ?_)
  have hl : lv_has ls 2 [(0, .ref (ga G t 0)), (1, .int a1)] := hl
  have hx := X.hx
  have hb := X.hb
  unfold fX10_tryOpen at h
  refine lv_aload_n hx hb dX10_tryOpen_0 rfl (lv_at hl 0 rfl) ?_
  refine gf_X10_28 X M hS dX10_tryOpen_1 ?_
  refine lv_iload_n hx hb dX10_tryOpen_4 rfl (lv_at hl 1 rfl) ?_
  obtain ⟨x2, e1, h⟩ := lt_e h
  refine u_cVi X M hl.1 (kX3_has hS (va_up_s V t _) e1.symm) cw_X10_162 ⟨by decide, by decide⟩ (rc_X3 X M hS) rfl rfl (Nat.le_of_ble_eq_true rfl) ⟨Nat.zero_le _, Nat.zero_le _⟩ dX10_tryOpen_5 (fun H locs M n3 => ?_)
  refine lv_if_ne (tgt := 13) hx hb dX10_tryOpen_8 (by decide) (fun c4 => ?_) (fun c4 => ?_)
  · have h := it_f h c4
    refine lv_aload_n hx hb dX10_tryOpen_13 rfl (lv_at hl 0 rfl) ?_
    refine gf_X10_28 X M hS dX10_tryOpen_14 ?_
    refine lv_iload_n hx hb dX10_tryOpen_17 rfl (lv_at hl 1 rfl) ?_
    obtain ⟨x6, S7, e5, h⟩ := bd2_e h
    refine u_cVi X M hl.1 (kX3_turnOpen hS e5) cw_X10_233 ⟨by decide, by decide⟩ (rc_X3 X M hS) rfl rfl (Nat.le_of_ble_eq_true rfl) ⟨Nat.zero_le _, Nat.zero_le _⟩ dX10_tryOpen_18 (fun H locs M n8 => ?_)
    refine lv_pop hx hb dX10_tryOpen_21 rfl ?_
    refine lv_iconst (v := 1) hx hb dX10_tryOpen_22 (by decide) ?_
    exact u_iret X hret M (rt2 h).1 (congrArg (va_up V t) ((rt2 h).2)) rfl dX10_tryOpen_23
  · have h := it_t h c4
    refine lv_iconst (v := 0) hx hb dX10_tryOpen_11 (by decide) ?_
    exact u_iret X hret M (rt2 h).1 (congrArg (va_up V t) ((rt2 h).2)) rfl dX10_tryOpen_12
def fX10_tryRun (S : (Nat → Nat → Int32)) (a1 : Int32) : Option (Int32 × (Nat → Nat → Int32)) :=
  if a1 < 1 then
    some (0, S)
  else
    if a1 ≤ 60 then
      lt_ (S 0 4) fun x3 =>
      lt_ (va_up S 0 (upd (S 0) 4 (x3 + a1))) fun S5 =>
      some (1, S5)
    else
      some (0, S)
set_option maxHeartbeats 4000000 in
set_option maxRecDepth 20000 in
theorem kX10_tryRun {l : Launch} {G : UG} {V : uV} {t : Nat} (hS : uSt G t) {S S' : (Nat → Nat → Int32)} {a1 : Int32} {r : Int32} (h : fX10_tryRun S a1 = some (r, S')) : uMi l G yX10_tryRun cX10_tryRun 2 .boolean (uR 0 0) [.ref (ga G t 0), .int a1] (va_up V t S) r (va_up V t S') := by
  refine uMi_of rfl (Nat.le_of_ble_eq_true rfl) (fun p e s m args below meth c ls X hret hl M => ?_)
  have hl : lv_has ls 2 [(0, .ref (ga G t 0)), (1, .int a1)] := hl
  have hx := X.hx
  have hb := X.hb
  unfold fX10_tryRun at h
  refine lv_iload_n hx hb dX10_tryRun_0 rfl (lv_at hl 1 rfl) ?_
  refine lv_iconst (v := 1) hx hb dX10_tryRun_1 (by decide) ?_
  refine lv_icmp_lt (tgt := 11) hx hb dX10_tryRun_2 (by decide) (fun c1 => ?_) (fun c1 => ?_)
  · have h := it_t h c1
    refine lv_iconst (v := 0) hx hb dX10_tryRun_11 (by decide) ?_
    exact u_iret X hret M (rt2 h).1 (congrArg (va_up V t) ((rt2 h).2)) rfl dX10_tryRun_12
  · have h := it_f h c1
    refine lv_iload_n hx hb dX10_tryRun_5 rfl (lv_at hl 1 rfl) ?_
    refine lv_bipush (v := 60) hx hb dX10_tryRun_6 (by decide) ?_
    refine lv_icmp_le (tgt := 13) hx hb dX10_tryRun_8 (by decide) (fun c2 => ?_) (fun c2 => ?_)
    · have h := it_t h c2
      refine lv_aload_n hx hb dX10_tryRun_13 rfl (lv_at hl 0 rfl) ?_
      refine lv_dup hx hb dX10_tryRun_14 rfl ?_
      obtain ⟨x3, e4, h⟩ := lt_e h
      refine gf_X10_51 X M hS (va_up_s V t _) e4 dX10_tryRun_15 ?_
      refine lv_iload_n hx hb dX10_tryRun_18 rfl (lv_at hl 1 rfl) ?_
      refine lv_iadd hx hb dX10_tryRun_19 ?_
      obtain ⟨S5, e6, h⟩ := lt_e h
      refine pf_X10_51 X M hS e6 dX10_tryRun_20 (fun H locs M => ?_)
      refine lv_iconst (v := 1) hx hb dX10_tryRun_23 (by decide) ?_
      exact u_iret X hret M (rt2 h).1 (congrArg (va_up V t) ((rt2 h).2)) rfl dX10_tryRun_24
    · have h := it_f h c2
      refine lv_iconst (v := 0) hx hb dX10_tryRun_11 (by decide) ?_
      exact u_iret X hret M (rt2 h).1 (congrArg (va_up V t) ((rt2 h).2)) rfl dX10_tryRun_12
end
section
theorem dX2_length_0 : decode cX2_length 0 = .ok (.aload_n 0, 1) := by decide +kernel
theorem dX2_length_1 : decode cX2_length 1 = .ok (.getfield 20, 3) := by decide +kernel
theorem dX2_length_4 : decode cX2_length 4 = .ok (.ireturn, 1) := by decide +kernel
theorem dX2_sign_0 : decode cX2_sign 0 = .ok (.aload_n 0, 1) := by decide +kernel
theorem dX2_sign_1 : decode cX2_sign 1 = .ok (.getfield 14, 3) := by decide +kernel
theorem dX2_sign_4 : decode cX2_sign 4 = .ok (.iload_n 1, 1) := by decide +kernel
theorem dX2_sign_5 : decode cX2_sign 5 = .ok (.invokevirtual 24, 3) := by decide +kernel
theorem dX2_sign_8 : decode cX2_sign 8 = .ok (.ireturn, 1) := by decide +kernel
theorem dX2_digit_0 : decode cX2_digit 0 = .ok (.aload_n 0, 1) := by decide +kernel
theorem dX2_digit_1 : decode cX2_digit 1 = .ok (.getfield 14, 3) := by decide +kernel
theorem dX2_digit_4 : decode cX2_digit 4 = .ok (.iload_n 1, 1) := by decide +kernel
theorem dX2_digit_5 : decode cX2_digit 5 = .ok (.invokevirtual 24, 3) := by decide +kernel
theorem dX2_digit_8 : decode cX2_digit 8 = .ok (.bipush 48, 2) := by decide +kernel
theorem dX2_digit_10 : decode cX2_digit 10 = .ok (.isub, 1) := by decide +kernel
theorem dX2_digit_11 : decode cX2_digit 11 = .ok (.ireturn, 1) := by decide +kernel
theorem dX2_twoDigits_0 : decode cX2_twoDigits 0 = .ok (.bipush 10, 2) := by decide +kernel
theorem dX2_twoDigits_2 : decode cX2_twoDigits 2 = .ok (.aload_n 0, 1) := by decide +kernel
theorem dX2_twoDigits_3 : decode cX2_twoDigits 3 = .ok (.iload_n 1, 1) := by decide +kernel
theorem dX2_twoDigits_4 : decode cX2_twoDigits 4 = .ok (.invokevirtual 28, 3) := by decide +kernel
theorem dX2_twoDigits_7 : decode cX2_twoDigits 7 = .ok (.imul, 1) := by decide +kernel
theorem dX2_twoDigits_8 : decode cX2_twoDigits 8 = .ok (.aload_n 0, 1) := by decide +kernel
theorem dX2_twoDigits_9 : decode cX2_twoDigits 9 = .ok (.iload_n 1, 1) := by decide +kernel
theorem dX2_twoDigits_10 : decode cX2_twoDigits 10 = .ok (.iconst 1, 1) := by decide +kernel
theorem dX2_twoDigits_11 : decode cX2_twoDigits 11 = .ok (.iadd, 1) := by decide +kernel
theorem dX2_twoDigits_12 : decode cX2_twoDigits 12 = .ok (.invokevirtual 28, 3) := by decide +kernel
theorem dX2_twoDigits_15 : decode cX2_twoDigits 15 = .ok (.iadd, 1) := by decide +kernel
theorem dX2_twoDigits_16 : decode cX2_twoDigits 16 = .ok (.ireturn, 1) := by decide +kernel
theorem dX2_add_0 : decode cX2_add 0 = .ok (.aload_n 0, 1) := by decide +kernel
theorem dX2_add_1 : decode cX2_add 1 = .ok (.getfield 14, 3) := by decide +kernel
theorem dX2_add_4 : decode cX2_add 4 = .ok (.aload_n 0, 1) := by decide +kernel
theorem dX2_add_5 : decode cX2_add 5 = .ok (.getfield 20, 3) := by decide +kernel
theorem dX2_add_8 : decode cX2_add 8 = .ok (.iload_n 1, 1) := by decide +kernel
theorem dX2_add_9 : decode cX2_add 9 = .ok (.invokevirtual 31, 3) := by decide +kernel
theorem dX2_add_12 : decode cX2_add 12 = .ok (.aload_n 0, 1) := by decide +kernel
theorem dX2_add_13 : decode cX2_add 13 = .ok (.dup, 1) := by decide +kernel
theorem dX2_add_14 : decode cX2_add 14 = .ok (.getfield 20, 3) := by decide +kernel
theorem dX2_add_17 : decode cX2_add 17 = .ok (.iconst 1, 1) := by decide +kernel
theorem dX2_add_18 : decode cX2_add 18 = .ok (.iadd, 1) := by decide +kernel
theorem dX2_add_19 : decode cX2_add 19 = .ok (.putfield 20, 3) := by decide +kernel
theorem dX2_add_22 : decode cX2_add 22 = .ok (.aload_n 0, 1) := by decide +kernel
theorem dX2_add_23 : decode cX2_add 23 = .ok (.getfield 20, 3) := by decide +kernel
theorem dX2_add_26 : decode cX2_add 26 = .ok (.ireturn, 1) := by decide +kernel
theorem dX2_empty_0 : decode cX2_empty 0 = .ok (.aload_n 0, 1) := by decide +kernel
theorem dX2_empty_1 : decode cX2_empty 1 = .ok (.getfield 20, 3) := by decide +kernel
theorem dX2_empty_4 : decode cX2_empty 4 = .ok (.istore_n 1, 1) := by decide +kernel
theorem dX2_empty_5 : decode cX2_empty 5 = .ok (.aload_n 0, 1) := by decide +kernel
theorem dX2_empty_6 : decode cX2_empty 6 = .ok (.iconst 0, 1) := by decide +kernel
theorem dX2_empty_7 : decode cX2_empty 7 = .ok (.putfield 20, 3) := by decide +kernel
theorem dX2_empty_10 : decode cX2_empty 10 = .ok (.iload_n 1, 1) := by decide +kernel
theorem dX2_empty_11 : decode cX2_empty 11 = .ok (.ireturn, 1) := by decide +kernel
theorem dX2_digitsOf_0 : decode cX2_digitsOf 0 = .ok (.iload_n 0, 1) := by decide +kernel
theorem dX2_digitsOf_1 : decode cX2_digitsOf 1 = .ok (.tableswitch 97 99 117 #[91, 91, 97, 97, 97, 97, 93, 97, 97, 97, 93, 97, 91, 97, 97, 93, 97, 95, 91], 91) := by decide +kernel
theorem dX2_digitsOf_92 : decode cX2_digitsOf 92 = .ok (.iconst 1, 1) := by decide +kernel
theorem dX2_digitsOf_93 : decode cX2_digitsOf 93 = .ok (.ireturn, 1) := by decide +kernel
theorem dX2_digitsOf_94 : decode cX2_digitsOf 94 = .ok (.iconst 2, 1) := by decide +kernel
theorem dX2_digitsOf_95 : decode cX2_digitsOf 95 = .ok (.ireturn, 1) := by decide +kernel
theorem dX2_digitsOf_96 : decode cX2_digitsOf 96 = .ok (.iconst 3, 1) := by decide +kernel
theorem dX2_digitsOf_97 : decode cX2_digitsOf 97 = .ok (.ireturn, 1) := by decide +kernel
theorem dX2_digitsOf_98 : decode cX2_digitsOf 98 = .ok (.iconst 0, 1) := by decide +kernel
theorem dX2_digitsOf_99 : decode cX2_digitsOf 99 = .ok (.ireturn, 1) := by decide +kernel
theorem dX2_isAllowed_0 : decode cX2_isAllowed 0 = .ok (.aload_n 0, 1) := by decide +kernel
theorem dX2_isAllowed_1 : decode cX2_isAllowed 1 = .ok (.iload_n 1, 1) := by decide +kernel
theorem dX2_isAllowed_2 : decode cX2_isAllowed 2 = .ok (.iload_n 2, 1) := by decide +kernel
theorem dX2_isAllowed_3 : decode cX2_isAllowed 3 = .ok (.iadd, 1) := by decide +kernel
theorem dX2_isAllowed_4 : decode cX2_isAllowed 4 = .ok (.invokevirtual 28, 3) := by decide +kernel
theorem dX2_isAllowed_7 : decode cX2_isAllowed 7 = .ok (.istore_n 3, 1) := by decide +kernel
theorem dX2_isAllowed_8 : decode cX2_isAllowed 8 = .ok (.iload_n 3, 1) := by decide +kernel
theorem dX2_isAllowed_9 : decode cX2_isAllowed 9 = .ok (.ifCond .lt 9, 3) := by decide +kernel
theorem dX2_isAllowed_12 : decode cX2_isAllowed 12 = .ok (.iload_n 3, 1) := by decide +kernel
theorem dX2_isAllowed_13 : decode cX2_isAllowed 13 = .ok (.bipush 9, 2) := by decide +kernel
theorem dX2_isAllowed_15 : decode cX2_isAllowed 15 = .ok (.if_icmp .le 5, 3) := by decide +kernel
theorem dX2_isAllowed_18 : decode cX2_isAllowed 18 = .ok (.iconst 0, 1) := by decide +kernel
theorem dX2_isAllowed_19 : decode cX2_isAllowed 19 = .ok (.ireturn, 1) := by decide +kernel
theorem dX2_isAllowed_20 : decode cX2_isAllowed 20 = .ok (.aload_n 0, 1) := by decide +kernel
theorem dX2_isAllowed_21 : decode cX2_isAllowed 21 = .ok (.iload_n 1, 1) := by decide +kernel
theorem dX2_isAllowed_22 : decode cX2_isAllowed 22 = .ok (.iload_n 2, 1) := by decide +kernel
theorem dX2_isAllowed_23 : decode cX2_isAllowed 23 = .ok (.iadd, 1) := by decide +kernel
theorem dX2_isAllowed_24 : decode cX2_isAllowed 24 = .ok (.iconst 1, 1) := by decide +kernel
theorem dX2_isAllowed_25 : decode cX2_isAllowed 25 = .ok (.isub, 1) := by decide +kernel
theorem dX2_isAllowed_26 : decode cX2_isAllowed 26 = .ok (.invokevirtual 28, 3) := by decide +kernel
theorem dX2_isAllowed_29 : decode cX2_isAllowed 29 = .ok (.istore 4, 2) := by decide +kernel
theorem dX2_isAllowed_31 : decode cX2_isAllowed 31 = .ok (.aload_n 0, 1) := by decide +kernel
theorem dX2_isAllowed_32 : decode cX2_isAllowed 32 = .ok (.iload_n 1, 1) := by decide +kernel
theorem dX2_isAllowed_33 : decode cX2_isAllowed 33 = .ok (.invokevirtual 35, 3) := by decide +kernel
theorem dX2_isAllowed_36 : decode cX2_isAllowed 36 = .ok (.tableswitch 207 100 117 #[104, 207, 207, 207, 207, 207, 207, 207, 207, 154, 207, 104, 207, 207, 88, 207, 115, 104], 88) := by decide +kernel
theorem dX2_isAllowed_124 : decode cX2_isAllowed 124 = .ok (.iload_n 2, 1) := by decide +kernel
theorem dX2_isAllowed_125 : decode cX2_isAllowed 125 = .ok (.iconst 1, 1) := by decide +kernel
theorem dX2_isAllowed_126 : decode cX2_isAllowed 126 = .ok (.if_icmp .eq 8, 3) := by decide +kernel
theorem dX2_isAllowed_129 : decode cX2_isAllowed 129 = .ok (.iload_n 3, 1) := by decide +kernel
theorem dX2_isAllowed_130 : decode cX2_isAllowed 130 = .ok (.iconst 4, 1) := by decide +kernel
theorem dX2_isAllowed_131 : decode cX2_isAllowed 131 = .ok (.if_icmp .ge 7, 3) := by decide +kernel
theorem dX2_isAllowed_134 : decode cX2_isAllowed 134 = .ok (.iconst 1, 1) := by decide +kernel
theorem dX2_isAllowed_135 : decode cX2_isAllowed 135 = .ok (.goto 4, 3) := by decide +kernel
theorem dX2_isAllowed_138 : decode cX2_isAllowed 138 = .ok (.iconst 0, 1) := by decide +kernel
theorem dX2_isAllowed_139 : decode cX2_isAllowed 139 = .ok (.ireturn, 1) := by decide +kernel
theorem dX2_isAllowed_140 : decode cX2_isAllowed 140 = .ok (.iload_n 3, 1) := by decide +kernel
theorem dX2_isAllowed_141 : decode cX2_isAllowed 141 = .ok (.iconst 4, 1) := by decide +kernel
theorem dX2_isAllowed_142 : decode cX2_isAllowed 142 = .ok (.if_icmp .ge 7, 3) := by decide +kernel
theorem dX2_isAllowed_145 : decode cX2_isAllowed 145 = .ok (.iconst 1, 1) := by decide +kernel
theorem dX2_isAllowed_146 : decode cX2_isAllowed 146 = .ok (.goto 4, 3) := by decide +kernel
theorem dX2_isAllowed_149 : decode cX2_isAllowed 149 = .ok (.iconst 0, 1) := by decide +kernel
theorem dX2_isAllowed_150 : decode cX2_isAllowed 150 = .ok (.ireturn, 1) := by decide +kernel
theorem dX2_isAllowed_151 : decode cX2_isAllowed 151 = .ok (.iload_n 2, 1) := by decide +kernel
theorem dX2_isAllowed_152 : decode cX2_isAllowed 152 = .ok (.iconst 1, 1) := by decide +kernel
theorem dX2_isAllowed_153 : decode cX2_isAllowed 153 = .ok (.if_icmp .ne 17, 3) := by decide +kernel
theorem dX2_isAllowed_156 : decode cX2_isAllowed 156 = .ok (.iload_n 3, 1) := by decide +kernel
theorem dX2_isAllowed_157 : decode cX2_isAllowed 157 = .ok (.bipush 8, 2) := by decide +kernel
theorem dX2_isAllowed_159 : decode cX2_isAllowed 159 = .ok (.if_icmp .ge 7, 3) := by decide +kernel
theorem dX2_isAllowed_162 : decode cX2_isAllowed 162 = .ok (.iconst 1, 1) := by decide +kernel
theorem dX2_isAllowed_163 : decode cX2_isAllowed 163 = .ok (.goto 26, 3) := by decide +kernel
theorem dX2_isAllowed_166 : decode cX2_isAllowed 166 = .ok (.iconst 0, 1) := by decide +kernel
theorem dX2_isAllowed_167 : decode cX2_isAllowed 167 = .ok (.goto 22, 3) := by decide +kernel
theorem dX2_isAllowed_170 : decode cX2_isAllowed 170 = .ok (.iload_n 2, 1) := by decide +kernel
theorem dX2_isAllowed_171 : decode cX2_isAllowed 171 = .ok (.iconst 2, 1) := by decide +kernel
theorem dX2_isAllowed_172 : decode cX2_isAllowed 172 = .ok (.if_icmp .eq 12, 3) := by decide +kernel
theorem dX2_isAllowed_175 : decode cX2_isAllowed 175 = .ok (.iload 4, 2) := by decide +kernel
theorem dX2_isAllowed_177 : decode cX2_isAllowed 177 = .ok (.ifCond .gt 7, 3) := by decide +kernel
theorem dX2_isAllowed_180 : decode cX2_isAllowed 180 = .ok (.iload_n 3, 1) := by decide +kernel
theorem dX2_isAllowed_181 : decode cX2_isAllowed 181 = .ok (.ifCond .le 7, 3) := by decide +kernel
theorem dX2_isAllowed_184 : decode cX2_isAllowed 184 = .ok (.iconst 1, 1) := by decide +kernel
theorem dX2_isAllowed_185 : decode cX2_isAllowed 185 = .ok (.goto 4, 3) := by decide +kernel
theorem dX2_isAllowed_188 : decode cX2_isAllowed 188 = .ok (.iconst 0, 1) := by decide +kernel
theorem dX2_isAllowed_189 : decode cX2_isAllowed 189 = .ok (.ireturn, 1) := by decide +kernel
theorem dX2_isAllowed_190 : decode cX2_isAllowed 190 = .ok (.iload_n 2, 1) := by decide +kernel
theorem dX2_isAllowed_191 : decode cX2_isAllowed 191 = .ok (.iconst 1, 1) := by decide +kernel
theorem dX2_isAllowed_192 : decode cX2_isAllowed 192 = .ok (.if_icmp .ne 17, 3) := by decide +kernel
theorem dX2_isAllowed_195 : decode cX2_isAllowed 195 = .ok (.iload_n 3, 1) := by decide +kernel
theorem dX2_isAllowed_196 : decode cX2_isAllowed 196 = .ok (.bipush 6, 2) := by decide +kernel
theorem dX2_isAllowed_198 : decode cX2_isAllowed 198 = .ok (.if_icmp .gt 7, 3) := by decide +kernel
theorem dX2_isAllowed_201 : decode cX2_isAllowed 201 = .ok (.iconst 1, 1) := by decide +kernel
theorem dX2_isAllowed_202 : decode cX2_isAllowed 202 = .ok (.goto 40, 3) := by decide +kernel
theorem dX2_isAllowed_205 : decode cX2_isAllowed 205 = .ok (.iconst 0, 1) := by decide +kernel
theorem dX2_isAllowed_206 : decode cX2_isAllowed 206 = .ok (.goto 36, 3) := by decide +kernel
theorem dX2_isAllowed_209 : decode cX2_isAllowed 209 = .ok (.iload 4, 2) := by decide +kernel
theorem dX2_isAllowed_211 : decode cX2_isAllowed 211 = .ok (.ifCond .ne 15, 3) := by decide +kernel
theorem dX2_isAllowed_214 : decode cX2_isAllowed 214 = .ok (.iload_n 3, 1) := by decide +kernel
theorem dX2_isAllowed_215 : decode cX2_isAllowed 215 = .ok (.ifCond .le 7, 3) := by decide +kernel
theorem dX2_isAllowed_218 : decode cX2_isAllowed 218 = .ok (.iconst 1, 1) := by decide +kernel
theorem dX2_isAllowed_219 : decode cX2_isAllowed 219 = .ok (.goto 23, 3) := by decide +kernel
theorem dX2_isAllowed_222 : decode cX2_isAllowed 222 = .ok (.iconst 0, 1) := by decide +kernel
theorem dX2_isAllowed_223 : decode cX2_isAllowed 223 = .ok (.goto 19, 3) := by decide +kernel
theorem dX2_isAllowed_226 : decode cX2_isAllowed 226 = .ok (.iload 4, 2) := by decide +kernel
theorem dX2_isAllowed_228 : decode cX2_isAllowed 228 = .ok (.bipush 6, 2) := by decide +kernel
theorem dX2_isAllowed_230 : decode cX2_isAllowed 230 = .ok (.if_icmp .lt 7, 3) := by decide +kernel
theorem dX2_isAllowed_233 : decode cX2_isAllowed 233 = .ok (.iload_n 3, 1) := by decide +kernel
theorem dX2_isAllowed_234 : decode cX2_isAllowed 234 = .ok (.ifCond .ne 7, 3) := by decide +kernel
theorem dX2_isAllowed_237 : decode cX2_isAllowed 237 = .ok (.iconst 1, 1) := by decide +kernel
theorem dX2_isAllowed_238 : decode cX2_isAllowed 238 = .ok (.goto 4, 3) := by decide +kernel
theorem dX2_isAllowed_241 : decode cX2_isAllowed 241 = .ok (.iconst 0, 1) := by decide +kernel
theorem dX2_isAllowed_242 : decode cX2_isAllowed 242 = .ok (.ireturn, 1) := by decide +kernel
theorem dX2_isAllowed_243 : decode cX2_isAllowed 243 = .ok (.iconst 1, 1) := by decide +kernel
theorem dX2_isAllowed_244 : decode cX2_isAllowed 244 = .ok (.ireturn, 1) := by decide +kernel
theorem dX2_firstError_0 : decode cX2_firstError 0 = .ok (.aload_n 0, 1) := by decide +kernel
theorem dX2_firstError_1 : decode cX2_firstError 1 = .ok (.getfield 20, 3) := by decide +kernel
theorem dX2_firstError_4 : decode cX2_firstError 4 = .ok (.ifCond .eq 13, 3) := by decide +kernel
theorem dX2_firstError_7 : decode cX2_firstError 7 = .ok (.aload_n 0, 1) := by decide +kernel
theorem dX2_firstError_8 : decode cX2_firstError 8 = .ok (.iconst 0, 1) := by decide +kernel
theorem dX2_firstError_9 : decode cX2_firstError 9 = .ok (.invokevirtual 35, 3) := by decide +kernel
theorem dX2_firstError_12 : decode cX2_firstError 12 = .ok (.bipush 79, 2) := by decide +kernel
theorem dX2_firstError_14 : decode cX2_firstError 14 = .ok (.if_icmp .eq 5, 3) := by decide +kernel
theorem dX2_firstError_17 : decode cX2_firstError 17 = .ok (.iconst 0, 1) := by decide +kernel
theorem dX2_firstError_18 : decode cX2_firstError 18 = .ok (.ireturn, 1) := by decide +kernel
theorem dX2_firstError_19 : decode cX2_firstError 19 = .ok (.iconst 1, 1) := by decide +kernel
theorem dX2_firstError_20 : decode cX2_firstError 20 = .ok (.istore_n 1, 1) := by decide +kernel
theorem dX2_firstError_21 : decode cX2_firstError 21 = .ok (.iload_n 1, 1) := by decide +kernel
theorem dX2_firstError_22 : decode cX2_firstError 22 = .ok (.aload_n 0, 1) := by decide +kernel
theorem dX2_firstError_23 : decode cX2_firstError 23 = .ok (.getfield 20, 3) := by decide +kernel
theorem dX2_firstError_26 : decode cX2_firstError 26 = .ok (.if_icmp .ge 63, 3) := by decide +kernel
theorem dX2_firstError_29 : decode cX2_firstError 29 = .ok (.aload_n 0, 1) := by decide +kernel
theorem dX2_firstError_30 : decode cX2_firstError 30 = .ok (.iload_n 1, 1) := by decide +kernel
theorem dX2_firstError_31 : decode cX2_firstError 31 = .ok (.invokevirtual 35, 3) := by decide +kernel
theorem dX2_firstError_34 : decode cX2_firstError 34 = .ok (.invokestatic 38, 3) := by decide +kernel
theorem dX2_firstError_37 : decode cX2_firstError 37 = .ok (.istore_n 2, 1) := by decide +kernel
theorem dX2_firstError_38 : decode cX2_firstError 38 = .ok (.iload_n 2, 1) := by decide +kernel
theorem dX2_firstError_39 : decode cX2_firstError 39 = .ok (.ifCond .ne 5, 3) := by decide +kernel
theorem dX2_firstError_42 : decode cX2_firstError 42 = .ok (.iload_n 1, 1) := by decide +kernel
theorem dX2_firstError_43 : decode cX2_firstError 43 = .ok (.ireturn, 1) := by decide +kernel
theorem dX2_firstError_44 : decode cX2_firstError 44 = .ok (.iconst 1, 1) := by decide +kernel
theorem dX2_firstError_45 : decode cX2_firstError 45 = .ok (.istore_n 3, 1) := by decide +kernel
theorem dX2_firstError_46 : decode cX2_firstError 46 = .ok (.iload_n 3, 1) := by decide +kernel
theorem dX2_firstError_47 : decode cX2_firstError 47 = .ok (.iload_n 2, 1) := by decide +kernel
theorem dX2_firstError_48 : decode cX2_firstError 48 = .ok (.if_icmp .gt 32, 3) := by decide +kernel
theorem dX2_firstError_51 : decode cX2_firstError 51 = .ok (.iload_n 1, 1) := by decide +kernel
theorem dX2_firstError_52 : decode cX2_firstError 52 = .ok (.iload_n 3, 1) := by decide +kernel
theorem dX2_firstError_53 : decode cX2_firstError 53 = .ok (.iadd, 1) := by decide +kernel
theorem dX2_firstError_54 : decode cX2_firstError 54 = .ok (.aload_n 0, 1) := by decide +kernel
theorem dX2_firstError_55 : decode cX2_firstError 55 = .ok (.getfield 20, 3) := by decide +kernel
theorem dX2_firstError_58 : decode cX2_firstError 58 = .ok (.if_icmp .ge 12, 3) := by decide +kernel
theorem dX2_firstError_61 : decode cX2_firstError 61 = .ok (.aload_n 0, 1) := by decide +kernel
theorem dX2_firstError_62 : decode cX2_firstError 62 = .ok (.iload_n 1, 1) := by decide +kernel
theorem dX2_firstError_63 : decode cX2_firstError 63 = .ok (.iload_n 3, 1) := by decide +kernel
theorem dX2_firstError_64 : decode cX2_firstError 64 = .ok (.invokevirtual 41, 3) := by decide +kernel
theorem dX2_firstError_67 : decode cX2_firstError 67 = .ok (.ifCond .ne 7, 3) := by decide +kernel
theorem dX2_firstError_70 : decode cX2_firstError 70 = .ok (.iload_n 1, 1) := by decide +kernel
theorem dX2_firstError_71 : decode cX2_firstError 71 = .ok (.iload_n 3, 1) := by decide +kernel
theorem dX2_firstError_72 : decode cX2_firstError 72 = .ok (.iadd, 1) := by decide +kernel
theorem dX2_firstError_73 : decode cX2_firstError 73 = .ok (.ireturn, 1) := by decide +kernel
theorem dX2_firstError_74 : decode cX2_firstError 74 = .ok (.iinc 3 1, 3) := by decide +kernel
theorem dX2_firstError_77 : decode cX2_firstError 77 = .ok (.goto (-31), 3) := by decide +kernel
theorem dX2_firstError_80 : decode cX2_firstError 80 = .ok (.iload_n 1, 1) := by decide +kernel
theorem dX2_firstError_81 : decode cX2_firstError 81 = .ok (.iconst 1, 1) := by decide +kernel
theorem dX2_firstError_82 : decode cX2_firstError 82 = .ok (.iload_n 2, 1) := by decide +kernel
theorem dX2_firstError_83 : decode cX2_firstError 83 = .ok (.iadd, 1) := by decide +kernel
theorem dX2_firstError_84 : decode cX2_firstError 84 = .ok (.iadd, 1) := by decide +kernel
theorem dX2_firstError_85 : decode cX2_firstError 85 = .ok (.istore_n 1, 1) := by decide +kernel
theorem dX2_firstError_86 : decode cX2_firstError 86 = .ok (.goto (-65), 3) := by decide +kernel
theorem dX2_firstError_89 : decode cX2_firstError 89 = .ok (.iconst (-1), 1) := by decide +kernel
theorem dX2_firstError_90 : decode cX2_firstError 90 = .ok (.ireturn, 1) := by decide +kernel
theorem cw_X2_24 : uCW RX2 RX6 24 yX6_get cX6_get 2 (some .int) 1 := ⟨gt_in 325 (by decide +kernel) (by decide +kernel), yf_X6_get⟩
theorem yf_X2_digit : (Cond.instanceMethod yX2_digit) ∈ gtbl ∧ (Cond.selects RX2 yX2_digit yX2_digit) ∈ gtbl ∧ (Cond.initialized RX2) ∈ gtbl ∧ (Cond.code yX2_digit cX2_digit 2 (some .int)) ∈ gtbl ∧ (yX2_digit.cls = RX2 ∧ yX2_digit.cls ≠ "java/lang/invoke/MethodHandle" ∧ yX2_digit.cls ≠ "java/lang/invoke/VarHandle" ∧ (parseMethodDescriptor yX2_digit.desc).map (fun d => d.parameters.length) = some 1) := ⟨gt_in 337 (by decide +kernel) (by decide +kernel), gt_in 338 (by decide +kernel) (by decide +kernel), gt_in 24 (by decide +kernel) (by decide +kernel), gt_in 339 (by decide +kernel) (by decide +kernel), by decide +kernel⟩
theorem cw_X2_28 : uCW RX2 RX2 28 yX2_digit cX2_digit 2 (some .int) 1 := ⟨gt_in 336 (by decide +kernel) (by decide +kernel), yf_X2_digit⟩
theorem cw_X2_31 : uCW RX2 RX6 31 yX6_put cX6_put 3 none 2 := ⟨gt_in 561 (by decide +kernel) (by decide +kernel), yf_X6_put⟩
theorem yf_X2_sign : (Cond.instanceMethod yX2_sign) ∈ gtbl ∧ (Cond.selects RX2 yX2_sign yX2_sign) ∈ gtbl ∧ (Cond.initialized RX2) ∈ gtbl ∧ (Cond.code yX2_sign cX2_sign 2 (some .int)) ∈ gtbl ∧ (yX2_sign.cls = RX2 ∧ yX2_sign.cls ≠ "java/lang/invoke/MethodHandle" ∧ yX2_sign.cls ≠ "java/lang/invoke/VarHandle" ∧ (parseMethodDescriptor yX2_sign.desc).map (fun d => d.parameters.length) = some 1) := ⟨gt_in 322 (by decide +kernel) (by decide +kernel), gt_in 323 (by decide +kernel) (by decide +kernel), gt_in 24 (by decide +kernel) (by decide +kernel), gt_in 324 (by decide +kernel) (by decide +kernel), by decide +kernel⟩
theorem cw_X2_35 : uCW RX2 RX2 35 yX2_sign cX2_sign 2 (some .int) 1 := ⟨gt_in 321 (by decide +kernel) (by decide +kernel), yf_X2_sign⟩
theorem yf_X2_digitsOf : (Cond.static yX2_digitsOf) ∈ gtbl ∧ (Cond.initialized yX2_digitsOf.cls) ∈ gtbl ∧ (Cond.code yX2_digitsOf cX2_digitsOf 1 (some .int)) ∈ gtbl ∧ (yX2_digitsOf.cls ≠ "java/lang/invoke/MethodHandle" ∧ yX2_digitsOf.cls ≠ "java/lang/invoke/VarHandle" ∧ (parseMethodDescriptor yX2_digitsOf.desc).map (fun d => d.parameters.length) = some 1) := ⟨gt_in 330 (by decide +kernel) (by decide +kernel), gt_in 24 (by decide +kernel) (by decide +kernel), gt_in 331 (by decide +kernel) (by decide +kernel), by decide +kernel⟩
theorem cw_X2_38 : uCS RX2 38 yX2_digitsOf cX2_digitsOf 1 (some .int) 1 := ⟨gt_in 329 (by decide +kernel) (by decide +kernel), yf_X2_digitsOf⟩
theorem yf_X2_isAllowed : (Cond.instanceMethod yX2_isAllowed) ∈ gtbl ∧ (Cond.selects RX2 yX2_isAllowed yX2_isAllowed) ∈ gtbl ∧ (Cond.initialized RX2) ∈ gtbl ∧ (Cond.code yX2_isAllowed cX2_isAllowed 5 (some .boolean)) ∈ gtbl ∧ (yX2_isAllowed.cls = RX2 ∧ yX2_isAllowed.cls ≠ "java/lang/invoke/MethodHandle" ∧ yX2_isAllowed.cls ≠ "java/lang/invoke/VarHandle" ∧ (parseMethodDescriptor yX2_isAllowed.desc).map (fun d => d.parameters.length) = some 2) := ⟨gt_in 334 (by decide +kernel) (by decide +kernel), gt_in 0 (by decide +kernel) (by decide +kernel), gt_in 24 (by decide +kernel) (by decide +kernel), gt_in 335 (by decide +kernel) (by decide +kernel), by decide +kernel⟩
theorem cw_X2_41 : uCW RX2 RX2 41 yX2_isAllowed cX2_isAllowed 5 (some .boolean) 2 := ⟨gt_in 332 (by decide +kernel) (by decide +kernel), yf_X2_isAllowed⟩
def fX2_length (S : (Nat → Nat → Int32)) : Int32 :=
  lt_ (S 1 1) fun x1 =>
  x1
set_option maxHeartbeats 4000000 in
set_option maxRecDepth 20000 in
theorem kX2_length {l : Launch} {G : UG} {V : uV} (hN : uMn G) {S : (Nat → Nat → Int32)} (hV : V 18 = S)  {r : Int32} (h : fX2_length S = r) : uMi l G yX2_length cX2_length 1 .int (uR 0 0) [.ref (ga G 18 1)] V r V := by
  refine uMi_of rfl (Nat.le_of_ble_eq_true rfl) (fun p e s m args below meth c ls X hret hl M => ?_)
  have hl : lv_has ls 1 [(0, .ref (ga G 18 1))] := hl
  have hx := X.hx
  have hb := X.hb
  unfold fX2_length at h
  refine lv_aload_n hx hb dX2_length_0 rfl (lv_at hl 0 rfl) ?_
  obtain ⟨x1, e2, h⟩ := lt_e h
  refine gf_X2_20 X M hN hV e2 dX2_length_1 ?_
  exact u_iret X hret M h (rfl) rfl dX2_length_4
def fX2_sign (S : (Nat → Nat → Int32)) (a1 : Int32) : Int32 :=
  lt_ (fget 120 (S 3) a1) fun x2 =>
  x2
set_option maxHeartbeats 4000000 in
set_option maxRecDepth 20000 in
theorem kX2_sign {l : Launch} {G : UG} {V : uV} (hN : uMn G) {S : (Nat → Nat → Int32)} (hV : V 18 = S) {a1 : Int32} {r : Int32} (h : fX2_sign S a1 = r) : uMi l G yX2_sign cX2_sign 2 .int (uR 1 21) [.ref (ga G 18 1), .int a1] V r V := by
  refine uMi_of rfl (Nat.le_of_ble_eq_true rfl) (fun p e s m args below meth c ls X hret hl M => ?_)
  have hl : lv_has ls 2 [(0, .ref (ga G 18 1)), (1, .int a1)] := hl
  have hx := X.hx
  have hb := X.hb
  unfold fX2_sign at h
  refine lv_aload_n hx hb dX2_sign_0 rfl (lv_at hl 0 rfl) ?_
  refine gf_X2_14 X M hN dX2_sign_1 ?_
  refine lv_iload_n hx hb dX2_sign_4 rfl (lv_at hl 1 rfl) ?_
  obtain ⟨x2, e1, h⟩ := lt_e h
  refine u_cVi X M hl.1 (kX6_get (uRwN hN) (congrFun hV 3) e1.symm) cw_X2_24 ⟨by decide, by decide⟩ (uR_recv X M (uRwN hN)) rfl rfl (Nat.le_of_ble_eq_true rfl) ⟨Nat.zero_le _, Nat.zero_le _⟩ dX2_sign_5 (fun H locs M n3 => ?_)
  exact u_iret X hret M h (rfl) rfl dX2_sign_8
def fX2_digit (S : (Nat → Nat → Int32)) (a1 : Int32) : Int32 :=
  lt_ (fget 120 (S 3) a1) fun x2 =>
  (x2 - 48)
set_option maxHeartbeats 4000000 in
set_option maxRecDepth 20000 in
theorem kX2_digit {l : Launch} {G : UG} {V : uV} (hN : uMn G) {S : (Nat → Nat → Int32)} (hV : V 18 = S) {a1 : Int32} {r : Int32} (h : fX2_digit S a1 = r) : uMi l G yX2_digit cX2_digit 2 .int (uR 1 21) [.ref (ga G 18 1), .int a1] V r V := by
  refine uMi_of rfl (Nat.le_of_ble_eq_true rfl) (fun p e s m args below meth c ls X hret hl M => ?_)
  have hl : lv_has ls 2 [(0, .ref (ga G 18 1)), (1, .int a1)] := hl
  have hx := X.hx
  have hb := X.hb
  unfold fX2_digit at h
  refine lv_aload_n hx hb dX2_digit_0 rfl (lv_at hl 0 rfl) ?_
  refine gf_X2_14 X M hN dX2_digit_1 ?_
  refine lv_iload_n hx hb dX2_digit_4 rfl (lv_at hl 1 rfl) ?_
  obtain ⟨x2, e1, h⟩ := lt_e h
  refine u_cVi X M hl.1 (kX6_get (uRwN hN) (congrFun hV 3) e1.symm) cw_X2_24 ⟨by decide, by decide⟩ (uR_recv X M (uRwN hN)) rfl rfl (Nat.le_of_ble_eq_true rfl) ⟨Nat.zero_le _, Nat.zero_le _⟩ dX2_digit_5 (fun H locs M n3 => ?_)
  refine lv_bipush (v := 48) hx hb dX2_digit_8 (by decide) ?_
  refine lv_isub hx hb dX2_digit_10 ?_
  exact u_iret X hret M h (rfl) rfl dX2_digit_11
def fX2_twoDigits (S : (Nat → Nat → Int32)) (a1 : Int32) : Int32 :=
  lt_ (fX2_digit S a1) fun x2 =>
  lt_ (fX2_digit S (a1 + 1)) fun x5 =>
  ((10 * x2) + x5)
set_option maxHeartbeats 4000000 in
set_option maxRecDepth 20000 in
theorem kX2_twoDigits {l : Launch} {G : UG} {V : uV} (hN : uMn G) {S : (Nat → Nat → Int32)} (hV : V 18 = S) {a1 : Int32} {r : Int32} (h : fX2_twoDigits S a1 = r) : uMi l G yX2_twoDigits cX2_twoDigits 2 .int (uR 2 42) [.ref (ga G 18 1), .int a1] V r V := by
  refine uMi_of rfl (Nat.le_of_ble_eq_true rfl) (fun p e s m args below meth c ls X hret hl M => ?_)
  have hl : lv_has ls 2 [(0, .ref (ga G 18 1)), (1, .int a1)] := hl
  have hx := X.hx
  have hb := X.hb
  unfold fX2_twoDigits at h
  refine lv_bipush (v := 10) hx hb dX2_twoDigits_0 (by decide) ?_
  refine lv_aload_n hx hb dX2_twoDigits_2 rfl (lv_at hl 0 rfl) ?_
  refine lv_iload_n hx hb dX2_twoDigits_3 rfl (lv_at hl 1 rfl) ?_
  obtain ⟨x2, e1, h⟩ := lt_e h
  refine u_cVi X M hl.1 (kX2_digit hN hV e1.symm) cw_X2_28 ⟨by decide, by decide⟩ (rc_X2 X M hN) rfl rfl (Nat.le_of_ble_eq_true rfl) ⟨Nat.zero_le _, Nat.zero_le _⟩ dX2_twoDigits_4 (fun H locs M n3 => ?_)
  refine lv_imul hx hb dX2_twoDigits_7 ?_
  refine lv_aload_n hx hb dX2_twoDigits_8 rfl (lv_at hl 0 rfl) ?_
  refine lv_iload_n hx hb dX2_twoDigits_9 rfl (lv_at hl 1 rfl) ?_
  refine lv_iconst (v := 1) hx hb dX2_twoDigits_10 (by decide) ?_
  refine lv_iadd hx hb dX2_twoDigits_11 ?_
  obtain ⟨x5, e4, h⟩ := lt_e h
  refine u_cVi X M hl.1 (kX2_digit hN hV e4.symm) cw_X2_28 ⟨by decide, by decide⟩ (rc_X2 X M hN) rfl rfl (Nat.le_of_ble_eq_true rfl) ⟨Nat.zero_le _, Nat.zero_le _⟩ dX2_twoDigits_12 (fun H locs M n6 => ?_)
  refine lv_iadd hx hb dX2_twoDigits_15 ?_
  exact u_iret X hret M h (rfl) rfl dX2_twoDigits_16
def fX2_add (S : (Nat → Nat → Int32)) (a1 : Int32) : Option (Int32 × (Nat → Nat → Int32)) :=
  lt_ (S 1 1) fun x1 =>
  lt_ (va_up S 3 (fput 120 (S 3) x1 a1)) fun S4 =>
  lt_ (S4 1 1) fun x6 =>
  lt_ (va_up S4 1 (upd (S4 1) 1 (x6 + 1))) fun S8 =>
  lt_ (S8 1 1) fun x10 =>
  some (x10, S8)
set_option maxHeartbeats 4000000 in
set_option maxRecDepth 20000 in
theorem kX2_add {l : Launch} {G : UG} {V : uV} (hN : uMn G) {S S' : (Nat → Nat → Int32)} {a1 : Int32} {r : Int32} (h : fX2_add S a1 = some (r, S')) : uMi l G yX2_add cX2_add 2 .int (uR 1 22) [.ref (ga G 18 1), .int a1] (va_up V 18 S) r (va_up V 18 S') := by
  refine uMi_of rfl (Nat.le_of_ble_eq_true rfl) (fun p e s m args below meth c ls X hret hl M => ?_)
  have hl : lv_has ls 2 [(0, .ref (ga G 18 1)), (1, .int a1)] := hl
  have hx := X.hx
  have hb := X.hb
  unfold fX2_add at h
  refine lv_aload_n hx hb dX2_add_0 rfl (lv_at hl 0 rfl) ?_
  refine gf_X2_14 X M hN dX2_add_1 ?_
  refine lv_aload_n hx hb dX2_add_4 rfl (lv_at hl 0 rfl) ?_
  obtain ⟨x1, e2, h⟩ := lt_e h
  refine gf_X2_20 X M hN (va_up_s V 18 _) e2 dX2_add_5 ?_
  refine lv_iload_n hx hb dX2_add_8 rfl (lv_at hl 1 rfl) ?_
  obtain ⟨S4, e3, h⟩ := lt_e h
  refine u_cVv X M hl.1 (kX6_putS (uRwN hN) e3) cw_X2_31 ⟨by decide, by decide⟩ (uR_recv X M (uRwN hN)) rfl rfl (Nat.le_of_ble_eq_true rfl) ⟨Nat.zero_le _, Nat.zero_le _⟩ dX2_add_9 (fun H locs M => ?_)
  refine lv_aload_n hx hb dX2_add_12 rfl (lv_at hl 0 rfl) ?_
  refine lv_dup hx hb dX2_add_13 rfl ?_
  obtain ⟨x6, e7, h⟩ := lt_e h
  refine gf_X2_20 X M hN (va_up_s V 18 _) e7 dX2_add_14 ?_
  refine lv_iconst (v := 1) hx hb dX2_add_17 (by decide) ?_
  refine lv_iadd hx hb dX2_add_18 ?_
  obtain ⟨S8, e9, h⟩ := lt_e h
  refine pf_X2_20 X M hN e9 dX2_add_19 (fun H locs M => ?_)
  refine lv_aload_n hx hb dX2_add_22 rfl (lv_at hl 0 rfl) ?_
  obtain ⟨x10, e11, h⟩ := lt_e h
  refine gf_X2_20 X M hN (va_up_s V 18 _) e11 dX2_add_23 ?_
  exact u_iret X hret M (rt2 h).1 (congrArg (va_up V 18) ((rt2 h).2)) rfl dX2_add_26
def fX2_empty (S : (Nat → Nat → Int32)) : Option (Int32 × (Nat → Nat → Int32)) :=
  lt_ (S 1 1) fun x1 =>
  lt_ (va_up S 1 (upd (S 1) 1 0)) fun S3 =>
  some (x1, S3)
set_option maxHeartbeats 4000000 in
set_option maxRecDepth 20000 in
theorem kX2_empty {l : Launch} {G : UG} {V : uV} (hN : uMn G) {S S' : (Nat → Nat → Int32)}  {r : Int32} (h : fX2_empty S = some (r, S')) : uMi l G yX2_empty cX2_empty 2 .int (uR 0 0) [.ref (ga G 18 1)] (va_up V 18 S) r (va_up V 18 S') := by
  refine uMi_of rfl (Nat.le_of_ble_eq_true rfl) (fun p e s m args below meth c ls X hret hl M => ?_)
  have hl : lv_has ls 2 [(0, .ref (ga G 18 1))] := hl
  have hx := X.hx
  have hb := X.hb
  unfold fX2_empty at h
  refine lv_aload_n hx hb dX2_empty_0 rfl (lv_at hl 0 rfl) ?_
  obtain ⟨x1, e2, h⟩ := lt_e h
  refine gf_X2_20 X M hN (va_up_s V 18 _) e2 dX2_empty_1 ?_
  refine lv_istore_n (lv' := [(1, .int x1), (0, .ref (ga G 18 1))]) hx hb dX2_empty_4 rfl hl (by decide) rfl (fun ls hl => ?_)
  refine lv_aload_n hx hb dX2_empty_5 rfl (lv_at hl 1 rfl) ?_
  refine lv_iconst (v := 0) hx hb dX2_empty_6 (by decide) ?_
  obtain ⟨S3, e4, h⟩ := lt_e h
  refine pf_X2_20 X M hN e4 dX2_empty_7 (fun H locs M => ?_)
  refine lv_iload_n hx hb dX2_empty_10 rfl (lv_at hl 0 rfl) ?_
  exact u_iret X hret M (rt2 h).1 (congrArg (va_up V 18) ((rt2 h).2)) rfl dX2_empty_11
def fX2_digitsOf (a1 : Int32) : Int32 :=
  if a1 = 99 then
    1
  else if a1 = 100 then
    1
  else if a1 = 101 then
    0
  else if a1 = 102 then
    0
  else if a1 = 103 then
    0
  else if a1 = 104 then
    0
  else if a1 = 105 then
    2
  else if a1 = 106 then
    0
  else if a1 = 107 then
    0
  else if a1 = 108 then
    0
  else if a1 = 109 then
    2
  else if a1 = 110 then
    0
  else if a1 = 111 then
    1
  else if a1 = 112 then
    0
  else if a1 = 113 then
    0
  else if a1 = 114 then
    2
  else if a1 = 115 then
    0
  else if a1 = 116 then
    3
  else if a1 = 117 then
    1
  else 
  0
set_option maxHeartbeats 4000000 in
set_option maxRecDepth 20000 in
theorem kX2_digitsOf {l : Launch} {G : UG} {V : uV}  {a1 : Int32} {r : Int32} (h : fX2_digitsOf a1 = r) : uMi l G yX2_digitsOf cX2_digitsOf 1 .int (uR 0 0) [.int a1] V r V := by
  refine uMi_of rfl (Nat.le_of_ble_eq_true rfl) (fun p e s m args below meth c ls X hret hl M => ?_)
  have hl : lv_has ls 1 [(0, .int a1)] := hl
  have hx := X.hx
  have hb := X.hb
  unfold fX2_digitsOf at h
  refine lv_iload_n hx hb dX2_digitsOf_0 rfl (lv_at hl 0 rfl) ?_
  by_cases c1 : a1 = 99
  · have h := it_t h c1
    refine lv_tableIn (off := 91) (tgt := 92) hx hb dX2_digitsOf_1 (by rw [c1]; decide) (by rw [c1]; decide) (by rw [c1]; rfl) (by decide) ?_
    refine lv_iconst (v := 1) hx hb dX2_digitsOf_92 (by decide) ?_
    exact u_iret X hret M h (rfl) rfl dX2_digitsOf_93
  · have h := it_f h c1
    by_cases c2 : a1 = 100
    · have h := it_t h c2
      refine lv_tableIn (off := 91) (tgt := 92) hx hb dX2_digitsOf_1 (by rw [c2]; decide) (by rw [c2]; decide) (by rw [c2]; rfl) (by decide) ?_
      refine lv_iconst (v := 1) hx hb dX2_digitsOf_92 (by decide) ?_
      exact u_iret X hret M h (rfl) rfl dX2_digitsOf_93
    · have h := it_f h c2
      by_cases c3 : a1 = 101
      · have h := it_t h c3
        refine lv_tableIn (off := 97) (tgt := 98) hx hb dX2_digitsOf_1 (by rw [c3]; decide) (by rw [c3]; decide) (by rw [c3]; rfl) (by decide) ?_
        refine lv_iconst (v := 0) hx hb dX2_digitsOf_98 (by decide) ?_
        exact u_iret X hret M h (rfl) rfl dX2_digitsOf_99
      · have h := it_f h c3
        by_cases c4 : a1 = 102
        · have h := it_t h c4
          refine lv_tableIn (off := 97) (tgt := 98) hx hb dX2_digitsOf_1 (by rw [c4]; decide) (by rw [c4]; decide) (by rw [c4]; rfl) (by decide) ?_
          refine lv_iconst (v := 0) hx hb dX2_digitsOf_98 (by decide) ?_
          exact u_iret X hret M h (rfl) rfl dX2_digitsOf_99
        · have h := it_f h c4
          by_cases c5 : a1 = 103
          · have h := it_t h c5
            refine lv_tableIn (off := 97) (tgt := 98) hx hb dX2_digitsOf_1 (by rw [c5]; decide) (by rw [c5]; decide) (by rw [c5]; rfl) (by decide) ?_
            refine lv_iconst (v := 0) hx hb dX2_digitsOf_98 (by decide) ?_
            exact u_iret X hret M h (rfl) rfl dX2_digitsOf_99
          · have h := it_f h c5
            by_cases c6 : a1 = 104
            · have h := it_t h c6
              refine lv_tableIn (off := 97) (tgt := 98) hx hb dX2_digitsOf_1 (by rw [c6]; decide) (by rw [c6]; decide) (by rw [c6]; rfl) (by decide) ?_
              refine lv_iconst (v := 0) hx hb dX2_digitsOf_98 (by decide) ?_
              exact u_iret X hret M h (rfl) rfl dX2_digitsOf_99
            · have h := it_f h c6
              by_cases c7 : a1 = 105
              · have h := it_t h c7
                refine lv_tableIn (off := 93) (tgt := 94) hx hb dX2_digitsOf_1 (by rw [c7]; decide) (by rw [c7]; decide) (by rw [c7]; rfl) (by decide) ?_
                refine lv_iconst (v := 2) hx hb dX2_digitsOf_94 (by decide) ?_
                exact u_iret X hret M h (rfl) rfl dX2_digitsOf_95
              · have h := it_f h c7
                by_cases c8 : a1 = 106
                · have h := it_t h c8
                  refine lv_tableIn (off := 97) (tgt := 98) hx hb dX2_digitsOf_1 (by rw [c8]; decide) (by rw [c8]; decide) (by rw [c8]; rfl) (by decide) ?_
                  refine lv_iconst (v := 0) hx hb dX2_digitsOf_98 (by decide) ?_
                  exact u_iret X hret M h (rfl) rfl dX2_digitsOf_99
                · have h := it_f h c8
                  by_cases c9 : a1 = 107
                  · have h := it_t h c9
                    refine lv_tableIn (off := 97) (tgt := 98) hx hb dX2_digitsOf_1 (by rw [c9]; decide) (by rw [c9]; decide) (by rw [c9]; rfl) (by decide) ?_
                    refine lv_iconst (v := 0) hx hb dX2_digitsOf_98 (by decide) ?_
                    exact u_iret X hret M h (rfl) rfl dX2_digitsOf_99
                  · have h := it_f h c9
                    by_cases c10 : a1 = 108
                    · have h := it_t h c10
                      refine lv_tableIn (off := 97) (tgt := 98) hx hb dX2_digitsOf_1 (by rw [c10]; decide) (by rw [c10]; decide) (by rw [c10]; rfl) (by decide) ?_
                      refine lv_iconst (v := 0) hx hb dX2_digitsOf_98 (by decide) ?_
                      exact u_iret X hret M h (rfl) rfl dX2_digitsOf_99
                    · have h := it_f h c10
                      by_cases c11 : a1 = 109
                      · have h := it_t h c11
                        refine lv_tableIn (off := 93) (tgt := 94) hx hb dX2_digitsOf_1 (by rw [c11]; decide) (by rw [c11]; decide) (by rw [c11]; rfl) (by decide) ?_
                        refine lv_iconst (v := 2) hx hb dX2_digitsOf_94 (by decide) ?_
                        exact u_iret X hret M h (rfl) rfl dX2_digitsOf_95
                      · have h := it_f h c11
                        by_cases c12 : a1 = 110
                        · have h := it_t h c12
                          refine lv_tableIn (off := 97) (tgt := 98) hx hb dX2_digitsOf_1 (by rw [c12]; decide) (by rw [c12]; decide) (by rw [c12]; rfl) (by decide) ?_
                          refine lv_iconst (v := 0) hx hb dX2_digitsOf_98 (by decide) ?_
                          exact u_iret X hret M h (rfl) rfl dX2_digitsOf_99
                        · have h := it_f h c12
                          by_cases c13 : a1 = 111
                          · have h := it_t h c13
                            refine lv_tableIn (off := 91) (tgt := 92) hx hb dX2_digitsOf_1 (by rw [c13]; decide) (by rw [c13]; decide) (by rw [c13]; rfl) (by decide) ?_
                            refine lv_iconst (v := 1) hx hb dX2_digitsOf_92 (by decide) ?_
                            exact u_iret X hret M h (rfl) rfl dX2_digitsOf_93
                          · have h := it_f h c13
                            by_cases c14 : a1 = 112
                            · have h := it_t h c14
                              refine lv_tableIn (off := 97) (tgt := 98) hx hb dX2_digitsOf_1 (by rw [c14]; decide) (by rw [c14]; decide) (by rw [c14]; rfl) (by decide) ?_
                              refine lv_iconst (v := 0) hx hb dX2_digitsOf_98 (by decide) ?_
                              exact u_iret X hret M h (rfl) rfl dX2_digitsOf_99
                            · have h := it_f h c14
                              by_cases c15 : a1 = 113
                              · have h := it_t h c15
                                refine lv_tableIn (off := 97) (tgt := 98) hx hb dX2_digitsOf_1 (by rw [c15]; decide) (by rw [c15]; decide) (by rw [c15]; rfl) (by decide) ?_
                                refine lv_iconst (v := 0) hx hb dX2_digitsOf_98 (by decide) ?_
                                exact u_iret X hret M h (rfl) rfl dX2_digitsOf_99
                              · have h := it_f h c15
                                by_cases c16 : a1 = 114
                                · have h := it_t h c16
                                  refine lv_tableIn (off := 93) (tgt := 94) hx hb dX2_digitsOf_1 (by rw [c16]; decide) (by rw [c16]; decide) (by rw [c16]; rfl) (by decide) ?_
                                  refine lv_iconst (v := 2) hx hb dX2_digitsOf_94 (by decide) ?_
                                  exact u_iret X hret M h (rfl) rfl dX2_digitsOf_95
                                · have h := it_f h c16
                                  by_cases c17 : a1 = 115
                                  · have h := it_t h c17
                                    refine lv_tableIn (off := 97) (tgt := 98) hx hb dX2_digitsOf_1 (by rw [c17]; decide) (by rw [c17]; decide) (by rw [c17]; rfl) (by decide) ?_
                                    refine lv_iconst (v := 0) hx hb dX2_digitsOf_98 (by decide) ?_
                                    exact u_iret X hret M h (rfl) rfl dX2_digitsOf_99
                                  · have h := it_f h c17
                                    by_cases c18 : a1 = 116
                                    · have h := it_t h c18
                                      refine lv_tableIn (off := 95) (tgt := 96) hx hb dX2_digitsOf_1 (by rw [c18]; decide) (by rw [c18]; decide) (by rw [c18]; rfl) (by decide) ?_
                                      refine lv_iconst (v := 3) hx hb dX2_digitsOf_96 (by decide) ?_
                                      exact u_iret X hret M h (rfl) rfl dX2_digitsOf_97
                                    · have h := it_f h c18
                                      by_cases c19 : a1 = 117
                                      · have h := it_t h c19
                                        refine lv_tableIn (off := 91) (tgt := 92) hx hb dX2_digitsOf_1 (by rw [c19]; decide) (by rw [c19]; decide) (by rw [c19]; rfl) (by decide) ?_
                                        refine lv_iconst (v := 1) hx hb dX2_digitsOf_92 (by decide) ?_
                                        exact u_iret X hret M h (rfl) rfl dX2_digitsOf_93
                                      · have h := it_f h c19
                                        have tc1 := lv_neT (a := 99) c1 (by decide)
                                        have tc2 := lv_neT (a := 100) c2 (by decide)
                                        have tc3 := lv_neT (a := 101) c3 (by decide)
                                        have tc4 := lv_neT (a := 102) c4 (by decide)
                                        have tc5 := lv_neT (a := 103) c5 (by decide)
                                        have tc6 := lv_neT (a := 104) c6 (by decide)
                                        have tc7 := lv_neT (a := 105) c7 (by decide)
                                        have tc8 := lv_neT (a := 106) c8 (by decide)
                                        have tc9 := lv_neT (a := 107) c9 (by decide)
                                        have tc10 := lv_neT (a := 108) c10 (by decide)
                                        have tc11 := lv_neT (a := 109) c11 (by decide)
                                        have tc12 := lv_neT (a := 110) c12 (by decide)
                                        have tc13 := lv_neT (a := 111) c13 (by decide)
                                        have tc14 := lv_neT (a := 112) c14 (by decide)
                                        have tc15 := lv_neT (a := 113) c15 (by decide)
                                        have tc16 := lv_neT (a := 114) c16 (by decide)
                                        have tc17 := lv_neT (a := 115) c17 (by decide)
                                        have tc18 := lv_neT (a := 116) c18 (by decide)
                                        have tc19 := lv_neT (a := 117) c19 (by decide)
                                        refine lv_tableOut (tgt := 98) hx hb dX2_digitsOf_1 (by omega) (by decide) ?_
                                        refine lv_iconst (v := 0) hx hb dX2_digitsOf_98 (by decide) ?_
                                        exact u_iret X hret M h (rfl) rfl dX2_digitsOf_99
def fX2_isAllowed (S : (Nat → Nat → Int32)) (a1 : Int32) (a2 : Int32) : Int32 :=
  lt_ (fX2_digit S (a1 + a2)) fun x2 =>
  if x2 < 0 then
    0
  else
    if x2 ≤ 9 then
      lt_ (fX2_digit S ((a1 + a2) - 1)) fun x7 =>
      lt_ (fX2_sign S a1) fun x10 =>
      if x10 = 100 then
        if 4 ≤ x2 then
          0
        else
          1
      else if x10 = 101 then
        1
      else if x10 = 102 then
        1
      else if x10 = 103 then
        1
      else if x10 = 104 then
        1
      else if x10 = 105 then
        1
      else if x10 = 106 then
        1
      else if x10 = 107 then
        1
      else if x10 = 108 then
        1
      else if x10 = 109 then
        if a2 = 1 then
          if 6 < x2 then
            0
          else
            1
        else
          if x7 = 0 then
            if x2 ≤ 0 then
              0
            else
              1
          else
            if x7 < 6 then
              1
            else
              if x2 = 0 then
                1
              else
                0
      else if x10 = 110 then
        1
      else if x10 = 111 then
        if 4 ≤ x2 then
          0
        else
          1
      else if x10 = 112 then
        1
      else if x10 = 113 then
        1
      else if x10 = 114 then
        if a2 = 1 then
          1
        else
          if 4 ≤ x2 then
            0
          else
            1
      else if x10 = 115 then
        1
      else if x10 = 116 then
        if a2 = 1 then
          if 8 ≤ x2 then
            0
          else
            1
        else
          if a2 = 2 then
            1
          else
            if 0 < x7 then
              1
            else
              if x2 ≤ 0 then
                0
              else
                1
      else if x10 = 117 then
        if 4 ≤ x2 then
          0
        else
          1
      else 
      1
    else
      0
set_option maxHeartbeats 4000000 in
set_option maxRecDepth 20000 in
theorem kX2_isAllowed {l : Launch} {G : UG} {V : uV} (hN : uMn G) {S : (Nat → Nat → Int32)} (hV : V 18 = S) {a1 : Int32} {a2 : Int32} {r : Int32} (h : fX2_isAllowed S a1 a2 = r) : uMi l G yX2_isAllowed cX2_isAllowed 5 .boolean (uR 2 42) [.ref (ga G 18 1), .int a1, .int a2] V r V := by
  refine uMi_of rfl (Nat.le_of_ble_eq_true rfl) (fun p e s m args below meth c ls X hret hl M => ?_)
  have hl : lv_has ls 5 [(0, .ref (ga G 18 1)), (1, .int a1), (2, .int a2)] := hl
  have hx := X.hx
  have hb := X.hb
  unfold fX2_isAllowed at h
  refine lv_aload_n hx hb dX2_isAllowed_0 rfl (lv_at hl 0 rfl) ?_
  refine lv_iload_n hx hb dX2_isAllowed_1 rfl (lv_at hl 1 rfl) ?_
  refine lv_iload_n hx hb dX2_isAllowed_2 rfl (lv_at hl 2 rfl) ?_
  refine lv_iadd hx hb dX2_isAllowed_3 ?_
  obtain ⟨x2, e1, h⟩ := lt_e h
  refine u_cVi X M hl.1 (kX2_digit hN hV e1.symm) cw_X2_28 ⟨by decide, by decide⟩ (rc_X2 X M hN) rfl rfl (Nat.le_of_ble_eq_true rfl) ⟨Nat.zero_le _, Nat.zero_le _⟩ dX2_isAllowed_4 (fun H locs M n3 => ?_)
  refine lv_istore_n (lv' := [(3, .int x2), (0, .ref (ga G 18 1)), (1, .int a1), (2, .int a2)]) hx hb dX2_isAllowed_7 rfl hl (by decide) rfl (fun ls hl => ?_)
  refine lv_iload_n hx hb dX2_isAllowed_8 rfl (lv_at hl 0 rfl) ?_
  refine lv_if_lt (tgt := 18) hx hb dX2_isAllowed_9 (by decide) (fun c4 => ?_) (fun c4 => ?_)
  · have h := it_t h c4
    refine lv_iconst (v := 0) hx hb dX2_isAllowed_18 (by decide) ?_
    exact u_iret X hret M h (rfl) rfl dX2_isAllowed_19
  · have h := it_f h c4
    refine lv_iload_n hx hb dX2_isAllowed_12 rfl (lv_at hl 0 rfl) ?_
    refine lv_bipush (v := 9) hx hb dX2_isAllowed_13 (by decide) ?_
    refine lv_icmp_le (tgt := 20) hx hb dX2_isAllowed_15 (by decide) (fun c5 => ?_) (fun c5 => ?_)
    · have h := it_t h c5
      refine lv_aload_n hx hb dX2_isAllowed_20 rfl (lv_at hl 1 rfl) ?_
      refine lv_iload_n hx hb dX2_isAllowed_21 rfl (lv_at hl 2 rfl) ?_
      refine lv_iload_n hx hb dX2_isAllowed_22 rfl (lv_at hl 3 rfl) ?_
      refine lv_iadd hx hb dX2_isAllowed_23 ?_
      refine lv_iconst (v := 1) hx hb dX2_isAllowed_24 (by decide) ?_
      refine lv_isub hx hb dX2_isAllowed_25 ?_
      obtain ⟨x7, e6, h⟩ := lt_e h
      refine u_cVi X M hl.1 (kX2_digit hN hV e6.symm) cw_X2_28 ⟨by decide, by decide⟩ (rc_X2 X M hN) rfl rfl (Nat.le_of_ble_eq_true rfl) ⟨Nat.zero_le _, Nat.zero_le _⟩ dX2_isAllowed_26 (fun H locs M n8 => ?_)
      refine lv_istore (lv' := [(4, .int x7), (3, .int x2), (0, .ref (ga G 18 1)), (1, .int a1), (2, .int a2)]) hx hb dX2_isAllowed_29 hl (by decide) rfl (fun ls hl => ?_)
      refine lv_aload_n hx hb dX2_isAllowed_31 rfl (lv_at hl 2 rfl) ?_
      refine lv_iload_n hx hb dX2_isAllowed_32 rfl (lv_at hl 3 rfl) ?_
      obtain ⟨x10, e9, h⟩ := lt_e h
      refine u_cVi X M hl.1 (kX2_sign hN hV e9.symm) cw_X2_35 ⟨by decide, by decide⟩ (rc_X2 X M hN) rfl rfl (Nat.le_of_ble_eq_true rfl) ⟨Nat.zero_le _, Nat.zero_le _⟩ dX2_isAllowed_33 (fun H locs M n11 => ?_)
      by_cases c12 : x10 = 100
      · have h := it_t h c12
        refine lv_tableIn (off := 104) (tgt := 140) hx hb dX2_isAllowed_36 (by rw [c12]; decide) (by rw [c12]; decide) (by rw [c12]; rfl) (by decide) ?_
        refine lv_iload_n hx hb dX2_isAllowed_140 rfl (lv_at hl 1 rfl) ?_
        refine lv_iconst (v := 4) hx hb dX2_isAllowed_141 (by decide) ?_
        refine lv_icmp_ge (tgt := 149) hx hb dX2_isAllowed_142 (by decide) (fun c13 => ?_) (fun c13 => ?_)
        · have h := it_t h c13
          refine lv_iconst (v := 0) hx hb dX2_isAllowed_149 (by decide) ?_
          exact u_iret X hret M h (rfl) rfl dX2_isAllowed_150
        · have h := it_f h c13
          refine lv_iconst (v := 1) hx hb dX2_isAllowed_145 (by decide) ?_
          refine lv_goto (tgt := 150) hx hb dX2_isAllowed_146 (by decide) ?_
          exact u_iret X hret M h (rfl) rfl dX2_isAllowed_150
      · have h := it_f h c12
        by_cases c14 : x10 = 101
        · have h := it_t h c14
          refine lv_tableIn (off := 207) (tgt := 243) hx hb dX2_isAllowed_36 (by rw [c14]; decide) (by rw [c14]; decide) (by rw [c14]; rfl) (by decide) ?_
          refine lv_iconst (v := 1) hx hb dX2_isAllowed_243 (by decide) ?_
          exact u_iret X hret M h (rfl) rfl dX2_isAllowed_244
        · have h := it_f h c14
          by_cases c15 : x10 = 102
          · have h := it_t h c15
            refine lv_tableIn (off := 207) (tgt := 243) hx hb dX2_isAllowed_36 (by rw [c15]; decide) (by rw [c15]; decide) (by rw [c15]; rfl) (by decide) ?_
            refine lv_iconst (v := 1) hx hb dX2_isAllowed_243 (by decide) ?_
            exact u_iret X hret M h (rfl) rfl dX2_isAllowed_244
          · have h := it_f h c15
            by_cases c16 : x10 = 103
            · have h := it_t h c16
              refine lv_tableIn (off := 207) (tgt := 243) hx hb dX2_isAllowed_36 (by rw [c16]; decide) (by rw [c16]; decide) (by rw [c16]; rfl) (by decide) ?_
              refine lv_iconst (v := 1) hx hb dX2_isAllowed_243 (by decide) ?_
              exact u_iret X hret M h (rfl) rfl dX2_isAllowed_244
            · have h := it_f h c16
              by_cases c17 : x10 = 104
              · have h := it_t h c17
                refine lv_tableIn (off := 207) (tgt := 243) hx hb dX2_isAllowed_36 (by rw [c17]; decide) (by rw [c17]; decide) (by rw [c17]; rfl) (by decide) ?_
                refine lv_iconst (v := 1) hx hb dX2_isAllowed_243 (by decide) ?_
                exact u_iret X hret M h (rfl) rfl dX2_isAllowed_244
              · have h := it_f h c17
                by_cases c18 : x10 = 105
                · have h := it_t h c18
                  refine lv_tableIn (off := 207) (tgt := 243) hx hb dX2_isAllowed_36 (by rw [c18]; decide) (by rw [c18]; decide) (by rw [c18]; rfl) (by decide) ?_
                  refine lv_iconst (v := 1) hx hb dX2_isAllowed_243 (by decide) ?_
                  exact u_iret X hret M h (rfl) rfl dX2_isAllowed_244
                · have h := it_f h c18
                  by_cases c19 : x10 = 106
                  · have h := it_t h c19
                    refine lv_tableIn (off := 207) (tgt := 243) hx hb dX2_isAllowed_36 (by rw [c19]; decide) (by rw [c19]; decide) (by rw [c19]; rfl) (by decide) ?_
                    refine lv_iconst (v := 1) hx hb dX2_isAllowed_243 (by decide) ?_
                    exact u_iret X hret M h (rfl) rfl dX2_isAllowed_244
                  · have h := it_f h c19
                    by_cases c20 : x10 = 107
                    · have h := it_t h c20
                      refine lv_tableIn (off := 207) (tgt := 243) hx hb dX2_isAllowed_36 (by rw [c20]; decide) (by rw [c20]; decide) (by rw [c20]; rfl) (by decide) ?_
                      refine lv_iconst (v := 1) hx hb dX2_isAllowed_243 (by decide) ?_
                      exact u_iret X hret M h (rfl) rfl dX2_isAllowed_244
                    · have h := it_f h c20
                      by_cases c21 : x10 = 108
                      · have h := it_t h c21
                        refine lv_tableIn (off := 207) (tgt := 243) hx hb dX2_isAllowed_36 (by rw [c21]; decide) (by rw [c21]; decide) (by rw [c21]; rfl) (by decide) ?_
                        refine lv_iconst (v := 1) hx hb dX2_isAllowed_243 (by decide) ?_
                        exact u_iret X hret M h (rfl) rfl dX2_isAllowed_244
                      · have h := it_f h c21
                        by_cases c22 : x10 = 109
                        · have h := it_t h c22
                          refine lv_tableIn (off := 154) (tgt := 190) hx hb dX2_isAllowed_36 (by rw [c22]; decide) (by rw [c22]; decide) (by rw [c22]; rfl) (by decide) ?_
                          refine lv_iload_n hx hb dX2_isAllowed_190 rfl (lv_at hl 4 rfl) ?_
                          refine lv_iconst (v := 1) hx hb dX2_isAllowed_191 (by decide) ?_
                          refine lv_icmp_ne (tgt := 209) hx hb dX2_isAllowed_192 (by decide) (fun c23 => ?_) (fun c23 => ?_)
                          · have h := it_f h c23
                            refine lv_iload hx hb dX2_isAllowed_209 (lv_at hl 0 rfl) ?_
                            refine lv_if_ne (tgt := 226) hx hb dX2_isAllowed_211 (by decide) (fun c24 => ?_) (fun c24 => ?_)
                            · have h := it_f h c24
                              refine lv_iload hx hb dX2_isAllowed_226 (lv_at hl 0 rfl) ?_
                              refine lv_bipush (v := 6) hx hb dX2_isAllowed_228 (by decide) ?_
                              refine lv_icmp_lt (tgt := 237) hx hb dX2_isAllowed_230 (by decide) (fun c25 => ?_) (fun c25 => ?_)
                              · have h := it_t h c25
                                refine lv_iconst (v := 1) hx hb dX2_isAllowed_237 (by decide) ?_
                                refine lv_goto (tgt := 242) hx hb dX2_isAllowed_238 (by decide) ?_
                                exact u_iret X hret M h (rfl) rfl dX2_isAllowed_242
                              · have h := it_f h c25
                                refine lv_iload_n hx hb dX2_isAllowed_233 rfl (lv_at hl 1 rfl) ?_
                                refine lv_if_ne (tgt := 241) hx hb dX2_isAllowed_234 (by decide) (fun c26 => ?_) (fun c26 => ?_)
                                · have h := it_f h c26
                                  refine lv_iconst (v := 0) hx hb dX2_isAllowed_241 (by decide) ?_
                                  exact u_iret X hret M h (rfl) rfl dX2_isAllowed_242
                                · have h := it_t h c26
                                  refine lv_iconst (v := 1) hx hb dX2_isAllowed_237 (by decide) ?_
                                  refine lv_goto (tgt := 242) hx hb dX2_isAllowed_238 (by decide) ?_
                                  exact u_iret X hret M h (rfl) rfl dX2_isAllowed_242
                            · have h := it_t h c24
                              refine lv_iload_n hx hb dX2_isAllowed_214 rfl (lv_at hl 1 rfl) ?_
                              refine lv_if_le (tgt := 222) hx hb dX2_isAllowed_215 (by decide) (fun c27 => ?_) (fun c27 => ?_)
                              · have h := it_t h c27
                                refine lv_iconst (v := 0) hx hb dX2_isAllowed_222 (by decide) ?_
                                refine lv_goto (tgt := 242) hx hb dX2_isAllowed_223 (by decide) ?_
                                exact u_iret X hret M h (rfl) rfl dX2_isAllowed_242
                              · have h := it_f h c27
                                refine lv_iconst (v := 1) hx hb dX2_isAllowed_218 (by decide) ?_
                                refine lv_goto (tgt := 242) hx hb dX2_isAllowed_219 (by decide) ?_
                                exact u_iret X hret M h (rfl) rfl dX2_isAllowed_242
                          · have h := it_t h c23
                            refine lv_iload_n hx hb dX2_isAllowed_195 rfl (lv_at hl 1 rfl) ?_
                            refine lv_bipush (v := 6) hx hb dX2_isAllowed_196 (by decide) ?_
                            refine lv_icmp_gt (tgt := 205) hx hb dX2_isAllowed_198 (by decide) (fun c28 => ?_) (fun c28 => ?_)
                            · have h := it_t h c28
                              refine lv_iconst (v := 0) hx hb dX2_isAllowed_205 (by decide) ?_
                              refine lv_goto (tgt := 242) hx hb dX2_isAllowed_206 (by decide) ?_
                              exact u_iret X hret M h (rfl) rfl dX2_isAllowed_242
                            · have h := it_f h c28
                              refine lv_iconst (v := 1) hx hb dX2_isAllowed_201 (by decide) ?_
                              refine lv_goto (tgt := 242) hx hb dX2_isAllowed_202 (by decide) ?_
                              exact u_iret X hret M h (rfl) rfl dX2_isAllowed_242
                        · have h := it_f h c22
                          by_cases c29 : x10 = 110
                          · have h := it_t h c29
                            refine lv_tableIn (off := 207) (tgt := 243) hx hb dX2_isAllowed_36 (by rw [c29]; decide) (by rw [c29]; decide) (by rw [c29]; rfl) (by decide) ?_
                            refine lv_iconst (v := 1) hx hb dX2_isAllowed_243 (by decide) ?_
                            exact u_iret X hret M h (rfl) rfl dX2_isAllowed_244
                          · have h := it_f h c29
                            by_cases c30 : x10 = 111
                            · have h := it_t h c30
                              refine lv_tableIn (off := 104) (tgt := 140) hx hb dX2_isAllowed_36 (by rw [c30]; decide) (by rw [c30]; decide) (by rw [c30]; rfl) (by decide) ?_
                              refine lv_iload_n hx hb dX2_isAllowed_140 rfl (lv_at hl 1 rfl) ?_
                              refine lv_iconst (v := 4) hx hb dX2_isAllowed_141 (by decide) ?_
                              refine lv_icmp_ge (tgt := 149) hx hb dX2_isAllowed_142 (by decide) (fun c31 => ?_) (fun c31 => ?_)
                              · have h := it_t h c31
                                refine lv_iconst (v := 0) hx hb dX2_isAllowed_149 (by decide) ?_
                                exact u_iret X hret M h (rfl) rfl dX2_isAllowed_150
                              · have h := it_f h c31
                                refine lv_iconst (v := 1) hx hb dX2_isAllowed_145 (by decide) ?_
                                refine lv_goto (tgt := 150) hx hb dX2_isAllowed_146 (by decide) ?_
                                exact u_iret X hret M h (rfl) rfl dX2_isAllowed_150
                            · have h := it_f h c30
                              by_cases c32 : x10 = 112
                              · have h := it_t h c32
                                refine lv_tableIn (off := 207) (tgt := 243) hx hb dX2_isAllowed_36 (by rw [c32]; decide) (by rw [c32]; decide) (by rw [c32]; rfl) (by decide) ?_
                                refine lv_iconst (v := 1) hx hb dX2_isAllowed_243 (by decide) ?_
                                exact u_iret X hret M h (rfl) rfl dX2_isAllowed_244
                              · have h := it_f h c32
                                by_cases c33 : x10 = 113
                                · have h := it_t h c33
                                  refine lv_tableIn (off := 207) (tgt := 243) hx hb dX2_isAllowed_36 (by rw [c33]; decide) (by rw [c33]; decide) (by rw [c33]; rfl) (by decide) ?_
                                  refine lv_iconst (v := 1) hx hb dX2_isAllowed_243 (by decide) ?_
                                  exact u_iret X hret M h (rfl) rfl dX2_isAllowed_244
                                · have h := it_f h c33
                                  by_cases c34 : x10 = 114
                                  · have h := it_t h c34
                                    refine lv_tableIn (off := 88) (tgt := 124) hx hb dX2_isAllowed_36 (by rw [c34]; decide) (by rw [c34]; decide) (by rw [c34]; rfl) (by decide) ?_
                                    refine lv_iload_n hx hb dX2_isAllowed_124 rfl (lv_at hl 4 rfl) ?_
                                    refine lv_iconst (v := 1) hx hb dX2_isAllowed_125 (by decide) ?_
                                    refine lv_icmp_eq (tgt := 134) hx hb dX2_isAllowed_126 (by decide) (fun c35 => ?_) (fun c35 => ?_)
                                    · have h := it_t h c35
                                      refine lv_iconst (v := 1) hx hb dX2_isAllowed_134 (by decide) ?_
                                      refine lv_goto (tgt := 139) hx hb dX2_isAllowed_135 (by decide) ?_
                                      exact u_iret X hret M h (rfl) rfl dX2_isAllowed_139
                                    · have h := it_f h c35
                                      refine lv_iload_n hx hb dX2_isAllowed_129 rfl (lv_at hl 1 rfl) ?_
                                      refine lv_iconst (v := 4) hx hb dX2_isAllowed_130 (by decide) ?_
                                      refine lv_icmp_ge (tgt := 138) hx hb dX2_isAllowed_131 (by decide) (fun c36 => ?_) (fun c36 => ?_)
                                      · have h := it_t h c36
                                        refine lv_iconst (v := 0) hx hb dX2_isAllowed_138 (by decide) ?_
                                        exact u_iret X hret M h (rfl) rfl dX2_isAllowed_139
                                      · have h := it_f h c36
                                        refine lv_iconst (v := 1) hx hb dX2_isAllowed_134 (by decide) ?_
                                        refine lv_goto (tgt := 139) hx hb dX2_isAllowed_135 (by decide) ?_
                                        exact u_iret X hret M h (rfl) rfl dX2_isAllowed_139
                                  · have h := it_f h c34
                                    by_cases c37 : x10 = 115
                                    · have h := it_t h c37
                                      refine lv_tableIn (off := 207) (tgt := 243) hx hb dX2_isAllowed_36 (by rw [c37]; decide) (by rw [c37]; decide) (by rw [c37]; rfl) (by decide) ?_
                                      refine lv_iconst (v := 1) hx hb dX2_isAllowed_243 (by decide) ?_
                                      exact u_iret X hret M h (rfl) rfl dX2_isAllowed_244
                                    · have h := it_f h c37
                                      by_cases c38 : x10 = 116
                                      · have h := it_t h c38
                                        refine lv_tableIn (off := 115) (tgt := 151) hx hb dX2_isAllowed_36 (by rw [c38]; decide) (by rw [c38]; decide) (by rw [c38]; rfl) (by decide) ?_
                                        refine lv_iload_n hx hb dX2_isAllowed_151 rfl (lv_at hl 4 rfl) ?_
                                        refine lv_iconst (v := 1) hx hb dX2_isAllowed_152 (by decide) ?_
                                        refine lv_icmp_ne (tgt := 170) hx hb dX2_isAllowed_153 (by decide) (fun c39 => ?_) (fun c39 => ?_)
                                        · have h := it_f h c39
                                          refine lv_iload_n hx hb dX2_isAllowed_170 rfl (lv_at hl 4 rfl) ?_
                                          refine lv_iconst (v := 2) hx hb dX2_isAllowed_171 (by decide) ?_
                                          refine lv_icmp_eq (tgt := 184) hx hb dX2_isAllowed_172 (by decide) (fun c40 => ?_) (fun c40 => ?_)
                                          · have h := it_t h c40
                                            refine lv_iconst (v := 1) hx hb dX2_isAllowed_184 (by decide) ?_
                                            refine lv_goto (tgt := 189) hx hb dX2_isAllowed_185 (by decide) ?_
                                            exact u_iret X hret M h (rfl) rfl dX2_isAllowed_189
                                          · have h := it_f h c40
                                            refine lv_iload hx hb dX2_isAllowed_175 (lv_at hl 0 rfl) ?_
                                            refine lv_if_gt (tgt := 184) hx hb dX2_isAllowed_177 (by decide) (fun c41 => ?_) (fun c41 => ?_)
                                            · have h := it_t h c41
                                              refine lv_iconst (v := 1) hx hb dX2_isAllowed_184 (by decide) ?_
                                              refine lv_goto (tgt := 189) hx hb dX2_isAllowed_185 (by decide) ?_
                                              exact u_iret X hret M h (rfl) rfl dX2_isAllowed_189
                                            · have h := it_f h c41
                                              refine lv_iload_n hx hb dX2_isAllowed_180 rfl (lv_at hl 1 rfl) ?_
                                              refine lv_if_le (tgt := 188) hx hb dX2_isAllowed_181 (by decide) (fun c42 => ?_) (fun c42 => ?_)
                                              · have h := it_t h c42
                                                refine lv_iconst (v := 0) hx hb dX2_isAllowed_188 (by decide) ?_
                                                exact u_iret X hret M h (rfl) rfl dX2_isAllowed_189
                                              · have h := it_f h c42
                                                refine lv_iconst (v := 1) hx hb dX2_isAllowed_184 (by decide) ?_
                                                refine lv_goto (tgt := 189) hx hb dX2_isAllowed_185 (by decide) ?_
                                                exact u_iret X hret M h (rfl) rfl dX2_isAllowed_189
                                        · have h := it_t h c39
                                          refine lv_iload_n hx hb dX2_isAllowed_156 rfl (lv_at hl 1 rfl) ?_
                                          refine lv_bipush (v := 8) hx hb dX2_isAllowed_157 (by decide) ?_
                                          refine lv_icmp_ge (tgt := 166) hx hb dX2_isAllowed_159 (by decide) (fun c43 => ?_) (fun c43 => ?_)
                                          · have h := it_t h c43
                                            refine lv_iconst (v := 0) hx hb dX2_isAllowed_166 (by decide) ?_
                                            refine lv_goto (tgt := 189) hx hb dX2_isAllowed_167 (by decide) ?_
                                            exact u_iret X hret M h (rfl) rfl dX2_isAllowed_189
                                          · have h := it_f h c43
                                            refine lv_iconst (v := 1) hx hb dX2_isAllowed_162 (by decide) ?_
                                            refine lv_goto (tgt := 189) hx hb dX2_isAllowed_163 (by decide) ?_
                                            exact u_iret X hret M h (rfl) rfl dX2_isAllowed_189
                                      · have h := it_f h c38
                                        by_cases c44 : x10 = 117
                                        · have h := it_t h c44
                                          refine lv_tableIn (off := 104) (tgt := 140) hx hb dX2_isAllowed_36 (by rw [c44]; decide) (by rw [c44]; decide) (by rw [c44]; rfl) (by decide) ?_
                                          refine lv_iload_n hx hb dX2_isAllowed_140 rfl (lv_at hl 1 rfl) ?_
                                          refine lv_iconst (v := 4) hx hb dX2_isAllowed_141 (by decide) ?_
                                          refine lv_icmp_ge (tgt := 149) hx hb dX2_isAllowed_142 (by decide) (fun c45 => ?_) (fun c45 => ?_)
                                          · have h := it_t h c45
                                            refine lv_iconst (v := 0) hx hb dX2_isAllowed_149 (by decide) ?_
                                            exact u_iret X hret M h (rfl) rfl dX2_isAllowed_150
                                          · have h := it_f h c45
                                            refine lv_iconst (v := 1) hx hb dX2_isAllowed_145 (by decide) ?_
                                            refine lv_goto (tgt := 150) hx hb dX2_isAllowed_146 (by decide) ?_
                                            exact u_iret X hret M h (rfl) rfl dX2_isAllowed_150
                                        · have h := it_f h c44
                                          have tc12 := lv_neT (a := 100) c12 (by decide)
                                          have tc14 := lv_neT (a := 101) c14 (by decide)
                                          have tc15 := lv_neT (a := 102) c15 (by decide)
                                          have tc16 := lv_neT (a := 103) c16 (by decide)
                                          have tc17 := lv_neT (a := 104) c17 (by decide)
                                          have tc18 := lv_neT (a := 105) c18 (by decide)
                                          have tc19 := lv_neT (a := 106) c19 (by decide)
                                          have tc20 := lv_neT (a := 107) c20 (by decide)
                                          have tc21 := lv_neT (a := 108) c21 (by decide)
                                          have tc22 := lv_neT (a := 109) c22 (by decide)
                                          have tc29 := lv_neT (a := 110) c29 (by decide)
                                          have tc30 := lv_neT (a := 111) c30 (by decide)
                                          have tc32 := lv_neT (a := 112) c32 (by decide)
                                          have tc33 := lv_neT (a := 113) c33 (by decide)
                                          have tc34 := lv_neT (a := 114) c34 (by decide)
                                          have tc37 := lv_neT (a := 115) c37 (by decide)
                                          have tc38 := lv_neT (a := 116) c38 (by decide)
                                          have tc44 := lv_neT (a := 117) c44 (by decide)
                                          refine lv_tableOut (tgt := 243) hx hb dX2_isAllowed_36 (by omega) (by decide) ?_
                                          refine lv_iconst (v := 1) hx hb dX2_isAllowed_243 (by decide) ?_
                                          exact u_iret X hret M h (rfl) rfl dX2_isAllowed_244
    · have h := it_f h c5
      refine lv_iconst (v := 0) hx hb dX2_isAllowed_18 (by decide) ?_
      exact u_iret X hret M h (rfl) rfl dX2_isAllowed_19
def fX2_firstError_L46 (k : Int32 → Int32 → Int32 → Option Int32) (S : (Nat → Nat → Int32)) (n : Nat) (y1 : Int32) (y2 : Int32) (y3 : Int32) : Option Int32 :=
  match n with
  | 0 => none
  | n + 1 =>
    if y2 < y3 then
      k y1 y2 y3
    else
      lt_ (S 1 1) fun x19 =>
      if x19 ≤ (y1 + y3) then
        some (y1 + y3)
      else
        lt_ (fX2_isAllowed S y1 y3) fun x23 =>
        if x23 = 0 then
          some (y1 + y3)
        else
          lt_ (y3 + 1) fun x26 =>
          fX2_firstError_L46 k S n y1 y2 x26
set_option maxHeartbeats 4000000 in
set_option maxRecDepth 20000 in
theorem lpX2_firstError_46 {l : Launch} {G : UG} {V : uV} (hN : uMn G) {S : (Nat → Nat → Int32)} (hV : V 18 = S) {r : Int32} {p : Program} {e : Env} {s : State} {m : MethodId} {args : Array Value} {below : List Frame} {meth : Method} {c : Code} (X : UC p s m args meth c cX2_firstError 4 RX2 G) (hret : meth.sig.returnType = some .int) {k : Int32 → Int32 → Int32 → Option Int32} (kk : ∀ (y1 : Int32) (y2 : Int32) (y3 : Int32) (H : Heap) (locs : List Loc) (ls : Array Slot), k y1 y2 y3 = some r → UM G (V) s H locs → lv_has ls 4 [(0, .ref (ga G 18 1)), (1, .int y1), (2, .int y2), (3, .int y3)] → W p l e (uR 3 66) s m args below meth c H locs 0 0 (MQ below (uQi G .int r V) args s 0 0 (uA G)) (F0 m 80 ls [])) : ∀ (n : Nat) (y1 : Int32) (y2 : Int32) (y3 : Int32) (H : Heap) (locs : List Loc) (ls : Array Slot), fX2_firstError_L46 k S n y1 y2 y3 = some r → UM G (V) s H locs → lv_has ls 4 [(0, .ref (ga G 18 1)), (1, .int y1), (2, .int y2), (3, .int y3)] → W p l e (uR 3 66) s m args below meth c H locs 0 0 (MQ below (uQi G .int r V) args s 0 0 (uA G)) (F0 m 46 ls []) := by
  intro n
  have hx := X.hx
  have hb := X.hb
  induction n with
  | zero => intro y1 y2 y3 H locs ls h M hl; rw [fX2_firstError_L46] at h; cases h
  | succ n ih =>
    intro y1 y2 y3 H locs ls h M hl
    rw [fX2_firstError_L46] at h
    refine lv_iload_n hx hb dX2_firstError_46 rfl (lv_at hl 3 rfl) ?_
    refine lv_iload_n hx hb dX2_firstError_47 rfl (lv_at hl 2 rfl) ?_
    refine lv_icmp_gt (tgt := 80) hx hb dX2_firstError_48 (by decide) (fun c18 => ?_) (fun c18 => ?_)
    · have h := it_t h c18
      exact kk _ _ _ _ _ _ h M (lv_sub hl [0, 1, 2, 3] rfl)
    · have h := it_f h c18
      refine lv_iload_n hx hb dX2_firstError_51 rfl (lv_at hl 1 rfl) ?_
      refine lv_iload_n hx hb dX2_firstError_52 rfl (lv_at hl 3 rfl) ?_
      refine lv_iadd hx hb dX2_firstError_53 ?_
      refine lv_aload_n hx hb dX2_firstError_54 rfl (lv_at hl 0 rfl) ?_
      obtain ⟨x19, e20, h⟩ := lt_e h
      refine gf_X2_20 X M hN hV e20 dX2_firstError_55 ?_
      refine lv_icmp_ge (tgt := 70) hx hb dX2_firstError_58 (by decide) (fun c21 => ?_) (fun c21 => ?_)
      · have h := it_t h c21
        refine lv_iload_n hx hb dX2_firstError_70 rfl (lv_at hl 1 rfl) ?_
        refine lv_iload_n hx hb dX2_firstError_71 rfl (lv_at hl 3 rfl) ?_
        refine lv_iadd hx hb dX2_firstError_72 ?_
        exact u_iret X hret M (Option.some.inj h) (rfl) rfl dX2_firstError_73
      · have h := it_f h c21
        refine lv_aload_n hx hb dX2_firstError_61 rfl (lv_at hl 0 rfl) ?_
        refine lv_iload_n hx hb dX2_firstError_62 rfl (lv_at hl 1 rfl) ?_
        refine lv_iload_n hx hb dX2_firstError_63 rfl (lv_at hl 3 rfl) ?_
        obtain ⟨x23, e22, h⟩ := lt_e h
        refine u_cVi X M hl.1 (kX2_isAllowed hN hV e22.symm) cw_X2_41 ⟨by decide, by decide⟩ (rc_X2 X M hN) rfl rfl (Nat.le_of_ble_eq_true rfl) ⟨Nat.zero_le _, Nat.zero_le _⟩ dX2_firstError_64 (fun H locs M n24 => ?_)
        refine lv_if_ne (tgt := 74) hx hb dX2_firstError_67 (by decide) (fun c25 => ?_) (fun c25 => ?_)
        · have h := it_f h c25
          obtain ⟨x26, e27, h⟩ := lt_e h
          refine lv_iinc (v := x26) (lv' := [(3, .int x26), (0, .ref (ga G 18 1)), (1, .int y1), (2, .int y2)]) hx hb dX2_firstError_74 hl (k := 3) rfl (by rw [e27]; rfl) (by decide) rfl (fun ls hl => ?_)
          refine lv_goto (tgt := 46) hx hb dX2_firstError_77 (by decide) ?_
          exact ih _ _ _ _ _ _ h M (lv_sub hl [1, 2, 3, 0] rfl)
        · have h := it_t h c25
          refine lv_iload_n hx hb dX2_firstError_70 rfl (lv_at hl 1 rfl) ?_
          refine lv_iload_n hx hb dX2_firstError_71 rfl (lv_at hl 3 rfl) ?_
          refine lv_iadd hx hb dX2_firstError_72 ?_
          exact u_iret X hret M (Option.some.inj h) (rfl) rfl dX2_firstError_73
def fX2_firstError_L21 (S : (Nat → Nat → Int32)) (n : Nat) (y1 : Int32) : Option Int32 :=
  match n with
  | 0 => none
  | n + 1 =>
    lt_ (S 1 1) fun x8 =>
    if x8 ≤ y1 then
      some (-1)
    else
      lt_ (fX2_sign S y1) fun x12 =>
      lt_ (fX2_digitsOf  x12) fun x15 =>
      if x15 = 0 then
        some y1
      else
        fX2_firstError_L46 (fun x28 x29 x30 =>
            lt_ ((x28 + (1 + x29))) fun x31 =>
            fX2_firstError_L21 S n x31) S 3000 y1 x15 1
set_option maxHeartbeats 4000000 in
set_option maxRecDepth 20000 in
theorem lpX2_firstError_21 {l : Launch} {G : UG} {V : uV} (hN : uMn G) {S : (Nat → Nat → Int32)} (hV : V 18 = S) {r : Int32} {p : Program} {e : Env} {s : State} {m : MethodId} {args : Array Value} {below : List Frame} {meth : Method} {c : Code} (X : UC p s m args meth c cX2_firstError 4 RX2 G) (hret : meth.sig.returnType = some .int) : ∀ (n : Nat) (y1 : Int32) (H : Heap) (locs : List Loc) (ls : Array Slot), fX2_firstError_L21 S n y1 = some r → UM G (V) s H locs → lv_has ls 4 [(0, .ref (ga G 18 1)), (1, .int y1)] → W p l e (uR 3 66) s m args below meth c H locs 0 0 (MQ below (uQi G .int r V) args s 0 0 (uA G)) (F0 m 21 ls []) := by
  intro n
  have hx := X.hx
  have hb := X.hb
  induction n with
  | zero => intro y1 H locs ls h M hl; rw [fX2_firstError_L21] at h; cases h
  | succ n ih =>
    intro y1 H locs ls h M hl
    rw [fX2_firstError_L21] at h
    refine lv_iload_n hx hb dX2_firstError_21 rfl (lv_at hl 1 rfl) ?_
    refine lv_aload_n hx hb dX2_firstError_22 rfl (lv_at hl 0 rfl) ?_
    obtain ⟨x8, e9, h⟩ := lt_e h
    refine gf_X2_20 X M hN hV e9 dX2_firstError_23 ?_
    refine lv_icmp_ge (tgt := 89) hx hb dX2_firstError_26 (by decide) (fun c10 => ?_) (fun c10 => ?_)
    · have h := it_t h c10
      refine lv_iconst (v := (-1)) hx hb dX2_firstError_89 (by decide) ?_
      exact u_iret X hret M (Option.some.inj h) (rfl) rfl dX2_firstError_90
    · have h := it_f h c10
      refine lv_aload_n hx hb dX2_firstError_29 rfl (lv_at hl 0 rfl) ?_
      refine lv_iload_n hx hb dX2_firstError_30 rfl (lv_at hl 1 rfl) ?_
      obtain ⟨x12, e11, h⟩ := lt_e h
      refine u_cVi X M hl.1 (kX2_sign hN hV e11.symm) cw_X2_35 ⟨by decide, by decide⟩ (rc_X2 X M hN) rfl rfl (Nat.le_of_ble_eq_true rfl) ⟨Nat.zero_le _, Nat.zero_le _⟩ dX2_firstError_31 (fun H locs M n13 => ?_)
      obtain ⟨x15, e14, h⟩ := lt_e h
      refine u_cSi X M hl.1 (kX2_digitsOf  e14.symm) cw_X2_38 ⟨by decide, by decide⟩ rfl rfl (Nat.le_of_ble_eq_true rfl) ⟨Nat.zero_le _, Nat.zero_le _⟩ dX2_firstError_34 (fun H locs M n16 => ?_)
      refine lv_istore_n (lv' := [(2, .int x15), (0, .ref (ga G 18 1)), (1, .int y1)]) hx hb dX2_firstError_37 rfl hl (by decide) rfl (fun ls hl => ?_)
      refine lv_iload_n hx hb dX2_firstError_38 rfl (lv_at hl 0 rfl) ?_
      refine lv_if_ne (tgt := 44) hx hb dX2_firstError_39 (by decide) (fun c17 => ?_) (fun c17 => ?_)
      · have h := it_f h c17
        refine lv_iconst (v := 1) hx hb dX2_firstError_44 (by decide) ?_
        refine lv_istore_n (lv' := [(3, .int 1), (2, .int x15), (0, .ref (ga G 18 1)), (1, .int y1)]) hx hb dX2_firstError_45 rfl hl (by decide) rfl (fun ls hl => ?_)
        refine lpX2_firstError_46 hN hV X hret (fun x28 x29 x30 H locs ls h M hl => ?_) 3000 _ _ _ _ _ _ h M (lv_sub hl [2, 3, 1, 0] rfl)
        refine lv_iload_n hx hb dX2_firstError_80 rfl (lv_at hl 1 rfl) ?_
        refine lv_iconst (v := 1) hx hb dX2_firstError_81 (by decide) ?_
        refine lv_iload_n hx hb dX2_firstError_82 rfl (lv_at hl 2 rfl) ?_
        refine lv_iadd hx hb dX2_firstError_83 ?_
        refine lv_iadd hx hb dX2_firstError_84 ?_
        obtain ⟨x31, e32, h⟩ := lt_e h
        refine u_topi e32 ?_
        refine lv_istore_n (lv' := [(1, .int x31), (0, .ref (ga G 18 1)), (2, .int x29), (3, .int x30)]) hx hb dX2_firstError_85 rfl hl (by decide) rfl (fun ls hl => ?_)
        refine lv_goto (tgt := 21) hx hb dX2_firstError_86 (by decide) ?_
        exact ih _ _ _ _ h M (lv_sub hl [1, 0] rfl)
      · have h := it_t h c17
        refine lv_iload_n hx hb dX2_firstError_42 rfl (lv_at hl 2 rfl) ?_
        exact u_iret X hret M (Option.some.inj h) (rfl) rfl dX2_firstError_43
def fX2_firstError (S : (Nat → Nat → Int32)) : Option Int32 :=
  lt_ (S 1 1) fun x1 =>
  if x1 = 0 then
    some 0
  else
    lt_ (fX2_sign S 0) fun x5 =>
    if x5 = 79 then
      fX2_firstError_L21 S 3000 1
    else
      some 0
set_option maxHeartbeats 4000000 in
set_option maxRecDepth 20000 in
theorem kX2_firstError {l : Launch} {G : UG} {V : uV} (hN : uMn G) {S : (Nat → Nat → Int32)} (hV : V 18 = S)  {r : Int32} (h : fX2_firstError S = some r) : uMi l G yX2_firstError cX2_firstError 4 .int (uR 3 66) [.ref (ga G 18 1)] V r V := by
  refine uMi_of rfl (Nat.le_of_ble_eq_true rfl) (fun p e s m args below meth c ls X hret hl M => ?_)
  have hl : lv_has ls 4 [(0, .ref (ga G 18 1))] := hl
  have hx := X.hx
  have hb := X.hb
  unfold fX2_firstError at h
  refine lv_aload_n hx hb dX2_firstError_0 rfl (lv_at hl 0 rfl) ?_
  obtain ⟨x1, e2, h⟩ := lt_e h
  refine gf_X2_20 X M hN hV e2 dX2_firstError_1 ?_
  refine lv_if_eq (tgt := 17) hx hb dX2_firstError_4 (by decide) (fun c3 => ?_) (fun c3 => ?_)
  · have h := it_t h c3
    refine lv_iconst (v := 0) hx hb dX2_firstError_17 (by decide) ?_
    exact u_iret X hret M (Option.some.inj h) (rfl) rfl dX2_firstError_18
  · have h := it_f h c3
    refine lv_aload_n hx hb dX2_firstError_7 rfl (lv_at hl 0 rfl) ?_
    refine lv_iconst (v := 0) hx hb dX2_firstError_8 (by decide) ?_
    obtain ⟨x5, e4, h⟩ := lt_e h
    refine u_cVi X M hl.1 (kX2_sign hN hV e4.symm) cw_X2_35 ⟨by decide, by decide⟩ (rc_X2 X M hN) rfl rfl (Nat.le_of_ble_eq_true rfl) ⟨Nat.zero_le _, Nat.zero_le _⟩ dX2_firstError_9 (fun H locs M n6 => ?_)
    refine lv_bipush (v := 79) hx hb dX2_firstError_12 (by decide) ?_
    refine lv_icmp_eq (tgt := 19) hx hb dX2_firstError_14 (by decide) (fun c7 => ?_) (fun c7 => ?_)
    · have h := it_t h c7
      refine lv_iconst (v := 1) hx hb dX2_firstError_19 (by decide) ?_
      refine lv_istore_n (lv' := [(1, .int 1), (0, .ref (ga G 18 1))]) hx hb dX2_firstError_20 rfl hl (by decide) rfl (fun ls hl => ?_)
      exact lpX2_firstError_21 hN hV X hret 3000 _ _ _ _ h M (lv_sub hl [1, 0] rfl)
    · have h := it_f h c7
      refine lv_iconst (v := 0) hx hb dX2_firstError_17 (by decide) ?_
      exact u_iret X hret M (Option.some.inj h) (rfl) rfl dX2_firstError_18
end
section
theorem dX1_perform_0 : decode cX1_perform 0 = .ok (.aload_n 1, 1) := by decide +kernel
theorem dX1_perform_1 : decode cX1_perform 1 = .ok (.iload_n 2, 1) := by decide +kernel
theorem dX1_perform_2 : decode cX1_perform 2 = .ok (.iconst 1, 1) := by decide +kernel
theorem dX1_perform_3 : decode cX1_perform 3 = .ok (.iadd, 1) := by decide +kernel
theorem dX1_perform_4 : decode cX1_perform 4 = .ok (.invokevirtual 9, 3) := by decide +kernel
theorem dX1_perform_7 : decode cX1_perform 7 = .ok (.istore_n 3, 1) := by decide +kernel
theorem dX1_perform_8 : decode cX1_perform 8 = .ok (.aload_n 1, 1) := by decide +kernel
theorem dX1_perform_9 : decode cX1_perform 9 = .ok (.iload_n 2, 1) := by decide +kernel
theorem dX1_perform_10 : decode cX1_perform 10 = .ok (.invokevirtual 15, 3) := by decide +kernel
theorem dX1_perform_13 : decode cX1_perform 13 = .ok (.tableswitch 162 99 117 #[103, 144, 162, 162, 162, 162, 91, 162, 162, 162, 162, 162, 156, 162, 162, 109, 162, 131, 150], 91) := by decide +kernel
theorem dX1_perform_104 : decode cX1_perform 104 = .ok (.aload_n 0, 1) := by decide +kernel
theorem dX1_perform_105 : decode cX1_perform 105 = .ok (.aload_n 1, 1) := by decide +kernel
theorem dX1_perform_106 : decode cX1_perform 106 = .ok (.iload_n 2, 1) := by decide +kernel
theorem dX1_perform_107 : decode cX1_perform 107 = .ok (.iconst 1, 1) := by decide +kernel
theorem dX1_perform_108 : decode cX1_perform 108 = .ok (.iadd, 1) := by decide +kernel
theorem dX1_perform_109 : decode cX1_perform 109 = .ok (.invokevirtual 18, 3) := by decide +kernel
theorem dX1_perform_112 : decode cX1_perform 112 = .ok (.invokevirtual 21, 3) := by decide +kernel
theorem dX1_perform_115 : decode cX1_perform 115 = .ok (.ireturn, 1) := by decide +kernel
theorem dX1_perform_116 : decode cX1_perform 116 = .ok (.aload_n 0, 1) := by decide +kernel
theorem dX1_perform_117 : decode cX1_perform 117 = .ok (.iload_n 3, 1) := by decide +kernel
theorem dX1_perform_118 : decode cX1_perform 118 = .ok (.invokevirtual 27, 3) := by decide +kernel
theorem dX1_perform_121 : decode cX1_perform 121 = .ok (.ireturn, 1) := by decide +kernel
theorem dX1_perform_122 : decode cX1_perform 122 = .ok (.aload_n 0, 1) := by decide +kernel
theorem dX1_perform_123 : decode cX1_perform 123 = .ok (.iload_n 3, 1) := by decide +kernel
theorem dX1_perform_124 : decode cX1_perform 124 = .ok (.aload_n 1, 1) := by decide +kernel
theorem dX1_perform_125 : decode cX1_perform 125 = .ok (.iload_n 2, 1) := by decide +kernel
theorem dX1_perform_126 : decode cX1_perform 126 = .ok (.iconst 2, 1) := by decide +kernel
theorem dX1_perform_127 : decode cX1_perform 127 = .ok (.iadd, 1) := by decide +kernel
theorem dX1_perform_128 : decode cX1_perform 128 = .ok (.invokevirtual 9, 3) := by decide +kernel
theorem dX1_perform_131 : decode cX1_perform 131 = .ok (.invokevirtual 30, 3) := by decide +kernel
theorem dX1_perform_134 : decode cX1_perform 134 = .ok (.iconst (-1), 1) := by decide +kernel
theorem dX1_perform_135 : decode cX1_perform 135 = .ok (.if_icmp .eq 7, 3) := by decide +kernel
theorem dX1_perform_138 : decode cX1_perform 138 = .ok (.iconst 1, 1) := by decide +kernel
theorem dX1_perform_139 : decode cX1_perform 139 = .ok (.goto 4, 3) := by decide +kernel
theorem dX1_perform_142 : decode cX1_perform 142 = .ok (.iconst 0, 1) := by decide +kernel
theorem dX1_perform_143 : decode cX1_perform 143 = .ok (.ireturn, 1) := by decide +kernel
theorem dX1_perform_144 : decode cX1_perform 144 = .ok (.aload_n 0, 1) := by decide +kernel
theorem dX1_perform_145 : decode cX1_perform 145 = .ok (.iload_n 3, 1) := by decide +kernel
theorem dX1_perform_146 : decode cX1_perform 146 = .ok (.aload_n 1, 1) := by decide +kernel
theorem dX1_perform_147 : decode cX1_perform 147 = .ok (.iload_n 2, 1) := by decide +kernel
theorem dX1_perform_148 : decode cX1_perform 148 = .ok (.iconst 2, 1) := by decide +kernel
theorem dX1_perform_149 : decode cX1_perform 149 = .ok (.iadd, 1) := by decide +kernel
theorem dX1_perform_150 : decode cX1_perform 150 = .ok (.invokevirtual 18, 3) := by decide +kernel
theorem dX1_perform_153 : decode cX1_perform 153 = .ok (.invokevirtual 34, 3) := by decide +kernel
theorem dX1_perform_156 : decode cX1_perform 156 = .ok (.ireturn, 1) := by decide +kernel
theorem dX1_perform_157 : decode cX1_perform 157 = .ok (.aload_n 0, 1) := by decide +kernel
theorem dX1_perform_158 : decode cX1_perform 158 = .ok (.iload_n 3, 1) := by decide +kernel
theorem dX1_perform_159 : decode cX1_perform 159 = .ok (.invokevirtual 38, 3) := by decide +kernel
theorem dX1_perform_162 : decode cX1_perform 162 = .ok (.ireturn, 1) := by decide +kernel
theorem dX1_perform_163 : decode cX1_perform 163 = .ok (.aload_n 0, 1) := by decide +kernel
theorem dX1_perform_164 : decode cX1_perform 164 = .ok (.iload_n 3, 1) := by decide +kernel
theorem dX1_perform_165 : decode cX1_perform 165 = .ok (.invokevirtual 41, 3) := by decide +kernel
theorem dX1_perform_168 : decode cX1_perform 168 = .ok (.ireturn, 1) := by decide +kernel
theorem dX1_perform_169 : decode cX1_perform 169 = .ok (.aload_n 0, 1) := by decide +kernel
theorem dX1_perform_170 : decode cX1_perform 170 = .ok (.iload_n 3, 1) := by decide +kernel
theorem dX1_perform_171 : decode cX1_perform 171 = .ok (.invokevirtual 44, 3) := by decide +kernel
theorem dX1_perform_174 : decode cX1_perform 174 = .ok (.ireturn, 1) := by decide +kernel
theorem dX1_perform_175 : decode cX1_perform 175 = .ok (.aload_n 0, 1) := by decide +kernel
theorem dX1_perform_176 : decode cX1_perform 176 = .ok (.aload_n 1, 1) := by decide +kernel
theorem dX1_perform_177 : decode cX1_perform 177 = .ok (.iload_n 2, 1) := by decide +kernel
theorem dX1_perform_178 : decode cX1_perform 178 = .ok (.iconst 1, 1) := by decide +kernel
theorem dX1_perform_179 : decode cX1_perform 179 = .ok (.iadd, 1) := by decide +kernel
theorem dX1_perform_180 : decode cX1_perform 180 = .ok (.invokevirtual 18, 3) := by decide +kernel
theorem dX1_perform_183 : decode cX1_perform 183 = .ok (.invokevirtual 47, 3) := by decide +kernel
theorem dX1_perform_186 : decode cX1_perform 186 = .ok (.ireturn, 1) := by decide +kernel
theorem dX7_fits_0 : decode cX7_fits 0 = .ok (.lconst 1, 1) := by decide +kernel
theorem dX7_fits_1 : decode cX7_fits 1 = .ok (.lstore_n 3, 1) := by decide +kernel
theorem dX7_fits_2 : decode cX7_fits 2 = .ok (.iconst 0, 1) := by decide +kernel
theorem dX7_fits_3 : decode cX7_fits 3 = .ok (.istore 5, 2) := by decide +kernel
theorem dX7_fits_5 : decode cX7_fits 5 = .ok (.iload 5, 2) := by decide +kernel
theorem dX7_fits_7 : decode cX7_fits 7 = .ok (.iload_n 0, 1) := by decide +kernel
theorem dX7_fits_8 : decode cX7_fits 8 = .ok (.if_icmp .ge 15, 3) := by decide +kernel
theorem dX7_fits_11 : decode cX7_fits 11 = .ok (.lload_n 3, 1) := by decide +kernel
theorem dX7_fits_12 : decode cX7_fits 12 = .ok (.ldc2_w 9, 3) := by decide +kernel
theorem dX7_fits_15 : decode cX7_fits 15 = .ok (.lmul, 1) := by decide +kernel
theorem dX7_fits_16 : decode cX7_fits 16 = .ok (.lstore_n 3, 1) := by decide +kernel
theorem dX7_fits_17 : decode cX7_fits 17 = .ok (.iinc 5 1, 3) := by decide +kernel
theorem dX7_fits_20 : decode cX7_fits 20 = .ok (.goto (-15), 3) := by decide +kernel
theorem dX7_fits_23 : decode cX7_fits 23 = .ok (.lload_n 1, 1) := by decide +kernel
theorem dX7_fits_24 : decode cX7_fits 24 = .ok (.lconst 0, 1) := by decide +kernel
theorem dX7_fits_25 : decode cX7_fits 25 = .ok (.lcmp, 1) := by decide +kernel
theorem dX7_fits_26 : decode cX7_fits 26 = .ok (.ifCond .lt 13, 3) := by decide +kernel
theorem dX7_fits_29 : decode cX7_fits 29 = .ok (.lload_n 1, 1) := by decide +kernel
theorem dX7_fits_30 : decode cX7_fits 30 = .ok (.lload_n 3, 1) := by decide +kernel
theorem dX7_fits_31 : decode cX7_fits 31 = .ok (.lcmp, 1) := by decide +kernel
theorem dX7_fits_32 : decode cX7_fits 32 = .ok (.ifCond .ge 7, 3) := by decide +kernel
theorem dX7_fits_35 : decode cX7_fits 35 = .ok (.iconst 1, 1) := by decide +kernel
theorem dX7_fits_36 : decode cX7_fits 36 = .ok (.goto 4, 3) := by decide +kernel
theorem dX7_fits_39 : decode cX7_fits 39 = .ok (.iconst 0, 1) := by decide +kernel
theorem dX7_fits_40 : decode cX7_fits 40 = .ok (.ireturn, 1) := by decide +kernel
theorem dX7_group_0 : decode cX7_group 0 = .ok (.lload_n 1, 1) := by decide +kernel
theorem dX7_group_1 : decode cX7_group 1 = .ok (.lstore 4, 2) := by decide +kernel
theorem dX7_group_3 : decode cX7_group 3 = .ok (.iload_n 0, 1) := by decide +kernel
theorem dX7_group_4 : decode cX7_group 4 = .ok (.iconst 1, 1) := by decide +kernel
theorem dX7_group_5 : decode cX7_group 5 = .ok (.isub, 1) := by decide +kernel
theorem dX7_group_6 : decode cX7_group 6 = .ok (.istore 6, 2) := by decide +kernel
theorem dX7_group_8 : decode cX7_group 8 = .ok (.iload 6, 2) := by decide +kernel
theorem dX7_group_10 : decode cX7_group 10 = .ok (.iload_n 3, 1) := by decide +kernel
theorem dX7_group_11 : decode cX7_group 11 = .ok (.if_icmp .le 17, 3) := by decide +kernel
theorem dX7_group_14 : decode cX7_group 14 = .ok (.lload 4, 2) := by decide +kernel
theorem dX7_group_16 : decode cX7_group 16 = .ok (.ldc2_w 9, 3) := by decide +kernel
theorem dX7_group_19 : decode cX7_group 19 = .ok (.ldiv, 1) := by decide +kernel
theorem dX7_group_20 : decode cX7_group 20 = .ok (.lstore 4, 2) := by decide +kernel
theorem dX7_group_22 : decode cX7_group 22 = .ok (.iinc 6 (-1), 3) := by decide +kernel
theorem dX7_group_25 : decode cX7_group 25 = .ok (.goto (-17), 3) := by decide +kernel
theorem dX7_group_28 : decode cX7_group 28 = .ok (.lload 4, 2) := by decide +kernel
theorem dX7_group_30 : decode cX7_group 30 = .ok (.ldc2_w 9, 3) := by decide +kernel
theorem dX7_group_33 : decode cX7_group 33 = .ok (.lrem, 1) := by decide +kernel
theorem dX7_group_34 : decode cX7_group 34 = .ok (.l2i, 1) := by decide +kernel
theorem dX7_group_35 : decode cX7_group 35 = .ok (.ireturn, 1) := by decide +kernel
theorem dX7_succeeds_0 : decode cX7_succeeds 0 = .ok (.iload_n 1, 1) := by decide +kernel
theorem dX7_succeeds_1 : decode cX7_succeeds 1 = .ok (.bipush 100, 2) := by decide +kernel
theorem dX7_succeeds_3 : decode cX7_succeeds 3 = .ok (.idiv, 1) := by decide +kernel
theorem dX7_succeeds_4 : decode cX7_succeeds 4 = .ok (.bipush 10, 2) := by decide +kernel
theorem dX7_succeeds_6 : decode cX7_succeeds 6 = .ok (.irem, 1) := by decide +kernel
theorem dX7_succeeds_7 : decode cX7_succeeds 7 = .ok (.istore_n 2, 1) := by decide +kernel
theorem dX7_succeeds_8 : decode cX7_succeeds 8 = .ok (.iload_n 1, 1) := by decide +kernel
theorem dX7_succeeds_9 : decode cX7_succeeds 9 = .ok (.bipush 10, 2) := by decide +kernel
theorem dX7_succeeds_11 : decode cX7_succeeds 11 = .ok (.idiv, 1) := by decide +kernel
theorem dX7_succeeds_12 : decode cX7_succeeds 12 = .ok (.bipush 10, 2) := by decide +kernel
theorem dX7_succeeds_14 : decode cX7_succeeds 14 = .ok (.irem, 1) := by decide +kernel
theorem dX7_succeeds_15 : decode cX7_succeeds 15 = .ok (.istore_n 3, 1) := by decide +kernel
theorem dX7_succeeds_16 : decode cX7_succeeds 16 = .ok (.iload_n 1, 1) := by decide +kernel
theorem dX7_succeeds_17 : decode cX7_succeeds 17 = .ok (.bipush 10, 2) := by decide +kernel
theorem dX7_succeeds_19 : decode cX7_succeeds 19 = .ok (.irem, 1) := by decide +kernel
theorem dX7_succeeds_20 : decode cX7_succeeds 20 = .ok (.istore 4, 2) := by decide +kernel
theorem dX7_succeeds_22 : decode cX7_succeeds 22 = .ok (.iload_n 1, 1) := by decide +kernel
theorem dX7_succeeds_23 : decode cX7_succeeds 23 = .ok (.bipush 100, 2) := by decide +kernel
theorem dX7_succeeds_25 : decode cX7_succeeds 25 = .ok (.irem, 1) := by decide +kernel
theorem dX7_succeeds_26 : decode cX7_succeeds 26 = .ok (.istore 5, 2) := by decide +kernel
theorem dX7_succeeds_28 : decode cX7_succeeds 28 = .ok (.iload_n 1, 1) := by decide +kernel
theorem dX7_succeeds_29 : decode cX7_succeeds 29 = .ok (.sipush 1000, 3) := by decide +kernel
theorem dX7_succeeds_32 : decode cX7_succeeds 32 = .ok (.idiv, 1) := by decide +kernel
theorem dX7_succeeds_33 : decode cX7_succeeds 33 = .ok (.tableswitch 284 1 9 #[51, 74, 82, 122, 141, 160, 202, 232, 265], 51) := by decide +kernel
theorem dX7_succeeds_84 : decode cX7_succeeds 84 = .ok (.iload 4, 2) := by decide +kernel
theorem dX7_succeeds_86 : decode cX7_succeeds 86 = .ok (.ifCond .ne 19, 3) := by decide +kernel
theorem dX7_succeeds_89 : decode cX7_succeeds 89 = .ok (.aload_n 0, 1) := by decide +kernel
theorem dX7_succeeds_90 : decode cX7_succeeds 90 = .ok (.iload_n 2, 1) := by decide +kernel
theorem dX7_succeeds_91 : decode cX7_succeeds 91 = .ok (.iload_n 3, 1) := by decide +kernel
theorem dX7_succeeds_92 : decode cX7_succeeds 92 = .ok (.invokevirtual 11, 3) := by decide +kernel
theorem dX7_succeeds_95 : decode cX7_succeeds 95 = .ok (.invokestatic 17, 3) := by decide +kernel
theorem dX7_succeeds_98 : decode cX7_succeeds 98 = .ok (.ifCond .eq 7, 3) := by decide +kernel
theorem dX7_succeeds_101 : decode cX7_succeeds 101 = .ok (.iconst 1, 1) := by decide +kernel
theorem dX7_succeeds_102 : decode cX7_succeeds 102 = .ok (.goto 4, 3) := by decide +kernel
theorem dX7_succeeds_105 : decode cX7_succeeds 105 = .ok (.iconst 0, 1) := by decide +kernel
theorem dX7_succeeds_106 : decode cX7_succeeds 106 = .ok (.ireturn, 1) := by decide +kernel
theorem dX7_succeeds_107 : decode cX7_succeeds 107 = .ok (.aload_n 0, 1) := by decide +kernel
theorem dX7_succeeds_108 : decode cX7_succeeds 108 = .ok (.iload_n 2, 1) := by decide +kernel
theorem dX7_succeeds_109 : decode cX7_succeeds 109 = .ok (.iload 5, 2) := by decide +kernel
theorem dX7_succeeds_111 : decode cX7_succeeds 111 = .ok (.invokevirtual 21, 3) := by decide +kernel
theorem dX7_succeeds_114 : decode cX7_succeeds 114 = .ok (.ireturn, 1) := by decide +kernel
theorem dX7_succeeds_115 : decode cX7_succeeds 115 = .ok (.iload_n 3, 1) := by decide +kernel
theorem dX7_succeeds_116 : decode cX7_succeeds 116 = .ok (.ifCond .ne 37, 3) := by decide +kernel
theorem dX7_succeeds_119 : decode cX7_succeeds 119 = .ok (.iload 4, 2) := by decide +kernel
theorem dX7_succeeds_121 : decode cX7_succeeds 121 = .ok (.iconst 1, 1) := by decide +kernel
theorem dX7_succeeds_122 : decode cX7_succeeds 122 = .ok (.if_icmp .ne 14, 3) := by decide +kernel
theorem dX7_succeeds_125 : decode cX7_succeeds 125 = .ok (.aload_n 0, 1) := by decide +kernel
theorem dX7_succeeds_126 : decode cX7_succeeds 126 = .ok (.iload_n 2, 1) := by decide +kernel
theorem dX7_succeeds_127 : decode cX7_succeeds 127 = .ok (.invokevirtual 25, 3) := by decide +kernel
theorem dX7_succeeds_130 : decode cX7_succeeds 130 = .ok (.ifCond .eq 23, 3) := by decide +kernel
theorem dX7_succeeds_133 : decode cX7_succeeds 133 = .ok (.goto 16, 3) := by decide +kernel
theorem dX7_succeeds_136 : decode cX7_succeeds 136 = .ok (.iload 4, 2) := by decide +kernel
theorem dX7_succeeds_138 : decode cX7_succeeds 138 = .ok (.ifCond .ne 15, 3) := by decide +kernel
theorem dX7_succeeds_141 : decode cX7_succeeds 141 = .ok (.aload_n 0, 1) := by decide +kernel
theorem dX7_succeeds_142 : decode cX7_succeeds 142 = .ok (.iload_n 2, 1) := by decide +kernel
theorem dX7_succeeds_143 : decode cX7_succeeds 143 = .ok (.invokevirtual 28, 3) := by decide +kernel
theorem dX7_succeeds_146 : decode cX7_succeeds 146 = .ok (.ifCond .eq 7, 3) := by decide +kernel
theorem dX7_succeeds_149 : decode cX7_succeeds 149 = .ok (.iconst 1, 1) := by decide +kernel
theorem dX7_succeeds_150 : decode cX7_succeeds 150 = .ok (.goto 4, 3) := by decide +kernel
theorem dX7_succeeds_153 : decode cX7_succeeds 153 = .ok (.iconst 0, 1) := by decide +kernel
theorem dX7_succeeds_154 : decode cX7_succeeds 154 = .ok (.ireturn, 1) := by decide +kernel
theorem dX7_succeeds_155 : decode cX7_succeeds 155 = .ok (.iload_n 2, 1) := by decide +kernel
theorem dX7_succeeds_156 : decode cX7_succeeds 156 = .ok (.ifCond .ne 16, 3) := by decide +kernel
theorem dX7_succeeds_159 : decode cX7_succeeds 159 = .ok (.aload_n 0, 1) := by decide +kernel
theorem dX7_succeeds_160 : decode cX7_succeeds 160 = .ok (.iload 5, 2) := by decide +kernel
theorem dX7_succeeds_162 : decode cX7_succeeds 162 = .ok (.invokevirtual 31, 3) := by decide +kernel
theorem dX7_succeeds_165 : decode cX7_succeeds 165 = .ok (.ifCond .eq 7, 3) := by decide +kernel
theorem dX7_succeeds_168 : decode cX7_succeeds 168 = .ok (.iconst 1, 1) := by decide +kernel
theorem dX7_succeeds_169 : decode cX7_succeeds 169 = .ok (.goto 4, 3) := by decide +kernel
theorem dX7_succeeds_172 : decode cX7_succeeds 172 = .ok (.iconst 0, 1) := by decide +kernel
theorem dX7_succeeds_173 : decode cX7_succeeds 173 = .ok (.ireturn, 1) := by decide +kernel
theorem dX7_succeeds_174 : decode cX7_succeeds 174 = .ok (.iload 5, 2) := by decide +kernel
theorem dX7_succeeds_176 : decode cX7_succeeds 176 = .ok (.ifCond .ne 15, 3) := by decide +kernel
theorem dX7_succeeds_179 : decode cX7_succeeds 179 = .ok (.aload_n 0, 1) := by decide +kernel
theorem dX7_succeeds_180 : decode cX7_succeeds 180 = .ok (.iload_n 2, 1) := by decide +kernel
theorem dX7_succeeds_181 : decode cX7_succeeds 181 = .ok (.invokevirtual 34, 3) := by decide +kernel
theorem dX7_succeeds_184 : decode cX7_succeeds 184 = .ok (.ifCond .eq 7, 3) := by decide +kernel
theorem dX7_succeeds_187 : decode cX7_succeeds 187 = .ok (.iconst 1, 1) := by decide +kernel
theorem dX7_succeeds_188 : decode cX7_succeeds 188 = .ok (.goto 4, 3) := by decide +kernel
theorem dX7_succeeds_191 : decode cX7_succeeds 191 = .ok (.iconst 0, 1) := by decide +kernel
theorem dX7_succeeds_192 : decode cX7_succeeds 192 = .ok (.ireturn, 1) := by decide +kernel
theorem dX7_succeeds_193 : decode cX7_succeeds 193 = .ok (.iload_n 3, 1) := by decide +kernel
theorem dX7_succeeds_194 : decode cX7_succeeds 194 = .ok (.ifCond .ne 39, 3) := by decide +kernel
theorem dX7_succeeds_197 : decode cX7_succeeds 197 = .ok (.aload_n 0, 1) := by decide +kernel
theorem dX7_succeeds_198 : decode cX7_succeeds 198 = .ok (.getfield 37, 3) := by decide +kernel
theorem dX7_succeeds_201 : decode cX7_succeeds 201 = .ok (.iload_n 2, 1) := by decide +kernel
theorem dX7_succeeds_202 : decode cX7_succeeds 202 = .ok (.invokevirtual 41, 3) := by decide +kernel
theorem dX7_succeeds_205 : decode cX7_succeeds 205 = .ok (.ifCond .eq 28, 3) := by decide +kernel
theorem dX7_succeeds_208 : decode cX7_succeeds 208 = .ok (.iload 4, 2) := by decide +kernel
theorem dX7_succeeds_210 : decode cX7_succeeds 210 = .ok (.aload_n 0, 1) := by decide +kernel
theorem dX7_succeeds_211 : decode cX7_succeeds 211 = .ok (.getfield 37, 3) := by decide +kernel
theorem dX7_succeeds_214 : decode cX7_succeeds 214 = .ok (.iload_n 2, 1) := by decide +kernel
theorem dX7_succeeds_215 : decode cX7_succeeds 215 = .ok (.invokevirtual 46, 3) := by decide +kernel
theorem dX7_succeeds_218 : decode cX7_succeeds 218 = .ok (.ifCond .eq 7, 3) := by decide +kernel
theorem dX7_succeeds_221 : decode cX7_succeeds 221 = .ok (.iconst 1, 1) := by decide +kernel
theorem dX7_succeeds_222 : decode cX7_succeeds 222 = .ok (.goto 4, 3) := by decide +kernel
theorem dX7_succeeds_225 : decode cX7_succeeds 225 = .ok (.iconst 0, 1) := by decide +kernel
theorem dX7_succeeds_226 : decode cX7_succeeds 226 = .ok (.if_icmp .ne 7, 3) := by decide +kernel
theorem dX7_succeeds_229 : decode cX7_succeeds 229 = .ok (.iconst 1, 1) := by decide +kernel
theorem dX7_succeeds_230 : decode cX7_succeeds 230 = .ok (.goto 4, 3) := by decide +kernel
theorem dX7_succeeds_233 : decode cX7_succeeds 233 = .ok (.iconst 0, 1) := by decide +kernel
theorem dX7_succeeds_234 : decode cX7_succeeds 234 = .ok (.ireturn, 1) := by decide +kernel
theorem dX7_succeeds_235 : decode cX7_succeeds 235 = .ok (.aload_n 0, 1) := by decide +kernel
theorem dX7_succeeds_236 : decode cX7_succeeds 236 = .ok (.getfield 49, 3) := by decide +kernel
theorem dX7_succeeds_239 : decode cX7_succeeds 239 = .ok (.iload_n 2, 1) := by decide +kernel
theorem dX7_succeeds_240 : decode cX7_succeeds 240 = .ok (.invokevirtual 53, 3) := by decide +kernel
theorem dX7_succeeds_243 : decode cX7_succeeds 243 = .ok (.ifCond .eq 20, 3) := by decide +kernel
theorem dX7_succeeds_246 : decode cX7_succeeds 246 = .ok (.aload_n 0, 1) := by decide +kernel
theorem dX7_succeeds_247 : decode cX7_succeeds 247 = .ok (.getfield 49, 3) := by decide +kernel
theorem dX7_succeeds_250 : decode cX7_succeeds 250 = .ok (.iload_n 2, 1) := by decide +kernel
theorem dX7_succeeds_251 : decode cX7_succeeds 251 = .ok (.invokevirtual 56, 3) := by decide +kernel
theorem dX7_succeeds_254 : decode cX7_succeeds 254 = .ok (.iload 5, 2) := by decide +kernel
theorem dX7_succeeds_256 : decode cX7_succeeds 256 = .ok (.if_icmp .gt 7, 3) := by decide +kernel
theorem dX7_succeeds_259 : decode cX7_succeeds 259 = .ok (.iconst 1, 1) := by decide +kernel
theorem dX7_succeeds_260 : decode cX7_succeeds 260 = .ok (.goto 4, 3) := by decide +kernel
theorem dX7_succeeds_263 : decode cX7_succeeds 263 = .ok (.iconst 0, 1) := by decide +kernel
theorem dX7_succeeds_264 : decode cX7_succeeds 264 = .ok (.ireturn, 1) := by decide +kernel
theorem dX7_succeeds_265 : decode cX7_succeeds 265 = .ok (.aload_n 0, 1) := by decide +kernel
theorem dX7_succeeds_266 : decode cX7_succeeds 266 = .ok (.getfield 60, 3) := by decide +kernel
theorem dX7_succeeds_269 : decode cX7_succeeds 269 = .ok (.iload_n 2, 1) := by decide +kernel
theorem dX7_succeeds_270 : decode cX7_succeeds 270 = .ok (.invokevirtual 64, 3) := by decide +kernel
theorem dX7_succeeds_273 : decode cX7_succeeds 273 = .ok (.ifCond .eq 23, 3) := by decide +kernel
theorem dX7_succeeds_276 : decode cX7_succeeds 276 = .ok (.aload_n 0, 1) := by decide +kernel
theorem dX7_succeeds_277 : decode cX7_succeeds 277 = .ok (.getfield 60, 3) := by decide +kernel
theorem dX7_succeeds_280 : decode cX7_succeeds 280 = .ok (.getfield 67, 3) := by decide +kernel
theorem dX7_succeeds_283 : decode cX7_succeeds 283 = .ok (.iload_n 2, 1) := by decide +kernel
theorem dX7_succeeds_284 : decode cX7_succeeds 284 = .ok (.invokevirtual 71, 3) := by decide +kernel
theorem dX7_succeeds_287 : decode cX7_succeeds 287 = .ok (.iload 5, 2) := by decide +kernel
theorem dX7_succeeds_289 : decode cX7_succeeds 289 = .ok (.if_icmp .lt 7, 3) := by decide +kernel
theorem dX7_succeeds_292 : decode cX7_succeeds 292 = .ok (.iconst 1, 1) := by decide +kernel
theorem dX7_succeeds_293 : decode cX7_succeeds 293 = .ok (.goto 4, 3) := by decide +kernel
theorem dX7_succeeds_296 : decode cX7_succeeds 296 = .ok (.iconst 0, 1) := by decide +kernel
theorem dX7_succeeds_297 : decode cX7_succeeds 297 = .ok (.ireturn, 1) := by decide +kernel
theorem dX7_succeeds_298 : decode cX7_succeeds 298 = .ok (.iload_n 2, 1) := by decide +kernel
theorem dX7_succeeds_299 : decode cX7_succeeds 299 = .ok (.ifCond .ne 16, 3) := by decide +kernel
theorem dX7_succeeds_302 : decode cX7_succeeds 302 = .ok (.aload_n 0, 1) := by decide +kernel
theorem dX7_succeeds_303 : decode cX7_succeeds 303 = .ok (.getfield 76, 3) := by decide +kernel
theorem dX7_succeeds_306 : decode cX7_succeeds 306 = .ok (.iload 5, 2) := by decide +kernel
theorem dX7_succeeds_308 : decode cX7_succeeds 308 = .ok (.if_icmp .gt 7, 3) := by decide +kernel
theorem dX7_succeeds_311 : decode cX7_succeeds 311 = .ok (.iconst 1, 1) := by decide +kernel
theorem dX7_succeeds_312 : decode cX7_succeeds 312 = .ok (.goto 4, 3) := by decide +kernel
theorem dX7_succeeds_315 : decode cX7_succeeds 315 = .ok (.iconst 0, 1) := by decide +kernel
theorem dX7_succeeds_316 : decode cX7_succeeds 316 = .ok (.ireturn, 1) := by decide +kernel
theorem dX7_succeeds_317 : decode cX7_succeeds 317 = .ok (.iconst 0, 1) := by decide +kernel
theorem dX7_succeeds_318 : decode cX7_succeeds 318 = .ok (.ireturn, 1) := by decide +kernel
theorem dX8_turn_0 : decode cX8_turn 0 = .ok (.iload_n 1, 1) := by decide +kernel
theorem dX8_turn_1 : decode cX8_turn 1 = .ok (.bipush 16, 2) := by decide +kernel
theorem dX8_turn_3 : decode cX8_turn 3 = .ok (.idiv, 1) := by decide +kernel
theorem dX8_turn_4 : decode cX8_turn 4 = .ok (.istore_n 2, 1) := by decide +kernel
theorem dX8_turn_5 : decode cX8_turn 5 = .ok (.iload_n 1, 1) := by decide +kernel
theorem dX8_turn_6 : decode cX8_turn 6 = .ok (.bipush 16, 2) := by decide +kernel
theorem dX8_turn_8 : decode cX8_turn 8 = .ok (.irem, 1) := by decide +kernel
theorem dX8_turn_9 : decode cX8_turn 9 = .ok (.tableswitch 156 0 8 #[51, 63, 75, 86, 97, 119, 130, 142, 142], 51) := by decide +kernel
theorem dX8_turn_60 : decode cX8_turn 60 = .ok (.aload_n 0, 1) := by decide +kernel
theorem dX8_turn_61 : decode cX8_turn 61 = .ok (.iload_n 2, 1) := by decide +kernel
theorem dX8_turn_62 : decode cX8_turn 62 = .ok (.bipush 40, 2) := by decide +kernel
theorem dX8_turn_64 : decode cX8_turn 64 = .ok (.irem, 1) := by decide +kernel
theorem dX8_turn_65 : decode cX8_turn 65 = .ok (.invokevirtual 7, 3) := by decide +kernel
theorem dX8_turn_68 : decode cX8_turn 68 = .ok (.pop, 1) := by decide +kernel
theorem dX8_turn_69 : decode cX8_turn 69 = .ok (.goto 112, 3) := by decide +kernel
theorem dX8_turn_72 : decode cX8_turn 72 = .ok (.aload_n 0, 1) := by decide +kernel
theorem dX8_turn_73 : decode cX8_turn 73 = .ok (.iload_n 2, 1) := by decide +kernel
theorem dX8_turn_74 : decode cX8_turn 74 = .ok (.bipush 10, 2) := by decide +kernel
theorem dX8_turn_76 : decode cX8_turn 76 = .ok (.irem, 1) := by decide +kernel
theorem dX8_turn_77 : decode cX8_turn 77 = .ok (.invokevirtual 13, 3) := by decide +kernel
theorem dX8_turn_80 : decode cX8_turn 80 = .ok (.pop, 1) := by decide +kernel
theorem dX8_turn_81 : decode cX8_turn 81 = .ok (.goto 100, 3) := by decide +kernel
theorem dX8_turn_84 : decode cX8_turn 84 = .ok (.aload_n 0, 1) := by decide +kernel
theorem dX8_turn_85 : decode cX8_turn 85 = .ok (.iload_n 2, 1) := by decide +kernel
theorem dX8_turn_86 : decode cX8_turn 86 = .ok (.iconst 4, 1) := by decide +kernel
theorem dX8_turn_87 : decode cX8_turn 87 = .ok (.irem, 1) := by decide +kernel
theorem dX8_turn_88 : decode cX8_turn 88 = .ok (.invokevirtual 16, 3) := by decide +kernel
theorem dX8_turn_91 : decode cX8_turn 91 = .ok (.pop, 1) := by decide +kernel
theorem dX8_turn_92 : decode cX8_turn 92 = .ok (.goto 89, 3) := by decide +kernel
theorem dX8_turn_95 : decode cX8_turn 95 = .ok (.aload_n 0, 1) := by decide +kernel
theorem dX8_turn_96 : decode cX8_turn 96 = .ok (.iload_n 2, 1) := by decide +kernel
theorem dX8_turn_97 : decode cX8_turn 97 = .ok (.iconst 4, 1) := by decide +kernel
theorem dX8_turn_98 : decode cX8_turn 98 = .ok (.irem, 1) := by decide +kernel
theorem dX8_turn_99 : decode cX8_turn 99 = .ok (.invokevirtual 19, 3) := by decide +kernel
theorem dX8_turn_102 : decode cX8_turn 102 = .ok (.pop, 1) := by decide +kernel
theorem dX8_turn_103 : decode cX8_turn 103 = .ok (.goto 78, 3) := by decide +kernel
theorem dX8_turn_106 : decode cX8_turn 106 = .ok (.aload_n 0, 1) := by decide +kernel
theorem dX8_turn_107 : decode cX8_turn 107 = .ok (.iload_n 2, 1) := by decide +kernel
theorem dX8_turn_108 : decode cX8_turn 108 = .ok (.bipush 8, 2) := by decide +kernel
theorem dX8_turn_110 : decode cX8_turn 110 = .ok (.irem, 1) := by decide +kernel
theorem dX8_turn_111 : decode cX8_turn 111 = .ok (.iconst 1, 1) := by decide +kernel
theorem dX8_turn_112 : decode cX8_turn 112 = .ok (.iload_n 1, 1) := by decide +kernel
theorem dX8_turn_113 : decode cX8_turn 113 = .ok (.sipush 128, 3) := by decide +kernel
theorem dX8_turn_116 : decode cX8_turn 116 = .ok (.idiv, 1) := by decide +kernel
theorem dX8_turn_117 : decode cX8_turn 117 = .ok (.bipush 30, 2) := by decide +kernel
theorem dX8_turn_119 : decode cX8_turn 119 = .ok (.irem, 1) := by decide +kernel
theorem dX8_turn_120 : decode cX8_turn 120 = .ok (.iadd, 1) := by decide +kernel
theorem dX8_turn_121 : decode cX8_turn 121 = .ok (.invokevirtual 22, 3) := by decide +kernel
theorem dX8_turn_124 : decode cX8_turn 124 = .ok (.pop, 1) := by decide +kernel
theorem dX8_turn_125 : decode cX8_turn 125 = .ok (.goto 56, 3) := by decide +kernel
theorem dX8_turn_128 : decode cX8_turn 128 = .ok (.aload_n 0, 1) := by decide +kernel
theorem dX8_turn_129 : decode cX8_turn 129 = .ok (.iload_n 2, 1) := by decide +kernel
theorem dX8_turn_130 : decode cX8_turn 130 = .ok (.iconst 4, 1) := by decide +kernel
theorem dX8_turn_131 : decode cX8_turn 131 = .ok (.irem, 1) := by decide +kernel
theorem dX8_turn_132 : decode cX8_turn 132 = .ok (.invokevirtual 26, 3) := by decide +kernel
theorem dX8_turn_135 : decode cX8_turn 135 = .ok (.pop, 1) := by decide +kernel
theorem dX8_turn_136 : decode cX8_turn 136 = .ok (.goto 45, 3) := by decide +kernel
theorem dX8_turn_139 : decode cX8_turn 139 = .ok (.aload_n 0, 1) := by decide +kernel
theorem dX8_turn_140 : decode cX8_turn 140 = .ok (.iload_n 2, 1) := by decide +kernel
theorem dX8_turn_141 : decode cX8_turn 141 = .ok (.bipush 8, 2) := by decide +kernel
theorem dX8_turn_143 : decode cX8_turn 143 = .ok (.irem, 1) := by decide +kernel
theorem dX8_turn_144 : decode cX8_turn 144 = .ok (.invokevirtual 29, 3) := by decide +kernel
theorem dX8_turn_147 : decode cX8_turn 147 = .ok (.pop, 1) := by decide +kernel
theorem dX8_turn_148 : decode cX8_turn 148 = .ok (.goto 33, 3) := by decide +kernel
theorem dX8_turn_151 : decode cX8_turn 151 = .ok (.aload_n 0, 1) := by decide +kernel
theorem dX8_turn_152 : decode cX8_turn 152 = .ok (.iconst 1, 1) := by decide +kernel
theorem dX8_turn_153 : decode cX8_turn 153 = .ok (.iload_n 2, 1) := by decide +kernel
theorem dX8_turn_154 : decode cX8_turn 154 = .ok (.bipush 20, 2) := by decide +kernel
theorem dX8_turn_156 : decode cX8_turn 156 = .ok (.irem, 1) := by decide +kernel
theorem dX8_turn_157 : decode cX8_turn 157 = .ok (.iadd, 1) := by decide +kernel
theorem dX8_turn_158 : decode cX8_turn 158 = .ok (.invokevirtual 32, 3) := by decide +kernel
theorem dX8_turn_161 : decode cX8_turn 161 = .ok (.pop, 1) := by decide +kernel
theorem dX8_turn_162 : decode cX8_turn 162 = .ok (.goto 19, 3) := by decide +kernel
theorem dX8_turn_165 : decode cX8_turn 165 = .ok (.aload_n 0, 1) := by decide +kernel
theorem dX8_turn_166 : decode cX8_turn 166 = .ok (.iload_n 2, 1) := by decide +kernel
theorem dX8_turn_167 : decode cX8_turn 167 = .ok (.bipush 10, 2) := by decide +kernel
theorem dX8_turn_169 : decode cX8_turn 169 = .ok (.irem, 1) := by decide +kernel
theorem dX8_turn_170 : decode cX8_turn 170 = .ok (.iload_n 1, 1) := by decide +kernel
theorem dX8_turn_171 : decode cX8_turn 171 = .ok (.sipush 256, 3) := by decide +kernel
theorem dX8_turn_174 : decode cX8_turn 174 = .ok (.idiv, 1) := by decide +kernel
theorem dX8_turn_175 : decode cX8_turn 175 = .ok (.iconst 4, 1) := by decide +kernel
theorem dX8_turn_176 : decode cX8_turn 176 = .ok (.irem, 1) := by decide +kernel
theorem dX8_turn_177 : decode cX8_turn 177 = .ok (.invokevirtual 35, 3) := by decide +kernel
theorem dX8_turn_180 : decode cX8_turn 180 = .ok (.pop, 1) := by decide +kernel
theorem dX8_turn_181 : decode cX8_turn 181 = .ok (.return_, 1) := by decide +kernel
theorem cw_X1_9 : uCW RX1 RX2 9 yX2_digit cX2_digit 2 (some .int) 1 := ⟨gt_in 581 (by decide +kernel) (by decide +kernel), yf_X2_digit⟩
theorem cw_X1_15 : uCW RX1 RX2 15 yX2_sign cX2_sign 2 (some .int) 1 := ⟨gt_in 582 (by decide +kernel) (by decide +kernel), yf_X2_sign⟩
theorem yf_X2_twoDigits : (Cond.instanceMethod yX2_twoDigits) ∈ gtbl ∧ (Cond.selects RX2 yX2_twoDigits yX2_twoDigits) ∈ gtbl ∧ (Cond.initialized RX2) ∈ gtbl ∧ (Cond.code yX2_twoDigits cX2_twoDigits 2 (some .int)) ∈ gtbl ∧ (yX2_twoDigits.cls = RX2 ∧ yX2_twoDigits.cls ≠ "java/lang/invoke/MethodHandle" ∧ yX2_twoDigits.cls ≠ "java/lang/invoke/VarHandle" ∧ (parseMethodDescriptor yX2_twoDigits.desc).map (fun d => d.parameters.length) = some 1) := ⟨gt_in 584 (by decide +kernel) (by decide +kernel), gt_in 585 (by decide +kernel) (by decide +kernel), gt_in 24 (by decide +kernel) (by decide +kernel), gt_in 586 (by decide +kernel) (by decide +kernel), by decide +kernel⟩
theorem cw_X1_18 : uCW RX1 RX2 18 yX2_twoDigits cX2_twoDigits 2 (some .int) 1 := ⟨gt_in 583 (by decide +kernel) (by decide +kernel), yf_X2_twoDigits⟩
theorem yf_X10_tryIssue : (Cond.instanceMethod yX10_tryIssue) ∈ gtbl ∧ (Cond.selects RX10 yX10_tryIssue yX10_tryIssue) ∈ gtbl ∧ (Cond.initialized RX10) ∈ gtbl ∧ (Cond.code yX10_tryIssue cX10_tryIssue 2 (some .boolean)) ∈ gtbl ∧ (yX10_tryIssue.cls = RX10 ∧ yX10_tryIssue.cls ≠ "java/lang/invoke/MethodHandle" ∧ yX10_tryIssue.cls ≠ "java/lang/invoke/VarHandle" ∧ (parseMethodDescriptor yX10_tryIssue.desc).map (fun d => d.parameters.length) = some 1) := ⟨gt_in 588 (by decide +kernel) (by decide +kernel), gt_in 589 (by decide +kernel) (by decide +kernel), gt_in 18 (by decide +kernel) (by decide +kernel), gt_in 590 (by decide +kernel) (by decide +kernel), by decide +kernel⟩
theorem cw_X1_21 : uCW RX1 RX10 21 yX10_tryIssue cX10_tryIssue 2 (some .boolean) 1 := ⟨gt_in 587 (by decide +kernel) (by decide +kernel), yf_X10_tryIssue⟩
theorem yf_X10_tryCopy : (Cond.instanceMethod yX10_tryCopy) ∈ gtbl ∧ (Cond.selects RX10 yX10_tryCopy yX10_tryCopy) ∈ gtbl ∧ (Cond.initialized RX10) ∈ gtbl ∧ (Cond.code yX10_tryCopy cX10_tryCopy 2 (some .boolean)) ∈ gtbl ∧ (yX10_tryCopy.cls = RX10 ∧ yX10_tryCopy.cls ≠ "java/lang/invoke/MethodHandle" ∧ yX10_tryCopy.cls ≠ "java/lang/invoke/VarHandle" ∧ (parseMethodDescriptor yX10_tryCopy.desc).map (fun d => d.parameters.length) = some 1) := ⟨gt_in 617 (by decide +kernel) (by decide +kernel), gt_in 618 (by decide +kernel) (by decide +kernel), gt_in 18 (by decide +kernel) (by decide +kernel), gt_in 619 (by decide +kernel) (by decide +kernel), by decide +kernel⟩
theorem cw_X1_27 : uCW RX1 RX10 27 yX10_tryCopy cX10_tryCopy 2 (some .boolean) 1 := ⟨gt_in 616 (by decide +kernel) (by decide +kernel), yf_X10_tryCopy⟩
theorem yf_X10_showCard : (Cond.instanceMethod yX10_showCard) ∈ gtbl ∧ (Cond.selects RX10 yX10_showCard yX10_showCard) ∈ gtbl ∧ (Cond.initialized RX10) ∈ gtbl ∧ (Cond.code yX10_showCard cX10_showCard 4 (some .int)) ∈ gtbl ∧ (yX10_showCard.cls = RX10 ∧ yX10_showCard.cls ≠ "java/lang/invoke/MethodHandle" ∧ yX10_showCard.cls ≠ "java/lang/invoke/VarHandle" ∧ (parseMethodDescriptor yX10_showCard.desc).map (fun d => d.parameters.length) = some 2) := ⟨gt_in 631 (by decide +kernel) (by decide +kernel), gt_in 632 (by decide +kernel) (by decide +kernel), gt_in 18 (by decide +kernel) (by decide +kernel), gt_in 633 (by decide +kernel) (by decide +kernel), by decide +kernel⟩
theorem cw_X1_30 : uCW RX1 RX10 30 yX10_showCard cX10_showCard 4 (some .int) 2 := ⟨gt_in 630 (by decide +kernel) (by decide +kernel), yf_X10_showCard⟩
theorem yf_X10_tryPay : (Cond.instanceMethod yX10_tryPay) ∈ gtbl ∧ (Cond.selects RX10 yX10_tryPay yX10_tryPay) ∈ gtbl ∧ (Cond.initialized RX10) ∈ gtbl ∧ (Cond.code yX10_tryPay cX10_tryPay 3 (some .boolean)) ∈ gtbl ∧ (yX10_tryPay.cls = RX10 ∧ yX10_tryPay.cls ≠ "java/lang/invoke/MethodHandle" ∧ yX10_tryPay.cls ≠ "java/lang/invoke/VarHandle" ∧ (parseMethodDescriptor yX10_tryPay.desc).map (fun d => d.parameters.length) = some 2) := ⟨gt_in 675 (by decide +kernel) (by decide +kernel), gt_in 676 (by decide +kernel) (by decide +kernel), gt_in 18 (by decide +kernel) (by decide +kernel), gt_in 677 (by decide +kernel) (by decide +kernel), by decide +kernel⟩
theorem cw_X1_34 : uCW RX1 RX10 34 yX10_tryPay cX10_tryPay 3 (some .boolean) 2 := ⟨gt_in 674 (by decide +kernel) (by decide +kernel), yf_X10_tryPay⟩
theorem yf_X10_tryDown : (Cond.instanceMethod yX10_tryDown) ∈ gtbl ∧ (Cond.selects RX10 yX10_tryDown yX10_tryDown) ∈ gtbl ∧ (Cond.initialized RX10) ∈ gtbl ∧ (Cond.code yX10_tryDown cX10_tryDown 2 (some .boolean)) ∈ gtbl ∧ (yX10_tryDown.cls = RX10 ∧ yX10_tryDown.cls ≠ "java/lang/invoke/MethodHandle" ∧ yX10_tryDown.cls ≠ "java/lang/invoke/VarHandle" ∧ (parseMethodDescriptor yX10_tryDown.desc).map (fun d => d.parameters.length) = some 1) := ⟨gt_in 687 (by decide +kernel) (by decide +kernel), gt_in 688 (by decide +kernel) (by decide +kernel), gt_in 18 (by decide +kernel) (by decide +kernel), gt_in 689 (by decide +kernel) (by decide +kernel), by decide +kernel⟩
theorem cw_X1_38 : uCW RX1 RX10 38 yX10_tryDown cX10_tryDown 2 (some .boolean) 1 := ⟨gt_in 686 (by decide +kernel) (by decide +kernel), yf_X10_tryDown⟩
theorem yf_X10_tryUp : (Cond.instanceMethod yX10_tryUp) ∈ gtbl ∧ (Cond.selects RX10 yX10_tryUp yX10_tryUp) ∈ gtbl ∧ (Cond.initialized RX10) ∈ gtbl ∧ (Cond.code yX10_tryUp cX10_tryUp 2 (some .boolean)) ∈ gtbl ∧ (yX10_tryUp.cls = RX10 ∧ yX10_tryUp.cls ≠ "java/lang/invoke/MethodHandle" ∧ yX10_tryUp.cls ≠ "java/lang/invoke/VarHandle" ∧ (parseMethodDescriptor yX10_tryUp.desc).map (fun d => d.parameters.length) = some 1) := ⟨gt_in 383 (by decide +kernel) (by decide +kernel), gt_in 384 (by decide +kernel) (by decide +kernel), gt_in 18 (by decide +kernel) (by decide +kernel), gt_in 385 (by decide +kernel) (by decide +kernel), by decide +kernel⟩
theorem cw_X1_41 : uCW RX1 RX10 41 yX10_tryUp cX10_tryUp 2 (some .boolean) 1 := ⟨gt_in 695 (by decide +kernel) (by decide +kernel), yf_X10_tryUp⟩
theorem yf_X10_tryOpen : (Cond.instanceMethod yX10_tryOpen) ∈ gtbl ∧ (Cond.selects RX10 yX10_tryOpen yX10_tryOpen) ∈ gtbl ∧ (Cond.initialized RX10) ∈ gtbl ∧ (Cond.code yX10_tryOpen cX10_tryOpen 2 (some .boolean)) ∈ gtbl ∧ (yX10_tryOpen.cls = RX10 ∧ yX10_tryOpen.cls ≠ "java/lang/invoke/MethodHandle" ∧ yX10_tryOpen.cls ≠ "java/lang/invoke/VarHandle" ∧ (parseMethodDescriptor yX10_tryOpen.desc).map (fun d => d.parameters.length) = some 1) := ⟨gt_in 697 (by decide +kernel) (by decide +kernel), gt_in 698 (by decide +kernel) (by decide +kernel), gt_in 18 (by decide +kernel) (by decide +kernel), gt_in 699 (by decide +kernel) (by decide +kernel), by decide +kernel⟩
theorem cw_X1_44 : uCW RX1 RX10 44 yX10_tryOpen cX10_tryOpen 2 (some .boolean) 1 := ⟨gt_in 696 (by decide +kernel) (by decide +kernel), yf_X10_tryOpen⟩
theorem yf_X10_tryRun : (Cond.instanceMethod yX10_tryRun) ∈ gtbl ∧ (Cond.selects RX10 yX10_tryRun yX10_tryRun) ∈ gtbl ∧ (Cond.initialized RX10) ∈ gtbl ∧ (Cond.code yX10_tryRun cX10_tryRun 2 (some .boolean)) ∈ gtbl ∧ (yX10_tryRun.cls = RX10 ∧ yX10_tryRun.cls ≠ "java/lang/invoke/MethodHandle" ∧ yX10_tryRun.cls ≠ "java/lang/invoke/VarHandle" ∧ (parseMethodDescriptor yX10_tryRun.desc).map (fun d => d.parameters.length) = some 1) := ⟨gt_in 706 (by decide +kernel) (by decide +kernel), gt_in 707 (by decide +kernel) (by decide +kernel), gt_in 18 (by decide +kernel) (by decide +kernel), gt_in 708 (by decide +kernel) (by decide +kernel), by decide +kernel⟩
theorem cw_X1_47 : uCW RX1 RX10 47 yX10_tryRun cX10_tryRun 2 (some .boolean) 1 := ⟨gt_in 705 (by decide +kernel) (by decide +kernel), yf_X10_tryRun⟩
theorem cw_X7_11 : uCW RX7 RX10 11 yX10_showCard cX10_showCard 4 (some .int) 2 := ⟨gt_in 979 (by decide +kernel) (by decide +kernel), yf_X10_showCard⟩
theorem cw_X7_17 : uCS RX7 17 yX10_letsThrough cX10_letsThrough 1 (some .boolean) 1 := ⟨gt_in 980 (by decide +kernel) (by decide +kernel), yf_X10_letsThrough⟩
theorem cw_X7_21 : uCW RX7 RX10 21 yX10_tryPay cX10_tryPay 3 (some .boolean) 2 := ⟨gt_in 981 (by decide +kernel) (by decide +kernel), yf_X10_tryPay⟩
theorem cw_X7_25 : uCW RX7 RX10 25 yX10_tryUp cX10_tryUp 2 (some .boolean) 1 := ⟨gt_in 982 (by decide +kernel) (by decide +kernel), yf_X10_tryUp⟩
theorem cw_X7_28 : uCW RX7 RX10 28 yX10_tryDown cX10_tryDown 2 (some .boolean) 1 := ⟨gt_in 983 (by decide +kernel) (by decide +kernel), yf_X10_tryDown⟩
theorem cw_X7_31 : uCW RX7 RX10 31 yX10_tryRun cX10_tryRun 2 (some .boolean) 1 := ⟨gt_in 984 (by decide +kernel) (by decide +kernel), yf_X10_tryRun⟩
theorem cw_X7_34 : uCW RX7 RX10 34 yX10_tryCopy cX10_tryCopy 2 (some .boolean) 1 := ⟨gt_in 985 (by decide +kernel) (by decide +kernel), yf_X10_tryCopy⟩
theorem cw_X7_41 : uCW RX7 RX5 41 yX5_has cX5_has 2 (some .boolean) 1 := ⟨gt_in 986 (by decide +kernel) (by decide +kernel), yf_X5_has⟩
theorem cw_X7_46 : uCW RX7 RX5 46 yX5_isBlocked cX5_isBlocked 2 (some .boolean) 1 := ⟨gt_in 987 (by decide +kernel) (by decide +kernel), yf_X5_isBlocked⟩
theorem cw_X7_53 : uCW RX7 RX3 53 yX3_has cX3_has 2 (some .boolean) 1 := ⟨gt_in 988 (by decide +kernel) (by decide +kernel), yf_X3_has⟩
theorem cw_X7_56 : uCW RX7 RX3 56 yX3_logSize cX3_logSize 2 (some .int) 1 := ⟨gt_in 989 (by decide +kernel) (by decide +kernel), yf_X3_logSize⟩
theorem cw_X7_64 : uCW RX7 RX0 64 yX0_has cX0_has 2 (some .boolean) 1 := ⟨gt_in 990 (by decide +kernel) (by decide +kernel), yf_X0_has⟩
theorem cw_X7_71 : uCW RX7 RX6 71 yX6_get cX6_get 2 (some .int) 1 := ⟨gt_in 991 (by decide +kernel) (by decide +kernel), yf_X6_get⟩
theorem cw_X8_7 : uCW RX8 RX10 7 yX10_tryIssue cX10_tryIssue 2 (some .boolean) 1 := ⟨gt_in 1004 (by decide +kernel) (by decide +kernel), yf_X10_tryIssue⟩
theorem cw_X8_13 : uCW RX8 RX10 13 yX10_tryCopy cX10_tryCopy 2 (some .boolean) 1 := ⟨gt_in 1005 (by decide +kernel) (by decide +kernel), yf_X10_tryCopy⟩
theorem cw_X8_16 : uCW RX8 RX10 16 yX10_tryDown cX10_tryDown 2 (some .boolean) 1 := ⟨gt_in 1006 (by decide +kernel) (by decide +kernel), yf_X10_tryDown⟩
theorem cw_X8_19 : uCW RX8 RX10 19 yX10_tryUp cX10_tryUp 2 (some .boolean) 1 := ⟨gt_in 1007 (by decide +kernel) (by decide +kernel), yf_X10_tryUp⟩
theorem cw_X8_22 : uCW RX8 RX10 22 yX10_tryPay cX10_tryPay 3 (some .boolean) 2 := ⟨gt_in 1008 (by decide +kernel) (by decide +kernel), yf_X10_tryPay⟩
theorem cw_X8_26 : uCW RX8 RX10 26 yX10_tryOpen cX10_tryOpen 2 (some .boolean) 1 := ⟨gt_in 1009 (by decide +kernel) (by decide +kernel), yf_X10_tryOpen⟩
theorem yf_X10_tryPardon : (Cond.instanceMethod yX10_tryPardon) ∈ gtbl ∧ (Cond.selects RX10 yX10_tryPardon yX10_tryPardon) ∈ gtbl ∧ (Cond.initialized RX10) ∈ gtbl ∧ (Cond.code yX10_tryPardon cX10_tryPardon 2 (some .boolean)) ∈ gtbl ∧ (yX10_tryPardon.cls = RX10 ∧ yX10_tryPardon.cls ≠ "java/lang/invoke/MethodHandle" ∧ yX10_tryPardon.cls ≠ "java/lang/invoke/VarHandle" ∧ (parseMethodDescriptor yX10_tryPardon.desc).map (fun d => d.parameters.length) = some 1) := ⟨gt_in 1011 (by decide +kernel) (by decide +kernel), gt_in 1012 (by decide +kernel) (by decide +kernel), gt_in 18 (by decide +kernel) (by decide +kernel), gt_in 1013 (by decide +kernel) (by decide +kernel), by decide +kernel⟩
theorem cw_X8_29 : uCW RX8 RX10 29 yX10_tryPardon cX10_tryPardon 2 (some .boolean) 1 := ⟨gt_in 1010 (by decide +kernel) (by decide +kernel), yf_X10_tryPardon⟩
theorem cw_X8_32 : uCW RX8 RX10 32 yX10_tryRun cX10_tryRun 2 (some .boolean) 1 := ⟨gt_in 1016 (by decide +kernel) (by decide +kernel), yf_X10_tryRun⟩
theorem cw_X8_35 : uCW RX8 RX10 35 yX10_showCard cX10_showCard 4 (some .int) 2 := ⟨gt_in 1017 (by decide +kernel) (by decide +kernel), yf_X10_showCard⟩
def fX1_perform (S : (Nat → Nat → Int32)) (T : (Nat → Nat → Int32)) (a3 : Int32) : Option (Int32 × (Nat → Nat → Int32)) :=
  lt_ (fX2_digit T (a3 + 1)) fun x2 =>
  lt_ (fX2_sign T a3) fun x5 =>
  if x5 = 99 then
    bd2 (fX10_tryCopy S x2) fun x9 S10 =>
    some (x9, S10)
  else if x5 = 100 then
    bd2 (fX10_tryDown S x2) fun x14 S15 =>
    some (x14, S15)
  else if x5 = 101 then
    lt_ (fX2_twoDigits T (a3 + 1)) fun x19 =>
    bd2 (fX10_tryRun S x19) fun x22 S23 =>
    some (x22, S23)
  else if x5 = 102 then
    lt_ (fX2_twoDigits T (a3 + 1)) fun x27 =>
    bd2 (fX10_tryRun S x27) fun x30 S31 =>
    some (x30, S31)
  else if x5 = 103 then
    lt_ (fX2_twoDigits T (a3 + 1)) fun x35 =>
    bd2 (fX10_tryRun S x35) fun x38 S39 =>
    some (x38, S39)
  else if x5 = 104 then
    lt_ (fX2_twoDigits T (a3 + 1)) fun x43 =>
    bd2 (fX10_tryRun S x43) fun x46 S47 =>
    some (x46, S47)
  else if x5 = 105 then
    lt_ (fX2_twoDigits T (a3 + 1)) fun x51 =>
    bd2 (fX10_tryIssue S x51) fun x54 S55 =>
    some (x54, S55)
  else if x5 = 106 then
    lt_ (fX2_twoDigits T (a3 + 1)) fun x59 =>
    bd2 (fX10_tryRun S x59) fun x62 S63 =>
    some (x62, S63)
  else if x5 = 107 then
    lt_ (fX2_twoDigits T (a3 + 1)) fun x67 =>
    bd2 (fX10_tryRun S x67) fun x70 S71 =>
    some (x70, S71)
  else if x5 = 108 then
    lt_ (fX2_twoDigits T (a3 + 1)) fun x75 =>
    bd2 (fX10_tryRun S x75) fun x78 S79 =>
    some (x78, S79)
  else if x5 = 109 then
    lt_ (fX2_twoDigits T (a3 + 1)) fun x83 =>
    bd2 (fX10_tryRun S x83) fun x86 S87 =>
    some (x86, S87)
  else if x5 = 110 then
    lt_ (fX2_twoDigits T (a3 + 1)) fun x91 =>
    bd2 (fX10_tryRun S x91) fun x94 S95 =>
    some (x94, S95)
  else if x5 = 111 then
    bd2 (fX10_tryOpen S x2) fun x99 S100 =>
    some (x99, S100)
  else if x5 = 112 then
    lt_ (fX2_twoDigits T (a3 + 1)) fun x104 =>
    bd2 (fX10_tryRun S x104) fun x107 S108 =>
    some (x107, S108)
  else if x5 = 113 then
    lt_ (fX2_twoDigits T (a3 + 1)) fun x112 =>
    bd2 (fX10_tryRun S x112) fun x115 S116 =>
    some (x115, S116)
  else if x5 = 114 then
    lt_ (fX2_digit T (a3 + 2)) fun x120 =>
    bd2 (fX10_showCard S x2 x120) fun x123 S124 =>
    if x123 = (-1) then
      some (0, S124)
    else
      some (1, S124)
  else if x5 = 115 then
    lt_ (fX2_twoDigits T (a3 + 1)) fun x129 =>
    bd2 (fX10_tryRun S x129) fun x132 S133 =>
    some (x132, S133)
  else if x5 = 116 then
    lt_ (fX2_twoDigits T (a3 + 2)) fun x137 =>
    bd2 (fX10_tryPay S x2 x137) fun x140 S141 =>
    some (x140, S141)
  else if x5 = 117 then
    bd2 (fX10_tryUp S x2) fun x145 S146 =>
    some (x145, S146)
  else 
  lt_ (fX2_twoDigits T (a3 + 1)) fun x149 =>
  bd2 (fX10_tryRun S x149) fun x152 S153 =>
  some (x152, S153)
set_option maxHeartbeats 4000000 in
set_option maxRecDepth 20000 in
theorem kX1_perform {l : Launch} {G : UG} {V : uV} {t : Nat} (hS : uSt G t) (hN : uMn G) {T : (Nat → Nat → Int32)} (hT : V 18 = T) {S S' : (Nat → Nat → Int32)} {a3 : Int32} {r : Int32} (h : fX1_perform S T a3 = some (r, S')) : uMi l G yX1_perform cX1_perform 4 .boolean (uR 5 119) [.ref (ga G t 0), .ref (ga G 18 1), .int a3] (va_up V t S) r (va_up V t S') := by
  refine uMi_of rfl (Nat.le_of_ble_eq_true rfl) (fun p e s m args below meth c ls X hret hl M => ?_)
  have hl : lv_has ls 4 [(0, .ref (ga G t 0)), (1, .ref (ga G 18 1)), (2, .int a3)] := hl
  have hx := X.hx
  have hb := X.hb
  unfold fX1_perform at h
  refine lv_aload_n hx hb dX1_perform_0 rfl (lv_at hl 1 rfl) ?_
  refine lv_iload_n hx hb dX1_perform_1 rfl (lv_at hl 2 rfl) ?_
  refine lv_iconst (v := 1) hx hb dX1_perform_2 (by decide) ?_
  refine lv_iadd hx hb dX1_perform_3 ?_
  obtain ⟨x2, e1, h⟩ := lt_e h
  refine u_cVi X M hl.1 (kX2_digit hN ((va_up_n (ne18 hS)).trans hT) e1.symm) cw_X1_9 ⟨by decide, by decide⟩ (rc_X2 X M hN) rfl rfl (Nat.le_of_ble_eq_true rfl) ⟨Nat.zero_le _, Nat.zero_le _⟩ dX1_perform_4 (fun H locs M n3 => ?_)
  refine lv_istore_n (lv' := [(3, .int x2), (0, .ref (ga G t 0)), (1, .ref (ga G 18 1)), (2, .int a3)]) hx hb dX1_perform_7 rfl hl (by decide) rfl (fun ls hl => ?_)
  refine lv_aload_n hx hb dX1_perform_8 rfl (lv_at hl 2 rfl) ?_
  refine lv_iload_n hx hb dX1_perform_9 rfl (lv_at hl 3 rfl) ?_
  obtain ⟨x5, e4, h⟩ := lt_e h
  refine u_cVi X M hl.1 (kX2_sign hN ((va_up_n (ne18 hS)).trans hT) e4.symm) cw_X1_15 ⟨by decide, by decide⟩ (rc_X2 X M hN) rfl rfl (Nat.le_of_ble_eq_true rfl) ⟨Nat.zero_le _, Nat.zero_le _⟩ dX1_perform_10 (fun H locs M n6 => ?_)
  by_cases c7 : x5 = 99
  · have h := it_t h c7
    refine lv_tableIn (off := 103) (tgt := 116) hx hb dX1_perform_13 (by rw [c7]; decide) (by rw [c7]; decide) (by rw [c7]; rfl) (by decide) ?_
    refine lv_aload_n hx hb dX1_perform_116 rfl (lv_at hl 1 rfl) ?_
    refine lv_iload_n hx hb dX1_perform_117 rfl (lv_at hl 0 rfl) ?_
    obtain ⟨x9, S10, e8, h⟩ := bd2_e h
    refine u_cVi X M hl.1 (kX10_tryCopy hS e8) cw_X1_27 ⟨by decide, by decide⟩ (rc_X10 X M hS) rfl rfl (Nat.le_of_ble_eq_true rfl) ⟨Nat.zero_le _, Nat.zero_le _⟩ dX1_perform_118 (fun H locs M n11 => ?_)
    exact u_iret X hret M (rt2 h).1 (congrArg (va_up V t) ((rt2 h).2)) n11 dX1_perform_121
  · have h := it_f h c7
    by_cases c12 : x5 = 100
    · have h := it_t h c12
      refine lv_tableIn (off := 144) (tgt := 157) hx hb dX1_perform_13 (by rw [c12]; decide) (by rw [c12]; decide) (by rw [c12]; rfl) (by decide) ?_
      refine lv_aload_n hx hb dX1_perform_157 rfl (lv_at hl 1 rfl) ?_
      refine lv_iload_n hx hb dX1_perform_158 rfl (lv_at hl 0 rfl) ?_
      obtain ⟨x14, S15, e13, h⟩ := bd2_e h
      refine u_cVi X M hl.1 (kX10_tryDown hS e13) cw_X1_38 ⟨by decide, by decide⟩ (rc_X10 X M hS) rfl rfl (Nat.le_of_ble_eq_true rfl) ⟨Nat.zero_le _, Nat.zero_le _⟩ dX1_perform_159 (fun H locs M n16 => ?_)
      exact u_iret X hret M (rt2 h).1 (congrArg (va_up V t) ((rt2 h).2)) n16 dX1_perform_162
    · have h := it_f h c12
      by_cases c17 : x5 = 101
      · have h := it_t h c17
        refine lv_tableIn (off := 162) (tgt := 175) hx hb dX1_perform_13 (by rw [c17]; decide) (by rw [c17]; decide) (by rw [c17]; rfl) (by decide) ?_
        refine lv_aload_n hx hb dX1_perform_175 rfl (lv_at hl 1 rfl) ?_
        refine lv_aload_n hx hb dX1_perform_176 rfl (lv_at hl 2 rfl) ?_
        refine lv_iload_n hx hb dX1_perform_177 rfl (lv_at hl 3 rfl) ?_
        refine lv_iconst (v := 1) hx hb dX1_perform_178 (by decide) ?_
        refine lv_iadd hx hb dX1_perform_179 ?_
        obtain ⟨x19, e18, h⟩ := lt_e h
        refine u_cVi X M hl.1 (kX2_twoDigits hN ((va_up_n (ne18 hS)).trans hT) e18.symm) cw_X1_18 ⟨by decide, by decide⟩ (rc_X2 X M hN) rfl rfl (Nat.le_of_ble_eq_true rfl) ⟨Nat.zero_le _, Nat.zero_le _⟩ dX1_perform_180 (fun H locs M n20 => ?_)
        obtain ⟨x22, S23, e21, h⟩ := bd2_e h
        refine u_cVi X M hl.1 (kX10_tryRun hS e21) cw_X1_47 ⟨by decide, by decide⟩ (rc_X10 X M hS) rfl rfl (Nat.le_of_ble_eq_true rfl) ⟨Nat.zero_le _, Nat.zero_le _⟩ dX1_perform_183 (fun H locs M n24 => ?_)
        exact u_iret X hret M (rt2 h).1 (congrArg (va_up V t) ((rt2 h).2)) n24 dX1_perform_186
      · have h := it_f h c17
        by_cases c25 : x5 = 102
        · have h := it_t h c25
          refine lv_tableIn (off := 162) (tgt := 175) hx hb dX1_perform_13 (by rw [c25]; decide) (by rw [c25]; decide) (by rw [c25]; rfl) (by decide) ?_
          refine lv_aload_n hx hb dX1_perform_175 rfl (lv_at hl 1 rfl) ?_
          refine lv_aload_n hx hb dX1_perform_176 rfl (lv_at hl 2 rfl) ?_
          refine lv_iload_n hx hb dX1_perform_177 rfl (lv_at hl 3 rfl) ?_
          refine lv_iconst (v := 1) hx hb dX1_perform_178 (by decide) ?_
          refine lv_iadd hx hb dX1_perform_179 ?_
          obtain ⟨x27, e26, h⟩ := lt_e h
          refine u_cVi X M hl.1 (kX2_twoDigits hN ((va_up_n (ne18 hS)).trans hT) e26.symm) cw_X1_18 ⟨by decide, by decide⟩ (rc_X2 X M hN) rfl rfl (Nat.le_of_ble_eq_true rfl) ⟨Nat.zero_le _, Nat.zero_le _⟩ dX1_perform_180 (fun H locs M n28 => ?_)
          obtain ⟨x30, S31, e29, h⟩ := bd2_e h
          refine u_cVi X M hl.1 (kX10_tryRun hS e29) cw_X1_47 ⟨by decide, by decide⟩ (rc_X10 X M hS) rfl rfl (Nat.le_of_ble_eq_true rfl) ⟨Nat.zero_le _, Nat.zero_le _⟩ dX1_perform_183 (fun H locs M n32 => ?_)
          exact u_iret X hret M (rt2 h).1 (congrArg (va_up V t) ((rt2 h).2)) n32 dX1_perform_186
        · have h := it_f h c25
          by_cases c33 : x5 = 103
          · have h := it_t h c33
            refine lv_tableIn (off := 162) (tgt := 175) hx hb dX1_perform_13 (by rw [c33]; decide) (by rw [c33]; decide) (by rw [c33]; rfl) (by decide) ?_
            refine lv_aload_n hx hb dX1_perform_175 rfl (lv_at hl 1 rfl) ?_
            refine lv_aload_n hx hb dX1_perform_176 rfl (lv_at hl 2 rfl) ?_
            refine lv_iload_n hx hb dX1_perform_177 rfl (lv_at hl 3 rfl) ?_
            refine lv_iconst (v := 1) hx hb dX1_perform_178 (by decide) ?_
            refine lv_iadd hx hb dX1_perform_179 ?_
            obtain ⟨x35, e34, h⟩ := lt_e h
            refine u_cVi X M hl.1 (kX2_twoDigits hN ((va_up_n (ne18 hS)).trans hT) e34.symm) cw_X1_18 ⟨by decide, by decide⟩ (rc_X2 X M hN) rfl rfl (Nat.le_of_ble_eq_true rfl) ⟨Nat.zero_le _, Nat.zero_le _⟩ dX1_perform_180 (fun H locs M n36 => ?_)
            obtain ⟨x38, S39, e37, h⟩ := bd2_e h
            refine u_cVi X M hl.1 (kX10_tryRun hS e37) cw_X1_47 ⟨by decide, by decide⟩ (rc_X10 X M hS) rfl rfl (Nat.le_of_ble_eq_true rfl) ⟨Nat.zero_le _, Nat.zero_le _⟩ dX1_perform_183 (fun H locs M n40 => ?_)
            exact u_iret X hret M (rt2 h).1 (congrArg (va_up V t) ((rt2 h).2)) n40 dX1_perform_186
          · have h := it_f h c33
            by_cases c41 : x5 = 104
            · have h := it_t h c41
              refine lv_tableIn (off := 162) (tgt := 175) hx hb dX1_perform_13 (by rw [c41]; decide) (by rw [c41]; decide) (by rw [c41]; rfl) (by decide) ?_
              refine lv_aload_n hx hb dX1_perform_175 rfl (lv_at hl 1 rfl) ?_
              refine lv_aload_n hx hb dX1_perform_176 rfl (lv_at hl 2 rfl) ?_
              refine lv_iload_n hx hb dX1_perform_177 rfl (lv_at hl 3 rfl) ?_
              refine lv_iconst (v := 1) hx hb dX1_perform_178 (by decide) ?_
              refine lv_iadd hx hb dX1_perform_179 ?_
              obtain ⟨x43, e42, h⟩ := lt_e h
              refine u_cVi X M hl.1 (kX2_twoDigits hN ((va_up_n (ne18 hS)).trans hT) e42.symm) cw_X1_18 ⟨by decide, by decide⟩ (rc_X2 X M hN) rfl rfl (Nat.le_of_ble_eq_true rfl) ⟨Nat.zero_le _, Nat.zero_le _⟩ dX1_perform_180 (fun H locs M n44 => ?_)
              obtain ⟨x46, S47, e45, h⟩ := bd2_e h
              refine u_cVi X M hl.1 (kX10_tryRun hS e45) cw_X1_47 ⟨by decide, by decide⟩ (rc_X10 X M hS) rfl rfl (Nat.le_of_ble_eq_true rfl) ⟨Nat.zero_le _, Nat.zero_le _⟩ dX1_perform_183 (fun H locs M n48 => ?_)
              exact u_iret X hret M (rt2 h).1 (congrArg (va_up V t) ((rt2 h).2)) n48 dX1_perform_186
            · have h := it_f h c41
              by_cases c49 : x5 = 105
              · have h := it_t h c49
                refine lv_tableIn (off := 91) (tgt := 104) hx hb dX1_perform_13 (by rw [c49]; decide) (by rw [c49]; decide) (by rw [c49]; rfl) (by decide) ?_
                refine lv_aload_n hx hb dX1_perform_104 rfl (lv_at hl 1 rfl) ?_
                refine lv_aload_n hx hb dX1_perform_105 rfl (lv_at hl 2 rfl) ?_
                refine lv_iload_n hx hb dX1_perform_106 rfl (lv_at hl 3 rfl) ?_
                refine lv_iconst (v := 1) hx hb dX1_perform_107 (by decide) ?_
                refine lv_iadd hx hb dX1_perform_108 ?_
                obtain ⟨x51, e50, h⟩ := lt_e h
                refine u_cVi X M hl.1 (kX2_twoDigits hN ((va_up_n (ne18 hS)).trans hT) e50.symm) cw_X1_18 ⟨by decide, by decide⟩ (rc_X2 X M hN) rfl rfl (Nat.le_of_ble_eq_true rfl) ⟨Nat.zero_le _, Nat.zero_le _⟩ dX1_perform_109 (fun H locs M n52 => ?_)
                obtain ⟨x54, S55, e53, h⟩ := bd2_e h
                refine u_cVi X M hl.1 (kX10_tryIssue hS e53) cw_X1_21 ⟨by decide, by decide⟩ (rc_X10 X M hS) rfl rfl (Nat.le_of_ble_eq_true rfl) ⟨Nat.zero_le _, Nat.zero_le _⟩ dX1_perform_112 (fun H locs M n56 => ?_)
                exact u_iret X hret M (rt2 h).1 (congrArg (va_up V t) ((rt2 h).2)) n56 dX1_perform_115
              · have h := it_f h c49
                by_cases c57 : x5 = 106
                · have h := it_t h c57
                  refine lv_tableIn (off := 162) (tgt := 175) hx hb dX1_perform_13 (by rw [c57]; decide) (by rw [c57]; decide) (by rw [c57]; rfl) (by decide) ?_
                  refine lv_aload_n hx hb dX1_perform_175 rfl (lv_at hl 1 rfl) ?_
                  refine lv_aload_n hx hb dX1_perform_176 rfl (lv_at hl 2 rfl) ?_
                  refine lv_iload_n hx hb dX1_perform_177 rfl (lv_at hl 3 rfl) ?_
                  refine lv_iconst (v := 1) hx hb dX1_perform_178 (by decide) ?_
                  refine lv_iadd hx hb dX1_perform_179 ?_
                  obtain ⟨x59, e58, h⟩ := lt_e h
                  refine u_cVi X M hl.1 (kX2_twoDigits hN ((va_up_n (ne18 hS)).trans hT) e58.symm) cw_X1_18 ⟨by decide, by decide⟩ (rc_X2 X M hN) rfl rfl (Nat.le_of_ble_eq_true rfl) ⟨Nat.zero_le _, Nat.zero_le _⟩ dX1_perform_180 (fun H locs M n60 => ?_)
                  obtain ⟨x62, S63, e61, h⟩ := bd2_e h
                  refine u_cVi X M hl.1 (kX10_tryRun hS e61) cw_X1_47 ⟨by decide, by decide⟩ (rc_X10 X M hS) rfl rfl (Nat.le_of_ble_eq_true rfl) ⟨Nat.zero_le _, Nat.zero_le _⟩ dX1_perform_183 (fun H locs M n64 => ?_)
                  exact u_iret X hret M (rt2 h).1 (congrArg (va_up V t) ((rt2 h).2)) n64 dX1_perform_186
                · have h := it_f h c57
                  by_cases c65 : x5 = 107
                  · have h := it_t h c65
                    refine lv_tableIn (off := 162) (tgt := 175) hx hb dX1_perform_13 (by rw [c65]; decide) (by rw [c65]; decide) (by rw [c65]; rfl) (by decide) ?_
                    refine lv_aload_n hx hb dX1_perform_175 rfl (lv_at hl 1 rfl) ?_
                    refine lv_aload_n hx hb dX1_perform_176 rfl (lv_at hl 2 rfl) ?_
                    refine lv_iload_n hx hb dX1_perform_177 rfl (lv_at hl 3 rfl) ?_
                    refine lv_iconst (v := 1) hx hb dX1_perform_178 (by decide) ?_
                    refine lv_iadd hx hb dX1_perform_179 ?_
                    obtain ⟨x67, e66, h⟩ := lt_e h
                    refine u_cVi X M hl.1 (kX2_twoDigits hN ((va_up_n (ne18 hS)).trans hT) e66.symm) cw_X1_18 ⟨by decide, by decide⟩ (rc_X2 X M hN) rfl rfl (Nat.le_of_ble_eq_true rfl) ⟨Nat.zero_le _, Nat.zero_le _⟩ dX1_perform_180 (fun H locs M n68 => ?_)
                    obtain ⟨x70, S71, e69, h⟩ := bd2_e h
                    refine u_cVi X M hl.1 (kX10_tryRun hS e69) cw_X1_47 ⟨by decide, by decide⟩ (rc_X10 X M hS) rfl rfl (Nat.le_of_ble_eq_true rfl) ⟨Nat.zero_le _, Nat.zero_le _⟩ dX1_perform_183 (fun H locs M n72 => ?_)
                    exact u_iret X hret M (rt2 h).1 (congrArg (va_up V t) ((rt2 h).2)) n72 dX1_perform_186
                  · have h := it_f h c65
                    by_cases c73 : x5 = 108
                    · have h := it_t h c73
                      refine lv_tableIn (off := 162) (tgt := 175) hx hb dX1_perform_13 (by rw [c73]; decide) (by rw [c73]; decide) (by rw [c73]; rfl) (by decide) ?_
                      refine lv_aload_n hx hb dX1_perform_175 rfl (lv_at hl 1 rfl) ?_
                      refine lv_aload_n hx hb dX1_perform_176 rfl (lv_at hl 2 rfl) ?_
                      refine lv_iload_n hx hb dX1_perform_177 rfl (lv_at hl 3 rfl) ?_
                      refine lv_iconst (v := 1) hx hb dX1_perform_178 (by decide) ?_
                      refine lv_iadd hx hb dX1_perform_179 ?_
                      obtain ⟨x75, e74, h⟩ := lt_e h
                      refine u_cVi X M hl.1 (kX2_twoDigits hN ((va_up_n (ne18 hS)).trans hT) e74.symm) cw_X1_18 ⟨by decide, by decide⟩ (rc_X2 X M hN) rfl rfl (Nat.le_of_ble_eq_true rfl) ⟨Nat.zero_le _, Nat.zero_le _⟩ dX1_perform_180 (fun H locs M n76 => ?_)
                      obtain ⟨x78, S79, e77, h⟩ := bd2_e h
                      refine u_cVi X M hl.1 (kX10_tryRun hS e77) cw_X1_47 ⟨by decide, by decide⟩ (rc_X10 X M hS) rfl rfl (Nat.le_of_ble_eq_true rfl) ⟨Nat.zero_le _, Nat.zero_le _⟩ dX1_perform_183 (fun H locs M n80 => ?_)
                      exact u_iret X hret M (rt2 h).1 (congrArg (va_up V t) ((rt2 h).2)) n80 dX1_perform_186
                    · have h := it_f h c73
                      by_cases c81 : x5 = 109
                      · have h := it_t h c81
                        refine lv_tableIn (off := 162) (tgt := 175) hx hb dX1_perform_13 (by rw [c81]; decide) (by rw [c81]; decide) (by rw [c81]; rfl) (by decide) ?_
                        refine lv_aload_n hx hb dX1_perform_175 rfl (lv_at hl 1 rfl) ?_
                        refine lv_aload_n hx hb dX1_perform_176 rfl (lv_at hl 2 rfl) ?_
                        refine lv_iload_n hx hb dX1_perform_177 rfl (lv_at hl 3 rfl) ?_
                        refine lv_iconst (v := 1) hx hb dX1_perform_178 (by decide) ?_
                        refine lv_iadd hx hb dX1_perform_179 ?_
                        obtain ⟨x83, e82, h⟩ := lt_e h
                        refine u_cVi X M hl.1 (kX2_twoDigits hN ((va_up_n (ne18 hS)).trans hT) e82.symm) cw_X1_18 ⟨by decide, by decide⟩ (rc_X2 X M hN) rfl rfl (Nat.le_of_ble_eq_true rfl) ⟨Nat.zero_le _, Nat.zero_le _⟩ dX1_perform_180 (fun H locs M n84 => ?_)
                        obtain ⟨x86, S87, e85, h⟩ := bd2_e h
                        refine u_cVi X M hl.1 (kX10_tryRun hS e85) cw_X1_47 ⟨by decide, by decide⟩ (rc_X10 X M hS) rfl rfl (Nat.le_of_ble_eq_true rfl) ⟨Nat.zero_le _, Nat.zero_le _⟩ dX1_perform_183 (fun H locs M n88 => ?_)
                        exact u_iret X hret M (rt2 h).1 (congrArg (va_up V t) ((rt2 h).2)) n88 dX1_perform_186
                      · have h := it_f h c81
                        by_cases c89 : x5 = 110
                        · have h := it_t h c89
                          refine lv_tableIn (off := 162) (tgt := 175) hx hb dX1_perform_13 (by rw [c89]; decide) (by rw [c89]; decide) (by rw [c89]; rfl) (by decide) ?_
                          refine lv_aload_n hx hb dX1_perform_175 rfl (lv_at hl 1 rfl) ?_
                          refine lv_aload_n hx hb dX1_perform_176 rfl (lv_at hl 2 rfl) ?_
                          refine lv_iload_n hx hb dX1_perform_177 rfl (lv_at hl 3 rfl) ?_
                          refine lv_iconst (v := 1) hx hb dX1_perform_178 (by decide) ?_
                          refine lv_iadd hx hb dX1_perform_179 ?_
                          obtain ⟨x91, e90, h⟩ := lt_e h
                          refine u_cVi X M hl.1 (kX2_twoDigits hN ((va_up_n (ne18 hS)).trans hT) e90.symm) cw_X1_18 ⟨by decide, by decide⟩ (rc_X2 X M hN) rfl rfl (Nat.le_of_ble_eq_true rfl) ⟨Nat.zero_le _, Nat.zero_le _⟩ dX1_perform_180 (fun H locs M n92 => ?_)
                          obtain ⟨x94, S95, e93, h⟩ := bd2_e h
                          refine u_cVi X M hl.1 (kX10_tryRun hS e93) cw_X1_47 ⟨by decide, by decide⟩ (rc_X10 X M hS) rfl rfl (Nat.le_of_ble_eq_true rfl) ⟨Nat.zero_le _, Nat.zero_le _⟩ dX1_perform_183 (fun H locs M n96 => ?_)
                          exact u_iret X hret M (rt2 h).1 (congrArg (va_up V t) ((rt2 h).2)) n96 dX1_perform_186
                        · have h := it_f h c89
                          by_cases c97 : x5 = 111
                          · have h := it_t h c97
                            refine lv_tableIn (off := 156) (tgt := 169) hx hb dX1_perform_13 (by rw [c97]; decide) (by rw [c97]; decide) (by rw [c97]; rfl) (by decide) ?_
                            refine lv_aload_n hx hb dX1_perform_169 rfl (lv_at hl 1 rfl) ?_
                            refine lv_iload_n hx hb dX1_perform_170 rfl (lv_at hl 0 rfl) ?_
                            obtain ⟨x99, S100, e98, h⟩ := bd2_e h
                            refine u_cVi X M hl.1 (kX10_tryOpen hS e98) cw_X1_44 ⟨by decide, by decide⟩ (rc_X10 X M hS) rfl rfl (Nat.le_of_ble_eq_true rfl) ⟨Nat.zero_le _, Nat.zero_le _⟩ dX1_perform_171 (fun H locs M n101 => ?_)
                            exact u_iret X hret M (rt2 h).1 (congrArg (va_up V t) ((rt2 h).2)) n101 dX1_perform_174
                          · have h := it_f h c97
                            by_cases c102 : x5 = 112
                            · have h := it_t h c102
                              refine lv_tableIn (off := 162) (tgt := 175) hx hb dX1_perform_13 (by rw [c102]; decide) (by rw [c102]; decide) (by rw [c102]; rfl) (by decide) ?_
                              refine lv_aload_n hx hb dX1_perform_175 rfl (lv_at hl 1 rfl) ?_
                              refine lv_aload_n hx hb dX1_perform_176 rfl (lv_at hl 2 rfl) ?_
                              refine lv_iload_n hx hb dX1_perform_177 rfl (lv_at hl 3 rfl) ?_
                              refine lv_iconst (v := 1) hx hb dX1_perform_178 (by decide) ?_
                              refine lv_iadd hx hb dX1_perform_179 ?_
                              obtain ⟨x104, e103, h⟩ := lt_e h
                              refine u_cVi X M hl.1 (kX2_twoDigits hN ((va_up_n (ne18 hS)).trans hT) e103.symm) cw_X1_18 ⟨by decide, by decide⟩ (rc_X2 X M hN) rfl rfl (Nat.le_of_ble_eq_true rfl) ⟨Nat.zero_le _, Nat.zero_le _⟩ dX1_perform_180 (fun H locs M n105 => ?_)
                              obtain ⟨x107, S108, e106, h⟩ := bd2_e h
                              refine u_cVi X M hl.1 (kX10_tryRun hS e106) cw_X1_47 ⟨by decide, by decide⟩ (rc_X10 X M hS) rfl rfl (Nat.le_of_ble_eq_true rfl) ⟨Nat.zero_le _, Nat.zero_le _⟩ dX1_perform_183 (fun H locs M n109 => ?_)
                              exact u_iret X hret M (rt2 h).1 (congrArg (va_up V t) ((rt2 h).2)) n109 dX1_perform_186
                            · have h := it_f h c102
                              by_cases c110 : x5 = 113
                              · have h := it_t h c110
                                refine lv_tableIn (off := 162) (tgt := 175) hx hb dX1_perform_13 (by rw [c110]; decide) (by rw [c110]; decide) (by rw [c110]; rfl) (by decide) ?_
                                refine lv_aload_n hx hb dX1_perform_175 rfl (lv_at hl 1 rfl) ?_
                                refine lv_aload_n hx hb dX1_perform_176 rfl (lv_at hl 2 rfl) ?_
                                refine lv_iload_n hx hb dX1_perform_177 rfl (lv_at hl 3 rfl) ?_
                                refine lv_iconst (v := 1) hx hb dX1_perform_178 (by decide) ?_
                                refine lv_iadd hx hb dX1_perform_179 ?_
                                obtain ⟨x112, e111, h⟩ := lt_e h
                                refine u_cVi X M hl.1 (kX2_twoDigits hN ((va_up_n (ne18 hS)).trans hT) e111.symm) cw_X1_18 ⟨by decide, by decide⟩ (rc_X2 X M hN) rfl rfl (Nat.le_of_ble_eq_true rfl) ⟨Nat.zero_le _, Nat.zero_le _⟩ dX1_perform_180 (fun H locs M n113 => ?_)
                                obtain ⟨x115, S116, e114, h⟩ := bd2_e h
                                refine u_cVi X M hl.1 (kX10_tryRun hS e114) cw_X1_47 ⟨by decide, by decide⟩ (rc_X10 X M hS) rfl rfl (Nat.le_of_ble_eq_true rfl) ⟨Nat.zero_le _, Nat.zero_le _⟩ dX1_perform_183 (fun H locs M n117 => ?_)
                                exact u_iret X hret M (rt2 h).1 (congrArg (va_up V t) ((rt2 h).2)) n117 dX1_perform_186
                              · have h := it_f h c110
                                by_cases c118 : x5 = 114
                                · have h := it_t h c118
                                  refine lv_tableIn (off := 109) (tgt := 122) hx hb dX1_perform_13 (by rw [c118]; decide) (by rw [c118]; decide) (by rw [c118]; rfl) (by decide) ?_
                                  refine lv_aload_n hx hb dX1_perform_122 rfl (lv_at hl 1 rfl) ?_
                                  refine lv_iload_n hx hb dX1_perform_123 rfl (lv_at hl 0 rfl) ?_
                                  refine lv_aload_n hx hb dX1_perform_124 rfl (lv_at hl 2 rfl) ?_
                                  refine lv_iload_n hx hb dX1_perform_125 rfl (lv_at hl 3 rfl) ?_
                                  refine lv_iconst (v := 2) hx hb dX1_perform_126 (by decide) ?_
                                  refine lv_iadd hx hb dX1_perform_127 ?_
                                  obtain ⟨x120, e119, h⟩ := lt_e h
                                  refine u_cVi X M hl.1 (kX2_digit hN ((va_up_n (ne18 hS)).trans hT) e119.symm) cw_X1_9 ⟨by decide, by decide⟩ (rc_X2 X M hN) rfl rfl (Nat.le_of_ble_eq_true rfl) ⟨Nat.zero_le _, Nat.zero_le _⟩ dX1_perform_128 (fun H locs M n121 => ?_)
                                  obtain ⟨x123, S124, e122, h⟩ := bd2_e h
                                  refine u_cVi X M hl.1 (kX10_showCard hS e122) cw_X1_30 ⟨by decide, by decide⟩ (rc_X10 X M hS) rfl rfl (Nat.le_of_ble_eq_true rfl) ⟨Nat.zero_le _, Nat.zero_le _⟩ dX1_perform_131 (fun H locs M n125 => ?_)
                                  refine lv_iconst (v := (-1)) hx hb dX1_perform_134 (by decide) ?_
                                  refine lv_icmp_eq (tgt := 142) hx hb dX1_perform_135 (by decide) (fun c126 => ?_) (fun c126 => ?_)
                                  · have h := it_t h c126
                                    refine lv_iconst (v := 0) hx hb dX1_perform_142 (by decide) ?_
                                    exact u_iret X hret M (rt2 h).1 (congrArg (va_up V t) ((rt2 h).2)) rfl dX1_perform_143
                                  · have h := it_f h c126
                                    refine lv_iconst (v := 1) hx hb dX1_perform_138 (by decide) ?_
                                    refine lv_goto (tgt := 143) hx hb dX1_perform_139 (by decide) ?_
                                    exact u_iret X hret M (rt2 h).1 (congrArg (va_up V t) ((rt2 h).2)) rfl dX1_perform_143
                                · have h := it_f h c118
                                  by_cases c127 : x5 = 115
                                  · have h := it_t h c127
                                    refine lv_tableIn (off := 162) (tgt := 175) hx hb dX1_perform_13 (by rw [c127]; decide) (by rw [c127]; decide) (by rw [c127]; rfl) (by decide) ?_
                                    refine lv_aload_n hx hb dX1_perform_175 rfl (lv_at hl 1 rfl) ?_
                                    refine lv_aload_n hx hb dX1_perform_176 rfl (lv_at hl 2 rfl) ?_
                                    refine lv_iload_n hx hb dX1_perform_177 rfl (lv_at hl 3 rfl) ?_
                                    refine lv_iconst (v := 1) hx hb dX1_perform_178 (by decide) ?_
                                    refine lv_iadd hx hb dX1_perform_179 ?_
                                    obtain ⟨x129, e128, h⟩ := lt_e h
                                    refine u_cVi X M hl.1 (kX2_twoDigits hN ((va_up_n (ne18 hS)).trans hT) e128.symm) cw_X1_18 ⟨by decide, by decide⟩ (rc_X2 X M hN) rfl rfl (Nat.le_of_ble_eq_true rfl) ⟨Nat.zero_le _, Nat.zero_le _⟩ dX1_perform_180 (fun H locs M n130 => ?_)
                                    obtain ⟨x132, S133, e131, h⟩ := bd2_e h
                                    refine u_cVi X M hl.1 (kX10_tryRun hS e131) cw_X1_47 ⟨by decide, by decide⟩ (rc_X10 X M hS) rfl rfl (Nat.le_of_ble_eq_true rfl) ⟨Nat.zero_le _, Nat.zero_le _⟩ dX1_perform_183 (fun H locs M n134 => ?_)
                                    exact u_iret X hret M (rt2 h).1 (congrArg (va_up V t) ((rt2 h).2)) n134 dX1_perform_186
                                  · have h := it_f h c127
                                    by_cases c135 : x5 = 116
                                    · have h := it_t h c135
                                      refine lv_tableIn (off := 131) (tgt := 144) hx hb dX1_perform_13 (by rw [c135]; decide) (by rw [c135]; decide) (by rw [c135]; rfl) (by decide) ?_
                                      refine lv_aload_n hx hb dX1_perform_144 rfl (lv_at hl 1 rfl) ?_
                                      refine lv_iload_n hx hb dX1_perform_145 rfl (lv_at hl 0 rfl) ?_
                                      refine lv_aload_n hx hb dX1_perform_146 rfl (lv_at hl 2 rfl) ?_
                                      refine lv_iload_n hx hb dX1_perform_147 rfl (lv_at hl 3 rfl) ?_
                                      refine lv_iconst (v := 2) hx hb dX1_perform_148 (by decide) ?_
                                      refine lv_iadd hx hb dX1_perform_149 ?_
                                      obtain ⟨x137, e136, h⟩ := lt_e h
                                      refine u_cVi X M hl.1 (kX2_twoDigits hN ((va_up_n (ne18 hS)).trans hT) e136.symm) cw_X1_18 ⟨by decide, by decide⟩ (rc_X2 X M hN) rfl rfl (Nat.le_of_ble_eq_true rfl) ⟨Nat.zero_le _, Nat.zero_le _⟩ dX1_perform_150 (fun H locs M n138 => ?_)
                                      obtain ⟨x140, S141, e139, h⟩ := bd2_e h
                                      refine u_cVi X M hl.1 (kX10_tryPay hS e139) cw_X1_34 ⟨by decide, by decide⟩ (rc_X10 X M hS) rfl rfl (Nat.le_of_ble_eq_true rfl) ⟨Nat.zero_le _, Nat.zero_le _⟩ dX1_perform_153 (fun H locs M n142 => ?_)
                                      exact u_iret X hret M (rt2 h).1 (congrArg (va_up V t) ((rt2 h).2)) n142 dX1_perform_156
                                    · have h := it_f h c135
                                      by_cases c143 : x5 = 117
                                      · have h := it_t h c143
                                        refine lv_tableIn (off := 150) (tgt := 163) hx hb dX1_perform_13 (by rw [c143]; decide) (by rw [c143]; decide) (by rw [c143]; rfl) (by decide) ?_
                                        refine lv_aload_n hx hb dX1_perform_163 rfl (lv_at hl 1 rfl) ?_
                                        refine lv_iload_n hx hb dX1_perform_164 rfl (lv_at hl 0 rfl) ?_
                                        obtain ⟨x145, S146, e144, h⟩ := bd2_e h
                                        refine u_cVi X M hl.1 (kX10_tryUp hS e144) cw_X1_41 ⟨by decide, by decide⟩ (rc_X10 X M hS) rfl rfl (Nat.le_of_ble_eq_true rfl) ⟨Nat.zero_le _, Nat.zero_le _⟩ dX1_perform_165 (fun H locs M n147 => ?_)
                                        exact u_iret X hret M (rt2 h).1 (congrArg (va_up V t) ((rt2 h).2)) n147 dX1_perform_168
                                      · have h := it_f h c143
                                        have tc7 := lv_neT (a := 99) c7 (by decide)
                                        have tc12 := lv_neT (a := 100) c12 (by decide)
                                        have tc17 := lv_neT (a := 101) c17 (by decide)
                                        have tc25 := lv_neT (a := 102) c25 (by decide)
                                        have tc33 := lv_neT (a := 103) c33 (by decide)
                                        have tc41 := lv_neT (a := 104) c41 (by decide)
                                        have tc49 := lv_neT (a := 105) c49 (by decide)
                                        have tc57 := lv_neT (a := 106) c57 (by decide)
                                        have tc65 := lv_neT (a := 107) c65 (by decide)
                                        have tc73 := lv_neT (a := 108) c73 (by decide)
                                        have tc81 := lv_neT (a := 109) c81 (by decide)
                                        have tc89 := lv_neT (a := 110) c89 (by decide)
                                        have tc97 := lv_neT (a := 111) c97 (by decide)
                                        have tc102 := lv_neT (a := 112) c102 (by decide)
                                        have tc110 := lv_neT (a := 113) c110 (by decide)
                                        have tc118 := lv_neT (a := 114) c118 (by decide)
                                        have tc127 := lv_neT (a := 115) c127 (by decide)
                                        have tc135 := lv_neT (a := 116) c135 (by decide)
                                        have tc143 := lv_neT (a := 117) c143 (by decide)
                                        refine lv_tableOut (tgt := 175) hx hb dX1_perform_13 (by omega) (by decide) ?_
                                        refine lv_aload_n hx hb dX1_perform_175 rfl (lv_at hl 1 rfl) ?_
                                        refine lv_aload_n hx hb dX1_perform_176 rfl (lv_at hl 2 rfl) ?_
                                        refine lv_iload_n hx hb dX1_perform_177 rfl (lv_at hl 3 rfl) ?_
                                        refine lv_iconst (v := 1) hx hb dX1_perform_178 (by decide) ?_
                                        refine lv_iadd hx hb dX1_perform_179 ?_
                                        obtain ⟨x149, e148, h⟩ := lt_e h
                                        refine u_cVi X M hl.1 (kX2_twoDigits hN ((va_up_n (ne18 hS)).trans hT) e148.symm) cw_X1_18 ⟨by decide, by decide⟩ (rc_X2 X M hN) rfl rfl (Nat.le_of_ble_eq_true rfl) ⟨Nat.zero_le _, Nat.zero_le _⟩ dX1_perform_180 (fun H locs M n150 => ?_)
                                        obtain ⟨x152, S153, e151, h⟩ := bd2_e h
                                        refine u_cVi X M hl.1 (kX10_tryRun hS e151) cw_X1_47 ⟨by decide, by decide⟩ (rc_X10 X M hS) rfl rfl (Nat.le_of_ble_eq_true rfl) ⟨Nat.zero_le _, Nat.zero_le _⟩ dX1_perform_183 (fun H locs M n154 => ?_)
                                        exact u_iret X hret M (rt2 h).1 (congrArg (va_up V t) ((rt2 h).2)) n154 dX1_perform_186
def fX7_fits_L5 (n : Nat) (y0 : Int32) (y1 : Int64) (y3 : Int64) (y5 : Int32) : Option Int32 :=
  match n with
  | 0 => none
  | n + 1 =>
    if y0 ≤ y5 then
      if (lg_cmp y1 0) < 0 then
        some 0
      else
        if 0 ≤ (lg_cmp y1 y3) then
          some 0
        else
          some 1
    else
      lt_ ((y3 * 10000)) fun x4 =>
      lt_ (y5 + 1) fun x6 =>
      fX7_fits_L5 n y0 y1 x4 x6
set_option maxHeartbeats 4000000 in
set_option maxRecDepth 20000 in
theorem lpX7_fits_5 {l : Launch} {G : UG} {V : uV}  {r : Int32} {p : Program} {e : Env} {s : State} {m : MethodId} {args : Array Value} {below : List Frame} {meth : Method} {c : Code} (X : UC p s m args meth c cX7_fits 6 RX7 G) (hret : meth.sig.returnType = some .boolean) : ∀ (n : Nat) (y0 : Int32) (y1 : Int64) (y3 : Int64) (y5 : Int32) (H : Heap) (locs : List Loc) (ls : Array Slot), fX7_fits_L5  n y0 y1 y3 y5 = some r → UM G (V) s H locs → lv_has ls 6 [(0, .int y0), (1, .long y1), (3, .long y3), (5, .int y5)] → W p l e (uR 0 0) s m args below meth c H locs 0 0 (MQ below (uQi G .boolean r V) args s 0 0 (uA G)) (F0 m 5 ls []) := by
  intro n
  have hx := X.hx
  have hb := X.hb
  induction n with
  | zero => intro y0 y1 y3 y5 H locs ls h M hl; rw [fX7_fits_L5] at h; cases h
  | succ n ih =>
    intro y0 y1 y3 y5 H locs ls h M hl
    rw [fX7_fits_L5] at h
    refine lv_iload hx hb dX7_fits_5 (lv_at hl 3 rfl) ?_
    refine lv_iload_n hx hb dX7_fits_7 rfl (lv_at hl 0 rfl) ?_
    refine lv_icmp_ge (tgt := 23) hx hb dX7_fits_8 (by decide) (fun c1 => ?_) (fun c1 => ?_)
    · have h := it_t h c1
      refine lv_lload_n hx hb dX7_fits_23 rfl (lv_at hl 1 rfl) ?_
      refine lv_lconst (v := 0) hx hb dX7_fits_24 rfl ?_
      refine W.lcmp hx hb dX7_fits_25 ?_
      refine lv_if_lt (tgt := 39) hx hb dX7_fits_26 (by decide) (fun c2 => ?_) (fun c2 => ?_)
      · have h := it_t h c2
        refine lv_iconst (v := 0) hx hb dX7_fits_39 (by decide) ?_
        exact u_iret X hret M (Option.some.inj h) (rfl) rfl dX7_fits_40
      · have h := it_f h c2
        refine lv_lload_n hx hb dX7_fits_29 rfl (lv_at hl 1 rfl) ?_
        refine lv_lload_n hx hb dX7_fits_30 rfl (lv_at hl 2 rfl) ?_
        refine W.lcmp hx hb dX7_fits_31 ?_
        refine lv_if_ge (tgt := 39) hx hb dX7_fits_32 (by decide) (fun c3 => ?_) (fun c3 => ?_)
        · have h := it_t h c3
          refine lv_iconst (v := 0) hx hb dX7_fits_39 (by decide) ?_
          exact u_iret X hret M (Option.some.inj h) (rfl) rfl dX7_fits_40
        · have h := it_f h c3
          refine lv_iconst (v := 1) hx hb dX7_fits_35 (by decide) ?_
          refine lv_goto (tgt := 40) hx hb dX7_fits_36 (by decide) ?_
          exact u_iret X hret M (Option.some.inj h) (rfl) rfl dX7_fits_40
    · have h := it_f h c1
      refine lv_lload_n hx hb dX7_fits_11 rfl (lv_at hl 2 rfl) ?_
      refine lv_ldc2 (v := 10000) hx hb X.1.2.2.2.1 (X.hts (gt_in 972 (by decide +kernel) (by decide +kernel))) dX7_fits_12 ?_
      refine lv_lmul hx hb dX7_fits_15 ?_
      obtain ⟨x4, e5, h⟩ := lt_e h
      refine u_topl e5 ?_
      refine lv_lstore_n (lv' := [(3, .long x4), (0, .int y0), (1, .long y1), (5, .int y5)]) hx hb dX7_fits_16 rfl hl (by decide) rfl (fun ls hl => ?_)
      obtain ⟨x6, e7, h⟩ := lt_e h
      refine lv_iinc (v := x6) (lv' := [(5, .int x6), (3, .long x4), (0, .int y0), (1, .long y1)]) hx hb dX7_fits_17 hl (k := 3) rfl (by rw [e7]; rfl) (by decide) rfl (fun ls hl => ?_)
      refine lv_goto (tgt := 5) hx hb dX7_fits_20 (by decide) ?_
      exact ih _ _ _ _ _ _ _ h M (lv_sub hl [2, 3, 1, 0] rfl)
def fX7_fits (a1 : Int32) (a2 : Int64) : Option Int32 :=
  fX7_fits_L5 3000 a1 a2 1 0
set_option maxHeartbeats 4000000 in
set_option maxRecDepth 20000 in
theorem kX7_fits {l : Launch} {G : UG} {V : uV}  {a1 : Int32} {a2 : Int64} {r : Int32} (h : fX7_fits a1 a2 = some r) : uMi l G yX7_fits cX7_fits 6 .boolean (uR 0 0) [.int a1, .long a2] V r V := by
  refine uMi_of rfl (Nat.le_of_ble_eq_true rfl) (fun p e s m args below meth c ls X hret hl M => ?_)
  have hl : lv_has ls 6 [(0, .int a1), (1, .long a2)] := hl
  have hx := X.hx
  have hb := X.hb
  unfold fX7_fits at h
  refine lv_lconst (v := 1) hx hb dX7_fits_0 rfl ?_
  refine lv_lstore_n (lv' := [(3, .long 1), (0, .int a1), (1, .long a2)]) hx hb dX7_fits_1 rfl hl (by decide) rfl (fun ls hl => ?_)
  refine lv_iconst (v := 0) hx hb dX7_fits_2 (by decide) ?_
  refine lv_istore (lv' := [(5, .int 0), (3, .long 1), (0, .int a1), (1, .long a2)]) hx hb dX7_fits_3 hl (by decide) rfl (fun ls hl => ?_)
  exact lpX7_fits_5  X hret 3000 _ _ _ _ _ _ _ h M (lv_sub hl [2, 3, 1, 0] rfl)
def fX7_group_L8 (n : Nat) (y0 : Int32) (y1 : Int64) (y3 : Int32) (y4 : Int64) (y6 : Int32) : Option Int32 :=
  match n with
  | 0 => none
  | n + 1 =>
    if y6 ≤ y3 then
      some (((y4 - y4 / 10000 * 10000) : Int64).toInt32)
    else
      lt_ ((y4 / 10000)) fun x4 =>
      lt_ (y6 + (-1)) fun x6 =>
      fX7_group_L8 n y0 y1 y3 x4 x6
set_option maxHeartbeats 4000000 in
set_option maxRecDepth 20000 in
theorem lpX7_group_8 {l : Launch} {G : UG} {V : uV}  {r : Int32} {p : Program} {e : Env} {s : State} {m : MethodId} {args : Array Value} {below : List Frame} {meth : Method} {c : Code} (X : UC p s m args meth c cX7_group 7 RX7 G) (hret : meth.sig.returnType = some .int) : ∀ (n : Nat) (y0 : Int32) (y1 : Int64) (y3 : Int32) (y4 : Int64) (y6 : Int32) (H : Heap) (locs : List Loc) (ls : Array Slot), fX7_group_L8  n y0 y1 y3 y4 y6 = some r → UM G (V) s H locs → lv_has ls 7 [(0, .int y0), (1, .long y1), (3, .int y3), (4, .long y4), (6, .int y6)] → W p l e (uR 0 0) s m args below meth c H locs 0 0 (MQ below (uQi G .int r V) args s 0 0 (uA G)) (F0 m 8 ls []) := by
  intro n
  have hx := X.hx
  have hb := X.hb
  induction n with
  | zero => intro y0 y1 y3 y4 y6 H locs ls h M hl; rw [fX7_group_L8] at h; cases h
  | succ n ih =>
    intro y0 y1 y3 y4 y6 H locs ls h M hl
    rw [fX7_group_L8] at h
    refine lv_iload hx hb dX7_group_8 (lv_at hl 4 rfl) ?_
    refine lv_iload_n hx hb dX7_group_10 rfl (lv_at hl 2 rfl) ?_
    refine lv_icmp_le (tgt := 28) hx hb dX7_group_11 (by decide) (fun c3 => ?_) (fun c3 => ?_)
    · have h := it_t h c3
      refine lv_lload hx hb dX7_group_28 (lv_at hl 3 rfl) ?_
      refine lv_ldc2 (v := 10000) hx hb X.1.2.2.2.1 (X.hts (gt_in 972 (by decide +kernel) (by decide +kernel))) dX7_group_30 ?_
      refine lv_lrem hx hb dX7_group_33 (by decide) ?_
      refine lv_l2i hx hb dX7_group_34 rfl ?_
      exact u_iret X hret M (Option.some.inj h) (rfl) rfl dX7_group_35
    · have h := it_f h c3
      refine lv_lload hx hb dX7_group_14 (lv_at hl 3 rfl) ?_
      refine lv_ldc2 (v := 10000) hx hb X.1.2.2.2.1 (X.hts (gt_in 972 (by decide +kernel) (by decide +kernel))) dX7_group_16 ?_
      refine lv_ldiv hx hb dX7_group_19 (by decide) ?_
      obtain ⟨x4, e5, h⟩ := lt_e h
      refine u_topl e5 ?_
      refine lv_lstore (lv' := [(4, .long x4), (0, .int y0), (1, .long y1), (3, .int y3), (6, .int y6)]) hx hb dX7_group_20 hl (by decide) rfl (fun ls hl => ?_)
      obtain ⟨x6, e7, h⟩ := lt_e h
      refine lv_iinc (v := x6) (lv' := [(6, .int x6), (4, .long x4), (0, .int y0), (1, .long y1), (3, .int y3)]) hx hb dX7_group_22 hl (k := 4) rfl (by rw [e7]; rfl) (by decide) rfl (fun ls hl => ?_)
      refine lv_goto (tgt := 8) hx hb dX7_group_25 (by decide) ?_
      exact ih _ _ _ _ _ _ _ _ h M (lv_sub hl [2, 3, 4, 1, 0] rfl)
def fX7_group (a1 : Int32) (a2 : Int64) (a3 : Int32) : Option Int32 :=
  lt_ ((a1 - 1)) fun x1 =>
  fX7_group_L8 3000 a1 a2 a3 a2 x1
set_option maxHeartbeats 4000000 in
set_option maxRecDepth 20000 in
theorem kX7_group {l : Launch} {G : UG} {V : uV}  {a1 : Int32} {a2 : Int64} {a3 : Int32} {r : Int32} (h : fX7_group a1 a2 a3 = some r) : uMi l G yX7_group cX7_group 7 .int (uR 0 0) [.int a1, .long a2, .int a3] V r V := by
  refine uMi_of rfl (Nat.le_of_ble_eq_true rfl) (fun p e s m args below meth c ls X hret hl M => ?_)
  have hl : lv_has ls 7 [(0, .int a1), (1, .long a2), (3, .int a3)] := hl
  have hx := X.hx
  have hb := X.hb
  unfold fX7_group at h
  refine lv_lload_n hx hb dX7_group_0 rfl (lv_at hl 1 rfl) ?_
  refine lv_lstore (lv' := [(4, .long a2), (0, .int a1), (1, .long a2), (3, .int a3)]) hx hb dX7_group_1 hl (by decide) rfl (fun ls hl => ?_)
  refine lv_iload_n hx hb dX7_group_3 rfl (lv_at hl 1 rfl) ?_
  refine lv_iconst (v := 1) hx hb dX7_group_4 (by decide) ?_
  refine lv_isub hx hb dX7_group_5 ?_
  obtain ⟨x1, e2, h⟩ := lt_e h
  refine u_topi e2 ?_
  refine lv_istore (lv' := [(6, .int x1), (4, .long a2), (0, .int a1), (1, .long a2), (3, .int a3)]) hx hb dX7_group_6 hl (by decide) rfl (fun ls hl => ?_)
  exact lpX7_group_8  X hret 3000 _ _ _ _ _ _ _ _ h M (lv_sub hl [2, 3, 4, 1, 0] rfl)
def fX7_succeeds (S : (Nat → Nat → Int32)) (a2 : Int32) : Option (Int32 × (Nat → Nat → Int32)) :=
  lt_ (((a2 / 100) - (a2 / 100) / 10 * 10)) fun x1 =>
  lt_ (((a2 / 10) - (a2 / 10) / 10 * 10)) fun x3 =>
  lt_ ((a2 - a2 / 10 * 10)) fun x5 =>
  lt_ ((a2 - a2 / 100 * 100)) fun x7 =>
  lt_ ((a2 / 1000)) fun x9 =>
  if x9 = 1 then
    if x5 = 0 then
      bd2 (fX10_showCard S x1 x3) fun x14 S15 =>
      lt_ (fX10_letsThrough  x14) fun x18 =>
      if x18 = 0 then
        some (0, S15)
      else
        some (1, S15)
    else
      some (0, S)
  else if x9 = 2 then
    bd2 (fX10_tryPay S x1 x7) fun x23 S24 =>
    some (x23, S24)
  else if x9 = 3 then
    if x3 = 0 then
      if x5 = 1 then
        bd2 (fX10_tryUp S x1) fun x36 S37 =>
        if x36 = 0 then
          some (0, S37)
        else
          some (1, S37)
      else
        if x5 = 0 then
          bd2 (fX10_tryDown S x1) fun x31 S32 =>
          if x31 = 0 then
            some (0, S32)
          else
            some (1, S32)
        else
          some (0, S)
    else
      some (0, S)
  else if x9 = 4 then
    if x1 = 0 then
      bd2 (fX10_tryRun S x7) fun x43 S44 =>
      if x43 = 0 then
        some (0, S44)
      else
        some (1, S44)
    else
      some (0, S)
  else if x9 = 5 then
    if x7 = 0 then
      bd2 (fX10_tryCopy S x1) fun x50 S51 =>
      if x50 = 0 then
        some (0, S51)
      else
        some (1, S51)
    else
      some (0, S)
  else if x9 = 6 then
    if x3 = 0 then
      lt_ (fX5_has S x1) fun x57 =>
      if x57 = 0 then
        some (0, S)
      else
        lt_ (fX5_isBlocked S x1) fun x61 =>
        if x61 = 0 then
          if x5 = 0 then
            some (1, S)
          else
            some (0, S)
        else
          if x5 = 1 then
            some (1, S)
          else
            some (0, S)
    else
      some (0, S)
  else if x9 = 7 then
    lt_ (fX3_has S x1) fun x68 =>
    if x68 = 0 then
      some (0, S)
    else
      lt_ (fX3_logSize S x1) fun x72 =>
      if x7 < x72 then
        some (0, S)
      else
        some (1, S)
  else if x9 = 8 then
    lt_ (fX0_has S x1) fun x77 =>
    if x77 = 0 then
      some (0, S)
    else
      lt_ (fget 10 (S 5) x1) fun x81 =>
      if x81 < x7 then
        some (0, S)
      else
        some (1, S)
  else if x9 = 9 then
    if x1 = 0 then
      lt_ (S 0 7) fun x86 =>
      if x7 < x86 then
        some (0, S)
      else
        some (1, S)
    else
      some (0, S)
  else 
  some (0, S)
set_option maxHeartbeats 4000000 in
set_option maxRecDepth 20000 in
theorem kX7_succeeds {l : Launch} {G : UG} {V : uV} {t : Nat} (hS : uSt G t) {S S' : (Nat → Nat → Int32)} {a2 : Int32} {r : Int32} (h : fX7_succeeds S a2 = some (r, S')) : uMi l G yX7_succeeds cX7_succeeds 6 .boolean (uR 5 119) [.ref (ga G t 0), .int a2] (va_up V t S) r (va_up V t S') := by
  refine uMi_of rfl (Nat.le_of_ble_eq_true rfl) (fun p e s m args below meth c ls X hret hl M => ?_)
  have hl : lv_has ls 6 [(0, .ref (ga G t 0)), (1, .int a2)] := hl
  have hx := X.hx
  have hb := X.hb
  unfold fX7_succeeds at h
  refine lv_iload_n hx hb dX7_succeeds_0 rfl (lv_at hl 1 rfl) ?_
  refine lv_bipush (v := 100) hx hb dX7_succeeds_1 (by decide) ?_
  refine lv_idiv hx hb dX7_succeeds_3 (by decide) ?_
  refine lv_bipush (v := 10) hx hb dX7_succeeds_4 (by decide) ?_
  refine lv_irem hx hb dX7_succeeds_6 (by decide) ?_
  obtain ⟨x1, e2, h⟩ := lt_e h
  refine u_topi e2 ?_
  refine lv_istore_n (lv' := [(2, .int x1), (0, .ref (ga G t 0)), (1, .int a2)]) hx hb dX7_succeeds_7 rfl hl (by decide) rfl (fun ls hl => ?_)
  refine lv_iload_n hx hb dX7_succeeds_8 rfl (lv_at hl 2 rfl) ?_
  refine lv_bipush (v := 10) hx hb dX7_succeeds_9 (by decide) ?_
  refine lv_idiv hx hb dX7_succeeds_11 (by decide) ?_
  refine lv_bipush (v := 10) hx hb dX7_succeeds_12 (by decide) ?_
  refine lv_irem hx hb dX7_succeeds_14 (by decide) ?_
  obtain ⟨x3, e4, h⟩ := lt_e h
  refine u_topi e4 ?_
  refine lv_istore_n (lv' := [(3, .int x3), (2, .int x1), (0, .ref (ga G t 0)), (1, .int a2)]) hx hb dX7_succeeds_15 rfl hl (by decide) rfl (fun ls hl => ?_)
  refine lv_iload_n hx hb dX7_succeeds_16 rfl (lv_at hl 3 rfl) ?_
  refine lv_bipush (v := 10) hx hb dX7_succeeds_17 (by decide) ?_
  refine lv_irem hx hb dX7_succeeds_19 (by decide) ?_
  obtain ⟨x5, e6, h⟩ := lt_e h
  refine u_topi e6 ?_
  refine lv_istore (lv' := [(4, .int x5), (3, .int x3), (2, .int x1), (0, .ref (ga G t 0)), (1, .int a2)]) hx hb dX7_succeeds_20 hl (by decide) rfl (fun ls hl => ?_)
  refine lv_iload_n hx hb dX7_succeeds_22 rfl (lv_at hl 4 rfl) ?_
  refine lv_bipush (v := 100) hx hb dX7_succeeds_23 (by decide) ?_
  refine lv_irem hx hb dX7_succeeds_25 (by decide) ?_
  obtain ⟨x7, e8, h⟩ := lt_e h
  refine u_topi e8 ?_
  refine lv_istore (lv' := [(5, .int x7), (4, .int x5), (3, .int x3), (2, .int x1), (0, .ref (ga G t 0)), (1, .int a2)]) hx hb dX7_succeeds_26 hl (by decide) rfl (fun ls hl => ?_)
  refine lv_iload_n hx hb dX7_succeeds_28 rfl (lv_at hl 5 rfl) ?_
  refine lv_sipush (v := 1000) hx hb dX7_succeeds_29 (by decide) ?_
  refine lv_idiv hx hb dX7_succeeds_32 (by decide) ?_
  obtain ⟨x9, e10, h⟩ := lt_e h
  refine u_topi e10 ?_
  by_cases c11 : x9 = 1
  · have h := it_t h c11
    refine lv_tableIn (off := 51) (tgt := 84) hx hb dX7_succeeds_33 (by rw [c11]; decide) (by rw [c11]; decide) (by rw [c11]; rfl) (by decide) ?_
    refine lv_iload hx hb dX7_succeeds_84 (lv_at hl 1 rfl) ?_
    refine lv_if_ne (tgt := 105) hx hb dX7_succeeds_86 (by decide) (fun c12 => ?_) (fun c12 => ?_)
    · have h := it_f h c12
      refine lv_iconst (v := 0) hx hb dX7_succeeds_105 (by decide) ?_
      exact u_iret X hret M (rt2 h).1 (congrArg (va_up V t) ((rt2 h).2)) rfl dX7_succeeds_106
    · have h := it_t h c12
      refine lv_aload_n hx hb dX7_succeeds_89 rfl (lv_at hl 4 rfl) ?_
      refine lv_iload_n hx hb dX7_succeeds_90 rfl (lv_at hl 3 rfl) ?_
      refine lv_iload_n hx hb dX7_succeeds_91 rfl (lv_at hl 2 rfl) ?_
      obtain ⟨x14, S15, e13, h⟩ := bd2_e h
      refine u_cVi X M hl.1 (kX10_showCard hS e13) cw_X7_11 ⟨by decide, by decide⟩ (rc_X10 X M hS) rfl rfl (Nat.le_of_ble_eq_true rfl) ⟨Nat.zero_le _, Nat.zero_le _⟩ dX7_succeeds_92 (fun H locs M n16 => ?_)
      obtain ⟨x18, e17, h⟩ := lt_e h
      refine u_cSi X M hl.1 (kX10_letsThrough  e17.symm) cw_X7_17 ⟨by decide, by decide⟩ rfl rfl (Nat.le_of_ble_eq_true rfl) ⟨Nat.zero_le _, Nat.zero_le _⟩ dX7_succeeds_95 (fun H locs M n19 => ?_)
      refine lv_if_eq (tgt := 105) hx hb dX7_succeeds_98 (by decide) (fun c20 => ?_) (fun c20 => ?_)
      · have h := it_t h c20
        refine lv_iconst (v := 0) hx hb dX7_succeeds_105 (by decide) ?_
        exact u_iret X hret M (rt2 h).1 (congrArg (va_up V t) ((rt2 h).2)) rfl dX7_succeeds_106
      · have h := it_f h c20
        refine lv_iconst (v := 1) hx hb dX7_succeeds_101 (by decide) ?_
        refine lv_goto (tgt := 106) hx hb dX7_succeeds_102 (by decide) ?_
        exact u_iret X hret M (rt2 h).1 (congrArg (va_up V t) ((rt2 h).2)) rfl dX7_succeeds_106
  · have h := it_f h c11
    by_cases c21 : x9 = 2
    · have h := it_t h c21
      refine lv_tableIn (off := 74) (tgt := 107) hx hb dX7_succeeds_33 (by rw [c21]; decide) (by rw [c21]; decide) (by rw [c21]; rfl) (by decide) ?_
      refine lv_aload_n hx hb dX7_succeeds_107 rfl (lv_at hl 4 rfl) ?_
      refine lv_iload_n hx hb dX7_succeeds_108 rfl (lv_at hl 3 rfl) ?_
      refine lv_iload hx hb dX7_succeeds_109 (lv_at hl 0 rfl) ?_
      obtain ⟨x23, S24, e22, h⟩ := bd2_e h
      refine u_cVi X M hl.1 (kX10_tryPay hS e22) cw_X7_21 ⟨by decide, by decide⟩ (rc_X10 X M hS) rfl rfl (Nat.le_of_ble_eq_true rfl) ⟨Nat.zero_le _, Nat.zero_le _⟩ dX7_succeeds_111 (fun H locs M n25 => ?_)
      exact u_iret X hret M (rt2 h).1 (congrArg (va_up V t) ((rt2 h).2)) n25 dX7_succeeds_114
    · have h := it_f h c21
      by_cases c26 : x9 = 3
      · have h := it_t h c26
        refine lv_tableIn (off := 82) (tgt := 115) hx hb dX7_succeeds_33 (by rw [c26]; decide) (by rw [c26]; decide) (by rw [c26]; rfl) (by decide) ?_
        refine lv_iload_n hx hb dX7_succeeds_115 rfl (lv_at hl 2 rfl) ?_
        refine lv_if_ne (tgt := 153) hx hb dX7_succeeds_116 (by decide) (fun c27 => ?_) (fun c27 => ?_)
        · have h := it_f h c27
          refine lv_iconst (v := 0) hx hb dX7_succeeds_153 (by decide) ?_
          exact u_iret X hret M (rt2 h).1 (congrArg (va_up V t) ((rt2 h).2)) rfl dX7_succeeds_154
        · have h := it_t h c27
          refine lv_iload hx hb dX7_succeeds_119 (lv_at hl 1 rfl) ?_
          refine lv_iconst (v := 1) hx hb dX7_succeeds_121 (by decide) ?_
          refine lv_icmp_ne (tgt := 136) hx hb dX7_succeeds_122 (by decide) (fun c28 => ?_) (fun c28 => ?_)
          · have h := it_f h c28
            refine lv_iload hx hb dX7_succeeds_136 (lv_at hl 1 rfl) ?_
            refine lv_if_ne (tgt := 153) hx hb dX7_succeeds_138 (by decide) (fun c29 => ?_) (fun c29 => ?_)
            · have h := it_f h c29
              refine lv_iconst (v := 0) hx hb dX7_succeeds_153 (by decide) ?_
              exact u_iret X hret M (rt2 h).1 (congrArg (va_up V t) ((rt2 h).2)) rfl dX7_succeeds_154
            · have h := it_t h c29
              refine lv_aload_n hx hb dX7_succeeds_141 rfl (lv_at hl 4 rfl) ?_
              refine lv_iload_n hx hb dX7_succeeds_142 rfl (lv_at hl 3 rfl) ?_
              obtain ⟨x31, S32, e30, h⟩ := bd2_e h
              refine u_cVi X M hl.1 (kX10_tryDown hS e30) cw_X7_28 ⟨by decide, by decide⟩ (rc_X10 X M hS) rfl rfl (Nat.le_of_ble_eq_true rfl) ⟨Nat.zero_le _, Nat.zero_le _⟩ dX7_succeeds_143 (fun H locs M n33 => ?_)
              refine lv_if_eq (tgt := 153) hx hb dX7_succeeds_146 (by decide) (fun c34 => ?_) (fun c34 => ?_)
              · have h := it_t h c34
                refine lv_iconst (v := 0) hx hb dX7_succeeds_153 (by decide) ?_
                exact u_iret X hret M (rt2 h).1 (congrArg (va_up V t) ((rt2 h).2)) rfl dX7_succeeds_154
              · have h := it_f h c34
                refine lv_iconst (v := 1) hx hb dX7_succeeds_149 (by decide) ?_
                refine lv_goto (tgt := 154) hx hb dX7_succeeds_150 (by decide) ?_
                exact u_iret X hret M (rt2 h).1 (congrArg (va_up V t) ((rt2 h).2)) rfl dX7_succeeds_154
          · have h := it_t h c28
            refine lv_aload_n hx hb dX7_succeeds_125 rfl (lv_at hl 4 rfl) ?_
            refine lv_iload_n hx hb dX7_succeeds_126 rfl (lv_at hl 3 rfl) ?_
            obtain ⟨x36, S37, e35, h⟩ := bd2_e h
            refine u_cVi X M hl.1 (kX10_tryUp hS e35) cw_X7_25 ⟨by decide, by decide⟩ (rc_X10 X M hS) rfl rfl (Nat.le_of_ble_eq_true rfl) ⟨Nat.zero_le _, Nat.zero_le _⟩ dX7_succeeds_127 (fun H locs M n38 => ?_)
            refine lv_if_eq (tgt := 153) hx hb dX7_succeeds_130 (by decide) (fun c39 => ?_) (fun c39 => ?_)
            · have h := it_t h c39
              refine lv_iconst (v := 0) hx hb dX7_succeeds_153 (by decide) ?_
              exact u_iret X hret M (rt2 h).1 (congrArg (va_up V t) ((rt2 h).2)) rfl dX7_succeeds_154
            · have h := it_f h c39
              refine lv_goto (tgt := 149) hx hb dX7_succeeds_133 (by decide) ?_
              refine lv_iconst (v := 1) hx hb dX7_succeeds_149 (by decide) ?_
              refine lv_goto (tgt := 154) hx hb dX7_succeeds_150 (by decide) ?_
              exact u_iret X hret M (rt2 h).1 (congrArg (va_up V t) ((rt2 h).2)) rfl dX7_succeeds_154
      · have h := it_f h c26
        by_cases c40 : x9 = 4
        · have h := it_t h c40
          refine lv_tableIn (off := 122) (tgt := 155) hx hb dX7_succeeds_33 (by rw [c40]; decide) (by rw [c40]; decide) (by rw [c40]; rfl) (by decide) ?_
          refine lv_iload_n hx hb dX7_succeeds_155 rfl (lv_at hl 3 rfl) ?_
          refine lv_if_ne (tgt := 172) hx hb dX7_succeeds_156 (by decide) (fun c41 => ?_) (fun c41 => ?_)
          · have h := it_f h c41
            refine lv_iconst (v := 0) hx hb dX7_succeeds_172 (by decide) ?_
            exact u_iret X hret M (rt2 h).1 (congrArg (va_up V t) ((rt2 h).2)) rfl dX7_succeeds_173
          · have h := it_t h c41
            refine lv_aload_n hx hb dX7_succeeds_159 rfl (lv_at hl 4 rfl) ?_
            refine lv_iload hx hb dX7_succeeds_160 (lv_at hl 0 rfl) ?_
            obtain ⟨x43, S44, e42, h⟩ := bd2_e h
            refine u_cVi X M hl.1 (kX10_tryRun hS e42) cw_X7_31 ⟨by decide, by decide⟩ (rc_X10 X M hS) rfl rfl (Nat.le_of_ble_eq_true rfl) ⟨Nat.zero_le _, Nat.zero_le _⟩ dX7_succeeds_162 (fun H locs M n45 => ?_)
            refine lv_if_eq (tgt := 172) hx hb dX7_succeeds_165 (by decide) (fun c46 => ?_) (fun c46 => ?_)
            · have h := it_t h c46
              refine lv_iconst (v := 0) hx hb dX7_succeeds_172 (by decide) ?_
              exact u_iret X hret M (rt2 h).1 (congrArg (va_up V t) ((rt2 h).2)) rfl dX7_succeeds_173
            · have h := it_f h c46
              refine lv_iconst (v := 1) hx hb dX7_succeeds_168 (by decide) ?_
              refine lv_goto (tgt := 173) hx hb dX7_succeeds_169 (by decide) ?_
              exact u_iret X hret M (rt2 h).1 (congrArg (va_up V t) ((rt2 h).2)) rfl dX7_succeeds_173
        · have h := it_f h c40
          by_cases c47 : x9 = 5
          · have h := it_t h c47
            refine lv_tableIn (off := 141) (tgt := 174) hx hb dX7_succeeds_33 (by rw [c47]; decide) (by rw [c47]; decide) (by rw [c47]; rfl) (by decide) ?_
            refine lv_iload hx hb dX7_succeeds_174 (lv_at hl 0 rfl) ?_
            refine lv_if_ne (tgt := 191) hx hb dX7_succeeds_176 (by decide) (fun c48 => ?_) (fun c48 => ?_)
            · have h := it_f h c48
              refine lv_iconst (v := 0) hx hb dX7_succeeds_191 (by decide) ?_
              exact u_iret X hret M (rt2 h).1 (congrArg (va_up V t) ((rt2 h).2)) rfl dX7_succeeds_192
            · have h := it_t h c48
              refine lv_aload_n hx hb dX7_succeeds_179 rfl (lv_at hl 4 rfl) ?_
              refine lv_iload_n hx hb dX7_succeeds_180 rfl (lv_at hl 3 rfl) ?_
              obtain ⟨x50, S51, e49, h⟩ := bd2_e h
              refine u_cVi X M hl.1 (kX10_tryCopy hS e49) cw_X7_34 ⟨by decide, by decide⟩ (rc_X10 X M hS) rfl rfl (Nat.le_of_ble_eq_true rfl) ⟨Nat.zero_le _, Nat.zero_le _⟩ dX7_succeeds_181 (fun H locs M n52 => ?_)
              refine lv_if_eq (tgt := 191) hx hb dX7_succeeds_184 (by decide) (fun c53 => ?_) (fun c53 => ?_)
              · have h := it_t h c53
                refine lv_iconst (v := 0) hx hb dX7_succeeds_191 (by decide) ?_
                exact u_iret X hret M (rt2 h).1 (congrArg (va_up V t) ((rt2 h).2)) rfl dX7_succeeds_192
              · have h := it_f h c53
                refine lv_iconst (v := 1) hx hb dX7_succeeds_187 (by decide) ?_
                refine lv_goto (tgt := 192) hx hb dX7_succeeds_188 (by decide) ?_
                exact u_iret X hret M (rt2 h).1 (congrArg (va_up V t) ((rt2 h).2)) rfl dX7_succeeds_192
          · have h := it_f h c47
            by_cases c54 : x9 = 6
            · have h := it_t h c54
              refine lv_tableIn (off := 160) (tgt := 193) hx hb dX7_succeeds_33 (by rw [c54]; decide) (by rw [c54]; decide) (by rw [c54]; rfl) (by decide) ?_
              refine lv_iload_n hx hb dX7_succeeds_193 rfl (lv_at hl 2 rfl) ?_
              refine lv_if_ne (tgt := 233) hx hb dX7_succeeds_194 (by decide) (fun c55 => ?_) (fun c55 => ?_)
              · have h := it_f h c55
                refine lv_iconst (v := 0) hx hb dX7_succeeds_233 (by decide) ?_
                exact u_iret X hret M (rt2 h).1 (congrArg (va_up V t) ((rt2 h).2)) rfl dX7_succeeds_234
              · have h := it_t h c55
                refine lv_aload_n hx hb dX7_succeeds_197 rfl (lv_at hl 4 rfl) ?_
                refine gf_X7_37 X M hS dX7_succeeds_198 ?_
                refine lv_iload_n hx hb dX7_succeeds_201 rfl (lv_at hl 3 rfl) ?_
                obtain ⟨x57, e56, h⟩ := lt_e h
                refine u_cVi X M hl.1 (kX5_has hS (va_up_s V t _) e56.symm) cw_X7_41 ⟨by decide, by decide⟩ (rc_X5 X M hS) rfl rfl (Nat.le_of_ble_eq_true rfl) ⟨Nat.zero_le _, Nat.zero_le _⟩ dX7_succeeds_202 (fun H locs M n58 => ?_)
                refine lv_if_eq (tgt := 233) hx hb dX7_succeeds_205 (by decide) (fun c59 => ?_) (fun c59 => ?_)
                · have h := it_t h c59
                  refine lv_iconst (v := 0) hx hb dX7_succeeds_233 (by decide) ?_
                  exact u_iret X hret M (rt2 h).1 (congrArg (va_up V t) ((rt2 h).2)) rfl dX7_succeeds_234
                · have h := it_f h c59
                  refine lv_iload hx hb dX7_succeeds_208 (lv_at hl 1 rfl) ?_
                  refine lv_aload_n hx hb dX7_succeeds_210 rfl (lv_at hl 4 rfl) ?_
                  refine gf_X7_37 X M hS dX7_succeeds_211 ?_
                  refine lv_iload_n hx hb dX7_succeeds_214 rfl (lv_at hl 3 rfl) ?_
                  obtain ⟨x61, e60, h⟩ := lt_e h
                  refine u_cVi X M hl.1 (kX5_isBlocked hS (va_up_s V t _) e60.symm) cw_X7_46 ⟨by decide, by decide⟩ (rc_X5 X M hS) rfl rfl (Nat.le_of_ble_eq_true rfl) ⟨Nat.zero_le _, Nat.zero_le _⟩ dX7_succeeds_215 (fun H locs M n62 => ?_)
                  refine lv_if_eq (tgt := 225) hx hb dX7_succeeds_218 (by decide) (fun c63 => ?_) (fun c63 => ?_)
                  · have h := it_t h c63
                    refine lv_iconst (v := 0) hx hb dX7_succeeds_225 (by decide) ?_
                    refine lv_icmp_ne (tgt := 233) hx hb dX7_succeeds_226 (by decide) (fun c64 => ?_) (fun c64 => ?_)
                    · have h := it_f h c64
                      refine lv_iconst (v := 0) hx hb dX7_succeeds_233 (by decide) ?_
                      exact u_iret X hret M (rt2 h).1 (congrArg (va_up V t) ((rt2 h).2)) rfl dX7_succeeds_234
                    · have h := it_t h c64
                      refine lv_iconst (v := 1) hx hb dX7_succeeds_229 (by decide) ?_
                      refine lv_goto (tgt := 234) hx hb dX7_succeeds_230 (by decide) ?_
                      exact u_iret X hret M (rt2 h).1 (congrArg (va_up V t) ((rt2 h).2)) rfl dX7_succeeds_234
                  · have h := it_f h c63
                    refine lv_iconst (v := 1) hx hb dX7_succeeds_221 (by decide) ?_
                    refine lv_goto (tgt := 226) hx hb dX7_succeeds_222 (by decide) ?_
                    refine lv_icmp_ne (tgt := 233) hx hb dX7_succeeds_226 (by decide) (fun c65 => ?_) (fun c65 => ?_)
                    · have h := it_f h c65
                      refine lv_iconst (v := 0) hx hb dX7_succeeds_233 (by decide) ?_
                      exact u_iret X hret M (rt2 h).1 (congrArg (va_up V t) ((rt2 h).2)) rfl dX7_succeeds_234
                    · have h := it_t h c65
                      refine lv_iconst (v := 1) hx hb dX7_succeeds_229 (by decide) ?_
                      refine lv_goto (tgt := 234) hx hb dX7_succeeds_230 (by decide) ?_
                      exact u_iret X hret M (rt2 h).1 (congrArg (va_up V t) ((rt2 h).2)) rfl dX7_succeeds_234
            · have h := it_f h c54
              by_cases c66 : x9 = 7
              · have h := it_t h c66
                refine lv_tableIn (off := 202) (tgt := 235) hx hb dX7_succeeds_33 (by rw [c66]; decide) (by rw [c66]; decide) (by rw [c66]; rfl) (by decide) ?_
                refine lv_aload_n hx hb dX7_succeeds_235 rfl (lv_at hl 4 rfl) ?_
                refine gf_X7_49 X M hS dX7_succeeds_236 ?_
                refine lv_iload_n hx hb dX7_succeeds_239 rfl (lv_at hl 3 rfl) ?_
                obtain ⟨x68, e67, h⟩ := lt_e h
                refine u_cVi X M hl.1 (kX3_has hS (va_up_s V t _) e67.symm) cw_X7_53 ⟨by decide, by decide⟩ (rc_X3 X M hS) rfl rfl (Nat.le_of_ble_eq_true rfl) ⟨Nat.zero_le _, Nat.zero_le _⟩ dX7_succeeds_240 (fun H locs M n69 => ?_)
                refine lv_if_eq (tgt := 263) hx hb dX7_succeeds_243 (by decide) (fun c70 => ?_) (fun c70 => ?_)
                · have h := it_t h c70
                  refine lv_iconst (v := 0) hx hb dX7_succeeds_263 (by decide) ?_
                  exact u_iret X hret M (rt2 h).1 (congrArg (va_up V t) ((rt2 h).2)) rfl dX7_succeeds_264
                · have h := it_f h c70
                  refine lv_aload_n hx hb dX7_succeeds_246 rfl (lv_at hl 4 rfl) ?_
                  refine gf_X7_49 X M hS dX7_succeeds_247 ?_
                  refine lv_iload_n hx hb dX7_succeeds_250 rfl (lv_at hl 3 rfl) ?_
                  obtain ⟨x72, e71, h⟩ := lt_e h
                  refine u_cVi X M hl.1 (kX3_logSize hS (va_up_s V t _) e71.symm) cw_X7_56 ⟨by decide, by decide⟩ (rc_X3 X M hS) rfl rfl (Nat.le_of_ble_eq_true rfl) ⟨Nat.zero_le _, Nat.zero_le _⟩ dX7_succeeds_251 (fun H locs M n73 => ?_)
                  refine lv_iload hx hb dX7_succeeds_254 (lv_at hl 0 rfl) ?_
                  refine lv_icmp_gt (tgt := 263) hx hb dX7_succeeds_256 (by decide) (fun c74 => ?_) (fun c74 => ?_)
                  · have h := it_t h c74
                    refine lv_iconst (v := 0) hx hb dX7_succeeds_263 (by decide) ?_
                    exact u_iret X hret M (rt2 h).1 (congrArg (va_up V t) ((rt2 h).2)) rfl dX7_succeeds_264
                  · have h := it_f h c74
                    refine lv_iconst (v := 1) hx hb dX7_succeeds_259 (by decide) ?_
                    refine lv_goto (tgt := 264) hx hb dX7_succeeds_260 (by decide) ?_
                    exact u_iret X hret M (rt2 h).1 (congrArg (va_up V t) ((rt2 h).2)) rfl dX7_succeeds_264
              · have h := it_f h c66
                by_cases c75 : x9 = 8
                · have h := it_t h c75
                  refine lv_tableIn (off := 232) (tgt := 265) hx hb dX7_succeeds_33 (by rw [c75]; decide) (by rw [c75]; decide) (by rw [c75]; rfl) (by decide) ?_
                  refine lv_aload_n hx hb dX7_succeeds_265 rfl (lv_at hl 4 rfl) ?_
                  refine gf_X7_60 X M hS dX7_succeeds_266 ?_
                  refine lv_iload_n hx hb dX7_succeeds_269 rfl (lv_at hl 3 rfl) ?_
                  obtain ⟨x77, e76, h⟩ := lt_e h
                  refine u_cVi X M hl.1 (kX0_has hS (va_up_s V t _) e76.symm) cw_X7_64 ⟨by decide, by decide⟩ (rc_X0 X M hS) rfl rfl (Nat.le_of_ble_eq_true rfl) ⟨Nat.zero_le _, Nat.zero_le _⟩ dX7_succeeds_270 (fun H locs M n78 => ?_)
                  refine lv_if_eq (tgt := 296) hx hb dX7_succeeds_273 (by decide) (fun c79 => ?_) (fun c79 => ?_)
                  · have h := it_t h c79
                    refine lv_iconst (v := 0) hx hb dX7_succeeds_296 (by decide) ?_
                    exact u_iret X hret M (rt2 h).1 (congrArg (va_up V t) ((rt2 h).2)) rfl dX7_succeeds_297
                  · have h := it_f h c79
                    refine lv_aload_n hx hb dX7_succeeds_276 rfl (lv_at hl 4 rfl) ?_
                    refine gf_X7_60 X M hS dX7_succeeds_277 ?_
                    refine gf_X7_67 X M hS dX7_succeeds_280 ?_
                    refine lv_iload_n hx hb dX7_succeeds_283 rfl (lv_at hl 3 rfl) ?_
                    obtain ⟨x81, e80, h⟩ := lt_e h
                    refine u_cVi X M hl.1 (kX6_get (uRw4 hS) (congrFun (va_up_s V t _) 5) e80.symm) cw_X7_71 ⟨by decide, by decide⟩ (uR_recv X M (uRw4 hS)) rfl rfl (Nat.le_of_ble_eq_true rfl) ⟨Nat.zero_le _, Nat.zero_le _⟩ dX7_succeeds_284 (fun H locs M n82 => ?_)
                    refine lv_iload hx hb dX7_succeeds_287 (lv_at hl 0 rfl) ?_
                    refine lv_icmp_lt (tgt := 296) hx hb dX7_succeeds_289 (by decide) (fun c83 => ?_) (fun c83 => ?_)
                    · have h := it_t h c83
                      refine lv_iconst (v := 0) hx hb dX7_succeeds_296 (by decide) ?_
                      exact u_iret X hret M (rt2 h).1 (congrArg (va_up V t) ((rt2 h).2)) rfl dX7_succeeds_297
                    · have h := it_f h c83
                      refine lv_iconst (v := 1) hx hb dX7_succeeds_292 (by decide) ?_
                      refine lv_goto (tgt := 297) hx hb dX7_succeeds_293 (by decide) ?_
                      exact u_iret X hret M (rt2 h).1 (congrArg (va_up V t) ((rt2 h).2)) rfl dX7_succeeds_297
                · have h := it_f h c75
                  by_cases c84 : x9 = 9
                  · have h := it_t h c84
                    refine lv_tableIn (off := 265) (tgt := 298) hx hb dX7_succeeds_33 (by rw [c84]; decide) (by rw [c84]; decide) (by rw [c84]; rfl) (by decide) ?_
                    refine lv_iload_n hx hb dX7_succeeds_298 rfl (lv_at hl 3 rfl) ?_
                    refine lv_if_ne (tgt := 315) hx hb dX7_succeeds_299 (by decide) (fun c85 => ?_) (fun c85 => ?_)
                    · have h := it_f h c85
                      refine lv_iconst (v := 0) hx hb dX7_succeeds_315 (by decide) ?_
                      exact u_iret X hret M (rt2 h).1 (congrArg (va_up V t) ((rt2 h).2)) rfl dX7_succeeds_316
                    · have h := it_t h c85
                      refine lv_aload_n hx hb dX7_succeeds_302 rfl (lv_at hl 4 rfl) ?_
                      obtain ⟨x86, e87, h⟩ := lt_e h
                      refine gf_X7_76 X M hS (va_up_s V t _) e87 dX7_succeeds_303 ?_
                      refine lv_iload hx hb dX7_succeeds_306 (lv_at hl 0 rfl) ?_
                      refine lv_icmp_gt (tgt := 315) hx hb dX7_succeeds_308 (by decide) (fun c88 => ?_) (fun c88 => ?_)
                      · have h := it_t h c88
                        refine lv_iconst (v := 0) hx hb dX7_succeeds_315 (by decide) ?_
                        exact u_iret X hret M (rt2 h).1 (congrArg (va_up V t) ((rt2 h).2)) rfl dX7_succeeds_316
                      · have h := it_f h c88
                        refine lv_iconst (v := 1) hx hb dX7_succeeds_311 (by decide) ?_
                        refine lv_goto (tgt := 316) hx hb dX7_succeeds_312 (by decide) ?_
                        exact u_iret X hret M (rt2 h).1 (congrArg (va_up V t) ((rt2 h).2)) rfl dX7_succeeds_316
                  · have h := it_f h c84
                    have tc11 := lv_neT (a := 1) c11 (by decide)
                    have tc21 := lv_neT (a := 2) c21 (by decide)
                    have tc26 := lv_neT (a := 3) c26 (by decide)
                    have tc40 := lv_neT (a := 4) c40 (by decide)
                    have tc47 := lv_neT (a := 5) c47 (by decide)
                    have tc54 := lv_neT (a := 6) c54 (by decide)
                    have tc66 := lv_neT (a := 7) c66 (by decide)
                    have tc75 := lv_neT (a := 8) c75 (by decide)
                    have tc84 := lv_neT (a := 9) c84 (by decide)
                    refine lv_tableOut (tgt := 317) hx hb dX7_succeeds_33 (by omega) (by decide) ?_
                    refine lv_iconst (v := 0) hx hb dX7_succeeds_317 (by decide) ?_
                    exact u_iret X hret M (rt2 h).1 (congrArg (va_up V t) ((rt2 h).2)) rfl dX7_succeeds_318
def fX8_turn (S : (Nat → Nat → Int32)) (a2 : Int32) : Option (Nat → Nat → Int32) :=
  lt_ ((a2 / 16)) fun x1 =>
  lt_ ((a2 - a2 / 16 * 16)) fun x3 =>
  if x3 = 0 then
    bd2 (fX10_tryIssue S (x1 - x1 / 40 * 40)) fun x7 S8 =>
    some S8
  else if x3 = 1 then
    bd2 (fX10_tryCopy S (x1 - x1 / 10 * 10)) fun x12 S13 =>
    some S13
  else if x3 = 2 then
    bd2 (fX10_tryDown S (x1 - x1 / 4 * 4)) fun x17 S18 =>
    some S18
  else if x3 = 3 then
    bd2 (fX10_tryUp S (x1 - x1 / 4 * 4)) fun x22 S23 =>
    some S23
  else if x3 = 4 then
    bd2 (fX10_tryPay S (x1 - x1 / 8 * 8) (1 + ((a2 / 128) - (a2 / 128) / 30 * 30))) fun x27 S28 =>
    some S28
  else if x3 = 5 then
    bd2 (fX10_tryOpen S (x1 - x1 / 4 * 4)) fun x32 S33 =>
    some S33
  else if x3 = 6 then
    bd2 (fX10_tryPardon S (x1 - x1 / 8 * 8)) fun x37 S38 =>
    some S38
  else if x3 = 7 then
    bd2 (fX10_tryRun S (1 + (x1 - x1 / 20 * 20))) fun x42 S43 =>
    some S43
  else if x3 = 8 then
    bd2 (fX10_tryRun S (1 + (x1 - x1 / 20 * 20))) fun x47 S48 =>
    some S48
  else 
  bd2 (fX10_showCard S (x1 - x1 / 10 * 10) ((a2 / 256) - (a2 / 256) / 4 * 4)) fun x51 S52 =>
  some S52
set_option maxHeartbeats 4000000 in
set_option maxRecDepth 20000 in
theorem kX8_turn {l : Launch} {G : UG} {V : uV} {t : Nat} (hS : uSt G t) {S S' : (Nat → Nat → Int32)} {a2 : Int32} (h : fX8_turn S a2 = some S') : uMv l G yX8_turn cX8_turn 3 (uR 5 119) [.ref (ga G t 0), .int a2] (va_up V t S) (va_up V t S') := by
  refine uMv_of rfl (Nat.le_of_ble_eq_true rfl) (fun p e s m args below meth c ls X hret hl M => ?_)
  have hl : lv_has ls 3 [(0, .ref (ga G t 0)), (1, .int a2)] := hl
  have hx := X.hx
  have hb := X.hb
  unfold fX8_turn at h
  refine lv_iload_n hx hb dX8_turn_0 rfl (lv_at hl 1 rfl) ?_
  refine lv_bipush (v := 16) hx hb dX8_turn_1 (by decide) ?_
  refine lv_idiv hx hb dX8_turn_3 (by decide) ?_
  obtain ⟨x1, e2, h⟩ := lt_e h
  refine u_topi e2 ?_
  refine lv_istore_n (lv' := [(2, .int x1), (0, .ref (ga G t 0)), (1, .int a2)]) hx hb dX8_turn_4 rfl hl (by decide) rfl (fun ls hl => ?_)
  refine lv_iload_n hx hb dX8_turn_5 rfl (lv_at hl 2 rfl) ?_
  refine lv_bipush (v := 16) hx hb dX8_turn_6 (by decide) ?_
  refine lv_irem hx hb dX8_turn_8 (by decide) ?_
  obtain ⟨x3, e4, h⟩ := lt_e h
  refine u_topi e4 ?_
  by_cases c5 : x3 = 0
  · have h := it_t h c5
    refine lv_tableIn (off := 51) (tgt := 60) hx hb dX8_turn_9 (by rw [c5]; decide) (by rw [c5]; decide) (by rw [c5]; rfl) (by decide) ?_
    refine lv_aload_n hx hb dX8_turn_60 rfl (lv_at hl 1 rfl) ?_
    refine lv_iload_n hx hb dX8_turn_61 rfl (lv_at hl 0 rfl) ?_
    refine lv_bipush (v := 40) hx hb dX8_turn_62 (by decide) ?_
    refine lv_irem hx hb dX8_turn_64 (by decide) ?_
    obtain ⟨x7, S8, e6, h⟩ := bd2_e h
    refine u_cVi X M hl.1 (kX10_tryIssue hS e6) cw_X8_7 ⟨by decide, by decide⟩ (rc_X10 X M hS) rfl rfl (Nat.le_of_ble_eq_true rfl) ⟨Nat.zero_le _, Nat.zero_le _⟩ dX8_turn_65 (fun H locs M n9 => ?_)
    refine lv_pop hx hb dX8_turn_68 rfl ?_
    refine lv_goto (tgt := 181) hx hb dX8_turn_69 (by decide) ?_
    exact u_vret X hret M (congrArg (va_up V t) (Option.some.inj h)) dX8_turn_181
  · have h := it_f h c5
    by_cases c10 : x3 = 1
    · have h := it_t h c10
      refine lv_tableIn (off := 63) (tgt := 72) hx hb dX8_turn_9 (by rw [c10]; decide) (by rw [c10]; decide) (by rw [c10]; rfl) (by decide) ?_
      refine lv_aload_n hx hb dX8_turn_72 rfl (lv_at hl 1 rfl) ?_
      refine lv_iload_n hx hb dX8_turn_73 rfl (lv_at hl 0 rfl) ?_
      refine lv_bipush (v := 10) hx hb dX8_turn_74 (by decide) ?_
      refine lv_irem hx hb dX8_turn_76 (by decide) ?_
      obtain ⟨x12, S13, e11, h⟩ := bd2_e h
      refine u_cVi X M hl.1 (kX10_tryCopy hS e11) cw_X8_13 ⟨by decide, by decide⟩ (rc_X10 X M hS) rfl rfl (Nat.le_of_ble_eq_true rfl) ⟨Nat.zero_le _, Nat.zero_le _⟩ dX8_turn_77 (fun H locs M n14 => ?_)
      refine lv_pop hx hb dX8_turn_80 rfl ?_
      refine lv_goto (tgt := 181) hx hb dX8_turn_81 (by decide) ?_
      exact u_vret X hret M (congrArg (va_up V t) (Option.some.inj h)) dX8_turn_181
    · have h := it_f h c10
      by_cases c15 : x3 = 2
      · have h := it_t h c15
        refine lv_tableIn (off := 75) (tgt := 84) hx hb dX8_turn_9 (by rw [c15]; decide) (by rw [c15]; decide) (by rw [c15]; rfl) (by decide) ?_
        refine lv_aload_n hx hb dX8_turn_84 rfl (lv_at hl 1 rfl) ?_
        refine lv_iload_n hx hb dX8_turn_85 rfl (lv_at hl 0 rfl) ?_
        refine lv_iconst (v := 4) hx hb dX8_turn_86 (by decide) ?_
        refine lv_irem hx hb dX8_turn_87 (by decide) ?_
        obtain ⟨x17, S18, e16, h⟩ := bd2_e h
        refine u_cVi X M hl.1 (kX10_tryDown hS e16) cw_X8_16 ⟨by decide, by decide⟩ (rc_X10 X M hS) rfl rfl (Nat.le_of_ble_eq_true rfl) ⟨Nat.zero_le _, Nat.zero_le _⟩ dX8_turn_88 (fun H locs M n19 => ?_)
        refine lv_pop hx hb dX8_turn_91 rfl ?_
        refine lv_goto (tgt := 181) hx hb dX8_turn_92 (by decide) ?_
        exact u_vret X hret M (congrArg (va_up V t) (Option.some.inj h)) dX8_turn_181
      · have h := it_f h c15
        by_cases c20 : x3 = 3
        · have h := it_t h c20
          refine lv_tableIn (off := 86) (tgt := 95) hx hb dX8_turn_9 (by rw [c20]; decide) (by rw [c20]; decide) (by rw [c20]; rfl) (by decide) ?_
          refine lv_aload_n hx hb dX8_turn_95 rfl (lv_at hl 1 rfl) ?_
          refine lv_iload_n hx hb dX8_turn_96 rfl (lv_at hl 0 rfl) ?_
          refine lv_iconst (v := 4) hx hb dX8_turn_97 (by decide) ?_
          refine lv_irem hx hb dX8_turn_98 (by decide) ?_
          obtain ⟨x22, S23, e21, h⟩ := bd2_e h
          refine u_cVi X M hl.1 (kX10_tryUp hS e21) cw_X8_19 ⟨by decide, by decide⟩ (rc_X10 X M hS) rfl rfl (Nat.le_of_ble_eq_true rfl) ⟨Nat.zero_le _, Nat.zero_le _⟩ dX8_turn_99 (fun H locs M n24 => ?_)
          refine lv_pop hx hb dX8_turn_102 rfl ?_
          refine lv_goto (tgt := 181) hx hb dX8_turn_103 (by decide) ?_
          exact u_vret X hret M (congrArg (va_up V t) (Option.some.inj h)) dX8_turn_181
        · have h := it_f h c20
          by_cases c25 : x3 = 4
          · have h := it_t h c25
            refine lv_tableIn (off := 97) (tgt := 106) hx hb dX8_turn_9 (by rw [c25]; decide) (by rw [c25]; decide) (by rw [c25]; rfl) (by decide) ?_
            refine lv_aload_n hx hb dX8_turn_106 rfl (lv_at hl 1 rfl) ?_
            refine lv_iload_n hx hb dX8_turn_107 rfl (lv_at hl 0 rfl) ?_
            refine lv_bipush (v := 8) hx hb dX8_turn_108 (by decide) ?_
            refine lv_irem hx hb dX8_turn_110 (by decide) ?_
            refine lv_iconst (v := 1) hx hb dX8_turn_111 (by decide) ?_
            refine lv_iload_n hx hb dX8_turn_112 rfl (lv_at hl 2 rfl) ?_
            refine lv_sipush (v := 128) hx hb dX8_turn_113 (by decide) ?_
            refine lv_idiv hx hb dX8_turn_116 (by decide) ?_
            refine lv_bipush (v := 30) hx hb dX8_turn_117 (by decide) ?_
            refine lv_irem hx hb dX8_turn_119 (by decide) ?_
            refine lv_iadd hx hb dX8_turn_120 ?_
            obtain ⟨x27, S28, e26, h⟩ := bd2_e h
            refine u_cVi X M hl.1 (kX10_tryPay hS e26) cw_X8_22 ⟨by decide, by decide⟩ (rc_X10 X M hS) rfl rfl (Nat.le_of_ble_eq_true rfl) ⟨Nat.zero_le _, Nat.zero_le _⟩ dX8_turn_121 (fun H locs M n29 => ?_)
            refine lv_pop hx hb dX8_turn_124 rfl ?_
            refine lv_goto (tgt := 181) hx hb dX8_turn_125 (by decide) ?_
            exact u_vret X hret M (congrArg (va_up V t) (Option.some.inj h)) dX8_turn_181
          · have h := it_f h c25
            by_cases c30 : x3 = 5
            · have h := it_t h c30
              refine lv_tableIn (off := 119) (tgt := 128) hx hb dX8_turn_9 (by rw [c30]; decide) (by rw [c30]; decide) (by rw [c30]; rfl) (by decide) ?_
              refine lv_aload_n hx hb dX8_turn_128 rfl (lv_at hl 1 rfl) ?_
              refine lv_iload_n hx hb dX8_turn_129 rfl (lv_at hl 0 rfl) ?_
              refine lv_iconst (v := 4) hx hb dX8_turn_130 (by decide) ?_
              refine lv_irem hx hb dX8_turn_131 (by decide) ?_
              obtain ⟨x32, S33, e31, h⟩ := bd2_e h
              refine u_cVi X M hl.1 (kX10_tryOpen hS e31) cw_X8_26 ⟨by decide, by decide⟩ (rc_X10 X M hS) rfl rfl (Nat.le_of_ble_eq_true rfl) ⟨Nat.zero_le _, Nat.zero_le _⟩ dX8_turn_132 (fun H locs M n34 => ?_)
              refine lv_pop hx hb dX8_turn_135 rfl ?_
              refine lv_goto (tgt := 181) hx hb dX8_turn_136 (by decide) ?_
              exact u_vret X hret M (congrArg (va_up V t) (Option.some.inj h)) dX8_turn_181
            · have h := it_f h c30
              by_cases c35 : x3 = 6
              · have h := it_t h c35
                refine lv_tableIn (off := 130) (tgt := 139) hx hb dX8_turn_9 (by rw [c35]; decide) (by rw [c35]; decide) (by rw [c35]; rfl) (by decide) ?_
                refine lv_aload_n hx hb dX8_turn_139 rfl (lv_at hl 1 rfl) ?_
                refine lv_iload_n hx hb dX8_turn_140 rfl (lv_at hl 0 rfl) ?_
                refine lv_bipush (v := 8) hx hb dX8_turn_141 (by decide) ?_
                refine lv_irem hx hb dX8_turn_143 (by decide) ?_
                obtain ⟨x37, S38, e36, h⟩ := bd2_e h
                refine u_cVi X M hl.1 (kX10_tryPardon hS e36) cw_X8_29 ⟨by decide, by decide⟩ (rc_X10 X M hS) rfl rfl (Nat.le_of_ble_eq_true rfl) ⟨Nat.zero_le _, Nat.zero_le _⟩ dX8_turn_144 (fun H locs M n39 => ?_)
                refine lv_pop hx hb dX8_turn_147 rfl ?_
                refine lv_goto (tgt := 181) hx hb dX8_turn_148 (by decide) ?_
                exact u_vret X hret M (congrArg (va_up V t) (Option.some.inj h)) dX8_turn_181
              · have h := it_f h c35
                by_cases c40 : x3 = 7
                · have h := it_t h c40
                  refine lv_tableIn (off := 142) (tgt := 151) hx hb dX8_turn_9 (by rw [c40]; decide) (by rw [c40]; decide) (by rw [c40]; rfl) (by decide) ?_
                  refine lv_aload_n hx hb dX8_turn_151 rfl (lv_at hl 1 rfl) ?_
                  refine lv_iconst (v := 1) hx hb dX8_turn_152 (by decide) ?_
                  refine lv_iload_n hx hb dX8_turn_153 rfl (lv_at hl 0 rfl) ?_
                  refine lv_bipush (v := 20) hx hb dX8_turn_154 (by decide) ?_
                  refine lv_irem hx hb dX8_turn_156 (by decide) ?_
                  refine lv_iadd hx hb dX8_turn_157 ?_
                  obtain ⟨x42, S43, e41, h⟩ := bd2_e h
                  refine u_cVi X M hl.1 (kX10_tryRun hS e41) cw_X8_32 ⟨by decide, by decide⟩ (rc_X10 X M hS) rfl rfl (Nat.le_of_ble_eq_true rfl) ⟨Nat.zero_le _, Nat.zero_le _⟩ dX8_turn_158 (fun H locs M n44 => ?_)
                  refine lv_pop hx hb dX8_turn_161 rfl ?_
                  refine lv_goto (tgt := 181) hx hb dX8_turn_162 (by decide) ?_
                  exact u_vret X hret M (congrArg (va_up V t) (Option.some.inj h)) dX8_turn_181
                · have h := it_f h c40
                  by_cases c45 : x3 = 8
                  · have h := it_t h c45
                    refine lv_tableIn (off := 142) (tgt := 151) hx hb dX8_turn_9 (by rw [c45]; decide) (by rw [c45]; decide) (by rw [c45]; rfl) (by decide) ?_
                    refine lv_aload_n hx hb dX8_turn_151 rfl (lv_at hl 1 rfl) ?_
                    refine lv_iconst (v := 1) hx hb dX8_turn_152 (by decide) ?_
                    refine lv_iload_n hx hb dX8_turn_153 rfl (lv_at hl 0 rfl) ?_
                    refine lv_bipush (v := 20) hx hb dX8_turn_154 (by decide) ?_
                    refine lv_irem hx hb dX8_turn_156 (by decide) ?_
                    refine lv_iadd hx hb dX8_turn_157 ?_
                    obtain ⟨x47, S48, e46, h⟩ := bd2_e h
                    refine u_cVi X M hl.1 (kX10_tryRun hS e46) cw_X8_32 ⟨by decide, by decide⟩ (rc_X10 X M hS) rfl rfl (Nat.le_of_ble_eq_true rfl) ⟨Nat.zero_le _, Nat.zero_le _⟩ dX8_turn_158 (fun H locs M n49 => ?_)
                    refine lv_pop hx hb dX8_turn_161 rfl ?_
                    refine lv_goto (tgt := 181) hx hb dX8_turn_162 (by decide) ?_
                    exact u_vret X hret M (congrArg (va_up V t) (Option.some.inj h)) dX8_turn_181
                  · have h := it_f h c45
                    have tc5 := lv_neT (a := 0) c5 (by decide)
                    have tc10 := lv_neT (a := 1) c10 (by decide)
                    have tc15 := lv_neT (a := 2) c15 (by decide)
                    have tc20 := lv_neT (a := 3) c20 (by decide)
                    have tc25 := lv_neT (a := 4) c25 (by decide)
                    have tc30 := lv_neT (a := 5) c30 (by decide)
                    have tc35 := lv_neT (a := 6) c35 (by decide)
                    have tc40 := lv_neT (a := 7) c40 (by decide)
                    have tc45 := lv_neT (a := 8) c45 (by decide)
                    refine lv_tableOut (tgt := 165) hx hb dX8_turn_9 (by omega) (by decide) ?_
                    refine lv_aload_n hx hb dX8_turn_165 rfl (lv_at hl 1 rfl) ?_
                    refine lv_iload_n hx hb dX8_turn_166 rfl (lv_at hl 0 rfl) ?_
                    refine lv_bipush (v := 10) hx hb dX8_turn_167 (by decide) ?_
                    refine lv_irem hx hb dX8_turn_169 (by decide) ?_
                    refine lv_iload_n hx hb dX8_turn_170 rfl (lv_at hl 2 rfl) ?_
                    refine lv_sipush (v := 256) hx hb dX8_turn_171 (by decide) ?_
                    refine lv_idiv hx hb dX8_turn_174 (by decide) ?_
                    refine lv_iconst (v := 4) hx hb dX8_turn_175 (by decide) ?_
                    refine lv_irem hx hb dX8_turn_176 (by decide) ?_
                    obtain ⟨x51, S52, e50, h⟩ := bd2_e h
                    refine u_cVi X M hl.1 (kX10_showCard hS e50) cw_X8_35 ⟨by decide, by decide⟩ (rc_X10 X M hS) rfl rfl (Nat.le_of_ble_eq_true rfl) ⟨Nat.zero_le _, Nat.zero_le _⟩ dX8_turn_177 (fun H locs M n53 => ?_)
                    refine lv_pop hx hb dX8_turn_180 rfl ?_
                    exact u_vret X hret M (congrArg (va_up V t) (Option.some.inj h)) dX8_turn_181
end
