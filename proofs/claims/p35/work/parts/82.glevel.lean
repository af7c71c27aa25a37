
/-! worlds that show the model's memory alone; rows over them; one object or two -/
def UQ (g : UG) (n : Nat) (M : Nat → Nat → Int32) (H : Heap) : Prop := ∃ V, OKV n M V ∧ UH g V H
theorem UQ.keep {g : UG} {n : Nat} {M : Nat → Nat → Int32} {H H1 : Heap} (h : UQ g n M H) (hk : ∀ q : Nat, q < H.size → uA g q → H1[q]? = H[q]?) : UQ g n M H1 := by
  obtain ⟨V, hV, hU⟩ := h
  exact ⟨V, hV, hU.1.kept (fun k x hx => hk x.1 ((hU.1 k x hx).lt) (hU.2.2 k x hx)), hU.2⟩
theorem UQ.up {g : UG} {n n' : Nat} {M : Nat → Nat → Int32} {H : Heap} (h : UQ g n M H) (hn : n ≤ n') : UQ g n' M H := by
  obtain ⟨V, hV, hU⟩ := h
  exact ⟨V, hV.up hn, hU⟩
def gA (g : UG) (A : Nat → Prop) : UG := (gD g, g.2.1, ga g, gk g, A)
def uqPre (g : UG) (n : Nat) (M : Nat → Nat → Int32) (U : State) : Prop := UQ g n M U.heap ∧ va_K (gD g) vwCl (gT g) U ∧ uX g U
abbrev oQi (g : UG) (ty : FieldType) (r : Int32) (n : Nat) (M : Nat → Nat → Int32) : Array Value → State → Outcome → State → Prop := va_Qi (fun (r' : Int32) (_ : Unit) => r' = r ∧ narrow ty (.int r') = .int r') (fun _ t => UQ g n M t.heap) (uA g)
def uGi (l : Launch) (g : UG) (y : MethodName) (bytes : ByteArray) (ml : Nat) (ty : FieldType) (fr mc ms lo : Nat) (As : List Value) (n : Nat) (M : Nat → Nat → Int32) (r : Int32) (n' : Nat) (M' : Nat → Nat → Int32) : Prop :=
  Met l y (.code y bytes ml (some ty) :: gtbl) (nR fr mc ms lo) (va_Pc As (uqPre g n M)) (oQi g ty r n' M') mc ms (uA g)
def uGh (l : Launch) (g : UG) (y : MethodName) (bytes : ByteArray) (ml : Nat) (hh : List (Nat × Nat × Nat × Nat)) (fr lo : Nat) (As : List Value) (n : Nat) (M : Nat → Nat → Int32) (r : Int32) (n' : Nat) (M' : Nat → Nat → Int32) : Prop :=
  Met l y (.codeWith y bytes ml (some .int) hh :: gtbl) (nR fr 1 6 lo) (va_Pc As (uqPre g n M)) (oQi g .int r n' M') 1 6 (uA g)
theorem uGi_of {l : Launch} {g : UG} {y : MethodName} {bytes : ByteArray} {ml : Nat} {ty : FieldType} {fr mc ms lo : Nat} {As : List Value} {n n' : Nat} {M M' : Nat → Nat → Int32} {r : Int32} (h : ∀ V, OKV n M V → ∃ V', OKV n' M' V' ∧ uCi l g y bytes ml ty fr mc ms lo As V r V') : uGi l g y bytes ml ty fr mc ms lo As n M r n' M' := by
  intro p e ha hf hc s m args below hfr hap hP hK
  obtain ⟨e0, ⟨V, hV, hU⟩, hKx⟩ := hP
  obtain ⟨V', hV', hM⟩ := h V hV
  obtain ⟨k, o, h1, h2, h3, ⟨⟨⟨r1, u, q1, q2, q3⟩, q4⟩, q5⟩⟩ := hM p e ha hf hc s m args below hfr hap ⟨e0, hU, hKx⟩ hK
  exact ⟨k, o, h1, h2, h3, ⟨⟨⟨r1, u, q1, q2, ⟨V', hV', q3⟩⟩, q4⟩, q5⟩⟩
theorem uGh_of {l : Launch} {g : UG} {y : MethodName} {bytes : ByteArray} {ml : Nat} {hh : List (Nat × Nat × Nat × Nat)} {fr lo : Nat} {As : List Value} {n n' : Nat} {M M' : Nat → Nat → Int32} {r : Int32} (h : ∀ V, OKV n M V → ∃ V', OKV n' M' V' ∧ uHi l g y bytes ml hh fr lo As V r V') : uGh l g y bytes ml hh fr lo As n M r n' M' := by
  intro p e ha hf hc s m args below hfr hap hP hK
  obtain ⟨e0, ⟨V, hV, hU⟩, hKx⟩ := hP
  obtain ⟨V', hV', hM⟩ := h V hV
  obtain ⟨k, o, h1, h2, h3, ⟨⟨⟨r1, u, q1, q2, q3⟩, q4⟩, q5⟩⟩ := hM p e ha hf hc s m args below hfr hap ⟨e0, hU, hKx⟩ hK
  exact ⟨k, o, h1, h2, h3, ⟨⟨⟨r1, u, q1, q2, ⟨V', hV', q3⟩⟩, q4⟩, q5⟩⟩
/-- a class's method without a throw, over the model -/
def uGm (l : Launch) (g : UG) (y : MethodName) (bytes : ByteArray) (ml : Nat) (ty : FieldType) (fr lo : Nat) (As : List Value) (n : Nat) (M : Nat → Nat → Int32) (r : Int32) (n' : Nat) (M' : Nat → Nat → Int32) : Prop :=
  Met l y (.code y bytes ml (some ty) :: gtbl) (uR fr lo) (va_Pc As (uqPre g n M)) (oQi g ty r n' M') 0 0 (uA g)
theorem uGm_of {l : Launch} {g : UG} (hN : uNo g) {y : MethodName} {bytes : ByteArray} {ml : Nat} {ty : FieldType} {fr lo : Nat} {As : List Value} {n n' : Nat} {M M' : Nat → Nat → Int32} {r : Int32} (h : ∀ V, OKV n M V → ∃ V1 S, OKV n' M' (va_up V1 19 S) ∧ uMi l g y bytes ml ty (uR fr lo) As V r V1) : uGm l g y bytes ml ty fr lo As n M r n' M' := by
  intro p e ha hf hc s m args below hfr hap hP hK
  obtain ⟨e0, ⟨V, hV, hU⟩, hKx⟩ := hP
  obtain ⟨V', S, hV', hM⟩ := h V hV
  obtain ⟨k, o, h1, h2, h3, ⟨⟨⟨r1, u, q1, q2, q3⟩, q4⟩, q5⟩⟩ := hM p e ha hf hc s m args below hfr hap ⟨e0, hU, hKx⟩ hK
  exact ⟨k, o, h1, h2, h3, ⟨⟨⟨r1, u, q1, q2, ⟨_, hV', UH_gh hN q3⟩⟩, q4⟩, q5⟩⟩
section GCALLS
variable {l : Launch} {G : UG} {n : Nat} {M M' : Nat → Nat → Int32} {a1 a2 a3 a4 r : Int32}
theorem kG_call (hG : uAll G) (hN : uNo G) (hlt : l.stackTraces = false) (hn : n ≤ 850) (h : rcall M a1 a2 a3 a4 = some (r, M')) : uGi l G yL_call cL_call 5 .int 10 1 6 190 [.ref (ga G 18 0), .int a1, .int a2, .int a3, .int a4] n M r (n + 1) M' :=
  uGi_of fun V hV => by
    obtain ⟨V', e1, e2⟩ := T_call hV hn h
    exact ⟨V', e2, kL_call hG hN hlt e1⟩
theorem kG_callq (hG : uAll G) (hN : uNo G) (hlt : l.stackTraces = false) (hn : n ≤ 850) (h : rcall M a1 a2 a3 a4 = some (r, M)) : uGi l G yL_call cL_call 5 .int 10 1 6 190 [.ref (ga G 18 0), .int a1, .int a2, .int a3, .int a4] n M r n M :=
  uGi_of fun V hV => by
    obtain ⟨V', e1, e2⟩ := T_callq hV hn h
    exact ⟨V', e2, kL_call hG hN hlt e1⟩
theorem kG_sim (hG : uAll G) (hN : uNo G) (hlt : l.stackTraces = false) (hn : n ≤ 850) {s : Int64} {k : Int32} (h : rsim M s k = some (r, M')) : uGh l G yL_trySimulate cL_trySimulate 5 [(0, 6, 7, 13)] 9 167 [.ref (ga G 18 0), .long s, .int k] n M r n M' :=
  uGh_of fun V hV => by
    obtain ⟨V', e1, e2⟩ := T_sim hV hn h
    exact ⟨V', e2, kL_trySimulate hG hN hlt e1⟩
/-- a script that is refused -/
def badS (k : Int32) (s : Int64) : Prop := ¬ (1 ≤ k ∧ k ≤ 3) ∨ fX7_fits k s = some 0
theorem run_x (V : uV) {k : Int32} {s : Int64} (h : badS k s) : fX11_runScript V k s = some (1, 0, V) := by
  unfold fX11_runScript
  by_cases c : 1 ≤ k ∧ k ≤ 3
  · rcases h with h | h
    · exact absurd c h
    · rw [th_y (dec_t c), h, m_bd, th_n (dec_f (by decide))]
  · rw [th_n (dec_f c)]
theorem kG_script (hG : uAll G) (hN : uNo G) (hlt : l.stackTraces = false) (hm : norm M = M) {s : Int64} {k : Int32} (h : badS k s) : uGh l G yL_tryScript cL_tryScript 5 [(0, 6, 7, 13)] 9 168 [.ref (ga G 18 0), .int k, .long s] n M (-9999002) n M :=
  uGh_of fun V hV => by
    refine ⟨va_up V 19 (norm (V 19)), ⟨?_, by rw [va_up_s, hV.2, hm]⟩, kL_tryScript hG hN hlt ?_⟩
    · have e : V = va_up V 19 (V 19) := (va_up_id V 19).symm
      exact wr_norm (by rw [← e]; exact hV.1)
    · unfold fL_tryScript gh3
      rw [run_x V h, m_bd3, m_bd2, m_bd3, if_neg n10, if_pos rfl]
theorem kG_best (hG : uAll G) (hN : uNo G) (hn : n ≤ 850) (h : rbest M = some (r, M')) : uGm l G yX11_bestUp cX11_bestUp 5 .int 6 139 [.ref (ga G 18 0)] n M r n M' :=
  uGm_of hN fun V hV => by
    have eM := hV.2
    subst eM
    obtain ⟨V1, S, e1, rfl, e3⟩ := T_0 (q_bestUp hV.1 (by omega) (by omega)) h
    exact ⟨V1, norm S, ⟨e3, va_up_s _ _ _⟩, kX11_bestUp hG e1⟩
theorem kG_worst (hG : uAll G) (hN : uNo G) (h : rworst M = some (r, M')) : uGm l G yX11_worst cX11_worst 5 .int 3 69 [.ref (ga G 18 0)] n M r n M' :=
  uGm_of hN fun V hV => by
    have eM := hV.2
    subst eM
    obtain ⟨V1, S, e1, rfl, e3⟩ := T_0 (q_worst hV.1) h
    exact ⟨V1, norm S, ⟨e3, va_up_s _ _ _⟩, kX11_worst hG e1⟩
end GCALLS
/-- a world g, something else F beside it, what may change A -/
def WO (A : Nat → Prop) (F : Heap → Prop) (g : UG) (n : Nat) (M : Nat → Nat → Int32) (s : State) (H : Heap) (locs : List Loc) : Prop := UQ g n M H ∧ F H ∧ va_S A s.heap H locs
def Stb (g : UG) (F : Heap → Prop) : Prop := ∀ H H1 : Heap, F H → (∀ q : Nat, q < H.size → ¬ uA g q → H1[q]? = H[q]?) → F H1
theorem stb_t (g : UG) : Stb g (fun _ => True) := fun _ _ _ _ => trivial
theorem stb_q {g g' : UG} {n : Nat} {M : Nat → Nat → Int32} (hd : ∀ q, uA g' q → uA g q → False) : Stb g (UQ g' n M) := fun H H1 h hk => h.keep fun q h1 h2 => hk q h1 (fun h3 => hd q h2 h3)
theorem WO.swap {A : Nat → Prop} {g g' : UG} {n n' : Nat} {M M' : Nat → Nat → Int32} {s : State} {H : Heap} {locs : List Loc} (h : WO A (UQ g' n' M') g n M s H locs) : WO A (UQ g n M) g' n' M' s H locs := ⟨h.2.1, h.1, h.2.2⟩
theorem uX.nar {g : UG} {A : Nat → Prop} {U : State} (h : uX (gA g A) U) (hA : ∀ q, uA g q → A q) : uX g U := by
  obtain ⟨h1, h2, h3⟩ := h
  exact ⟨h1.narrow hA, h2.narrow hA, h3⟩
section GROWS
variable {p : Program} {l : Launch} {e : Env} {R : Room} {s : State} {m : MethodId} {args : Array Value} {below : List Frame} {meth : Method} {c : Code} {H : Heap} {locs : List Loc} {cells slots : Nat} {Q : State → Prop}
variable {cc : ByteArray} {pc nL : Nat} {ls : Array Slot} {rest : List Value} {own : String} {g : UG} {A : Nat → Prop} {F : Heap → Prop} {n n' : Nat} {M M' : Nat → Nat → Int32}
theorem o_blind {As : List Value} : FrameBlind (va_Pc As (uqPre g n M)) := fun a U fr mk q => by
  obtain ⟨q0, qH, qK, q1, q2, q3, q4, q5, q6, q7, q8, q9⟩ := q
  exact ⟨q0, qH, va_K.moved (u := U) (U := U.calling fr mk a) (Vm.Alike.refl U.vm) qK, vx_Zq.moved (u := U) (U := U.calling fr mk a) (Vm.Alike.refl U.vm) q1, vx_Zq.moved (u := U) (U := U.calling fr mk a) (Vm.Alike.refl U.vm) q2, q3.imp fun _ h => h.same rfl, q4.imp fun _ h => h.same rfl, q5.imp fun _ h => h.same rfl, fun w hw => va_Nw.same (isDC_on (List.mem_filter.mp hw).2) (u := U) (U := U.calling fr mk a) rfl (q6 w hw), va_Nc.moved (u := U) (U := U.calling fr mk a) (Vm.Alike.refl U.vm) q7, va_Nc.moved (u := U) (U := U.calling fr mk a) (Vm.Alike.refl U.vm) q8, va_Nc.moved (u := U) (U := U.calling fr mk a) (Vm.Alike.refl U.vm) q9⟩
theorem o_pre (X : UC p s m args meth c cc nL own (gA g A)) (hA : ∀ q, uA g q → A q) (Z : WO A F g n M s H locs) {U : State} (hU : U.heap = H) (hW : s.WarmedH U.vm) : uqPre g n M U := by
  subst hU
  exact ⟨Z.1, va_K.moved hW.alike X.2.1, uX.nar (uX.moved (locs := locs) X.2.2.1 Z.2.2 hW) hA⟩
theorem o_cb {y : MethodName} {bytes : ByteArray} {ml index fr mc ms lo k : Nat} {ret : Option FieldType} (X : UC p s m args meth c cc nL own (gA g A)) (hC : uCS own index y bytes ml ret k) (hR : fr + 1 ≤ R.frames ∧ 8 + (ml + 11) + lo ≤ R.locals) : CallB R s args own index y bytes ml ret (.code y bytes ml ret :: gtbl) (nR fr mc ms lo) mc ms k ∧ (Cond.static y).before args s = true := by
  obtain ⟨h1, h2, h4, h5, h7⟩ := hC
  exact ⟨callB_of (ws' := gtbl) k (Ts := gtbl) (fun w h => X.hts h) (gt_cons h5 gt_good (fun _ h => h)) rfl rfl rfl (X.hts h4) (X.hts h1) h7 hR, X.hts h2⟩
theorem o_cS {y : MethodName} {bytes : ByteArray} {ml index fr mc ms lo k : Nat} {ty : FieldType} {As st0 : List Value} {r : Int32} (X : UC p s m args meth c cc nL own (gA g A)) (hA : ∀ q, uA g q → A q) (hF : Stb g F) (Z : WO A F g n M s H locs) (hl : ls.size = nL) (hM : uGi l g y bytes ml ty fr mc ms lo As n M r n' M') (hC : uCS own index y bytes ml (some ty) k) (hR : fr + 1 ≤ R.frames ∧ 8 + (ml + 11) + lo ≤ R.locals) (hn : As.length = k) (hst : st0 = As.reverse ++ rest) (hw : (rest.map fun v => v.category).sum ≤ 8) (hf : cells + mc ≤ R.cells ∧ slots + ms ≤ R.slots) (hdg : decode cc pc = .ok (.invokestatic index, 3))
    (kk : ∀ (H1 : Heap) (locs1 : List Loc), WO A F g n' M' s H1 locs1 → narrow ty (.int r) = .int r → W p l e R s m args below meth c H1 locs1 (cells + mc) (slots + ms) Q (F0 m (pc + 3) ls (.int r :: rest))) : W p l e R s m args below meth c H locs cells slots Q (F0 m pc ls st0) := by
  refine va_calli (va_runS (As := As) (rest := rest) X.1 hM (o_cb X hC hR) ⟨o_blind, fun U hU hW => ⟨rfl, o_pre X hA Z hU hW⟩⟩ rfl hn hl hst (lv_room hw) hdg ⟨hf.1, hf.2⟩) Z.2.2 (fun q _ h => hA q h) (fun q h => hA q h) (fun r1 u t H1 locs1 ht hvm hw hB hz1 hk1 hS => ?_)
  obtain ⟨rfl, hw2⟩ := hw
  rw [ht] at hB
  exact kk H1 locs1 ⟨hB, hF H H1 Z.2.1 hk1, hS⟩ hw2
theorem o_cH {y : MethodName} {bytes : ByteArray} {ml index fr lo k : Nat} {hh : List (Nat × Nat × Nat × Nat)} {As st0 : List Value} {r : Int32} (X : UC p s m args meth c cc nL own (gA g A)) (hA : ∀ q, uA g q → A q) (hF : Stb g F) (Z : WO A F g n M s H locs) (hl : ls.size = nL) (hM : uGh l g y bytes ml hh fr lo As n M r n' M') (hC : uCH own index y bytes ml hh k) (hR : fr + 1 ≤ R.frames ∧ 8 + (ml + 11) + lo ≤ R.locals) (hn : As.length = k) (hst : st0 = As.reverse ++ rest) (hw : (rest.map fun v => v.category).sum ≤ 8) (hf : cells + 1 ≤ R.cells ∧ slots + 6 ≤ R.slots) (hdg : decode cc pc = .ok (.invokestatic index, 3))
    (kk : ∀ (H1 : Heap) (locs1 : List Loc), WO A F g n' M' s H1 locs1 → narrow .int (.int r) = .int r → W p l e R s m args below meth c H1 locs1 (cells + 1) (slots + 6) Q (F0 m (pc + 3) ls (.int r :: rest))) : W p l e R s m args below meth c H locs cells slots Q (F0 m pc ls st0) := by
  refine va_calli (vx_runSW (As := As) (rest := rest) X.1 hM (l_hw X hC hR) ⟨o_blind, fun U hU hW => ⟨rfl, o_pre X hA Z hU hW⟩⟩ rfl hn hl hst (lv_room hw) hdg hf) Z.2.2 (fun q _ h => hA q h) (fun q h => hA q h) (fun r1 u t H1 locs1 ht hvm hw hB hz1 hk1 hS => ?_)
  obtain ⟨rfl, hw2⟩ := hw
  rw [ht] at hB
  exact kk H1 locs1 ⟨hB, hF H H1 Z.2.1 hk1, hS⟩ hw2
theorem o_recv (X : UC p s m args meth c cc nL own (gA g A)) (hG : uAll g) (Z : WO A F g n M s H locs) : ∃ cell : Cell, H[ga g 18 0]? = some cell ∧ cell.vm.isStatics = false ∧ s.vm.findClass RX11 = some cell.cls := by
  obtain ⟨V, hV, hU⟩ := Z.1
  obtain ⟨i, -, hw⟩ := uW_at (V := V) (hG.2.1 0 (by decide))
  rw [uSh_mn] at hw
  have hc : vwCl[8]? = some (RX11, TX11, 5) := rfl
  exact va_recv X.2.1 hU.1 hc hw
theorem o_cV {y : MethodName} {bytes : ByteArray} {ml index fr lo k : Nat} {ty : FieldType} {As st0 : List Value} {r : Int32} (X : UC p s m args meth c cc nL own (gA g A)) (hA : ∀ q, uA g q → A q) (hF : Stb g F) (hG : uAll g) (Z : WO A F g n M s H locs) (hl : ls.size = nL) (hM : uGm l g y bytes ml ty fr lo (.ref (ga g 18 0) :: As) n M r n' M') (hC : uCW own RX11 index y bytes ml (some ty) k) (hR : fr + 1 ≤ R.frames ∧ 8 + (ml + 11) + lo ≤ R.locals) (hn : As.length = k) (hst : st0 = As.reverse ++ .ref (ga g 18 0) :: rest) (hw : (rest.map fun v => v.category).sum ≤ 8) (hf : cells ≤ R.cells ∧ slots ≤ R.slots) (hdg : decode cc pc = .ok (.invokevirtual index, 3))
    (kk : ∀ (H1 : Heap) (locs1 : List Loc), WO A F g n' M' s H1 locs1 → narrow ty (.int r) = .int r → W p l e R s m args below meth c H1 locs1 cells slots Q (F0 m (pc + 3) ls (.int r :: rest))) : W p l e R s m args below meth c H locs cells slots Q (F0 m pc ls st0) := by
  refine va_calli (va_runV (As := As) (rest := rest) X.1 hM (u_cw X hC hR) ⟨o_blind, o_recv X hG Z, fun U hU hW => ⟨rfl, o_pre X hA Z hU hW⟩⟩ rfl hn hl hst (lv_room hw) hdg ⟨hf.1, hf.2⟩) Z.2.2 (fun q _ h => hA q h) (fun q h => hA q h) (fun r1 u t H1 locs1 ht hvm hw hB hz1 hk1 hS => ?_)
  obtain ⟨rfl, hw2⟩ := hw
  rw [ht] at hB
  exact kk H1 locs1 ⟨hB, hF H H1 Z.2.1 hk1, hS⟩ hw2
theorem o_iret {ty : FieldType} {r v : Int32} (X : UC p s m args meth c cc nL own g) (hret : meth.sig.returnType = some ty) (Z : WO (uA g) F g n M s H locs) (hr : v = r) (hn : narrow ty (.int v) = .int v) (hdg : decode cc pc = .ok (.ireturn, 1)) :
    W p l e R s m args below meth c H locs cells slots (MQ below (oQi g ty r n M) args s cells slots (uA g)) (F0 m pc ls [.int v]) :=
  W.zret X.hx X.hb hret hn (fun t ht hW => ⟨⟨v, (), rfl, ⟨hr, hn⟩, by show UQ g n M t.heap; rw [ht]; exact Z.1⟩, Z.2.2.F ht⟩) Z.2.2.2.2 hdg X.2.2.2
theorem uGi_body {l : Launch} {g : UG} {y : MethodName} {bytes : ByteArray} {ml : Nat} {ty : FieldType} {fr mc ms lo : Nat} {As : List Value} {n n' : Nat} {M M' : Nat → Nat → Int32} {r : Int32} (hy : plainName y.cls = true) (hlen : (lg_sl As).length ≤ ml)
    (body : ∀ (p : Program) (e : Env) (s : State) (m : MethodId) (args : Array Value) (below : List Frame) (meth : Method) (c : Code) (ls : Array Slot), UC p s m args meth c bytes ml y.cls (gA g (uA g)) → meth.sig.returnType = some ty → lv_has ls ml (lv_args 0 As) → WO (uA g) (fun _ => True) g n M s s.heap [] →
      W p l e (nR fr mc ms lo) s m args below meth c s.heap [] 0 0 (MQ below (oQi g ty r n' M') args s mc ms (uA g)) (F0 m 0 ls [])) : uGi l g y bytes ml ty fr mc ms lo As n M r n' M' := by
  refine Met.ofW (cc := bytes) (maxL := ml) (ret := some ty) hy rfl ?_
  intro p e s m args below meth c s₁ B hml hv
  obtain ⟨rfl, hU, hK, hX⟩ := hv
  have hts := atoms_spec (ws := .code y bytes ml (some ty) :: gtbl) B.pre
  have hl := lv_entry As (n := ml) hlen
  rw [lg_entry_eq]
  exact body p e s m As.toArray below meth c _ ⟨⟨B.exec, B.bytes, hml, findClass_of_methodNamed B.named, fun w h => hts w (List.mem_cons_of_mem _ h)⟩, hK, hX, B.notSynchronized⟩ B.returns hl ⟨hU, trivial, va_S.rf⟩
end GROWS
/-- an answer that leaves the model's memory as it is -/
noncomputable def qk (m : Option (Int32 × (Nat → Nat → Int32))) (M : Nat → Nat → Int32) : Option Int32 := @ite _ (∃ r, m = some (r, M)) (Classical.propDecidable _) (m.map Prod.fst) none
theorem qk_e {m : Option (Int32 × (Nat → Nat → Int32))} {M : Nat → Nat → Int32} {r : Int32} (h : qk m M = some r) : m = some (r, M) := by
  unfold qk at h
  by_cases c : ∃ r, m = some (r, M)
  · rw [if_pos c] at h
    obtain ⟨r', e⟩ := c
    rw [e] at h ⊢
    cases h
    rfl
  · rw [if_neg c] at h
    cases h
theorem qk_i {m : Option (Int32 × (Nat → Nat → Int32))} {M : Nat → Nat → Int32} {r : Int32} (h : m = some (r, M)) : qk m M = some r := by
  unfold qk
  rw [if_pos ⟨r, h⟩, h]
  rfl
