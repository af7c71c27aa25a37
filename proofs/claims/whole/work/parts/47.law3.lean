/-! THE CLAIM OUT OF ONE WALK OF THE LAW'S BODY. Your part is whole_start (and what it stands on); all else here is the same for every law, but numbers. -/
def R_law : String := "OfflineGatesLaw"
def lw_P (b : Addr) (xs : List Int32) (args : Array Value) (s : State) : Prop := args = #[.ref b] ∧ s.IntsAt b xs ∧ xs.length ≤ 2048 ∧ (Jvm.Cond.and given_1 narrow_1).before args s = true
def lw_Q (_ : Array Value) (s : State) (o : Outcome) (t : State) : Prop := o = .returned (some (.int 1)) ∧ Framed s o t [] 601024 7293034
def lw_Z (below : List Frame) (a : Array Value) (s : State) : State → Prop := fun t => ∃ o, t.status = .running ∧ Ended t below o ∧ lw_Q a s o t
/-- the law's own end, with 1 on the stack, nothing written that was there before, its room as the claim has it -/
theorem lw_ret {p : Program} {l : Launch} {e : Env} {s : State} {m : MethodId} {below : List Frame} {meth : Method} {c : Code} {b : Nat} (hx : p.tables.exec = Jvm.exec) (hb : c.code = code) (hr : meth.sig.returnType = ret) (hlocks : meth.locks = false) {pc : Nat} {H : Heap} {ls : Array Slot} (hdg : decode code pc = .ok (.ireturn, 1)) : W p l e room_1 s m #[Value.ref b] below meth c H [] 601024 7293034 (lw_Z below #[Value.ref b] s) (F0 m pc ls [.int 1]) := by
  intro T hT X
  obtain ⟨fs, hret, hrun, hended, hW, hframe⟩ := X.leave (v := some (.int 1)) (hlocks := hlocks) (fun h => by rw [hr] at h; cases h)
  have hmeth' : T.vm.method? m = some meth := X.method'
  refine ⟨T.setFrames fs, ?_, .returned (some (.int 1)), hrun, hended, rfl, ⟨_, rfl⟩, hW, hframe⟩
  jvm_step X.here [X.here.top, hx, hb, hdg, hmeth', hr, ret, narrow_b1]
  (try refine ⟨rfl, ?_⟩); (try refine ⟨rfl, ?_⟩)
  first | (intro acts; rw [hret _ acts rfl rfl rfl]) | rw [hret _ _ rfl rfl rfl]
  exact Steps.refl _
/-- what holds at the law's entry: the machine, the code, the tables' words (any of lw_tbl by 'hts w (by decide +kernel)'), the script of L ints xs at the cell b, what the Statement gives of the start (any of its parts by flat_of_before) -/
def lw_At (p : Program) (s : State) (m : MethodId) (meth : Method) (c : Code) (b L : Nat) (xs : Nat → Int32) : Prop :=
  p.tables.exec = Jvm.exec ∧ c.code = code ∧ meth.sig.returnType = ret ∧ c.maxLocals = 7 ∧ s.vm.findClass R_law = some m.cls ∧ (∀ w ∈ lw_tbl, w.before #[Value.ref b] s = true) ∧ va_X b L xs s s.heap ∧ b < s.heap.size ∧ meth.locks = false ∧ (Jvm.Cond.and given_1 narrow_1).before #[Value.ref b] s = true
def fLc (xs : Nat → Int32) (L : Nat) (V : uV) (i x : Int32) : Option uV :=
  if x = 0 then fLc_0 xs L V i
  else if x = 1 then fLc_1 xs L V i
  else if x = 2 then fLc_2 xs L V i
  else if x = 3 then fLc_3 xs L V i
  else if x = 4 then fLc_4 xs L V i
  else if x = 5 then fLc_5 xs L V i
  else if x = 6 then fLc_6 xs L V i
  else if x = 7 then fLc_7 xs L V i
  else if x = 8 then fLc_8 xs L V i
  else if x = 9 then fLc_9 xs L V i
  else if x = 10 then fLc_10 xs L V i
  else if x = 11 then fLc_11 xs L V i
  else if x = 12 then fLc_12 xs L V i
  else if x = 13 then fLc_13 xs L V i
  else if x = 14 then fLc_14 xs L V i
  else if x = 15 then fLc_15 xs L V i
  else if x = 16 then fLc_16 xs L V i
  else if x = 17 then fLc_17 xs L V i
  else if x = 18 then fLc_18 xs L V i
  else if x = 19 then fLc_19 xs L V i
  else if x = 20 then fLc_20 xs L V i
  else if x = 21 then fLc_21 xs L V i
  else if x = 22 then fLc_22 xs L V i
  else if x = 23 then fLc_23 xs L V i
  else if x = 24 then fLc_24 xs L V i
  else if x = 25 then fLc_25 xs L V i
  else if x = 26 then fLc_26 xs L V i
  else if x = 27 then fLc_27 xs L V i
  else if x = 28 then fLc_28 xs L V i
  else if x = 29 then fLc_29 xs L V i
  else if x = 30 then fLc_30 xs L V i
  else if x = 31 then fLc_31 xs L V i
  else some V
def fLaw (xs : Nat → Int32) (L : Nat) (n : Nat) (V : uV) (i : Int32) : Option Int32 :=
  match n with
  | 0 => none
  | n + 1 => if Int32.ofNat L - 4 < i then some 1 else gd (inb i L) <| lt_ (xs i.toNatClampNeg &&& 31) fun x => bd (fLc xs L V i x) fun V1 => lt_ (i + 4) fun j => fLaw xs L n V1 j
set_option maxHeartbeats 8000000 in
set_option maxRecDepth 20000 in
theorem lp_law {l : Launch} {G : UG} (hG : uAll G) (hlt : l.stackTraces = false) {b L : Nat} {xs : Nat → Int32} {p : Program} {e : Env} {s : State} {m : MethodId} {below : List Frame} {meth : Method} {c : Code} (X : UC p s m #[.ref b] meth c code 7 RL G) (hr : meth.sig.returnType = ret) (hX : va_X b L xs s s.heap) (hbl : b < s.heap.size) (hbA : ¬ uA G b) (hgB : s.heap.size ≤ gB G) :
    ∀ (n : Nat) (V : uV) (i : Int32) (H : Heap) (locs : List Loc) (ls : Array Slot) (cells slots : Nat), fLaw xs L n V i = some 1 → cells + n ≤ 601024 → slots + 6 * n ≤ 7293034 → UM G V s H locs → lv_has ls 7 [(0, .ref b), (1, .ref (ga G 18 0)), (2, .ref (ga G 19 0)), (3, .ref (ga G 20 0)), (4, .int i)] →
      W p l e room_1 s m #[.ref b] below meth c H locs cells slots (lw_Z below #[.ref b] s) (F0 m 23 ls []) := by
  intro n
  have hx := X.hx
  have hb := X.hb
  induction n with
  | zero => intro V i H locs ls cells slots h hc hs M hl; rw [fLaw] at h; cases h
  | succ n ih =>
    intro V i H locs ls cells slots h hc hs M hl
    rw [fLaw] at h
    have hfa : cells ≤ room_1.cells ∧ slots ≤ room_1.slots := ⟨by show cells ≤ 601024; omega, by show slots ≤ 7293034; omega⟩
    have hfb : cells + 1 ≤ room_1.cells ∧ slots + 6 ≤ room_1.slots := ⟨by show cells + 1 ≤ 601024; omega, by show slots + 6 ≤ 7293034; omega⟩
    refine lv_iload hx hb dL_law_23 (lv_at hl 4 rfl) ?_
    refine lv_aload_n hx hb dL_law_25 rfl (lv_at hl 0 rfl) ?_
    refine va_slen hx hb hX hbl hbA M.2 dL_law_26 ?_
    refine lv_iconst (v := 4) hx hb dL_law_27 (by decide) ?_
    refine lv_isub hx hb dL_law_28 ?_
    refine lv_icmp_gt (tgt := 2014) hx hb dL_law_29 (by decide) (fun c1 => ?_) (fun c1 => ?_)
    · refine lv_iconst (v := 1) hx hb dL_law_2014 (by decide) ?_
      refine va_forget (fun q hq => Nat.le_trans hgB (M.2.2.2 q hq)) ?_
      refine W.widen (k := 601024) (n := 7293034) hfa.1 hfa.2 ?_
      exact lw_ret hx hb hr X.2.2.2 dL_law_2015
    have h := it_f h c1
    obtain ⟨g1, h⟩ := gd_e h
    obtain ⟨x, ex, h⟩ := lt_e h
    obtain ⟨V1, h1, h⟩ := bd_e h
    obtain ⟨j, ej, h⟩ := lt_e h
    have K : ∀ (H : Heap) (locs : List Loc) (ls : Array Slot), UM G V1 s H locs → lv_has ls 7 [(0, .ref b), (1, .ref (ga G 18 0)), (2, .ref (ga G 19 0)), (3, .ref (ga G 20 0)), (4, .int i)] → W p l e room_1 s m #[.ref b] below meth c H locs (cells + 1) (slots + 6) (lw_Z below #[.ref b] s) (F0 m 2008 ls []) := by
      intro H locs ls M hl
      refine lv_iinc (v := j) (lv' := [(4, .int j), (0, .ref b), (1, .ref (ga G 18 0)), (2, .ref (ga G 19 0)), (3, .ref (ga G 20 0))]) hx hb dL_law_2008 hl (k := 4) rfl (by rw [ej]; rfl) (by decide) rfl (fun ls hl => ?_)
      refine lv_goto (tgt := 23) hx hb dL_law_2011 (by decide) ?_
      exact ih V1 j H locs ls _ _ h (by omega) (by omega) M (lv_sub hl [1, 2, 3, 4, 0] rfl)
    refine lv_aload_n hx hb dL_law_32 rfl (lv_at hl 0 rfl) ?_
    refine lv_iload hx hb dL_law_33 (lv_at hl 4 rfl) ?_
    refine va_sld hx hb hX hbl hbA M.2 (inb_e g1) dL_law_35 ?_
    refine lv_bipush (v := 31) hx hb dL_law_36 (by decide) ?_
    refine lv_iand hx hb dL_law_38 ?_
    refine u_topi ex ?_
    unfold fLc at h1
    by_cases c0_ : x = 0
    · have h1 := it_t h1 c0_
      refine lv_tableIn (off := 141) (tgt := 180) hx hb dL_law_39 (by rw [c0_]; decide) (by rw [c0_]; decide) (by rw [c0_]; rfl) (by decide) ?_
      exact kLc_0 hG hlt h1 X hX hbl hbA hfa hfb M hl K
    have h1 := it_f h1 c0_
    by_cases c1_ : x = 1
    · have h1 := it_t h1 c1_
      refine lv_tableIn (off := 197) (tgt := 236) hx hb dL_law_39 (by rw [c1_]; decide) (by rw [c1_]; decide) (by rw [c1_]; rfl) (by decide) ?_
      exact kLc_1 hG hlt h1 X hX hbl hbA hfa hfb M hl K
    have h1 := it_f h1 c1_
    by_cases c2_ : x = 2
    · have h1 := it_t h1 c2_
      refine lv_tableIn (off := 210) (tgt := 249) hx hb dL_law_39 (by rw [c2_]; decide) (by rw [c2_]; decide) (by rw [c2_]; rfl) (by decide) ?_
      exact kLc_2 hG hlt h1 X hX hbl hbA hfa hfb M hl K
    have h1 := it_f h1 c2_
    by_cases c3_ : x = 3
    · have h1 := it_t h1 c3_
      refine lv_tableIn (off := 223) (tgt := 262) hx hb dL_law_39 (by rw [c3_]; decide) (by rw [c3_]; decide) (by rw [c3_]; rfl) (by decide) ?_
      exact kLc_3 hG hlt h1 X hX hbl hbA hfa hfb M hl K
    have h1 := it_f h1 c3_
    by_cases c4_ : x = 4
    · have h1 := it_t h1 c4_
      refine lv_tableIn (off := 267) (tgt := 306) hx hb dL_law_39 (by rw [c4_]; decide) (by rw [c4_]; decide) (by rw [c4_]; rfl) (by decide) ?_
      exact kLc_4 hG hlt h1 X hX hbl hbA hfa hfb M hl K
    have h1 := it_f h1 c4_
    by_cases c5_ : x = 5
    · have h1 := it_t h1 c5_
      refine lv_tableIn (off := 323) (tgt := 362) hx hb dL_law_39 (by rw [c5_]; decide) (by rw [c5_]; decide) (by rw [c5_]; rfl) (by decide) ?_
      exact kLc_5 hG hlt h1 X hX hbl hbA hfa hfb M hl K
    have h1 := it_f h1 c5_
    by_cases c6_ : x = 6
    · have h1 := it_t h1 c6_
      refine lv_tableIn (off := 391) (tgt := 430) hx hb dL_law_39 (by rw [c6_]; decide) (by rw [c6_]; decide) (by rw [c6_]; rfl) (by decide) ?_
      exact kLc_6 hG hlt h1 X hX hbl hbA hfa hfb M hl K
    have h1 := it_f h1 c6_
    by_cases c7_ : x = 7
    · have h1 := it_t h1 c7_
      refine lv_tableIn (off := 459) (tgt := 498) hx hb dL_law_39 (by rw [c7_]; decide) (by rw [c7_]; decide) (by rw [c7_]; rfl) (by decide) ?_
      exact kLc_7 hG hlt h1 X hX hbl hbA hfa hfb M hl K
    have h1 := it_f h1 c7_
    by_cases c8_ : x = 8
    · have h1 := it_t h1 c8_
      refine lv_tableIn (off := 527) (tgt := 566) hx hb dL_law_39 (by rw [c8_]; decide) (by rw [c8_]; decide) (by rw [c8_]; rfl) (by decide) ?_
      exact kLc_8 hG hlt h1 X hX hbl hbA hfa hfb M hl K
    have h1 := it_f h1 c8_
    by_cases c9_ : x = 9
    · have h1 := it_t h1 c9_
      refine lv_tableIn (off := 607) (tgt := 646) hx hb dL_law_39 (by rw [c9_]; decide) (by rw [c9_]; decide) (by rw [c9_]; rfl) (by decide) ?_
      exact kLc_9 hG hlt h1 X hX hbl hbA hfa hfb M hl K
    have h1 := it_f h1 c9_
    by_cases c10_ : x = 10
    · have h1 := it_t h1 c10_
      refine lv_tableIn (off := 663) (tgt := 702) hx hb dL_law_39 (by rw [c10_]; decide) (by rw [c10_]; decide) (by rw [c10_]; rfl) (by decide) ?_
      exact kLc_10 hG hlt h1 X hX hbl hbA hfa hfb M hl K
    have h1 := it_f h1 c10_
    by_cases c11_ : x = 11
    · have h1 := it_t h1 c11_
      refine lv_tableIn (off := 719) (tgt := 758) hx hb dL_law_39 (by rw [c11_]; decide) (by rw [c11_]; decide) (by rw [c11_]; rfl) (by decide) ?_
      exact kLc_11 hG hlt h1 X hX hbl hbA hfa hfb M hl K
    have h1 := it_f h1 c11_
    by_cases c12_ : x = 12
    · have h1 := it_t h1 c12_
      refine lv_tableIn (off := 775) (tgt := 814) hx hb dL_law_39 (by rw [c12_]; decide) (by rw [c12_]; decide) (by rw [c12_]; rfl) (by decide) ?_
      exact kLc_12 hG hlt h1 X hX hbl hbA hfa hfb M hl K
    have h1 := it_f h1 c12_
    by_cases c13_ : x = 13
    · have h1 := it_t h1 c13_
      refine lv_tableIn (off := 843) (tgt := 882) hx hb dL_law_39 (by rw [c13_]; decide) (by rw [c13_]; decide) (by rw [c13_]; rfl) (by decide) ?_
      exact kLc_13 hG hlt h1 X hX hbl hbA hfa hfb M hl K
    have h1 := it_f h1 c13_
    by_cases c14_ : x = 14
    · have h1 := it_t h1 c14_
      refine lv_tableIn (off := 911) (tgt := 950) hx hb dL_law_39 (by rw [c14_]; decide) (by rw [c14_]; decide) (by rw [c14_]; rfl) (by decide) ?_
      exact kLc_14 hG hlt h1 X hX hbl hbA hfa hfb M hl K
    have h1 := it_f h1 c14_
    by_cases c15_ : x = 15
    · have h1 := it_t h1 c15_
      refine lv_tableIn (off := 967) (tgt := 1006) hx hb dL_law_39 (by rw [c15_]; decide) (by rw [c15_]; decide) (by rw [c15_]; rfl) (by decide) ?_
      exact kLc_15 hG hlt h1 X hX hbl hbA hfa hfb M hl K
    have h1 := it_f h1 c15_
    by_cases c16_ : x = 16
    · have h1 := it_t h1 c16_
      refine lv_tableIn (off := 1023) (tgt := 1062) hx hb dL_law_39 (by rw [c16_]; decide) (by rw [c16_]; decide) (by rw [c16_]; rfl) (by decide) ?_
      exact kLc_16 hG hlt h1 X hX hbl hbA hfa hfb M hl K
    have h1 := it_f h1 c16_
    by_cases c17_ : x = 17
    · have h1 := it_t h1 c17_
      refine lv_tableIn (off := 1079) (tgt := 1118) hx hb dL_law_39 (by rw [c17_]; decide) (by rw [c17_]; decide) (by rw [c17_]; rfl) (by decide) ?_
      exact kLc_17 hG hlt h1 X hX hbl hbA hfa hfb M hl K
    have h1 := it_f h1 c17_
    by_cases c18_ : x = 18
    · have h1 := it_t h1 c18_
      refine lv_tableIn (off := 1135) (tgt := 1174) hx hb dL_law_39 (by rw [c18_]; decide) (by rw [c18_]; decide) (by rw [c18_]; rfl) (by decide) ?_
      exact kLc_18 hG hlt h1 X hX hbl hbA hfa hfb M hl K
    have h1 := it_f h1 c18_
    by_cases c19_ : x = 19
    · have h1 := it_t h1 c19_
      refine lv_tableIn (off := 1203) (tgt := 1242) hx hb dL_law_39 (by rw [c19_]; decide) (by rw [c19_]; decide) (by rw [c19_]; rfl) (by decide) ?_
      exact kLc_19 hG hlt h1 X hX hbl hbA hfa hfb M hl K
    have h1 := it_f h1 c19_
    by_cases c20_ : x = 20
    · have h1 := it_t h1 c20_
      refine lv_tableIn (off := 1259) (tgt := 1298) hx hb dL_law_39 (by rw [c20_]; decide) (by rw [c20_]; decide) (by rw [c20_]; rfl) (by decide) ?_
      exact kLc_20 hG hlt h1 X hX hbl hbA hfa hfb M hl K
    have h1 := it_f h1 c20_
    by_cases c21_ : x = 21
    · have h1 := it_t h1 c21_
      refine lv_tableIn (off := 1327) (tgt := 1366) hx hb dL_law_39 (by rw [c21_]; decide) (by rw [c21_]; decide) (by rw [c21_]; rfl) (by decide) ?_
      exact kLc_21 hG hlt h1 X hX hbl hbA hfa hfb M hl K
    have h1 := it_f h1 c21_
    by_cases c22_ : x = 22
    · have h1 := it_t h1 c22_
      refine lv_tableIn (off := 1371) (tgt := 1410) hx hb dL_law_39 (by rw [c22_]; decide) (by rw [c22_]; decide) (by rw [c22_]; rfl) (by decide) ?_
      exact kLc_22 hG hlt h1 X hX hbl hbA hfa hfb M hl K
    have h1 := it_f h1 c22_
    by_cases c23_ : x = 23
    · have h1 := it_t h1 c23_
      refine lv_tableIn (off := 1439) (tgt := 1478) hx hb dL_law_39 (by rw [c23_]; decide) (by rw [c23_]; decide) (by rw [c23_]; rfl) (by decide) ?_
      exact kLc_23 hG hlt h1 X hX hbl hbA hfa hfb M hl K
    have h1 := it_f h1 c23_
    by_cases c24_ : x = 24
    · have h1 := it_t h1 c24_
      refine lv_tableIn (off := 1507) (tgt := 1546) hx hb dL_law_39 (by rw [c24_]; decide) (by rw [c24_]; decide) (by rw [c24_]; rfl) (by decide) ?_
      exact kLc_24 hG hlt h1 X hX hbl hbA hfa hfb M hl K
    have h1 := it_f h1 c24_
    by_cases c25_ : x = 25
    · have h1 := it_t h1 c25_
      refine lv_tableIn (off := 1575) (tgt := 1614) hx hb dL_law_39 (by rw [c25_]; decide) (by rw [c25_]; decide) (by rw [c25_]; rfl) (by decide) ?_
      exact kLc_25 hG hlt h1 X hX hbl hbA hfa hfb M hl K
    have h1 := it_f h1 c25_
    by_cases c26_ : x = 26
    · have h1 := it_t h1 c26_
      refine lv_tableIn (off := 1588) (tgt := 1627) hx hb dL_law_39 (by rw [c26_]; decide) (by rw [c26_]; decide) (by rw [c26_]; rfl) (by decide) ?_
      exact kLc_26 hG hlt h1 X hX hbl hbA hfa hfb M hl K
    have h1 := it_f h1 c26_
    by_cases c27_ : x = 27
    · have h1 := it_t h1 c27_
      refine lv_tableIn (off := 1601) (tgt := 1640) hx hb dL_law_39 (by rw [c27_]; decide) (by rw [c27_]; decide) (by rw [c27_]; rfl) (by decide) ?_
      exact kLc_27 hG hlt h1 X hX hbl hbA hfa hfb M hl K
    have h1 := it_f h1 c27_
    by_cases c28_ : x = 28
    · have h1 := it_t h1 c28_
      refine lv_tableIn (off := 1657) (tgt := 1696) hx hb dL_law_39 (by rw [c28_]; decide) (by rw [c28_]; decide) (by rw [c28_]; rfl) (by decide) ?_
      exact kLc_28 hG hlt h1 X hX hbl hbA hfa hfb M hl K
    have h1 := it_f h1 c28_
    by_cases c29_ : x = 29
    · have h1 := it_t h1 c29_
      refine lv_tableIn (off := 1757) (tgt := 1796) hx hb dL_law_39 (by rw [c29_]; decide) (by rw [c29_]; decide) (by rw [c29_]; rfl) (by decide) ?_
      exact kLc_29 hG hlt h1 X hX hbl hbA hfa hfb M hl K
    have h1 := it_f h1 c29_
    by_cases c30_ : x = 30
    · have h1 := it_t h1 c30_
      refine lv_tableIn (off := 1857) (tgt := 1896) hx hb dL_law_39 (by rw [c30_]; decide) (by rw [c30_]; decide) (by rw [c30_]; rfl) (by decide) ?_
      exact kLc_30 hG hlt h1 X hX hbl hbA hfa hfb M hl K
    have h1 := it_f h1 c30_
    by_cases c31_ : x = 31
    · have h1 := it_t h1 c31_
      refine lv_tableIn (off := 1913) (tgt := 1952) hx hb dL_law_39 (by rw [c31_]; decide) (by rw [c31_]; decide) (by rw [c31_]; rfl) (by decide) ?_
      exact kLc_31 hG hlt h1 X hX hbl hbA hfa hfb M hl K
    have h1 := it_f h1 c31_
    have t0 := lv_neT (a := 0) c0_ (by decide)
    have t1 := lv_neT (a := 1) c1_ (by decide)
    have t2 := lv_neT (a := 2) c2_ (by decide)
    have t3 := lv_neT (a := 3) c3_ (by decide)
    have t4 := lv_neT (a := 4) c4_ (by decide)
    have t5 := lv_neT (a := 5) c5_ (by decide)
    have t6 := lv_neT (a := 6) c6_ (by decide)
    have t7 := lv_neT (a := 7) c7_ (by decide)
    have t8 := lv_neT (a := 8) c8_ (by decide)
    have t9 := lv_neT (a := 9) c9_ (by decide)
    have t10 := lv_neT (a := 10) c10_ (by decide)
    have t11 := lv_neT (a := 11) c11_ (by decide)
    have t12 := lv_neT (a := 12) c12_ (by decide)
    have t13 := lv_neT (a := 13) c13_ (by decide)
    have t14 := lv_neT (a := 14) c14_ (by decide)
    have t15 := lv_neT (a := 15) c15_ (by decide)
    have t16 := lv_neT (a := 16) c16_ (by decide)
    have t17 := lv_neT (a := 17) c17_ (by decide)
    have t18 := lv_neT (a := 18) c18_ (by decide)
    have t19 := lv_neT (a := 19) c19_ (by decide)
    have t20 := lv_neT (a := 20) c20_ (by decide)
    have t21 := lv_neT (a := 21) c21_ (by decide)
    have t22 := lv_neT (a := 22) c22_ (by decide)
    have t23 := lv_neT (a := 23) c23_ (by decide)
    have t24 := lv_neT (a := 24) c24_ (by decide)
    have t25 := lv_neT (a := 25) c25_ (by decide)
    have t26 := lv_neT (a := 26) c26_ (by decide)
    have t27 := lv_neT (a := 27) c27_ (by decide)
    have t28 := lv_neT (a := 28) c28_ (by decide)
    have t29 := lv_neT (a := 29) c29_ (by decide)
    have t30 := lv_neT (a := 30) c30_ (by decide)
    have t31 := lv_neT (a := 31) c31_ (by decide)
    refine lv_tableOut (tgt := 2008) hx hb dL_law_39 (by omega) (by decide) ?_
    exact W.widen (k := cells + 1) (n := slots + 6) (by omega) (by omega) (K H locs ls (Option.some.inj h1 ▸ M) hl)
