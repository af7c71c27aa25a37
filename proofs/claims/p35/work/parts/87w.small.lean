
/-! the law's body -/
def fL_thrown (x : Int32) : Int32 := if x = -9999001 then 1 else if x = -9999002 then 1 else if x = -9999003 then 1 else 0
theorem blind_t {As : List Value} : FrameBlind (va_Pc As (fun _ => True)) := fun a U fr mk q => ⟨q.1, trivial⟩
def cellB (b L : Nat) (xs : Nat → Int32) (U : State) : Prop := va_X b L xs U U.heap ∧ b < U.heap.size
theorem blind_c {As : List Value} {b L : Nat} {xs : Nat → Int32} : FrameBlind (va_Pc As (cellB b L xs)) := fun a U fr mk q => ⟨q.1, va_X.moved (u := U) (U := U.calling fr mk a) (Vm.Alike.refl U.vm) q.2.1, q.2.2⟩
theorem cell_at {b L : Nat} {xs : Nat → Int32} {s : State} {H : Heap} {locs : List Loc} (hX : va_X b L xs s s.heap) (hbl : b < s.heap.size) (hS : va_S (fun q => s.heap.size ≤ q) s.heap H locs) (U : State) (hU : U.heap = H) (hW : s.WarmedH U.vm) : cellB b L xs U := by
  subst hU
  exact ⟨va_X.moved hW.alike (hX.kept (hS.2.1 b hbl (Nat.not_le.mpr hbl))), Nat.lt_of_lt_of_le hbl hS.1⟩
def fL_cell (xs : Nat → Int32) (L : Nat) (k : Int32) : Option Int32 := if Int32.ofNat L ≤ k then some ((15518677 * (k + 3) + 10889) &&& 2147483647) else gd (inb k L) <| some (xs k.toNatClampNeg &&& 2147483647)
theorem dL_thrown_0 : decode cL_thrown 0 = .ok (.iload_n 0, 1) := by decide +kernel
theorem dL_thrown_1 : decode cL_thrown 1 = .ok (.ldc 40, 2) := by decide +kernel
theorem dL_thrown_3 : decode cL_thrown 3 = .ok (.if_icmp .eq 15, 3) := by decide +kernel
theorem dL_thrown_6 : decode cL_thrown 6 = .ok (.iload_n 0, 1) := by decide +kernel
theorem dL_thrown_7 : decode cL_thrown 7 = .ok (.ldc 15, 2) := by decide +kernel
theorem dL_thrown_9 : decode cL_thrown 9 = .ok (.if_icmp .eq 9, 3) := by decide +kernel
theorem dL_thrown_12 : decode cL_thrown 12 = .ok (.iload_n 0, 1) := by decide +kernel
theorem dL_thrown_13 : decode cL_thrown 13 = .ok (.ldc 26, 2) := by decide +kernel
theorem dL_thrown_15 : decode cL_thrown 15 = .ok (.if_icmp .ne 7, 3) := by decide +kernel
theorem dL_thrown_18 : decode cL_thrown 18 = .ok (.iconst 1, 1) := by decide +kernel
theorem dL_thrown_19 : decode cL_thrown 19 = .ok (.goto 4, 3) := by decide +kernel
theorem dL_thrown_22 : decode cL_thrown 22 = .ok (.iconst 0, 1) := by decide +kernel
theorem dL_thrown_23 : decode cL_thrown 23 = .ok (.ireturn, 1) := by decide +kernel
theorem dL_cell_0 : decode cL_cell 0 = .ok (.iload_n 1, 1) := by decide +kernel
theorem dL_cell_1 : decode cL_cell 1 = .ok (.aload_n 0, 1) := by decide +kernel
theorem dL_cell_2 : decode cL_cell 2 = .ok (.arraylength, 1) := by decide +kernel
theorem dL_cell_3 : decode cL_cell 3 = .ok (.if_icmp .ge 9, 3) := by decide +kernel
theorem dL_cell_6 : decode cL_cell 6 = .ok (.aload_n 0, 1) := by decide +kernel
theorem dL_cell_7 : decode cL_cell 7 = .ok (.iload_n 1, 1) := by decide +kernel
theorem dL_cell_8 : decode cL_cell 8 = .ok (.iaload, 1) := by decide +kernel
theorem dL_cell_9 : decode cL_cell 9 = .ok (.goto 13, 3) := by decide +kernel
theorem dL_cell_12 : decode cL_cell 12 = .ok (.ldc 192, 2) := by decide +kernel
theorem dL_cell_14 : decode cL_cell 14 = .ok (.iload_n 1, 1) := by decide +kernel
theorem dL_cell_15 : decode cL_cell 15 = .ok (.iconst 3, 1) := by decide +kernel
theorem dL_cell_16 : decode cL_cell 16 = .ok (.iadd, 1) := by decide +kernel
theorem dL_cell_17 : decode cL_cell 17 = .ok (.imul, 1) := by decide +kernel
theorem dL_cell_18 : decode cL_cell 18 = .ok (.sipush 10889, 3) := by decide +kernel
theorem dL_cell_21 : decode cL_cell 21 = .ok (.iadd, 1) := by decide +kernel
theorem dL_cell_22 : decode cL_cell 22 = .ok (.ldc 193, 2) := by decide +kernel
theorem dL_cell_24 : decode cL_cell 24 = .ok (.iand, 1) := by decide +kernel
theorem dL_cell_25 : decode cL_cell 25 = .ok (.ireturn, 1) := by decide +kernel
theorem kL_thrown {l : Launch} {a1 r : Int32} (h : fL_thrown a1 = r) : Met l yL_thrown (.code yL_thrown cL_thrown 1 (some .boolean) :: gtbl) (uR 0 0) (va_Pc [.int a1] (fun _ => True)) (oQp .boolean r) 0 0 (fun _ => False) := by
  refine Met.ofW (cc := cL_thrown) (maxL := 1) (ret := some .boolean) rfl rfl ?_
  intro p e s m args below meth c s₁ B hml hv
  obtain ⟨rfl, -⟩ := hv
  have hts := atoms_spec (ws := .code yL_thrown cL_thrown 1 (some .boolean) :: gtbl) B.pre
  have hl := lv_entry [.int a1] (n := 1) (Nat.le_of_ble_eq_true rfl)
  rw [lg_entry_eq]
  generalize (lg_sl ([.int a1]) ++ List.replicate (1 - (lg_sl ([.int a1])).length) Slot.unset).toArray = ls at hl ⊢
  have hl : lv_has ls 1 [(0, .int a1)] := hl
  have hx := B.exec
  have hb := B.bytes
  have hown := findClass_of_methodNamed B.named
  have X : ∀ w ∈ gtbl, w.before [Value.int a1].toArray s = true := fun w h => hts w (List.mem_cons_of_mem _ h)
  have fin : ∀ v : Int32, v = r → narrow .boolean (.int v) = .int v → W p l e (uR 0 0) s m [Value.int a1].toArray below meth c s.heap [] 0 0 (MQ below (oQp .boolean r) [Value.int a1].toArray s 0 0 (fun _ => False)) (F0 m 23 ls [.int v]) := fun v hv hn =>
    W.zret hx hb B.returns hn (fun t ht hW => ⟨⟨v, (), rfl, ⟨hv, hn⟩, trivial⟩, (va_S.rf (A := fun _ => False)).F ht⟩) (fun _ h => by cases h) dL_thrown_23 B.notSynchronized
  unfold fL_thrown at h
  refine lv_iload_n hx hb dL_thrown_0 rfl (lv_at hl 0 rfl) ?_
  refine lv_ldc (v := (-9999001)) hx hb hown (X _ (gt_in 698 (by decide +kernel) (by decide +kernel))) dL_thrown_1 ?_
  refine lv_icmp_eq (tgt := 18) hx hb dL_thrown_3 (by decide) (fun c1 => ?_) (fun c1 => ?_)
  · refine lv_iconst (v := 1) hx hb dL_thrown_18 (by decide) ?_
    refine lv_goto (tgt := 23) hx hb dL_thrown_19 (by decide) ?_
    exact fin 1 (by rw [← h, if_pos c1]) rfl
  refine lv_iload_n hx hb dL_thrown_6 rfl (lv_at hl 0 rfl) ?_
  refine lv_ldc (v := (-9999002)) hx hb hown (X _ (gt_in 411 (by decide +kernel) (by decide +kernel))) dL_thrown_7 ?_
  refine lv_icmp_eq (tgt := 18) hx hb dL_thrown_9 (by decide) (fun c2 => ?_) (fun c2 => ?_)
  · refine lv_iconst (v := 1) hx hb dL_thrown_18 (by decide) ?_
    refine lv_goto (tgt := 23) hx hb dL_thrown_19 (by decide) ?_
    exact fin 1 (by rw [← h, if_neg c1, if_pos c2]) rfl
  refine lv_iload_n hx hb dL_thrown_12 rfl (lv_at hl 0 rfl) ?_
  refine lv_ldc (v := (-9999003)) hx hb hown (X _ (gt_in 412 (by decide +kernel) (by decide +kernel))) dL_thrown_13 ?_
  refine lv_icmp_ne (tgt := 22) hx hb dL_thrown_15 (by decide) (fun c3 => ?_) (fun c3 => ?_)
  · refine lv_iconst (v := 0) hx hb dL_thrown_22 (by decide) ?_
    exact fin 0 (by rw [← h, if_neg c1, if_neg c2, if_neg c3]) rfl
  · refine lv_iconst (v := 1) hx hb dL_thrown_18 (by decide) ?_
    refine lv_goto (tgt := 23) hx hb dL_thrown_19 (by decide) ?_
    exact fin 1 (by rw [← h, if_neg c1, if_neg c2, if_pos c3]) rfl
theorem kL_cell {l : Launch} {b L : Nat} {xs : Nat → Int32} {a1 r : Int32} (h : fL_cell xs L a1 = some r) : Met l yL_cell (.code yL_cell cL_cell 2 (some .int) :: gtbl) (uR 0 0) (va_Pc [.ref b, .int a1] (cellB b L xs)) (oQp .int r) 0 0 (fun _ => False) := by
  refine Met.ofW (cc := cL_cell) (maxL := 2) (ret := some .int) rfl rfl ?_
  intro p e s m args below meth c s₁ B hml hv
  obtain ⟨rfl, hX, hbl⟩ := hv
  have hts := atoms_spec (ws := .code yL_cell cL_cell 2 (some .int) :: gtbl) B.pre
  have hl := lv_entry [.ref b, .int a1] (n := 2) (Nat.le_of_ble_eq_true rfl)
  rw [lg_entry_eq]
  generalize (lg_sl ([.ref b, .int a1]) ++ List.replicate (2 - (lg_sl ([.ref b, .int a1])).length) Slot.unset).toArray = ls at hl ⊢
  have hl : lv_has ls 2 [(0, .ref b), (1, .int a1)] := hl
  have hx := B.exec
  have hb := B.bytes
  have hown := findClass_of_methodNamed B.named
  have X : ∀ w ∈ gtbl, w.before [Value.ref b, .int a1].toArray s = true := fun w h => hts w (List.mem_cons_of_mem _ h)
  have hS : va_S (fun _ => False) s.heap s.heap [] := va_S.rf
  have fin : ∀ v : Int32, v &&& 2147483647 = r → W p l e (uR 0 0) s m [Value.ref b, .int a1].toArray below meth c s.heap [] 0 0 (MQ below (oQp .int r) [Value.ref b, .int a1].toArray s 0 0 (fun _ => False)) (F0 m 22 ls [.int v]) := fun v hv => by
    refine lv_ldc (v := 2147483647) hx hb hown (X _ (gt_in 974 (by decide +kernel) (by decide +kernel))) dL_cell_22 ?_
    refine lv_iand hx hb dL_cell_24 ?_
    exact W.zret hx hb B.returns rfl (fun t ht hW => ⟨⟨_, (), rfl, ⟨hv, rfl⟩, trivial⟩, hS.F ht⟩) (fun _ h => by cases h) dL_cell_25 B.notSynchronized
  unfold fL_cell at h
  refine lv_iload_n hx hb dL_cell_0 rfl (lv_at hl 1 rfl) ?_
  refine lv_aload_n hx hb dL_cell_1 rfl (lv_at hl 0 rfl) ?_
  refine va_slen hx hb hX hbl (fun h => h) hS dL_cell_2 ?_
  refine lv_icmp_ge (tgt := 12) hx hb dL_cell_3 (by decide) (fun c1 => ?_) (fun c1 => ?_)
  · rw [if_pos c1] at h
    refine lv_ldc (v := 15518677) hx hb hown (X _ (gt_in 973 (by decide +kernel) (by decide +kernel))) dL_cell_12 ?_
    refine lv_iload_n hx hb dL_cell_14 rfl (lv_at hl 1 rfl) ?_
    refine lv_iconst (v := 3) hx hb dL_cell_15 (by decide) ?_
    refine lv_iadd hx hb dL_cell_16 ?_
    refine lv_imul hx hb dL_cell_17 ?_
    refine lv_sipush (v := 10889) hx hb dL_cell_18 (by decide) ?_
    refine lv_iadd hx hb dL_cell_21 ?_
    exact fin _ (Option.some.inj h)
  · rw [if_neg c1] at h
    obtain ⟨g1, h⟩ := gd_e h
    refine lv_aload_n hx hb dL_cell_6 rfl (lv_at hl 0 rfl) ?_
    refine lv_iload_n hx hb dL_cell_7 rfl (lv_at hl 1 rfl) ?_
    refine va_sld hx hb hX hbl (fun h => h) hS (inb_e g1) dL_cell_8 ?_
    refine lv_goto (tgt := 22) hx hb dL_cell_9 (by decide) ?_
    exact fin _ (Option.some.inj h)
