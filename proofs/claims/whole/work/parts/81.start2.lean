
set_option maxHeartbeats 4000000 in
set_option maxRecDepth 20000 in
/-- the law from its entry, given that its pure function answers true -/
theorem whole_from {p : Program} {e : Env} {s : State} {m : MethodId} {below : List Frame} {meth : Method} {c : Code} (l : Launch) (hflags : l.flags = flags0) {b L : Nat} {xs : Nat → Int32} (hLaw : fLaw xs L 513 V0 0 = some 1) (C0 : lw_At p s m meth c b L xs) : W p l e room_1 s m #[Value.ref b] below meth c s.heap [] 0 0 (lw_Z below #[Value.ref b] s) (entryFrame m ([Value.ref b] : List Value).toArray 7) := by
  obtain ⟨hx, hb, hr, hml, hown, hts, hX, hbl, hlocks, hgv⟩ := C0
  have hlt : l.stackTraces = false := by
    unfold Launch.stackTraces
    rw [hflags]
    decide +kernel
  have hw : ∀ (i : Nat) (w : Cond), lw_tbl[i]? = some w → w.before #[Value.ref b] s = true := fun i w h => hts w (List.mem_of_getElem? h)
  have hg : ∀ w ∈ gtbl, w.before #[Value.ref b] s = true := fun w h => hts w (List.mem_filter.mp h).1
  have hq := flat_of_before _ hgv
  obtain ⟨c0, i0, K0⟩ := u_known (C := RX0) (T := TX0) (N := 5) (n := 5) hg iw_X0 (hw 53 _ (by decide +kernel))
  obtain ⟨c1, i1, K1⟩ := u_known (C := RX2) (T := TX2) (N := 2) (n := 2) hg iw_X2 (hw 235 _ (by decide +kernel))
  obtain ⟨c2, i2, K2⟩ := u_known (C := RX3) (T := TX3) (N := 8) (n := 8) hg iw_X3 (hw 129 _ (by decide +kernel))
  obtain ⟨c3, i3, K3⟩ := u_known (C := RX4) (T := TX4) (N := 3) (n := 3) hg iw_X4 (hw 250 _ (by decide +kernel))
  obtain ⟨c4, i4, K4⟩ := u_known (C := RX5) (T := TX5) (N := 6) (n := 6) hg iw_X5 (hw 95 _ (by decide +kernel))
  obtain ⟨c5, i5, K5⟩ := u_known (C := RX6) (T := TX6) (N := 1) (n := 1) hg iw_X6 (hw 59 _ (by decide +kernel))
  obtain ⟨c6, i6, K6⟩ := u_known (C := RX9) (T := TX9) (N := 4) (n := 4) hg iw_X9 (hw 269 _ (by decide +kernel))
  obtain ⟨c7, i7, K7⟩ := u_known (C := RX10) (T := TX10) (N := 10) (n := 10) hg iw_X10 (hw 47 _ (by decide +kernel))
  obtain ⟨c8, i8, K8⟩ := u_known (C := RX11) (T := TX11) (N := 5) (n := 5) hg iw_X11 (hw 39 _ (by decide +kernel))
  obtain ⟨c9, i9, K9⟩ := u_known (C := RX12) (T := TX12) (N := 12) (n := 12) hg iw_X12 (hw 1050 _ (by decide +kernel))
  obtain ⟨dC, dI, hKc⟩ : ∃ (dC : Nat → ClassId) (dI : Nat → Nat → Nat), ∀ (k : Nat) (q : vw_C), vwCl[k]? = some q → u_Kn s q.1 q.2.1 q.2.2 (dC k) (dI k) := by
    refine ⟨fun k => [c0, c1, c2, c3, c4, c5, c6, c7, c8, c9].getD k c0, fun k => [i0, i1, i2, i3, i4, i5, i6, i7, i8, i9].getD k i0, ?_⟩
    intro k q hq
    match k, hq with
    | 0, hq => cases hq; exact K0
    | 1, hq => cases hq; exact K1
    | 2, hq => cases hq; exact K2
    | 3, hq => cases hq; exact K3
    | 4, hq => cases hq; exact K4
    | 5, hq => cases hq; exact K5
    | 6, hq => cases hq; exact K6
    | 7, hq => cases hq; exact K7
    | 8, hq => cases hq; exact K8
    | 9, hq => cases hq; exact K9
    | k + 10, hq => exact absurd (List.getElem?_eq_some_iff.mp hq).1 (by show ¬ k + 10 < 10; omega)
  obtain ⟨aI, gI1, gI2⟩ := ws_int (hw 71 _ (by decide +kernel))
  obtain ⟨aZ, gZ1, gZ2⟩ := ws_bool (hw 1098 _ (by decide +kernel))
  obtain ⟨aJ, gJ1, gJ2⟩ := ws_long (hw 1377 _ (by decide +kernel))
  obtain ⟨aO, gO1, gO2⟩ := ws_obj (C := "OfflineGates$State") (hw 256 _ (by decide +kernel))
  obtain ⟨G, hG⟩ : ∃ G : UG, G = ((dC, dI), (aI, aZ, aJ, aO), (fun _ _ => 0), [], s.heap.size) := ⟨_, rfl⟩
  have hK : va_K (gD G) vwCl (gT G) s := by
    subst hG
    refine ⟨hKc, fun k q hq => ?_⟩
    match k, hq with
    | 0, hq => cases hq; exact ⟨gI1, gI2⟩
    | 1, hq => cases hq; exact ⟨gZ1, gZ2⟩
    | 2, hq => cases hq; exact ⟨gJ1, gJ2⟩
    | 3, hq => cases hq; exact ⟨gO1, gO2⟩
    | k + 4, hq => exact absurd (List.getElem?_eq_some_iff.mp hq).1 (by show ¬ k + 4 < 4; omega)
  have hcur : s.vm.findClass "OfflineGates" = some c8 := K8.2.1
  have hA : ∀ a : Nat, a < s.heap.size → ¬ nA s.heap.size a := fun a ha h => absurd ha (Nat.not_lt.mpr h)
  obtain ⟨k3, f3, j3, a3, -, -, -, -, -, v3⟩ := Cond.stringRef_spec hcur (hw 507 (Cond.stringRef "OfflineGates" 279 "out of range") (by decide +kernel))
  obtain ⟨k4, f4, j4, a4, -, -, -, -, -, v4⟩ := Cond.stringRef_spec hcur (hw 748 (Cond.stringRef "OfflineGates" 286 "does not exist") (by decide +kernel))
  obtain ⟨k5, f5, j5, a5, -, -, -, -, -, v5⟩ := Cond.stringRef_spec hcur (hw 550 (Cond.stringRef "OfflineGates" 291 "not now") (by decide +kernel))
  have hN : nX G s.heap.size s := ⟨⟨vx_Zqof (hw 493 _ (by decide +kernel)) (hw 28 _ (by decide +kernel)) (hq _ (by decide +kernel)) hA, vx_Zqof (hw 495 _ (by decide +kernel)) (hw 28 _ (by decide +kernel)) (hq _ (by decide +kernel)) hA, ⟨a3, vk_R.of (hw 507 _ (by decide +kernel)) v3⟩, ⟨a4, vk_R.of (hw 748 _ (by decide +kernel)) v4⟩, ⟨a5, vk_R.of (hw 550 _ (by decide +kernel)) v5⟩, fun w h => va_Nw.of (isDC_on (List.mem_filter.mp h).2) (hts w (List.mem_filter.mp h).1), va_Nc.of (hq _ (by decide +kernel)), va_Nc.of (hq _ (by decide +kernel)), va_Nc.of (hq _ (by decide +kernel))⟩, fun w h => va_Nw.of (isNest_on (List.mem_filter.mp h).2) (hts w (List.mem_filter.mp h).1), va_AO.of (hw 256 _ (by decide +kernel))⟩
  have X : NC p s m #[Value.ref b] meth c code 7 RL G s.heap.size := ⟨⟨hx, hb, hml, hown, hg⟩, hK, hN, hlocks⟩
  have M : NM G s.heap.size [] s s.heap [] := ⟨fun k q h => by simp at h, ⟨fun i j p q h => by simp at h, fun k q h => by simp at h⟩, va_S.rf, Nat.le_refl _⟩
  clear hG hK hN
  have hl := lv_entry ([.ref b]) (n := 7) (Nat.le_of_ble_eq_true rfl)
  rw [lg_entry_eq]
  generalize (lg_sl ([.ref b]) ++ List.replicate (7 - (lg_sl ([.ref b])).length) Slot.unset).toArray = ls at hl ⊢
  have hl : lv_has ls 7 [(0, .ref b)] := hl
  refine n_new (C := RX11) (T := TX11) (N := 5) (ci := 8) X M rfl iw_X11 tyX11 tyX11_ok (gt_in 38 (by decide +kernel) (by decide +kernel)) (gt_in 39 (by decide +kernel) (by decide +kernel)) (gt_in 17 (by decide +kernel) (by decide +kernel)) (fs := [.null, .null, .null, .null, .null]) (fun j hj => by rcases (show j = 0 ∨ j = 1 ∨ j = 2 ∨ j = 3 ∨ j = 4 by omega) with rfl | rfl | rfl | rfl | rfl <;> rfl) (Nat.le_of_ble_eq_true rfl) (Nat.le_of_ble_eq_true rfl) dL_law_0 (fun x0 H hz M hlt1 hsq => ?_)
  refine lv_dup hx hb dL_law_3 rfl ?_
  refine n_call X M hl.1 (nX11) hz hlt1 (gt_in 40 (by decide +kernel) (by decide +kernel)) nf_X11 ⟨Nat.le_of_ble_eq_true rfl, Nat.le_of_ble_eq_true rfl⟩ rfl rfl (Nat.le_of_ble_eq_true rfl) ⟨Nat.le_of_ble_eq_true rfl, Nat.le_of_ble_eq_true rfl⟩ dL_law_4 (fun u H locs M => ?_)
  have M : NM G s.heap.size (wX11 G x0 u) s H locs := M
  refine lv_astore_n (lv' := [(1, .ref x0), (0, .ref b)]) hx hb dL_law_7 rfl hl (by decide) rfl (fun ls hl => ?_)
  refine n_new (C := RX12) (T := TX12) (N := 12) (ci := 9) X M rfl iw_X12 tyX12 tyX12_ok (gt_in 1049 (by decide +kernel) (by decide +kernel)) (gt_in 1050 (by decide +kernel) (by decide +kernel)) (gt_in 27 (by decide +kernel) (by decide +kernel)) (fs := [.int 0, .null, .int 0, .null, .null, .null, .null, .int 0, .null, .null, .int 0, .int 0]) (fun j hj => by rcases (show j = 0 ∨ j = 1 ∨ j = 2 ∨ j = 3 ∨ j = 4 ∨ j = 5 ∨ j = 6 ∨ j = 7 ∨ j = 8 ∨ j = 9 ∨ j = 10 ∨ j = 11 by omega) with rfl | rfl | rfl | rfl | rfl | rfl | rfl | rfl | rfl | rfl | rfl | rfl <;> rfl) (Nat.le_of_ble_eq_true rfl) (Nat.le_of_ble_eq_true rfl) dL_law_8 (fun y0 H hz M hlt2 hsq => ?_)
  refine lv_dup hx hb dL_law_11 rfl ?_
  refine n_call X M hl.1 (nX12) hz hlt2 (gt_in 1051 (by decide +kernel) (by decide +kernel)) nf_X12 ⟨Nat.le_of_ble_eq_true rfl, Nat.le_of_ble_eq_true rfl⟩ rfl rfl (Nat.le_of_ble_eq_true rfl) ⟨Nat.le_of_ble_eq_true rfl, Nat.le_of_ble_eq_true rfl⟩ dL_law_12 (fun v H locs M => ?_)
  refine lv_astore_n (lv' := [(2, .ref y0), (1, .ref x0), (0, .ref b)]) hx hb dL_law_15 rfl hl (by decide) rfl (fun ls hl => ?_)
  refine lv_iconst (v := 1) hx hb dL_law_16 (by decide) ?_
  refine n_newa (k0 := 2) (ty := .long) (cA := gJ G) (N' := 1) (a0 := (1, .inr (.inl (fun _ => 0)))) X M rfl rfl (fun C h => by cases h) (gt_in 1377 (by decide +kernel) (by decide +kernel)) rfl (by decide) rfl (Nat.le_of_ble_eq_true rfl) (Nat.le_of_ble_eq_true rfl) (Nat.le_of_ble_eq_true rfl) dL_law_17 (fun o0 H M hsq hlt3 => ?_)
  refine lv_astore_n (lv' := [(3, .ref o0), (2, .ref y0), (1, .ref x0), (0, .ref b)]) hx hb dL_law_19 rfl hl (by decide) rfl (fun ls hl => ?_)
  refine lv_iconst (v := 0) hx hb dL_law_20 (by decide) ?_
  refine lv_istore (lv' := [(4, .int 0), (3, .ref o0), (2, .ref y0), (1, .ref x0), (0, .ref b)]) hx hb dL_law_21 hl (by decide) rfl (fun ls hl => ?_)
  have hU := ws_conv (B := s.heap.size) M.1 M.2.1
  exact lp_law (G := ga2 G s.heap.size x0 u y0 v o0) (ws_all G s.heap.size x0 u y0 v o0) hlt X.toUC hr hX hbl (Nat.not_le.mpr hbl) (Nat.le_refl _) 513 V0 0 H _ ls _ _ hLaw (Nat.le_of_ble_eq_true rfl) (Nat.le_of_ble_eq_true rfl) ⟨hU, M.2.2.1⟩ (lv_sub hl [4, 3, 2, 1, 0] rfl)
