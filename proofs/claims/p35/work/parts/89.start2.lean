theorem ks_no : ∀ q ∈ ksAll, q.1 ≠ 19 := by decide +kernel
theorem ws_no (G : UG) (A : Nat → Prop) (x0 : Nat) (u : uT11) : uNo (ga2 G A x0 u) := fun t o h => ks_no (t, o) h

set_option maxHeartbeats 4000000 in
set_option maxRecDepth 20000 in
/-- the law from its entry, given that its pure function answers true -/
theorem whole_from {p : Program} {e : Env} {s : State} {m : MethodId} {below : List Frame} {meth : Method} {c : Code} (l : Launch) (hflags : l.flags = flags0) {b L : Nat} {xs : Nat → Int32} (hLaw : fLaw xs L = some 1) (hV0 : OKV 0 m0 V0) (C0 : lw_At p s m meth c b L xs) : W p l e room_1 s m #[Value.ref b] below meth c s.heap [] 0 0 (lw_Z below #[Value.ref b] s) (entryFrame m ([Value.ref b] : List Value).toArray 17) := by
  obtain ⟨hx, hb, hr, hml, hown, hts, hX, hbl, hlocks, hgv⟩ := C0
  have hlt : l.stackTraces = false := by
    unfold Launch.stackTraces
    rw [hflags]
    decide +kernel
  have hw : ∀ (i : Nat) (w : Cond), lw_tbl[i]? = some w → w.before #[Value.ref b] s = true := fun i w h => hts w (List.mem_of_getElem? h)
  have hg : ∀ w ∈ gtbl, w.before #[Value.ref b] s = true := fun w h => hts w (List.mem_filter.mp h).1
  have hq := flat_of_before _ hgv
  obtain ⟨c0, i0, K0⟩ := u_known (C := RX0) (T := TX0) (N := 5) (n := 5) hg iw_X0 (hw 45 _ (by decide +kernel))
  obtain ⟨c1, i1, K1⟩ := u_known (C := RX2) (T := TX2) (N := 2) (n := 2) hg iw_X2 (hw 227 _ (by decide +kernel))
  obtain ⟨c2, i2, K2⟩ := u_known (C := RX3) (T := TX3) (N := 8) (n := 8) hg iw_X3 (hw 121 _ (by decide +kernel))
  obtain ⟨c3, i3, K3⟩ := u_known (C := RX4) (T := TX4) (N := 3) (n := 3) hg iw_X4 (hw 242 _ (by decide +kernel))
  obtain ⟨c4, i4, K4⟩ := u_known (C := RX5) (T := TX5) (N := 6) (n := 6) hg iw_X5 (hw 87 _ (by decide +kernel))
  obtain ⟨c5, i5, K5⟩ := u_known (C := RX6) (T := TX6) (N := 1) (n := 1) hg iw_X6 (hw 51 _ (by decide +kernel))
  obtain ⟨c6, i6, K6⟩ := u_known (C := RX9) (T := TX9) (N := 4) (n := 4) hg iw_X9 (hw 261 _ (by decide +kernel))
  obtain ⟨c7, i7, K7⟩ := u_known (C := RX10) (T := TX10) (N := 10) (n := 10) hg iw_X10 (hw 39 _ (by decide +kernel))
  obtain ⟨c8, i8, K8⟩ := u_known (C := RX11) (T := TX11) (N := 5) (n := 5) hg iw_X11 (hw 31 _ (by decide +kernel))
  obtain ⟨dC, dI, hKc⟩ : ∃ (dC : Nat → ClassId) (dI : Nat → Nat → Nat), ∀ (k : Nat) (q : vw_C), vwCl[k]? = some q → u_Kn s q.1 q.2.1 q.2.2 (dC k) (dI k) := by
    refine ⟨fun k => [c0, c1, c2, c3, c4, c5, c6, c7, c8].getD k c0, fun k => [i0, i1, i2, i3, i4, i5, i6, i7, i8].getD k i0, ?_⟩
    intro k q hq
    match k, hq with
    | 0, hq => cases hq; exact K0
    | 1, hq => cases hq; exact K1
    | 2, hq => cases hq; exact K2
    | 3, hq => cases hq; exact K3
    | 4, hq => cases hq; exact K4
    | 5, hq => cases hq; exact K5
    | 6, hq => cases hq; exact K6
    | 7, hq => cases hq; exact K7
    | 8, hq => cases hq; exact K8
    | k + 9, hq => exact absurd (List.getElem?_eq_some_iff.mp hq).1 (by show ¬ k + 9 < 9; omega)
  obtain ⟨aI, gI1, gI2⟩ := ws_int (hw 63 _ (by decide +kernel))
  obtain ⟨aO, gO1, gO2⟩ := ws_obj (C := "OfflineGates$State") (hw 248 _ (by decide +kernel))
  obtain ⟨G, hG⟩ : ∃ G : UG, G = ((dC, dI), (aI, aO), (fun _ _ => 0), [], fun q => s.heap.size ≤ q) := ⟨_, rfl⟩
  have hK : va_K (gD G) vwCl (gT G) s := by
    subst hG
    refine ⟨hKc, fun k q hq => ?_⟩
    match k, hq with
    | 0, hq => cases hq; exact ⟨gI1, gI2⟩
    | 1, hq => cases hq; exact ⟨gO1, gO2⟩
    | k + 2, hq => exact absurd (List.getElem?_eq_some_iff.mp hq).1 (by show ¬ k + 2 < 2; omega)
  have hcur : s.vm.findClass "OfflineGates" = some c8 := K8.2.1
  have hA : ∀ a : Nat, a < s.heap.size → ¬ nA s.heap.size a := fun a ha h => absurd ha (Nat.not_lt.mpr h)
  obtain ⟨k3, f3, j3, a3, -, -, -, -, -, v3⟩ := Cond.stringRef_spec hcur (hw 356 (Cond.stringRef "OfflineGates" 279 "out of range") (by decide +kernel))
  obtain ⟨k4, f4, j4, a4, -, -, -, -, -, v4⟩ := Cond.stringRef_spec hcur (hw 687 (Cond.stringRef "OfflineGates" 286 "does not exist") (by decide +kernel))
  obtain ⟨k5, f5, j5, a5, -, -, -, -, -, v5⟩ := Cond.stringRef_spec hcur (hw 399 (Cond.stringRef "OfflineGates" 291 "not now") (by decide +kernel))
  have hN : nX G s.heap.size s := ⟨⟨vx_Zqof (hw 342 _ (by decide +kernel)) (hw 20 _ (by decide +kernel)) (hq _ (by decide +kernel)) hA, vx_Zqof (hw 344 _ (by decide +kernel)) (hw 20 _ (by decide +kernel)) (hq _ (by decide +kernel)) hA, ⟨a3, vk_R.of (hw 356 _ (by decide +kernel)) v3⟩, ⟨a4, vk_R.of (hw 687 _ (by decide +kernel)) v4⟩, ⟨a5, vk_R.of (hw 399 _ (by decide +kernel)) v5⟩, fun w h => va_Nw.of (isDC_on (List.mem_filter.mp h).2) (hts w (List.mem_filter.mp h).1), va_Nc.of (hq _ (by decide +kernel)), va_Nc.of (hq _ (by decide +kernel)), va_Nc.of (hq _ (by decide +kernel))⟩, fun w h => va_Nw.of (isNest_on (List.mem_filter.mp h).2) (hts w (List.mem_filter.mp h).1), va_AO.of (hw 248 _ (by decide +kernel))⟩
  have X : NC p s m #[Value.ref b] meth c code 17 RL G s.heap.size := ⟨⟨hx, hb, hml, hown, hg⟩, hK, hN, hlocks⟩
  have M : NM G s.heap.size [] s s.heap [] := ⟨fun k q h => by simp at h, ⟨fun i j p q h => by simp at h, fun k q h => by simp at h⟩, va_S.rf, Nat.le_refl _⟩
  clear hG hK hN
  have hl := lv_entry ([.ref b]) (n := 17) (Nat.le_of_ble_eq_true rfl)
  rw [lg_entry_eq]
  generalize (lg_sl ([.ref b]) ++ List.replicate (17 - (lg_sl ([.ref b])).length) Slot.unset).toArray = ls at hl ⊢
  have hl : lv_has ls 17 [(0, .ref b)] := hl
  refine n_new (C := RX11) (T := TX11) (N := 5) (ci := 8) X M rfl iw_X11 tyX11 tyX11_ok (gt_in 30 (by decide +kernel) (by decide +kernel)) (gt_in 31 (by decide +kernel) (by decide +kernel)) (gt_in 10 (by decide +kernel) (by decide +kernel)) (fs := [.null, .null, .null, .null, .null]) (fun j hj => by rcases (show j = 0 ∨ j = 1 ∨ j = 2 ∨ j = 3 ∨ j = 4 by omega) with rfl | rfl | rfl | rfl | rfl <;> rfl) (Nat.le_of_ble_eq_true rfl) (Nat.le_of_ble_eq_true rfl) dL_law_0 (fun x0 H hz M hlt1 hsq => ?_)
  refine lv_dup hx hb dL_law_3 rfl ?_
  refine n_call X M hl.1 (nX11) hz hlt1 (gt_in 32 (by decide +kernel) (by decide +kernel)) nf_X11 ⟨Nat.le_of_ble_eq_true rfl, Nat.le_of_ble_eq_true rfl⟩ rfl rfl (Nat.le_of_ble_eq_true rfl) ⟨Nat.le_of_ble_eq_true rfl, Nat.le_of_ble_eq_true rfl⟩ dL_law_4 (fun u H locs M => ?_)
  have M : NM G s.heap.size (wX11 G x0 u) s H locs := M
  refine lv_astore_n (lv' := [(1, .ref x0), (0, .ref b)]) hx hb dL_law_7 rfl hl (by decide) rfl (fun ls hl => ?_)
  refine n_new (C := RX11) (T := TX11) (N := 5) (ci := 8) X M rfl iw_X11 tyX11 tyX11_ok (gt_in 30 (by decide +kernel) (by decide +kernel)) (gt_in 31 (by decide +kernel) (by decide +kernel)) (gt_in 10 (by decide +kernel) (by decide +kernel)) (fs := [.null, .null, .null, .null, .null]) (fun j hj => by rcases (show j = 0 ∨ j = 1 ∨ j = 2 ∨ j = 3 ∨ j = 4 by omega) with rfl | rfl | rfl | rfl | rfl <;> rfl) (Nat.le_of_ble_eq_true rfl) (Nat.le_of_ble_eq_true rfl) dL_law_8 (fun y0 H hz M hlt2 hsq => ?_)
  refine lv_dup hx hb dL_law_11 rfl ?_
  refine n_call X M hl.1 (nX11) hz hlt2 (gt_in 32 (by decide +kernel) (by decide +kernel)) nf_X11 ⟨Nat.le_of_ble_eq_true rfl, Nat.le_of_ble_eq_true rfl⟩ rfl rfl (Nat.le_of_ble_eq_true rfl) ⟨Nat.le_of_ble_eq_true rfl, Nat.le_of_ble_eq_true rfl⟩ dL_law_12 (fun v H locs M => ?_)
  have M : NM G s.heap.size (wX11 G x0 u ++ wX11 G y0 v) s H locs := M
  refine lv_astore_n (lv' := [(2, .ref y0), (1, .ref x0), (0, .ref b)]) hx hb dL_law_15 rfl hl (by decide) rfl (fun ls hl => ?_)
  obtain ⟨⟨P1, D1, A1⟩, ⟨P2, D2, A2⟩, dd⟩ := ws_two M.1 M.2.1
  have U1 := ws_conv P1 D1
  have U2 := ws_conv P2 D2
  have hX1 : UC p s m #[Value.ref b] meth c code 17 RL (gA (ga2 G (adOf (wX11 G x0 u)) x0 u) (fun q => s.heap.size ≤ q)) := ⟨X.1, X.2.1, X.2.2.1.1, X.2.2.2⟩
  have hX2 : UC p s m #[Value.ref b] meth c code 17 RL (gA (ga2 G (adOf (wX11 G y0 v)) y0 v) (fun q => s.heap.size ≤ q)) := ⟨X.1, X.2.1, X.2.2.1.1, X.2.2.2⟩
  refine W.widen (k := 5000) (n := 6 * 5000) (Nat.le_of_ble_eq_true rfl) (Nat.le_of_ble_eq_true rfl) ?_
  exact lp_law (G1 := ga2 G (adOf (wX11 G x0 u)) x0 u) (G2 := ga2 G (adOf (wX11 G y0 v)) y0 v) rfl (ws_all _ _ _ _) (ws_all _ _ _ _) (ws_no _ _ _ _) (ws_no _ _ _ _) hlt A1 A2 dd hX1 hX2 hr hX hbl hLaw ⟨⟨V0, hV0, U1⟩, ⟨V0, hV0, U2⟩, M.2.2.1⟩ (lv_sub hl [0, 1, 2] rfl)
