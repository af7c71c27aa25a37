
theorem arrV_congr (cI : ClassId) (n : Nat) {f f' : Nat → Value} (h : ∀ j, j < n → f j = f' j) : arrV cI n f = arrV cI n f' := by
  unfold arrV
  have e : (Array.ofFn (n := n) fun j => f j.val) = Array.ofFn (n := n) fun j => f' j.val := congrArg Array.ofFn (funext fun j => h j.val j.isLt)
  rw [e]
/-- only the places below the length matter -/
theorem UH_arr {G : UG} {V : uV} {t o n : Nat} {f f' : Nat → Int32} {H : Heap} (hs : ∀ f, uSh G t o f = uArr G n f) (h : UH G (uS V t o f) H) (e : ∀ j, j < n → f j = f' j) : UH G (uS V t o f') H := by
  have hc : ∀ k : Nat × Nat, k.1 = t ∧ k.2 = o ∨ (uS V t o f k.1 k.2 = uS V t o f' k.1 k.2) := by
    intro k
    by_cases e1 : k.1 = t
    · by_cases e2 : k.2 = o
      · exact Or.inl ⟨e1, e2⟩
      · refine Or.inr ?_
        unfold uS
        rw [e1, va_up_s, va_up_s, va_up_n e2, va_up_n e2]
    · refine Or.inr ?_
      unfold uS
      rw [va_up_n e1, va_up_n e1]
  have es : ∀ x : Nat → Int32, uS V t o x t o = x := fun x => by unfold uS; rw [va_up_s, va_up_s]
  refine ⟨fun i q hq => ?_, ⟨fun i j p q hp hq => ?_, fun i q hq => ?_⟩⟩
  · unfold uW at hq
    rw [List.getElem?_map] at hq
    cases hi : (gk G)[i]? with
    | none => rw [hi] at hq; cases hq
    | some k =>
      rw [hi] at hq
      have hq' := Option.some.inj hq
      subst hq'
      have h0 := h.1 i (ga G k.1 k.2, uSh G k.1 k.2 (uS V t o f k.1 k.2)) (by unfold uW; rw [List.getElem?_map, hi]; rfl)
      rcases hc k with ⟨e1, e2⟩ | e1
      · obtain ⟨k1, k2⟩ := k
        dsimp only at e1 e2 h0 ⊢
        subst e1; subst e2
        rw [es, hs] at h0 ⊢
        show H[_]? = some (vp_cell _ _)
        have h1 : H[ga G k1 k2]? = some (vp_cell (gI G) (n, .inl f)) := h0
        rw [h1, vp_cell_i, vp_cell_i, arrV_congr _ _ (fun j hj => by rw [e j hj])]
      · show va_at (gD G) vwCl (ga G k.1 k.2, uSh G k.1 k.2 (uS V t o f' k.1 k.2)) H
        rw [← e1]
        exact h0
  · have cv : ∀ (i : Nat) (p : Nat × va_E), (uW G (uS V t o f'))[i]? = some p → ∃ p', (uW G (uS V t o f))[i]? = some p' ∧ p'.1 = p.1 := by
      intro i p hp
      unfold uW at hp ⊢
      rw [List.getElem?_map] at hp ⊢
      cases hi : (gk G)[i]? with
      | none => rw [hi] at hp; cases hp
      | some k =>
        rw [hi] at hp
        exact ⟨_, rfl, by rw [← Option.some.inj hp]⟩
    obtain ⟨p', h1, e1⟩ := cv i p hp
    obtain ⟨q', h2, e2⟩ := cv j q hq
    exact fun e3 => h.2.1 i j p' q' h1 h2 (by rw [e1, e2, e3])
  · unfold uW at hq
    rw [List.getElem?_map] at hq
    cases hi : (gk G)[i]? with
    | none => rw [hi] at hq; cases hq
    | some k =>
      rw [hi] at hq
      rw [← Option.some.inj hq]
      exact h.2.2 i (ga G k.1 k.2, uSh G k.1 k.2 (uS V t o f k.1 k.2)) (by unfold uW; rw [List.getElem?_map, hi]; rfl)
theorem u_topi {p : Program} {l : Launch} {e : Env} {R : Room} {s : State} {m : MethodId} {args : Array Value} {below : List Frame} {meth : Method} {c : Code} {H : Heap} {locs : List Loc} {cells slots : Nat} {Q : State → Prop} {pc : Nat} {ls : Array Slot} {rest : List Value} {x y : Int32} (h : y = x) (k : W p l e R s m args below meth c H locs cells slots Q (F0 m pc ls (.int y :: rest))) : W p l e R s m args below meth c H locs cells slots Q (F0 m pc ls (.int x :: rest)) := h ▸ k
theorem u_topl {p : Program} {l : Launch} {e : Env} {R : Room} {s : State} {m : MethodId} {args : Array Value} {below : List Frame} {meth : Method} {c : Code} {H : Heap} {locs : List Loc} {cells slots : Nat} {Q : State → Prop} {pc : Nat} {ls : Array Slot} {rest : List Value} {x y : Int64} (h : y = x) (k : W p l e R s m args below meth c H locs cells slots Q (F0 m pc ls (.long y :: rest))) : W p l e R s m args below meth c H locs cells slots Q (F0 m pc ls (.long x :: rest)) := h ▸ k
theorem kX6_copyFrom {l : Launch} {G : UG} {V : uV} {t o n t2 o2 : Nat} (hR : uRow G t o n) (hR2 : uRow G t2 o2 n) : uMv l G yX6_copyFrom cX6_copyFrom 2 (uR 1 40) [.ref (ga G t o), .ref (ga G t2 o2)] V (uS V t (o + 1) (V t2 (o2 + 1))) := by
  refine uMv_of rfl (Nat.le_of_ble_eq_true rfl) (fun p e s m args below meth c ls X hret hl M => ?_)
  have hl : lv_has ls 2 [(0, .ref (ga G t o)), (1, .ref (ga G t2 o2))] := hl
  have hx := X.hx
  have hb := X.hb
  have hn : n < 2 ^ 31 := hR.2.2.2.2
  have hcn : (Int32.ofNat n).toNatClampNeg = n := nI_clamp hn
  have hsh : uSh G t (o + 1) (V t (o + 1)) = uArr G n (V t (o + 1)) := hR.2.2.2.1 _
  have hsh2 : uSh G t2 (o2 + 1) (V t2 (o2 + 1)) = uArr G n (V t2 (o2 + 1)) := hR2.2.2.2.1 _
  refine lv_aload_n hx hb dX6_copyFrom_0 rfl (lv_at hl 1 rfl) ?_
  refine gf_X6_13 X M hR2 dX6_copyFrom_1 ?_
  refine lv_iconst (v := 0) hx hb dX6_copyFrom_4 rfl ?_
  refine lv_aload_n hx hb dX6_copyFrom_5 rfl (lv_at hl 0 rfl) ?_
  refine gf_X6_13 X M hR dX6_copyFrom_6 ?_
  refine lv_iconst (v := 0) hx hb dX6_copyFrom_9 rfl ?_
  refine lv_aload_n hx hb dX6_copyFrom_10 rfl (lv_at hl 0 rfl) ?_
  refine gf_X6_13 X M hR dX6_copyFrom_11 ?_
  refine u_len X M hR.2.1 hsh rfl dX6_copyFrom_14 ?_
  refine lv_aload_n hx hb dX6_copyFrom_15 rfl (lv_at hl 1 rfl) ?_
  refine gf_X6_13 X M hR2 dX6_copyFrom_16 ?_
  refine u_len X M hR2.2.1 hsh2 rfl dX6_copyFrom_19 ?_
  refine va_mmin hx hb (X.1.2.2.1.trans hl.1.symm) X.1.2.2.2.1 (X.hts (gt_in 779 (by decide +kernel) (by decide +kernel))) (X.hts (gt_in 780 (by decide +kernel) (by decide +kernel))) (X.hts (gt_in 14 (by decide +kernel) (by decide +kernel))) (X.hts (gt_in 781 (by decide +kernel) (by decide +kernel))) (by decide) (Nat.le_of_ble_eq_true rfl) (Nat.zero_le _) (Nat.zero_le _) dX6_copyFrom_20 ?_
  refine u_topi (y := Int32.ofNat n) (by split <;> rfl) ?_
  obtain ⟨i, hi, hw⟩ := uW_at (V := V) hR.2.1
  obtain ⟨i2, hi2, hw2⟩ := uW_at (V := V) hR2.2.1
  rw [hsh] at hw
  rw [hsh2] at hw2
  refine va_copyi hx hb (X.1.2.2.1.trans hl.1.symm) X.1.2.2.2.1 (X.hts (gt_in 782 (by decide +kernel) (by decide +kernel))) (X.hts (gt_in 784 (by decide +kernel) (by decide +kernel))) (X.hts (gt_in 783 (by decide +kernel) (by decide +kernel))) (X.hts (gt_in 27 (by decide +kernel) (by decide +kernel))) X.2.1 M.1.1 M.1.2 M.2 i2 i 0 0 hw2 hw rfl rfl rfl (by decide) (by decide) (nI_pos hn) (by rw [hcn, sb_cl0]; omega) (by rw [hcn, sb_cl0]; omega) (fun _ _ => rfl) (by decide) (Nat.le_of_ble_eq_true rfl) dX6_copyFrom_23 (fun H locs h1 h2 h3 => ?_)
  rw [hcn, sb_cl0] at h1 h2
  have hU : UH G (uS V t (o + 1) (va_cpy (V t2 (o2 + 1)) (V t (o + 1)) 0 0 n)) H := UH_set M.1.2 hi (hR.2.2.2.1 _) h1 h2
  have hU2 : UH G (uS V t (o + 1) (V t2 (o2 + 1))) H := UH_arr hR.2.2.2.1 hU (fun j hj => sb_cpy0 hj)
  exact u_vret X hret ⟨hU2, h3⟩ rfl dX6_copyFrom_26
theorem lpX6_fill {l : Launch} {G : UG} {V : uV} {t o n : Nat} {S : Nat → Nat → Int32} (hR : uRow G t o n) {v : Int32} {p : Program} {e : Env} {s : State} {m : MethodId} {args : Array Value} {below : List Frame} {meth : Method} {c : Code} (X : UC p s m args meth c cX6_fill 3 RX6 G) (hret : meth.sig.returnType = none) :
    ∀ (d k : Nat), k + d = n → ∀ (f : Nat → Int32), (∀ j, j < k → f j = v) → ∀ (H : Heap) (locs : List Loc) (ls : Array Slot), UM G (va_up V t (va_up S (o + 1) f)) s H locs → lv_has ls 3 [(0, .ref (ga G t o)), (1, .int v), (2, .int (nI k))] →
      W p l e (uR 0 0) s m args below meth c H locs 0 0 (MQ below (uQv G (va_up V t (va_up S (o + 1) (fun _ => v)))) args s 0 0 (uA G)) (F0 m 2 ls []) := by
  intro d
  have hn : n < 2 ^ 31 := hR.2.2.2.2
  have hx := X.hx
  have hb := X.hb
  induction d with
  | zero =>
    intro k hk f hf H locs ls M hl
    have hsh : uSh G t (o + 1) ((va_up V t (va_up S (o + 1) f)) t (o + 1)) = uArr G n f := by rw [hR.2.2.2.1, va_up_s, va_up_s]
    refine lv_iload_n hx hb dX6_fill_2 rfl (lv_at hl 2 rfl) ?_
    refine lv_aload_n hx hb dX6_fill_3 rfl (lv_at hl 0 rfl) ?_
    refine gf_X6_13 X M hR dX6_fill_4 ?_
    refine u_len X M hR.2.1 hsh rfl dX6_fill_7 ?_
    refine lv_icmp_ge (tgt := 24) hx hb dX6_fill_8 (by decide) (fun c2 => ?_) (fun c2 => ?_)
    · have e1 : va_up V t (va_up S (o + 1) f) = uS (va_up V t S) t (o + 1) f := uS_b.symm
      have hU : UH G (uS (va_up V t S) t (o + 1) f) H := e1 ▸ M.1
      have hU2 := UH_arr (f' := fun _ => v) hR.2.2.2.1 hU (fun j hj => hf j (by omega))
      rw [uS_b] at hU2
      exact u_vret X hret ⟨hU2, M.2⟩ rfl dX6_fill_24
    · exact absurd (nI_le (a := n) (b := k) (by omega) (by omega)) c2
  | succ d ih =>
    intro k hk f hf H locs ls M hl
    have hsh : uSh G t (o + 1) ((va_up V t (va_up S (o + 1) f)) t (o + 1)) = uArr G n f := by rw [hR.2.2.2.1, va_up_s, va_up_s]
    refine lv_iload_n hx hb dX6_fill_2 rfl (lv_at hl 2 rfl) ?_
    refine lv_aload_n hx hb dX6_fill_3 rfl (lv_at hl 0 rfl) ?_
    refine gf_X6_13 X M hR dX6_fill_4 ?_
    refine u_len X M hR.2.1 hsh rfl dX6_fill_7 ?_
    refine lv_icmp_ge (tgt := 24) hx hb dX6_fill_8 (by decide) (fun c2 => ?_) (fun c2 => ?_)
    · exact absurd c2 (nI_ge (a := k) (b := n) (by omega) hn)
    · refine lv_aload_n hx hb dX6_fill_11 rfl (lv_at hl 0 rfl) ?_
      refine gf_X6_13 X M hR dX6_fill_12 ?_
      refine lv_iload_n hx hb dX6_fill_15 rfl (lv_at hl 2 rfl) ?_
      refine lv_iload_n hx hb dX6_fill_16 rfl (lv_at hl 1 rfl) ?_
      refine u_ast X M hR.2.1 hsh (vp_in_nI (by omega) hn) hR.2.2.2.1 dX6_fill_17 (fun H locs M => ?_)
      rw [uS_b, bx_uu, nI_clamp (by omega)] at M
      refine lv_iinc (v := nI (k + 1)) (lv' := [(2, .int (nI (k + 1))), (0, .ref (ga G t o)), (1, .int v)]) hx hb dX6_fill_18 hl (k := 2) rfl (nI_1 k) (by decide) rfl (fun ls hl => ?_)
      refine lv_goto (tgt := 2) hx hb dX6_fill_21 (by decide) ?_
      exact ih (k + 1) (by omega) (upd f k v) (fun j hj => by
        by_cases e : j = k
        · subst e; exact pk_us
        · rw [pk_un e]; exact hf j (by omega)) H locs ls M (lv_sub hl [1, 2, 0] rfl)
theorem kX6_fill {l : Launch} {G : UG} {V : uV} {t o n : Nat} {S : Nat → Nat → Int32} (hR : uRow G t o n) {v : Int32} : uMv l G yX6_fill cX6_fill 3 (uR 0 0) [.ref (ga G t o), .int v] (va_up V t S) (va_up V t (va_up S (o + 1) (fun _ => v))) := by
  refine uMv_of rfl (Nat.le_of_ble_eq_true rfl) (fun p e s m args below meth c ls X hret hl M => ?_)
  have hl : lv_has ls 3 [(0, .ref (ga G t o)), (1, .int v)] := hl
  have hx := X.hx
  have hb := X.hb
  refine lv_iconst (v := 0) hx hb dX6_fill_0 rfl ?_
  refine lv_istore_n (lv' := [(2, .int (nI 0)), (0, .ref (ga G t o)), (1, .int v)]) hx hb dX6_fill_1 rfl hl (by decide) rfl (fun ls hl => ?_)
  exact lpX6_fill hR X hret n 0 (by omega) (S (o + 1)) (fun j hj => absurd hj (Nat.not_lt_zero j)) _ _ ls (um_in2 (o + 1) M) (lv_sub hl [1, 2, 0] rfl)
