noncomputable def fL_law_L180 (xs : Nat → Int32) (L : Nat) (N : Nat) (M : Nat → Nat → Int32) (y3 : Int32) (y4 : Int32) (y5 : Int32) (y6 : Int32) : Option Int32 :=
  match N with
  | 0 => none
  | N + 1 =>
    if y5 ≤ y6 then
      gd (decide (y4 = 1)) <| some 1
    else
      gd (decide (¬ (y4 = 0))) <|
      bd (fL_cell xs L (2 + y6)) fun x42 =>
      bd2 (fL_act M x42) fun x45 M48 =>
      gdp (norm M = M) <|
      bd (fL_refuses M (x42 - x42 / 100000 * 100000)) fun x50 =>
      gd (decide (¬ (x50 = 0))) <|
      bd2 (fL_act M x42) fun x55 M58 =>
      gdp (M48 = M58) <|
      gd (decide (x55 = x45)) <|
      gdp (norm M48 = M48) <|
      bd (fL_refuses M48 (x42 - x42 / 1000 * 1000)) fun x63 =>
      gd (decide (¬ (x63 = 0))) <|
      bd (fL_alike M48 (x42 - x42 / 5000 * 5000)) fun x68 =>
      gd (decide (¬ (x68 = 0))) <|
      bd (fL_holds M48 (x42 / 3)) fun x73 =>
      gd (decide (¬ (x73 = 0))) <|
      bd (fL_holds M48 (x42 / 5)) fun x78 =>
      gd (decide (¬ (x78 = 0))) <|
      lt_ (((x42 / 7) - (x42 / 7) / 4 * 4)) fun x83 =>
      bd (qk (rcall M48 22 x83 1 0) M48) fun x85 =>
      bd (qk (rcall M48 22 x83 2 0) M48) fun x88 =>
      bd (qk (rcall M48 22 x83 0 0) M48) fun x91 =>
      bd (qk (rcall M48 22 x83 3 0) M48) fun x94 =>
      bd (qk (rcall M48 2 3 0 0) M48) fun x97 =>
      bd (qk (rcall M48 2 10 0 0) M48) fun x100 =>
      bd (qk (rcall M48 2 4 0 0) M48) fun x103 =>
      bd (qk (rcall M48 5 x83 1 0) M48) fun x107 =>
      if x107 = 0 then
        bd2 (rcall M48 14 x83 0 0) fun x122 M125 =>
        gd (decide (x122 = x85)) <|
        bd2 (rcall M48 14 x83 0 0) fun x128 M131 =>
        gdp (M125 = M131) <|
        gd (decide (x128 = x85)) <|
        bd (qk (rcall M125 2 10 0 0) M125) fun x135 =>
        gd (decide (x135 = x88)) <|
        bd (qk (rcall M125 2 3 0 0) M125) fun x140 =>
        gd (decide (x140 = (x97 + x91))) <|
        bd (qk (rcall M125 2 4 0 0) M125) fun x145 =>
        gd (decide (x145 = (x103 + x94))) <|
        bd (qk (rcall M125 5 x83 3 0) M125) fun x150 =>
        gd (decide (x150 = 0)) <|
        bd2 (rcall M125 19 0 0 0) fun x155 M158 =>
        lt_ (fL_thrown x155) fun x159 =>
        gd (decide (x159 = 0)) <|
        bd2 (rcall M125 19 0 0 0) fun x164 M167 =>
        gdp (M158 = M167) <|
        lt_ (fL_thrown x164) fun x169 =>
        gd (decide (x169 = 0)) <|
        bd (qk (rcall M158 2 3 0 0) M158) fun x174 =>
        gd (decide (x174 = x97)) <|
        bd (qk (rcall M158 2 10 0 0) M158) fun x179 =>
        gd (decide (x179 = x100)) <|
        bd (qk (rcall M158 5 x83 1 0) M158) fun x184 =>
        gd (decide (x184 = 0)) <|
        lt_ (y6 + 1) fun x189 =>
        fL_law_L180 xs L N M158 y3 1 y5 x189
      else
        gd (decide (x91 = 0)) <|
        gd (decide (x85 = 0)) <|
        gd (decide (x94 = 0)) <|
        gd (decide (x88 = x100)) <|
        lt_ (y6 + 1) fun x120 =>
        fL_law_L180 xs L N M48 y3 1 y5 x120
set_option maxHeartbeats 8000000 in
set_option maxRecDepth 20000 in
theorem lpL_law_180 {l : Launch} {G1 G2 : UG} {p : Program} {e : Env} {s : State} {m : MethodId} {below : List Frame} {meth : Method} {c : Code} {b L : Nat} {xs : Nat → Int32} {A : Nat → Prop} (hAe : A = fun q => s.heap.size ≤ q) (hG1 : uAll G1) (hG2 : uAll G2) (hN1 : uNo G1) (hN2 : uNo G2) (hlt : l.stackTraces = false) (hA1 : ∀ q, uA G1 q → A q) (hA2 : ∀ q, uA G2 q → A q) (hd12 : ∀ q, uA G1 q → uA G2 q → False) (X1 : UC p s m #[.ref b] meth c code 17 RL (gA G1 A)) (X2 : UC p s m #[.ref b] meth c code 17 RL (gA G2 A)) (hr : meth.sig.returnType = ret) (hX : va_X b L xs s s.heap) (hbl : b < s.heap.size) : ∀ (N k n : Nat) (M : Nat → Nat → Int32) (y3 : Int32) (y4 : Int32) (y5 : Int32) (y6 : Int32) (H : Heap) (locs : List Loc) (ls : Array Slot), fL_law_L180 xs L N M y3 y4 y5 y6 = some 1 → k + 1186 * N ≤ 600000 → n + (3 * N + 10) ≤ 850 → WO A (UQ G2 n M) G1 n M s H locs → lv_has ls 17 [(0, .ref b), (1, .ref (ga G1 18 0)), (2, .ref (ga G2 18 0)), (3, .int y3), (4, .int y4), (5, .int y5), (6, .int y6)] → W p l e room_1 s m #[.ref b] below meth c H locs k (6 * k) (lw_Z below #[.ref b] s) (F0 m 180 ls []) := by
  subst hAe
  have hx := X1.hx
  have hb := X1.hb
  have hd21 : ∀ q, uA G2 q → uA G1 q → False := fun q a b => hd12 q b a
  intro N
  induction N with
  | zero => intro k n M y3 y4 y5 y6 H locs ls h hk hn Z hl; rw [fL_law_L180] at h; cases h
  | succ N ih =>
    intro k n M y3 y4 y5 y6 H locs ls h hk hn Z hl
    rw [fL_law_L180] at h
    refine lv_iload hx hb dL_law_180 (lv_at hl 6 rfl) ?_
    refine lv_iload hx hb dL_law_182 (lv_at hl 5 rfl) ?_
    refine lv_icmp_ge (tgt := 601) hx hb dL_law_184 (by decide) (fun c38 => ?_) (fun c38 => ?_)
    · have h := it_t h c38
      refine lv_iload hx hb dL_law_601 (lv_at hl 4 rfl) ?_
      obtain ⟨z39, h⟩ := gd_e h
      have z39 := of_decide_eq_true z39
      subst z39
      refine va_forget (fun q hq => Z.2.2.2.2 q hq) ?_
      refine W.widen (k := 678363) (n := 7066380) (by omega) (by omega) ?_
      exact lw_ret hx hb hr X1.2.2.2 dL_law_603
    · have h := it_f h c38
      refine lv_iload hx hb dL_law_187 (lv_at hl 4 rfl) ?_
      obtain ⟨z41, h⟩ := gd_e h
      refine lv_if_eq (tgt := 601) hx hb dL_law_189 (by decide) (fun cn => absurd cn (of_decide_eq_true z41)) (fun c40 => ?_)
      refine lv_aload_n hx hb dL_law_192 rfl (lv_at hl 0 rfl) ?_
      refine lv_iconst (v := 2) hx hb dL_law_193 (by decide) ?_
      refine lv_iload hx hb dL_law_194 (lv_at hl 6 rfl) ?_
      refine lv_iadd hx hb dL_law_196 ?_
      obtain ⟨x42, e43, h⟩ := bd_e h
      refine o_cP X1 Z.2.2 hl.1 (kL_cell e43) blind_c (cell_at hX hbl Z.2.2) cw_L_215 ⟨Nat.le_of_ble_eq_true rfl, Nat.le_of_ble_eq_true rfl⟩ rfl rfl (Nat.le_of_ble_eq_true rfl) ⟨show k ≤ 678363 by omega, show 6 * k ≤ 7066380 by omega⟩ dL_law_197 (fun H locs hS hk9 n44 => ?_)
      have Z := WO.pass (stb_q hd21) Z hS hk9
      refine lv_istore (lv' := [(7, .int x42), (0, .ref b), (1, .ref (ga G1 18 0)), (2, .ref (ga G2 18 0)), (3, .int y3), (4, .int y4), (5, .int y5), (6, .int y6)]) hx hb dL_law_200 hl (by decide) rfl (fun ls hl => ?_)
      refine lv_aload_n hx hb dL_law_202 rfl (lv_at hl 2 rfl) ?_
      refine lv_iload hx hb dL_law_203 (lv_at hl 0 rfl) ?_
      obtain ⟨x45, M48, e46, h⟩ := bd2_e h
      refine o_cS X1 hA1 (stb_q hd21) Z hl.1 (kL_act hG1 hN1 hlt (by omega) e46) cw_L_219 ⟨Nat.le_of_ble_eq_true rfl, Nat.le_of_ble_eq_true rfl⟩ rfl rfl (Nat.le_of_ble_eq_true rfl) ⟨show k + 7 ≤ 678363 by omega, show 6 * k + 42 ≤ 7066380 by omega⟩ dL_law_205 (fun H locs Z n47 => ?_)
      refine W.widen (k := k + 7) (n := 6 * (k + 7)) (by omega) (by omega) ?_
      refine lv_istore (lv' := [(8, .int x45), (7, .int x42), (0, .ref b), (1, .ref (ga G1 18 0)), (2, .ref (ga G2 18 0)), (3, .int y3), (4, .int y4), (5, .int y5), (6, .int y6)]) hx hb dL_law_208 hl (by decide) rfl (fun ls hl => ?_)
      refine lv_aload_n hx hb dL_law_210 rfl (lv_at hl 4 rfl) ?_
      refine lv_iload hx hb dL_law_211 (lv_at hl 1 rfl) ?_
      refine lv_ldc (v := 100000) hx hb X1.1.2.2.2.1 (X1.hts (gt_in 1056 (by decide +kernel) (by decide +kernel))) dL_law_213 ?_
      refine lv_irem hx hb dL_law_215 (by decide) ?_
      obtain ⟨m49, h⟩ := gdp_e h
      obtain ⟨x50, e51, h⟩ := bd_e h
      refine o_cS X2 hA2 (stb_q hd12) Z.swap hl.1 (kL_refuses hG2 hN2 hlt (by omega) m49 e51) cw_L_223 ⟨Nat.le_of_ble_eq_true rfl, Nat.le_of_ble_eq_true rfl⟩ rfl rfl (Nat.le_of_ble_eq_true rfl) ⟨show (k + 7) + 40 ≤ 678363 by omega, show 6 * (k + 7) + 240 ≤ 7066380 by omega⟩ dL_law_216 (fun H locs Z n52 => ?_)
      have Z := Z.swap
      refine W.widen (k := (k + 7) + 40) (n := 6 * ((k + 7) + 40)) (by omega) (by omega) ?_
      obtain ⟨z54, h⟩ := gd_e h
      refine lv_if_eq (tgt := 286) hx hb dL_law_219 (by decide) (fun cn => absurd cn (of_decide_eq_true z54)) (fun c53 => ?_)
      refine lv_aload_n hx hb dL_law_222 rfl (lv_at hl 4 rfl) ?_
      refine lv_iload hx hb dL_law_223 (lv_at hl 1 rfl) ?_
      obtain ⟨x55, M58, e56, h⟩ := bd2_e h
      refine o_cS X2 hA2 (stb_q hd12) Z.swap hl.1 (kL_act hG2 hN2 hlt (by omega) e56) cw_L_219 ⟨Nat.le_of_ble_eq_true rfl, Nat.le_of_ble_eq_true rfl⟩ rfl rfl (Nat.le_of_ble_eq_true rfl) ⟨show ((k + 7) + 40) + 7 ≤ 678363 by omega, show 6 * ((k + 7) + 40) + 42 ≤ 7066380 by omega⟩ dL_law_225 (fun H locs Z n57 => ?_)
      have Z := Z.swap
      refine W.widen (k := ((k + 7) + 40) + 7) (n := 6 * (((k + 7) + 40) + 7)) (by omega) (by omega) ?_
      replace h := gdp_e h
      obtain ⟨m59, h⟩ := h
      subst m59
      refine lv_iload hx hb dL_law_228 (lv_at hl 0 rfl) ?_
      obtain ⟨z61, h⟩ := gd_e h
      refine lv_icmp_ne (tgt := 286) hx hb dL_law_230 (by decide) (fun cn => absurd (of_decide_eq_true z61) cn) (fun c60 => ?_)
      refine lv_aload_n hx hb dL_law_233 rfl (lv_at hl 4 rfl) ?_
      refine lv_iload hx hb dL_law_234 (lv_at hl 1 rfl) ?_
      refine lv_sipush (v := 1000) hx hb dL_law_236 (by decide) ?_
      refine lv_irem hx hb dL_law_239 (by decide) ?_
      obtain ⟨m62, h⟩ := gdp_e h
      obtain ⟨x63, e64, h⟩ := bd_e h
      refine o_cS X2 hA2 (stb_q hd12) Z.swap hl.1 (kL_refuses hG2 hN2 hlt (by omega) m62 e64) cw_L_223 ⟨Nat.le_of_ble_eq_true rfl, Nat.le_of_ble_eq_true rfl⟩ rfl rfl (Nat.le_of_ble_eq_true rfl) ⟨show (((k + 7) + 40) + 7) + 40 ≤ 678363 by omega, show 6 * (((k + 7) + 40) + 7) + 240 ≤ 7066380 by omega⟩ dL_law_240 (fun H locs Z n65 => ?_)
      have Z := Z.swap
      refine W.widen (k := (((k + 7) + 40) + 7) + 40) (n := 6 * ((((k + 7) + 40) + 7) + 40)) (by omega) (by omega) ?_
      obtain ⟨z67, h⟩ := gd_e h
      refine lv_if_eq (tgt := 286) hx hb dL_law_243 (by decide) (fun cn => absurd cn (of_decide_eq_true z67)) (fun c66 => ?_)
      refine lv_aload_n hx hb dL_law_246 rfl (lv_at hl 3 rfl) ?_
      refine lv_aload_n hx hb dL_law_247 rfl (lv_at hl 4 rfl) ?_
      refine lv_iload hx hb dL_law_248 (lv_at hl 1 rfl) ?_
      refine lv_sipush (v := 5000) hx hb dL_law_250 (by decide) ?_
      refine lv_irem hx hb dL_law_253 (by decide) ?_
      obtain ⟨x68, e69, h⟩ := bd_e h
      refine o_c2 X1 X2 Z hl.1 (kL_alike hG1 hG2 hN1 hN2 hlt (by omega) hA1 hA2 hd12 e69) cw_L_227 ⟨Nat.le_of_ble_eq_true rfl, Nat.le_of_ble_eq_true rfl⟩ rfl rfl (Nat.le_of_ble_eq_true rfl) ⟨show ((((k + 7) + 40) + 7) + 40) + 199 ≤ 678363 by omega, show 6 * ((((k + 7) + 40) + 7) + 40) + 1194 ≤ 7066380 by omega⟩ dL_law_254 (fun H locs Z n70 => ?_)
      refine W.widen (k := ((((k + 7) + 40) + 7) + 40) + 199) (n := 6 * (((((k + 7) + 40) + 7) + 40) + 199)) (by omega) (by omega) ?_
      obtain ⟨z72, h⟩ := gd_e h
      refine lv_if_eq (tgt := 286) hx hb dL_law_257 (by decide) (fun cn => absurd cn (of_decide_eq_true z72)) (fun c71 => ?_)
      refine lv_aload_n hx hb dL_law_260 rfl (lv_at hl 3 rfl) ?_
      refine lv_iload hx hb dL_law_261 (lv_at hl 1 rfl) ?_
      refine lv_iconst (v := 3) hx hb dL_law_263 (by decide) ?_
      refine lv_idiv hx hb dL_law_264 (by decide) ?_
      obtain ⟨x73, e74, h⟩ := bd_e h
      refine o_cS X1 hA1 (stb_q hd21) Z hl.1 (kL_holds hG1 hN1 hlt (by omega) e74) cw_L_231 ⟨Nat.le_of_ble_eq_true rfl, Nat.le_of_ble_eq_true rfl⟩ rfl rfl (Nat.le_of_ble_eq_true rfl) ⟨show (((((k + 7) + 40) + 7) + 40) + 199) + 437 ≤ 678363 by omega, show 6 * (((((k + 7) + 40) + 7) + 40) + 199) + 2622 ≤ 7066380 by omega⟩ dL_law_265 (fun H locs Z n75 => ?_)
      refine W.widen (k := (((((k + 7) + 40) + 7) + 40) + 199) + 437) (n := 6 * ((((((k + 7) + 40) + 7) + 40) + 199) + 437)) (by omega) (by omega) ?_
      obtain ⟨z77, h⟩ := gd_e h
      refine lv_if_eq (tgt := 286) hx hb dL_law_268 (by decide) (fun cn => absurd cn (of_decide_eq_true z77)) (fun c76 => ?_)
      refine lv_aload_n hx hb dL_law_271 rfl (lv_at hl 4 rfl) ?_
      refine lv_iload hx hb dL_law_272 (lv_at hl 1 rfl) ?_
      refine lv_iconst (v := 5) hx hb dL_law_274 (by decide) ?_
      refine lv_idiv hx hb dL_law_275 (by decide) ?_
      obtain ⟨x78, e79, h⟩ := bd_e h
      refine o_cS X2 hA2 (stb_q hd12) Z.swap hl.1 (kL_holds hG2 hN2 hlt (by omega) e79) cw_L_231 ⟨Nat.le_of_ble_eq_true rfl, Nat.le_of_ble_eq_true rfl⟩ rfl rfl (Nat.le_of_ble_eq_true rfl) ⟨show ((((((k + 7) + 40) + 7) + 40) + 199) + 437) + 437 ≤ 678363 by omega, show 6 * ((((((k + 7) + 40) + 7) + 40) + 199) + 437) + 2622 ≤ 7066380 by omega⟩ dL_law_276 (fun H locs Z n80 => ?_)
      have Z := Z.swap
      refine W.widen (k := ((((((k + 7) + 40) + 7) + 40) + 199) + 437) + 437) (n := 6 * (((((((k + 7) + 40) + 7) + 40) + 199) + 437) + 437)) (by omega) (by omega) ?_
      obtain ⟨z82, h⟩ := gd_e h
      refine lv_if_eq (tgt := 286) hx hb dL_law_279 (by decide) (fun cn => absurd cn (of_decide_eq_true z82)) (fun c81 => ?_)
      refine lv_iconst (v := 1) hx hb dL_law_282 (by decide) ?_
      refine lv_goto (tgt := 287) hx hb dL_law_283 (by decide) ?_
      refine lv_istore (lv' := [(4, .int 1), (8, .int x45), (7, .int x42), (0, .ref b), (1, .ref (ga G1 18 0)), (2, .ref (ga G2 18 0)), (3, .int y3), (5, .int y5), (6, .int y6)]) hx hb dL_law_287 hl (by decide) rfl (fun ls hl => ?_)
      refine lv_iload hx hb dL_law_289 (lv_at hl 2 rfl) ?_
      refine lv_bipush (v := 7) hx hb dL_law_291 (by decide) ?_
      refine lv_idiv hx hb dL_law_293 (by decide) ?_
      refine lv_iconst (v := 4) hx hb dL_law_294 (by decide) ?_
      refine lv_irem hx hb dL_law_295 (by decide) ?_
      obtain ⟨x83, e84, h⟩ := lt_e h
      refine u_topi e84 ?_
      refine lv_istore (lv' := [(9, .int x83), (4, .int 1), (8, .int x45), (7, .int x42), (0, .ref b), (1, .ref (ga G1 18 0)), (2, .ref (ga G2 18 0)), (3, .int y3), (5, .int y5), (6, .int y6)]) hx hb dL_law_296 hl (by decide) rfl (fun ls hl => ?_)
      refine lv_aload_n hx hb dL_law_298 rfl (lv_at hl 5 rfl) ?_
      refine lv_bipush (v := 22) hx hb dL_law_299 (by decide) ?_
      refine lv_iload hx hb dL_law_301 (lv_at hl 0 rfl) ?_
      refine lv_iconst (v := 1) hx hb dL_law_303 (by decide) ?_
      refine lv_iconst (v := 0) hx hb dL_law_304 (by decide) ?_
      obtain ⟨x85, e86, h⟩ := bd_e h
      refine o_cS X1 hA1 (stb_q hd21) Z hl.1 (kG_callq hG1 hN1 hlt (by omega) (qk_e e86)) cw_L_194 ⟨Nat.le_of_ble_eq_true rfl, Nat.le_of_ble_eq_true rfl⟩ rfl rfl (Nat.le_of_ble_eq_true rfl) ⟨show (((((((k + 7) + 40) + 7) + 40) + 199) + 437) + 437) + 1 ≤ 678363 by omega, show 6 * (((((((k + 7) + 40) + 7) + 40) + 199) + 437) + 437) + 6 ≤ 7066380 by omega⟩ dL_law_305 (fun H locs Z n87 => ?_)
      refine lv_istore (lv' := [(10, .int x85), (9, .int x83), (4, .int 1), (8, .int x45), (7, .int x42), (0, .ref b), (1, .ref (ga G1 18 0)), (2, .ref (ga G2 18 0)), (3, .int y3), (5, .int y5), (6, .int y6)]) hx hb dL_law_308 hl (by decide) rfl (fun ls hl => ?_)
      refine lv_aload_n hx hb dL_law_310 rfl (lv_at hl 6 rfl) ?_
      refine lv_bipush (v := 22) hx hb dL_law_311 (by decide) ?_
      refine lv_iload hx hb dL_law_313 (lv_at hl 1 rfl) ?_
      refine lv_iconst (v := 2) hx hb dL_law_315 (by decide) ?_
      refine lv_iconst (v := 0) hx hb dL_law_316 (by decide) ?_
      obtain ⟨x88, e89, h⟩ := bd_e h
      refine o_cS X1 hA1 (stb_q hd21) Z hl.1 (kG_callq hG1 hN1 hlt (by omega) (qk_e e89)) cw_L_194 ⟨Nat.le_of_ble_eq_true rfl, Nat.le_of_ble_eq_true rfl⟩ rfl rfl (Nat.le_of_ble_eq_true rfl) ⟨show (((((((k + 7) + 40) + 7) + 40) + 199) + 437) + 437) + 1 + 1 ≤ 678363 by omega, show 6 * (((((((k + 7) + 40) + 7) + 40) + 199) + 437) + 437) + 6 + 6 ≤ 7066380 by omega⟩ dL_law_317 (fun H locs Z n90 => ?_)
      refine lv_istore (lv' := [(11, .int x88), (10, .int x85), (9, .int x83), (4, .int 1), (8, .int x45), (7, .int x42), (0, .ref b), (1, .ref (ga G1 18 0)), (2, .ref (ga G2 18 0)), (3, .int y3), (5, .int y5), (6, .int y6)]) hx hb dL_law_320 hl (by decide) rfl (fun ls hl => ?_)
      refine lv_aload_n hx hb dL_law_322 rfl (lv_at hl 7 rfl) ?_
      refine lv_bipush (v := 22) hx hb dL_law_323 (by decide) ?_
      refine lv_iload hx hb dL_law_325 (lv_at hl 2 rfl) ?_
      refine lv_iconst (v := 0) hx hb dL_law_327 (by decide) ?_
      refine lv_iconst (v := 0) hx hb dL_law_328 (by decide) ?_
      obtain ⟨x91, e92, h⟩ := bd_e h
      refine o_cS X1 hA1 (stb_q hd21) Z hl.1 (kG_callq hG1 hN1 hlt (by omega) (qk_e e92)) cw_L_194 ⟨Nat.le_of_ble_eq_true rfl, Nat.le_of_ble_eq_true rfl⟩ rfl rfl (Nat.le_of_ble_eq_true rfl) ⟨show (((((((k + 7) + 40) + 7) + 40) + 199) + 437) + 437) + 1 + 1 + 1 ≤ 678363 by omega, show 6 * (((((((k + 7) + 40) + 7) + 40) + 199) + 437) + 437) + 6 + 6 + 6 ≤ 7066380 by omega⟩ dL_law_329 (fun H locs Z n93 => ?_)
      refine lv_istore (lv' := [(12, .int x91), (11, .int x88), (10, .int x85), (9, .int x83), (4, .int 1), (8, .int x45), (7, .int x42), (0, .ref b), (1, .ref (ga G1 18 0)), (2, .ref (ga G2 18 0)), (3, .int y3), (5, .int y5), (6, .int y6)]) hx hb dL_law_332 hl (by decide) rfl (fun ls hl => ?_)
      refine lv_aload_n hx hb dL_law_334 rfl (lv_at hl 8 rfl) ?_
      refine lv_bipush (v := 22) hx hb dL_law_335 (by decide) ?_
      refine lv_iload hx hb dL_law_337 (lv_at hl 3 rfl) ?_
      refine lv_iconst (v := 3) hx hb dL_law_339 (by decide) ?_
      refine lv_iconst (v := 0) hx hb dL_law_340 (by decide) ?_
      obtain ⟨x94, e95, h⟩ := bd_e h
      refine o_cS X1 hA1 (stb_q hd21) Z hl.1 (kG_callq hG1 hN1 hlt (by omega) (qk_e e95)) cw_L_194 ⟨Nat.le_of_ble_eq_true rfl, Nat.le_of_ble_eq_true rfl⟩ rfl rfl (Nat.le_of_ble_eq_true rfl) ⟨show (((((((k + 7) + 40) + 7) + 40) + 199) + 437) + 437) + 1 + 1 + 1 + 1 ≤ 678363 by omega, show 6 * (((((((k + 7) + 40) + 7) + 40) + 199) + 437) + 437) + 6 + 6 + 6 + 6 ≤ 7066380 by omega⟩ dL_law_341 (fun H locs Z n96 => ?_)
      refine lv_istore (lv' := [(13, .int x94), (12, .int x91), (11, .int x88), (10, .int x85), (9, .int x83), (4, .int 1), (8, .int x45), (7, .int x42), (0, .ref b), (1, .ref (ga G1 18 0)), (2, .ref (ga G2 18 0)), (3, .int y3), (5, .int y5), (6, .int y6)]) hx hb dL_law_344 hl (by decide) rfl (fun ls hl => ?_)
      refine lv_aload_n hx hb dL_law_346 rfl (lv_at hl 9 rfl) ?_
      refine lv_iconst (v := 2) hx hb dL_law_347 (by decide) ?_
      refine lv_iconst (v := 3) hx hb dL_law_348 (by decide) ?_
      refine lv_iconst (v := 0) hx hb dL_law_349 (by decide) ?_
      refine lv_iconst (v := 0) hx hb dL_law_350 (by decide) ?_
      obtain ⟨x97, e98, h⟩ := bd_e h
      refine o_cS X1 hA1 (stb_q hd21) Z hl.1 (kG_callq hG1 hN1 hlt (by omega) (qk_e e98)) cw_L_194 ⟨Nat.le_of_ble_eq_true rfl, Nat.le_of_ble_eq_true rfl⟩ rfl rfl (Nat.le_of_ble_eq_true rfl) ⟨show (((((((k + 7) + 40) + 7) + 40) + 199) + 437) + 437) + 1 + 1 + 1 + 1 + 1 ≤ 678363 by omega, show 6 * (((((((k + 7) + 40) + 7) + 40) + 199) + 437) + 437) + 6 + 6 + 6 + 6 + 6 ≤ 7066380 by omega⟩ dL_law_351 (fun H locs Z n99 => ?_)
      refine lv_istore (lv' := [(14, .int x97), (13, .int x94), (12, .int x91), (11, .int x88), (10, .int x85), (9, .int x83), (4, .int 1), (8, .int x45), (7, .int x42), (0, .ref b), (1, .ref (ga G1 18 0)), (2, .ref (ga G2 18 0)), (3, .int y3), (5, .int y5), (6, .int y6)]) hx hb dL_law_354 hl (by decide) rfl (fun ls hl => ?_)
      refine lv_aload_n hx hb dL_law_356 rfl (lv_at hl 10 rfl) ?_
      refine lv_iconst (v := 2) hx hb dL_law_357 (by decide) ?_
      refine lv_bipush (v := 10) hx hb dL_law_358 (by decide) ?_
      refine lv_iconst (v := 0) hx hb dL_law_360 (by decide) ?_
      refine lv_iconst (v := 0) hx hb dL_law_361 (by decide) ?_
      obtain ⟨x100, e101, h⟩ := bd_e h
      refine o_cS X1 hA1 (stb_q hd21) Z hl.1 (kG_callq hG1 hN1 hlt (by omega) (qk_e e101)) cw_L_194 ⟨Nat.le_of_ble_eq_true rfl, Nat.le_of_ble_eq_true rfl⟩ rfl rfl (Nat.le_of_ble_eq_true rfl) ⟨show (((((((k + 7) + 40) + 7) + 40) + 199) + 437) + 437) + 1 + 1 + 1 + 1 + 1 + 1 ≤ 678363 by omega, show 6 * (((((((k + 7) + 40) + 7) + 40) + 199) + 437) + 437) + 6 + 6 + 6 + 6 + 6 + 6 ≤ 7066380 by omega⟩ dL_law_362 (fun H locs Z n102 => ?_)
      refine lv_istore (lv' := [(15, .int x100), (14, .int x97), (13, .int x94), (12, .int x91), (11, .int x88), (10, .int x85), (9, .int x83), (4, .int 1), (8, .int x45), (7, .int x42), (0, .ref b), (1, .ref (ga G1 18 0)), (2, .ref (ga G2 18 0)), (3, .int y3), (5, .int y5), (6, .int y6)]) hx hb dL_law_365 hl (by decide) rfl (fun ls hl => ?_)
      refine lv_aload_n hx hb dL_law_367 rfl (lv_at hl 11 rfl) ?_
      refine lv_iconst (v := 2) hx hb dL_law_368 (by decide) ?_
      refine lv_iconst (v := 4) hx hb dL_law_369 (by decide) ?_
      refine lv_iconst (v := 0) hx hb dL_law_370 (by decide) ?_
      refine lv_iconst (v := 0) hx hb dL_law_371 (by decide) ?_
      obtain ⟨x103, e104, h⟩ := bd_e h
      refine o_cS X1 hA1 (stb_q hd21) Z hl.1 (kG_callq hG1 hN1 hlt (by omega) (qk_e e104)) cw_L_194 ⟨Nat.le_of_ble_eq_true rfl, Nat.le_of_ble_eq_true rfl⟩ rfl rfl (Nat.le_of_ble_eq_true rfl) ⟨show (((((((k + 7) + 40) + 7) + 40) + 199) + 437) + 437) + 1 + 1 + 1 + 1 + 1 + 1 + 1 ≤ 678363 by omega, show 6 * (((((((k + 7) + 40) + 7) + 40) + 199) + 437) + 437) + 6 + 6 + 6 + 6 + 6 + 6 + 6 ≤ 7066380 by omega⟩ dL_law_372 (fun H locs Z n105 => ?_)
      refine lv_istore (lv' := [(16, .int x103), (15, .int x100), (14, .int x97), (13, .int x94), (12, .int x91), (11, .int x88), (10, .int x85), (9, .int x83), (4, .int 1), (8, .int x45), (7, .int x42), (0, .ref b), (1, .ref (ga G1 18 0)), (2, .ref (ga G2 18 0)), (3, .int y3), (5, .int y5), (6, .int y6)]) hx hb dL_law_375 hl (by decide) rfl (fun ls hl => ?_)
      refine lv_iload hx hb dL_law_377 (lv_at hl 8 rfl) ?_
      refine lv_if_eq (tgt := 561) hx hb dL_law_379 (by decide) (fun cn => absurd cn (by decide : ¬ ((1 : Int32) = 0))) (fun c106 => ?_)
      refine lv_aload_n hx hb dL_law_382 rfl (lv_at hl 12 rfl) ?_
      refine lv_iconst (v := 5) hx hb dL_law_383 (by decide) ?_
      refine lv_iload hx hb dL_law_384 (lv_at hl 7 rfl) ?_
      refine lv_iconst (v := 1) hx hb dL_law_386 (by decide) ?_
      refine lv_iconst (v := 0) hx hb dL_law_387 (by decide) ?_
      obtain ⟨x107, e108, h⟩ := bd_e h
      refine o_cS X1 hA1 (stb_q hd21) Z hl.1 (kG_callq hG1 hN1 hlt (by omega) (qk_e e108)) cw_L_194 ⟨Nat.le_of_ble_eq_true rfl, Nat.le_of_ble_eq_true rfl⟩ rfl rfl (Nat.le_of_ble_eq_true rfl) ⟨show (((((((k + 7) + 40) + 7) + 40) + 199) + 437) + 437) + 1 + 1 + 1 + 1 + 1 + 1 + 1 + 1 ≤ 678363 by omega, show 6 * (((((((k + 7) + 40) + 7) + 40) + 199) + 437) + 437) + 6 + 6 + 6 + 6 + 6 + 6 + 6 + 6 ≤ 7066380 by omega⟩ dL_law_388 (fun H locs Z n109 => ?_)
      refine lv_if_ne (tgt := 561) hx hb dL_law_391 (by decide) (fun c110 => ?_) (fun c110 => ?_)
      · have h := it_f h c110
        refine lv_iload hx hb dL_law_561 (lv_at hl 8 rfl) ?_
        refine lv_if_eq (tgt := 592) hx hb dL_law_563 (by decide) (fun cn => absurd cn (by decide : ¬ ((1 : Int32) = 0))) (fun c111 => ?_)
        refine lv_iload hx hb dL_law_566 (lv_at hl 4 rfl) ?_
        obtain ⟨z113, h⟩ := gd_e h
        refine lv_if_ne (tgt := 592) hx hb dL_law_568 (by decide) (fun cn => absurd (of_decide_eq_true z113) cn) (fun c112 => ?_)
        refine lv_iload hx hb dL_law_571 (lv_at hl 6 rfl) ?_
        obtain ⟨z115, h⟩ := gd_e h
        refine lv_if_ne (tgt := 592) hx hb dL_law_573 (by decide) (fun cn => absurd (of_decide_eq_true z115) cn) (fun c114 => ?_)
        refine lv_iload hx hb dL_law_576 (lv_at hl 3 rfl) ?_
        obtain ⟨z117, h⟩ := gd_e h
        refine lv_if_ne (tgt := 592) hx hb dL_law_578 (by decide) (fun cn => absurd (of_decide_eq_true z117) cn) (fun c116 => ?_)
        refine lv_iload hx hb dL_law_581 (lv_at hl 5 rfl) ?_
        refine lv_iload hx hb dL_law_583 (lv_at hl 1 rfl) ?_
        obtain ⟨z119, h⟩ := gd_e h
        refine lv_icmp_ne (tgt := 592) hx hb dL_law_585 (by decide) (fun cn => absurd (of_decide_eq_true z119) cn) (fun c118 => ?_)
        refine lv_iconst (v := 1) hx hb dL_law_588 (by decide) ?_
        refine lv_goto (tgt := 593) hx hb dL_law_589 (by decide) ?_
        refine lv_istore (lv' := [(4, .int 1), (16, .int x103), (15, .int x100), (14, .int x97), (13, .int x94), (12, .int x91), (11, .int x88), (10, .int x85), (9, .int x83), (8, .int x45), (7, .int x42), (0, .ref b), (1, .ref (ga G1 18 0)), (2, .ref (ga G2 18 0)), (3, .int y3), (5, .int y5), (6, .int y6)]) hx hb dL_law_593 hl (by decide) rfl (fun ls hl => ?_)
        obtain ⟨x120, e121, h⟩ := lt_e h
        refine lv_iinc (v := x120) (lv' := [(6, .int x120), (4, .int 1), (16, .int x103), (15, .int x100), (14, .int x97), (13, .int x94), (12, .int x91), (11, .int x88), (10, .int x85), (9, .int x83), (8, .int x45), (7, .int x42), (0, .ref b), (1, .ref (ga G1 18 0)), (2, .ref (ga G2 18 0)), (3, .int y3), (5, .int y5)]) hx hb dL_law_595 hl (k := 16) rfl (by rw [e121]; rfl) (by decide) rfl (fun ls hl => ?_)
        refine lv_goto (tgt := 180) hx hb dL_law_598 (by decide) ?_
        have Z := ((Z.up (n' := n + 3) (by omega)).swap.up (n' := n + 3) (by omega)).swap
        refine W.widen (k := k + 1186) (n := 6 * (k + 1186)) (by omega) (by omega) ?_
        exact ih (k + 1186) (n + 3) _ _ _ _ _ _ _ _ h (by omega) (by omega) Z (lv_sub hl [12, 13, 14, 15, 1, 16, 0] rfl)
      · have h := it_t h c110
        refine lv_aload_n hx hb dL_law_394 rfl (lv_at hl 12 rfl) ?_
        refine lv_bipush (v := 14) hx hb dL_law_395 (by decide) ?_
        refine lv_iload hx hb dL_law_397 (lv_at hl 7 rfl) ?_
        refine lv_iconst (v := 0) hx hb dL_law_399 (by decide) ?_
        refine lv_iconst (v := 0) hx hb dL_law_400 (by decide) ?_
        obtain ⟨x122, M125, e123, h⟩ := bd2_e h
        refine o_cS X1 hA1 (stb_q hd21) Z hl.1 (kG_call hG1 hN1 hlt (by omega) e123) cw_L_194 ⟨Nat.le_of_ble_eq_true rfl, Nat.le_of_ble_eq_true rfl⟩ rfl rfl (Nat.le_of_ble_eq_true rfl) ⟨show (((((((k + 7) + 40) + 7) + 40) + 199) + 437) + 437) + 1 + 1 + 1 + 1 + 1 + 1 + 1 + 1 + 1 ≤ 678363 by omega, show 6 * (((((((k + 7) + 40) + 7) + 40) + 199) + 437) + 437) + 6 + 6 + 6 + 6 + 6 + 6 + 6 + 6 + 6 ≤ 7066380 by omega⟩ dL_law_401 (fun H locs Z n124 => ?_)
        refine lv_iload hx hb dL_law_404 (lv_at hl 6 rfl) ?_
        obtain ⟨z127, h⟩ := gd_e h
        refine lv_icmp_ne (tgt := 555) hx hb dL_law_406 (by decide) (fun cn => absurd (of_decide_eq_true z127) cn) (fun c126 => ?_)
        refine lv_aload_n hx hb dL_law_409 rfl (lv_at hl 13 rfl) ?_
        refine lv_bipush (v := 14) hx hb dL_law_410 (by decide) ?_
        refine lv_iload hx hb dL_law_412 (lv_at hl 7 rfl) ?_
        refine lv_iconst (v := 0) hx hb dL_law_414 (by decide) ?_
        refine lv_iconst (v := 0) hx hb dL_law_415 (by decide) ?_
        obtain ⟨x128, M131, e129, h⟩ := bd2_e h
        refine o_cS X2 hA2 (stb_q hd12) Z.swap hl.1 (kG_call hG2 hN2 hlt (by omega) e129) cw_L_194 ⟨Nat.le_of_ble_eq_true rfl, Nat.le_of_ble_eq_true rfl⟩ rfl rfl (Nat.le_of_ble_eq_true rfl) ⟨show (((((((k + 7) + 40) + 7) + 40) + 199) + 437) + 437) + 1 + 1 + 1 + 1 + 1 + 1 + 1 + 1 + 1 + 1 ≤ 678363 by omega, show 6 * (((((((k + 7) + 40) + 7) + 40) + 199) + 437) + 437) + 6 + 6 + 6 + 6 + 6 + 6 + 6 + 6 + 6 + 6 ≤ 7066380 by omega⟩ dL_law_416 (fun H locs Z n130 => ?_)
        have Z := Z.swap
        replace h := gdp_e h
        obtain ⟨m132, h⟩ := h
        subst m132
        refine lv_iload hx hb dL_law_419 (lv_at hl 6 rfl) ?_
        obtain ⟨z134, h⟩ := gd_e h
        refine lv_icmp_ne (tgt := 555) hx hb dL_law_421 (by decide) (fun cn => absurd (of_decide_eq_true z134) cn) (fun c133 => ?_)
        refine lv_aload_n hx hb dL_law_424 rfl (lv_at hl 12 rfl) ?_
        refine lv_iconst (v := 2) hx hb dL_law_425 (by decide) ?_
        refine lv_bipush (v := 10) hx hb dL_law_426 (by decide) ?_
        refine lv_iconst (v := 0) hx hb dL_law_428 (by decide) ?_
        refine lv_iconst (v := 0) hx hb dL_law_429 (by decide) ?_
        obtain ⟨x135, e136, h⟩ := bd_e h
        refine o_cS X1 hA1 (stb_q hd21) Z hl.1 (kG_callq hG1 hN1 hlt (by omega) (qk_e e136)) cw_L_194 ⟨Nat.le_of_ble_eq_true rfl, Nat.le_of_ble_eq_true rfl⟩ rfl rfl (Nat.le_of_ble_eq_true rfl) ⟨show (((((((k + 7) + 40) + 7) + 40) + 199) + 437) + 437) + 1 + 1 + 1 + 1 + 1 + 1 + 1 + 1 + 1 + 1 + 1 ≤ 678363 by omega, show 6 * (((((((k + 7) + 40) + 7) + 40) + 199) + 437) + 437) + 6 + 6 + 6 + 6 + 6 + 6 + 6 + 6 + 6 + 6 + 6 ≤ 7066380 by omega⟩ dL_law_430 (fun H locs Z n137 => ?_)
        refine lv_iload hx hb dL_law_433 (lv_at hl 5 rfl) ?_
        obtain ⟨z139, h⟩ := gd_e h
        refine lv_icmp_ne (tgt := 555) hx hb dL_law_435 (by decide) (fun cn => absurd (of_decide_eq_true z139) cn) (fun c138 => ?_)
        refine lv_aload_n hx hb dL_law_438 rfl (lv_at hl 12 rfl) ?_
        refine lv_iconst (v := 2) hx hb dL_law_439 (by decide) ?_
        refine lv_iconst (v := 3) hx hb dL_law_440 (by decide) ?_
        refine lv_iconst (v := 0) hx hb dL_law_441 (by decide) ?_
        refine lv_iconst (v := 0) hx hb dL_law_442 (by decide) ?_
        obtain ⟨x140, e141, h⟩ := bd_e h
        refine o_cS X1 hA1 (stb_q hd21) Z hl.1 (kG_callq hG1 hN1 hlt (by omega) (qk_e e141)) cw_L_194 ⟨Nat.le_of_ble_eq_true rfl, Nat.le_of_ble_eq_true rfl⟩ rfl rfl (Nat.le_of_ble_eq_true rfl) ⟨show (((((((k + 7) + 40) + 7) + 40) + 199) + 437) + 437) + 1 + 1 + 1 + 1 + 1 + 1 + 1 + 1 + 1 + 1 + 1 + 1 ≤ 678363 by omega, show 6 * (((((((k + 7) + 40) + 7) + 40) + 199) + 437) + 437) + 6 + 6 + 6 + 6 + 6 + 6 + 6 + 6 + 6 + 6 + 6 + 6 ≤ 7066380 by omega⟩ dL_law_443 (fun H locs Z n142 => ?_)
        refine lv_iload hx hb dL_law_446 (lv_at hl 2 rfl) ?_
        refine lv_iload hx hb dL_law_448 (lv_at hl 4 rfl) ?_
        refine lv_iadd hx hb dL_law_450 ?_
        obtain ⟨z144, h⟩ := gd_e h
        refine lv_icmp_ne (tgt := 555) hx hb dL_law_451 (by decide) (fun cn => absurd (of_decide_eq_true z144) cn) (fun c143 => ?_)
        refine lv_aload_n hx hb dL_law_454 rfl (lv_at hl 12 rfl) ?_
        refine lv_iconst (v := 2) hx hb dL_law_455 (by decide) ?_
        refine lv_iconst (v := 4) hx hb dL_law_456 (by decide) ?_
        refine lv_iconst (v := 0) hx hb dL_law_457 (by decide) ?_
        refine lv_iconst (v := 0) hx hb dL_law_458 (by decide) ?_
        obtain ⟨x145, e146, h⟩ := bd_e h
        refine o_cS X1 hA1 (stb_q hd21) Z hl.1 (kG_callq hG1 hN1 hlt (by omega) (qk_e e146)) cw_L_194 ⟨Nat.le_of_ble_eq_true rfl, Nat.le_of_ble_eq_true rfl⟩ rfl rfl (Nat.le_of_ble_eq_true rfl) ⟨show (((((((k + 7) + 40) + 7) + 40) + 199) + 437) + 437) + 1 + 1 + 1 + 1 + 1 + 1 + 1 + 1 + 1 + 1 + 1 + 1 + 1 ≤ 678363 by omega, show 6 * (((((((k + 7) + 40) + 7) + 40) + 199) + 437) + 437) + 6 + 6 + 6 + 6 + 6 + 6 + 6 + 6 + 6 + 6 + 6 + 6 + 6 ≤ 7066380 by omega⟩ dL_law_459 (fun H locs Z n147 => ?_)
        refine lv_iload hx hb dL_law_462 (lv_at hl 0 rfl) ?_
        refine lv_iload hx hb dL_law_464 (lv_at hl 3 rfl) ?_
        refine lv_iadd hx hb dL_law_466 ?_
        obtain ⟨z149, h⟩ := gd_e h
        refine lv_icmp_ne (tgt := 555) hx hb dL_law_467 (by decide) (fun cn => absurd (of_decide_eq_true z149) cn) (fun c148 => ?_)
        refine lv_aload_n hx hb dL_law_470 rfl (lv_at hl 12 rfl) ?_
        refine lv_iconst (v := 5) hx hb dL_law_471 (by decide) ?_
        refine lv_iload hx hb dL_law_472 (lv_at hl 7 rfl) ?_
        refine lv_iconst (v := 3) hx hb dL_law_474 (by decide) ?_
        refine lv_iconst (v := 0) hx hb dL_law_475 (by decide) ?_
        obtain ⟨x150, e151, h⟩ := bd_e h
        refine o_cS X1 hA1 (stb_q hd21) Z hl.1 (kG_callq hG1 hN1 hlt (by omega) (qk_e e151)) cw_L_194 ⟨Nat.le_of_ble_eq_true rfl, Nat.le_of_ble_eq_true rfl⟩ rfl rfl (Nat.le_of_ble_eq_true rfl) ⟨show (((((((k + 7) + 40) + 7) + 40) + 199) + 437) + 437) + 1 + 1 + 1 + 1 + 1 + 1 + 1 + 1 + 1 + 1 + 1 + 1 + 1 + 1 ≤ 678363 by omega, show 6 * (((((((k + 7) + 40) + 7) + 40) + 199) + 437) + 437) + 6 + 6 + 6 + 6 + 6 + 6 + 6 + 6 + 6 + 6 + 6 + 6 + 6 + 6 ≤ 7066380 by omega⟩ dL_law_476 (fun H locs Z n152 => ?_)
        obtain ⟨z154, h⟩ := gd_e h
        refine lv_if_ne (tgt := 555) hx hb dL_law_479 (by decide) (fun cn => absurd (of_decide_eq_true z154) cn) (fun c153 => ?_)
        refine lv_aload_n hx hb dL_law_482 rfl (lv_at hl 12 rfl) ?_
        refine lv_bipush (v := 19) hx hb dL_law_483 (by decide) ?_
        refine lv_iconst (v := 0) hx hb dL_law_485 (by decide) ?_
        refine lv_iconst (v := 0) hx hb dL_law_486 (by decide) ?_
        refine lv_iconst (v := 0) hx hb dL_law_487 (by decide) ?_
        obtain ⟨x155, M158, e156, h⟩ := bd2_e h
        refine o_cS X1 hA1 (stb_q hd21) Z hl.1 (kG_call hG1 hN1 hlt (by omega) e156) cw_L_194 ⟨Nat.le_of_ble_eq_true rfl, Nat.le_of_ble_eq_true rfl⟩ rfl rfl (Nat.le_of_ble_eq_true rfl) ⟨show (((((((k + 7) + 40) + 7) + 40) + 199) + 437) + 437) + 1 + 1 + 1 + 1 + 1 + 1 + 1 + 1 + 1 + 1 + 1 + 1 + 1 + 1 + 1 ≤ 678363 by omega, show 6 * (((((((k + 7) + 40) + 7) + 40) + 199) + 437) + 437) + 6 + 6 + 6 + 6 + 6 + 6 + 6 + 6 + 6 + 6 + 6 + 6 + 6 + 6 + 6 ≤ 7066380 by omega⟩ dL_law_488 (fun H locs Z n157 => ?_)
        obtain ⟨x159, e160, h⟩ := lt_e h
        refine o_cP X1 Z.2.2 hl.1 (kL_thrown e160.symm) blind_t (fun _ _ _ => trivial) cw_L_234 ⟨Nat.le_of_ble_eq_true rfl, Nat.le_of_ble_eq_true rfl⟩ rfl rfl (Nat.le_of_ble_eq_true rfl) ⟨show (((((((k + 7) + 40) + 7) + 40) + 199) + 437) + 437) + 1 + 1 + 1 + 1 + 1 + 1 + 1 + 1 + 1 + 1 + 1 + 1 + 1 + 1 + 1 ≤ 678363 by omega, show 6 * (((((((k + 7) + 40) + 7) + 40) + 199) + 437) + 437) + 6 + 6 + 6 + 6 + 6 + 6 + 6 + 6 + 6 + 6 + 6 + 6 + 6 + 6 + 6 ≤ 7066380 by omega⟩ dL_law_491 (fun H locs hS hk9 n161 => ?_)
        have Z := WO.pass (stb_q hd21) Z hS hk9
        obtain ⟨z163, h⟩ := gd_e h
        refine lv_if_ne (tgt := 555) hx hb dL_law_494 (by decide) (fun cn => absurd (of_decide_eq_true z163) cn) (fun c162 => ?_)
        refine lv_aload_n hx hb dL_law_497 rfl (lv_at hl 13 rfl) ?_
        refine lv_bipush (v := 19) hx hb dL_law_498 (by decide) ?_
        refine lv_iconst (v := 0) hx hb dL_law_500 (by decide) ?_
        refine lv_iconst (v := 0) hx hb dL_law_501 (by decide) ?_
        refine lv_iconst (v := 0) hx hb dL_law_502 (by decide) ?_
        obtain ⟨x164, M167, e165, h⟩ := bd2_e h
        refine o_cS X2 hA2 (stb_q hd12) Z.swap hl.1 (kG_call hG2 hN2 hlt (by omega) e165) cw_L_194 ⟨Nat.le_of_ble_eq_true rfl, Nat.le_of_ble_eq_true rfl⟩ rfl rfl (Nat.le_of_ble_eq_true rfl) ⟨show (((((((k + 7) + 40) + 7) + 40) + 199) + 437) + 437) + 1 + 1 + 1 + 1 + 1 + 1 + 1 + 1 + 1 + 1 + 1 + 1 + 1 + 1 + 1 + 1 ≤ 678363 by omega, show 6 * (((((((k + 7) + 40) + 7) + 40) + 199) + 437) + 437) + 6 + 6 + 6 + 6 + 6 + 6 + 6 + 6 + 6 + 6 + 6 + 6 + 6 + 6 + 6 + 6 ≤ 7066380 by omega⟩ dL_law_503 (fun H locs Z n166 => ?_)
        have Z := Z.swap
        replace h := gdp_e h
        obtain ⟨m168, h⟩ := h
        subst m168
        obtain ⟨x169, e170, h⟩ := lt_e h
        refine o_cP X1 Z.2.2 hl.1 (kL_thrown e170.symm) blind_t (fun _ _ _ => trivial) cw_L_234 ⟨Nat.le_of_ble_eq_true rfl, Nat.le_of_ble_eq_true rfl⟩ rfl rfl (Nat.le_of_ble_eq_true rfl) ⟨show (((((((k + 7) + 40) + 7) + 40) + 199) + 437) + 437) + 1 + 1 + 1 + 1 + 1 + 1 + 1 + 1 + 1 + 1 + 1 + 1 + 1 + 1 + 1 + 1 ≤ 678363 by omega, show 6 * (((((((k + 7) + 40) + 7) + 40) + 199) + 437) + 437) + 6 + 6 + 6 + 6 + 6 + 6 + 6 + 6 + 6 + 6 + 6 + 6 + 6 + 6 + 6 + 6 ≤ 7066380 by omega⟩ dL_law_506 (fun H locs hS hk9 n171 => ?_)
        have Z := WO.pass (stb_q hd21) Z hS hk9
        obtain ⟨z173, h⟩ := gd_e h
        refine lv_if_ne (tgt := 555) hx hb dL_law_509 (by decide) (fun cn => absurd (of_decide_eq_true z173) cn) (fun c172 => ?_)
        refine lv_aload_n hx hb dL_law_512 rfl (lv_at hl 12 rfl) ?_
        refine lv_iconst (v := 2) hx hb dL_law_513 (by decide) ?_
        refine lv_iconst (v := 3) hx hb dL_law_514 (by decide) ?_
        refine lv_iconst (v := 0) hx hb dL_law_515 (by decide) ?_
        refine lv_iconst (v := 0) hx hb dL_law_516 (by decide) ?_
        obtain ⟨x174, e175, h⟩ := bd_e h
        refine o_cS X1 hA1 (stb_q hd21) Z hl.1 (kG_callq hG1 hN1 hlt (by omega) (qk_e e175)) cw_L_194 ⟨Nat.le_of_ble_eq_true rfl, Nat.le_of_ble_eq_true rfl⟩ rfl rfl (Nat.le_of_ble_eq_true rfl) ⟨show (((((((k + 7) + 40) + 7) + 40) + 199) + 437) + 437) + 1 + 1 + 1 + 1 + 1 + 1 + 1 + 1 + 1 + 1 + 1 + 1 + 1 + 1 + 1 + 1 + 1 ≤ 678363 by omega, show 6 * (((((((k + 7) + 40) + 7) + 40) + 199) + 437) + 437) + 6 + 6 + 6 + 6 + 6 + 6 + 6 + 6 + 6 + 6 + 6 + 6 + 6 + 6 + 6 + 6 + 6 ≤ 7066380 by omega⟩ dL_law_517 (fun H locs Z n176 => ?_)
        refine lv_iload hx hb dL_law_520 (lv_at hl 2 rfl) ?_
        obtain ⟨z178, h⟩ := gd_e h
        refine lv_icmp_ne (tgt := 555) hx hb dL_law_522 (by decide) (fun cn => absurd (of_decide_eq_true z178) cn) (fun c177 => ?_)
        refine lv_aload_n hx hb dL_law_525 rfl (lv_at hl 12 rfl) ?_
        refine lv_iconst (v := 2) hx hb dL_law_526 (by decide) ?_
        refine lv_bipush (v := 10) hx hb dL_law_527 (by decide) ?_
        refine lv_iconst (v := 0) hx hb dL_law_529 (by decide) ?_
        refine lv_iconst (v := 0) hx hb dL_law_530 (by decide) ?_
        obtain ⟨x179, e180, h⟩ := bd_e h
        refine o_cS X1 hA1 (stb_q hd21) Z hl.1 (kG_callq hG1 hN1 hlt (by omega) (qk_e e180)) cw_L_194 ⟨Nat.le_of_ble_eq_true rfl, Nat.le_of_ble_eq_true rfl⟩ rfl rfl (Nat.le_of_ble_eq_true rfl) ⟨show (((((((k + 7) + 40) + 7) + 40) + 199) + 437) + 437) + 1 + 1 + 1 + 1 + 1 + 1 + 1 + 1 + 1 + 1 + 1 + 1 + 1 + 1 + 1 + 1 + 1 + 1 ≤ 678363 by omega, show 6 * (((((((k + 7) + 40) + 7) + 40) + 199) + 437) + 437) + 6 + 6 + 6 + 6 + 6 + 6 + 6 + 6 + 6 + 6 + 6 + 6 + 6 + 6 + 6 + 6 + 6 + 6 ≤ 7066380 by omega⟩ dL_law_531 (fun H locs Z n181 => ?_)
        refine lv_iload hx hb dL_law_534 (lv_at hl 1 rfl) ?_
        obtain ⟨z183, h⟩ := gd_e h
        refine lv_icmp_ne (tgt := 555) hx hb dL_law_536 (by decide) (fun cn => absurd (of_decide_eq_true z183) cn) (fun c182 => ?_)
        refine lv_aload_n hx hb dL_law_539 rfl (lv_at hl 12 rfl) ?_
        refine lv_iconst (v := 5) hx hb dL_law_540 (by decide) ?_
        refine lv_iload hx hb dL_law_541 (lv_at hl 7 rfl) ?_
        refine lv_iconst (v := 1) hx hb dL_law_543 (by decide) ?_
        refine lv_iconst (v := 0) hx hb dL_law_544 (by decide) ?_
        obtain ⟨x184, e185, h⟩ := bd_e h
        refine o_cS X1 hA1 (stb_q hd21) Z hl.1 (kG_callq hG1 hN1 hlt (by omega) (qk_e e185)) cw_L_194 ⟨Nat.le_of_ble_eq_true rfl, Nat.le_of_ble_eq_true rfl⟩ rfl rfl (Nat.le_of_ble_eq_true rfl) ⟨show (((((((k + 7) + 40) + 7) + 40) + 199) + 437) + 437) + 1 + 1 + 1 + 1 + 1 + 1 + 1 + 1 + 1 + 1 + 1 + 1 + 1 + 1 + 1 + 1 + 1 + 1 + 1 ≤ 678363 by omega, show 6 * (((((((k + 7) + 40) + 7) + 40) + 199) + 437) + 437) + 6 + 6 + 6 + 6 + 6 + 6 + 6 + 6 + 6 + 6 + 6 + 6 + 6 + 6 + 6 + 6 + 6 + 6 + 6 ≤ 7066380 by omega⟩ dL_law_545 (fun H locs Z n186 => ?_)
        obtain ⟨z188, h⟩ := gd_e h
        refine lv_if_ne (tgt := 555) hx hb dL_law_548 (by decide) (fun cn => absurd (of_decide_eq_true z188) cn) (fun c187 => ?_)
        refine lv_iconst (v := 1) hx hb dL_law_551 (by decide) ?_
        refine lv_goto (tgt := 556) hx hb dL_law_552 (by decide) ?_
        refine lv_istore (lv' := [(4, .int 1), (16, .int x103), (15, .int x100), (14, .int x97), (13, .int x94), (12, .int x91), (11, .int x88), (10, .int x85), (9, .int x83), (8, .int x45), (7, .int x42), (0, .ref b), (1, .ref (ga G1 18 0)), (2, .ref (ga G2 18 0)), (3, .int y3), (5, .int y5), (6, .int y6)]) hx hb dL_law_556 hl (by decide) rfl (fun ls hl => ?_)
        refine lv_goto (tgt := 595) hx hb dL_law_558 (by decide) ?_
        obtain ⟨x189, e190, h⟩ := lt_e h
        refine lv_iinc (v := x189) (lv' := [(6, .int x189), (4, .int 1), (16, .int x103), (15, .int x100), (14, .int x97), (13, .int x94), (12, .int x91), (11, .int x88), (10, .int x85), (9, .int x83), (8, .int x45), (7, .int x42), (0, .ref b), (1, .ref (ga G1 18 0)), (2, .ref (ga G2 18 0)), (3, .int y3), (5, .int y5)]) hx hb dL_law_595 hl (k := 16) rfl (by rw [e190]; rfl) (by decide) rfl (fun ls hl => ?_)
        refine lv_goto (tgt := 180) hx hb dL_law_598 (by decide) ?_
        have Z := ((Z.up (n' := n + 3) (by omega)).swap.up (n' := n + 3) (by omega)).swap
        refine W.widen (k := k + 1186) (n := 6 * (k + 1186)) (by omega) (by omega) ?_
        exact ih (k + 1186) (n + 3) _ _ _ _ _ _ _ _ h (by omega) (by omega) Z (lv_sub hl [12, 13, 14, 15, 1, 16, 0] rfl)
noncomputable def fL_law_L28 (xs : Nat → Int32) (L : Nat) (N : Nat) (M : Nat → Nat → Int32) (y3 : Int32) (y4 : Int32) (y5 : Int32) : Option Int32 :=
  match N with
  | 0 => none
  | N + 1 =>
    if 3 ≤ y5 then
      gd (decide (¬ (y4 = 0))) <|
      bd2 (rcall M 9 0 0 0) fun x7 M10 =>
      gd (decide (x7 = 3)) <|
      bd2 (rcall M 9 0 0 0) fun x13 M16 =>
      gdp (M10 = M16) <|
      gd (decide (x13 = 3)) <|
      bd2 (rcall M10 18 1 (y3 - y3 / 3 * 3) 0) fun x20 M23 =>
      gd (decide (x20 = 5)) <|
      bd2 (rcall M10 18 1 (y3 - y3 / 3 * 3) 0) fun x26 M29 =>
      gdp (M23 = M29) <|
      gd (decide (x26 = 5)) <|
      bd (fL_cell xs L 1) fun x33 =>
      lt_ ((10 + (x33 - x33 / 21 * 21))) fun x36 =>
      fL_law_L180 xs L 31 M23 y3 1 x36 0
    else
      gd (decide (¬ (y4 = 0))) <|
      gd (decide (¬ (1 + (9 * y5)) = 0)) <|
      lt_ (((y3 / (1 + (9 * y5))) - (y3 / (1 + (9 * y5))) / 60 * 60)) fun x194 =>
      bd2 (rcall M 8 x194 0 0) fun x196 M199 =>
      gd (decide (x196 = y5)) <|
      bd2 (rcall M 8 x194 0 0) fun x202 M205 =>
      gdp (M199 = M205) <|
      gd (decide (x202 = y5)) <|
      lt_ (y5 + 1) fun x209 =>
      fL_law_L28 xs L N M199 y3 1 x209
set_option maxHeartbeats 8000000 in
set_option maxRecDepth 20000 in
theorem lpL_law_28 {l : Launch} {G1 G2 : UG} {p : Program} {e : Env} {s : State} {m : MethodId} {below : List Frame} {meth : Method} {c : Code} {b L : Nat} {xs : Nat → Int32} {A : Nat → Prop} (hAe : A = fun q => s.heap.size ≤ q) (hG1 : uAll G1) (hG2 : uAll G2) (hN1 : uNo G1) (hN2 : uNo G2) (hlt : l.stackTraces = false) (hA1 : ∀ q, uA G1 q → A q) (hA2 : ∀ q, uA G2 q → A q) (hd12 : ∀ q, uA G1 q → uA G2 q → False) (X1 : UC p s m #[.ref b] meth c code 17 RL (gA G1 A)) (X2 : UC p s m #[.ref b] meth c code 17 RL (gA G2 A)) (hr : meth.sig.returnType = ret) (hX : va_X b L xs s s.heap) (hbl : b < s.heap.size) : ∀ (N k n : Nat) (M : Nat → Nat → Int32) (y3 : Int32) (y4 : Int32) (y5 : Int32) (H : Heap) (locs : List Loc) (ls : Array Slot), fL_law_L28 xs L N M y3 y4 y5 = some 1 → k + 2 * N ≤ 500000 → n + (3 * N + 150) ≤ 850 → WO A (UQ G2 n M) G1 n M s H locs → lv_has ls 17 [(0, .ref b), (1, .ref (ga G1 18 0)), (2, .ref (ga G2 18 0)), (3, .int y3), (4, .int y4), (5, .int y5)] → W p l e room_1 s m #[.ref b] below meth c H locs k (6 * k) (lw_Z below #[.ref b] s) (F0 m 28 ls []) := by
  subst hAe
  have hx := X1.hx
  have hb := X1.hb
  have hd21 : ∀ q, uA G2 q → uA G1 q → False := fun q a b => hd12 q b a
  intro N
  induction N with
  | zero => intro k n M y3 y4 y5 H locs ls h hk hn Z hl; rw [fL_law_L28] at h; cases h
  | succ N ih =>
    intro k n M y3 y4 y5 H locs ls h hk hn Z hl
    rw [fL_law_L28] at h
    refine lv_iload hx hb dL_law_28 (lv_at hl 5 rfl) ?_
    refine lv_iconst (v := 3) hx hb dL_law_30 (by decide) ?_
    refine lv_icmp_ge (tgt := 96) hx hb dL_law_31 (by decide) (fun c4 => ?_) (fun c4 => ?_)
    · have h := it_t h c4
      refine lv_iload hx hb dL_law_96 (lv_at hl 4 rfl) ?_
      obtain ⟨z6, h⟩ := gd_e h
      refine lv_if_eq (tgt := 161) hx hb dL_law_98 (by decide) (fun cn => absurd cn (of_decide_eq_true z6)) (fun c5 => ?_)
      refine lv_aload_n hx hb dL_law_101 rfl (lv_at hl 1 rfl) ?_
      refine lv_bipush (v := 9) hx hb dL_law_102 (by decide) ?_
      refine lv_iconst (v := 0) hx hb dL_law_104 (by decide) ?_
      refine lv_iconst (v := 0) hx hb dL_law_105 (by decide) ?_
      refine lv_iconst (v := 0) hx hb dL_law_106 (by decide) ?_
      obtain ⟨x7, M10, e8, h⟩ := bd2_e h
      refine o_cS X1 hA1 (stb_q hd21) Z hl.1 (kG_call hG1 hN1 hlt (by omega) e8) cw_L_194 ⟨Nat.le_of_ble_eq_true rfl, Nat.le_of_ble_eq_true rfl⟩ rfl rfl (Nat.le_of_ble_eq_true rfl) ⟨show k + 1 ≤ 678363 by omega, show 6 * k + 6 ≤ 7066380 by omega⟩ dL_law_107 (fun H locs Z n9 => ?_)
      refine lv_iconst (v := 3) hx hb dL_law_110 (by decide) ?_
      obtain ⟨z12, h⟩ := gd_e h
      refine lv_icmp_ne (tgt := 161) hx hb dL_law_111 (by decide) (fun cn => absurd (of_decide_eq_true z12) cn) (fun c11 => ?_)
      refine lv_aload_n hx hb dL_law_114 rfl (lv_at hl 2 rfl) ?_
      refine lv_bipush (v := 9) hx hb dL_law_115 (by decide) ?_
      refine lv_iconst (v := 0) hx hb dL_law_117 (by decide) ?_
      refine lv_iconst (v := 0) hx hb dL_law_118 (by decide) ?_
      refine lv_iconst (v := 0) hx hb dL_law_119 (by decide) ?_
      obtain ⟨x13, M16, e14, h⟩ := bd2_e h
      refine o_cS X2 hA2 (stb_q hd12) Z.swap hl.1 (kG_call hG2 hN2 hlt (by omega) e14) cw_L_194 ⟨Nat.le_of_ble_eq_true rfl, Nat.le_of_ble_eq_true rfl⟩ rfl rfl (Nat.le_of_ble_eq_true rfl) ⟨show k + 1 + 1 ≤ 678363 by omega, show 6 * k + 6 + 6 ≤ 7066380 by omega⟩ dL_law_120 (fun H locs Z n15 => ?_)
      have Z := Z.swap
      replace h := gdp_e h
      obtain ⟨m17, h⟩ := h
      subst m17
      refine lv_iconst (v := 3) hx hb dL_law_123 (by decide) ?_
      obtain ⟨z19, h⟩ := gd_e h
      refine lv_icmp_ne (tgt := 161) hx hb dL_law_124 (by decide) (fun cn => absurd (of_decide_eq_true z19) cn) (fun c18 => ?_)
      refine lv_aload_n hx hb dL_law_127 rfl (lv_at hl 1 rfl) ?_
      refine lv_bipush (v := 18) hx hb dL_law_128 (by decide) ?_
      refine lv_iconst (v := 1) hx hb dL_law_130 (by decide) ?_
      refine lv_iload_n hx hb dL_law_131 rfl (lv_at hl 3 rfl) ?_
      refine lv_iconst (v := 3) hx hb dL_law_132 (by decide) ?_
      refine lv_irem hx hb dL_law_133 (by decide) ?_
      refine lv_iconst (v := 0) hx hb dL_law_134 (by decide) ?_
      obtain ⟨x20, M23, e21, h⟩ := bd2_e h
      refine o_cS X1 hA1 (stb_q hd21) Z hl.1 (kG_call hG1 hN1 hlt (by omega) e21) cw_L_194 ⟨Nat.le_of_ble_eq_true rfl, Nat.le_of_ble_eq_true rfl⟩ rfl rfl (Nat.le_of_ble_eq_true rfl) ⟨show k + 1 + 1 + 1 ≤ 678363 by omega, show 6 * k + 6 + 6 + 6 ≤ 7066380 by omega⟩ dL_law_135 (fun H locs Z n22 => ?_)
      refine lv_iconst (v := 5) hx hb dL_law_138 (by decide) ?_
      obtain ⟨z25, h⟩ := gd_e h
      refine lv_icmp_ne (tgt := 161) hx hb dL_law_139 (by decide) (fun cn => absurd (of_decide_eq_true z25) cn) (fun c24 => ?_)
      refine lv_aload_n hx hb dL_law_142 rfl (lv_at hl 2 rfl) ?_
      refine lv_bipush (v := 18) hx hb dL_law_143 (by decide) ?_
      refine lv_iconst (v := 1) hx hb dL_law_145 (by decide) ?_
      refine lv_iload_n hx hb dL_law_146 rfl (lv_at hl 3 rfl) ?_
      refine lv_iconst (v := 3) hx hb dL_law_147 (by decide) ?_
      refine lv_irem hx hb dL_law_148 (by decide) ?_
      refine lv_iconst (v := 0) hx hb dL_law_149 (by decide) ?_
      obtain ⟨x26, M29, e27, h⟩ := bd2_e h
      refine o_cS X2 hA2 (stb_q hd12) Z.swap hl.1 (kG_call hG2 hN2 hlt (by omega) e27) cw_L_194 ⟨Nat.le_of_ble_eq_true rfl, Nat.le_of_ble_eq_true rfl⟩ rfl rfl (Nat.le_of_ble_eq_true rfl) ⟨show k + 1 + 1 + 1 + 1 ≤ 678363 by omega, show 6 * k + 6 + 6 + 6 + 6 ≤ 7066380 by omega⟩ dL_law_150 (fun H locs Z n28 => ?_)
      have Z := Z.swap
      replace h := gdp_e h
      obtain ⟨m30, h⟩ := h
      subst m30
      refine lv_iconst (v := 5) hx hb dL_law_153 (by decide) ?_
      obtain ⟨z32, h⟩ := gd_e h
      refine lv_icmp_ne (tgt := 161) hx hb dL_law_154 (by decide) (fun cn => absurd (of_decide_eq_true z32) cn) (fun c31 => ?_)
      refine lv_iconst (v := 1) hx hb dL_law_157 (by decide) ?_
      refine lv_goto (tgt := 162) hx hb dL_law_158 (by decide) ?_
      refine lv_istore (lv' := [(4, .int 1), (0, .ref b), (1, .ref (ga G1 18 0)), (2, .ref (ga G2 18 0)), (3, .int y3), (5, .int y5)]) hx hb dL_law_162 hl (by decide) rfl (fun ls hl => ?_)
      refine lv_bipush (v := 10) hx hb dL_law_164 (by decide) ?_
      refine lv_aload_n hx hb dL_law_166 rfl (lv_at hl 1 rfl) ?_
      refine lv_iconst (v := 1) hx hb dL_law_167 (by decide) ?_
      obtain ⟨x33, e34, h⟩ := bd_e h
      refine o_cP X1 Z.2.2 hl.1 (kL_cell e34) blind_c (cell_at hX hbl Z.2.2) cw_L_215 ⟨Nat.le_of_ble_eq_true rfl, Nat.le_of_ble_eq_true rfl⟩ rfl rfl (Nat.le_of_ble_eq_true rfl) ⟨show k + 1 + 1 + 1 + 1 ≤ 678363 by omega, show 6 * k + 6 + 6 + 6 + 6 ≤ 7066380 by omega⟩ dL_law_168 (fun H locs hS hk9 n35 => ?_)
      have Z := WO.pass (stb_q hd21) Z hS hk9
      refine lv_bipush (v := 21) hx hb dL_law_171 (by decide) ?_
      refine lv_irem hx hb dL_law_173 (by decide) ?_
      refine lv_iadd hx hb dL_law_174 ?_
      obtain ⟨x36, e37, h⟩ := lt_e h
      refine u_topi e37 ?_
      refine lv_istore (lv' := [(5, .int x36), (4, .int 1), (0, .ref b), (1, .ref (ga G1 18 0)), (2, .ref (ga G2 18 0)), (3, .int y3)]) hx hb dL_law_175 hl (by decide) rfl (fun ls hl => ?_)
      refine lv_iconst (v := 0) hx hb dL_law_177 (by decide) ?_
      refine lv_istore (lv' := [(6, .int 0), (5, .int x36), (4, .int 1), (0, .ref b), (1, .ref (ga G1 18 0)), (2, .ref (ga G2 18 0)), (3, .int y3)]) hx hb dL_law_178 hl (by decide) rfl (fun ls hl => ?_)
      have Z := ((Z.up (n' := n + 3) (by omega)).swap.up (n' := n + 3) (by omega)).swap
      refine W.widen (k := k + 4) (n := 6 * (k + 4)) (by omega) (by omega) ?_
      exact lpL_law_180 rfl hG1 hG2 hN1 hN2 hlt hA1 hA2 hd12 X1 X2 hr hX hbl 31 _ (n + 3) _ _ _ _ _ _ _ _ h (by omega) (by omega) Z (lv_sub hl [3, 4, 5, 6, 2, 1, 0] rfl)
    · have h := it_f h c4
      refine lv_iload hx hb dL_law_34 (lv_at hl 4 rfl) ?_
      obtain ⟨z192, h⟩ := gd_e h
      refine lv_if_eq (tgt := 96) hx hb dL_law_36 (by decide) (fun cn => absurd cn (of_decide_eq_true z192)) (fun c191 => ?_)
      refine lv_iload_n hx hb dL_law_39 rfl (lv_at hl 3 rfl) ?_
      refine lv_iconst (v := 1) hx hb dL_law_40 (by decide) ?_
      refine lv_bipush (v := 9) hx hb dL_law_41 (by decide) ?_
      refine lv_iload hx hb dL_law_43 (lv_at hl 5 rfl) ?_
      refine lv_imul hx hb dL_law_45 ?_
      refine lv_iadd hx hb dL_law_46 ?_
      obtain ⟨z193, h⟩ := gd_e h
      refine lv_idiv hx hb dL_law_47 (of_decide_eq_true z193) ?_
      refine lv_bipush (v := 60) hx hb dL_law_48 (by decide) ?_
      refine lv_irem hx hb dL_law_50 (by decide) ?_
      obtain ⟨x194, e195, h⟩ := lt_e h
      refine u_topi e195 ?_
      refine lv_istore (lv' := [(6, .int x194), (0, .ref b), (1, .ref (ga G1 18 0)), (2, .ref (ga G2 18 0)), (3, .int y3), (4, .int y4), (5, .int y5)]) hx hb dL_law_51 hl (by decide) rfl (fun ls hl => ?_)
      refine lv_aload_n hx hb dL_law_53 rfl (lv_at hl 2 rfl) ?_
      refine lv_bipush (v := 8) hx hb dL_law_54 (by decide) ?_
      refine lv_iload hx hb dL_law_56 (lv_at hl 0 rfl) ?_
      refine lv_iconst (v := 0) hx hb dL_law_58 (by decide) ?_
      refine lv_iconst (v := 0) hx hb dL_law_59 (by decide) ?_
      obtain ⟨x196, M199, e197, h⟩ := bd2_e h
      refine o_cS X1 hA1 (stb_q hd21) Z hl.1 (kG_call hG1 hN1 hlt (by omega) e197) cw_L_194 ⟨Nat.le_of_ble_eq_true rfl, Nat.le_of_ble_eq_true rfl⟩ rfl rfl (Nat.le_of_ble_eq_true rfl) ⟨show k + 1 ≤ 678363 by omega, show 6 * k + 6 ≤ 7066380 by omega⟩ dL_law_60 (fun H locs Z n198 => ?_)
      refine lv_iload hx hb dL_law_63 (lv_at hl 6 rfl) ?_
      obtain ⟨z201, h⟩ := gd_e h
      refine lv_icmp_ne (tgt := 87) hx hb dL_law_65 (by decide) (fun cn => absurd (of_decide_eq_true z201) cn) (fun c200 => ?_)
      refine lv_aload_n hx hb dL_law_68 rfl (lv_at hl 3 rfl) ?_
      refine lv_bipush (v := 8) hx hb dL_law_69 (by decide) ?_
      refine lv_iload hx hb dL_law_71 (lv_at hl 0 rfl) ?_
      refine lv_iconst (v := 0) hx hb dL_law_73 (by decide) ?_
      refine lv_iconst (v := 0) hx hb dL_law_74 (by decide) ?_
      obtain ⟨x202, M205, e203, h⟩ := bd2_e h
      refine o_cS X2 hA2 (stb_q hd12) Z.swap hl.1 (kG_call hG2 hN2 hlt (by omega) e203) cw_L_194 ⟨Nat.le_of_ble_eq_true rfl, Nat.le_of_ble_eq_true rfl⟩ rfl rfl (Nat.le_of_ble_eq_true rfl) ⟨show k + 1 + 1 ≤ 678363 by omega, show 6 * k + 6 + 6 ≤ 7066380 by omega⟩ dL_law_75 (fun H locs Z n204 => ?_)
      have Z := Z.swap
      replace h := gdp_e h
      obtain ⟨m206, h⟩ := h
      subst m206
      refine lv_iload hx hb dL_law_78 (lv_at hl 6 rfl) ?_
      obtain ⟨z208, h⟩ := gd_e h
      refine lv_icmp_ne (tgt := 87) hx hb dL_law_80 (by decide) (fun cn => absurd (of_decide_eq_true z208) cn) (fun c207 => ?_)
      refine lv_iconst (v := 1) hx hb dL_law_83 (by decide) ?_
      refine lv_goto (tgt := 88) hx hb dL_law_84 (by decide) ?_
      refine lv_istore (lv' := [(4, .int 1), (6, .int x194), (0, .ref b), (1, .ref (ga G1 18 0)), (2, .ref (ga G2 18 0)), (3, .int y3), (5, .int y5)]) hx hb dL_law_88 hl (by decide) rfl (fun ls hl => ?_)
      obtain ⟨x209, e210, h⟩ := lt_e h
      refine lv_iinc (v := x209) (lv' := [(5, .int x209), (4, .int 1), (6, .int x194), (0, .ref b), (1, .ref (ga G1 18 0)), (2, .ref (ga G2 18 0)), (3, .int y3)]) hx hb dL_law_90 hl (k := 6) rfl (by rw [e210]; rfl) (by decide) rfl (fun ls hl => ?_)
      refine lv_goto (tgt := 28) hx hb dL_law_93 (by decide) ?_
      have Z := ((Z.up (n' := n + 3) (by omega)).swap.up (n' := n + 3) (by omega)).swap
      refine W.widen (k := k + 2) (n := 6 * (k + 2)) (by omega) (by omega) ?_
      exact ih (k + 2) (n + 3) _ _ _ _ _ _ _ h (by omega) (by omega) Z (lv_sub hl [3, 4, 5, 6, 1, 0] rfl)
noncomputable def fLaw (xs : Nat → Int32) (L : Nat) : Option Int32 :=
  bd (fL_cell xs L 0) fun x1 =>
  fL_law_L28 xs L 4 m0 x1 1 0
set_option maxHeartbeats 8000000 in
set_option maxRecDepth 20000 in
theorem lp_law {l : Launch} {G1 G2 : UG} {p : Program} {e : Env} {s : State} {m : MethodId} {below : List Frame} {meth : Method} {c : Code} {b L : Nat} {xs : Nat → Int32} {A : Nat → Prop} (hAe : A = fun q => s.heap.size ≤ q) (hG1 : uAll G1) (hG2 : uAll G2) (hN1 : uNo G1) (hN2 : uNo G2) (hlt : l.stackTraces = false) (hA1 : ∀ q, uA G1 q → A q) (hA2 : ∀ q, uA G2 q → A q) (hd12 : ∀ q, uA G1 q → uA G2 q → False) (X1 : UC p s m #[.ref b] meth c code 17 RL (gA G1 A)) (X2 : UC p s m #[.ref b] meth c code 17 RL (gA G2 A)) (hr : meth.sig.returnType = ret) (hX : va_X b L xs s s.heap) (hbl : b < s.heap.size) (h : fLaw xs L = some 1) {H : Heap} {locs : List Loc} {ls : Array Slot} (Z : WO A (UQ G2 0 m0) G1 0 m0 s H locs) (hl : lv_has ls 17 [(2, .ref (ga G2 18 0)), (1, .ref (ga G1 18 0)), (0, .ref b)]) : W p l e room_1 s m #[.ref b] below meth c H locs 5000 (6 * 5000) (lw_Z below #[.ref b] s) (F0 m 16 ls []) := by
  subst hAe
  have hx := X1.hx
  have hb := X1.hb
  have hd21 : ∀ q, uA G2 q → uA G1 q → False := fun q a b => hd12 q b a
  unfold fLaw at h
  refine lv_aload_n hx hb dL_law_16 rfl (lv_at hl 2 rfl) ?_
  refine lv_iconst (v := 0) hx hb dL_law_17 (by decide) ?_
  obtain ⟨x1, e2, h⟩ := bd_e h
  refine o_cP X1 Z.2.2 hl.1 (kL_cell e2) blind_c (cell_at hX hbl Z.2.2) cw_L_215 ⟨Nat.le_of_ble_eq_true rfl, Nat.le_of_ble_eq_true rfl⟩ rfl rfl (Nat.le_of_ble_eq_true rfl) ⟨show 5000 ≤ 678363 by omega, show 6 * 5000 ≤ 7066380 by omega⟩ dL_law_18 (fun H locs hS hk9 n3 => ?_)
  have Z := WO.pass (stb_q hd21) Z hS hk9
  refine lv_istore_n (lv' := [(3, .int x1), (2, .ref (ga G2 18 0)), (1, .ref (ga G1 18 0)), (0, .ref b)]) hx hb dL_law_21 rfl hl (by decide) rfl (fun ls hl => ?_)
  refine lv_iconst (v := 1) hx hb dL_law_22 (by decide) ?_
  refine lv_istore (lv' := [(4, .int 1), (3, .int x1), (2, .ref (ga G2 18 0)), (1, .ref (ga G1 18 0)), (0, .ref b)]) hx hb dL_law_23 hl (by decide) rfl (fun ls hl => ?_)
  refine lv_iconst (v := 0) hx hb dL_law_25 (by decide) ?_
  refine lv_istore (lv' := [(5, .int 0), (4, .int 1), (3, .int x1), (2, .ref (ga G2 18 0)), (1, .ref (ga G1 18 0)), (0, .ref b)]) hx hb dL_law_26 hl (by decide) rfl (fun ls hl => ?_)
  have Z := Z
  refine W.widen (k := 5000 + 0) (n := 6 * (5000 + 0)) (by omega) (by omega) ?_
  exact lpL_law_28 rfl hG1 hG2 hN1 hN2 hlt hA1 hA2 hd12 X1 X2 hr hX hbl 4 _ 0 _ _ _ _ _ _ _ h (by omega) (by omega) Z (lv_sub hl [5, 4, 3, 2, 1, 0] rfl)
