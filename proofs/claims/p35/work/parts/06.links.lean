def uSt (G : UG) (t : Nat) : Prop := t < 18 ∧ ∀ o, o < 40 → (t, o) ∈ gk G
def uMn (G : UG) : Prop := ∀ o, o < 7 → (18, o) ∈ gk G
def uEx (G : UG) : Prop := ∀ t o, (t, o) ∈ gk G → t < 18 → o < 40
def uAll (G : UG) : Prop := (∀ t, t < 18 → uSt G t) ∧ uMn G ∧ uEx G
theorem uRw2 {G : UG} {t : Nat} (h : uSt G t) : uRow G t 2 10 := ⟨h.2 2 (by decide), h.2 3 (by decide), fun f => uSh_st h.1 2 f, fun f => uSh_st h.1 3 f, by decide⟩
theorem uRw4 {G : UG} {t : Nat} (h : uSt G t) : uRow G t 4 10 := ⟨h.2 4 (by decide), h.2 5 (by decide), fun f => uSh_st h.1 4 f, fun f => uSh_st h.1 5 f, by decide⟩
theorem uRw6 {G : UG} {t : Nat} (h : uSt G t) : uRow G t 6 10 := ⟨h.2 6 (by decide), h.2 7 (by decide), fun f => uSh_st h.1 6 f, fun f => uSh_st h.1 7 f, by decide⟩
theorem uRw8 {G : UG} {t : Nat} (h : uSt G t) : uRow G t 8 10 := ⟨h.2 8 (by decide), h.2 9 (by decide), fun f => uSh_st h.1 8 f, fun f => uSh_st h.1 9 f, by decide⟩
theorem uRw11 {G : UG} {t : Nat} (h : uSt G t) : uRow G t 11 8 := ⟨h.2 11 (by decide), h.2 12 (by decide), fun f => uSh_st h.1 11 f, fun f => uSh_st h.1 12 f, by decide⟩
theorem uRw13 {G : UG} {t : Nat} (h : uSt G t) : uRow G t 13 8 := ⟨h.2 13 (by decide), h.2 14 (by decide), fun f => uSh_st h.1 13 f, fun f => uSh_st h.1 14 f, by decide⟩
theorem uRw15 {G : UG} {t : Nat} (h : uSt G t) : uRow G t 15 8 := ⟨h.2 15 (by decide), h.2 16 (by decide), fun f => uSh_st h.1 15 f, fun f => uSh_st h.1 16 f, by decide⟩
theorem uRw17 {G : UG} {t : Nat} (h : uSt G t) : uRow G t 17 8 := ⟨h.2 17 (by decide), h.2 18 (by decide), fun f => uSh_st h.1 17 f, fun f => uSh_st h.1 18 f, by decide⟩
theorem uRw19 {G : UG} {t : Nat} (h : uSt G t) : uRow G t 19 256 := ⟨h.2 19 (by decide), h.2 20 (by decide), fun f => uSh_st h.1 19 f, fun f => uSh_st h.1 20 f, by decide⟩
theorem uRw22 {G : UG} {t : Nat} (h : uSt G t) : uRow G t 22 4 := ⟨h.2 22 (by decide), h.2 23 (by decide), fun f => uSh_st h.1 22 f, fun f => uSh_st h.1 23 f, by decide⟩
theorem uRw24 {G : UG} {t : Nat} (h : uSt G t) : uRow G t 24 4 := ⟨h.2 24 (by decide), h.2 25 (by decide), fun f => uSh_st h.1 24 f, fun f => uSh_st h.1 25 f, by decide⟩
theorem uRw26 {G : UG} {t : Nat} (h : uSt G t) : uRow G t 26 4 := ⟨h.2 26 (by decide), h.2 27 (by decide), fun f => uSh_st h.1 26 f, fun f => uSh_st h.1 27 f, by decide⟩
theorem uRw28 {G : UG} {t : Nat} (h : uSt G t) : uRow G t 28 4 := ⟨h.2 28 (by decide), h.2 29 (by decide), fun f => uSh_st h.1 28 f, fun f => uSh_st h.1 29 f, by decide⟩
theorem uRw30 {G : UG} {t : Nat} (h : uSt G t) : uRow G t 30 4 := ⟨h.2 30 (by decide), h.2 31 (by decide), fun f => uSh_st h.1 30 f, fun f => uSh_st h.1 31 f, by decide⟩
theorem uRw32 {G : UG} {t : Nat} (h : uSt G t) : uRow G t 32 48 := ⟨h.2 32 (by decide), h.2 33 (by decide), fun f => uSh_st h.1 32 f, fun f => uSh_st h.1 33 f, by decide⟩
theorem uRw34 {G : UG} {t : Nat} (h : uSt G t) : uRow G t 34 48 := ⟨h.2 34 (by decide), h.2 35 (by decide), fun f => uSh_st h.1 34 f, fun f => uSh_st h.1 35 f, by decide⟩
theorem uRw36 {G : UG} {t : Nat} (h : uSt G t) : uRow G t 36 48 := ⟨h.2 36 (by decide), h.2 37 (by decide), fun f => uSh_st h.1 36 f, fun f => uSh_st h.1 37 f, by decide⟩
theorem uRw38 {G : UG} {t : Nat} (h : uSt G t) : uRow G t 38 4 := ⟨h.2 38 (by decide), h.2 39 (by decide), fun f => uSh_st h.1 38 f, fun f => uSh_st h.1 39 f, by decide⟩
theorem uRwN {G : UG} (h : uMn G) : uRow G 18 2 120 := ⟨h 2 (by decide), h 3 (by decide), fun f => uSh_mn 2 f, fun f => uSh_mn 3 f, by decide⟩
section LINKS
variable {p : Program} {l : Launch} {e : Env} {R : Room} {s : State} {m : MethodId} {args : Array Value} {below : List Frame} {meth : Method} {c : Code} {H : Heap} {locs : List Loc} {cells slots : Nat} {Q : State → Prop}
variable {cc : ByteArray} {pc nL : Nat} {ls : Array Slot} {rest : List Value} {G : UG} {V : uV} {t : Nat} {S : Nat → Nat → Int32}
theorem iw_X0 : ∀ w ∈ u_ws RX0 TX0 5, w ∈ gtbl := by decide +kernel
theorem gf_X0_14 (X : UC p s m args meth c cc nL RX0 G) (M : UM G V s H locs) (hS : uSt G t) (hdg : decode cc pc = .ok (.getfield 14, 3))
    (kk : W p l e R s m args below meth c H locs cells slots Q (F0 m (pc + 3) ls (.ref (ga G t 2) :: rest))) : W p l e R s m args below meth c H locs cells slots Q (F0 m pc ls (.ref (ga G t 1) :: rest)) :=
  u_get X M (hS.2 1 (by decide)) (uSh_st hS.1 1 _) (C := RX0) (T := TX0) (N := 5) rfl iw_X0 1 (by decide) rfl (gt_in 66 (by decide +kernel) (by decide +kernel)) (v := .ref (ga G t 2)) rfl hdg kk
theorem gf_X0_18 (X : UC p s m args meth c cc nL RX0 G) (M : UM G V s H locs) (hS : uSt G t) (hdg : decode cc pc = .ok (.getfield 18, 3))
    (kk : W p l e R s m args below meth c H locs cells slots Q (F0 m (pc + 3) ls (.ref (ga G t 4) :: rest))) : W p l e R s m args below meth c H locs cells slots Q (F0 m pc ls (.ref (ga G t 1) :: rest)) :=
  u_get X M (hS.2 1 (by decide)) (uSh_st hS.1 1 _) (C := RX0) (T := TX0) (N := 5) rfl iw_X0 2 (by decide) rfl (gt_in 68 (by decide +kernel) (by decide +kernel)) (v := .ref (ga G t 4)) rfl hdg kk
theorem gf_X0_21 (X : UC p s m args meth c cc nL RX0 G) (M : UM G V s H locs) (hS : uSt G t) (hdg : decode cc pc = .ok (.getfield 21, 3))
    (kk : W p l e R s m args below meth c H locs cells slots Q (F0 m (pc + 3) ls (.ref (ga G t 6) :: rest))) : W p l e R s m args below meth c H locs cells slots Q (F0 m pc ls (.ref (ga G t 1) :: rest)) :=
  u_get X M (hS.2 1 (by decide)) (uSh_st hS.1 1 _) (C := RX0) (T := TX0) (N := 5) rfl iw_X0 3 (by decide) rfl (gt_in 71 (by decide +kernel) (by decide +kernel)) (v := .ref (ga G t 6)) rfl hdg kk
theorem gf_X0_24 (X : UC p s m args meth c cc nL RX0 G) (M : UM G V s H locs) (hS : uSt G t) (hdg : decode cc pc = .ok (.getfield 24, 3))
    (kk : W p l e R s m args below meth c H locs cells slots Q (F0 m (pc + 3) ls (.ref (ga G t 8) :: rest))) : W p l e R s m args below meth c H locs cells slots Q (F0 m pc ls (.ref (ga G t 1) :: rest)) :=
  u_get X M (hS.2 1 (by decide)) (uSh_st hS.1 1 _) (C := RX0) (T := TX0) (N := 5) rfl iw_X0 4 (by decide) rfl (gt_in 73 (by decide +kernel) (by decide +kernel)) (v := .ref (ga G t 8)) rfl hdg kk
theorem gf_X0_27 (X : UC p s m args meth c cc nL RX0 G) (M : UM G V s H locs) (hS : uSt G t) (hV : V t = S) {x : Int32} (ex : x = S 1 0) (hdg : decode cc pc = .ok (.getfield 27, 3))
    (kk : W p l e R s m args below meth c H locs cells slots Q (F0 m (pc + 3) ls (.int x :: rest))) : W p l e R s m args below meth c H locs cells slots Q (F0 m pc ls (.ref (ga G t 1) :: rest)) :=
  u_get X M (hS.2 1 (by decide)) (uSh_st hS.1 1 _) (C := RX0) (T := TX0) (N := 5) rfl iw_X0 0 (by decide) rfl (gt_in 64 (by decide +kernel) (by decide +kernel)) (v := .int x) (by rw [ex, ← hV]; rfl) hdg kk
theorem iw_X2 : ∀ w ∈ u_ws RX2 TX2 2, w ∈ gtbl := by decide +kernel
theorem gf_X2_14 (X : UC p s m args meth c cc nL RX2 G) (M : UM G V s H locs) (hN : uMn G) (hdg : decode cc pc = .ok (.getfield 14, 3))
    (kk : W p l e R s m args below meth c H locs cells slots Q (F0 m (pc + 3) ls (.ref (ga G 18 2) :: rest))) : W p l e R s m args below meth c H locs cells slots Q (F0 m pc ls (.ref (ga G 18 1) :: rest)) :=
  u_get X M (hN 1 (by decide)) (uSh_mn 1 _) (C := RX2) (T := TX2) (N := 2) rfl iw_X2 0 (by decide) rfl (gt_in 234 (by decide +kernel) (by decide +kernel)) (v := .ref (ga G 18 2)) rfl hdg kk
theorem gf_X2_20 (X : UC p s m args meth c cc nL RX2 G) (M : UM G V s H locs) (hN : uMn G) (hV : V 18 = S) {x : Int32} (ex : x = S 1 1) (hdg : decode cc pc = .ok (.getfield 20, 3))
    (kk : W p l e R s m args below meth c H locs cells slots Q (F0 m (pc + 3) ls (.int x :: rest))) : W p l e R s m args below meth c H locs cells slots Q (F0 m pc ls (.ref (ga G 18 1) :: rest)) :=
  u_get X M (hN 1 (by decide)) (uSh_mn 1 _) (C := RX2) (T := TX2) (N := 2) rfl iw_X2 1 (by decide) rfl (gt_in 235 (by decide +kernel) (by decide +kernel)) (v := .int x) (by rw [ex, ← hV]; rfl) hdg kk
theorem iw_X3 : ∀ w ∈ u_ws RX3 TX3 8, w ∈ gtbl := by decide +kernel
theorem gf_X3_14 (X : UC p s m args meth c cc nL RX3 G) (M : UM G V s H locs) (hS : uSt G t) (hdg : decode cc pc = .ok (.getfield 14, 3))
    (kk : W p l e R s m args below meth c H locs cells slots Q (F0 m (pc + 3) ls (.ref (ga G t 22) :: rest))) : W p l e R s m args below meth c H locs cells slots Q (F0 m pc ls (.ref (ga G t 21) :: rest)) :=
  u_get X M (hS.2 21 (by decide)) (uSh_st hS.1 21 _) (C := RX3) (T := TX3) (N := 8) rfl iw_X3 0 (by decide) rfl (gt_in 128 (by decide +kernel) (by decide +kernel)) (v := .ref (ga G t 22)) rfl hdg kk
theorem gf_X3_18 (X : UC p s m args meth c cc nL RX3 G) (M : UM G V s H locs) (hS : uSt G t) (hdg : decode cc pc = .ok (.getfield 18, 3))
    (kk : W p l e R s m args below meth c H locs cells slots Q (F0 m (pc + 3) ls (.ref (ga G t 24) :: rest))) : W p l e R s m args below meth c H locs cells slots Q (F0 m pc ls (.ref (ga G t 21) :: rest)) :=
  u_get X M (hS.2 21 (by decide)) (uSh_st hS.1 21 _) (C := RX3) (T := TX3) (N := 8) rfl iw_X3 1 (by decide) rfl (gt_in 131 (by decide +kernel) (by decide +kernel)) (v := .ref (ga G t 24)) rfl hdg kk
theorem gf_X3_21 (X : UC p s m args meth c cc nL RX3 G) (M : UM G V s H locs) (hS : uSt G t) (hdg : decode cc pc = .ok (.getfield 21, 3))
    (kk : W p l e R s m args below meth c H locs cells slots Q (F0 m (pc + 3) ls (.ref (ga G t 26) :: rest))) : W p l e R s m args below meth c H locs cells slots Q (F0 m pc ls (.ref (ga G t 21) :: rest)) :=
  u_get X M (hS.2 21 (by decide)) (uSh_st hS.1 21 _) (C := RX3) (T := TX3) (N := 8) rfl iw_X3 2 (by decide) rfl (gt_in 133 (by decide +kernel) (by decide +kernel)) (v := .ref (ga G t 26)) rfl hdg kk
theorem gf_X3_24 (X : UC p s m args meth c cc nL RX3 G) (M : UM G V s H locs) (hS : uSt G t) (hdg : decode cc pc = .ok (.getfield 24, 3))
    (kk : W p l e R s m args below meth c H locs cells slots Q (F0 m (pc + 3) ls (.ref (ga G t 28) :: rest))) : W p l e R s m args below meth c H locs cells slots Q (F0 m pc ls (.ref (ga G t 21) :: rest)) :=
  u_get X M (hS.2 21 (by decide)) (uSh_st hS.1 21 _) (C := RX3) (T := TX3) (N := 8) rfl iw_X3 3 (by decide) rfl (gt_in 134 (by decide +kernel) (by decide +kernel)) (v := .ref (ga G t 28)) rfl hdg kk
theorem gf_X3_27 (X : UC p s m args meth c cc nL RX3 G) (M : UM G V s H locs) (hS : uSt G t) (hdg : decode cc pc = .ok (.getfield 27, 3))
    (kk : W p l e R s m args below meth c H locs cells slots Q (F0 m (pc + 3) ls (.ref (ga G t 30) :: rest))) : W p l e R s m args below meth c H locs cells slots Q (F0 m pc ls (.ref (ga G t 21) :: rest)) :=
  u_get X M (hS.2 21 (by decide)) (uSh_st hS.1 21 _) (C := RX3) (T := TX3) (N := 8) rfl iw_X3 4 (by decide) rfl (gt_in 135 (by decide +kernel) (by decide +kernel)) (v := .ref (ga G t 30)) rfl hdg kk
theorem gf_X3_30 (X : UC p s m args meth c cc nL RX3 G) (M : UM G V s H locs) (hS : uSt G t) (hdg : decode cc pc = .ok (.getfield 30, 3))
    (kk : W p l e R s m args below meth c H locs cells slots Q (F0 m (pc + 3) ls (.ref (ga G t 32) :: rest))) : W p l e R s m args below meth c H locs cells slots Q (F0 m pc ls (.ref (ga G t 21) :: rest)) :=
  u_get X M (hS.2 21 (by decide)) (uSh_st hS.1 21 _) (C := RX3) (T := TX3) (N := 8) rfl iw_X3 5 (by decide) rfl (gt_in 136 (by decide +kernel) (by decide +kernel)) (v := .ref (ga G t 32)) rfl hdg kk
theorem gf_X3_33 (X : UC p s m args meth c cc nL RX3 G) (M : UM G V s H locs) (hS : uSt G t) (hdg : decode cc pc = .ok (.getfield 33, 3))
    (kk : W p l e R s m args below meth c H locs cells slots Q (F0 m (pc + 3) ls (.ref (ga G t 34) :: rest))) : W p l e R s m args below meth c H locs cells slots Q (F0 m pc ls (.ref (ga G t 21) :: rest)) :=
  u_get X M (hS.2 21 (by decide)) (uSh_st hS.1 21 _) (C := RX3) (T := TX3) (N := 8) rfl iw_X3 6 (by decide) rfl (gt_in 137 (by decide +kernel) (by decide +kernel)) (v := .ref (ga G t 34)) rfl hdg kk
theorem gf_X3_36 (X : UC p s m args meth c cc nL RX3 G) (M : UM G V s H locs) (hS : uSt G t) (hdg : decode cc pc = .ok (.getfield 36, 3))
    (kk : W p l e R s m args below meth c H locs cells slots Q (F0 m (pc + 3) ls (.ref (ga G t 36) :: rest))) : W p l e R s m args below meth c H locs cells slots Q (F0 m pc ls (.ref (ga G t 21) :: rest)) :=
  u_get X M (hS.2 21 (by decide)) (uSh_st hS.1 21 _) (C := RX3) (T := TX3) (N := 8) rfl iw_X3 7 (by decide) rfl (gt_in 138 (by decide +kernel) (by decide +kernel)) (v := .ref (ga G t 36)) rfl hdg kk
theorem iw_X4 : ∀ w ∈ u_ws RX4 TX4 3, w ∈ gtbl := by decide +kernel
theorem gf_X4_11 (X : UC p s m args meth c cc nL RX4 G) (M : UM G V s H locs) (hN : uMn G) (hdg : decode cc pc = .ok (.getfield 11, 3))
    (kk : W p l e R s m args below meth c H locs cells slots Q (F0 m (pc + 3) ls (.ref (ga G 18 5) :: rest))) : W p l e R s m args below meth c H locs cells slots Q (F0 m pc ls (.ref (ga G 18 4) :: rest)) :=
  u_get X M (hN 4 (by decide)) (uSh_mn 4 _) (C := RX4) (T := TX4) (N := 3) rfl iw_X4 0 (by decide) rfl (gt_in 250 (by decide +kernel) (by decide +kernel)) (v := .ref (ga G 18 5)) rfl hdg kk
theorem gf_X4_16 (X : UC p s m args meth c cc nL RX4 G) (M : UM G V s H locs) (hN : uMn G) (hV : V 18 = S) {x : Int32} (ex : x = S 4 2) (hdg : decode cc pc = .ok (.getfield 16, 3))
    (kk : W p l e R s m args below meth c H locs cells slots Q (F0 m (pc + 3) ls (.int x :: rest))) : W p l e R s m args below meth c H locs cells slots Q (F0 m pc ls (.ref (ga G 18 4) :: rest)) :=
  u_get X M (hN 4 (by decide)) (uSh_mn 4 _) (C := RX4) (T := TX4) (N := 3) rfl iw_X4 2 (by decide) rfl (gt_in 252 (by decide +kernel) (by decide +kernel)) (v := .int x) (by rw [ex, ← hV]; rfl) hdg kk
theorem gf_X4_20 (X : UC p s m args meth c cc nL RX4 G) (M : UM G V s H locs) (hN : uMn G) (hV : V 18 = S) {x : Int32} (ex : x = S 4 1) (hdg : decode cc pc = .ok (.getfield 20, 3))
    (kk : W p l e R s m args below meth c H locs cells slots Q (F0 m (pc + 3) ls (.int x :: rest))) : W p l e R s m args below meth c H locs cells slots Q (F0 m pc ls (.ref (ga G 18 4) :: rest)) :=
  u_get X M (hN 4 (by decide)) (uSh_mn 4 _) (C := RX4) (T := TX4) (N := 3) rfl iw_X4 1 (by decide) rfl (gt_in 251 (by decide +kernel) (by decide +kernel)) (v := .int x) (by rw [ex, ← hV]; rfl) hdg kk
theorem iw_X5 : ∀ w ∈ u_ws RX5 TX5 6, w ∈ gtbl := by decide +kernel
theorem gf_X5_16 (X : UC p s m args meth c cc nL RX5 G) (M : UM G V s H locs) (hS : uSt G t) (hdg : decode cc pc = .ok (.getfield 16, 3))
    (kk : W p l e R s m args below meth c H locs cells slots Q (F0 m (pc + 3) ls (.ref (ga G t 11) :: rest))) : W p l e R s m args below meth c H locs cells slots Q (F0 m pc ls (.ref (ga G t 10) :: rest)) :=
  u_get X M (hS.2 10 (by decide)) (uSh_st hS.1 10 _) (C := RX5) (T := TX5) (N := 6) rfl iw_X5 1 (by decide) rfl (gt_in 97 (by decide +kernel) (by decide +kernel)) (v := .ref (ga G t 11)) rfl hdg kk
theorem gf_X5_20 (X : UC p s m args meth c cc nL RX5 G) (M : UM G V s H locs) (hS : uSt G t) (hdg : decode cc pc = .ok (.getfield 20, 3))
    (kk : W p l e R s m args below meth c H locs cells slots Q (F0 m (pc + 3) ls (.ref (ga G t 13) :: rest))) : W p l e R s m args below meth c H locs cells slots Q (F0 m pc ls (.ref (ga G t 10) :: rest)) :=
  u_get X M (hS.2 10 (by decide)) (uSh_st hS.1 10 _) (C := RX5) (T := TX5) (N := 6) rfl iw_X5 2 (by decide) rfl (gt_in 100 (by decide +kernel) (by decide +kernel)) (v := .ref (ga G t 13)) rfl hdg kk
theorem gf_X5_23 (X : UC p s m args meth c cc nL RX5 G) (M : UM G V s H locs) (hS : uSt G t) (hdg : decode cc pc = .ok (.getfield 23, 3))
    (kk : W p l e R s m args below meth c H locs cells slots Q (F0 m (pc + 3) ls (.ref (ga G t 15) :: rest))) : W p l e R s m args below meth c H locs cells slots Q (F0 m pc ls (.ref (ga G t 10) :: rest)) :=
  u_get X M (hS.2 10 (by decide)) (uSh_st hS.1 10 _) (C := RX5) (T := TX5) (N := 6) rfl iw_X5 3 (by decide) rfl (gt_in 102 (by decide +kernel) (by decide +kernel)) (v := .ref (ga G t 15)) rfl hdg kk
theorem gf_X5_26 (X : UC p s m args meth c cc nL RX5 G) (M : UM G V s H locs) (hS : uSt G t) (hdg : decode cc pc = .ok (.getfield 26, 3))
    (kk : W p l e R s m args below meth c H locs cells slots Q (F0 m (pc + 3) ls (.ref (ga G t 17) :: rest))) : W p l e R s m args below meth c H locs cells slots Q (F0 m pc ls (.ref (ga G t 10) :: rest)) :=
  u_get X M (hS.2 10 (by decide)) (uSh_st hS.1 10 _) (C := RX5) (T := TX5) (N := 6) rfl iw_X5 4 (by decide) rfl (gt_in 104 (by decide +kernel) (by decide +kernel)) (v := .ref (ga G t 17)) rfl hdg kk
theorem gf_X5_29 (X : UC p s m args meth c cc nL RX5 G) (M : UM G V s H locs) (hS : uSt G t) (hdg : decode cc pc = .ok (.getfield 29, 3))
    (kk : W p l e R s m args below meth c H locs cells slots Q (F0 m (pc + 3) ls (.ref (ga G t 19) :: rest))) : W p l e R s m args below meth c H locs cells slots Q (F0 m pc ls (.ref (ga G t 10) :: rest)) :=
  u_get X M (hS.2 10 (by decide)) (uSh_st hS.1 10 _) (C := RX5) (T := TX5) (N := 6) rfl iw_X5 5 (by decide) rfl (gt_in 106 (by decide +kernel) (by decide +kernel)) (v := .ref (ga G t 19)) rfl hdg kk
theorem gf_X5_32 (X : UC p s m args meth c cc nL RX5 G) (M : UM G V s H locs) (hS : uSt G t) (hV : V t = S) {x : Int32} (ex : x = S 10 0) (hdg : decode cc pc = .ok (.getfield 32, 3))
    (kk : W p l e R s m args below meth c H locs cells slots Q (F0 m (pc + 3) ls (.int x :: rest))) : W p l e R s m args below meth c H locs cells slots Q (F0 m pc ls (.ref (ga G t 10) :: rest)) :=
  u_get X M (hS.2 10 (by decide)) (uSh_st hS.1 10 _) (C := RX5) (T := TX5) (N := 6) rfl iw_X5 0 (by decide) rfl (gt_in 94 (by decide +kernel) (by decide +kernel)) (v := .int x) (by rw [ex, ← hV]; rfl) hdg kk
theorem iw_X10 : ∀ w ∈ u_ws RX10 TX10 10, w ∈ gtbl := by decide +kernel
theorem gf_X7_37 (X : UC p s m args meth c cc nL RX7 G) (M : UM G V s H locs) (hS : uSt G t) (hdg : decode cc pc = .ok (.getfield 37, 3))
    (kk : W p l e R s m args below meth c H locs cells slots Q (F0 m (pc + 3) ls (.ref (ga G t 10) :: rest))) : W p l e R s m args below meth c H locs cells slots Q (F0 m pc ls (.ref (ga G t 0) :: rest)) :=
  u_get X M (hS.2 0 (by decide)) (uSh_st hS.1 0 _) (C := RX10) (T := TX10) (N := 10) rfl iw_X10 1 (by decide) rfl (gt_in 187 (by decide +kernel) (by decide +kernel)) (v := .ref (ga G t 10)) rfl hdg kk
theorem gf_X7_49 (X : UC p s m args meth c cc nL RX7 G) (M : UM G V s H locs) (hS : uSt G t) (hdg : decode cc pc = .ok (.getfield 49, 3))
    (kk : W p l e R s m args below meth c H locs cells slots Q (F0 m (pc + 3) ls (.ref (ga G t 21) :: rest))) : W p l e R s m args below meth c H locs cells slots Q (F0 m pc ls (.ref (ga G t 0) :: rest)) :=
  u_get X M (hS.2 0 (by decide)) (uSh_st hS.1 0 _) (C := RX10) (T := TX10) (N := 10) rfl iw_X10 2 (by decide) rfl (gt_in 190 (by decide +kernel) (by decide +kernel)) (v := .ref (ga G t 21)) rfl hdg kk
theorem gf_X7_60 (X : UC p s m args meth c cc nL RX7 G) (M : UM G V s H locs) (hS : uSt G t) (hdg : decode cc pc = .ok (.getfield 60, 3))
    (kk : W p l e R s m args below meth c H locs cells slots Q (F0 m (pc + 3) ls (.ref (ga G t 1) :: rest))) : W p l e R s m args below meth c H locs cells slots Q (F0 m pc ls (.ref (ga G t 0) :: rest)) :=
  u_get X M (hS.2 0 (by decide)) (uSh_st hS.1 0 _) (C := RX10) (T := TX10) (N := 10) rfl iw_X10 0 (by decide) rfl (gt_in 184 (by decide +kernel) (by decide +kernel)) (v := .ref (ga G t 1)) rfl hdg kk
theorem gf_X7_67 (X : UC p s m args meth c cc nL RX7 G) (M : UM G V s H locs) (hS : uSt G t) (hdg : decode cc pc = .ok (.getfield 67, 3))
    (kk : W p l e R s m args below meth c H locs cells slots Q (F0 m (pc + 3) ls (.ref (ga G t 4) :: rest))) : W p l e R s m args below meth c H locs cells slots Q (F0 m pc ls (.ref (ga G t 1) :: rest)) :=
  u_get X M (hS.2 1 (by decide)) (uSh_st hS.1 1 _) (C := RX0) (T := TX0) (N := 5) rfl iw_X0 2 (by decide) rfl (gt_in 69 (by decide +kernel) (by decide +kernel)) (v := .ref (ga G t 4)) rfl hdg kk
theorem gf_X7_76 (X : UC p s m args meth c cc nL RX7 G) (M : UM G V s H locs) (hS : uSt G t) (hV : V t = S) {x : Int32} (ex : x = S 0 7) (hdg : decode cc pc = .ok (.getfield 76, 3))
    (kk : W p l e R s m args below meth c H locs cells slots Q (F0 m (pc + 3) ls (.int x :: rest))) : W p l e R s m args below meth c H locs cells slots Q (F0 m pc ls (.ref (ga G t 0) :: rest)) :=
  u_get X M (hS.2 0 (by decide)) (uSh_st hS.1 0 _) (C := RX10) (T := TX10) (N := 10) rfl iw_X10 7 (by decide) rfl (gt_in 201 (by decide +kernel) (by decide +kernel)) (v := .int x) (by rw [ex, ← hV]; rfl) hdg kk
theorem iw_X9 : ∀ w ∈ u_ws RX9 TX9 4, w ∈ gtbl := by decide +kernel
theorem gf_X9_10 (X : UC p s m args meth c cc nL RX9 G) (M : UM G V s H locs) (hN : uMn G) (hdg : decode cc pc = .ok (.getfield 10, 3))
    (kk : W p l e R s m args below meth c H locs cells slots Q (F0 m (pc + 3) ls (.ref (ga G 16 0) :: rest))) : W p l e R s m args below meth c H locs cells slots Q (F0 m pc ls (.ref (ga G 18 6) :: rest)) :=
  u_get X M (hN 6 (by decide)) (uSh_mn 6 _) (C := RX9) (T := TX9) (N := 4) rfl iw_X9 0 (by decide) rfl (gt_in 268 (by decide +kernel) (by decide +kernel)) (v := .ref (ga G 16 0)) rfl hdg kk
theorem gf_X9_16 (X : UC p s m args meth c cc nL RX9 G) (M : UM G V s H locs) (hN : uMn G) (hdg : decode cc pc = .ok (.getfield 16, 3))
    (kk : W p l e R s m args below meth c H locs cells slots Q (F0 m (pc + 3) ls (.ref (ga G 17 0) :: rest))) : W p l e R s m args below meth c H locs cells slots Q (F0 m pc ls (.ref (ga G 18 6) :: rest)) :=
  u_get X M (hN 6 (by decide)) (uSh_mn 6 _) (C := RX9) (T := TX9) (N := 4) rfl iw_X9 1 (by decide) rfl (gt_in 269 (by decide +kernel) (by decide +kernel)) (v := .ref (ga G 17 0)) rfl hdg kk
theorem gf_X9_19 (X : UC p s m args meth c cc nL RX9 G) (M : UM G V s H locs) (hN : uMn G) (hV : V 18 = S) {x : Int32} (ex : x = S 6 2) (hdg : decode cc pc = .ok (.getfield 19, 3))
    (kk : W p l e R s m args below meth c H locs cells slots Q (F0 m (pc + 3) ls (.int x :: rest))) : W p l e R s m args below meth c H locs cells slots Q (F0 m pc ls (.ref (ga G 18 6) :: rest)) :=
  u_get X M (hN 6 (by decide)) (uSh_mn 6 _) (C := RX9) (T := TX9) (N := 4) rfl iw_X9 2 (by decide) rfl (gt_in 270 (by decide +kernel) (by decide +kernel)) (v := .int x) (by rw [ex, ← hV]; rfl) hdg kk
theorem gf_X9_23 (X : UC p s m args meth c cc nL RX9 G) (M : UM G V s H locs) (hN : uMn G) (hV : V 18 = S) {x : Int32} (ex : x = S 6 3) (hdg : decode cc pc = .ok (.getfield 23, 3))
    (kk : W p l e R s m args below meth c H locs cells slots Q (F0 m (pc + 3) ls (.int x :: rest))) : W p l e R s m args below meth c H locs cells slots Q (F0 m pc ls (.ref (ga G 18 6) :: rest)) :=
  u_get X M (hN 6 (by decide)) (uSh_mn 6 _) (C := RX9) (T := TX9) (N := 4) rfl iw_X9 3 (by decide) rfl (gt_in 271 (by decide +kernel) (by decide +kernel)) (v := .int x) (by rw [ex, ← hV]; rfl) hdg kk
theorem gf_X10_12 (X : UC p s m args meth c cc nL RX10 G) (M : UM G V s H locs) (hS : uSt G t) (hdg : decode cc pc = .ok (.getfield 12, 3))
    (kk : W p l e R s m args below meth c H locs cells slots Q (F0 m (pc + 3) ls (.ref (ga G t 1) :: rest))) : W p l e R s m args below meth c H locs cells slots Q (F0 m pc ls (.ref (ga G t 0) :: rest)) :=
  u_get X M (hS.2 0 (by decide)) (uSh_st hS.1 0 _) (C := RX10) (T := TX10) (N := 10) rfl iw_X10 0 (by decide) rfl (gt_in 183 (by decide +kernel) (by decide +kernel)) (v := .ref (ga G t 1)) rfl hdg kk
theorem gf_X10_21 (X : UC p s m args meth c cc nL RX10 G) (M : UM G V s H locs) (hS : uSt G t) (hdg : decode cc pc = .ok (.getfield 21, 3))
    (kk : W p l e R s m args below meth c H locs cells slots Q (F0 m (pc + 3) ls (.ref (ga G t 10) :: rest))) : W p l e R s m args below meth c H locs cells slots Q (F0 m pc ls (.ref (ga G t 0) :: rest)) :=
  u_get X M (hS.2 0 (by decide)) (uSh_st hS.1 0 _) (C := RX10) (T := TX10) (N := 10) rfl iw_X10 1 (by decide) rfl (gt_in 186 (by decide +kernel) (by decide +kernel)) (v := .ref (ga G t 10)) rfl hdg kk
theorem gf_X10_28 (X : UC p s m args meth c cc nL RX10 G) (M : UM G V s H locs) (hS : uSt G t) (hdg : decode cc pc = .ok (.getfield 28, 3))
    (kk : W p l e R s m args below meth c H locs cells slots Q (F0 m (pc + 3) ls (.ref (ga G t 21) :: rest))) : W p l e R s m args below meth c H locs cells slots Q (F0 m pc ls (.ref (ga G t 0) :: rest)) :=
  u_get X M (hS.2 0 (by decide)) (uSh_st hS.1 0 _) (C := RX10) (T := TX10) (N := 10) rfl iw_X10 2 (by decide) rfl (gt_in 189 (by decide +kernel) (by decide +kernel)) (v := .ref (ga G t 21)) rfl hdg kk
theorem gf_X10_37 (X : UC p s m args meth c cc nL RX10 G) (M : UM G V s H locs) (hS : uSt G t) (hdg : decode cc pc = .ok (.getfield 37, 3))
    (kk : W p l e R s m args below meth c H locs cells slots Q (F0 m (pc + 3) ls (.ref (ga G t 38) :: rest))) : W p l e R s m args below meth c H locs cells slots Q (F0 m pc ls (.ref (ga G t 0) :: rest)) :=
  u_get X M (hS.2 0 (by decide)) (uSh_st hS.1 0 _) (C := RX10) (T := TX10) (N := 10) rfl iw_X10 3 (by decide) rfl (gt_in 192 (by decide +kernel) (by decide +kernel)) (v := .ref (ga G t 38)) rfl hdg kk
theorem gf_X10_51 (X : UC p s m args meth c cc nL RX10 G) (M : UM G V s H locs) (hS : uSt G t) (hV : V t = S) {x : Int32} (ex : x = S 0 4) (hdg : decode cc pc = .ok (.getfield 51, 3))
    (kk : W p l e R s m args below meth c H locs cells slots Q (F0 m (pc + 3) ls (.int x :: rest))) : W p l e R s m args below meth c H locs cells slots Q (F0 m pc ls (.ref (ga G t 0) :: rest)) :=
  u_get X M (hS.2 0 (by decide)) (uSh_st hS.1 0 _) (C := RX10) (T := TX10) (N := 10) rfl iw_X10 4 (by decide) rfl (gt_in 194 (by decide +kernel) (by decide +kernel)) (v := .int x) (by rw [ex, ← hV]; rfl) hdg kk
theorem gf_X10_55 (X : UC p s m args meth c cc nL RX10 G) (M : UM G V s H locs) (hS : uSt G t) (hV : V t = S) {x : Int32} (ex : x = S 0 5) (hdg : decode cc pc = .ok (.getfield 55, 3))
    (kk : W p l e R s m args below meth c H locs cells slots Q (F0 m (pc + 3) ls (.int x :: rest))) : W p l e R s m args below meth c H locs cells slots Q (F0 m pc ls (.ref (ga G t 0) :: rest)) :=
  u_get X M (hS.2 0 (by decide)) (uSh_st hS.1 0 _) (C := RX10) (T := TX10) (N := 10) rfl iw_X10 5 (by decide) rfl (gt_in 196 (by decide +kernel) (by decide +kernel)) (v := .int x) (by rw [ex, ← hV]; rfl) hdg kk
theorem gf_X10_58 (X : UC p s m args meth c cc nL RX10 G) (M : UM G V s H locs) (hS : uSt G t) (hV : V t = S) {x : Int32} (ex : x = S 0 6) (hdg : decode cc pc = .ok (.getfield 58, 3))
    (kk : W p l e R s m args below meth c H locs cells slots Q (F0 m (pc + 3) ls (.int x :: rest))) : W p l e R s m args below meth c H locs cells slots Q (F0 m pc ls (.ref (ga G t 0) :: rest)) :=
  u_get X M (hS.2 0 (by decide)) (uSh_st hS.1 0 _) (C := RX10) (T := TX10) (N := 10) rfl iw_X10 6 (by decide) rfl (gt_in 198 (by decide +kernel) (by decide +kernel)) (v := .int x) (by rw [ex, ← hV]; rfl) hdg kk
theorem gf_X10_61 (X : UC p s m args meth c cc nL RX10 G) (M : UM G V s H locs) (hS : uSt G t) (hV : V t = S) {x : Int32} (ex : x = S 0 7) (hdg : decode cc pc = .ok (.getfield 61, 3))
    (kk : W p l e R s m args below meth c H locs cells slots Q (F0 m (pc + 3) ls (.int x :: rest))) : W p l e R s m args below meth c H locs cells slots Q (F0 m pc ls (.ref (ga G t 0) :: rest)) :=
  u_get X M (hS.2 0 (by decide)) (uSh_st hS.1 0 _) (C := RX10) (T := TX10) (N := 10) rfl iw_X10 7 (by decide) rfl (gt_in 200 (by decide +kernel) (by decide +kernel)) (v := .int x) (by rw [ex, ← hV]; rfl) hdg kk
theorem gf_X10_64 (X : UC p s m args meth c cc nL RX10 G) (M : UM G V s H locs) (hS : uSt G t) (hV : V t = S) {x : Int32} (ex : x = S 0 8) (hdg : decode cc pc = .ok (.getfield 64, 3))
    (kk : W p l e R s m args below meth c H locs cells slots Q (F0 m (pc + 3) ls (.int x :: rest))) : W p l e R s m args below meth c H locs cells slots Q (F0 m pc ls (.ref (ga G t 0) :: rest)) :=
  u_get X M (hS.2 0 (by decide)) (uSh_st hS.1 0 _) (C := RX10) (T := TX10) (N := 10) rfl iw_X10 8 (by decide) rfl (gt_in 203 (by decide +kernel) (by decide +kernel)) (v := .int x) (by rw [ex, ← hV]; rfl) hdg kk
theorem gf_X10_67 (X : UC p s m args meth c cc nL RX10 G) (M : UM G V s H locs) (hS : uSt G t) (hV : V t = S) {x : Int32} (ex : x = S 0 9) (hdg : decode cc pc = .ok (.getfield 67, 3))
    (kk : W p l e R s m args below meth c H locs cells slots Q (F0 m (pc + 3) ls (.int x :: rest))) : W p l e R s m args below meth c H locs cells slots Q (F0 m pc ls (.ref (ga G t 0) :: rest)) :=
  u_get X M (hS.2 0 (by decide)) (uSh_st hS.1 0 _) (C := RX10) (T := TX10) (N := 10) rfl iw_X10 9 (by decide) rfl (gt_in 204 (by decide +kernel) (by decide +kernel)) (v := .int x) (by rw [ex, ← hV]; rfl) hdg kk
theorem gf_X10_83 (X : UC p s m args meth c cc nL RX10 G) (M : UM G V s H locs) (hS : uSt G t) (hV : V t = S) {x : Int32} (ex : x = S 1 0) (hdg : decode cc pc = .ok (.getfield 83, 3))
    (kk : W p l e R s m args below meth c H locs cells slots Q (F0 m (pc + 3) ls (.int x :: rest))) : W p l e R s m args below meth c H locs cells slots Q (F0 m pc ls (.ref (ga G t 1) :: rest)) :=
  u_get X M (hS.2 1 (by decide)) (uSh_st hS.1 1 _) (C := RX0) (T := TX0) (N := 5) rfl iw_X0 0 (by decide) rfl (gt_in 65 (by decide +kernel) (by decide +kernel)) (v := .int x) (by rw [ex, ← hV]; rfl) hdg kk
theorem gf_X10_86 (X : UC p s m args meth c cc nL RX10 G) (M : UM G V s H locs) (hS : uSt G t) (hV : V t = S) {x : Int32} (ex : x = S 10 0) (hdg : decode cc pc = .ok (.getfield 86, 3))
    (kk : W p l e R s m args below meth c H locs cells slots Q (F0 m (pc + 3) ls (.int x :: rest))) : W p l e R s m args below meth c H locs cells slots Q (F0 m pc ls (.ref (ga G t 10) :: rest)) :=
  u_get X M (hS.2 10 (by decide)) (uSh_st hS.1 10 _) (C := RX5) (T := TX5) (N := 6) rfl iw_X5 0 (by decide) rfl (gt_in 95 (by decide +kernel) (by decide +kernel)) (v := .int x) (by rw [ex, ← hV]; rfl) hdg kk
theorem gf_X10_98 (X : UC p s m args meth c cc nL RX10 G) (M : UM G V s H locs) (hS : uSt G t) (hdg : decode cc pc = .ok (.getfield 98, 3))
    (kk : W p l e R s m args below meth c H locs cells slots Q (F0 m (pc + 3) ls (.ref (ga G t 11) :: rest))) : W p l e R s m args below meth c H locs cells slots Q (F0 m pc ls (.ref (ga G t 10) :: rest)) :=
  u_get X M (hS.2 10 (by decide)) (uSh_st hS.1 10 _) (C := RX5) (T := TX5) (N := 6) rfl iw_X5 1 (by decide) rfl (gt_in 98 (by decide +kernel) (by decide +kernel)) (v := .ref (ga G t 11)) rfl hdg kk
theorem gf_X10_104 (X : UC p s m args meth c cc nL RX10 G) (M : UM G V s H locs) (hS : uSt G t) (hdg : decode cc pc = .ok (.getfield 104, 3))
    (kk : W p l e R s m args below meth c H locs cells slots Q (F0 m (pc + 3) ls (.ref (ga G t 13) :: rest))) : W p l e R s m args below meth c H locs cells slots Q (F0 m pc ls (.ref (ga G t 10) :: rest)) :=
  u_get X M (hS.2 10 (by decide)) (uSh_st hS.1 10 _) (C := RX5) (T := TX5) (N := 6) rfl iw_X5 2 (by decide) rfl (gt_in 101 (by decide +kernel) (by decide +kernel)) (v := .ref (ga G t 13)) rfl hdg kk
theorem gf_X10_107 (X : UC p s m args meth c cc nL RX10 G) (M : UM G V s H locs) (hS : uSt G t) (hdg : decode cc pc = .ok (.getfield 107, 3))
    (kk : W p l e R s m args below meth c H locs cells slots Q (F0 m (pc + 3) ls (.ref (ga G t 17) :: rest))) : W p l e R s m args below meth c H locs cells slots Q (F0 m pc ls (.ref (ga G t 10) :: rest)) :=
  u_get X M (hS.2 10 (by decide)) (uSh_st hS.1 10 _) (C := RX5) (T := TX5) (N := 6) rfl iw_X5 4 (by decide) rfl (gt_in 105 (by decide +kernel) (by decide +kernel)) (v := .ref (ga G t 17)) rfl hdg kk
theorem gf_X10_110 (X : UC p s m args meth c cc nL RX10 G) (M : UM G V s H locs) (hS : uSt G t) (hdg : decode cc pc = .ok (.getfield 110, 3))
    (kk : W p l e R s m args below meth c H locs cells slots Q (F0 m (pc + 3) ls (.ref (ga G t 15) :: rest))) : W p l e R s m args below meth c H locs cells slots Q (F0 m pc ls (.ref (ga G t 10) :: rest)) :=
  u_get X M (hS.2 10 (by decide)) (uSh_st hS.1 10 _) (C := RX5) (T := TX5) (N := 6) rfl iw_X5 3 (by decide) rfl (gt_in 103 (by decide +kernel) (by decide +kernel)) (v := .ref (ga G t 15)) rfl hdg kk
theorem gf_X10_123 (X : UC p s m args meth c cc nL RX10 G) (M : UM G V s H locs) (hS : uSt G t) (hdg : decode cc pc = .ok (.getfield 123, 3))
    (kk : W p l e R s m args below meth c H locs cells slots Q (F0 m (pc + 3) ls (.ref (ga G t 24) :: rest))) : W p l e R s m args below meth c H locs cells slots Q (F0 m pc ls (.ref (ga G t 21) :: rest)) :=
  u_get X M (hS.2 21 (by decide)) (uSh_st hS.1 21 _) (C := RX3) (T := TX3) (N := 8) rfl iw_X3 1 (by decide) rfl (gt_in 132 (by decide +kernel) (by decide +kernel)) (v := .ref (ga G t 24)) rfl hdg kk
theorem gf_X10_166 (X : UC p s m args meth c cc nL RX10 G) (M : UM G V s H locs) (hS : uSt G t) (hdg : decode cc pc = .ok (.getfield 166, 3))
    (kk : W p l e R s m args below meth c H locs cells slots Q (F0 m (pc + 3) ls (.ref (ga G t 4) :: rest))) : W p l e R s m args below meth c H locs cells slots Q (F0 m pc ls (.ref (ga G t 1) :: rest)) :=
  u_get X M (hS.2 1 (by decide)) (uSh_st hS.1 1 _) (C := RX0) (T := TX0) (N := 5) rfl iw_X0 2 (by decide) rfl (gt_in 70 (by decide +kernel) (by decide +kernel)) (v := .ref (ga G t 4)) rfl hdg kk
theorem gf_X10_169 (X : UC p s m args meth c cc nL RX10 G) (M : UM G V s H locs) (hS : uSt G t) (hdg : decode cc pc = .ok (.getfield 169, 3))
    (kk : W p l e R s m args below meth c H locs cells slots Q (F0 m (pc + 3) ls (.ref (ga G t 2) :: rest))) : W p l e R s m args below meth c H locs cells slots Q (F0 m pc ls (.ref (ga G t 1) :: rest)) :=
  u_get X M (hS.2 1 (by decide)) (uSh_st hS.1 1 _) (C := RX0) (T := TX0) (N := 5) rfl iw_X0 1 (by decide) rfl (gt_in 67 (by decide +kernel) (by decide +kernel)) (v := .ref (ga G t 2)) rfl hdg kk
theorem gf_X10_192 (X : UC p s m args meth c cc nL RX10 G) (M : UM G V s H locs) (hS : uSt G t) (hdg : decode cc pc = .ok (.getfield 192, 3))
    (kk : W p l e R s m args below meth c H locs cells slots Q (F0 m (pc + 3) ls (.ref (ga G t 8) :: rest))) : W p l e R s m args below meth c H locs cells slots Q (F0 m pc ls (.ref (ga G t 1) :: rest)) :=
  u_get X M (hS.2 1 (by decide)) (uSh_st hS.1 1 _) (C := RX0) (T := TX0) (N := 5) rfl iw_X0 4 (by decide) rfl (gt_in 74 (by decide +kernel) (by decide +kernel)) (v := .ref (ga G t 8)) rfl hdg kk
theorem gf_X10_195 (X : UC p s m args meth c cc nL RX10 G) (M : UM G V s H locs) (hS : uSt G t) (hdg : decode cc pc = .ok (.getfield 195, 3))
    (kk : W p l e R s m args below meth c H locs cells slots Q (F0 m (pc + 3) ls (.ref (ga G t 22) :: rest))) : W p l e R s m args below meth c H locs cells slots Q (F0 m pc ls (.ref (ga G t 21) :: rest)) :=
  u_get X M (hS.2 21 (by decide)) (uSh_st hS.1 21 _) (C := RX3) (T := TX3) (N := 8) rfl iw_X3 0 (by decide) rfl (gt_in 129 (by decide +kernel) (by decide +kernel)) (v := .ref (ga G t 22)) rfl hdg kk
theorem gf_X10_201 (X : UC p s m args meth c cc nL RX10 G) (M : UM G V s H locs) (hS : uSt G t) (hdg : decode cc pc = .ok (.getfield 201, 3))
    (kk : W p l e R s m args below meth c H locs cells slots Q (F0 m (pc + 3) ls (.ref (ga G t 6) :: rest))) : W p l e R s m args below meth c H locs cells slots Q (F0 m pc ls (.ref (ga G t 1) :: rest)) :=
  u_get X M (hS.2 1 (by decide)) (uSh_st hS.1 1 _) (C := RX0) (T := TX0) (N := 5) rfl iw_X0 3 (by decide) rfl (gt_in 72 (by decide +kernel) (by decide +kernel)) (v := .ref (ga G t 6)) rfl hdg kk
theorem iw_X11 : ∀ w ∈ u_ws RX11 TX11 5, w ∈ gtbl := by decide +kernel
theorem gf_X11_10 (X : UC p s m args meth c cc nL RX11 G) (M : UM G V s H locs) (hN : uMn G) (hdg : decode cc pc = .ok (.getfield 10, 3))
    (kk : W p l e R s m args below meth c H locs cells slots Q (F0 m (pc + 3) ls (.ref (ga G 0 0) :: rest))) : W p l e R s m args below meth c H locs cells slots Q (F0 m pc ls (.ref (ga G 18 0) :: rest)) :=
  u_get X M (hN 0 (by decide)) (uSh_mn 0 _) (C := RX11) (T := TX11) (N := 5) rfl iw_X11 0 (by decide) rfl (gt_in 281 (by decide +kernel) (by decide +kernel)) (v := .ref (ga G 0 0)) rfl hdg kk
theorem gf_X11_16 (X : UC p s m args meth c cc nL RX11 G) (M : UM G V s H locs) (hN : uMn G) (hdg : decode cc pc = .ok (.getfield 16, 3))
    (kk : W p l e R s m args below meth c H locs cells slots Q (F0 m (pc + 3) ls (.ref (ga G 1 0) :: rest))) : W p l e R s m args below meth c H locs cells slots Q (F0 m pc ls (.ref (ga G 18 0) :: rest)) :=
  u_get X M (hN 0 (by decide)) (uSh_mn 0 _) (C := RX11) (T := TX11) (N := 5) rfl iw_X11 1 (by decide) rfl (gt_in 282 (by decide +kernel) (by decide +kernel)) (v := .ref (ga G 1 0)) rfl hdg kk
theorem gf_X11_22 (X : UC p s m args meth c cc nL RX11 G) (M : UM G V s H locs) (hN : uMn G) (hdg : decode cc pc = .ok (.getfield 22, 3))
    (kk : W p l e R s m args below meth c H locs cells slots Q (F0 m (pc + 3) ls (.ref (ga G 18 1) :: rest))) : W p l e R s m args below meth c H locs cells slots Q (F0 m pc ls (.ref (ga G 18 0) :: rest)) :=
  u_get X M (hN 0 (by decide)) (uSh_mn 0 _) (C := RX11) (T := TX11) (N := 5) rfl iw_X11 2 (by decide) rfl (gt_in 283 (by decide +kernel) (by decide +kernel)) (v := .ref (ga G 18 1)) rfl hdg kk
theorem gf_X11_29 (X : UC p s m args meth c cc nL RX11 G) (M : UM G V s H locs) (hN : uMn G) (hdg : decode cc pc = .ok (.getfield 29, 3))
    (kk : W p l e R s m args below meth c H locs cells slots Q (F0 m (pc + 3) ls (.ref (ga G 18 4) :: rest))) : W p l e R s m args below meth c H locs cells slots Q (F0 m pc ls (.ref (ga G 18 0) :: rest)) :=
  u_get X M (hN 0 (by decide)) (uSh_mn 0 _) (C := RX11) (T := TX11) (N := 5) rfl iw_X11 3 (by decide) rfl (gt_in 284 (by decide +kernel) (by decide +kernel)) (v := .ref (ga G 18 4)) rfl hdg kk
theorem gf_X11_36 (X : UC p s m args meth c cc nL RX11 G) (M : UM G V s H locs) (hN : uMn G) (hdg : decode cc pc = .ok (.getfield 36, 3))
    (kk : W p l e R s m args below meth c H locs cells slots Q (F0 m (pc + 3) ls (.ref (ga G 18 6) :: rest))) : W p l e R s m args below meth c H locs cells slots Q (F0 m pc ls (.ref (ga G 18 0) :: rest)) :=
  u_get X M (hN 0 (by decide)) (uSh_mn 0 _) (C := RX11) (T := TX11) (N := 5) rfl iw_X11 4 (by decide) rfl (gt_in 285 (by decide +kernel) (by decide +kernel)) (v := .ref (ga G 18 6)) rfl hdg kk
theorem gf_X11_82 (X : UC p s m args meth c cc nL RX11 G) (M : UM G V s H locs) (hS : uSt G t) (hdg : decode cc pc = .ok (.getfield 82, 3))
    (kk : W p l e R s m args below meth c H locs cells slots Q (F0 m (pc + 3) ls (.ref (ga G t 1) :: rest))) : W p l e R s m args below meth c H locs cells slots Q (F0 m pc ls (.ref (ga G t 0) :: rest)) :=
  u_get X M (hS.2 0 (by decide)) (uSh_st hS.1 0 _) (C := RX10) (T := TX10) (N := 10) rfl iw_X10 0 (by decide) rfl (gt_in 185 (by decide +kernel) (by decide +kernel)) (v := .ref (ga G t 1)) rfl hdg kk
theorem gf_X11_99 (X : UC p s m args meth c cc nL RX11 G) (M : UM G V s H locs) (hS : uSt G t) (hdg : decode cc pc = .ok (.getfield 99, 3))
    (kk : W p l e R s m args below meth c H locs cells slots Q (F0 m (pc + 3) ls (.ref (ga G t 10) :: rest))) : W p l e R s m args below meth c H locs cells slots Q (F0 m pc ls (.ref (ga G t 0) :: rest)) :=
  u_get X M (hS.2 0 (by decide)) (uSh_st hS.1 0 _) (C := RX10) (T := TX10) (N := 10) rfl iw_X10 1 (by decide) rfl (gt_in 188 (by decide +kernel) (by decide +kernel)) (v := .ref (ga G t 10)) rfl hdg kk
theorem gf_X11_109 (X : UC p s m args meth c cc nL RX11 G) (M : UM G V s H locs) (hS : uSt G t) (hdg : decode cc pc = .ok (.getfield 109, 3))
    (kk : W p l e R s m args below meth c H locs cells slots Q (F0 m (pc + 3) ls (.ref (ga G t 21) :: rest))) : W p l e R s m args below meth c H locs cells slots Q (F0 m pc ls (.ref (ga G t 0) :: rest)) :=
  u_get X M (hS.2 0 (by decide)) (uSh_st hS.1 0 _) (C := RX10) (T := TX10) (N := 10) rfl iw_X10 2 (by decide) rfl (gt_in 191 (by decide +kernel) (by decide +kernel)) (v := .ref (ga G t 21)) rfl hdg kk
theorem gf_X11_128 (X : UC p s m args meth c cc nL RX11 G) (M : UM G V s H locs) (hS : uSt G t) (hdg : decode cc pc = .ok (.getfield 128, 3))
    (kk : W p l e R s m args below meth c H locs cells slots Q (F0 m (pc + 3) ls (.ref (ga G t 38) :: rest))) : W p l e R s m args below meth c H locs cells slots Q (F0 m pc ls (.ref (ga G t 0) :: rest)) :=
  u_get X M (hS.2 0 (by decide)) (uSh_st hS.1 0 _) (C := RX10) (T := TX10) (N := 10) rfl iw_X10 3 (by decide) rfl (gt_in 193 (by decide +kernel) (by decide +kernel)) (v := .ref (ga G t 38)) rfl hdg kk
theorem gf_X11_177 (X : UC p s m args meth c cc nL RX11 G) (M : UM G V s H locs) (hS : uSt G t) (hdg : decode cc pc = .ok (.getfield 177, 3))
    (kk : W p l e R s m args below meth c H locs cells slots Q (F0 m (pc + 3) ls (.ref (ga G t 22) :: rest))) : W p l e R s m args below meth c H locs cells slots Q (F0 m pc ls (.ref (ga G t 21) :: rest)) :=
  u_get X M (hS.2 21 (by decide)) (uSh_st hS.1 21 _) (C := RX3) (T := TX3) (N := 8) rfl iw_X3 0 (by decide) rfl (gt_in 130 (by decide +kernel) (by decide +kernel)) (v := .ref (ga G t 22)) rfl hdg kk
theorem gf_X11_183 (X : UC p s m args meth c cc nL RX11 G) (M : UM G V s H locs) (hS : uSt G t) (hV : V t = S) {x : Int32} (ex : x = S 0 4) (hdg : decode cc pc = .ok (.getfield 183, 3))
    (kk : W p l e R s m args below meth c H locs cells slots Q (F0 m (pc + 3) ls (.int x :: rest))) : W p l e R s m args below meth c H locs cells slots Q (F0 m pc ls (.ref (ga G t 0) :: rest)) :=
  u_get X M (hS.2 0 (by decide)) (uSh_st hS.1 0 _) (C := RX10) (T := TX10) (N := 10) rfl iw_X10 4 (by decide) rfl (gt_in 195 (by decide +kernel) (by decide +kernel)) (v := .int x) (by rw [ex, ← hV]; rfl) hdg kk
theorem gf_X11_207 (X : UC p s m args meth c cc nL RX11 G) (M : UM G V s H locs) (hS : uSt G t) (hV : V t = S) {x : Int32} (ex : x = S 10 0) (hdg : decode cc pc = .ok (.getfield 207, 3))
    (kk : W p l e R s m args below meth c H locs cells slots Q (F0 m (pc + 3) ls (.int x :: rest))) : W p l e R s m args below meth c H locs cells slots Q (F0 m pc ls (.ref (ga G t 10) :: rest)) :=
  u_get X M (hS.2 10 (by decide)) (uSh_st hS.1 10 _) (C := RX5) (T := TX5) (N := 6) rfl iw_X5 0 (by decide) rfl (gt_in 96 (by decide +kernel) (by decide +kernel)) (v := .int x) (by rw [ex, ← hV]; rfl) hdg kk
theorem gf_X11_210 (X : UC p s m args meth c cc nL RX11 G) (M : UM G V s H locs) (hS : uSt G t) (hdg : decode cc pc = .ok (.getfield 210, 3))
    (kk : W p l e R s m args below meth c H locs cells slots Q (F0 m (pc + 3) ls (.ref (ga G t 11) :: rest))) : W p l e R s m args below meth c H locs cells slots Q (F0 m pc ls (.ref (ga G t 10) :: rest)) :=
  u_get X M (hS.2 10 (by decide)) (uSh_st hS.1 10 _) (C := RX5) (T := TX5) (N := 6) rfl iw_X5 1 (by decide) rfl (gt_in 99 (by decide +kernel) (by decide +kernel)) (v := .ref (ga G t 11)) rfl hdg kk
theorem gf_X11_251 (X : UC p s m args meth c cc nL RX11 G) (M : UM G V s H locs) (hS : uSt G t) (hV : V t = S) {x : Int32} (ex : x = S 0 5) (hdg : decode cc pc = .ok (.getfield 251, 3))
    (kk : W p l e R s m args below meth c H locs cells slots Q (F0 m (pc + 3) ls (.int x :: rest))) : W p l e R s m args below meth c H locs cells slots Q (F0 m pc ls (.ref (ga G t 0) :: rest)) :=
  u_get X M (hS.2 0 (by decide)) (uSh_st hS.1 0 _) (C := RX10) (T := TX10) (N := 10) rfl iw_X10 5 (by decide) rfl (gt_in 197 (by decide +kernel) (by decide +kernel)) (v := .int x) (by rw [ex, ← hV]; rfl) hdg kk
theorem gf_X11_254 (X : UC p s m args meth c cc nL RX11 G) (M : UM G V s H locs) (hS : uSt G t) (hV : V t = S) {x : Int32} (ex : x = S 0 7) (hdg : decode cc pc = .ok (.getfield 254, 3))
    (kk : W p l e R s m args below meth c H locs cells slots Q (F0 m (pc + 3) ls (.int x :: rest))) : W p l e R s m args below meth c H locs cells slots Q (F0 m pc ls (.ref (ga G t 0) :: rest)) :=
  u_get X M (hS.2 0 (by decide)) (uSh_st hS.1 0 _) (C := RX10) (T := TX10) (N := 10) rfl iw_X10 7 (by decide) rfl (gt_in 202 (by decide +kernel) (by decide +kernel)) (v := .int x) (by rw [ex, ← hV]; rfl) hdg kk
theorem gf_X11_274 (X : UC p s m args meth c cc nL RX11 G) (M : UM G V s H locs) (hS : uSt G t) (hV : V t = S) {x : Int32} (ex : x = S 0 6) (hdg : decode cc pc = .ok (.getfield 274, 3))
    (kk : W p l e R s m args below meth c H locs cells slots Q (F0 m (pc + 3) ls (.int x :: rest))) : W p l e R s m args below meth c H locs cells slots Q (F0 m pc ls (.ref (ga G t 0) :: rest)) :=
  u_get X M (hS.2 0 (by decide)) (uSh_st hS.1 0 _) (C := RX10) (T := TX10) (N := 10) rfl iw_X10 6 (by decide) rfl (gt_in 199 (by decide +kernel) (by decide +kernel)) (v := .int x) (by rw [ex, ← hV]; rfl) hdg kk
theorem pf_X0_27 (X : UC p s m args meth c cc nL RX0 G) (M : UM G (va_up V t S) s H locs) (hS : uSt G t) {x : Int32} {S1 : Nat → Nat → Int32} (e1 : S1 = va_up S 1 (upd (S 1) 0 x)) (hdg : decode cc pc = .ok (.putfield 27, 3))
    (kk : ∀ (H1 : Heap) (locs1 : List Loc), UM G (va_up V t S1) s H1 locs1 → W p l e R s m args below meth c H1 locs1 cells slots Q (F0 m (pc + 3) ls rest)) : W p l e R s m args below meth c H locs cells slots Q (F0 m pc ls (.int x :: .ref (ga G t 1) :: rest)) := by
  refine u_put X M (hS.2 1 (by decide)) (uSh_st hS.1 1 _) (C := RX0) (T := TX0) (N := 5) rfl iw_X0 tyX0 tyX0_ok nmX0 0 (by decide) rfl (gt_in 64 (by decide +kernel) (by decide +kernel)) rfl (ty := .int) (by decide +kernel) rfl rfl (Nat.le_of_ble_eq_true rfl) (f' := upd (S 1) 0 x) ((uSh_st hS.1 1 _).trans (by rw [va_up_s]; rfl)) hdg (fun H locs M => kk H locs ?_)
  rw [uS_b, ← e1] at M
  exact M
theorem pf_X2_20 (X : UC p s m args meth c cc nL RX2 G) (M : UM G (va_up V 18 S) s H locs) (hN : uMn G) {x : Int32} {S1 : Nat → Nat → Int32} (e1 : S1 = va_up S 1 (upd (S 1) 1 x)) (hdg : decode cc pc = .ok (.putfield 20, 3))
    (kk : ∀ (H1 : Heap) (locs1 : List Loc), UM G (va_up V 18 S1) s H1 locs1 → W p l e R s m args below meth c H1 locs1 cells slots Q (F0 m (pc + 3) ls rest)) : W p l e R s m args below meth c H locs cells slots Q (F0 m pc ls (.int x :: .ref (ga G 18 1) :: rest)) := by
  refine u_put X M (hN 1 (by decide)) (uSh_mn 1 _) (C := RX2) (T := TX2) (N := 2) rfl iw_X2 tyX2 tyX2_ok nmX2 1 (by decide) rfl (gt_in 235 (by decide +kernel) (by decide +kernel)) rfl (ty := .int) (by decide +kernel) rfl rfl (Nat.le_of_ble_eq_true rfl) (f' := upd (S 1) 1 x) ((uSh_mn 1 _).trans (by rw [va_up_s]; rfl)) hdg (fun H locs M => kk H locs ?_)
  rw [uS_b, ← e1] at M
  exact M
theorem pf_X4_16 (X : UC p s m args meth c cc nL RX4 G) (M : UM G (va_up V 18 S) s H locs) (hN : uMn G) {x : Int32} {S1 : Nat → Nat → Int32} (e1 : S1 = va_up S 4 (upd (S 4) 2 x)) (hdg : decode cc pc = .ok (.putfield 16, 3))
    (kk : ∀ (H1 : Heap) (locs1 : List Loc), UM G (va_up V 18 S1) s H1 locs1 → W p l e R s m args below meth c H1 locs1 cells slots Q (F0 m (pc + 3) ls rest)) : W p l e R s m args below meth c H locs cells slots Q (F0 m pc ls (.int x :: .ref (ga G 18 4) :: rest)) := by
  refine u_put X M (hN 4 (by decide)) (uSh_mn 4 _) (C := RX4) (T := TX4) (N := 3) rfl iw_X4 tyX4 tyX4_ok nmX4 2 (by decide) rfl (gt_in 252 (by decide +kernel) (by decide +kernel)) rfl (ty := .int) (by decide +kernel) rfl rfl (Nat.le_of_ble_eq_true rfl) (f' := upd (S 4) 2 x) ((uSh_mn 4 _).trans (by rw [va_up_s]; rfl)) hdg (fun H locs M => kk H locs ?_)
  rw [uS_b, ← e1] at M
  exact M
theorem pf_X4_20 (X : UC p s m args meth c cc nL RX4 G) (M : UM G (va_up V 18 S) s H locs) (hN : uMn G) {x : Int32} {S1 : Nat → Nat → Int32} (e1 : S1 = va_up S 4 (upd (S 4) 1 x)) (hdg : decode cc pc = .ok (.putfield 20, 3))
    (kk : ∀ (H1 : Heap) (locs1 : List Loc), UM G (va_up V 18 S1) s H1 locs1 → W p l e R s m args below meth c H1 locs1 cells slots Q (F0 m (pc + 3) ls rest)) : W p l e R s m args below meth c H locs cells slots Q (F0 m pc ls (.int x :: .ref (ga G 18 4) :: rest)) := by
  refine u_put X M (hN 4 (by decide)) (uSh_mn 4 _) (C := RX4) (T := TX4) (N := 3) rfl iw_X4 tyX4 tyX4_ok nmX4 1 (by decide) rfl (gt_in 251 (by decide +kernel) (by decide +kernel)) rfl (ty := .int) (by decide +kernel) rfl rfl (Nat.le_of_ble_eq_true rfl) (f' := upd (S 4) 1 x) ((uSh_mn 4 _).trans (by rw [va_up_s]; rfl)) hdg (fun H locs M => kk H locs ?_)
  rw [uS_b, ← e1] at M
  exact M
theorem pf_X5_32 (X : UC p s m args meth c cc nL RX5 G) (M : UM G (va_up V t S) s H locs) (hS : uSt G t) {x : Int32} {S1 : Nat → Nat → Int32} (e1 : S1 = va_up S 10 (upd (S 10) 0 x)) (hdg : decode cc pc = .ok (.putfield 32, 3))
    (kk : ∀ (H1 : Heap) (locs1 : List Loc), UM G (va_up V t S1) s H1 locs1 → W p l e R s m args below meth c H1 locs1 cells slots Q (F0 m (pc + 3) ls rest)) : W p l e R s m args below meth c H locs cells slots Q (F0 m pc ls (.int x :: .ref (ga G t 10) :: rest)) := by
  refine u_put X M (hS.2 10 (by decide)) (uSh_st hS.1 10 _) (C := RX5) (T := TX5) (N := 6) rfl iw_X5 tyX5 tyX5_ok nmX5 0 (by decide) rfl (gt_in 94 (by decide +kernel) (by decide +kernel)) rfl (ty := .int) (by decide +kernel) rfl rfl (Nat.le_of_ble_eq_true rfl) (f' := upd (S 10) 0 x) ((uSh_st hS.1 10 _).trans (by rw [va_up_s]; rfl)) hdg (fun H locs M => kk H locs ?_)
  rw [uS_b, ← e1] at M
  exact M
theorem pf_X9_19 (X : UC p s m args meth c cc nL RX9 G) (M : UM G (va_up V 18 S) s H locs) (hN : uMn G) {x : Int32} {S1 : Nat → Nat → Int32} (e1 : S1 = va_up S 6 (upd (S 6) 2 x)) (hz : narrow .boolean (.int x) = .int x) (hz2 : fits .boolean (.int x) = true) (hdg : decode cc pc = .ok (.putfield 19, 3))
    (kk : ∀ (H1 : Heap) (locs1 : List Loc), UM G (va_up V 18 S1) s H1 locs1 → W p l e R s m args below meth c H1 locs1 cells slots Q (F0 m (pc + 3) ls rest)) : W p l e R s m args below meth c H locs cells slots Q (F0 m pc ls (.int x :: .ref (ga G 18 6) :: rest)) := by
  refine u_put X M (hN 6 (by decide)) (uSh_mn 6 _) (C := RX9) (T := TX9) (N := 4) rfl iw_X9 tyX9 tyX9_ok nmX9 2 (by decide) rfl (gt_in 270 (by decide +kernel) (by decide +kernel)) rfl (ty := .boolean) (by decide +kernel) hz hz2 (Nat.le_of_ble_eq_true rfl) (f' := upd (S 6) 2 x) ((uSh_mn 6 _).trans (by rw [va_up_s]; rfl)) hdg (fun H locs M => kk H locs ?_)
  rw [uS_b, ← e1] at M
  exact M
theorem pf_X9_23 (X : UC p s m args meth c cc nL RX9 G) (M : UM G (va_up V 18 S) s H locs) (hN : uMn G) {x : Int32} {S1 : Nat → Nat → Int32} (e1 : S1 = va_up S 6 (upd (S 6) 3 x)) (hz : narrow .boolean (.int x) = .int x) (hz2 : fits .boolean (.int x) = true) (hdg : decode cc pc = .ok (.putfield 23, 3))
    (kk : ∀ (H1 : Heap) (locs1 : List Loc), UM G (va_up V 18 S1) s H1 locs1 → W p l e R s m args below meth c H1 locs1 cells slots Q (F0 m (pc + 3) ls rest)) : W p l e R s m args below meth c H locs cells slots Q (F0 m pc ls (.int x :: .ref (ga G 18 6) :: rest)) := by
  refine u_put X M (hN 6 (by decide)) (uSh_mn 6 _) (C := RX9) (T := TX9) (N := 4) rfl iw_X9 tyX9 tyX9_ok nmX9 3 (by decide) rfl (gt_in 271 (by decide +kernel) (by decide +kernel)) rfl (ty := .boolean) (by decide +kernel) hz hz2 (Nat.le_of_ble_eq_true rfl) (f' := upd (S 6) 3 x) ((uSh_mn 6 _).trans (by rw [va_up_s]; rfl)) hdg (fun H locs M => kk H locs ?_)
  rw [uS_b, ← e1] at M
  exact M
theorem pf_X10_51 (X : UC p s m args meth c cc nL RX10 G) (M : UM G (va_up V t S) s H locs) (hS : uSt G t) {x : Int32} {S1 : Nat → Nat → Int32} (e1 : S1 = va_up S 0 (upd (S 0) 4 x)) (hdg : decode cc pc = .ok (.putfield 51, 3))
    (kk : ∀ (H1 : Heap) (locs1 : List Loc), UM G (va_up V t S1) s H1 locs1 → W p l e R s m args below meth c H1 locs1 cells slots Q (F0 m (pc + 3) ls rest)) : W p l e R s m args below meth c H locs cells slots Q (F0 m pc ls (.int x :: .ref (ga G t 0) :: rest)) := by
  refine u_put X M (hS.2 0 (by decide)) (uSh_st hS.1 0 _) (C := RX10) (T := TX10) (N := 10) rfl iw_X10 tyX10 tyX10_ok nmX10 4 (by decide) rfl (gt_in 194 (by decide +kernel) (by decide +kernel)) rfl (ty := .int) (by decide +kernel) rfl rfl (Nat.le_of_ble_eq_true rfl) (f' := upd (S 0) 4 x) ((uSh_st hS.1 0 _).trans (by rw [va_up_s]; rfl)) hdg (fun H locs M => kk H locs ?_)
  rw [uS_b, ← e1] at M
  exact M
theorem pf_X10_55 (X : UC p s m args meth c cc nL RX10 G) (M : UM G (va_up V t S) s H locs) (hS : uSt G t) {x : Int32} {S1 : Nat → Nat → Int32} (e1 : S1 = va_up S 0 (upd (S 0) 5 x)) (hdg : decode cc pc = .ok (.putfield 55, 3))
    (kk : ∀ (H1 : Heap) (locs1 : List Loc), UM G (va_up V t S1) s H1 locs1 → W p l e R s m args below meth c H1 locs1 cells slots Q (F0 m (pc + 3) ls rest)) : W p l e R s m args below meth c H locs cells slots Q (F0 m pc ls (.int x :: .ref (ga G t 0) :: rest)) := by
  refine u_put X M (hS.2 0 (by decide)) (uSh_st hS.1 0 _) (C := RX10) (T := TX10) (N := 10) rfl iw_X10 tyX10 tyX10_ok nmX10 5 (by decide) rfl (gt_in 196 (by decide +kernel) (by decide +kernel)) rfl (ty := .int) (by decide +kernel) rfl rfl (Nat.le_of_ble_eq_true rfl) (f' := upd (S 0) 5 x) ((uSh_st hS.1 0 _).trans (by rw [va_up_s]; rfl)) hdg (fun H locs M => kk H locs ?_)
  rw [uS_b, ← e1] at M
  exact M
theorem pf_X10_58 (X : UC p s m args meth c cc nL RX10 G) (M : UM G (va_up V t S) s H locs) (hS : uSt G t) {x : Int32} {S1 : Nat → Nat → Int32} (e1 : S1 = va_up S 0 (upd (S 0) 6 x)) (hdg : decode cc pc = .ok (.putfield 58, 3))
    (kk : ∀ (H1 : Heap) (locs1 : List Loc), UM G (va_up V t S1) s H1 locs1 → W p l e R s m args below meth c H1 locs1 cells slots Q (F0 m (pc + 3) ls rest)) : W p l e R s m args below meth c H locs cells slots Q (F0 m pc ls (.int x :: .ref (ga G t 0) :: rest)) := by
  refine u_put X M (hS.2 0 (by decide)) (uSh_st hS.1 0 _) (C := RX10) (T := TX10) (N := 10) rfl iw_X10 tyX10 tyX10_ok nmX10 6 (by decide) rfl (gt_in 198 (by decide +kernel) (by decide +kernel)) rfl (ty := .int) (by decide +kernel) rfl rfl (Nat.le_of_ble_eq_true rfl) (f' := upd (S 0) 6 x) ((uSh_st hS.1 0 _).trans (by rw [va_up_s]; rfl)) hdg (fun H locs M => kk H locs ?_)
  rw [uS_b, ← e1] at M
  exact M
theorem pf_X10_61 (X : UC p s m args meth c cc nL RX10 G) (M : UM G (va_up V t S) s H locs) (hS : uSt G t) {x : Int32} {S1 : Nat → Nat → Int32} (e1 : S1 = va_up S 0 (upd (S 0) 7 x)) (hdg : decode cc pc = .ok (.putfield 61, 3))
    (kk : ∀ (H1 : Heap) (locs1 : List Loc), UM G (va_up V t S1) s H1 locs1 → W p l e R s m args below meth c H1 locs1 cells slots Q (F0 m (pc + 3) ls rest)) : W p l e R s m args below meth c H locs cells slots Q (F0 m pc ls (.int x :: .ref (ga G t 0) :: rest)) := by
  refine u_put X M (hS.2 0 (by decide)) (uSh_st hS.1 0 _) (C := RX10) (T := TX10) (N := 10) rfl iw_X10 tyX10 tyX10_ok nmX10 7 (by decide) rfl (gt_in 200 (by decide +kernel) (by decide +kernel)) rfl (ty := .int) (by decide +kernel) rfl rfl (Nat.le_of_ble_eq_true rfl) (f' := upd (S 0) 7 x) ((uSh_st hS.1 0 _).trans (by rw [va_up_s]; rfl)) hdg (fun H locs M => kk H locs ?_)
  rw [uS_b, ← e1] at M
  exact M
theorem pf_X10_64 (X : UC p s m args meth c cc nL RX10 G) (M : UM G (va_up V t S) s H locs) (hS : uSt G t) {x : Int32} {S1 : Nat → Nat → Int32} (e1 : S1 = va_up S 0 (upd (S 0) 8 x)) (hdg : decode cc pc = .ok (.putfield 64, 3))
    (kk : ∀ (H1 : Heap) (locs1 : List Loc), UM G (va_up V t S1) s H1 locs1 → W p l e R s m args below meth c H1 locs1 cells slots Q (F0 m (pc + 3) ls rest)) : W p l e R s m args below meth c H locs cells slots Q (F0 m pc ls (.int x :: .ref (ga G t 0) :: rest)) := by
  refine u_put X M (hS.2 0 (by decide)) (uSh_st hS.1 0 _) (C := RX10) (T := TX10) (N := 10) rfl iw_X10 tyX10 tyX10_ok nmX10 8 (by decide) rfl (gt_in 203 (by decide +kernel) (by decide +kernel)) rfl (ty := .int) (by decide +kernel) rfl rfl (Nat.le_of_ble_eq_true rfl) (f' := upd (S 0) 8 x) ((uSh_st hS.1 0 _).trans (by rw [va_up_s]; rfl)) hdg (fun H locs M => kk H locs ?_)
  rw [uS_b, ← e1] at M
  exact M
theorem pf_X10_67 (X : UC p s m args meth c cc nL RX10 G) (M : UM G (va_up V t S) s H locs) (hS : uSt G t) {x : Int32} {S1 : Nat → Nat → Int32} (e1 : S1 = va_up S 0 (upd (S 0) 9 x)) (hdg : decode cc pc = .ok (.putfield 67, 3))
    (kk : ∀ (H1 : Heap) (locs1 : List Loc), UM G (va_up V t S1) s H1 locs1 → W p l e R s m args below meth c H1 locs1 cells slots Q (F0 m (pc + 3) ls rest)) : W p l e R s m args below meth c H locs cells slots Q (F0 m pc ls (.int x :: .ref (ga G t 0) :: rest)) := by
  refine u_put X M (hS.2 0 (by decide)) (uSh_st hS.1 0 _) (C := RX10) (T := TX10) (N := 10) rfl iw_X10 tyX10 tyX10_ok nmX10 9 (by decide) rfl (gt_in 204 (by decide +kernel) (by decide +kernel)) rfl (ty := .int) (by decide +kernel) rfl rfl (Nat.le_of_ble_eq_true rfl) (f' := upd (S 0) 9 x) ((uSh_st hS.1 0 _).trans (by rw [va_up_s]; rfl)) hdg (fun H locs M => kk H locs ?_)
  rw [uS_b, ← e1] at M
  exact M
theorem pf_X11_183 (X : UC p s m args meth c cc nL RX11 G) (M : UM G (va_up V t S) s H locs) (hS : uSt G t) {x : Int32} {S1 : Nat → Nat → Int32} (e1 : S1 = va_up S 0 (upd (S 0) 4 x)) (hdg : decode cc pc = .ok (.putfield 183, 3))
    (kk : ∀ (H1 : Heap) (locs1 : List Loc), UM G (va_up V t S1) s H1 locs1 → W p l e R s m args below meth c H1 locs1 cells slots Q (F0 m (pc + 3) ls rest)) : W p l e R s m args below meth c H locs cells slots Q (F0 m pc ls (.int x :: .ref (ga G t 0) :: rest)) := by
  refine u_put X M (hS.2 0 (by decide)) (uSh_st hS.1 0 _) (C := RX10) (T := TX10) (N := 10) rfl iw_X10 tyX10 tyX10_ok nmX10 4 (by decide) rfl (gt_in 195 (by decide +kernel) (by decide +kernel)) rfl (ty := .int) (by decide +kernel) rfl rfl (Nat.le_of_ble_eq_true rfl) (f' := upd (S 0) 4 x) ((uSh_st hS.1 0 _).trans (by rw [va_up_s]; rfl)) hdg (fun H locs M => kk H locs ?_)
  rw [uS_b, ← e1] at M
  exact M
theorem rc_X10 {own : String} (X : UC p s m args meth c cc nL own G) (M : UM G V s H locs) (hS : uSt G t) : ∃ cell : Cell, H[ga G t 0]? = some cell ∧ cell.vm.isStatics = false ∧ s.vm.findClass RX10 = some cell.cls := u_recv X M (hS.2 0 (by decide)) (uSh_st hS.1 0 _) (C := RX10) (T := TX10) (N := 10) rfl
theorem rc_X0 {own : String} (X : UC p s m args meth c cc nL own G) (M : UM G V s H locs) (hS : uSt G t) : ∃ cell : Cell, H[ga G t 1]? = some cell ∧ cell.vm.isStatics = false ∧ s.vm.findClass RX0 = some cell.cls := u_recv X M (hS.2 1 (by decide)) (uSh_st hS.1 1 _) (C := RX0) (T := TX0) (N := 5) rfl
theorem rc_X5 {own : String} (X : UC p s m args meth c cc nL own G) (M : UM G V s H locs) (hS : uSt G t) : ∃ cell : Cell, H[ga G t 10]? = some cell ∧ cell.vm.isStatics = false ∧ s.vm.findClass RX5 = some cell.cls := u_recv X M (hS.2 10 (by decide)) (uSh_st hS.1 10 _) (C := RX5) (T := TX5) (N := 6) rfl
theorem rc_X3 {own : String} (X : UC p s m args meth c cc nL own G) (M : UM G V s H locs) (hS : uSt G t) : ∃ cell : Cell, H[ga G t 21]? = some cell ∧ cell.vm.isStatics = false ∧ s.vm.findClass RX3 = some cell.cls := u_recv X M (hS.2 21 (by decide)) (uSh_st hS.1 21 _) (C := RX3) (T := TX3) (N := 8) rfl
theorem rc_X2 {own : String} (X : UC p s m args meth c cc nL own G) (M : UM G V s H locs) (hN : uMn G) : ∃ cell : Cell, H[ga G 18 1]? = some cell ∧ cell.vm.isStatics = false ∧ s.vm.findClass RX2 = some cell.cls := u_recv X M (hN 1 (by decide)) (uSh_mn 1 _) (C := RX2) (T := TX2) (N := 2) rfl
theorem rc_X4 {own : String} (X : UC p s m args meth c cc nL own G) (M : UM G V s H locs) (hN : uMn G) : ∃ cell : Cell, H[ga G 18 4]? = some cell ∧ cell.vm.isStatics = false ∧ s.vm.findClass RX4 = some cell.cls := u_recv X M (hN 4 (by decide)) (uSh_mn 4 _) (C := RX4) (T := TX4) (N := 3) rfl
theorem rc_X9 {own : String} (X : UC p s m args meth c cc nL own G) (M : UM G V s H locs) (hN : uMn G) : ∃ cell : Cell, H[ga G 18 6]? = some cell ∧ cell.vm.isStatics = false ∧ s.vm.findClass RX9 = some cell.cls := u_recv X M (hN 6 (by decide)) (uSh_mn 6 _) (C := RX9) (T := TX9) (N := 4) rfl
theorem rc_X11 {own : String} (X : UC p s m args meth c cc nL own G) (M : UM G V s H locs) (hN : uMn G) : ∃ cell : Cell, H[ga G 18 0]? = some cell ∧ cell.vm.isStatics = false ∧ s.vm.findClass RX11 = some cell.cls := u_recv X M (hN 0 (by decide)) (uSh_mn 0 _) (C := RX11) (T := TX11) (N := 5) rfl
end LINKS
