
/-! what the calls answer, by the row model alone -/
theorem m_bd3 {α β γ δ : Type} {a : α} {b : β} {c : γ} {f : α → β → γ → Option δ} : bd3 (some (a, b, c)) f = f a b c := by unfold bd3; exact Option.bind_some ..
theorem norm_k (M : Nat → Nat → Int32) {k : Nat} (h0 : k ≠ 0) (h3 : k ≠ 3) (h4 : k ≠ 4) : norm M k = M k := by
  unfold norm
  rw [va_up_n h4, va_up_n h3, va_up_n h0]
theorem norm_0 (M : Nat → Nat → Int32) {j : Nat} (h : j ≠ 0) : norm M 0 j = M 0 j := by
  unfold norm
  rw [va_up_n (by decide), va_up_n (by decide), va_up_s, upd_ne h]
theorem norm_00 (M : Nat → Nat → Int32) : norm M 0 0 = 0 := by
  unfold norm
  rw [va_up_n (by decide), va_up_n (by decide), va_up_s, upd_at]
theorem norm_3 (M : Nat → Nat → Int32) : norm M 3 = fun _ => 0 := by
  unfold norm
  rw [va_up_n (by decide), va_up_s]
theorem norm_4 (M : Nat → Nat → Int32) : norm M 4 = fun _ => 0 := by
  unfold norm
  rw [va_up_s]
/-- two memories that differ in what is scratch alone have one norm -/
theorem norm_cg {M M' : Nat → Nat → Int32} (h : ∀ k, k ≠ 0 → k ≠ 3 → k ≠ 4 → M' k = M k) (h0 : ∀ j, j ≠ 0 → M' 0 j = M 0 j) : norm M' = norm M := by
  funext k
  by_cases c4 : k = 4
  · subst c4; rw [norm_4, norm_4]
  by_cases c3 : k = 3
  · subst c3; rw [norm_3, norm_3]
  by_cases c0 : k = 0
  · subst c0
    funext j
    by_cases cj : j = 0
    · subst cj; rw [norm_00, norm_00]
    · rw [norm_0 _ cj, norm_0 _ cj, h0 j cj]
  · rw [norm_k _ c0 c3 c4, norm_k _ c0 c3 c4, h k c0 c3 c4]
theorem norm_norm (M : Nat → Nat → Int32) : norm (norm M) = norm M := norm_cg (fun k a b c => norm_k M a b c) (fun j h => norm_0 M h)
theorem norm_ref (M : Nat → Nat → Int32) (k : Int32) : norm (mRef M k) = norm M := norm_cg (fun j a _ _ => mRef_k M k a) (fun j h => upd_ne h)
theorem wr_norm {B T : Nat} {V1 : uV} {S : Nat → Nat → Int32} (h : WR B T (va_up V1 19 S)) : WR B T (va_up V1 19 (norm S)) :=
  h.look (fun t _ h2 => by rw [va_up_n (by omega), va_up_n (by omega)]) (by rw [va_up_s, va_up_s, norm_k S (by decide) (by decide) (by decide)]) (by rw [va_up_s, va_up_s, norm_k S (by decide) (by decide) (by decide)]) (by rw [va_up_s, va_up_s, norm_k S (by decide) (by decide) (by decide)]) (by rw [va_up_s, va_up_s, norm_k S (by decide) (by decide) (by decide)]) (by rw [va_up_s, va_up_s, norm_k S (by decide) (by decide) (by decide)]) (by rw [va_up_s, va_up_s, norm_0 S (by decide)]) (by rw [va_up_s, va_up_s, norm_0 S (by decide)])
/-- the bounds speak of the model's rows alone -/
theorem Rel.tight {B T B' T' : Nat} {S S' : Nat → Nat → Int32} {r : Nat → Int32} (R : Rel B T S r) (R' : Rel B' T' S' r) : Rel B T S' r :=
  ⟨⟨R'.eC, R'.eA, R'.eN, R'.eS, R'.s2, R'.cC, R'.cA, R.cT⟩, ⟨R'.card, R'.cown, R.ccnt, R.clat⟩, R'.toRA, R'.toRG, ⟨R'.log, R'.lacc, R.lcnt⟩, R'.toRBt, R'.toRZ, ⟨R.mbal, R'.mfare, R'.mlog, R'.mfine, R'.mpause⟩⟩
theorem WR.tight {B T B' T' : Nat} {V V' : uV} (W : WR B T V) (W' : WR B' T' V') (e : V' 19 = V 19) : WR B T V' := by
  obtain ⟨R, ⟨p, z, hp, hz, e1, e2, e3, e4⟩, ⟨⟨s1, s2⟩, s3, s4, s5, s6⟩, X⟩ := W
  obtain ⟨R', ⟨p', z', hp', hz', e1', e2', e3', e4'⟩, ⟨⟨s1', s2'⟩, s3', s4', s5', s6'⟩, X'⟩ := W'
  rw [e] at R' e3' e4' s1' s2' s3' s4' s5' s6'
  have ez : z' = z := (nI_eq (by omega) (by omega)).mp (e3'.symm.trans e3)
  subst ez
  refine ⟨?_, ⟨p', z', hp', hz', e1', e2', by rw [e]; exact e3', fun k hk => ?_⟩, ⟨⟨by rw [e]; exact s1', by rw [e]; exact s2'⟩, by rw [e]; exact s3', by rw [e]; exact s4', fun q => ?_, fun q => ?_⟩, X'⟩
  · rw [e]; exact R.tight R'
  · rw [e]; exact (e4 k hk).tight (e4' k hk)
  · rw [e] at q ⊢; exact (s5 q).tight (s5' q)
  · rw [e] at q ⊢; exact (s6 q).tight (s6' q)
def rc2 (m : Option (Int32 × (Nat → Nat → Int32))) (c1 c2 : Int32) : Option (Int32 × (Nat → Nat → Int32)) := bd2 m fun z S => if S 0 0 = 0 then some (z, norm S) else if S 0 0 = 1 then some (c1, norm S) else if S 0 0 = 2 then some (c2, norm S) else none
def rc1 (m : Option (Int32 × (Nat → Nat → Int32))) (c1 : Int32) : Option (Int32 × (Nat → Nat → Int32)) := bd2 m fun z S => if S 0 0 = 0 then some (z, norm S) else if S 0 0 = 1 then some (c1, norm S) else none
def rc0 (m : Option (Int32 × (Nat → Nat → Int32))) : Option (Int32 × (Nat → Nat → Int32)) := bd2 m fun z S => some (z, norm S)
theorem try2 {B T : Nat} {V : uV} {c : Option (Int32 × Int32 × uV)} {m : Option (Int32 × (Nat → Nat → Int32))} {e1 e2 c1 c2 r : Int32} {M' : Nat → Nat → Int32} (h : Pair2 B T V c m e1 e2) (h1 : ¬ e1 = 0) (h2 : ¬ e2 = 0) (h12 : ¬ e2 = e1) (hr : rc2 m c1 c2 = some (r, M')) :
    ∃ V', (bd3 (gh3 c m) fun E r V1 => if E = 0 then some (r, V1) else if E = e1 then some (c1, V1) else if E = e2 then some (c2, V1) else none) = some (r, V') ∧ WR B T V' ∧ V' 19 = M' := by
  obtain ⟨E, z, V1, z', S', hc, hV, hm, hE, hW⟩ := h
  have eg : gh3 c m = some (E, z, va_up V1 19 (norm S')) := by unfold gh3; rw [hc, m_bd3, hm, m_bd2]
  unfold rc2 at hr
  rw [hm, m_bd2] at hr
  rw [eg, m_bd3]
  rcases hE with ⟨rfl, hS, rfl⟩ | ⟨rfl, hS⟩ | ⟨rfl, hS⟩
  · rw [if_pos hS] at hr
    cases hr
    exact ⟨_, if_pos rfl, wr_norm hW, va_up_s _ _ _⟩
  · rw [hS, if_neg n10, if_pos rfl] at hr
    cases hr
    exact ⟨_, by rw [if_neg h1, if_pos rfl], wr_norm hW, va_up_s _ _ _⟩
  · rw [hS, if_neg (by decide), if_neg (by decide), if_pos rfl] at hr
    cases hr
    exact ⟨_, by rw [if_neg h2, if_neg h12, if_pos rfl], wr_norm hW, va_up_s _ _ _⟩
theorem try1 {B T : Nat} {V : uV} {c : Option (Int32 × Int32 × uV)} {m : Option (Int32 × (Nat → Nat → Int32))} {e1 c1 r : Int32} {M' : Nat → Nat → Int32} (h : Pair1 B T V c m e1) (h1 : ¬ e1 = 0) (hr : rc1 m c1 = some (r, M')) :
    ∃ V', (bd3 (gh3 c m) fun E r V1 => if E = 0 then some (r, V1) else if E = e1 then some (c1, V1) else none) = some (r, V') ∧ WR B T V' ∧ V' 19 = M' := by
  obtain ⟨E, z, V1, z', S', hc, hV, hm, hE, hW⟩ := h
  have eg : gh3 c m = some (E, z, va_up V1 19 (norm S')) := by unfold gh3; rw [hc, m_bd3, hm, m_bd2]
  unfold rc1 at hr
  rw [hm, m_bd2] at hr
  rw [eg, m_bd3]
  rcases hE with ⟨rfl, hS, rfl⟩ | ⟨rfl, hS⟩
  · rw [if_pos hS] at hr
    cases hr
    exact ⟨_, if_pos rfl, wr_norm hW, va_up_s _ _ _⟩
  · rw [hS, if_neg n10, if_pos rfl] at hr
    cases hr
    exact ⟨_, by rw [if_neg h1, if_pos rfl], wr_norm hW, va_up_s _ _ _⟩
/-- an object whose state shows the model's memory M, after n actions -/
def OKV (n : Nat) (M : Nat → Nat → Int32) (V : uV) : Prop := WR n (150000 * n) V ∧ V 19 = M
theorem OKV.up {n n' : Nat} {M : Nat → Nat → Int32} {V : uV} (h : OKV n M V) (hn : n ≤ n') : OKV n' M V := ⟨h.1.mono hn (by omega), h.2⟩
theorem OKV.ti {n n' : Nat} {M : Nat → Nat → Int32} {V V' : uV} (h : OKV n M V) (h' : OKV n' M V') : OKV n M V' := ⟨h.1.tight h'.1 (by rw [h'.2, h.2]), h'.2⟩
def rcall (M : Nat → Nat → Int32) (w a b c : Int32) : Option (Int32 × (Nat → Nat → Int32)) :=
  if w = 0 then (if 0 ≤ a ∧ a ≤ 255 then none else some (-9999002, norm M)) else
  if w = 1 then none else
  if w = 2 then rc1 (fX12_about M a) (-9999002) else
  if w = 3 then rc2 (fX12_card M a b) (-9999001) (-9999002) else
  if w = 4 then rc2 (fX12_account M a b) (-9999001) (-9999002) else
  if w = 5 then rc2 (fX12_gate M a b) (-9999001) (-9999002) else
  if w = 6 then rc2 (fX12_logged M a b c) (-9999001) (-9999002) else
  if w = 7 then rc1 (fX12_setting M a) (-9999002) else
  if w = 8 then rc2 (fX12_issue M a) (-9999002) (-9999003) else
  if w = 9 then rc2 (fX12_copy M a) (-9999001) (-9999003) else
  if w = 10 then rc1 (fX12_ride M a b) (-9999001) else
  if w = 11 then rc2 (fX12_pay M a b) (-9999001) (-9999002) else
  if w = 12 then rc2 (fX12_pardon M a) (-9999001) (-9999003) else
  if w = 13 then rc2 (fX12_down M a) (-9999001) (-9999003) else
  if w = 14 then rc2 (fX12_up M a) (-9999001) (-9999003) else
  if w = 15 then rc1 (fX12_open M a) (-9999001) else
  if w = 16 then rc2 (fX12_fare M a b) (-9999001) (-9999002) else
  if w = 17 then rc1 (fX12_run M a) (-9999002) else
  if w = 18 then rc1 (fX12_set M a b) (-9999002) else
  if w = 19 then rc1 (fX12_undo M) (-9999003) else
  if w = 20 then rc1 (fX12_would M a b) (-9999001) else
  if w = 21 then rc1 (fX12_rides M a b) (-9999001) else
  if w = 22 then rc2 (fX12_ifUp M a b) (-9999001) (-9999002) else
  if w = 23 then rc1 (fX12_owes M a) (-9999001) else
  if w = 24 then rc1 (fX12_save M a) (-9999001) else
  rc2 (fX12_restore M a) (-9999001) (-9999003)
theorem app_x (V : uV) {a : Int32} (h : ¬ (0 ≤ a ∧ a ≤ 255)) : fX11_append V a = some (1, 0, V) := by
  unfold fX11_append
  simp only [lt_eq]
  rw [th_n (dec_f h)]
theorem try_app {n : Nat} {M : Nat → Nat → Int32} {V : uV} (h : OKV n M V) {a : Int32} (ha : ¬ (0 ≤ a ∧ a ≤ 255)) : ∃ V', fL_tryAppend V a = some (-9999002, V') ∧ OKV n (norm M) V' := by
  refine ⟨va_up V 19 (norm (V 19)), ?_, ?_, ?_⟩
  · unfold fL_tryAppend gh3
    rw [app_x V ha, m_bd3, m_bd2, m_bd3, if_neg n10, if_pos rfl]
  · have e : V = va_up V 19 (V 19) := (va_up_id V 19).symm
    exact wr_norm (by rw [← e]; exact h.1)
  · rw [va_up_s, h.2]
set_option maxHeartbeats 4000000 in
theorem T_call {n : Nat} {M M' : Nat → Nat → Int32} {V : uV} (h : OKV n M V) (hn : n ≤ 850) {w a b c r : Int32} (hr : rcall M w a b c = some (r, M')) : ∃ V', fL_call V w a b c = some (r, V') ∧ OKV (n + 1) M' V' := by
  have W := h.1
  have eM := h.2
  subst eM
  have hs : ∀ {V' : uV}, WR n (150000 * n) V' ∧ V' 19 = M' → OKV (n + 1) M' V' := fun q => ⟨q.1.mono (by omega) (by omega), q.2⟩
  unfold rcall at hr
  unfold fL_call
  by_cases c0 : w = 0
  · rw [if_pos c0] at hr ⊢
    by_cases ca : 0 ≤ a ∧ a ≤ 255
    · rw [if_pos ca] at hr; cases hr
    · rw [if_neg ca] at hr
      cases hr
      obtain ⟨V', e1, e2⟩ := try_app h ca
      exact ⟨V', e1, e2.up (by omega)⟩
  rw [if_neg c0] at hr ⊢
  by_cases c1 : w = 1
  · rw [if_pos c1] at hr; cases hr
  rw [if_neg c1] at hr ⊢
  by_cases c2 : w = 2
  · rw [if_pos c2] at hr ⊢
    unfold fL_tryAbout
    obtain ⟨V', e1, e2, e3⟩ := try1 (q_about W a) (by decide) hr
    exact ⟨V', e1, hs ⟨e2, e3⟩⟩
  rw [if_neg c2] at hr ⊢
  by_cases c3 : w = 3
  · rw [if_pos c3] at hr ⊢
    unfold fL_tryCard
    obtain ⟨V', e1, e2, e3⟩ := try2 (q_card W a b) (by decide) (by decide) (by decide) hr
    exact ⟨V', e1, hs ⟨e2, e3⟩⟩
  rw [if_neg c3] at hr ⊢
  by_cases c4 : w = 4
  · rw [if_pos c4] at hr ⊢
    unfold fL_tryAccount
    obtain ⟨V', e1, e2, e3⟩ := try2 (q_account W a b) (by decide) (by decide) (by decide) hr
    exact ⟨V', e1, hs ⟨e2, e3⟩⟩
  rw [if_neg c4] at hr ⊢
  by_cases c5 : w = 5
  · rw [if_pos c5] at hr ⊢
    unfold fL_tryGate
    obtain ⟨V', e1, e2, e3⟩ := try2 (q_gate W a b) (by decide) (by decide) (by decide) hr
    exact ⟨V', e1, hs ⟨e2, e3⟩⟩
  rw [if_neg c5] at hr ⊢
  by_cases c6 : w = 6
  · rw [if_pos c6] at hr ⊢
    unfold fL_tryLogged
    obtain ⟨V', e1, e2, e3⟩ := try2 (q_logged W a b c) (by decide) (by decide) (by decide) hr
    exact ⟨V', e1, hs ⟨e2, e3⟩⟩
  rw [if_neg c6] at hr ⊢
  by_cases c7 : w = 7
  · rw [if_pos c7] at hr ⊢
    unfold fL_trySetting
    obtain ⟨V', e1, e2, e3⟩ := try1 (q_setting W a) (by decide) hr
    exact ⟨V', e1, hs ⟨e2, e3⟩⟩
  rw [if_neg c7] at hr ⊢
  by_cases c8 : w = 8
  · rw [if_pos c8] at hr ⊢
    unfold fL_tryIssue
    obtain ⟨V', e1, e2, e3⟩ := try2 (q_issue W a) (by decide) (by decide) (by decide) hr
    exact ⟨V', e1, ⟨e2, e3⟩⟩
  rw [if_neg c8] at hr ⊢
  by_cases c9 : w = 9
  · rw [if_pos c9] at hr ⊢
    unfold fL_tryCopy
    obtain ⟨V', e1, e2, e3⟩ := try2 (q_copy W a) (by decide) (by decide) (by decide) hr
    exact ⟨V', e1, ⟨e2, e3⟩⟩
  rw [if_neg c9] at hr ⊢
  by_cases c10 : w = 10
  · rw [if_pos c10] at hr ⊢
    unfold fL_tryRide
    obtain ⟨V', e1, e2, e3⟩ := try1 (q_ride W (by omega) (by omega) a b) (by decide) hr
    exact ⟨V', e1, ⟨e2, e3⟩⟩
  rw [if_neg c10] at hr ⊢
  by_cases c11 : w = 11
  · rw [if_pos c11] at hr ⊢
    unfold fL_tryPay
    obtain ⟨V', e1, e2, e3⟩ := try2 (q_pay W (by omega) a b) (by decide) (by decide) (by decide) hr
    exact ⟨V', e1, ⟨e2, e3⟩⟩
  rw [if_neg c11] at hr ⊢
  by_cases c12 : w = 12
  · rw [if_pos c12] at hr ⊢
    unfold fL_tryPardon
    obtain ⟨V', e1, e2, e3⟩ := try2 (q_pardon W a) (by decide) (by decide) (by decide) hr
    exact ⟨V', e1, ⟨e2, e3⟩⟩
  rw [if_neg c12] at hr ⊢
  by_cases c13 : w = 13
  · rw [if_pos c13] at hr ⊢
    unfold fL_tryDown
    obtain ⟨V', e1, e2, e3⟩ := try2 (q_down W a) (by decide) (by decide) (by decide) hr
    exact ⟨V', e1, ⟨e2, e3⟩⟩
  rw [if_neg c13] at hr ⊢
  by_cases c14 : w = 14
  · rw [if_pos c14] at hr ⊢
    unfold fL_tryUp
    obtain ⟨V', e1, e2, e3⟩ := try2 (q_up W (by omega) (by omega) a) (by decide) (by decide) (by decide) hr
    exact ⟨V', e1, ⟨e2, e3⟩⟩
  rw [if_neg c14] at hr ⊢
  by_cases c15 : w = 15
  · rw [if_pos c15] at hr ⊢
    unfold fL_tryOpen
    obtain ⟨V', e1, e2, e3⟩ := try1 (q_open W a) (by decide) hr
    exact ⟨V', e1, ⟨e2, e3⟩⟩
  rw [if_neg c15] at hr ⊢
  by_cases c16 : w = 16
  · rw [if_pos c16] at hr ⊢
    unfold fL_tryFare
    obtain ⟨V', e1, e2, e3⟩ := try2 (q_fare W a b) (by decide) (by decide) (by decide) hr
    exact ⟨V', e1, ⟨e2, e3⟩⟩
  rw [if_neg c16] at hr ⊢
  by_cases c17 : w = 17
  · rw [if_pos c17] at hr ⊢
    unfold fL_tryRun
    obtain ⟨V', e1, e2, e3⟩ := try1 (q_run W (by omega) a) (by decide) hr
    exact ⟨V', e1, ⟨e2, e3⟩⟩
  rw [if_neg c17] at hr ⊢
  by_cases c18 : w = 18
  · rw [if_pos c18] at hr ⊢
    unfold fL_tryLay
    obtain ⟨V', e1, e2, e3⟩ := try1 (q_set W a b) (by decide) hr
    exact ⟨V', e1, ⟨e2, e3⟩⟩
  rw [if_neg c18] at hr ⊢
  by_cases c19 : w = 19
  · rw [if_pos c19] at hr ⊢
    unfold fL_tryUndo
    obtain ⟨V', e1, e2, e3⟩ := try1 (q_undo W) (by decide) hr
    exact ⟨V', e1, hs ⟨e2, e3⟩⟩
  rw [if_neg c19] at hr ⊢
  by_cases c20 : w = 20
  · rw [if_pos c20] at hr ⊢
    unfold fL_tryWould
    obtain ⟨V', e1, e2, e3⟩ := try1 (q_would W (by omega) (by omega) a b) (by decide) hr
    exact ⟨V', e1, hs ⟨e2, e3⟩⟩
  rw [if_neg c20] at hr ⊢
  by_cases c21 : w = 21
  · rw [if_pos c21] at hr ⊢
    unfold fL_tryRides
    obtain ⟨V', e1, e2, e3⟩ := try1 (q_rides W (by omega) (by omega) a b) (by decide) hr
    exact ⟨V', e1, hs ⟨e2, e3⟩⟩
  rw [if_neg c21] at hr ⊢
  by_cases c22 : w = 22
  · rw [if_pos c22] at hr ⊢
    unfold fL_tryBrings
    obtain ⟨V', e1, e2, e3⟩ := try2 (q_ifUp W (by omega) (by omega) a b) (by decide) (by decide) (by decide) hr
    exact ⟨V', e1, hs ⟨e2, e3⟩⟩
  rw [if_neg c22] at hr ⊢
  by_cases c23 : w = 23
  · rw [if_pos c23] at hr ⊢
    unfold fL_tryOwes
    obtain ⟨V', e1, e2, e3⟩ := try1 (q_owes W (by omega) (by omega) a) (by decide) hr
    exact ⟨V', e1, hs ⟨e2, e3⟩⟩
  rw [if_neg c23] at hr ⊢
  by_cases c24 : w = 24
  · rw [if_pos c24] at hr ⊢
    unfold fL_tryKeep
    obtain ⟨V', e1, e2, e3⟩ := try1 (q_save W a) (by decide) hr
    exact ⟨V', e1, hs ⟨e2, e3⟩⟩
  rw [if_neg c24] at hr ⊢
  unfold fL_tryBack
  obtain ⟨V', e1, e2, e3⟩ := try2 (q_restore W a) (by decide) (by decide) (by decide) hr
  exact ⟨V', e1, hs ⟨e2, e3⟩⟩
theorem T_callq {n : Nat} {M : Nat → Nat → Int32} {V : uV} (h : OKV n M V) (hn : n ≤ 850) {w a b c r : Int32} (hr : rcall M w a b c = some (r, M)) : ∃ V', fL_call V w a b c = some (r, V') ∧ OKV n M V' := by
  obtain ⟨V', e1, e2⟩ := T_call h hn hr
  exact ⟨V', e1, h.ti e2⟩
def rsim (M : Nat → Nat → Int32) (s : Int64) (k : Int32) : Option (Int32 × (Nat → Nat → Int32)) := rc1 (fX12_simulate M s k) (-9999002)
theorem T_sim {n : Nat} {M M' : Nat → Nat → Int32} {V : uV} (h : OKV n M V) (hn : n ≤ 850) {s : Int64} {k r : Int32} (hr : rsim M s k = some (r, M')) : ∃ V', fL_trySimulate V s k = some (r, V') ∧ OKV n M' V' := by
  have W := h.1
  have eM := h.2
  subst eM
  unfold rsim at hr
  unfold fL_trySimulate
  obtain ⟨V', e1, e2, e3⟩ := try1 (q_simulate W (by omega) (by omega) s k) (by decide) hr
  exact ⟨V', e1, e2, e3⟩
def rbest (M : Nat → Nat → Int32) : Option (Int32 × (Nat → Nat → Int32)) := rc0 (fX12_bestUp M)
def rworst (M : Nat → Nat → Int32) : Option (Int32 × (Nat → Nat → Int32)) := rc0 (fX12_worst M)
theorem T_0 {B T : Nat} {V : uV} {c : Option (Int32 × uV)} {m : Option (Int32 × (Nat → Nat → Int32))} {r : Int32} {M' : Nat → Nat → Int32} (h : Pair0 B T V c m) (hr : rc0 m = some (r, M')) : ∃ V1 S, c = some (r, V1) ∧ M' = norm S ∧ WR B T (va_up V1 19 (norm S)) := by
  obtain ⟨z, V1, S', hc, hV, hm, hW⟩ := h
  unfold rc0 at hr
  rw [hm, m_bd2] at hr
  cases hr
  exact ⟨V1, S', hc, rfl, wr_norm hW⟩
