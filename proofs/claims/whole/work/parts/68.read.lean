/-! a command is read by the reference, and done by the component -/
section READ
variable {B T : Nat} {S : Nat → Nat → Int32} {M X : Nat → Nat → Int32} {t p : Nat}
theorem n_2 (a : Nat) : nI a + 2 = nI (a + 2) := nI_add a 2
theorem xtwo (X : Nat → Nat → Int32) {i a b : Nat} (hi : i + 1 < 120) (ha : X 3 i - 48 = nI a) (hb : X 3 (i + 1) - 48 = nI b) : fX2_twoDigits X (nI i) = nI (10 * a + b) := by
  unfold fX2_twoDigits
  rw [lt_eq, lt_eq, nI_1, xdig X (by omega), xdig X hi, ha, hb]
  show nI 10 * nI a + nI b = _
  rw [nI_mul, nI_add]
theorem ite_both {α : Type} {c : Prop} [Decidable c] {a b x : α} (ha : a = x) (hb : b = x) : (if c then a else b) = x := by
  rw [ha, hb, ite_self]
theorem r_back (h10 : M 0 10 = nI (p + 1)) : (lt_ (M 0 10) fun x72 => lt_ (va_up M 0 (upd (M 0) 10 (x72 - 1))) fun S74 => some ((0 : Int32), S74)) = some (0, mSpot M p) := by
  rw [lt_eq, lt_eq, h10, nI_pred]
  rfl
theorem rc_99 (hp : p < 120) (h10 : M 0 10 = nI p) (hs : M 1 p = 99) : fX12_readCommand M =
    bd2 (fX12_figures (mSpot M (p + 1)) 0 1 0 9) fun x12 S13 =>
    if x12 = (-1) then
      some (0, S13)
    else
      bd (fX12_canCopy (S13 3) x12) fun x17 =>
      if x17 = 0 then
        bd2 (fX12_done S13 0) fun x21 S22 =>
        if x21 = 0 then
          some (0, S22)
        else
          some (1, S22)
      else
        bd2 (fX12_copyOn (S13 3) x12) fun x26 r28 =>
        lt_ (va_up S13 3 r28) fun S27 =>
        if x26 ≤ 0 then
          bd2 (fX12_done S27 0) fun x33 S34 =>
          if x33 = 0 then
            some (0, S34)
          else
            some (1, S34)
        else
          bd2 (fX12_done S27 1) fun x38 S39 =>
          if x38 = 0 then
            some (0, S39)
          else
            some (1, S39) := by
  have hx : inb (nI p) 120 = true ∧ (nI p).toNatClampNeg = p := mx rfl hp (by decide)
  have hS : va_up M 0 (upd (M 0) 10 (nI (p + 1))) = mSpot M (p + 1) := rfl
  unfold fX12_readCommand
  rw [lt_eq, h10, m_gd hx.1, lt_eq, lt_eq, lt_eq, hx.2, hs, nI_1, hS, if_pos (c := (99 : Int32) = 99) rfl]
theorem rc_100 (hp : p < 120) (h10 : M 0 10 = nI p) (hs : M 1 p = 100) : fX12_readCommand M =
    bd2 (fX12_figures (mSpot M (p + 1)) 0 1 0 3) fun x44 S45 =>
    if x44 = (-1) then
      some (0, S45)
    else
      if (100 : Int32) = 117 then
        bd2 (fX12_doesLine (S45 3) x44 1) fun x61 r63 =>
        lt_ (va_up S45 3 r63) fun S62 =>
        bd2 (fX12_done S62 x61) fun x67 S68 =>
        if x67 = 0 then
          some (0, S68)
        else
          some (1, S68)
      else
        bd2 (fX12_doesLine (S45 3) x44 0) fun x50 r52 =>
        lt_ (va_up S45 3 r52) fun S51 =>
        bd2 (fX12_done S51 x50) fun x56 S57 =>
        if x56 = 0 then
          some (0, S57)
        else
          some (1, S57) := by
  have hx : inb (nI p) 120 = true ∧ (nI p).toNatClampNeg = p := mx rfl hp (by decide)
  have hS : va_up M 0 (upd (M 0) 10 (nI (p + 1))) = mSpot M (p + 1) := rfl
  unfold fX12_readCommand
  rw [lt_eq, h10, m_gd hx.1, lt_eq, lt_eq, lt_eq, hx.2, hs, nI_1, hS, if_neg (c := (100 : Int32) = 99) (by decide), if_pos (c := (100 : Int32) = 100) rfl]
theorem rc_105 (hp : p < 120) (h10 : M 0 10 = nI p) (hs : M 1 p = 105) : fX12_readCommand M =
    bd2 (fX12_figures (mSpot M (p + 1)) 0 2 0 99) fun x93 S94 =>
    if x93 = (-1) then
      some (0, S94)
    else
      bd (fX12_canIssue (S94 3)) fun x98 =>
      if x98 = 0 then
        bd2 (fX12_done S94 0) fun x102 S103 =>
        if x102 = 0 then
          some (0, S103)
        else
          some (1, S103)
      else
        bd2 (fX12_issueOn (S94 3) x93) fun x107 r109 =>
        lt_ (va_up S94 3 r109) fun S108 =>
        if x107 < 0 then
          bd2 (fX12_done S108 0) fun x114 S115 =>
          if x114 = 0 then
            some (0, S115)
          else
            some (1, S115)
        else
          bd2 (fX12_done S108 1) fun x119 S120 =>
          if x119 = 0 then
            some (0, S120)
          else
            some (1, S120) := by
  have hx : inb (nI p) 120 = true ∧ (nI p).toNatClampNeg = p := mx rfl hp (by decide)
  have hS : va_up M 0 (upd (M 0) 10 (nI (p + 1))) = mSpot M (p + 1) := rfl
  unfold fX12_readCommand
  rw [lt_eq, h10, m_gd hx.1, lt_eq, lt_eq, lt_eq, hx.2, hs, nI_1, hS, if_neg (c := (105 : Int32) = 99) (by decide), if_neg (c := (105 : Int32) = 100) (by decide), if_neg (c := (105 : Int32) = 101) (by decide), if_neg (c := (105 : Int32) = 102) (by decide), if_neg (c := (105 : Int32) = 103) (by decide), if_neg (c := (105 : Int32) = 104) (by decide), if_pos (c := (105 : Int32) = 105) rfl]
theorem rc_109 (hp : p < 120) (h10 : M 0 10 = nI p) (hs : M 1 p = 109) : fX12_readCommand M =
    bd2 (fX12_figures (mSpot M (p + 1)) 0 2 1 60) fun x140 S141 =>
    if x140 = (-1) then
      some (0, S141)
    else
      bd2 (fX12_runOn (S141 3) x140) fun x145 r147 =>
      lt_ (va_up S141 3 r147) fun S146 =>
      if x145 ≤ 0 then
        bd2 (fX12_done S146 0) fun x152 S153 =>
        if x152 = 0 then
          some (0, S153)
        else
          some (1, S153)
      else
        bd2 (fX12_done S146 1) fun x157 S158 =>
        if x157 = 0 then
          some (0, S158)
        else
          some (1, S158) := by
  have hx : inb (nI p) 120 = true ∧ (nI p).toNatClampNeg = p := mx rfl hp (by decide)
  have hS : va_up M 0 (upd (M 0) 10 (nI (p + 1))) = mSpot M (p + 1) := rfl
  unfold fX12_readCommand
  rw [lt_eq, h10, m_gd hx.1, lt_eq, lt_eq, lt_eq, hx.2, hs, nI_1, hS, if_neg (c := (109 : Int32) = 99) (by decide), if_neg (c := (109 : Int32) = 100) (by decide), if_neg (c := (109 : Int32) = 101) (by decide), if_neg (c := (109 : Int32) = 102) (by decide), if_neg (c := (109 : Int32) = 103) (by decide), if_neg (c := (109 : Int32) = 104) (by decide), if_neg (c := (109 : Int32) = 105) (by decide), if_neg (c := (109 : Int32) = 106) (by decide), if_neg (c := (109 : Int32) = 107) (by decide), if_neg (c := (109 : Int32) = 108) (by decide), if_pos (c := (109 : Int32) = 109) rfl]
theorem rc_111 (hp : p < 120) (h10 : M 0 10 = nI p) (hs : M 1 p = 111) : fX12_readCommand M =
    bd2 (fX12_figures (mSpot M (p + 1)) 0 1 0 3) fun x168 S169 =>
    if x168 = (-1) then
      some (0, S169)
    else
      bd2 (fX12_openOn (S169 3) x168) fun x173 r175 =>
      lt_ (va_up S169 3 r175) fun S174 =>
      if x173 < 0 then
        bd2 (fX12_done S174 0) fun x180 S181 =>
        if x180 = 0 then
          some (0, S181)
        else
          some (1, S181)
      else
        bd2 (fX12_done S174 1) fun x185 S186 =>
        if x185 = 0 then
          some (0, S186)
        else
          some (1, S186) := by
  have hx : inb (nI p) 120 = true ∧ (nI p).toNatClampNeg = p := mx rfl hp (by decide)
  have hS : va_up M 0 (upd (M 0) 10 (nI (p + 1))) = mSpot M (p + 1) := rfl
  unfold fX12_readCommand
  rw [lt_eq, h10, m_gd hx.1, lt_eq, lt_eq, lt_eq, hx.2, hs, nI_1, hS, if_neg (c := (111 : Int32) = 99) (by decide), if_neg (c := (111 : Int32) = 100) (by decide), if_neg (c := (111 : Int32) = 101) (by decide), if_neg (c := (111 : Int32) = 102) (by decide), if_neg (c := (111 : Int32) = 103) (by decide), if_neg (c := (111 : Int32) = 104) (by decide), if_neg (c := (111 : Int32) = 105) (by decide), if_neg (c := (111 : Int32) = 106) (by decide), if_neg (c := (111 : Int32) = 107) (by decide), if_neg (c := (111 : Int32) = 108) (by decide), if_neg (c := (111 : Int32) = 109) (by decide), if_neg (c := (111 : Int32) = 110) (by decide), if_pos (c := (111 : Int32) = 111) rfl]
theorem rc_114 (hp : p < 120) (h10 : M 0 10 = nI p) (hs : M 1 p = 114) : fX12_readCommand M =
    bd2 (fX12_figures (mSpot M (p + 1)) 0 1 0 9) fun x201 S202 =>
    bd2 (fX12_figures S202 x201 1 0 3) fun x205 S206 =>
    if x205 = (-1) then
      some (0, S206)
    else
      bd (fX12_isCard (S206 3) x201) fun x210 =>
      if x210 = 0 then
        bd2 (fX12_done S206 0) fun x214 S215 =>
        if x214 = 0 then
          some (0, S215)
        else
          some (1, S215)
      else
        bd2 (fX12_rideOn (S206 3) x201 x205) fun x219 r221 =>
        lt_ (va_up S206 3 r221) fun S220 =>
        if x219 < 0 then
          bd2 (fX12_done S220 0) fun x226 S227 =>
          if x226 = 0 then
            some (0, S227)
          else
            some (1, S227)
        else
          bd2 (fX12_done S220 1) fun x231 S232 =>
          if x231 = 0 then
            some (0, S232)
          else
            some (1, S232) := by
  have hx : inb (nI p) 120 = true ∧ (nI p).toNatClampNeg = p := mx rfl hp (by decide)
  have hS : va_up M 0 (upd (M 0) 10 (nI (p + 1))) = mSpot M (p + 1) := rfl
  unfold fX12_readCommand
  rw [lt_eq, h10, m_gd hx.1, lt_eq, lt_eq, lt_eq, hx.2, hs, nI_1, hS, if_neg (c := (114 : Int32) = 99) (by decide), if_neg (c := (114 : Int32) = 100) (by decide), if_neg (c := (114 : Int32) = 101) (by decide), if_neg (c := (114 : Int32) = 102) (by decide), if_neg (c := (114 : Int32) = 103) (by decide), if_neg (c := (114 : Int32) = 104) (by decide), if_neg (c := (114 : Int32) = 105) (by decide), if_neg (c := (114 : Int32) = 106) (by decide), if_neg (c := (114 : Int32) = 107) (by decide), if_neg (c := (114 : Int32) = 108) (by decide), if_neg (c := (114 : Int32) = 109) (by decide), if_neg (c := (114 : Int32) = 110) (by decide), if_neg (c := (114 : Int32) = 111) (by decide), if_neg (c := (114 : Int32) = 112) (by decide), if_neg (c := (114 : Int32) = 113) (by decide), if_pos (c := (114 : Int32) = 114) rfl]
theorem rc_116 (hp : p < 120) (h10 : M 0 10 = nI p) (hs : M 1 p = 116) : fX12_readCommand M =
    bd2 (fX12_figures (mSpot M (p + 1)) 0 1 0 7) fun x242 S243 =>
    bd2 (fX12_figures S243 x242 2 1 99) fun x246 S247 =>
    if x246 = (-1) then
      if x246 = (-1) then
        some (0, S247)
      else
        bd (fX12_isAccount (S247 3) x242) fun x252 =>
        bd2 (fX12_done S247 x252) fun x255 S256 =>
        if x255 = 0 then
          some (0, S256)
        else
          some (1, S256)
    else
      bd (fX12_isAccount (S247 3) x242) fun x260 =>
      if x260 = 0 then
        if x246 = (-1) then
          some (0, S247)
        else
          bd (fX12_isAccount (S247 3) x242) fun x265 =>
          bd2 (fX12_done S247 x265) fun x268 S269 =>
          if x268 = 0 then
            some (0, S269)
          else
            some (1, S269)
      else
        bd2 (fX12_payOn (S247 3) x242 x246) fun x273 r275 =>
        lt_ (va_up S247 3 r275) fun S274 =>
        if x246 = (-1) then
          some (0, S274)
        else
          bd (fX12_isAccount (S274 3) x242) fun x280 =>
          bd2 (fX12_done S274 x280) fun x283 S284 =>
          if x283 = 0 then
            some (0, S284)
          else
            some (1, S284) := by
  have hx : inb (nI p) 120 = true ∧ (nI p).toNatClampNeg = p := mx rfl hp (by decide)
  have hS : va_up M 0 (upd (M 0) 10 (nI (p + 1))) = mSpot M (p + 1) := rfl
  unfold fX12_readCommand
  rw [lt_eq, h10, m_gd hx.1, lt_eq, lt_eq, lt_eq, hx.2, hs, nI_1, hS, if_neg (c := (116 : Int32) = 99) (by decide), if_neg (c := (116 : Int32) = 100) (by decide), if_neg (c := (116 : Int32) = 101) (by decide), if_neg (c := (116 : Int32) = 102) (by decide), if_neg (c := (116 : Int32) = 103) (by decide), if_neg (c := (116 : Int32) = 104) (by decide), if_neg (c := (116 : Int32) = 105) (by decide), if_neg (c := (116 : Int32) = 106) (by decide), if_neg (c := (116 : Int32) = 107) (by decide), if_neg (c := (116 : Int32) = 108) (by decide), if_neg (c := (116 : Int32) = 109) (by decide), if_neg (c := (116 : Int32) = 110) (by decide), if_neg (c := (116 : Int32) = 111) (by decide), if_neg (c := (116 : Int32) = 112) (by decide), if_neg (c := (116 : Int32) = 113) (by decide), if_neg (c := (116 : Int32) = 114) (by decide), if_neg (c := (116 : Int32) = 115) (by decide), if_pos (c := (116 : Int32) = 116) rfl]
theorem rc_117 (hp : p < 120) (h10 : M 0 10 = nI p) (hs : M 1 p = 117) : fX12_readCommand M =
    bd2 (fX12_figures (mSpot M (p + 1)) 0 1 0 3) fun x289 S290 =>
    if x289 = (-1) then
      some (0, S290)
    else
      if (117 : Int32) = 117 then
        bd2 (fX12_doesLine (S290 3) x289 1) fun x306 r308 =>
        lt_ (va_up S290 3 r308) fun S307 =>
        bd2 (fX12_done S307 x306) fun x312 S313 =>
        if x312 = 0 then
          some (0, S313)
        else
          some (1, S313)
      else
        bd2 (fX12_doesLine (S290 3) x289 0) fun x295 r297 =>
        lt_ (va_up S290 3 r297) fun S296 =>
        bd2 (fX12_done S296 x295) fun x301 S302 =>
        if x301 = 0 then
          some (0, S302)
        else
          some (1, S302) := by
  have hx : inb (nI p) 120 = true ∧ (nI p).toNatClampNeg = p := mx rfl hp (by decide)
  have hS : va_up M 0 (upd (M 0) 10 (nI (p + 1))) = mSpot M (p + 1) := rfl
  unfold fX12_readCommand
  rw [lt_eq, h10, m_gd hx.1, lt_eq, lt_eq, lt_eq, hx.2, hs, nI_1, hS, if_neg (c := (117 : Int32) = 99) (by decide), if_neg (c := (117 : Int32) = 100) (by decide), if_neg (c := (117 : Int32) = 101) (by decide), if_neg (c := (117 : Int32) = 102) (by decide), if_neg (c := (117 : Int32) = 103) (by decide), if_neg (c := (117 : Int32) = 104) (by decide), if_neg (c := (117 : Int32) = 105) (by decide), if_neg (c := (117 : Int32) = 106) (by decide), if_neg (c := (117 : Int32) = 107) (by decide), if_neg (c := (117 : Int32) = 108) (by decide), if_neg (c := (117 : Int32) = 109) (by decide), if_neg (c := (117 : Int32) = 110) (by decide), if_neg (c := (117 : Int32) = 111) (by decide), if_neg (c := (117 : Int32) = 112) (by decide), if_neg (c := (117 : Int32) = 113) (by decide), if_neg (c := (117 : Int32) = 114) (by decide), if_neg (c := (117 : Int32) = 115) (by decide), if_neg (c := (117 : Int32) = 116) (by decide), if_pos (c := (117 : Int32) = 117) rfl]
theorem rc_no (hp : p < 120) (h10 : M 0 10 = nI p) (h99 : ¬ M 1 p = 99) (h100 : ¬ M 1 p = 100) (h105 : ¬ M 1 p = 105) (h109 : ¬ M 1 p = 109) (h111 : ¬ M 1 p = 111) (h114 : ¬ M 1 p = 114) (h116 : ¬ M 1 p = 116) (h117 : ¬ M 1 p = 117) : fX12_readCommand M = some (0, mSpot M p) := by
  have hx : inb (nI p) 120 = true ∧ (nI p).toNatClampNeg = p := mx rfl hp (by decide)
  have hS : va_up M 0 (upd (M 0) 10 (nI (p + 1))) = mSpot M (p + 1) := rfl
  have r0 : (lt_ (mSpot M (p + 1) 0 10) fun x72 => lt_ (va_up (mSpot M (p + 1)) 0 (upd (mSpot M (p + 1) 0) 10 (x72 - 1))) fun S74 => some ((0 : Int32), S74)) = some (0, mSpot M p) := by
    rw [r_back (mSpot_10 _), mSpot_2]
  unfold fX12_readCommand
  rw [lt_eq, h10, m_gd hx.1, lt_eq, lt_eq, lt_eq, hx.2, nI_1, hS]
  rw [if_neg h99]
  rw [if_neg h100]
  refine ite_both r0 ?_
  refine ite_both r0 ?_
  refine ite_both r0 ?_
  refine ite_both r0 ?_
  rw [if_neg h105]
  refine ite_both r0 ?_
  refine ite_both r0 ?_
  refine ite_both r0 ?_
  rw [if_neg h109]
  refine ite_both r0 ?_
  rw [if_neg h111]
  refine ite_both r0 ?_
  refine ite_both r0 ?_
  rw [if_neg h114]
  refine ite_both r0 ?_
  rw [if_neg h116]
  rw [if_neg h117]
  exact r0
theorem dg_99 : fX2_digitsOf 99 = nI 1 := rfl
theorem dg_100 : fX2_digitsOf 100 = nI 1 := rfl
theorem dg_105 : fX2_digitsOf 105 = nI 2 := rfl
theorem dg_109 : fX2_digitsOf 109 = nI 2 := rfl
theorem dg_111 : fX2_digitsOf 111 = nI 1 := rfl
theorem dg_114 : fX2_digitsOf 114 = nI 2 := rfl
theorem dg_116 : fX2_digitsOf 116 = nI 3 := rfl
theorem dg_117 : fX2_digitsOf 117 = nI 1 := rfl
theorem dg_no {x : Int32} (h99 : ¬ x = 99) (h100 : ¬ x = 100) (h105 : ¬ x = 105) (h109 : ¬ x = 109) (h111 : ¬ x = 111) (h114 : ¬ x = 114) (h116 : ¬ x = 116) (h117 : ¬ x = 117) : fX2_digitsOf x = 0 := by
  unfold fX2_digitsOf
  rw [if_neg h99]
  rw [if_neg h100]
  refine ite_both rfl ?_
  refine ite_both rfl ?_
  refine ite_both rfl ?_
  refine ite_both rfl ?_
  rw [if_neg h105]
  refine ite_both rfl ?_
  refine ite_both rfl ?_
  refine ite_both rfl ?_
  rw [if_neg h109]
  refine ite_both rfl ?_
  rw [if_neg h111]
  refine ite_both rfl ?_
  refine ite_both rfl ?_
  rw [if_neg h114]
  refine ite_both rfl ?_
  rw [if_neg h116]
  rw [if_neg h117]
theorem pf_99 (hp : p < 120) (hs : X 3 p = 99) : fX1_perform S X (nI p) = bd2 (fX10_tryCopy S (fX2_digit X (nI (p + 1)))) fun x S9 => some (x, S9) := by
  unfold fX1_perform
  simp only [lt_eq]
  rw [xsign X hp, hs, nI_1, n_2, if_pos (c := (99 : Int32) = 99) rfl]
theorem pf_100 (hp : p < 120) (hs : X 3 p = 100) : fX1_perform S X (nI p) = bd2 (fX10_tryDown S (fX2_digit X (nI (p + 1)))) fun x S9 => some (x, S9) := by
  unfold fX1_perform
  simp only [lt_eq]
  rw [xsign X hp, hs, nI_1, n_2, if_neg (c := (100 : Int32) = 99) (by decide), if_pos (c := (100 : Int32) = 100) rfl]
theorem pf_105 (hp : p < 120) (hs : X 3 p = 105) : fX1_perform S X (nI p) = bd2 (fX10_tryIssue S (fX2_twoDigits X (nI (p + 1)))) fun x S9 => some (x, S9) := by
  unfold fX1_perform
  simp only [lt_eq]
  rw [xsign X hp, hs, nI_1, n_2, if_neg (c := (105 : Int32) = 99) (by decide), if_neg (c := (105 : Int32) = 100) (by decide), if_neg (c := (105 : Int32) = 101) (by decide), if_neg (c := (105 : Int32) = 102) (by decide), if_neg (c := (105 : Int32) = 103) (by decide), if_neg (c := (105 : Int32) = 104) (by decide), if_pos (c := (105 : Int32) = 105) rfl]
theorem pf_109 (hp : p < 120) (hs : X 3 p = 109) : fX1_perform S X (nI p) = bd2 (fX10_tryRun S (fX2_twoDigits X (nI (p + 1)))) fun x S9 => some (x, S9) := by
  unfold fX1_perform
  simp only [lt_eq]
  rw [xsign X hp, hs, nI_1, n_2, if_neg (c := (109 : Int32) = 99) (by decide), if_neg (c := (109 : Int32) = 100) (by decide), if_neg (c := (109 : Int32) = 101) (by decide), if_neg (c := (109 : Int32) = 102) (by decide), if_neg (c := (109 : Int32) = 103) (by decide), if_neg (c := (109 : Int32) = 104) (by decide), if_neg (c := (109 : Int32) = 105) (by decide), if_neg (c := (109 : Int32) = 106) (by decide), if_neg (c := (109 : Int32) = 107) (by decide), if_neg (c := (109 : Int32) = 108) (by decide), if_pos (c := (109 : Int32) = 109) rfl]
theorem pf_111 (hp : p < 120) (hs : X 3 p = 111) : fX1_perform S X (nI p) = bd2 (fX10_tryOpen S (fX2_digit X (nI (p + 1)))) fun x S9 => some (x, S9) := by
  unfold fX1_perform
  simp only [lt_eq]
  rw [xsign X hp, hs, nI_1, n_2, if_neg (c := (111 : Int32) = 99) (by decide), if_neg (c := (111 : Int32) = 100) (by decide), if_neg (c := (111 : Int32) = 101) (by decide), if_neg (c := (111 : Int32) = 102) (by decide), if_neg (c := (111 : Int32) = 103) (by decide), if_neg (c := (111 : Int32) = 104) (by decide), if_neg (c := (111 : Int32) = 105) (by decide), if_neg (c := (111 : Int32) = 106) (by decide), if_neg (c := (111 : Int32) = 107) (by decide), if_neg (c := (111 : Int32) = 108) (by decide), if_neg (c := (111 : Int32) = 109) (by decide), if_neg (c := (111 : Int32) = 110) (by decide), if_pos (c := (111 : Int32) = 111) rfl]
theorem pf_114 (hp : p < 120) (hs : X 3 p = 114) : fX1_perform S X (nI p) = bd2 (fX10_showCard S (fX2_digit X (nI (p + 1))) (fX2_digit X (nI (p + 2)))) fun x S9 => if x = -1 then some (0, S9) else some (1, S9) := by
  unfold fX1_perform
  simp only [lt_eq]
  rw [xsign X hp, hs, nI_1, n_2, if_neg (c := (114 : Int32) = 99) (by decide), if_neg (c := (114 : Int32) = 100) (by decide), if_neg (c := (114 : Int32) = 101) (by decide), if_neg (c := (114 : Int32) = 102) (by decide), if_neg (c := (114 : Int32) = 103) (by decide), if_neg (c := (114 : Int32) = 104) (by decide), if_neg (c := (114 : Int32) = 105) (by decide), if_neg (c := (114 : Int32) = 106) (by decide), if_neg (c := (114 : Int32) = 107) (by decide), if_neg (c := (114 : Int32) = 108) (by decide), if_neg (c := (114 : Int32) = 109) (by decide), if_neg (c := (114 : Int32) = 110) (by decide), if_neg (c := (114 : Int32) = 111) (by decide), if_neg (c := (114 : Int32) = 112) (by decide), if_neg (c := (114 : Int32) = 113) (by decide), if_pos (c := (114 : Int32) = 114) rfl]
theorem pf_116 (hp : p < 120) (hs : X 3 p = 116) : fX1_perform S X (nI p) = bd2 (fX10_tryPay S (fX2_digit X (nI (p + 1))) (fX2_twoDigits X (nI (p + 2)))) fun x S9 => some (x, S9) := by
  unfold fX1_perform
  simp only [lt_eq]
  rw [xsign X hp, hs, nI_1, n_2, if_neg (c := (116 : Int32) = 99) (by decide), if_neg (c := (116 : Int32) = 100) (by decide), if_neg (c := (116 : Int32) = 101) (by decide), if_neg (c := (116 : Int32) = 102) (by decide), if_neg (c := (116 : Int32) = 103) (by decide), if_neg (c := (116 : Int32) = 104) (by decide), if_neg (c := (116 : Int32) = 105) (by decide), if_neg (c := (116 : Int32) = 106) (by decide), if_neg (c := (116 : Int32) = 107) (by decide), if_neg (c := (116 : Int32) = 108) (by decide), if_neg (c := (116 : Int32) = 109) (by decide), if_neg (c := (116 : Int32) = 110) (by decide), if_neg (c := (116 : Int32) = 111) (by decide), if_neg (c := (116 : Int32) = 112) (by decide), if_neg (c := (116 : Int32) = 113) (by decide), if_neg (c := (116 : Int32) = 114) (by decide), if_neg (c := (116 : Int32) = 115) (by decide), if_pos (c := (116 : Int32) = 116) rfl]
theorem pf_117 (hp : p < 120) (hs : X 3 p = 117) : fX1_perform S X (nI p) = bd2 (fX10_tryUp S (fX2_digit X (nI (p + 1)))) fun x S9 => some (x, S9) := by
  unfold fX1_perform
  simp only [lt_eq]
  rw [xsign X hp, hs, nI_1, n_2, if_neg (c := (117 : Int32) = 99) (by decide), if_neg (c := (117 : Int32) = 100) (by decide), if_neg (c := (117 : Int32) = 101) (by decide), if_neg (c := (117 : Int32) = 102) (by decide), if_neg (c := (117 : Int32) = 103) (by decide), if_neg (c := (117 : Int32) = 104) (by decide), if_neg (c := (117 : Int32) = 105) (by decide), if_neg (c := (117 : Int32) = 106) (by decide), if_neg (c := (117 : Int32) = 107) (by decide), if_neg (c := (117 : Int32) = 108) (by decide), if_neg (c := (117 : Int32) = 109) (by decide), if_neg (c := (117 : Int32) = 110) (by decide), if_neg (c := (117 : Int32) = 111) (by decide), if_neg (c := (117 : Int32) = 112) (by decide), if_neg (c := (117 : Int32) = 113) (by decide), if_neg (c := (117 : Int32) = 114) (by decide), if_neg (c := (117 : Int32) = 115) (by decide), if_neg (c := (117 : Int32) = 116) (by decide), if_pos (c := (117 : Int32) = 117) rfl]
end READ
