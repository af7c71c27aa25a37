/-! the row model (of whole's reference): a ghost here, nothing of it is on the heap -/
def fX12_in (a1 : Int64) (a2 : Int64) (a3 : Int64) : Int32 :=
  if (lg_cmp a1 a2) < 0 then
    0
  else
    if 0 < (lg_cmp a1 a3) then
      0
    else
      1
def fX12_cardAt (a1 : Int32) : Int32 :=
  (12 + (4 * a1))
def fX12_accountAt (a1 : Int32) : Int32 :=
  (52 + (4 * a1))
def fX12_gateAt (a1 : Int32) : Int32 :=
  (84 + (5 * a1))
def fX12_logAt (a1 : Int32) (a2 : Int32) : Int32 :=
  ((104 + (36 * a1)) + (3 * a2))
def fX12_isGate (a1 : Int32) : Int32 :=
  lt_ (fX12_in  ((a1 : Int32).toInt64) 0 3) fun x2 =>
  x2
def fX12_isThrough (a1 : Int32) : Int32 :=
  if a1 < 3 then
    1
  else
    if a1 = 7 then
      1
    else
      0
def fX12_isSetting (a1 : Int32) (a2 : Int32) : Int32 :=
  lt_ (fX12_in  ((a1 : Int32).toInt64) 0 3) fun x2 =>
  if x2 = 0 then
    0
  else
    if a1 = 0 then
      lt_ (fX12_in  ((a2 : Int32).toInt64) 0 50) fun x21 =>
      if x21 = 0 then
        0
      else
        1
    else
      if a1 = 1 then
        lt_ (fX12_in  ((a2 : Int32).toInt64) 0 30) fun x17 =>
        if x17 = 0 then
          0
        else
          1
      else
        if a1 = 2 then
          lt_ (fX12_in  ((a2 : Int32).toInt64) 0 1) fun x13 =>
          if x13 = 0 then
            0
          else
            1
        else
          lt_ (fX12_in  ((a2 : Int32).toInt64) 0 99) fun x9 =>
          if x9 = 0 then
            0
          else
            1
def fX12_begin_L38 (n : Nat) (f : (Nat → Int32)) (y1 : Int32) : Option (Nat → Int32) :=
  match n with
  | 0 => none
  | n + 1 =>
    if 4 ≤ y1 then
      some f
    else
      lt_ (fX12_gateAt  y1) fun x13 =>
      gd (inb (x13 + 0) 1272) <|
      lt_ (upd f ((x13 + 0) : Int32).toNatClampNeg 2) fun r16 =>
      lt_ (fX12_gateAt  y1) fun x19 =>
      gd (inb (x19 + 1) 1272) <|
      lt_ (upd r16 ((x19 + 1) : Int32).toNatClampNeg 1) fun r22 =>
      lt_ (y1 + 1) fun x24 =>
      fX12_begin_L38 n r22 x24
def fX12_begin_L2 (n : Nat) (f : (Nat → Int32)) (y1 : Int32) : Option (Nat → Int32) :=
  match n with
  | 0 => none
  | n + 1 =>
    if 1272 ≤ y1 then
      gd (inb 8 1272) <|
      lt_ (upd f (8 : Int32).toNatClampNeg 10) fun r3 =>
      gd (inb 9 1272) <|
      lt_ (upd r3 (9 : Int32).toNatClampNeg 5) fun r6 =>
      gd (inb 11 1272) <|
      lt_ (upd r6 (11 : Int32).toNatClampNeg 20) fun r9 =>
      fX12_begin_L38 3000 r9 0
    else
      gd (inb y1 1272) <|
      lt_ (upd f (y1 : Int32).toNatClampNeg 0) fun r27 =>
      lt_ (y1 + 1) fun x29 =>
      fX12_begin_L2 n r27 x29
def fX12_begin (f : (Nat → Int32)) : Option (Nat → Int32) :=
  fX12_begin_L2 3000 f 0
def fX12_isCard (f : (Nat → Int32)) (a2 : Int32) : Option Int32 :=
  gd (inb 0 1272) <|
  lt_ (f (0 : Int32).toNatClampNeg) fun x2 =>
  lt_ (fX12_in  ((a2 : Int32).toInt64) 0 (((x2 - 1) : Int32).toInt64)) fun x5 =>
  some x5
def fX12_isAccount (f : (Nat → Int32)) (a2 : Int32) : Option Int32 :=
  gd (inb 1 1272) <|
  lt_ (f (1 : Int32).toNatClampNeg) fun x2 =>
  lt_ (fX12_in  ((a2 : Int32).toInt64) 0 (((x2 - 1) : Int32).toInt64)) fun x5 =>
  some x5
def fX12_isUp (f : (Nat → Int32)) (a2 : Int32) : Option Int32 :=
  lt_ (fX12_gateAt  a2) fun x2 =>
  gd (inb (x2 + 1) 1272) <|
  lt_ (f ((x2 + 1) : Int32).toNatClampNeg) fun x5 =>
  if x5 = 1 then
    some 1
  else
    some 0
def fX12_isBlocked (f : (Nat → Int32)) (a2 : Int32) : Option Int32 :=
  lt_ (fX12_accountAt  a2) fun x2 =>
  gd (inb (x2 + 0) 1272) <|
  lt_ (f ((x2 + 0) : Int32).toNatClampNeg) fun x5 =>
  if x5 < 0 then
    some 1
  else
    lt_ (fX12_accountAt  a2) fun x9 =>
    gd (inb (x9 + 2) 1272) <|
    lt_ (f ((x9 + 2) : Int32).toNatClampNeg) fun x12 =>
    if x12 = 1 then
      some 1
    else
      some 0
def fX12_blocked_L4 (f : (Nat → Int32)) (n : Nat) (y1 : Int32) (y2 : Int32) : Option Int32 :=
  match n with
  | 0 => none
  | n + 1 =>
    gd (inb 1 1272) <|
    lt_ (f (1 : Int32).toNatClampNeg) fun x2 =>
    if x2 ≤ y2 then
      some y1
    else
      bd (fX12_isBlocked f y2) fun x6 =>
      if x6 = 0 then
        lt_ ((y1 ||| 0)) fun x9 =>
        lt_ (y2 + 1) fun x11 =>
        fX12_blocked_L4 f n x9 x11
      else
        lt_ ((y1 ||| (1 <<< (y2 &&& 31)))) fun x13 =>
        lt_ (y2 + 1) fun x15 =>
        fX12_blocked_L4 f n x13 x15
def fX12_blocked (f : (Nat → Int32)) : Option Int32 :=
  fX12_blocked_L4 f 3000 0 0
def fX12_list (f : (Nat → Int32)) (a2 : Int32) : Option Int32 :=
  bd (fX12_isUp f a2) fun x2 =>
  if x2 = 0 then
    lt_ (fX12_gateAt  a2) fun x6 =>
    gd (inb (x6 + 4) 1272) <|
    lt_ (f ((x6 + 4) : Int32).toNatClampNeg) fun x9 =>
    some x9
  else
    bd (fX12_blocked f) fun x12 =>
    some x12
def fX12_isSettled (f : (Nat → Int32)) (a2 : Int32) (a3 : Int32) : Option Int32 :=
  gd (inb ((248 + (128 * a2)) + ((a3 / 32) - (a3 / 32) / 128 * 128)) 1272) <|
  lt_ (f (((248 + (128 * a2)) + ((a3 / 32) - (a3 / 32) / 128 * 128)) : Int32).toNatClampNeg) fun x2 =>
  if ((x2 >>> ((a3 - a3 / 32 * 32) &&& 31)) &&& 1) = 1 then
    some 1
  else
    some 0
def fX12_settle (f : (Nat → Int32)) (a2 : Int32) (a3 : Int32) (a4 : Int32) : Option (Int32 × (Nat → Int32)) :=
  lt_ (fX12_accountAt  a2) fun x2 =>
  bd (fX12_isSettled f a2 a3) fun x5 =>
  if x5 = 0 then
    gd (inb ((248 + (128 * a2)) + ((a3 / 32) - (a3 / 32) / 128 * 128)) 1272) <|
    lt_ (f (((248 + (128 * a2)) + ((a3 / 32) - (a3 / 32) / 128 * 128)) : Int32).toNatClampNeg) fun x9 =>
    lt_ (upd f (((248 + (128 * a2)) + ((a3 / 32) - (a3 / 32) / 128 * 128)) : Int32).toNatClampNeg (x9 ||| (1 <<< ((a3 - a3 / 32 * 32) &&& 31)))) fun r11 =>
    gd (inb (x2 + 3) 1272) <|
    lt_ (r11 ((x2 + 3) : Int32).toNatClampNeg) fun x14 =>
    lt_ (upd r11 ((x2 + 3) : Int32).toNatClampNeg (x14 + 1)) fun r16 =>
    gd (inb (x2 + 0) 1272) <|
    lt_ (r16 ((x2 + 0) : Int32).toNatClampNeg) fun x19 =>
    lt_ (upd r16 ((x2 + 0) : Int32).toNatClampNeg (x19 - a4)) fun r21 =>
    gd (inb 3 1272) <|
    lt_ (r21 (3 : Int32).toNatClampNeg) fun x24 =>
    lt_ (upd r21 (3 : Int32).toNatClampNeg (x24 + 1)) fun r26 =>
    gd (inb 4 1272) <|
    lt_ (r26 (4 : Int32).toNatClampNeg) fun x29 =>
    lt_ (upd r26 (4 : Int32).toNatClampNeg (x29 + a4)) fun r31 =>
    some (0, r31)
  else
    gd (inb (x2 + 0) 1272) <|
    lt_ (f ((x2 + 0) : Int32).toNatClampNeg) fun x34 =>
    gd (inb 11 1272) <|
    lt_ (f (11 : Int32).toNatClampNeg) fun x37 =>
    lt_ (upd f ((x2 + 0) : Int32).toNatClampNeg (x34 - x37)) fun r39 =>
    gd (inb (x2 + 2) 1272) <|
    lt_ (upd r39 ((x2 + 2) : Int32).toNatClampNeg 1) fun r42 =>
    gd (inb 5 1272) <|
    lt_ (r42 (5 : Int32).toNatClampNeg) fun x45 =>
    lt_ (upd r42 (5 : Int32).toNatClampNeg (x45 + 1)) fun r47 =>
    some (1, r47)
def fX12_upOn_L6 (n : Nat) (f : (Nat → Int32)) (y1 : Int32) (y2 : Int32) (y3 : Int32) : Option (Int32 × (Nat → Int32)) :=
  match n with
  | 0 => none
  | n + 1 =>
    lt_ (fX12_gateAt  y1) fun x5 =>
    gd (inb (x5 + 3) 1272) <|
    lt_ (f ((x5 + 3) : Int32).toNatClampNeg) fun x8 =>
    if x8 ≤ y3 then
      lt_ (fX12_gateAt  y1) fun x12 =>
      gd (inb (x12 + 3) 1272) <|
      lt_ (upd f ((x12 + 3) : Int32).toNatClampNeg 0) fun r15 =>
      lt_ (fX12_gateAt  y1) fun x18 =>
      gd (inb (x18 + 1) 1272) <|
      lt_ (upd r15 ((x18 + 1) : Int32).toNatClampNeg 1) fun r21 =>
      lt_ (fX12_gateAt  y1) fun x24 =>
      gd (inb (x24 + 4) 1272) <|
      lt_ (upd r21 ((x24 + 4) : Int32).toNatClampNeg 0) fun r27 =>
      gd (inb 5 1272) <|
      lt_ (r27 (5 : Int32).toNatClampNeg) fun x30 =>
      some ((x30 - y2), r27)
    else
      lt_ (fX12_logAt  y1 y3) fun x33 =>
      gd (inb x33 1272) <|
      lt_ (f (x33 : Int32).toNatClampNeg) fun x36 =>
      lt_ (fX12_logAt  y1 y3) fun x39 =>
      gd (inb (x39 + 1) 1272) <|
      lt_ (f ((x39 + 1) : Int32).toNatClampNeg) fun x42 =>
      lt_ (fX12_logAt  y1 y3) fun x45 =>
      gd (inb (x45 + 2) 1272) <|
      lt_ (f ((x45 + 2) : Int32).toNatClampNeg) fun x48 =>
      bd2 (fX12_settle f x36 x42 x48) fun x51 S52 =>
      lt_ (y3 + 1) fun x54 =>
      fX12_upOn_L6 n S52 y1 y2 x54
def fX12_upOn (f : (Nat → Int32)) (a2 : Int32) : Option (Int32 × (Nat → Int32)) :=
  gd (inb 5 1272) <|
  lt_ (f (5 : Int32).toNatClampNeg) fun x2 =>
  fX12_upOn_L6 3000 f a2 x2 0
def fX12_downOn (f : (Nat → Int32)) (a2 : Int32) : Option (Int32 × (Nat → Int32)) :=
  lt_ (fX12_gateAt  a2) fun x2 =>
  bd (fX12_blocked f) fun x5 =>
  gd (inb (x2 + 4) 1272) <|
  lt_ (upd f ((x2 + 4) : Int32).toNatClampNeg x5) fun r8 =>
  lt_ (fX12_gateAt  a2) fun x11 =>
  gd (inb (x11 + 1) 1272) <|
  lt_ (upd r8 ((x11 + 1) : Int32).toNatClampNeg 0) fun r14 =>
  lt_ (fX12_gateAt  a2) fun x17 =>
  gd (inb (x17 + 4) 1272) <|
  lt_ (r14 ((x17 + 4) : Int32).toNatClampNeg) fun x20 =>
  some (x20, r14)
def fX12_comesTo (f : (Nat → Int32)) (a2 : Int32) (a3 : Int32) : Option Int32 :=
  lt_ (fX12_cardAt  a2) fun x2 =>
  lt_ (fX12_gateAt  a3) fun x5 =>
  bd (fX12_list f a3) fun x8 =>
  gd (inb (x2 + 0) 1272) <|
  lt_ (f ((x2 + 0) : Int32).toNatClampNeg) fun x11 =>
  if ((x8 >>> (x11 &&& 31)) &&& 1) = 1 then
    some 3
  else
    gd (inb (x2 + 3) 1272) <|
    lt_ (f ((x2 + 3) : Int32).toNatClampNeg) fun x15 =>
    if x15 ≤ 0 then
      bd (fX12_isUp f a3) fun x19 =>
      if x19 = 0 then
        gd (inb 8 1272) <|
        lt_ (f (8 : Int32).toNatClampNeg) fun x23 =>
        lt_ ((-x23)) fun x25 =>
        gd (inb (x2 + 1) 1272) <|
        lt_ (f ((x2 + 1) : Int32).toNatClampNeg) fun x28 =>
        gd (inb (x5 + 0) 1272) <|
        lt_ (f ((x5 + 0) : Int32).toNatClampNeg) fun x31 =>
        if x25 ≤ (x28 - x31) then
          bd (fX12_isUp f a3) fun x35 =>
          if x35 = 0 then
            gd (inb (x5 + 3) 1272) <|
            lt_ (f ((x5 + 3) : Int32).toNatClampNeg) fun x39 =>
            if 12 ≤ x39 then
              gd (inb 10 1272) <|
              lt_ (f (10 : Int32).toNatClampNeg) fun x43 =>
              if x43 = 1 then
                some 7
              else
                some 6
            else
              some 1
          else
            some 0
        else
          some 5
      else
        gd (inb (x2 + 1) 1272) <|
        lt_ (f ((x2 + 1) : Int32).toNatClampNeg) fun x47 =>
        gd (inb (x5 + 0) 1272) <|
        lt_ (f ((x5 + 0) : Int32).toNatClampNeg) fun x50 =>
        if 0 ≤ (x47 - x50) then
          bd (fX12_isUp f a3) fun x54 =>
          if x54 = 0 then
            gd (inb (x5 + 3) 1272) <|
            lt_ (f ((x5 + 3) : Int32).toNatClampNeg) fun x58 =>
            if 12 ≤ x58 then
              gd (inb 10 1272) <|
              lt_ (f (10 : Int32).toNatClampNeg) fun x62 =>
              if x62 = 1 then
                some 7
              else
                some 6
            else
              some 1
          else
            some 0
        else
          some 5
    else
      gd (inb 2 1272) <|
      lt_ (f (2 : Int32).toNatClampNeg) fun x66 =>
      lt_ (f ((x2 + 3) : Int32).toNatClampNeg) fun x68 =>
      gd (inb 9 1272) <|
      lt_ (f (9 : Int32).toNatClampNeg) fun x71 =>
      if x71 ≤ (x66 - (x68 - 1)) then
        bd (fX12_isUp f a3) fun x75 =>
        if x75 = 0 then
          gd (inb 8 1272) <|
          lt_ (f (8 : Int32).toNatClampNeg) fun x79 =>
          lt_ ((-x79)) fun x81 =>
          gd (inb (x2 + 1) 1272) <|
          lt_ (f ((x2 + 1) : Int32).toNatClampNeg) fun x84 =>
          gd (inb (x5 + 0) 1272) <|
          lt_ (f ((x5 + 0) : Int32).toNatClampNeg) fun x87 =>
          if x81 ≤ (x84 - x87) then
            bd (fX12_isUp f a3) fun x91 =>
            if x91 = 0 then
              gd (inb (x5 + 3) 1272) <|
              lt_ (f ((x5 + 3) : Int32).toNatClampNeg) fun x95 =>
              if 12 ≤ x95 then
                gd (inb 10 1272) <|
                lt_ (f (10 : Int32).toNatClampNeg) fun x99 =>
                if x99 = 1 then
                  some 7
                else
                  some 6
              else
                some 1
            else
              some 0
          else
            some 5
        else
          gd (inb (x2 + 1) 1272) <|
          lt_ (f ((x2 + 1) : Int32).toNatClampNeg) fun x103 =>
          gd (inb (x5 + 0) 1272) <|
          lt_ (f ((x5 + 0) : Int32).toNatClampNeg) fun x106 =>
          if 0 ≤ (x103 - x106) then
            bd (fX12_isUp f a3) fun x110 =>
            if x110 = 0 then
              gd (inb (x5 + 3) 1272) <|
              lt_ (f ((x5 + 3) : Int32).toNatClampNeg) fun x114 =>
              if 12 ≤ x114 then
                gd (inb 10 1272) <|
                lt_ (f (10 : Int32).toNatClampNeg) fun x118 =>
                if x118 = 1 then
                  some 7
                else
                  some 6
              else
                some 1
            else
              some 0
          else
            some 5
      else
        some 4
def fX12_rideOn (f : (Nat → Int32)) (a2 : Int32) (a3 : Int32) : Option (Int32 × (Nat → Int32)) :=
  lt_ (fX12_cardAt  a2) fun x2 =>
  lt_ (fX12_gateAt  a3) fun x5 =>
  gd (inb (x2 + 0) 1272) <|
  lt_ (f ((x2 + 0) : Int32).toNatClampNeg) fun x8 =>
  gd (inb (x5 + 2) 1272) <|
  lt_ (f ((x5 + 2) : Int32).toNatClampNeg) fun x11 =>
  if x11 = 1 then
    gd (inb 7 1272) <|
    lt_ (f (7 : Int32).toNatClampNeg) fun x159 =>
    lt_ (upd f (7 : Int32).toNatClampNeg (x159 + 1)) fun r161 =>
    some (2, r161)
  else
    bd (fX12_isUp f a3) fun x15 =>
    if x15 = 0 then
      bd (fX12_comesTo f a2 a3) fun x19 =>
      if x19 ≤ 1 then
        gd (inb (x5 + 0) 1272) <|
        lt_ (f ((x5 + 0) : Int32).toNatClampNeg) fun x23 =>
        gd (inb (x2 + 1) 1272) <|
        lt_ (f ((x2 + 1) : Int32).toNatClampNeg) fun x26 =>
        lt_ (upd f ((x2 + 1) : Int32).toNatClampNeg (x26 - x23)) fun r28 =>
        gd (inb (x2 + 2) 1272) <|
        lt_ (r28 ((x2 + 2) : Int32).toNatClampNeg) fun x31 =>
        lt_ (upd r28 ((x2 + 2) : Int32).toNatClampNeg (x31 + 1)) fun r33 =>
        gd (inb 2 1272) <|
        lt_ (r33 (2 : Int32).toNatClampNeg) fun x36 =>
        gd (inb (x2 + 3) 1272) <|
        lt_ (upd r33 ((x2 + 3) : Int32).toNatClampNeg (x36 + 1)) fun r39 =>
        if x19 = 0 then
          lt_ (r39 ((x2 + 2) : Int32).toNatClampNeg) fun x63 =>
          bd2 (fX12_settle r39 x8 x63 x23) fun x66 S67 =>
          some (x19, S67)
        else
          gd (inb (x5 + 3) 1272) <|
          lt_ (r39 ((x5 + 3) : Int32).toNatClampNeg) fun x43 =>
          lt_ (fX12_logAt  a3 x43) fun x46 =>
          gd (inb x46 1272) <|
          lt_ (upd r39 (x46 : Int32).toNatClampNeg x8) fun r49 =>
          lt_ (r49 ((x2 + 2) : Int32).toNatClampNeg) fun x51 =>
          gd (inb (x46 + 1) 1272) <|
          lt_ (upd r49 ((x46 + 1) : Int32).toNatClampNeg x51) fun r54 =>
          gd (inb (x46 + 2) 1272) <|
          lt_ (upd r54 ((x46 + 2) : Int32).toNatClampNeg x23) fun r57 =>
          lt_ (r57 ((x5 + 3) : Int32).toNatClampNeg) fun x59 =>
          lt_ (upd r57 ((x5 + 3) : Int32).toNatClampNeg (x59 + 1)) fun r61 =>
          some (x19, r61)
      else
        if x19 = 7 then
          gd (inb 7 1272) <|
          lt_ (f (7 : Int32).toNatClampNeg) fun x76 =>
          lt_ (upd f (7 : Int32).toNatClampNeg (x76 + 1)) fun r78 =>
          some (x19, r78)
        else
          gd (inb 6 1272) <|
          lt_ (f (6 : Int32).toNatClampNeg) fun x71 =>
          lt_ (upd f (6 : Int32).toNatClampNeg (x71 + 1)) fun r73 =>
          some (x19, r73)
    else
      gd (inb (x2 + 1) 1272) <|
      lt_ (f ((x2 + 1) : Int32).toNatClampNeg) fun x81 =>
      lt_ (fX12_accountAt  x8) fun x84 =>
      gd (inb (x84 + 1) 1272) <|
      lt_ (f ((x84 + 1) : Int32).toNatClampNeg) fun x87 =>
      lt_ (upd f ((x2 + 1) : Int32).toNatClampNeg (x81 + x87)) fun r89 =>
      lt_ (fX12_accountAt  x8) fun x92 =>
      gd (inb (x92 + 1) 1272) <|
      lt_ (upd r89 ((x92 + 1) : Int32).toNatClampNeg 0) fun r95 =>
      bd (fX12_comesTo r95 a2 a3) fun x98 =>
      if x98 ≤ 1 then
        gd (inb (x5 + 0) 1272) <|
        lt_ (r95 ((x5 + 0) : Int32).toNatClampNeg) fun x102 =>
        lt_ (r95 ((x2 + 1) : Int32).toNatClampNeg) fun x104 =>
        lt_ (upd r95 ((x2 + 1) : Int32).toNatClampNeg (x104 - x102)) fun r106 =>
        gd (inb (x2 + 2) 1272) <|
        lt_ (r106 ((x2 + 2) : Int32).toNatClampNeg) fun x109 =>
        lt_ (upd r106 ((x2 + 2) : Int32).toNatClampNeg (x109 + 1)) fun r111 =>
        gd (inb 2 1272) <|
        lt_ (r111 (2 : Int32).toNatClampNeg) fun x114 =>
        gd (inb (x2 + 3) 1272) <|
        lt_ (upd r111 ((x2 + 3) : Int32).toNatClampNeg (x114 + 1)) fun r117 =>
        if x98 = 0 then
          lt_ (r117 ((x2 + 2) : Int32).toNatClampNeg) fun x141 =>
          bd2 (fX12_settle r117 x8 x141 x102) fun x144 S145 =>
          some (x98, S145)
        else
          gd (inb (x5 + 3) 1272) <|
          lt_ (r117 ((x5 + 3) : Int32).toNatClampNeg) fun x121 =>
          lt_ (fX12_logAt  a3 x121) fun x124 =>
          gd (inb x124 1272) <|
          lt_ (upd r117 (x124 : Int32).toNatClampNeg x8) fun r127 =>
          lt_ (r127 ((x2 + 2) : Int32).toNatClampNeg) fun x129 =>
          gd (inb (x124 + 1) 1272) <|
          lt_ (upd r127 ((x124 + 1) : Int32).toNatClampNeg x129) fun r132 =>
          gd (inb (x124 + 2) 1272) <|
          lt_ (upd r132 ((x124 + 2) : Int32).toNatClampNeg x102) fun r135 =>
          lt_ (r135 ((x5 + 3) : Int32).toNatClampNeg) fun x137 =>
          lt_ (upd r135 ((x5 + 3) : Int32).toNatClampNeg (x137 + 1)) fun r139 =>
          some (x98, r139)
      else
        if x98 = 7 then
          gd (inb 7 1272) <|
          lt_ (r95 (7 : Int32).toNatClampNeg) fun x154 =>
          lt_ (upd r95 (7 : Int32).toNatClampNeg (x154 + 1)) fun r156 =>
          some (x98, r156)
        else
          gd (inb 6 1272) <|
          lt_ (r95 (6 : Int32).toNatClampNeg) fun x149 =>
          lt_ (upd r95 (6 : Int32).toNatClampNeg (x149 + 1)) fun r151 =>
          some (x98, r151)
def fX12_canIssue (f : (Nat → Int32)) : Option Int32 :=
  gd (inb 1 1272) <|
  lt_ (f (1 : Int32).toNatClampNeg) fun x2 =>
  if 8 ≤ x2 then
    some 0
  else
    gd (inb 0 1272) <|
    lt_ (f (0 : Int32).toNatClampNeg) fun x6 =>
    if 10 ≤ x6 then
      some 0
    else
      some 1
def fX12_issueOn (f : (Nat → Int32)) (a2 : Int32) : Option (Int32 × (Nat → Int32)) :=
  gd (inb 0 1272) <|
  lt_ (f (0 : Int32).toNatClampNeg) fun x2 =>
  gd (inb 1 1272) <|
  lt_ (f (1 : Int32).toNatClampNeg) fun x5 =>
  lt_ (fX12_accountAt  x5) fun x8 =>
  gd (inb (x8 + 0) 1272) <|
  lt_ (upd f ((x8 + 0) : Int32).toNatClampNeg a2) fun r11 =>
  lt_ (fX12_cardAt  x2) fun x14 =>
  gd (inb (x14 + 0) 1272) <|
  lt_ (upd r11 ((x14 + 0) : Int32).toNatClampNeg x5) fun r17 =>
  lt_ (fX12_cardAt  x2) fun x20 =>
  gd (inb (x20 + 1) 1272) <|
  lt_ (upd r17 ((x20 + 1) : Int32).toNatClampNeg a2) fun r23 =>
  lt_ (r23 (0 : Int32).toNatClampNeg) fun x25 =>
  lt_ (upd r23 (0 : Int32).toNatClampNeg (x25 + 1)) fun r27 =>
  lt_ (r27 (1 : Int32).toNatClampNeg) fun x29 =>
  lt_ (upd r27 (1 : Int32).toNatClampNeg (x29 + 1)) fun r31 =>
  some (x2, r31)
def fX12_canCopy (f : (Nat → Int32)) (a2 : Int32) : Option Int32 :=
  bd (fX12_isCard f a2) fun x2 =>
  if x2 = 0 then
    some 0
  else
    gd (inb 0 1272) <|
    lt_ (f (0 : Int32).toNatClampNeg) fun x6 =>
    if 10 ≤ x6 then
      some 0
    else
      some 1
def fX12_copyOn_L6 (n : Nat) (f : (Nat → Int32)) (y1 : Int32) (y2 : Int32) (y3 : Int32) : Option (Int32 × (Nat → Int32)) :=
  match n with
  | 0 => none
  | n + 1 =>
    if 4 ≤ y3 then
      gd (inb 0 1272) <|
      lt_ (f (0 : Int32).toNatClampNeg) fun x6 =>
      lt_ (upd f (0 : Int32).toNatClampNeg (x6 + 1)) fun r8 =>
      some (y2, r8)
    else
      lt_ (fX12_cardAt  y2) fun x11 =>
      lt_ (fX12_cardAt  y1) fun x14 =>
      gd (inb (x14 + y3) 1272) <|
      lt_ (f ((x14 + y3) : Int32).toNatClampNeg) fun x17 =>
      gd (inb (x11 + y3) 1272) <|
      lt_ (upd f ((x11 + y3) : Int32).toNatClampNeg x17) fun r20 =>
      lt_ (y3 + 1) fun x22 =>
      fX12_copyOn_L6 n r20 y1 y2 x22
def fX12_copyOn (f : (Nat → Int32)) (a2 : Int32) : Option (Int32 × (Nat → Int32)) :=
  gd (inb 0 1272) <|
  lt_ (f (0 : Int32).toNatClampNeg) fun x2 =>
  fX12_copyOn_L6 3000 f a2 x2 0
def fX12_payOn (f : (Nat → Int32)) (a2 : Int32) (a3 : Int32) : Option (Int32 × (Nat → Int32)) :=
  lt_ (fX12_accountAt  a2) fun x2 =>
  gd (inb (x2 + 0) 1272) <|
  lt_ (f ((x2 + 0) : Int32).toNatClampNeg) fun x5 =>
  lt_ (upd f ((x2 + 0) : Int32).toNatClampNeg (x5 + a3)) fun r7 =>
  lt_ (fX12_accountAt  a2) fun x10 =>
  gd (inb (x10 + 1) 1272) <|
  lt_ (r7 ((x10 + 1) : Int32).toNatClampNeg) fun x13 =>
  lt_ (upd r7 ((x10 + 1) : Int32).toNatClampNeg (x13 + a3)) fun r15 =>
  lt_ (fX12_accountAt  a2) fun x18 =>
  gd (inb (x18 + 0) 1272) <|
  lt_ (r15 ((x18 + 0) : Int32).toNatClampNeg) fun x21 =>
  some (x21, r15)
def fX12_openOn (f : (Nat → Int32)) (a2 : Int32) : Option (Int32 × (Nat → Int32)) :=
  lt_ (fX12_gateAt  a2) fun x2 =>
  lt_ (fX12_gateAt  a2) fun x5 =>
  gd (inb (x5 + 2) 1272) <|
  lt_ (f ((x5 + 2) : Int32).toNatClampNeg) fun x8 =>
  gd (inb (x2 + 2) 1272) <|
  lt_ (upd f ((x2 + 2) : Int32).toNatClampNeg (1 - x8)) fun r11 =>
  lt_ (fX12_gateAt  a2) fun x14 =>
  gd (inb (x14 + 2) 1272) <|
  lt_ (r11 ((x14 + 2) : Int32).toNatClampNeg) fun x17 =>
  some (x17, r11)
def fX12_runOn (f : (Nat → Int32)) (a2 : Int32) : Option (Int32 × (Nat → Int32)) :=
  gd (inb 2 1272) <|
  lt_ (f (2 : Int32).toNatClampNeg) fun x2 =>
  lt_ (upd f (2 : Int32).toNatClampNeg (x2 + a2)) fun r4 =>
  lt_ (r4 (2 : Int32).toNatClampNeg) fun x6 =>
  some (x6, r4)
def fX12_doesLine (f : (Nat → Int32)) (a2 : Int32) (a3 : Int32) : Option (Int32 × (Nat → Int32)) :=
  bd (fX12_isUp f a2) fun x2 =>
  if x2 = a3 then
    some (0, f)
  else
    if a3 = 0 then
      bd2 (fX12_downOn f a2) fun x7 S8 =>
      if x7 < 0 then
        some (0, S8)
      else
        some (1, S8)
    else
      bd2 (fX12_upOn f a2) fun x12 S13 =>
      if x12 < 0 then
        some (0, S13)
      else
        some (1, S13)
def fX12_inLogs_L14 (k : Int32 → Int32 → Int32 → Int32 → Int32 → Option Int32) (f : (Nat → Int32)) (n : Nat) (y1 : Int32) (y2 : Int32) (y3 : Int32) (y4 : Int32) (y5 : Int32) : Option Int32 :=
  match n with
  | 0 => none
  | n + 1 =>
    lt_ (fX12_gateAt  y4) fun x3 =>
    gd (inb (x3 + 3) 1272) <|
    lt_ (f ((x3 + 3) : Int32).toNatClampNeg) fun x6 =>
    if x6 ≤ y5 then
      k y1 y2 y3 y4 y5
    else
      if y1 = (-1) then
        if (1 : Int32) = 0 then
          lt_ ((y3 + 0)) fun x26 =>
          lt_ (y5 + 1) fun x28 =>
          fX12_inLogs_L14 k f n y1 y2 x26 y4 x28
        else
          if y2 = 0 then
            lt_ ((y3 + 1)) fun x12 =>
            lt_ (y5 + 1) fun x14 =>
            fX12_inLogs_L14 k f n y1 y2 x12 y4 x14
          else
            lt_ (fX12_logAt  y4 y5) fun x17 =>
            gd (inb (x17 + 2) 1272) <|
            lt_ (f ((x17 + 2) : Int32).toNatClampNeg) fun x20 =>
            lt_ ((y3 + x20)) fun x22 =>
            lt_ (y5 + 1) fun x24 =>
            fX12_inLogs_L14 k f n y1 y2 x22 y4 x24
      else
        lt_ (fX12_logAt  y4 y5) fun x31 =>
        gd (inb x31 1272) <|
        lt_ (f (x31 : Int32).toNatClampNeg) fun x34 =>
        if x34 = y1 then
          if (1 : Int32) = 0 then
            lt_ ((y3 + 0)) fun x73 =>
            lt_ (y5 + 1) fun x75 =>
            fX12_inLogs_L14 k f n y1 y2 x73 y4 x75
          else
            if y2 = 0 then
              lt_ ((y3 + 1)) fun x59 =>
              lt_ (y5 + 1) fun x61 =>
              fX12_inLogs_L14 k f n y1 y2 x59 y4 x61
            else
              lt_ (fX12_logAt  y4 y5) fun x64 =>
              gd (inb (x64 + 2) 1272) <|
              lt_ (f ((x64 + 2) : Int32).toNatClampNeg) fun x67 =>
              lt_ ((y3 + x67)) fun x69 =>
              lt_ (y5 + 1) fun x71 =>
              fX12_inLogs_L14 k f n y1 y2 x69 y4 x71
        else
          if (0 : Int32) = 0 then
            lt_ ((y3 + 0)) fun x53 =>
            lt_ (y5 + 1) fun x55 =>
            fX12_inLogs_L14 k f n y1 y2 x53 y4 x55
          else
            if y2 = 0 then
              lt_ ((y3 + 1)) fun x39 =>
              lt_ (y5 + 1) fun x41 =>
              fX12_inLogs_L14 k f n y1 y2 x39 y4 x41
            else
              lt_ (fX12_logAt  y4 y5) fun x44 =>
              gd (inb (x44 + 2) 1272) <|
              lt_ (f ((x44 + 2) : Int32).toNatClampNeg) fun x47 =>
              lt_ ((y3 + x47)) fun x49 =>
              lt_ (y5 + 1) fun x51 =>
              fX12_inLogs_L14 k f n y1 y2 x49 y4 x51
def fX12_inLogs_L5 (f : (Nat → Int32)) (n : Nat) (y1 : Int32) (y2 : Int32) (y3 : Int32) (y4 : Int32) : Option Int32 :=
  match n with
  | 0 => none
  | n + 1 =>
    if 4 ≤ y4 then
      some y3
    else
      fX12_inLogs_L14 (fun x77 x78 x79 x80 x81 =>
          lt_ (x80 + 1) fun x82 =>
          fX12_inLogs_L5 f n x77 x78 x79 x82) f 3000 y1 y2 y3 y4 0
def fX12_inLogs (f : (Nat → Int32)) (a2 : Int32) (a3 : Int32) : Option Int32 :=
  fX12_inLogs_L5 f 3000 a2 a3 0 0
def fX12_cardsOf_L4 (f : (Nat → Int32)) (n : Nat) (y1 : Int32) (y2 : Int32) (y3 : Int32) : Option Int32 :=
  match n with
  | 0 => none
  | n + 1 =>
    gd (inb 0 1272) <|
    lt_ (f (0 : Int32).toNatClampNeg) fun x2 =>
    if x2 ≤ y3 then
      some y2
    else
      lt_ (fX12_cardAt  y3) fun x6 =>
      gd (inb (x6 + 0) 1272) <|
      lt_ (f ((x6 + 0) : Int32).toNatClampNeg) fun x9 =>
      if x9 = y1 then
        lt_ ((y2 + 1)) fun x16 =>
        lt_ (y3 + 1) fun x18 =>
        fX12_cardsOf_L4 f n y1 x16 x18
      else
        lt_ ((y2 + 0)) fun x12 =>
        lt_ (y3 + 1) fun x14 =>
        fX12_cardsOf_L4 f n y1 x12 x14
def fX12_cardsOf (f : (Nat → Int32)) (a2 : Int32) : Option Int32 :=
  fX12_cardsOf_L4 f 3000 a2 0 0
def fX12_canPardon (f : (Nat → Int32)) (a2 : Int32) : Option Int32 :=
  bd (fX12_isAccount f a2) fun x2 =>
  if x2 = 0 then
    some 0
  else
    lt_ (fX12_accountAt  a2) fun x6 =>
    gd (inb (x6 + 2) 1272) <|
    lt_ (f ((x6 + 2) : Int32).toNatClampNeg) fun x9 =>
    if x9 = 1 then
      some 1
    else
      some 0
def fX12_standing (f : (Nat → Int32)) (a2 : Int32) : Option Int32 :=
  lt_ (fX12_accountAt  a2) fun x2 =>
  gd (inb (x2 + 0) 1272) <|
  lt_ (f ((x2 + 0) : Int32).toNatClampNeg) fun x5 =>
  bd (fX12_inLogs f a2 1) fun x8 =>
  some (x5 - x8)
def fX12_turn (f : (Nat → Int32)) (a2 : Int32) : Option (Nat → Int32) :=
  lt_ ((a2 / 16)) fun x1 =>
  lt_ ((a2 - a2 / 16 * 16)) fun x3 =>
  if x3 = 0 then
    bd (fX12_canIssue f) fun x64 =>
    if x64 = 0 then
      some f
    else
      bd2 (fX12_issueOn f (x1 - x1 / 40 * 40)) fun x68 S69 =>
      some S69
  else
    if x3 = 1 then
      bd (fX12_canCopy f (x1 - x1 / 10 * 10)) fun x56 =>
      if x56 = 0 then
        some f
      else
        bd2 (fX12_copyOn f (x1 - x1 / 10 * 10)) fun x60 S61 =>
        some S61
    else
      if 4 ≤ x3 then
        if x3 = 4 then
          bd (fX12_isAccount f (x1 - x1 / 8 * 8)) fun x39 =>
          if x39 = 0 then
            some f
          else
            bd2 (fX12_payOn f (x1 - x1 / 8 * 8) (1 + ((a2 / 128) - (a2 / 128) / 30 * 30))) fun x43 S44 =>
            some S44
        else
          if x3 = 5 then
            bd2 (fX12_openOn f (x1 - x1 / 4 * 4)) fun x35 S36 =>
            some S36
          else
            if x3 = 6 then
              bd (fX12_canPardon f (x1 - x1 / 8 * 8)) fun x25 =>
              if x25 = 0 then
                some f
              else
                lt_ (fX12_accountAt  (x1 - x1 / 8 * 8)) fun x29 =>
                gd (inb (x29 + 2) 1272) <|
                lt_ (upd f ((x29 + 2) : Int32).toNatClampNeg 0) fun r32 =>
                some r32
            else
              if 9 ≤ x3 then
                bd (fX12_isCard f (x1 - x1 / 10 * 10)) fun x13 =>
                if x13 = 0 then
                  some f
                else
                  bd2 (fX12_rideOn f (x1 - x1 / 10 * 10) ((a2 / 256) - (a2 / 256) / 4 * 4)) fun x17 S18 =>
                  some S18
              else
                bd2 (fX12_runOn f (1 + (x1 - x1 / 20 * 20))) fun x21 S22 =>
                some S22
      else
        if x3 = 3 then
          bd2 (fX12_doesLine f (x1 - x1 / 4 * 4) 1) fun x52 S53 =>
          some S53
        else
          bd2 (fX12_doesLine f (x1 - x1 / 4 * 4) 0) fun x48 S49 =>
          some S49
def fcp (n1 : Nat) (f1 : Nat → Int32) (a : Int32) (n2 : Nat) (f2 : Nat → Int32) (b : Int32) : Option (Nat → Int32) :=
  if 0 ≤ a.toInt ∧ a.toInt + 1272 ≤ n1 ∧ 0 ≤ b.toInt ∧ b.toInt + 1272 ≤ n2 then some (va_cpy f1 f2 a.toNatClampNeg b.toNatClampNeg 1272) else none
def fX12_thrown (S : (Nat → Nat → Int32)) : Int32 :=
  lt_ (S 0 0) fun x1 =>
  x1
def fX12_refused (S : (Nat → Nat → Int32)) (a1 : Int32) : Option (Int32 × (Nat → Nat → Int32)) :=
  lt_ (va_up S 0 (upd (S 0) 0 a1)) fun S1 =>
  if a1 ≤ 0 then
    some (0, S1)
  else
    some (1, S1)
def fX12_about (S : (Nat → Nat → Int32)) (a1 : Int32) : Option (Int32 × (Nat → Nat → Int32)) :=
  lt_ (fX12_in  ((a1 : Int32).toInt64) 0 10) fun x2 =>
  if x2 = 0 then
    bd2 (fX12_refused S 1) fun x6 S7 =>
    if x6 = 0 then
      if a1 = 6 then
        if a1 = 7 then
          bd (fX12_inLogs (S7 2) (-1) 1) fun x16 =>
          some (x16, S7)
        else
          bd (fX12_inLogs (S7 2) (-1) 0) fun x13 =>
          some (x13, S7)
      else if a1 = 7 then
        if a1 = 7 then
          bd (fX12_inLogs (S7 2) (-1) 1) fun x24 =>
          some (x24, S7)
        else
          bd (fX12_inLogs (S7 2) (-1) 0) fun x21 =>
          some (x21, S7)
      else if a1 = 8 then
        gd (inb (a1 - 2) 1272) <|
        lt_ (S7 2 ((a1 - 2) : Int32).toNatClampNeg) fun x28 =>
        some (x28, S7)
      else if a1 = 9 then
        gd (inb (a1 - 2) 1272) <|
        lt_ (S7 2 ((a1 - 2) : Int32).toNatClampNeg) fun x32 =>
        some (x32, S7)
      else if a1 = 10 then
        bd (fX12_blocked (S7 2)) fun x36 =>
        some (x36, S7)
      else 
      gd (inb a1 1272) <|
      lt_ (S7 2 (a1 : Int32).toNatClampNeg) fun x39 =>
      some (x39, S7)
    else
      some (0, S7)
  else
    bd2 (fX12_refused S 0) fun x42 S43 =>
    if x42 = 0 then
      if a1 = 6 then
        if a1 = 7 then
          bd (fX12_inLogs (S43 2) (-1) 1) fun x52 =>
          some (x52, S43)
        else
          bd (fX12_inLogs (S43 2) (-1) 0) fun x49 =>
          some (x49, S43)
      else if a1 = 7 then
        if a1 = 7 then
          bd (fX12_inLogs (S43 2) (-1) 1) fun x60 =>
          some (x60, S43)
        else
          bd (fX12_inLogs (S43 2) (-1) 0) fun x57 =>
          some (x57, S43)
      else if a1 = 8 then
        gd (inb (a1 - 2) 1272) <|
        lt_ (S43 2 ((a1 - 2) : Int32).toNatClampNeg) fun x64 =>
        some (x64, S43)
      else if a1 = 9 then
        gd (inb (a1 - 2) 1272) <|
        lt_ (S43 2 ((a1 - 2) : Int32).toNatClampNeg) fun x68 =>
        some (x68, S43)
      else if a1 = 10 then
        bd (fX12_blocked (S43 2)) fun x72 =>
        some (x72, S43)
      else 
      gd (inb a1 1272) <|
      lt_ (S43 2 (a1 : Int32).toNatClampNeg) fun x75 =>
      some (x75, S43)
    else
      some (0, S43)
def fX12_card (S : (Nat → Nat → Int32)) (a1 : Int32) (a2 : Int32) : Option (Int32 × (Nat → Nat → Int32)) :=
  bd (fX12_isCard (S 2) a1) fun x2 =>
  if x2 = 0 then
    bd2 (fX12_refused S 1) fun x34 S35 =>
    if x34 = 0 then
      lt_ (fX12_cardAt  a1) fun x39 =>
      gd (inb (x39 + a2) 1272) <|
      lt_ (S35 2 ((x39 + a2) : Int32).toNatClampNeg) fun x42 =>
      if a2 = 3 then
        some ((x42 - 1), S35)
      else
        some ((x42 - 0), S35)
    else
      some (0, S35)
  else
    lt_ (fX12_in  ((a2 : Int32).toInt64) 0 3) fun x6 =>
    if x6 = 0 then
      bd2 (fX12_refused S 2) fun x10 S11 =>
      if x10 = 0 then
        lt_ (fX12_cardAt  a1) fun x15 =>
        gd (inb (x15 + a2) 1272) <|
        lt_ (S11 2 ((x15 + a2) : Int32).toNatClampNeg) fun x18 =>
        if a2 = 3 then
          some ((x18 - 1), S11)
        else
          some ((x18 - 0), S11)
      else
        some (0, S11)
    else
      bd2 (fX12_refused S 0) fun x22 S23 =>
      if x22 = 0 then
        lt_ (fX12_cardAt  a1) fun x27 =>
        gd (inb (x27 + a2) 1272) <|
        lt_ (S23 2 ((x27 + a2) : Int32).toNatClampNeg) fun x30 =>
        if a2 = 3 then
          some ((x30 - 1), S23)
        else
          some ((x30 - 0), S23)
      else
        some (0, S23)
def fX12_account (S : (Nat → Nat → Int32)) (a1 : Int32) (a2 : Int32) : Option (Int32 × (Nat → Nat → Int32)) :=
  bd (fX12_isAccount (S 2) a1) fun x2 =>
  if x2 = 0 then
    bd2 (fX12_refused S 1) fun x90 S91 =>
    if x90 = 0 then
      lt_ (fX12_accountAt  a1) fun x95 =>
      if a2 = 0 then
        gd (inb (x95 + a2) 1272) <|
        lt_ (S91 2 ((x95 + a2) : Int32).toNatClampNeg) fun x99 =>
        some (x99, S91)
      else if a2 = 1 then
        gd (inb (x95 + a2) 1272) <|
        lt_ (S91 2 ((x95 + a2) : Int32).toNatClampNeg) fun x103 =>
        some (x103, S91)
      else if a2 = 2 then
        gd (inb (x95 + 3) 1272) <|
        lt_ (S91 2 ((x95 + 3) : Int32).toNatClampNeg) fun x107 =>
        some (x107, S91)
      else if a2 = 3 then
        gd (inb (x95 + 2) 1272) <|
        lt_ (S91 2 ((x95 + 2) : Int32).toNatClampNeg) fun x111 =>
        some (x111, S91)
      else if a2 = 4 then
        bd (fX12_isBlocked (S91 2) a1) fun x115 =>
        if x115 = 0 then
          some (0, S91)
        else
          some (1, S91)
      else if a2 = 5 then
        bd (fX12_cardsOf (S91 2) a1) fun x120 =>
        some (x120, S91)
      else 
      if a2 = 7 then
        bd (fX12_inLogs (S91 2) a1 1) fun x127 =>
        some (x127, S91)
      else
        bd (fX12_inLogs (S91 2) a1 0) fun x124 =>
        some (x124, S91)
    else
      some (0, S91)
  else
    lt_ (fX12_in  ((a2 : Int32).toInt64) 0 7) fun x6 =>
    if x6 = 0 then
      bd2 (fX12_refused S 2) fun x10 S11 =>
      if x10 = 0 then
        lt_ (fX12_accountAt  a1) fun x15 =>
        if a2 = 0 then
          gd (inb (x15 + a2) 1272) <|
          lt_ (S11 2 ((x15 + a2) : Int32).toNatClampNeg) fun x19 =>
          some (x19, S11)
        else if a2 = 1 then
          gd (inb (x15 + a2) 1272) <|
          lt_ (S11 2 ((x15 + a2) : Int32).toNatClampNeg) fun x23 =>
          some (x23, S11)
        else if a2 = 2 then
          gd (inb (x15 + 3) 1272) <|
          lt_ (S11 2 ((x15 + 3) : Int32).toNatClampNeg) fun x27 =>
          some (x27, S11)
        else if a2 = 3 then
          gd (inb (x15 + 2) 1272) <|
          lt_ (S11 2 ((x15 + 2) : Int32).toNatClampNeg) fun x31 =>
          some (x31, S11)
        else if a2 = 4 then
          bd (fX12_isBlocked (S11 2) a1) fun x35 =>
          if x35 = 0 then
            some (0, S11)
          else
            some (1, S11)
        else if a2 = 5 then
          bd (fX12_cardsOf (S11 2) a1) fun x40 =>
          some (x40, S11)
        else 
        if a2 = 7 then
          bd (fX12_inLogs (S11 2) a1 1) fun x47 =>
          some (x47, S11)
        else
          bd (fX12_inLogs (S11 2) a1 0) fun x44 =>
          some (x44, S11)
      else
        some (0, S11)
    else
      bd2 (fX12_refused S 0) fun x50 S51 =>
      if x50 = 0 then
        lt_ (fX12_accountAt  a1) fun x55 =>
        if a2 = 0 then
          gd (inb (x55 + a2) 1272) <|
          lt_ (S51 2 ((x55 + a2) : Int32).toNatClampNeg) fun x59 =>
          some (x59, S51)
        else if a2 = 1 then
          gd (inb (x55 + a2) 1272) <|
          lt_ (S51 2 ((x55 + a2) : Int32).toNatClampNeg) fun x63 =>
          some (x63, S51)
        else if a2 = 2 then
          gd (inb (x55 + 3) 1272) <|
          lt_ (S51 2 ((x55 + 3) : Int32).toNatClampNeg) fun x67 =>
          some (x67, S51)
        else if a2 = 3 then
          gd (inb (x55 + 2) 1272) <|
          lt_ (S51 2 ((x55 + 2) : Int32).toNatClampNeg) fun x71 =>
          some (x71, S51)
        else if a2 = 4 then
          bd (fX12_isBlocked (S51 2) a1) fun x75 =>
          if x75 = 0 then
            some (0, S51)
          else
            some (1, S51)
        else if a2 = 5 then
          bd (fX12_cardsOf (S51 2) a1) fun x80 =>
          some (x80, S51)
        else 
        if a2 = 7 then
          bd (fX12_inLogs (S51 2) a1 1) fun x87 =>
          some (x87, S51)
        else
          bd (fX12_inLogs (S51 2) a1 0) fun x84 =>
          some (x84, S51)
      else
        some (0, S51)
def fX12_gate (S : (Nat → Nat → Int32)) (a1 : Int32) (a2 : Int32) : Option (Int32 × (Nat → Nat → Int32)) :=
  lt_ (fX12_isGate  a1) fun x2 =>
  if x2 = 0 then
    bd2 (fX12_refused S 1) fun x40 S41 =>
    if x40 = 0 then
      if a2 = 4 then
        bd (fX12_list (S41 2) a1) fun x52 =>
        some (x52, S41)
      else
        lt_ (fX12_gateAt  a1) fun x46 =>
        gd (inb (x46 + a2) 1272) <|
        lt_ (S41 2 ((x46 + a2) : Int32).toNatClampNeg) fun x49 =>
        some (x49, S41)
    else
      some (0, S41)
  else
    lt_ (fX12_in  ((a2 : Int32).toInt64) 0 4) fun x6 =>
    if x6 = 0 then
      bd2 (fX12_refused S 2) fun x10 S11 =>
      if x10 = 0 then
        if a2 = 4 then
          bd (fX12_list (S11 2) a1) fun x22 =>
          some (x22, S11)
        else
          lt_ (fX12_gateAt  a1) fun x16 =>
          gd (inb (x16 + a2) 1272) <|
          lt_ (S11 2 ((x16 + a2) : Int32).toNatClampNeg) fun x19 =>
          some (x19, S11)
      else
        some (0, S11)
    else
      bd2 (fX12_refused S 0) fun x25 S26 =>
      if x25 = 0 then
        if a2 = 4 then
          bd (fX12_list (S26 2) a1) fun x37 =>
          some (x37, S26)
        else
          lt_ (fX12_gateAt  a1) fun x31 =>
          gd (inb (x31 + a2) 1272) <|
          lt_ (S26 2 ((x31 + a2) : Int32).toNatClampNeg) fun x34 =>
          some (x34, S26)
      else
        some (0, S26)
def fX12_logged (S : (Nat → Nat → Int32)) (a1 : Int32) (a2 : Int32) (a3 : Int32) : Option (Int32 × (Nat → Nat → Int32)) :=
  lt_ (fX12_isGate  a1) fun x2 =>
  if x2 = 0 then
    bd2 (fX12_refused S 1) fun x6 S7 =>
    if x6 = 0 then
      lt_ (fX12_logAt  a1 a2) fun x11 =>
      gd (inb (x11 + a3) 1272) <|
      lt_ (S7 2 ((x11 + a3) : Int32).toNatClampNeg) fun x14 =>
      some (x14, S7)
    else
      some (0, S7)
  else
    lt_ (fX12_gateAt  a1) fun x17 =>
    gd (inb (x17 + 3) 1272) <|
    lt_ (S 2 ((x17 + 3) : Int32).toNatClampNeg) fun x20 =>
    lt_ (fX12_in  ((a2 : Int32).toInt64) 0 (((x20 - 1) : Int32).toInt64)) fun x23 =>
    if x23 = 0 then
      bd2 (fX12_refused S 1) fun x53 S54 =>
      if x53 = 0 then
        lt_ (fX12_logAt  a1 a2) fun x58 =>
        gd (inb (x58 + a3) 1272) <|
        lt_ (S54 2 ((x58 + a3) : Int32).toNatClampNeg) fun x61 =>
        some (x61, S54)
      else
        some (0, S54)
    else
      lt_ (fX12_in  ((a3 : Int32).toInt64) 0 2) fun x27 =>
      if x27 = 0 then
        bd2 (fX12_refused S 2) fun x31 S32 =>
        if x31 = 0 then
          lt_ (fX12_logAt  a1 a2) fun x36 =>
          gd (inb (x36 + a3) 1272) <|
          lt_ (S32 2 ((x36 + a3) : Int32).toNatClampNeg) fun x39 =>
          some (x39, S32)
        else
          some (0, S32)
      else
        bd2 (fX12_refused S 0) fun x42 S43 =>
        if x42 = 0 then
          lt_ (fX12_logAt  a1 a2) fun x47 =>
          gd (inb (x47 + a3) 1272) <|
          lt_ (S43 2 ((x47 + a3) : Int32).toNatClampNeg) fun x50 =>
          some (x50, S43)
        else
          some (0, S43)
def fX12_setting (S : (Nat → Nat → Int32)) (a1 : Int32) : Option (Int32 × (Nat → Nat → Int32)) :=
  lt_ (fX12_in  ((a1 : Int32).toInt64) 0 3) fun x2 =>
  if x2 = 0 then
    bd2 (fX12_refused S 1) fun x6 S7 =>
    if x6 = 0 then
      gd (inb (8 + a1) 1272) <|
      lt_ (S7 2 ((8 + a1) : Int32).toNatClampNeg) fun x11 =>
      some (x11, S7)
    else
      some (0, S7)
  else
    bd2 (fX12_refused S 0) fun x14 S15 =>
    if x14 = 0 then
      gd (inb (8 + a1) 1272) <|
      lt_ (S15 2 ((8 + a1) : Int32).toNatClampNeg) fun x19 =>
      some (x19, S15)
    else
      some (0, S15)
def fX12_remember_L11 (n : Nat) (S : (Nat → Nat → Int32)) (y1 : Int32) : Option (Nat → Nat → Int32) :=
  match n with
  | 0 => none
  | n + 1 =>
    if 16536 ≤ y1 then
      lt_ (S 0 7) fun x15 =>
      lt_ (va_up S 0 (upd (S 0) 7 (x15 - 1))) fun S17 =>
      lt_ (S17 0 7) fun x19 =>
      bd (fcp 1272 (S17 2) 0 17808 (S17 5) (1272 * x19)) fun r21 =>
      lt_ (va_up S17 5 r21) fun S23 =>
      lt_ (S23 0 7) fun x25 =>
      lt_ (va_up S23 0 (upd (S23 0) 7 (x25 + 1))) fun S27 =>
      some S27
    else
      gd (inb (y1 + 1272) 17808) <|
      lt_ (S 5 ((y1 + 1272) : Int32).toNatClampNeg) fun x30 =>
      gd (inb y1 17808) <|
      lt_ (va_up S 5 (upd (S 5) (y1 : Int32).toNatClampNeg x30)) fun S33 =>
      lt_ (y1 + 1) fun x35 =>
      fX12_remember_L11 n S33 x35
def fX12_remember (S : (Nat → Nat → Int32)) : Option (Nat → Nat → Int32) :=
  lt_ (S 0 7) fun x1 =>
  if x1 = 14 then
    fX12_remember_L11 17000 S 0
  else
    lt_ (S 0 7) fun x4 =>
    bd (fcp 1272 (S 2) 0 17808 (S 5) (1272 * x4)) fun r6 =>
    lt_ (va_up S 5 r6) fun S8 =>
    lt_ (S8 0 7) fun x10 =>
    lt_ (va_up S8 0 (upd (S8 0) 7 (x10 + 1))) fun S12 =>
    some S12
def fX12_issue (S : (Nat → Nat → Int32)) (a1 : Int32) : Option (Int32 × (Nat → Nat → Int32)) :=
  lt_ (fX12_in  ((a1 : Int32).toInt64) 0 99) fun x2 =>
  if x2 = 0 then
    bd2 (fX12_refused S 1) fun x38 S39 =>
    if x38 = 0 then
      bd (fX12_remember S39) fun S43 =>
      bd2 (fX12_issueOn (S43 2) a1) fun x46 r48 =>
      lt_ (va_up S43 2 r48) fun S47 =>
      some (x46, S47)
    else
      some (0, S39)
  else
    bd (fX12_canIssue (S 2)) fun x6 =>
    if x6 = 0 then
      bd2 (fX12_refused S 2) fun x10 S11 =>
      if x10 = 0 then
        bd (fX12_remember S11) fun S15 =>
        bd2 (fX12_issueOn (S15 2) a1) fun x18 r20 =>
        lt_ (va_up S15 2 r20) fun S19 =>
        some (x18, S19)
      else
        some (0, S11)
    else
      bd2 (fX12_refused S 0) fun x24 S25 =>
      if x24 = 0 then
        bd (fX12_remember S25) fun S29 =>
        bd2 (fX12_issueOn (S29 2) a1) fun x32 r34 =>
        lt_ (va_up S29 2 r34) fun S33 =>
        some (x32, S33)
      else
        some (0, S25)
def fX12_copy (S : (Nat → Nat → Int32)) (a1 : Int32) : Option (Int32 × (Nat → Nat → Int32)) :=
  bd (fX12_isCard (S 2) a1) fun x2 =>
  if x2 = 0 then
    bd2 (fX12_refused S 1) fun x38 S39 =>
    if x38 = 0 then
      bd (fX12_remember S39) fun S43 =>
      bd2 (fX12_copyOn (S43 2) a1) fun x46 r48 =>
      lt_ (va_up S43 2 r48) fun S47 =>
      some (x46, S47)
    else
      some (0, S39)
  else
    bd (fX12_canCopy (S 2) a1) fun x6 =>
    if x6 = 0 then
      bd2 (fX12_refused S 2) fun x10 S11 =>
      if x10 = 0 then
        bd (fX12_remember S11) fun S15 =>
        bd2 (fX12_copyOn (S15 2) a1) fun x18 r20 =>
        lt_ (va_up S15 2 r20) fun S19 =>
        some (x18, S19)
      else
        some (0, S11)
    else
      bd2 (fX12_refused S 0) fun x24 S25 =>
      if x24 = 0 then
        bd (fX12_remember S25) fun S29 =>
        bd2 (fX12_copyOn (S29 2) a1) fun x32 r34 =>
        lt_ (va_up S29 2 r34) fun S33 =>
        some (x32, S33)
      else
        some (0, S25)
def fX12_ride (S : (Nat → Nat → Int32)) (a1 : Int32) (a2 : Int32) : Option (Int32 × (Nat → Nat → Int32)) :=
  bd (fX12_isCard (S 2) a1) fun x2 =>
  if x2 = 0 then
    bd2 (fX12_refused S 1) fun x6 S7 =>
    if x6 = 0 then
      bd (fX12_remember S7) fun S11 =>
      bd2 (fX12_rideOn (S11 2) a1 a2) fun x14 r16 =>
      lt_ (va_up S11 2 r16) fun S15 =>
      some (x14, S15)
    else
      some (0, S7)
  else
    lt_ (fX12_isGate  a2) fun x20 =>
    if x20 = 0 then
      bd2 (fX12_refused S 1) fun x24 S25 =>
      if x24 = 0 then
        bd (fX12_remember S25) fun S29 =>
        bd2 (fX12_rideOn (S29 2) a1 a2) fun x32 r34 =>
        lt_ (va_up S29 2 r34) fun S33 =>
        some (x32, S33)
      else
        some (0, S25)
    else
      bd2 (fX12_refused S 0) fun x38 S39 =>
      if x38 = 0 then
        bd (fX12_remember S39) fun S43 =>
        bd2 (fX12_rideOn (S43 2) a1 a2) fun x46 r48 =>
        lt_ (va_up S43 2 r48) fun S47 =>
        some (x46, S47)
      else
        some (0, S39)
def fX12_pay (S : (Nat → Nat → Int32)) (a1 : Int32) (a2 : Int32) : Option (Int32 × (Nat → Nat → Int32)) :=
  bd (fX12_isAccount (S 2) a1) fun x2 =>
  if x2 = 0 then
    bd2 (fX12_refused S 1) fun x38 S39 =>
    if x38 = 0 then
      bd (fX12_remember S39) fun S43 =>
      bd2 (fX12_payOn (S43 2) a1 a2) fun x46 r48 =>
      lt_ (va_up S43 2 r48) fun S47 =>
      some (x46, S47)
    else
      some (0, S39)
  else
    lt_ (fX12_in  ((a2 : Int32).toInt64) 1 99) fun x6 =>
    if x6 = 0 then
      bd2 (fX12_refused S 2) fun x10 S11 =>
      if x10 = 0 then
        bd (fX12_remember S11) fun S15 =>
        bd2 (fX12_payOn (S15 2) a1 a2) fun x18 r20 =>
        lt_ (va_up S15 2 r20) fun S19 =>
        some (x18, S19)
      else
        some (0, S11)
    else
      bd2 (fX12_refused S 0) fun x24 S25 =>
      if x24 = 0 then
        bd (fX12_remember S25) fun S29 =>
        bd2 (fX12_payOn (S29 2) a1 a2) fun x32 r34 =>
        lt_ (va_up S29 2 r34) fun S33 =>
        some (x32, S33)
      else
        some (0, S25)
def fX12_pardon (S : (Nat → Nat → Int32)) (a1 : Int32) : Option (Int32 × (Nat → Nat → Int32)) :=
  bd (fX12_isAccount (S 2) a1) fun x2 =>
  if x2 = 0 then
    bd2 (fX12_refused S 1) fun x50 S51 =>
    if x50 = 0 then
      bd (fX12_remember S51) fun S55 =>
      lt_ (fX12_accountAt  a1) fun x58 =>
      gd (inb (x58 + 2) 1272) <|
      lt_ (va_up S55 2 (upd (S55 2) ((x58 + 2) : Int32).toNatClampNeg 0)) fun S61 =>
      lt_ (fX12_accountAt  a1) fun x64 =>
      gd (inb (x64 + 0) 1272) <|
      lt_ (S61 2 ((x64 + 0) : Int32).toNatClampNeg) fun x67 =>
      some (x67, S61)
    else
      some (0, S51)
  else
    bd (fX12_canPardon (S 2) a1) fun x6 =>
    if x6 = 0 then
      bd2 (fX12_refused S 2) fun x10 S11 =>
      if x10 = 0 then
        bd (fX12_remember S11) fun S15 =>
        lt_ (fX12_accountAt  a1) fun x18 =>
        gd (inb (x18 + 2) 1272) <|
        lt_ (va_up S15 2 (upd (S15 2) ((x18 + 2) : Int32).toNatClampNeg 0)) fun S21 =>
        lt_ (fX12_accountAt  a1) fun x24 =>
        gd (inb (x24 + 0) 1272) <|
        lt_ (S21 2 ((x24 + 0) : Int32).toNatClampNeg) fun x27 =>
        some (x27, S21)
      else
        some (0, S11)
    else
      bd2 (fX12_refused S 0) fun x30 S31 =>
      if x30 = 0 then
        bd (fX12_remember S31) fun S35 =>
        lt_ (fX12_accountAt  a1) fun x38 =>
        gd (inb (x38 + 2) 1272) <|
        lt_ (va_up S35 2 (upd (S35 2) ((x38 + 2) : Int32).toNatClampNeg 0)) fun S41 =>
        lt_ (fX12_accountAt  a1) fun x44 =>
        gd (inb (x44 + 0) 1272) <|
        lt_ (S41 2 ((x44 + 0) : Int32).toNatClampNeg) fun x47 =>
        some (x47, S41)
      else
        some (0, S31)
def fX12_down (S : (Nat → Nat → Int32)) (a1 : Int32) : Option (Int32 × (Nat → Nat → Int32)) :=
  lt_ (fX12_isGate  a1) fun x2 =>
  if x2 = 0 then
    bd2 (fX12_refused S 1) fun x38 S39 =>
    if x38 = 0 then
      bd (fX12_remember S39) fun S43 =>
      bd2 (fX12_downOn (S43 2) a1) fun x46 r48 =>
      lt_ (va_up S43 2 r48) fun S47 =>
      some (x46, S47)
    else
      some (0, S39)
  else
    bd (fX12_isUp (S 2) a1) fun x6 =>
    if x6 = 0 then
      bd2 (fX12_refused S 2) fun x10 S11 =>
      if x10 = 0 then
        bd (fX12_remember S11) fun S15 =>
        bd2 (fX12_downOn (S15 2) a1) fun x18 r20 =>
        lt_ (va_up S15 2 r20) fun S19 =>
        some (x18, S19)
      else
        some (0, S11)
    else
      bd2 (fX12_refused S 0) fun x24 S25 =>
      if x24 = 0 then
        bd (fX12_remember S25) fun S29 =>
        bd2 (fX12_downOn (S29 2) a1) fun x32 r34 =>
        lt_ (va_up S29 2 r34) fun S33 =>
        some (x32, S33)
      else
        some (0, S25)
def fX12_up (S : (Nat → Nat → Int32)) (a1 : Int32) : Option (Int32 × (Nat → Nat → Int32)) :=
  lt_ (fX12_isGate  a1) fun x2 =>
  if x2 = 0 then
    bd2 (fX12_refused S 1) fun x38 S39 =>
    if x38 = 0 then
      bd (fX12_remember S39) fun S43 =>
      bd2 (fX12_upOn (S43 2) a1) fun x46 r48 =>
      lt_ (va_up S43 2 r48) fun S47 =>
      some (x46, S47)
    else
      some (0, S39)
  else
    bd (fX12_isUp (S 2) a1) fun x6 =>
    if x6 = 0 then
      bd2 (fX12_refused S 0) fun x10 S11 =>
      if x10 = 0 then
        bd (fX12_remember S11) fun S15 =>
        bd2 (fX12_upOn (S15 2) a1) fun x18 r20 =>
        lt_ (va_up S15 2 r20) fun S19 =>
        some (x18, S19)
      else
        some (0, S11)
    else
      bd2 (fX12_refused S 2) fun x24 S25 =>
      if x24 = 0 then
        bd (fX12_remember S25) fun S29 =>
        bd2 (fX12_upOn (S29 2) a1) fun x32 r34 =>
        lt_ (va_up S29 2 r34) fun S33 =>
        some (x32, S33)
      else
        some (0, S25)
def fX12_open (S : (Nat → Nat → Int32)) (a1 : Int32) : Option (Int32 × (Nat → Nat → Int32)) :=
  lt_ (fX12_isGate  a1) fun x2 =>
  if x2 = 0 then
    bd2 (fX12_refused S 1) fun x6 S7 =>
    if x6 = 0 then
      bd (fX12_remember S7) fun S11 =>
      bd2 (fX12_openOn (S11 2) a1) fun x14 r16 =>
      lt_ (va_up S11 2 r16) fun S15 =>
      some (x14, S15)
    else
      some (0, S7)
  else
    bd2 (fX12_refused S 0) fun x20 S21 =>
    if x20 = 0 then
      bd (fX12_remember S21) fun S25 =>
      bd2 (fX12_openOn (S25 2) a1) fun x28 r30 =>
      lt_ (va_up S25 2 r30) fun S29 =>
      some (x28, S29)
    else
      some (0, S21)
def fX12_fare (S : (Nat → Nat → Int32)) (a1 : Int32) (a2 : Int32) : Option (Int32 × (Nat → Nat → Int32)) :=
  lt_ (fX12_isGate  a1) fun x2 =>
  if x2 = 0 then
    bd2 (fX12_refused S 1) fun x50 S51 =>
    if x50 = 0 then
      bd (fX12_remember S51) fun S55 =>
      lt_ (fX12_gateAt  a1) fun x58 =>
      gd (inb (x58 + 0) 1272) <|
      lt_ (S55 2 ((x58 + 0) : Int32).toNatClampNeg) fun x61 =>
      lt_ (fX12_gateAt  a1) fun x64 =>
      gd (inb (x64 + 0) 1272) <|
      lt_ (va_up S55 2 (upd (S55 2) ((x64 + 0) : Int32).toNatClampNeg a2)) fun S67 =>
      some (x61, S67)
    else
      some (0, S51)
  else
    lt_ (fX12_in  ((a2 : Int32).toInt64) 1 9) fun x6 =>
    if x6 = 0 then
      bd2 (fX12_refused S 2) fun x10 S11 =>
      if x10 = 0 then
        bd (fX12_remember S11) fun S15 =>
        lt_ (fX12_gateAt  a1) fun x18 =>
        gd (inb (x18 + 0) 1272) <|
        lt_ (S15 2 ((x18 + 0) : Int32).toNatClampNeg) fun x21 =>
        lt_ (fX12_gateAt  a1) fun x24 =>
        gd (inb (x24 + 0) 1272) <|
        lt_ (va_up S15 2 (upd (S15 2) ((x24 + 0) : Int32).toNatClampNeg a2)) fun S27 =>
        some (x21, S27)
      else
        some (0, S11)
    else
      bd2 (fX12_refused S 0) fun x30 S31 =>
      if x30 = 0 then
        bd (fX12_remember S31) fun S35 =>
        lt_ (fX12_gateAt  a1) fun x38 =>
        gd (inb (x38 + 0) 1272) <|
        lt_ (S35 2 ((x38 + 0) : Int32).toNatClampNeg) fun x41 =>
        lt_ (fX12_gateAt  a1) fun x44 =>
        gd (inb (x44 + 0) 1272) <|
        lt_ (va_up S35 2 (upd (S35 2) ((x44 + 0) : Int32).toNatClampNeg a2)) fun S47 =>
        some (x41, S47)
      else
        some (0, S31)
def fX12_run (S : (Nat → Nat → Int32)) (a1 : Int32) : Option (Int32 × (Nat → Nat → Int32)) :=
  lt_ (fX12_in  ((a1 : Int32).toInt64) 1 60) fun x2 =>
  if x2 = 0 then
    bd2 (fX12_refused S 1) fun x6 S7 =>
    if x6 = 0 then
      bd (fX12_remember S7) fun S11 =>
      bd2 (fX12_runOn (S11 2) a1) fun x14 r16 =>
      lt_ (va_up S11 2 r16) fun S15 =>
      some (x14, S15)
    else
      some (0, S7)
  else
    bd2 (fX12_refused S 0) fun x20 S21 =>
    if x20 = 0 then
      bd (fX12_remember S21) fun S25 =>
      bd2 (fX12_runOn (S25 2) a1) fun x28 r30 =>
      lt_ (va_up S25 2 r30) fun S29 =>
      some (x28, S29)
    else
      some (0, S21)
def fX12_set (S : (Nat → Nat → Int32)) (a1 : Int32) (a2 : Int32) : Option (Int32 × (Nat → Nat → Int32)) :=
  lt_ (fX12_isSetting  a1 a2) fun x2 =>
  if x2 = 0 then
    bd2 (fX12_refused S 1) fun x6 S7 =>
    if x6 = 0 then
      bd (fX12_remember S7) fun S11 =>
      gd (inb (8 + a1) 1272) <|
      lt_ (S11 2 ((8 + a1) : Int32).toNatClampNeg) fun x14 =>
      lt_ (va_up S11 2 (upd (S11 2) ((8 + a1) : Int32).toNatClampNeg a2)) fun S16 =>
      some (x14, S16)
    else
      some (0, S7)
  else
    bd2 (fX12_refused S 0) fun x19 S20 =>
    if x19 = 0 then
      bd (fX12_remember S20) fun S24 =>
      gd (inb (8 + a1) 1272) <|
      lt_ (S24 2 ((8 + a1) : Int32).toNatClampNeg) fun x27 =>
      lt_ (va_up S24 2 (upd (S24 2) ((8 + a1) : Int32).toNatClampNeg a2)) fun S29 =>
      some (x27, S29)
    else
      some (0, S20)
def fX12_undo (S : (Nat → Nat → Int32)) : Option (Int32 × (Nat → Nat → Int32)) :=
  lt_ (S 0 7) fun x1 =>
  if x1 = 0 then
    bd2 (fX12_refused S 1) fun x22 S23 =>
    if x22 = 0 then
      lt_ (S23 0 7) fun x26 =>
      lt_ (va_up S23 0 (upd (S23 0) 7 (x26 - 1))) fun S28 =>
      lt_ (S28 0 7) fun x30 =>
      bd (fcp 17808 (S28 5) (1272 * x30) 1272 (S28 2) 0) fun r32 =>
      lt_ (va_up S28 2 r32) fun S34 =>
      lt_ (S34 0 7) fun x36 =>
      some (x36, S34)
    else
      some (0, S23)
  else
    bd2 (fX12_refused S 0) fun x5 S6 =>
    if x5 = 0 then
      lt_ (S6 0 7) fun x9 =>
      lt_ (va_up S6 0 (upd (S6 0) 7 (x9 - 1))) fun S11 =>
      lt_ (S11 0 7) fun x13 =>
      bd (fcp 17808 (S11 5) (1272 * x13) 1272 (S11 2) 0) fun r15 =>
      lt_ (va_up S11 2 r15) fun S17 =>
      lt_ (S17 0 7) fun x19 =>
      some (x19, S17)
    else
      some (0, S6)
def fX12_would (S : (Nat → Nat → Int32)) (a1 : Int32) (a2 : Int32) : Option (Int32 × (Nat → Nat → Int32)) :=
  bd (fX12_isCard (S 2) a1) fun x2 =>
  if x2 = 0 then
    bd2 (fX12_refused S 1) fun x6 S7 =>
    if x6 = 0 then
      bd (fcp 1272 (S7 2) 0 1272 (S7 3) 0) fun r10 =>
      lt_ (va_up S7 3 r10) fun S12 =>
      bd2 (fX12_rideOn (S12 3) a1 a2) fun x15 r17 =>
      lt_ (va_up S12 3 r17) fun S16 =>
      some (x15, S16)
    else
      some (0, S7)
  else
    lt_ (fX12_isGate  a2) fun x21 =>
    if x21 = 0 then
      bd2 (fX12_refused S 1) fun x25 S26 =>
      if x25 = 0 then
        bd (fcp 1272 (S26 2) 0 1272 (S26 3) 0) fun r29 =>
        lt_ (va_up S26 3 r29) fun S31 =>
        bd2 (fX12_rideOn (S31 3) a1 a2) fun x34 r36 =>
        lt_ (va_up S31 3 r36) fun S35 =>
        some (x34, S35)
      else
        some (0, S26)
    else
      bd2 (fX12_refused S 0) fun x40 S41 =>
      if x40 = 0 then
        bd (fcp 1272 (S41 2) 0 1272 (S41 3) 0) fun r44 =>
        lt_ (va_up S41 3 r44) fun S46 =>
        bd2 (fX12_rideOn (S46 3) a1 a2) fun x49 r51 =>
        lt_ (va_up S46 3 r51) fun S50 =>
        some (x49, S50)
      else
        some (0, S41)
def fX12_rides_L47 (n : Nat) (S : (Nat → Nat → Int32)) (y1 : Int32) (y2 : Int32) (y3 : Int32) : Option (Int32 × (Nat → Nat → Int32)) :=
  match n with
  | 0 => none
  | n + 1 =>
    if 100 ≤ y3 then
      some (100, S)
    else
      gd (inb 9 1272) <|
      lt_ (S 3 (9 : Int32).toNatClampNeg) fun x16 =>
      bd2 (fX12_runOn (S 3) x16) fun x19 r21 =>
      lt_ (va_up S 3 r21) fun S20 =>
      bd2 (fX12_rideOn (S20 3) y1 y2) fun x25 r27 =>
      lt_ (va_up S20 3 r27) fun S26 =>
      lt_ (fX12_isThrough  x25) fun x31 =>
      if x31 = 0 then
        some (y3, S26)
      else
        lt_ (y3 + 1) fun x34 =>
        fX12_rides_L47 n S26 y1 y2 x34
def fX12_rides (S : (Nat → Nat → Int32)) (a1 : Int32) (a2 : Int32) : Option (Int32 × (Nat → Nat → Int32)) :=
  bd (fX12_isCard (S 2) a1) fun x2 =>
  if x2 = 0 then
    bd2 (fX12_refused S 1) fun x6 S7 =>
    if x6 = 0 then
      bd (fcp 1272 (S7 2) 0 1272 (S7 3) 0) fun r10 =>
      lt_ (va_up S7 3 r10) fun S12 =>
      fX12_rides_L47 3000 S12 a1 a2 0
    else
      some (0, S7)
  else
    lt_ (fX12_isGate  a2) fun x37 =>
    if x37 = 0 then
      bd2 (fX12_refused S 1) fun x41 S42 =>
      if x41 = 0 then
        bd (fcp 1272 (S42 2) 0 1272 (S42 3) 0) fun r45 =>
        lt_ (va_up S42 3 r45) fun S47 =>
        fX12_rides_L47 3000 S47 a1 a2 0
      else
        some (0, S42)
    else
      bd2 (fX12_refused S 0) fun x50 S51 =>
      if x50 = 0 then
        bd (fcp 1272 (S51 2) 0 1272 (S51 3) 0) fun r54 =>
        lt_ (va_up S51 3 r54) fun S56 =>
        fX12_rides_L47 3000 S56 a1 a2 0
      else
        some (0, S51)
def fX12_brings (S : (Nat → Nat → Int32)) (a1 : Int32) (a2 : Int32) : Option (Int32 × (Nat → Nat → Int32)) :=
  bd (fcp 1272 (S 2) 0 1272 (S 4) 0) fun r1 =>
  lt_ (va_up S 4 r1) fun S3 =>
  bd (fX12_isUp (S3 4) a1) fun x6 =>
  if x6 = 0 then
    bd2 (fX12_upOn (S3 4) a1) fun x31 r33 =>
    lt_ (va_up S3 4 r33) fun S32 =>
    if a2 = 0 then
      gd (inb 3 1272) <|
      lt_ (S32 4 (3 : Int32).toNatClampNeg) fun x53 =>
      lt_ (S32 2 (3 : Int32).toNatClampNeg) fun x55 =>
      some ((x53 - x55), S32)
    else
      if a2 = 1 then
        gd (inb 5 1272) <|
        lt_ (S32 4 (5 : Int32).toNatClampNeg) fun x48 =>
        lt_ (S32 2 (5 : Int32).toNatClampNeg) fun x50 =>
        some ((x48 - x50), S32)
      else
        if a2 = 2 then
          bd (fX12_blocked (S32 4)) fun x45 =>
          some (x45, S32)
        else
          gd (inb 4 1272) <|
          lt_ (S32 4 (4 : Int32).toNatClampNeg) fun x40 =>
          lt_ (S32 2 (4 : Int32).toNatClampNeg) fun x42 =>
          some ((x40 - x42), S32)
  else
    if a2 = 0 then
      gd (inb 3 1272) <|
      lt_ (S3 4 (3 : Int32).toNatClampNeg) fun x26 =>
      lt_ (S3 2 (3 : Int32).toNatClampNeg) fun x28 =>
      some ((x26 - x28), S3)
    else
      if a2 = 1 then
        gd (inb 5 1272) <|
        lt_ (S3 4 (5 : Int32).toNatClampNeg) fun x21 =>
        lt_ (S3 2 (5 : Int32).toNatClampNeg) fun x23 =>
        some ((x21 - x23), S3)
      else
        if a2 = 2 then
          bd (fX12_blocked (S3 4)) fun x18 =>
          some (x18, S3)
        else
          gd (inb 4 1272) <|
          lt_ (S3 4 (4 : Int32).toNatClampNeg) fun x13 =>
          lt_ (S3 2 (4 : Int32).toNatClampNeg) fun x15 =>
          some ((x13 - x15), S3)
def fX12_ifUp (S : (Nat → Nat → Int32)) (a1 : Int32) (a2 : Int32) : Option (Int32 × (Nat → Nat → Int32)) :=
  lt_ (fX12_isGate  a1) fun x2 =>
  if x2 = 0 then
    bd2 (fX12_refused S 1) fun x28 S29 =>
    if x28 = 0 then
      bd2 (fX12_brings S29 a1 a2) fun x33 S34 =>
      some (x33, S34)
    else
      some (0, S29)
  else
    lt_ (fX12_in  ((a2 : Int32).toInt64) 0 3) fun x6 =>
    if x6 = 0 then
      bd2 (fX12_refused S 2) fun x10 S11 =>
      if x10 = 0 then
        bd2 (fX12_brings S11 a1 a2) fun x15 S16 =>
        some (x15, S16)
      else
        some (0, S11)
    else
      bd2 (fX12_refused S 0) fun x19 S20 =>
      if x19 = 0 then
        bd2 (fX12_brings S20 a1 a2) fun x24 S25 =>
        some (x24, S25)
      else
        some (0, S20)
def fX12_bestUp_L11 (n : Nat) (S : (Nat → Nat → Int32)) (y1 : Int32) (y2 : Int32) (y3 : Int32) : Option (Int32 × (Nat → Nat → Int32)) :=
  match n with
  | 0 => none
  | n + 1 =>
    if 4 ≤ y3 then
      some (y1, S)
    else
      bd2 (fX12_brings S y3 3) fun x5 S6 =>
      bd (fX12_isUp (S6 2) y3) fun x9 =>
      if x9 = 0 then
        if x5 ≤ y2 then
          lt_ (y3 + 1) fun x15 =>
          fX12_bestUp_L11 n S6 y1 y2 x15
        else
          lt_ (y3 + 1) fun x17 =>
          fX12_bestUp_L11 n S6 y3 x5 x17
      else
        lt_ (y3 + 1) fun x12 =>
        fX12_bestUp_L11 n S6 y1 y2 x12
def fX12_bestUp (S : (Nat → Nat → Int32)) : Option (Int32 × (Nat → Nat → Int32)) :=
  lt_ (va_up S 0 (upd (S 0) 0 0)) fun S1 =>
  fX12_bestUp_L11 3000 S1 (-1) (-1) 0
def fX12_worst_L9 (n : Nat) (S : (Nat → Nat → Int32)) (y1 : Int32) (y2 : Int32) : Option (Int32 × (Nat → Nat → Int32)) :=
  match n with
  | 0 => none
  | n + 1 =>
    gd (inb 1 1272) <|
    lt_ (S 2 (1 : Int32).toNatClampNeg) fun x4 =>
    if x4 ≤ y2 then
      some (y1, S)
    else
      if y1 = (-1) then
        lt_ (y2 + 1) fun x8 =>
        fX12_worst_L9 n S y2 x8
      else
        bd (fX12_standing (S 2) y2) fun x11 =>
        bd (fX12_standing (S 2) y1) fun x14 =>
        if x14 ≤ x11 then
          lt_ (y2 + 1) fun x17 =>
          fX12_worst_L9 n S y1 x17
        else
          lt_ (y2 + 1) fun x19 =>
          fX12_worst_L9 n S y2 x19
def fX12_worst (S : (Nat → Nat → Int32)) : Option (Int32 × (Nat → Nat → Int32)) :=
  lt_ (va_up S 0 (upd (S 0) 0 0)) fun S1 =>
  fX12_worst_L9 3000 S1 (-1) 0
def fX12_owes_L40 (n : Nat) (S : (Nat → Nat → Int32)) (y1 : Int32) (y2 : Int32) : Option (Int32 × (Nat → Nat → Int32)) :=
  match n with
  | 0 => none
  | n + 1 =>
    if 4 ≤ y2 then
      lt_ (fX12_accountAt  y1) fun x16 =>
      gd (inb (x16 + 0) 1272) <|
      lt_ (S 3 ((x16 + 0) : Int32).toNatClampNeg) fun x19 =>
      if 0 ≤ x19 then
        some (0, S)
      else
        some ((-x19), S)
    else
      bd2 (fX12_doesLine (S 3) y2 1) fun x23 r25 =>
      lt_ (va_up S 3 r25) fun S24 =>
      lt_ (y2 + 1) fun x28 =>
      fX12_owes_L40 n S24 y1 x28
def fX12_owes (S : (Nat → Nat → Int32)) (a1 : Int32) : Option (Int32 × (Nat → Nat → Int32)) :=
  bd (fX12_isAccount (S 2) a1) fun x2 =>
  if x2 = 0 then
    bd2 (fX12_refused S 1) fun x6 S7 =>
    if x6 = 0 then
      bd (fcp 1272 (S7 2) 0 1272 (S7 3) 0) fun r10 =>
      lt_ (va_up S7 3 r10) fun S12 =>
      fX12_owes_L40 3000 S12 a1 0
    else
      some (0, S7)
  else
    bd2 (fX12_refused S 0) fun x31 S32 =>
    if x31 = 0 then
      bd (fcp 1272 (S32 2) 0 1272 (S32 3) 0) fun r35 =>
      lt_ (va_up S32 3 r35) fun S37 =>
      fX12_owes_L40 3000 S37 a1 0
    else
      some (0, S32)
def fX12_simulate_L45 (n : Nat) (S : (Nat → Nat → Int32)) (y1 : Int64) (y3 : Int32) (y4 : Int64) (y6 : Int32) : Option (Int32 × (Nat → Nat → Int32)) :=
  match n with
  | 0 => none
  | n + 1 =>
    if y3 ≤ y6 then
      gd (inb 3 1272) <|
      lt_ (S 3 (3 : Int32).toNatClampNeg) fun x16 =>
      lt_ (S 2 (3 : Int32).toNatClampNeg) fun x18 =>
      gd (inb 5 1272) <|
      lt_ (S 3 (5 : Int32).toNatClampNeg) fun x21 =>
      lt_ (S 2 (5 : Int32).toNatClampNeg) fun x23 =>
      some ((((1000 * (x16 - x18)) + x21) - x23), S)
    else
      lt_ (((y4 * 6364136223846793005) + 1442695040888963407)) fun x25 =>
      bd (fX12_turn (S 3) (((((x25 : Int64).toUInt64 >>> ((33 : Int32).toInt64.toUInt64 &&& Int64.toUInt64 63)).toInt64) : Int64).toInt32)) fun r29 =>
      lt_ (va_up S 3 r29) fun S28 =>
      lt_ (y6 + 1) fun x32 =>
      fX12_simulate_L45 n S28 y1 y3 x25 x32
def fX12_simulate (S : (Nat → Nat → Int32)) (a1 : Int64) (a2 : Int32) : Option (Int32 × (Nat → Nat → Int32)) :=
  lt_ (fX12_in  ((a2 : Int32).toInt64) 1 80) fun x2 =>
  if x2 = 0 then
    bd2 (fX12_refused S 1) fun x6 S7 =>
    if x6 = 0 then
      bd (fcp 1272 (S7 2) 0 1272 (S7 3) 0) fun r10 =>
      lt_ (va_up S7 3 r10) fun S12 =>
      fX12_simulate_L45 3000 S12 a1 a2 a1 0
    else
      some (0, S7)
  else
    bd2 (fX12_refused S 0) fun x35 S36 =>
    if x35 = 0 then
      bd (fcp 1272 (S36 2) 0 1272 (S36 3) 0) fun r39 =>
      lt_ (va_up S36 3 r39) fun S41 =>
      fX12_simulate_L45 3000 S41 a1 a2 a1 0
    else
      some (0, S36)
def fX12_save (S : (Nat → Nat → Int32)) (a1 : Int32) : Option (Int32 × (Nat → Nat → Int32)) :=
  lt_ (fX12_in  ((a1 : Int32).toInt64) 0 1) fun x2 =>
  if x2 = 0 then
    bd2 (fX12_refused S 1) fun x6 S7 =>
    if x6 = 0 then
      bd (fcp 1272 (S7 2) 0 2544 (S7 6) (1272 * a1)) fun r10 =>
      lt_ (va_up S7 6 r10) fun S12 =>
      gd (inb a1 2) <|
      lt_ (va_up S12 7 (upd (S12 7) (a1 : Int32).toNatClampNeg 1)) fun S15 =>
      gd (inb 2 1272) <|
      lt_ (S15 2 (2 : Int32).toNatClampNeg) fun x18 =>
      some (x18, S15)
    else
      some (0, S7)
  else
    bd2 (fX12_refused S 0) fun x21 S22 =>
    if x21 = 0 then
      bd (fcp 1272 (S22 2) 0 2544 (S22 6) (1272 * a1)) fun r25 =>
      lt_ (va_up S22 6 r25) fun S27 =>
      gd (inb a1 2) <|
      lt_ (va_up S27 7 (upd (S27 7) (a1 : Int32).toNatClampNeg 1)) fun S30 =>
      gd (inb 2 1272) <|
      lt_ (S30 2 (2 : Int32).toNatClampNeg) fun x33 =>
      some (x33, S30)
    else
      some (0, S22)
def fX12_restore (S : (Nat → Nat → Int32)) (a1 : Int32) : Option (Int32 × (Nat → Nat → Int32)) :=
  lt_ (fX12_in  ((a1 : Int32).toInt64) 0 1) fun x2 =>
  if x2 = 0 then
    bd2 (fX12_refused S 1) fun x38 S39 =>
    if x38 = 0 then
      bd (fcp 2544 (S39 6) (1272 * a1) 1272 (S39 2) 0) fun r42 =>
      lt_ (va_up S39 2 r42) fun S44 =>
      lt_ (va_up S44 0 (upd (S44 0) 7 0)) fun S46 =>
      gd (inb 2 1272) <|
      lt_ (S46 2 (2 : Int32).toNatClampNeg) fun x49 =>
      some (x49, S46)
    else
      some (0, S39)
  else
    gd (inb a1 2) <|
    lt_ (S 7 (a1 : Int32).toNatClampNeg) fun x6 =>
    if x6 = 0 then
      bd2 (fX12_refused S 2) fun x24 S25 =>
      if x24 = 0 then
        bd (fcp 2544 (S25 6) (1272 * a1) 1272 (S25 2) 0) fun r28 =>
        lt_ (va_up S25 2 r28) fun S30 =>
        lt_ (va_up S30 0 (upd (S30 0) 7 0)) fun S32 =>
        gd (inb 2 1272) <|
        lt_ (S32 2 (2 : Int32).toNatClampNeg) fun x35 =>
        some (x35, S32)
      else
        some (0, S25)
    else
      bd2 (fX12_refused S 0) fun x10 S11 =>
      if x10 = 0 then
        bd (fcp 2544 (S11 6) (1272 * a1) 1272 (S11 2) 0) fun r14 =>
        lt_ (va_up S11 2 r14) fun S16 =>
        lt_ (va_up S16 0 (upd (S16 0) 7 0)) fun S18 =>
        gd (inb 2 1272) <|
        lt_ (S18 2 (2 : Int32).toNatClampNeg) fun x21 =>
        some (x21, S18)
      else
        some (0, S11)
def initR (j : Nat) : Int32 := if j = 8 then 10 else if j = 9 then 5 else if j = 11 then 20 else if j = 84 ∨ j = 89 ∨ j = 94 ∨ j = 99 then 2 else if j = 85 ∨ j = 90 ∨ j = 95 ∨ j = 100 then 1 else 0
def beginR (f : Nat → Int32) : Nat → Int32 := fun j => if j < 1272 then initR j else f j
