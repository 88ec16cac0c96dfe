/-! THE CLASS AS FUNCTIONS -/
def f0_here (z0 : gTx) : Option (Int32) :=
  if (z0.2 2) < 0 then
    some (-1 : Int32)
  else
    if (z0.2 1) ≤ (z0.2 2) then
      some (-1 : Int32)
    else
      if (60 : Int32) ≤ (z0.2 2) then
        some (-1 : Int32)
      else
        if g_in (z0.2 2) 60 then
        some (z0.1 (z0.2 2).toNatClampNeg)
        else none
def f0_expect_15 (z0 : gTx) : Option gTx :=
  g_let (g_ti z0 3 (1 : Int32)) fun z2 =>
  some z2
def f0_expect (z0 : gTx) (p1 : Int32) : Option gTx :=
  if ¬ (z0.2 3) = 0 then
    f0_expect_15 z0
  else
    g_b1 (f0_here z0) fun r3 =>
    if r3 = p1 then
      g_let (g_ti z0 2 ((z0.2 2) + (1 : Int32))) fun z7 =>
      some z7
    else
      f0_expect_15 z0
def f0_digitHere (z0 : gTx) : Option (Int32) :=
  g_b1 (f0_here z0) fun r1 =>
  if r1 < (48 : Int32) then
    some (-1 : Int32)
  else
    if (57 : Int32) < r1 then
      some (-1 : Int32)
    else
      some (r1 - (48 : Int32))
def f0_numberBehind_30 (z0 : gTx) (x2 : Int32) : Option (Int32 × gTx) :=
  g_let (g_ti z0 3 (1 : Int32)) fun z8 =>
  some (x2, z8)
def f0_numberBehind_50 : Nat → gTx → Int32 → Int32 → Int32 → Option (Int32 × gTx)
  | 0, _, _, _, _ => none
  | n + 1, z0, x3, x4, x5 =>
  if (60 : Int32) ≤ x5 then
    some (x4, z0)
  else
    if x4 ≤ 0 then
      some (x4, z0)
    else
      g_b1 (f0_digitHere z0) fun r14 =>
      if r14 < 0 then
        some (x4, z0)
      else
        if ((x4 * (10 : Int32)) + r14) ≤ x3 then
          g_let ((x4 * (10 : Int32)) + r14) fun t19 =>
          g_let (g_ti z0 2 ((z0.2 2) + (1 : Int32))) fun z20 =>
          f0_numberBehind_50 n z20 x3 t19 (x5 + 1)
        else
          some (x4, z0)
def f0_numberBehind (z0 : gTx) (p1 : Int32) (p2 : Int32) (p3 : Int32) : Option (Int32 × gTx) :=
  g_b1 (f0_expect z0 p1) fun z1 =>
  g_b1 (f0_digitHere z1) fun r4 =>
  if ¬ (z1.2 3) = 0 then
    f0_numberBehind_30 z1 p2
  else
    if r4 < p2 then
      f0_numberBehind_30 z1 p2
    else
      if r4 ≤ p3 then
        g_let (g_ti z1 2 ((z1.2 2) + (1 : Int32))) fun z11 =>
        f0_numberBehind_50 70 z11 p3 r4 (1 : Int32)
      else
        f0_numberBehind_30 z1 p2
def f0_readOrder (z0 : gTx) : Option gTx :=
  g_bd (f0_numberBehind z0 (111 : Int32) (0 : Int32) (2 : Int32)) fun r1 z2 =>
  g_let (g_ti z2 6 r1) fun z5 =>
  g_bd (f0_numberBehind z5 (44 : Int32) (1 : Int32) (99 : Int32)) fun r6 z7 =>
  g_let (g_ti z7 7 r6) fun z10 =>
  g_bd (f0_numberBehind z10 (120 : Int32) (1 : Int32) (99 : Int32)) fun r11 z12 =>
  g_let (g_ti z12 8 r11) fun z15 =>
  g_bd (f0_numberBehind z15 (64 : Int32) (0 : Int32) (999 : Int32)) fun r16 z17 =>
  g_let (g_ti z17 9 r16) fun z20 =>
  some z20
def f0_readPurchase (z0 : gTx) : Option gTx :=
  g_bd (f0_numberBehind z0 (115 : Int32) (0 : Int32) (3 : Int32)) fun r1 z2 =>
  g_let (g_ti z2 5 r1) fun z5 =>
  g_bd (f0_numberBehind z5 (58 : Int32) (0 : Int32) (2 : Int32)) fun r6 z7 =>
  g_let (g_ti z7 6 r6) fun z10 =>
  g_bd (f0_numberBehind z10 (44 : Int32) (1 : Int32) (99 : Int32)) fun r11 z12 =>
  g_let (g_ti z12 7 r11) fun z15 =>
  g_bd (f0_numberBehind z15 (120 : Int32) (1 : Int32) (99 : Int32)) fun r16 z17 =>
  g_let (g_ti z17 8 r16) fun z20 =>
  some z20
def f0_readCommand_13 (z0 : gTx) : Option gTx :=
  g_b1 (f0_here z0) fun r2 =>
  g_let (g_ti z0 4 r2) fun z5 =>
  g_let (z5.2 4) fun t6 =>
  if t6 = (100 : Int32) then
    g_bd (f0_numberBehind z5 (100 : Int32) (1 : Int32) (99 : Int32)) fun r7 z8 =>
    g_let (g_ti z8 11 r7) fun z11 =>
    some z11
  else
    if t6 = (111 : Int32) then
      g_b1 (f0_readOrder z5) fun z12 =>
      some z12
    else
      if t6 = (112 : Int32) then
        g_bd (f0_numberBehind z5 (112 : Int32) (0 : Int32) (2 : Int32)) fun r15 z16 =>
        g_let (g_ti z16 10 r15) fun z19 =>
        some z19
      else
        if t6 = (115 : Int32) then
          g_b1 (f0_readPurchase z5) fun z20 =>
          some z20
        else
          g_let (g_ti z5 3 (1 : Int32)) fun z23 =>
          some z23
def f0_readCommand (z0 : gTx) : Option gTx :=
  if (z0.2 2) ≤ 0 then
    f0_readCommand_13 z0
  else
    g_b1 (f0_expect z0 (59 : Int32)) fun z24 =>
    f0_readCommand_13 z24
def f0_rewind (z0 : gTx) : Option gTx :=
  g_let (g_ti z0 2 (0 : Int32)) fun z1 =>
  g_let (g_ti z1 3 (0 : Int32)) fun z2 =>
  some z2
def f0_commandsOrFault_6 : Nat → gTx → Int32 → Option (Int32 × gTx)
  | 0, _, _ => none
  | n + 1, z0, x1 =>
  if (60 : Int32) < x1 then
    some ((-100 : Int32) - (z0.2 2), z0)
  else
    g_b1 (f0_readCommand z0) fun z5 =>
    if (z5.2 3) = 0 then
      if (z5.2 2) < (z5.2 1) then
        f0_commandsOrFault_6 n z5 (x1 + 1)
      else
        some (x1, z5)
    else
      some ((-100 : Int32) - (z5.2 2), z5)
def f0_commandsOrFault (z0 : gTx) : Option (Int32 × gTx) :=
  g_b1 (f0_rewind z0) fun z1 =>
  f0_commandsOrFault_6 70 z1 (1 : Int32)
def f1_splitSheet_62 (z0 : gSt) (x2 : Int32) (vx3 : gSh) (y1 : Int32) : Option gSt :=
  g_let (g_si z0 18 y1) fun z6 =>
  g_let (g_si z6 19 ((vx3.2.2.2.1 - x2) - (z6.1 0))) fun z7 =>
  some z7
def f1_splitSheet_45 (z0 : gSt) (x1 : Int32) (x2 : Int32) (vx3 : gSh) (x5 : Int32) (y1 : Int32) : Option gSt :=
  g_let (g_si z0 16 y1) fun z4 =>
  if x5 = 0 then
    f1_splitSheet_62 z4 x2 vx3 x1
  else
    f1_splitSheet_62 z4 x2 vx3 vx3.2.2.1
def f1_splitSheet_13 (z0 : gSt) (x1 : Int32) (x2 : Int32) (vx3 : gSh) (y0 : Int32) : Option gSt :=
  g_let (g_si z0 15 ((vx3.2.2.1 - x1) - (z0.1 0))) fun z2 =>
  if y0 = 0 then
    f1_splitSheet_45 z2 x1 x2 vx3 y0 vx3.2.2.2.1
  else
    f1_splitSheet_45 z2 x1 x2 vx3 y0 x2
def f1_splitSheet (z0 : gSt) (p1 : Int32) (p2 : Int32) (v3 : gSh) : Option gSt :=
  if ¬ (z0.1 2) = 0 then
    f1_splitSheet_13 z0 p1 p2 v3 (0 : Int32)
  else
    f1_splitSheet_13 z0 p1 p2 v3 (1 : Int32)
def f1_sumUp_97 (z0 : gSt) (x1 : Int32) : Option gSt :=
  g_let (g_si z0 22 (((z0.1 17) + (z0.1 20)) - (z0.1 21))) fun z6 =>
  g_let (g_si z6 23 ((x1 - (z6.1 17)) - (z6.1 20))) fun z7 =>
  some z7
def f1_sumUp_68 (z0 : gSt) (x1 : Int32) (x2 : Int32) : Option gSt :=
  if (z0.1 18) < x2 then
    f1_sumUp_97 z0 x1
  else
    if (z0.1 19) < x2 then
      f1_sumUp_97 z0 x1
    else
      g_let (g_si z0 21 ((z0.1 21) + (z0.1 20))) fun z9 =>
      f1_sumUp_97 z9 x1
def f1_sumUp (z0 : gSt) (p1 : Int32) (p2 : Int32) : Option gSt :=
  g_let (g_si z0 17 ((if (z0.1 15) < (0 : Int32) then (0 : Int32) else (z0.1 15)) * (z0.1 16))) fun z1 =>
  g_let (g_si z1 20 ((z1.1 18) * (if (z1.1 19) < (0 : Int32) then (0 : Int32) else (z1.1 19)))) fun z2 =>
  g_let (g_si z2 21 (0 : Int32)) fun z3 =>
  if (z3.1 15) < p2 then
    f1_sumUp_68 z3 p1 p2
  else
    if (z3.1 16) < p2 then
      f1_sumUp_68 z3 p1 p2
    else
      g_let (g_si z3 21 ((z3.1 21) + (z3.1 17))) fun z11 =>
      f1_sumUp_68 z11 p1 p2
def f3_area (v0 : gOd) : Option (Int32) :=
  some (v0.2.2.1 * v0.2.2.2.1)
def f7_area (v0 : gSh) : Option (Int32) :=
  some (v0.2.2.1 * v0.2.2.2.1)
def f1_layOut_125 (z0 : gSt) (vx1 : gOd) (vx2 : gSh) (y1 : Int32) (y2 : Int32) : Option (Int32 × gSt) :=
  g_b1 (f1_splitSheet z0 y1 y2 vx2) fun z9 =>
  g_b1 (f7_area vx2) fun r12 =>
  g_b1 (f3_area vx1) fun r15 =>
  g_b1 (f1_sumUp z9 (r12 - r15) (z9.1 1)) fun z18 =>
  some ((1 : Int32), z18)
def f1_layOut_109 (z0 : gSt) (vx1 : gOd) (vx2 : gSh) (x4 : Int32) (y1 : Int32) : Option (Int32 × gSt) :=
  if x4 = 0 then
    f1_layOut_125 z0 vx1 vx2 y1 vx1.2.2.1
  else
    f1_layOut_125 z0 vx1 vx2 y1 vx1.2.2.2.1
def f1_layOut_89 (z0 : gSt) (vx1 : gOd) (vx2 : gSh) (x4 : Int32) (y1 : Int32) : Option (Int32 × gSt) :=
  if y1 = 0 ∨ y1 = 1 then
  g_let (g_si z0 14 y1) fun z6 =>
  if x4 = 0 then
    f1_layOut_109 z6 vx1 vx2 x4 vx1.2.2.2.1
  else
    f1_layOut_109 z6 vx1 vx2 x4 vx1.2.2.1
  else none
def f1_layOut_78 (z0 : gSt) (vx1 : gOd) (vx2 : gSh) (x4 : Int32) : Option (Int32 × gSt) :=
  if ¬ x4 = 0 then
    f1_layOut_89 z0 vx1 vx2 x4 (0 : Int32)
  else
    f1_layOut_89 z0 vx1 vx2 x4 (1 : Int32)
def f1_layOut_40 (z0 : gSt) (vx1 : gOd) (vx2 : gSh) (y0 : Int32) : Option (Int32 × gSt) :=
  if ¬ y0 = 0 then
    f1_layOut_78 z0 vx1 vx2 y0
  else
    if (z0.1 4) = 0 then
      some ((0 : Int32), z0)
    else
      if vx2.2.2.1 < vx1.2.2.2.1 then
        some ((0 : Int32), z0)
      else
        if vx1.2.2.1 ≤ vx2.2.2.2.1 then
          f1_layOut_78 z0 vx1 vx2 y0
        else
          some ((0 : Int32), z0)
def f1_layOut_39 (z0 : gSt) (vx1 : gOd) (vx2 : gSh) : Option (Int32 × gSt) :=
  f1_layOut_40 z0 vx1 vx2 (0 : Int32)
def f1_layOut (z0 : gSt) (v1 : gOd) (v2 : gSh) : Option (Int32 × gSt) :=
  if v1.2.1 = v2.2.1 then
    if v2.2.2.1 < v1.2.2.1 then
      f1_layOut_39 z0 v1 v2
    else
      if v2.2.2.2.1 < v1.2.2.2.1 then
        f1_layOut_39 z0 v1 v2
      else
        f1_layOut_40 z0 v1 v2 (1 : Int32)
  else
    some ((0 : Int32), z0)
def f2_stateAt (z0 : gMu) (p1 : Int32) : Option (Option Nat) :=
  if p1 < 0 then
    some none
  else
    if (4 : Int32) ≤ p1 then
      some none
    else
      if g_in p1 4 then
      g_let (z0.2.1.1 p1.toNatClampNeg) fun b4 =>
      some (some b4)
      else none
def f2_dropOldest_8 : Nat → gMu → Nat → Int32 → Option gMu
  | 0, _, _, _ => none
  | n + 1, z0, bx1, x2 =>
  if (4 : Int32) ≤ x2 then
    g_let (g_hr z0 (z0.2.1.2 - (1 : Int32))) fun z7 =>
    some z7
  else
    if (4 : Int32) ≤ (x2 + (1 : Int32)) then
      if g_in x2 4 then
      g_let (g_hs z0 x2.toNatClampNeg bx1) fun z10 =>
      f2_dropOldest_8 n z10 bx1 (x2 + 1)
      else none
    else
      if g_in (x2 + (1 : Int32)) 4 then
      g_let (z0.2.1.1 (x2 + (1 : Int32)).toNatClampNeg) fun b12 =>
      if g_in x2 4 then
      g_let (g_hs z0 x2.toNatClampNeg b12) fun z14 =>
      f2_dropOldest_8 n z14 bx1 (x2 + 1)
      else none
      else none
def f2_dropOldest (z0 : gMu) : Option gMu :=
  g_b1 (f2_stateAt z0 (0 : Int32)) fun r1 =>
  g_oc r1
    (none)
    (fun b5 =>
    f2_dropOldest_8 70 z0 b5 (0 : Int32))
def f4_numbered (z0 : gSt) (p1 : Int32) : Option (Option gOd) :=
  if p1 < 0 then
    some none
  else
    if (12 : Int32) ≤ p1 then
      some none
    else
      if g_in p1 12 then
      g_oc (z0.2.2 p1.toNatClampNeg)
        (some none)
        (fun v4 =>
        some (some v4))
      else none
def f4_copyFrom_10 (s2 : gSt) : Nat → gSt → Int32 → Option gSt
  | 0, _, _ => none
  | n + 1, z0, x2 =>
  if (12 : Int32) ≤ x2 then
    some z0
  else
    g_b1 (f4_numbered s2 x2) fun r3 =>
    g_oc r3
      (if g_in x2 12 then
      g_let (g_so z0 x2.toNatClampNeg none) fun z10 =>
      f4_copyFrom_10 s2 n z10 (x2 + 1)
      else none)
      (fun v8 =>
      if g_in x2 12 then
      g_let (g_so z0 x2.toNatClampNeg (some v8)) fun z12 =>
      f4_copyFrom_10 s2 n z12 (x2 + 1)
      else none)
def f4_copyFrom (z0 : gSt) (s2 : gSt) : Option gSt :=
  g_let (g_si z0 13 (s2.1 13)) fun z1 =>
  f4_copyFrom_10 s2 70 z1 (0 : Int32)
def f5_inSlot (z0 : gSt) (p1 : Int32) : Option (Option gSh) :=
  if p1 < 0 then
    some none
  else
    if (32 : Int32) ≤ p1 then
      some none
    else
      if g_in p1 32 then
      g_oc (z0.2.1 p1.toNatClampNeg)
        (some none)
        (fun v4 =>
        some (some v4))
      else none
def f5_copyFrom_10 (s2 : gSt) : Nat → gSt → Int32 → Option gSt
  | 0, _, _ => none
  | n + 1, z0, x2 =>
  if (32 : Int32) ≤ x2 then
    some z0
  else
    g_b1 (f5_inSlot s2 x2) fun r3 =>
    g_oc r3
      (if g_in x2 32 then
      g_let (g_ss z0 x2.toNatClampNeg none) fun z10 =>
      f5_copyFrom_10 s2 n z10 (x2 + 1)
      else none)
      (fun v8 =>
      if g_in x2 32 then
      g_let (g_ss z0 x2.toNatClampNeg (some v8)) fun z12 =>
      f5_copyFrom_10 s2 n z12 (x2 + 1)
      else none)
def f5_copyFrom (z0 : gSt) (s2 : gSt) : Option gSt :=
  g_let (g_si z0 12 (s2.1 12)) fun z1 =>
  f5_copyFrom_10 s2 70 z1 (0 : Int32)
def f6_copyFrom (z0 : gSt) (s2 : gSt) : Option gSt :=
  g_let (g_si z0 0 (s2.1 0)) fun z1 =>
  g_let (g_si z1 1 (s2.1 1)) fun z2 =>
  g_let (g_si z2 2 (s2.1 2)) fun z3 =>
  g_let (g_si z3 3 (s2.1 3)) fun z4 =>
  g_let (g_si z4 4 (s2.1 4)) fun z5 =>
  some z5
def f8_copyFrom (z0 : gSt) (s2 : gSt) : Option gSt :=
  g_b1 (f6_copyFrom z0 s2) fun z1 =>
  g_b1 (f5_copyFrom z1 s2) fun z4 =>
  g_b1 (f4_copyFrom z4 s2) fun z7 =>
  g_let (g_si z7 5 (s2.1 5)) fun z10 =>
  g_let (g_si z10 6 (s2.1 6)) fun z11 =>
  g_let (g_si z11 7 (s2.1 7)) fun z12 =>
  g_let (g_si z12 8 (s2.1 8)) fun z13 =>
  g_let (g_si z13 9 (s2.1 9)) fun z14 =>
  g_let (g_si z14 10 (s2.1 10)) fun z15 =>
  g_let (g_si z15 11 (s2.1 11)) fun z16 =>
  some z16
def f2_record_16 (b1 : Nat) (z0 : gMu) : Option gMu :=
  g_b1 (f2_stateAt z0 z0.2.1.2) fun r2 =>
  g_oc r2
    (some z0)
    (fun b6 =>
    if b1 ≠ b6 then
    g_b1 (f8_copyFrom (z0.1 b6) (z0.1 b1)) fun z8 =>
    g_let (g_setS z0 b6 z8) fun z11 =>
    g_let (g_hr z11 (z11.2.1.2 + (1 : Int32))) fun z12 =>
    some z12
    else none)
def f2_record (z0 : gMu) (b1 : Nat) : Option gMu :=
  if z0.2.1.2 < (4 : Int32) then
    f2_record_16 b1 z0
  else
    g_b1 (f2_dropOldest z0) fun z13 =>
    f2_record_16 b1 z13
def f2_takeBack (z0 : gMu) (b1 : Nat) : Option (Int32 × gMu) :=
  g_b1 (f2_stateAt z0 (z0.2.1.2 - (1 : Int32))) fun r1 =>
  g_oc r1
    (some ((-5 : Int32), z0))
    (fun b5 =>
    g_let (g_hr z0 (z0.2.1.2 - (1 : Int32))) fun z6 =>
    if b5 ≠ b1 then
    g_b1 (f8_copyFrom (z6.1 b1) (z6.1 b5)) fun z8 =>
    g_let (g_setS z6 b1 z8) fun z11 =>
    some (z11.2.1.2, z11)
    else none)
def f3_asCancelled (v0 : gOd) : Option (gOd) :=
  some (v0.1, v0.2.1, v0.2.2.1, v0.2.2.2.1, v0.2.2.2.2.1, (2 : Int32), (-5 : Int32), (-5 : Int32))
def f3_asCut (v0 : gOd) (p1 : Int32) (p2 : Int32) : Option (gOd) :=
  some (v0.1, v0.2.1, v0.2.2.1, v0.2.2.2.1, v0.2.2.2.2.1, (1 : Int32), p1, p2)
def f3_goesBefore (v0 : gOd) (v1 : gOd) : Option (Int32) :=
  if v0.2.2.2.2.1 = v1.2.2.2.2.1 then
    g_b1 (f3_area v0) fun r2 =>
    g_b1 (f3_area v1) fun r5 =>
    if r2 = r5 then
      if v1.1 ≤ v0.1 then
        some (0 : Int32)
      else
        some (1 : Int32)
    else
      g_b1 (f3_area v0) fun r10 =>
      g_b1 (f3_area v1) fun r13 =>
      if r10 ≤ r13 then
        some (0 : Int32)
      else
        some (1 : Int32)
  else
    if v1.2.2.2.2.1 ≤ v0.2.2.2.2.1 then
      some (0 : Int32)
    else
      some (1 : Int32)
def f3_isLate_19 (vx0 : gOd) (x1 : Int32) : Option (Int32) :=
  if ¬ vx0.2.2.2.2.2.1 = 0 then
    some (0 : Int32)
  else
    if x1 ≤ vx0.2.2.2.2.1 then
      some (0 : Int32)
    else
      some (1 : Int32)
def f3_isLate (v0 : gOd) (p1 : Int32) : Option (Int32) :=
  if ¬ v0.2.2.2.2.2.1 = (1 : Int32) then
    f3_isLate_19 v0 p1
  else
    if v0.2.2.2.2.1 < v0.2.2.2.2.2.2.2 then
      some (1 : Int32)
    else
      f3_isLate_19 v0 p1
def f3_isOpen (v0 : gOd) : Option (Int32) :=
  if ¬ v0.2.2.2.2.2.1 = 0 then
    some (0 : Int32)
  else
    some (1 : Int32)
def f4_replace (z0 : gSt) (v1 : gOd) : Option gSt :=
  if v1.1 < 0 then
    some z0
  else
    if (12 : Int32) ≤ v1.1 then
      some z0
    else
      if g_in v1.1 12 then
      g_let (g_so z0 v1.1.toNatClampNeg (some v1)) fun z4 =>
      some z4
      else none
def f4_addNew (z0 : gSt) (p1 : Int32) (p2 : Int32) (p3 : Int32) (p4 : Int32) : Option (Int32 × gSt) :=
  g_let (z0.1 13) fun t1 =>
  g_let (g_si z0 13 ((z0.1 13) + (1 : Int32))) fun z2 =>
  g_b1 (f4_replace z2 (t1, p1, p2, p3, p4, (0 : Int32), (-5 : Int32), (-5 : Int32))) fun z9 =>
  some (t1, z9)
def f4_isFull (z0 : gSt) : Option (Int32) :=
  if (z0.1 13) < (12 : Int32) then
    some (0 : Int32)
  else
    some (1 : Int32)
def f4_lateOnes_4 : Nat → gSt → Int32 → Int32 → Int32 → Option (Int32)
  | 0, _, _, _, _ => none
  | n + 1, z0, x1, x2, x3 =>
  if (12 : Int32) ≤ x3 then
    some x2
  else
    if g_in x3 12 then
    g_oc (z0.2.2 x3.toNatClampNeg)
      (f4_lateOnes_4 n z0 x1 x2 (x3 + 1))
      (fun v3 =>
      g_b1 (f3_isLate v3 x1) fun r5 =>
      if r5 = 0 then
        f4_lateOnes_4 n z0 x1 x2 (x3 + 1)
      else
        f4_lateOnes_4 n z0 x1 (x2 + 1) (x3 + 1))
    else none
def f4_lateOnes (z0 : gSt) (p1 : Int32) : Option (Int32) :=
  f4_lateOnes_4 70 z0 p1 (0 : Int32) (0 : Int32)
def f4_nextOpen_4 : Nat → gSt → (Option gOd) → (Option gOd) → Int32 → Option (Option gOd)
  | 0, _, _, _, _ => none
  | n + 1, z0, vx1, vx2, x3 =>
  g_oc vx1
    (g_oc vx2
      (if (12 : Int32) ≤ x3 then
        some none
      else
        if g_in x3 12 then
        g_oc (z0.2.2 x3.toNatClampNeg)
          (f4_nextOpen_4 n z0 none none (x3 + 1))
          (fun v9 =>
          g_b1 (f3_isOpen v9) fun r11 =>
          if r11 = 0 then
            f4_nextOpen_4 n z0 none none (x3 + 1)
          else
            f4_nextOpen_4 n z0 none (some v9) (x3 + 1))
        else none)
      (fun v6 =>
      if (12 : Int32) ≤ x3 then
        some (some v6)
      else
        if g_in x3 12 then
        g_oc (z0.2.2 x3.toNatClampNeg)
          (f4_nextOpen_4 n z0 none (some v6) (x3 + 1))
          (fun v17 =>
          g_b1 (f3_isOpen v17) fun r19 =>
          if r19 = 0 then
            f4_nextOpen_4 n z0 none (some v6) (x3 + 1)
          else
            g_b1 (f3_goesBefore v17 v6) fun r23 =>
            if r23 = 0 then
              f4_nextOpen_4 n z0 none (some v6) (x3 + 1)
            else
              f4_nextOpen_4 n z0 none (some v17) (x3 + 1))
        else none))
    (fun v4 =>
    g_oc vx2
      (if (12 : Int32) ≤ x3 then
        some none
      else
        if g_in x3 12 then
        g_oc (z0.2.2 x3.toNatClampNeg)
          (f4_nextOpen_4 n z0 (some v4) none (x3 + 1))
          (fun v31 =>
          g_b1 (f3_isOpen v31) fun r33 =>
          if r33 = 0 then
            f4_nextOpen_4 n z0 (some v4) none (x3 + 1)
          else
            g_b1 (f3_goesBefore v4 v31) fun r37 =>
            if r37 = 0 then
              f4_nextOpen_4 n z0 (some v4) none (x3 + 1)
            else
              f4_nextOpen_4 n z0 (some v4) (some v31) (x3 + 1))
        else none)
      (fun v28 =>
      if (12 : Int32) ≤ x3 then
        some (some v28)
      else
        if g_in x3 12 then
        g_oc (z0.2.2 x3.toNatClampNeg)
          (f4_nextOpen_4 n z0 (some v4) (some v28) (x3 + 1))
          (fun v43 =>
          g_b1 (f3_isOpen v43) fun r45 =>
          if r45 = 0 then
            f4_nextOpen_4 n z0 (some v4) (some v28) (x3 + 1)
          else
            g_b1 (f3_goesBefore v4 v43) fun r49 =>
            if r49 = 0 then
              f4_nextOpen_4 n z0 (some v4) (some v28) (x3 + 1)
            else
              g_b1 (f3_goesBefore v43 v28) fun r53 =>
              if r53 = 0 then
                f4_nextOpen_4 n z0 (some v4) (some v28) (x3 + 1)
              else
                f4_nextOpen_4 n z0 (some v4) (some v43) (x3 + 1))
        else none))
def f4_nextOpen (z0 : gSt) (v1 : Option gOd) : Option (Option gOd) :=
  g_oc v1
    (f4_nextOpen_4 70 z0 none none (0 : Int32))
    (fun v2 =>
    f4_nextOpen_4 70 z0 (some v2) none (0 : Int32))
def f4_openAtRank_16 : Nat → gSt → Int32 → (Option gOd) → Int32 → Option (Option gOd)
  | 0, _, _, _, _ => none
  | n + 1, z0, x1, vx2, x3 =>
  g_oc vx2
    (if x1 ≤ x3 then
      some none
    else
      some none)
    (fun v9 =>
    if x1 ≤ x3 then
      some (some v9)
    else
      g_b1 (f4_nextOpen z0 (some v9)) fun r12 =>
      g_oc r12
        (f4_openAtRank_16 n z0 x1 none (x3 + 1))
        (fun v17 =>
        f4_openAtRank_16 n z0 x1 (some v17) (x3 + 1)))
def f4_openAtRank (z0 : gSt) (p1 : Int32) : Option (Option gOd) :=
  if p1 < (12 : Int32) then
    g_b1 (f4_nextOpen z0 none) fun r2 =>
    g_oc r2
      (f4_openAtRank_16 70 z0 p1 none (0 : Int32))
      (fun v7 =>
      f4_openAtRank_16 70 z0 p1 (some v7) (0 : Int32))
  else
    some none
def f4_openOnes_4 : Nat → gSt → Int32 → Int32 → Option (Int32)
  | 0, _, _, _ => none
  | n + 1, z0, x1, x2 =>
  if (12 : Int32) ≤ x2 then
    some x1
  else
    if g_in x2 12 then
    g_oc (z0.2.2 x2.toNatClampNeg)
      (f4_openOnes_4 n z0 x1 (x2 + 1))
      (fun v3 =>
      g_b1 (f3_isOpen v3) fun r5 =>
      if r5 = 0 then
        f4_openOnes_4 n z0 x1 (x2 + 1)
      else
        f4_openOnes_4 n z0 (x1 + 1) (x2 + 1))
    else none
def f4_openOnes (z0 : gSt) : Option (Int32) :=
  f4_openOnes_4 70 z0 (0 : Int32) (0 : Int32)
def f5_putInFront_2 : Nat → gSt → gSh → Int32 → Int32 → Option gSt
  | 0, _, _, _, _ => none
  | n + 1, z0, vx1, x2, x3 =>
  if (32 : Int32) ≤ x3 then
    some z0
  else
    if ¬ (x3 / (8 : Int32)) = x2 then
      f5_putInFront_2 n z0 vx1 x2 (x3 + 1)
    else
      if g_in x3 32 then
      g_oc (z0.2.1 x3.toNatClampNeg)
        (if g_in x3 32 then
        g_let (g_ss z0 x3.toNatClampNeg (some vx1)) fun z7 =>
        some z7
        else none)
        (fun v4 =>
        f5_putInFront_2 n z0 vx1 x2 (x3 + 1))
      else none
def f5_putInFront (z0 : gSt) (v1 : gSh) (p2 : Int32) : Option gSt :=
  f5_putInFront_2 70 z0 v1 p2 (0 : Int32)
def f5_addNew (z0 : gSt) (p1 : Int32) (p2 : Int32) (p3 : Int32) (p4 : Int32) (p5 : Int32) : Option (Int32 × gSt) :=
  g_let (z0.1 12) fun t1 =>
  g_let (g_si z0 12 ((z0.1 12) + (1 : Int32))) fun z2 =>
  g_b1 (f5_putInFront z2 (t1, p2, p3, p4, p5) p1) fun z9 =>
  some (t1, z9)
def f5_areaThere_4 : Nat → gSt → Int32 → Int32 → Option (Int32)
  | 0, _, _, _ => none
  | n + 1, z0, x1, x2 =>
  if (32 : Int32) ≤ x2 then
    some x1
  else
    if g_in x2 32 then
    g_oc (z0.2.1 x2.toNatClampNeg)
      (f5_areaThere_4 n z0 x1 (x2 + 1))
      (fun v3 =>
      g_b1 (f7_area v3) fun r5 =>
      g_let (x1 + r5) fun t8 =>
      f5_areaThere_4 n z0 t8 (x2 + 1))
    else none
def f5_areaThere (z0 : gSt) : Option (Int32) :=
  f5_areaThere_4 70 z0 (0 : Int32) (0 : Int32)
def f5_filled_4 : Nat → gSt → Int32 → Int32 → Int32 → Option (Int32)
  | 0, _, _, _, _ => none
  | n + 1, z0, x1, x2, x3 =>
  if (32 : Int32) ≤ x3 then
    some x2
  else
    if ¬ (x3 / (8 : Int32)) = x1 then
      f5_filled_4 n z0 x1 x2 (x3 + 1)
    else
      if g_in x3 32 then
      g_oc (z0.2.1 x3.toNatClampNeg)
        (f5_filled_4 n z0 x1 x2 (x3 + 1))
        (fun v4 =>
        f5_filled_4 n z0 x1 (x2 + 1) (x3 + 1))
      else none
def f5_filled (z0 : gSt) (p1 : Int32) : Option (Int32) :=
  f5_filled_4 70 z0 p1 (0 : Int32) (0 : Int32)
def f5_atPlace (z0 : gSt) (p1 : Int32) (p2 : Int32) : Option (Option gSh) :=
  g_b1 (f5_filled z0 p1) fun r1 =>
  if r1 ≤ p2 then
    some none
  else
    g_b1 (f5_inSlot z0 ((((p1 * (8 : Int32)) + r1) - (1 : Int32)) - p2)) fun r5 =>
    g_oc r5
      (some none)
      (fun v10 =>
      some (some v10))
def f5_hasRoom (z0 : gSt) (p1 : Int32) : Option (Int32) :=
  if (200 : Int32) ≤ (z0.1 12) then
    some (0 : Int32)
  else
    g_b1 (f5_filled z0 p1) fun r2 =>
    if (8 : Int32) ≤ r2 then
      some (0 : Int32)
    else
      some (1 : Int32)
def f5_isFull (z0 : gSt) (p1 : Int32) : Option (Int32) :=
  g_b1 (f5_filled z0 p1) fun r1 =>
  if r1 < (8 : Int32) then
    some (0 : Int32)
  else
    some (1 : Int32)
def f5_removeFrom_19 : Nat → gSt → Int32 → Int32 → Option gSt
  | 0, _, _, _ => none
  | n + 1, z0, x2, x3 =>
  if x2 < x3 then
    some z0
  else
    if (32 : Int32) ≤ x3 then
      some z0
    else
      if x2 ≤ x3 then
        if g_in x3 32 then
        g_let (g_ss z0 x3.toNatClampNeg none) fun z7 =>
        f5_removeFrom_19 n z7 x2 (x3 + 1)
        else none
      else
        if (32 : Int32) ≤ (x3 + (1 : Int32)) then
          if g_in x3 32 then
          g_let (g_ss z0 x3.toNatClampNeg none) fun z10 =>
          f5_removeFrom_19 n z10 x2 (x3 + 1)
          else none
        else
          if g_in (x3 + (1 : Int32)) 32 then
          g_oc (z0.2.1 (x3 + (1 : Int32)).toNatClampNeg)
            (if g_in x3 32 then
            g_let (g_ss z0 x3.toNatClampNeg none) fun z15 =>
            f5_removeFrom_19 n z15 x2 (x3 + 1)
            else none)
            (fun v12 =>
            if g_in x3 32 then
            g_let (g_ss z0 x3.toNatClampNeg (some v12)) fun z17 =>
            f5_removeFrom_19 n z17 x2 (x3 + 1)
            else none)
          else none
def f5_removeFrom (z0 : gSt) (p1 : Int32) : Option gSt :=
  if 0 ≤ p1 then
    g_let (((p1 - (p1 - p1 / (8 : Int32) * (8 : Int32))) + (8 : Int32)) - (1 : Int32)) fun t2 =>
    f5_removeFrom_19 70 z0 t2 p1
  else
    some z0
def f5_sheetsBefore (z0 : gSt) (p1 : Int32) : Option (Int32) :=
  g_b1 (f5_filled z0 (p1 / (8 : Int32))) fun r1 =>
  some ((r1 - (1 : Int32)) - (p1 - p1 / (8 : Int32) * (8 : Int32)))
def f5_sheetsThere_4 : Nat → gSt → Int32 → Int32 → Option (Int32)
  | 0, _, _, _ => none
  | n + 1, z0, x1, x2 =>
  if (32 : Int32) ≤ x2 then
    some x1
  else
    if g_in x2 32 then
    g_oc (z0.2.1 x2.toNatClampNeg)
      (f5_sheetsThere_4 n z0 x1 (x2 + 1))
      (fun v3 =>
      f5_sheetsThere_4 n z0 (x1 + 1) (x2 + 1))
    else none
def f5_sheetsThere (z0 : gSt) : Option (Int32) :=
  f5_sheetsThere_4 70 z0 (0 : Int32) (0 : Int32)
def f5_slotOf_2 : Nat → gSt → Int32 → Int32 → Option (Int32)
  | 0, _, _, _ => none
  | n + 1, z0, x1, x2 =>
  if (32 : Int32) ≤ x2 then
    some (-5 : Int32)
  else
    if g_in x2 32 then
    g_oc (z0.2.1 x2.toNatClampNeg)
      (f5_slotOf_2 n z0 x1 (x2 + 1))
      (fun v3 =>
      if ¬ v3.1 = x1 then
        f5_slotOf_2 n z0 x1 (x2 + 1)
      else
        some x2)
    else none
def f5_slotOf (z0 : gSt) (p1 : Int32) : Option (Int32) :=
  f5_slotOf_2 70 z0 p1 (0 : Int32)
def f9_isSide (p0 : Int32) : Option (Int32) :=
  if p0 < (1 : Int32) then
    some (0 : Int32)
  else
    if (99 : Int32) < p0 then
      some (0 : Int32)
    else
      some (1 : Int32)
def f6_isAllowed (p0 : Int32) (p1 : Int32) : Option (Int32) :=
  if p0 = (0 : Int32) then
    if p1 < 0 then
      some (0 : Int32)
    else
      if (5 : Int32) < p1 then
        some (0 : Int32)
      else
        some (1 : Int32)
  else
    if p0 = (1 : Int32) then
      g_b1 (f9_isSide p1) fun r3 =>
      if r3 = 0 ∨ r3 = 1 then
      some r3
      else none
    else
      if p0 = (2 : Int32) then
        if p1 = 0 then
          some (1 : Int32)
        else
          if ¬ p1 = (1 : Int32) then
            some (0 : Int32)
          else
            some (1 : Int32)
      else
        if p0 = (3 : Int32) then
          if p1 < 0 then
            some (0 : Int32)
          else
            if (50 : Int32) < p1 then
              some (0 : Int32)
            else
              some (1 : Int32)
        else
          if p0 = (4 : Int32) then
            if p1 = 0 then
              some (1 : Int32)
            else
              if ¬ p1 = (1 : Int32) then
                some (0 : Int32)
              else
                some (1 : Int32)
          else
              some (0 : Int32)
def f6_put (z0 : gSt) (p1 : Int32) (p2 : Int32) : Option gSt :=
  if p1 = (0 : Int32) then
    g_let (g_si z0 0 p2) fun z1 =>
    some z1
  else
    if p1 = (1 : Int32) then
      g_let (g_si z0 1 p2) fun z2 =>
      some z2
    else
      if p1 = (2 : Int32) then
        g_let (g_si z0 2 p2) fun z3 =>
        some z3
      else
        if p1 = (3 : Int32) then
          g_let (g_si z0 3 p2) fun z4 =>
          some z4
        else
          if p1 = (4 : Int32) then
            g_let (g_si z0 4 p2) fun z5 =>
            some z5
          else
              some z0
def f6_value (z0 : gSt) (p1 : Int32) : Option (Int32) :=
  if p1 = (0 : Int32) then
    some (z0.1 0)
  else
    if p1 = (1 : Int32) then
      some (z0.1 1)
    else
      if p1 = (2 : Int32) then
        some (z0.1 2)
      else
        if p1 = (3 : Int32) then
          some (z0.1 3)
        else
          if p1 = (4 : Int32) then
            some (z0.1 4)
          else
              some (-2 : Int32)
def f6_change (z0 : gSt) (p1 : Int32) (p2 : Int32) : Option (Int32 × gSt) :=
  g_b1 (f6_isAllowed p1 p2) fun r1 =>
  if ¬ r1 = 0 then
    g_b1 (f6_value z0 p1) fun r5 =>
    if ¬ r5 = p2 then
      g_b1 (f6_put z0 p1 p2) fun z9 =>
      some (r5, z9)
    else
      some ((-5 : Int32), z0)
  else
    some ((-2 : Int32), z0)
def f8_breakSheet (z0 : gSt) (p1 : Int32) : Option gSt :=
  g_b1 (f5_inSlot z0 p1) fun r1 =>
  g_oc r1
    (some z0)
    (fun v6 =>
    g_b1 (f7_area v6) fun r7 =>
    g_let (g_si z0 9 ((z0.1 9) + r7)) fun z10 =>
    g_b1 (f5_removeFrom z10 p1) fun z11 =>
    some z11)
def f9_isRack (p0 : Int32) : Option (Int32) :=
  if p0 < 0 then
    some (0 : Int32)
  else
    if (4 : Int32) ≤ p0 then
      some (0 : Int32)
    else
      some (1 : Int32)
def f9_isSort (p0 : Int32) : Option (Int32) :=
  if p0 < 0 then
    some (0 : Int32)
  else
    if (3 : Int32) ≤ p0 then
      some (0 : Int32)
    else
      some (1 : Int32)
def f8_buySheet (z0 : gSt) (p1 : Int32) (p2 : Int32) (p3 : Int32) (p4 : Int32) : Option (Int32 × gSt) :=
  g_b1 (f9_isRack p1) fun r1 =>
  if r1 = 0 then
    some ((-1 : Int32), z0)
  else
    g_b1 (f9_isSort p2) fun r5 =>
    if ¬ r5 = 0 then
      g_b1 (f9_isSide p3) fun r9 =>
      if r9 = 0 then
        some ((-2 : Int32), z0)
      else
        g_b1 (f9_isSide p4) fun r13 =>
        if ¬ r13 = 0 then
          g_b1 (f5_hasRoom z0 p1) fun r17 =>
          if ¬ r17 = 0 then
            g_let (g_si z0 6 ((z0.1 6) + (p3 * p4))) fun z21 =>
            g_bd (f5_addNew z21 p1 p2 p3 p4 (-5 : Int32)) fun r22 z23 =>
            some (r22, z23)
          else
            some ((-3 : Int32), z0)
        else
          some ((-2 : Int32), z0)
    else
      some ((-1 : Int32), z0)
def f8_cancelOrder (z0 : gSt) (p1 : Int32) : Option (Int32 × gSt) :=
  g_b1 (f4_numbered z0 p1) fun r1 =>
  g_oc r1
    (some ((-1 : Int32), z0))
    (fun v6 =>
    g_b1 (f3_isOpen v6) fun r7 =>
    if ¬ r7 = 0 then
      g_b1 (f3_asCancelled v6) fun r11 =>
      g_b1 (f4_replace z0 r11) fun z17 =>
      g_b1 (f4_openOnes z17) fun r20 =>
      some (r20, z17)
    else
      some ((-4 : Int32), z0))
def f8_measureOf (z0 : gSt) (v1 : gSh) (p2 : Int32) (p3 : Int32) : Option (Int32) :=
  if p3 = (0 : Int32) then
    g_b1 (f7_area v1) fun r1 =>
    some r1
  else
    if p3 = (1 : Int32) then
      g_b1 (f5_sheetsBefore z0 p2) fun r4 =>
      some r4
    else
      some (z0.1 22)
def f8_chosenSheet_8 : Nat → gSt → gOd → Int32 → (Option gSh) → Int32 → Int32 → Option (Option gSh × gSt)
  | 0, _, _, _, _, _, _ => none
  | n + 1, z0, vx1, x2, vx3, x4, x5 =>
  g_oc vx3
    (if (32 : Int32) ≤ x5 then
      some (none, z0)
    else
      g_b1 (f5_inSlot z0 x5) fun r4 =>
      g_oc r4
        (f8_chosenSheet_8 n z0 vx1 x2 none x4 (x5 + 1))
        (fun v9 =>
        g_bd (f1_layOut z0 vx1 v9) fun r10 z11 =>
        if r10 = 0 then
          f8_chosenSheet_8 n z11 vx1 x2 none x4 (x5 + 1)
        else
          g_b1 (f8_measureOf z11 v9 x5 x2) fun r15 =>
          f8_chosenSheet_8 n z11 vx1 x2 (some v9) r15 (x5 + 1)))
    (fun v2 =>
    if (32 : Int32) ≤ x5 then
      some ((some v2), z0)
    else
      g_b1 (f5_inSlot z0 x5) fun r19 =>
      g_oc r19
        (f8_chosenSheet_8 n z0 vx1 x2 (some v2) x4 (x5 + 1))
        (fun v24 =>
        g_bd (f1_layOut z0 vx1 v24) fun r25 z26 =>
        if r25 = 0 then
          f8_chosenSheet_8 n z26 vx1 x2 (some v2) x4 (x5 + 1)
        else
          g_b1 (f8_measureOf z26 v24 x5 x2) fun r30 =>
          if r30 < x4 then
            f8_chosenSheet_8 n z26 vx1 x2 (some v24) r30 (x5 + 1)
          else
            if ¬ r30 = x4 then
              f8_chosenSheet_8 n z26 vx1 x2 (some v2) x4 (x5 + 1)
            else
              if v2.1 ≤ v24.1 then
                f8_chosenSheet_8 n z26 vx1 x2 (some v2) x4 (x5 + 1)
              else
                f8_chosenSheet_8 n z26 vx1 x2 (some v24) r30 (x5 + 1)))
def f8_chosenSheet (z0 : gSt) (v1 : gOd) (p2 : Int32) : Option (Option gSh × gSt) :=
  f8_chosenSheet_8 70 z0 v1 p2 none (0 : Int32) (0 : Int32)
def f8_keepOrScrap (z0 : gSt) (p1 : Int32) (p2 : Int32) (v3 : gSh) (p4 : Int32) : Option (Int32 × gSt) :=
  if p1 ≤ 0 then
    some ((0 : Int32), z0)
  else
    if 0 < p2 then
      if p1 < (z0.1 1) then
        g_let (g_si z0 8 ((z0.1 8) + (p1 * p2))) fun z4 =>
        some ((0 : Int32), z4)
      else
        if p2 < (z0.1 1) then
          g_let (g_si z0 8 ((z0.1 8) + (p1 * p2))) fun z6 =>
          some ((0 : Int32), z6)
        else
          g_b1 (f5_hasRoom z0 p4) fun r7 =>
          if r7 = 0 then
            g_let (g_si z0 8 ((z0.1 8) + (p1 * p2))) fun z11 =>
            some ((0 : Int32), z11)
          else
            g_bd (f5_addNew z0 p4 v3.2.1 p1 p2 v3.1) fun r12 z13 =>
            some ((1 : Int32), z13)
    else
      some ((0 : Int32), z0)
def f8_takeOut_11 : Nat → gSt → Int32 → Int32 → Int32 → Option (Int32 × gSt)
  | 0, _, _, _, _ => none
  | n + 1, z0, x1, x2, x3 =>
  if x3 < 0 then
    if x2 = 0 then
      if x2 = 0 ∨ x2 = 1 then
      some (x2, z0)
      else none
    else
      g_b1 (f5_removeFrom z0 x1) fun z7 =>
      if x2 = 0 ∨ x2 = 1 then
      some (x2, z7)
      else none
  else
    g_let (g_si z0 11 ((z0.1 11) + (1 : Int32))) fun z11 =>
    if (z11.1 3) ≤ 0 then
      f8_takeOut_11 n z11 x1 (1 : Int32) (x3 + -1)
    else
      if ¬ (z11.1 3) = 0 then
      if ((z11.1 11) - (z11.1 11) / (z11.1 3) * (z11.1 3)) = 0 then
        g_b1 (f8_breakSheet z11 (x1 + x3)) fun z17 =>
        f8_takeOut_11 n z17 x1 (0 : Int32) (x3 + -1)
      else
        f8_takeOut_11 n z11 x1 (1 : Int32) (x3 + -1)
      else none
def f8_takeOut (z0 : gSt) (p1 : Int32) : Option (Int32 × gSt) :=
  g_b1 (f5_sheetsBefore z0 p1) fun r1 =>
  f8_takeOut_11 70 z0 p1 (0 : Int32) r1
def f8_cutOpenOrder (z0 : gSt) (v1 : gOd) (v2 : gSh) : Option (Int32 × gSt) :=
  g_b1 (f5_slotOf z0 v2.1) fun r1 =>
  g_bd (f8_takeOut z0 r1) fun r4 z5 =>
  if ¬ r4 = 0 then
    g_bd (f1_layOut z5 v1 v2) fun r9 z10 =>
    g_b1 (f3_asCut v1 v2.1 (z10.1 5)) fun r13 =>
    g_b1 (f4_replace z10 r13) fun z19 =>
    g_b1 (f3_area v1) fun r22 =>
    g_let (g_si z19 7 ((z19.1 7) + r22)) fun z25 =>
    g_let (g_si z25 10 ((z25.1 10) + (z25.1 23))) fun z26 =>
    g_let (r1 / (8 : Int32)) fun t27 =>
    g_bd (f8_keepOrScrap z26 (z26.1 15) (z26.1 16) v2 t27) fun r28 z29 =>
    g_bd (f8_keepOrScrap z29 (z29.1 18) (z29.1 19) v2 t27) fun r34 z35 =>
    some (r28 + r34, z35)
  else
    some ((10 : Int32), z5)
def f8_cutOrder (z0 : gSt) (p1 : Int32) (p2 : Int32) : Option (Int32 × gSt) :=
  g_b1 (f4_numbered z0 p1) fun r1 =>
  g_oc r1
    (g_b1 (f5_slotOf z0 p2) fun r7 =>
    g_b1 (f5_inSlot z0 r7) fun r10 =>
    g_oc r10
      (some ((-1 : Int32), z0))
      (fun v15 =>
      some ((-1 : Int32), z0)))
    (fun v6 =>
    g_b1 (f5_slotOf z0 p2) fun r16 =>
    g_b1 (f5_inSlot z0 r16) fun r19 =>
    g_oc r19
      (some ((-1 : Int32), z0))
      (fun v24 =>
      g_b1 (f3_isOpen v6) fun r25 =>
      if r25 = 0 then
        some ((-4 : Int32), z0)
      else
        g_bd (f1_layOut z0 v6 v24) fun r29 z30 =>
        if ¬ r29 = 0 then
          g_bd (f8_cutOpenOrder z30 v6 v24) fun r34 z35 =>
          some (r34, z35)
        else
          some ((-4 : Int32), z30)))
def f8_moveSheet_55 (z0 : gSt) (x2 : Int32) (x3 : Int32) (vx4 : gSh) : Option (Int32 × gSt) :=
  g_b1 (f5_sheetsBefore z0 x3) fun r15 =>
  g_let (r15 + (1 : Int32)) fun t18 =>
  g_bd (f8_takeOut z0 x3) fun r19 z20 =>
  if r19 = 0 then
    some (t18, z20)
  else
    g_b1 (f5_putInFront z20 vx4 x2) fun z24 =>
    some (t18, z24)
def f8_moveSheet (z0 : gSt) (p1 : Int32) (p2 : Int32) : Option (Int32 × gSt) :=
  g_b1 (f5_slotOf z0 p1) fun r1 =>
  g_b1 (f5_inSlot z0 r1) fun r4 =>
  g_oc r4
    (some ((-1 : Int32), z0))
    (fun v9 =>
    g_b1 (f9_isRack p2) fun r10 =>
    if ¬ r10 = 0 then
      if (r1 / (8 : Int32)) = p2 then
        f8_moveSheet_55 z0 p2 r1 v9
      else
        g_b1 (f5_isFull z0 p2) fun r27 =>
        if r27 = 0 then
          f8_moveSheet_55 z0 p2 r1 v9
        else
          some ((-3 : Int32), z0)
    else
      some ((-1 : Int32), z0))
def f8_passDays (z0 : gSt) (p1 : Int32) : Option (Int32 × gSt) :=
  if p1 < (1 : Int32) then
    some ((-2 : Int32), z0)
  else
    if p1 ≤ (99 : Int32) then
      if ((z0.1 5) + p1) ≤ (999 : Int32) then
        g_b1 (f4_lateOnes z0 (z0.1 5)) fun r4 =>
        g_let (g_si z0 5 ((z0.1 5) + p1)) fun z7 =>
        g_b1 (f4_lateOnes z7 (z7.1 5)) fun r8 =>
        some (r8 - r4, z7)
      else
        some ((-3 : Int32), z0)
    else
      some ((-2 : Int32), z0)
def f9_isChoice (p0 : Int32) : Option (Int32) :=
  if p0 < 0 then
    some (0 : Int32)
  else
    if (3 : Int32) ≤ p0 then
      some (0 : Int32)
    else
      some (1 : Int32)
def f8_planDay_31 : Nat → gSt → Int32 → (Option gOd) → Int32 → Int32 → Option (Int32 × gSt)
  | 0, _, _, _, _, _ => none
  | n + 1, z0, x1, vx2, x3, x4 =>
  g_oc vx2
    (if (12 : Int32) ≤ x4 then
      some (x3, z0)
    else
      some (x3, z0))
    (fun v12 =>
    if (12 : Int32) ≤ x4 then
      some (x3, z0)
    else
      g_bd (f8_chosenSheet z0 v12 x1) fun r15 z16 =>
      g_oc r15
        (g_b1 (f4_nextOpen z16 (some v12)) fun r22 =>
        g_oc r22
          (f8_planDay_31 n z16 x1 none x3 (x4 + 1))
          (fun v27 =>
          f8_planDay_31 n z16 x1 (some v27) x3 (x4 + 1)))
        (fun v21 =>
        g_bd (f8_cutOpenOrder z16 v12 v21) fun r28 z29 =>
        if r28 = (10 : Int32) then
          g_b1 (f4_nextOpen z29 (some v12)) fun r35 =>
          g_oc r35
            (f8_planDay_31 n z29 x1 none x3 (x4 + 1))
            (fun v40 =>
            f8_planDay_31 n z29 x1 (some v40) x3 (x4 + 1))
        else
          g_b1 (f4_nextOpen z29 (some v12)) fun r41 =>
          g_oc r41
            (f8_planDay_31 n z29 x1 none (x3 + 1) (x4 + 1))
            (fun v46 =>
            f8_planDay_31 n z29 x1 (some v46) (x3 + 1) (x4 + 1))))
def f8_planDay (z0 : gSt) (p1 : Int32) : Option (Int32 × gSt) :=
  g_b1 (f9_isChoice p1) fun r1 =>
  if ¬ r1 = 0 then
    g_b1 (f4_nextOpen z0 none) fun r5 =>
    g_oc r5
      (some ((-5 : Int32), z0))
      (fun v10 =>
      f8_planDay_31 13 z0 p1 (some v10) (0 : Int32) (0 : Int32))
  else
    some ((-2 : Int32), z0)
def f8_scrapSheet_45 (z0 : gSt) (vx3 : gSh) : Option (Int32 × gSt) :=
  g_b1 (f7_area vx3) fun r15 =>
  some (r15, z0)
def f8_scrapSheet (z0 : gSt) (p1 : Int32) : Option (Int32 × gSt) :=
  g_b1 (f5_slotOf z0 p1) fun r1 =>
  g_b1 (f5_inSlot z0 r1) fun r4 =>
  g_oc r4
    (some ((-1 : Int32), z0))
    (fun v9 =>
    g_bd (f8_takeOut z0 r1) fun r10 z11 =>
    if r10 = 0 then
      f8_scrapSheet_45 z11 v9
    else
      g_b1 (f7_area v9) fun r18 =>
      g_let (g_si z11 8 ((z11.1 8) + r18)) fun z21 =>
      f8_scrapSheet_45 z21 v9)
def f8_takeOrder (z0 : gSt) (p1 : Int32) (p2 : Int32) (p3 : Int32) (p4 : Int32) : Option (Int32 × gSt) :=
  g_b1 (f9_isSort p1) fun r1 =>
  if ¬ r1 = 0 then
    g_b1 (f9_isSide p2) fun r5 =>
    if r5 = 0 then
      some ((-2 : Int32), z0)
    else
      g_b1 (f9_isSide p3) fun r9 =>
      if r9 = 0 then
        some ((-2 : Int32), z0)
      else
        if p4 < 0 then
          some ((-2 : Int32), z0)
        else
          if p4 ≤ (999 : Int32) then
            g_b1 (f4_isFull z0) fun r15 =>
            if r15 = 0 then
              g_bd (f4_addNew z0 p1 p2 p3 p4) fun r19 z20 =>
              some (r19, z20)
            else
              some ((-3 : Int32), z0)
          else
            some ((-2 : Int32), z0)
  else
    some ((-1 : Int32), z0)
def f9_at (z0 : gMu) (p1 : Int32) (p2 : Int32) : Option (Int32) :=
  g_b1 (f9_isRack p1) fun r1 =>
  if ¬ r1 = 0 then
    if 0 ≤ p2 then
      g_b1 (f5_atPlace (z0.1 0) p1 p2) fun r6 =>
      g_oc r6
        (some (-5 : Int32))
        (fun v11 =>
        some v11.1)
    else
      some (-2 : Int32)
  else
    some (-1 : Int32)
def f9_recorded (z0 : gMu) (p1 : Int32) : Option (Int32 × gMu) :=
  if p1 < 0 then
    some (p1, z0)
  else
    g_b1 (f2_record z0 1) fun z2 =>
    some (p1, z2)
def f9_buy (z0 : gMu) (p1 : Int32) (p2 : Int32) (p3 : Int32) (p4 : Int32) : Option (Int32 × gMu) :=
  g_b1 (f8_copyFrom (z0.1 1) (z0.1 0)) fun z1 =>
  g_let (g_setS z0 1 z1) fun z4 =>
  g_bd (f8_buySheet (z4.1 0) p1 p2 p3 p4) fun r5 z6 =>
  g_let (g_setS z4 0 z6) fun z11 =>
  g_bd (f9_recorded z11 r5) fun r12 z13 =>
  some (r12, z13)
def f9_cancel (z0 : gMu) (p1 : Int32) : Option (Int32 × gMu) :=
  g_b1 (f8_copyFrom (z0.1 1) (z0.1 0)) fun z1 =>
  g_let (g_setS z0 1 z1) fun z4 =>
  g_bd (f8_cancelOrder (z4.1 0) p1) fun r5 z6 =>
  g_let (g_setS z4 0 z6) fun z11 =>
  g_bd (f9_recorded z11 r5) fun r12 z13 =>
  some (r12, z13)
def f9_choice (z0 : gMu) (p1 : Int32) (p2 : Int32) : Option (Int32 × gMu) :=
  g_b1 (f4_numbered (z0.1 0) p1) fun r1 =>
  g_oc r1
    (some ((-1 : Int32), z0))
    (fun v6 =>
    g_b1 (f9_isChoice p2) fun r7 =>
    if ¬ r7 = 0 then
      g_b1 (f3_isOpen v6) fun r11 =>
      if ¬ r11 = 0 then
        g_bd (f8_chosenSheet (z0.1 0) v6 p2) fun r15 z16 =>
        g_let (g_setS z0 0 z16) fun z19 =>
        g_oc r15
          (some ((-5 : Int32), z19))
          (fun v22 =>
          some (v22.1, z19))
      else
        some ((-4 : Int32), z0)
    else
      some ((-2 : Int32), z0))
def f9_count (z0 : gMu) (p1 : Int32) : Option (Int32) :=
  if p1 = (0 : Int32) then
    some ((z0.1 0).1 5)
  else
    if p1 = (1 : Int32) then
      g_b1 (f5_sheetsThere (z0.1 0)) fun r1 =>
      some r1
    else
      if p1 = (2 : Int32) then
        g_b1 (f5_areaThere (z0.1 0)) fun r4 =>
        some r4
      else
        if p1 = (3 : Int32) then
          some ((z0.1 0).1 6)
        else
          if p1 = (4 : Int32) then
            some ((z0.1 0).1 7)
          else
            if p1 = (5 : Int32) then
              some ((z0.1 0).1 8)
            else
              if p1 = (6 : Int32) then
                some ((z0.1 0).1 9)
              else
                if p1 = (7 : Int32) then
                  some ((z0.1 0).1 10)
                else
                  if p1 = (8 : Int32) then
                    some ((z0.1 0).1 11)
                  else
                    if p1 = (9 : Int32) then
                      some ((z0.1 0).1 13)
                    else
                      if p1 = (10 : Int32) then
                        g_b1 (f4_openOnes (z0.1 0)) fun r7 =>
                        some r7
                      else
                        if p1 = (11 : Int32) then
                          g_b1 (f4_lateOnes (z0.1 0) ((z0.1 0).1 5)) fun r10 =>
                          some r10
                        else
                          if p1 = (12 : Int32) then
                            some ((z0.1 0).1 12)
                          else
                            if p1 = (13 : Int32) then
                              some z0.2.1.2
                            else
                              if p1 = (14 : Int32) then
                                some (z0.2.2.1.2 1)
                              else
                                if p1 = (20 : Int32) then
                                  g_b1 (f6_value (z0.1 0) (p1 - (20 : Int32))) fun r13 =>
                                  some r13
                                else
                                  if p1 = (21 : Int32) then
                                    g_b1 (f6_value (z0.1 0) (p1 - (20 : Int32))) fun r16 =>
                                    some r16
                                  else
                                    if p1 = (22 : Int32) then
                                      g_b1 (f6_value (z0.1 0) (p1 - (20 : Int32))) fun r19 =>
                                      some r19
                                    else
                                      if p1 = (23 : Int32) then
                                        g_b1 (f6_value (z0.1 0) (p1 - (20 : Int32))) fun r22 =>
                                        some r22
                                      else
                                        if p1 = (24 : Int32) then
                                          g_b1 (f6_value (z0.1 0) (p1 - (20 : Int32))) fun r25 =>
                                          some r25
                                        else
                                            some (-2 : Int32)
def f9_cut (z0 : gMu) (p1 : Int32) (p2 : Int32) : Option (Int32 × gMu) :=
  g_b1 (f8_copyFrom (z0.1 1) (z0.1 0)) fun z1 =>
  g_let (g_setS z0 1 z1) fun z4 =>
  g_bd (f8_cutOrder (z4.1 0) p1 p2) fun r5 z6 =>
  g_let (g_setS z4 0 z6) fun z11 =>
  g_bd (f9_recorded z11 r5) fun r12 z13 =>
  some (r12, z13)
def f9_move (z0 : gMu) (p1 : Int32) (p2 : Int32) : Option (Int32 × gMu) :=
  g_b1 (f8_copyFrom (z0.1 1) (z0.1 0)) fun z1 =>
  g_let (g_setS z0 1 z1) fun z4 =>
  g_bd (f8_moveSheet (z4.1 0) p1 p2) fun r5 z6 =>
  g_let (g_setS z4 0 z6) fun z9 =>
  g_bd (f9_recorded z9 r5) fun r10 z11 =>
  some (r10, z11)
def f9_next (z0 : gMu) (p1 : Int32) : Option (Int32) :=
  if 0 ≤ p1 then
    g_b1 (f4_openAtRank (z0.1 0) p1) fun r2 =>
    g_oc r2
      (some (-5 : Int32))
      (fun v7 =>
      some v7.1)
  else
    some (-2 : Int32)
def f9_order (z0 : gMu) (p1 : Int32) (p2 : Int32) (p3 : Int32) (p4 : Int32) : Option (Int32 × gMu) :=
  g_b1 (f8_copyFrom (z0.1 1) (z0.1 0)) fun z1 =>
  g_let (g_setS z0 1 z1) fun z4 =>
  g_bd (f8_takeOrder (z4.1 0) p1 p2 p3 p4) fun r5 z6 =>
  g_let (g_setS z4 0 z6) fun z11 =>
  g_bd (f9_recorded z11 r5) fun r12 z13 =>
  some (r12, z13)
def f9_ordered (z0 : gMu) (p1 : Int32) (p2 : Int32) : Option (Int32) :=
  g_b1 (f4_numbered (z0.1 0) p1) fun r1 =>
  g_oc r1
    (some (-1 : Int32))
    (fun v6 =>
    if p2 = (0 : Int32) then
      some v6.2.1
    else
      if p2 = (1 : Int32) then
        some v6.2.2.1
      else
        if p2 = (2 : Int32) then
          some v6.2.2.2.1
        else
          if p2 = (3 : Int32) then
            some v6.2.2.2.2.1
          else
            if p2 = (4 : Int32) then
              some v6.2.2.2.2.2.1
            else
              if p2 = (5 : Int32) then
                some v6.2.2.2.2.2.2.1
              else
                if p2 = (6 : Int32) then
                  some v6.2.2.2.2.2.2.2
                else
                  if p2 = (7 : Int32) then
                    g_b1 (f3_isLate v6 ((z0.1 0).1 5)) fun r7 =>
                    if r7 = 0 then
                      some (0 : Int32)
                    else
                      some (1 : Int32)
                  else
                      some (-2 : Int32))
def f9_pass (z0 : gMu) (p1 : Int32) : Option (Int32 × gMu) :=
  g_b1 (f8_copyFrom (z0.1 1) (z0.1 0)) fun z1 =>
  g_let (g_setS z0 1 z1) fun z4 =>
  g_bd (f8_passDays (z4.1 0) p1) fun r5 z6 =>
  g_let (g_setS z4 0 z6) fun z9 =>
  g_bd (f9_recorded z9 r5) fun r10 z11 =>
  some (r10, z11)
def f9_runCommand (z0 : gMu) : Option (Int32 × gMu) :=
  g_let (z0.2.2.1.2 4) fun t1 =>
  if t1 = (111 : Int32) then
    g_bd (f8_takeOrder (z0.1 0) (z0.2.2.1.2 6) (z0.2.2.1.2 7) (z0.2.2.1.2 8) (z0.2.2.1.2 9)) fun r2 z3 =>
    g_let (g_setS z0 0 z3) fun z8 =>
    some (r2, z8)
  else
    if t1 = (112 : Int32) then
      g_bd (f8_planDay (z0.1 0) (z0.2.2.1.2 10)) fun r9 z10 =>
      g_let (g_setS z0 0 z10) fun z15 =>
      some (r9, z15)
    else
      if t1 = (115 : Int32) then
        g_bd (f8_buySheet (z0.1 0) (z0.2.2.1.2 5) (z0.2.2.1.2 6) (z0.2.2.1.2 7) (z0.2.2.1.2 8)) fun r16 z17 =>
        g_let (g_setS z0 0 z17) fun z22 =>
        some (r16, z22)
      else
          g_bd (f8_passDays (z0.1 0) (z0.2.2.1.2 11)) fun r23 z24 =>
          g_let (g_setS z0 0 z24) fun z27 =>
          some (r23, z27)
def f9_perform_34 : Nat → gMu → Int32 → Int32 → Option (Int32 × gMu)
  | 0, _, _, _ => none
  | n + 1, z0, x1, x2 =>
  if x1 ≤ x2 then
    g_bd (f9_recorded z0 x1) fun r16 z17 =>
    some (r16, z17)
  else
    g_b1 (f0_readCommand z0.2.2.1) fun z20 =>
    g_let (g_setT z0 z20) fun z23 =>
    g_bd (f9_runCommand z23) fun r24 z25 =>
    if 0 ≤ r24 then
      f9_perform_34 n z25 x1 (x2 + 1)
    else
      if r24 = (-5 : Int32) then
        f9_perform_34 n z25 x1 (x2 + 1)
      else
        g_b1 (f8_copyFrom (z25.1 0) (z25.1 1)) fun z32 =>
        g_let (g_setS z25 0 z32) fun z35 =>
        some (r24, z35)
def f9_perform (z0 : gMu) : Option (Int32 × gMu) :=
  g_bd (f0_commandsOrFault z0.2.2.1) fun r1 z2 =>
  g_let (g_setT z0 z2) fun z5 =>
  if 0 ≤ r1 then
    g_b1 (f8_copyFrom (z5.1 1) (z5.1 0)) fun z7 =>
    g_let (g_setS z5 1 z7) fun z10 =>
    g_b1 (f0_rewind z10.2.2.1) fun z11 =>
    g_let (g_setT z10 z11) fun z14 =>
    f9_perform_34 21 z14 r1 (0 : Int32)
  else
    some (r1, z5)
def f9_plan (z0 : gMu) (p1 : Int32) : Option (Int32 × gMu) :=
  g_b1 (f8_copyFrom (z0.1 1) (z0.1 0)) fun z1 =>
  g_let (g_setS z0 1 z1) fun z4 =>
  g_bd (f8_planDay (z4.1 0) p1) fun r5 z6 =>
  g_let (g_setS z4 0 z6) fun z11 =>
  g_bd (f9_recorded z11 r5) fun r12 z13 =>
  some (r12, z13)
def f9_restore (z0 : gMu) : Option (Int32 × gMu) :=
  if ¬ z0.2.2.2.1 = 0 then
    g_b1 (f8_copyFrom (z0.1 1) (z0.1 0)) fun z2 =>
    g_let (g_setS z0 1 z2) fun z5 =>
    g_b1 (f8_copyFrom (z5.1 0) (z5.1 2)) fun z6 =>
    g_let (g_setS z5 0 z6) fun z9 =>
    g_bd (f9_recorded z9 ((z9.1 0).1 5)) fun r10 z11 =>
    some (r10, z11)
  else
    some ((-5 : Int32), z0)
def f9_scrap (z0 : gMu) (p1 : Int32) : Option (Int32 × gMu) :=
  g_b1 (f8_copyFrom (z0.1 1) (z0.1 0)) fun z1 =>
  g_let (g_setS z0 1 z1) fun z4 =>
  g_bd (f8_scrapSheet (z4.1 0) p1) fun r5 z6 =>
  g_let (g_setS z4 0 z6) fun z9 =>
  g_bd (f9_recorded z9 r5) fun r10 z11 =>
  some (r10, z11)
def f9_set (z0 : gMu) (p1 : Int32) (p2 : Int32) : Option (Int32 × gMu) :=
  g_b1 (f8_copyFrom (z0.1 1) (z0.1 0)) fun z1 =>
  g_let (g_setS z0 1 z1) fun z4 =>
  g_bd (f6_change (z4.1 0) p1 p2) fun r5 z6 =>
  g_let (g_setS z4 0 z6) fun z9 =>
  g_bd (f9_recorded z9 r5) fun r10 z11 =>
  some (r10, z11)
def f9_sheet (z0 : gMu) (p1 : Int32) (p2 : Int32) : Option (Int32) :=
  g_b1 (f5_slotOf (z0.1 0) p1) fun r1 =>
  g_b1 (f5_inSlot (z0.1 0) r1) fun r4 =>
  g_oc r4
    (some (-1 : Int32))
    (fun v9 =>
    if p2 = (0 : Int32) then
      some v9.2.1
    else
      if p2 = (1 : Int32) then
        some v9.2.2.1
      else
        if p2 = (2 : Int32) then
          some v9.2.2.2.1
        else
          if p2 = (3 : Int32) then
            some (r1 / (8 : Int32))
          else
            if p2 = (4 : Int32) then
              g_b1 (f5_sheetsBefore (z0.1 0) r1) fun r10 =>
              some r10
            else
              if p2 = (5 : Int32) then
                some v9.2.2.2.2
              else
                  some (-2 : Int32))
def f9_undo (z0 : gMu) : Option (Int32 × gMu) :=
  g_bd (f2_takeBack z0 0) fun r1 z2 =>
  some (r1, z2)
def f9_would (z0 : gMu) (p1 : Int32) (p2 : Int32) (p3 : Int32) : Option (Int32 × gMu) :=
  g_b1 (f4_numbered (z0.1 0) p1) fun r1 =>
  g_oc r1
    (g_b1 (f5_slotOf (z0.1 0) p2) fun r7 =>
    g_b1 (f5_inSlot (z0.1 0) r7) fun r10 =>
    g_oc r10
      (some ((-1 : Int32), z0))
      (fun v15 =>
      some ((-1 : Int32), z0)))
    (fun v6 =>
    g_b1 (f5_slotOf (z0.1 0) p2) fun r16 =>
    g_b1 (f5_inSlot (z0.1 0) r16) fun r19 =>
    g_oc r19
      (some ((-1 : Int32), z0))
      (fun v24 =>
      if p3 < 0 then
        some ((-2 : Int32), z0)
      else
        if p3 ≤ (6 : Int32) then
          g_bd (f1_layOut (z0.1 0) v6 v24) fun r27 z28 =>
          g_let (g_setS z0 0 z28) fun z31 =>
          if ¬ r27 = 0 then
            if p3 = (0 : Int32) then
              if ((z31.1 0).1 14) = 0 then
                some ((0 : Int32), z31)
              else
                some ((1 : Int32), z31)
            else
              if p3 = (1 : Int32) then
                some ((z31.1 0).1 17, z31)
              else
                if p3 = (2 : Int32) then
                  some ((z31.1 0).1 20, z31)
                else
                  if p3 = (3 : Int32) then
                    some ((z31.1 0).1 21, z31)
                  else
                    if p3 = (4 : Int32) then
                      some ((z31.1 0).1 22, z31)
                    else
                      if p3 = (5 : Int32) then
                        some ((z31.1 0).1 23, z31)
                      else
                          g_b1 (f5_sheetsBefore (z31.1 0) r16) fun r34 =>
                          some (r34 + (1 : Int32), z31)
          else
            some ((-5 : Int32), z31)
        else
          some ((-2 : Int32), z0)))
def f9_wouldPlan (z0 : gMu) (p1 : Int32) (p2 : Int32) : Option (Int32 × gMu) :=
  g_b1 (f9_isChoice p1) fun r1 =>
  if r1 = 0 then
    some ((-2 : Int32), z0)
  else
    if p2 < 0 then
      some ((-2 : Int32), z0)
    else
      if p2 ≤ (3 : Int32) then
        g_b1 (f8_copyFrom (z0.1 1) (z0.1 0)) fun z7 =>
        g_let (g_setS z0 1 z7) fun z10 =>
        g_bd (f8_planDay (z10.1 1) p1) fun r11 z12 =>
        g_let (g_setS z10 1 z12) fun z17 =>
        if p2 = (0 : Int32) then
          if 0 ≤ r11 then
            some (r11, z17)
          else
            some ((0 : Int32), z17)
        else
          if p2 = (1 : Int32) then
            some (((z17.1 1).1 8) - ((z17.1 0).1 8), z17)
          else
            if p2 = (2 : Int32) then
              some (((z17.1 1).1 11) - ((z17.1 0).1 11), z17)
            else
                some (((z17.1 1).1 9) - ((z17.1 0).1 9), z17)
      else
        some ((-2 : Int32), z0)
