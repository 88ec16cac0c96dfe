/-! the law, as functions -/
def fL_low (p0 : Int32) (p1 : Int32) : Option (Int32) :=
  if ¬ p1 = 0 then
  some ((p0 &&& (2147483647 : Int32)) - (p0 &&& (2147483647 : Int32)) / p1 * p1)
  else none
def fL_buys (z0 : gMu) (p1 : Int32) (p2 : Int32) : Option (Int32 × gMu) :=
  g_b1 (f9_count z0 (12 : Int32)) fun r1 =>
  g_b1 (fL_low p1 (4 : Int32)) fun r4 =>
  g_b1 (f9_at z0 r4 (7 : Int32)) fun r7 =>
  if 0 ≤ r7 then
    g_b1 (fL_low (p1 >>> ((3 : Int32) &&& 31)) (3 : Int32)) fun r11 =>
    g_b1 (fL_low (p1 >>> ((6 : Int32) &&& 31)) (60 : Int32)) fun r14 =>
    g_b1 (fL_low p2 (60 : Int32)) fun r17 =>
    g_bd (f9_buy z0 r4 r11 ((5 : Int32) + r14) ((5 : Int32) + r17)) fun r20 z21 =>
    if ¬ r20 = (-3 : Int32) then
      some ((0 : Int32), z21)
    else
      some ((1 : Int32), z21)
  else
    if ¬ r1 = (200 : Int32) then
      g_b1 (fL_low (p1 >>> ((3 : Int32) &&& 31)) (3 : Int32)) fun r29 =>
      g_b1 (fL_low (p1 >>> ((6 : Int32) &&& 31)) (60 : Int32)) fun r32 =>
      g_b1 (fL_low p2 (60 : Int32)) fun r35 =>
      g_bd (f9_buy z0 r4 r29 ((5 : Int32) + r32) ((5 : Int32) + r35)) fun r38 z39 =>
      if ¬ r38 = r1 then
        some ((0 : Int32), z39)
      else
        g_b1 (f9_at z39 r4 (0 : Int32)) fun r46 =>
        if ¬ r46 = r1 then
          some ((0 : Int32), z39)
        else
          g_b1 (f9_sheet z39 r1 (5 : Int32)) fun r50 =>
          if ¬ r50 = (-5 : Int32) then
            some ((0 : Int32), z39)
          else
            some ((1 : Int32), z39)
    else
      g_b1 (fL_low (p1 >>> ((3 : Int32) &&& 31)) (3 : Int32)) fun r54 =>
      g_b1 (fL_low (p1 >>> ((6 : Int32) &&& 31)) (60 : Int32)) fun r57 =>
      g_b1 (fL_low p2 (60 : Int32)) fun r60 =>
      g_bd (f9_buy z0 r4 r54 ((5 : Int32) + r57) ((5 : Int32) + r60)) fun r63 z64 =>
      if ¬ r63 = (-3 : Int32) then
        some ((0 : Int32), z64)
      else
        some ((1 : Int32), z64)
def fL_cell (xs : Nat → Int32) (L : Nat) (p1 : Int32) : Option (Int32) :=
  if (Int32.ofNat L) ≤ p1 then
    some (((2910007 : Int32) * p1) + (1511 : Int32))
  else
    if g_in p1 L then
    some (xs p1.toNatClampNeg)
    else none
def fL_choices_59 : Nat → gMu → Int32 → Int32 → Int32 → Int32 → Int32 → Int32 → Option (Int32 × gMu)
  | 0, _, _, _, _, _, _, _ => none
  | n + 1, z0, x2, x3, x4, x5, x6, x7 =>
  g_b1 (f9_count z0 (12 : Int32)) fun r18 =>
  if r18 ≤ x7 then
    if ¬ x4 = x5 then
      some ((0 : Int32), z0)
    else
      some ((1 : Int32), z0)
  else
    g_bd (f9_would z0 x2 x7 (0 : Int32)) fun r23 z24 =>
    if 0 ≤ r23 then
      g_b1 (f9_sheet z24 x7 (1 : Int32)) fun r28 =>
      g_b1 (f9_sheet z24 x7 (2 : Int32)) fun r31 =>
      g_let (r28 * r31) fun t34 =>
      g_b1 (f9_ordered z24 x2 (1 : Int32)) fun r35 =>
      g_b1 (f9_ordered z24 x2 (2 : Int32)) fun r38 =>
      g_let (r35 * r38) fun t41 =>
      g_bd (f9_would z24 x2 x7 (5 : Int32)) fun r42 z43 =>
      g_bd (f9_would z43 x2 x7 (1 : Int32)) fun r46 z47 =>
      g_bd (f9_would z47 x2 x7 (2 : Int32)) fun r50 z51 =>
      if ¬ (((t41 + r46) + r50) + r42) = t34 then
        some ((0 : Int32), z51)
      else
        g_bd (f9_would z51 x2 x7 (3 : Int32)) fun r55 z56 =>
        g_bd (f9_would z56 x2 x7 (4 : Int32)) fun r59 z60 =>
        if ¬ (((r55 + r59) + t41) + r42) = t34 then
          some ((0 : Int32), z60)
        else
          if r42 < 0 then
            some ((0 : Int32), z60)
          else
            g_bd (f9_would z60 x2 x7 (6 : Int32)) fun r65 z66 =>
            g_b1 (f9_sheet z66 x7 (4 : Int32)) fun r69 =>
            if r65 = ((1 : Int32) + r69) then
              if ¬ x3 = 0 then
                if ¬ x3 = (1 : Int32) then
                  g_bd (f9_would z66 x2 x7 (4 : Int32)) fun r75 z76 =>
                  if x5 < 0 then
                    fL_choices_59 n z76 x2 x3 x4 x7 r75 (x7 + 1)
                  else
                    if x6 ≤ r75 then
                      fL_choices_59 n z76 x2 x3 x4 x5 x6 (x7 + 1)
                    else
                      fL_choices_59 n z76 x2 x3 x4 x7 r75 (x7 + 1)
                else
                  g_b1 (f9_sheet z66 x7 (4 : Int32)) fun r81 =>
                  if x5 < 0 then
                    fL_choices_59 n z66 x2 x3 x4 x7 r81 (x7 + 1)
                  else
                    if x6 ≤ r81 then
                      fL_choices_59 n z66 x2 x3 x4 x5 x6 (x7 + 1)
                    else
                      fL_choices_59 n z66 x2 x3 x4 x7 r81 (x7 + 1)
              else
                if x5 < 0 then
                  fL_choices_59 n z66 x2 x3 x4 x7 t34 (x7 + 1)
                else
                  if x6 ≤ t34 then
                    fL_choices_59 n z66 x2 x3 x4 x5 x6 (x7 + 1)
                  else
                    fL_choices_59 n z66 x2 x3 x4 x7 t34 (x7 + 1)
            else
              some ((0 : Int32), z66)
    else
      fL_choices_59 n z24 x2 x3 x4 x5 x6 (x7 + 1)
def fL_choices (z0 : gMu) (p1 : Int32) : Option (Int32 × gMu) :=
  g_b1 (f9_count z0 (9 : Int32)) fun r1 =>
  g_b1 (fL_low p1 r1) fun r4 =>
  g_b1 (fL_low (p1 >>> ((4 : Int32) &&& 31)) (3 : Int32)) fun r7 =>
  g_bd (f9_choice z0 r4 r7) fun r10 z11 =>
  g_b1 (f9_ordered z11 r4 (4 : Int32)) fun r14 =>
  if r14 = 0 then
    fL_choices_59 300 z11 r4 r7 r10 (-5 : Int32) (0 : Int32) (0 : Int32)
  else
    if ¬ r10 = (-4 : Int32) then
      some ((0 : Int32), z11)
    else
      some ((1 : Int32), z11)
def fL_cuts (z0 : gMu) (p1 : Int32) (p2 : Int32) : Option (Int32 × gMu) :=
  g_b1 (f9_count z0 (9 : Int32)) fun r1 =>
  g_b1 (fL_low p1 r1) fun r4 =>
  g_b1 (f9_count z0 (12 : Int32)) fun r7 =>
  g_b1 (fL_low p2 r7) fun r10 =>
  g_bd (f9_would z0 r4 r10 (0 : Int32)) fun r13 z14 =>
  g_b1 (f9_ordered z14 r4 (4 : Int32)) fun r17 =>
  if ¬ r17 = 0 then
    g_bd (f9_would z14 r4 r10 (6 : Int32)) fun r21 z22 =>
    g_bd (f9_would z22 r4 r10 (4 : Int32)) fun r25 z26 =>
    g_b1 (f9_count z26 (5 : Int32)) fun r29 =>
    g_let (r25 + r29) fun t32 =>
    g_bd (f9_would z26 r4 r10 (5 : Int32)) fun r33 z34 =>
    g_b1 (f9_count z34 (7 : Int32)) fun r37 =>
    g_let (r33 + r37) fun t40 =>
    g_b1 (f9_count z34 (8 : Int32)) fun r41 =>
    g_b1 (f9_count z34 (1 : Int32)) fun r44 =>
    g_bd (f9_cut z34 r4 r10) fun r47 z48 =>
    if ¬ r13 = (-1 : Int32) then
      if ¬ r47 = (-4 : Int32) then
        some ((0 : Int32), z48)
      else
        some ((1 : Int32), z48)
    else
      if ¬ r47 = (-1 : Int32) then
        some ((0 : Int32), z48)
      else
        some ((1 : Int32), z48)
  else
    g_bd (f9_would z14 r4 r10 (6 : Int32)) fun r57 z58 =>
    g_bd (f9_would z58 r4 r10 (4 : Int32)) fun r61 z62 =>
    g_b1 (f9_count z62 (5 : Int32)) fun r65 =>
    g_let (r61 + r65) fun t68 =>
    g_bd (f9_would z62 r4 r10 (5 : Int32)) fun r69 z70 =>
    g_b1 (f9_count z70 (7 : Int32)) fun r73 =>
    g_let (r69 + r73) fun t76 =>
    g_b1 (f9_count z70 (8 : Int32)) fun r77 =>
    g_b1 (f9_count z70 (1 : Int32)) fun r80 =>
    g_bd (f9_cut z70 r4 r10) fun r83 z84 =>
    if ¬ r13 = (-1 : Int32) then
      if 0 ≤ r13 then
        g_b1 (f9_count z84 (8 : Int32)) fun r92 =>
        if ¬ r92 = (r77 + r57) then
          some ((0 : Int32), z84)
        else
          g_b1 (f9_sheet z84 r10 (0 : Int32)) fun r96 =>
          if r96 = (-1 : Int32) then
            if ¬ r83 = (10 : Int32) then
              if r83 < 0 then
                some ((0 : Int32), z84)
              else
                if (2 : Int32) < r83 then
                  some ((0 : Int32), z84)
                else
                  g_b1 (f9_ordered z84 r4 (5 : Int32)) fun r103 =>
                  if ¬ r103 = r10 then
                    some ((0 : Int32), z84)
                  else
                    g_b1 (f9_count z84 (7 : Int32)) fun r107 =>
                    if ¬ r107 = t76 then
                      some ((0 : Int32), z84)
                    else
                      g_b1 (f9_count z84 (5 : Int32)) fun r111 =>
                      if r111 < t68 then
                        some ((0 : Int32), z84)
                      else
                        g_b1 (f9_count z84 (23 : Int32)) fun r115 =>
                        if 0 < r115 then
                          some ((1 : Int32), z84)
                        else
                          g_b1 (f9_count z84 (1 : Int32)) fun r119 =>
                          if ¬ r119 = ((r80 - (1 : Int32)) + r83) then
                            some ((0 : Int32), z84)
                          else
                            some ((1 : Int32), z84)
            else
              g_b1 (f9_count z84 (23 : Int32)) fun r123 =>
              if r123 ≤ 0 then
                some ((0 : Int32), z84)
              else
                g_b1 (f9_ordered z84 r4 (4 : Int32)) fun r127 =>
                if ¬ r127 = 0 then
                  some ((0 : Int32), z84)
                else
                  some ((1 : Int32), z84)
          else
            some ((0 : Int32), z84)
      else
        if ¬ r83 = (-4 : Int32) then
          some ((0 : Int32), z84)
        else
          some ((1 : Int32), z84)
    else
      if ¬ r83 = (-1 : Int32) then
        some ((0 : Int32), z84)
      else
        some ((1 : Int32), z84)
def fL_digest_177 (K : gMu → Int64 → Int32 → Option (Int64)) : Nat → gMu → Int64 → Int32 → Int32 → Option (Int64)
  | 0, _, _, _, _ => none
  | n + 1, z0, x1, x3, x4 =>
  if (8 : Int32) ≤ x4 then
    K z0 x1 x3
  else
    g_b1 (f9_ordered z0 x3 x4) fun r10 =>
    g_let (((31 : Int64) * x1) + r10.toInt64) fun t13 =>
    fL_digest_177 K n z0 t13 x3 (x4 + 1)
def fL_digest_164 : Nat → gMu → Int64 → Int32 → Option (Int64)
  | 0, _, _, _ => none
  | n + 1, z0, x1, x3 =>
  g_b1 (f9_count z0 (9 : Int32)) fun r5 =>
  if r5 ≤ x3 then
    some x1
  else
    fL_digest_177 (fun zk14 k15 k16 =>
      fL_digest_164 n zk14 k15 (k16 + 1)) 70 z0 x1 x3 (0 : Int32)
def fL_digest_69 (K : gMu → Int64 → Int32 → Option (Int64)) : Nat → gMu → Int64 → Int32 → Int32 → Option (Int64)
  | 0, _, _, _, _ => none
  | n + 1, z0, x1, x3, x4 =>
  g_b1 (f9_at z0 x3 x4) fun r17 =>
  if r17 < 0 then
    K z0 x1 x3
  else
    g_b1 (f9_at z0 x3 x4) fun r21 =>
    g_b1 (f9_sheet z0 r21 (0 : Int32)) fun r24 =>
    g_b1 (f9_sheet z0 r21 (1 : Int32)) fun r27 =>
    g_b1 (f9_sheet z0 r21 (2 : Int32)) fun r30 =>
    g_b1 (f9_sheet z0 r21 (5 : Int32)) fun r33 =>
    g_let (((((((31 : Int64) * x1) + r21.toInt64) + ((7 : Int64) * r24.toInt64)) + ((49 : Int64) * r27.toInt64)) + ((343 : Int64) * r30.toInt64)) + ((2401 : Int64) * r33.toInt64)) fun t36 =>
    fL_digest_69 K n z0 t36 x3 (x4 + 1)
def fL_digest_61 : Nat → gMu → Int64 → Int32 → Option (Int64)
  | 0, _, _, _ => none
  | n + 1, z0, x1, x3 =>
  if (4 : Int32) ≤ x3 then
    fL_digest_164 70 z0 x1 (0 : Int32)
  else
    fL_digest_69 (fun zk37 k38 k39 =>
      fL_digest_61 n zk37 k38 (k39 + 1)) 70 z0 x1 x3 (0 : Int32)
def fL_digest_34 : Nat → gMu → Int64 → Int32 → Option (Int64)
  | 0, _, _, _ => none
  | n + 1, z0, x1, x3 =>
  if (25 : Int32) ≤ x3 then
    fL_digest_61 70 z0 x1 (0 : Int32)
  else
    g_b1 (f9_count z0 x3) fun r40 =>
    g_let (((31 : Int64) * x1) + r40.toInt64) fun t43 =>
    fL_digest_34 n z0 t43 (x3 + 1)
def fL_digest_6 : Nat → gMu → Int64 → Int32 → Option (Int64)
  | 0, _, _, _ => none
  | n + 1, z0, x1, x3 =>
  if (13 : Int32) ≤ x3 then
    fL_digest_34 70 z0 x1 (20 : Int32)
  else
    g_b1 (f9_count z0 x3) fun r44 =>
    g_let (((31 : Int64) * x1) + r44.toInt64) fun t47 =>
    fL_digest_6 n z0 t47 (x3 + 1)
def fL_digest (z0 : gMu) : Option (Int64) :=
  g_let (83 : Int64) fun t1 =>
  fL_digest_6 70 z0 t1 (0 : Int32)
def fL_moves_126 (z0 : gMu) (x3 : Int32) (x4 : Int32) (x6 : Int32) (x7 : Int32) (x9 : Int32) : Option (Int32 × gMu) :=
  if ¬ x9 = (x6 + (1 : Int32)) then
    some ((0 : Int32), z0)
  else
    g_b1 (f9_count z0 (8 : Int32)) fun r30 =>
    if ¬ r30 = (x7 + x9) then
      some ((0 : Int32), z0)
    else
      g_b1 (f9_count z0 (23 : Int32)) fun r34 =>
      if r34 ≤ 0 then
        g_b1 (f9_at z0 x4 (0 : Int32)) fun r38 =>
        if ¬ r38 = x3 then
          some ((0 : Int32), z0)
        else
          some ((1 : Int32), z0)
      else
        g_b1 (f9_sheet z0 x3 (3 : Int32)) fun r42 =>
        if r42 < 0 then
          some ((1 : Int32), z0)
        else
          g_b1 (f9_at z0 x4 (0 : Int32)) fun r46 =>
          if ¬ r46 = x3 then
            some ((0 : Int32), z0)
          else
            some ((1 : Int32), z0)
def fL_moves_45 : Nat → gMu → Int32 → Int32 → Int32 → Int32 → Int32 → Int32 → Option (Int32 × gMu)
  | 0, _, _, _, _, _, _, _ => none
  | n + 1, z0, x3, x4, x5, x6, x7, x8 =>
  g_b1 (f9_at z0 x4 x8) fun r19 =>
  if r19 < 0 then
    g_bd (f9_move z0 x3 x4) fun r23 z24 =>
    if 0 ≤ x5 then
      if x5 = x4 then
        fL_moves_126 z24 x3 x4 x6 x7 r23
      else
        if ¬ x8 = (8 : Int32) then
          fL_moves_126 z24 x3 x4 x6 x7 r23
        else
          if ¬ r23 = (-3 : Int32) then
            some ((0 : Int32), z24)
          else
            g_b1 (f9_count z24 (8 : Int32)) fun r52 =>
            if ¬ r52 = x7 then
              some ((0 : Int32), z24)
            else
              some ((1 : Int32), z24)
    else
      if ¬ r23 = (-1 : Int32) then
        some ((0 : Int32), z24)
      else
        some ((1 : Int32), z24)
  else
    fL_moves_45 n z0 x3 x4 x5 x6 x7 (x8 + 1)
def fL_moves (z0 : gMu) (p1 : Int32) (p2 : Int32) : Option (Int32 × gMu) :=
  g_b1 (f9_count z0 (12 : Int32)) fun r1 =>
  g_b1 (fL_low p1 r1) fun r4 =>
  g_b1 (fL_low p2 (4 : Int32)) fun r7 =>
  g_b1 (f9_sheet z0 r4 (3 : Int32)) fun r10 =>
  g_b1 (f9_sheet z0 r4 (4 : Int32)) fun r13 =>
  g_b1 (f9_count z0 (8 : Int32)) fun r16 =>
  fL_moves_45 70 z0 r4 r7 r10 r13 r16 (0 : Int32)
def fL_passes (z0 : gMu) (p1 : Int32) : Option (Int32 × gMu) :=
  g_b1 (fL_low p1 (9 : Int32)) fun r1 =>
  g_let ((1 : Int32) + r1) fun t4 =>
  g_b1 (f9_count z0 (0 : Int32)) fun r5 =>
  g_b1 (f9_count z0 (11 : Int32)) fun r8 =>
  g_bd (f9_pass z0 t4) fun r11 z12 =>
  if (r5 + t4) ≤ (999 : Int32) then
    g_b1 (f9_count z12 (0 : Int32)) fun r16 =>
    if ¬ r16 = (r5 + t4) then
      some ((0 : Int32), z12)
    else
      g_b1 (f9_count z12 (11 : Int32)) fun r20 =>
      if ¬ r11 = (r20 - r8) then
        some ((0 : Int32), z12)
      else
        some ((1 : Int32), z12)
  else
    if ¬ r11 = (-3 : Int32) then
      some ((0 : Int32), z12)
    else
      some ((1 : Int32), z12)
def fL_plans (z0 : gMu) (p1 : Int32) : Option (Int32 × gMu) :=
  g_b1 (fL_low p1 (3 : Int32)) fun r1 =>
  g_bd (f9_wouldPlan z0 r1 (0 : Int32)) fun r4 z5 =>
  g_bd (f9_wouldPlan z5 r1 (1 : Int32)) fun r10 z11 =>
  g_b1 (f9_count z11 (5 : Int32)) fun r16 =>
  g_let (r10 + r16) fun t19 =>
  g_bd (f9_wouldPlan z11 r1 (2 : Int32)) fun r20 z21 =>
  g_b1 (f9_count z21 (8 : Int32)) fun r26 =>
  g_let (r20 + r26) fun t29 =>
  g_bd (f9_wouldPlan z21 r1 (3 : Int32)) fun r30 z31 =>
  g_b1 (f9_count z31 (6 : Int32)) fun r36 =>
  g_let (r30 + r36) fun t39 =>
  g_b1 (f9_count z31 (10 : Int32)) fun r40 =>
  g_bd (f9_plan z31 r1) fun r43 z44 =>
  if ¬ r40 = 0 then
    if ¬ r43 = r4 then
      some ((0 : Int32), z44)
    else
      g_b1 (f9_count z44 (10 : Int32)) fun r51 =>
      if ¬ r51 = (r40 - r4) then
        some ((0 : Int32), z44)
      else
        g_b1 (f9_count z44 (5 : Int32)) fun r55 =>
        if ¬ r55 = t19 then
          some ((0 : Int32), z44)
        else
          g_b1 (f9_count z44 (8 : Int32)) fun r59 =>
          if ¬ r59 = t29 then
            some ((0 : Int32), z44)
          else
            g_b1 (f9_count z44 (6 : Int32)) fun r63 =>
            if ¬ r63 = t39 then
              some ((0 : Int32), z44)
            else
              some ((1 : Int32), z44)
  else
    if ¬ r43 = (-5 : Int32) then
      some ((0 : Int32), z44)
    else
      if ¬ r4 = 0 then
        some ((0 : Int32), z44)
      else
        some ((1 : Int32), z44)
def fL_does (z0 : gMu) (p1 : Int32) (p2 : Int32) (p3 : Int32) : Option (Int32 × gMu) :=
  g_b1 (f9_count z0 (9 : Int32)) fun r1 =>
  if ¬ p1 = 0 then
    if p1 < (4 : Int32) then
      g_bd (fL_buys z0 p2 p3) fun r6 z7 =>
      if r6 = 0 ∨ r6 = 1 then
      some (r6, z7)
      else none
    else
      g_b1 (f9_count z0 (12 : Int32)) fun r13 =>
      if ¬ r13 = 0 then
        if p1 < (7 : Int32) then
          g_b1 (fL_low p2 (3 : Int32)) fun r18 =>
          g_b1 (fL_low (p2 >>> ((3 : Int32) &&& 31)) (40 : Int32)) fun r21 =>
          g_b1 (fL_low p3 (40 : Int32)) fun r24 =>
          g_b1 (fL_low (p3 >>> ((7 : Int32) &&& 31)) (30 : Int32)) fun r27 =>
          g_bd (f9_order z0 r18 ((1 : Int32) + r21) ((1 : Int32) + r24) r27) fun r30 z31 =>
          if ¬ r1 = (12 : Int32) then
            if ¬ r30 = r1 then
              some ((0 : Int32), z31)
            else
              some ((1 : Int32), z31)
          else
            if ¬ r30 = (-3 : Int32) then
              some ((0 : Int32), z31)
            else
              some ((1 : Int32), z31)
        else
          if ¬ r1 = 0 then
            if (9 : Int32) ≤ p1 then
              if ¬ p1 = (9 : Int32) then
                if (12 : Int32) ≤ p1 then
                  if ¬ p1 = (12 : Int32) then
                    g_bd (fL_passes z0 p2) fun r44 z45 =>
                    if r44 = 0 ∨ r44 = 1 then
                    some (r44, z45)
                    else none
                  else
                    g_b1 (fL_low p2 r1) fun r49 =>
                    g_b1 (f9_count z0 (10 : Int32)) fun r52 =>
                    g_b1 (f9_ordered z0 r49 (4 : Int32)) fun r55 =>
                    if ¬ r55 = 0 then
                      g_bd (f9_cancel z0 r49) fun r59 z60 =>
                      if ¬ r59 = (-4 : Int32) then
                        some ((0 : Int32), z60)
                      else
                        g_b1 (f9_ordered z60 r49 (4 : Int32)) fun r67 =>
                        if r67 = 0 then
                          some ((0 : Int32), z60)
                        else
                          some ((1 : Int32), z60)
                    else
                      g_bd (f9_cancel z0 r49) fun r71 z72 =>
                      if ¬ r71 = (r52 - (1 : Int32)) then
                        some ((0 : Int32), z72)
                      else
                        g_b1 (f9_ordered z72 r49 (4 : Int32)) fun r79 =>
                        if r79 = 0 then
                          some ((0 : Int32), z72)
                        else
                          some ((1 : Int32), z72)
                else
                  g_bd (fL_moves z0 p2 p3) fun r83 z84 =>
                  if r83 = 0 ∨ r83 = 1 then
                  some (r83, z84)
                  else none
              else
                g_bd (fL_plans z0 p2) fun r88 z89 =>
                if r88 = 0 ∨ r88 = 1 then
                some (r88, z89)
                else none
            else
              g_bd (fL_cuts z0 p2 p3) fun r95 z96 =>
              if r95 = 0 ∨ r95 = 1 then
              some (r95, z96)
              else none
          else
            g_b1 (fL_low p2 (3 : Int32)) fun r102 =>
            g_b1 (fL_low (p2 >>> ((3 : Int32) &&& 31)) (40 : Int32)) fun r105 =>
            g_b1 (fL_low p3 (40 : Int32)) fun r108 =>
            g_b1 (fL_low (p3 >>> ((7 : Int32) &&& 31)) (30 : Int32)) fun r111 =>
            g_bd (f9_order z0 r102 ((1 : Int32) + r105) ((1 : Int32) + r108) r111) fun r114 z115 =>
            if ¬ r114 = r1 then
              some ((0 : Int32), z115)
            else
              some ((1 : Int32), z115)
      else
        g_bd (fL_buys z0 p2 p3) fun r122 z123 =>
        if r122 = 0 ∨ r122 = 1 then
        some (r122, z123)
        else none
  else
    g_b1 (fL_low p2 (5 : Int32)) fun r129 =>
    if ¬ r129 = 0 then
      if ¬ r129 = (1 : Int32) then
        if ¬ r129 = (3 : Int32) then
          g_b1 (fL_low p3 (2 : Int32)) fun r135 =>
          g_b1 (f9_count z0 ((20 : Int32) + r129)) fun r138 =>
          g_bd (f9_set z0 r129 r135) fun r141 z142 =>
          if ¬ r138 = r135 then
            if ¬ r141 = r138 then
              some ((0 : Int32), z142)
            else
              g_b1 (f9_count z142 ((20 : Int32) + r129)) fun r147 =>
              if ¬ r147 = r135 then
                some ((0 : Int32), z142)
              else
                some ((1 : Int32), z142)
          else
            if ¬ r141 = (-5 : Int32) then
              some ((0 : Int32), z142)
            else
              g_b1 (f9_count z142 ((20 : Int32) + r129)) fun r152 =>
              if ¬ r152 = r135 then
                some ((0 : Int32), z142)
              else
                some ((1 : Int32), z142)
        else
          g_b1 (fL_low p3 (9 : Int32)) fun r156 =>
          g_b1 (f9_count z0 ((20 : Int32) + r129)) fun r159 =>
          g_bd (f9_set z0 r129 r156) fun r162 z163 =>
          if ¬ r159 = r156 then
            if ¬ r162 = r159 then
              some ((0 : Int32), z163)
            else
              g_b1 (f9_count z163 ((20 : Int32) + r129)) fun r168 =>
              if ¬ r168 = r156 then
                some ((0 : Int32), z163)
              else
                some ((1 : Int32), z163)
          else
            if ¬ r162 = (-5 : Int32) then
              some ((0 : Int32), z163)
            else
              g_b1 (f9_count z163 ((20 : Int32) + r129)) fun r173 =>
              if ¬ r173 = r156 then
                some ((0 : Int32), z163)
              else
                some ((1 : Int32), z163)
      else
        g_b1 (fL_low p3 (20 : Int32)) fun r177 =>
        g_let ((1 : Int32) + r177) fun t180 =>
        g_b1 (f9_count z0 ((20 : Int32) + r129)) fun r181 =>
        g_bd (f9_set z0 r129 t180) fun r184 z185 =>
        if ¬ r181 = t180 then
          if ¬ r184 = r181 then
            some ((0 : Int32), z185)
          else
            g_b1 (f9_count z185 ((20 : Int32) + r129)) fun r190 =>
            if ¬ r190 = t180 then
              some ((0 : Int32), z185)
            else
              some ((1 : Int32), z185)
        else
          if ¬ r184 = (-5 : Int32) then
            some ((0 : Int32), z185)
          else
            g_b1 (f9_count z185 ((20 : Int32) + r129)) fun r195 =>
            if ¬ r195 = t180 then
              some ((0 : Int32), z185)
            else
              some ((1 : Int32), z185)
    else
      g_b1 (fL_low p3 (6 : Int32)) fun r199 =>
      g_b1 (f9_count z0 ((20 : Int32) + r129)) fun r202 =>
      g_bd (f9_set z0 r129 r199) fun r205 z206 =>
      if ¬ r202 = r199 then
        if ¬ r205 = r202 then
          some ((0 : Int32), z206)
        else
          g_b1 (f9_count z206 ((20 : Int32) + r129)) fun r211 =>
          if ¬ r211 = r199 then
            some ((0 : Int32), z206)
          else
            some ((1 : Int32), z206)
      else
        if ¬ r205 = (-5 : Int32) then
          some ((0 : Int32), z206)
        else
          g_b1 (f9_count z206 ((20 : Int32) + r129)) fun r216 =>
          if ¬ r216 = r199 then
            some ((0 : Int32), z206)
          else
            some ((1 : Int32), z206)
def fL_orders_247 : Nat → gMu → Int32 → Int32 → Int32 → Int32 → Int32 → Int32 → Int32 → Int32 → Int32 → Option (Int32)
  | 0, _, _, _, _, _, _, _, _, _, _ => none
  | n + 1, z0, x1, x2, x3, x4, x5, x6, x7, x8, x9 =>
  if x2 ≤ x9 then
    g_b1 (f9_next z0 x2) fun r6 =>
    if ¬ r6 = (-5 : Int32) then
      some (0 : Int32)
    else
      g_b1 (f9_count z0 (10 : Int32)) fun r10 =>
      if ¬ x2 = r10 then
        some (0 : Int32)
      else
        g_b1 (f9_count z0 (11 : Int32)) fun r14 =>
        if ¬ x3 = r14 then
          some (0 : Int32)
        else
          g_b1 (f9_count z0 (4 : Int32)) fun r18 =>
          if ¬ x4 = r18 then
            some (0 : Int32)
          else
            g_b1 (f9_ordered z0 x1 (0 : Int32)) fun r22 =>
            if ¬ r22 = (-1 : Int32) then
              some (0 : Int32)
            else
              some (1 : Int32)
  else
    g_b1 (f9_next z0 x9) fun r26 =>
    if r26 < 0 then
      some (0 : Int32)
    else
      if ((x5 >>> (r26 &&& 31)) &&& (1 : Int32)) = (1 : Int32) then
        some (0 : Int32)
      else
        g_b1 (f9_ordered z0 r26 (4 : Int32)) fun r31 =>
        if r31 = 0 then
          g_b1 (f9_ordered z0 r26 (3 : Int32)) fun r35 =>
          g_b1 (f9_ordered z0 r26 (1 : Int32)) fun r38 =>
          g_b1 (f9_ordered z0 r26 (2 : Int32)) fun r41 =>
          g_let (r38 * r41) fun t44 =>
          if r35 < x6 then
            some (0 : Int32)
          else
            if ¬ r35 = x6 then
              g_let (x5 ||| ((1 : Int32) <<< (r26 &&& 31))) fun t47 =>
              fL_orders_247 n z0 x1 x2 x3 x4 t47 r35 t44 r26 (x9 + 1)
            else
              if x7 < t44 then
                some (0 : Int32)
              else
                if ¬ t44 = x7 then
                  g_let (x5 ||| ((1 : Int32) <<< (r26 &&& 31))) fun t50 =>
                  fL_orders_247 n z0 x1 x2 x3 x4 t50 r35 t44 r26 (x9 + 1)
                else
                  if x8 ≤ r26 then
                    g_let (x5 ||| ((1 : Int32) <<< (r26 &&& 31))) fun t52 =>
                    fL_orders_247 n z0 x1 x2 x3 x4 t52 r35 t44 r26 (x9 + 1)
                  else
                    some (0 : Int32)
        else
          some (0 : Int32)
def fL_orders_17 : Nat → gMu → Int32 → Int32 → Int32 → Int32 → Int32 → Option (Int32)
  | 0, _, _, _, _, _, _ => none
  | n + 1, z0, x1, x2, x3, x4, x5 =>
  if x1 ≤ x5 then
    fL_orders_247 70 z0 x1 x2 x3 x4 (0 : Int32) (-1 : Int32) (0 : Int32) (0 : Int32) (0 : Int32)
  else
    g_b1 (f9_ordered z0 x5 (4 : Int32)) fun r53 =>
    g_b1 (f9_ordered z0 x5 (6 : Int32)) fun r56 =>
    if ¬ r53 = 0 then
      g_let (x2 + (0 : Int32)) fun t60 =>
      g_b1 (f9_ordered z0 x5 (7 : Int32)) fun r61 =>
      g_let (x3 + r61) fun t64 =>
      if ¬ r53 = (1 : Int32) then
        g_let (x4 + (0 : Int32)) fun t66 =>
        g_b1 (f9_ordered z0 x5 (7 : Int32)) fun r69 =>
        if ¬ r69 = (1 : Int32) then
          if r56 < 0 then
            g_b1 (f9_ordered z0 x5 (5 : Int32)) fun r78 =>
            if r78 < 0 then
              fL_orders_17 n z0 x1 t60 t64 t66 (x5 + 1)
            else
              some (0 : Int32)
          else
            some (0 : Int32)
        else
          some (0 : Int32)
      else
        g_b1 (f9_ordered z0 x5 (1 : Int32)) fun r86 =>
        g_b1 (f9_ordered z0 x5 (2 : Int32)) fun r89 =>
        g_let (x4 + (r86 * r89)) fun t92 =>
        g_b1 (f9_ordered z0 x5 (3 : Int32)) fun r95 =>
        if r56 ≤ r95 then
          g_b1 (f9_ordered z0 x5 (7 : Int32)) fun r99 =>
          if ¬ r99 = (1 : Int32) then
            if r56 < 0 then
              some (0 : Int32)
            else
              g_b1 (f9_ordered z0 x5 (5 : Int32)) fun r109 =>
              if r109 < 0 then
                some (0 : Int32)
              else
                fL_orders_17 n z0 x1 t60 t64 t92 (x5 + 1)
          else
            some (0 : Int32)
        else
          g_b1 (f9_ordered z0 x5 (7 : Int32)) fun r116 =>
          if ¬ r116 = (1 : Int32) then
            some (0 : Int32)
          else
            if r56 < 0 then
              some (0 : Int32)
            else
              g_b1 (f9_ordered z0 x5 (5 : Int32)) fun r127 =>
              if r127 < 0 then
                some (0 : Int32)
              else
                fL_orders_17 n z0 x1 t60 t64 t92 (x5 + 1)
    else
      g_let (x2 + (1 : Int32)) fun t133 =>
      g_b1 (f9_ordered z0 x5 (7 : Int32)) fun r134 =>
      g_let (x3 + r134) fun t137 =>
      g_let (x4 + (0 : Int32)) fun t139 =>
      g_b1 (f9_ordered z0 x5 (3 : Int32)) fun r141 =>
      g_b1 (f9_count z0 (0 : Int32)) fun r144 =>
      if r144 ≤ r141 then
        g_b1 (f9_ordered z0 x5 (7 : Int32)) fun r148 =>
        if ¬ r148 = (1 : Int32) then
          if r56 < 0 then
            g_b1 (f9_ordered z0 x5 (5 : Int32)) fun r157 =>
            if r157 < 0 then
              fL_orders_17 n z0 x1 t133 t137 t139 (x5 + 1)
            else
              some (0 : Int32)
          else
            some (0 : Int32)
        else
          some (0 : Int32)
      else
        g_b1 (f9_ordered z0 x5 (7 : Int32)) fun r165 =>
        if ¬ r165 = (1 : Int32) then
          some (0 : Int32)
        else
          if r56 < 0 then
            g_b1 (f9_ordered z0 x5 (5 : Int32)) fun r175 =>
            if r175 < 0 then
              fL_orders_17 n z0 x1 t133 t137 t139 (x5 + 1)
            else
              some (0 : Int32)
          else
            some (0 : Int32)
def fL_orders (z0 : gMu) : Option (Int32) :=
  g_b1 (f9_count z0 (9 : Int32)) fun r1 =>
  fL_orders_17 70 z0 r1 (0 : Int32) (0 : Int32) (0 : Int32) (0 : Int32)
def fL_racks_14 (K : gMu → Int32 → Int32 → Int32 → Int32 → Option (Int32)) : Nat → gMu → Int32 → Int32 → Int32 → Int32 → Option (Int32)
  | 0, _, _, _, _, _ => none
  | n + 1, z0, x1, x2, x3, x4 =>
  g_b1 (f9_at z0 x3 x4) fun r38 =>
  if r38 < 0 then
    K z0 x1 x2 x3 x4
  else
    g_b1 (f9_at z0 x3 x4) fun r42 =>
    g_b1 (f9_sheet z0 r42 (3 : Int32)) fun r45 =>
    if ¬ r45 = x3 then
      some (0 : Int32)
    else
      g_b1 (f9_sheet z0 r42 (4 : Int32)) fun r49 =>
      if ¬ r49 = x4 then
        some (0 : Int32)
      else
        g_b1 (f9_count z0 (12 : Int32)) fun r53 =>
        if r53 ≤ r42 then
          some (0 : Int32)
        else
          g_b1 (f9_sheet z0 r42 (5 : Int32)) fun r57 =>
          if r42 ≤ r57 then
            some (0 : Int32)
          else
            g_b1 (f9_sheet z0 r42 (6 : Int32)) fun r61 =>
            if r61 = (-2 : Int32) then
              g_b1 (f9_sheet z0 r42 (1 : Int32)) fun r65 =>
              g_b1 (f9_sheet z0 r42 (2 : Int32)) fun r68 =>
              g_let (x2 + (r65 * r68)) fun t71 =>
              fL_racks_14 K n z0 (x1 + 1) t71 x3 (x4 + 1)
            else
              some (0 : Int32)
def fL_racks_6 : Nat → gMu → Int32 → Int32 → Int32 → Option (Int32)
  | 0, _, _, _, _ => none
  | n + 1, z0, x1, x2, x3 =>
  if (4 : Int32) ≤ x3 then
    g_b1 (f9_count z0 (4 : Int32)) fun r2 =>
    g_b1 (f9_count z0 (5 : Int32)) fun r5 =>
    g_b1 (f9_count z0 (6 : Int32)) fun r8 =>
    g_b1 (f9_count z0 (7 : Int32)) fun r11 =>
    g_let ((((x2 + r2) + r5) + r8) + r11) fun t14 =>
    g_b1 (f9_count z0 (1 : Int32)) fun r15 =>
    if ¬ x1 = r15 then
      some (0 : Int32)
    else
      g_b1 (f9_count z0 (2 : Int32)) fun r19 =>
      if ¬ x2 = r19 then
        some (0 : Int32)
      else
        g_b1 (f9_count z0 (3 : Int32)) fun r23 =>
        if ¬ t14 = r23 then
          some (0 : Int32)
        else
          g_b1 (f9_at z0 (4 : Int32) (0 : Int32)) fun r27 =>
          if ¬ r27 = (-1 : Int32) then
            some (0 : Int32)
          else
            g_b1 (f9_count z0 (12 : Int32)) fun r31 =>
            g_b1 (f9_sheet z0 r31 (0 : Int32)) fun r34 =>
            if ¬ r34 = (-1 : Int32) then
              some (0 : Int32)
            else
              some (1 : Int32)
  else
    fL_racks_14 (fun zk72 k73 k74 k75 k76 =>
      if (8 : Int32) < k76 then
        some (0 : Int32)
      else
        g_b1 (f9_at zk72 k75 k76) fun r78 =>
        if ¬ r78 = (-5 : Int32) then
          some (0 : Int32)
        else
          g_b1 (f9_at zk72 k75 (-1 : Int32)) fun r82 =>
          if r82 = (-2 : Int32) then
            fL_racks_6 n zk72 k73 k74 (k75 + 1)
          else
            some (0 : Int32)) 70 z0 x1 x2 x3 (0 : Int32)
def fL_racks (z0 : gMu) : Option (Int32) :=
  fL_racks_6 70 z0 (0 : Int32) (0 : Int32) (0 : Int32)
