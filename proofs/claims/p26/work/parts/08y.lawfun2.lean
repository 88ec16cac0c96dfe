def fL_lawl (xs : Nat → Int32) (L : Nat) : Nat → gMu → Int32 → Option (Int32)
  | 0, _, _ => none
  | n + 1, z0, x2 =>
  if (24 : Int32) ≤ x2 then
    some (1 : Int32)
  else
    g_b1 (fL_cell xs L ((2 : Int32) * x2)) fun r2 =>
    g_b1 (fL_cell xs L (((2 : Int32) * x2) + (1 : Int32))) fun r5 =>
    g_b1 (fL_low (r2 >>> ((12 : Int32) &&& 31)) (14 : Int32)) fun r8 =>
    g_b1 (f9_count z0 (13 : Int32)) fun r11 =>
    if ¬ (r5 &&& (196608 : Int32)) = 0 then
      g_let (0 : Int64) fun t16 =>
      g_bd (fL_does z0 r8 r2 r5) fun r17 z18 =>
      if r17 = 0 then
        some (0 : Int32)
      else
        g_b1 (fL_racks z18) fun r24 =>
        if r24 = 0 then
          some (0 : Int32)
        else
          g_b1 (fL_orders z18) fun r28 =>
          if r28 = 0 then
            some (0 : Int32)
          else
            g_b1 (f9_count z18 (9 : Int32)) fun r32 =>
            if r32 ≤ 0 then
              fL_lawl xs L n z18 (x2 + 1)
            else
              g_bd (fL_choices z18 (r5 >>> ((2 : Int32) &&& 31))) fun r37 z38 =>
              if ¬ r37 = 0 then
                fL_lawl xs L n z38 (x2 + 1)
              else
                some (0 : Int32)
    else
      if (4 : Int32) ≤ r11 then
        g_let (0 : Int64) fun t45 =>
        g_bd (fL_does z0 r8 r2 r5) fun r46 z47 =>
        if r46 = 0 then
          some (0 : Int32)
        else
          g_b1 (fL_racks z47) fun r53 =>
          if r53 = 0 then
            some (0 : Int32)
          else
            g_b1 (fL_orders z47) fun r57 =>
            if r57 = 0 then
              some (0 : Int32)
            else
              g_b1 (f9_count z47 (9 : Int32)) fun r61 =>
              if r61 ≤ 0 then
                fL_lawl xs L n z47 (x2 + 1)
              else
                g_bd (fL_choices z47 (r5 >>> ((2 : Int32) &&& 31))) fun r66 z67 =>
                if ¬ r66 = 0 then
                  fL_lawl xs L n z67 (x2 + 1)
                else
                  some (0 : Int32)
      else
        g_b1 (fL_digest z0) fun r73 =>
        g_bd (fL_does z0 r8 r2 r5) fun r76 z77 =>
        if r76 = 0 then
          some (0 : Int32)
        else
          g_b1 (fL_racks z77) fun r83 =>
          if r83 = 0 then
            some (0 : Int32)
          else
            g_b1 (fL_orders z77) fun r87 =>
            if r87 = 0 then
              some (0 : Int32)
            else
              g_b1 (f9_count z77 (9 : Int32)) fun r91 =>
              if r91 ≤ 0 then
                g_b1 (f9_count z77 (13 : Int32)) fun r96 =>
                if r96 = r11 then
                  fL_lawl xs L n z77 (x2 + 1)
                else
                  g_bd (f9_undo z77) fun r100 z101 =>
                  if ¬ r100 = r11 then
                    some (0 : Int32)
                  else
                    g_b1 (fL_digest z101) fun r105 =>
                    if (lg_cmp r105 r73) = 0 then
                      fL_lawl xs L n z101 (x2 + 1)
                    else
                      some (0 : Int32)
              else
                g_bd (fL_choices z77 (r5 >>> ((2 : Int32) &&& 31))) fun r109 z110 =>
                if ¬ r109 = 0 then
                  g_b1 (f9_count z110 (13 : Int32)) fun r115 =>
                  if r115 = r11 then
                    fL_lawl xs L n z110 (x2 + 1)
                  else
                    g_bd (f9_undo z110) fun r119 z120 =>
                    if ¬ r119 = r11 then
                      some (0 : Int32)
                    else
                      g_b1 (fL_digest z120) fun r124 =>
                      if (lg_cmp r124 r73) = 0 then
                        fL_lawl xs L n z120 (x2 + 1)
                      else
                        some (0 : Int32)
                else
                  some (0 : Int32)
def fL_law8 (xs : Nat → Int32) (L : Nat) (z0 : gMu) : Option Int32 :=
  g_bd (f9_undo z0) fun r128 z129 =>
  if ¬ r128 = (-5 : Int32) then
    some (0 : Int32)
  else
    g_bd (f9_restore z129) fun r133 z134 =>
    if ¬ r133 = (-5 : Int32) then
      some (0 : Int32)
    else
      g_bd (f9_perform z134) fun r138 z139 =>
      if ¬ r138 = (-100 : Int32) then
        some (0 : Int32)
      else
        g_bd (f9_plan z139 (0 : Int32)) fun r145 z146 =>
        if ¬ r145 = (-5 : Int32) then
          some (0 : Int32)
        else
          g_b1 (f9_next z146 (0 : Int32)) fun r152 =>
          if ¬ r152 = (-5 : Int32) then
            some (0 : Int32)
          else
            g_bd (f9_cut z146 (0 : Int32) (0 : Int32)) fun r156 z157 =>
            if ¬ r156 = (-1 : Int32) then
              some (0 : Int32)
            else
              g_bd (f9_scrap z157 (0 : Int32)) fun r163 z164 =>
              if ¬ r163 = (-1 : Int32) then
                some (0 : Int32)
              else
                g_b1 (f9_count z164 (15 : Int32)) fun r168 =>
                if ¬ r168 = (-2 : Int32) then
                  some (0 : Int32)
                else
                  g_bd (f9_set z164 (5 : Int32) (0 : Int32)) fun r172 z173 =>
                  if r172 = (-2 : Int32) then
                    fL_lawl xs L 25 z173 (0 : Int32)
                  else
                    some (0 : Int32)
