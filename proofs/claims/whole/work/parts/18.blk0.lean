/-! the blocks of the law -/
def lz_st : List Nat := [18, 240, 303, 316, 349, 372, 415, 448, 481, 504, 527, 560, 603, 636, 679, 712, 745, 768, 791, 804, 827, 850, 883, 916, 949, 972, 995, 1028, 1061, 1094, 1147, 1180, 1223, 1267, 1301, 1334, 1367, 1410, 1433, 1486, 1529, 1572, 1615, 1658, 1691, 1734, 1757, 1780, 1793]
set_option maxRecDepth 100000 in
set_option maxHeartbeats 1000000 in
theorem lz_eH (Φ : Nat → List mv_V → H2 → O2) (ka : Nat → mv_L → List mv_V → H2 → Nat → Nat → O2) (SL : Nat) (sx : Nat → Int32) (MC MS : Nat) (x : Int32) (h : H2) (ce sl : Nat) : mv_blk rI2 rR2 ln2 wI2 wR2 nw2 cp2 bod (some (SL, sx)) lz_t (lz_g Φ) MC MS lz_st ka 300 (mv_seek 18 lz_t) [(3, Sum.inl (Value.int x)), (2, Sum.inr (8, 0)), (1, Sum.inr (7, 0)), (0, Sum.inr (10, 0))] [] h ce sl = (
  if nI SL - nI 5 < x then mv_gd (decide (nI 1 = nI 0) || decide (nI 1 = nI 1)) (some ([Sum.inl (Value.int (nI 1))], h)) else
  mv_gd (mv_inb x SL) <|
  if sx x.toNatClampNeg &&& nI 63 = nI 0 then ka 240 [(3, Sum.inl (Value.int x)), (2, Sum.inr (8, 0)), (1, Sum.inr (7, 0)), (0, Sum.inr (10, 0))] [] h ce sl else
  if sx x.toNatClampNeg &&& nI 63 = nI 1 then ka 303 [(3, Sum.inl (Value.int x)), (2, Sum.inr (8, 0)), (1, Sum.inr (7, 0)), (0, Sum.inr (10, 0))] [] h ce sl else
  if sx x.toNatClampNeg &&& nI 63 = nI 2 then ka 316 [(3, Sum.inl (Value.int x)), (2, Sum.inr (8, 0)), (1, Sum.inr (7, 0)), (0, Sum.inr (10, 0))] [] h ce sl else
  if sx x.toNatClampNeg &&& nI 63 = nI 3 then ka 349 [(3, Sum.inl (Value.int x)), (2, Sum.inr (8, 0)), (1, Sum.inr (7, 0)), (0, Sum.inr (10, 0))] [] h ce sl else
  if sx x.toNatClampNeg &&& nI 63 = nI 4 then ka 372 [(3, Sum.inl (Value.int x)), (2, Sum.inr (8, 0)), (1, Sum.inr (7, 0)), (0, Sum.inr (10, 0))] [] h ce sl else
  if sx x.toNatClampNeg &&& nI 63 = nI 5 then ka 415 [(3, Sum.inl (Value.int x)), (2, Sum.inr (8, 0)), (1, Sum.inr (7, 0)), (0, Sum.inr (10, 0))] [] h ce sl else
  if sx x.toNatClampNeg &&& nI 63 = nI 6 then ka 448 [(3, Sum.inl (Value.int x)), (2, Sum.inr (8, 0)), (1, Sum.inr (7, 0)), (0, Sum.inr (10, 0))] [] h ce sl else
  if sx x.toNatClampNeg &&& nI 63 = nI 7 then ka 481 [(3, Sum.inl (Value.int x)), (2, Sum.inr (8, 0)), (1, Sum.inr (7, 0)), (0, Sum.inr (10, 0))] [] h ce sl else
  if sx x.toNatClampNeg &&& nI 63 = nI 8 then ka 504 [(3, Sum.inl (Value.int x)), (2, Sum.inr (8, 0)), (1, Sum.inr (7, 0)), (0, Sum.inr (10, 0))] [] h ce sl else
  if sx x.toNatClampNeg &&& nI 63 = nI 9 then ka 527 [(3, Sum.inl (Value.int x)), (2, Sum.inr (8, 0)), (1, Sum.inr (7, 0)), (0, Sum.inr (10, 0))] [] h ce sl else
  if sx x.toNatClampNeg &&& nI 63 = nI 10 then ka 560 [(3, Sum.inl (Value.int x)), (2, Sum.inr (8, 0)), (1, Sum.inr (7, 0)), (0, Sum.inr (10, 0))] [] h ce sl else
  if sx x.toNatClampNeg &&& nI 63 = nI 11 then ka 603 [(3, Sum.inl (Value.int x)), (2, Sum.inr (8, 0)), (1, Sum.inr (7, 0)), (0, Sum.inr (10, 0))] [] h ce sl else
  if sx x.toNatClampNeg &&& nI 63 = nI 12 then ka 636 [(3, Sum.inl (Value.int x)), (2, Sum.inr (8, 0)), (1, Sum.inr (7, 0)), (0, Sum.inr (10, 0))] [] h ce sl else
  if sx x.toNatClampNeg &&& nI 63 = nI 13 then ka 679 [(3, Sum.inl (Value.int x)), (2, Sum.inr (8, 0)), (1, Sum.inr (7, 0)), (0, Sum.inr (10, 0))] [] h ce sl else
  if sx x.toNatClampNeg &&& nI 63 = nI 14 then ka 712 [(3, Sum.inl (Value.int x)), (2, Sum.inr (8, 0)), (1, Sum.inr (7, 0)), (0, Sum.inr (10, 0))] [] h ce sl else
  if sx x.toNatClampNeg &&& nI 63 = nI 15 then ka 745 [(3, Sum.inl (Value.int x)), (2, Sum.inr (8, 0)), (1, Sum.inr (7, 0)), (0, Sum.inr (10, 0))] [] h ce sl else
  if sx x.toNatClampNeg &&& nI 63 = nI 16 then ka 768 [(3, Sum.inl (Value.int x)), (2, Sum.inr (8, 0)), (1, Sum.inr (7, 0)), (0, Sum.inr (10, 0))] [] h ce sl else
  if sx x.toNatClampNeg &&& nI 63 = nI 17 then ka 791 [(3, Sum.inl (Value.int x)), (2, Sum.inr (8, 0)), (1, Sum.inr (7, 0)), (0, Sum.inr (10, 0))] [] h ce sl else
  if sx x.toNatClampNeg &&& nI 63 = nI 18 then ka 804 [(3, Sum.inl (Value.int x)), (2, Sum.inr (8, 0)), (1, Sum.inr (7, 0)), (0, Sum.inr (10, 0))] [] h ce sl else
  if sx x.toNatClampNeg &&& nI 63 = nI 19 then ka 827 [(3, Sum.inl (Value.int x)), (2, Sum.inr (8, 0)), (1, Sum.inr (7, 0)), (0, Sum.inr (10, 0))] [] h ce sl else
  if sx x.toNatClampNeg &&& nI 63 = nI 20 then ka 850 [(3, Sum.inl (Value.int x)), (2, Sum.inr (8, 0)), (1, Sum.inr (7, 0)), (0, Sum.inr (10, 0))] [] h ce sl else
  if sx x.toNatClampNeg &&& nI 63 = nI 21 then ka 883 [(3, Sum.inl (Value.int x)), (2, Sum.inr (8, 0)), (1, Sum.inr (7, 0)), (0, Sum.inr (10, 0))] [] h ce sl else
  if sx x.toNatClampNeg &&& nI 63 = nI 22 then ka 916 [(3, Sum.inl (Value.int x)), (2, Sum.inr (8, 0)), (1, Sum.inr (7, 0)), (0, Sum.inr (10, 0))] [] h ce sl else
  if sx x.toNatClampNeg &&& nI 63 = nI 23 then ka 949 [(3, Sum.inl (Value.int x)), (2, Sum.inr (8, 0)), (1, Sum.inr (7, 0)), (0, Sum.inr (10, 0))] [] h ce sl else
  if sx x.toNatClampNeg &&& nI 63 = nI 24 then ka 972 [(3, Sum.inl (Value.int x)), (2, Sum.inr (8, 0)), (1, Sum.inr (7, 0)), (0, Sum.inr (10, 0))] [] h ce sl else
  if sx x.toNatClampNeg &&& nI 63 = nI 25 then ka 995 [(3, Sum.inl (Value.int x)), (2, Sum.inr (8, 0)), (1, Sum.inr (7, 0)), (0, Sum.inr (10, 0))] [] h ce sl else
  if sx x.toNatClampNeg &&& nI 63 = nI 26 then ka 1028 [(3, Sum.inl (Value.int x)), (2, Sum.inr (8, 0)), (1, Sum.inr (7, 0)), (0, Sum.inr (10, 0))] [] h ce sl else
  if sx x.toNatClampNeg &&& nI 63 = nI 27 then ka 1061 [(3, Sum.inl (Value.int x)), (2, Sum.inr (8, 0)), (1, Sum.inr (7, 0)), (0, Sum.inr (10, 0))] [] h ce sl else
  if sx x.toNatClampNeg &&& nI 63 = nI 28 then ka 1094 [(3, Sum.inl (Value.int x)), (2, Sum.inr (8, 0)), (1, Sum.inr (7, 0)), (0, Sum.inr (10, 0))] [] h ce sl else
  if sx x.toNatClampNeg &&& nI 63 = nI 29 then ka 1147 [(3, Sum.inl (Value.int x)), (2, Sum.inr (8, 0)), (1, Sum.inr (7, 0)), (0, Sum.inr (10, 0))] [] h ce sl else
  if sx x.toNatClampNeg &&& nI 63 = nI 30 then ka 1180 [(3, Sum.inl (Value.int x)), (2, Sum.inr (8, 0)), (1, Sum.inr (7, 0)), (0, Sum.inr (10, 0))] [] h ce sl else
  if sx x.toNatClampNeg &&& nI 63 = nI 31 then ka 1223 [(3, Sum.inl (Value.int x)), (2, Sum.inr (8, 0)), (1, Sum.inr (7, 0)), (0, Sum.inr (10, 0))] [] h ce sl else
  if sx x.toNatClampNeg &&& nI 63 = nI 32 then ka 1267 [(3, Sum.inl (Value.int x)), (2, Sum.inr (8, 0)), (1, Sum.inr (7, 0)), (0, Sum.inr (10, 0))] [] h ce sl else
  if sx x.toNatClampNeg &&& nI 63 = nI 33 then ka 1301 [(3, Sum.inl (Value.int x)), (2, Sum.inr (8, 0)), (1, Sum.inr (7, 0)), (0, Sum.inr (10, 0))] [] h ce sl else
  if sx x.toNatClampNeg &&& nI 63 = nI 34 then ka 1334 [(3, Sum.inl (Value.int x)), (2, Sum.inr (8, 0)), (1, Sum.inr (7, 0)), (0, Sum.inr (10, 0))] [] h ce sl else
  if sx x.toNatClampNeg &&& nI 63 = nI 35 then ka 1367 [(3, Sum.inl (Value.int x)), (2, Sum.inr (8, 0)), (1, Sum.inr (7, 0)), (0, Sum.inr (10, 0))] [] h ce sl else
  if sx x.toNatClampNeg &&& nI 63 = nI 36 then ka 1410 [(3, Sum.inl (Value.int x)), (2, Sum.inr (8, 0)), (1, Sum.inr (7, 0)), (0, Sum.inr (10, 0))] [] h ce sl else
  if sx x.toNatClampNeg &&& nI 63 = nI 37 then ka 1433 [(3, Sum.inl (Value.int x)), (2, Sum.inr (8, 0)), (1, Sum.inr (7, 0)), (0, Sum.inr (10, 0))] [] h ce sl else
  if sx x.toNatClampNeg &&& nI 63 = nI 38 then ka 1486 [(3, Sum.inl (Value.int x)), (2, Sum.inr (8, 0)), (1, Sum.inr (7, 0)), (0, Sum.inr (10, 0))] [] h ce sl else
  if sx x.toNatClampNeg &&& nI 63 = nI 39 then ka 1529 [(3, Sum.inl (Value.int x)), (2, Sum.inr (8, 0)), (1, Sum.inr (7, 0)), (0, Sum.inr (10, 0))] [] h ce sl else
  if sx x.toNatClampNeg &&& nI 63 = nI 40 then ka 1572 [(3, Sum.inl (Value.int x)), (2, Sum.inr (8, 0)), (1, Sum.inr (7, 0)), (0, Sum.inr (10, 0))] [] h ce sl else
  if sx x.toNatClampNeg &&& nI 63 = nI 41 then ka 1615 [(3, Sum.inl (Value.int x)), (2, Sum.inr (8, 0)), (1, Sum.inr (7, 0)), (0, Sum.inr (10, 0))] [] h ce sl else
  if sx x.toNatClampNeg &&& nI 63 = nI 42 then ka 1658 [(3, Sum.inl (Value.int x)), (2, Sum.inr (8, 0)), (1, Sum.inr (7, 0)), (0, Sum.inr (10, 0))] [] h ce sl else
  if sx x.toNatClampNeg &&& nI 63 = nI 43 then ka 1691 [(3, Sum.inl (Value.int x)), (2, Sum.inr (8, 0)), (1, Sum.inr (7, 0)), (0, Sum.inr (10, 0))] [] h ce sl else
  if sx x.toNatClampNeg &&& nI 63 = nI 44 then ka 1734 [(3, Sum.inl (Value.int x)), (2, Sum.inr (8, 0)), (1, Sum.inr (7, 0)), (0, Sum.inr (10, 0))] [] h ce sl else
  if sx x.toNatClampNeg &&& nI 63 = nI 45 then ka 1757 [(3, Sum.inl (Value.int x)), (2, Sum.inr (8, 0)), (1, Sum.inr (7, 0)), (0, Sum.inr (10, 0))] [] h ce sl else
  if sx x.toNatClampNeg &&& nI 63 = nI 46 then ka 1780 [(3, Sum.inl (Value.int x)), (2, Sum.inr (8, 0)), (1, Sum.inr (7, 0)), (0, Sum.inr (10, 0))] [] h ce sl else
  if sx x.toNatClampNeg &&& nI 63 = nI 47 then ka 1793 [(3, Sum.inl (Value.int x)), (2, Sum.inr (8, 0)), (1, Sum.inr (7, 0)), (0, Sum.inr (10, 0))] [] h ce sl else
  mv_bi (x + nI 5) fun x2 => ka 18 [(3, Sum.inl (Value.int x2)), (2, Sum.inr (8, 0)), (1, Sum.inr (7, 0)), (0, Sum.inr (10, 0))] [] h ce sl) := rfl
set_option maxRecDepth 100000 in
set_option maxHeartbeats 1000000 in
theorem lz_e0 (Φ : Nat → List mv_V → H2 → O2) (ka : Nat → mv_L → List mv_V → H2 → Nat → Nat → O2) (SL : Nat) (sx : Nat → Int32) (MC MS : Nat) (x : Int32) (h : H2) (ce sl : Nat) : mv_blk rI2 rR2 ln2 wI2 wR2 nw2 cp2 bod (some (SL, sx)) lz_t (lz_g Φ) MC MS [18] ka 300 (mv_seek 240 lz_t) [(3, Sum.inl (Value.int x)), (2, Sum.inr (8, 0)), (1, Sum.inr (7, 0)), (0, Sum.inr (10, 0))] [] h ce sl = (
  mv_gd (mv_inb (x + (nI 1)) SL) <|
  mv_gd (mv_inb (x + (nI 2)) SL) <|
  mv_gd (mv_inb (x + (nI 3)) SL) <|
  mv_gd (Nat.ble (ce + 0) MC && (Nat.ble (sl + 0) MS && Nat.ble 0 8)) <|
  mv_rI (Φ 2 [Sum.inr (7, 0), Sum.inl (Value.long ((((sx (x + (nI 1)).toNatClampNeg).toInt64) <<< ((nI 32).toInt64 &&& 63)) ||| (((sx (x + (nI 2)).toNatClampNeg).toInt64) &&& (lN 4294967295)))), Sum.inl (Value.int (sx (x + (nI 3)).toNatClampNeg))] h) fun r1 h1 =>
  mv_gd (mv_inb (x + (nI 1)) SL) <|
  mv_gd (mv_inb (x + (nI 2)) SL) <|
  mv_gd (mv_inb (x + (nI 3)) SL) <|
  mv_gd (Nat.ble (ce + 0 + 0) MC && (Nat.ble (sl + 0 + 0) MS && Nat.ble 1 8)) <|
  mv_rI (Φ 3 [Sum.inr (8, 0), Sum.inl (Value.long ((((sx (x + (nI 1)).toNatClampNeg).toInt64) <<< ((nI 32).toInt64 &&& 63)) ||| (((sx (x + (nI 2)).toNatClampNeg).toInt64) &&& (lN 4294967295)))), Sum.inl (Value.int (sx (x + (nI 3)).toNatClampNeg))] h1) fun r2 h2 =>
  if r1 = r2 then mv_bi (x + nI 5) fun x2 => ka 18 [(3, Sum.inl (Value.int x2)), (2, Sum.inr (8, 0)), (1, Sum.inr (7, 0)), (0, Sum.inr (10, 0))] [] h2 (ce + 0 + 0) (sl + 0 + 0)
  else mv_gd (decide (nI 0 = nI 0) || decide (nI 0 = nI 1)) (some ([Sum.inl (Value.int (nI 0))], h2))) := rfl
set_option maxRecDepth 100000 in
set_option maxHeartbeats 1000000 in
theorem lz_e1 (Φ : Nat → List mv_V → H2 → O2) (ka : Nat → mv_L → List mv_V → H2 → Nat → Nat → O2) (SL : Nat) (sx : Nat → Int32) (MC MS : Nat) (x : Int32) (h : H2) (ce sl : Nat) : mv_blk rI2 rR2 ln2 wI2 wR2 nw2 cp2 bod (some (SL, sx)) lz_t (lz_g Φ) MC MS [18] ka 300 (mv_seek 303 lz_t) [(3, Sum.inl (Value.int x)), (2, Sum.inr (8, 0)), (1, Sum.inr (7, 0)), (0, Sum.inr (10, 0))] [] h ce sl = (
  mv_gd (Nat.ble (ce + 0) MC && (Nat.ble (sl + 0) MS && Nat.ble 0 8)) <|
  mv_rI (Φ 4 [Sum.inr (7, 0)] h) fun r1 h1 =>
  mv_gd (Nat.ble (ce + 0 + 0) MC && (Nat.ble (sl + 0 + 0) MS && Nat.ble 1 8)) <|
  mv_rI (Φ 5 [Sum.inr (8, 0)] h1) fun r2 h2 =>
  if r1 = r2 then mv_bi (x + nI 5) fun x2 => ka 18 [(3, Sum.inl (Value.int x2)), (2, Sum.inr (8, 0)), (1, Sum.inr (7, 0)), (0, Sum.inr (10, 0))] [] h2 (ce + 0 + 0) (sl + 0 + 0)
  else mv_gd (decide (nI 0 = nI 0) || decide (nI 0 = nI 1)) (some ([Sum.inl (Value.int (nI 0))], h2))) := rfl
set_option maxRecDepth 100000 in
set_option maxHeartbeats 1000000 in
theorem lz_e2 (Φ : Nat → List mv_V → H2 → O2) (ka : Nat → mv_L → List mv_V → H2 → Nat → Nat → O2) (SL : Nat) (sx : Nat → Int32) (MC MS : Nat) (x : Int32) (h : H2) (ce sl : Nat) : mv_blk rI2 rR2 ln2 wI2 wR2 nw2 cp2 bod (some (SL, sx)) lz_t (lz_g Φ) MC MS [18] ka 300 (mv_seek 316 lz_t) [(3, Sum.inl (Value.int x)), (2, Sum.inr (8, 0)), (1, Sum.inr (7, 0)), (0, Sum.inr (10, 0))] [] h ce sl = (
  mv_gd (mv_inb (x + (nI 1)) SL) <|
  mv_gd (mv_inb (x + (nI 2)) SL) <|
  mv_gd (Nat.ble (ce + 0) MC && (Nat.ble (sl + 0) MS && Nat.ble 0 8)) <|
  mv_rI (Φ 6 [Sum.inr (7, 0), Sum.inl (Value.int (sx (x + (nI 1)).toNatClampNeg)), Sum.inl (Value.int (sx (x + (nI 2)).toNatClampNeg))] h) fun r1 h1 =>
  mv_gd (mv_inb (x + (nI 1)) SL) <|
  mv_gd (mv_inb (x + (nI 2)) SL) <|
  mv_gd (Nat.ble (ce + 0 + 0) MC && (Nat.ble (sl + 0 + 0) MS && Nat.ble 1 8)) <|
  mv_rI (Φ 7 [Sum.inr (8, 0), Sum.inl (Value.int (sx (x + (nI 1)).toNatClampNeg)), Sum.inl (Value.int (sx (x + (nI 2)).toNatClampNeg))] h1) fun r2 h2 =>
  if r1 = r2 then mv_bi (x + nI 5) fun x2 => ka 18 [(3, Sum.inl (Value.int x2)), (2, Sum.inr (8, 0)), (1, Sum.inr (7, 0)), (0, Sum.inr (10, 0))] [] h2 (ce + 0 + 0) (sl + 0 + 0)
  else mv_gd (decide (nI 0 = nI 0) || decide (nI 0 = nI 1)) (some ([Sum.inl (Value.int (nI 0))], h2))) := rfl
set_option maxRecDepth 100000 in
set_option maxHeartbeats 1000000 in
theorem lz_e3 (Φ : Nat → List mv_V → H2 → O2) (ka : Nat → mv_L → List mv_V → H2 → Nat → Nat → O2) (SL : Nat) (sx : Nat → Int32) (MC MS : Nat) (x : Int32) (h : H2) (ce sl : Nat) : mv_blk rI2 rR2 ln2 wI2 wR2 nw2 cp2 bod (some (SL, sx)) lz_t (lz_g Φ) MC MS [18] ka 300 (mv_seek 349 lz_t) [(3, Sum.inl (Value.int x)), (2, Sum.inr (8, 0)), (1, Sum.inr (7, 0)), (0, Sum.inr (10, 0))] [] h ce sl = (
  mv_gd (mv_inb (x + (nI 1)) SL) <|
  mv_gd (Nat.ble (ce + 0) MC && (Nat.ble (sl + 0) MS && Nat.ble 0 8)) <|
  mv_rI (Φ 8 [Sum.inr (7, 0), Sum.inl (Value.int (sx (x + (nI 1)).toNatClampNeg))] h) fun r1 h1 =>
  mv_gd (mv_inb (x + (nI 1)) SL) <|
  mv_gd (Nat.ble (ce + 0 + 0) MC && (Nat.ble (sl + 0 + 0) MS && Nat.ble 1 8)) <|
  mv_rI (Φ 9 [Sum.inr (8, 0), Sum.inl (Value.int (sx (x + (nI 1)).toNatClampNeg))] h1) fun r2 h2 =>
  if r1 = r2 then mv_bi (x + nI 5) fun x2 => ka 18 [(3, Sum.inl (Value.int x2)), (2, Sum.inr (8, 0)), (1, Sum.inr (7, 0)), (0, Sum.inr (10, 0))] [] h2 (ce + 0 + 0) (sl + 0 + 0)
  else mv_gd (decide (nI 0 = nI 0) || decide (nI 0 = nI 1)) (some ([Sum.inl (Value.int (nI 0))], h2))) := rfl
set_option maxRecDepth 100000 in
set_option maxHeartbeats 1000000 in
theorem lz_e4 (Φ : Nat → List mv_V → H2 → O2) (ka : Nat → mv_L → List mv_V → H2 → Nat → Nat → O2) (SL : Nat) (sx : Nat → Int32) (MC MS : Nat) (x : Int32) (h : H2) (ce sl : Nat) : mv_blk rI2 rR2 ln2 wI2 wR2 nw2 cp2 bod (some (SL, sx)) lz_t (lz_g Φ) MC MS [18] ka 300 (mv_seek 372 lz_t) [(3, Sum.inl (Value.int x)), (2, Sum.inr (8, 0)), (1, Sum.inr (7, 0)), (0, Sum.inr (10, 0))] [] h ce sl = (
  mv_gd (mv_inb (x + (nI 1)) SL) <|
  mv_gd (mv_inb (x + (nI 2)) SL) <|
  mv_gd (mv_inb (x + (nI 3)) SL) <|
  mv_gd (Nat.ble (ce + 0) MC && (Nat.ble (sl + 0) MS && Nat.ble 0 8)) <|
  mv_rI (Φ 10 [Sum.inr (7, 0), Sum.inl (Value.int (sx (x + (nI 1)).toNatClampNeg)), Sum.inl (Value.int (sx (x + (nI 2)).toNatClampNeg)), Sum.inl (Value.int (sx (x + (nI 3)).toNatClampNeg))] h) fun r1 h1 =>
  mv_gd (mv_inb (x + (nI 1)) SL) <|
  mv_gd (mv_inb (x + (nI 2)) SL) <|
  mv_gd (mv_inb (x + (nI 3)) SL) <|
  mv_gd (Nat.ble (ce + 0 + 0) MC && (Nat.ble (sl + 0 + 0) MS && Nat.ble 1 8)) <|
  mv_rI (Φ 11 [Sum.inr (8, 0), Sum.inl (Value.int (sx (x + (nI 1)).toNatClampNeg)), Sum.inl (Value.int (sx (x + (nI 2)).toNatClampNeg)), Sum.inl (Value.int (sx (x + (nI 3)).toNatClampNeg))] h1) fun r2 h2 =>
  if r1 = r2 then mv_bi (x + nI 5) fun x2 => ka 18 [(3, Sum.inl (Value.int x2)), (2, Sum.inr (8, 0)), (1, Sum.inr (7, 0)), (0, Sum.inr (10, 0))] [] h2 (ce + 0 + 0) (sl + 0 + 0)
  else mv_gd (decide (nI 0 = nI 0) || decide (nI 0 = nI 1)) (some ([Sum.inl (Value.int (nI 0))], h2))) := rfl
set_option maxRecDepth 100000 in
set_option maxHeartbeats 1000000 in
theorem lz_e5 (Φ : Nat → List mv_V → H2 → O2) (ka : Nat → mv_L → List mv_V → H2 → Nat → Nat → O2) (SL : Nat) (sx : Nat → Int32) (MC MS : Nat) (x : Int32) (h : H2) (ce sl : Nat) : mv_blk rI2 rR2 ln2 wI2 wR2 nw2 cp2 bod (some (SL, sx)) lz_t (lz_g Φ) MC MS [18] ka 300 (mv_seek 415 lz_t) [(3, Sum.inl (Value.int x)), (2, Sum.inr (8, 0)), (1, Sum.inr (7, 0)), (0, Sum.inr (10, 0))] [] h ce sl = (
  mv_gd (mv_inb (x + (nI 1)) SL) <|
  mv_gd (mv_inb (x + (nI 2)) SL) <|
  mv_gd (Nat.ble (ce + 0) MC && (Nat.ble (sl + 0) MS && Nat.ble 0 8)) <|
  mv_rI (Φ 12 [Sum.inr (7, 0), Sum.inl (Value.int (sx (x + (nI 1)).toNatClampNeg)), Sum.inl (Value.int (sx (x + (nI 2)).toNatClampNeg))] h) fun r1 h1 =>
  mv_gd (mv_inb (x + (nI 1)) SL) <|
  mv_gd (mv_inb (x + (nI 2)) SL) <|
  mv_gd (Nat.ble (ce + 0 + 0) MC && (Nat.ble (sl + 0 + 0) MS && Nat.ble 1 8)) <|
  mv_rI (Φ 13 [Sum.inr (8, 0), Sum.inl (Value.int (sx (x + (nI 1)).toNatClampNeg)), Sum.inl (Value.int (sx (x + (nI 2)).toNatClampNeg))] h1) fun r2 h2 =>
  if r1 = r2 then mv_bi (x + nI 5) fun x2 => ka 18 [(3, Sum.inl (Value.int x2)), (2, Sum.inr (8, 0)), (1, Sum.inr (7, 0)), (0, Sum.inr (10, 0))] [] h2 (ce + 0 + 0) (sl + 0 + 0)
  else mv_gd (decide (nI 0 = nI 0) || decide (nI 0 = nI 1)) (some ([Sum.inl (Value.int (nI 0))], h2))) := rfl
set_option maxRecDepth 100000 in
set_option maxHeartbeats 1000000 in
theorem lz_e6 (Φ : Nat → List mv_V → H2 → O2) (ka : Nat → mv_L → List mv_V → H2 → Nat → Nat → O2) (SL : Nat) (sx : Nat → Int32) (MC MS : Nat) (x : Int32) (h : H2) (ce sl : Nat) : mv_blk rI2 rR2 ln2 wI2 wR2 nw2 cp2 bod (some (SL, sx)) lz_t (lz_g Φ) MC MS [18] ka 300 (mv_seek 448 lz_t) [(3, Sum.inl (Value.int x)), (2, Sum.inr (8, 0)), (1, Sum.inr (7, 0)), (0, Sum.inr (10, 0))] [] h ce sl = (
  mv_gd (mv_inb (x + (nI 1)) SL) <|
  mv_gd (mv_inb (x + (nI 2)) SL) <|
  mv_gd (Nat.ble (ce + 0) MC && (Nat.ble (sl + 0) MS && Nat.ble 0 8)) <|
  mv_rI (Φ 14 [Sum.inr (7, 0), Sum.inl (Value.int (sx (x + (nI 1)).toNatClampNeg)), Sum.inl (Value.int (sx (x + (nI 2)).toNatClampNeg))] h) fun r1 h1 =>
  mv_gd (mv_inb (x + (nI 1)) SL) <|
  mv_gd (mv_inb (x + (nI 2)) SL) <|
  mv_gd (Nat.ble (ce + 0 + 0) MC && (Nat.ble (sl + 0 + 0) MS && Nat.ble 1 8)) <|
  mv_rI (Φ 15 [Sum.inr (8, 0), Sum.inl (Value.int (sx (x + (nI 1)).toNatClampNeg)), Sum.inl (Value.int (sx (x + (nI 2)).toNatClampNeg))] h1) fun r2 h2 =>
  if r1 = r2 then mv_bi (x + nI 5) fun x2 => ka 18 [(3, Sum.inl (Value.int x2)), (2, Sum.inr (8, 0)), (1, Sum.inr (7, 0)), (0, Sum.inr (10, 0))] [] h2 (ce + 0 + 0) (sl + 0 + 0)
  else mv_gd (decide (nI 0 = nI 0) || decide (nI 0 = nI 1)) (some ([Sum.inl (Value.int (nI 0))], h2))) := rfl
set_option maxRecDepth 100000 in
set_option maxHeartbeats 1000000 in
theorem lz_e7 (Φ : Nat → List mv_V → H2 → O2) (ka : Nat → mv_L → List mv_V → H2 → Nat → Nat → O2) (SL : Nat) (sx : Nat → Int32) (MC MS : Nat) (x : Int32) (h : H2) (ce sl : Nat) : mv_blk rI2 rR2 ln2 wI2 wR2 nw2 cp2 bod (some (SL, sx)) lz_t (lz_g Φ) MC MS [18] ka 300 (mv_seek 481 lz_t) [(3, Sum.inl (Value.int x)), (2, Sum.inr (8, 0)), (1, Sum.inr (7, 0)), (0, Sum.inr (10, 0))] [] h ce sl = (
  mv_gd (mv_inb (x + (nI 1)) SL) <|
  mv_gd (Nat.ble (ce + 0) MC && (Nat.ble (sl + 0) MS && Nat.ble 0 8)) <|
  mv_rI (Φ 16 [Sum.inr (7, 0), Sum.inl (Value.int (sx (x + (nI 1)).toNatClampNeg))] h) fun r1 h1 =>
  mv_gd (mv_inb (x + (nI 1)) SL) <|
  mv_gd (Nat.ble (ce + 0 + 0) MC && (Nat.ble (sl + 0 + 0) MS && Nat.ble 1 8)) <|
  mv_rI (Φ 17 [Sum.inr (8, 0), Sum.inl (Value.int (sx (x + (nI 1)).toNatClampNeg))] h1) fun r2 h2 =>
  if r1 = r2 then mv_bi (x + nI 5) fun x2 => ka 18 [(3, Sum.inl (Value.int x2)), (2, Sum.inr (8, 0)), (1, Sum.inr (7, 0)), (0, Sum.inr (10, 0))] [] h2 (ce + 0 + 0) (sl + 0 + 0)
  else mv_gd (decide (nI 0 = nI 0) || decide (nI 0 = nI 1)) (some ([Sum.inl (Value.int (nI 0))], h2))) := rfl
set_option maxRecDepth 100000 in
set_option maxHeartbeats 1000000 in
theorem lz_e8 (Φ : Nat → List mv_V → H2 → O2) (ka : Nat → mv_L → List mv_V → H2 → Nat → Nat → O2) (SL : Nat) (sx : Nat → Int32) (MC MS : Nat) (x : Int32) (h : H2) (ce sl : Nat) : mv_blk rI2 rR2 ln2 wI2 wR2 nw2 cp2 bod (some (SL, sx)) lz_t (lz_g Φ) MC MS [18] ka 300 (mv_seek 504 lz_t) [(3, Sum.inl (Value.int x)), (2, Sum.inr (8, 0)), (1, Sum.inr (7, 0)), (0, Sum.inr (10, 0))] [] h ce sl = (
  mv_gd (mv_inb (x + (nI 1)) SL) <|
  mv_gd (Nat.ble (ce + 0) MC && (Nat.ble (sl + 0) MS && Nat.ble 0 8)) <|
  mv_rI (Φ 18 [Sum.inr (7, 0), Sum.inl (Value.int (sx (x + (nI 1)).toNatClampNeg))] h) fun r1 h1 =>
  mv_gd (mv_inb (x + (nI 1)) SL) <|
  mv_gd (Nat.ble (ce + 0 + 0) MC && (Nat.ble (sl + 0 + 0) MS && Nat.ble 1 8)) <|
  mv_rI (Φ 19 [Sum.inr (8, 0), Sum.inl (Value.int (sx (x + (nI 1)).toNatClampNeg))] h1) fun r2 h2 =>
  if r1 = r2 then mv_bi (x + nI 5) fun x2 => ka 18 [(3, Sum.inl (Value.int x2)), (2, Sum.inr (8, 0)), (1, Sum.inr (7, 0)), (0, Sum.inr (10, 0))] [] h2 (ce + 0 + 0) (sl + 0 + 0)
  else mv_gd (decide (nI 0 = nI 0) || decide (nI 0 = nI 1)) (some ([Sum.inl (Value.int (nI 0))], h2))) := rfl
set_option maxRecDepth 100000 in
set_option maxHeartbeats 1000000 in
theorem lz_e9 (Φ : Nat → List mv_V → H2 → O2) (ka : Nat → mv_L → List mv_V → H2 → Nat → Nat → O2) (SL : Nat) (sx : Nat → Int32) (MC MS : Nat) (x : Int32) (h : H2) (ce sl : Nat) : mv_blk rI2 rR2 ln2 wI2 wR2 nw2 cp2 bod (some (SL, sx)) lz_t (lz_g Φ) MC MS [18] ka 300 (mv_seek 527 lz_t) [(3, Sum.inl (Value.int x)), (2, Sum.inr (8, 0)), (1, Sum.inr (7, 0)), (0, Sum.inr (10, 0))] [] h ce sl = (
  mv_gd (mv_inb (x + (nI 1)) SL) <|
  mv_gd (mv_inb (x + (nI 2)) SL) <|
  mv_gd (Nat.ble (ce + 0) MC && (Nat.ble (sl + 0) MS && Nat.ble 0 8)) <|
  mv_rI (Φ 20 [Sum.inr (7, 0), Sum.inl (Value.int (sx (x + (nI 1)).toNatClampNeg)), Sum.inl (Value.int (sx (x + (nI 2)).toNatClampNeg))] h) fun r1 h1 =>
  mv_gd (mv_inb (x + (nI 1)) SL) <|
  mv_gd (mv_inb (x + (nI 2)) SL) <|
  mv_gd (Nat.ble (ce + 0 + 0) MC && (Nat.ble (sl + 0 + 0) MS && Nat.ble 1 8)) <|
  mv_rI (Φ 21 [Sum.inr (8, 0), Sum.inl (Value.int (sx (x + (nI 1)).toNatClampNeg)), Sum.inl (Value.int (sx (x + (nI 2)).toNatClampNeg))] h1) fun r2 h2 =>
  if r1 = r2 then mv_bi (x + nI 5) fun x2 => ka 18 [(3, Sum.inl (Value.int x2)), (2, Sum.inr (8, 0)), (1, Sum.inr (7, 0)), (0, Sum.inr (10, 0))] [] h2 (ce + 0 + 0) (sl + 0 + 0)
  else mv_gd (decide (nI 0 = nI 0) || decide (nI 0 = nI 1)) (some ([Sum.inl (Value.int (nI 0))], h2))) := rfl
set_option maxRecDepth 100000 in
set_option maxHeartbeats 1000000 in
theorem lz_e10 (Φ : Nat → List mv_V → H2 → O2) (ka : Nat → mv_L → List mv_V → H2 → Nat → Nat → O2) (SL : Nat) (sx : Nat → Int32) (MC MS : Nat) (x : Int32) (h : H2) (ce sl : Nat) : mv_blk rI2 rR2 ln2 wI2 wR2 nw2 cp2 bod (some (SL, sx)) lz_t (lz_g Φ) MC MS [18] ka 300 (mv_seek 560 lz_t) [(3, Sum.inl (Value.int x)), (2, Sum.inr (8, 0)), (1, Sum.inr (7, 0)), (0, Sum.inr (10, 0))] [] h ce sl = (
  mv_gd (mv_inb (x + (nI 1)) SL) <|
  mv_gd (mv_inb (x + (nI 2)) SL) <|
  mv_gd (mv_inb (x + (nI 3)) SL) <|
  mv_gd (Nat.ble (ce + 0) MC && (Nat.ble (sl + 0) MS && Nat.ble 0 8)) <|
  mv_rI (Φ 22 [Sum.inr (7, 0), Sum.inl (Value.int (sx (x + (nI 1)).toNatClampNeg)), Sum.inl (Value.int (sx (x + (nI 2)).toNatClampNeg)), Sum.inl (Value.int (sx (x + (nI 3)).toNatClampNeg))] h) fun r1 h1 =>
  mv_gd (mv_inb (x + (nI 1)) SL) <|
  mv_gd (mv_inb (x + (nI 2)) SL) <|
  mv_gd (mv_inb (x + (nI 3)) SL) <|
  mv_gd (Nat.ble (ce + 0 + 0) MC && (Nat.ble (sl + 0 + 0) MS && Nat.ble 1 8)) <|
  mv_rI (Φ 23 [Sum.inr (8, 0), Sum.inl (Value.int (sx (x + (nI 1)).toNatClampNeg)), Sum.inl (Value.int (sx (x + (nI 2)).toNatClampNeg)), Sum.inl (Value.int (sx (x + (nI 3)).toNatClampNeg))] h1) fun r2 h2 =>
  if r1 = r2 then mv_bi (x + nI 5) fun x2 => ka 18 [(3, Sum.inl (Value.int x2)), (2, Sum.inr (8, 0)), (1, Sum.inr (7, 0)), (0, Sum.inr (10, 0))] [] h2 (ce + 0 + 0) (sl + 0 + 0)
  else mv_gd (decide (nI 0 = nI 0) || decide (nI 0 = nI 1)) (some ([Sum.inl (Value.int (nI 0))], h2))) := rfl
set_option maxRecDepth 100000 in
set_option maxHeartbeats 1000000 in
theorem lz_e11 (Φ : Nat → List mv_V → H2 → O2) (ka : Nat → mv_L → List mv_V → H2 → Nat → Nat → O2) (SL : Nat) (sx : Nat → Int32) (MC MS : Nat) (x : Int32) (h : H2) (ce sl : Nat) : mv_blk rI2 rR2 ln2 wI2 wR2 nw2 cp2 bod (some (SL, sx)) lz_t (lz_g Φ) MC MS [18] ka 300 (mv_seek 603 lz_t) [(3, Sum.inl (Value.int x)), (2, Sum.inr (8, 0)), (1, Sum.inr (7, 0)), (0, Sum.inr (10, 0))] [] h ce sl = (
  mv_gd (mv_inb (x + (nI 1)) SL) <|
  mv_gd (mv_inb (x + (nI 2)) SL) <|
  mv_gd (Nat.ble (ce + 0) MC && (Nat.ble (sl + 0) MS && Nat.ble 0 8)) <|
  mv_rI (Φ 24 [Sum.inr (7, 0), Sum.inl (Value.int (sx (x + (nI 1)).toNatClampNeg)), Sum.inl (Value.int (sx (x + (nI 2)).toNatClampNeg))] h) fun r1 h1 =>
  mv_gd (mv_inb (x + (nI 1)) SL) <|
  mv_gd (mv_inb (x + (nI 2)) SL) <|
  mv_gd (Nat.ble (ce + 0 + 0) MC && (Nat.ble (sl + 0 + 0) MS && Nat.ble 1 8)) <|
  mv_rI (Φ 25 [Sum.inr (8, 0), Sum.inl (Value.int (sx (x + (nI 1)).toNatClampNeg)), Sum.inl (Value.int (sx (x + (nI 2)).toNatClampNeg))] h1) fun r2 h2 =>
  if r1 = r2 then mv_bi (x + nI 5) fun x2 => ka 18 [(3, Sum.inl (Value.int x2)), (2, Sum.inr (8, 0)), (1, Sum.inr (7, 0)), (0, Sum.inr (10, 0))] [] h2 (ce + 0 + 0) (sl + 0 + 0)
  else mv_gd (decide (nI 0 = nI 0) || decide (nI 0 = nI 1)) (some ([Sum.inl (Value.int (nI 0))], h2))) := rfl
set_option maxRecDepth 100000 in
set_option maxHeartbeats 1000000 in
theorem lz_e12 (Φ : Nat → List mv_V → H2 → O2) (ka : Nat → mv_L → List mv_V → H2 → Nat → Nat → O2) (SL : Nat) (sx : Nat → Int32) (MC MS : Nat) (x : Int32) (h : H2) (ce sl : Nat) : mv_blk rI2 rR2 ln2 wI2 wR2 nw2 cp2 bod (some (SL, sx)) lz_t (lz_g Φ) MC MS [18] ka 300 (mv_seek 636 lz_t) [(3, Sum.inl (Value.int x)), (2, Sum.inr (8, 0)), (1, Sum.inr (7, 0)), (0, Sum.inr (10, 0))] [] h ce sl = (
  mv_gd (mv_inb (x + (nI 1)) SL) <|
  mv_gd (mv_inb (x + (nI 2)) SL) <|
  mv_gd (mv_inb (x + (nI 3)) SL) <|
  mv_gd (Nat.ble (ce + 0) MC && (Nat.ble (sl + 0) MS && Nat.ble 0 8)) <|
  mv_rI (Φ 26 [Sum.inr (7, 0), Sum.inl (Value.int (sx (x + (nI 1)).toNatClampNeg)), Sum.inl (Value.int (sx (x + (nI 2)).toNatClampNeg)), Sum.inl (Value.int (sx (x + (nI 3)).toNatClampNeg))] h) fun r1 h1 =>
  mv_gd (mv_inb (x + (nI 1)) SL) <|
  mv_gd (mv_inb (x + (nI 2)) SL) <|
  mv_gd (mv_inb (x + (nI 3)) SL) <|
  mv_gd (Nat.ble (ce + 0 + 0) MC && (Nat.ble (sl + 0 + 0) MS && Nat.ble 1 8)) <|
  mv_rI (Φ 27 [Sum.inr (8, 0), Sum.inl (Value.int (sx (x + (nI 1)).toNatClampNeg)), Sum.inl (Value.int (sx (x + (nI 2)).toNatClampNeg)), Sum.inl (Value.int (sx (x + (nI 3)).toNatClampNeg))] h1) fun r2 h2 =>
  if r1 = r2 then mv_bi (x + nI 5) fun x2 => ka 18 [(3, Sum.inl (Value.int x2)), (2, Sum.inr (8, 0)), (1, Sum.inr (7, 0)), (0, Sum.inr (10, 0))] [] h2 (ce + 0 + 0) (sl + 0 + 0)
  else mv_gd (decide (nI 0 = nI 0) || decide (nI 0 = nI 1)) (some ([Sum.inl (Value.int (nI 0))], h2))) := rfl
set_option maxRecDepth 100000 in
set_option maxHeartbeats 1000000 in
theorem lz_e13 (Φ : Nat → List mv_V → H2 → O2) (ka : Nat → mv_L → List mv_V → H2 → Nat → Nat → O2) (SL : Nat) (sx : Nat → Int32) (MC MS : Nat) (x : Int32) (h : H2) (ce sl : Nat) : mv_blk rI2 rR2 ln2 wI2 wR2 nw2 cp2 bod (some (SL, sx)) lz_t (lz_g Φ) MC MS [18] ka 300 (mv_seek 679 lz_t) [(3, Sum.inl (Value.int x)), (2, Sum.inr (8, 0)), (1, Sum.inr (7, 0)), (0, Sum.inr (10, 0))] [] h ce sl = (
  mv_gd (mv_inb (x + (nI 1)) SL) <|
  mv_gd (mv_inb (x + (nI 2)) SL) <|
  mv_gd (Nat.ble (ce + 0) MC && (Nat.ble (sl + 0) MS && Nat.ble 0 8)) <|
  mv_rI (Φ 28 [Sum.inr (7, 0), Sum.inl (Value.int (sx (x + (nI 1)).toNatClampNeg)), Sum.inl (Value.int (sx (x + (nI 2)).toNatClampNeg))] h) fun r1 h1 =>
  mv_gd (mv_inb (x + (nI 1)) SL) <|
  mv_gd (mv_inb (x + (nI 2)) SL) <|
  mv_gd (Nat.ble (ce + 0 + 0) MC && (Nat.ble (sl + 0 + 0) MS && Nat.ble 1 8)) <|
  mv_rI (Φ 29 [Sum.inr (8, 0), Sum.inl (Value.int (sx (x + (nI 1)).toNatClampNeg)), Sum.inl (Value.int (sx (x + (nI 2)).toNatClampNeg))] h1) fun r2 h2 =>
  if r1 = r2 then mv_bi (x + nI 5) fun x2 => ka 18 [(3, Sum.inl (Value.int x2)), (2, Sum.inr (8, 0)), (1, Sum.inr (7, 0)), (0, Sum.inr (10, 0))] [] h2 (ce + 0 + 0) (sl + 0 + 0)
  else mv_gd (decide (nI 0 = nI 0) || decide (nI 0 = nI 1)) (some ([Sum.inl (Value.int (nI 0))], h2))) := rfl
