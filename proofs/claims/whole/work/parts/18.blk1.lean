-- blocks of the law, further
set_option maxRecDepth 100000 in
set_option maxHeartbeats 1000000 in
theorem lz_e14 (Φ : Nat → List mv_V → H2 → O2) (ka : Nat → mv_L → List mv_V → H2 → Nat → Nat → O2) (SL : Nat) (sx : Nat → Int32) (MC MS : Nat) (x : Int32) (h : H2) (ce sl : Nat) : mv_blk rI2 rR2 ln2 wI2 wR2 nw2 cp2 bod (some (SL, sx)) lz_t (lz_g Φ) MC MS [18] ka 300 (mv_seek 712 lz_t) [(3, Sum.inl (Value.int x)), (2, Sum.inr (8, 0)), (1, Sum.inr (7, 0)), (0, Sum.inr (10, 0))] [] h ce sl = (
  mv_gd (mv_inb (x + (nI 1)) SL) <|
  mv_gd (mv_inb (x + (nI 2)) SL) <|
  mv_gd (Nat.ble (ce + 0) MC && (Nat.ble (sl + 0) MS && Nat.ble 0 8)) <|
  mv_rI (Φ 30 [Sum.inr (7, 0), Sum.inl (Value.int (sx (x + (nI 1)).toNatClampNeg)), Sum.inl (Value.int (sx (x + (nI 2)).toNatClampNeg))] h) fun r1 h1 =>
  mv_gd (mv_inb (x + (nI 1)) SL) <|
  mv_gd (mv_inb (x + (nI 2)) SL) <|
  mv_gd (Nat.ble (ce + 0 + 0) MC && (Nat.ble (sl + 0 + 0) MS && Nat.ble 1 8)) <|
  mv_rI (Φ 31 [Sum.inr (8, 0), Sum.inl (Value.int (sx (x + (nI 1)).toNatClampNeg)), Sum.inl (Value.int (sx (x + (nI 2)).toNatClampNeg))] h1) fun r2 h2 =>
  if r1 = r2 then mv_bi (x + nI 5) fun x2 => ka 18 [(3, Sum.inl (Value.int x2)), (2, Sum.inr (8, 0)), (1, Sum.inr (7, 0)), (0, Sum.inr (10, 0))] [] h2 (ce + 0 + 0) (sl + 0 + 0)
  else mv_gd (decide (nI 0 = nI 0) || decide (nI 0 = nI 1)) (some ([Sum.inl (Value.int (nI 0))], h2))) := rfl
set_option maxRecDepth 100000 in
set_option maxHeartbeats 1000000 in
theorem lz_e15 (Φ : Nat → List mv_V → H2 → O2) (ka : Nat → mv_L → List mv_V → H2 → Nat → Nat → O2) (SL : Nat) (sx : Nat → Int32) (MC MS : Nat) (x : Int32) (h : H2) (ce sl : Nat) : mv_blk rI2 rR2 ln2 wI2 wR2 nw2 cp2 bod (some (SL, sx)) lz_t (lz_g Φ) MC MS [18] ka 300 (mv_seek 745 lz_t) [(3, Sum.inl (Value.int x)), (2, Sum.inr (8, 0)), (1, Sum.inr (7, 0)), (0, Sum.inr (10, 0))] [] h ce sl = (
  mv_gd (mv_inb (x + (nI 1)) SL) <|
  mv_gd (Nat.ble (ce + 0) MC && (Nat.ble (sl + 0) MS && Nat.ble 0 8)) <|
  mv_rI (Φ 32 [Sum.inr (7, 0), Sum.inl (Value.int (sx (x + (nI 1)).toNatClampNeg))] h) fun r1 h1 =>
  mv_gd (mv_inb (x + (nI 1)) SL) <|
  mv_gd (Nat.ble (ce + 0 + 0) MC && (Nat.ble (sl + 0 + 0) MS && Nat.ble 1 8)) <|
  mv_rI (Φ 33 [Sum.inr (8, 0), Sum.inl (Value.int (sx (x + (nI 1)).toNatClampNeg))] h1) fun r2 h2 =>
  if r1 = r2 then mv_bi (x + nI 5) fun x2 => ka 18 [(3, Sum.inl (Value.int x2)), (2, Sum.inr (8, 0)), (1, Sum.inr (7, 0)), (0, Sum.inr (10, 0))] [] h2 (ce + 0 + 0) (sl + 0 + 0)
  else mv_gd (decide (nI 0 = nI 0) || decide (nI 0 = nI 1)) (some ([Sum.inl (Value.int (nI 0))], h2))) := rfl
set_option maxRecDepth 100000 in
set_option maxHeartbeats 1000000 in
theorem lz_e16 (Φ : Nat → List mv_V → H2 → O2) (ka : Nat → mv_L → List mv_V → H2 → Nat → Nat → O2) (SL : Nat) (sx : Nat → Int32) (MC MS : Nat) (x : Int32) (h : H2) (ce sl : Nat) : mv_blk rI2 rR2 ln2 wI2 wR2 nw2 cp2 bod (some (SL, sx)) lz_t (lz_g Φ) MC MS [18] ka 300 (mv_seek 768 lz_t) [(3, Sum.inl (Value.int x)), (2, Sum.inr (8, 0)), (1, Sum.inr (7, 0)), (0, Sum.inr (10, 0))] [] h ce sl = (
  mv_gd (mv_inb (x + (nI 1)) SL) <|
  mv_gd (Nat.ble (ce + 0) MC && (Nat.ble (sl + 0) MS && Nat.ble 0 8)) <|
  mv_rI (Φ 34 [Sum.inr (7, 0), Sum.inl (Value.int (sx (x + (nI 1)).toNatClampNeg))] h) fun r1 h1 =>
  mv_gd (mv_inb (x + (nI 1)) SL) <|
  mv_gd (Nat.ble (ce + 0 + 0) MC && (Nat.ble (sl + 0 + 0) MS && Nat.ble 1 8)) <|
  mv_rI (Φ 35 [Sum.inr (8, 0), Sum.inl (Value.int (sx (x + (nI 1)).toNatClampNeg))] h1) fun r2 h2 =>
  if r1 = r2 then mv_bi (x + nI 5) fun x2 => ka 18 [(3, Sum.inl (Value.int x2)), (2, Sum.inr (8, 0)), (1, Sum.inr (7, 0)), (0, Sum.inr (10, 0))] [] h2 (ce + 0 + 0) (sl + 0 + 0)
  else mv_gd (decide (nI 0 = nI 0) || decide (nI 0 = nI 1)) (some ([Sum.inl (Value.int (nI 0))], h2))) := rfl
set_option maxRecDepth 100000 in
set_option maxHeartbeats 1000000 in
theorem lz_e17 (Φ : Nat → List mv_V → H2 → O2) (ka : Nat → mv_L → List mv_V → H2 → Nat → Nat → O2) (SL : Nat) (sx : Nat → Int32) (MC MS : Nat) (x : Int32) (h : H2) (ce sl : Nat) : mv_blk rI2 rR2 ln2 wI2 wR2 nw2 cp2 bod (some (SL, sx)) lz_t (lz_g Φ) MC MS [18] ka 300 (mv_seek 791 lz_t) [(3, Sum.inl (Value.int x)), (2, Sum.inr (8, 0)), (1, Sum.inr (7, 0)), (0, Sum.inr (10, 0))] [] h ce sl = (
  mv_gd (Nat.ble (ce + 0) MC && (Nat.ble (sl + 0) MS && Nat.ble 0 8)) <|
  mv_rI (Φ 36 [Sum.inr (7, 0)] h) fun r1 h1 =>
  mv_gd (Nat.ble (ce + 0 + 0) MC && (Nat.ble (sl + 0 + 0) MS && Nat.ble 1 8)) <|
  mv_rI (Φ 37 [Sum.inr (8, 0)] h1) fun r2 h2 =>
  if r1 = r2 then mv_bi (x + nI 5) fun x2 => ka 18 [(3, Sum.inl (Value.int x2)), (2, Sum.inr (8, 0)), (1, Sum.inr (7, 0)), (0, Sum.inr (10, 0))] [] h2 (ce + 0 + 0) (sl + 0 + 0)
  else mv_gd (decide (nI 0 = nI 0) || decide (nI 0 = nI 1)) (some ([Sum.inl (Value.int (nI 0))], h2))) := rfl
set_option maxRecDepth 100000 in
set_option maxHeartbeats 1000000 in
theorem lz_e18 (Φ : Nat → List mv_V → H2 → O2) (ka : Nat → mv_L → List mv_V → H2 → Nat → Nat → O2) (SL : Nat) (sx : Nat → Int32) (MC MS : Nat) (x : Int32) (h : H2) (ce sl : Nat) : mv_blk rI2 rR2 ln2 wI2 wR2 nw2 cp2 bod (some (SL, sx)) lz_t (lz_g Φ) MC MS [18] ka 300 (mv_seek 804 lz_t) [(3, Sum.inl (Value.int x)), (2, Sum.inr (8, 0)), (1, Sum.inr (7, 0)), (0, Sum.inr (10, 0))] [] h ce sl = (
  mv_gd (mv_inb (x + (nI 1)) SL) <|
  mv_gd (Nat.ble (ce + 0) MC && (Nat.ble (sl + 0) MS && Nat.ble 0 8)) <|
  mv_rI (Φ 38 [Sum.inr (7, 0), Sum.inl (Value.int (sx (x + (nI 1)).toNatClampNeg))] h) fun r1 h1 =>
  mv_gd (mv_inb (x + (nI 1)) SL) <|
  mv_gd (Nat.ble (ce + 0 + 0) MC && (Nat.ble (sl + 0 + 0) MS && Nat.ble 1 8)) <|
  mv_rI (Φ 39 [Sum.inr (8, 0), Sum.inl (Value.int (sx (x + (nI 1)).toNatClampNeg))] h1) fun r2 h2 =>
  if r1 = r2 then mv_bi (x + nI 5) fun x2 => ka 18 [(3, Sum.inl (Value.int x2)), (2, Sum.inr (8, 0)), (1, Sum.inr (7, 0)), (0, Sum.inr (10, 0))] [] h2 (ce + 0 + 0) (sl + 0 + 0)
  else mv_gd (decide (nI 0 = nI 0) || decide (nI 0 = nI 1)) (some ([Sum.inl (Value.int (nI 0))], h2))) := rfl
set_option maxRecDepth 100000 in
set_option maxHeartbeats 1000000 in
theorem lz_e19 (Φ : Nat → List mv_V → H2 → O2) (ka : Nat → mv_L → List mv_V → H2 → Nat → Nat → O2) (SL : Nat) (sx : Nat → Int32) (MC MS : Nat) (x : Int32) (h : H2) (ce sl : Nat) : mv_blk rI2 rR2 ln2 wI2 wR2 nw2 cp2 bod (some (SL, sx)) lz_t (lz_g Φ) MC MS [18] ka 300 (mv_seek 827 lz_t) [(3, Sum.inl (Value.int x)), (2, Sum.inr (8, 0)), (1, Sum.inr (7, 0)), (0, Sum.inr (10, 0))] [] h ce sl = (
  mv_gd (mv_inb (x + (nI 1)) SL) <|
  mv_gd (Nat.ble (ce + 0) MC && (Nat.ble (sl + 0) MS && Nat.ble 0 8)) <|
  mv_rI (Φ 40 [Sum.inr (7, 0), Sum.inl (Value.int (sx (x + (nI 1)).toNatClampNeg))] h) fun r1 h1 =>
  mv_gd (mv_inb (x + (nI 1)) SL) <|
  mv_gd (Nat.ble (ce + 0 + 0) MC && (Nat.ble (sl + 0 + 0) MS && Nat.ble 1 8)) <|
  mv_rI (Φ 41 [Sum.inr (8, 0), Sum.inl (Value.int (sx (x + (nI 1)).toNatClampNeg))] h1) fun r2 h2 =>
  if r1 = r2 then mv_bi (x + nI 5) fun x2 => ka 18 [(3, Sum.inl (Value.int x2)), (2, Sum.inr (8, 0)), (1, Sum.inr (7, 0)), (0, Sum.inr (10, 0))] [] h2 (ce + 0 + 0) (sl + 0 + 0)
  else mv_gd (decide (nI 0 = nI 0) || decide (nI 0 = nI 1)) (some ([Sum.inl (Value.int (nI 0))], h2))) := rfl
set_option maxRecDepth 100000 in
set_option maxHeartbeats 1000000 in
theorem lz_e20 (Φ : Nat → List mv_V → H2 → O2) (ka : Nat → mv_L → List mv_V → H2 → Nat → Nat → O2) (SL : Nat) (sx : Nat → Int32) (MC MS : Nat) (x : Int32) (h : H2) (ce sl : Nat) : mv_blk rI2 rR2 ln2 wI2 wR2 nw2 cp2 bod (some (SL, sx)) lz_t (lz_g Φ) MC MS [18] ka 300 (mv_seek 850 lz_t) [(3, Sum.inl (Value.int x)), (2, Sum.inr (8, 0)), (1, Sum.inr (7, 0)), (0, Sum.inr (10, 0))] [] h ce sl = (
  mv_gd (mv_inb (x + (nI 1)) SL) <|
  mv_gd (mv_inb (x + (nI 2)) SL) <|
  mv_gd (Nat.ble (ce + 0) MC && (Nat.ble (sl + 0) MS && Nat.ble 0 8)) <|
  mv_rI (Φ 42 [Sum.inr (7, 0), Sum.inl (Value.int (sx (x + (nI 1)).toNatClampNeg)), Sum.inl (Value.int (sx (x + (nI 2)).toNatClampNeg))] h) fun r1 h1 =>
  mv_gd (mv_inb (x + (nI 1)) SL) <|
  mv_gd (mv_inb (x + (nI 2)) SL) <|
  mv_gd (Nat.ble (ce + 0 + 0) MC && (Nat.ble (sl + 0 + 0) MS && Nat.ble 1 8)) <|
  mv_rI (Φ 43 [Sum.inr (8, 0), Sum.inl (Value.int (sx (x + (nI 1)).toNatClampNeg)), Sum.inl (Value.int (sx (x + (nI 2)).toNatClampNeg))] h1) fun r2 h2 =>
  if r1 = r2 then mv_bi (x + nI 5) fun x2 => ka 18 [(3, Sum.inl (Value.int x2)), (2, Sum.inr (8, 0)), (1, Sum.inr (7, 0)), (0, Sum.inr (10, 0))] [] h2 (ce + 0 + 0) (sl + 0 + 0)
  else mv_gd (decide (nI 0 = nI 0) || decide (nI 0 = nI 1)) (some ([Sum.inl (Value.int (nI 0))], h2))) := rfl
set_option maxRecDepth 100000 in
set_option maxHeartbeats 1000000 in
theorem lz_e21 (Φ : Nat → List mv_V → H2 → O2) (ka : Nat → mv_L → List mv_V → H2 → Nat → Nat → O2) (SL : Nat) (sx : Nat → Int32) (MC MS : Nat) (x : Int32) (h : H2) (ce sl : Nat) : mv_blk rI2 rR2 ln2 wI2 wR2 nw2 cp2 bod (some (SL, sx)) lz_t (lz_g Φ) MC MS [18] ka 300 (mv_seek 883 lz_t) [(3, Sum.inl (Value.int x)), (2, Sum.inr (8, 0)), (1, Sum.inr (7, 0)), (0, Sum.inr (10, 0))] [] h ce sl = (
  mv_gd (mv_inb (x + (nI 1)) SL) <|
  mv_gd (mv_inb (x + (nI 2)) SL) <|
  mv_gd (Nat.ble (ce + 0) MC && (Nat.ble (sl + 0) MS && Nat.ble 0 8)) <|
  mv_rI (Φ 44 [Sum.inr (7, 0), Sum.inl (Value.int (sx (x + (nI 1)).toNatClampNeg)), Sum.inl (Value.int (sx (x + (nI 2)).toNatClampNeg))] h) fun r1 h1 =>
  mv_gd (mv_inb (x + (nI 1)) SL) <|
  mv_gd (mv_inb (x + (nI 2)) SL) <|
  mv_gd (Nat.ble (ce + 0 + 0) MC && (Nat.ble (sl + 0 + 0) MS && Nat.ble 1 8)) <|
  mv_rI (Φ 45 [Sum.inr (8, 0), Sum.inl (Value.int (sx (x + (nI 1)).toNatClampNeg)), Sum.inl (Value.int (sx (x + (nI 2)).toNatClampNeg))] h1) fun r2 h2 =>
  if r1 = r2 then mv_bi (x + nI 5) fun x2 => ka 18 [(3, Sum.inl (Value.int x2)), (2, Sum.inr (8, 0)), (1, Sum.inr (7, 0)), (0, Sum.inr (10, 0))] [] h2 (ce + 0 + 0) (sl + 0 + 0)
  else mv_gd (decide (nI 0 = nI 0) || decide (nI 0 = nI 1)) (some ([Sum.inl (Value.int (nI 0))], h2))) := rfl
set_option maxRecDepth 100000 in
set_option maxHeartbeats 1000000 in
theorem lz_e22 (Φ : Nat → List mv_V → H2 → O2) (ka : Nat → mv_L → List mv_V → H2 → Nat → Nat → O2) (SL : Nat) (sx : Nat → Int32) (MC MS : Nat) (x : Int32) (h : H2) (ce sl : Nat) : mv_blk rI2 rR2 ln2 wI2 wR2 nw2 cp2 bod (some (SL, sx)) lz_t (lz_g Φ) MC MS [18] ka 300 (mv_seek 916 lz_t) [(3, Sum.inl (Value.int x)), (2, Sum.inr (8, 0)), (1, Sum.inr (7, 0)), (0, Sum.inr (10, 0))] [] h ce sl = (
  mv_gd (mv_inb (x + (nI 1)) SL) <|
  mv_gd (mv_inb (x + (nI 2)) SL) <|
  mv_gd (Nat.ble (ce + 0) MC && (Nat.ble (sl + 0) MS && Nat.ble 0 8)) <|
  mv_rI (Φ 46 [Sum.inr (7, 0), Sum.inl (Value.int (sx (x + (nI 1)).toNatClampNeg)), Sum.inl (Value.int (sx (x + (nI 2)).toNatClampNeg))] h) fun r1 h1 =>
  mv_gd (mv_inb (x + (nI 1)) SL) <|
  mv_gd (mv_inb (x + (nI 2)) SL) <|
  mv_gd (Nat.ble (ce + 0 + 0) MC && (Nat.ble (sl + 0 + 0) MS && Nat.ble 1 8)) <|
  mv_rI (Φ 47 [Sum.inr (8, 0), Sum.inl (Value.int (sx (x + (nI 1)).toNatClampNeg)), Sum.inl (Value.int (sx (x + (nI 2)).toNatClampNeg))] h1) fun r2 h2 =>
  if r1 = r2 then mv_bi (x + nI 5) fun x2 => ka 18 [(3, Sum.inl (Value.int x2)), (2, Sum.inr (8, 0)), (1, Sum.inr (7, 0)), (0, Sum.inr (10, 0))] [] h2 (ce + 0 + 0) (sl + 0 + 0)
  else mv_gd (decide (nI 0 = nI 0) || decide (nI 0 = nI 1)) (some ([Sum.inl (Value.int (nI 0))], h2))) := rfl
set_option maxRecDepth 100000 in
set_option maxHeartbeats 1000000 in
theorem lz_e23 (Φ : Nat → List mv_V → H2 → O2) (ka : Nat → mv_L → List mv_V → H2 → Nat → Nat → O2) (SL : Nat) (sx : Nat → Int32) (MC MS : Nat) (x : Int32) (h : H2) (ce sl : Nat) : mv_blk rI2 rR2 ln2 wI2 wR2 nw2 cp2 bod (some (SL, sx)) lz_t (lz_g Φ) MC MS [18] ka 300 (mv_seek 949 lz_t) [(3, Sum.inl (Value.int x)), (2, Sum.inr (8, 0)), (1, Sum.inr (7, 0)), (0, Sum.inr (10, 0))] [] h ce sl = (
  mv_gd (mv_inb (x + (nI 1)) SL) <|
  mv_gd (Nat.ble (ce + 0) MC && (Nat.ble (sl + 0) MS && Nat.ble 0 8)) <|
  mv_rI (Φ 48 [Sum.inr (7, 0), Sum.inl (Value.int (sx (x + (nI 1)).toNatClampNeg))] h) fun r1 h1 =>
  mv_gd (mv_inb (x + (nI 1)) SL) <|
  mv_gd (Nat.ble (ce + 0 + 0) MC && (Nat.ble (sl + 0 + 0) MS && Nat.ble 1 8)) <|
  mv_rI (Φ 49 [Sum.inr (8, 0), Sum.inl (Value.int (sx (x + (nI 1)).toNatClampNeg))] h1) fun r2 h2 =>
  if r1 = r2 then mv_bi (x + nI 5) fun x2 => ka 18 [(3, Sum.inl (Value.int x2)), (2, Sum.inr (8, 0)), (1, Sum.inr (7, 0)), (0, Sum.inr (10, 0))] [] h2 (ce + 0 + 0) (sl + 0 + 0)
  else mv_gd (decide (nI 0 = nI 0) || decide (nI 0 = nI 1)) (some ([Sum.inl (Value.int (nI 0))], h2))) := rfl
set_option maxRecDepth 100000 in
set_option maxHeartbeats 1000000 in
theorem lz_e24 (Φ : Nat → List mv_V → H2 → O2) (ka : Nat → mv_L → List mv_V → H2 → Nat → Nat → O2) (SL : Nat) (sx : Nat → Int32) (MC MS : Nat) (x : Int32) (h : H2) (ce sl : Nat) : mv_blk rI2 rR2 ln2 wI2 wR2 nw2 cp2 bod (some (SL, sx)) lz_t (lz_g Φ) MC MS [18] ka 300 (mv_seek 972 lz_t) [(3, Sum.inl (Value.int x)), (2, Sum.inr (8, 0)), (1, Sum.inr (7, 0)), (0, Sum.inr (10, 0))] [] h ce sl = (
  mv_gd (mv_inb (x + (nI 1)) SL) <|
  mv_gd (Nat.ble (ce + 0) MC && (Nat.ble (sl + 0) MS && Nat.ble 0 8)) <|
  mv_rI (Φ 50 [Sum.inr (7, 0), Sum.inl (Value.int (sx (x + (nI 1)).toNatClampNeg))] h) fun r1 h1 =>
  mv_gd (mv_inb (x + (nI 1)) SL) <|
  mv_gd (Nat.ble (ce + 0 + 0) MC && (Nat.ble (sl + 0 + 0) MS && Nat.ble 1 8)) <|
  mv_rI (Φ 51 [Sum.inr (8, 0), Sum.inl (Value.int (sx (x + (nI 1)).toNatClampNeg))] h1) fun r2 h2 =>
  if r1 = r2 then mv_bi (x + nI 5) fun x2 => ka 18 [(3, Sum.inl (Value.int x2)), (2, Sum.inr (8, 0)), (1, Sum.inr (7, 0)), (0, Sum.inr (10, 0))] [] h2 (ce + 0 + 0) (sl + 0 + 0)
  else mv_gd (decide (nI 0 = nI 0) || decide (nI 0 = nI 1)) (some ([Sum.inl (Value.int (nI 0))], h2))) := rfl
set_option maxRecDepth 100000 in
set_option maxHeartbeats 1000000 in
theorem lz_e25 (Φ : Nat → List mv_V → H2 → O2) (ka : Nat → mv_L → List mv_V → H2 → Nat → Nat → O2) (SL : Nat) (sx : Nat → Int32) (MC MS : Nat) (x : Int32) (h : H2) (ce sl : Nat) : mv_blk rI2 rR2 ln2 wI2 wR2 nw2 cp2 bod (some (SL, sx)) lz_t (lz_g Φ) MC MS [18] ka 300 (mv_seek 995 lz_t) [(3, Sum.inl (Value.int x)), (2, Sum.inr (8, 0)), (1, Sum.inr (7, 0)), (0, Sum.inr (10, 0))] [] h ce sl = (
  mv_gd (mv_inb (x + (nI 1)) SL) <|
  mv_gd (mv_inb (x + (nI 2)) SL) <|
  mv_gd (Nat.ble (ce + 0) MC && (Nat.ble (sl + 0) MS && Nat.ble 0 8)) <|
  mv_rI (Φ 52 [Sum.inr (7, 0), Sum.inl (Value.int (sx (x + (nI 1)).toNatClampNeg)), Sum.inl (Value.int (sx (x + (nI 2)).toNatClampNeg))] h) fun r1 h1 =>
  mv_gd (mv_inb (x + (nI 1)) SL) <|
  mv_gd (mv_inb (x + (nI 2)) SL) <|
  mv_gd (Nat.ble (ce + 0 + 0) MC && (Nat.ble (sl + 0 + 0) MS && Nat.ble 1 8)) <|
  mv_rI (Φ 53 [Sum.inr (8, 0), Sum.inl (Value.int (sx (x + (nI 1)).toNatClampNeg)), Sum.inl (Value.int (sx (x + (nI 2)).toNatClampNeg))] h1) fun r2 h2 =>
  if r1 = r2 then mv_bi (x + nI 5) fun x2 => ka 18 [(3, Sum.inl (Value.int x2)), (2, Sum.inr (8, 0)), (1, Sum.inr (7, 0)), (0, Sum.inr (10, 0))] [] h2 (ce + 0 + 0) (sl + 0 + 0)
  else mv_gd (decide (nI 0 = nI 0) || decide (nI 0 = nI 1)) (some ([Sum.inl (Value.int (nI 0))], h2))) := rfl
set_option maxRecDepth 100000 in
set_option maxHeartbeats 1000000 in
theorem lz_e26 (Φ : Nat → List mv_V → H2 → O2) (ka : Nat → mv_L → List mv_V → H2 → Nat → Nat → O2) (SL : Nat) (sx : Nat → Int32) (MC MS : Nat) (x : Int32) (h : H2) (ce sl : Nat) : mv_blk rI2 rR2 ln2 wI2 wR2 nw2 cp2 bod (some (SL, sx)) lz_t (lz_g Φ) MC MS [18] ka 300 (mv_seek 1028 lz_t) [(3, Sum.inl (Value.int x)), (2, Sum.inr (8, 0)), (1, Sum.inr (7, 0)), (0, Sum.inr (10, 0))] [] h ce sl = (
  mv_gd (mv_inb (x + (nI 1)) SL) <|
  mv_gd (mv_inb (x + (nI 2)) SL) <|
  mv_gd (Nat.ble (ce + 0) MC && (Nat.ble (sl + 0) MS && Nat.ble 0 8)) <|
  mv_rI (Φ 54 [Sum.inr (7, 0), Sum.inl (Value.int (sx (x + (nI 1)).toNatClampNeg)), Sum.inl (Value.int (sx (x + (nI 2)).toNatClampNeg))] h) fun r1 h1 =>
  mv_gd (mv_inb (x + (nI 1)) SL) <|
  mv_gd (mv_inb (x + (nI 2)) SL) <|
  mv_gd (Nat.ble (ce + 0 + 0) MC && (Nat.ble (sl + 0 + 0) MS && Nat.ble 1 8)) <|
  mv_rI (Φ 55 [Sum.inr (8, 0), Sum.inl (Value.int (sx (x + (nI 1)).toNatClampNeg)), Sum.inl (Value.int (sx (x + (nI 2)).toNatClampNeg))] h1) fun r2 h2 =>
  if r1 = r2 then mv_bi (x + nI 5) fun x2 => ka 18 [(3, Sum.inl (Value.int x2)), (2, Sum.inr (8, 0)), (1, Sum.inr (7, 0)), (0, Sum.inr (10, 0))] [] h2 (ce + 0 + 0) (sl + 0 + 0)
  else mv_gd (decide (nI 0 = nI 0) || decide (nI 0 = nI 1)) (some ([Sum.inl (Value.int (nI 0))], h2))) := rfl
set_option maxRecDepth 100000 in
set_option maxHeartbeats 1000000 in
theorem lz_e27 (Φ : Nat → List mv_V → H2 → O2) (ka : Nat → mv_L → List mv_V → H2 → Nat → Nat → O2) (SL : Nat) (sx : Nat → Int32) (MC MS : Nat) (x : Int32) (h : H2) (ce sl : Nat) : mv_blk rI2 rR2 ln2 wI2 wR2 nw2 cp2 bod (some (SL, sx)) lz_t (lz_g Φ) MC MS [18] ka 300 (mv_seek 1061 lz_t) [(3, Sum.inl (Value.int x)), (2, Sum.inr (8, 0)), (1, Sum.inr (7, 0)), (0, Sum.inr (10, 0))] [] h ce sl = (
  mv_gd (mv_inb (x + (nI 1)) SL) <|
  mv_gd (mv_inb (x + (nI 2)) SL) <|
  mv_gd (Nat.ble (ce + 0) MC && (Nat.ble (sl + 0) MS && Nat.ble 0 8)) <|
  mv_rI (Φ 56 [Sum.inr (7, 0), Sum.inl (Value.int (sx (x + (nI 1)).toNatClampNeg)), Sum.inl (Value.int (sx (x + (nI 2)).toNatClampNeg))] h) fun r1 h1 =>
  mv_gd (mv_inb (x + (nI 1)) SL) <|
  mv_gd (mv_inb (x + (nI 2)) SL) <|
  mv_gd (Nat.ble (ce + 0 + 0) MC && (Nat.ble (sl + 0 + 0) MS && Nat.ble 1 8)) <|
  mv_rI (Φ 57 [Sum.inr (8, 0), Sum.inl (Value.int (sx (x + (nI 1)).toNatClampNeg)), Sum.inl (Value.int (sx (x + (nI 2)).toNatClampNeg))] h1) fun r2 h2 =>
  if r1 = r2 then mv_bi (x + nI 5) fun x2 => ka 18 [(3, Sum.inl (Value.int x2)), (2, Sum.inr (8, 0)), (1, Sum.inr (7, 0)), (0, Sum.inr (10, 0))] [] h2 (ce + 0 + 0) (sl + 0 + 0)
  else mv_gd (decide (nI 0 = nI 0) || decide (nI 0 = nI 1)) (some ([Sum.inl (Value.int (nI 0))], h2))) := rfl
set_option maxRecDepth 100000 in
set_option maxHeartbeats 1000000 in
theorem lz_e28 (Φ : Nat → List mv_V → H2 → O2) (ka : Nat → mv_L → List mv_V → H2 → Nat → Nat → O2) (SL : Nat) (sx : Nat → Int32) (MC MS : Nat) (x : Int32) (h : H2) (ce sl : Nat) : mv_blk rI2 rR2 ln2 wI2 wR2 nw2 cp2 bod (some (SL, sx)) lz_t (lz_g Φ) MC MS [18] ka 300 (mv_seek 1094 lz_t) [(3, Sum.inl (Value.int x)), (2, Sum.inr (8, 0)), (1, Sum.inr (7, 0)), (0, Sum.inr (10, 0))] [] h ce sl = (
  mv_gd (mv_inb (x + (nI 1)) SL) <|
  mv_gd (mv_inb (x + (nI 2)) SL) <|
  mv_gd (mv_inb (x + (nI 3)) SL) <|
  mv_gd (mv_inb (x + (nI 4)) SL) <|
  mv_gd (Nat.ble (ce + 0) MC && (Nat.ble (sl + 0) MS && Nat.ble 0 8)) <|
  mv_rI (Φ 58 [Sum.inr (7, 0), Sum.inl (Value.int (sx (x + (nI 1)).toNatClampNeg)), Sum.inl (Value.int (sx (x + (nI 2)).toNatClampNeg)), Sum.inl (Value.int (sx (x + (nI 3)).toNatClampNeg)), Sum.inl (Value.int (sx (x + (nI 4)).toNatClampNeg))] h) fun r1 h1 =>
  mv_gd (mv_inb (x + (nI 1)) SL) <|
  mv_gd (mv_inb (x + (nI 2)) SL) <|
  mv_gd (mv_inb (x + (nI 3)) SL) <|
  mv_gd (mv_inb (x + (nI 4)) SL) <|
  mv_gd (Nat.ble (ce + 0 + 0) MC && (Nat.ble (sl + 0 + 0) MS && Nat.ble 1 8)) <|
  mv_rI (Φ 59 [Sum.inr (8, 0), Sum.inl (Value.int (sx (x + (nI 1)).toNatClampNeg)), Sum.inl (Value.int (sx (x + (nI 2)).toNatClampNeg)), Sum.inl (Value.int (sx (x + (nI 3)).toNatClampNeg)), Sum.inl (Value.int (sx (x + (nI 4)).toNatClampNeg))] h1) fun r2 h2 =>
  if r1 = r2 then mv_bi (x + nI 5) fun x2 => ka 18 [(3, Sum.inl (Value.int x2)), (2, Sum.inr (8, 0)), (1, Sum.inr (7, 0)), (0, Sum.inr (10, 0))] [] h2 (ce + 0 + 0) (sl + 0 + 0)
  else mv_gd (decide (nI 0 = nI 0) || decide (nI 0 = nI 1)) (some ([Sum.inl (Value.int (nI 0))], h2))) := rfl
set_option maxRecDepth 100000 in
set_option maxHeartbeats 1000000 in
theorem lz_e29 (Φ : Nat → List mv_V → H2 → O2) (ka : Nat → mv_L → List mv_V → H2 → Nat → Nat → O2) (SL : Nat) (sx : Nat → Int32) (MC MS : Nat) (x : Int32) (h : H2) (ce sl : Nat) : mv_blk rI2 rR2 ln2 wI2 wR2 nw2 cp2 bod (some (SL, sx)) lz_t (lz_g Φ) MC MS [18] ka 300 (mv_seek 1147 lz_t) [(3, Sum.inl (Value.int x)), (2, Sum.inr (8, 0)), (1, Sum.inr (7, 0)), (0, Sum.inr (10, 0))] [] h ce sl = (
  mv_gd (mv_inb (x + (nI 1)) SL) <|
  mv_gd (mv_inb (x + (nI 2)) SL) <|
  mv_gd (Nat.ble (ce + 0) MC && (Nat.ble (sl + 0) MS && Nat.ble 0 8)) <|
  mv_rI (Φ 60 [Sum.inr (7, 0), Sum.inl (Value.int (sx (x + (nI 1)).toNatClampNeg)), Sum.inl (Value.int (sx (x + (nI 2)).toNatClampNeg))] h) fun r1 h1 =>
  mv_gd (mv_inb (x + (nI 1)) SL) <|
  mv_gd (mv_inb (x + (nI 2)) SL) <|
  mv_gd (Nat.ble (ce + 0 + 0) MC && (Nat.ble (sl + 0 + 0) MS && Nat.ble 1 8)) <|
  mv_rI (Φ 61 [Sum.inr (8, 0), Sum.inl (Value.int (sx (x + (nI 1)).toNatClampNeg)), Sum.inl (Value.int (sx (x + (nI 2)).toNatClampNeg))] h1) fun r2 h2 =>
  if r1 = r2 then mv_bi (x + nI 5) fun x2 => ka 18 [(3, Sum.inl (Value.int x2)), (2, Sum.inr (8, 0)), (1, Sum.inr (7, 0)), (0, Sum.inr (10, 0))] [] h2 (ce + 0 + 0) (sl + 0 + 0)
  else mv_gd (decide (nI 0 = nI 0) || decide (nI 0 = nI 1)) (some ([Sum.inl (Value.int (nI 0))], h2))) := rfl
set_option maxRecDepth 100000 in
set_option maxHeartbeats 1000000 in
theorem lz_e30 (Φ : Nat → List mv_V → H2 → O2) (ka : Nat → mv_L → List mv_V → H2 → Nat → Nat → O2) (SL : Nat) (sx : Nat → Int32) (MC MS : Nat) (x : Int32) (h : H2) (ce sl : Nat) : mv_blk rI2 rR2 ln2 wI2 wR2 nw2 cp2 bod (some (SL, sx)) lz_t (lz_g Φ) MC MS [18] ka 300 (mv_seek 1180 lz_t) [(3, Sum.inl (Value.int x)), (2, Sum.inr (8, 0)), (1, Sum.inr (7, 0)), (0, Sum.inr (10, 0))] [] h ce sl = (
  mv_gd (mv_inb (x + (nI 1)) SL) <|
  mv_gd (mv_inb (x + (nI 2)) SL) <|
  mv_gd (mv_inb (x + (nI 3)) SL) <|
  mv_gd (Nat.ble (ce + 0) MC && (Nat.ble (sl + 0) MS && Nat.ble 0 8)) <|
  mv_rI (Φ 62 [Sum.inr (7, 0), Sum.inl (Value.int (sx (x + (nI 1)).toNatClampNeg)), Sum.inl (Value.int (sx (x + (nI 2)).toNatClampNeg)), Sum.inl (Value.int (sx (x + (nI 3)).toNatClampNeg))] h) fun r1 h1 =>
  mv_gd (mv_inb (x + (nI 1)) SL) <|
  mv_gd (mv_inb (x + (nI 2)) SL) <|
  mv_gd (mv_inb (x + (nI 3)) SL) <|
  mv_gd (Nat.ble (ce + 0 + 0) MC && (Nat.ble (sl + 0 + 0) MS && Nat.ble 1 8)) <|
  mv_rI (Φ 63 [Sum.inr (8, 0), Sum.inl (Value.int (sx (x + (nI 1)).toNatClampNeg)), Sum.inl (Value.int (sx (x + (nI 2)).toNatClampNeg)), Sum.inl (Value.int (sx (x + (nI 3)).toNatClampNeg))] h1) fun r2 h2 =>
  if r1 = r2 then mv_bi (x + nI 5) fun x2 => ka 18 [(3, Sum.inl (Value.int x2)), (2, Sum.inr (8, 0)), (1, Sum.inr (7, 0)), (0, Sum.inr (10, 0))] [] h2 (ce + 0 + 0) (sl + 0 + 0)
  else mv_gd (decide (nI 0 = nI 0) || decide (nI 0 = nI 1)) (some ([Sum.inl (Value.int (nI 0))], h2))) := rfl
