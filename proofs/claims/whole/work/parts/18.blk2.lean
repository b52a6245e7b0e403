-- blocks of the law, further
set_option maxRecDepth 100000 in
set_option maxHeartbeats 1000000 in
theorem lz_e31 (Φ : Nat → List mv_V → H2 → O2) (ka : Nat → mv_L → List mv_V → H2 → Nat → Nat → O2) (SL : Nat) (sx : Nat → Int32) (MC MS : Nat) (x : Int32) (h : H2) (ce sl : Nat) : mv_blk rI2 rR2 ln2 wI2 wR2 nw2 cp2 bod (some (SL, sx)) lz_t (lz_g Φ) MC MS [18] ka 300 (mv_seek 1223 lz_t) [(3, Sum.inl (Value.int x)), (2, Sum.inr (8, 0)), (1, Sum.inr (7, 0)), (0, Sum.inr (10, 0))] [] h ce sl = (
  mv_gd (mv_inb (x + (nI 1)) SL) <|
  mv_gd (mv_inb (x + (nI 2)) SL) <|
  mv_gd (mv_inb (x + (nI 3)) SL) <|
  mv_gd (Nat.ble (ce + 0) MC && (Nat.ble (sl + 0) MS && Nat.ble 0 8)) <|
  mv_rL (Φ 64 [Sum.inr (7, 0), Sum.inl (Value.int (sx (x + (nI 1)).toNatClampNeg)), Sum.inl (Value.int (sx (x + (nI 2)).toNatClampNeg)), Sum.inl (Value.int (sx (x + (nI 3)).toNatClampNeg))] h) fun r1 h1 =>
  mv_gd (mv_inb (x + (nI 1)) SL) <|
  mv_gd (mv_inb (x + (nI 2)) SL) <|
  mv_gd (mv_inb (x + (nI 3)) SL) <|
  mv_gd (Nat.ble (ce + 0 + 0) MC && (Nat.ble (sl + 0 + 0) MS && Nat.ble 2 8)) <|
  mv_rL (Φ 65 [Sum.inr (8, 0), Sum.inl (Value.int (sx (x + (nI 1)).toNatClampNeg)), Sum.inl (Value.int (sx (x + (nI 2)).toNatClampNeg)), Sum.inl (Value.int (sx (x + (nI 3)).toNatClampNeg))] h1) fun r2 h2 =>
  if lg_cmp r1 r2 = 0 then mv_bi (x + nI 5) fun x2 => ka 18 [(3, Sum.inl (Value.int x2)), (2, Sum.inr (8, 0)), (1, Sum.inr (7, 0)), (0, Sum.inr (10, 0))] [] h2 (ce + 0 + 0) (sl + 0 + 0)
  else mv_gd (decide (nI 0 = nI 0) || decide (nI 0 = nI 1)) (some ([Sum.inl (Value.int (nI 0))], h2))) := rfl
set_option maxRecDepth 100000 in
set_option maxHeartbeats 1000000 in
theorem lz_e32 (Φ : Nat → List mv_V → H2 → O2) (ka : Nat → mv_L → List mv_V → H2 → Nat → Nat → O2) (SL : Nat) (sx : Nat → Int32) (MC MS : Nat) (x : Int32) (h : H2) (ce sl : Nat) : mv_blk rI2 rR2 ln2 wI2 wR2 nw2 cp2 bod (some (SL, sx)) lz_t (lz_g Φ) MC MS [18] ka 300 (mv_seek 1267 lz_t) [(3, Sum.inl (Value.int x)), (2, Sum.inr (8, 0)), (1, Sum.inr (7, 0)), (0, Sum.inr (10, 0))] [] h ce sl = (
  mv_gd (mv_inb (x + (nI 1)) SL) <|
  mv_gd (mv_inb (x + (nI 2)) SL) <|
  mv_gd (Nat.ble (ce + 0) MC && (Nat.ble (sl + 0) MS && Nat.ble 0 8)) <|
  mv_rL (Φ 66 [Sum.inr (7, 0), Sum.inl (Value.int (sx (x + (nI 1)).toNatClampNeg)), Sum.inl (Value.int (sx (x + (nI 2)).toNatClampNeg))] h) fun r1 h1 =>
  mv_gd (mv_inb (x + (nI 1)) SL) <|
  mv_gd (mv_inb (x + (nI 2)) SL) <|
  mv_gd (Nat.ble (ce + 0 + 0) MC && (Nat.ble (sl + 0 + 0) MS && Nat.ble 2 8)) <|
  mv_rL (Φ 67 [Sum.inr (8, 0), Sum.inl (Value.int (sx (x + (nI 1)).toNatClampNeg)), Sum.inl (Value.int (sx (x + (nI 2)).toNatClampNeg))] h1) fun r2 h2 =>
  if lg_cmp r1 r2 = 0 then mv_bi (x + nI 5) fun x2 => ka 18 [(3, Sum.inl (Value.int x2)), (2, Sum.inr (8, 0)), (1, Sum.inr (7, 0)), (0, Sum.inr (10, 0))] [] h2 (ce + 0 + 0) (sl + 0 + 0)
  else mv_gd (decide (nI 0 = nI 0) || decide (nI 0 = nI 1)) (some ([Sum.inl (Value.int (nI 0))], h2))) := rfl
set_option maxRecDepth 100000 in
set_option maxHeartbeats 1000000 in
theorem lz_e33 (Φ : Nat → List mv_V → H2 → O2) (ka : Nat → mv_L → List mv_V → H2 → Nat → Nat → O2) (SL : Nat) (sx : Nat → Int32) (MC MS : Nat) (x : Int32) (h : H2) (ce sl : Nat) : mv_blk rI2 rR2 ln2 wI2 wR2 nw2 cp2 bod (some (SL, sx)) lz_t (lz_g Φ) MC MS [18] ka 300 (mv_seek 1301 lz_t) [(3, Sum.inl (Value.int x)), (2, Sum.inr (8, 0)), (1, Sum.inr (7, 0)), (0, Sum.inr (10, 0))] [] h ce sl = (
  mv_gd (mv_inb (x + (nI 1)) SL) <|
  mv_gd (mv_inb (x + (nI 2)) SL) <|
  mv_gd (Nat.ble (ce + 0) MC && (Nat.ble (sl + 0) MS && Nat.ble 0 8)) <|
  mv_rI (Φ 68 [Sum.inr (7, 0), Sum.inl (Value.int (sx (x + (nI 1)).toNatClampNeg)), Sum.inl (Value.int (sx (x + (nI 2)).toNatClampNeg))] h) fun r1 h1 =>
  mv_gd (mv_inb (x + (nI 1)) SL) <|
  mv_gd (mv_inb (x + (nI 2)) SL) <|
  mv_gd (Nat.ble (ce + 0 + 0) MC && (Nat.ble (sl + 0 + 0) MS && Nat.ble 1 8)) <|
  mv_rI (Φ 69 [Sum.inr (8, 0), Sum.inl (Value.int (sx (x + (nI 1)).toNatClampNeg)), Sum.inl (Value.int (sx (x + (nI 2)).toNatClampNeg))] h1) fun r2 h2 =>
  if r1 = r2 then mv_bi (x + nI 5) fun x2 => ka 18 [(3, Sum.inl (Value.int x2)), (2, Sum.inr (8, 0)), (1, Sum.inr (7, 0)), (0, Sum.inr (10, 0))] [] h2 (ce + 0 + 0) (sl + 0 + 0)
  else mv_gd (decide (nI 0 = nI 0) || decide (nI 0 = nI 1)) (some ([Sum.inl (Value.int (nI 0))], h2))) := rfl
set_option maxRecDepth 100000 in
set_option maxHeartbeats 1000000 in
theorem lz_e34 (Φ : Nat → List mv_V → H2 → O2) (ka : Nat → mv_L → List mv_V → H2 → Nat → Nat → O2) (SL : Nat) (sx : Nat → Int32) (MC MS : Nat) (x : Int32) (h : H2) (ce sl : Nat) : mv_blk rI2 rR2 ln2 wI2 wR2 nw2 cp2 bod (some (SL, sx)) lz_t (lz_g Φ) MC MS [18] ka 300 (mv_seek 1334 lz_t) [(3, Sum.inl (Value.int x)), (2, Sum.inr (8, 0)), (1, Sum.inr (7, 0)), (0, Sum.inr (10, 0))] [] h ce sl = (
  mv_gd (mv_inb (x + (nI 1)) SL) <|
  mv_gd (mv_inb (x + (nI 2)) SL) <|
  mv_gd (Nat.ble (ce + 0) MC && (Nat.ble (sl + 0) MS && Nat.ble 0 8)) <|
  mv_rI (Φ 70 [Sum.inr (7, 0), Sum.inl (Value.int (sx (x + (nI 1)).toNatClampNeg)), Sum.inl (Value.int (sx (x + (nI 2)).toNatClampNeg))] h) fun r1 h1 =>
  mv_gd (mv_inb (x + (nI 1)) SL) <|
  mv_gd (mv_inb (x + (nI 2)) SL) <|
  mv_gd (Nat.ble (ce + 0 + 0) MC && (Nat.ble (sl + 0 + 0) MS && Nat.ble 1 8)) <|
  mv_rI (Φ 71 [Sum.inr (8, 0), Sum.inl (Value.int (sx (x + (nI 1)).toNatClampNeg)), Sum.inl (Value.int (sx (x + (nI 2)).toNatClampNeg))] h1) fun r2 h2 =>
  if r1 = r2 then mv_bi (x + nI 5) fun x2 => ka 18 [(3, Sum.inl (Value.int x2)), (2, Sum.inr (8, 0)), (1, Sum.inr (7, 0)), (0, Sum.inr (10, 0))] [] h2 (ce + 0 + 0) (sl + 0 + 0)
  else mv_gd (decide (nI 0 = nI 0) || decide (nI 0 = nI 1)) (some ([Sum.inl (Value.int (nI 0))], h2))) := rfl
set_option maxRecDepth 100000 in
set_option maxHeartbeats 1000000 in
theorem lz_e35 (Φ : Nat → List mv_V → H2 → O2) (ka : Nat → mv_L → List mv_V → H2 → Nat → Nat → O2) (SL : Nat) (sx : Nat → Int32) (MC MS : Nat) (x : Int32) (h : H2) (ce sl : Nat) : mv_blk rI2 rR2 ln2 wI2 wR2 nw2 cp2 bod (some (SL, sx)) lz_t (lz_g Φ) MC MS [18] ka 300 (mv_seek 1367 lz_t) [(3, Sum.inl (Value.int x)), (2, Sum.inr (8, 0)), (1, Sum.inr (7, 0)), (0, Sum.inr (10, 0))] [] h ce sl = (
  mv_gd (mv_inb (x + (nI 1)) SL) <|
  mv_gd (mv_inb (x + (nI 2)) SL) <|
  mv_gd (mv_inb (x + (nI 3)) SL) <|
  mv_gd (Nat.ble (ce + 0) MC && (Nat.ble (sl + 0) MS && Nat.ble 0 8)) <|
  mv_rI (Φ 72 [Sum.inr (7, 0), Sum.inl (Value.int (sx (x + (nI 1)).toNatClampNeg)), Sum.inl (Value.int (sx (x + (nI 2)).toNatClampNeg)), Sum.inl (Value.int (sx (x + (nI 3)).toNatClampNeg))] h) fun r1 h1 =>
  mv_gd (mv_inb (x + (nI 1)) SL) <|
  mv_gd (mv_inb (x + (nI 2)) SL) <|
  mv_gd (mv_inb (x + (nI 3)) SL) <|
  mv_gd (Nat.ble (ce + 0 + 0) MC && (Nat.ble (sl + 0 + 0) MS && Nat.ble 1 8)) <|
  mv_rI (Φ 73 [Sum.inr (8, 0), Sum.inl (Value.int (sx (x + (nI 1)).toNatClampNeg)), Sum.inl (Value.int (sx (x + (nI 2)).toNatClampNeg)), Sum.inl (Value.int (sx (x + (nI 3)).toNatClampNeg))] h1) fun r2 h2 =>
  if r1 = r2 then mv_bi (x + nI 5) fun x2 => ka 18 [(3, Sum.inl (Value.int x2)), (2, Sum.inr (8, 0)), (1, Sum.inr (7, 0)), (0, Sum.inr (10, 0))] [] h2 (ce + 0 + 0) (sl + 0 + 0)
  else mv_gd (decide (nI 0 = nI 0) || decide (nI 0 = nI 1)) (some ([Sum.inl (Value.int (nI 0))], h2))) := rfl
set_option maxRecDepth 100000 in
set_option maxHeartbeats 1000000 in
theorem lz_e36 (Φ : Nat → List mv_V → H2 → O2) (ka : Nat → mv_L → List mv_V → H2 → Nat → Nat → O2) (SL : Nat) (sx : Nat → Int32) (MC MS : Nat) (x : Int32) (h : H2) (ce sl : Nat) : mv_blk rI2 rR2 ln2 wI2 wR2 nw2 cp2 bod (some (SL, sx)) lz_t (lz_g Φ) MC MS [18] ka 300 (mv_seek 1410 lz_t) [(3, Sum.inl (Value.int x)), (2, Sum.inr (8, 0)), (1, Sum.inr (7, 0)), (0, Sum.inr (10, 0))] [] h ce sl = (
  mv_gd (mv_inb (x + (nI 1)) SL) <|
  mv_gd (Nat.ble (ce + 0) MC && (Nat.ble (sl + 0) MS && Nat.ble 0 8)) <|
  mv_rI (Φ 74 [Sum.inr (7, 0), Sum.inl (Value.int (sx (x + (nI 1)).toNatClampNeg))] h) fun r1 h1 =>
  mv_gd (mv_inb (x + (nI 1)) SL) <|
  mv_gd (Nat.ble (ce + 0 + 0) MC && (Nat.ble (sl + 0 + 0) MS && Nat.ble 1 8)) <|
  mv_rI (Φ 75 [Sum.inr (8, 0), Sum.inl (Value.int (sx (x + (nI 1)).toNatClampNeg))] h1) fun r2 h2 =>
  if r1 = r2 then mv_bi (x + nI 5) fun x2 => ka 18 [(3, Sum.inl (Value.int x2)), (2, Sum.inr (8, 0)), (1, Sum.inr (7, 0)), (0, Sum.inr (10, 0))] [] h2 (ce + 0 + 0) (sl + 0 + 0)
  else mv_gd (decide (nI 0 = nI 0) || decide (nI 0 = nI 1)) (some ([Sum.inl (Value.int (nI 0))], h2))) := rfl
set_option maxRecDepth 100000 in
set_option maxHeartbeats 1000000 in
theorem lz_e37 (Φ : Nat → List mv_V → H2 → O2) (ka : Nat → mv_L → List mv_V → H2 → Nat → Nat → O2) (SL : Nat) (sx : Nat → Int32) (MC MS : Nat) (x : Int32) (h : H2) (ce sl : Nat) : mv_blk rI2 rR2 ln2 wI2 wR2 nw2 cp2 bod (some (SL, sx)) lz_t (lz_g Φ) MC MS [18] ka 300 (mv_seek 1433 lz_t) [(3, Sum.inl (Value.int x)), (2, Sum.inr (8, 0)), (1, Sum.inr (7, 0)), (0, Sum.inr (10, 0))] [] h ce sl = (
  mv_gd (mv_inb (x + (nI 1)) SL) <|
  mv_gd (mv_inb (x + (nI 2)) SL) <|
  mv_gd (mv_inb (x + (nI 3)) SL) <|
  mv_gd (mv_inb (x + (nI 4)) SL) <|
  mv_gd (Nat.ble (ce + 0) MC && (Nat.ble (sl + 0) MS && Nat.ble 0 8)) <|
  mv_rI (Φ 76 [Sum.inr (7, 0), Sum.inl (Value.int (sx (x + (nI 1)).toNatClampNeg)), Sum.inl (Value.int (sx (x + (nI 2)).toNatClampNeg)), Sum.inl (Value.int (sx (x + (nI 3)).toNatClampNeg)), Sum.inl (Value.int (sx (x + (nI 4)).toNatClampNeg))] h) fun r1 h1 =>
  mv_gd (mv_inb (x + (nI 1)) SL) <|
  mv_gd (mv_inb (x + (nI 2)) SL) <|
  mv_gd (mv_inb (x + (nI 3)) SL) <|
  mv_gd (mv_inb (x + (nI 4)) SL) <|
  mv_gd (Nat.ble (ce + 0 + 0) MC && (Nat.ble (sl + 0 + 0) MS && Nat.ble 1 8)) <|
  mv_rI (Φ 77 [Sum.inr (8, 0), Sum.inl (Value.int (sx (x + (nI 1)).toNatClampNeg)), Sum.inl (Value.int (sx (x + (nI 2)).toNatClampNeg)), Sum.inl (Value.int (sx (x + (nI 3)).toNatClampNeg)), Sum.inl (Value.int (sx (x + (nI 4)).toNatClampNeg))] h1) fun r2 h2 =>
  if r1 = r2 then mv_bi (x + nI 5) fun x2 => ka 18 [(3, Sum.inl (Value.int x2)), (2, Sum.inr (8, 0)), (1, Sum.inr (7, 0)), (0, Sum.inr (10, 0))] [] h2 (ce + 0 + 0) (sl + 0 + 0)
  else mv_gd (decide (nI 0 = nI 0) || decide (nI 0 = nI 1)) (some ([Sum.inl (Value.int (nI 0))], h2))) := rfl
set_option maxRecDepth 100000 in
set_option maxHeartbeats 1000000 in
theorem lz_e38 (Φ : Nat → List mv_V → H2 → O2) (ka : Nat → mv_L → List mv_V → H2 → Nat → Nat → O2) (SL : Nat) (sx : Nat → Int32) (MC MS : Nat) (x : Int32) (h : H2) (ce sl : Nat) : mv_blk rI2 rR2 ln2 wI2 wR2 nw2 cp2 bod (some (SL, sx)) lz_t (lz_g Φ) MC MS [18] ka 300 (mv_seek 1486 lz_t) [(3, Sum.inl (Value.int x)), (2, Sum.inr (8, 0)), (1, Sum.inr (7, 0)), (0, Sum.inr (10, 0))] [] h ce sl = (
  mv_gd (mv_inb (x + (nI 1)) SL) <|
  mv_gd (mv_inb (x + (nI 2)) SL) <|
  mv_gd (mv_inb (x + (nI 3)) SL) <|
  mv_gd (Nat.ble (ce + 2) MC && (Nat.ble (sl + 42) MS && Nat.ble 0 8)) <|
  mv_rI (Φ 78 [Sum.inr (7, 0), Sum.inl (Value.int (sx (x + (nI 1)).toNatClampNeg)), Sum.inl (Value.int (sx (x + (nI 2)).toNatClampNeg)), Sum.inl (Value.int (sx (x + (nI 3)).toNatClampNeg))] h) fun r1 h1 =>
  mv_gd (mv_inb (x + (nI 1)) SL) <|
  mv_gd (mv_inb (x + (nI 2)) SL) <|
  mv_gd (mv_inb (x + (nI 3)) SL) <|
  mv_gd (Nat.ble (ce + 2 + 0) MC && (Nat.ble (sl + 42 + 0) MS && Nat.ble 1 8)) <|
  mv_rI (Φ 79 [Sum.inr (8, 0), Sum.inl (Value.int (sx (x + (nI 1)).toNatClampNeg)), Sum.inl (Value.int (sx (x + (nI 2)).toNatClampNeg)), Sum.inl (Value.int (sx (x + (nI 3)).toNatClampNeg))] h1) fun r2 h2 =>
  if r1 = r2 then mv_bi (x + nI 5) fun x2 => ka 18 [(3, Sum.inl (Value.int x2)), (2, Sum.inr (8, 0)), (1, Sum.inr (7, 0)), (0, Sum.inr (10, 0))] [] h2 (ce + 2 + 0) (sl + 42 + 0)
  else mv_gd (decide (nI 0 = nI 0) || decide (nI 0 = nI 1)) (some ([Sum.inl (Value.int (nI 0))], h2))) := rfl
set_option maxRecDepth 100000 in
set_option maxHeartbeats 1000000 in
theorem lz_e39 (Φ : Nat → List mv_V → H2 → O2) (ka : Nat → mv_L → List mv_V → H2 → Nat → Nat → O2) (SL : Nat) (sx : Nat → Int32) (MC MS : Nat) (x : Int32) (h : H2) (ce sl : Nat) : mv_blk rI2 rR2 ln2 wI2 wR2 nw2 cp2 bod (some (SL, sx)) lz_t (lz_g Φ) MC MS [18] ka 300 (mv_seek 1529 lz_t) [(3, Sum.inl (Value.int x)), (2, Sum.inr (8, 0)), (1, Sum.inr (7, 0)), (0, Sum.inr (10, 0))] [] h ce sl = (
  mv_gd (mv_inb (x + (nI 1)) SL) <|
  mv_gd (mv_inb (x + (nI 2)) SL) <|
  mv_gd (mv_inb (x + (nI 3)) SL) <|
  mv_gd (Nat.ble (ce + 0) MC && (Nat.ble (sl + 0) MS && Nat.ble 0 8)) <|
  mv_rI (Φ 80 [Sum.inr (7, 0), Sum.inl (Value.int (sx (x + (nI 1)).toNatClampNeg)), Sum.inl (Value.int (sx (x + (nI 2)).toNatClampNeg)), Sum.inl (Value.int (sx (x + (nI 3)).toNatClampNeg))] h) fun r1 h1 =>
  mv_gd (mv_inb (x + (nI 1)) SL) <|
  mv_gd (mv_inb (x + (nI 2)) SL) <|
  mv_gd (mv_inb (x + (nI 3)) SL) <|
  mv_gd (Nat.ble (ce + 0 + 0) MC && (Nat.ble (sl + 0 + 0) MS && Nat.ble 1 8)) <|
  mv_rI (Φ 81 [Sum.inr (8, 0), Sum.inl (Value.int (sx (x + (nI 1)).toNatClampNeg)), Sum.inl (Value.int (sx (x + (nI 2)).toNatClampNeg)), Sum.inl (Value.int (sx (x + (nI 3)).toNatClampNeg))] h1) fun r2 h2 =>
  if r1 = r2 then mv_bi (x + nI 5) fun x2 => ka 18 [(3, Sum.inl (Value.int x2)), (2, Sum.inr (8, 0)), (1, Sum.inr (7, 0)), (0, Sum.inr (10, 0))] [] h2 (ce + 0 + 0) (sl + 0 + 0)
  else mv_gd (decide (nI 0 = nI 0) || decide (nI 0 = nI 1)) (some ([Sum.inl (Value.int (nI 0))], h2))) := rfl
set_option maxRecDepth 100000 in
set_option maxHeartbeats 1000000 in
theorem lz_e40 (Φ : Nat → List mv_V → H2 → O2) (ka : Nat → mv_L → List mv_V → H2 → Nat → Nat → O2) (SL : Nat) (sx : Nat → Int32) (MC MS : Nat) (x : Int32) (h : H2) (ce sl : Nat) : mv_blk rI2 rR2 ln2 wI2 wR2 nw2 cp2 bod (some (SL, sx)) lz_t (lz_g Φ) MC MS [18] ka 300 (mv_seek 1572 lz_t) [(3, Sum.inl (Value.int x)), (2, Sum.inr (8, 0)), (1, Sum.inr (7, 0)), (0, Sum.inr (10, 0))] [] h ce sl = (
  mv_gd (mv_inb (x + (nI 1)) SL) <|
  mv_gd (mv_inb (x + (nI 2)) SL) <|
  mv_gd (mv_inb (x + (nI 3)) SL) <|
  mv_gd (Nat.ble (ce + 0) MC && (Nat.ble (sl + 0) MS && Nat.ble 0 8)) <|
  mv_rI (Φ 82 [Sum.inr (7, 0), Sum.inl (Value.int (sx (x + (nI 1)).toNatClampNeg)), Sum.inl (Value.int (sx (x + (nI 2)).toNatClampNeg)), Sum.inl (Value.int (sx (x + (nI 3)).toNatClampNeg))] h) fun r1 h1 =>
  mv_gd (mv_inb (x + (nI 1)) SL) <|
  mv_gd (mv_inb (x + (nI 2)) SL) <|
  mv_gd (mv_inb (x + (nI 3)) SL) <|
  mv_gd (Nat.ble (ce + 0 + 0) MC && (Nat.ble (sl + 0 + 0) MS && Nat.ble 1 8)) <|
  mv_rI (Φ 83 [Sum.inr (8, 0), Sum.inl (Value.int (sx (x + (nI 1)).toNatClampNeg)), Sum.inl (Value.int (sx (x + (nI 2)).toNatClampNeg)), Sum.inl (Value.int (sx (x + (nI 3)).toNatClampNeg))] h1) fun r2 h2 =>
  if r1 = r2 then mv_bi (x + nI 5) fun x2 => ka 18 [(3, Sum.inl (Value.int x2)), (2, Sum.inr (8, 0)), (1, Sum.inr (7, 0)), (0, Sum.inr (10, 0))] [] h2 (ce + 0 + 0) (sl + 0 + 0)
  else mv_gd (decide (nI 0 = nI 0) || decide (nI 0 = nI 1)) (some ([Sum.inl (Value.int (nI 0))], h2))) := rfl
set_option maxRecDepth 100000 in
set_option maxHeartbeats 1000000 in
theorem lz_e41 (Φ : Nat → List mv_V → H2 → O2) (ka : Nat → mv_L → List mv_V → H2 → Nat → Nat → O2) (SL : Nat) (sx : Nat → Int32) (MC MS : Nat) (x : Int32) (h : H2) (ce sl : Nat) : mv_blk rI2 rR2 ln2 wI2 wR2 nw2 cp2 bod (some (SL, sx)) lz_t (lz_g Φ) MC MS [18] ka 300 (mv_seek 1615 lz_t) [(3, Sum.inl (Value.int x)), (2, Sum.inr (8, 0)), (1, Sum.inr (7, 0)), (0, Sum.inr (10, 0))] [] h ce sl = (
  mv_gd (mv_inb (x + (nI 1)) SL) <|
  mv_gd (mv_inb (x + (nI 2)) SL) <|
  mv_gd (mv_inb (x + (nI 3)) SL) <|
  mv_gd (Nat.ble (ce + 0) MC && (Nat.ble (sl + 0) MS && Nat.ble 0 8)) <|
  mv_rI (Φ 84 [Sum.inr (7, 0), Sum.inl (Value.int (sx (x + (nI 1)).toNatClampNeg)), Sum.inl (Value.int (sx (x + (nI 2)).toNatClampNeg)), Sum.inl (Value.int (sx (x + (nI 3)).toNatClampNeg))] h) fun r1 h1 =>
  mv_gd (mv_inb (x + (nI 1)) SL) <|
  mv_gd (mv_inb (x + (nI 2)) SL) <|
  mv_gd (mv_inb (x + (nI 3)) SL) <|
  mv_gd (Nat.ble (ce + 0 + 0) MC && (Nat.ble (sl + 0 + 0) MS && Nat.ble 1 8)) <|
  mv_rI (Φ 85 [Sum.inr (8, 0), Sum.inl (Value.int (sx (x + (nI 1)).toNatClampNeg)), Sum.inl (Value.int (sx (x + (nI 2)).toNatClampNeg)), Sum.inl (Value.int (sx (x + (nI 3)).toNatClampNeg))] h1) fun r2 h2 =>
  if r1 = r2 then mv_bi (x + nI 5) fun x2 => ka 18 [(3, Sum.inl (Value.int x2)), (2, Sum.inr (8, 0)), (1, Sum.inr (7, 0)), (0, Sum.inr (10, 0))] [] h2 (ce + 0 + 0) (sl + 0 + 0)
  else mv_gd (decide (nI 0 = nI 0) || decide (nI 0 = nI 1)) (some ([Sum.inl (Value.int (nI 0))], h2))) := rfl
set_option maxRecDepth 100000 in
set_option maxHeartbeats 1000000 in
theorem lz_e42 (Φ : Nat → List mv_V → H2 → O2) (ka : Nat → mv_L → List mv_V → H2 → Nat → Nat → O2) (SL : Nat) (sx : Nat → Int32) (MC MS : Nat) (x : Int32) (h : H2) (ce sl : Nat) : mv_blk rI2 rR2 ln2 wI2 wR2 nw2 cp2 bod (some (SL, sx)) lz_t (lz_g Φ) MC MS [18] ka 300 (mv_seek 1658 lz_t) [(3, Sum.inl (Value.int x)), (2, Sum.inr (8, 0)), (1, Sum.inr (7, 0)), (0, Sum.inr (10, 0))] [] h ce sl = (
  mv_gd (mv_inb (x + (nI 1)) SL) <|
  mv_gd (mv_inb (x + (nI 2)) SL) <|
  mv_gd (Nat.ble (ce + 0) MC && (Nat.ble (sl + 0) MS && Nat.ble 0 8)) <|
  mv_rI (Φ 86 [Sum.inr (7, 0), Sum.inl (Value.int (sx (x + (nI 1)).toNatClampNeg)), Sum.inl (Value.int (sx (x + (nI 2)).toNatClampNeg))] h) fun r1 h1 =>
  mv_gd (mv_inb (x + (nI 1)) SL) <|
  mv_gd (mv_inb (x + (nI 2)) SL) <|
  mv_gd (Nat.ble (ce + 0 + 0) MC && (Nat.ble (sl + 0 + 0) MS && Nat.ble 1 8)) <|
  mv_rI (Φ 87 [Sum.inr (8, 0), Sum.inl (Value.int (sx (x + (nI 1)).toNatClampNeg)), Sum.inl (Value.int (sx (x + (nI 2)).toNatClampNeg))] h1) fun r2 h2 =>
  if r1 = r2 then mv_bi (x + nI 5) fun x2 => ka 18 [(3, Sum.inl (Value.int x2)), (2, Sum.inr (8, 0)), (1, Sum.inr (7, 0)), (0, Sum.inr (10, 0))] [] h2 (ce + 0 + 0) (sl + 0 + 0)
  else mv_gd (decide (nI 0 = nI 0) || decide (nI 0 = nI 1)) (some ([Sum.inl (Value.int (nI 0))], h2))) := rfl
set_option maxRecDepth 100000 in
set_option maxHeartbeats 1000000 in
theorem lz_e43 (Φ : Nat → List mv_V → H2 → O2) (ka : Nat → mv_L → List mv_V → H2 → Nat → Nat → O2) (SL : Nat) (sx : Nat → Int32) (MC MS : Nat) (x : Int32) (h : H2) (ce sl : Nat) : mv_blk rI2 rR2 ln2 wI2 wR2 nw2 cp2 bod (some (SL, sx)) lz_t (lz_g Φ) MC MS [18] ka 300 (mv_seek 1691 lz_t) [(3, Sum.inl (Value.int x)), (2, Sum.inr (8, 0)), (1, Sum.inr (7, 0)), (0, Sum.inr (10, 0))] [] h ce sl = (
  mv_gd (mv_inb (x + (nI 1)) SL) <|
  mv_gd (mv_inb (x + (nI 2)) SL) <|
  mv_gd (mv_inb (x + (nI 3)) SL) <|
  mv_gd (Nat.ble (ce + 0) MC && (Nat.ble (sl + 0) MS && Nat.ble 0 8)) <|
  mv_rI (Φ 88 [Sum.inr (7, 0), Sum.inl (Value.int (sx (x + (nI 1)).toNatClampNeg)), Sum.inl (Value.int (sx (x + (nI 2)).toNatClampNeg)), Sum.inl (Value.int (sx (x + (nI 3)).toNatClampNeg))] h) fun r1 h1 =>
  mv_gd (mv_inb (x + (nI 1)) SL) <|
  mv_gd (mv_inb (x + (nI 2)) SL) <|
  mv_gd (mv_inb (x + (nI 3)) SL) <|
  mv_gd (Nat.ble (ce + 0 + 0) MC && (Nat.ble (sl + 0 + 0) MS && Nat.ble 1 8)) <|
  mv_rI (Φ 89 [Sum.inr (8, 0), Sum.inl (Value.int (sx (x + (nI 1)).toNatClampNeg)), Sum.inl (Value.int (sx (x + (nI 2)).toNatClampNeg)), Sum.inl (Value.int (sx (x + (nI 3)).toNatClampNeg))] h1) fun r2 h2 =>
  if r1 = r2 then mv_bi (x + nI 5) fun x2 => ka 18 [(3, Sum.inl (Value.int x2)), (2, Sum.inr (8, 0)), (1, Sum.inr (7, 0)), (0, Sum.inr (10, 0))] [] h2 (ce + 0 + 0) (sl + 0 + 0)
  else mv_gd (decide (nI 0 = nI 0) || decide (nI 0 = nI 1)) (some ([Sum.inl (Value.int (nI 0))], h2))) := rfl
set_option maxRecDepth 100000 in
set_option maxHeartbeats 1000000 in
theorem lz_e44 (Φ : Nat → List mv_V → H2 → O2) (ka : Nat → mv_L → List mv_V → H2 → Nat → Nat → O2) (SL : Nat) (sx : Nat → Int32) (MC MS : Nat) (x : Int32) (h : H2) (ce sl : Nat) : mv_blk rI2 rR2 ln2 wI2 wR2 nw2 cp2 bod (some (SL, sx)) lz_t (lz_g Φ) MC MS [18] ka 300 (mv_seek 1734 lz_t) [(3, Sum.inl (Value.int x)), (2, Sum.inr (8, 0)), (1, Sum.inr (7, 0)), (0, Sum.inr (10, 0))] [] h ce sl = (
  mv_gd (mv_inb (x + (nI 1)) SL) <|
  mv_gd (Nat.ble (ce + 0) MC && (Nat.ble (sl + 0) MS && Nat.ble 0 8)) <|
  mv_rI (Φ 90 [Sum.inr (7, 0), Sum.inl (Value.int (sx (x + (nI 1)).toNatClampNeg))] h) fun r1 h1 =>
  mv_gd (mv_inb (x + (nI 1)) SL) <|
  mv_gd (Nat.ble (ce + 0 + 0) MC && (Nat.ble (sl + 0 + 0) MS && Nat.ble 1 8)) <|
  mv_rI (Φ 91 [Sum.inr (8, 0), Sum.inl (Value.int (sx (x + (nI 1)).toNatClampNeg))] h1) fun r2 h2 =>
  if r1 = r2 then mv_bi (x + nI 5) fun x2 => ka 18 [(3, Sum.inl (Value.int x2)), (2, Sum.inr (8, 0)), (1, Sum.inr (7, 0)), (0, Sum.inr (10, 0))] [] h2 (ce + 0 + 0) (sl + 0 + 0)
  else mv_gd (decide (nI 0 = nI 0) || decide (nI 0 = nI 1)) (some ([Sum.inl (Value.int (nI 0))], h2))) := rfl
set_option maxRecDepth 100000 in
set_option maxHeartbeats 1000000 in
theorem lz_e45 (Φ : Nat → List mv_V → H2 → O2) (ka : Nat → mv_L → List mv_V → H2 → Nat → Nat → O2) (SL : Nat) (sx : Nat → Int32) (MC MS : Nat) (x : Int32) (h : H2) (ce sl : Nat) : mv_blk rI2 rR2 ln2 wI2 wR2 nw2 cp2 bod (some (SL, sx)) lz_t (lz_g Φ) MC MS [18] ka 300 (mv_seek 1757 lz_t) [(3, Sum.inl (Value.int x)), (2, Sum.inr (8, 0)), (1, Sum.inr (7, 0)), (0, Sum.inr (10, 0))] [] h ce sl = (
  mv_gd (mv_inb (x + (nI 1)) SL) <|
  mv_gd (Nat.ble (ce + 0) MC && (Nat.ble (sl + 0) MS && Nat.ble 0 8)) <|
  mv_rI (Φ 92 [Sum.inr (7, 0), Sum.inl (Value.int (sx (x + (nI 1)).toNatClampNeg))] h) fun r1 h1 =>
  mv_gd (mv_inb (x + (nI 1)) SL) <|
  mv_gd (Nat.ble (ce + 0 + 0) MC && (Nat.ble (sl + 0 + 0) MS && Nat.ble 1 8)) <|
  mv_rI (Φ 93 [Sum.inr (8, 0), Sum.inl (Value.int (sx (x + (nI 1)).toNatClampNeg))] h1) fun r2 h2 =>
  if r1 = r2 then mv_bi (x + nI 5) fun x2 => ka 18 [(3, Sum.inl (Value.int x2)), (2, Sum.inr (8, 0)), (1, Sum.inr (7, 0)), (0, Sum.inr (10, 0))] [] h2 (ce + 0 + 0) (sl + 0 + 0)
  else mv_gd (decide (nI 0 = nI 0) || decide (nI 0 = nI 1)) (some ([Sum.inl (Value.int (nI 0))], h2))) := rfl
set_option maxRecDepth 100000 in
set_option maxHeartbeats 1000000 in
theorem lz_e46 (Φ : Nat → List mv_V → H2 → O2) (ka : Nat → mv_L → List mv_V → H2 → Nat → Nat → O2) (SL : Nat) (sx : Nat → Int32) (MC MS : Nat) (x : Int32) (h : H2) (ce sl : Nat) : mv_blk rI2 rR2 ln2 wI2 wR2 nw2 cp2 bod (some (SL, sx)) lz_t (lz_g Φ) MC MS [18] ka 300 (mv_seek 1780 lz_t) [(3, Sum.inl (Value.int x)), (2, Sum.inr (8, 0)), (1, Sum.inr (7, 0)), (0, Sum.inr (10, 0))] [] h ce sl = (
  mv_gd (Nat.ble (ce + 0) MC && (Nat.ble (sl + 0) MS && Nat.ble 0 8)) <|
  mv_rI (Φ 94 [Sum.inr (7, 0)] h) fun r1 h1 =>
  mv_gd (Nat.ble (ce + 0 + 0) MC && (Nat.ble (sl + 0 + 0) MS && Nat.ble 1 8)) <|
  mv_rI (Φ 95 [Sum.inr (8, 0)] h1) fun r2 h2 =>
  if r1 = r2 then mv_bi (x + nI 5) fun x2 => ka 18 [(3, Sum.inl (Value.int x2)), (2, Sum.inr (8, 0)), (1, Sum.inr (7, 0)), (0, Sum.inr (10, 0))] [] h2 (ce + 0 + 0) (sl + 0 + 0)
  else mv_gd (decide (nI 0 = nI 0) || decide (nI 0 = nI 1)) (some ([Sum.inl (Value.int (nI 0))], h2))) := rfl
set_option maxRecDepth 100000 in
set_option maxHeartbeats 1000000 in
theorem lz_e47 (Φ : Nat → List mv_V → H2 → O2) (ka : Nat → mv_L → List mv_V → H2 → Nat → Nat → O2) (SL : Nat) (sx : Nat → Int32) (MC MS : Nat) (x : Int32) (h : H2) (ce sl : Nat) : mv_blk rI2 rR2 ln2 wI2 wR2 nw2 cp2 bod (some (SL, sx)) lz_t (lz_g Φ) MC MS [18] ka 300 (mv_seek 1793 lz_t) [(3, Sum.inl (Value.int x)), (2, Sum.inr (8, 0)), (1, Sum.inr (7, 0)), (0, Sum.inr (10, 0))] [] h ce sl = (
  mv_gd (Nat.ble (ce + 0) MC && (Nat.ble (sl + 0) MS && Nat.ble 0 8)) <|
  mv_rI (Φ 96 [Sum.inr (7, 0)] h) fun r1 h1 =>
  mv_gd (Nat.ble (ce + 0 + 0) MC && (Nat.ble (sl + 0 + 0) MS && Nat.ble 1 8)) <|
  mv_rI (Φ 97 [Sum.inr (8, 0)] h1) fun r2 h2 =>
  if r1 = r2 then mv_bi (x + nI 5) fun x2 => ka 18 [(3, Sum.inl (Value.int x2)), (2, Sum.inr (8, 0)), (1, Sum.inr (7, 0)), (0, Sum.inr (10, 0))] [] h2 (ce + 0 + 0) (sl + 0 + 0)
  else mv_gd (decide (nI 0 = nI 0) || decide (nI 0 = nI 1)) (some ([Sum.inl (Value.int (nI 0))], h2))) := rfl
