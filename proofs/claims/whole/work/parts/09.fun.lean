def fA_forget (o0 : Nat) (h : H2) : O2 :=
  mv_bh (wI2 h 0 o0 1 (nI 0)) fun h1 =>
  some ([], h1)
def cA_forget : List mv_V → H2 → (List mv_V → H2 → O2) → O2 := fun as h k => match as with
  | [.inr (t0, o0)] => mv_gd (Nat.beq t0 0) <| mv_rV (fA_forget o0 h) fun h => k [] h
  | _ => none
def fA_hold (o0 : Nat) (v1 : Int32) (v2 : Int32) (v3 : Int32) (h : H2) : O2 :=
  mv_bh (wI2 h 0 o0 2 v1) fun h1 =>
  mv_bh (wI2 h1 0 o0 3 v2) fun h2 =>
  mv_bh (wI2 h2 0 o0 4 v3) fun h3 =>
  some ([], h3)
def cA_hold : List mv_V → H2 → (List mv_V → H2 → O2) → O2 := fun as h k => match as with
  | [.inr (t0, o0), .inl (.int v1), .inl (.int v2), .inl (.int v3)] => mv_gd (Nat.beq t0 0) <| mv_rV (fA_hold o0 v1 v2 v3 h) fun h => k [] h
  | _ => none
def fA_note (o0 : Nat) (v1 : Int32) (h : H2) : O2 :=
  if (nI 30) ≤ (rI2 h 0 o0 1) then (
    some ([], h))
  else
  mv_bh (wI2 h 0 o0 1 ((rI2 h 0 o0 1) + (nI 1))) fun h1 =>
  mv_gd (mv_inb (rI2 h 0 o0 1) 30) <|
  mv_bh (wI2 h1 100 o0 (rI2 h 0 o0 1).toNatClampNeg v1) fun h2 =>
  some ([], h2)
def cA_note : List mv_V → H2 → (List mv_V → H2 → O2) → O2 := fun as h k => match as with
  | [.inr (t0, o0), .inl (.int v1)] => mv_gd (Nat.beq t0 0) <| mv_rV (fA_note o0 v1 h) fun h => k [] h
  | _ => none
def fA_parted (o0 : Nat) (v1 : Int32) (v2 : Int32) (h : H2) : O2 :=
  if v2 = 0 then (
    mv_gd (decide (nI 1 = nI 0) || decide (nI 1 = nI 1)) <|
    mv_bh (wI2 h 0 o0 5 (nI 1)) fun h1 =>
    some ([Sum.inl (Value.int (nI 0))], h1))
  else
  mv_gd (!decide (v2 = 0)) <|
  some ([Sum.inl (Value.int (v1 / v2))], h)
def cA_parted : List mv_V → H2 → (List mv_V → H2 → O2) → O2 := fun as h k => match as with
  | [.inr (t0, o0), .inl (.int v1), .inl (.int v2)] => mv_gd (Nat.beq t0 0) <| mv_rI (fA_parted o0 v1 v2 h) fun x h => k [.inl (.int x)] h
  | _ => none
def fA_own (bd : Nat → Int32 → Int32 → Int32 → H2 → O2) (o0 : Nat) (v1 : Int32) (v2 : Int32) (v3 : Int32) (h : H2) : O2 :=
  mv_gd (mv_inb (((rI2 h 0 o0 2) * (nI 4)) + v1) 24) <|
  mv_rI (bd o0 (bod (((rI2 h 0 o0 2) * (nI 4)) + v1).toNatClampNeg) v2 (v3 + (nI 1)) h) fun r2 h1 =>
  some ([Sum.inl (Value.int r2)], h1)
def cA_own (bd : Nat → Int32 → Int32 → Int32 → H2 → O2) : List mv_V → H2 → (List mv_V → H2 → O2) → O2 := fun as h k => match as with
  | [.inr (t0, o0), .inl (.int v1), .inl (.int v2), .inl (.int v3)] => mv_gd (Nat.beq t0 0) <| mv_rI (fA_own bd o0 v1 v2 v3 h) fun x h => k [.inl (.int x)] h
  | _ => none
def cA_body (bd : Nat → Int32 → Int32 → Int32 → H2 → O2) : List mv_V → H2 → (List mv_V → H2 → O2) → O2 := fun as h k => match as with
  | [.inr (t0, o0), .inl (.int v1), .inl (.int v2), .inl (.int v3)] => mv_gd (Nat.beq t0 0) <| mv_rI (bd o0 v1 v2 v3 h) fun x h => k [.inl (.int x)] h
  | _ => none
def fA_bodyF_b244 (bd : Nat → Int32 → Int32 → Int32 → H2 → O2) (o0 : Nat) (v2 : Int32) (h : H2) : O2 :=
  some ([Sum.inl (Value.int ((v2 * (nI 5)) + (rI2 h 0 o0 3)))], h)
def fA_bodyF_b253 (bd : Nat → Int32 → Int32 → Int32 → H2 → O2) (o0 : Nat) (v2 : Int32) (v3 : Int32) (h : H2) : O2 :=
  mv_rI (fA_own bd o0 (nI 0) v2 v3 h) fun r2 h1 =>
  some ([Sum.inl (Value.int (r2 + ((rI2 h1 0 o0 4) * (nI 9))))], h1)
def fA_bodyF_b269 (bd : Nat → Int32 → Int32 → Int32 → H2 → O2) (o0 : Nat) (v2 : Int32) (h : H2) : O2 :=
  mv_rI (fA_parted o0 v2 ((rI2 h 0 o0 4) - (rI2 h 0 o0 3)) h) fun r2 h1 =>
  some ([Sum.inl (Value.int r2)], h1)
def fA_bodyF_b284 (bd : Nat → Int32 → Int32 → Int32 → H2 → O2) (o0 : Nat) (v2 : Int32) (v3 : Int32) (h : H2) : O2 :=
  mv_rI (fA_own bd o0 (nI 1) v2 v3 h) fun r2 h1 =>
  some ([Sum.inl (Value.int (r2 ^^^ (nI 240)))], h1)
def fA_bodyF_b296 (bd : Nat → Int32 → Int32 → Int32 → H2 → O2) (o0 : Nat) (v2 : Int32) (v3 : Int32) (h : H2) : O2 :=
  mv_rI (bd o0 (nI 11) v2 (v3 + (nI 1)) h) fun r2 h1 =>
  some ([Sum.inl (Value.int (r2 - (nI 6)))], h1)
def fA_bodyF_b310 (bd : Nat → Int32 → Int32 → Int32 → H2 → O2) (o0 : Nat) (v2 : Int32) (v3 : Int32) (h : H2) : O2 :=
  mv_rI (bd o0 (nI 10) v2 (v3 + (nI 1)) h) fun r2 h1 =>
  some ([Sum.inl (Value.int (r2 * (nI 2)))], h1)
def fA_bodyF_b323 (bd : Nat → Int32 → Int32 → Int32 → H2 → O2) (o0 : Nat) (v2 : Int32) (v3 : Int32) (h : H2) : O2 :=
  mv_rI (bd o0 (nI 13) v2 (v3 + (nI 1)) h) fun r2 h1 =>
  mv_rI (fA_own bd o0 (nI 2) (rI2 h1 0 o0 3) v3 h1) fun r4 h3 =>
  some ([Sum.inl (Value.int (r2 + r4))], h3)
def fA_bodyF_b345 (bd : Nat → Int32 → Int32 → Int32 → H2 → O2) (o0 : Nat) (v2 : Int32) (v3 : Int32) (h : H2) : O2 :=
  mv_rI (bd o0 (nI 30) v2 (v3 + (nI 1)) h) fun r2 h1 =>
  some ([Sum.inl (Value.int ((nI 0) - r2))], h1)
def fA_bodyF_b358 (bd : Nat → Int32 → Int32 → Int32 → H2 → O2) (o0 : Nat) (v2 : Int32) (v3 : Int32) (h : H2) : O2 :=
  mv_rI (bd o0 (nI 11) v2 (v3 + (nI 1)) h) fun r2 h1 =>
  mv_rI (fA_own bd o0 (nI 0) (rI2 h1 0 o0 4) v3 h1) fun r4 h3 =>
  some ([Sum.inl (Value.int (r2 ^^^ r4))], h3)
def fA_bodyF_b380 (bd : Nat → Int32 → Int32 → Int32 → H2 → O2) (o0 : Nat) (v2 : Int32) (v3 : Int32) (h : H2) : O2 :=
  mv_rI (bd o0 (nI 12) (v2 + (nI 3)) (v3 + (nI 1)) h) fun r2 h1 =>
  some ([Sum.inl (Value.int (r2 + (rI2 h1 0 o0 4)))], h1)
def fA_bodyF_b398 (bd : Nat → Int32 → Int32 → Int32 → H2 → O2) (o0 : Nat) (v2 : Int32) (v3 : Int32) (h : H2) : O2 :=
  mv_rI (bd o0 (nI 10) v2 (v3 + (nI 1)) h) fun r2 h1 =>
  some ([Sum.inl (Value.int (r2 - (nI 2)))], h1)
def fA_bodyF_b411 (bd : Nat → Int32 → Int32 → Int32 → H2 → O2) (o0 : Nat) (v2 : Int32) (v3 : Int32) (h : H2) : O2 :=
  mv_rI (bd o0 (nI 13) v2 (v3 + (nI 1)) h) fun r2 h1 =>
  some ([Sum.inl (Value.int (r2 * (nI 3)))], h1)
def fA_bodyF_b424 (bd : Nat → Int32 → Int32 → Int32 → H2 → O2) (o0 : Nat) (v2 : Int32) (v3 : Int32) (h : H2) : O2 :=
  mv_rI (bd o0 (nI 12) v2 (v3 + (nI 1)) h) fun r2 h1 =>
  mv_rI (fA_own bd o0 (nI 0) (rI2 h1 0 o0 3) v3 h1) fun r4 h3 =>
  some ([Sum.inl (Value.int (r2 - r4))], h3)
def fA_bodyF_b446 (bd : Nat → Int32 → Int32 → Int32 → H2 → O2) (h : H2) : O2 :=
  some ([Sum.inl (Value.int (nI 0))], h)
def fA_bodyF (bd : Nat → Int32 → Int32 → Int32 → H2 → O2) (o0 : Nat) (v1 : Int32) (v2 : Int32) (v3 : Int32) (h : H2) : O2 :=
  if (rI2 h 0 o0 5) = 0 then (
    if v3 ≤ (nI 20) then (
      mv_rV (fA_note o0 v1 h) fun h1 =>
      if v1 = nI 10 then (
        fA_bodyF_b244 bd o0 v2 h1)
      else
      if v1 = nI 11 then (
        fA_bodyF_b253 bd o0 v2 v3 h1)
      else
      if v1 = nI 12 then (
        fA_bodyF_b269 bd o0 v2 h1)
      else
      if v1 = nI 13 then (
        fA_bodyF_b284 bd o0 v2 v3 h1)
      else
      if v1 = nI 14 then (
        fA_bodyF_b446 bd h1)
      else
      if v1 = nI 15 then (
        fA_bodyF_b446 bd h1)
      else
      if v1 = nI 16 then (
        fA_bodyF_b446 bd h1)
      else
      if v1 = nI 17 then (
        fA_bodyF_b446 bd h1)
      else
      if v1 = nI 18 then (
        fA_bodyF_b446 bd h1)
      else
      if v1 = nI 19 then (
        fA_bodyF_b446 bd h1)
      else
      if v1 = nI 20 then (
        fA_bodyF_b296 bd o0 v2 v3 h1)
      else
      if v1 = nI 21 then (
        fA_bodyF_b446 bd h1)
      else
      if v1 = nI 22 then (
        fA_bodyF_b446 bd h1)
      else
      if v1 = nI 23 then (
        fA_bodyF_b446 bd h1)
      else
      if v1 = nI 24 then (
        fA_bodyF_b446 bd h1)
      else
      if v1 = nI 25 then (
        fA_bodyF_b446 bd h1)
      else
      if v1 = nI 26 then (
        fA_bodyF_b446 bd h1)
      else
      if v1 = nI 27 then (
        fA_bodyF_b446 bd h1)
      else
      if v1 = nI 28 then (
        fA_bodyF_b446 bd h1)
      else
      if v1 = nI 29 then (
        fA_bodyF_b446 bd h1)
      else
      if v1 = nI 30 then (
        fA_bodyF_b310 bd o0 v2 v3 h1)
      else
      if v1 = nI 31 then (
        fA_bodyF_b323 bd o0 v2 v3 h1)
      else
      if v1 = nI 32 then (
        fA_bodyF_b446 bd h1)
      else
      if v1 = nI 33 then (
        fA_bodyF_b446 bd h1)
      else
      if v1 = nI 34 then (
        fA_bodyF_b446 bd h1)
      else
      if v1 = nI 35 then (
        fA_bodyF_b446 bd h1)
      else
      if v1 = nI 36 then (
        fA_bodyF_b446 bd h1)
      else
      if v1 = nI 37 then (
        fA_bodyF_b446 bd h1)
      else
      if v1 = nI 38 then (
        fA_bodyF_b446 bd h1)
      else
      if v1 = nI 39 then (
        fA_bodyF_b446 bd h1)
      else
      if v1 = nI 40 then (
        fA_bodyF_b345 bd o0 v2 v3 h1)
      else
      if v1 = nI 41 then (
        fA_bodyF_b358 bd o0 v2 v3 h1)
      else
      if v1 = nI 42 then (
        fA_bodyF_b446 bd h1)
      else
      if v1 = nI 43 then (
        fA_bodyF_b446 bd h1)
      else
      if v1 = nI 44 then (
        fA_bodyF_b446 bd h1)
      else
      if v1 = nI 45 then (
        fA_bodyF_b446 bd h1)
      else
      if v1 = nI 46 then (
        fA_bodyF_b446 bd h1)
      else
      if v1 = nI 47 then (
        fA_bodyF_b446 bd h1)
      else
      if v1 = nI 48 then (
        fA_bodyF_b446 bd h1)
      else
      if v1 = nI 49 then (
        fA_bodyF_b446 bd h1)
      else
      if v1 = nI 50 then (
        fA_bodyF_b380 bd o0 v2 v3 h1)
      else
      if v1 = nI 51 then (
        fA_bodyF_b398 bd o0 v2 v3 h1)
      else
      if v1 = nI 52 then (
        fA_bodyF_b446 bd h1)
      else
      if v1 = nI 53 then (
        fA_bodyF_b446 bd h1)
      else
      if v1 = nI 54 then (
        fA_bodyF_b446 bd h1)
      else
      if v1 = nI 55 then (
        fA_bodyF_b446 bd h1)
      else
      if v1 = nI 56 then (
        fA_bodyF_b446 bd h1)
      else
      if v1 = nI 57 then (
        fA_bodyF_b446 bd h1)
      else
      if v1 = nI 58 then (
        fA_bodyF_b446 bd h1)
      else
      if v1 = nI 59 then (
        fA_bodyF_b446 bd h1)
      else
      if v1 = nI 60 then (
        fA_bodyF_b411 bd o0 v2 v3 h1)
      else
      if v1 = nI 61 then (
        fA_bodyF_b424 bd o0 v2 v3 h1)
      else
      fA_bodyF_b446 bd h1)
    else
    some ([Sum.inl (Value.int (nI 0))], h))
  else
  some ([Sum.inl (Value.int (nI 0))], h)
def fA_body : Nat → Nat → Int32 → Int32 → Int32 → H2 → O2
  | 0 => fun _ _ _ _ _ => none
  | n + 1 => fA_bodyF (fA_body n)
def fA_perform (o0 : Nat) (v1 : Int32) (v2 : Int32) (h : H2) : O2 :=
  mv_gd (decide (nI 0 = nI 0) || decide (nI 0 = nI 1)) <|
  mv_bh (wI2 h 0 o0 5 (nI 0)) fun h1 =>
  mv_rI (fA_own (fA_body 50) o0 v1 v2 (nI 0) h1) fun r3 h2 =>
  mv_bi r3 fun x4 =>
  if (rI2 h2 0 o0 5) = 0 then (
    some ([Sum.inl (Value.int x4)], h2))
  else
  some ([Sum.inl (Value.int (-(nI 15)))], h2)
def cA_perform : List mv_V → H2 → (List mv_V → H2 → O2) → O2 := fun as h k => match as with
  | [.inr (t0, o0), .inl (.int v1), .inl (.int v2)] => mv_gd (Nat.beq t0 0) <| mv_rI (fA_perform o0 v1 v2 h) fun x h => k [.inl (.int x)] h
  | _ => none
def fC_choices_b5 : Nat → Int32 → Int32 → Int64 → Int32 → H2 → O2
  | 0 => fun _ _ _ _ _ => none
  | n + 1 => fun v0 v1 w2 v4 h =>
    if v1 < v4 then (
      some ([Sum.inl (Value.long w2)], h))
    else
    mv_gd (!decide (v4.toInt64 = 0)) <|
    mv_bl ((w2 * (((v0 - v1) + v4).toInt64)) / v4.toInt64) fun y1 =>
    mv_bi (v4 + (nI 1)) fun x2 =>
    fC_choices_b5 n v0 v1 y1 x2 h
def fC_choices (v0 : Int32) (v1 : Int32) (h : H2) : O2 :=
  mv_bl (lN 1) fun y1 =>
  mv_bi (nI 1) fun x2 =>
  fC_choices_b5 1000 v0 v1 y1 x2 h
def cC_choices : List mv_V → H2 → (List mv_V → H2 → O2) → O2 := fun as h k => match as with
  | [.inl (.int v0), .inl (.int v1)] => mv_rL (fC_choices v0 v1 h) fun x h => k [.inl (.long x)] h
  | _ => none
def fC_commonDivisor_b9 : Nat → Int64 → Int64 → Int32 → H2 → O2
  | 0 => fun _ _ _ _ => none
  | n + 1 => fun w4 w6 v8 h =>
    if (nI 200) ≤ v8 then (
      some ([Sum.inl (Value.long w4)], h))
    else
    if (lg_cmp w6 (lN 0)) = 0 then (
      some ([Sum.inl (Value.long w4)], h))
    else
    mv_gd (!decide (w6 = 0)) <|
    mv_bl (w4 - w4 / w6 * w6) fun y1 =>
    mv_bl w6 fun y2 =>
    mv_bl y1 fun y3 =>
    mv_bi (v8 + (nI 1)) fun x4 =>
    fC_commonDivisor_b9 n y2 y3 x4 h
def fC_commonDivisor (w0 : Int64) (w2 : Int64) (h : H2) : O2 :=
  mv_bl w0 fun y1 =>
  mv_bl w2 fun y2 =>
  mv_bi (nI 0) fun x3 =>
  fC_commonDivisor_b9 1000 y1 y2 x3 h
def cC_commonDivisor : List mv_V → H2 → (List mv_V → H2 → O2) → O2 := fun as h k => match as with
  | [.inl (.long w0), .inl (.long w2)] => mv_rL (fC_commonDivisor w0 w2 h) fun x h => k [.inl (.long x)] h
  | _ => none
def fC_partOf (w0 : Int64) (w2 : Int64) (v4 : Int32) (h : H2) : O2 :=
  mv_rL (fC_commonDivisor w0 w2 h) fun r2 h1 =>
  mv_bl r2 fun y3 =>
  if (lg_cmp y3 (lN 0)) = 0 then (
    some ([Sum.inl (Value.long v4.toInt64)], h1))
  else
  if v4 = 0 then (
    mv_gd (!decide (y3 = 0)) <|
    some ([Sum.inl (Value.long (w0 / y3))], h1))
  else
  mv_gd (!decide (y3 = 0)) <|
  some ([Sum.inl (Value.long (w2 / y3))], h1)
def cC_partOf : List mv_V → H2 → (List mv_V → H2 → O2) → O2 := fun as h k => match as with
  | [.inl (.long w0), .inl (.long w2), .inl (.int v4)] => mv_rL (fC_partOf w0 w2 v4 h) fun x h => k [.inl (.long x)] h
  | _ => none
def fC_justSlip_b13 : Nat → Int32 → Int32 → Int32 → Int32 → Int64 → Int64 → Int32 → H2 → O2
  | 0 => fun _ _ _ _ _ _ _ _ => none
  | n + 1 => fun v0 v1 v2 v3 w4 w6 v8 h =>
    if v0 ≤ v8 then (
      mv_rL (fC_partOf w4 w6 v3 h) fun r2 h1 =>
      some ([Sum.inl (Value.long r2)], h1))
    else
    if v1 ≤ v8 then (
      mv_bl (w4 * (((nI 100) - v2).toInt64)) fun y3 =>
      mv_bl (w6 * (lN 100)) fun y4 =>
      mv_bi (v8 + (nI 1)) fun x5 =>
      fC_justSlip_b13 n v0 v1 v2 v3 y3 y4 x5 h)
    else
    mv_bl (w4 * v2.toInt64) fun y6 =>
    mv_bl (w6 * (lN 100)) fun y7 =>
    mv_bi (v8 + (nI 1)) fun x8 =>
    fC_justSlip_b13 n v0 v1 v2 v3 y6 y7 x8 h
def fC_justSlip (v0 : Int32) (v1 : Int32) (v2 : Int32) (v3 : Int32) (h : H2) : O2 :=
  mv_rL (fC_choices v0 v1 h) fun r2 h1 =>
  mv_bl r2 fun y3 =>
  mv_bl (lN 1) fun y4 =>
  mv_bi (nI 0) fun x5 =>
  fC_justSlip_b13 1000 v0 v1 v2 v3 y3 y4 x5 h1
def cC_justSlip : List mv_V → H2 → (List mv_V → H2 → O2) → O2 := fun as h k => match as with
  | [.inl (.int v0), .inl (.int v1), .inl (.int v2), .inl (.int v3)] => mv_rL (fC_justSlip v0 v1 v2 v3 h) fun x h => k [.inl (.long x)] h
  | _ => none
def fM_copyFrom (o0 : Nat) (o1 : Nat) (h : H2) : O2 :=
  mv_gd (decide (nI 0 = nI 0) && (decide (nI 0 = nI 0) && (!decide ((nI 4) < 0) && (Nat.ble (nI 4).toNatClampNeg 4 && Nat.ble (nI 4).toNatClampNeg 4)))) <|
  mv_bh (cp2 h 300 o1 o0 (nI 4).toNatClampNeg 0) fun h1 =>
  mv_gd (decide (nI 0 = nI 0) && (decide (nI 0 = nI 0) && (!decide ((nI 8) < 0) && (Nat.ble (nI 8).toNatClampNeg 8 && Nat.ble (nI 8).toNatClampNeg 8)))) <|
  mv_bh (cp2 h1 301 o1 o0 (nI 8).toNatClampNeg 0) fun h2 =>
  mv_gd (decide (nI 0 = nI 0) && (decide (nI 0 = nI 0) && (!decide ((nI 8) < 0) && (Nat.ble (nI 8).toNatClampNeg 8 && Nat.ble (nI 8).toNatClampNeg 8)))) <|
  mv_bh (cp2 h2 302 o1 o0 (nI 8).toNatClampNeg 0) fun h3 =>
  mv_gd (decide (nI 0 = nI 0) && (decide (nI 0 = nI 0) && (!decide ((nI 6) < 0) && (Nat.ble (nI 6).toNatClampNeg 6 && Nat.ble (nI 6).toNatClampNeg 6)))) <|
  mv_bh (cp2 h3 303 o1 o0 (nI 6).toNatClampNeg 0) fun h4 =>
  mv_gd (decide (nI 0 = nI 0) && (decide (nI 0 = nI 0) && (!decide ((nI 8) < 0) && (Nat.ble (nI 8).toNatClampNeg 8 && Nat.ble (nI 8).toNatClampNeg 8)))) <|
  mv_bh (cp2 h4 304 o1 o0 (nI 8).toNatClampNeg 0) fun h5 =>
  mv_gd (decide (nI 0 = nI 0) && (decide (nI 0 = nI 0) && (!decide ((nI 8) < 0) && (Nat.ble (nI 8).toNatClampNeg 8 && Nat.ble (nI 8).toNatClampNeg 8)))) <|
  mv_bh (cp2 h5 305 o1 o0 (nI 8).toNatClampNeg 0) fun h6 =>
  mv_gd (decide (nI 0 = nI 0) && (decide (nI 0 = nI 0) && (!decide ((nI 8) < 0) && (Nat.ble (nI 8).toNatClampNeg 8 && Nat.ble (nI 8).toNatClampNeg 8)))) <|
  mv_bh (cp2 h6 306 o1 o0 (nI 8).toNatClampNeg 0) fun h7 =>
  mv_gd (decide (nI 0 = nI 0) && (decide (nI 0 = nI 0) && (!decide ((nI 8) < 0) && (Nat.ble (nI 8).toNatClampNeg 8 && Nat.ble (nI 8).toNatClampNeg 8)))) <|
  mv_bh (cp2 h7 307 o1 o0 (nI 8).toNatClampNeg 0) fun h8 =>
  mv_gd (decide (nI 0 = nI 0) && (decide (nI 0 = nI 0) && (!decide ((nI 8) < 0) && (Nat.ble (nI 8).toNatClampNeg 8 && Nat.ble (nI 8).toNatClampNeg 8)))) <|
  mv_bh (cp2 h8 308 o1 o0 (nI 8).toNatClampNeg 0) fun h9 =>
  mv_bh (wI2 h9 2 o0 9 (rI2 h9 2 o1 9)) fun h10 =>
  mv_bh (wI2 h10 2 o0 10 (rI2 h10 2 o1 10)) fun h11 =>
  mv_bh (wI2 h11 2 o0 11 (rI2 h11 2 o1 11)) fun h12 =>
  some ([], h12)
def cM_copyFrom : List mv_V → H2 → (List mv_V → H2 → O2) → O2 := fun as h k => match as with
  | [.inr (t0, o0), .inr (t1, o1)] => mv_gd (Nat.beq t0 2) <| mv_gd (Nat.beq t1 2) <| mv_rV (fM_copyFrom o0 o1 h) fun h => k [] h
  | _ => none
def fM_vatOfToday (o0 : Nat) (h : H2) : O2 :=
  mv_gd (!decide ((nI 6) = 0)) <|
  mv_gd (mv_inb ((rI2 h 2 o0 10) - (rI2 h 2 o0 10) / (nI 6) * (nI 6)) 6) <|
  some ([Sum.inl (Value.int (rI2 h 303 o0 ((rI2 h 2 o0 10) - (rI2 h 2 o0 10) / (nI 6) * (nI 6)).toNatClampNeg))], h)
def cM_vatOfToday : List mv_V → H2 → (List mv_V → H2 → O2) → O2 := fun as h k => match as with
  | [.inr (t0, o0)] => mv_gd (Nat.beq t0 2) <| mv_rI (fM_vatOfToday o0 h) fun x h => k [.inl (.int x)] h
  | _ => none
def fM_takes (o0 : Nat) (v1 : Int32) (v2 : Int32) (h : H2) : O2 :=
  mv_gd (mv_inb v2 8) <|
  mv_gd (mv_inb (nI 0) 4) <|
  mv_bi ((rI2 h 302 o0 v2.toNatClampNeg) + (rI2 h 300 o0 (nI 0).toNatClampNeg)) fun x1 =>
  mv_gd (mv_inb v1 8) <|
  if (rI2 h 304 o0 v1.toNatClampNeg) = nI 1 then (
    some ([Sum.inl (Value.int (x1 + (nI 3)))], h))
  else
  if (rI2 h 304 o0 v1.toNatClampNeg) = nI 2 then (
    mv_gd (mv_inb (nI 1) 4) <|
    some ([Sum.inl (Value.int (x1 - (rI2 h 300 o0 (nI 1).toNatClampNeg)))], h))
  else
  if (rI2 h 304 o0 v1.toNatClampNeg) = nI 3 then (
    some ([Sum.inl (Value.int ((x1 + (nI 3)) * (nI 2)))], h))
  else
  if (rI2 h 304 o0 v1.toNatClampNeg) = nI 4 then (
    mv_gd (mv_inb (nI 1) 4) <|
    mv_gd (mv_inb (nI 2) 4) <|
    some ([Sum.inl (Value.int ((x1 - (rI2 h 300 o0 (nI 1).toNatClampNeg)) + (rI2 h 300 o0 (nI 2).toNatClampNeg)))], h))
  else
  if (rI2 h 304 o0 v1.toNatClampNeg) = nI 5 then (
    mv_gd (!decide ((nI 2) = 0)) <|
    some ([Sum.inl (Value.int (x1 / (nI 2)))], h))
  else
  some ([Sum.inl (Value.int x1)], h)
def cM_takes : List mv_V → H2 → (List mv_V → H2 → O2) → O2 := fun as h k => match as with
  | [.inr (t0, o0), .inl (.int v1), .inl (.int v2)] => mv_gd (Nat.beq t0 2) <| mv_rI (fM_takes o0 v1 v2 h) fun x h => k [.inl (.int x)] h
  | _ => none
def fM_fights (o0 : Nat) (v1 : Int32) (v2 : Int32) (h : H2) : O2 :=
  mv_gd (mv_inb v2 8) <|
  mv_bi (rI2 h 302 o0 v2.toNatClampNeg) fun x1 =>
  mv_gd (mv_inb v1 8) <|
  if (rI2 h 304 o0 v1.toNatClampNeg) = nI 1 then (
    mv_gd (mv_inb (nI 2) 4) <|
    some ([Sum.inl (Value.int (x1 - (rI2 h 300 o0 (nI 2).toNatClampNeg)))], h))
  else
  if (rI2 h 304 o0 v1.toNatClampNeg) = nI 2 then (
    mv_gd (mv_inb (nI 2) 4) <|
    some ([Sum.inl (Value.int (x1 + (rI2 h 300 o0 (nI 2).toNatClampNeg)))], h))
  else
  if (rI2 h 304 o0 v1.toNatClampNeg) = nI 3 then (
    mv_gd (mv_inb (nI 2) 4) <|
    mv_gd (mv_inb (nI 0) 4) <|
    some ([Sum.inl (Value.int ((x1 - (rI2 h 300 o0 (nI 2).toNatClampNeg)) + (rI2 h 300 o0 (nI 0).toNatClampNeg)))], h))
  else
  if (rI2 h 304 o0 v1.toNatClampNeg) = nI 4 then (
    mv_gd (mv_inb (nI 2) 4) <|
    some ([Sum.inl (Value.int ((x1 + (rI2 h 300 o0 (nI 2).toNatClampNeg)) * (nI 2)))], h))
  else
  if (rI2 h 304 o0 v1.toNatClampNeg) = nI 5 then (
    some ([Sum.inl (Value.int (x1 + (nI 1)))], h))
  else
  some ([Sum.inl (Value.int x1)], h)
def cM_fights : List mv_V → H2 → (List mv_V → H2 → O2) → O2 := fun as h k => match as with
  | [.inr (t0, o0), .inl (.int v1), .inl (.int v2)] => mv_gd (Nat.beq t0 2) <| mv_rI (fM_fights o0 v1 v2 h) fun x h => k [.inl (.int x)] h
  | _ => none
def fM_settle (o0 : Nat) (v1 : Int32) (v2 : Int32) (h : H2) : O2 :=
  if 0 < v2 then (
    if (nI 99) ≤ v2 then (
      mv_gd (mv_inb v1 8) <|
      mv_bh (wI2 h 306 o0 v1.toNatClampNeg (nI 99)) fun h1 =>
      some ([], h1))
    else
    mv_gd (mv_inb v1 8) <|
    mv_bh (wI2 h 306 o0 v1.toNatClampNeg v2) fun h2 =>
    some ([], h2))
  else
  mv_gd (mv_inb v1 8) <|
  mv_bh (wI2 h 306 o0 v1.toNatClampNeg (nI 0)) fun h3 =>
  mv_gd (mv_inb v1 8) <|
  mv_bh (wI2 h3 305 o0 v1.toNatClampNeg (-(nI 1))) fun h4 =>
  some ([], h4)
def cM_settle : List mv_V → H2 → (List mv_V → H2 → O2) → O2 := fun as h k => match as with
  | [.inr (t0, o0), .inl (.int v1), .inl (.int v2)] => mv_gd (Nat.beq t0 2) <| mv_rV (fM_settle o0 v1 v2 h) fun h => k [] h
  | _ => none
def fM_dipInto_b84 (o0 : Nat) (v1 : Int32) (v2 : Int32) (v4 : Int32) (h : H2) : O2 :=
  mv_rV (fM_settle o0 v1 v4 h) fun h1 =>
  mv_gd (mv_inb v1 8) <|
  if (nI 9999) ≤ (rI2 h1 308 o0 v1.toNatClampNeg) then (
    mv_gd (mv_inb v2 8) <|
    if (rI2 h1 302 o0 v2.toNatClampNeg) ≤ 0 then (
      some ([], h1))
    else
    mv_gd (mv_inb v2 8) <|
    mv_gd (mv_inb v2 8) <|
    mv_bh (wI2 h1 302 o0 v2.toNatClampNeg ((rI2 h1 302 o0 v2.toNatClampNeg) - (nI 1))) fun h2 =>
    some ([], h2))
  else
  mv_gd (mv_inb v1 8) <|
  mv_gd (mv_inb v1 8) <|
  mv_bh (wI2 h1 308 o0 v1.toNatClampNeg ((rI2 h1 308 o0 v1.toNatClampNeg) + (nI 1))) fun h3 =>
  mv_gd (mv_inb v2 8) <|
  if (rI2 h3 302 o0 v2.toNatClampNeg) ≤ 0 then (
    some ([], h3))
  else
  mv_gd (mv_inb v2 8) <|
  mv_gd (mv_inb v2 8) <|
  mv_bh (wI2 h3 302 o0 v2.toNatClampNeg ((rI2 h3 302 o0 v2.toNatClampNeg) - (nI 1))) fun h4 =>
  some ([], h4)
def fM_dipInto_b27 (o0 : Nat) (v1 : Int32) (v2 : Int32) (v3 : Int32) (h : H2) : O2 :=
  mv_gd (mv_inb v1 8) <|
  mv_bh (wI2 h 305 o0 v1.toNatClampNeg v3) fun h1 =>
  mv_gd (mv_inb v1 8) <|
  mv_rI (fM_takes o0 v1 v2 h1) fun r3 h2 =>
  mv_bi ((rI2 h1 306 o0 v1.toNatClampNeg) + r3) fun x4 =>
  fM_dipInto_b84 o0 v1 v2 x4 h2
def fM_dipInto (o0 : Nat) (v1 : Int32) (v2 : Int32) (h : H2) : O2 :=
  mv_gd (mv_inb v2 8) <|
  mv_bi (rI2 h 301 o0 v2.toNatClampNeg) fun x1 =>
  mv_gd (mv_inb v1 8) <|
  if (rI2 h 305 o0 v1.toNatClampNeg) = (-(nI 1)) then (
    fM_dipInto_b27 o0 v1 v2 x1 h)
  else
  mv_gd (mv_inb v1 8) <|
  if (rI2 h 305 o0 v1.toNatClampNeg) = x1 then (
    fM_dipInto_b27 o0 v1 v2 x1 h)
  else
  mv_gd (mv_inb v1 8) <|
  mv_rI (fM_fights o0 v1 v2 h) fun r3 h2 =>
  mv_bi ((rI2 h 306 o0 v1.toNatClampNeg) - r3) fun x4 =>
  if 0 ≤ x4 then (
    fM_dipInto_b84 o0 v1 v2 x4 h2)
  else
  mv_gd (mv_inb v1 8) <|
  mv_bh (wI2 h2 305 o0 v1.toNatClampNeg x1) fun h5 =>
  mv_bi (-x4) fun x6 =>
  fM_dipInto_b84 o0 v1 v2 x6 h5
def cM_dipInto : List mv_V → H2 → (List mv_V → H2 → O2) → O2 := fun as h k => match as with
  | [.inr (t0, o0), .inl (.int v1), .inl (.int v2)] => mv_gd (Nat.beq t0 2) <| mv_rV (fM_dipInto o0 v1 v2 h) fun h => k [] h
  | _ => none
def fM_fades (o0 : Nat) (v1 : Int32) (h : H2) : O2 :=
  mv_gd (mv_inb (nI 1) 4) <|
  mv_bi (rI2 h 300 o0 (nI 1).toNatClampNeg) fun x1 =>
  mv_gd (mv_inb v1 8) <|
  if (rI2 h 304 o0 v1.toNatClampNeg) = nI 1 then (
    some ([Sum.inl (Value.int (x1 - (nI 1)))], h))
  else
  if (rI2 h 304 o0 v1.toNatClampNeg) = nI 2 then (
    some ([Sum.inl (Value.int (x1 + (nI 1)))], h))
  else
  if (rI2 h 304 o0 v1.toNatClampNeg) = nI 3 then (
    some ([Sum.inl (Value.int (nI 0))], h))
  else
  if (rI2 h 304 o0 v1.toNatClampNeg) = nI 4 then (
    some ([Sum.inl (Value.int ((x1 + (nI 1)) * (nI 2)))], h))
  else
  if (rI2 h 304 o0 v1.toNatClampNeg) = nI 5 then (
    some ([Sum.inl (Value.int (x1 + (nI 3)))], h))
  else
  some ([Sum.inl (Value.int x1)], h)
def cM_fades : List mv_V → H2 → (List mv_V → H2 → O2) → O2 := fun as h k => match as with
  | [.inr (t0, o0), .inl (.int v1)] => mv_gd (Nat.beq t0 2) <| mv_rI (fM_fades o0 v1 h) fun x h => k [.inl (.int x)] h
  | _ => none
def fM_deepen (o0 : Nat) (v1 : Int32) (v2 : Int32) (h : H2) : O2 :=
  mv_gd (mv_inb v1 8) <|
  if (rI2 h 305 o0 v1.toNatClampNeg) = (-(nI 1)) then (
    some ([], h))
  else
  mv_rV (fM_settle o0 v1 v2 h) fun h1 =>
  some ([], h1)
def cM_deepen : List mv_V → H2 → (List mv_V → H2 → O2) → O2 := fun as h k => match as with
  | [.inr (t0, o0), .inl (.int v1), .inl (.int v2)] => mv_gd (Nat.beq t0 2) <| mv_rV (fM_deepen o0 v1 v2 h) fun h => k [] h
  | _ => none
def fM_passDay_b86 : Nat → Nat → Int32 → H2 → O2
  | 0 => fun _ _ _ => none
  | n + 1 => fun o0 v2 h =>
    if (nI 8) ≤ v2 then (
      mv_bh (wI2 h 2 o0 10 ((rI2 h 2 o0 10) + (nI 1))) fun h1 =>
      some ([], h1))
    else
    mv_gd (mv_inb v2 8) <|
    if (nI 9) ≤ (rI2 h 302 o0 v2.toNatClampNeg) then (
      mv_bi (v2 + (nI 1)) fun x2 =>
      fM_passDay_b86 n o0 x2 h)
    else
    mv_gd (mv_inb v2 8) <|
    mv_gd (mv_inb v2 8) <|
    mv_bh (wI2 h 302 o0 v2.toNatClampNeg ((rI2 h 302 o0 v2.toNatClampNeg) + (nI 1))) fun h3 =>
    mv_bi (v2 + (nI 1)) fun x4 =>
    fM_passDay_b86 n o0 x4 h3
def fM_passDay_b43 : Nat → Nat → Int32 → H2 → O2
  | 0 => fun _ _ _ => none
  | n + 1 => fun o0 v2 h =>
    if (rI2 h 2 o0 9) ≤ v2 then (
      mv_bi (nI 0) fun x1 =>
      fM_passDay_b86 1000 o0 x1 h)
    else
    mv_gd (mv_inb v2 8) <|
    if (rI2 h 307 o0 v2.toNatClampNeg) = (nI 1) then (
      mv_gd (mv_inb v2 8) <|
      mv_rI (fM_fades o0 v2 h) fun r3 h2 =>
      mv_rV (fM_deepen o0 v2 ((rI2 h 306 o0 v2.toNatClampNeg) - r3) h2) fun h4 =>
      mv_bi (v2 + (nI 1)) fun x5 =>
      fM_passDay_b43 n o0 x5 h4)
    else
    mv_bi (v2 + (nI 1)) fun x6 =>
    fM_passDay_b43 n o0 x6 h
def fM_passDay_b7 : Nat → Nat → Int32 → Int32 → H2 → O2
  | 0 => fun _ _ _ _ => none
  | n + 1 => fun o0 v1 v2 h =>
    if (rI2 h 2 o0 9) ≤ v2 then (
      mv_bi (nI 0) fun x1 =>
      fM_passDay_b43 1000 o0 x1 h)
    else
    if v1 = (-(nI 1)) then (
      mv_bi (nI 0) fun x2 =>
      fM_passDay_b43 1000 o0 x2 h)
    else
    mv_gd (mv_inb v2 8) <|
    if (rI2 h 307 o0 v2.toNatClampNeg) = 0 then (
      mv_rV (fM_dipInto o0 v2 v1 h) fun h3 =>
      mv_bi (v2 + (nI 1)) fun x4 =>
      fM_passDay_b7 n o0 v1 x4 h3)
    else
    mv_bi (v2 + (nI 1)) fun x5 =>
    fM_passDay_b7 n o0 v1 x5 h
def fM_passDay (o0 : Nat) (h : H2) : O2 :=
  mv_rI (fM_vatOfToday o0 h) fun r2 h1 =>
  mv_bi r2 fun x3 =>
  mv_bi (nI 0) fun x4 =>
  fM_passDay_b7 1000 o0 x3 x4 h1
def cM_passDay : List mv_V → H2 → (List mv_V → H2 → O2) → O2 := fun as h k => match as with
  | [.inr (t0, o0)] => mv_gd (Nat.beq t0 2) <| mv_rV (fM_passDay o0 h) fun h => k [] h
  | _ => none
def fM_passDays_b2 : Nat → Nat → Int32 → Int32 → H2 → O2
  | 0 => fun _ _ _ _ => none
  | n + 1 => fun o0 v1 v2 h =>
    if v1 ≤ v2 then (
      some ([], h))
    else
    mv_rV (fM_passDay o0 h) fun h1 =>
    mv_bi (v2 + (nI 1)) fun x2 =>
    fM_passDays_b2 n o0 v1 x2 h1
def fM_passDays (o0 : Nat) (v1 : Int32) (h : H2) : O2 :=
  mv_bi (nI 0) fun x1 =>
  fM_passDays_b2 1000 o0 v1 x1 h
def cM_passDays : List mv_V → H2 → (List mv_V → H2 → O2) → O2 := fun as h k => match as with
  | [.inr (t0, o0), .inl (.int v1)] => mv_gd (Nat.beq t0 2) <| mv_rV (fM_passDays o0 v1 h) fun h => k [] h
  | _ => none
def fF_behind (o0 : Nat) (o1 : Nat) (v2 : Int32) (h : H2) : O2 :=
  mv_rV (fM_copyFrom 3 o1 h) fun h1 =>
  mv_rV (fM_passDays 3 v2 h1) fun h2 =>
  some ([Sum.inr (2, 3)], h2)
def cF_behind : List mv_V → H2 → (List mv_V → H2 → O2) → O2 := fun as h k => match as with
  | [.inr (t0, o0), .inr (t1, o1), .inl (.int v2)] => mv_gd (Nat.beq t0 1) <| mv_gd (Nat.beq t1 2) <| mv_rR 2 (fF_behind o0 o1 v2 h) fun x h => k [.inr (2, x)] h
  | _ => none
def fM_allDepths_b4 : Nat → Nat → Int32 → Int32 → H2 → O2
  | 0 => fun _ _ _ _ => none
  | n + 1 => fun o0 v1 v2 h =>
    if (rI2 h 2 o0 9) ≤ v2 then (
      some ([Sum.inl (Value.int v1)], h))
    else
    mv_gd (mv_inb v2 8) <|
    mv_bi (v1 + (rI2 h 306 o0 v2.toNatClampNeg)) fun x1 =>
    mv_bi (v2 + (nI 1)) fun x2 =>
    fM_allDepths_b4 n o0 x1 x2 h
def fM_allDepths (o0 : Nat) (h : H2) : O2 :=
  mv_bi (nI 0) fun x1 =>
  mv_bi (nI 0) fun x2 =>
  fM_allDepths_b4 1000 o0 x1 x2 h
def cM_allDepths : List mv_V → H2 → (List mv_V → H2 → O2) → O2 := fun as h k => match as with
  | [.inr (t0, o0)] => mv_gd (Nat.beq t0 2) <| mv_rI (fM_allDepths o0 h) fun x h => k [.inl (.int x)] h
  | _ => none
def fM_draw (o0 : Nat) (h : H2) : O2 :=
  mv_bh (wI2 h 2 o0 11 (((rI2 h 2 o0 11) * (nI 1103515245)) + (nI 12345))) fun h1 =>
  some ([Sum.inl (Value.int (((rI2 h1 2 o0 11).toUInt32 >>> ((nI 16).toUInt32 &&& Int32.toUInt32 31)).toInt32))], h1)
def cM_draw : List mv_V → H2 → (List mv_V → H2 → O2) → O2 := fun as h k => match as with
  | [.inr (t0, o0)] => mv_gd (Nat.beq t0 2) <| mv_rI (fM_draw o0 h) fun x h => k [.inl (.int x)] h
  | _ => none
def fM_passDrawnDay (o0 : Nat) (h : H2) : O2 :=
  if (rI2 h 2 o0 9) ≤ 0 then (
    mv_rV (fM_passDay o0 h) fun h1 =>
    some ([], h1))
  else
  mv_rI (fM_draw o0 h) fun r3 h2 =>
  mv_gd (!decide ((rI2 h2 2 o0 9) = 0)) <|
  mv_bi (r3 - r3 / (rI2 h2 2 o0 9) * (rI2 h2 2 o0 9)) fun x4 =>
  mv_rI (fM_draw o0 h2) fun r6 h5 =>
  mv_gd (!decide ((nI 100) = 0)) <|
  mv_gd (mv_inb (nI 3) 4) <|
  if (rI2 h5 300 o0 (nI 3).toNatClampNeg) ≤ (r6 - r6 / (nI 100) * (nI 100)) then (
    mv_rV (fM_passDay o0 h5) fun h7 =>
    some ([], h7))
  else
  mv_rI (fM_draw o0 h5) fun r9 h8 =>
  mv_gd (!decide ((nI 8) = 0)) <|
  mv_rV (fM_dipInto o0 x4 (r9 - r9 / (nI 8) * (nI 8)) h8) fun h10 =>
  mv_rV (fM_passDay o0 h10) fun h11 =>
  some ([], h11)
def cM_passDrawnDay : List mv_V → H2 → (List mv_V → H2 → O2) → O2 := fun as h k => match as with
  | [.inr (t0, o0)] => mv_gd (Nat.beq t0 2) <| mv_rV (fM_passDrawnDay o0 h) fun h => k [] h
  | _ => none
def fF_luckyDays_b22 : Nat → Nat → Nat → Int32 → Int32 → Int32 → Int32 → Int32 → H2 → O2
  | 0 => fun _ _ _ _ _ _ _ _ => none
  | n + 1 => fun o0 o1 v2 v3 v4 v5 v6 h =>
    if v2 ≤ v6 then (
      some ([Sum.inl (Value.int v5)], h))
    else
    mv_rV (fM_copyFrom 3 o1 h) fun h1 =>
    mv_bh (wI2 h1 2 3 11 v4) fun h2 =>
    mv_rV (fM_passDrawnDay 3 h2) fun h3 =>
    mv_bi (rI2 h3 2 3 11) fun x4 =>
    mv_rI (fM_allDepths 3 h3) fun r6 h5 =>
    if r6 ≤ v3 then (
      mv_bi (v6 + (nI 1)) fun x7 =>
      fF_luckyDays_b22 n o0 o1 v2 v3 x4 v5 x7 h5)
    else
    mv_bi (v5 + (nI 1)) fun x8 =>
    mv_bi (v6 + (nI 1)) fun x9 =>
    fF_luckyDays_b22 n o0 o1 v2 v3 x4 x8 x9 h5
def fF_luckyDays (o0 : Nat) (o1 : Nat) (v2 : Int32) (h : H2) : O2 :=
  mv_rR 2 (fF_behind o0 o1 (nI 1) h) fun r2 h1 =>
  mv_rI (fM_allDepths r2 h1) fun r4 h3 =>
  mv_bi r4 fun x5 =>
  mv_bi (rI2 h3 2 o1 11) fun x6 =>
  mv_bi (nI 0) fun x7 =>
  mv_bi (nI 0) fun x8 =>
  fF_luckyDays_b22 1000 o0 o1 v2 x5 x6 x7 x8 h3
def cF_luckyDays : List mv_V → H2 → (List mv_V → H2 → O2) → O2 := fun as h k => match as with
  | [.inr (t0, o0), .inr (t1, o1), .inl (.int v2)] => mv_gd (Nat.beq t0 1) <| mv_gd (Nat.beq t1 2) <| mv_rI (fF_luckyDays o0 o1 v2 h) fun x h => k [.inl (.int x)] h
  | _ => none
def fF_daysUntilAbout_b11 : Nat → Nat → Int32 → Int32 → Int32 → H2 → O2
  | 0 => fun _ _ _ _ _ => none
  | n + 1 => fun o0 v2 v3 v4 h =>
    if (nI 60) < v4 then (
      some ([Sum.inl (Value.int (-(nI 3)))], h))
    else
    mv_gd (mv_inb v2 8) <|
    if (rI2 h 305 3 v2.toNatClampNeg) = v3 then (
      some ([Sum.inl (Value.int v4)], h))
    else
    mv_rV (fM_passDay 3 h) fun h1 =>
    mv_bi (v4 + (nI 1)) fun x2 =>
    fF_daysUntilAbout_b11 n o0 v2 v3 x2 h1
def fF_daysUntilAbout (o0 : Nat) (o1 : Nat) (v2 : Int32) (v3 : Int32) (h : H2) : O2 :=
  mv_rV (fM_copyFrom 3 o1 h) fun h1 =>
  mv_bi (nI 0) fun x2 =>
  fF_daysUntilAbout_b11 1000 o0 v2 v3 x2 h1
def cF_daysUntilAbout : List mv_V → H2 → (List mv_V → H2 → O2) → O2 := fun as h k => match as with
  | [.inr (t0, o0), .inr (t1, o1), .inl (.int v2), .inl (.int v3)] => mv_gd (Nat.beq t0 1) <| mv_gd (Nat.beq t1 2) <| mv_rI (fF_daysUntilAbout o0 o1 v2 v3 h) fun x h => k [.inl (.int x)] h
  | _ => none
def fF_spoiltFromHere_b13 : Nat → Nat → Nat → Int32 → Int32 → H2 → O2
  | 0 => fun _ _ _ _ _ => none
  | n + 1 => fun o0 o1 v3 v4 h =>
    if (rI2 h 2 o1 9) ≤ v4 then (
      some ([Sum.inl (Value.int v3)], h))
    else
    mv_gd (mv_inb v4 8) <|
    mv_gd (mv_inb v4 8) <|
    if (rI2 h 305 3 v4.toNatClampNeg) = (rI2 h 305 o1 v4.toNatClampNeg) then (
      mv_bi (v4 + (nI 1)) fun x1 =>
      fF_spoiltFromHere_b13 n o0 o1 v3 x1 h)
    else
    mv_bi (v3 + (nI 1)) fun x2 =>
    mv_bi (v4 + (nI 1)) fun x3 =>
    fF_spoiltFromHere_b13 n o0 o1 x2 x3 h
def fF_spoiltFromHere (o0 : Nat) (o1 : Nat) (v2 : Int32) (h : H2) : O2 :=
  mv_rV (fM_passDays 3 v2 h) fun h1 =>
  mv_bi (nI 0) fun x2 =>
  mv_bi (nI 0) fun x3 =>
  fF_spoiltFromHere_b13 1000 o0 o1 x2 x3 h1
def cF_spoiltFromHere : List mv_V → H2 → (List mv_V → H2 → O2) → O2 := fun as h k => match as with
  | [.inr (t0, o0), .inr (t1, o1), .inl (.int v2)] => mv_gd (Nat.beq t0 1) <| mv_gd (Nat.beq t1 2) <| mv_rI (fF_spoiltFromHere o0 o1 v2 h) fun x h => k [.inl (.int x)] h
  | _ => none
def fF_spoiltBehind (o0 : Nat) (o1 : Nat) (v2 : Int32) (h : H2) : O2 :=
  mv_rV (fM_copyFrom 3 o1 h) fun h1 =>
  mv_rI (fF_spoiltFromHere o0 o1 v2 h1) fun r3 h2 =>
  some ([Sum.inl (Value.int r3)], h2)
def cF_spoiltBehind : List mv_V → H2 → (List mv_V → H2 → O2) → O2 := fun as h k => match as with
  | [.inr (t0, o0), .inr (t1, o1), .inl (.int v2)] => mv_gd (Nat.beq t0 1) <| mv_gd (Nat.beq t1 2) <| mv_rI (fF_spoiltBehind o0 o1 v2 h) fun x h => k [.inl (.int x)] h
  | _ => none
def fF_leadsTo_b54 : Nat → Nat → Int32 → Int32 → Int32 → Int32 → H2 → O2
  | 0 => fun _ _ _ _ _ _ => none
  | n + 1 => fun o0 v2 v3 v5 v6 h =>
    if v6 < 0 then (
      mv_gd (mv_inb v2 8) <|
      if (rI2 h 305 3 v2.toNatClampNeg) = v3 then (
        mv_gd (decide (nI 1 = nI 0) || decide (nI 1 = nI 1)) <| some ([Sum.inl (Value.int (nI 1))], h))
      else
      mv_gd (decide (nI 0 = nI 0) || decide (nI 0 = nI 1)) <| some ([Sum.inl (Value.int (nI 0))], h))
    else
    mv_rV (fM_dipInto 3 v2 ((v5 >>> (((nI 3) * v6) &&& 31)) &&& (nI 7)) h) fun h1 =>
    mv_bi (v6 + (-(nI 1))) fun x2 =>
    fF_leadsTo_b54 n o0 v2 v3 v5 x2 h1
def fF_leadsTo (o0 : Nat) (o1 : Nat) (v2 : Int32) (v3 : Int32) (v4 : Int32) (v5 : Int32) (h : H2) : O2 :=
  mv_gd (decide (nI 0 = nI 0) && (decide (nI 0 = nI 0) && (!decide ((nI 8) < 0) && (Nat.ble (nI 8).toNatClampNeg 8 && Nat.ble (nI 8).toNatClampNeg 8)))) <|
  mv_bh (cp2 h 302 o1 3 (nI 8).toNatClampNeg 0) fun h1 =>
  mv_gd (mv_inb v2 8) <|
  mv_gd (mv_inb v2 8) <|
  mv_bh (wI2 h1 305 3 v2.toNatClampNeg (rI2 h1 305 o1 v2.toNatClampNeg)) fun h2 =>
  mv_gd (mv_inb v2 8) <|
  mv_gd (mv_inb v2 8) <|
  mv_bh (wI2 h2 306 3 v2.toNatClampNeg (rI2 h2 306 o1 v2.toNatClampNeg)) fun h3 =>
  mv_bi (v4 - (nI 1)) fun x4 =>
  fF_leadsTo_b54 1000 o0 v2 v3 v5 x4 h3
def cF_leadsTo : List mv_V → H2 → (List mv_V → H2 → O2) → O2 := fun as h k => match as with
  | [.inr (t0, o0), .inr (t1, o1), .inl (.int v2), .inl (.int v3), .inl (.int v4), .inl (.int v5)] => mv_gd (Nat.beq t0 1) <| mv_gd (Nat.beq t1 2) <| mv_rI (fF_leadsTo o0 o1 v2 v3 v4 v5 h) fun x h => k [.inl (.int x)] h
  | _ => none
def fF_vatsThrough_b23 (k14 : Nat → Nat → Int32 → Int32 → Int32 → Int32 → H2 → O2) : Nat → Nat → Nat → Int32 → Int32 → Int32 → Int32 → Int32 → H2 → O2
  | 0 => fun _ _ _ _ _ _ _ _ => none
  | n + 1 => fun o0 o1 v2 v3 v4 v5 v6 h =>
    if v4 ≤ v6 then (
      mv_bi (v4 * (nI 8)) fun x1 =>
      mv_bi (v5 + (nI 1)) fun x2 =>
      k14 o0 o1 v2 v3 x1 x2 h)
    else
    mv_rI (fF_leadsTo o0 o1 v2 v3 v5 v6 h) fun r4 h3 =>
    if r4 = 0 then (
      mv_bi (v6 + (nI 1)) fun x5 =>
      fF_vatsThrough_b23 k14 n o0 o1 v2 v3 v4 v5 x5 h3)
    else
    some ([Sum.inl (Value.int (v4 + v6))], h3)
def fF_vatsThrough_b14 : Nat → Nat → Nat → Int32 → Int32 → Int32 → Int32 → H2 → O2
  | 0 => fun _ _ _ _ _ _ _ => none
  | n + 1 => fun o0 o1 v2 v3 v4 v5 h =>
    if (nI 3) < v5 then (
      some ([Sum.inl (Value.int (-(nI 3)))], h))
    else
    mv_bi (nI 0) fun x1 =>
    fF_vatsThrough_b23 (fF_vatsThrough_b14 n) 1000 o0 o1 v2 v3 v4 v5 x1 h
def fF_vatsThrough (o0 : Nat) (o1 : Nat) (v2 : Int32) (v3 : Int32) (h : H2) : O2 :=
  mv_rV (fM_copyFrom 3 o1 h) fun h1 =>
  mv_bi (nI 1) fun x2 =>
  mv_bi (nI 0) fun x3 =>
  fF_vatsThrough_b14 1000 o0 o1 v2 v3 x2 x3 h1
def cF_vatsThrough : List mv_V → H2 → (List mv_V → H2 → O2) → O2 := fun as h k => match as with
  | [.inr (t0, o0), .inr (t1, o1), .inl (.int v2), .inl (.int v3)] => mv_gd (Nat.beq t0 1) <| mv_gd (Nat.beq t1 2) <| mv_rI (fF_vatsThrough o0 o1 v2 v3 h) fun x h => k [.inl (.int x)] h
  | _ => none
def fF_deepestVat_b9 : Nat → Nat → Nat → Int32 → Int32 → Int32 → Int32 → Int32 → H2 → O2
  | 0 => fun _ _ _ _ _ _ _ _ => none
  | n + 1 => fun o0 o1 v2 v3 v4 v5 v6 h =>
    if (nI 8) ≤ v6 then (
      some ([Sum.inl (Value.int v4)], h))
    else
    mv_rV (fM_copyFrom 3 o1 h) fun h1 =>
    mv_gd (mv_inb v2 6) <|
    mv_bh (wI2 h1 303 3 v2.toNatClampNeg v6) fun h2 =>
    mv_rV (fM_passDays 3 v3 h2) fun h3 =>
    mv_rI (fM_allDepths 3 h3) fun r5 h4 =>
    mv_bi r5 fun x6 =>
    if x6 ≤ v5 then (
      mv_bi (v6 + (nI 1)) fun x7 =>
      fF_deepestVat_b9 n o0 o1 v2 v3 v4 v5 x7 h4)
    else
    mv_bi x6 fun x8 =>
    mv_bi v6 fun x9 =>
    mv_bi (v6 + (nI 1)) fun x10 =>
    fF_deepestVat_b9 n o0 o1 v2 v3 x9 x8 x10 h4
def fF_deepestVat (o0 : Nat) (o1 : Nat) (v2 : Int32) (v3 : Int32) (h : H2) : O2 :=
  mv_bi (nI 0) fun x1 =>
  mv_bi (-(nI 1)) fun x2 =>
  mv_bi (nI 0) fun x3 =>
  fF_deepestVat_b9 1000 o0 o1 v2 v3 x1 x2 x3 h
def cF_deepestVat : List mv_V → H2 → (List mv_V → H2 → O2) → O2 := fun as h k => match as with
  | [.inr (t0, o0), .inr (t1, o1), .inl (.int v2), .inl (.int v3)] => mv_gd (Nat.beq t0 1) <| mv_gd (Nat.beq t1 2) <| mv_rI (fF_deepestVat o0 o1 v2 v3 h) fun x h => k [.inl (.int x)] h
  | _ => none
def fF_deepestKind_b9 : Nat → Nat → Nat → Int32 → Int32 → Int32 → Int32 → Int32 → H2 → O2
  | 0 => fun _ _ _ _ _ _ _ _ => none
  | n + 1 => fun o0 o1 v2 v3 v4 v5 v6 h =>
    if (nI 6) ≤ v6 then (
      some ([Sum.inl (Value.int v4)], h))
    else
    mv_rV (fM_copyFrom 3 o1 h) fun h1 =>
    mv_gd (mv_inb v2 8) <|
    mv_bh (wI2 h1 304 3 v2.toNatClampNeg v6) fun h2 =>
    mv_rV (fM_passDays 3 v3 h2) fun h3 =>
    mv_gd (mv_inb v2 8) <|
    if (rI2 h3 306 3 v2.toNatClampNeg) ≤ v5 then (
      mv_bi (v6 + (nI 1)) fun x4 =>
      fF_deepestKind_b9 n o0 o1 v2 v3 v4 v5 x4 h3)
    else
    mv_gd (mv_inb v2 8) <|
    mv_bi (rI2 h3 306 3 v2.toNatClampNeg) fun x5 =>
    mv_bi v6 fun x6 =>
    mv_bi (v6 + (nI 1)) fun x7 =>
    fF_deepestKind_b9 n o0 o1 v2 v3 x6 x5 x7 h3
def fF_deepestKind (o0 : Nat) (o1 : Nat) (v2 : Int32) (v3 : Int32) (h : H2) : O2 :=
  mv_bi (nI 0) fun x1 =>
  mv_bi (-(nI 1)) fun x2 =>
  mv_bi (nI 0) fun x3 =>
  fF_deepestKind_b9 1000 o0 o1 v2 v3 x1 x2 x3 h
def cF_deepestKind : List mv_V → H2 → (List mv_V → H2 → O2) → O2 := fun as h k => match as with
  | [.inr (t0, o0), .inr (t1, o1), .inl (.int v2), .inl (.int v3)] => mv_gd (Nat.beq t0 1) <| mv_gd (Nat.beq t1 2) <| mv_rI (fF_deepestKind o0 o1 v2 v3 h) fun x h => k [.inl (.int x)] h
  | _ => none
def fF_leastStrength_b3 : Nat → Nat → Nat → Int32 → Int32 → Int32 → Int32 → Int32 → H2 → O2
  | 0 => fun _ _ _ _ _ _ _ _ => none
  | n + 1 => fun o0 o1 v2 v3 v4 v5 v6 h =>
    if (nI 9) < v6 then (
      some ([Sum.inl (Value.int (-(nI 3)))], h))
    else
    mv_rV (fM_copyFrom 3 o1 h) fun h1 =>
    mv_gd (mv_inb v2 8) <|
    mv_bh (wI2 h1 302 3 v2.toNatClampNeg v6) fun h2 =>
    mv_rV (fM_passDays 3 v5 h2) fun h3 =>
    mv_gd (mv_inb v3 8) <|
    if (rI2 h3 305 3 v3.toNatClampNeg) = v4 then (
      some ([Sum.inl (Value.int v6)], h3))
    else
    mv_bi (v6 + (nI 1)) fun x4 =>
    fF_leastStrength_b3 n o0 o1 v2 v3 v4 v5 x4 h3
def fF_leastStrength (o0 : Nat) (o1 : Nat) (v2 : Int32) (v3 : Int32) (v4 : Int32) (v5 : Int32) (h : H2) : O2 :=
  mv_bi (nI 0) fun x1 =>
  fF_leastStrength_b3 1000 o0 o1 v2 v3 v4 v5 x1 h
def cF_leastStrength : List mv_V → H2 → (List mv_V → H2 → O2) → O2 := fun as h k => match as with
  | [.inr (t0, o0), .inr (t1, o1), .inl (.int v2), .inl (.int v3), .inl (.int v4), .inl (.int v5)] => mv_gd (Nat.beq t0 1) <| mv_gd (Nat.beq t1 2) <| mv_rI (fF_leastStrength o0 o1 v2 v3 v4 v5 h) fun x h => k [.inl (.int x)] h
  | _ => none
def fJ_bitCount_0f7a4 (v0 : Int32) (h : H2) : O2 :=
  mv_bi (v0 - (((v0.toUInt32 >>> ((nI 1).toUInt32 &&& Int32.toUInt32 31)).toInt32) &&& (nI 1431655765))) fun x1 =>
  mv_bi ((x1 &&& (nI 858993459)) + (((x1.toUInt32 >>> ((nI 2).toUInt32 &&& Int32.toUInt32 31)).toInt32) &&& (nI 858993459))) fun x2 =>
  mv_bi ((x2 + ((x2.toUInt32 >>> ((nI 4).toUInt32 &&& Int32.toUInt32 31)).toInt32)) &&& (nI 252645135)) fun x3 =>
  mv_bi (x3 + ((x3.toUInt32 >>> ((nI 8).toUInt32 &&& Int32.toUInt32 31)).toInt32)) fun x4 =>
  mv_bi (x4 + ((x4.toUInt32 >>> ((nI 16).toUInt32 &&& Int32.toUInt32 31)).toInt32)) fun x5 =>
  some ([Sum.inl (Value.int (x5 &&& (nI 63)))], h)
def cJ_bitCount_0f7a4 : List mv_V → H2 → (List mv_V → H2 → O2) → O2 := fun as h k => match as with
  | [.inl (.int v0)] => mv_rI (fJ_bitCount_0f7a4 v0 h) fun x h => k [.inl (.int x)] h
  | _ => none
def fF_hangJust_b10 : Nat → Nat → Nat → Int32 → Int32 → H2 → O2
  | 0 => fun _ _ _ _ _ => none
  | n + 1 => fun o0 o1 v2 v3 h =>
    if (rI2 h 2 o1 9) ≤ v3 then (
      some ([], h))
    else
    mv_gd (mv_inb v3 8) <|
    mv_bh (wI2 h 307 3 v3.toNatClampNeg ((v2 >>> (v3 &&& 31)) &&& (nI 1))) fun h1 =>
    mv_bi (v3 + (nI 1)) fun x2 =>
    fF_hangJust_b10 n o0 o1 v2 x2 h1
def fF_hangJust (o0 : Nat) (o1 : Nat) (v2 : Int32) (h : H2) : O2 :=
  mv_rV (fM_copyFrom 3 o1 h) fun h1 =>
  mv_bi (nI 0) fun x2 =>
  fF_hangJust_b10 1000 o0 o1 v2 x2 h1
def cF_hangJust : List mv_V → H2 → (List mv_V → H2 → O2) → O2 := fun as h k => match as with
  | [.inr (t0, o0), .inr (t1, o1), .inl (.int v2)] => mv_gd (Nat.beq t0 1) <| mv_gd (Nat.beq t1 2) <| mv_rV (fF_hangJust o0 o1 v2 h) fun h => k [] h
  | _ => none
def fF_fewestHung_b23 (k11 : Nat → Nat → Int32 → Int32 → Int32 → Int32 → H2 → O2) : Nat → Nat → Nat → Int32 → Int32 → Int32 → Int32 → Int32 → H2 → O2
  | 0 => fun _ _ _ _ _ _ _ _ => none
  | n + 1 => fun o0 o1 v2 v3 v4 v5 v6 h =>
    if v4 ≤ v6 then (
      mv_bi (v5 + (nI 1)) fun x1 =>
      k11 o0 o1 v2 v3 v4 x1 h)
    else
    mv_rI (fJ_bitCount_0f7a4 v6 h) fun r3 h2 =>
    if r3 = v5 then (
      mv_rV (fF_hangJust o0 o1 v6 h2) fun h4 =>
      mv_rI (fF_spoiltFromHere o0 o1 v2 h4) fun r6 h5 =>
      if v3 < r6 then (
        mv_bi (v6 + (nI 1)) fun x7 =>
        fF_fewestHung_b23 k11 n o0 o1 v2 v3 v4 v5 x7 h5)
      else
      some ([Sum.inl (Value.int v6)], h5))
    else
    mv_bi (v6 + (nI 1)) fun x8 =>
    fF_fewestHung_b23 k11 n o0 o1 v2 v3 v4 v5 x8 h2
def fF_fewestHung_b11 : Nat → Nat → Nat → Int32 → Int32 → Int32 → Int32 → H2 → O2
  | 0 => fun _ _ _ _ _ _ _ => none
  | n + 1 => fun o0 o1 v2 v3 v4 v5 h =>
    if (rI2 h 2 o1 9) < v5 then (
      some ([Sum.inl (Value.int (-(nI 3)))], h))
    else
    mv_bi (nI 0) fun x1 =>
    fF_fewestHung_b23 (fF_fewestHung_b11 n) 1000 o0 o1 v2 v3 v4 v5 x1 h
def fF_fewestHung (o0 : Nat) (o1 : Nat) (v2 : Int32) (v3 : Int32) (h : H2) : O2 :=
  mv_bi ((nI 1) <<< ((rI2 h 2 o1 9) &&& 31)) fun x1 =>
  mv_bi (nI 0) fun x2 =>
  fF_fewestHung_b11 1000 o0 o1 v2 v3 x1 x2 h
def cF_fewestHung : List mv_V → H2 → (List mv_V → H2 → O2) → O2 := fun as h k => match as with
  | [.inr (t0, o0), .inr (t1, o1), .inl (.int v2), .inl (.int v3)] => mv_gd (Nat.beq t0 1) <| mv_gd (Nat.beq t1 2) <| mv_rI (fF_fewestHung o0 o1 v2 v3 h) fun x h => k [.inl (.int x)] h
  | _ => none
def fS_size (o0 : Nat) (h : H2) : O2 :=
  mv_el (itm2 h o0) (
    none) fun r1 =>
  some ([Sum.inl (Value.int (nI (ln2 h 501 r1)))], h)
def cS_size : List mv_V → H2 → (List mv_V → H2 → O2) → O2 := fun as h k => match as with
  | [.inr (t0, o0)] => mv_gd (Nat.beq t0 4) <| mv_rI (fS_size o0 h) fun x h => k [.inl (.int x)] h
  | _ => none
def fS_read (o0 : Nat) (v1 : Int32) (h : H2) : O2 :=
  mv_el (itm2 h o0) (
    none) fun r1 =>
  mv_gd (mv_inb v1 (ln2 h 501 r1)) <|
  some ([Sum.inl (Value.int (rI2 h 501 r1 v1.toNatClampNeg))], h)
def cS_read : List mv_V → H2 → (List mv_V → H2 → O2) → O2 := fun as h k => match as with
  | [.inr (t0, o0), .inl (.int v1)] => mv_gd (Nat.beq t0 4) <| mv_rI (fS_read o0 v1 h) fun x h => k [.inl (.int x)] h
  | _ => none
def fF_fitsAs_b28 : Nat → Nat → Int32 → Nat → Int32 → Int32 → H2 → O2
  | 0 => fun _ _ _ _ _ _ => none
  | n + 1 => fun o0 v2 o4 v5 v6 h =>
    if v5 ≤ v6 then (
      mv_gd (decide (nI 1 = nI 0) || decide (nI 1 = nI 1)) <| some ([Sum.inl (Value.int (nI 1))], h))
    else
    mv_rV (fM_passDay 3 h) fun h1 =>
    mv_rI (fS_read o4 v6 h1) fun r3 h2 =>
    mv_bi r3 fun x4 =>
    if x4 = (-(nI 1)) then (
      mv_bi (v6 + (nI 1)) fun x5 =>
      fF_fitsAs_b28 n o0 v2 o4 v5 x5 h2)
    else
    mv_gd (mv_inb v2 8) <|
    if x4 = (rI2 h2 306 3 v2.toNatClampNeg) then (
      mv_bi (v6 + (nI 1)) fun x6 =>
      fF_fitsAs_b28 n o0 v2 o4 v5 x6 h2)
    else
    mv_gd (decide (nI 0 = nI 0) || decide (nI 0 = nI 1)) <| some ([Sum.inl (Value.int (nI 0))], h2)
def fF_fitsAs (o0 : Nat) (o1 : Nat) (v2 : Int32) (v3 : Int32) (o4 : Nat) (h : H2) : O2 :=
  mv_rV (fM_copyFrom 3 o1 h) fun h1 =>
  mv_gd (mv_inb v2 8) <|
  mv_bh (wI2 h1 305 3 v2.toNatClampNeg v3) fun h2 =>
  mv_rI (fS_size o4 h2) fun r4 h3 =>
  mv_bi r4 fun x5 =>
  mv_bi (nI 0) fun x6 =>
  fF_fitsAs_b28 1000 o0 v2 o4 x5 x6 h3
def cF_fitsAs : List mv_V → H2 → (List mv_V → H2 → O2) → O2 := fun as h k => match as with
  | [.inr (t0, o0), .inr (t1, o1), .inl (.int v2), .inl (.int v3), .inr (t4, o4)] => mv_gd (Nat.beq t0 1) <| mv_gd (Nat.beq t1 2) <| mv_gd (Nat.beq t4 4) <| mv_rI (fF_fitsAs o0 o1 v2 v3 o4 h) fun x h => k [.inl (.int x)] h
  | _ => none
def fF_manyFitting_b32 : Nat → Nat → Nat → Int32 → Nat → Int32 → Int32 → H2 → O2
  | 0 => fun _ _ _ _ _ _ _ => none
  | n + 1 => fun o0 o1 v2 o3 v4 v5 h =>
    if (nI 9) < v5 then (
      some ([Sum.inl (Value.int v4)], h))
    else
    mv_rI (fF_fitsAs o0 o1 v2 v5 o3 h) fun r2 h1 =>
    if r2 = 0 then (
      mv_bi (v5 + (nI 1)) fun x3 =>
      fF_manyFitting_b32 n o0 o1 v2 o3 v4 x3 h1)
    else
    mv_bi (v4 + (nI 1)) fun x4 =>
    mv_bi (v5 + (nI 1)) fun x5 =>
    fF_manyFitting_b32 n o0 o1 v2 o3 x4 x5 h1
def fF_manyFitting (o0 : Nat) (o1 : Nat) (v2 : Int32) (o3 : Nat) (h : H2) : O2 :=
  mv_gd (mv_inb v2 8) <|
  if (rI2 h 306 o1 v2.toNatClampNeg) = 0 then (
    mv_rI (fF_fitsAs o0 o1 v2 (-(nI 1)) o3 h) fun r2 h1 =>
    if r2 = 0 then (
      some ([Sum.inl (Value.int (nI 0))], h1))
    else
    some ([Sum.inl (Value.int (nI 1))], h1))
  else
  mv_bi (nI 0) fun x3 =>
  mv_bi (nI 0) fun x4 =>
  fF_manyFitting_b32 1000 o0 o1 v2 o3 x3 x4 h
def cF_manyFitting : List mv_V → H2 → (List mv_V → H2 → O2) → O2 := fun as h k => match as with
  | [.inr (t0, o0), .inr (t1, o1), .inl (.int v2), .inr (t3, o3)] => mv_gd (Nat.beq t0 1) <| mv_gd (Nat.beq t1 2) <| mv_gd (Nat.beq t3 4) <| mv_rI (fF_manyFitting o0 o1 v2 o3 h) fun x h => k [.inl (.int x)] h
  | _ => none
def fF_leastFitting_b30 : Nat → Nat → Nat → Int32 → Nat → Int32 → H2 → O2
  | 0 => fun _ _ _ _ _ _ => none
  | n + 1 => fun o0 o1 v2 o3 v4 h =>
    if (nI 9) < v4 then (
      some ([Sum.inl (Value.int (-(nI 3)))], h))
    else
    mv_rI (fF_fitsAs o0 o1 v2 v4 o3 h) fun r2 h1 =>
    if r2 = 0 then (
      mv_bi (v4 + (nI 1)) fun x3 =>
      fF_leastFitting_b30 n o0 o1 v2 o3 x3 h1)
    else
    some ([Sum.inl (Value.int ((nI 1) + v4))], h1)
def fF_leastFitting (o0 : Nat) (o1 : Nat) (v2 : Int32) (o3 : Nat) (h : H2) : O2 :=
  mv_gd (mv_inb v2 8) <|
  if (rI2 h 306 o1 v2.toNatClampNeg) = 0 then (
    mv_rI (fF_fitsAs o0 o1 v2 (-(nI 1)) o3 h) fun r2 h1 =>
    if r2 = 0 then (
      some ([Sum.inl (Value.int (-(nI 3)))], h1))
    else
    some ([Sum.inl (Value.int (nI 0))], h1))
  else
  mv_bi (nI 0) fun x3 =>
  fF_leastFitting_b30 1000 o0 o1 v2 o3 x3 h
def cF_leastFitting : List mv_V → H2 → (List mv_V → H2 → O2) → O2 := fun as h k => match as with
  | [.inr (t0, o0), .inr (t1, o1), .inl (.int v2), .inr (t3, o3)] => mv_gd (Nat.beq t0 1) <| mv_gd (Nat.beq t1 2) <| mv_gd (Nat.beq t3 4) <| mv_rI (fF_leastFitting o0 o1 v2 o3 h) fun x h => k [.inl (.int x)] h
  | _ => none
def fF_rowPart (o0 : Nat) (v1 : Int32) (v2 : Int32) (h : H2) : O2 :=
  if v2 = nI 0 then (
    mv_gd (mv_inb v1 8) <|
    some ([Sum.inl (Value.int ((nI 1) + (rI2 h 305 3 v1.toNatClampNeg)))], h))
  else
  if v2 = nI 1 then (
    mv_gd (mv_inb v1 8) <|
    some ([Sum.inl (Value.int (rI2 h 306 3 v1.toNatClampNeg))], h))
  else
  mv_rI (fM_allDepths 3 h) fun r2 h1 =>
  some ([Sum.inl (Value.int r2)], h1)
def cF_rowPart : List mv_V → H2 → (List mv_V → H2 → O2) → O2 := fun as h k => match as with
  | [.inr (t0, o0), .inl (.int v1), .inl (.int v2)] => mv_gd (Nat.beq t0 1) <| mv_rI (fF_rowPart o0 v1 v2 h) fun x h => k [.inl (.int x)] h
  | _ => none
def fR_write (o0 : Nat) (v1 : Int32) (v2 : Int32) (v3 : Int32) (h : H2) : O2 :=
  mv_gd (mv_inb ((v1 * (nI 3)) + v2) 30) <|
  mv_bh (wI2 h 400 o0 ((v1 * (nI 3)) + v2).toNatClampNeg v3) fun h1 =>
  some ([], h1)
def cR_write : List mv_V → H2 → (List mv_V → H2 → O2) → O2 := fun as h k => match as with
  | [.inr (t0, o0), .inl (.int v1), .inl (.int v2), .inl (.int v3)] => mv_gd (Nat.beq t0 3) <| mv_rV (fR_write o0 v1 v2 v3 h) fun h => k [] h
  | _ => none
def fF_writeRows_b33 (k17 : Nat → Int32 → Int32 → Nat → Int32 → H2 → O2) : Nat → Nat → Int32 → Int32 → Nat → Int32 → Int32 → H2 → O2
  | 0 => fun _ _ _ _ _ _ _ => none
  | n + 1 => fun o0 v2 v3 o4 v5 v6 h =>
    if (nI 3) ≤ v6 then (
      mv_bi (v5 + (nI 1)) fun x1 =>
      k17 o0 v2 v3 o4 x1 h)
    else
    mv_rI (fF_rowPart o0 v2 v6 h) fun r3 h2 =>
    mv_rV (fR_write o4 v5 v6 r3 h2) fun h4 =>
    mv_bi (v6 + (nI 1)) fun x5 =>
    fF_writeRows_b33 k17 n o0 v2 v3 o4 v5 x5 h4
def fF_writeRows_b17 : Nat → Nat → Int32 → Int32 → Nat → Int32 → H2 → O2
  | 0 => fun _ _ _ _ _ _ => none
  | n + 1 => fun o0 v2 v3 o4 v5 h =>
    if v3 ≤ v5 then (
      some ([], h))
    else
    mv_rV (fM_passDay 3 h) fun h1 =>
    mv_bi (nI 0) fun x2 =>
    fF_writeRows_b33 (fF_writeRows_b17 n) 1000 o0 v2 v3 o4 v5 x2 h1
def fF_writeRows (o0 : Nat) (o1 : Nat) (v2 : Int32) (v3 : Int32) (o4 : Nat) (h : H2) : O2 :=
  mv_rV (fM_copyFrom 3 o1 h) fun h1 =>
  mv_bh (wI2 h1 3 o4 1 v3) fun h2 =>
  mv_bi (nI 0) fun x3 =>
  fF_writeRows_b17 1000 o0 v2 v3 o4 x3 h2
def cF_writeRows : List mv_V → H2 → (List mv_V → H2 → O2) → O2 := fun as h k => match as with
  | [.inr (t0, o0), .inr (t1, o1), .inl (.int v2), .inl (.int v3), .inr (t4, o4)] => mv_gd (Nat.beq t0 1) <| mv_gd (Nat.beq t1 2) <| mv_gd (Nat.beq t4 3) <| mv_rV (fF_writeRows o0 o1 v2 v3 o4 h) fun h => k [] h
  | _ => none
def fR_read (o0 : Nat) (v1 : Int32) (v2 : Int32) (h : H2) : O2 :=
  mv_gd (mv_inb ((v1 * (nI 3)) + v2) 30) <|
  some ([Sum.inl (Value.int (rI2 h 400 o0 ((v1 * (nI 3)) + v2).toNatClampNeg))], h)
def cR_read : List mv_V → H2 → (List mv_V → H2 → O2) → O2 := fun as h k => match as with
  | [.inr (t0, o0), .inl (.int v1), .inl (.int v2)] => mv_gd (Nat.beq t0 3) <| mv_rI (fR_read o0 v1 v2 h) fun x h => k [.inl (.int x)] h
  | _ => none
def fF_firstWrongRow_b30 (k11 : Nat → Int32 → Nat → Int32 → H2 → O2) : Nat → Nat → Int32 → Nat → Int32 → Int32 → H2 → O2
  | 0 => fun _ _ _ _ _ _ => none
  | n + 1 => fun o0 v2 o3 v4 v5 h =>
    if (nI 3) ≤ v5 then (
      mv_bi (v4 + (nI 1)) fun x1 =>
      k11 o0 v2 o3 x1 h)
    else
    mv_rI (fR_read o3 v4 v5 h) fun r3 h2 =>
    mv_rI (fF_rowPart o0 v2 v5 h2) fun r5 h4 =>
    if r3 = r5 then (
      mv_bi (v5 + (nI 1)) fun x6 =>
      fF_firstWrongRow_b30 k11 n o0 v2 o3 v4 x6 h4)
    else
    some ([Sum.inl (Value.int (v4 + (nI 1)))], h4)
def fF_firstWrongRow_b11 : Nat → Nat → Int32 → Nat → Int32 → H2 → O2
  | 0 => fun _ _ _ _ _ => none
  | n + 1 => fun o0 v2 o3 v4 h =>
    if (rI2 h 3 o3 1) ≤ v4 then (
      some ([Sum.inl (Value.int (nI 0))], h))
    else
    mv_rV (fM_passDay 3 h) fun h1 =>
    mv_bi (nI 0) fun x2 =>
    fF_firstWrongRow_b30 (fF_firstWrongRow_b11 n) 1000 o0 v2 o3 v4 x2 h1
def fF_firstWrongRow (o0 : Nat) (o1 : Nat) (v2 : Int32) (o3 : Nat) (h : H2) : O2 :=
  mv_rV (fM_copyFrom 3 o1 h) fun h1 =>
  mv_bi (nI 0) fun x2 =>
  fF_firstWrongRow_b11 1000 o0 v2 o3 x2 h1
def cF_firstWrongRow : List mv_V → H2 → (List mv_V → H2 → O2) → O2 := fun as h k => match as with
  | [.inr (t0, o0), .inr (t1, o1), .inl (.int v2), .inr (t3, o3)] => mv_gd (Nat.beq t0 1) <| mv_gd (Nat.beq t1 2) <| mv_gd (Nat.beq t3 3) <| mv_rI (fF_firstWrongRow o0 o1 v2 o3 h) fun x h => k [.inl (.int x)] h
  | _ => none
def fM_becomeFirst_b59 : Nat → Nat → Int32 → H2 → O2
  | 0 => fun _ _ _ => none
  | n + 1 => fun o0 v1 h =>
    if (nI 6) ≤ v1 then (
      mv_bh (wI2 h 2 o0 9 (nI 0)) fun h1 =>
      mv_bh (wI2 h1 2 o0 10 (nI 0)) fun h2 =>
      some ([], h2))
    else
    mv_gd (mv_inb v1 6) <|
    mv_bh (wI2 h 303 o0 v1.toNatClampNeg v1) fun h3 =>
    mv_bi (v1 + (nI 1)) fun x4 =>
    fM_becomeFirst_b59 n o0 x4 h3
def fM_becomeFirst_b31 : Nat → Nat → Int32 → H2 → O2
  | 0 => fun _ _ _ => none
  | n + 1 => fun o0 v1 h =>
    if (nI 8) ≤ v1 then (
      mv_bi (nI 0) fun x1 =>
      fM_becomeFirst_b59 1000 o0 x1 h)
    else
    mv_gd (mv_inb v1 8) <|
    mv_bh (wI2 h 301 o0 v1.toNatClampNeg v1) fun h2 =>
    mv_gd (mv_inb v1 8) <|
    mv_bh (wI2 h2 302 o0 v1.toNatClampNeg (nI 5)) fun h3 =>
    mv_bi (v1 + (nI 1)) fun x4 =>
    fM_becomeFirst_b31 n o0 x4 h3
def fM_becomeFirst (o0 : Nat) (h : H2) : O2 :=
  mv_gd (mv_inb (nI 0) 4) <|
  mv_bh (wI2 h 300 o0 (nI 0).toNatClampNeg (nI 3)) fun h1 =>
  mv_gd (mv_inb (nI 1) 4) <|
  mv_bh (wI2 h1 300 o0 (nI 1).toNatClampNeg (nI 2)) fun h2 =>
  mv_gd (mv_inb (nI 2) 4) <|
  mv_bh (wI2 h2 300 o0 (nI 2).toNatClampNeg (nI 4)) fun h3 =>
  mv_gd (mv_inb (nI 3) 4) <|
  mv_bh (wI2 h3 300 o0 (nI 3).toNatClampNeg (nI 20)) fun h4 =>
  mv_bi (nI 0) fun x5 =>
  fM_becomeFirst_b31 1000 o0 x5 h4
def cM_becomeFirst : List mv_V → H2 → (List mv_V → H2 → O2) → O2 := fun as h k => match as with
  | [.inr (t0, o0)] => mv_gd (Nat.beq t0 2) <| mv_rV (fM_becomeFirst o0 h) fun h => k [] h
  | _ => none
def fV_isIn (v0 : Int32) (v1 : Int32) (v2 : Int32) (h : H2) : O2 :=
  if v0 < v1 then (
    mv_gd (decide (nI 0 = nI 0) || decide (nI 0 = nI 1)) <| some ([Sum.inl (Value.int (nI 0))], h))
  else
  if v2 < v0 then (
    mv_gd (decide (nI 0 = nI 0) || decide (nI 0 = nI 1)) <| some ([Sum.inl (Value.int (nI 0))], h))
  else
  mv_gd (decide (nI 1 = nI 0) || decide (nI 1 = nI 1)) <| some ([Sum.inl (Value.int (nI 1))], h)
def cV_isIn : List mv_V → H2 → (List mv_V → H2 → O2) → O2 := fun as h k => match as with
  | [.inl (.int v0), .inl (.int v1), .inl (.int v2)] => mv_rI (fV_isIn v0 v1 v2 h) fun x h => k [.inl (.int x)] h
  | _ => none
def fM_has (o0 : Nat) (v1 : Int32) (h : H2) : O2 :=
  mv_rI (fV_isIn v1 (nI 0) ((rI2 h 2 o0 9) - (nI 1)) h) fun r2 h1 =>
  mv_gd (decide (r2 = nI 0) || decide (r2 = nI 1)) <| some ([Sum.inl (Value.int r2)], h1)
def cM_has : List mv_V → H2 → (List mv_V → H2 → O2) → O2 := fun as h k => match as with
  | [.inr (t0, o0), .inl (.int v1)] => mv_gd (Nat.beq t0 2) <| mv_rI (fM_has o0 v1 h) fun x h => k [.inl (.int x)] h
  | _ => none
def fM_addCloth (o0 : Nat) (v1 : Int32) (h : H2) : O2 :=
  mv_bi (rI2 h 2 o0 9) fun x1 =>
  mv_gd (mv_inb x1 8) <|
  mv_bh (wI2 h 304 o0 x1.toNatClampNeg v1) fun h2 =>
  mv_gd (mv_inb x1 8) <|
  mv_bh (wI2 h2 305 o0 x1.toNatClampNeg (-(nI 1))) fun h3 =>
  mv_gd (mv_inb x1 8) <|
  mv_bh (wI2 h3 306 o0 x1.toNatClampNeg (nI 0)) fun h4 =>
  mv_gd (mv_inb x1 8) <|
  mv_bh (wI2 h4 307 o0 x1.toNatClampNeg (nI 0)) fun h5 =>
  mv_gd (mv_inb x1 8) <|
  mv_bh (wI2 h5 308 o0 x1.toNatClampNeg (nI 0)) fun h6 =>
  mv_bh (wI2 h6 2 o0 9 ((rI2 h6 2 o0 9) + (nI 1))) fun h7 =>
  some ([Sum.inl (Value.int x1)], h7)
def cM_addCloth : List mv_V → H2 → (List mv_V → H2 → O2) → O2 := fun as h k => match as with
  | [.inr (t0, o0), .inl (.int v1)] => mv_gd (Nat.beq t0 2) <| mv_rI (fM_addCloth o0 v1 h) fun x h => k [.inl (.int x)] h
  | _ => none
def fM_hungSet_b4 : Nat → Nat → Int32 → Int32 → H2 → O2
  | 0 => fun _ _ _ _ => none
  | n + 1 => fun o0 v1 v2 h =>
    if (rI2 h 2 o0 9) ≤ v2 then (
      some ([Sum.inl (Value.int v1)], h))
    else
    mv_gd (mv_inb v2 8) <|
    if (rI2 h 307 o0 v2.toNatClampNeg) = (nI 1) then (
      mv_bi (v1 ||| ((nI 1) <<< (v2 &&& 31))) fun x1 =>
      mv_bi (v2 + (nI 1)) fun x2 =>
      fM_hungSet_b4 n o0 x1 x2 h)
    else
    mv_bi (v2 + (nI 1)) fun x3 =>
    fM_hungSet_b4 n o0 v1 x3 h
def fM_hungSet (o0 : Nat) (h : H2) : O2 :=
  mv_bi (nI 0) fun x1 =>
  mv_bi (nI 0) fun x2 =>
  fM_hungSet_b4 1000 o0 x1 x2 h
def cM_hungSet : List mv_V → H2 → (List mv_V → H2 → O2) → O2 := fun as h k => match as with
  | [.inr (t0, o0)] => mv_gd (Nat.beq t0 2) <| mv_rI (fM_hungSet o0 h) fun x h => k [.inl (.int x)] h
  | _ => none
def fM_aboutSet_b4 : Nat → Nat → Int32 → Int32 → H2 → O2
  | 0 => fun _ _ _ _ => none
  | n + 1 => fun o0 v1 v2 h =>
    if (rI2 h 2 o0 9) ≤ v2 then (
      some ([Sum.inl (Value.int v1)], h))
    else
    mv_gd (mv_inb v2 8) <|
    if (rI2 h 305 o0 v2.toNatClampNeg) = (-(nI 1)) then (
      mv_bi (v2 + (nI 1)) fun x1 =>
      fM_aboutSet_b4 n o0 v1 x1 h)
    else
    mv_bi (v1 ||| ((nI 1) <<< (v2 &&& 31))) fun x2 =>
    mv_bi (v2 + (nI 1)) fun x3 =>
    fM_aboutSet_b4 n o0 x2 x3 h
def fM_aboutSet (o0 : Nat) (h : H2) : O2 :=
  mv_bi (nI 0) fun x1 =>
  mv_bi (nI 0) fun x2 =>
  fM_aboutSet_b4 1000 o0 x1 x2 h
def cM_aboutSet : List mv_V → H2 → (List mv_V → H2 → O2) → O2 := fun as h k => match as with
  | [.inr (t0, o0)] => mv_gd (Nat.beq t0 2) <| mv_rI (fM_aboutSet o0 h) fun x h => k [.inl (.int x)] h
  | _ => none
def fM_purposeSet_b4 : Nat → Nat → Int32 → Int32 → H2 → O2
  | 0 => fun _ _ _ _ => none
  | n + 1 => fun o0 v1 v2 h =>
    if (rI2 h 2 o0 9) ≤ v2 then (
      some ([Sum.inl (Value.int v1)], h))
    else
    mv_gd (mv_inb v2 8) <|
    if (rI2 h 305 o0 v2.toNatClampNeg) = (-(nI 1)) then (
      mv_bi (v2 + (nI 1)) fun x1 =>
      fM_purposeSet_b4 n o0 v1 x1 h)
    else
    mv_gd (mv_inb v2 8) <|
    mv_bi (v1 ||| ((nI 1) <<< ((rI2 h 305 o0 v2.toNatClampNeg) &&& 31))) fun x2 =>
    mv_bi (v2 + (nI 1)) fun x3 =>
    fM_purposeSet_b4 n o0 x2 x3 h
def fM_purposeSet (o0 : Nat) (h : H2) : O2 :=
  mv_bi (nI 0) fun x1 =>
  mv_bi (nI 0) fun x2 =>
  fM_purposeSet_b4 1000 o0 x1 x2 h
def cM_purposeSet : List mv_V → H2 → (List mv_V → H2 → O2) → O2 := fun as h k => match as with
  | [.inr (t0, o0)] => mv_gd (Nat.beq t0 2) <| mv_rI (fM_purposeSet o0 h) fun x h => k [.inl (.int x)] h
  | _ => none
def fM_isForOdds (o0 : Nat) (v1 : Int32) (h : H2) : O2 :=
  mv_gd (mv_inb v1 8) <|
  if (rI2 h 307 o0 v1.toNatClampNeg) = 0 then (
    mv_gd (mv_inb v1 8) <|
    if (rI2 h 305 o0 v1.toNatClampNeg) = (-(nI 1)) then (
      mv_gd (decide (nI 0 = nI 0) || decide (nI 0 = nI 1)) <| some ([Sum.inl (Value.int (nI 0))], h))
    else
    mv_gd (decide (nI 1 = nI 0) || decide (nI 1 = nI 1)) <| some ([Sum.inl (Value.int (nI 1))], h))
  else
  mv_gd (decide (nI 0 = nI 0) || decide (nI 0 = nI 1)) <| some ([Sum.inl (Value.int (nI 0))], h)
def cM_isForOdds : List mv_V → H2 → (List mv_V → H2 → O2) → O2 := fun as h k => match as with
  | [.inr (t0, o0), .inl (.int v1)] => mv_gd (Nat.beq t0 2) <| mv_rI (fM_isForOdds o0 v1 h) fun x h => k [.inl (.int x)] h
  | _ => none
def fM_oddPairs_b16 (k4 : Nat → Int32 → Int32 → H2 → O2) : Nat → Nat → Int32 → Int32 → Int32 → H2 → O2
  | 0 => fun _ _ _ _ _ => none
  | n + 1 => fun o0 v1 v2 v3 h =>
    if (rI2 h 2 o0 9) ≤ v3 then (
      mv_bi (v2 + (nI 1)) fun x1 =>
      k4 o0 v1 x1 h)
    else
    mv_gd (mv_inb v2 8) <|
    mv_gd (mv_inb v3 8) <|
    if (rI2 h 305 o0 v2.toNatClampNeg) = (rI2 h 305 o0 v3.toNatClampNeg) then (
      mv_bi (v3 + (nI 1)) fun x2 =>
      fM_oddPairs_b16 k4 n o0 v1 v2 x2 h)
    else
    mv_rI (fM_isForOdds o0 v2 h) fun r4 h3 =>
    if r4 = 0 then (
      mv_bi (v3 + (nI 1)) fun x5 =>
      fM_oddPairs_b16 k4 n o0 v1 v2 x5 h3)
    else
    mv_rI (fM_isForOdds o0 v3 h3) fun r7 h6 =>
    if r7 = 0 then (
      mv_bi (v3 + (nI 1)) fun x8 =>
      fM_oddPairs_b16 k4 n o0 v1 v2 x8 h6)
    else
    mv_bi (v1 + (nI 1)) fun x9 =>
    mv_bi (v3 + (nI 1)) fun x10 =>
    fM_oddPairs_b16 k4 n o0 x9 v2 x10 h6
def fM_oddPairs_b4 : Nat → Nat → Int32 → Int32 → H2 → O2
  | 0 => fun _ _ _ _ => none
  | n + 1 => fun o0 v1 v2 h =>
    if (rI2 h 2 o0 9) ≤ v2 then (
      some ([Sum.inl (Value.int v1)], h))
    else
    mv_bi (v2 + (nI 1)) fun x1 =>
    fM_oddPairs_b16 (fM_oddPairs_b4 n) 1000 o0 v1 v2 x1 h
def fM_oddPairs (o0 : Nat) (h : H2) : O2 :=
  mv_bi (nI 0) fun x1 =>
  mv_bi (nI 0) fun x2 =>
  fM_oddPairs_b4 1000 o0 x1 x2 h
def cM_oddPairs : List mv_V → H2 → (List mv_V → H2 → O2) → O2 := fun as h k => match as with
  | [.inr (t0, o0)] => mv_gd (Nat.beq t0 2) <| mv_rI (fM_oddPairs o0 h) fun x h => k [.inl (.int x)] h
  | _ => none
def fR_has (o0 : Nat) (v1 : Int32) (v2 : Int32) (h : H2) : O2 :=
  mv_rI (fV_isIn v1 (nI 0) ((rI2 h 3 o0 1) - (nI 1)) h) fun r2 h1 =>
  if r2 = 0 then (
    mv_gd (decide (nI 0 = nI 0) || decide (nI 0 = nI 1)) <| some ([Sum.inl (Value.int (nI 0))], h1))
  else
  mv_rI (fV_isIn v2 (nI 0) (nI 2) h1) fun r4 h3 =>
  if r4 = 0 then (
    mv_gd (decide (nI 0 = nI 0) || decide (nI 0 = nI 1)) <| some ([Sum.inl (Value.int (nI 0))], h3))
  else
  mv_gd (decide (nI 1 = nI 0) || decide (nI 1 = nI 1)) <| some ([Sum.inl (Value.int (nI 1))], h3)
def cR_has : List mv_V → H2 → (List mv_V → H2 → O2) → O2 := fun as h k => match as with
  | [.inr (t0, o0), .inl (.int v1), .inl (.int v2)] => mv_gd (Nat.beq t0 3) <| mv_rI (fR_has o0 v1 v2 h) fun x h => k [.inl (.int x)] h
  | _ => none
def fS_init (o0 : Nat) (v1 : Int32) (v2 : Int32) (h : H2) : O2 :=
  mv_bh (wI2 h 4 o0 0 v1) fun h1 =>
  mv_gd (!decide (v2 < 0) && (Nat.ble v2.toNatClampNeg 1000 && Nat.ble (0 + v2.toNatClampNeg) 40)) <|
  nw2 h1 501 v2.toNatClampNeg fun r2 h3 =>
  wR2 h3 4 o0 1 (some (501, r2)) fun h4 =>
  some ([], h4)
def cS_init : List mv_V → H2 → (List mv_V → H2 → O2) → O2 := fun as h k => match as with
  | [.inr (t0, o0), .inl (.int v1), .inl (.int v2)] => mv_gd (Nat.beq t0 4) <| mv_rV (fS_init o0 v1 v2 h) fun h => k [] h
  | _ => none
def fS_has (o0 : Nat) (v1 : Int32) (h : H2) : O2 :=
  mv_el (itm2 h o0) (
    none) fun r1 =>
  mv_rI (fV_isIn v1 (nI 0) ((nI (ln2 h 501 r1)) - (nI 1)) h) fun r3 h2 =>
  mv_gd (decide (r3 = nI 0) || decide (r3 = nI 1)) <| some ([Sum.inl (Value.int r3)], h2)
def cS_has : List mv_V → H2 → (List mv_V → H2 → O2) → O2 := fun as h k => match as with
  | [.inr (t0, o0), .inl (.int v1)] => mv_gd (Nat.beq t0 4) <| mv_rI (fS_has o0 v1 h) fun x h => k [.inl (.int x)] h
  | _ => none
def fS_write (o0 : Nat) (v1 : Int32) (v2 : Int32) (h : H2) : O2 :=
  if (rI2 h 4 o0 0) = 0 then (
    mv_el (itm2 h o0) (
      none) fun r1 =>
    mv_gd (mv_inb v1 (ln2 h 501 r1)) <|
    mv_bh (wI2 h 501 r1 v1.toNatClampNeg v2.toInt8.toInt32) fun h2 =>
    some ([], h2))
  else
  if (rI2 h 4 o0 0) = (nI 1) then (
    mv_el (itm2 h o0) (
      none) fun r3 =>
    mv_gd (mv_inb v1 (ln2 h 501 r3)) <|
    mv_bh (wI2 h 501 r3 v1.toNatClampNeg v2.toInt16.toInt32) fun h4 =>
    some ([], h4))
  else
  mv_el (itm2 h o0) (
    none) fun r5 =>
  mv_gd (mv_inb v1 (ln2 h 501 r5)) <|
  mv_bh (wI2 h 501 r5 v1.toNatClampNeg v2) fun h6 =>
  some ([], h6)
def cS_write : List mv_V → H2 → (List mv_V → H2 → O2) → O2 := fun as h k => match as with
  | [.inr (t0, o0), .inl (.int v1), .inl (.int v2)] => mv_gd (Nat.beq t0 4) <| mv_rV (fS_write o0 v1 v2 h) fun h => k [] h
  | _ => none
def fH_holdCloth (o0 : Nat) (v1 : Int32) (v2 : Int32) (h : H2) : O2 :=
  mv_gd (mv_inb v1 4) <|
  mv_bh (wI2 h 600 0 v1.toNatClampNeg v2) fun h1 =>
  mv_gd (mv_inb v1 4) <|
  wR2 h1 601 0 v1.toNatClampNeg none fun h2 =>
  some ([], h2)
def cH_holdCloth : List mv_V → H2 → (List mv_V → H2 → O2) → O2 := fun as h k => match as with
  | [.inr (t0, o0), .inl (.int v1), .inl (.int v2)] => mv_gd (Nat.beq t0 5) <| mv_rV (fH_holdCloth o0 v1 v2 h) fun h => k [] h
  | _ => none
def fH_holdRow_n (o0 : Nat) (v1 : Int32) (h : H2) : O2 :=
  mv_gd (mv_inb v1 4) <|
  mv_bh (wI2 h 600 0 v1.toNatClampNeg (-(nI 1))) fun h1 =>
  mv_gd (mv_inb v1 4) <|
  wR2 h1 601 0 v1.toNatClampNeg none fun h2 =>
  some ([], h2)
def fH_holdRow_r (o0 : Nat) (v1 : Int32) (o2 : Nat) (h : H2) : O2 :=
  mv_gd (mv_inb v1 4) <|
  mv_bh (wI2 h 600 0 v1.toNatClampNeg (-(nI 1))) fun h1 =>
  mv_gd (mv_inb v1 4) <|
  wR2 h1 601 0 v1.toNatClampNeg (some (4, o2)) fun h2 =>
  some ([], h2)
def cH_holdRow : List mv_V → H2 → (List mv_V → H2 → O2) → O2 := fun as h k => match as with
  | [.inr (t0, o0), .inl (.int v1), .inl .null] => mv_gd (Nat.beq t0 5) <| mv_rV (fH_holdRow_n o0 v1 h) fun h => k [] h
  | [.inr (t0, o0), .inl (.int v1), .inr (t2, o2)] => mv_gd (Nat.beq t0 5) <| mv_gd (Nat.beq t2 4) <| mv_rV (fH_holdRow_r o0 v1 o2 h) fun h => k [] h
  | _ => none
def fH_clothOn (o0 : Nat) (v1 : Int32) (h : H2) : O2 :=
  mv_gd (mv_inb v1 4) <|
  some ([Sum.inl (Value.int (rI2 h 600 0 v1.toNatClampNeg))], h)
def cH_clothOn : List mv_V → H2 → (List mv_V → H2 → O2) → O2 := fun as h k => match as with
  | [.inr (t0, o0), .inl (.int v1)] => mv_gd (Nat.beq t0 5) <| mv_rI (fH_clothOn o0 v1 h) fun x h => k [.inl (.int x)] h
  | _ => none
def fH_rowOn (o0 : Nat) (v1 : Int32) (h : H2) : O2 :=
  mv_gd (mv_inb v1 4) <|
  mv_el (hld2 h v1.toNatClampNeg) (
    some ([Sum.inl Value.null], h)) fun r1 =>
  some ([Sum.inr (4, r1)], h)
def cH_rowOn : List mv_V → H2 → (List mv_V → H2 → O2) → O2 := fun as h k => match as with
  | [.inr (t0, o0), .inl (.int v1)] => mv_gd (Nat.beq t0 5) <| mv_rQ (fH_rowOn o0 v1 h) (fun h => k [.inl .null] h) fun x h => k [.inr (4, x)] h
  | _ => none
def fT_room (o0 : Nat) (h : H2) : O2 :=
  some ([Sum.inl (Value.int ((nI 200) - (rI2 h 6 o0 1)))], h)
def cT_room : List mv_V → H2 → (List mv_V → H2 → O2) → O2 := fun as h k => match as with
  | [.inr (t0, o0)] => mv_gd (Nat.beq t0 6) <| mv_rI (fT_room o0 h) fun x h => k [.inl (.int x)] h
  | _ => none
def fT_take_b3 : Nat → Nat → Int64 → Int32 → Int32 → H2 → O2
  | 0 => fun _ _ _ _ _ => none
  | n + 1 => fun o0 w1 v3 v4 h =>
    if v3 ≤ v4 then (
      mv_bh (wI2 h 6 o0 1 ((rI2 h 6 o0 1) + v3)) fun h1 =>
      some ([], h1))
    else
    mv_gd (mv_inb ((rI2 h 6 o0 1) + v4) 200) <|
    mv_bh (wI2 h 700 o0 ((rI2 h 6 o0 1) + v4).toNatClampNeg (((w1 >>> (((nI 8) * v4).toInt64 &&& 63)) &&& (lN 255)).toInt32)) fun h2 =>
    mv_bi (v4 + (nI 1)) fun x3 =>
    fT_take_b3 n o0 w1 v3 x3 h2
def fT_take (o0 : Nat) (w1 : Int64) (v3 : Int32) (h : H2) : O2 :=
  mv_bi (nI 0) fun x1 =>
  fT_take_b3 1000 o0 w1 v3 x1 h
def cT_take : List mv_V → H2 → (List mv_V → H2 → O2) → O2 := fun as h k => match as with
  | [.inr (t0, o0), .inl (.long w1), .inl (.int v3)] => mv_gd (Nat.beq t0 6) <| mv_rV (fT_take o0 w1 v3 h) fun h => k [] h
  | _ => none
def fT_useUp (o0 : Nat) (h : H2) : O2 :=
  mv_bh (wI2 h 6 o0 1 (nI 0)) fun h1 =>
  some ([], h1)
def cT_useUp : List mv_V → H2 → (List mv_V → H2 → O2) → O2 := fun as h k => match as with
  | [.inr (t0, o0)] => mv_gd (Nat.beq t0 6) <| mv_rV (fT_useUp o0 h) fun h => k [] h
  | _ => none
def fT_readDigits_b5 : Nat → Nat → H2 → O2
  | 0 => fun _ _ => none
  | n + 1 => fun o0 h =>
    if (rI2 h 6 o0 1) ≤ (rI2 h 6 o0 2) then (
      if ((rI2 h 6 o0 2) - (rI2 h 6 o0 3)) ≤ (nI 3) then (
        some ([], h))
      else
      mv_bh (wI2 h 6 o0 5 (nI 1000)) fun h1 =>
      some ([], h1))
    else
    mv_gd (mv_inb (rI2 h 6 o0 2) 200) <|
    if (rI2 h 700 o0 (rI2 h 6 o0 2).toNatClampNeg) < (nI 48) then (
      if ((rI2 h 6 o0 2) - (rI2 h 6 o0 3)) ≤ (nI 3) then (
        some ([], h))
      else
      mv_bh (wI2 h 6 o0 5 (nI 1000)) fun h2 =>
      some ([], h2))
    else
    mv_gd (mv_inb (rI2 h 6 o0 2) 200) <|
    if (nI 57) < (rI2 h 700 o0 (rI2 h 6 o0 2).toNatClampNeg) then (
      if ((rI2 h 6 o0 2) - (rI2 h 6 o0 3)) ≤ (nI 3) then (
        some ([], h))
      else
      mv_bh (wI2 h 6 o0 5 (nI 1000)) fun h3 =>
      some ([], h3))
    else
    if (nI 3) ≤ ((rI2 h 6 o0 2) - (rI2 h 6 o0 3)) then (
      mv_bh (wI2 h 6 o0 2 ((rI2 h 6 o0 2) + (nI 1))) fun h4 =>
      fT_readDigits_b5 n o0 h4)
    else
    mv_gd (mv_inb (rI2 h 6 o0 2) 200) <|
    mv_bh (wI2 h 6 o0 5 ((((rI2 h 6 o0 5) * (nI 10)) + (rI2 h 700 o0 (rI2 h 6 o0 2).toNatClampNeg)) - (nI 48))) fun h5 =>
    mv_bh (wI2 h5 6 o0 2 ((rI2 h5 6 o0 2) + (nI 1))) fun h6 =>
    fT_readDigits_b5 n o0 h6
def fT_readDigits (o0 : Nat) (h : H2) : O2 :=
  mv_bh (wI2 h 6 o0 5 (nI 0)) fun h1 =>
  fT_readDigits_b5 1000 o0 h1
def cT_readDigits : List mv_V → H2 → (List mv_V → H2 → O2) → O2 := fun as h k => match as with
  | [.inr (t0, o0)] => mv_gd (Nat.beq t0 6) <| mv_rV (fT_readDigits o0 h) fun h => k [] h
  | _ => none
def fT_readWord_b89 : Nat → Nat → H2 → O2
  | 0 => fun _ _ => none
  | n + 1 => fun o0 h =>
    if (rI2 h 6 o0 1) ≤ (rI2 h 6 o0 2) then (
      some ([], h))
    else
    mv_gd (mv_inb (rI2 h 6 o0 2) 200) <|
    mv_rI (fV_isIn (rI2 h 700 o0 (rI2 h 6 o0 2).toNatClampNeg) (nI 97) (nI 122) h) fun r2 h1 =>
    if r2 = 0 then (
      some ([], h1))
    else
    mv_bh (wI2 h1 6 o0 2 ((rI2 h1 6 o0 2) + (nI 1))) fun h3 =>
    fT_readWord_b89 n o0 h3
def fT_readWord_b38 (o0 : Nat) (h : H2) : O2 :=
  mv_bh (wI2 h 6 o0 3 (rI2 h 6 o0 2)) fun h1 =>
  if (rI2 h1 6 o0 2) < (rI2 h1 6 o0 1) then (
    mv_gd (mv_inb (rI2 h1 6 o0 2) 200) <|
    mv_rI (fV_isIn (rI2 h1 700 o0 (rI2 h1 6 o0 2).toNatClampNeg) (nI 97) (nI 122) h1) fun r3 h2 =>
    if r3 = 0 then (
      mv_gd (mv_inb (rI2 h2 6 o0 2) 200) <|
      mv_rI (fV_isIn (rI2 h2 700 o0 (rI2 h2 6 o0 2).toNatClampNeg) (nI 48) (nI 57) h2) fun r5 h4 =>
      if r5 = 0 then (
        mv_bh (wI2 h4 6 o0 4 (nI 3)) fun h6 =>
        mv_bh (wI2 h6 6 o0 2 ((rI2 h6 6 o0 2) + (nI 1))) fun h7 =>
        some ([], h7))
      else
      mv_bh (wI2 h4 6 o0 4 (nI 2)) fun h8 =>
      mv_rV (fT_readDigits o0 h8) fun h9 =>
      some ([], h9))
    else
    mv_bh (wI2 h2 6 o0 4 (nI 1)) fun h10 =>
    fT_readWord_b89 1000 o0 h10)
  else
  mv_bh (wI2 h1 6 o0 4 (nI 0)) fun h11 =>
  some ([], h11)
def fT_readWord_b0 : Nat → Nat → H2 → O2
  | 0 => fun _ _ => none
  | n + 1 => fun o0 h =>
    if (rI2 h 6 o0 1) ≤ (rI2 h 6 o0 2) then (
      fT_readWord_b38 o0 h)
    else
    mv_gd (mv_inb (rI2 h 6 o0 2) 200) <|
    if (rI2 h 700 o0 (rI2 h 6 o0 2).toNatClampNeg) = (nI 32) then (
      mv_bh (wI2 h 6 o0 2 ((rI2 h 6 o0 2) + (nI 1))) fun h1 =>
      fT_readWord_b0 n o0 h1)
    else
    fT_readWord_b38 o0 h
def fT_readWord (o0 : Nat) (h : H2) : O2 :=
  fT_readWord_b0 1000 o0 h
def cT_readWord : List mv_V → H2 → (List mv_V → H2 → O2) → O2 := fun as h k => match as with
  | [.inr (t0, o0)] => mv_gd (Nat.beq t0 6) <| mv_rV (fT_readWord o0 h) fun h => k [] h
  | _ => none
def fK0_coder_7d493 (o0 : Nat) (h : H2) : O2 :=
  if (nI 1) = 0 then (
    mv_gd (decide (0 ≤ (nI 1)) && decide ((nI 1) ≤ 127)) <| some ([Sum.inl (Value.int (nI 1))], h))
  else
  mv_gd (decide (0 ≤ (nI 0)) && decide ((nI 0) ≤ 127)) <| some ([Sum.inl (Value.int (nI 0))], h)
def cK0_coder_7d493 : List mv_V → H2 → (List mv_V → H2 → O2) → O2 := fun as h k => match as with
  | [.inr (t0, o0)] => mv_gd (Nat.beq t0 11) <| mv_rI (fK0_coder_7d493 o0 h) fun x h => k [.inl (.int x)] h
  | _ => none
def fK0_length_8abf5 (o0 : Nat) (h : H2) : O2 :=
  mv_rI (fK0_coder_7d493 o0 h) fun r2 h1 =>
  some ([Sum.inl (Value.int ((nI (stl o0)) >>> (r2 &&& 31)))], h1)
def cK0_length_8abf5 : List mv_V → H2 → (List mv_V → H2 → O2) → O2 := fun as h k => match as with
  | [.inr (t0, o0)] => mv_gd (Nat.beq t0 11) <| mv_rI (fK0_length_8abf5 o0 h) fun x h => k [.inl (.int x)] h
  | _ => none
def fK0_isLatin1_aae02 (o0 : Nat) (h : H2) : O2 :=
  if (nI 1) = 0 then (
    mv_gd (decide (nI 0 = nI 0) || decide (nI 0 = nI 1)) <| some ([Sum.inl (Value.int (nI 0))], h))
  else
  if (nI 0) = 0 then (
    mv_gd (decide (nI 1 = nI 0) || decide (nI 1 = nI 1)) <| some ([Sum.inl (Value.int (nI 1))], h))
  else
  mv_gd (decide (nI 0 = nI 0) || decide (nI 0 = nI 1)) <| some ([Sum.inl (Value.int (nI 0))], h)
def cK0_isLatin1_aae02 : List mv_V → H2 → (List mv_V → H2 → O2) → O2 := fun as h k => match as with
  | [.inr (t0, o0)] => mv_gd (Nat.beq t0 11) <| mv_rI (fK0_isLatin1_aae02 o0 h) fun x h => k [.inl (.int x)] h
  | _ => none
def fK3_checkIndex_8e157 (v0 : Int32) (v1 : Int32) (o2 : Nat) (h : H2) : O2 :=
  if v0 < 0 then (
    none)
  else
  if v0 < v1 then (
    some ([Sum.inl (Value.int v0)], h))
  else
  none
def cK3_checkIndex_8e157 : List mv_V → H2 → (List mv_V → H2 → O2) → O2 := fun as h k => match as with
  | [.inl (.int v0), .inl (.int v1), .inr (t2, o2)] => mv_gd (Nat.beq t2 14) <| mv_rI (fK3_checkIndex_8e157 v0 v1 o2 h) fun x h => k [.inl (.int x)] h
  | _ => none
def fK0_checkIndex_df160 (v0 : Int32) (v1 : Int32) (h : H2) : O2 :=
  mv_rI (fK3_checkIndex_8e157 v0 v1 0 h) fun r2 h1 =>
  some ([], h1)
def cK0_checkIndex_df160 : List mv_V → H2 → (List mv_V → H2 → O2) → O2 := fun as h k => match as with
  | [.inl (.int v0), .inl (.int v1)] => mv_rV (fK0_checkIndex_df160 v0 v1 h) fun h => k [] h
  | _ => none
def fK1_charAt_3b067 (o0 : Nat) (v1 : Int32) (h : H2) : O2 :=
  mv_rV (fK0_checkIndex_df160 v1 (nI (stl o0)) h) fun h1 =>
  mv_gd (mv_inb v1 (stl o0)) <|
  mv_gd (decide (0 ≤ (((stc o0 v1.toNatClampNeg) &&& (nI 255)).toUInt32.toUInt16.toUInt32.toInt32)) && decide ((((stc o0 v1.toNatClampNeg) &&& (nI 255)).toUInt32.toUInt16.toUInt32.toInt32) ≤ 127)) <| some ([Sum.inl (Value.int (((stc o0 v1.toNatClampNeg) &&& (nI 255)).toUInt32.toUInt16.toUInt32.toInt32))], h1)
def cK1_charAt_3b067 : List mv_V → H2 → (List mv_V → H2 → O2) → O2 := fun as h k => match as with
  | [.inr (t0, o0), .inl (.int v1)] => mv_gd (Nat.beq t0 12) <| mv_rI (fK1_charAt_3b067 o0 v1 h) fun x h => k [.inl (.int x)] h
  | _ => none
def fK0_charAt_5068e (o0 : Nat) (v1 : Int32) (h : H2) : O2 :=
  mv_rI (fK0_isLatin1_aae02 o0 h) fun r2 h1 =>
  if r2 = 0 then (
    none)
  else
  mv_rI (fK1_charAt_3b067 o0 v1 h1) fun r4 h3 =>
  mv_gd (decide (0 ≤ r4) && decide (r4 ≤ 127)) <| some ([Sum.inl (Value.int r4)], h3)
def cK0_charAt_5068e : List mv_V → H2 → (List mv_V → H2 → O2) → O2 := fun as h k => match as with
  | [.inr (t0, o0), .inl (.int v1)] => mv_gd (Nat.beq t0 11) <| mv_rI (fK0_charAt_5068e o0 v1 h) fun x h => k [.inl (.int x)] h
  | _ => none
def fT_isName_b28 : Nat → Nat → Nat → Int32 → H2 → O2
  | 0 => fun _ _ _ _ => none
  | n + 1 => fun o0 o1 v2 h =>
    mv_rI (fK0_length_8abf5 o1 h) fun r2 h1 =>
    if r2 ≤ v2 then (
      mv_gd (decide (nI 1 = nI 0) || decide (nI 1 = nI 1)) <| some ([Sum.inl (Value.int (nI 1))], h1))
    else
    mv_gd (mv_inb ((rI2 h1 6 o0 3) + v2) 200) <|
    mv_rI (fK0_charAt_5068e o1 v2 h1) fun r4 h3 =>
    if (rI2 h1 700 o0 ((rI2 h1 6 o0 3) + v2).toNatClampNeg) = r4 then (
      mv_bi (v2 + (nI 1)) fun x5 =>
      fT_isName_b28 n o0 o1 x5 h3)
    else
    mv_gd (decide (nI 0 = nI 0) || decide (nI 0 = nI 1)) <| some ([Sum.inl (Value.int (nI 0))], h3)
def fT_isName (o0 : Nat) (o1 : Nat) (h : H2) : O2 :=
  if (rI2 h 6 o0 4) = (nI 1) then (
    mv_rI (fK0_length_8abf5 o1 h) fun r2 h1 =>
    if ((rI2 h 6 o0 2) - (rI2 h 6 o0 3)) = r2 then (
      mv_bi (nI 0) fun x3 =>
      fT_isName_b28 1000 o0 o1 x3 h1)
    else
    mv_gd (decide (nI 0 = nI 0) || decide (nI 0 = nI 1)) <| some ([Sum.inl (Value.int (nI 0))], h1))
  else
  mv_gd (decide (nI 0 = nI 0) || decide (nI 0 = nI 1)) <| some ([Sum.inl (Value.int (nI 0))], h)
def cT_isName : List mv_V → H2 → (List mv_V → H2 → O2) → O2 := fun as h k => match as with
  | [.inr (t0, o0), .inr (t1, o1)] => mv_gd (Nat.beq t0 6) <| mv_gd (Nat.beq t1 11) <| mv_rI (fT_isName o0 o1 h) fun x h => k [.inl (.int x)] h
  | _ => none
def fT_kindNamed (o0 : Nat) (h : H2) : O2 :=
  mv_rI (fT_isName o0 7 h) fun r2 h1 =>
  if r2 = 0 then (
    mv_rI (fT_isName o0 8 h1) fun r4 h3 =>
    if r4 = 0 then (
      mv_rI (fT_isName o0 9 h3) fun r6 h5 =>
      if r6 = 0 then (
        mv_rI (fT_isName o0 10 h5) fun r8 h7 =>
        if r8 = 0 then (
          mv_rI (fT_isName o0 11 h7) fun r10 h9 =>
          if r10 = 0 then (
            mv_rI (fT_isName o0 12 h9) fun r12 h11 =>
            if r12 = 0 then (
              some ([Sum.inl (Value.int (-(nI 1)))], h11))
            else
            some ([Sum.inl (Value.int (nI 5))], h11))
          else
          some ([Sum.inl (Value.int (nI 4))], h9))
        else
        some ([Sum.inl (Value.int (nI 3))], h7))
      else
      some ([Sum.inl (Value.int (nI 2))], h5))
    else
    some ([Sum.inl (Value.int (nI 1))], h3))
  else
  some ([Sum.inl (Value.int (nI 0))], h1)
def cT_kindNamed : List mv_V → H2 → (List mv_V → H2 → O2) → O2 := fun as h k => match as with
  | [.inr (t0, o0)] => mv_gd (Nat.beq t0 6) <| mv_rI (fT_kindNamed o0 h) fun x h => k [.inl (.int x)] h
  | _ => none
def fT_readNumber (o0 : Nat) (v1 : Int32) (v2 : Int32) (h : H2) : O2 :=
  mv_rV (fT_readWord o0 h) fun h1 =>
  if (rI2 h1 6 o0 4) = (nI 2) then (
    mv_rI (fV_isIn (rI2 h1 6 o0 5) v1 v2 h1) fun r3 h2 =>
    if r3 = 0 then (
      mv_gd (decide (nI 0 = nI 0) || decide (nI 0 = nI 1)) <| some ([Sum.inl (Value.int (nI 0))], h2))
    else
    mv_gd (decide (nI 1 = nI 0) || decide (nI 1 = nI 1)) <| some ([Sum.inl (Value.int (nI 1))], h2))
  else
  mv_gd (decide (nI 0 = nI 0) || decide (nI 0 = nI 1)) <| some ([Sum.inl (Value.int (nI 0))], h1)
def cT_readNumber : List mv_V → H2 → (List mv_V → H2 → O2) → O2 := fun as h k => match as with
  | [.inr (t0, o0), .inl (.int v1), .inl (.int v2)] => mv_gd (Nat.beq t0 6) <| mv_rI (fT_readNumber o0 v1 v2 h) fun x h => k [.inl (.int x)] h
  | _ => none
def fT_isStop (o0 : Nat) (h : H2) : O2 :=
  if (rI2 h 6 o0 4) = (nI 3) then (
    mv_gd (mv_inb (rI2 h 6 o0 3) 200) <|
    if (rI2 h 700 o0 (rI2 h 6 o0 3).toNatClampNeg) = (nI 59) then (
      mv_gd (decide (nI 1 = nI 0) || decide (nI 1 = nI 1)) <| some ([Sum.inl (Value.int (nI 1))], h))
    else
    mv_gd (decide (nI 0 = nI 0) || decide (nI 0 = nI 1)) <| some ([Sum.inl (Value.int (nI 0))], h))
  else
  mv_gd (decide (nI 0 = nI 0) || decide (nI 0 = nI 1)) <| some ([Sum.inl (Value.int (nI 0))], h)
def cT_isStop : List mv_V → H2 → (List mv_V → H2 → O2) → O2 := fun as h k => match as with
  | [.inr (t0, o0)] => mv_gd (Nat.beq t0 6) <| mv_rI (fT_isStop o0 h) fun x h => k [.inl (.int x)] h
  | _ => none
def fT_readCloth_b99 (o0 : Nat) (o1 : Nat) (v3 : Int32) (h : H2) : O2 :=
  mv_rI (fT_isName o0 5 h) fun r2 h1 =>
  if r2 = 0 then (
    mv_rI (fT_isStop o0 h1) fun r4 h3 =>
    mv_gd (decide (r4 = nI 0) || decide (r4 = nI 1)) <| some ([Sum.inl (Value.int r4)], h3))
  else
  mv_gd (mv_inb v3 8) <|
  mv_bh (wI2 h1 307 o1 v3.toNatClampNeg (nI 1)) fun h5 =>
  mv_rV (fT_readWord o0 h5) fun h6 =>
  mv_rI (fT_isStop o0 h6) fun r8 h7 =>
  mv_gd (decide (r8 = nI 0) || decide (r8 = nI 1)) <| some ([Sum.inl (Value.int r8)], h7)
def fT_readCloth (o0 : Nat) (o1 : Nat) (v2 : Int32) (h : H2) : O2 :=
  if (rI2 h 2 o1 9) < (nI 8) then (
    mv_rI (fM_addCloth o1 v2 h) fun r2 h1 =>
    mv_bi r2 fun x3 =>
    mv_rV (fT_readWord o0 h1) fun h4 =>
    mv_rI (fT_isName o0 3 h4) fun r6 h5 =>
    if r6 = 0 then (
      fT_readCloth_b99 o0 o1 x3 h5)
    else
    mv_rI (fT_readNumber o0 (nI 0) (nI 9) h5) fun r8 h7 =>
    if r8 = 0 then (
      mv_gd (decide (nI 0 = nI 0) || decide (nI 0 = nI 1)) <| some ([Sum.inl (Value.int (nI 0))], h7))
    else
    mv_gd (mv_inb x3 8) <|
    mv_bh (wI2 h7 305 o1 x3.toNatClampNeg (rI2 h7 6 o0 5)) fun h9 =>
    mv_gd (mv_inb x3 8) <|
    mv_bh (wI2 h9 306 o1 x3.toNatClampNeg (nI 20)) fun h10 =>
    mv_rV (fT_readWord o0 h10) fun h11 =>
    mv_rI (fT_isName o0 4 h11) fun r13 h12 =>
    if r13 = 0 then (
      fT_readCloth_b99 o0 o1 x3 h12)
    else
    mv_rI (fT_readNumber o0 (nI 1) (nI 99) h12) fun r15 h14 =>
    if r15 = 0 then (
      mv_gd (decide (nI 0 = nI 0) || decide (nI 0 = nI 1)) <| some ([Sum.inl (Value.int (nI 0))], h14))
    else
    mv_gd (mv_inb x3 8) <|
    mv_bh (wI2 h14 306 o1 x3.toNatClampNeg (rI2 h14 6 o0 5)) fun h16 =>
    mv_rV (fT_readWord o0 h16) fun h17 =>
    fT_readCloth_b99 o0 o1 x3 h17)
  else
  mv_gd (decide (nI 0 = nI 0) || decide (nI 0 = nI 1)) <| some ([Sum.inl (Value.int (nI 0))], h)
def cT_readCloth : List mv_V → H2 → (List mv_V → H2 → O2) → O2 := fun as h k => match as with
  | [.inr (t0, o0), .inr (t1, o1), .inl (.int v2)] => mv_gd (Nat.beq t0 6) <| mv_gd (Nat.beq t1 2) <| mv_rI (fT_readCloth o0 o1 v2 h) fun x h => k [.inl (.int x)] h
  | _ => none
def fT_readName (o0 : Nat) (o1 : Nat) (h : H2) : O2 :=
  mv_rV (fT_readWord o0 h) fun h1 =>
  mv_rI (fT_isName o0 o1 h1) fun r3 h2 =>
  mv_gd (decide (r3 = nI 0) || decide (r3 = nI 1)) <| some ([Sum.inl (Value.int r3)], h2)
def cT_readName : List mv_V → H2 → (List mv_V → H2 → O2) → O2 := fun as h k => match as with
  | [.inr (t0, o0), .inr (t1, o1)] => mv_gd (Nat.beq t0 6) <| mv_gd (Nat.beq t1 11) <| mv_rI (fT_readName o0 o1 h) fun x h => k [.inl (.int x)] h
  | _ => none
def fT_readStop (o0 : Nat) (h : H2) : O2 :=
  mv_rV (fT_readWord o0 h) fun h1 =>
  mv_rI (fT_isStop o0 h1) fun r3 h2 =>
  mv_gd (decide (r3 = nI 0) || decide (r3 = nI 1)) <| some ([Sum.inl (Value.int r3)], h2)
def cT_readStop : List mv_V → H2 → (List mv_V → H2 → O2) → O2 := fun as h k => match as with
  | [.inr (t0, o0)] => mv_gd (Nat.beq t0 6) <| mv_rI (fT_readStop o0 h) fun x h => k [.inl (.int x)] h
  | _ => none
def fT_readVat (o0 : Nat) (o1 : Nat) (h : H2) : O2 :=
  mv_rI (fT_readNumber o0 (nI 0) (nI 7) h) fun r2 h1 =>
  if r2 = 0 then (
    mv_gd (decide (nI 0 = nI 0) || decide (nI 0 = nI 1)) <| some ([Sum.inl (Value.int (nI 0))], h1))
  else
  mv_bi (rI2 h1 6 o0 5) fun x3 =>
  mv_rI (fT_readName o0 6 h1) fun r5 h4 =>
  if r5 = 0 then (
    mv_gd (decide (nI 0 = nI 0) || decide (nI 0 = nI 1)) <| some ([Sum.inl (Value.int (nI 0))], h4))
  else
  mv_rI (fT_readNumber o0 (nI 0) (nI 9) h4) fun r7 h6 =>
  if r7 = 0 then (
    mv_gd (decide (nI 0 = nI 0) || decide (nI 0 = nI 1)) <| some ([Sum.inl (Value.int (nI 0))], h6))
  else
  mv_gd (mv_inb x3 8) <|
  mv_bh (wI2 h6 301 o1 x3.toNatClampNeg (rI2 h6 6 o0 5)) fun h8 =>
  mv_rI (fT_readStop o0 h8) fun r10 h9 =>
  mv_gd (decide (r10 = nI 0) || decide (r10 = nI 1)) <| some ([Sum.inl (Value.int r10)], h9)
def cT_readVat : List mv_V → H2 → (List mv_V → H2 → O2) → O2 := fun as h k => match as with
  | [.inr (t0, o0), .inr (t1, o1)] => mv_gd (Nat.beq t0 6) <| mv_gd (Nat.beq t1 2) <| mv_rI (fT_readVat o0 o1 h) fun x h => k [.inl (.int x)] h
  | _ => none
def fT_readStrong (o0 : Nat) (o1 : Nat) (h : H2) : O2 :=
  mv_rI (fT_readNumber o0 (nI 0) (nI 7) h) fun r2 h1 =>
  if r2 = 0 then (
    mv_gd (decide (nI 0 = nI 0) || decide (nI 0 = nI 1)) <| some ([Sum.inl (Value.int (nI 0))], h1))
  else
  mv_bi (rI2 h1 6 o0 5) fun x3 =>
  mv_rI (fT_readNumber o0 (nI 0) (nI 9) h1) fun r5 h4 =>
  if r5 = 0 then (
    mv_gd (decide (nI 0 = nI 0) || decide (nI 0 = nI 1)) <| some ([Sum.inl (Value.int (nI 0))], h4))
  else
  mv_gd (mv_inb x3 8) <|
  mv_bh (wI2 h4 302 o1 x3.toNatClampNeg (rI2 h4 6 o0 5)) fun h6 =>
  mv_rI (fT_readStop o0 h6) fun r8 h7 =>
  mv_gd (decide (r8 = nI 0) || decide (r8 = nI 1)) <| some ([Sum.inl (Value.int r8)], h7)
def cT_readStrong : List mv_V → H2 → (List mv_V → H2 → O2) → O2 := fun as h k => match as with
  | [.inr (t0, o0), .inr (t1, o1)] => mv_gd (Nat.beq t0 6) <| mv_gd (Nat.beq t1 2) <| mv_rI (fT_readStrong o0 o1 h) fun x h => k [.inl (.int x)] h
  | _ => none
def fT_readDay (o0 : Nat) (o1 : Nat) (h : H2) : O2 :=
  mv_rI (fT_readNumber o0 (nI 0) (nI 5) h) fun r2 h1 =>
  if r2 = 0 then (
    mv_gd (decide (nI 0 = nI 0) || decide (nI 0 = nI 1)) <| some ([Sum.inl (Value.int (nI 0))], h1))
  else
  mv_bi (rI2 h1 6 o0 5) fun x3 =>
  mv_rI (fT_readName o0 0 h1) fun r5 h4 =>
  if r5 = 0 then (
    mv_gd (decide (nI 0 = nI 0) || decide (nI 0 = nI 1)) <| some ([Sum.inl (Value.int (nI 0))], h4))
  else
  mv_rI (fT_readNumber o0 (nI 0) (nI 7) h4) fun r7 h6 =>
  if r7 = 0 then (
    mv_gd (decide (nI 0 = nI 0) || decide (nI 0 = nI 1)) <| some ([Sum.inl (Value.int (nI 0))], h6))
  else
  mv_gd (mv_inb x3 6) <|
  mv_bh (wI2 h6 303 o1 x3.toNatClampNeg (rI2 h6 6 o0 5)) fun h8 =>
  mv_rI (fT_readStop o0 h8) fun r10 h9 =>
  mv_gd (decide (r10 = nI 0) || decide (r10 = nI 1)) <| some ([Sum.inl (Value.int r10)], h9)
def cT_readDay : List mv_V → H2 → (List mv_V → H2 → O2) → O2 := fun as h k => match as with
  | [.inr (t0, o0), .inr (t1, o1)] => mv_gd (Nat.beq t0 6) <| mv_gd (Nat.beq t1 2) <| mv_rI (fT_readDay o0 o1 h) fun x h => k [.inl (.int x)] h
  | _ => none
def fT_lawNamed (o0 : Nat) (h : H2) : O2 :=
  mv_rI (fT_isName o0 13 h) fun r2 h1 =>
  if r2 = 0 then (
    mv_rI (fT_isName o0 14 h1) fun r4 h3 =>
    if r4 = 0 then (
      mv_rI (fT_isName o0 15 h3) fun r6 h5 =>
      if r6 = 0 then (
        mv_rI (fT_isName o0 16 h5) fun r8 h7 =>
        if r8 = 0 then (
          some ([Sum.inl (Value.int (-(nI 1)))], h7))
        else
        some ([Sum.inl (Value.int (nI 3))], h7))
      else
      some ([Sum.inl (Value.int (nI 2))], h5))
    else
    some ([Sum.inl (Value.int (nI 1))], h3))
  else
  some ([Sum.inl (Value.int (nI 0))], h1)
def cT_lawNamed : List mv_V → H2 → (List mv_V → H2 → O2) → O2 := fun as h k => match as with
  | [.inr (t0, o0)] => mv_gd (Nat.beq t0 6) <| mv_rI (fT_lawNamed o0 h) fun x h => k [.inl (.int x)] h
  | _ => none
def fV_mostOfLaw (v0 : Int32) (h : H2) : O2 :=
  if v0 = (nI 3) then (
    some ([Sum.inl (Value.int (nI 99))], h))
  else
  some ([Sum.inl (Value.int (nI 9))], h)
def cV_mostOfLaw : List mv_V → H2 → (List mv_V → H2 → O2) → O2 := fun as h k => match as with
  | [.inl (.int v0)] => mv_rI (fV_mostOfLaw v0 h) fun x h => k [.inl (.int x)] h
  | _ => none
def fT_readLaw (o0 : Nat) (o1 : Nat) (v2 : Int32) (h : H2) : O2 :=
  mv_rI (fV_mostOfLaw v2 h) fun r2 h1 =>
  mv_rI (fT_readNumber o0 (nI 0) r2 h1) fun r4 h3 =>
  if r4 = 0 then (
    mv_gd (decide (nI 0 = nI 0) || decide (nI 0 = nI 1)) <| some ([Sum.inl (Value.int (nI 0))], h3))
  else
  mv_gd (mv_inb v2 4) <|
  mv_bh (wI2 h3 300 o1 v2.toNatClampNeg (rI2 h3 6 o0 5)) fun h5 =>
  mv_rI (fT_readStop o0 h5) fun r7 h6 =>
  mv_gd (decide (r7 = nI 0) || decide (r7 = nI 1)) <| some ([Sum.inl (Value.int r7)], h6)
def cT_readLaw : List mv_V → H2 → (List mv_V → H2 → O2) → O2 := fun as h k => match as with
  | [.inr (t0, o0), .inr (t1, o1), .inl (.int v2)] => mv_gd (Nat.beq t0 6) <| mv_gd (Nat.beq t1 2) <| mv_rI (fT_readLaw o0 o1 v2 h) fun x h => k [.inl (.int x)] h
  | _ => none
def fT_readStatement (o0 : Nat) (o1 : Nat) (h : H2) : O2 :=
  mv_rI (fT_kindNamed o0 h) fun r2 h1 =>
  mv_bi r2 fun x3 =>
  if x3 < 0 then (
    mv_rI (fT_isName o0 0 h1) fun r5 h4 =>
    if r5 = 0 then (
      mv_rI (fT_isName o0 1 h4) fun r7 h6 =>
      if r7 = 0 then (
        mv_rI (fT_isName o0 2 h6) fun r9 h8 =>
        if r9 = 0 then (
          mv_rI (fT_lawNamed o0 h8) fun r11 h10 =>
          mv_bi r11 fun x12 =>
          if x12 < 0 then (
            mv_gd (decide (nI 0 = nI 0) || decide (nI 0 = nI 1)) <| some ([Sum.inl (Value.int (nI 0))], h10))
          else
          mv_rI (fT_readLaw o0 o1 x12 h10) fun r14 h13 =>
          if r14 = 0 then (
            mv_gd (decide (nI 0 = nI 0) || decide (nI 0 = nI 1)) <| some ([Sum.inl (Value.int (nI 0))], h13))
          else
          mv_gd (decide (nI 1 = nI 0) || decide (nI 1 = nI 1)) <| some ([Sum.inl (Value.int (nI 1))], h13))
        else
        mv_rI (fT_readDay o0 o1 h8) fun r16 h15 =>
        mv_gd (decide (r16 = nI 0) || decide (r16 = nI 1)) <| some ([Sum.inl (Value.int r16)], h15))
      else
      mv_rI (fT_readStrong o0 o1 h6) fun r18 h17 =>
      mv_gd (decide (r18 = nI 0) || decide (r18 = nI 1)) <| some ([Sum.inl (Value.int r18)], h17))
    else
    mv_rI (fT_readVat o0 o1 h4) fun r20 h19 =>
    mv_gd (decide (r20 = nI 0) || decide (r20 = nI 1)) <| some ([Sum.inl (Value.int r20)], h19))
  else
  mv_rI (fT_readCloth o0 o1 x3 h1) fun r22 h21 =>
  mv_gd (decide (r22 = nI 0) || decide (r22 = nI 1)) <| some ([Sum.inl (Value.int r22)], h21)
def cT_readStatement : List mv_V → H2 → (List mv_V → H2 → O2) → O2 := fun as h k => match as with
  | [.inr (t0, o0), .inr (t1, o1)] => mv_gd (Nat.beq t0 6) <| mv_gd (Nat.beq t1 2) <| mv_rI (fT_readStatement o0 o1 h) fun x h => k [.inl (.int x)] h
  | _ => none
def fT_readInto_b11 : Nat → Nat → Nat → Int32 → H2 → O2
  | 0 => fun _ _ _ _ => none
  | n + 1 => fun o0 o1 v2 h =>
    if (rI2 h 6 o0 1) < v2 then (
      some ([Sum.inl (Value.int (-(nI 1)))], h))
    else
    mv_rV (fT_readWord o0 h) fun h1 =>
    if (rI2 h1 6 o0 4) = 0 then (
      some ([Sum.inl (Value.int (-(nI 1)))], h1))
    else
    mv_rI (fT_readStatement o0 o1 h1) fun r3 h2 =>
    if r3 = 0 then (
      some ([Sum.inl (Value.int (rI2 h2 6 o0 3))], h2))
    else
    mv_bi (v2 + (nI 1)) fun x4 =>
    fT_readInto_b11 n o0 o1 x4 h2
def fT_readInto (o0 : Nat) (o1 : Nat) (h : H2) : O2 :=
  mv_rV (fM_becomeFirst o1 h) fun h1 =>
  mv_bh (wI2 h1 6 o0 2 (nI 0)) fun h2 =>
  mv_bi (nI 0) fun x3 =>
  fT_readInto_b11 1000 o0 o1 x3 h2
def cT_readInto : List mv_V → H2 → (List mv_V → H2 → O2) → O2 := fun as h k => match as with
  | [.inr (t0, o0), .inr (t1, o1)] => mv_gd (Nat.beq t0 6) <| mv_gd (Nat.beq t1 2) <| mv_rI (fT_readInto o0 o1 h) fun x h => k [.inl (.int x)] h
  | _ => none
def fV_feed (o0 : Nat) (w1 : Int64) (v3 : Int32) (h : H2) : O2 :=
  mv_rI (fV_isIn v3 (nI 1) (nI 8) h) fun r2 h1 =>
  if r2 = 0 then (
    some ([Sum.inl (Value.int (-(nI 1)))], h1))
  else
  mv_rI (fT_room 0 h1) fun r4 h3 =>
  if v3 ≤ r4 then (
    mv_rV (fT_take 0 w1 v3 h3) fun h5 =>
    some ([Sum.inl (Value.int (rI2 h5 6 0 1))], h5))
  else
  some ([Sum.inl (Value.int (-(nI 2)))], h3)
def fV_mill (o0 : Nat) (h : H2) : O2 :=
  mv_rI (fT_readInto 0 1 h) fun r2 h1 =>
  mv_bi r2 fun x3 =>
  mv_rV (fT_useUp 0 h1) fun h4 =>
  if x3 < 0 then (
    mv_bh (wI2 h4 2 1 11 (rI2 h4 2 0 11)) fun h5 =>
    mv_rV (fM_copyFrom 0 1 h5) fun h6 =>
    mv_bh (wI2 h6 3 0 1 (nI 0)) fun h7 =>
    some ([Sum.inl (Value.int (rI2 h7 2 0 9))], h7))
  else
  some ([Sum.inl (Value.int ((-(nI 100)) - x3))], h4)
def fV_set (o0 : Nat) (v1 : Int32) (v2 : Int32) (h : H2) : O2 :=
  mv_rI (fV_isIn v1 (nI 0) (nI 3) h) fun r2 h1 =>
  if r2 = 0 then (
    some ([Sum.inl (Value.int (-(nI 1)))], h1))
  else
  mv_rI (fV_mostOfLaw v1 h1) fun r4 h3 =>
  mv_rI (fV_isIn v2 (nI 0) r4 h3) fun r6 h5 =>
  if r6 = 0 then (
    some ([Sum.inl (Value.int (-(nI 1)))], h5))
  else
  mv_gd (mv_inb v1 4) <|
  mv_bi (rI2 h5 300 0 v1.toNatClampNeg) fun x7 =>
  mv_gd (mv_inb v1 4) <|
  mv_bh (wI2 h5 300 0 v1.toNatClampNeg v2) fun h8 =>
  some ([Sum.inl (Value.int x7)], h8)
def fV_lawOf (o0 : Nat) (v1 : Int32) (h : H2) : O2 :=
  mv_rI (fV_isIn v1 (nI 0) (nI 3) h) fun r2 h1 =>
  if r2 = 0 then (
    some ([Sum.inl (Value.int (-(nI 1)))], h1))
  else
  mv_gd (mv_inb v1 4) <|
  some ([Sum.inl (Value.int (rI2 h1 300 0 v1.toNatClampNeg))], h1)
def fV_isVat (v0 : Int32) (h : H2) : O2 :=
  mv_rI (fV_isIn v0 (nI 0) (nI 7) h) fun r2 h1 =>
  mv_gd (decide (r2 = nI 0) || decide (r2 = nI 1)) <| some ([Sum.inl (Value.int r2)], h1)
def cV_isVat : List mv_V → H2 → (List mv_V → H2 → O2) → O2 := fun as h k => match as with
  | [.inl (.int v0)] => mv_rI (fV_isVat v0 h) fun x h => k [.inl (.int x)] h
  | _ => none
def fV_fill_b31 (o0 : Nat) (v1 : Int32) (v2 : Int32) (v3 : Int32) (vs0 : Int32) (vs1 : Int32) (vs2 : Int32) (h : H2) : O2 :=
  mv_rI (fV_isIn vs0 vs1 vs2 h) fun r2 h1 =>
  if r2 = 0 then (
    some ([Sum.inl (Value.int (-(nI 1)))], h1))
  else
  if v2 = 0 then (
    mv_gd (mv_inb v1 8) <|
    mv_bi (rI2 h1 301 0 v1.toNatClampNeg) fun x3 =>
    mv_gd (mv_inb v1 8) <|
    mv_bh (wI2 h1 301 0 v1.toNatClampNeg v3) fun h4 =>
    some ([Sum.inl (Value.int x3)], h4))
  else
  mv_gd (mv_inb v1 8) <|
  mv_bi (rI2 h1 302 0 v1.toNatClampNeg) fun x5 =>
  mv_gd (mv_inb v1 8) <|
  mv_bh (wI2 h1 302 0 v1.toNatClampNeg v3) fun h6 =>
  some ([Sum.inl (Value.int x5)], h6)
def fV_fill (o0 : Nat) (v1 : Int32) (v2 : Int32) (v3 : Int32) (h : H2) : O2 :=
  mv_rI (fV_isVat v1 h) fun r2 h1 =>
  if r2 = 0 then (
    some ([Sum.inl (Value.int (-(nI 1)))], h1))
  else
  mv_rI (fV_isIn v2 (nI 0) (nI 1) h1) fun r4 h3 =>
  if r4 = 0 then (
    some ([Sum.inl (Value.int (-(nI 1)))], h3))
  else
  if v2 = 0 then (
    fV_fill_b31 o0 v1 v2 v3 v3 (nI 0) (nI 9) h3)
  else
  fV_fill_b31 o0 v1 v2 v3 v3 (nI 0) (nI 9) h3
def fV_vatOf (o0 : Nat) (v1 : Int32) (v2 : Int32) (h : H2) : O2 :=
  mv_rI (fV_isVat v1 h) fun r2 h1 =>
  if r2 = 0 then (
    some ([Sum.inl (Value.int (-(nI 1)))], h1))
  else
  mv_rI (fV_isIn v2 (nI 0) (nI 1) h1) fun r4 h3 =>
  if r4 = 0 then (
    some ([Sum.inl (Value.int (-(nI 1)))], h3))
  else
  if v2 = 0 then (
    mv_gd (mv_inb v1 8) <|
    some ([Sum.inl (Value.int (rI2 h3 301 0 v1.toNatClampNeg))], h3))
  else
  mv_gd (mv_inb v1 8) <|
  some ([Sum.inl (Value.int (rI2 h3 302 0 v1.toNatClampNeg))], h3)
def fV_isRest (v0 : Int32) (h : H2) : O2 :=
  mv_rI (fV_isIn v0 (nI 0) (nI 5) h) fun r2 h1 =>
  mv_gd (decide (r2 = nI 0) || decide (r2 = nI 1)) <| some ([Sum.inl (Value.int r2)], h1)
def cV_isRest : List mv_V → H2 → (List mv_V → H2 → O2) → O2 := fun as h k => match as with
  | [.inl (.int v0)] => mv_rI (fV_isRest v0 h) fun x h => k [.inl (.int x)] h
  | _ => none
def fV_roster_b23 (o0 : Nat) (v1 : Int32) (v2 : Int32) (h : H2) : O2 :=
  mv_gd (mv_inb v1 6) <|
  mv_bi (rI2 h 303 0 v1.toNatClampNeg) fun x1 =>
  mv_gd (mv_inb v1 6) <|
  mv_bh (wI2 h 303 0 v1.toNatClampNeg v2) fun h2 =>
  some ([Sum.inl (Value.int ((nI 1) + x1))], h2)
def fV_roster (o0 : Nat) (v1 : Int32) (v2 : Int32) (h : H2) : O2 :=
  mv_rI (fV_isRest v1 h) fun r2 h1 =>
  if r2 = 0 then (
    some ([Sum.inl (Value.int (-(nI 1)))], h1))
  else
  if v2 = (-(nI 1)) then (
    fV_roster_b23 o0 v1 v2 h1)
  else
  mv_rI (fV_isVat v2 h1) fun r4 h3 =>
  if r4 = 0 then (
    some ([Sum.inl (Value.int (-(nI 1)))], h3))
  else
  fV_roster_b23 o0 v1 v2 h3
def fV_rosterOf (o0 : Nat) (v1 : Int32) (h : H2) : O2 :=
  mv_rI (fV_isRest v1 h) fun r2 h1 =>
  if r2 = 0 then (
    some ([Sum.inl (Value.int (-(nI 1)))], h1))
  else
  mv_gd (mv_inb v1 6) <|
  some ([Sum.inl (Value.int ((nI 1) + (rI2 h1 303 0 v1.toNatClampNeg)))], h1)
def fV_isKind (v0 : Int32) (h : H2) : O2 :=
  mv_rI (fV_isIn v0 (nI 0) (nI 5) h) fun r2 h1 =>
  mv_gd (decide (r2 = nI 0) || decide (r2 = nI 1)) <| some ([Sum.inl (Value.int r2)], h1)
def cV_isKind : List mv_V → H2 → (List mv_V → H2 → O2) → O2 := fun as h k => match as with
  | [.inl (.int v0)] => mv_rI (fV_isKind v0 h) fun x h => k [.inl (.int x)] h
  | _ => none
def fV_cloth (o0 : Nat) (v1 : Int32) (h : H2) : O2 :=
  mv_rI (fV_isKind v1 h) fun r2 h1 =>
  if r2 = 0 then (
    some ([Sum.inl (Value.int (-(nI 1)))], h1))
  else
  if (rI2 h1 2 0 9) < (nI 8) then (
    mv_rI (fM_addCloth 0 v1 h1) fun r4 h3 =>
    some ([Sum.inl (Value.int r4)], h3))
  else
  some ([Sum.inl (Value.int (-(nI 2)))], h1)
def fV_of (o0 : Nat) (v1 : Int32) (v2 : Int32) (h : H2) : O2 :=
  mv_rI (fM_has 0 v1 h) fun r2 h1 =>
  if r2 = 0 then (
    some ([Sum.inl (Value.int (-(nI 1)))], h1))
  else
  if v2 = nI 0 then (
    mv_gd (mv_inb v1 8) <|
    some ([Sum.inl (Value.int (rI2 h1 304 0 v1.toNatClampNeg))], h1))
  else
  if v2 = nI 1 then (
    mv_gd (mv_inb v1 8) <|
    some ([Sum.inl (Value.int ((nI 1) + (rI2 h1 305 0 v1.toNatClampNeg)))], h1))
  else
  if v2 = nI 2 then (
    mv_gd (mv_inb v1 8) <|
    some ([Sum.inl (Value.int (rI2 h1 306 0 v1.toNatClampNeg))], h1))
  else
  if v2 = nI 3 then (
    mv_gd (mv_inb v1 8) <|
    some ([Sum.inl (Value.int (rI2 h1 307 0 v1.toNatClampNeg))], h1))
  else
  if v2 = nI 4 then (
    mv_gd (mv_inb v1 8) <|
    some ([Sum.inl (Value.int (rI2 h1 308 0 v1.toNatClampNeg))], h1))
  else
  some ([Sum.inl (Value.int (-(nI 1)))], h1)
def fV_does (o0 : Nat) (v1 : Int32) (v2 : Int32) (v3 : Int32) (h : H2) : O2 :=
  mv_rI (fM_has 0 v1 h) fun r2 h1 =>
  if r2 = 0 then (
    some ([Sum.inl (Value.int (-(nI 1)))], h1))
  else
  mv_rI (fV_isVat v2 h1) fun r4 h3 =>
  if r4 = 0 then (
    some ([Sum.inl (Value.int (-(nI 1)))], h3))
  else
  if v3 = nI 0 then (
    mv_rI (fM_takes 0 v1 v2 h3) fun r6 h5 =>
    some ([Sum.inl (Value.int ((nI 1000) + r6))], h5))
  else
  if v3 = nI 1 then (
    mv_rI (fM_fights 0 v1 v2 h3) fun r8 h7 =>
    some ([Sum.inl (Value.int ((nI 1000) + r8))], h7))
  else
  if v3 = nI 2 then (
    mv_rI (fM_fades 0 v1 h3) fun r10 h9 =>
    some ([Sum.inl (Value.int ((nI 1000) + r10))], h9))
  else
  some ([Sum.inl (Value.int (-(nI 1)))], h3)
def fV_mind (o0 : Nat) (v1 : Int32) (v2 : Int32) (h : H2) : O2 :=
  mv_rI (fM_has 0 v1 h) fun r2 h1 =>
  if r2 = 0 then (
    some ([Sum.inl (Value.int (-(nI 1)))], h1))
  else
  mv_rI (fV_isKind v2 h1) fun r4 h3 =>
  if r4 = 0 then (
    some ([Sum.inl (Value.int (-(nI 1)))], h3))
  else
  mv_gd (mv_inb v1 8) <|
  mv_bi (rI2 h3 304 0 v1.toNatClampNeg) fun x5 =>
  mv_gd (mv_inb v1 8) <|
  mv_bh (wI2 h3 304 0 v1.toNatClampNeg v2) fun h6 =>
  some ([Sum.inl (Value.int x5)], h6)
def fV_isPurpose (v0 : Int32) (h : H2) : O2 :=
  mv_rI (fV_isIn v0 (nI 0) (nI 9) h) fun r2 h1 =>
  mv_gd (decide (r2 = nI 0) || decide (r2 = nI 1)) <| some ([Sum.inl (Value.int r2)], h1)
def cV_isPurpose : List mv_V → H2 → (List mv_V → H2 → O2) → O2 := fun as h k => match as with
  | [.inl (.int v0)] => mv_rI (fV_isPurpose v0 h) fun x h => k [.inl (.int x)] h
  | _ => none
def fV_steep_b53 (o0 : Nat) (v1 : Int32) (v2 : Int32) (v3 : Int32) (h : H2) : O2 :=
  mv_gd (mv_inb v1 8) <|
  mv_bi (rI2 h 305 0 v1.toNatClampNeg) fun x1 =>
  mv_gd (mv_inb v1 8) <|
  mv_bh (wI2 h 305 0 v1.toNatClampNeg v2) fun h2 =>
  mv_gd (mv_inb v1 8) <|
  mv_bh (wI2 h2 306 0 v1.toNatClampNeg v3) fun h3 =>
  some ([Sum.inl (Value.int ((nI 1) + x1))], h3)
def fV_steep_b27 (o0 : Nat) (v1 : Int32) (v2 : Int32) (v3 : Int32) (vs0 : Int32) (h : H2) : O2 :=
  mv_bi vs0 fun x1 =>
  if x1 = 0 then (
    mv_rI (fV_isPurpose v2 h) fun r3 h2 =>
    if r3 = 0 then (
      some ([Sum.inl (Value.int (-(nI 1)))], h2))
    else
    mv_rI (fV_isIn v3 (nI 1) (nI 99) h2) fun r5 h4 =>
    if r5 = 0 then (
      some ([Sum.inl (Value.int (-(nI 1)))], h4))
    else
    fV_steep_b53 o0 v1 v2 v3 h4)
  else
  fV_steep_b53 o0 v1 v2 v3 h
def fV_steep (o0 : Nat) (v1 : Int32) (v2 : Int32) (v3 : Int32) (h : H2) : O2 :=
  mv_rI (fM_has 0 v1 h) fun r2 h1 =>
  if r2 = 0 then (
    some ([Sum.inl (Value.int (-(nI 1)))], h1))
  else
  if v2 = (-(nI 1)) then (
    if v3 = 0 then (
      fV_steep_b27 o0 v1 v2 v3 (nI 1) h1)
    else
    fV_steep_b27 o0 v1 v2 v3 (nI 0) h1)
  else
  fV_steep_b27 o0 v1 v2 v3 (nI 0) h1
def fV_hang (o0 : Nat) (v1 : Int32) (v2 : Int32) (h : H2) : O2 :=
  mv_rI (fM_has 0 v1 h) fun r2 h1 =>
  if r2 = 0 then (
    some ([Sum.inl (Value.int (-(nI 1)))], h1))
  else
  mv_rI (fV_isIn v2 (nI 0) (nI 1) h1) fun r4 h3 =>
  if r4 = 0 then (
    some ([Sum.inl (Value.int (-(nI 1)))], h3))
  else
  mv_gd (mv_inb v1 8) <|
  mv_bi (rI2 h3 307 0 v1.toNatClampNeg) fun x5 =>
  mv_gd (mv_inb v1 8) <|
  mv_bh (wI2 h3 307 0 v1.toNatClampNeg v2) fun h6 =>
  some ([Sum.inl (Value.int x5)], h6)
def fV_dip (o0 : Nat) (v1 : Int32) (v2 : Int32) (h : H2) : O2 :=
  mv_rI (fM_has 0 v1 h) fun r2 h1 =>
  if r2 = 0 then (
    some ([Sum.inl (Value.int (-(nI 1)))], h1))
  else
  mv_rI (fV_isVat v2 h1) fun r4 h3 =>
  if r4 = 0 then (
    some ([Sum.inl (Value.int (-(nI 1)))], h3))
  else
  mv_rV (fM_dipInto 0 v1 v2 h3) fun h5 =>
  mv_gd (mv_inb v1 8) <|
  some ([Sum.inl (Value.int ((nI 1) + (rI2 h5 305 0 v1.toNatClampNeg)))], h5)
def fV_days (o0 : Nat) (v1 : Int32) (h : H2) : O2 :=
  mv_rI (fV_isIn v1 (nI 1) (nI 60) h) fun r2 h1 =>
  if r2 = 0 then (
    some ([Sum.inl (Value.int (-(nI 1)))], h1))
  else
  mv_rV (fM_passDays 0 v1 h1) fun h3 =>
  mv_rI (fM_allDepths 0 h3) fun r5 h4 =>
  some ([Sum.inl (Value.int r5)], h4)
def fV_seed (o0 : Nat) (v1 : Int32) (h : H2) : O2 :=
  mv_bi (rI2 h 2 0 11) fun x1 =>
  mv_bh (wI2 h 2 0 11 v1) fun h2 =>
  some ([Sum.inl (Value.int x1)], h2)
def fV_day (o0 : Nat) (h : H2) : O2 :=
  mv_rV (fM_passDrawnDay 0 h) fun h1 =>
  mv_rI (fM_allDepths 0 h1) fun r3 h2 =>
  some ([Sum.inl (Value.int r3)], h2)
def fV_luck (o0 : Nat) (v1 : Int32) (h : H2) : O2 :=
  mv_rI (fV_isIn v1 (nI 1) (nI 30) h) fun r2 h1 =>
  if r2 = 0 then (
    some ([Sum.inl (Value.int (-(nI 1)))], h1))
  else
  mv_rI (fF_luckyDays 0 0 v1 h1) fun r4 h3 =>
  some ([Sum.inl (Value.int r4)], h3)
def fV_state (o0 : Nat) (v1 : Int32) (h : H2) : O2 :=
  if v1 = nI 0 then (
    some ([Sum.inl (Value.int (rI2 h 2 0 10))], h))
  else
  if v1 = nI 1 then (
    mv_rI (fM_vatOfToday 0 h) fun r2 h1 =>
    some ([Sum.inl (Value.int ((nI 1) + r2))], h1))
  else
  if v1 = nI 2 then (
    mv_rI (fM_hungSet 0 h) fun r4 h3 =>
    some ([Sum.inl (Value.int r4)], h3))
  else
  if v1 = nI 3 then (
    mv_rI (fM_aboutSet 0 h) fun r6 h5 =>
    some ([Sum.inl (Value.int r6)], h5))
  else
  if v1 = nI 4 then (
    mv_rI (fM_allDepths 0 h) fun r8 h7 =>
    some ([Sum.inl (Value.int r8)], h7))
  else
  if v1 = nI 5 then (
    mv_rI (fM_oddPairs 0 h) fun r10 h9 =>
    some ([Sum.inl (Value.int r10)], h9))
  else
  some ([Sum.inl (Value.int (-(nI 1)))], h)
def fV_isDays (v0 : Int32) (h : H2) : O2 :=
  mv_rI (fV_isIn v0 (nI 0) (nI 60) h) fun r2 h1 =>
  mv_gd (decide (r2 = nI 0) || decide (r2 = nI 1)) <| some ([Sum.inl (Value.int r2)], h1)
def cV_isDays : List mv_V → H2 → (List mv_V → H2 → O2) → O2 := fun as h k => match as with
  | [.inl (.int v0)] => mv_rI (fV_isDays v0 h) fun x h => k [.inl (.int x)] h
  | _ => none
def fV_gone (o0 : Nat) (v1 : Int32) (v2 : Int32) (h : H2) : O2 :=
  mv_rI (fM_has 0 v1 h) fun r2 h1 =>
  if r2 = 0 then (
    some ([Sum.inl (Value.int (-(nI 1)))], h1))
  else
  mv_rI (fV_isDays v2 h1) fun r4 h3 =>
  if r4 = 0 then (
    some ([Sum.inl (Value.int (-(nI 1)))], h3))
  else
  mv_rR 2 (fF_behind 0 0 v2 h3) fun r6 h5 =>
  mv_gd (mv_inb v1 8) <|
  some ([Sum.inl (Value.int ((nI 1) + (rI2 h5 305 r6 v1.toNatClampNeg)))], h5)
def fV_depth (o0 : Nat) (v1 : Int32) (v2 : Int32) (h : H2) : O2 :=
  mv_rI (fM_has 0 v1 h) fun r2 h1 =>
  if r2 = 0 then (
    some ([Sum.inl (Value.int (-(nI 1)))], h1))
  else
  mv_rI (fV_isDays v2 h1) fun r4 h3 =>
  if r4 = 0 then (
    some ([Sum.inl (Value.int (-(nI 1)))], h3))
  else
  mv_rR 2 (fF_behind 0 0 v2 h3) fun r6 h5 =>
  mv_gd (mv_inb v1 8) <|
  some ([Sum.inl (Value.int (rI2 h5 306 r6 v1.toNatClampNeg))], h5)
def fV_comes (o0 : Nat) (v1 : Int32) (v2 : Int32) (h : H2) : O2 :=
  mv_rI (fM_has 0 v1 h) fun r2 h1 =>
  if r2 = 0 then (
    some ([Sum.inl (Value.int (-(nI 1)))], h1))
  else
  mv_rI (fV_isPurpose v2 h1) fun r4 h3 =>
  if r4 = 0 then (
    some ([Sum.inl (Value.int (-(nI 1)))], h3))
  else
  mv_rI (fF_daysUntilAbout 0 0 v1 v2 h3) fun r6 h5 =>
  some ([Sum.inl (Value.int r6)], h5)
def fV_bare (o0 : Nat) (v1 : Int32) (h : H2) : O2 :=
  mv_rI (fM_has 0 v1 h) fun r2 h1 =>
  if r2 = 0 then (
    some ([Sum.inl (Value.int (-(nI 1)))], h1))
  else
  mv_rI (fF_daysUntilAbout 0 0 v1 (-(nI 1)) h1) fun r4 h3 =>
  some ([Sum.inl (Value.int r4)], h3)
def fV_spoilt (o0 : Nat) (v1 : Int32) (h : H2) : O2 :=
  mv_rI (fV_isDays v1 h) fun r2 h1 =>
  if r2 = 0 then (
    some ([Sum.inl (Value.int (-(nI 1)))], h1))
  else
  mv_rI (fF_spoiltBehind 0 0 v1 h1) fun r4 h3 =>
  some ([Sum.inl (Value.int r4)], h3)
def fV_through (o0 : Nat) (v1 : Int32) (v2 : Int32) (h : H2) : O2 :=
  mv_rI (fM_has 0 v1 h) fun r2 h1 =>
  if r2 = 0 then (
    some ([Sum.inl (Value.int (-(nI 1)))], h1))
  else
  mv_rI (fV_isPurpose v2 h1) fun r4 h3 =>
  if r4 = 0 then (
    some ([Sum.inl (Value.int (-(nI 1)))], h3))
  else
  mv_rI (fF_vatsThrough 0 0 v1 v2 h3) fun r6 h5 =>
  some ([Sum.inl (Value.int r6)], h5)
def fV_vatFor (o0 : Nat) (v1 : Int32) (v2 : Int32) (h : H2) : O2 :=
  mv_rI (fV_isRest v1 h) fun r2 h1 =>
  if r2 = 0 then (
    some ([Sum.inl (Value.int (-(nI 1)))], h1))
  else
  mv_rI (fV_isIn v2 (nI 1) (nI 40) h1) fun r4 h3 =>
  if r4 = 0 then (
    some ([Sum.inl (Value.int (-(nI 1)))], h3))
  else
  mv_rI (fF_deepestVat 0 0 v1 v2 h3) fun r6 h5 =>
  some ([Sum.inl (Value.int r6)], h5)
def fV_kindFor (o0 : Nat) (v1 : Int32) (v2 : Int32) (h : H2) : O2 :=
  mv_rI (fM_has 0 v1 h) fun r2 h1 =>
  if r2 = 0 then (
    some ([Sum.inl (Value.int (-(nI 1)))], h1))
  else
  mv_rI (fV_isIn v2 (nI 1) (nI 40) h1) fun r4 h3 =>
  if r4 = 0 then (
    some ([Sum.inl (Value.int (-(nI 1)))], h3))
  else
  mv_rI (fF_deepestKind 0 0 v1 v2 h3) fun r6 h5 =>
  some ([Sum.inl (Value.int r6)], h5)
def fV_strengthFor (o0 : Nat) (v1 : Int32) (v2 : Int32) (v3 : Int32) (v4 : Int32) (h : H2) : O2 :=
  mv_rI (fV_isVat v1 h) fun r2 h1 =>
  if r2 = 0 then (
    some ([Sum.inl (Value.int (-(nI 1)))], h1))
  else
  mv_rI (fM_has 0 v2 h1) fun r4 h3 =>
  if r4 = 0 then (
    some ([Sum.inl (Value.int (-(nI 1)))], h3))
  else
  mv_rI (fV_isPurpose v3 h3) fun r6 h5 =>
  if r6 = 0 then (
    some ([Sum.inl (Value.int (-(nI 1)))], h5))
  else
  mv_rI (fV_isIn v4 (nI 1) (nI 40) h5) fun r8 h7 =>
  if r8 = 0 then (
    some ([Sum.inl (Value.int (-(nI 1)))], h7))
  else
  mv_rI (fF_leastStrength 0 0 v1 v2 v3 v4 h7) fun r10 h9 =>
  some ([Sum.inl (Value.int r10)], h9)
def fV_hangFor (o0 : Nat) (v1 : Int32) (v2 : Int32) (h : H2) : O2 :=
  mv_rI (fV_isIn v1 (nI 1) (nI 30) h) fun r2 h1 =>
  if r2 = 0 then (
    some ([Sum.inl (Value.int (-(nI 1)))], h1))
  else
  mv_rI (fV_isIn v2 (nI 0) (nI 8) h1) fun r4 h3 =>
  if r4 = 0 then (
    some ([Sum.inl (Value.int (-(nI 1)))], h3))
  else
  mv_rI (fF_fewestHung 0 0 v1 v2 h3) fun r6 h5 =>
  some ([Sum.inl (Value.int r6)], h5)
def fV_isSheet (v0 : Int32) (h : H2) : O2 :=
  mv_rI (fV_isIn v0 (nI 0) (nI 3) h) fun r2 h1 =>
  mv_gd (decide (r2 = nI 0) || decide (r2 = nI 1)) <| some ([Sum.inl (Value.int r2)], h1)
def cV_isSheet : List mv_V → H2 → (List mv_V → H2 → O2) → O2 := fun as h k => match as with
  | [.inl (.int v0)] => mv_rI (fV_isSheet v0 h) fun x h => k [.inl (.int x)] h
  | _ => none
def fV_fits (o0 : Nat) (v1 : Int32) (v2 : Int32) (v3 : Int32) (h : H2) : O2 :=
  mv_rI (fV_isSheet v1 h) fun r2 h1 =>
  if r2 = 0 then (
    some ([Sum.inl (Value.int (-(nI 1)))], h1))
  else
  mv_rI (fM_has 0 v2 h1) fun r4 h3 =>
  if r4 = 0 then (
    some ([Sum.inl (Value.int (-(nI 1)))], h3))
  else
  mv_rI (fV_isIn v3 (nI 0) (nI 1) h3) fun r6 h5 =>
  if r6 = 0 then (
    some ([Sum.inl (Value.int (-(nI 1)))], h5))
  else
  mv_gd (mv_inb v1 4) <|
  mv_el (sht2 h5 v1.toNatClampNeg) (
    some ([Sum.inl (Value.int (-(nI 11)))], h5)) fun r7 =>
  if v3 = 0 then (
    mv_rI (fF_manyFitting 0 0 v2 r7 h5) fun r9 h8 =>
    some ([Sum.inl (Value.int r9)], h8))
  else
  mv_rI (fF_leastFitting 0 0 v2 r7 h5) fun r11 h10 =>
  some ([Sum.inl (Value.int r11)], h10)
def fV_odds (o0 : Nat) (v1 : Int32) (v2 : Int32) (v3 : Int32) (h : H2) : O2 :=
  mv_rI (fV_isIn v1 (nI 0) (nI 8) h) fun r2 h1 =>
  if r2 = 0 then (
    some ([Sum.inl (Value.long (-(lN 1)))], h1))
  else
  mv_rI (fV_isIn v2 (nI 0) v1 h1) fun r4 h3 =>
  if r4 = 0 then (
    some ([Sum.inl (Value.long (-(lN 1)))], h3))
  else
  mv_rI (fV_isIn v3 (nI 0) (nI 1) h3) fun r6 h5 =>
  if r6 = 0 then (
    some ([Sum.inl (Value.long (-(lN 1)))], h5))
  else
  mv_gd (mv_inb (nI 3) 4) <|
  mv_rL (fC_justSlip v1 v2 (rI2 h5 300 0 (nI 3).toNatClampNeg) v3 h5) fun r8 h7 =>
  some ([Sum.inl (Value.long r8)], h7)
def fV_hope (o0 : Nat) (v1 : Int32) (v2 : Int32) (h : H2) : O2 :=
  mv_rI (fV_isIn v1 (nI 0) (nI 99) h) fun r2 h1 =>
  if r2 = 0 then (
    some ([Sum.inl (Value.long (-(lN 1)))], h1))
  else
  mv_rI (fV_isIn v2 (nI 0) (nI 1) h1) fun r4 h3 =>
  if r4 = 0 then (
    some ([Sum.inl (Value.long (-(lN 1)))], h3))
  else
  mv_gd (mv_inb (nI 3) 4) <|
  mv_rL (fC_partOf (v1.toInt64 * ((rI2 h3 300 0 (nI 3).toNatClampNeg).toInt64)) (lN 100) v2 h3) fun r6 h5 =>
  some ([Sum.inl (Value.long r6)], h5)
def fV_prove (o0 : Nat) (v1 : Int32) (v2 : Int32) (h : H2) : O2 :=
  mv_rI (fM_has 0 v1 h) fun r2 h1 =>
  if r2 = 0 then (
    some ([Sum.inl (Value.int (-(nI 1)))], h1))
  else
  mv_rI (fV_isIn v2 (nI 1) (nI 10) h1) fun r4 h3 =>
  if r4 = 0 then (
    some ([Sum.inl (Value.int (-(nI 1)))], h3))
  else
  mv_rV (fF_writeRows 0 0 v1 v2 0 h3) fun h5 =>
  some ([Sum.inl (Value.int v2)], h5)
def fV_row (o0 : Nat) (v1 : Int32) (v2 : Int32) (h : H2) : O2 :=
  mv_rI (fR_has 0 v1 v2 h) fun r2 h1 =>
  if r2 = 0 then (
    some ([Sum.inl (Value.int (-(nI 9)))], h1))
  else
  mv_rI (fR_read 0 v1 v2 h1) fun r4 h3 =>
  some ([Sum.inl (Value.int r4)], h3)
def fV_alterRow (o0 : Nat) (v1 : Int32) (v2 : Int32) (v3 : Int32) (h : H2) : O2 :=
  mv_rI (fR_has 0 v1 v2 h) fun r2 h1 =>
  if r2 = 0 then (
    some ([Sum.inl (Value.int (-(nI 9)))], h1))
  else
  mv_rI (fR_read 0 v1 v2 h1) fun r4 h3 =>
  mv_bi r4 fun x5 =>
  mv_rV (fR_write 0 v1 v2 v3 h3) fun h6 =>
  some ([Sum.inl (Value.int x5)], h6)
def fV_judge (o0 : Nat) (v1 : Int32) (h : H2) : O2 :=
  mv_rI (fM_has 0 v1 h) fun r2 h1 =>
  if r2 = 0 then (
    some ([Sum.inl (Value.int (-(nI 1)))], h1))
  else
  mv_rI (fF_firstWrongRow 0 0 v1 0 h1) fun r4 h3 =>
  some ([Sum.inl (Value.int r4)], h3)
def fV_minds_b105 : Nat → Nat → Int32 → Int32 → Int32 → Nat → Int32 → H2 → O2
  | 0 => fun _ _ _ _ _ _ _ => none
  | n + 1 => fun o0 v2 v3 v4 o5 v6 h =>
    if v4 ≤ v6 then (
      some ([Sum.inl (Value.int v4)], h))
    else
    mv_rI (fS_read o5 (v2 + v6) h) fun r2 h1 =>
    mv_rV (fM_deepen 0 (v3 + v6) r2 h1) fun h3 =>
    mv_bi (v6 + (nI 1)) fun x4 =>
    fV_minds_b105 n o0 v2 v3 v4 o5 x4 h3
def fV_minds (o0 : Nat) (v1 : Int32) (v2 : Int32) (v3 : Int32) (v4 : Int32) (h : H2) : O2 :=
  mv_rI (fV_isSheet v1 h) fun r2 h1 =>
  if r2 = 0 then (
    some ([Sum.inl (Value.int (-(nI 1)))], h1))
  else
  mv_rI (fM_has 0 v3 h1) fun r4 h3 =>
  if r4 = 0 then (
    some ([Sum.inl (Value.int (-(nI 1)))], h3))
  else
  mv_rI (fV_isIn v4 (nI 0) (nI 8) h3) fun r6 h5 =>
  if r6 = 0 then (
    some ([Sum.inl (Value.int (-(nI 1)))], h5))
  else
  if v4 ≤ ((rI2 h5 2 0 9) - v3) then (
    mv_gd (mv_inb v1 4) <|
    mv_el (sht2 h5 v1.toNatClampNeg) (
      some ([Sum.inl (Value.int (-(nI 11)))], h5)) fun r7 =>
    if (rI2 h5 4 r7 0) = 0 then (
      mv_rI (fS_size r7 h5) fun r9 h8 =>
      mv_rI (fV_isIn v2 (nI 0) r9 h8) fun r11 h10 =>
      if r11 = 0 then (
        some ([Sum.inl (Value.int (-(nI 12)))], h10))
      else
      mv_rI (fS_size r7 h10) fun r13 h12 =>
      if v4 ≤ (r13 - v2) then (
        mv_bi (nI 0) fun x14 =>
        fV_minds_b105 1000 o0 v2 v3 v4 r7 x14 h12)
      else
      some ([Sum.inl (Value.int (-(nI 12)))], h12))
    else
    some ([Sum.inl (Value.int (-(nI 13)))], h5))
  else
  some ([Sum.inl (Value.int (-(nI 1)))], h5)
def fV_sheet (o0 : Nat) (v1 : Int32) (v2 : Int32) (v3 : Int32) (h : H2) : O2 :=
  mv_rI (fV_isSheet v1 h) fun r2 h1 =>
  if r2 = 0 then (
    some ([Sum.inl (Value.int (-(nI 1)))], h1))
  else
  mv_rI (fV_isIn v2 (-(nI 1)) (nI 3) h1) fun r4 h3 =>
  if r4 = 0 then (
    some ([Sum.inl (Value.int (-(nI 1)))], h3))
  else
  if v2 = (-(nI 1)) then (
    mv_gd (mv_inb v1 4) <|
    wR2 h3 807 0 v1.toNatClampNeg none fun h5 =>
    some ([Sum.inl (Value.int (nI 1))], h5))
  else
  if v3 ≤ (nI 40) then (
    if 0 ≤ v3 then (
      nw2 h3 4 0 fun r6 h7 =>
      mv_rV (fS_init r6 v2 v3 h7) fun h8 =>
      mv_gd (mv_inb v1 4) <|
      wR2 h8 807 0 v1.toNatClampNeg (some (4, r6)) fun h9 =>
      some ([Sum.inl (Value.int (nI 1))], h9))
    else
    some ([Sum.inl (Value.int (-(nI 14)))], h3))
  else
  some ([Sum.inl (Value.int (-(nI 1)))], h3)
def fV_put (o0 : Nat) (v1 : Int32) (v2 : Int32) (v3 : Int32) (h : H2) : O2 :=
  mv_rI (fV_isSheet v1 h) fun r2 h1 =>
  if r2 = 0 then (
    some ([Sum.inl (Value.int (-(nI 1)))], h1))
  else
  mv_gd (mv_inb v1 4) <|
  mv_el (sht2 h1 v1.toNatClampNeg) (
    some ([Sum.inl (Value.int (-(nI 11)))], h1)) fun r3 =>
  mv_rI (fS_has r3 v2 h1) fun r5 h4 =>
  if r5 = 0 then (
    some ([Sum.inl (Value.int (-(nI 12)))], h4))
  else
  mv_rV (fS_write r3 v2 v3 h4) fun h6 =>
  some ([Sum.inl (Value.int (nI 1))], h6)
def fV_item (o0 : Nat) (v1 : Int32) (v2 : Int32) (v3 : Int32) (h : H2) : O2 :=
  mv_rI (fV_isSheet v1 h) fun r2 h1 =>
  if r2 = 0 then (
    some ([Sum.inl (Value.int (-(nI 1)))], h1))
  else
  mv_rI (fV_isIn v2 (nI 0) (nI 3) h1) fun r4 h3 =>
  if r4 = 0 then (
    some ([Sum.inl (Value.int (-(nI 1)))], h3))
  else
  mv_gd (mv_inb v1 4) <|
  mv_el (sht2 h3 v1.toNatClampNeg) (
    some ([Sum.inl (Value.int (-(nI 11)))], h3)) fun r5 =>
  if (rI2 h3 4 r5 0) = v2 then (
    mv_rI (fS_has r5 v3 h3) fun r7 h6 =>
    if r7 = 0 then (
      some ([Sum.inl (Value.int (-(nI 12)))], h6))
    else
    mv_rI (fS_read r5 v3 h6) fun r9 h8 =>
    some ([Sum.inl (Value.int r9)], h8))
  else
  some ([Sum.inl (Value.int (-(nI 13)))], h3)
def fV_isShelf (v0 : Int32) (h : H2) : O2 :=
  mv_rI (fV_isIn v0 (nI 0) (nI 3) h) fun r2 h1 =>
  mv_gd (decide (r2 = nI 0) || decide (r2 = nI 1)) <| some ([Sum.inl (Value.int r2)], h1)
def cV_isShelf : List mv_V → H2 → (List mv_V → H2 → O2) → O2 := fun as h k => match as with
  | [.inl (.int v0)] => mv_rI (fV_isShelf v0 h) fun x h => k [.inl (.int x)] h
  | _ => none
def fV_shelf (o0 : Nat) (v1 : Int32) (v2 : Int32) (v3 : Int32) (h : H2) : O2 :=
  mv_rI (fV_isShelf v1 h) fun r2 h1 =>
  if r2 = 0 then (
    some ([Sum.inl (Value.int (-(nI 1)))], h1))
  else
  if v2 = nI 0 then (
    mv_rI (fM_has 0 v3 h1) fun r4 h3 =>
    if r4 = 0 then (
      some ([Sum.inl (Value.int (-(nI 1)))], h3))
    else
    mv_rV (fH_holdCloth 0 v1 v3 h3) fun h5 =>
    some ([Sum.inl (Value.int (nI 1))], h5))
  else
  if v2 = nI 1 then (
    mv_rI (fV_isSheet v3 h1) fun r7 h6 =>
    if r7 = 0 then (
      some ([Sum.inl (Value.int (-(nI 1)))], h6))
    else
    mv_gd (mv_inb v3 4) <|
    mv_el (sht2 h6 v3.toNatClampNeg) (
      mv_rV (fH_holdRow_n 0 v1 h6) fun h9 =>
      some ([Sum.inl (Value.int (nI 1))], h9)) fun r8 =>
    mv_rV (fH_holdRow_r 0 v1 r8 h6) fun h10 =>
    some ([Sum.inl (Value.int (nI 1))], h10))
  else
  if v2 = nI 2 then (
    mv_rV (fH_holdRow_n 0 v1 h1) fun h11 =>
    some ([Sum.inl (Value.int (nI 1))], h11))
  else
  some ([Sum.inl (Value.int (-(nI 1)))], h1)
def fV_parentKind (v0 : Int32) (h : H2) : O2 :=
  if v0 = nI 1 then (
    some ([Sum.inl (Value.int (nI 0))], h))
  else
  if v0 = nI 2 then (
    some ([Sum.inl (Value.int (nI 0))], h))
  else
  if v0 = nI 3 then (
    some ([Sum.inl (Value.int (nI 1))], h))
  else
  if v0 = nI 4 then (
    some ([Sum.inl (Value.int (nI 2))], h))
  else
  if v0 = nI 5 then (
    some ([Sum.inl (Value.int (nI 0))], h))
  else
  some ([Sum.inl (Value.int (-(nI 1)))], h)
def cV_parentKind : List mv_V → H2 → (List mv_V → H2 → O2) → O2 := fun as h k => match as with
  | [.inl (.int v0)] => mv_rI (fV_parentKind v0 h) fun x h => k [.inl (.int x)] h
  | _ => none
def fV_isUnder_b4 : Nat → Int32 → Int32 → Int32 → H2 → O2
  | 0 => fun _ _ _ _ => none
  | n + 1 => fun v1 v2 v3 h =>
    if (nI 6) ≤ v3 then (
      mv_gd (decide (nI 0 = nI 0) || decide (nI 0 = nI 1)) <| some ([Sum.inl (Value.int (nI 0))], h))
    else
    if v2 = (-(nI 1)) then (
      mv_gd (decide (nI 0 = nI 0) || decide (nI 0 = nI 1)) <| some ([Sum.inl (Value.int (nI 0))], h))
    else
    if v2 = v1 then (
      mv_gd (decide (nI 1 = nI 0) || decide (nI 1 = nI 1)) <| some ([Sum.inl (Value.int (nI 1))], h))
    else
    mv_rI (fV_parentKind v2 h) fun r2 h1 =>
    mv_bi r2 fun x3 =>
    mv_bi (v3 + (nI 1)) fun x4 =>
    fV_isUnder_b4 n v1 x3 x4 h1
def fV_isUnder (v0 : Int32) (v1 : Int32) (h : H2) : O2 :=
  mv_bi v0 fun x1 =>
  mv_bi (nI 0) fun x2 =>
  fV_isUnder_b4 1000 v1 x1 x2 h
def cV_isUnder : List mv_V → H2 → (List mv_V → H2 → O2) → O2 := fun as h k => match as with
  | [.inl (.int v0), .inl (.int v1)] => mv_rI (fV_isUnder v0 v1 h) fun x h => k [.inl (.int x)] h
  | _ => none
def fV_taken_b29 (o0 : Nat) (v1 : Int32) (v2 : Int32) (h : H2) : O2 :=
  mv_rQ (fH_rowOn 0 v1 h) (fun h1 =>
    mv_rI (fH_clothOn 0 v1 h1) fun r4 h3 =>
    mv_bi r4 fun x5 =>
    mv_rI (fM_has 0 x5 h3) fun r7 h6 =>
    if r7 = 0 then (
      some ([Sum.inl (Value.int (-(nI 11)))], h6))
    else
    mv_gd (mv_inb x5 8) <|
    mv_rI (fV_isUnder (rI2 h6 304 0 x5.toNatClampNeg) v2 h6) fun r9 h8 =>
    if r9 = 0 then (
      some ([Sum.inl (Value.int (-(nI 13)))], h8))
    else
    some ([Sum.inl (Value.int x5)], h8)) fun r2 h1 =>
  if (rI2 h1 4 r2 0) = (v2 - (nI 10)) then (
    mv_rI (fS_size r2 h1) fun r11 h10 =>
    some ([Sum.inl (Value.int r11)], h10))
  else
  some ([Sum.inl (Value.int (-(nI 13)))], h1)
def fV_taken (o0 : Nat) (v1 : Int32) (v2 : Int32) (h : H2) : O2 :=
  mv_rI (fV_isShelf v1 h) fun r2 h1 =>
  if r2 = 0 then (
    some ([Sum.inl (Value.int (-(nI 1)))], h1))
  else
  mv_rI (fV_isKind v2 h1) fun r4 h3 =>
  if r4 = 0 then (
    mv_rI (fV_isIn v2 (nI 10) (nI 13) h3) fun r6 h5 =>
    if r6 = 0 then (
      some ([Sum.inl (Value.int (-(nI 1)))], h5))
    else
    fV_taken_b29 o0 v1 v2 h5)
  else
  fV_taken_b29 o0 v1 v2 h3
def fV_act (o0 : Nat) (v1 : Int32) (v2 : Int32) (v3 : Int32) (h : H2) : O2 :=
  mv_rV (fA_forget 0 h) fun h1 =>
  mv_rI (fV_isShelf v1 h1) fun r3 h2 =>
  if r3 = 0 then (
    some ([Sum.inl (Value.int (nI 0))], h2))
  else
  mv_rI (fV_isIn v2 (nI 0) (nI 3) h2) fun r5 h4 =>
  if r5 = 0 then (
    some ([Sum.inl (Value.int (nI 0))], h4))
  else
  mv_rI (fH_clothOn 0 v1 h4) fun r7 h6 =>
  mv_bi r7 fun x8 =>
  mv_rI (fM_has 0 x8 h6) fun r10 h9 =>
  if r10 = 0 then (
    some ([Sum.inl (Value.int (nI 0))], h9))
  else
  mv_gd (mv_inb x8 8) <|
  mv_gd (mv_inb x8 8) <|
  mv_rV (fA_hold 0 (rI2 h9 304 0 x8.toNatClampNeg) x8 ((nI 1) + (rI2 h9 305 0 x8.toNatClampNeg)) h9) fun h11 =>
  mv_rI (fA_perform 0 v2 v3 h11) fun r13 h12 =>
  some ([Sum.inl (Value.int r13)], h12)
def fV_trace (o0 : Nat) (v1 : Int32) (h : H2) : O2 :=
  mv_rI (fV_isIn v1 (nI 0) ((rI2 h 0 0 1) - (nI 1)) h) fun r2 h1 =>
  if r2 = 0 then (
    some ([Sum.inl (Value.int (-(nI 3)))], h1))
  else
  mv_gd (mv_inb v1 30) <|
  some ([Sum.inl (Value.int (rI2 h1 100 0 v1.toNatClampNeg))], h1)
def fV_many (o0 : Nat) (v1 : Int32) (h : H2) : O2 :=
  if v1 = nI 0 then (
    some ([Sum.inl (Value.int (rI2 h 2 0 9))], h))
  else
  if v1 = nI 1 then (
    mv_rI (fM_hungSet 0 h) fun r2 h1 =>
    mv_rI (fJ_bitCount_0f7a4 r2 h1) fun r4 h3 =>
    some ([Sum.inl (Value.int r4)], h3))
  else
  if v1 = nI 2 then (
    mv_rI (fM_aboutSet 0 h) fun r6 h5 =>
    mv_rI (fJ_bitCount_0f7a4 r6 h5) fun r8 h7 =>
    some ([Sum.inl (Value.int r8)], h7))
  else
  if v1 = nI 3 then (
    mv_rI (fM_purposeSet 0 h) fun r10 h9 =>
    mv_rI (fJ_bitCount_0f7a4 r10 h9) fun r12 h11 =>
    some ([Sum.inl (Value.int r12)], h11))
  else
  if v1 = nI 4 then (
    some ([Sum.inl (Value.int (rI2 h 3 0 1))], h))
  else
  if v1 = nI 5 then (
    some ([Sum.inl (Value.int (rI2 h 6 0 1))], h))
  else
  if v1 = nI 6 then (
    some ([Sum.inl (Value.int (rI2 h 0 0 1))], h))
  else
  some ([Sum.inl (Value.int (-(nI 1)))], h)
def fV_keep (o0 : Nat) (h : H2) : O2 :=
  mv_rV (fM_copyFrom 2 0 h) fun h1 =>
  mv_gd (decide (nI 1 = nI 0) || decide (nI 1 = nI 1)) <|
  mv_bh (wI2 h1 7 o0 3 (nI 1)) fun h2 =>
  some ([Sum.inl (Value.int (nI 1))], h2)
def fV_again (o0 : Nat) (h : H2) : O2 :=
  if (rI2 h 7 o0 3) = 0 then (
    some ([Sum.inl (Value.int (-(nI 3)))], h))
  else
  mv_rV (fM_copyFrom 0 2 h) fun h1 =>
  some ([Sum.inl (Value.int (rI2 h1 2 0 9))], h1)
def fN_anew_b89 : Nat → Nat → Int32 → Int32 → H2 → O2
  | 0 => fun _ _ _ _ => none
  | n + 1 => fun o0 v1 v2 h =>
    if (nI 6) ≤ v2 then (
      mv_gd (mv_inb (nI 5) 69) <|
      mv_bh (wI2 h 902 o0 (nI 5).toNatClampNeg v1) fun h1 =>
      some ([], h1))
    else
    mv_gd (mv_inb ((nI 23) + v2) 69) <|
    mv_bh (wI2 h 902 o0 ((nI 23) + v2).toNatClampNeg v2) fun h2 =>
    mv_bi (v2 + (nI 1)) fun x3 =>
    fN_anew_b89 n o0 v1 x3 h2
def fN_anew_b55 : Nat → Nat → Int32 → Int32 → H2 → O2
  | 0 => fun _ _ _ _ => none
  | n + 1 => fun o0 v1 v2 h =>
    if (nI 8) ≤ v2 then (
      mv_bi (nI 0) fun x1 =>
      fN_anew_b89 1000 o0 v1 x1 h)
    else
    mv_gd (mv_inb ((nI 7) + v2) 69) <|
    mv_bh (wI2 h 902 o0 ((nI 7) + v2).toNatClampNeg v2) fun h2 =>
    mv_gd (mv_inb ((nI 15) + v2) 69) <|
    mv_bh (wI2 h2 902 o0 ((nI 15) + v2).toNatClampNeg (nI 5)) fun h3 =>
    mv_bi (v2 + (nI 1)) fun x4 =>
    fN_anew_b55 n o0 v1 x4 h3
def fN_anew_b30 : Nat → Nat → Int32 → Int32 → H2 → O2
  | 0 => fun _ _ _ _ => none
  | n + 1 => fun o0 v1 v2 h =>
    if (nI 4) ≤ v2 then (
      mv_bi (nI 0) fun x1 =>
      fN_anew_b55 1000 o0 v1 x1 h)
    else
    mv_gd (mv_inb v2 4) <|
    mv_gd (mv_inb v2 69) <|
    mv_bh (wI2 h 902 o0 v2.toNatClampNeg (rI2 h 901 o0 v2.toNatClampNeg)) fun h2 =>
    mv_bi (v2 + (nI 1)) fun x3 =>
    fN_anew_b30 n o0 v1 x3 h2
def fN_anew_b9 : Nat → Nat → Int32 → Int32 → H2 → O2
  | 0 => fun _ _ _ _ => none
  | n + 1 => fun o0 v1 v2 h =>
    if (nI 69) ≤ v2 then (
      mv_bi (nI 0) fun x1 =>
      fN_anew_b30 1000 o0 v1 x1 h)
    else
    mv_gd (mv_inb v2 69) <|
    mv_bh (wI2 h 902 o0 v2.toNatClampNeg (nI 0)) fun h2 =>
    mv_bi (v2 + (nI 1)) fun x3 =>
    fN_anew_b9 n o0 v1 x3 h2
def fN_anew (o0 : Nat) (h : H2) : O2 :=
  mv_gd (mv_inb (nI 5) 69) <|
  mv_bi (rI2 h 902 o0 (nI 5).toNatClampNeg) fun x1 =>
  mv_bi (nI 0) fun x2 =>
  fN_anew_b9 1000 o0 x1 x2 h
def cN_anew : List mv_V → H2 → (List mv_V → H2 → O2) → O2 := fun as h k => match as with
  | [.inr (t0, o0)] => mv_gd (Nat.beq t0 8) <| mv_rV (fN_anew o0 h) fun h => k [] h
  | _ => none
def fN_in (w0 : Int64) (w2 : Int64) (w4 : Int64) (h : H2) : O2 :=
  if (lg_cmp w0 w2) < 0 then (
    mv_gd (decide (nI 0 = nI 0) || decide (nI 0 = nI 1)) <| some ([Sum.inl (Value.int (nI 0))], h))
  else
  if 0 < (lg_cmp w0 w4) then (
    mv_gd (decide (nI 0 = nI 0) || decide (nI 0 = nI 1)) <| some ([Sum.inl (Value.int (nI 0))], h))
  else
  mv_gd (decide (nI 1 = nI 0) || decide (nI 1 = nI 1)) <| some ([Sum.inl (Value.int (nI 1))], h)
def cN_in : List mv_V → H2 → (List mv_V → H2 → O2) → O2 := fun as h k => match as with
  | [.inl (.long w0), .inl (.long w2), .inl (.long w4)] => mv_rI (fN_in w0 w2 w4 h) fun x h => k [.inl (.int x)] h
  | _ => none
def fN_become_902_904_b2 : Nat → Nat → Nat → Int32 → H2 → O2
  | 0 => fun _ _ _ _ => none
  | n + 1 => fun o0 o1 v2 h =>
    if (nI 69) ≤ v2 then (
      some ([], h))
    else
    mv_gd (mv_inb v2 69) <|
    mv_gd (mv_inb v2 69) <|
    mv_bh (wI2 h 904 o1 v2.toNatClampNeg (rI2 h 902 o0 v2.toNatClampNeg)) fun h1 =>
    mv_bi (v2 + (nI 1)) fun x2 =>
    fN_become_902_904_b2 n o0 o1 x2 h1
def fN_become_902_904 (o0 : Nat) (o1 : Nat) (h : H2) : O2 :=
  mv_bi (nI 0) fun x1 =>
  fN_become_902_904_b2 1000 o0 o1 x1 h
def fN_become_904_902_b2 : Nat → Nat → Nat → Int32 → H2 → O2
  | 0 => fun _ _ _ _ => none
  | n + 1 => fun o0 o1 v2 h =>
    if (nI 69) ≤ v2 then (
      some ([], h))
    else
    mv_gd (mv_inb v2 69) <|
    mv_gd (mv_inb v2 69) <|
    mv_bh (wI2 h 902 o1 v2.toNatClampNeg (rI2 h 904 o0 v2.toNatClampNeg)) fun h1 =>
    mv_bi (v2 + (nI 1)) fun x2 =>
    fN_become_904_902_b2 n o0 o1 x2 h1
def fN_become_904_902 (o0 : Nat) (o1 : Nat) (h : H2) : O2 :=
  mv_bi (nI 0) fun x1 =>
  fN_become_904_902_b2 1000 o0 o1 x1 h
def fN_become_902_903_b2 : Nat → Nat → Nat → Int32 → H2 → O2
  | 0 => fun _ _ _ _ => none
  | n + 1 => fun o0 o1 v2 h =>
    if (nI 69) ≤ v2 then (
      some ([], h))
    else
    mv_gd (mv_inb v2 69) <|
    mv_gd (mv_inb v2 69) <|
    mv_bh (wI2 h 903 o1 v2.toNatClampNeg (rI2 h 902 o0 v2.toNatClampNeg)) fun h1 =>
    mv_bi (v2 + (nI 1)) fun x2 =>
    fN_become_902_903_b2 n o0 o1 x2 h1
def fN_become_902_903 (o0 : Nat) (o1 : Nat) (h : H2) : O2 :=
  mv_bi (nI 0) fun x1 =>
  fN_become_902_903_b2 1000 o0 o1 x1 h
def fN_become_903_902_b2 : Nat → Nat → Nat → Int32 → H2 → O2
  | 0 => fun _ _ _ _ => none
  | n + 1 => fun o0 o1 v2 h =>
    if (nI 69) ≤ v2 then (
      some ([], h))
    else
    mv_gd (mv_inb v2 69) <|
    mv_gd (mv_inb v2 69) <|
    mv_bh (wI2 h 902 o1 v2.toNatClampNeg (rI2 h 903 o0 v2.toNatClampNeg)) fun h1 =>
    mv_bi (v2 + (nI 1)) fun x2 =>
    fN_become_903_902_b2 n o0 o1 x2 h1
def fN_become_903_902 (o0 : Nat) (o1 : Nat) (h : H2) : O2 :=
  mv_bi (nI 0) fun x1 =>
  fN_become_903_902_b2 1000 o0 o1 x1 h
def cN_become : List mv_V → H2 → (List mv_V → H2 → O2) → O2 := fun as h k => match as with
  | [.inr (t0, o0), .inr (t1, o1)] => cond (Nat.beq t0 902 && Nat.beq t1 904) (mv_rV (fN_become_902_904 o0 o1 h) fun h => k [] h) (cond (Nat.beq t0 904 && Nat.beq t1 902) (mv_rV (fN_become_904_902 o0 o1 h) fun h => k [] h) (cond (Nat.beq t0 902 && Nat.beq t1 903) (mv_rV (fN_become_902_903 o0 o1 h) fun h => k [] h) (cond (Nat.beq t0 903 && Nat.beq t1 902) (mv_rV (fN_become_903_902 o0 o1 h) fun h => k [] h) (none))))
  | _ => none
def fN_lends (o0 : Nat) (h : H2) : O2 :=
  mv_rV (fN_become_902_904 o0 o0 h) fun h1 =>
  some ([], h1)
def cN_lends : List mv_V → H2 → (List mv_V → H2 → O2) → O2 := fun as h k => match as with
  | [.inr (t0, o0)] => mv_gd (Nat.beq t0 8) <| mv_rV (fN_lends o0 h) fun h => k [] h
  | _ => none
def fN_laysBack (o0 : Nat) (h : H2) : O2 :=
  mv_rV (fN_become_904_902 o0 o0 h) fun h1 =>
  some ([], h1)
def cN_laysBack : List mv_V → H2 → (List mv_V → H2 → O2) → O2 := fun as h k => match as with
  | [.inr (t0, o0)] => mv_gd (Nat.beq t0 8) <| mv_rV (fN_laysBack o0 h) fun h => k [] h
  | _ => none
def fN_isCloth (o0 : Nat) (v1 : Int32) (h : H2) : O2 :=
  mv_gd (mv_inb (nI 6) 69) <|
  mv_rI (fN_in v1.toInt64 (lN 0) (((rI2 h 902 o0 (nI 6).toNatClampNeg) - (nI 1)).toInt64) h) fun r2 h1 =>
  mv_gd (decide (r2 = nI 0) || decide (r2 = nI 1)) <| some ([Sum.inl (Value.int r2)], h1)
def cN_isCloth : List mv_V → H2 → (List mv_V → H2 → O2) → O2 := fun as h k => match as with
  | [.inr (t0, o0), .inl (.int v1)] => mv_gd (Nat.beq t0 8) <| mv_rI (fN_isCloth o0 v1 h) fun x h => k [.inl (.int x)] h
  | _ => none
def fN_isVat (v0 : Int32) (h : H2) : O2 :=
  mv_rI (fN_in v0.toInt64 (lN 0) (lN 7) h) fun r2 h1 =>
  mv_gd (decide (r2 = nI 0) || decide (r2 = nI 1)) <| some ([Sum.inl (Value.int r2)], h1)
def cN_isVat : List mv_V → H2 → (List mv_V → H2 → O2) → O2 := fun as h k => match as with
  | [.inl (.int v0)] => mv_rI (fN_isVat v0 h) fun x h => k [.inl (.int x)] h
  | _ => none
def fN_isPurpose (v0 : Int32) (h : H2) : O2 :=
  mv_rI (fN_in v0.toInt64 (lN 0) (lN 9) h) fun r2 h1 =>
  mv_gd (decide (r2 = nI 0) || decide (r2 = nI 1)) <| some ([Sum.inl (Value.int r2)], h1)
def cN_isPurpose : List mv_V → H2 → (List mv_V → H2 → O2) → O2 := fun as h k => match as with
  | [.inl (.int v0)] => mv_rI (fN_isPurpose v0 h) fun x h => k [.inl (.int x)] h
  | _ => none
def fN_isRest (v0 : Int32) (h : H2) : O2 :=
  mv_rI (fN_in v0.toInt64 (lN 0) (lN 5) h) fun r2 h1 =>
  mv_gd (decide (r2 = nI 0) || decide (r2 = nI 1)) <| some ([Sum.inl (Value.int r2)], h1)
def cN_isRest : List mv_V → H2 → (List mv_V → H2 → O2) → O2 := fun as h k => match as with
  | [.inl (.int v0)] => mv_rI (fN_isRest v0 h) fun x h => k [.inl (.int x)] h
  | _ => none
def fN_its (o0 : Nat) (v1 : Int32) (v2 : Int32) (h : H2) : O2 :=
  mv_gd (mv_inb (((nI 29) + ((nI 5) * v1)) + v2) 69) <|
  some ([Sum.inl (Value.int (rI2 h 902 o0 (((nI 29) + ((nI 5) * v1)) + v2).toNatClampNeg))], h)
def cN_its : List mv_V → H2 → (List mv_V → H2 → O2) → O2 := fun as h k => match as with
  | [.inr (t0, o0), .inl (.int v1), .inl (.int v2)] => mv_gd (Nat.beq t0 8) <| mv_rI (fN_its o0 v1 v2 h) fun x h => k [.inl (.int x)] h
  | _ => none
def fN_sets (o0 : Nat) (v1 : Int32) (v2 : Int32) (v3 : Int32) (h : H2) : O2 :=
  mv_gd (mv_inb (((nI 29) + ((nI 5) * v1)) + v2) 69) <|
  mv_bh (wI2 h 902 o0 (((nI 29) + ((nI 5) * v1)) + v2).toNatClampNeg v3) fun h1 =>
  some ([], h1)
def cN_sets : List mv_V → H2 → (List mv_V → H2 → O2) → O2 := fun as h k => match as with
  | [.inr (t0, o0), .inl (.int v1), .inl (.int v2), .inl (.int v3)] => mv_gd (Nat.beq t0 8) <| mv_rV (fN_sets o0 v1 v2 v3 h) fun h => k [] h
  | _ => none
def fN_becomes (o0 : Nat) (v1 : Int32) (v2 : Int32) (h : H2) : O2 :=
  mv_gd (mv_inb v1 69) <|
  mv_bi (rI2 h 902 o0 v1.toNatClampNeg) fun x1 =>
  mv_gd (mv_inb v1 69) <|
  mv_bh (wI2 h 902 o0 v1.toNatClampNeg v2) fun h2 =>
  some ([Sum.inl (Value.int x1)], h2)
def cN_becomes : List mv_V → H2 → (List mv_V → H2 → O2) → O2 := fun as h k => match as with
  | [.inr (t0, o0), .inl (.int v1), .inl (.int v2)] => mv_gd (Nat.beq t0 8) <| mv_rI (fN_becomes o0 v1 v2 h) fun x h => k [.inl (.int x)] h
  | _ => none
def fN_set (o0 : Nat) (v1 : Int32) (v2 : Int32) (h : H2) : O2 :=
  mv_rI (fN_in v1.toInt64 (lN 0) (lN 3) h) fun r2 h1 =>
  if r2 = 0 then (
    some ([Sum.inl (Value.int (-(nI 1)))], h1))
  else
  mv_gd (mv_inb v1 4) <|
  mv_rI (fN_in v2.toInt64 (lN 0) ((rI2 h1 900 o0 v1.toNatClampNeg).toInt64) h1) fun r4 h3 =>
  if r4 = 0 then (
    some ([Sum.inl (Value.int (-(nI 1)))], h3))
  else
  mv_rI (fN_becomes o0 v1 v2 h3) fun r6 h5 =>
  some ([Sum.inl (Value.int r6)], h5)
def fN_lawOf (o0 : Nat) (v1 : Int32) (h : H2) : O2 :=
  mv_rI (fN_in v1.toInt64 (lN 0) (lN 3) h) fun r2 h1 =>
  if r2 = 0 then (
    some ([Sum.inl (Value.int (-(nI 1)))], h1))
  else
  mv_gd (mv_inb v1 69) <|
  some ([Sum.inl (Value.int (rI2 h1 902 o0 v1.toNatClampNeg))], h1)
def fN_fill (o0 : Nat) (v1 : Int32) (v2 : Int32) (v3 : Int32) (h : H2) : O2 :=
  mv_rI (fN_isVat v1 h) fun r2 h1 =>
  if r2 = 0 then (
    some ([Sum.inl (Value.int (-(nI 1)))], h1))
  else
  mv_rI (fN_in v2.toInt64 (lN 0) (lN 1) h1) fun r4 h3 =>
  if r4 = 0 then (
    some ([Sum.inl (Value.int (-(nI 1)))], h3))
  else
  mv_rI (fN_in v3.toInt64 (lN 0) (lN 9) h3) fun r6 h5 =>
  if r6 = 0 then (
    some ([Sum.inl (Value.int (-(nI 1)))], h5))
  else
  mv_rI (fN_becomes o0 (((nI 7) + ((nI 8) * v2)) + v1) v3 h5) fun r8 h7 =>
  some ([Sum.inl (Value.int r8)], h7)
def fN_vatOf (o0 : Nat) (v1 : Int32) (v2 : Int32) (h : H2) : O2 :=
  mv_rI (fN_isVat v1 h) fun r2 h1 =>
  if r2 = 0 then (
    some ([Sum.inl (Value.int (-(nI 1)))], h1))
  else
  mv_rI (fN_in v2.toInt64 (lN 0) (lN 1) h1) fun r4 h3 =>
  if r4 = 0 then (
    some ([Sum.inl (Value.int (-(nI 1)))], h3))
  else
  mv_gd (mv_inb (((nI 7) + ((nI 8) * v2)) + v1) 69) <|
  some ([Sum.inl (Value.int (rI2 h3 902 o0 (((nI 7) + ((nI 8) * v2)) + v1).toNatClampNeg))], h3)
def fN_roster (o0 : Nat) (v1 : Int32) (v2 : Int32) (h : H2) : O2 :=
  mv_rI (fN_isRest v1 h) fun r2 h1 =>
  if r2 = 0 then (
    some ([Sum.inl (Value.int (-(nI 1)))], h1))
  else
  if v2 = (-(nI 1)) then (
    mv_rI (fN_becomes o0 ((nI 23) + v1) v2 h1) fun r4 h3 =>
    some ([Sum.inl (Value.int ((nI 1) + r4))], h3))
  else
  mv_rI (fN_isVat v2 h1) fun r6 h5 =>
  if r6 = 0 then (
    some ([Sum.inl (Value.int (-(nI 1)))], h5))
  else
  mv_rI (fN_becomes o0 ((nI 23) + v1) v2 h5) fun r8 h7 =>
  some ([Sum.inl (Value.int ((nI 1) + r8))], h7)
def fN_rosterOf (o0 : Nat) (v1 : Int32) (h : H2) : O2 :=
  mv_rI (fN_isRest v1 h) fun r2 h1 =>
  if r2 = 0 then (
    some ([Sum.inl (Value.int (-(nI 1)))], h1))
  else
  mv_gd (mv_inb ((nI 23) + v1) 69) <|
  some ([Sum.inl (Value.int ((nI 1) + (rI2 h1 902 o0 ((nI 23) + v1).toNatClampNeg)))], h1)
def fN_isKind (v0 : Int32) (h : H2) : O2 :=
  mv_rI (fN_in v0.toInt64 (lN 0) (lN 5) h) fun r2 h1 =>
  mv_gd (decide (r2 = nI 0) || decide (r2 = nI 1)) <| some ([Sum.inl (Value.int r2)], h1)
def cN_isKind : List mv_V → H2 → (List mv_V → H2 → O2) → O2 := fun as h k => match as with
  | [.inl (.int v0)] => mv_rI (fN_isKind v0 h) fun x h => k [.inl (.int x)] h
  | _ => none
def fN_isUnder (v0 : Int32) (v1 : Int32) (h : H2) : O2 :=
  if v1 = 0 then (
    mv_gd (decide (nI 1 = nI 0) || decide (nI 1 = nI 1)) <| some ([Sum.inl (Value.int (nI 1))], h))
  else
  if v0 = v1 then (
    mv_gd (decide (nI 1 = nI 0) || decide (nI 1 = nI 1)) <| some ([Sum.inl (Value.int (nI 1))], h))
  else
  if v0 = (nI 3) then (
    if v1 = (nI 1) then (
      mv_gd (decide (nI 1 = nI 0) || decide (nI 1 = nI 1)) <| some ([Sum.inl (Value.int (nI 1))], h))
    else
    if v0 = (nI 4) then (
      if v1 = (nI 2) then (
        mv_gd (decide (nI 1 = nI 0) || decide (nI 1 = nI 1)) <| some ([Sum.inl (Value.int (nI 1))], h))
      else
      mv_gd (decide (nI 0 = nI 0) || decide (nI 0 = nI 1)) <| some ([Sum.inl (Value.int (nI 0))], h))
    else
    mv_gd (decide (nI 0 = nI 0) || decide (nI 0 = nI 1)) <| some ([Sum.inl (Value.int (nI 0))], h))
  else
  if v0 = (nI 4) then (
    if v1 = (nI 2) then (
      mv_gd (decide (nI 1 = nI 0) || decide (nI 1 = nI 1)) <| some ([Sum.inl (Value.int (nI 1))], h))
    else
    mv_gd (decide (nI 0 = nI 0) || decide (nI 0 = nI 1)) <| some ([Sum.inl (Value.int (nI 0))], h))
  else
  mv_gd (decide (nI 0 = nI 0) || decide (nI 0 = nI 1)) <| some ([Sum.inl (Value.int (nI 0))], h)
def cN_isUnder : List mv_V → H2 → (List mv_V → H2 → O2) → O2 := fun as h k => match as with
  | [.inl (.int v0), .inl (.int v1)] => mv_rI (fN_isUnder v0 v1 h) fun x h => k [.inl (.int x)] h
  | _ => none
def fN_takesOf (o0 : Nat) (v1 : Int32) (v2 : Int32) (h : H2) : O2 :=
  mv_gd (mv_inb (nI 0) 69) <|
  mv_bi (v2 + (rI2 h 902 o0 (nI 0).toNatClampNeg)) fun x1 =>
  mv_rI (fN_its o0 v1 (nI 0) h) fun r3 h2 =>
  if r3 = nI 1 then (
    some ([Sum.inl (Value.int (x1 + (nI 3)))], h2))
  else
  if r3 = nI 2 then (
    mv_gd (mv_inb (nI 1) 69) <|
    some ([Sum.inl (Value.int (x1 - (rI2 h2 902 o0 (nI 1).toNatClampNeg)))], h2))
  else
  if r3 = nI 3 then (
    some ([Sum.inl (Value.int ((nI 2) * (x1 + (nI 3))))], h2))
  else
  if r3 = nI 4 then (
    mv_gd (mv_inb (nI 1) 69) <|
    mv_gd (mv_inb (nI 2) 69) <|
    some ([Sum.inl (Value.int ((x1 - (rI2 h2 902 o0 (nI 1).toNatClampNeg)) + (rI2 h2 902 o0 (nI 2).toNatClampNeg)))], h2))
  else
  if r3 = nI 5 then (
    mv_gd (!decide ((nI 2) = 0)) <|
    some ([Sum.inl (Value.int (x1 / (nI 2)))], h2))
  else
  some ([Sum.inl (Value.int x1)], h2)
def cN_takesOf : List mv_V → H2 → (List mv_V → H2 → O2) → O2 := fun as h k => match as with
  | [.inr (t0, o0), .inl (.int v1), .inl (.int v2)] => mv_gd (Nat.beq t0 8) <| mv_rI (fN_takesOf o0 v1 v2 h) fun x h => k [.inl (.int x)] h
  | _ => none
def fN_fightsOf (o0 : Nat) (v1 : Int32) (v2 : Int32) (h : H2) : O2 :=
  mv_rI (fN_its o0 v1 (nI 0) h) fun r2 h1 =>
  if r2 = nI 1 then (
    mv_gd (mv_inb (nI 2) 69) <|
    some ([Sum.inl (Value.int (v2 - (rI2 h1 902 o0 (nI 2).toNatClampNeg)))], h1))
  else
  if r2 = nI 2 then (
    mv_gd (mv_inb (nI 2) 69) <|
    some ([Sum.inl (Value.int (v2 + (rI2 h1 902 o0 (nI 2).toNatClampNeg)))], h1))
  else
  if r2 = nI 3 then (
    mv_gd (mv_inb (nI 2) 69) <|
    mv_gd (mv_inb (nI 0) 69) <|
    some ([Sum.inl (Value.int ((v2 - (rI2 h1 902 o0 (nI 2).toNatClampNeg)) + (rI2 h1 902 o0 (nI 0).toNatClampNeg)))], h1))
  else
  if r2 = nI 4 then (
    mv_gd (mv_inb (nI 2) 69) <|
    some ([Sum.inl (Value.int ((nI 2) * (v2 + (rI2 h1 902 o0 (nI 2).toNatClampNeg))))], h1))
  else
  if r2 = nI 5 then (
    some ([Sum.inl (Value.int (v2 + (nI 1)))], h1))
  else
  some ([Sum.inl (Value.int v2)], h1)
def cN_fightsOf : List mv_V → H2 → (List mv_V → H2 → O2) → O2 := fun as h k => match as with
  | [.inr (t0, o0), .inl (.int v1), .inl (.int v2)] => mv_gd (Nat.beq t0 8) <| mv_rI (fN_fightsOf o0 v1 v2 h) fun x h => k [.inl (.int x)] h
  | _ => none
def fN_fadesOf (o0 : Nat) (v1 : Int32) (h : H2) : O2 :=
  mv_gd (mv_inb (nI 1) 69) <|
  mv_bi (rI2 h 902 o0 (nI 1).toNatClampNeg) fun x1 =>
  mv_rI (fN_its o0 v1 (nI 0) h) fun r3 h2 =>
  if r3 = nI 1 then (
    some ([Sum.inl (Value.int (x1 - (nI 1)))], h2))
  else
  if r3 = nI 2 then (
    some ([Sum.inl (Value.int (x1 + (nI 1)))], h2))
  else
  if r3 = nI 3 then (
    some ([Sum.inl (Value.int (nI 0))], h2))
  else
  if r3 = nI 4 then (
    some ([Sum.inl (Value.int ((nI 2) * (x1 + (nI 1))))], h2))
  else
  if r3 = nI 5 then (
    some ([Sum.inl (Value.int (x1 + (nI 3)))], h2))
  else
  some ([Sum.inl (Value.int x1)], h2)
def cN_fadesOf : List mv_V → H2 → (List mv_V → H2 → O2) → O2 := fun as h k => match as with
  | [.inr (t0, o0), .inl (.int v1)] => mv_gd (Nat.beq t0 8) <| mv_rI (fN_fadesOf o0 v1 h) fun x h => k [.inl (.int x)] h
  | _ => none
def fN_adds (o0 : Nat) (v1 : Int32) (h : H2) : O2 :=
  mv_gd (mv_inb (nI 6) 69) <|
  mv_bi (rI2 h 902 o0 (nI 6).toNatClampNeg) fun x1 =>
  mv_gd (mv_inb (nI 6) 69) <|
  mv_gd (mv_inb (nI 6) 69) <|
  mv_bh (wI2 h 902 o0 (nI 6).toNatClampNeg ((rI2 h 902 o0 (nI 6).toNatClampNeg) + (nI 1))) fun h2 =>
  mv_rV (fN_sets o0 x1 (nI 0) v1 h2) fun h3 =>
  mv_rV (fN_sets o0 x1 (nI 1) (-(nI 1)) h3) fun h4 =>
  mv_rV (fN_sets o0 x1 (nI 2) (nI 0) h4) fun h5 =>
  mv_rV (fN_sets o0 x1 (nI 3) (nI 0) h5) fun h6 =>
  mv_rV (fN_sets o0 x1 (nI 4) (nI 0) h6) fun h7 =>
  some ([], h7)
def cN_adds : List mv_V → H2 → (List mv_V → H2 → O2) → O2 := fun as h k => match as with
  | [.inr (t0, o0), .inl (.int v1)] => mv_gd (Nat.beq t0 8) <| mv_rV (fN_adds o0 v1 h) fun h => k [] h
  | _ => none
def fN_cloth (o0 : Nat) (v1 : Int32) (h : H2) : O2 :=
  mv_rI (fN_isKind v1 h) fun r2 h1 =>
  if r2 = 0 then (
    some ([Sum.inl (Value.int (-(nI 1)))], h1))
  else
  mv_gd (mv_inb (nI 6) 69) <|
  if (rI2 h1 902 o0 (nI 6).toNatClampNeg) = (nI 8) then (
    some ([Sum.inl (Value.int (-(nI 2)))], h1))
  else
  mv_rV (fN_adds o0 v1 h1) fun h3 =>
  mv_gd (mv_inb (nI 6) 69) <|
  some ([Sum.inl (Value.int ((rI2 h3 902 o0 (nI 6).toNatClampNeg) - (nI 1)))], h3)
def fN_of (o0 : Nat) (v1 : Int32) (v2 : Int32) (h : H2) : O2 :=
  mv_rI (fN_isCloth o0 v1 h) fun r2 h1 =>
  if r2 = 0 then (
    some ([Sum.inl (Value.int (-(nI 1)))], h1))
  else
  mv_rI (fN_in v2.toInt64 (lN 0) (lN 4) h1) fun r4 h3 =>
  if r4 = 0 then (
    some ([Sum.inl (Value.int (-(nI 1)))], h3))
  else
  if v2 = (nI 1) then (
    mv_rI (fN_its o0 v1 (nI 1) h3) fun r6 h5 =>
    some ([Sum.inl (Value.int ((nI 1) + r6))], h5))
  else
  mv_rI (fN_its o0 v1 v2 h3) fun r8 h7 =>
  some ([Sum.inl (Value.int r8)], h7)
def fN_does (o0 : Nat) (v1 : Int32) (v2 : Int32) (v3 : Int32) (h : H2) : O2 :=
  mv_rI (fN_isCloth o0 v1 h) fun r2 h1 =>
  if r2 = 0 then (
    some ([Sum.inl (Value.int (-(nI 1)))], h1))
  else
  mv_rI (fN_isVat v2 h1) fun r4 h3 =>
  if r4 = 0 then (
    some ([Sum.inl (Value.int (-(nI 1)))], h3))
  else
  mv_rI (fN_in v3.toInt64 (lN 0) (lN 2) h3) fun r6 h5 =>
  if r6 = 0 then (
    some ([Sum.inl (Value.int (-(nI 1)))], h5))
  else
  mv_gd (mv_inb ((nI 15) + v2) 69) <|
  mv_bi (rI2 h5 902 o0 ((nI 15) + v2).toNatClampNeg) fun x7 =>
  if v3 = 0 then (
    mv_rI (fN_takesOf o0 v1 x7 h5) fun r9 h8 =>
    some ([Sum.inl (Value.int ((nI 1000) + r9))], h8))
  else
  if v3 = (nI 1) then (
    mv_rI (fN_fightsOf o0 v1 x7 h5) fun r11 h10 =>
    some ([Sum.inl (Value.int ((nI 1000) + r11))], h10))
  else
  mv_rI (fN_fadesOf o0 v1 h5) fun r13 h12 =>
  some ([Sum.inl (Value.int ((nI 1000) + r13))], h12)
def fN_changed (o0 : Nat) (v1 : Int32) (v2 : Int32) (v3 : Int32) (h : H2) : O2 :=
  mv_rI (fN_becomes o0 (((nI 29) + ((nI 5) * v1)) + v2) v3 h) fun r2 h1 =>
  some ([Sum.inl (Value.int r2)], h1)
def cN_changed : List mv_V → H2 → (List mv_V → H2 → O2) → O2 := fun as h k => match as with
  | [.inr (t0, o0), .inl (.int v1), .inl (.int v2), .inl (.int v3)] => mv_gd (Nat.beq t0 8) <| mv_rI (fN_changed o0 v1 v2 v3 h) fun x h => k [.inl (.int x)] h
  | _ => none
def fN_mind (o0 : Nat) (v1 : Int32) (v2 : Int32) (h : H2) : O2 :=
  mv_rI (fN_isCloth o0 v1 h) fun r2 h1 =>
  if r2 = 0 then (
    some ([Sum.inl (Value.int (-(nI 1)))], h1))
  else
  mv_rI (fN_isKind v2 h1) fun r4 h3 =>
  if r4 = 0 then (
    some ([Sum.inl (Value.int (-(nI 1)))], h3))
  else
  mv_rI (fN_changed o0 v1 (nI 0) v2 h3) fun r6 h5 =>
  some ([Sum.inl (Value.int r6)], h5)
def fN_isDeep (o0 : Nat) (v1 : Int32) (v2 : Int32) (h : H2) : O2 :=
  mv_rV (fN_sets o0 v1 (nI 2) (if (nI 0) < (if v2 < (nI 99) then v2 else (nI 99)) then (if v2 < (nI 99) then v2 else (nI 99)) else (nI 0)) h) fun h1 =>
  if 0 < v2 then (
    some ([], h1))
  else
  mv_rV (fN_sets o0 v1 (nI 1) (-(nI 1)) h1) fun h2 =>
  some ([], h2)
def cN_isDeep : List mv_V → H2 → (List mv_V → H2 → O2) → O2 := fun as h k => match as with
  | [.inr (t0, o0), .inl (.int v1), .inl (.int v2)] => mv_gd (Nat.beq t0 8) <| mv_rV (fN_isDeep o0 v1 v2 h) fun h => k [] h
  | _ => none
def fN_steep_b41 (o0 : Nat) (v1 : Int32) (v2 : Int32) (v3 : Int32) (vs0 : Int32) (h : H2) : O2 :=
  mv_bi vs0 fun x1 =>
  mv_rI (fN_isCloth o0 v1 h) fun r3 h2 =>
  if r3 = 0 then (
    some ([Sum.inl (Value.int (-(nI 1)))], h2))
  else
  if x1 = 0 then (
    some ([Sum.inl (Value.int (-(nI 1)))], h2))
  else
  mv_rV (fN_sets o0 v1 (nI 2) v3 h2) fun h4 =>
  mv_rI (fN_changed o0 v1 (nI 1) v2 h4) fun r6 h5 =>
  some ([Sum.inl (Value.int ((nI 1) + r6))], h5)
def fN_steep (o0 : Nat) (v1 : Int32) (v2 : Int32) (v3 : Int32) (h : H2) : O2 :=
  if v2 = (-(nI 1)) then (
    if v3 = 0 then (
      fN_steep_b41 o0 v1 v2 v3 (nI 1) h)
    else
    fN_steep_b41 o0 v1 v2 v3 (nI 0) h)
  else
  mv_rI (fN_isPurpose v2 h) fun r2 h1 =>
  if r2 = 0 then (
    fN_steep_b41 o0 v1 v2 v3 (nI 0) h1)
  else
  mv_rI (fN_in v3.toInt64 (lN 1) (lN 99) h1) fun r4 h3 =>
  if r4 = 0 then (
    fN_steep_b41 o0 v1 v2 v3 (nI 0) h3)
  else
  fN_steep_b41 o0 v1 v2 v3 (nI 1) h3
def fN_hang (o0 : Nat) (v1 : Int32) (v2 : Int32) (h : H2) : O2 :=
  mv_rI (fN_isCloth o0 v1 h) fun r2 h1 =>
  if r2 = 0 then (
    some ([Sum.inl (Value.int (-(nI 1)))], h1))
  else
  mv_rI (fN_in v2.toInt64 (lN 0) (lN 1) h1) fun r4 h3 =>
  if r4 = 0 then (
    some ([Sum.inl (Value.int (-(nI 1)))], h3))
  else
  mv_rI (fN_changed o0 v1 (nI 3) v2 h3) fun r6 h5 =>
  some ([Sum.inl (Value.int r6)], h5)
def fN_dips_b108 (o0 : Nat) (v1 : Int32) (v2 : Int32) (v4 : Int32) (h : H2) : O2 :=
  mv_rI (fN_its o0 v1 (nI 4) h) fun r2 h1 =>
  mv_rV (fN_sets o0 v1 (nI 4) (if (r2 + (nI 1)) < (nI 9999) then (r2 + (nI 1)) else (nI 9999)) h1) fun h3 =>
  mv_gd (mv_inb ((nI 15) + v2) 69) <|
  mv_bh (wI2 h3 902 o0 ((nI 15) + v2).toNatClampNeg (if (nI 0) < (v4 - (nI 1)) then (v4 - (nI 1)) else (nI 0))) fun h4 =>
  some ([], h4)
def fN_dips_b49 (o0 : Nat) (v1 : Int32) (v2 : Int32) (v3 : Int32) (v4 : Int32) (v5 : Int32) (h : H2) : O2 :=
  mv_rV (fN_sets o0 v1 (nI 1) v3 h) fun h1 =>
  mv_rI (fN_takesOf o0 v1 v4 h1) fun r3 h2 =>
  mv_rV (fN_isDeep o0 v1 (v5 + r3) h2) fun h4 =>
  fN_dips_b108 o0 v1 v2 v4 h4
def fN_dips (o0 : Nat) (v1 : Int32) (v2 : Int32) (h : H2) : O2 :=
  mv_gd (mv_inb ((nI 7) + v2) 69) <|
  mv_bi (rI2 h 902 o0 ((nI 7) + v2).toNatClampNeg) fun x1 =>
  mv_gd (mv_inb ((nI 15) + v2) 69) <|
  mv_bi (rI2 h 902 o0 ((nI 15) + v2).toNatClampNeg) fun x2 =>
  mv_rI (fN_its o0 v1 (nI 2) h) fun r4 h3 =>
  mv_bi r4 fun x5 =>
  mv_rI (fN_its o0 v1 (nI 1) h3) fun r7 h6 =>
  if r7 = (-(nI 1)) then (
    fN_dips_b49 o0 v1 v2 x1 x2 x5 h6)
  else
  mv_rI (fN_its o0 v1 (nI 1) h6) fun r9 h8 =>
  if r9 = x1 then (
    fN_dips_b49 o0 v1 v2 x1 x2 x5 h8)
  else
  mv_rI (fN_fightsOf o0 v1 x2 h8) fun r11 h10 =>
  mv_bi (x5 - r11) fun x12 =>
  if 0 ≤ x12 then (
    mv_rV (fN_isDeep o0 v1 (if 0 ≤ x12 then x12 else 0 - x12) h10) fun h13 =>
    fN_dips_b108 o0 v1 v2 x2 h13)
  else
  mv_rV (fN_sets o0 v1 (nI 1) x1 h10) fun h14 =>
  mv_rV (fN_isDeep o0 v1 (if 0 ≤ x12 then x12 else 0 - x12) h14) fun h15 =>
  fN_dips_b108 o0 v1 v2 x2 h15
def cN_dips : List mv_V → H2 → (List mv_V → H2 → O2) → O2 := fun as h k => match as with
  | [.inr (t0, o0), .inl (.int v1), .inl (.int v2)] => mv_gd (Nat.beq t0 8) <| mv_rV (fN_dips o0 v1 v2 h) fun h => k [] h
  | _ => none
def fN_dip (o0 : Nat) (v1 : Int32) (v2 : Int32) (h : H2) : O2 :=
  mv_rI (fN_isCloth o0 v1 h) fun r2 h1 =>
  if r2 = 0 then (
    some ([Sum.inl (Value.int (-(nI 1)))], h1))
  else
  mv_rI (fN_isVat v2 h1) fun r4 h3 =>
  if r4 = 0 then (
    some ([Sum.inl (Value.int (-(nI 1)))], h3))
  else
  mv_rV (fN_dips o0 v1 v2 h3) fun h5 =>
  mv_rI (fN_its o0 v1 (nI 1) h5) fun r7 h6 =>
  some ([Sum.inl (Value.int ((nI 1) + r7))], h6)
def fN_aDay_b113 : Nat → Nat → Int32 → H2 → O2
  | 0 => fun _ _ _ => none
  | n + 1 => fun o0 v2 h =>
    if (nI 8) ≤ v2 then (
      mv_gd (mv_inb (nI 4) 69) <|
      mv_gd (mv_inb (nI 4) 69) <|
      mv_bh (wI2 h 902 o0 (nI 4).toNatClampNeg ((rI2 h 902 o0 (nI 4).toNatClampNeg) + (nI 1))) fun h1 =>
      some ([], h1))
    else
    mv_gd (mv_inb ((nI 15) + v2) 69) <|
    mv_gd (mv_inb ((nI 15) + v2) 69) <|
    mv_bh (wI2 h 902 o0 ((nI 15) + v2).toNatClampNeg (if ((rI2 h 902 o0 ((nI 15) + v2).toNatClampNeg) + (nI 1)) < (nI 9) then ((rI2 h 902 o0 ((nI 15) + v2).toNatClampNeg) + (nI 1)) else (nI 9))) fun h2 =>
    mv_bi (v2 + (nI 1)) fun x3 =>
    fN_aDay_b113 n o0 x3 h2
def fN_aDay_b58 : Nat → Nat → Int32 → H2 → O2
  | 0 => fun _ _ _ => none
  | n + 1 => fun o0 v2 h =>
    mv_gd (mv_inb (nI 6) 69) <|
    if (rI2 h 902 o0 (nI 6).toNatClampNeg) ≤ v2 then (
      mv_bi (nI 0) fun x1 =>
      fN_aDay_b113 1000 o0 x1 h)
    else
    mv_rI (fN_its o0 v2 (nI 3) h) fun r3 h2 =>
    if r3 = (nI 1) then (
      mv_rI (fN_its o0 v2 (nI 1) h2) fun r5 h4 =>
      if r5 < 0 then (
        mv_bi (v2 + (nI 1)) fun x6 =>
        fN_aDay_b58 n o0 x6 h4)
      else
      mv_rI (fN_its o0 v2 (nI 2) h4) fun r8 h7 =>
      mv_rI (fN_fadesOf o0 v2 h7) fun r10 h9 =>
      mv_rV (fN_isDeep o0 v2 (r8 - r10) h9) fun h11 =>
      mv_bi (v2 + (nI 1)) fun x12 =>
      fN_aDay_b58 n o0 x12 h11)
    else
    mv_bi (v2 + (nI 1)) fun x13 =>
    fN_aDay_b58 n o0 x13 h2
def fN_aDay_b20 : Nat → Nat → Int32 → Int32 → H2 → O2
  | 0 => fun _ _ _ _ => none
  | n + 1 => fun o0 v1 v2 h =>
    if v1 < 0 then (
      mv_bi (nI 0) fun x1 =>
      fN_aDay_b58 1000 o0 x1 h)
    else
    mv_gd (mv_inb (nI 6) 69) <|
    if (rI2 h 902 o0 (nI 6).toNatClampNeg) ≤ v2 then (
      mv_bi (nI 0) fun x2 =>
      fN_aDay_b58 1000 o0 x2 h)
    else
    mv_rI (fN_its o0 v2 (nI 3) h) fun r4 h3 =>
    if r4 = 0 then (
      mv_rV (fN_dips o0 v2 v1 h3) fun h5 =>
      mv_bi (v2 + (nI 1)) fun x6 =>
      fN_aDay_b20 n o0 v1 x6 h5)
    else
    mv_bi (v2 + (nI 1)) fun x7 =>
    fN_aDay_b20 n o0 v1 x7 h3
def fN_aDay (o0 : Nat) (h : H2) : O2 :=
  mv_gd (mv_inb (nI 4) 69) <|
  mv_gd (!decide ((nI 6) = 0)) <|
  mv_gd (mv_inb ((nI 23) + ((rI2 h 902 o0 (nI 4).toNatClampNeg) - (rI2 h 902 o0 (nI 4).toNatClampNeg) / (nI 6) * (nI 6))) 69) <|
  mv_bi (rI2 h 902 o0 ((nI 23) + ((rI2 h 902 o0 (nI 4).toNatClampNeg) - (rI2 h 902 o0 (nI 4).toNatClampNeg) / (nI 6) * (nI 6))).toNatClampNeg) fun x1 =>
  mv_bi (nI 0) fun x2 =>
  fN_aDay_b20 1000 o0 x1 x2 h
def cN_aDay : List mv_V → H2 → (List mv_V → H2 → O2) → O2 := fun as h k => match as with
  | [.inr (t0, o0)] => mv_gd (Nat.beq t0 8) <| mv_rV (fN_aDay o0 h) fun h => k [] h
  | _ => none
def fN_goes_b2 : Nat → Nat → Int32 → Int32 → H2 → O2
  | 0 => fun _ _ _ _ => none
  | n + 1 => fun o0 v1 v2 h =>
    if v1 ≤ v2 then (
      some ([], h))
    else
    mv_rV (fN_aDay o0 h) fun h1 =>
    mv_bi (v2 + (nI 1)) fun x2 =>
    fN_goes_b2 n o0 v1 x2 h1
def fN_goes (o0 : Nat) (v1 : Int32) (h : H2) : O2 :=
  mv_bi (nI 0) fun x1 =>
  fN_goes_b2 1000 o0 v1 x1 h
def cN_goes : List mv_V → H2 → (List mv_V → H2 → O2) → O2 := fun as h k => match as with
  | [.inr (t0, o0), .inl (.int v1)] => mv_gd (Nat.beq t0 8) <| mv_rV (fN_goes o0 v1 h) fun h => k [] h
  | _ => none
def fN_depths_b4 : Nat → Nat → Int32 → Int32 → H2 → O2
  | 0 => fun _ _ _ _ => none
  | n + 1 => fun o0 v1 v2 h =>
    mv_gd (mv_inb (nI 6) 69) <|
    if (rI2 h 902 o0 (nI 6).toNatClampNeg) ≤ v2 then (
      some ([Sum.inl (Value.int v1)], h))
    else
    mv_rI (fN_its o0 v2 (nI 2) h) fun r2 h1 =>
    mv_bi (v1 + r2) fun x3 =>
    mv_bi (v2 + (nI 1)) fun x4 =>
    fN_depths_b4 n o0 x3 x4 h1
def fN_depths (o0 : Nat) (h : H2) : O2 :=
  mv_bi (nI 0) fun x1 =>
  mv_bi (nI 0) fun x2 =>
  fN_depths_b4 1000 o0 x1 x2 h
def cN_depths : List mv_V → H2 → (List mv_V → H2 → O2) → O2 := fun as h k => match as with
  | [.inr (t0, o0)] => mv_gd (Nat.beq t0 8) <| mv_rI (fN_depths o0 h) fun x h => k [.inl (.int x)] h
  | _ => none
def fN_days (o0 : Nat) (v1 : Int32) (h : H2) : O2 :=
  mv_rI (fN_in v1.toInt64 (lN 1) (lN 60) h) fun r2 h1 =>
  if r2 = 0 then (
    some ([Sum.inl (Value.int (-(nI 1)))], h1))
  else
  mv_rV (fN_goes o0 v1 h1) fun h3 =>
  mv_rI (fN_depths o0 h3) fun r5 h4 =>
  some ([Sum.inl (Value.int r5)], h4)
def fN_seed (o0 : Nat) (v1 : Int32) (h : H2) : O2 :=
  mv_rI (fN_becomes o0 (nI 5) v1 h) fun r2 h1 =>
  some ([Sum.inl (Value.int r2)], h1)
def fN_draw (o0 : Nat) (h : H2) : O2 :=
  mv_gd (mv_inb (nI 5) 69) <|
  mv_gd (mv_inb (nI 5) 69) <|
  mv_bh (wI2 h 902 o0 (nI 5).toNatClampNeg (((rI2 h 902 o0 (nI 5).toNatClampNeg) * (nI 1103515245)) + (nI 12345))) fun h1 =>
  mv_gd (mv_inb (nI 5) 69) <|
  some ([Sum.inl (Value.int (((rI2 h1 902 o0 (nI 5).toNatClampNeg).toUInt32 >>> ((nI 16).toUInt32 &&& Int32.toUInt32 31)).toInt32))], h1)
def cN_draw : List mv_V → H2 → (List mv_V → H2 → O2) → O2 := fun as h k => match as with
  | [.inr (t0, o0)] => mv_gd (Nat.beq t0 8) <| mv_rI (fN_draw o0 h) fun x h => k [.inl (.int x)] h
  | _ => none
def fN_byDraws (o0 : Nat) (h : H2) : O2 :=
  mv_gd (mv_inb (nI 6) 69) <|
  if (rI2 h 902 o0 (nI 6).toNatClampNeg) ≤ 0 then (
    mv_rV (fN_aDay o0 h) fun h1 =>
    some ([], h1))
  else
  mv_rI (fN_draw o0 h) fun r3 h2 =>
  mv_gd (mv_inb (nI 6) 69) <|
  mv_gd (!decide ((rI2 h2 902 o0 (nI 6).toNatClampNeg) = 0)) <|
  mv_bi (r3 - r3 / (rI2 h2 902 o0 (nI 6).toNatClampNeg) * (rI2 h2 902 o0 (nI 6).toNatClampNeg)) fun x4 =>
  mv_rI (fN_draw o0 h2) fun r6 h5 =>
  mv_gd (!decide ((nI 100) = 0)) <|
  mv_gd (mv_inb (nI 3) 69) <|
  if (rI2 h5 902 o0 (nI 3).toNatClampNeg) ≤ (r6 - r6 / (nI 100) * (nI 100)) then (
    mv_rV (fN_aDay o0 h5) fun h7 =>
    some ([], h7))
  else
  mv_rI (fN_draw o0 h5) fun r9 h8 =>
  mv_gd (!decide ((nI 8) = 0)) <|
  mv_rV (fN_dips o0 x4 (r9 - r9 / (nI 8) * (nI 8)) h8) fun h10 =>
  mv_rV (fN_aDay o0 h10) fun h11 =>
  some ([], h11)
def cN_byDraws : List mv_V → H2 → (List mv_V → H2 → O2) → O2 := fun as h k => match as with
  | [.inr (t0, o0)] => mv_gd (Nat.beq t0 8) <| mv_rV (fN_byDraws o0 h) fun h => k [] h
  | _ => none
def fN_day (o0 : Nat) (h : H2) : O2 :=
  mv_rV (fN_byDraws o0 h) fun h1 =>
  mv_rI (fN_depths o0 h1) fun r3 h2 =>
  some ([Sum.inl (Value.int r3)], h2)
def fN_luck_b44 : Nat → Nat → Int32 → Int32 → Int32 → Int32 → Int32 → H2 → O2
  | 0 => fun _ _ _ _ _ _ _ => none
  | n + 1 => fun o0 v1 v2 v3 v4 v5 h =>
    if v1 ≤ v5 then (
      some ([Sum.inl (Value.int v4)], h))
    else
    mv_gd (mv_inb (nI 5) 69) <|
    mv_bh (wI2 h 902 o0 (nI 5).toNatClampNeg v3) fun h1 =>
    mv_rV (fN_byDraws o0 h1) fun h2 =>
    mv_gd (mv_inb (nI 5) 69) <|
    mv_bi (rI2 h2 902 o0 (nI 5).toNatClampNeg) fun x3 =>
    mv_rI (fN_depths o0 h2) fun r5 h4 =>
    if r5 ≤ v2 then (
      mv_bi (v4 + (nI 0)) fun x6 =>
      mv_rV (fN_laysBack o0 h4) fun h7 =>
      mv_bi (v5 + (nI 1)) fun x8 =>
      fN_luck_b44 n o0 v1 v2 x3 x6 x8 h7)
    else
    mv_bi (v4 + (nI 1)) fun x9 =>
    mv_rV (fN_laysBack o0 h4) fun h10 =>
    mv_bi (v5 + (nI 1)) fun x11 =>
    fN_luck_b44 n o0 v1 v2 x3 x9 x11 h10
def fN_luck (o0 : Nat) (v1 : Int32) (h : H2) : O2 :=
  mv_rI (fN_in v1.toInt64 (lN 1) (lN 30) h) fun r2 h1 =>
  if r2 = 0 then (
    some ([Sum.inl (Value.int (-(nI 1)))], h1))
  else
  mv_rV (fN_lends o0 h1) fun h3 =>
  mv_rV (fN_aDay o0 h3) fun h4 =>
  mv_rI (fN_depths o0 h4) fun r6 h5 =>
  mv_bi r6 fun x7 =>
  mv_rV (fN_laysBack o0 h5) fun h8 =>
  mv_gd (mv_inb (nI 5) 69) <|
  mv_bi (rI2 h8 902 o0 (nI 5).toNatClampNeg) fun x9 =>
  mv_bi (nI 0) fun x10 =>
  mv_bi (nI 0) fun x11 =>
  fN_luck_b44 1000 o0 v1 x7 x9 x10 x11 h8
def fN_hungSet_b4 : Nat → Nat → Int32 → Int32 → H2 → O2
  | 0 => fun _ _ _ _ => none
  | n + 1 => fun o0 v1 v2 h =>
    mv_gd (mv_inb (nI 6) 69) <|
    if (rI2 h 902 o0 (nI 6).toNatClampNeg) ≤ v2 then (
      some ([Sum.inl (Value.int v1)], h))
    else
    mv_rI (fN_its o0 v2 (nI 3) h) fun r2 h1 =>
    mv_bi (v1 ||| (r2 <<< (v2 &&& 31))) fun x3 =>
    mv_bi (v2 + (nI 1)) fun x4 =>
    fN_hungSet_b4 n o0 x3 x4 h1
def fN_hungSet (o0 : Nat) (h : H2) : O2 :=
  mv_bi (nI 0) fun x1 =>
  mv_bi (nI 0) fun x2 =>
  fN_hungSet_b4 1000 o0 x1 x2 h
def cN_hungSet : List mv_V → H2 → (List mv_V → H2 → O2) → O2 := fun as h k => match as with
  | [.inr (t0, o0)] => mv_gd (Nat.beq t0 8) <| mv_rI (fN_hungSet o0 h) fun x h => k [.inl (.int x)] h
  | _ => none
def fN_aboutSet_b4 : Nat → Nat → Int32 → Int32 → H2 → O2
  | 0 => fun _ _ _ _ => none
  | n + 1 => fun o0 v1 v2 h =>
    mv_gd (mv_inb (nI 6) 69) <|
    if (rI2 h 902 o0 (nI 6).toNatClampNeg) ≤ v2 then (
      some ([Sum.inl (Value.int v1)], h))
    else
    mv_rI (fN_its o0 v2 (nI 1) h) fun r2 h1 =>
    if r2 < 0 then (
      mv_bi (v1 ||| (nI 0)) fun x3 =>
      mv_bi (v2 + (nI 1)) fun x4 =>
      fN_aboutSet_b4 n o0 x3 x4 h1)
    else
    mv_bi (v1 ||| ((nI 1) <<< (v2 &&& 31))) fun x5 =>
    mv_bi (v2 + (nI 1)) fun x6 =>
    fN_aboutSet_b4 n o0 x5 x6 h1
def fN_aboutSet (o0 : Nat) (h : H2) : O2 :=
  mv_bi (nI 0) fun x1 =>
  mv_bi (nI 0) fun x2 =>
  fN_aboutSet_b4 1000 o0 x1 x2 h
def cN_aboutSet : List mv_V → H2 → (List mv_V → H2 → O2) → O2 := fun as h k => match as with
  | [.inr (t0, o0)] => mv_gd (Nat.beq t0 8) <| mv_rI (fN_aboutSet o0 h) fun x h => k [.inl (.int x)] h
  | _ => none
def fN_isAtOdds_b23 (o0 : Nat) (v1 : Int32) (v2 : Int32) (vs0 : Int32) (h : H2) : O2 :=
  mv_bi vs0 fun x1 =>
  if x1 = 0 then (
    mv_gd (decide (nI 0 = nI 0) || decide (nI 0 = nI 1)) <| some ([Sum.inl (Value.int (nI 0))], h))
  else
  mv_rI (fN_its o0 v1 (nI 1) h) fun r3 h2 =>
  if r3 < 0 then (
    mv_gd (decide (nI 0 = nI 0) || decide (nI 0 = nI 1)) <| some ([Sum.inl (Value.int (nI 0))], h2))
  else
  mv_rI (fN_its o0 v2 (nI 1) h2) fun r5 h4 =>
  if r5 < 0 then (
    mv_gd (decide (nI 0 = nI 0) || decide (nI 0 = nI 1)) <| some ([Sum.inl (Value.int (nI 0))], h4))
  else
  mv_rI (fN_its o0 v1 (nI 1) h4) fun r7 h6 =>
  mv_rI (fN_its o0 v2 (nI 1) h6) fun r9 h8 =>
  if r7 = r9 then (
    mv_gd (decide (nI 0 = nI 0) || decide (nI 0 = nI 1)) <| some ([Sum.inl (Value.int (nI 0))], h8))
  else
  mv_gd (decide (nI 1 = nI 0) || decide (nI 1 = nI 1)) <| some ([Sum.inl (Value.int (nI 1))], h8)
def fN_isAtOdds (o0 : Nat) (v1 : Int32) (v2 : Int32) (h : H2) : O2 :=
  mv_rI (fN_its o0 v1 (nI 3) h) fun r2 h1 =>
  if r2 = 0 then (
    mv_rI (fN_its o0 v2 (nI 3) h1) fun r4 h3 =>
    if r4 = 0 then (
      fN_isAtOdds_b23 o0 v1 v2 (nI 1) h3)
    else
    fN_isAtOdds_b23 o0 v1 v2 (nI 0) h3)
  else
  fN_isAtOdds_b23 o0 v1 v2 (nI 0) h1
def cN_isAtOdds : List mv_V → H2 → (List mv_V → H2 → O2) → O2 := fun as h k => match as with
  | [.inr (t0, o0), .inl (.int v1), .inl (.int v2)] => mv_gd (Nat.beq t0 8) <| mv_rI (fN_isAtOdds o0 v1 v2 h) fun x h => k [.inl (.int x)] h
  | _ => none
def fN_oddsAmong_b17 (k4 : Nat → Int32 → Int32 → H2 → O2) : Nat → Nat → Int32 → Int32 → Int32 → H2 → O2
  | 0 => fun _ _ _ _ _ => none
  | n + 1 => fun o0 v1 v2 v3 h =>
    if v2 ≤ v3 then (
      mv_bi (v2 + (nI 1)) fun x1 =>
      k4 o0 v1 x1 h)
    else
    mv_rI (fN_isAtOdds o0 v2 v3 h) fun r3 h2 =>
    if r3 = 0 then (
      mv_bi (v1 + (nI 0)) fun x4 =>
      mv_bi (v3 + (nI 1)) fun x5 =>
      fN_oddsAmong_b17 k4 n o0 x4 v2 x5 h2)
    else
    mv_bi (v1 + (nI 1)) fun x6 =>
    mv_bi (v3 + (nI 1)) fun x7 =>
    fN_oddsAmong_b17 k4 n o0 x6 v2 x7 h2
def fN_oddsAmong_b4 : Nat → Nat → Int32 → Int32 → H2 → O2
  | 0 => fun _ _ _ _ => none
  | n + 1 => fun o0 v1 v2 h =>
    mv_gd (mv_inb (nI 6) 69) <|
    if (rI2 h 902 o0 (nI 6).toNatClampNeg) ≤ v2 then (
      some ([Sum.inl (Value.int v1)], h))
    else
    mv_bi (nI 0) fun x1 =>
    fN_oddsAmong_b17 (fN_oddsAmong_b4 n) 1000 o0 v1 v2 x1 h
def fN_oddsAmong (o0 : Nat) (h : H2) : O2 :=
  mv_bi (nI 0) fun x1 =>
  mv_bi (nI 0) fun x2 =>
  fN_oddsAmong_b4 1000 o0 x1 x2 h
def cN_oddsAmong : List mv_V → H2 → (List mv_V → H2 → O2) → O2 := fun as h k => match as with
  | [.inr (t0, o0)] => mv_gd (Nat.beq t0 8) <| mv_rI (fN_oddsAmong o0 h) fun x h => k [.inl (.int x)] h
  | _ => none
def fN_state (o0 : Nat) (v1 : Int32) (h : H2) : O2 :=
  if v1 = nI 0 then (
    mv_gd (mv_inb (nI 4) 69) <|
    some ([Sum.inl (Value.int (rI2 h 902 o0 (nI 4).toNatClampNeg))], h))
  else
  if v1 = nI 1 then (
    mv_gd (mv_inb (nI 4) 69) <|
    mv_gd (!decide ((nI 6) = 0)) <|
    mv_gd (mv_inb ((nI 23) + ((rI2 h 902 o0 (nI 4).toNatClampNeg) - (rI2 h 902 o0 (nI 4).toNatClampNeg) / (nI 6) * (nI 6))) 69) <|
    some ([Sum.inl (Value.int ((nI 1) + (rI2 h 902 o0 ((nI 23) + ((rI2 h 902 o0 (nI 4).toNatClampNeg) - (rI2 h 902 o0 (nI 4).toNatClampNeg) / (nI 6) * (nI 6))).toNatClampNeg)))], h))
  else
  if v1 = nI 2 then (
    mv_rI (fN_hungSet o0 h) fun r2 h1 =>
    some ([Sum.inl (Value.int r2)], h1))
  else
  if v1 = nI 3 then (
    mv_rI (fN_aboutSet o0 h) fun r4 h3 =>
    some ([Sum.inl (Value.int r4)], h3))
  else
  if v1 = nI 4 then (
    mv_rI (fN_depths o0 h) fun r6 h5 =>
    some ([Sum.inl (Value.int r6)], h5))
  else
  if v1 = nI 5 then (
    mv_rI (fN_oddsAmong o0 h) fun r8 h7 =>
    some ([Sum.inl (Value.int r8)], h7))
  else
  some ([Sum.inl (Value.int (-(nI 1)))], h)
def fN_isAhead (v0 : Int32) (h : H2) : O2 :=
  mv_rI (fN_in v0.toInt64 (lN 0) (lN 60) h) fun r2 h1 =>
  mv_gd (decide (r2 = nI 0) || decide (r2 = nI 1)) <| some ([Sum.inl (Value.int r2)], h1)
def cN_isAhead : List mv_V → H2 → (List mv_V → H2 → O2) → O2 := fun as h k => match as with
  | [.inl (.int v0)] => mv_rI (fN_isAhead v0 h) fun x h => k [.inl (.int x)] h
  | _ => none
def fN_isSoon (v0 : Int32) (h : H2) : O2 :=
  mv_rI (fN_in v0.toInt64 (lN 1) (lN 40) h) fun r2 h1 =>
  mv_gd (decide (r2 = nI 0) || decide (r2 = nI 1)) <| some ([Sum.inl (Value.int r2)], h1)
def cN_isSoon : List mv_V → H2 → (List mv_V → H2 → O2) → O2 := fun as h k => match as with
  | [.inl (.int v0)] => mv_rI (fN_isSoon v0 h) fun x h => k [.inl (.int x)] h
  | _ => none
def fN_behind (o0 : Nat) (v1 : Int32) (v2 : Int32) (v3 : Int32) (h : H2) : O2 :=
  mv_rV (fN_goes o0 v3 h) fun h1 =>
  mv_rI (fN_its o0 v1 v2 h1) fun r3 h2 =>
  mv_bi r3 fun x4 =>
  mv_rV (fN_laysBack o0 h2) fun h5 =>
  some ([Sum.inl (Value.int x4)], h5)
def cN_behind : List mv_V → H2 → (List mv_V → H2 → O2) → O2 := fun as h k => match as with
  | [.inr (t0, o0), .inl (.int v1), .inl (.int v2), .inl (.int v3)] => mv_gd (Nat.beq t0 8) <| mv_rI (fN_behind o0 v1 v2 v3 h) fun x h => k [.inl (.int x)] h
  | _ => none
def fN_gone (o0 : Nat) (v1 : Int32) (v2 : Int32) (h : H2) : O2 :=
  mv_rI (fN_isCloth o0 v1 h) fun r2 h1 =>
  if r2 = 0 then (
    some ([Sum.inl (Value.int (-(nI 1)))], h1))
  else
  mv_rI (fN_isAhead v2 h1) fun r4 h3 =>
  if r4 = 0 then (
    some ([Sum.inl (Value.int (-(nI 1)))], h3))
  else
  mv_rV (fN_lends o0 h3) fun h5 =>
  mv_rI (fN_behind o0 v1 (nI 1) v2 h5) fun r7 h6 =>
  some ([Sum.inl (Value.int ((nI 1) + r7))], h6)
def fN_depth (o0 : Nat) (v1 : Int32) (v2 : Int32) (h : H2) : O2 :=
  mv_rI (fN_isCloth o0 v1 h) fun r2 h1 =>
  if r2 = 0 then (
    some ([Sum.inl (Value.int (-(nI 1)))], h1))
  else
  mv_rI (fN_isAhead v2 h1) fun r4 h3 =>
  if r4 = 0 then (
    some ([Sum.inl (Value.int (-(nI 1)))], h3))
  else
  mv_rV (fN_lends o0 h3) fun h5 =>
  mv_rI (fN_behind o0 v1 (nI 2) v2 h5) fun r7 h6 =>
  some ([Sum.inl (Value.int r7)], h6)
def fN_firstAbout_b6 : Nat → Nat → Int32 → Int32 → Int32 → H2 → O2
  | 0 => fun _ _ _ _ _ => none
  | n + 1 => fun o0 v1 v2 v3 h =>
    if (nI 60) < v3 then (
      mv_rV (fN_laysBack o0 h) fun h1 =>
      if (nI 60) < v3 then (
        some ([Sum.inl (Value.int (-(nI 3)))], h1))
      else
      some ([Sum.inl (Value.int v3)], h1))
    else
    mv_rI (fN_its o0 v1 (nI 1) h) fun r3 h2 =>
    if r3 = v2 then (
      mv_rV (fN_laysBack o0 h2) fun h4 =>
      if (nI 60) < v3 then (
        some ([Sum.inl (Value.int (-(nI 3)))], h4))
      else
      some ([Sum.inl (Value.int v3)], h4))
    else
    mv_rV (fN_aDay o0 h2) fun h5 =>
    mv_bi (v3 + (nI 1)) fun x6 =>
    fN_firstAbout_b6 n o0 v1 v2 x6 h5
def fN_firstAbout (o0 : Nat) (v1 : Int32) (v2 : Int32) (h : H2) : O2 :=
  mv_rV (fN_lends o0 h) fun h1 =>
  mv_bi (nI 0) fun x2 =>
  fN_firstAbout_b6 1000 o0 v1 v2 x2 h1
def cN_firstAbout : List mv_V → H2 → (List mv_V → H2 → O2) → O2 := fun as h k => match as with
  | [.inr (t0, o0), .inl (.int v1), .inl (.int v2)] => mv_gd (Nat.beq t0 8) <| mv_rI (fN_firstAbout o0 v1 v2 h) fun x h => k [.inl (.int x)] h
  | _ => none
def fN_comes (o0 : Nat) (v1 : Int32) (v2 : Int32) (h : H2) : O2 :=
  mv_rI (fN_isCloth o0 v1 h) fun r2 h1 =>
  if r2 = 0 then (
    some ([Sum.inl (Value.int (-(nI 1)))], h1))
  else
  mv_rI (fN_isPurpose v2 h1) fun r4 h3 =>
  if r4 = 0 then (
    some ([Sum.inl (Value.int (-(nI 1)))], h3))
  else
  mv_rI (fN_firstAbout o0 v1 v2 h3) fun r6 h5 =>
  some ([Sum.inl (Value.int r6)], h5)
def fN_bare (o0 : Nat) (v1 : Int32) (h : H2) : O2 :=
  mv_rI (fN_isCloth o0 v1 h) fun r2 h1 =>
  if r2 = 0 then (
    some ([Sum.inl (Value.int (-(nI 1)))], h1))
  else
  mv_rI (fN_firstAbout o0 v1 (-(nI 1)) h1) fun r4 h3 =>
  some ([Sum.inl (Value.int r4)], h3)
def fN_spoiltIn_b9 : Nat → Nat → Int32 → Int32 → H2 → O2
  | 0 => fun _ _ _ _ => none
  | n + 1 => fun o0 v2 v3 h =>
    mv_gd (mv_inb (nI 6) 69) <|
    if (rI2 h 902 o0 (nI 6).toNatClampNeg) ≤ v3 then (
      mv_rV (fN_laysBack o0 h) fun h1 =>
      some ([Sum.inl (Value.int v2)], h1))
    else
    mv_rI (fN_its o0 v3 (nI 1) h) fun r3 h2 =>
    mv_gd (mv_inb (((nI 29) + ((nI 5) * v3)) + (nI 1)) 69) <|
    if r3 = (rI2 h2 904 o0 (((nI 29) + ((nI 5) * v3)) + (nI 1)).toNatClampNeg) then (
      mv_bi (v2 + (nI 0)) fun x4 =>
      mv_bi (v3 + (nI 1)) fun x5 =>
      fN_spoiltIn_b9 n o0 x4 x5 h2)
    else
    mv_bi (v2 + (nI 1)) fun x6 =>
    mv_bi (v3 + (nI 1)) fun x7 =>
    fN_spoiltIn_b9 n o0 x6 x7 h2
def fN_spoiltIn (o0 : Nat) (v1 : Int32) (h : H2) : O2 :=
  mv_rV (fN_goes o0 v1 h) fun h1 =>
  mv_bi (nI 0) fun x2 =>
  mv_bi (nI 0) fun x3 =>
  fN_spoiltIn_b9 1000 o0 x2 x3 h1
def cN_spoiltIn : List mv_V → H2 → (List mv_V → H2 → O2) → O2 := fun as h k => match as with
  | [.inr (t0, o0), .inl (.int v1)] => mv_gd (Nat.beq t0 8) <| mv_rI (fN_spoiltIn o0 v1 h) fun x h => k [.inl (.int x)] h
  | _ => none
def fN_spoilt (o0 : Nat) (v1 : Int32) (h : H2) : O2 :=
  mv_rI (fN_isAhead v1 h) fun r2 h1 =>
  if r2 = 0 then (
    some ([Sum.inl (Value.int (-(nI 1)))], h1))
  else
  mv_rV (fN_lends o0 h1) fun h3 =>
  mv_rI (fN_spoiltIn o0 v1 h3) fun r5 h4 =>
  some ([Sum.inl (Value.int r5)], h4)
def fN_isThrough_b5 : Nat → Nat → Int32 → Int32 → Int32 → Int32 → H2 → O2
  | 0 => fun _ _ _ _ _ _ => none
  | n + 1 => fun o0 v1 v2 v4 v5 h =>
    if v5 < 0 then (
      mv_rI (fN_its o0 v1 (nI 1) h) fun r2 h1 =>
      if r2 = v2 then (
        mv_bi (nI 1) fun x3 =>
        mv_rV (fN_laysBack o0 h1) fun h4 =>
        mv_gd (decide (x3 = nI 0) || decide (x3 = nI 1)) <| some ([Sum.inl (Value.int x3)], h4))
      else
      mv_bi (nI 0) fun x5 =>
      mv_rV (fN_laysBack o0 h1) fun h6 =>
      mv_gd (decide (x5 = nI 0) || decide (x5 = nI 1)) <| some ([Sum.inl (Value.int x5)], h6))
    else
    mv_rV (fN_dips o0 v1 ((v4 >>> (((nI 3) * v5) &&& 31)) &&& (nI 7)) h) fun h7 =>
    mv_bi (v5 + (-(nI 1))) fun x8 =>
    fN_isThrough_b5 n o0 v1 v2 v4 x8 h7
def fN_isThrough (o0 : Nat) (v1 : Int32) (v2 : Int32) (v3 : Int32) (v4 : Int32) (h : H2) : O2 :=
  mv_bi (v3 - (nI 1)) fun x1 =>
  fN_isThrough_b5 1000 o0 v1 v2 v4 x1 h
def cN_isThrough : List mv_V → H2 → (List mv_V → H2 → O2) → O2 := fun as h k => match as with
  | [.inr (t0, o0), .inl (.int v1), .inl (.int v2), .inl (.int v3), .inl (.int v4)] => mv_gd (Nat.beq t0 8) <| mv_rI (fN_isThrough o0 v1 v2 v3 v4 h) fun x h => k [.inl (.int x)] h
  | _ => none
def fN_through_b31 (k23 : Nat → Int32 → Int32 → Int32 → H2 → O2) : Nat → Nat → Int32 → Int32 → Int32 → Int32 → H2 → O2
  | 0 => fun _ _ _ _ _ _ => none
  | n + 1 => fun o0 v1 v2 v3 v4 h =>
    if ((nI 1) <<< (((nI 3) * v3) &&& 31)) ≤ v4 then (
      mv_bi (v3 + (nI 1)) fun x1 =>
      k23 o0 v1 v2 x1 h)
    else
    mv_rI (fN_isThrough o0 v1 v2 v3 v4 h) fun r3 h2 =>
    if r3 = 0 then (
      mv_bi (v4 + (nI 1)) fun x4 =>
      fN_through_b31 k23 n o0 v1 v2 v3 x4 h2)
    else
    some ([Sum.inl (Value.int (((nI 1) <<< (((nI 3) * v3) &&& 31)) + v4))], h2)
def fN_through_b23 : Nat → Nat → Int32 → Int32 → Int32 → H2 → O2
  | 0 => fun _ _ _ _ _ => none
  | n + 1 => fun o0 v1 v2 v3 h =>
    if (nI 3) < v3 then (
      some ([Sum.inl (Value.int (-(nI 3)))], h))
    else
    mv_bi (nI 0) fun x1 =>
    fN_through_b31 (fN_through_b23 n) 1000 o0 v1 v2 v3 x1 h
def fN_through (o0 : Nat) (v1 : Int32) (v2 : Int32) (h : H2) : O2 :=
  mv_rI (fN_isCloth o0 v1 h) fun r2 h1 =>
  if r2 = 0 then (
    some ([Sum.inl (Value.int (-(nI 1)))], h1))
  else
  mv_rI (fN_isPurpose v2 h1) fun r4 h3 =>
  if r4 = 0 then (
    some ([Sum.inl (Value.int (-(nI 1)))], h3))
  else
  mv_rV (fN_lends o0 h3) fun h5 =>
  mv_bi (nI 0) fun x6 =>
  fN_through_b23 1000 o0 v1 v2 x6 h5
def fN_vatFor_b24 : Nat → Nat → Int32 → Int32 → Int32 → Int32 → Int32 → H2 → O2
  | 0 => fun _ _ _ _ _ _ _ => none
  | n + 1 => fun o0 v1 v2 v3 v4 v5 h =>
    if (nI 8) ≤ v5 then (
      some ([Sum.inl (Value.int v3)], h))
    else
    mv_rV (fN_lends o0 h) fun h1 =>
    mv_gd (mv_inb ((nI 23) + v1) 69) <|
    mv_bh (wI2 h1 902 o0 ((nI 23) + v1).toNatClampNeg v5) fun h2 =>
    mv_rV (fN_goes o0 v2 h2) fun h3 =>
    mv_rI (fN_depths o0 h3) fun r5 h4 =>
    mv_bi r5 fun x6 =>
    mv_rV (fN_laysBack o0 h4) fun h7 =>
    if x6 ≤ v4 then (
      mv_bi v3 fun x8 =>
      mv_bi (if v4 < x6 then x6 else v4) fun x9 =>
      mv_bi (v5 + (nI 1)) fun x10 =>
      fN_vatFor_b24 n o0 v1 v2 x8 x9 x10 h7)
    else
    mv_bi v5 fun x11 =>
    mv_bi (if v4 < x6 then x6 else v4) fun x12 =>
    mv_bi (v5 + (nI 1)) fun x13 =>
    fN_vatFor_b24 n o0 v1 v2 x11 x12 x13 h7
def fN_vatFor (o0 : Nat) (v1 : Int32) (v2 : Int32) (h : H2) : O2 :=
  mv_rI (fN_isRest v1 h) fun r2 h1 =>
  if r2 = 0 then (
    some ([Sum.inl (Value.int (-(nI 1)))], h1))
  else
  mv_rI (fN_isSoon v2 h1) fun r4 h3 =>
  if r4 = 0 then (
    some ([Sum.inl (Value.int (-(nI 1)))], h3))
  else
  mv_bi (-(nI 1)) fun x5 =>
  mv_bi (-(nI 1)) fun x6 =>
  mv_bi (nI 0) fun x7 =>
  fN_vatFor_b24 1000 o0 v1 v2 x5 x6 x7 h3
def fN_kindFor_b25 : Nat → Nat → Int32 → Int32 → Int32 → Int32 → Int32 → H2 → O2
  | 0 => fun _ _ _ _ _ _ _ => none
  | n + 1 => fun o0 v1 v2 v3 v4 v5 h =>
    if (nI 5) < v5 then (
      some ([Sum.inl (Value.int v3)], h))
    else
    mv_rV (fN_lends o0 h) fun h1 =>
    mv_rV (fN_sets o0 v1 (nI 0) v5 h1) fun h2 =>
    mv_rI (fN_behind o0 v1 (nI 2) v2 h2) fun r4 h3 =>
    mv_bi r4 fun x5 =>
    if x5 ≤ v4 then (
      mv_bi v3 fun x6 =>
      mv_bi (if v4 < x5 then x5 else v4) fun x7 =>
      mv_bi (v5 + (nI 1)) fun x8 =>
      fN_kindFor_b25 n o0 v1 v2 x6 x7 x8 h3)
    else
    mv_bi v5 fun x9 =>
    mv_bi (if v4 < x5 then x5 else v4) fun x10 =>
    mv_bi (v5 + (nI 1)) fun x11 =>
    fN_kindFor_b25 n o0 v1 v2 x9 x10 x11 h3
def fN_kindFor (o0 : Nat) (v1 : Int32) (v2 : Int32) (h : H2) : O2 :=
  mv_rI (fN_isCloth o0 v1 h) fun r2 h1 =>
  if r2 = 0 then (
    some ([Sum.inl (Value.int (-(nI 1)))], h1))
  else
  mv_rI (fN_isSoon v2 h1) fun r4 h3 =>
  if r4 = 0 then (
    some ([Sum.inl (Value.int (-(nI 1)))], h3))
  else
  mv_bi (-(nI 1)) fun x5 =>
  mv_bi (-(nI 1)) fun x6 =>
  mv_bi (nI 0) fun x7 =>
  fN_kindFor_b25 1000 o0 v1 v2 x5 x6 x7 h3
def fN_strengthFor_b40 : Nat → Nat → Int32 → Int32 → Int32 → Int32 → Int32 → Int32 → H2 → O2
  | 0 => fun _ _ _ _ _ _ _ _ => none
  | n + 1 => fun o0 v1 v2 v3 v4 v5 v6 h =>
    if v6 < 0 then (
      some ([Sum.inl (Value.int v5)], h))
    else
    mv_rV (fN_lends o0 h) fun h1 =>
    mv_gd (mv_inb ((nI 15) + v1) 69) <|
    mv_bh (wI2 h1 902 o0 ((nI 15) + v1).toNatClampNeg v6) fun h2 =>
    mv_rI (fN_behind o0 v2 (nI 1) v4 h2) fun r4 h3 =>
    if r4 = v3 then (
      mv_bi v6 fun x5 =>
      mv_bi (v6 + (-(nI 1))) fun x6 =>
      fN_strengthFor_b40 n o0 v1 v2 v3 v4 x5 x6 h3)
    else
    mv_bi v5 fun x7 =>
    mv_bi (v6 + (-(nI 1))) fun x8 =>
    fN_strengthFor_b40 n o0 v1 v2 v3 v4 x7 x8 h3
def fN_strengthFor (o0 : Nat) (v1 : Int32) (v2 : Int32) (v3 : Int32) (v4 : Int32) (h : H2) : O2 :=
  mv_rI (fN_isVat v1 h) fun r2 h1 =>
  if r2 = 0 then (
    some ([Sum.inl (Value.int (-(nI 1)))], h1))
  else
  mv_rI (fN_isCloth o0 v2 h1) fun r4 h3 =>
  if r4 = 0 then (
    some ([Sum.inl (Value.int (-(nI 1)))], h3))
  else
  mv_rI (fN_isPurpose v3 h3) fun r6 h5 =>
  if r6 = 0 then (
    some ([Sum.inl (Value.int (-(nI 1)))], h5))
  else
  mv_rI (fN_isSoon v4 h5) fun r8 h7 =>
  if r8 = 0 then (
    some ([Sum.inl (Value.int (-(nI 1)))], h7))
  else
  mv_bi (-(nI 3)) fun x9 =>
  mv_bi (nI 9) fun x10 =>
  fN_strengthFor_b40 1000 o0 v1 v2 v3 v4 x9 x10 h7
def fN_ones_b4 : Nat → Int32 → Int32 → Int32 → H2 → O2
  | 0 => fun _ _ _ _ => none
  | n + 1 => fun v0 v1 v2 h =>
    if (nI 8) ≤ v2 then (
      some ([Sum.inl (Value.int v1)], h))
    else
    mv_bi (v1 + ((v0 >>> (v2 &&& 31)) &&& (nI 1))) fun x1 =>
    mv_bi (v2 + (nI 1)) fun x2 =>
    fN_ones_b4 n v0 x1 x2 h
def fN_ones (v0 : Int32) (h : H2) : O2 :=
  mv_bi (nI 0) fun x1 =>
  mv_bi (nI 0) fun x2 =>
  fN_ones_b4 1000 v0 x1 x2 h
def cN_ones : List mv_V → H2 → (List mv_V → H2 → O2) → O2 := fun as h k => match as with
  | [.inl (.int v0)] => mv_rI (fN_ones v0 h) fun x h => k [.inl (.int x)] h
  | _ => none
def fN_hangs_b2 : Nat → Nat → Int32 → Int32 → H2 → O2
  | 0 => fun _ _ _ _ => none
  | n + 1 => fun o0 v1 v2 h =>
    mv_gd (mv_inb (nI 6) 69) <|
    if (rI2 h 902 o0 (nI 6).toNatClampNeg) ≤ v2 then (
      some ([], h))
    else
    mv_rV (fN_sets o0 v2 (nI 3) ((v1 >>> (v2 &&& 31)) &&& (nI 1)) h) fun h1 =>
    mv_bi (v2 + (nI 1)) fun x2 =>
    fN_hangs_b2 n o0 v1 x2 h1
def fN_hangs (o0 : Nat) (v1 : Int32) (h : H2) : O2 :=
  mv_bi (nI 0) fun x1 =>
  fN_hangs_b2 1000 o0 v1 x1 h
def cN_hangs : List mv_V → H2 → (List mv_V → H2 → O2) → O2 := fun as h k => match as with
  | [.inr (t0, o0), .inl (.int v1)] => mv_gd (Nat.beq t0 8) <| mv_rV (fN_hangs o0 v1 h) fun h => k [] h
  | _ => none
def fN_hangFor_b62 (k32 : Nat → Int32 → Int32 → Int32 → Int32 → H2 → O2) (o0 : Nat) (v1 : Int32) (v2 : Int32) (v3 : Int32) (v4 : Int32) (h : H2) : O2 :=
  mv_rV (fN_lends o0 h) fun h1 =>
  mv_rV (fN_hangs o0 v4 h1) fun h2 =>
  mv_rI (fN_spoiltIn o0 v1 h2) fun r4 h3 =>
  if v2 < r4 then (
    mv_bi v3 fun x5 =>
    mv_bi (v4 + (nI 1)) fun x6 =>
    k32 o0 v1 v2 x5 x6 h3)
  else
  mv_bi v4 fun x7 =>
  mv_bi (v4 + (nI 1)) fun x8 =>
  k32 o0 v1 v2 x7 x8 h3
def fN_hangFor_b32 : Nat → Nat → Int32 → Int32 → Int32 → Int32 → H2 → O2
  | 0 => fun _ _ _ _ _ _ => none
  | n + 1 => fun o0 v1 v2 v3 v4 h =>
    mv_gd (mv_inb (nI 6) 69) <|
    if ((nI 1) <<< ((rI2 h 902 o0 (nI 6).toNatClampNeg) &&& 31)) ≤ v4 then (
      some ([Sum.inl (Value.int v3)], h))
    else
    if v3 < 0 then (
      fN_hangFor_b62 (fN_hangFor_b32 n) o0 v1 v2 v3 v4 h)
    else
    mv_rI (fN_ones v4 h) fun r2 h1 =>
    mv_rI (fN_ones v3 h1) fun r4 h3 =>
    if r4 ≤ r2 then (
      mv_bi (v4 + (nI 1)) fun x5 =>
      fN_hangFor_b32 n o0 v1 v2 v3 x5 h3)
    else
    fN_hangFor_b62 (fN_hangFor_b32 n) o0 v1 v2 v3 v4 h3
def fN_hangFor (o0 : Nat) (v1 : Int32) (v2 : Int32) (h : H2) : O2 :=
  mv_rI (fN_in v1.toInt64 (lN 1) (lN 30) h) fun r2 h1 =>
  if r2 = 0 then (
    some ([Sum.inl (Value.int (-(nI 1)))], h1))
  else
  mv_rI (fN_in v2.toInt64 (lN 0) (lN 8) h1) fun r4 h3 =>
  if r4 = 0 then (
    some ([Sum.inl (Value.int (-(nI 1)))], h3))
  else
  mv_bi (-(nI 3)) fun x5 =>
  mv_bi (nI 0) fun x6 =>
  fN_hangFor_b32 1000 o0 v1 v2 x5 x6 h3
def fN_isSo_b17 : Nat → Nat → Int32 → Int32 → Int32 → Int32 → H2 → O2
  | 0 => fun _ _ _ _ _ _ => none
  | n + 1 => fun o0 v1 v2 v4 v5 h =>
    mv_gd (mv_inb v1 4) <|
    if (rI2 h 914 o0 v1.toNatClampNeg) ≤ v5 then (
      mv_rV (fN_laysBack o0 h) fun h1 =>
      mv_gd (decide (v4 = nI 0) || decide (v4 = nI 1)) <| some ([Sum.inl (Value.int v4)], h1))
    else
    if v4 = 0 then (
      mv_rV (fN_laysBack o0 h) fun h2 =>
      mv_gd (decide (v4 = nI 0) || decide (v4 = nI 1)) <| some ([Sum.inl (Value.int v4)], h2))
    else
    mv_rV (fN_aDay o0 h) fun h3 =>
    mv_gd (mv_inb (((nI 40) * v1) + v5) 160) <|
    mv_bi (rI2 h3 915 o0 (((nI 40) * v1) + v5).toNatClampNeg) fun x4 =>
    if x4 = (-(nI 1)) then (
      mv_bi (nI 1) fun x5 =>
      mv_bi (v5 + (nI 1)) fun x6 =>
      fN_isSo_b17 n o0 v1 v2 x5 x6 h3)
    else
    mv_rI (fN_its o0 v2 (nI 2) h3) fun r8 h7 =>
    if x4 = r8 then (
      mv_bi (nI 1) fun x9 =>
      mv_bi (v5 + (nI 1)) fun x10 =>
      fN_isSo_b17 n o0 v1 v2 x9 x10 h7)
    else
    mv_bi (nI 0) fun x11 =>
    mv_bi (v5 + (nI 1)) fun x12 =>
    fN_isSo_b17 n o0 v1 v2 x11 x12 h7
def fN_isSo (o0 : Nat) (v1 : Int32) (v2 : Int32) (v3 : Int32) (h : H2) : O2 :=
  mv_rV (fN_lends o0 h) fun h1 =>
  mv_rV (fN_sets o0 v2 (nI 1) v3 h1) fun h2 =>
  mv_bi (nI 1) fun x3 =>
  mv_bi (nI 0) fun x4 =>
  fN_isSo_b17 1000 o0 v1 v2 x3 x4 h2
def cN_isSo : List mv_V → H2 → (List mv_V → H2 → O2) → O2 := fun as h k => match as with
  | [.inr (t0, o0), .inl (.int v1), .inl (.int v2), .inl (.int v3)] => mv_gd (Nat.beq t0 8) <| mv_rI (fN_isSo o0 v1 v2 v3 h) fun x h => k [.inl (.int x)] h
  | _ => none
def fN_isFour (v0 : Int32) (h : H2) : O2 :=
  mv_rI (fN_in v0.toInt64 (lN 0) (lN 3) h) fun r2 h1 =>
  mv_gd (decide (r2 = nI 0) || decide (r2 = nI 1)) <| some ([Sum.inl (Value.int r2)], h1)
def cN_isFour : List mv_V → H2 → (List mv_V → H2 → O2) → O2 := fun as h k => match as with
  | [.inl (.int v0)] => mv_rI (fN_isFour v0 h) fun x h => k [.inl (.int x)] h
  | _ => none
def fN_fits_b87 (k75 : Nat → Int32 → Int32 → Int32 → Int32 → Int32 → Int32 → Int32 → H2 → O2) (o0 : Nat) (v1 : Int32) (v2 : Int32) (v3 : Int32) (v4 : Int32) (v5 : Int32) (v6 : Int32) (v7 : Int32) (vs0 : Int32) (vs1 : Int32) (h : H2) : O2 :=
  if vs0 < vs1 then (
    if v3 = 0 then (
      some ([Sum.inl (Value.int v5)], h))
    else
    some ([Sum.inl (Value.int v6)], h))
  else
  mv_rI (fN_isSo o0 v1 v2 v7 h) fun r2 h1 =>
  mv_bi r2 fun x3 =>
  if x3 = 0 then (
    mv_bi (v5 + (nI 0)) fun x4 =>
    if x3 = 0 then (
      mv_bi v6 fun x5 =>
      mv_bi (v7 + (-(nI 1))) fun x6 =>
      k75 o0 v1 v2 v3 v4 x4 x5 x6 h1)
    else
    mv_bi ((nI 1) + v7) fun x7 =>
    mv_bi (v7 + (-(nI 1))) fun x8 =>
    k75 o0 v1 v2 v3 v4 x4 x7 x8 h1)
  else
  mv_bi (v5 + (nI 1)) fun x9 =>
  if x3 = 0 then (
    mv_bi v6 fun x10 =>
    mv_bi (v7 + (-(nI 1))) fun x11 =>
    k75 o0 v1 v2 v3 v4 x9 x10 x11 h1)
  else
  mv_bi ((nI 1) + v7) fun x12 =>
  mv_bi (v7 + (-(nI 1))) fun x13 =>
  k75 o0 v1 v2 v3 v4 x9 x12 x13 h1
def fN_fits_b75 : Nat → Nat → Int32 → Int32 → Int32 → Int32 → Int32 → Int32 → Int32 → H2 → O2
  | 0 => fun _ _ _ _ _ _ _ _ _ => none
  | n + 1 => fun o0 v1 v2 v3 v4 v5 v6 v7 h =>
    if v4 = 0 then (
      fN_fits_b87 (fN_fits_b75 n) o0 v1 v2 v3 v4 v5 v6 v7 v7 (nI 0) h)
    else
    fN_fits_b87 (fN_fits_b75 n) o0 v1 v2 v3 v4 v5 v6 v7 v7 (-(nI 1)) h
def fN_fits (o0 : Nat) (v1 : Int32) (v2 : Int32) (v3 : Int32) (h : H2) : O2 :=
  mv_rI (fN_isFour v1 h) fun r2 h1 =>
  if r2 = 0 then (
    some ([Sum.inl (Value.int (-(nI 1)))], h1))
  else
  mv_rI (fN_isCloth o0 v2 h1) fun r4 h3 =>
  if r4 = 0 then (
    some ([Sum.inl (Value.int (-(nI 1)))], h3))
  else
  mv_rI (fN_in v3.toInt64 (lN 0) (lN 1) h3) fun r6 h5 =>
  if r6 = 0 then (
    some ([Sum.inl (Value.int (-(nI 1)))], h5))
  else
  mv_gd (mv_inb v1 4) <|
  if 0 ≤ (rI2 h5 913 o0 v1.toNatClampNeg) then (
    mv_rI (fN_its o0 v2 (nI 2) h5) fun r8 h7 =>
    if r8 = 0 then (
      mv_bi (nI 1) fun x9 =>
      mv_bi (nI 0) fun x10 =>
      mv_bi (-(nI 3)) fun x11 =>
      if x9 = 0 then (
        mv_bi (nI 9) fun x12 =>
        fN_fits_b75 1000 o0 v1 v2 v3 x9 x10 x11 x12 h7)
      else
      mv_bi (-(nI 1)) fun x13 =>
      fN_fits_b75 1000 o0 v1 v2 v3 x9 x10 x11 x13 h7)
    else
    mv_bi (nI 0) fun x14 =>
    mv_bi (nI 0) fun x15 =>
    mv_bi (-(nI 3)) fun x16 =>
    if x14 = 0 then (
      mv_bi (nI 9) fun x17 =>
      fN_fits_b75 1000 o0 v1 v2 v3 x14 x15 x16 x17 h7)
    else
    mv_bi (-(nI 1)) fun x18 =>
    fN_fits_b75 1000 o0 v1 v2 v3 x14 x15 x16 x18 h7)
  else
  some ([Sum.inl (Value.int (-(nI 11)))], h5)
def fN_lowest_b6 : Nat → Int64 → Int64 → Int32 → Int64 → Int64 → H2 → O2
  | 0 => fun _ _ _ _ _ _ => none
  | n + 1 => fun w0 w2 v4 w5 w7 h =>
    if (lg_cmp w7 (lN 0)) = 0 then (
      if v4 = 0 then (
        mv_gd (!decide (w5 = 0)) <|
        some ([Sum.inl (Value.long (w0 / w5))], h))
      else
      mv_gd (!decide (w5 = 0)) <|
      some ([Sum.inl (Value.long (w2 / w5))], h))
    else
    mv_gd (!decide (w7 = 0)) <|
    mv_bl (w5 - w5 / w7 * w7) fun y1 =>
    mv_bl w7 fun y2 =>
    mv_bl y1 fun y3 =>
    fN_lowest_b6 n w0 w2 v4 y2 y3 h
def fN_lowest (w0 : Int64) (w2 : Int64) (v4 : Int32) (h : H2) : O2 :=
  mv_bl w0 fun y1 =>
  mv_bl w2 fun y2 =>
  fN_lowest_b6 1000 w0 w2 v4 y1 y2 h
def cN_lowest : List mv_V → H2 → (List mv_V → H2 → O2) → O2 := fun as h k => match as with
  | [.inl (.long w0), .inl (.long w2), .inl (.int v4)] => mv_rL (fN_lowest w0 w2 v4 h) fun x h => k [.inl (.long x)] h
  | _ => none
def fN_odds_b103 : Nat → Int32 → Int32 → Int32 → Int64 → Int64 → Int64 → Int32 → H2 → O2
  | 0 => fun _ _ _ _ _ _ _ _ => none
  | n + 1 => fun v1 v2 v3 w4 w6 w8 v10 h =>
    if v2 ≤ v10 then (
      mv_rL (fN_lowest (w4 * w8) w6 v3 h) fun r2 h1 =>
      some ([Sum.inl (Value.long r2)], h1))
    else
    mv_gd (!decide (((v10 + (nI 1)).toInt64) = 0)) <|
    mv_bl ((w8 * ((v1 - v10).toInt64)) / ((v10 + (nI 1)).toInt64)) fun y3 =>
    mv_bi (v10 + (nI 1)) fun x4 =>
    fN_odds_b103 n v1 v2 v3 w4 w6 y3 x4 h
def fN_odds_b46 : Nat → Nat → Int32 → Int32 → Int32 → Int64 → Int64 → Int32 → H2 → O2
  | 0 => fun _ _ _ _ _ _ _ _ => none
  | n + 1 => fun o0 v1 v2 v3 w4 w6 v8 h =>
    if v1 ≤ v8 then (
      mv_bl (lN 1) fun y1 =>
      mv_bi (nI 0) fun x2 =>
      fN_odds_b103 1000 v1 v2 v3 w4 w6 y1 x2 h)
    else
    if v2 ≤ v8 then (
      mv_gd (mv_inb (nI 3) 69) <|
      mv_bl (w4 * (((nI 100) - (rI2 h 902 o0 (nI 3).toNatClampNeg)).toInt64)) fun y3 =>
      mv_bl (w6 * (lN 100)) fun y4 =>
      mv_bi (v8 + (nI 1)) fun x5 =>
      fN_odds_b46 n o0 v1 v2 v3 y3 y4 x5 h)
    else
    mv_gd (mv_inb (nI 3) 69) <|
    mv_bl (w4 * ((rI2 h 902 o0 (nI 3).toNatClampNeg).toInt64)) fun y6 =>
    mv_bl (w6 * (lN 100)) fun y7 =>
    mv_bi (v8 + (nI 1)) fun x8 =>
    fN_odds_b46 n o0 v1 v2 v3 y6 y7 x8 h
def fN_odds (o0 : Nat) (v1 : Int32) (v2 : Int32) (v3 : Int32) (h : H2) : O2 :=
  mv_rI (fN_in v1.toInt64 (lN 0) (lN 8) h) fun r2 h1 =>
  if r2 = 0 then (
    some ([Sum.inl (Value.long (-(lN 1)))], h1))
  else
  mv_rI (fN_in v2.toInt64 (lN 0) v1.toInt64 h1) fun r4 h3 =>
  if r4 = 0 then (
    some ([Sum.inl (Value.long (-(lN 1)))], h3))
  else
  mv_rI (fN_in v3.toInt64 (lN 0) (lN 1) h3) fun r6 h5 =>
  if r6 = 0 then (
    some ([Sum.inl (Value.long (-(lN 1)))], h5))
  else
  mv_bl (lN 1) fun y7 =>
  mv_bl (lN 1) fun y8 =>
  mv_bi (nI 0) fun x9 =>
  fN_odds_b46 1000 o0 v1 v2 v3 y7 y8 x9 h5
def fN_hope (o0 : Nat) (v1 : Int32) (v2 : Int32) (h : H2) : O2 :=
  mv_rI (fN_in v1.toInt64 (lN 0) (lN 99) h) fun r2 h1 =>
  if r2 = 0 then (
    some ([Sum.inl (Value.long (-(lN 1)))], h1))
  else
  mv_rI (fN_in v2.toInt64 (lN 0) (lN 1) h1) fun r4 h3 =>
  if r4 = 0 then (
    some ([Sum.inl (Value.long (-(lN 1)))], h3))
  else
  mv_gd (mv_inb (nI 3) 69) <|
  mv_rL (fN_lowest (v1.toInt64 * ((rI2 h3 902 o0 (nI 3).toNatClampNeg).toInt64)) (lN 100) v2 h3) fun r6 h5 =>
  some ([Sum.inl (Value.long r6)], h5)
def fN_feed_b32 : Nat → Nat → Int64 → Int32 → Int32 → H2 → O2
  | 0 => fun _ _ _ _ _ => none
  | n + 1 => fun o0 w1 v3 v4 h =>
    if v3 ≤ v4 then (
      some ([Sum.inl (Value.int (rI2 h 8 o0 7))], h))
    else
    mv_gd (mv_inb (rI2 h 8 o0 7) 200) <|
    mv_bh (wI2 h 906 o0 (rI2 h 8 o0 7).toNatClampNeg (((w1 >>> (((nI 8) * v4).toInt64 &&& 63)) &&& (lN 255)).toInt32)) fun h1 =>
    mv_bh (wI2 h1 8 o0 7 ((rI2 h1 8 o0 7) + (nI 1))) fun h2 =>
    mv_bi (v4 + (nI 1)) fun x3 =>
    fN_feed_b32 n o0 w1 v3 x3 h2
def fN_feed (o0 : Nat) (w1 : Int64) (v3 : Int32) (h : H2) : O2 :=
  mv_rI (fN_in v3.toInt64 (lN 1) (lN 8) h) fun r2 h1 =>
  if r2 = 0 then (
    some ([Sum.inl (Value.int (-(nI 1)))], h1))
  else
  if ((rI2 h1 8 o0 7) + v3) ≤ (nI 200) then (
    mv_bi (nI 0) fun x3 =>
    fN_feed_b32 1000 o0 w1 v3 x3 h1)
  else
  some ([Sum.inl (Value.int (-(nI 2)))], h1)
def fN_isByte (o0 : Nat) (v1 : Int32) (v2 : Int32) (v3 : Int32) (h : H2) : O2 :=
  if (rI2 h 8 o0 7) ≤ v1 then (
    mv_gd (decide (nI 0 = nI 0) || decide (nI 0 = nI 1)) <| some ([Sum.inl (Value.int (nI 0))], h))
  else
  mv_gd (mv_inb v1 200) <|
  mv_rI (fN_in ((rI2 h 906 o0 v1.toNatClampNeg).toInt64) v2.toInt64 v3.toInt64 h) fun r2 h1 =>
  if r2 = 0 then (
    mv_gd (decide (nI 0 = nI 0) || decide (nI 0 = nI 1)) <| some ([Sum.inl (Value.int (nI 0))], h1))
  else
  mv_gd (decide (nI 1 = nI 0) || decide (nI 1 = nI 1)) <| some ([Sum.inl (Value.int (nI 1))], h1)
def cN_isByte : List mv_V → H2 → (List mv_V → H2 → O2) → O2 := fun as h k => match as with
  | [.inr (t0, o0), .inl (.int v1), .inl (.int v2), .inl (.int v3)] => mv_gd (Nat.beq t0 8) <| mv_rI (fN_isByte o0 v1 v2 v3 h) fun x h => k [.inl (.int x)] h
  | _ => none
def fN_next_b121 (o0 : Nat) (v1 : Int32) (v2 : Int32) (h : H2) : O2 :=
  if v1 = 0 then (
    if v2 = 0 then (
      if (rI2 h 8 o0 7) ≤ (rI2 h 8 o0 8) then (
        mv_bh (wI2 h 8 o0 9 ((rI2 h 8 o0 9) + (nI 0))) fun h1 =>
        some ([], h1))
      else
      mv_bh (wI2 h 8 o0 9 ((rI2 h 8 o0 9) + (nI 1))) fun h2 =>
      some ([], h2))
    else
    mv_bh (wI2 h 8 o0 9 ((rI2 h 8 o0 9) + (nI 0))) fun h3 =>
    some ([], h3))
  else
  mv_bh (wI2 h 8 o0 9 ((rI2 h 8 o0 9) + (nI 0))) fun h4 =>
  some ([], h4)
def fN_next_b89 (k70 : Nat → Int32 → Int32 → H2 → O2) (o0 : Nat) (v1 : Int32) (v2 : Int32) (h : H2) : O2 :=
  if v2 = 0 then (
    fN_next_b121 o0 v1 v2 h)
  else
  mv_rI (fN_isByte o0 (rI2 h 8 o0 9) (nI 48) (nI 57) h) fun r2 h1 =>
  if r2 = 0 then (
    fN_next_b121 o0 v1 v2 h1)
  else
  mv_bh (wI2 h1 8 o0 9 ((rI2 h1 8 o0 9) + (nI 1))) fun h3 =>
  k70 o0 v1 v2 h3
def fN_next_b70 : Nat → Nat → Int32 → Int32 → H2 → O2
  | 0 => fun _ _ _ _ => none
  | n + 1 => fun o0 v1 v2 h =>
    if v1 = 0 then (
      fN_next_b89 (fN_next_b70 n) o0 v1 v2 h)
    else
    mv_rI (fN_isByte o0 (rI2 h 8 o0 9) (nI 97) (nI 122) h) fun r2 h1 =>
    if r2 = 0 then (
      fN_next_b89 (fN_next_b70 n) o0 v1 v2 h1)
    else
    mv_bh (wI2 h1 8 o0 9 ((rI2 h1 8 o0 9) + (nI 1))) fun h3 =>
    fN_next_b70 n o0 v1 v2 h3
def fN_next_b8 : Nat → Nat → H2 → O2
  | 0 => fun _ _ => none
  | n + 1 => fun o0 h =>
    mv_rI (fN_isByte o0 (rI2 h 8 o0 8) (nI 32) (nI 32) h) fun r2 h1 =>
    if r2 = 0 then (
      mv_bh (wI2 h1 8 o0 9 (rI2 h1 8 o0 8)) fun h3 =>
      mv_rI (fN_isByte o0 (rI2 h3 8 o0 8) (nI 97) (nI 122) h3) fun r5 h4 =>
      mv_bi r5 fun x6 =>
      mv_rI (fN_isByte o0 (rI2 h4 8 o0 8) (nI 48) (nI 57) h4) fun r8 h7 =>
      mv_bi r8 fun x9 =>
      fN_next_b70 1000 o0 x6 x9 h7)
    else
    mv_bh (wI2 h1 8 o0 8 ((rI2 h1 8 o0 8) + (nI 1))) fun h10 =>
    fN_next_b8 n o0 h10
def fN_next (o0 : Nat) (h : H2) : O2 :=
  mv_bh (wI2 h 8 o0 8 (rI2 h 8 o0 9)) fun h1 =>
  fN_next_b8 1000 o0 h1
def cN_next : List mv_V → H2 → (List mv_V → H2 → O2) → O2 := fun as h k => match as with
  | [.inr (t0, o0)] => mv_gd (Nat.beq t0 8) <| mv_rV (fN_next o0 h) fun h => k [] h
  | _ => none
def fN_isWord_b31 : Nat → Nat → Nat → Int32 → Int32 → H2 → O2
  | 0 => fun _ _ _ _ _ => none
  | n + 1 => fun o0 o1 v2 v3 h =>
    if v2 = 0 then (
      mv_gd (decide (v2 = nI 0) || decide (v2 = nI 1)) <| some ([Sum.inl (Value.int v2)], h))
    else
    mv_rI (fK0_length_8abf5 o1 h) fun r2 h1 =>
    if r2 ≤ v3 then (
      mv_gd (decide (v2 = nI 0) || decide (v2 = nI 1)) <| some ([Sum.inl (Value.int v2)], h1))
    else
    mv_gd (mv_inb ((rI2 h1 8 o0 8) + v3) 200) <|
    mv_rI (fK0_charAt_5068e o1 v3 h1) fun r4 h3 =>
    if (rI2 h1 906 o0 ((rI2 h1 8 o0 8) + v3).toNatClampNeg) = r4 then (
      mv_bi (nI 1) fun x5 =>
      mv_bi (v3 + (nI 1)) fun x6 =>
      fN_isWord_b31 n o0 o1 x5 x6 h3)
    else
    mv_bi (nI 0) fun x7 =>
    mv_bi (v3 + (nI 1)) fun x8 =>
    fN_isWord_b31 n o0 o1 x7 x8 h3
def fN_isWord (o0 : Nat) (o1 : Nat) (h : H2) : O2 :=
  if (rI2 h 8 o0 10) = 0 then (
    mv_rI (fK0_length_8abf5 o1 h) fun r2 h1 =>
    if ((rI2 h 8 o0 9) - (rI2 h 8 o0 8)) = r2 then (
      mv_bi (nI 1) fun x3 =>
      mv_bi (nI 0) fun x4 =>
      fN_isWord_b31 1000 o0 o1 x3 x4 h1)
    else
    mv_bi (nI 0) fun x5 =>
    mv_bi (nI 0) fun x6 =>
    fN_isWord_b31 1000 o0 o1 x5 x6 h1)
  else
  mv_bi (nI 0) fun x7 =>
  mv_bi (nI 0) fun x8 =>
  fN_isWord_b31 1000 o0 o1 x7 x8 h
def cN_isWord : List mv_V → H2 → (List mv_V → H2 → O2) → O2 := fun as h k => match as with
  | [.inr (t0, o0), .inr (t1, o1)] => mv_gd (Nat.beq t0 8) <| mv_gd (Nat.beq t1 11) <| mv_rI (fN_isWord o0 o1 h) fun x h => k [.inl (.int x)] h
  | _ => none
def fN_must (o0 : Nat) (v1 : Int32) (h : H2) : O2 :=
  if (rI2 h 8 o0 10) = 0 then (
    if v1 = 0 then (
      mv_gd (decide (nI 1 = nI 0) || decide (nI 1 = nI 1)) <|
      mv_bh (wI2 h 8 o0 10 (nI 1)) fun h1 =>
      if (rI2 h1 8 o0 10) = 0 then (
        mv_rV (fN_next o0 h1) fun h2 =>
        some ([], h2))
      else
      some ([], h1))
    else
    mv_gd (decide (nI 0 = nI 0) || decide (nI 0 = nI 1)) <|
    mv_bh (wI2 h 8 o0 10 (nI 0)) fun h3 =>
    if (rI2 h3 8 o0 10) = 0 then (
      mv_rV (fN_next o0 h3) fun h4 =>
      some ([], h4))
    else
    some ([], h3))
  else
  mv_gd (decide (nI 1 = nI 0) || decide (nI 1 = nI 1)) <|
  mv_bh (wI2 h 8 o0 10 (nI 1)) fun h5 =>
  if (rI2 h5 8 o0 10) = 0 then (
    mv_rV (fN_next o0 h5) fun h6 =>
    some ([], h6))
  else
  some ([], h5)
def cN_must : List mv_V → H2 → (List mv_V → H2 → O2) → O2 := fun as h k => match as with
  | [.inr (t0, o0), .inl (.int v1)] => mv_gd (Nat.beq t0 8) <| mv_rV (fN_must o0 v1 h) fun h => k [] h
  | _ => none
def fN_figures_b39 : Nat → Nat → Int32 → Int32 → H2 → O2
  | 0 => fun _ _ _ _ => none
  | n + 1 => fun o0 v1 v2 h =>
    if (rI2 h 8 o0 9) ≤ v2 then (
      some ([Sum.inl (Value.int v1)], h))
    else
    if v1 < 0 then (
      some ([Sum.inl (Value.int v1)], h))
    else
    mv_gd (mv_inb v2 200) <|
    mv_bi ((((nI 10) * v1) + (rI2 h 906 o0 v2.toNatClampNeg)) - (nI 48)) fun x1 =>
    mv_bi (v2 + (nI 1)) fun x2 =>
    fN_figures_b39 n o0 x1 x2 h
def fN_figures (o0 : Nat) (h : H2) : O2 :=
  mv_rI (fN_isByte o0 (rI2 h 8 o0 8) (nI 48) (nI 57) h) fun r2 h1 =>
  if r2 = 0 then (
    mv_bi (-(nI 1)) fun x3 =>
    mv_bi (rI2 h1 8 o0 8) fun x4 =>
    fN_figures_b39 1000 o0 x3 x4 h1)
  else
  if (nI 3) < ((rI2 h1 8 o0 9) - (rI2 h1 8 o0 8)) then (
    mv_bi (-(nI 1)) fun x5 =>
    mv_bi (rI2 h1 8 o0 8) fun x6 =>
    fN_figures_b39 1000 o0 x5 x6 h1)
  else
  mv_bi (nI 0) fun x7 =>
  mv_bi (rI2 h1 8 o0 8) fun x8 =>
  fN_figures_b39 1000 o0 x7 x8 h1
def cN_figures : List mv_V → H2 → (List mv_V → H2 → O2) → O2 := fun as h k => match as with
  | [.inr (t0, o0)] => mv_gd (Nat.beq t0 8) <| mv_rI (fN_figures o0 h) fun x h => k [.inl (.int x)] h
  | _ => none
def fN_number (o0 : Nat) (v1 : Int32) (v2 : Int32) (h : H2) : O2 :=
  mv_rI (fN_figures o0 h) fun r2 h1 =>
  mv_bi r2 fun x3 =>
  mv_rI (fN_in x3.toInt64 v1.toInt64 v2.toInt64 h1) fun r5 h4 =>
  mv_rV (fN_must o0 r5 h4) fun h6 =>
  some ([Sum.inl (Value.int x3)], h6)
def cN_number : List mv_V → H2 → (List mv_V → H2 → O2) → O2 := fun as h k => match as with
  | [.inr (t0, o0), .inl (.int v1), .inl (.int v2)] => mv_gd (Nat.beq t0 8) <| mv_rI (fN_number o0 v1 v2 h) fun x h => k [.inl (.int x)] h
  | _ => none
def fN_kindHere_b43 (o0 : Nat) (vs0 : Int32) (h : H2) : O2 :=
  mv_bi vs0 fun x1 =>
  if x1 < 0 then (
    mv_rI (fN_isWord o0 20 h) fun r3 h2 =>
    if r3 = 0 then (
      mv_rI (fN_isWord o0 21 h2) fun r5 h4 =>
      if r5 = 0 then (
        mv_rI (fN_isWord o0 22 h4) fun r7 h6 =>
        if r7 = 0 then (
          some ([Sum.inl (Value.int (-(nI 1)))], h6))
        else
        some ([Sum.inl (Value.int (nI 5))], h6))
      else
      some ([Sum.inl (Value.int (nI 4))], h4))
    else
    some ([Sum.inl (Value.int (nI 3))], h2))
  else
  some ([Sum.inl (Value.int x1)], h)
def fN_kindHere (o0 : Nat) (h : H2) : O2 :=
  mv_rI (fN_isWord o0 17 h) fun r2 h1 =>
  if r2 = 0 then (
    mv_rI (fN_isWord o0 18 h1) fun r4 h3 =>
    if r4 = 0 then (
      mv_rI (fN_isWord o0 19 h3) fun r6 h5 =>
      if r6 = 0 then (
        fN_kindHere_b43 o0 (-(nI 1)) h5)
      else
      fN_kindHere_b43 o0 (nI 2) h5)
    else
    fN_kindHere_b43 o0 (nI 1) h3)
  else
  fN_kindHere_b43 o0 (nI 0) h1
def cN_kindHere : List mv_V → H2 → (List mv_V → H2 → O2) → O2 := fun as h k => match as with
  | [.inr (t0, o0)] => mv_gd (Nat.beq t0 8) <| mv_rI (fN_kindHere o0 h) fun x h => k [.inl (.int x)] h
  | _ => none
def fN_takes (o0 : Nat) (o1 : Nat) (h : H2) : O2 :=
  mv_rI (fN_isWord o0 o1 h) fun r2 h1 =>
  mv_bi r2 fun x3 =>
  if x3 = 0 then (
    mv_gd (decide (x3 = nI 0) || decide (x3 = nI 1)) <| some ([Sum.inl (Value.int x3)], h1))
  else
  mv_rV (fN_must o0 (nI 1) h1) fun h4 =>
  mv_gd (decide (x3 = nI 0) || decide (x3 = nI 1)) <| some ([Sum.inl (Value.int x3)], h4)
def cN_takes : List mv_V → H2 → (List mv_V → H2 → O2) → O2 := fun as h k => match as with
  | [.inr (t0, o0), .inr (t1, o1)] => mv_gd (Nat.beq t0 8) <| mv_gd (Nat.beq t1 11) <| mv_rI (fN_takes o0 o1 h) fun x h => k [.inl (.int x)] h
  | _ => none
def fN_clothTold_b81 (o0 : Nat) (v1 : Int32) (v2 : Int32) (v3 : Int32) (vs0 : Int32) (h : H2) : O2 :=
  mv_bi vs0 fun x1 =>
  if (rI2 h 8 o0 10) = 0 then (
    mv_rV (fN_adds o0 v1 h) fun h2 =>
    mv_gd (mv_inb (nI 6) 69) <|
    mv_rV (fN_sets o0 ((rI2 h2 902 o0 (nI 6).toNatClampNeg) - (nI 1)) (nI 1) v2 h2) fun h3 =>
    mv_gd (mv_inb (nI 6) 69) <|
    mv_rV (fN_sets o0 ((rI2 h3 902 o0 (nI 6).toNatClampNeg) - (nI 1)) (nI 2) v3 h3) fun h4 =>
    mv_gd (mv_inb (nI 6) 69) <|
    mv_rV (fN_sets o0 ((rI2 h4 902 o0 (nI 6).toNatClampNeg) - (nI 1)) (nI 3) x1 h4) fun h5 =>
    some ([], h5))
  else
  some ([], h)
def fN_clothTold_b18 (o0 : Nat) (v1 : Int32) (os0 : Nat) (vs1 : Int32) (h : H2) : O2 :=
  mv_rV (fN_must os0 vs1 h) fun h1 =>
  mv_bi (-(nI 1)) fun x2 =>
  mv_bi (nI 0) fun x3 =>
  mv_rI (fN_takes o0 23 h1) fun r5 h4 =>
  if r5 = 0 then (
    mv_rI (fN_takes o0 25 h4) fun r7 h6 =>
    if r7 = 0 then (
      fN_clothTold_b81 o0 v1 x2 x3 (nI 0) h6)
    else
    fN_clothTold_b81 o0 v1 x2 x3 (nI 1) h6)
  else
  mv_rI (fN_number o0 (nI 0) (nI 9) h4) fun r9 h8 =>
  mv_bi r9 fun x10 =>
  mv_rI (fN_takes o0 24 h8) fun r12 h11 =>
  if r12 = 0 then (
    mv_bi (nI 20) fun x13 =>
    mv_rI (fN_takes o0 25 h11) fun r15 h14 =>
    if r15 = 0 then (
      fN_clothTold_b81 o0 v1 x10 x13 (nI 0) h14)
    else
    fN_clothTold_b81 o0 v1 x10 x13 (nI 1) h14)
  else
  mv_rI (fN_number o0 (nI 1) (nI 99) h11) fun r17 h16 =>
  mv_bi r17 fun x18 =>
  mv_rI (fN_takes o0 25 h16) fun r20 h19 =>
  if r20 = 0 then (
    fN_clothTold_b81 o0 v1 x10 x18 (nI 0) h19)
  else
  fN_clothTold_b81 o0 v1 x10 x18 (nI 1) h19
def fN_clothTold (o0 : Nat) (v1 : Int32) (h : H2) : O2 :=
  mv_gd (mv_inb (nI 6) 69) <|
  if (nI 8) ≤ (rI2 h 902 o0 (nI 6).toNatClampNeg) then (
    fN_clothTold_b18 o0 v1 o0 (nI 0) h)
  else
  fN_clothTold_b18 o0 v1 o0 (nI 1) h
def cN_clothTold : List mv_V → H2 → (List mv_V → H2 → O2) → O2 := fun as h k => match as with
  | [.inr (t0, o0), .inl (.int v1)] => mv_gd (Nat.beq t0 8) <| mv_rV (fN_clothTold o0 v1 h) fun h => k [] h
  | _ => none
def fN_twoTold_b29 (o0 : Nat) (v1 : Int32) (v4 : Int32) (v5 : Int32) (h : H2) : O2 :=
  mv_rI (fN_number o0 (nI 0) v4 h) fun r2 h1 =>
  mv_bi r2 fun x3 =>
  if (rI2 h1 8 o0 10) = 0 then (
    mv_gd (mv_inb (v1 + v5) 69) <|
    mv_bh (wI2 h1 902 o0 (v1 + v5).toNatClampNeg x3) fun h4 =>
    some ([], h4))
  else
  some ([], h1)
def fN_twoTold (o0 : Nat) (v1 : Int32) (v2 : Int32) (o3 : Nat) (v4 : Int32) (h : H2) : O2 :=
  mv_rV (fN_must o0 (nI 1) h) fun h1 =>
  mv_rI (fN_number o0 (nI 0) v2 h1) fun r3 h2 =>
  mv_bi r3 fun x4 =>
  mv_rI (fK0_length_8abf5 o3 h2) fun r6 h5 =>
  if r6 ≤ 0 then (
    fN_twoTold_b29 o0 v1 v4 x4 h5)
  else
  mv_rI (fN_isWord o0 o3 h5) fun r8 h7 =>
  mv_rV (fN_must o0 r8 h7) fun h9 =>
  fN_twoTold_b29 o0 v1 v4 x4 h9
def cN_twoTold : List mv_V → H2 → (List mv_V → H2 → O2) → O2 := fun as h k => match as with
  | [.inr (t0, o0), .inl (.int v1), .inl (.int v2), .inr (t3, o3), .inl (.int v4)] => mv_gd (Nat.beq t0 8) <| mv_gd (Nat.beq t3 11) <| mv_rV (fN_twoTold o0 v1 v2 o3 v4 h) fun h => k [] h
  | _ => none
def fN_lawTold (o0 : Nat) (v1 : Int32) (h : H2) : O2 :=
  mv_gd (mv_inb v1 4) <|
  mv_rI (fN_number o0 (nI 0) (rI2 h 900 o0 v1.toNatClampNeg) h) fun r2 h1 =>
  mv_bi r2 fun x3 =>
  if (rI2 h1 8 o0 10) = 0 then (
    mv_gd (mv_inb v1 69) <|
    mv_bh (wI2 h1 902 o0 v1.toNatClampNeg x3) fun h4 =>
    some ([], h4))
  else
  some ([], h1)
def cN_lawTold : List mv_V → H2 → (List mv_V → H2 → O2) → O2 := fun as h k => match as with
  | [.inr (t0, o0), .inl (.int v1)] => mv_gd (Nat.beq t0 8) <| mv_rV (fN_lawTold o0 v1 h) fun h => k [] h
  | _ => none
def fN_lawHere (o0 : Nat) (h : H2) : O2 :=
  mv_rI (fN_isWord o0 26 h) fun r2 h1 =>
  if r2 = 0 then (
    mv_rI (fN_isWord o0 27 h1) fun r4 h3 =>
    if r4 = 0 then (
      mv_rI (fN_isWord o0 28 h3) fun r6 h5 =>
      if r6 = 0 then (
        mv_rI (fN_isWord o0 29 h5) fun r8 h7 =>
        if r8 = 0 then (
          some ([Sum.inl (Value.int (-(nI 1)))], h7))
        else
        some ([Sum.inl (Value.int (nI 3))], h7))
      else
      some ([Sum.inl (Value.int (nI 2))], h5))
    else
    some ([Sum.inl (Value.int (nI 1))], h3))
  else
  some ([Sum.inl (Value.int (nI 0))], h1)
def cN_lawHere : List mv_V → H2 → (List mv_V → H2 → O2) → O2 := fun as h k => match as with
  | [.inr (t0, o0)] => mv_gd (Nat.beq t0 8) <| mv_rI (fN_lawHere o0 h) fun x h => k [.inl (.int x)] h
  | _ => none
def fN_item_b109 (o0 : Nat) (v2 : Int32) (os0 : Nat) (vs1 : Int32) (h : H2) : O2 :=
  mv_rV (fN_must os0 vs1 h) fun h1 =>
  mv_rV (fN_lawTold o0 (if (nI 0) < v2 then v2 else (nI 0)) h1) fun h2 =>
  mv_rI (fN_isWord o0 35 h2) fun r4 h3 =>
  mv_rV (fN_must o0 r4 h3) fun h5 =>
  some ([], h5)
def fN_item (o0 : Nat) (h : H2) : O2 :=
  mv_rI (fN_kindHere o0 h) fun r2 h1 =>
  mv_bi r2 fun x3 =>
  mv_rI (fN_lawHere o0 h1) fun r5 h4 =>
  mv_bi r5 fun x6 =>
  if x3 < 0 then (
    mv_rI (fN_isWord o0 30 h4) fun r8 h7 =>
    if r8 = 0 then (
      mv_rI (fN_isWord o0 32 h7) fun r10 h9 =>
      if r10 = 0 then (
        mv_rI (fN_isWord o0 34 h9) fun r12 h11 =>
        if r12 = 0 then (
          if x6 < 0 then (
            fN_item_b109 o0 x6 o0 (nI 0) h11)
          else
          fN_item_b109 o0 x6 o0 (nI 1) h11)
        else
        mv_rV (fN_twoTold o0 (nI 23) (nI 5) 30 (nI 7) h11) fun h13 =>
        mv_rI (fN_isWord o0 35 h13) fun r15 h14 =>
        mv_rV (fN_must o0 r15 h14) fun h16 =>
        some ([], h16))
      else
      mv_rV (fN_twoTold o0 (nI 15) (nI 7) 33 (nI 9) h9) fun h17 =>
      mv_rI (fN_isWord o0 35 h17) fun r19 h18 =>
      mv_rV (fN_must o0 r19 h18) fun h20 =>
      some ([], h20))
    else
    mv_rV (fN_twoTold o0 (nI 7) (nI 7) 31 (nI 9) h7) fun h21 =>
    mv_rI (fN_isWord o0 35 h21) fun r23 h22 =>
    mv_rV (fN_must o0 r23 h22) fun h24 =>
    some ([], h24))
  else
  mv_rV (fN_clothTold o0 x3 h4) fun h25 =>
  mv_rI (fN_isWord o0 35 h25) fun r27 h26 =>
  mv_rV (fN_must o0 r27 h26) fun h28 =>
  some ([], h28)
def cN_item : List mv_V → H2 → (List mv_V → H2 → O2) → O2 := fun as h k => match as with
  | [.inr (t0, o0)] => mv_gd (Nat.beq t0 8) <| mv_rV (fN_item o0 h) fun h => k [] h
  | _ => none
def fN_mill_b47 (o0 : Nat) (h : H2) : O2 :=
  mv_bh (wI2 h 8 o0 7 (nI 0)) fun h1 =>
  if (rI2 h1 8 o0 10) = 0 then (
    mv_bh (wI2 h1 8 o0 12 (nI 0)) fun h2 =>
    mv_gd (mv_inb (nI 6) 69) <|
    some ([Sum.inl (Value.int (rI2 h2 902 o0 (nI 6).toNatClampNeg))], h2))
  else
  mv_rV (fN_laysBack o0 h1) fun h3 =>
  some ([Sum.inl (Value.int ((-(nI 100)) - (rI2 h3 8 o0 8)))], h3)
def fN_mill_b22 : Nat → Nat → H2 → O2
  | 0 => fun _ _ => none
  | n + 1 => fun o0 h =>
    if (rI2 h 8 o0 10) = 0 then (
      if (rI2 h 8 o0 7) ≤ (rI2 h 8 o0 8) then (
        fN_mill_b47 o0 h)
      else
      mv_rV (fN_item o0 h) fun h1 =>
      fN_mill_b22 n o0 h1)
    else
    fN_mill_b47 o0 h
def fN_mill (o0 : Nat) (h : H2) : O2 :=
  mv_rV (fN_lends o0 h) fun h1 =>
  mv_rV (fN_anew o0 h1) fun h2 =>
  mv_gd (decide (nI 0 = nI 0) || decide (nI 0 = nI 1)) <|
  mv_bh (wI2 h2 8 o0 10 (nI 0)) fun h3 =>
  mv_bh (wI2 h3 8 o0 9 (nI 0)) fun h4 =>
  mv_rV (fN_next o0 h4) fun h5 =>
  fN_mill_b22 1000 o0 h5
def fN_prove_b28 : Nat → Nat → Int32 → Int32 → Int32 → H2 → O2
  | 0 => fun _ _ _ _ _ => none
  | n + 1 => fun o0 v1 v2 v3 h =>
    if v2 ≤ v3 then (
      mv_rV (fN_laysBack o0 h) fun h1 =>
      mv_bh (wI2 h1 8 o0 12 v2) fun h2 =>
      some ([Sum.inl (Value.int v2)], h2))
    else
    mv_rV (fN_goes o0 (nI 1) h) fun h3 =>
    mv_rI (fN_its o0 v1 (nI 1) h3) fun r5 h4 =>
    mv_gd (mv_inb ((nI 3) * v3) 30) <|
    mv_bh (wI2 h4 911 o0 ((nI 3) * v3).toNatClampNeg ((nI 1) + r5)) fun h6 =>
    mv_rI (fN_its o0 v1 (nI 2) h6) fun r8 h7 =>
    mv_gd (mv_inb (((nI 3) * v3) + (nI 1)) 30) <|
    mv_bh (wI2 h7 911 o0 (((nI 3) * v3) + (nI 1)).toNatClampNeg r8) fun h9 =>
    mv_rI (fN_depths o0 h9) fun r11 h10 =>
    mv_gd (mv_inb (((nI 3) * v3) + (nI 2)) 30) <|
    mv_bh (wI2 h10 911 o0 (((nI 3) * v3) + (nI 2)).toNatClampNeg r11) fun h12 =>
    mv_bi (v3 + (nI 1)) fun x13 =>
    fN_prove_b28 n o0 v1 v2 x13 h12
def fN_prove (o0 : Nat) (v1 : Int32) (v2 : Int32) (h : H2) : O2 :=
  mv_rI (fN_isCloth o0 v1 h) fun r2 h1 =>
  if r2 = 0 then (
    some ([Sum.inl (Value.int (-(nI 1)))], h1))
  else
  mv_rI (fN_in v2.toInt64 (lN 1) (lN 10) h1) fun r4 h3 =>
  if r4 = 0 then (
    some ([Sum.inl (Value.int (-(nI 1)))], h3))
  else
  mv_rV (fN_lends o0 h3) fun h5 =>
  mv_bi (nI 0) fun x6 =>
  fN_prove_b28 1000 o0 v1 v2 x6 h5
def fN_isCell (o0 : Nat) (v1 : Int32) (v2 : Int32) (h : H2) : O2 :=
  mv_rI (fN_in v1.toInt64 (lN 0) (((rI2 h 8 o0 12) - (nI 1)).toInt64) h) fun r2 h1 =>
  if r2 = 0 then (
    mv_gd (decide (nI 0 = nI 0) || decide (nI 0 = nI 1)) <| some ([Sum.inl (Value.int (nI 0))], h1))
  else
  mv_rI (fN_in v2.toInt64 (lN 0) (lN 2) h1) fun r4 h3 =>
  if r4 = 0 then (
    mv_gd (decide (nI 0 = nI 0) || decide (nI 0 = nI 1)) <| some ([Sum.inl (Value.int (nI 0))], h3))
  else
  mv_gd (decide (nI 1 = nI 0) || decide (nI 1 = nI 1)) <| some ([Sum.inl (Value.int (nI 1))], h3)
def cN_isCell : List mv_V → H2 → (List mv_V → H2 → O2) → O2 := fun as h k => match as with
  | [.inr (t0, o0), .inl (.int v1), .inl (.int v2)] => mv_gd (Nat.beq t0 8) <| mv_rI (fN_isCell o0 v1 v2 h) fun x h => k [.inl (.int x)] h
  | _ => none
def fN_row (o0 : Nat) (v1 : Int32) (v2 : Int32) (h : H2) : O2 :=
  mv_rI (fN_isCell o0 v1 v2 h) fun r2 h1 =>
  if r2 = 0 then (
    some ([Sum.inl (Value.int (-(nI 9)))], h1))
  else
  mv_gd (mv_inb (((nI 3) * v1) + v2) 30) <|
  some ([Sum.inl (Value.int (rI2 h1 911 o0 (((nI 3) * v1) + v2).toNatClampNeg))], h1)
def fN_alterRow (o0 : Nat) (v1 : Int32) (v2 : Int32) (v3 : Int32) (h : H2) : O2 :=
  mv_rI (fN_isCell o0 v1 v2 h) fun r2 h1 =>
  if r2 = 0 then (
    some ([Sum.inl (Value.int (-(nI 9)))], h1))
  else
  mv_gd (mv_inb (((nI 3) * v1) + v2) 30) <|
  mv_bi (rI2 h1 911 o0 (((nI 3) * v1) + v2).toNatClampNeg) fun x3 =>
  mv_gd (mv_inb (((nI 3) * v1) + v2) 30) <|
  mv_bh (wI2 h1 911 o0 (((nI 3) * v1) + v2).toNatClampNeg v3) fun h4 =>
  some ([Sum.inl (Value.int x3)], h4)
def fN_isRight (o0 : Nat) (v1 : Int32) (v2 : Int32) (h : H2) : O2 :=
  mv_rV (fN_goes o0 (nI 1) h) fun h1 =>
  mv_gd (mv_inb ((nI 3) * v2) 30) <|
  mv_rI (fN_its o0 v1 (nI 1) h1) fun r3 h2 =>
  if (rI2 h1 911 o0 ((nI 3) * v2).toNatClampNeg) = ((nI 1) + r3) then (
    mv_gd (mv_inb (((nI 3) * v2) + (nI 1)) 30) <|
    mv_rI (fN_its o0 v1 (nI 2) h2) fun r5 h4 =>
    if (rI2 h2 911 o0 (((nI 3) * v2) + (nI 1)).toNatClampNeg) = r5 then (
      mv_gd (mv_inb (((nI 3) * v2) + (nI 2)) 30) <|
      mv_rI (fN_depths o0 h4) fun r7 h6 =>
      if (rI2 h4 911 o0 (((nI 3) * v2) + (nI 2)).toNatClampNeg) = r7 then (
        mv_gd (decide (nI 1 = nI 0) || decide (nI 1 = nI 1)) <| some ([Sum.inl (Value.int (nI 1))], h6))
      else
      mv_gd (decide (nI 0 = nI 0) || decide (nI 0 = nI 1)) <| some ([Sum.inl (Value.int (nI 0))], h6))
    else
    mv_gd (decide (nI 0 = nI 0) || decide (nI 0 = nI 1)) <| some ([Sum.inl (Value.int (nI 0))], h4))
  else
  mv_gd (decide (nI 0 = nI 0) || decide (nI 0 = nI 1)) <| some ([Sum.inl (Value.int (nI 0))], h2)
def cN_isRight : List mv_V → H2 → (List mv_V → H2 → O2) → O2 := fun as h k => match as with
  | [.inr (t0, o0), .inl (.int v1), .inl (.int v2)] => mv_gd (Nat.beq t0 8) <| mv_rI (fN_isRight o0 v1 v2 h) fun x h => k [.inl (.int x)] h
  | _ => none
def fN_judge_b39 (o0 : Nat) (v2 : Int32) (h : H2) : O2 :=
  mv_rV (fN_laysBack o0 h) fun h1 =>
  if (rI2 h1 8 o0 12) ≤ v2 then (
    some ([Sum.inl (Value.int (nI 0))], h1))
  else
  some ([Sum.inl (Value.int (v2 + (nI 1)))], h1)
def fN_judge_b16 : Nat → Nat → Int32 → Int32 → H2 → O2
  | 0 => fun _ _ _ _ => none
  | n + 1 => fun o0 v1 v2 h =>
    if (rI2 h 8 o0 12) ≤ v2 then (
      fN_judge_b39 o0 v2 h)
    else
    mv_rI (fN_isRight o0 v1 v2 h) fun r2 h1 =>
    if r2 = 0 then (
      fN_judge_b39 o0 v2 h1)
    else
    mv_bi (v2 + (nI 1)) fun x3 =>
    fN_judge_b16 n o0 v1 x3 h1
def fN_judge (o0 : Nat) (v1 : Int32) (h : H2) : O2 :=
  mv_rI (fN_isCloth o0 v1 h) fun r2 h1 =>
  if r2 = 0 then (
    some ([Sum.inl (Value.int (-(nI 1)))], h1))
  else
  mv_rV (fN_lends o0 h1) fun h3 =>
  mv_bi (nI 0) fun x4 =>
  fN_judge_b16 1000 o0 v1 x4 h3
def fN_minds_b105 : Nat → Nat → Int32 → Int32 → Int32 → Int32 → Int32 → H2 → O2
  | 0 => fun _ _ _ _ _ _ _ => none
  | n + 1 => fun o0 v1 v2 v3 v4 v5 h =>
    if v4 ≤ v5 then (
      some ([Sum.inl (Value.int v4)], h))
    else
    mv_rI (fN_its o0 (v3 + v5) (nI 1) h) fun r2 h1 =>
    if r2 < 0 then (
      mv_bi (v5 + (nI 1)) fun x3 =>
      fN_minds_b105 n o0 v1 v2 v3 v4 x3 h1)
    else
    mv_gd (mv_inb ((((nI 40) * v1) + v2) + v5) 160) <|
    mv_rV (fN_isDeep o0 (v3 + v5) (rI2 h1 915 o0 ((((nI 40) * v1) + v2) + v5).toNatClampNeg) h1) fun h4 =>
    mv_bi (v5 + (nI 1)) fun x5 =>
    fN_minds_b105 n o0 v1 v2 v3 v4 x5 h4
def fN_minds (o0 : Nat) (v1 : Int32) (v2 : Int32) (v3 : Int32) (v4 : Int32) (h : H2) : O2 :=
  mv_rI (fN_isFour v1 h) fun r2 h1 =>
  if r2 = 0 then (
    some ([Sum.inl (Value.int (-(nI 1)))], h1))
  else
  mv_rI (fN_isCloth o0 v3 h1) fun r4 h3 =>
  if r4 = 0 then (
    some ([Sum.inl (Value.int (-(nI 1)))], h3))
  else
  mv_rI (fN_in v4.toInt64 (lN 0) (lN 8) h3) fun r6 h5 =>
  if r6 = 0 then (
    some ([Sum.inl (Value.int (-(nI 1)))], h5))
  else
  mv_gd (mv_inb (nI 6) 69) <|
  if (v3 + v4) ≤ (rI2 h5 902 o0 (nI 6).toNatClampNeg) then (
    mv_gd (mv_inb v1 4) <|
    if (rI2 h5 913 o0 v1.toNatClampNeg) = 0 then (
      mv_gd (mv_inb v1 4) <|
      mv_rI (fN_in v2.toInt64 (lN 0) ((rI2 h5 914 o0 v1.toNatClampNeg).toInt64) h5) fun r8 h7 =>
      if r8 = 0 then (
        some ([Sum.inl (Value.int (-(nI 12)))], h7))
      else
      mv_gd (mv_inb v1 4) <|
      if v4 ≤ ((rI2 h7 914 o0 v1.toNatClampNeg) - v2) then (
        mv_bi (nI 0) fun x9 =>
        fN_minds_b105 1000 o0 v1 v2 v3 v4 x9 h7)
      else
      some ([Sum.inl (Value.int (-(nI 12)))], h7))
    else
    mv_gd (mv_inb v1 4) <|
    if 0 ≤ (rI2 h5 913 o0 v1.toNatClampNeg) then (
      some ([Sum.inl (Value.int (-(nI 13)))], h5))
    else
    some ([Sum.inl (Value.int (-(nI 11)))], h5))
  else
  some ([Sum.inl (Value.int (-(nI 1)))], h5)
def fN_sheet_b69 : Nat → Nat → Int32 → Int32 → H2 → O2
  | 0 => fun _ _ _ _ => none
  | n + 1 => fun o0 v1 v4 h =>
    if (nI 40) ≤ v4 then (
      some ([Sum.inl (Value.int (nI 1))], h))
    else
    mv_gd (mv_inb (((nI 40) * v1) + v4) 160) <|
    mv_bh (wI2 h 915 o0 (((nI 40) * v1) + v4).toNatClampNeg (nI 0)) fun h1 =>
    mv_bi (v4 + (nI 1)) fun x2 =>
    fN_sheet_b69 n o0 v1 x2 h1
def fN_sheet_b44 (o0 : Nat) (v1 : Int32) (v2 : Int32) (v3 : Int32) (h : H2) : O2 :=
  mv_gd (mv_inb v1 4) <|
  mv_bh (wI2 h 913 o0 v1.toNatClampNeg v2) fun h1 =>
  if 0 ≤ v2 then (
    mv_gd (mv_inb v1 4) <|
    mv_bh (wI2 h1 914 o0 v1.toNatClampNeg v3) fun h2 =>
    mv_bi (nI 0) fun x3 =>
    fN_sheet_b69 1000 o0 v1 x3 h2)
  else
  mv_gd (mv_inb v1 4) <|
  mv_bh (wI2 h1 914 o0 v1.toNatClampNeg (nI 0)) fun h4 =>
  mv_bi (nI 0) fun x5 =>
  fN_sheet_b69 1000 o0 v1 x5 h4
def fN_sheet (o0 : Nat) (v1 : Int32) (v2 : Int32) (v3 : Int32) (h : H2) : O2 :=
  mv_rI (fN_isFour v1 h) fun r2 h1 =>
  if r2 = 0 then (
    some ([Sum.inl (Value.int (-(nI 1)))], h1))
  else
  mv_rI (fN_in v2.toInt64 (-(lN 1)) (lN 3) h1) fun r4 h3 =>
  if r4 = 0 then (
    some ([Sum.inl (Value.int (-(nI 1)))], h3))
  else
  if v2 < 0 then (
    if v2 < 0 then (
      fN_sheet_b44 o0 v1 v2 v3 h3)
    else
    if 0 ≤ v3 then (
      fN_sheet_b44 o0 v1 v2 v3 h3)
    else
    some ([Sum.inl (Value.int (-(nI 14)))], h3))
  else
  if v3 ≤ (nI 40) then (
    if v2 < 0 then (
      fN_sheet_b44 o0 v1 v2 v3 h3)
    else
    if 0 ≤ v3 then (
      fN_sheet_b44 o0 v1 v2 v3 h3)
    else
    some ([Sum.inl (Value.int (-(nI 14)))], h3))
  else
  some ([Sum.inl (Value.int (-(nI 1)))], h3)
def fN_narrowed (v0 : Int32) (v1 : Int32) (h : H2) : O2 :=
  if v0 = 0 then (
    some ([Sum.inl (Value.int v1.toInt8.toInt32)], h))
  else
  if v0 = (nI 1) then (
    some ([Sum.inl (Value.int v1.toInt16.toInt32)], h))
  else
  some ([Sum.inl (Value.int v1)], h)
def cN_narrowed : List mv_V → H2 → (List mv_V → H2 → O2) → O2 := fun as h k => match as with
  | [.inl (.int v0), .inl (.int v1)] => mv_rI (fN_narrowed v0 v1 h) fun x h => k [.inl (.int x)] h
  | _ => none
def fN_put (o0 : Nat) (v1 : Int32) (v2 : Int32) (v3 : Int32) (h : H2) : O2 :=
  mv_rI (fN_isFour v1 h) fun r2 h1 =>
  if r2 = 0 then (
    some ([Sum.inl (Value.int (-(nI 1)))], h1))
  else
  mv_gd (mv_inb v1 4) <|
  if 0 ≤ (rI2 h1 913 o0 v1.toNatClampNeg) then (
    mv_gd (mv_inb v1 4) <|
    mv_rI (fN_in v2.toInt64 (lN 0) (((rI2 h1 914 o0 v1.toNatClampNeg) - (nI 1)).toInt64) h1) fun r4 h3 =>
    if r4 = 0 then (
      some ([Sum.inl (Value.int (-(nI 12)))], h3))
    else
    mv_gd (mv_inb v1 4) <|
    mv_rI (fN_narrowed (rI2 h3 913 o0 v1.toNatClampNeg) v3 h3) fun r6 h5 =>
    mv_gd (mv_inb (((nI 40) * v1) + v2) 160) <|
    mv_bh (wI2 h5 915 o0 (((nI 40) * v1) + v2).toNatClampNeg r6) fun h7 =>
    some ([Sum.inl (Value.int (nI 1))], h7))
  else
  some ([Sum.inl (Value.int (-(nI 11)))], h1)
def fN_item_ (o0 : Nat) (v1 : Int32) (v2 : Int32) (v3 : Int32) (h : H2) : O2 :=
  mv_rI (fN_isFour v1 h) fun r2 h1 =>
  if r2 = 0 then (
    some ([Sum.inl (Value.int (-(nI 1)))], h1))
  else
  mv_rI (fN_in v2.toInt64 (lN 0) (lN 3) h1) fun r4 h3 =>
  if r4 = 0 then (
    some ([Sum.inl (Value.int (-(nI 1)))], h3))
  else
  mv_gd (mv_inb v1 4) <|
  if 0 ≤ (rI2 h3 913 o0 v1.toNatClampNeg) then (
    mv_gd (mv_inb v1 4) <|
    if (rI2 h3 913 o0 v1.toNatClampNeg) = v2 then (
      mv_gd (mv_inb v1 4) <|
      mv_rI (fN_in v3.toInt64 (lN 0) (((rI2 h3 914 o0 v1.toNatClampNeg) - (nI 1)).toInt64) h3) fun r6 h5 =>
      if r6 = 0 then (
        some ([Sum.inl (Value.int (-(nI 12)))], h5))
      else
      mv_gd (mv_inb (((nI 40) * v1) + v3) 160) <|
      some ([Sum.inl (Value.int (rI2 h5 915 o0 (((nI 40) * v1) + v3).toNatClampNeg))], h5))
    else
    some ([Sum.inl (Value.int (-(nI 13)))], h3))
  else
  some ([Sum.inl (Value.int (-(nI 11)))], h3)
def fN_shelf_b107 (o0 : Nat) (v1 : Int32) (v3 : Int32) (v5 : Int32) (os0 : Nat) (vs1 : Int32) (vs2 : Int32) (h : H2) : O2 :=
  mv_gd (mv_inb vs1 4) <|
  mv_bh (wI2 h 917 os0 vs1.toNatClampNeg vs2) fun h1 =>
  if v5 = 0 then (
    mv_gd (mv_inb v1 4) <|
    mv_bh (wI2 h1 918 o0 v1.toNatClampNeg (nI 0)) fun h2 =>
    some ([Sum.inl (Value.int (nI 1))], h2))
  else
  mv_gd (mv_inb v3 4) <|
  mv_gd (mv_inb v1 4) <|
  mv_bh (wI2 h1 918 o0 v1.toNatClampNeg (rI2 h1 914 o0 v3.toNatClampNeg)) fun h3 =>
  some ([Sum.inl (Value.int (nI 1))], h3)
def fN_shelf_b60 (o0 : Nat) (v1 : Int32) (v2 : Int32) (v3 : Int32) (vs0 : Int32) (h : H2) : O2 :=
  mv_bi vs0 fun x1 =>
  if x1 = 0 then (
    mv_gd (mv_inb v1 4) <|
    mv_bh (wI2 h 916 o0 v1.toNatClampNeg v2) fun h2 =>
    if x1 = 0 then (
      fN_shelf_b107 o0 v1 v3 x1 o0 v1 v3 h2)
    else
    mv_gd (mv_inb v3 4) <|
    fN_shelf_b107 o0 v1 v3 x1 o0 v1 (rI2 h2 913 o0 v3.toNatClampNeg) h2)
  else
  mv_gd (mv_inb v3 4) <|
  if 0 ≤ (rI2 h 913 o0 v3.toNatClampNeg) then (
    mv_gd (mv_inb v1 4) <|
    mv_bh (wI2 h 916 o0 v1.toNatClampNeg v2) fun h3 =>
    if x1 = 0 then (
      fN_shelf_b107 o0 v1 v3 x1 o0 v1 v3 h3)
    else
    mv_gd (mv_inb v3 4) <|
    fN_shelf_b107 o0 v1 v3 x1 o0 v1 (rI2 h3 913 o0 v3.toNatClampNeg) h3)
  else
  mv_gd (mv_inb v1 4) <|
  mv_bh (wI2 h 916 o0 v1.toNatClampNeg (nI 2)) fun h4 =>
  if x1 = 0 then (
    fN_shelf_b107 o0 v1 v3 x1 o0 v1 v3 h4)
  else
  mv_gd (mv_inb v3 4) <|
  fN_shelf_b107 o0 v1 v3 x1 o0 v1 (rI2 h4 913 o0 v3.toNatClampNeg) h4
def fN_shelf_b34 (o0 : Nat) (v1 : Int32) (v2 : Int32) (v3 : Int32) (vs0 : Int32) (h : H2) : O2 :=
  mv_bi vs0 fun x1 =>
  mv_rI (fN_isFour v1 h) fun r3 h2 =>
  if r3 = 0 then (
    some ([Sum.inl (Value.int (-(nI 1)))], h2))
  else
  if x1 = 0 then (
    some ([Sum.inl (Value.int (-(nI 1)))], h2))
  else
  if v2 = (nI 1) then (
    fN_shelf_b60 o0 v1 v2 v3 (nI 1) h2)
  else
  fN_shelf_b60 o0 v1 v2 v3 (nI 0) h2
def fN_shelf (o0 : Nat) (v1 : Int32) (v2 : Int32) (v3 : Int32) (h : H2) : O2 :=
  if v2 = 0 then (
    mv_rI (fN_isCloth o0 v3 h) fun r2 h1 =>
    fN_shelf_b34 o0 v1 v2 v3 r2 h1)
  else
  if v2 = (nI 1) then (
    mv_rI (fN_isFour v3 h) fun r4 h3 =>
    fN_shelf_b34 o0 v1 v2 v3 r4 h3)
  else
  if v2 = (nI 2) then (
    fN_shelf_b34 o0 v1 v2 v3 (nI 1) h)
  else
  fN_shelf_b34 o0 v1 v2 v3 (nI 0) h
def fN_isHeld (o0 : Nat) (v1 : Int32) (h : H2) : O2 :=
  mv_gd (mv_inb v1 4) <|
  if (rI2 h 916 o0 v1.toNatClampNeg) = 0 then (
    mv_gd (mv_inb v1 4) <|
    mv_rI (fN_isCloth o0 (rI2 h 917 o0 v1.toNatClampNeg) h) fun r2 h1 =>
    if r2 = 0 then (
      mv_gd (decide (nI 0 = nI 0) || decide (nI 0 = nI 1)) <| some ([Sum.inl (Value.int (nI 0))], h1))
    else
    mv_gd (decide (nI 1 = nI 0) || decide (nI 1 = nI 1)) <| some ([Sum.inl (Value.int (nI 1))], h1))
  else
  mv_gd (decide (nI 0 = nI 0) || decide (nI 0 = nI 1)) <| some ([Sum.inl (Value.int (nI 0))], h)
def cN_isHeld : List mv_V → H2 → (List mv_V → H2 → O2) → O2 := fun as h k => match as with
  | [.inr (t0, o0), .inl (.int v1)] => mv_gd (Nat.beq t0 8) <| mv_rI (fN_isHeld o0 v1 h) fun x h => k [.inl (.int x)] h
  | _ => none
def fN_taken_b30 (o0 : Nat) (v1 : Int32) (v2 : Int32) (h : H2) : O2 :=
  mv_gd (mv_inb v1 4) <|
  if (rI2 h 916 o0 v1.toNatClampNeg) = (nI 1) then (
    mv_gd (mv_inb v1 4) <|
    if (v2 - (nI 10)) = (rI2 h 917 o0 v1.toNatClampNeg) then (
      mv_gd (mv_inb v1 4) <|
      some ([Sum.inl (Value.int (rI2 h 918 o0 v1.toNatClampNeg))], h))
    else
    some ([Sum.inl (Value.int (-(nI 13)))], h))
  else
  mv_rI (fN_isHeld o0 v1 h) fun r2 h1 =>
  if r2 = 0 then (
    some ([Sum.inl (Value.int (-(nI 11)))], h1))
  else
  if (nI 10) ≤ v2 then (
    some ([Sum.inl (Value.int (-(nI 13)))], h1))
  else
  mv_gd (mv_inb v1 4) <|
  mv_rI (fN_its o0 (rI2 h1 917 o0 v1.toNatClampNeg) (nI 0) h1) fun r4 h3 =>
  mv_rI (fN_isUnder r4 v2 h3) fun r6 h5 =>
  if r6 = 0 then (
    some ([Sum.inl (Value.int (-(nI 13)))], h5))
  else
  mv_gd (mv_inb v1 4) <|
  some ([Sum.inl (Value.int (rI2 h5 917 o0 v1.toNatClampNeg))], h5)
def fN_taken (o0 : Nat) (v1 : Int32) (v2 : Int32) (h : H2) : O2 :=
  mv_rI (fN_isFour v1 h) fun r2 h1 =>
  if r2 = 0 then (
    some ([Sum.inl (Value.int (-(nI 1)))], h1))
  else
  mv_rI (fN_isKind v2 h1) fun r4 h3 =>
  if r4 = 0 then (
    mv_rI (fN_in v2.toInt64 (lN 10) (lN 13) h3) fun r6 h5 =>
    if r6 = 0 then (
      some ([Sum.inl (Value.int (-(nI 1)))], h5))
    else
    fN_taken_b30 o0 v1 v2 h5)
  else
  fN_taken_b30 o0 v1 v2 h3
def fN_runs (o0 : Nat) (v1 : Int32) (h : H2) : O2 :=
  if (nI 30) ≤ (rI2 h 8 o0 20) then (
    some ([], h))
  else
  mv_gd (mv_inb (rI2 h 8 o0 20) 30) <|
  mv_bh (wI2 h 919 o0 (rI2 h 8 o0 20).toNatClampNeg v1) fun h1 =>
  mv_bh (wI2 h1 8 o0 20 ((rI2 h1 8 o0 20) + (nI 1))) fun h2 =>
  some ([], h2)
def cN_runs : List mv_V → H2 → (List mv_V → H2 → O2) → O2 := fun as h k => match as with
  | [.inr (t0, o0), .inl (.int v1)] => mv_gd (Nat.beq t0 8) <| mv_rV (fN_runs o0 v1 h) fun h => k [] h
  | _ => none
def fN_plainRubs (o0 : Nat) (v1 : Int32) (h : H2) : O2 :=
  mv_rV (fN_runs o0 (nI 10) h) fun h1 =>
  some ([Sum.inl (Value.int ((v1 * (nI 5)) + (rI2 h1 8 o0 22)))], h1)
def cN_plainRubs : List mv_V → H2 → (List mv_V → H2 → O2) → O2 := fun as h k => match as with
  | [.inr (t0, o0), .inl (.int v1)] => mv_gd (Nat.beq t0 8) <| mv_rI (fN_plainRubs o0 v1 h) fun x h => k [.inl (.int x)] h
  | _ => none
def fN_linenRubs (o0 : Nat) (v1 : Int32) (h : H2) : O2 :=
  mv_rV (fN_runs o0 (nI 30) h) fun h1 =>
  mv_rI (fN_plainRubs o0 v1 h1) fun r3 h2 =>
  some ([Sum.inl (Value.int (r3 * (nI 2)))], h2)
def cN_linenRubs : List mv_V → H2 → (List mv_V → H2 → O2) → O2 := fun as h k => match as with
  | [.inr (t0, o0), .inl (.int v1)] => mv_gd (Nat.beq t0 8) <| mv_rI (fN_linenRubs o0 v1 h) fun x h => k [.inl (.int x)] h
  | _ => none
def fN_rubs (o0 : Nat) (v1 : Int32) (h : H2) : O2 :=
  if (rI2 h 8 o0 21) = nI 2 then (
    mv_rI (fN_linenRubs o0 v1 h) fun r2 h1 =>
    some ([Sum.inl (Value.int r2)], h1))
  else
  if (rI2 h 8 o0 21) = nI 3 then (
    mv_rV (fN_runs o0 (nI 51) h) fun h3 =>
    mv_rI (fN_plainRubs o0 v1 h3) fun r5 h4 =>
    some ([Sum.inl (Value.int (r5 - (nI 2)))], h4))
  else
  if (rI2 h 8 o0 21) = nI 4 then (
    mv_rV (fN_runs o0 (nI 40) h) fun h6 =>
    mv_rI (fN_linenRubs o0 v1 h6) fun r8 h7 =>
    some ([Sum.inl (Value.int ((nI 0) - r8))], h7))
  else
  mv_rI (fN_plainRubs o0 v1 h) fun r10 h9 =>
  some ([Sum.inl (Value.int r10)], h9)
def cN_rubs : List mv_V → H2 → (List mv_V → H2 → O2) → O2 := fun as h k => match as with
  | [.inr (t0, o0), .inl (.int v1)] => mv_gd (Nat.beq t0 8) <| mv_rI (fN_rubs o0 v1 h) fun x h => k [.inl (.int x)] h
  | _ => none
def fN_plainSteeps (o0 : Nat) (v1 : Int32) (h : H2) : O2 :=
  mv_rV (fN_runs o0 (nI 11) h) fun h1 =>
  mv_rI (fN_rubs o0 v1 h1) fun r3 h2 =>
  some ([Sum.inl (Value.int (r3 + ((rI2 h2 8 o0 23) * (nI 9))))], h2)
def cN_plainSteeps : List mv_V → H2 → (List mv_V → H2 → O2) → O2 := fun as h k => match as with
  | [.inr (t0, o0), .inl (.int v1)] => mv_gd (Nat.beq t0 8) <| mv_rI (fN_plainSteeps o0 v1 h) fun x h => k [.inl (.int x)] h
  | _ => none
def fN_steepsAct_b16 (o0 : Nat) (v1 : Int32) (h : H2) : O2 :=
  mv_rV (fN_runs o0 (nI 20) h) fun h1 =>
  mv_rI (fN_plainSteeps o0 v1 h1) fun r3 h2 =>
  some ([Sum.inl (Value.int (r3 - (nI 6)))], h2)
def fN_steepsAct (o0 : Nat) (v1 : Int32) (h : H2) : O2 :=
  if (rI2 h 8 o0 21) = (nI 1) then (
    fN_steepsAct_b16 o0 v1 h)
  else
  if (rI2 h 8 o0 21) = (nI 3) then (
    fN_steepsAct_b16 o0 v1 h)
  else
  if (rI2 h 8 o0 21) = (nI 4) then (
    mv_rV (fN_runs o0 (nI 41) h) fun h1 =>
    mv_rI (fN_plainSteeps o0 v1 h1) fun r3 h2 =>
    mv_bi r3 fun x4 =>
    mv_rI (fN_rubs o0 (rI2 h2 8 o0 23) h2) fun r6 h5 =>
    some ([Sum.inl (Value.int (x4 ^^^ r6))], h5))
  else
  mv_rI (fN_plainSteeps o0 v1 h) fun r8 h7 =>
  some ([Sum.inl (Value.int r8)], h7)
def cN_steepsAct : List mv_V → H2 → (List mv_V → H2 → O2) → O2 := fun as h k => match as with
  | [.inr (t0, o0), .inl (.int v1)] => mv_gd (Nat.beq t0 8) <| mv_rI (fN_steepsAct o0 v1 h) fun x h => k [.inl (.int x)] h
  | _ => none
def fN_plainParts_b30 (o0 : Nat) (v1 : Int32) (os0 : Nat) (vs1 : Int32) (h : H2) : O2 :=
  mv_gd (decide (vs1 = nI 0) || decide (vs1 = nI 1)) <|
  mv_bh (wI2 h 8 os0 24 vs1) fun h1 =>
  if (rI2 h1 8 o0 23) = (rI2 h1 8 o0 22) then (
    some ([Sum.inl (Value.int (nI 0))], h1))
  else
  if ((rI2 h1 8 o0 23) - (rI2 h1 8 o0 22)) = (-(nI 1)) then (
    some ([Sum.inl (Value.int (-v1))], h1))
  else
  mv_gd (!decide (((rI2 h1 8 o0 23) - (rI2 h1 8 o0 22)) = 0)) <|
  some ([Sum.inl (Value.int (v1 / ((rI2 h1 8 o0 23) - (rI2 h1 8 o0 22))))], h1)
def fN_plainParts (o0 : Nat) (v1 : Int32) (h : H2) : O2 :=
  mv_rV (fN_runs o0 (nI 12) h) fun h1 =>
  if (rI2 h1 8 o0 24) = 0 then (
    if (rI2 h1 8 o0 23) = (rI2 h1 8 o0 22) then (
      fN_plainParts_b30 o0 v1 o0 (nI 1) h1)
    else
    fN_plainParts_b30 o0 v1 o0 (nI 0) h1)
  else
  fN_plainParts_b30 o0 v1 o0 (nI 1) h1
def cN_plainParts : List mv_V → H2 → (List mv_V → H2 → O2) → O2 := fun as h k => match as with
  | [.inr (t0, o0), .inl (.int v1)] => mv_gd (Nat.beq t0 8) <| mv_rI (fN_plainParts o0 v1 h) fun x h => k [.inl (.int x)] h
  | _ => none
def fN_parts (o0 : Nat) (v1 : Int32) (h : H2) : O2 :=
  if (rI2 h 8 o0 21) = (nI 3) then (
    mv_rV (fN_runs o0 (nI 50) h) fun h1 =>
    mv_rI (fN_plainParts o0 (v1 + (nI 3)) h1) fun r3 h2 =>
    some ([Sum.inl (Value.int (r3 + (rI2 h2 8 o0 23)))], h2))
  else
  if (rI2 h 8 o0 21) = (nI 5) then (
    mv_rV (fN_runs o0 (nI 61) h) fun h4 =>
    mv_rI (fN_plainParts o0 v1 h4) fun r6 h5 =>
    mv_bi r6 fun x7 =>
    if (rI2 h5 8 o0 24) = 0 then (
      mv_rI (fN_rubs o0 (rI2 h5 8 o0 22) h5) fun r9 h8 =>
      some ([Sum.inl (Value.int (x7 - r9))], h8))
    else
    some ([Sum.inl (Value.int (nI 0))], h5))
  else
  mv_rI (fN_plainParts o0 v1 h) fun r11 h10 =>
  some ([Sum.inl (Value.int r11)], h10)
def cN_parts : List mv_V → H2 → (List mv_V → H2 → O2) → O2 := fun as h k => match as with
  | [.inr (t0, o0), .inl (.int v1)] => mv_gd (Nat.beq t0 8) <| mv_rI (fN_parts o0 v1 h) fun x h => k [.inl (.int x)] h
  | _ => none
def fN_plainDries (o0 : Nat) (v1 : Int32) (h : H2) : O2 :=
  mv_rV (fN_runs o0 (nI 13) h) fun h1 =>
  mv_rI (fN_steepsAct o0 v1 h1) fun r3 h2 =>
  some ([Sum.inl (Value.int (r3 ^^^ (nI 240)))], h2)
def cN_plainDries : List mv_V → H2 → (List mv_V → H2 → O2) → O2 := fun as h k => match as with
  | [.inr (t0, o0), .inl (.int v1)] => mv_gd (Nat.beq t0 8) <| mv_rI (fN_plainDries o0 v1 h) fun x h => k [.inl (.int x)] h
  | _ => none
def fN_driesAct_b16 (o0 : Nat) (v1 : Int32) (h : H2) : O2 :=
  mv_rV (fN_runs o0 (nI 31) h) fun h1 =>
  mv_rI (fN_plainDries o0 v1 h1) fun r3 h2 =>
  mv_bi r3 fun x4 =>
  mv_rI (fN_parts o0 (rI2 h2 8 o0 22) h2) fun r6 h5 =>
  some ([Sum.inl (Value.int (x4 + r6))], h5)
def fN_driesAct (o0 : Nat) (v1 : Int32) (h : H2) : O2 :=
  if (rI2 h 8 o0 21) = (nI 2) then (
    fN_driesAct_b16 o0 v1 h)
  else
  if (rI2 h 8 o0 21) = (nI 4) then (
    fN_driesAct_b16 o0 v1 h)
  else
  if (rI2 h 8 o0 21) = (nI 5) then (
    mv_rV (fN_runs o0 (nI 60) h) fun h1 =>
    mv_rI (fN_plainDries o0 v1 h1) fun r3 h2 =>
    some ([Sum.inl (Value.int (r3 * (nI 3)))], h2))
  else
  mv_rI (fN_plainDries o0 v1 h) fun r5 h4 =>
  some ([Sum.inl (Value.int r5)], h4)
def cN_driesAct : List mv_V → H2 → (List mv_V → H2 → O2) → O2 := fun as h k => match as with
  | [.inr (t0, o0), .inl (.int v1)] => mv_gd (Nat.beq t0 8) <| mv_rI (fN_driesAct o0 v1 h) fun x h => k [.inl (.int x)] h
  | _ => none
def fN_act (o0 : Nat) (v1 : Int32) (v2 : Int32) (v3 : Int32) (h : H2) : O2 :=
  mv_bh (wI2 h 8 o0 20 (nI 0)) fun h1 =>
  mv_rI (fN_isFour v1 h1) fun r3 h2 =>
  if r3 = 0 then (
    some ([Sum.inl (Value.int (nI 0))], h2))
  else
  mv_rI (fN_isFour v2 h2) fun r5 h4 =>
  if r5 = 0 then (
    some ([Sum.inl (Value.int (nI 0))], h4))
  else
  mv_rI (fN_isHeld o0 v1 h4) fun r7 h6 =>
  if r7 = 0 then (
    some ([Sum.inl (Value.int (nI 0))], h6))
  else
  mv_gd (mv_inb v1 4) <|
  mv_bh (wI2 h6 8 o0 22 (rI2 h6 917 o0 v1.toNatClampNeg)) fun h8 =>
  mv_rI (fN_its o0 (rI2 h8 8 o0 22) (nI 0) h8) fun r10 h9 =>
  mv_bh (wI2 h9 8 o0 21 r10) fun h11 =>
  mv_rI (fN_its o0 (rI2 h11 8 o0 22) (nI 1) h11) fun r13 h12 =>
  mv_bh (wI2 h12 8 o0 23 ((nI 1) + r13)) fun h14 =>
  mv_gd (decide (nI 0 = nI 0) || decide (nI 0 = nI 1)) <|
  mv_bh (wI2 h14 8 o0 24 (nI 0)) fun h15 =>
  if v2 = 0 then (
    mv_rI (fN_rubs o0 v3 h15) fun r17 h16 =>
    mv_bi r17 fun x18 =>
    if (rI2 h16 8 o0 24) = 0 then (
      some ([Sum.inl (Value.int x18)], h16))
    else
    some ([Sum.inl (Value.int (-(nI 15)))], h16))
  else
  if v2 = (nI 1) then (
    mv_rI (fN_steepsAct o0 v3 h15) fun r20 h19 =>
    mv_bi r20 fun x21 =>
    if (rI2 h19 8 o0 24) = 0 then (
      some ([Sum.inl (Value.int x21)], h19))
    else
    some ([Sum.inl (Value.int (-(nI 15)))], h19))
  else
  if v2 = (nI 2) then (
    mv_rI (fN_parts o0 v3 h15) fun r23 h22 =>
    mv_bi r23 fun x24 =>
    if (rI2 h22 8 o0 24) = 0 then (
      some ([Sum.inl (Value.int x24)], h22))
    else
    some ([Sum.inl (Value.int (-(nI 15)))], h22))
  else
  mv_rI (fN_driesAct o0 v3 h15) fun r26 h25 =>
  mv_bi r26 fun x27 =>
  if (rI2 h25 8 o0 24) = 0 then (
    some ([Sum.inl (Value.int x27)], h25))
  else
  some ([Sum.inl (Value.int (-(nI 15)))], h25)
def fN_trace (o0 : Nat) (v1 : Int32) (h : H2) : O2 :=
  mv_rI (fN_in v1.toInt64 (lN 0) (((rI2 h 8 o0 20) - (nI 1)).toInt64) h) fun r2 h1 =>
  if r2 = 0 then (
    some ([Sum.inl (Value.int (-(nI 3)))], h1))
  else
  mv_gd (mv_inb v1 30) <|
  some ([Sum.inl (Value.int (rI2 h1 919 o0 v1.toNatClampNeg))], h1)
def fN_purposesAbout_b15 (k4 : Nat → Int32 → Int32 → H2 → O2) : Nat → Nat → Int32 → Int32 → Int32 → Int32 → H2 → O2
  | 0 => fun _ _ _ _ _ _ => none
  | n + 1 => fun o0 v1 v2 v3 v4 h =>
    mv_gd (mv_inb (nI 6) 69) <|
    if (rI2 h 902 o0 (nI 6).toNatClampNeg) ≤ v4 then (
      if v3 = 0 then (
        mv_bi (v1 + (nI 0)) fun x1 =>
        mv_bi (v2 + (nI 1)) fun x2 =>
        k4 o0 x1 x2 h)
      else
      mv_bi (v1 + (nI 1)) fun x3 =>
      mv_bi (v2 + (nI 1)) fun x4 =>
      k4 o0 x3 x4 h)
    else
    if v3 = 0 then (
      mv_rI (fN_its o0 v4 (nI 1) h) fun r6 h5 =>
      if r6 = v2 then (
        mv_bi (nI 1) fun x7 =>
        mv_bi (v4 + (nI 1)) fun x8 =>
        fN_purposesAbout_b15 k4 n o0 v1 v2 x7 x8 h5)
      else
      mv_bi (nI 0) fun x9 =>
      mv_bi (v4 + (nI 1)) fun x10 =>
      fN_purposesAbout_b15 k4 n o0 v1 v2 x9 x10 h5)
    else
    mv_bi (nI 1) fun x11 =>
    mv_bi (v4 + (nI 1)) fun x12 =>
    fN_purposesAbout_b15 k4 n o0 v1 v2 x11 x12 h
def fN_purposesAbout_b4 : Nat → Nat → Int32 → Int32 → H2 → O2
  | 0 => fun _ _ _ _ => none
  | n + 1 => fun o0 v1 v2 h =>
    if (nI 10) ≤ v2 then (
      some ([Sum.inl (Value.int v1)], h))
    else
    mv_bi (nI 0) fun x1 =>
    mv_bi (nI 0) fun x2 =>
    fN_purposesAbout_b15 (fN_purposesAbout_b4 n) 1000 o0 v1 v2 x1 x2 h
def fN_purposesAbout (o0 : Nat) (h : H2) : O2 :=
  mv_bi (nI 0) fun x1 =>
  mv_bi (nI 0) fun x2 =>
  fN_purposesAbout_b4 1000 o0 x1 x2 h
def cN_purposesAbout : List mv_V → H2 → (List mv_V → H2 → O2) → O2 := fun as h k => match as with
  | [.inr (t0, o0)] => mv_gd (Nat.beq t0 8) <| mv_rI (fN_purposesAbout o0 h) fun x h => k [.inl (.int x)] h
  | _ => none
def fN_many (o0 : Nat) (v1 : Int32) (h : H2) : O2 :=
  if v1 = nI 0 then (
    mv_gd (mv_inb (nI 6) 69) <|
    some ([Sum.inl (Value.int (rI2 h 902 o0 (nI 6).toNatClampNeg))], h))
  else
  if v1 = nI 1 then (
    mv_rI (fN_hungSet o0 h) fun r2 h1 =>
    mv_rI (fN_ones r2 h1) fun r4 h3 =>
    some ([Sum.inl (Value.int r4)], h3))
  else
  if v1 = nI 2 then (
    mv_rI (fN_aboutSet o0 h) fun r6 h5 =>
    mv_rI (fN_ones r6 h5) fun r8 h7 =>
    some ([Sum.inl (Value.int r8)], h7))
  else
  if v1 = nI 3 then (
    mv_rI (fN_purposesAbout o0 h) fun r10 h9 =>
    some ([Sum.inl (Value.int r10)], h9))
  else
  if v1 = nI 4 then (
    some ([Sum.inl (Value.int (rI2 h 8 o0 12))], h))
  else
  if v1 = nI 5 then (
    some ([Sum.inl (Value.int (rI2 h 8 o0 7))], h))
  else
  if v1 = nI 6 then (
    some ([Sum.inl (Value.int (rI2 h 8 o0 20))], h))
  else
  some ([Sum.inl (Value.int (-(nI 1)))], h)
def fN_keep (o0 : Nat) (h : H2) : O2 :=
  mv_rV (fN_become_902_903 o0 o0 h) fun h1 =>
  mv_gd (decide (nI 1 = nI 0) || decide (nI 1 = nI 1)) <|
  mv_bh (wI2 h1 8 o0 5 (nI 1)) fun h2 =>
  some ([Sum.inl (Value.int (nI 1))], h2)
def fN_again (o0 : Nat) (h : H2) : O2 :=
  if (rI2 h 8 o0 5) = 0 then (
    some ([Sum.inl (Value.int (-(nI 3)))], h))
  else
  mv_rV (fN_become_903_902 o0 o0 h) fun h1 =>
  mv_gd (mv_inb (nI 6) 69) <|
  some ([Sum.inl (Value.int (rI2 h1 902 o0 (nI 6).toNatClampNeg))], h1)
