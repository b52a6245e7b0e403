set_option maxRecDepth 100000 in
set_option maxHeartbeats 8000000 in
theorem eM_copyFrom (o0 : Nat) (o1 : Nat) (h : H2) : mv_blk rI2 rR2 ln2 wI2 wR2 nw2 cp2 bod none tM_copyFrom gM_copyFrom 0 0 [] [] (fun _ _ _ _ _ _ => none) 400 tM_copyFrom [(0, Sum.inr (2, o0)), (1, Sum.inr (2, o1))] [] h 0 0 = (
  mv_gd (decide (nI 0 = nI 0) && (decide (nI 0 = nI 0) && (!decide ((nI 4) < 0) && (Nat.ble (nI 4).toNatClampNeg 4 && Nat.ble (nI 4).toNatClampNeg 4)))) <|
  mv_bh (cp2 h 300 o1 o0 (nI 4).toNatClampNeg 0) fun h1 =>
  mv_gd (decide (nI 0 = nI 0) && (decide (nI 0 = nI 0) && (!decide ((nI 8) < 0) && (Nat.ble (nI 8).toNatClampNeg 8 && Nat.ble (nI 8).toNatClampNeg 8)))) <|
  mv_bh (cp2 h1 301 o1 o0 (nI 8).toNatClampNeg 0) fun h2 =>
  mv_gd (decide (nI 0 = nI 0) && (decide (nI 0 = nI 0) && (!decide ((nI 8) < 0) && (Nat.ble (nI 8).toNatClampNeg 8 && Nat.ble (nI 8).toNatClampNeg 8)))) <|
  mv_bh (cp2 h2 302 o1 o0 (nI 8).toNatClampNeg 0) fun h3 =>
  mv_gd (decide (nI 0 = nI 0) && (decide (nI 0 = nI 0) && (!decide ((nI 6) < 0) && (Nat.ble (nI 6).toNatClampNeg 6 && Nat.ble (nI 6).toNatClampNeg 6)))) <|
  mv_bh (cp2 h3 303 o1 o0 (nI 6).toNatClampNeg 0) fun h4 =>
  mv_gd (decide (nI 0 = nI 0) && (decide (nI 0 = nI 0) && (!decide ((nI 8) < 0) && (Nat.ble (nI 8).toNatClampNeg 8 && Nat.ble (nI 8).toNatClampNeg 8)))) <|
  mv_bh (cp2 h4 304 o1 o0 (nI 8).toNatClampNeg 0) fun h5 =>
  mv_gd (decide (nI 0 = nI 0) && (decide (nI 0 = nI 0) && (!decide ((nI 8) < 0) && (Nat.ble (nI 8).toNatClampNeg 8 && Nat.ble (nI 8).toNatClampNeg 8)))) <|
  mv_bh (cp2 h5 305 o1 o0 (nI 8).toNatClampNeg 0) fun h6 =>
  mv_gd (decide (nI 0 = nI 0) && (decide (nI 0 = nI 0) && (!decide ((nI 8) < 0) && (Nat.ble (nI 8).toNatClampNeg 8 && Nat.ble (nI 8).toNatClampNeg 8)))) <|
  mv_bh (cp2 h6 306 o1 o0 (nI 8).toNatClampNeg 0) fun h7 =>
  mv_gd (decide (nI 0 = nI 0) && (decide (nI 0 = nI 0) && (!decide ((nI 8) < 0) && (Nat.ble (nI 8).toNatClampNeg 8 && Nat.ble (nI 8).toNatClampNeg 8)))) <|
  mv_bh (cp2 h7 307 o1 o0 (nI 8).toNatClampNeg 0) fun h8 =>
  mv_gd (decide (nI 0 = nI 0) && (decide (nI 0 = nI 0) && (!decide ((nI 8) < 0) && (Nat.ble (nI 8).toNatClampNeg 8 && Nat.ble (nI 8).toNatClampNeg 8)))) <|
  mv_bh (cp2 h8 308 o1 o0 (nI 8).toNatClampNeg 0) fun h9 =>
  mv_bh (wI2 h9 2 o0 9 (rI2 h9 2 o1 9)) fun h10 =>
  mv_bh (wI2 h10 2 o0 10 (rI2 h10 2 o1 10)) fun h11 =>
  mv_bh (wI2 h11 2 o0 11 (rI2 h11 2 o1 11)) fun h12 =>
  some ([], h12)) := rfl
set_option maxRecDepth 100000 in
set_option maxHeartbeats 8000000 in
theorem eM_vatOfToday (o0 : Nat) (h : H2) : mv_blk rI2 rR2 ln2 wI2 wR2 nw2 cp2 bod none tM_vatOfToday gM_vatOfToday 0 0 [] [] (fun _ _ _ _ _ _ => none) 400 tM_vatOfToday [(0, Sum.inr (2, o0))] [] h 0 0 = (
  mv_gd (!decide ((nI 6) = 0)) <|
  mv_gd (mv_inb ((rI2 h 2 o0 10) - (rI2 h 2 o0 10) / (nI 6) * (nI 6)) 6) <|
  some ([Sum.inl (Value.int (rI2 h 303 o0 ((rI2 h 2 o0 10) - (rI2 h 2 o0 10) / (nI 6) * (nI 6)).toNatClampNeg))], h)) := rfl
set_option maxRecDepth 100000 in
set_option maxHeartbeats 8000000 in
theorem eM_takes (o0 : Nat) (v1 : Int32) (v2 : Int32) (h : H2) : mv_blk rI2 rR2 ln2 wI2 wR2 nw2 cp2 bod none tM_takes gM_takes 0 0 [] [] (fun _ _ _ _ _ _ => none) 400 tM_takes [(0, Sum.inr (2, o0)), (1, Sum.inl (Value.int v1)), (2, Sum.inl (Value.int v2))] [] h 0 0 = (
  mv_gd (mv_inb v2 8) <|
  mv_gd (mv_inb (nI 0) 4) <|
  mv_bi ((rI2 h 302 o0 v2.toNatClampNeg) + (rI2 h 300 o0 (nI 0).toNatClampNeg)) fun x1 =>
  mv_gd (mv_inb v1 8) <|
  if (rI2 h 304 o0 v1.toNatClampNeg) = nI 1 then (
    some ([Sum.inl (Value.int (x1 + (nI 3)))], h))
  else
  if (rI2 h 304 o0 v1.toNatClampNeg) = nI 2 then (
    mv_gd (mv_inb (nI 1) 4) <|
    some ([Sum.inl (Value.int (x1 - (rI2 h 300 o0 (nI 1).toNatClampNeg)))], h))
  else
  if (rI2 h 304 o0 v1.toNatClampNeg) = nI 3 then (
    some ([Sum.inl (Value.int ((x1 + (nI 3)) * (nI 2)))], h))
  else
  if (rI2 h 304 o0 v1.toNatClampNeg) = nI 4 then (
    mv_gd (mv_inb (nI 1) 4) <|
    mv_gd (mv_inb (nI 2) 4) <|
    some ([Sum.inl (Value.int ((x1 - (rI2 h 300 o0 (nI 1).toNatClampNeg)) + (rI2 h 300 o0 (nI 2).toNatClampNeg)))], h))
  else
  if (rI2 h 304 o0 v1.toNatClampNeg) = nI 5 then (
    mv_gd (!decide ((nI 2) = 0)) <|
    some ([Sum.inl (Value.int (x1 / (nI 2)))], h))
  else
  some ([Sum.inl (Value.int x1)], h)) := rfl
set_option maxRecDepth 100000 in
set_option maxHeartbeats 8000000 in
theorem eM_fights (o0 : Nat) (v1 : Int32) (v2 : Int32) (h : H2) : mv_blk rI2 rR2 ln2 wI2 wR2 nw2 cp2 bod none tM_fights gM_fights 0 0 [] [] (fun _ _ _ _ _ _ => none) 400 tM_fights [(0, Sum.inr (2, o0)), (1, Sum.inl (Value.int v1)), (2, Sum.inl (Value.int v2))] [] h 0 0 = (
  mv_gd (mv_inb v2 8) <|
  mv_bi (rI2 h 302 o0 v2.toNatClampNeg) fun x1 =>
  mv_gd (mv_inb v1 8) <|
  if (rI2 h 304 o0 v1.toNatClampNeg) = nI 1 then (
    mv_gd (mv_inb (nI 2) 4) <|
    some ([Sum.inl (Value.int (x1 - (rI2 h 300 o0 (nI 2).toNatClampNeg)))], h))
  else
  if (rI2 h 304 o0 v1.toNatClampNeg) = nI 2 then (
    mv_gd (mv_inb (nI 2) 4) <|
    some ([Sum.inl (Value.int (x1 + (rI2 h 300 o0 (nI 2).toNatClampNeg)))], h))
  else
  if (rI2 h 304 o0 v1.toNatClampNeg) = nI 3 then (
    mv_gd (mv_inb (nI 2) 4) <|
    mv_gd (mv_inb (nI 0) 4) <|
    some ([Sum.inl (Value.int ((x1 - (rI2 h 300 o0 (nI 2).toNatClampNeg)) + (rI2 h 300 o0 (nI 0).toNatClampNeg)))], h))
  else
  if (rI2 h 304 o0 v1.toNatClampNeg) = nI 4 then (
    mv_gd (mv_inb (nI 2) 4) <|
    some ([Sum.inl (Value.int ((x1 + (rI2 h 300 o0 (nI 2).toNatClampNeg)) * (nI 2)))], h))
  else
  if (rI2 h 304 o0 v1.toNatClampNeg) = nI 5 then (
    some ([Sum.inl (Value.int (x1 + (nI 1)))], h))
  else
  some ([Sum.inl (Value.int x1)], h)) := rfl
set_option maxRecDepth 100000 in
set_option maxHeartbeats 8000000 in
theorem eM_settle (o0 : Nat) (v1 : Int32) (v2 : Int32) (h : H2) : mv_blk rI2 rR2 ln2 wI2 wR2 nw2 cp2 bod none tM_settle gM_settle 0 0 [] [] (fun _ _ _ _ _ _ => none) 400 tM_settle [(0, Sum.inr (2, o0)), (1, Sum.inl (Value.int v1)), (2, Sum.inl (Value.int v2))] [] h 0 0 = (
  if 0 < v2 then (
    if (nI 99) ≤ v2 then (
      mv_gd (mv_inb v1 8) <|
      mv_bh (wI2 h 306 o0 v1.toNatClampNeg (nI 99)) fun h1 =>
      some ([], h1))
    else
    mv_gd (mv_inb v1 8) <|
    mv_bh (wI2 h 306 o0 v1.toNatClampNeg v2) fun h2 =>
    some ([], h2))
  else
  mv_gd (mv_inb v1 8) <|
  mv_bh (wI2 h 306 o0 v1.toNatClampNeg (nI 0)) fun h3 =>
  mv_gd (mv_inb v1 8) <|
  mv_bh (wI2 h3 305 o0 v1.toNatClampNeg (-(nI 1))) fun h4 =>
  some ([], h4)) := rfl
set_option maxRecDepth 100000 in
set_option maxHeartbeats 8000000 in
theorem eM_dipInto_b84 (o0 : Nat) (v1 : Int32) (v2 : Int32) (v4 : Int32) (h : H2) : mv_blk rI2 rR2 ln2 wI2 wR2 nw2 cp2 bod none tM_dipInto gM_dipInto 0 0 [] [] (fun _ _ _ _ _ _ => none) 400 (mv_seek 84 tM_dipInto) [(0, Sum.inr (2, o0)), (1, Sum.inl (Value.int v1)), (2, Sum.inl (Value.int v2)), (4, Sum.inl (Value.int v4))] [] h 0 0 = (
  mv_rV (fM_settle o0 v1 v4 h) fun h1 =>
  mv_gd (mv_inb v1 8) <|
  if (nI 9999) ≤ (rI2 h1 308 o0 v1.toNatClampNeg) then (
    mv_gd (mv_inb v2 8) <|
    if (rI2 h1 302 o0 v2.toNatClampNeg) ≤ 0 then (
      some ([], h1))
    else
    mv_gd (mv_inb v2 8) <|
    mv_gd (mv_inb v2 8) <|
    mv_bh (wI2 h1 302 o0 v2.toNatClampNeg ((rI2 h1 302 o0 v2.toNatClampNeg) - (nI 1))) fun h2 =>
    some ([], h2))
  else
  mv_gd (mv_inb v1 8) <|
  mv_gd (mv_inb v1 8) <|
  mv_bh (wI2 h1 308 o0 v1.toNatClampNeg ((rI2 h1 308 o0 v1.toNatClampNeg) + (nI 1))) fun h3 =>
  mv_gd (mv_inb v2 8) <|
  if (rI2 h3 302 o0 v2.toNatClampNeg) ≤ 0 then (
    some ([], h3))
  else
  mv_gd (mv_inb v2 8) <|
  mv_gd (mv_inb v2 8) <|
  mv_bh (wI2 h3 302 o0 v2.toNatClampNeg ((rI2 h3 302 o0 v2.toNatClampNeg) - (nI 1))) fun h4 =>
  some ([], h4)) := rfl
set_option maxRecDepth 100000 in
set_option maxHeartbeats 8000000 in
theorem eM_dipInto_b27 (q84 : Nat → Int32 → Int32 → Int32 → H2 → O2) (o0 : Nat) (v1 : Int32) (v2 : Int32) (v3 : Int32) (h : H2) : mv_blk rI2 rR2 ln2 wI2 wR2 nw2 cp2 bod none tM_dipInto gM_dipInto 0 0 [] [84] (fun pc lv st h ce sl => mv_gd (Nat.beq ce 0 && Nat.beq sl 0) (cond (Nat.beq pc 84) (mv_gR 0 2 lv fun o0 => mv_gI 1 lv fun v1 => mv_gI 2 lv fun v2 => mv_gI 4 lv fun v4 => mv_sE st (q84 o0 v1 v2 v4 h)) (none))) 400 (mv_seek 27 tM_dipInto) [(0, Sum.inr (2, o0)), (1, Sum.inl (Value.int v1)), (2, Sum.inl (Value.int v2)), (3, Sum.inl (Value.int v3))] [] h 0 0 = (
  mv_gd (mv_inb v1 8) <|
  mv_bh (wI2 h 305 o0 v1.toNatClampNeg v3) fun h1 =>
  mv_gd (mv_inb v1 8) <|
  mv_rI (fM_takes o0 v1 v2 h1) fun r3 h2 =>
  mv_bi ((rI2 h1 306 o0 v1.toNatClampNeg) + r3) fun x4 =>
  q84 o0 v1 v2 x4 h2) := rfl
set_option maxRecDepth 100000 in
set_option maxHeartbeats 8000000 in
theorem eM_dipInto (q27 : Nat → Int32 → Int32 → Int32 → H2 → O2) (q84 : Nat → Int32 → Int32 → Int32 → H2 → O2) (o0 : Nat) (v1 : Int32) (v2 : Int32) (h : H2) : mv_blk rI2 rR2 ln2 wI2 wR2 nw2 cp2 bod none tM_dipInto gM_dipInto 0 0 [] [27, 84] (fun pc lv st h ce sl => mv_gd (Nat.beq ce 0 && Nat.beq sl 0) (cond (Nat.beq pc 27) (mv_gR 0 2 lv fun o0 => mv_gI 1 lv fun v1 => mv_gI 2 lv fun v2 => mv_gI 3 lv fun v3 => mv_sE st (q27 o0 v1 v2 v3 h)) (cond (Nat.beq pc 84) (mv_gR 0 2 lv fun o0 => mv_gI 1 lv fun v1 => mv_gI 2 lv fun v2 => mv_gI 4 lv fun v4 => mv_sE st (q84 o0 v1 v2 v4 h)) (none)))) 400 tM_dipInto [(0, Sum.inr (2, o0)), (1, Sum.inl (Value.int v1)), (2, Sum.inl (Value.int v2))] [] h 0 0 = (
  mv_gd (mv_inb v2 8) <|
  mv_bi (rI2 h 301 o0 v2.toNatClampNeg) fun x1 =>
  mv_gd (mv_inb v1 8) <|
  if (rI2 h 305 o0 v1.toNatClampNeg) = (-(nI 1)) then (
    q27 o0 v1 v2 x1 h)
  else
  mv_gd (mv_inb v1 8) <|
  if (rI2 h 305 o0 v1.toNatClampNeg) = x1 then (
    q27 o0 v1 v2 x1 h)
  else
  mv_gd (mv_inb v1 8) <|
  mv_rI (fM_fights o0 v1 v2 h) fun r3 h2 =>
  mv_bi ((rI2 h 306 o0 v1.toNatClampNeg) - r3) fun x4 =>
  if 0 ≤ x4 then (
    q84 o0 v1 v2 x4 h2)
  else
  mv_gd (mv_inb v1 8) <|
  mv_bh (wI2 h2 305 o0 v1.toNatClampNeg x1) fun h5 =>
  mv_bi (-x4) fun x6 =>
  q84 o0 v1 v2 x6 h5) := rfl
set_option maxRecDepth 100000 in
set_option maxHeartbeats 8000000 in
theorem eM_fades (o0 : Nat) (v1 : Int32) (h : H2) : mv_blk rI2 rR2 ln2 wI2 wR2 nw2 cp2 bod none tM_fades gM_fades 0 0 [] [] (fun _ _ _ _ _ _ => none) 400 tM_fades [(0, Sum.inr (2, o0)), (1, Sum.inl (Value.int v1))] [] h 0 0 = (
  mv_gd (mv_inb (nI 1) 4) <|
  mv_bi (rI2 h 300 o0 (nI 1).toNatClampNeg) fun x1 =>
  mv_gd (mv_inb v1 8) <|
  if (rI2 h 304 o0 v1.toNatClampNeg) = nI 1 then (
    some ([Sum.inl (Value.int (x1 - (nI 1)))], h))
  else
  if (rI2 h 304 o0 v1.toNatClampNeg) = nI 2 then (
    some ([Sum.inl (Value.int (x1 + (nI 1)))], h))
  else
  if (rI2 h 304 o0 v1.toNatClampNeg) = nI 3 then (
    some ([Sum.inl (Value.int (nI 0))], h))
  else
  if (rI2 h 304 o0 v1.toNatClampNeg) = nI 4 then (
    some ([Sum.inl (Value.int ((x1 + (nI 1)) * (nI 2)))], h))
  else
  if (rI2 h 304 o0 v1.toNatClampNeg) = nI 5 then (
    some ([Sum.inl (Value.int (x1 + (nI 3)))], h))
  else
  some ([Sum.inl (Value.int x1)], h)) := rfl
set_option maxRecDepth 100000 in
set_option maxHeartbeats 8000000 in
theorem eM_deepen (o0 : Nat) (v1 : Int32) (v2 : Int32) (h : H2) : mv_blk rI2 rR2 ln2 wI2 wR2 nw2 cp2 bod none tM_deepen gM_deepen 0 0 [] [] (fun _ _ _ _ _ _ => none) 400 tM_deepen [(0, Sum.inr (2, o0)), (1, Sum.inl (Value.int v1)), (2, Sum.inl (Value.int v2))] [] h 0 0 = (
  mv_gd (mv_inb v1 8) <|
  if (rI2 h 305 o0 v1.toNatClampNeg) = (-(nI 1)) then (
    some ([], h))
  else
  mv_rV (fM_settle o0 v1 v2 h) fun h1 =>
  some ([], h1)) := rfl
set_option maxRecDepth 100000 in
set_option maxHeartbeats 8000000 in
theorem eM_passDay_b86 (q86 : Nat → Int32 → H2 → O2) (o0 : Nat) (v2 : Int32) (h : H2) : mv_blk rI2 rR2 ln2 wI2 wR2 nw2 cp2 bod none tM_passDay gM_passDay 0 0 [] [86] (fun pc lv st h ce sl => mv_gd (Nat.beq ce 0 && Nat.beq sl 0) (cond (Nat.beq pc 86) (mv_gR 0 2 lv fun o0 => mv_gI 2 lv fun v2 => mv_sE st (q86 o0 v2 h)) (none))) 400 (mv_seek 86 tM_passDay) [(0, Sum.inr (2, o0)), (2, Sum.inl (Value.int v2))] [] h 0 0 = (
  if (nI 8) ≤ v2 then (
    mv_bh (wI2 h 2 o0 10 ((rI2 h 2 o0 10) + (nI 1))) fun h1 =>
    some ([], h1))
  else
  mv_gd (mv_inb v2 8) <|
  if (nI 9) ≤ (rI2 h 302 o0 v2.toNatClampNeg) then (
    mv_bi (v2 + (nI 1)) fun x2 =>
    q86 o0 x2 h)
  else
  mv_gd (mv_inb v2 8) <|
  mv_gd (mv_inb v2 8) <|
  mv_bh (wI2 h 302 o0 v2.toNatClampNeg ((rI2 h 302 o0 v2.toNatClampNeg) + (nI 1))) fun h3 =>
  mv_bi (v2 + (nI 1)) fun x4 =>
  q86 o0 x4 h3) := rfl
set_option maxRecDepth 100000 in
set_option maxHeartbeats 8000000 in
theorem eM_passDay_b43 (q43 : Nat → Int32 → H2 → O2) (q86 : Nat → Int32 → H2 → O2) (o0 : Nat) (v2 : Int32) (h : H2) : mv_blk rI2 rR2 ln2 wI2 wR2 nw2 cp2 bod none tM_passDay gM_passDay 0 0 [] [43, 86] (fun pc lv st h ce sl => mv_gd (Nat.beq ce 0 && Nat.beq sl 0) (cond (Nat.beq pc 43) (mv_gR 0 2 lv fun o0 => mv_gI 2 lv fun v2 => mv_sE st (q43 o0 v2 h)) (cond (Nat.beq pc 86) (mv_gR 0 2 lv fun o0 => mv_gI 2 lv fun v2 => mv_sE st (q86 o0 v2 h)) (none)))) 400 (mv_seek 43 tM_passDay) [(0, Sum.inr (2, o0)), (2, Sum.inl (Value.int v2))] [] h 0 0 = (
  if (rI2 h 2 o0 9) ≤ v2 then (
    mv_bi (nI 0) fun x1 =>
    q86 o0 x1 h)
  else
  mv_gd (mv_inb v2 8) <|
  if (rI2 h 307 o0 v2.toNatClampNeg) = (nI 1) then (
    mv_gd (mv_inb v2 8) <|
    mv_rI (fM_fades o0 v2 h) fun r3 h2 =>
    mv_rV (fM_deepen o0 v2 ((rI2 h 306 o0 v2.toNatClampNeg) - r3) h2) fun h4 =>
    mv_bi (v2 + (nI 1)) fun x5 =>
    q43 o0 x5 h4)
  else
  mv_bi (v2 + (nI 1)) fun x6 =>
  q43 o0 x6 h) := rfl
set_option maxRecDepth 100000 in
set_option maxHeartbeats 8000000 in
theorem eM_passDay_b7 (q7 : Nat → Int32 → Int32 → H2 → O2) (q43 : Nat → Int32 → H2 → O2) (o0 : Nat) (v1 : Int32) (v2 : Int32) (h : H2) : mv_blk rI2 rR2 ln2 wI2 wR2 nw2 cp2 bod none tM_passDay gM_passDay 0 0 [] [7, 43] (fun pc lv st h ce sl => mv_gd (Nat.beq ce 0 && Nat.beq sl 0) (cond (Nat.beq pc 7) (mv_gR 0 2 lv fun o0 => mv_gI 1 lv fun v1 => mv_gI 2 lv fun v2 => mv_sE st (q7 o0 v1 v2 h)) (cond (Nat.beq pc 43) (mv_gR 0 2 lv fun o0 => mv_gI 2 lv fun v2 => mv_sE st (q43 o0 v2 h)) (none)))) 400 (mv_seek 7 tM_passDay) [(0, Sum.inr (2, o0)), (1, Sum.inl (Value.int v1)), (2, Sum.inl (Value.int v2))] [] h 0 0 = (
  if (rI2 h 2 o0 9) ≤ v2 then (
    mv_bi (nI 0) fun x1 =>
    q43 o0 x1 h)
  else
  if v1 = (-(nI 1)) then (
    mv_bi (nI 0) fun x2 =>
    q43 o0 x2 h)
  else
  mv_gd (mv_inb v2 8) <|
  if (rI2 h 307 o0 v2.toNatClampNeg) = 0 then (
    mv_rV (fM_dipInto o0 v2 v1 h) fun h3 =>
    mv_bi (v2 + (nI 1)) fun x4 =>
    q7 o0 v1 x4 h3)
  else
  mv_bi (v2 + (nI 1)) fun x5 =>
  q7 o0 v1 x5 h) := rfl
set_option maxRecDepth 100000 in
set_option maxHeartbeats 8000000 in
theorem eM_passDay (q7 : Nat → Int32 → Int32 → H2 → O2) (o0 : Nat) (h : H2) : mv_blk rI2 rR2 ln2 wI2 wR2 nw2 cp2 bod none tM_passDay gM_passDay 0 0 [] [7] (fun pc lv st h ce sl => mv_gd (Nat.beq ce 0 && Nat.beq sl 0) (cond (Nat.beq pc 7) (mv_gR 0 2 lv fun o0 => mv_gI 1 lv fun v1 => mv_gI 2 lv fun v2 => mv_sE st (q7 o0 v1 v2 h)) (none))) 400 tM_passDay [(0, Sum.inr (2, o0))] [] h 0 0 = (
  mv_rI (fM_vatOfToday o0 h) fun r2 h1 =>
  mv_bi r2 fun x3 =>
  mv_bi (nI 0) fun x4 =>
  q7 o0 x3 x4 h1) := rfl
set_option maxRecDepth 100000 in
set_option maxHeartbeats 8000000 in
theorem eM_passDays_b2 (q2 : Nat → Int32 → Int32 → H2 → O2) (o0 : Nat) (v1 : Int32) (v2 : Int32) (h : H2) : mv_blk rI2 rR2 ln2 wI2 wR2 nw2 cp2 bod none tM_passDays gM_passDays 0 0 [] [2] (fun pc lv st h ce sl => mv_gd (Nat.beq ce 0 && Nat.beq sl 0) (cond (Nat.beq pc 2) (mv_gR 0 2 lv fun o0 => mv_gI 1 lv fun v1 => mv_gI 2 lv fun v2 => mv_sE st (q2 o0 v1 v2 h)) (none))) 400 (mv_seek 2 tM_passDays) [(0, Sum.inr (2, o0)), (1, Sum.inl (Value.int v1)), (2, Sum.inl (Value.int v2))] [] h 0 0 = (
  if v1 ≤ v2 then (
    some ([], h))
  else
  mv_rV (fM_passDay o0 h) fun h1 =>
  mv_bi (v2 + (nI 1)) fun x2 =>
  q2 o0 v1 x2 h1) := rfl
set_option maxRecDepth 100000 in
set_option maxHeartbeats 8000000 in
theorem eM_passDays (q2 : Nat → Int32 → Int32 → H2 → O2) (o0 : Nat) (v1 : Int32) (h : H2) : mv_blk rI2 rR2 ln2 wI2 wR2 nw2 cp2 bod none tM_passDays gM_passDays 0 0 [] [2] (fun pc lv st h ce sl => mv_gd (Nat.beq ce 0 && Nat.beq sl 0) (cond (Nat.beq pc 2) (mv_gR 0 2 lv fun o0 => mv_gI 1 lv fun v1 => mv_gI 2 lv fun v2 => mv_sE st (q2 o0 v1 v2 h)) (none))) 400 tM_passDays [(0, Sum.inr (2, o0)), (1, Sum.inl (Value.int v1))] [] h 0 0 = (
  mv_bi (nI 0) fun x1 =>
  q2 o0 v1 x1 h) := rfl
set_option maxRecDepth 100000 in
set_option maxHeartbeats 8000000 in
theorem eM_allDepths_b4 (q4 : Nat → Int32 → Int32 → H2 → O2) (o0 : Nat) (v1 : Int32) (v2 : Int32) (h : H2) : mv_blk rI2 rR2 ln2 wI2 wR2 nw2 cp2 bod none tM_allDepths gM_allDepths 0 0 [] [4] (fun pc lv st h ce sl => mv_gd (Nat.beq ce 0 && Nat.beq sl 0) (cond (Nat.beq pc 4) (mv_gR 0 2 lv fun o0 => mv_gI 1 lv fun v1 => mv_gI 2 lv fun v2 => mv_sE st (q4 o0 v1 v2 h)) (none))) 400 (mv_seek 4 tM_allDepths) [(0, Sum.inr (2, o0)), (1, Sum.inl (Value.int v1)), (2, Sum.inl (Value.int v2))] [] h 0 0 = (
  if (rI2 h 2 o0 9) ≤ v2 then (
    some ([Sum.inl (Value.int v1)], h))
  else
  mv_gd (mv_inb v2 8) <|
  mv_bi (v1 + (rI2 h 306 o0 v2.toNatClampNeg)) fun x1 =>
  mv_bi (v2 + (nI 1)) fun x2 =>
  q4 o0 x1 x2 h) := rfl
set_option maxRecDepth 100000 in
set_option maxHeartbeats 8000000 in
theorem eM_allDepths (q4 : Nat → Int32 → Int32 → H2 → O2) (o0 : Nat) (h : H2) : mv_blk rI2 rR2 ln2 wI2 wR2 nw2 cp2 bod none tM_allDepths gM_allDepths 0 0 [] [4] (fun pc lv st h ce sl => mv_gd (Nat.beq ce 0 && Nat.beq sl 0) (cond (Nat.beq pc 4) (mv_gR 0 2 lv fun o0 => mv_gI 1 lv fun v1 => mv_gI 2 lv fun v2 => mv_sE st (q4 o0 v1 v2 h)) (none))) 400 tM_allDepths [(0, Sum.inr (2, o0))] [] h 0 0 = (
  mv_bi (nI 0) fun x1 =>
  mv_bi (nI 0) fun x2 =>
  q4 o0 x1 x2 h) := rfl
set_option maxRecDepth 100000 in
set_option maxHeartbeats 8000000 in
theorem eM_draw (o0 : Nat) (h : H2) : mv_blk rI2 rR2 ln2 wI2 wR2 nw2 cp2 bod none tM_draw gM_draw 0 0 [] [] (fun _ _ _ _ _ _ => none) 400 tM_draw [(0, Sum.inr (2, o0))] [] h 0 0 = (
  mv_bh (wI2 h 2 o0 11 (((rI2 h 2 o0 11) * (nI 1103515245)) + (nI 12345))) fun h1 =>
  some ([Sum.inl (Value.int (((rI2 h1 2 o0 11).toUInt32 >>> ((nI 16).toUInt32 &&& Int32.toUInt32 31)).toInt32))], h1)) := rfl
set_option maxRecDepth 100000 in
set_option maxHeartbeats 8000000 in
theorem eM_passDrawnDay (o0 : Nat) (h : H2) : mv_blk rI2 rR2 ln2 wI2 wR2 nw2 cp2 bod none tM_passDrawnDay gM_passDrawnDay 0 0 [] [] (fun _ _ _ _ _ _ => none) 400 tM_passDrawnDay [(0, Sum.inr (2, o0))] [] h 0 0 = (
  if (rI2 h 2 o0 9) ≤ 0 then (
    mv_rV (fM_passDay o0 h) fun h1 =>
    some ([], h1))
  else
  mv_rI (fM_draw o0 h) fun r3 h2 =>
  mv_gd (!decide ((rI2 h2 2 o0 9) = 0)) <|
  mv_bi (r3 - r3 / (rI2 h2 2 o0 9) * (rI2 h2 2 o0 9)) fun x4 =>
  mv_rI (fM_draw o0 h2) fun r6 h5 =>
  mv_gd (!decide ((nI 100) = 0)) <|
  mv_gd (mv_inb (nI 3) 4) <|
  if (rI2 h5 300 o0 (nI 3).toNatClampNeg) ≤ (r6 - r6 / (nI 100) * (nI 100)) then (
    mv_rV (fM_passDay o0 h5) fun h7 =>
    some ([], h7))
  else
  mv_rI (fM_draw o0 h5) fun r9 h8 =>
  mv_gd (!decide ((nI 8) = 0)) <|
  mv_rV (fM_dipInto o0 x4 (r9 - r9 / (nI 8) * (nI 8)) h8) fun h10 =>
  mv_rV (fM_passDay o0 h10) fun h11 =>
  some ([], h11)) := rfl
set_option maxRecDepth 100000 in
set_option maxHeartbeats 8000000 in
theorem eM_becomeFirst_b59 (q59 : Nat → Int32 → H2 → O2) (o0 : Nat) (v1 : Int32) (h : H2) : mv_blk rI2 rR2 ln2 wI2 wR2 nw2 cp2 bod none tM_becomeFirst gM_becomeFirst 0 0 [] [59] (fun pc lv st h ce sl => mv_gd (Nat.beq ce 0 && Nat.beq sl 0) (cond (Nat.beq pc 59) (mv_gR 0 2 lv fun o0 => mv_gI 1 lv fun v1 => mv_sE st (q59 o0 v1 h)) (none))) 400 (mv_seek 59 tM_becomeFirst) [(0, Sum.inr (2, o0)), (1, Sum.inl (Value.int v1))] [] h 0 0 = (
  if (nI 6) ≤ v1 then (
    mv_bh (wI2 h 2 o0 9 (nI 0)) fun h1 =>
    mv_bh (wI2 h1 2 o0 10 (nI 0)) fun h2 =>
    some ([], h2))
  else
  mv_gd (mv_inb v1 6) <|
  mv_bh (wI2 h 303 o0 v1.toNatClampNeg v1) fun h3 =>
  mv_bi (v1 + (nI 1)) fun x4 =>
  q59 o0 x4 h3) := rfl
set_option maxRecDepth 100000 in
set_option maxHeartbeats 8000000 in
theorem eM_becomeFirst_b31 (q31 : Nat → Int32 → H2 → O2) (q59 : Nat → Int32 → H2 → O2) (o0 : Nat) (v1 : Int32) (h : H2) : mv_blk rI2 rR2 ln2 wI2 wR2 nw2 cp2 bod none tM_becomeFirst gM_becomeFirst 0 0 [] [31, 59] (fun pc lv st h ce sl => mv_gd (Nat.beq ce 0 && Nat.beq sl 0) (cond (Nat.beq pc 31) (mv_gR 0 2 lv fun o0 => mv_gI 1 lv fun v1 => mv_sE st (q31 o0 v1 h)) (cond (Nat.beq pc 59) (mv_gR 0 2 lv fun o0 => mv_gI 1 lv fun v1 => mv_sE st (q59 o0 v1 h)) (none)))) 400 (mv_seek 31 tM_becomeFirst) [(0, Sum.inr (2, o0)), (1, Sum.inl (Value.int v1))] [] h 0 0 = (
  if (nI 8) ≤ v1 then (
    mv_bi (nI 0) fun x1 =>
    q59 o0 x1 h)
  else
  mv_gd (mv_inb v1 8) <|
  mv_bh (wI2 h 301 o0 v1.toNatClampNeg v1) fun h2 =>
  mv_gd (mv_inb v1 8) <|
  mv_bh (wI2 h2 302 o0 v1.toNatClampNeg (nI 5)) fun h3 =>
  mv_bi (v1 + (nI 1)) fun x4 =>
  q31 o0 x4 h3) := rfl
set_option maxRecDepth 100000 in
set_option maxHeartbeats 8000000 in
theorem eM_becomeFirst (q31 : Nat → Int32 → H2 → O2) (o0 : Nat) (h : H2) : mv_blk rI2 rR2 ln2 wI2 wR2 nw2 cp2 bod none tM_becomeFirst gM_becomeFirst 0 0 [] [31] (fun pc lv st h ce sl => mv_gd (Nat.beq ce 0 && Nat.beq sl 0) (cond (Nat.beq pc 31) (mv_gR 0 2 lv fun o0 => mv_gI 1 lv fun v1 => mv_sE st (q31 o0 v1 h)) (none))) 400 tM_becomeFirst [(0, Sum.inr (2, o0))] [] h 0 0 = (
  mv_gd (mv_inb (nI 0) 4) <|
  mv_bh (wI2 h 300 o0 (nI 0).toNatClampNeg (nI 3)) fun h1 =>
  mv_gd (mv_inb (nI 1) 4) <|
  mv_bh (wI2 h1 300 o0 (nI 1).toNatClampNeg (nI 2)) fun h2 =>
  mv_gd (mv_inb (nI 2) 4) <|
  mv_bh (wI2 h2 300 o0 (nI 2).toNatClampNeg (nI 4)) fun h3 =>
  mv_gd (mv_inb (nI 3) 4) <|
  mv_bh (wI2 h3 300 o0 (nI 3).toNatClampNeg (nI 20)) fun h4 =>
  mv_bi (nI 0) fun x5 =>
  q31 o0 x5 h4) := rfl
set_option maxRecDepth 100000 in
set_option maxHeartbeats 8000000 in
theorem eM_has (o0 : Nat) (v1 : Int32) (h : H2) : mv_blk rI2 rR2 ln2 wI2 wR2 nw2 cp2 bod none tM_has gM_has 0 0 [] [] (fun _ _ _ _ _ _ => none) 400 tM_has [(0, Sum.inr (2, o0)), (1, Sum.inl (Value.int v1))] [] h 0 0 = (
  mv_rI (fV_isIn v1 (nI 0) ((rI2 h 2 o0 9) - (nI 1)) h) fun r2 h1 =>
  mv_gd (decide (r2 = nI 0) || decide (r2 = nI 1)) <| some ([Sum.inl (Value.int r2)], h1)) := rfl
set_option maxRecDepth 100000 in
set_option maxHeartbeats 8000000 in
theorem eM_addCloth (o0 : Nat) (v1 : Int32) (h : H2) : mv_blk rI2 rR2 ln2 wI2 wR2 nw2 cp2 bod none tM_addCloth gM_addCloth 0 0 [] [] (fun _ _ _ _ _ _ => none) 400 tM_addCloth [(0, Sum.inr (2, o0)), (1, Sum.inl (Value.int v1))] [] h 0 0 = (
  mv_bi (rI2 h 2 o0 9) fun x1 =>
  mv_gd (mv_inb x1 8) <|
  mv_bh (wI2 h 304 o0 x1.toNatClampNeg v1) fun h2 =>
  mv_gd (mv_inb x1 8) <|
  mv_bh (wI2 h2 305 o0 x1.toNatClampNeg (-(nI 1))) fun h3 =>
  mv_gd (mv_inb x1 8) <|
  mv_bh (wI2 h3 306 o0 x1.toNatClampNeg (nI 0)) fun h4 =>
  mv_gd (mv_inb x1 8) <|
  mv_bh (wI2 h4 307 o0 x1.toNatClampNeg (nI 0)) fun h5 =>
  mv_gd (mv_inb x1 8) <|
  mv_bh (wI2 h5 308 o0 x1.toNatClampNeg (nI 0)) fun h6 =>
  mv_bh (wI2 h6 2 o0 9 ((rI2 h6 2 o0 9) + (nI 1))) fun h7 =>
  some ([Sum.inl (Value.int x1)], h7)) := rfl
set_option maxRecDepth 100000 in
set_option maxHeartbeats 8000000 in
theorem eM_hungSet_b4 (q4 : Nat → Int32 → Int32 → H2 → O2) (o0 : Nat) (v1 : Int32) (v2 : Int32) (h : H2) : mv_blk rI2 rR2 ln2 wI2 wR2 nw2 cp2 bod none tM_hungSet gM_hungSet 0 0 [] [4] (fun pc lv st h ce sl => mv_gd (Nat.beq ce 0 && Nat.beq sl 0) (cond (Nat.beq pc 4) (mv_gR 0 2 lv fun o0 => mv_gI 1 lv fun v1 => mv_gI 2 lv fun v2 => mv_sE st (q4 o0 v1 v2 h)) (none))) 400 (mv_seek 4 tM_hungSet) [(0, Sum.inr (2, o0)), (1, Sum.inl (Value.int v1)), (2, Sum.inl (Value.int v2))] [] h 0 0 = (
  if (rI2 h 2 o0 9) ≤ v2 then (
    some ([Sum.inl (Value.int v1)], h))
  else
  mv_gd (mv_inb v2 8) <|
  if (rI2 h 307 o0 v2.toNatClampNeg) = (nI 1) then (
    mv_bi (v1 ||| ((nI 1) <<< (v2 &&& 31))) fun x1 =>
    mv_bi (v2 + (nI 1)) fun x2 =>
    q4 o0 x1 x2 h)
  else
  mv_bi (v2 + (nI 1)) fun x3 =>
  q4 o0 v1 x3 h) := rfl
set_option maxRecDepth 100000 in
set_option maxHeartbeats 8000000 in
theorem eM_hungSet (q4 : Nat → Int32 → Int32 → H2 → O2) (o0 : Nat) (h : H2) : mv_blk rI2 rR2 ln2 wI2 wR2 nw2 cp2 bod none tM_hungSet gM_hungSet 0 0 [] [4] (fun pc lv st h ce sl => mv_gd (Nat.beq ce 0 && Nat.beq sl 0) (cond (Nat.beq pc 4) (mv_gR 0 2 lv fun o0 => mv_gI 1 lv fun v1 => mv_gI 2 lv fun v2 => mv_sE st (q4 o0 v1 v2 h)) (none))) 400 tM_hungSet [(0, Sum.inr (2, o0))] [] h 0 0 = (
  mv_bi (nI 0) fun x1 =>
  mv_bi (nI 0) fun x2 =>
  q4 o0 x1 x2 h) := rfl
set_option maxRecDepth 100000 in
set_option maxHeartbeats 8000000 in
theorem eM_aboutSet_b4 (q4 : Nat → Int32 → Int32 → H2 → O2) (o0 : Nat) (v1 : Int32) (v2 : Int32) (h : H2) : mv_blk rI2 rR2 ln2 wI2 wR2 nw2 cp2 bod none tM_aboutSet gM_aboutSet 0 0 [] [4] (fun pc lv st h ce sl => mv_gd (Nat.beq ce 0 && Nat.beq sl 0) (cond (Nat.beq pc 4) (mv_gR 0 2 lv fun o0 => mv_gI 1 lv fun v1 => mv_gI 2 lv fun v2 => mv_sE st (q4 o0 v1 v2 h)) (none))) 400 (mv_seek 4 tM_aboutSet) [(0, Sum.inr (2, o0)), (1, Sum.inl (Value.int v1)), (2, Sum.inl (Value.int v2))] [] h 0 0 = (
  if (rI2 h 2 o0 9) ≤ v2 then (
    some ([Sum.inl (Value.int v1)], h))
  else
  mv_gd (mv_inb v2 8) <|
  if (rI2 h 305 o0 v2.toNatClampNeg) = (-(nI 1)) then (
    mv_bi (v2 + (nI 1)) fun x1 =>
    q4 o0 v1 x1 h)
  else
  mv_bi (v1 ||| ((nI 1) <<< (v2 &&& 31))) fun x2 =>
  mv_bi (v2 + (nI 1)) fun x3 =>
  q4 o0 x2 x3 h) := rfl
set_option maxRecDepth 100000 in
set_option maxHeartbeats 8000000 in
theorem eM_aboutSet (q4 : Nat → Int32 → Int32 → H2 → O2) (o0 : Nat) (h : H2) : mv_blk rI2 rR2 ln2 wI2 wR2 nw2 cp2 bod none tM_aboutSet gM_aboutSet 0 0 [] [4] (fun pc lv st h ce sl => mv_gd (Nat.beq ce 0 && Nat.beq sl 0) (cond (Nat.beq pc 4) (mv_gR 0 2 lv fun o0 => mv_gI 1 lv fun v1 => mv_gI 2 lv fun v2 => mv_sE st (q4 o0 v1 v2 h)) (none))) 400 tM_aboutSet [(0, Sum.inr (2, o0))] [] h 0 0 = (
  mv_bi (nI 0) fun x1 =>
  mv_bi (nI 0) fun x2 =>
  q4 o0 x1 x2 h) := rfl
set_option maxRecDepth 100000 in
set_option maxHeartbeats 8000000 in
theorem eM_purposeSet_b4 (q4 : Nat → Int32 → Int32 → H2 → O2) (o0 : Nat) (v1 : Int32) (v2 : Int32) (h : H2) : mv_blk rI2 rR2 ln2 wI2 wR2 nw2 cp2 bod none tM_purposeSet gM_purposeSet 0 0 [] [4] (fun pc lv st h ce sl => mv_gd (Nat.beq ce 0 && Nat.beq sl 0) (cond (Nat.beq pc 4) (mv_gR 0 2 lv fun o0 => mv_gI 1 lv fun v1 => mv_gI 2 lv fun v2 => mv_sE st (q4 o0 v1 v2 h)) (none))) 400 (mv_seek 4 tM_purposeSet) [(0, Sum.inr (2, o0)), (1, Sum.inl (Value.int v1)), (2, Sum.inl (Value.int v2))] [] h 0 0 = (
  if (rI2 h 2 o0 9) ≤ v2 then (
    some ([Sum.inl (Value.int v1)], h))
  else
  mv_gd (mv_inb v2 8) <|
  if (rI2 h 305 o0 v2.toNatClampNeg) = (-(nI 1)) then (
    mv_bi (v2 + (nI 1)) fun x1 =>
    q4 o0 v1 x1 h)
  else
  mv_gd (mv_inb v2 8) <|
  mv_bi (v1 ||| ((nI 1) <<< ((rI2 h 305 o0 v2.toNatClampNeg) &&& 31))) fun x2 =>
  mv_bi (v2 + (nI 1)) fun x3 =>
  q4 o0 x2 x3 h) := rfl
set_option maxRecDepth 100000 in
set_option maxHeartbeats 8000000 in
theorem eM_purposeSet (q4 : Nat → Int32 → Int32 → H2 → O2) (o0 : Nat) (h : H2) : mv_blk rI2 rR2 ln2 wI2 wR2 nw2 cp2 bod none tM_purposeSet gM_purposeSet 0 0 [] [4] (fun pc lv st h ce sl => mv_gd (Nat.beq ce 0 && Nat.beq sl 0) (cond (Nat.beq pc 4) (mv_gR 0 2 lv fun o0 => mv_gI 1 lv fun v1 => mv_gI 2 lv fun v2 => mv_sE st (q4 o0 v1 v2 h)) (none))) 400 tM_purposeSet [(0, Sum.inr (2, o0))] [] h 0 0 = (
  mv_bi (nI 0) fun x1 =>
  mv_bi (nI 0) fun x2 =>
  q4 o0 x1 x2 h) := rfl
set_option maxRecDepth 100000 in
set_option maxHeartbeats 8000000 in
theorem eM_isForOdds (o0 : Nat) (v1 : Int32) (h : H2) : mv_blk rI2 rR2 ln2 wI2 wR2 nw2 cp2 bod none tM_isForOdds gM_isForOdds 0 0 [] [] (fun _ _ _ _ _ _ => none) 400 tM_isForOdds [(0, Sum.inr (2, o0)), (1, Sum.inl (Value.int v1))] [] h 0 0 = (
  mv_gd (mv_inb v1 8) <|
  if (rI2 h 307 o0 v1.toNatClampNeg) = 0 then (
    mv_gd (mv_inb v1 8) <|
    if (rI2 h 305 o0 v1.toNatClampNeg) = (-(nI 1)) then (
      mv_gd (decide (nI 0 = nI 0) || decide (nI 0 = nI 1)) <| some ([Sum.inl (Value.int (nI 0))], h))
    else
    mv_gd (decide (nI 1 = nI 0) || decide (nI 1 = nI 1)) <| some ([Sum.inl (Value.int (nI 1))], h))
  else
  mv_gd (decide (nI 0 = nI 0) || decide (nI 0 = nI 1)) <| some ([Sum.inl (Value.int (nI 0))], h)) := rfl
set_option maxRecDepth 100000 in
set_option maxHeartbeats 8000000 in
theorem eM_oddPairs_b16 (q4 : Nat → Int32 → Int32 → H2 → O2) (q16 : Nat → Int32 → Int32 → Int32 → H2 → O2) (o0 : Nat) (v1 : Int32) (v2 : Int32) (v3 : Int32) (h : H2) : mv_blk rI2 rR2 ln2 wI2 wR2 nw2 cp2 bod none tM_oddPairs gM_oddPairs 0 0 [] [4, 16] (fun pc lv st h ce sl => mv_gd (Nat.beq ce 0 && Nat.beq sl 0) (cond (Nat.beq pc 4) (mv_gR 0 2 lv fun o0 => mv_gI 1 lv fun v1 => mv_gI 2 lv fun v2 => mv_sE st (q4 o0 v1 v2 h)) (cond (Nat.beq pc 16) (mv_gR 0 2 lv fun o0 => mv_gI 1 lv fun v1 => mv_gI 2 lv fun v2 => mv_gI 3 lv fun v3 => mv_sE st (q16 o0 v1 v2 v3 h)) (none)))) 400 (mv_seek 16 tM_oddPairs) [(0, Sum.inr (2, o0)), (1, Sum.inl (Value.int v1)), (2, Sum.inl (Value.int v2)), (3, Sum.inl (Value.int v3))] [] h 0 0 = (
  if (rI2 h 2 o0 9) ≤ v3 then (
    mv_bi (v2 + (nI 1)) fun x1 =>
    q4 o0 v1 x1 h)
  else
  mv_gd (mv_inb v2 8) <|
  mv_gd (mv_inb v3 8) <|
  if (rI2 h 305 o0 v2.toNatClampNeg) = (rI2 h 305 o0 v3.toNatClampNeg) then (
    mv_bi (v3 + (nI 1)) fun x2 =>
    q16 o0 v1 v2 x2 h)
  else
  mv_rI (fM_isForOdds o0 v2 h) fun r4 h3 =>
  if r4 = 0 then (
    mv_bi (v3 + (nI 1)) fun x5 =>
    q16 o0 v1 v2 x5 h3)
  else
  mv_rI (fM_isForOdds o0 v3 h3) fun r7 h6 =>
  if r7 = 0 then (
    mv_bi (v3 + (nI 1)) fun x8 =>
    q16 o0 v1 v2 x8 h6)
  else
  mv_bi (v1 + (nI 1)) fun x9 =>
  mv_bi (v3 + (nI 1)) fun x10 =>
  q16 o0 x9 v2 x10 h6) := rfl
set_option maxRecDepth 100000 in
set_option maxHeartbeats 8000000 in
theorem eM_oddPairs_b4 (q16 : Nat → Int32 → Int32 → Int32 → H2 → O2) (o0 : Nat) (v1 : Int32) (v2 : Int32) (h : H2) : mv_blk rI2 rR2 ln2 wI2 wR2 nw2 cp2 bod none tM_oddPairs gM_oddPairs 0 0 [] [16] (fun pc lv st h ce sl => mv_gd (Nat.beq ce 0 && Nat.beq sl 0) (cond (Nat.beq pc 16) (mv_gR 0 2 lv fun o0 => mv_gI 1 lv fun v1 => mv_gI 2 lv fun v2 => mv_gI 3 lv fun v3 => mv_sE st (q16 o0 v1 v2 v3 h)) (none))) 400 (mv_seek 4 tM_oddPairs) [(0, Sum.inr (2, o0)), (1, Sum.inl (Value.int v1)), (2, Sum.inl (Value.int v2))] [] h 0 0 = (
  if (rI2 h 2 o0 9) ≤ v2 then (
    some ([Sum.inl (Value.int v1)], h))
  else
  mv_bi (v2 + (nI 1)) fun x1 =>
  q16 o0 v1 v2 x1 h) := rfl
set_option maxRecDepth 100000 in
set_option maxHeartbeats 8000000 in
theorem eM_oddPairs (q4 : Nat → Int32 → Int32 → H2 → O2) (o0 : Nat) (h : H2) : mv_blk rI2 rR2 ln2 wI2 wR2 nw2 cp2 bod none tM_oddPairs gM_oddPairs 0 0 [] [4] (fun pc lv st h ce sl => mv_gd (Nat.beq ce 0 && Nat.beq sl 0) (cond (Nat.beq pc 4) (mv_gR 0 2 lv fun o0 => mv_gI 1 lv fun v1 => mv_gI 2 lv fun v2 => mv_sE st (q4 o0 v1 v2 h)) (none))) 400 tM_oddPairs [(0, Sum.inr (2, o0))] [] h 0 0 = (
  mv_bi (nI 0) fun x1 =>
  mv_bi (nI 0) fun x2 =>
  q4 o0 x1 x2 h) := rfl
