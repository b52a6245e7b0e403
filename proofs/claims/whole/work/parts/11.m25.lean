set_option maxRecDepth 100000 in
theorem kN_mill : mv_tok mdN_mill nN_mill tN_mill = true := by decide +kernel
def cN_anewG_N_mill (F1 : Nat → H2 → O2) : List mv_V → H2 → (List mv_V → H2 → O2) → O2 := fun as h k => match as with
  | [.inr (t0, o0)] => mv_gd (Nat.beq t0 8) <| mv_rV (F1 o0 h) fun h => k [] h
  | _ => none
def cN_itemG_N_mill (F2 : Nat → H2 → O2) : List mv_V → H2 → (List mv_V → H2 → O2) → O2 := fun as h k => match as with
  | [.inr (t0, o0)] => mv_gd (Nat.beq t0 8) <| mv_rV (F2 o0 h) fun h => k [] h
  | _ => none
def cN_laysBackG_N_mill (F3 : Nat → H2 → O2) : List mv_V → H2 → (List mv_V → H2 → O2) → O2 := fun as h k => match as with
  | [.inr (t0, o0)] => mv_gd (Nat.beq t0 8) <| mv_rV (F3 o0 h) fun h => k [] h
  | _ => none
def cN_lendsG_N_mill (F4 : Nat → H2 → O2) : List mv_V → H2 → (List mv_V → H2 → O2) → O2 := fun as h k => match as with
  | [.inr (t0, o0)] => mv_gd (Nat.beq t0 8) <| mv_rV (F4 o0 h) fun h => k [] h
  | _ => none
def cN_nextG_N_mill (F5 : Nat → H2 → O2) : List mv_V → H2 → (List mv_V → H2 → O2) → O2 := fun as h k => match as with
  | [.inr (t0, o0)] => mv_gd (Nat.beq t0 8) <| mv_rV (F5 o0 h) fun h => k [] h
  | _ => none
set_option maxRecDepth 100000 in
set_option maxHeartbeats 1000000 in
theorem eN_mill_b47_g (F1 : Nat → H2 → O2) (F2 : Nat → H2 → O2) (F3 : Nat → H2 → O2) (F4 : Nat → H2 → O2) (F5 : Nat → H2 → O2) (o0 : Nat) (h : H2) : mv_blk rI2 rR2 ln2 wI2 wR2 nw2 cp2 bod none tN_mill [((0, 0), cN_lendsG_N_mill F4), ((0, 0), cN_anewG_N_mill F1), ((0, 0), cN_nextG_N_mill F5), ((0, 0), cN_itemG_N_mill F2), ((0, 0), cN_laysBackG_N_mill F3)] 0 0 [] (fun _ _ _ _ _ _ => none) 400 (mv_seek 47 tN_mill) [(0, Sum.inr (8, o0))] [] h 0 0 = (
  mv_bh (wI2 h 8 o0 7 (nI 0)) fun h1 =>
  if (rI2 h1 8 o0 10) = 0 then (
    mv_bh (wI2 h1 8 o0 12 (nI 0)) fun h2 =>
    mv_gd (mv_inb (nI 6) 69) <|
    some ([Sum.inl (Value.int (rI2 h2 902 o0 (nI 6).toNatClampNeg))], h2))
  else
  mv_rV (F3 o0 h1) fun h3 =>
  some ([Sum.inl (Value.int ((-(nI 100)) - (rI2 h3 8 o0 8)))], h3)) := rfl
theorem eN_mill_b47 (o0 : Nat) (h : H2) : mv_blk rI2 rR2 ln2 wI2 wR2 nw2 cp2 bod none tN_mill gN_mill 0 0 [] (fun _ _ _ _ _ _ => none) 400 (mv_seek 47 tN_mill) [(0, Sum.inr (8, o0))] [] h 0 0 = (
  mv_bh (wI2 h 8 o0 7 (nI 0)) fun h1 =>
  if (rI2 h1 8 o0 10) = 0 then (
    mv_bh (wI2 h1 8 o0 12 (nI 0)) fun h2 =>
    mv_gd (mv_inb (nI 6) 69) <|
    some ([Sum.inl (Value.int (rI2 h2 902 o0 (nI 6).toNatClampNeg))], h2))
  else
  mv_rV (fN_laysBack o0 h1) fun h3 =>
  some ([Sum.inl (Value.int ((-(nI 100)) - (rI2 h3 8 o0 8)))], h3)) := eN_mill_b47_g fN_anew fN_item fN_laysBack fN_lends fN_next o0 h
set_option maxRecDepth 100000 in
set_option maxHeartbeats 1000000 in
theorem eN_mill_b22_g (F1 : Nat → H2 → O2) (F2 : Nat → H2 → O2) (F3 : Nat → H2 → O2) (F4 : Nat → H2 → O2) (F5 : Nat → H2 → O2) (q22 : Nat → H2 → O2) (q47 : Nat → H2 → O2) (o0 : Nat) (h : H2) : mv_blk rI2 rR2 ln2 wI2 wR2 nw2 cp2 bod none tN_mill [((0, 0), cN_lendsG_N_mill F4), ((0, 0), cN_anewG_N_mill F1), ((0, 0), cN_nextG_N_mill F5), ((0, 0), cN_itemG_N_mill F2), ((0, 0), cN_laysBackG_N_mill F3)] 0 0 [22, 47] (fun pc lv st h ce sl => mv_gd (Nat.beq ce 0 && Nat.beq sl 0) (cond (Nat.beq pc 22) (mv_gR 0 8 lv fun o0 => mv_sE st (q22 o0 h)) (cond (Nat.beq pc 47) (mv_gR 0 8 lv fun o0 => mv_sE st (q47 o0 h)) (none)))) 400 (mv_seek 22 tN_mill) [(0, Sum.inr (8, o0))] [] h 0 0 = (
  if (rI2 h 8 o0 10) = 0 then (
    if (rI2 h 8 o0 7) ≤ (rI2 h 8 o0 8) then (
      q47 o0 h)
    else
    mv_rV (F2 o0 h) fun h1 =>
    q22 o0 h1)
  else
  q47 o0 h) := rfl
theorem eN_mill_b22 (q22 : Nat → H2 → O2) (q47 : Nat → H2 → O2) (o0 : Nat) (h : H2) : mv_blk rI2 rR2 ln2 wI2 wR2 nw2 cp2 bod none tN_mill gN_mill 0 0 [22, 47] (fun pc lv st h ce sl => mv_gd (Nat.beq ce 0 && Nat.beq sl 0) (cond (Nat.beq pc 22) (mv_gR 0 8 lv fun o0 => mv_sE st (q22 o0 h)) (cond (Nat.beq pc 47) (mv_gR 0 8 lv fun o0 => mv_sE st (q47 o0 h)) (none)))) 400 (mv_seek 22 tN_mill) [(0, Sum.inr (8, o0))] [] h 0 0 = (
  if (rI2 h 8 o0 10) = 0 then (
    if (rI2 h 8 o0 7) ≤ (rI2 h 8 o0 8) then (
      q47 o0 h)
    else
    mv_rV (fN_item o0 h) fun h1 =>
    q22 o0 h1)
  else
  q47 o0 h) := eN_mill_b22_g fN_anew fN_item fN_laysBack fN_lends fN_next q22 q47 o0 h
set_option maxRecDepth 100000 in
set_option maxHeartbeats 1000000 in
theorem eN_mill_g (F1 : Nat → H2 → O2) (F2 : Nat → H2 → O2) (F3 : Nat → H2 → O2) (F4 : Nat → H2 → O2) (F5 : Nat → H2 → O2) (q22 : Nat → H2 → O2) (o0 : Nat) (h : H2) : mv_blk rI2 rR2 ln2 wI2 wR2 nw2 cp2 bod none tN_mill [((0, 0), cN_lendsG_N_mill F4), ((0, 0), cN_anewG_N_mill F1), ((0, 0), cN_nextG_N_mill F5), ((0, 0), cN_itemG_N_mill F2), ((0, 0), cN_laysBackG_N_mill F3)] 0 0 [22] (fun pc lv st h ce sl => mv_gd (Nat.beq ce 0 && Nat.beq sl 0) (cond (Nat.beq pc 22) (mv_gR 0 8 lv fun o0 => mv_sE st (q22 o0 h)) (none))) 400 (mv_seek 0 tN_mill) [(0, Sum.inr (8, o0))] [] h 0 0 = (
  mv_rV (F4 o0 h) fun h1 =>
  mv_rV (F1 o0 h1) fun h2 =>
  mv_gd (decide (nI 0 = nI 0) || decide (nI 0 = nI 1)) <|
  mv_bh (wI2 h2 8 o0 10 (nI 0)) fun h3 =>
  mv_bh (wI2 h3 8 o0 9 (nI 0)) fun h4 =>
  mv_rV (F5 o0 h4) fun h5 =>
  q22 o0 h5) := rfl
theorem eN_mill (q22 : Nat → H2 → O2) (o0 : Nat) (h : H2) : mv_blk rI2 rR2 ln2 wI2 wR2 nw2 cp2 bod none tN_mill gN_mill 0 0 [22] (fun pc lv st h ce sl => mv_gd (Nat.beq ce 0 && Nat.beq sl 0) (cond (Nat.beq pc 22) (mv_gR 0 8 lv fun o0 => mv_sE st (q22 o0 h)) (none))) 400 (mv_seek 0 tN_mill) [(0, Sum.inr (8, o0))] [] h 0 0 = (
  mv_rV (fN_lends o0 h) fun h1 =>
  mv_rV (fN_anew o0 h1) fun h2 =>
  mv_gd (decide (nI 0 = nI 0) || decide (nI 0 = nI 1)) <|
  mv_bh (wI2 h2 8 o0 10 (nI 0)) fun h3 =>
  mv_bh (wI2 h3 8 o0 9 (nI 0)) fun h4 =>
  mv_rV (fN_next o0 h4) fun h5 =>
  q22 o0 h5) := eN_mill_g fN_anew fN_item fN_laysBack fN_lends fN_next q22 o0 h
theorem GN_mill : ∀ (j : Nat) (C : mv_C H2) (md' : mv_MD × Bool), mv_nth j gN_mill = some C → mv_nth j nN_mill = some md' → ∃ n', n' + 1 ≤ 9 ∧ mv_Cal vw2 n' md' C := fun j C md' => match j with
  | 0 => fun h1 h2 => by
    obtain rfl := Option.some.inj h1
    obtain rfl := Option.some.inj h2
    exact ⟨2, by decide, cN_lends_ok⟩
  | 1 => fun h1 h2 => by
    obtain rfl := Option.some.inj h1
    obtain rfl := Option.some.inj h2
    exact ⟨1, by decide, cN_anew_ok⟩
  | 2 => fun h1 h2 => by
    obtain rfl := Option.some.inj h1
    obtain rfl := Option.some.inj h2
    exact ⟨3, by decide, cN_next_ok⟩
  | 3 => fun h1 h2 => by
    obtain rfl := Option.some.inj h1
    obtain rfl := Option.some.inj h2
    exact ⟨8, by decide, cN_item_ok⟩
  | 4 => fun h1 h2 => by
    obtain rfl := Option.some.inj h1
    obtain rfl := Option.some.inj h2
    exact ⟨2, by decide, cN_laysBack_ok⟩
  | jj + 5 => fun h1 _ => by cases jj <;> cases h1

set_option maxRecDepth 20000 in
theorem xN_mill_b47 {g0 : mv_G} {res : List mv_V × H2} (o0 : Nat) (h : H2) (hh : fN_mill_b47 o0 h = some res) : mv_X vw2 mdN_mill 9 0 0 none g0 res 47 [(0, Sum.inr (8, o0))] [] h 0 0 := by
  refine mv_blkX ax2 (GN_mill) (by decide) kN_mill (fun pc lv st h ce sl hh => ?_) ((eN_mill_b47  o0 h).trans hh)
  cases hh

set_option maxRecDepth 20000 in
theorem xN_mill_b22 {g0 : mv_G} {res : List mv_V × H2} : ∀ (n : Nat) (o0 : Nat) (h : H2), fN_mill_b22 n o0 h = some res → mv_X vw2 mdN_mill 9 0 0 none g0 res 22 [(0, Sum.inr (8, o0))] [] h 0 0 := by
  intro n
  induction n with
  | zero => intro o0 h hh; cases hh
  | succ n ih =>
    intro o0 h hh
    refine mv_blkX ax2 (GN_mill) (by decide) kN_mill (fun pc lv st h ce sl hh => ?_) ((eN_mill_b22 (fN_mill_b22 n) (fN_mill_b47) o0 h).trans hh)
    obtain ⟨hg, hh1⟩ := mv_gd_some hh
    obtain ⟨rfl, rfl⟩ := mv_z2 hg
    rcases mv_cond_some hh1 with ⟨hb, hh2⟩ | ⟨hb, hh3⟩
    · obtain rfl := Nat.eq_of_beq_eq_true hb
      obtain ⟨o0, m0, hh4⟩ := mv_gR_some hh2
      obtain ⟨rfl, hh5⟩ := mv_sE_some hh4
      exact (ih o0 h hh5).sub (List.forall_mem_cons.mpr ⟨m0, (fun q hq => by cases hq)⟩)
    rcases mv_cond_some hh3 with ⟨hb, hh6⟩ | ⟨hb, hh7⟩
    · obtain rfl := Nat.eq_of_beq_eq_true hb
      obtain ⟨o0, m0, hh8⟩ := mv_gR_some hh6
      obtain ⟨rfl, hh9⟩ := mv_sE_some hh8
      exact (xN_mill_b47  o0 h hh9).sub (List.forall_mem_cons.mpr ⟨m0, (fun q hq => by cases hq)⟩)
    cases hh7

set_option maxRecDepth 20000 in
theorem xN_mill {g0 : mv_G} {res : List mv_V × H2} (o0 : Nat) (h : H2) (hh : fN_mill o0 h = some res) : mv_X vw2 mdN_mill 9 0 0 none g0 res 0 [(0, Sum.inr (8, o0))] [] h 0 0 := by
  refine mv_blkX ax2 (GN_mill) (by decide) kN_mill (fun pc lv st h ce sl hh => ?_) ((eN_mill (fN_mill_b22 1000) o0 h).trans hh)
  obtain ⟨hg, hh1⟩ := mv_gd_some hh
  obtain ⟨rfl, rfl⟩ := mv_z2 hg
  rcases mv_cond_some hh1 with ⟨hb, hh2⟩ | ⟨hb, hh3⟩
  · obtain rfl := Nat.eq_of_beq_eq_true hb
    obtain ⟨o0, m0, hh4⟩ := mv_gR_some hh2
    obtain ⟨rfl, hh5⟩ := mv_sE_some hh4
    exact (xN_mill_b22 1000 o0 h hh5).sub (List.forall_mem_cons.mpr ⟨m0, (fun q hq => by cases hq)⟩)
  cases hh3

theorem mN_mill (o0 : Nat) (h : H2) (vs : List mv_V) (h' : H2) (hh : fN_mill o0 h = some (vs, h')) : mv_Met vw2 9 0 0 mdN_mill [Sum.inr (8, o0)] h vs h' :=
  mv_Met_of (by decide +kernel) (Nat.le_of_ble_eq_true rfl) (xN_mill o0 h hh)
set_option maxRecDepth 100000 in
theorem kN_prove : mv_tok mdN_prove nN_prove tN_prove = true := by decide +kernel
def cN_depthsG_N_prove (F1 : Nat → H2 → O2) : List mv_V → H2 → (List mv_V → H2 → O2) → O2 := fun as h k => match as with
  | [.inr (t0, o0)] => mv_gd (Nat.beq t0 8) <| mv_rI (F1 o0 h) fun x h => k [.inl (.int x)] h
  | _ => none
def cN_goesG_N_prove (F2 : Nat → Int32 → H2 → O2) : List mv_V → H2 → (List mv_V → H2 → O2) → O2 := fun as h k => match as with
  | [.inr (t0, o0), .inl (.int v1)] => mv_gd (Nat.beq t0 8) <| mv_rV (F2 o0 v1 h) fun h => k [] h
  | _ => none
def cN_inG_N_prove (F3 : Int64 → Int64 → Int64 → H2 → O2) : List mv_V → H2 → (List mv_V → H2 → O2) → O2 := fun as h k => match as with
  | [.inl (.long w0), .inl (.long w2), .inl (.long w4)] => mv_rI (F3 w0 w2 w4 h) fun x h => k [.inl (.int x)] h
  | _ => none
def cN_isClothG_N_prove (F4 : Nat → Int32 → H2 → O2) : List mv_V → H2 → (List mv_V → H2 → O2) → O2 := fun as h k => match as with
  | [.inr (t0, o0), .inl (.int v1)] => mv_gd (Nat.beq t0 8) <| mv_rI (F4 o0 v1 h) fun x h => k [.inl (.int x)] h
  | _ => none
def cN_itsG_N_prove (F5 : Nat → Int32 → Int32 → H2 → O2) : List mv_V → H2 → (List mv_V → H2 → O2) → O2 := fun as h k => match as with
  | [.inr (t0, o0), .inl (.int v1), .inl (.int v2)] => mv_gd (Nat.beq t0 8) <| mv_rI (F5 o0 v1 v2 h) fun x h => k [.inl (.int x)] h
  | _ => none
def cN_laysBackG_N_prove (F6 : Nat → H2 → O2) : List mv_V → H2 → (List mv_V → H2 → O2) → O2 := fun as h k => match as with
  | [.inr (t0, o0)] => mv_gd (Nat.beq t0 8) <| mv_rV (F6 o0 h) fun h => k [] h
  | _ => none
def cN_lendsG_N_prove (F7 : Nat → H2 → O2) : List mv_V → H2 → (List mv_V → H2 → O2) → O2 := fun as h k => match as with
  | [.inr (t0, o0)] => mv_gd (Nat.beq t0 8) <| mv_rV (F7 o0 h) fun h => k [] h
  | _ => none
set_option maxRecDepth 100000 in
set_option maxHeartbeats 1000000 in
theorem eN_prove_b28_g (F1 : Nat → H2 → O2) (F2 : Nat → Int32 → H2 → O2) (F3 : Int64 → Int64 → Int64 → H2 → O2) (F4 : Nat → Int32 → H2 → O2) (F5 : Nat → Int32 → Int32 → H2 → O2) (F6 : Nat → H2 → O2) (F7 : Nat → H2 → O2) (q28 : Nat → Int32 → Int32 → Int32 → H2 → O2) (o0 : Nat) (v1 : Int32) (v2 : Int32) (v3 : Int32) (h : H2) : mv_blk rI2 rR2 ln2 wI2 wR2 nw2 cp2 bod none tN_prove [((0, 0), cN_isClothG_N_prove F4), ((0, 0), cN_inG_N_prove F3), ((0, 0), cN_lendsG_N_prove F7), ((0, 0), cN_goesG_N_prove F2), ((0, 0), cN_itsG_N_prove F5), ((0, 0), cN_depthsG_N_prove F1), ((0, 0), cN_laysBackG_N_prove F6)] 0 0 [28] (fun pc lv st h ce sl => mv_gd (Nat.beq ce 0 && Nat.beq sl 0) (cond (Nat.beq pc 28) (mv_gR 0 8 lv fun o0 => mv_gI 1 lv fun v1 => mv_gI 2 lv fun v2 => mv_gI 3 lv fun v3 => mv_sE st (q28 o0 v1 v2 v3 h)) (none))) 400 (mv_seek 28 tN_prove) [(0, Sum.inr (8, o0)), (1, Sum.inl (Value.int v1)), (2, Sum.inl (Value.int v2)), (3, Sum.inl (Value.int v3))] [] h 0 0 = (
  if v2 ≤ v3 then (
    mv_rV (F6 o0 h) fun h1 =>
    mv_bh (wI2 h1 8 o0 12 v2) fun h2 =>
    some ([Sum.inl (Value.int v2)], h2))
  else
  mv_rV (F2 o0 (nI 1) h) fun h3 =>
  mv_rI (F5 o0 v1 (nI 1) h3) fun r5 h4 =>
  mv_gd (mv_inb ((nI 3) * v3) 30) <|
  mv_bh (wI2 h4 911 o0 ((nI 3) * v3).toNatClampNeg ((nI 1) + r5)) fun h6 =>
  mv_rI (F5 o0 v1 (nI 2) h6) fun r8 h7 =>
  mv_gd (mv_inb (((nI 3) * v3) + (nI 1)) 30) <|
  mv_bh (wI2 h7 911 o0 (((nI 3) * v3) + (nI 1)).toNatClampNeg r8) fun h9 =>
  mv_rI (F1 o0 h9) fun r11 h10 =>
  mv_gd (mv_inb (((nI 3) * v3) + (nI 2)) 30) <|
  mv_bh (wI2 h10 911 o0 (((nI 3) * v3) + (nI 2)).toNatClampNeg r11) fun h12 =>
  mv_bi (v3 + (nI 1)) fun x13 =>
  q28 o0 v1 v2 x13 h12) := rfl
theorem eN_prove_b28 (q28 : Nat → Int32 → Int32 → Int32 → H2 → O2) (o0 : Nat) (v1 : Int32) (v2 : Int32) (v3 : Int32) (h : H2) : mv_blk rI2 rR2 ln2 wI2 wR2 nw2 cp2 bod none tN_prove gN_prove 0 0 [28] (fun pc lv st h ce sl => mv_gd (Nat.beq ce 0 && Nat.beq sl 0) (cond (Nat.beq pc 28) (mv_gR 0 8 lv fun o0 => mv_gI 1 lv fun v1 => mv_gI 2 lv fun v2 => mv_gI 3 lv fun v3 => mv_sE st (q28 o0 v1 v2 v3 h)) (none))) 400 (mv_seek 28 tN_prove) [(0, Sum.inr (8, o0)), (1, Sum.inl (Value.int v1)), (2, Sum.inl (Value.int v2)), (3, Sum.inl (Value.int v3))] [] h 0 0 = (
  if v2 ≤ v3 then (
    mv_rV (fN_laysBack o0 h) fun h1 =>
    mv_bh (wI2 h1 8 o0 12 v2) fun h2 =>
    some ([Sum.inl (Value.int v2)], h2))
  else
  mv_rV (fN_goes o0 (nI 1) h) fun h3 =>
  mv_rI (fN_its o0 v1 (nI 1) h3) fun r5 h4 =>
  mv_gd (mv_inb ((nI 3) * v3) 30) <|
  mv_bh (wI2 h4 911 o0 ((nI 3) * v3).toNatClampNeg ((nI 1) + r5)) fun h6 =>
  mv_rI (fN_its o0 v1 (nI 2) h6) fun r8 h7 =>
  mv_gd (mv_inb (((nI 3) * v3) + (nI 1)) 30) <|
  mv_bh (wI2 h7 911 o0 (((nI 3) * v3) + (nI 1)).toNatClampNeg r8) fun h9 =>
  mv_rI (fN_depths o0 h9) fun r11 h10 =>
  mv_gd (mv_inb (((nI 3) * v3) + (nI 2)) 30) <|
  mv_bh (wI2 h10 911 o0 (((nI 3) * v3) + (nI 2)).toNatClampNeg r11) fun h12 =>
  mv_bi (v3 + (nI 1)) fun x13 =>
  q28 o0 v1 v2 x13 h12) := eN_prove_b28_g fN_depths fN_goes fN_in fN_isCloth fN_its fN_laysBack fN_lends q28 o0 v1 v2 v3 h
set_option maxRecDepth 100000 in
set_option maxHeartbeats 1000000 in
theorem eN_prove_g (F1 : Nat → H2 → O2) (F2 : Nat → Int32 → H2 → O2) (F3 : Int64 → Int64 → Int64 → H2 → O2) (F4 : Nat → Int32 → H2 → O2) (F5 : Nat → Int32 → Int32 → H2 → O2) (F6 : Nat → H2 → O2) (F7 : Nat → H2 → O2) (q28 : Nat → Int32 → Int32 → Int32 → H2 → O2) (o0 : Nat) (v1 : Int32) (v2 : Int32) (h : H2) : mv_blk rI2 rR2 ln2 wI2 wR2 nw2 cp2 bod none tN_prove [((0, 0), cN_isClothG_N_prove F4), ((0, 0), cN_inG_N_prove F3), ((0, 0), cN_lendsG_N_prove F7), ((0, 0), cN_goesG_N_prove F2), ((0, 0), cN_itsG_N_prove F5), ((0, 0), cN_depthsG_N_prove F1), ((0, 0), cN_laysBackG_N_prove F6)] 0 0 [28] (fun pc lv st h ce sl => mv_gd (Nat.beq ce 0 && Nat.beq sl 0) (cond (Nat.beq pc 28) (mv_gR 0 8 lv fun o0 => mv_gI 1 lv fun v1 => mv_gI 2 lv fun v2 => mv_gI 3 lv fun v3 => mv_sE st (q28 o0 v1 v2 v3 h)) (none))) 400 (mv_seek 0 tN_prove) [(0, Sum.inr (8, o0)), (1, Sum.inl (Value.int v1)), (2, Sum.inl (Value.int v2))] [] h 0 0 = (
  mv_rI (F4 o0 v1 h) fun r2 h1 =>
  if r2 = 0 then (
    some ([Sum.inl (Value.int (-(nI 1)))], h1))
  else
  mv_rI (F3 v2.toInt64 (lN 1) (lN 10) h1) fun r4 h3 =>
  if r4 = 0 then (
    some ([Sum.inl (Value.int (-(nI 1)))], h3))
  else
  mv_rV (F7 o0 h3) fun h5 =>
  mv_bi (nI 0) fun x6 =>
  q28 o0 v1 v2 x6 h5) := rfl
theorem eN_prove (q28 : Nat → Int32 → Int32 → Int32 → H2 → O2) (o0 : Nat) (v1 : Int32) (v2 : Int32) (h : H2) : mv_blk rI2 rR2 ln2 wI2 wR2 nw2 cp2 bod none tN_prove gN_prove 0 0 [28] (fun pc lv st h ce sl => mv_gd (Nat.beq ce 0 && Nat.beq sl 0) (cond (Nat.beq pc 28) (mv_gR 0 8 lv fun o0 => mv_gI 1 lv fun v1 => mv_gI 2 lv fun v2 => mv_gI 3 lv fun v3 => mv_sE st (q28 o0 v1 v2 v3 h)) (none))) 400 (mv_seek 0 tN_prove) [(0, Sum.inr (8, o0)), (1, Sum.inl (Value.int v1)), (2, Sum.inl (Value.int v2))] [] h 0 0 = (
  mv_rI (fN_isCloth o0 v1 h) fun r2 h1 =>
  if r2 = 0 then (
    some ([Sum.inl (Value.int (-(nI 1)))], h1))
  else
  mv_rI (fN_in v2.toInt64 (lN 1) (lN 10) h1) fun r4 h3 =>
  if r4 = 0 then (
    some ([Sum.inl (Value.int (-(nI 1)))], h3))
  else
  mv_rV (fN_lends o0 h3) fun h5 =>
  mv_bi (nI 0) fun x6 =>
  q28 o0 v1 v2 x6 h5) := eN_prove_g fN_depths fN_goes fN_in fN_isCloth fN_its fN_laysBack fN_lends q28 o0 v1 v2 h
theorem GN_prove : ∀ (j : Nat) (C : mv_C H2) (md' : mv_MD × Bool), mv_nth j gN_prove = some C → mv_nth j nN_prove = some md' → ∃ n', n' + 1 ≤ 6 ∧ mv_Cal vw2 n' md' C := fun j C md' => match j with
  | 0 => fun h1 h2 => by
    obtain rfl := Option.some.inj h1
    obtain rfl := Option.some.inj h2
    exact ⟨2, by decide, cN_isCloth_ok⟩
  | 1 => fun h1 h2 => by
    obtain rfl := Option.some.inj h1
    obtain rfl := Option.some.inj h2
    exact ⟨1, by decide, cN_in_ok⟩
  | 2 => fun h1 h2 => by
    obtain rfl := Option.some.inj h1
    obtain rfl := Option.some.inj h2
    exact ⟨2, by decide, cN_lends_ok⟩
  | 3 => fun h1 h2 => by
    obtain rfl := Option.some.inj h1
    obtain rfl := Option.some.inj h2
    exact ⟨5, by decide, cN_goes_ok⟩
  | 4 => fun h1 h2 => by
    obtain rfl := Option.some.inj h1
    obtain rfl := Option.some.inj h2
    exact ⟨1, by decide, cN_its_ok⟩
  | 5 => fun h1 h2 => by
    obtain rfl := Option.some.inj h1
    obtain rfl := Option.some.inj h2
    exact ⟨2, by decide, cN_depths_ok⟩
  | 6 => fun h1 h2 => by
    obtain rfl := Option.some.inj h1
    obtain rfl := Option.some.inj h2
    exact ⟨2, by decide, cN_laysBack_ok⟩
  | jj + 7 => fun h1 _ => by cases jj <;> cases h1

set_option maxRecDepth 20000 in
theorem xN_prove_b28 {g0 : mv_G} {res : List mv_V × H2} : ∀ (n : Nat) (o0 : Nat) (v1 : Int32) (v2 : Int32) (v3 : Int32) (h : H2), fN_prove_b28 n o0 v1 v2 v3 h = some res → mv_X vw2 mdN_prove 6 0 0 none g0 res 28 [(0, Sum.inr (8, o0)), (1, Sum.inl (Value.int v1)), (2, Sum.inl (Value.int v2)), (3, Sum.inl (Value.int v3))] [] h 0 0 := by
  intro n
  induction n with
  | zero => intro o0 v1 v2 v3 h hh; cases hh
  | succ n ih =>
    intro o0 v1 v2 v3 h hh
    refine mv_blkX ax2 (GN_prove) (by decide) kN_prove (fun pc lv st h ce sl hh => ?_) ((eN_prove_b28 (fN_prove_b28 n) o0 v1 v2 v3 h).trans hh)
    obtain ⟨hg, hh1⟩ := mv_gd_some hh
    obtain ⟨rfl, rfl⟩ := mv_z2 hg
    rcases mv_cond_some hh1 with ⟨hb, hh2⟩ | ⟨hb, hh3⟩
    · obtain rfl := Nat.eq_of_beq_eq_true hb
      obtain ⟨o0, m0, hh4⟩ := mv_gR_some hh2
      obtain ⟨v1, m1, hh5⟩ := mv_gI_some hh4
      obtain ⟨v2, m2, hh6⟩ := mv_gI_some hh5
      obtain ⟨v3, m3, hh7⟩ := mv_gI_some hh6
      obtain ⟨rfl, hh8⟩ := mv_sE_some hh7
      exact (ih o0 v1 v2 v3 h hh8).sub (List.forall_mem_cons.mpr ⟨m0, (List.forall_mem_cons.mpr ⟨m1, (List.forall_mem_cons.mpr ⟨m2, (List.forall_mem_cons.mpr ⟨m3, (fun q hq => by cases hq)⟩)⟩)⟩)⟩)
    cases hh3

set_option maxRecDepth 20000 in
theorem xN_prove {g0 : mv_G} {res : List mv_V × H2} (o0 : Nat) (v1 : Int32) (v2 : Int32) (h : H2) (hh : fN_prove o0 v1 v2 h = some res) : mv_X vw2 mdN_prove 6 0 0 none g0 res 0 [(0, Sum.inr (8, o0)), (1, Sum.inl (Value.int v1)), (2, Sum.inl (Value.int v2))] [] h 0 0 := by
  refine mv_blkX ax2 (GN_prove) (by decide) kN_prove (fun pc lv st h ce sl hh => ?_) ((eN_prove (fN_prove_b28 1000) o0 v1 v2 h).trans hh)
  obtain ⟨hg, hh1⟩ := mv_gd_some hh
  obtain ⟨rfl, rfl⟩ := mv_z2 hg
  rcases mv_cond_some hh1 with ⟨hb, hh2⟩ | ⟨hb, hh3⟩
  · obtain rfl := Nat.eq_of_beq_eq_true hb
    obtain ⟨o0, m0, hh4⟩ := mv_gR_some hh2
    obtain ⟨v1, m1, hh5⟩ := mv_gI_some hh4
    obtain ⟨v2, m2, hh6⟩ := mv_gI_some hh5
    obtain ⟨v3, m3, hh7⟩ := mv_gI_some hh6
    obtain ⟨rfl, hh8⟩ := mv_sE_some hh7
    exact (xN_prove_b28 1000 o0 v1 v2 v3 h hh8).sub (List.forall_mem_cons.mpr ⟨m0, (List.forall_mem_cons.mpr ⟨m1, (List.forall_mem_cons.mpr ⟨m2, (List.forall_mem_cons.mpr ⟨m3, (fun q hq => by cases hq)⟩)⟩)⟩)⟩)
  cases hh3

theorem mN_prove (o0 : Nat) (v1 : Int32) (v2 : Int32) (h : H2) (vs : List mv_V) (h' : H2) (hh : fN_prove o0 v1 v2 h = some (vs, h')) : mv_Met vw2 6 0 0 mdN_prove [Sum.inr (8, o0), Sum.inl (Value.int v1), Sum.inl (Value.int v2)] h vs h' :=
  mv_Met_of (by decide +kernel) (Nat.le_of_ble_eq_true rfl) (xN_prove o0 v1 v2 h hh)
set_option maxRecDepth 100000 in
theorem kN_isCell : mv_tok mdN_isCell nN_isCell tN_isCell = true := by decide +kernel
def cN_inG_N_isCell (F1 : Int64 → Int64 → Int64 → H2 → O2) : List mv_V → H2 → (List mv_V → H2 → O2) → O2 := fun as h k => match as with
  | [.inl (.long w0), .inl (.long w2), .inl (.long w4)] => mv_rI (F1 w0 w2 w4 h) fun x h => k [.inl (.int x)] h
  | _ => none
set_option maxRecDepth 100000 in
set_option maxHeartbeats 1000000 in
theorem eN_isCell_g (F1 : Int64 → Int64 → Int64 → H2 → O2) (o0 : Nat) (v1 : Int32) (v2 : Int32) (h : H2) : mv_blk rI2 rR2 ln2 wI2 wR2 nw2 cp2 bod none tN_isCell [((0, 0), cN_inG_N_isCell F1)] 0 0 [] (fun _ _ _ _ _ _ => none) 400 (mv_seek 0 tN_isCell) [(0, Sum.inr (8, o0)), (1, Sum.inl (Value.int v1)), (2, Sum.inl (Value.int v2))] [] h 0 0 = (
  mv_rI (F1 v1.toInt64 (lN 0) (((rI2 h 8 o0 12) - (nI 1)).toInt64) h) fun r2 h1 =>
  if r2 = 0 then (
    mv_gd (decide (nI 0 = nI 0) || decide (nI 0 = nI 1)) <| some ([Sum.inl (Value.int (nI 0))], h1))
  else
  mv_rI (F1 v2.toInt64 (lN 0) (lN 2) h1) fun r4 h3 =>
  if r4 = 0 then (
    mv_gd (decide (nI 0 = nI 0) || decide (nI 0 = nI 1)) <| some ([Sum.inl (Value.int (nI 0))], h3))
  else
  mv_gd (decide (nI 1 = nI 0) || decide (nI 1 = nI 1)) <| some ([Sum.inl (Value.int (nI 1))], h3)) := rfl
theorem eN_isCell (o0 : Nat) (v1 : Int32) (v2 : Int32) (h : H2) : mv_blk rI2 rR2 ln2 wI2 wR2 nw2 cp2 bod none tN_isCell gN_isCell 0 0 [] (fun _ _ _ _ _ _ => none) 400 (mv_seek 0 tN_isCell) [(0, Sum.inr (8, o0)), (1, Sum.inl (Value.int v1)), (2, Sum.inl (Value.int v2))] [] h 0 0 = (
  mv_rI (fN_in v1.toInt64 (lN 0) (((rI2 h 8 o0 12) - (nI 1)).toInt64) h) fun r2 h1 =>
  if r2 = 0 then (
    mv_gd (decide (nI 0 = nI 0) || decide (nI 0 = nI 1)) <| some ([Sum.inl (Value.int (nI 0))], h1))
  else
  mv_rI (fN_in v2.toInt64 (lN 0) (lN 2) h1) fun r4 h3 =>
  if r4 = 0 then (
    mv_gd (decide (nI 0 = nI 0) || decide (nI 0 = nI 1)) <| some ([Sum.inl (Value.int (nI 0))], h3))
  else
  mv_gd (decide (nI 1 = nI 0) || decide (nI 1 = nI 1)) <| some ([Sum.inl (Value.int (nI 1))], h3)) := eN_isCell_g fN_in o0 v1 v2 h
theorem GN_isCell : ∀ (j : Nat) (C : mv_C H2) (md' : mv_MD × Bool), mv_nth j gN_isCell = some C → mv_nth j nN_isCell = some md' → ∃ n', n' + 1 ≤ 2 ∧ mv_Cal vw2 n' md' C := fun j C md' => match j with
  | 0 => fun h1 h2 => by
    obtain rfl := Option.some.inj h1
    obtain rfl := Option.some.inj h2
    exact ⟨1, by decide, cN_in_ok⟩
  | jj + 1 => fun h1 _ => by cases jj <;> cases h1

set_option maxRecDepth 20000 in
theorem xN_isCell {g0 : mv_G} {res : List mv_V × H2} (o0 : Nat) (v1 : Int32) (v2 : Int32) (h : H2) (hh : fN_isCell o0 v1 v2 h = some res) : mv_X vw2 mdN_isCell 2 0 0 none g0 res 0 [(0, Sum.inr (8, o0)), (1, Sum.inl (Value.int v1)), (2, Sum.inl (Value.int v2))] [] h 0 0 := by
  refine mv_blkX ax2 (GN_isCell) (by decide) kN_isCell (fun pc lv st h ce sl hh => ?_) ((eN_isCell  o0 v1 v2 h).trans hh)
  cases hh

theorem mN_isCell (o0 : Nat) (v1 : Int32) (v2 : Int32) (h : H2) (vs : List mv_V) (h' : H2) (hh : fN_isCell o0 v1 v2 h = some (vs, h')) : mv_Met vw2 2 0 0 mdN_isCell [Sum.inr (8, o0), Sum.inl (Value.int v1), Sum.inl (Value.int v2)] h vs h' :=
  mv_Met_of (by decide +kernel) (Nat.le_of_ble_eq_true rfl) (xN_isCell o0 v1 v2 h hh)
theorem cN_isCell_ok : mv_Cal vw2 2 (mdN_isCell, true) ((0, 0), cN_isCell) := by
  intro as h k res hh
  change cN_isCell as h k = some res at hh
  unfold cN_isCell at hh
  split at hh
  · obtain ⟨hg0, ha0⟩ := mv_gd_some hh
    obtain rfl := Nat.eq_of_beq_eq_true hg0
    obtain ⟨x, h', h1, h9⟩ := mv_rI_some ha0
    exact ⟨_, _, h9, (by first | decide | exact Nat.le_refl _ | exact Nat.zero_le _), fun _ => ⟨_, _, _, rfl, Or.inl ⟨by decide, rfl⟩⟩, (mN_isCell _ _ _ h _ _ h1)⟩
  · cases hh

set_option maxRecDepth 100000 in
theorem kN_row : mv_tok mdN_row nN_row tN_row = true := by decide +kernel
def cN_isCellG_N_row (F1 : Nat → Int32 → Int32 → H2 → O2) : List mv_V → H2 → (List mv_V → H2 → O2) → O2 := fun as h k => match as with
  | [.inr (t0, o0), .inl (.int v1), .inl (.int v2)] => mv_gd (Nat.beq t0 8) <| mv_rI (F1 o0 v1 v2 h) fun x h => k [.inl (.int x)] h
  | _ => none
set_option maxRecDepth 100000 in
set_option maxHeartbeats 1000000 in
theorem eN_row_g (F1 : Nat → Int32 → Int32 → H2 → O2) (o0 : Nat) (v1 : Int32) (v2 : Int32) (h : H2) : mv_blk rI2 rR2 ln2 wI2 wR2 nw2 cp2 bod none tN_row [((0, 0), cN_isCellG_N_row F1)] 0 0 [] (fun _ _ _ _ _ _ => none) 400 (mv_seek 0 tN_row) [(0, Sum.inr (8, o0)), (1, Sum.inl (Value.int v1)), (2, Sum.inl (Value.int v2))] [] h 0 0 = (
  mv_rI (F1 o0 v1 v2 h) fun r2 h1 =>
  if r2 = 0 then (
    some ([Sum.inl (Value.int (-(nI 9)))], h1))
  else
  mv_gd (mv_inb (((nI 3) * v1) + v2) 30) <|
  some ([Sum.inl (Value.int (rI2 h1 911 o0 (((nI 3) * v1) + v2).toNatClampNeg))], h1)) := rfl
theorem eN_row (o0 : Nat) (v1 : Int32) (v2 : Int32) (h : H2) : mv_blk rI2 rR2 ln2 wI2 wR2 nw2 cp2 bod none tN_row gN_row 0 0 [] (fun _ _ _ _ _ _ => none) 400 (mv_seek 0 tN_row) [(0, Sum.inr (8, o0)), (1, Sum.inl (Value.int v1)), (2, Sum.inl (Value.int v2))] [] h 0 0 = (
  mv_rI (fN_isCell o0 v1 v2 h) fun r2 h1 =>
  if r2 = 0 then (
    some ([Sum.inl (Value.int (-(nI 9)))], h1))
  else
  mv_gd (mv_inb (((nI 3) * v1) + v2) 30) <|
  some ([Sum.inl (Value.int (rI2 h1 911 o0 (((nI 3) * v1) + v2).toNatClampNeg))], h1)) := eN_row_g fN_isCell o0 v1 v2 h
theorem GN_row : ∀ (j : Nat) (C : mv_C H2) (md' : mv_MD × Bool), mv_nth j gN_row = some C → mv_nth j nN_row = some md' → ∃ n', n' + 1 ≤ 3 ∧ mv_Cal vw2 n' md' C := fun j C md' => match j with
  | 0 => fun h1 h2 => by
    obtain rfl := Option.some.inj h1
    obtain rfl := Option.some.inj h2
    exact ⟨2, by decide, cN_isCell_ok⟩
  | jj + 1 => fun h1 _ => by cases jj <;> cases h1

set_option maxRecDepth 20000 in
theorem xN_row {g0 : mv_G} {res : List mv_V × H2} (o0 : Nat) (v1 : Int32) (v2 : Int32) (h : H2) (hh : fN_row o0 v1 v2 h = some res) : mv_X vw2 mdN_row 3 0 0 none g0 res 0 [(0, Sum.inr (8, o0)), (1, Sum.inl (Value.int v1)), (2, Sum.inl (Value.int v2))] [] h 0 0 := by
  refine mv_blkX ax2 (GN_row) (by decide) kN_row (fun pc lv st h ce sl hh => ?_) ((eN_row  o0 v1 v2 h).trans hh)
  cases hh

theorem mN_row (o0 : Nat) (v1 : Int32) (v2 : Int32) (h : H2) (vs : List mv_V) (h' : H2) (hh : fN_row o0 v1 v2 h = some (vs, h')) : mv_Met vw2 3 0 0 mdN_row [Sum.inr (8, o0), Sum.inl (Value.int v1), Sum.inl (Value.int v2)] h vs h' :=
  mv_Met_of (by decide +kernel) (Nat.le_of_ble_eq_true rfl) (xN_row o0 v1 v2 h hh)
set_option maxRecDepth 100000 in
theorem kN_alterRow : mv_tok mdN_alterRow nN_alterRow tN_alterRow = true := by decide +kernel
def cN_isCellG_N_alterRow (F1 : Nat → Int32 → Int32 → H2 → O2) : List mv_V → H2 → (List mv_V → H2 → O2) → O2 := fun as h k => match as with
  | [.inr (t0, o0), .inl (.int v1), .inl (.int v2)] => mv_gd (Nat.beq t0 8) <| mv_rI (F1 o0 v1 v2 h) fun x h => k [.inl (.int x)] h
  | _ => none
set_option maxRecDepth 100000 in
set_option maxHeartbeats 1000000 in
theorem eN_alterRow_g (F1 : Nat → Int32 → Int32 → H2 → O2) (o0 : Nat) (v1 : Int32) (v2 : Int32) (v3 : Int32) (h : H2) : mv_blk rI2 rR2 ln2 wI2 wR2 nw2 cp2 bod none tN_alterRow [((0, 0), cN_isCellG_N_alterRow F1)] 0 0 [] (fun _ _ _ _ _ _ => none) 400 (mv_seek 0 tN_alterRow) [(0, Sum.inr (8, o0)), (1, Sum.inl (Value.int v1)), (2, Sum.inl (Value.int v2)), (3, Sum.inl (Value.int v3))] [] h 0 0 = (
  mv_rI (F1 o0 v1 v2 h) fun r2 h1 =>
  if r2 = 0 then (
    some ([Sum.inl (Value.int (-(nI 9)))], h1))
  else
  mv_gd (mv_inb (((nI 3) * v1) + v2) 30) <|
  mv_bi (rI2 h1 911 o0 (((nI 3) * v1) + v2).toNatClampNeg) fun x3 =>
  mv_gd (mv_inb (((nI 3) * v1) + v2) 30) <|
  mv_bh (wI2 h1 911 o0 (((nI 3) * v1) + v2).toNatClampNeg v3) fun h4 =>
  some ([Sum.inl (Value.int x3)], h4)) := rfl
theorem eN_alterRow (o0 : Nat) (v1 : Int32) (v2 : Int32) (v3 : Int32) (h : H2) : mv_blk rI2 rR2 ln2 wI2 wR2 nw2 cp2 bod none tN_alterRow gN_alterRow 0 0 [] (fun _ _ _ _ _ _ => none) 400 (mv_seek 0 tN_alterRow) [(0, Sum.inr (8, o0)), (1, Sum.inl (Value.int v1)), (2, Sum.inl (Value.int v2)), (3, Sum.inl (Value.int v3))] [] h 0 0 = (
  mv_rI (fN_isCell o0 v1 v2 h) fun r2 h1 =>
  if r2 = 0 then (
    some ([Sum.inl (Value.int (-(nI 9)))], h1))
  else
  mv_gd (mv_inb (((nI 3) * v1) + v2) 30) <|
  mv_bi (rI2 h1 911 o0 (((nI 3) * v1) + v2).toNatClampNeg) fun x3 =>
  mv_gd (mv_inb (((nI 3) * v1) + v2) 30) <|
  mv_bh (wI2 h1 911 o0 (((nI 3) * v1) + v2).toNatClampNeg v3) fun h4 =>
  some ([Sum.inl (Value.int x3)], h4)) := eN_alterRow_g fN_isCell o0 v1 v2 v3 h
theorem GN_alterRow : ∀ (j : Nat) (C : mv_C H2) (md' : mv_MD × Bool), mv_nth j gN_alterRow = some C → mv_nth j nN_alterRow = some md' → ∃ n', n' + 1 ≤ 3 ∧ mv_Cal vw2 n' md' C := fun j C md' => match j with
  | 0 => fun h1 h2 => by
    obtain rfl := Option.some.inj h1
    obtain rfl := Option.some.inj h2
    exact ⟨2, by decide, cN_isCell_ok⟩
  | jj + 1 => fun h1 _ => by cases jj <;> cases h1

set_option maxRecDepth 20000 in
theorem xN_alterRow {g0 : mv_G} {res : List mv_V × H2} (o0 : Nat) (v1 : Int32) (v2 : Int32) (v3 : Int32) (h : H2) (hh : fN_alterRow o0 v1 v2 v3 h = some res) : mv_X vw2 mdN_alterRow 3 0 0 none g0 res 0 [(0, Sum.inr (8, o0)), (1, Sum.inl (Value.int v1)), (2, Sum.inl (Value.int v2)), (3, Sum.inl (Value.int v3))] [] h 0 0 := by
  refine mv_blkX ax2 (GN_alterRow) (by decide) kN_alterRow (fun pc lv st h ce sl hh => ?_) ((eN_alterRow  o0 v1 v2 v3 h).trans hh)
  cases hh

theorem mN_alterRow (o0 : Nat) (v1 : Int32) (v2 : Int32) (v3 : Int32) (h : H2) (vs : List mv_V) (h' : H2) (hh : fN_alterRow o0 v1 v2 v3 h = some (vs, h')) : mv_Met vw2 3 0 0 mdN_alterRow [Sum.inr (8, o0), Sum.inl (Value.int v1), Sum.inl (Value.int v2), Sum.inl (Value.int v3)] h vs h' :=
  mv_Met_of (by decide +kernel) (Nat.le_of_ble_eq_true rfl) (xN_alterRow o0 v1 v2 v3 h hh)
set_option maxRecDepth 100000 in
theorem kN_isRight : mv_tok mdN_isRight nN_isRight tN_isRight = true := by decide +kernel
def cN_depthsG_N_isRight (F1 : Nat → H2 → O2) : List mv_V → H2 → (List mv_V → H2 → O2) → O2 := fun as h k => match as with
  | [.inr (t0, o0)] => mv_gd (Nat.beq t0 8) <| mv_rI (F1 o0 h) fun x h => k [.inl (.int x)] h
  | _ => none
def cN_goesG_N_isRight (F2 : Nat → Int32 → H2 → O2) : List mv_V → H2 → (List mv_V → H2 → O2) → O2 := fun as h k => match as with
  | [.inr (t0, o0), .inl (.int v1)] => mv_gd (Nat.beq t0 8) <| mv_rV (F2 o0 v1 h) fun h => k [] h
  | _ => none
def cN_itsG_N_isRight (F3 : Nat → Int32 → Int32 → H2 → O2) : List mv_V → H2 → (List mv_V → H2 → O2) → O2 := fun as h k => match as with
  | [.inr (t0, o0), .inl (.int v1), .inl (.int v2)] => mv_gd (Nat.beq t0 8) <| mv_rI (F3 o0 v1 v2 h) fun x h => k [.inl (.int x)] h
  | _ => none
set_option maxRecDepth 100000 in
set_option maxHeartbeats 1000000 in
theorem eN_isRight_g (F1 : Nat → H2 → O2) (F2 : Nat → Int32 → H2 → O2) (F3 : Nat → Int32 → Int32 → H2 → O2) (o0 : Nat) (v1 : Int32) (v2 : Int32) (h : H2) : mv_blk rI2 rR2 ln2 wI2 wR2 nw2 cp2 bod none tN_isRight [((0, 0), cN_goesG_N_isRight F2), ((0, 0), cN_itsG_N_isRight F3), ((0, 0), cN_depthsG_N_isRight F1)] 0 0 [] (fun _ _ _ _ _ _ => none) 400 (mv_seek 0 tN_isRight) [(0, Sum.inr (8, o0)), (1, Sum.inl (Value.int v1)), (2, Sum.inl (Value.int v2))] [] h 0 0 = (
  mv_rV (F2 o0 (nI 1) h) fun h1 =>
  mv_gd (mv_inb ((nI 3) * v2) 30) <|
  mv_rI (F3 o0 v1 (nI 1) h1) fun r3 h2 =>
  if (rI2 h1 911 o0 ((nI 3) * v2).toNatClampNeg) = ((nI 1) + r3) then (
    mv_gd (mv_inb (((nI 3) * v2) + (nI 1)) 30) <|
    mv_rI (F3 o0 v1 (nI 2) h2) fun r5 h4 =>
    if (rI2 h2 911 o0 (((nI 3) * v2) + (nI 1)).toNatClampNeg) = r5 then (
      mv_gd (mv_inb (((nI 3) * v2) + (nI 2)) 30) <|
      mv_rI (F1 o0 h4) fun r7 h6 =>
      if (rI2 h4 911 o0 (((nI 3) * v2) + (nI 2)).toNatClampNeg) = r7 then (
        mv_gd (decide (nI 1 = nI 0) || decide (nI 1 = nI 1)) <| some ([Sum.inl (Value.int (nI 1))], h6))
      else
      mv_gd (decide (nI 0 = nI 0) || decide (nI 0 = nI 1)) <| some ([Sum.inl (Value.int (nI 0))], h6))
    else
    mv_gd (decide (nI 0 = nI 0) || decide (nI 0 = nI 1)) <| some ([Sum.inl (Value.int (nI 0))], h4))
  else
  mv_gd (decide (nI 0 = nI 0) || decide (nI 0 = nI 1)) <| some ([Sum.inl (Value.int (nI 0))], h2)) := rfl
theorem eN_isRight (o0 : Nat) (v1 : Int32) (v2 : Int32) (h : H2) : mv_blk rI2 rR2 ln2 wI2 wR2 nw2 cp2 bod none tN_isRight gN_isRight 0 0 [] (fun _ _ _ _ _ _ => none) 400 (mv_seek 0 tN_isRight) [(0, Sum.inr (8, o0)), (1, Sum.inl (Value.int v1)), (2, Sum.inl (Value.int v2))] [] h 0 0 = (
  mv_rV (fN_goes o0 (nI 1) h) fun h1 =>
  mv_gd (mv_inb ((nI 3) * v2) 30) <|
  mv_rI (fN_its o0 v1 (nI 1) h1) fun r3 h2 =>
  if (rI2 h1 911 o0 ((nI 3) * v2).toNatClampNeg) = ((nI 1) + r3) then (
    mv_gd (mv_inb (((nI 3) * v2) + (nI 1)) 30) <|
    mv_rI (fN_its o0 v1 (nI 2) h2) fun r5 h4 =>
    if (rI2 h2 911 o0 (((nI 3) * v2) + (nI 1)).toNatClampNeg) = r5 then (
      mv_gd (mv_inb (((nI 3) * v2) + (nI 2)) 30) <|
      mv_rI (fN_depths o0 h4) fun r7 h6 =>
      if (rI2 h4 911 o0 (((nI 3) * v2) + (nI 2)).toNatClampNeg) = r7 then (
        mv_gd (decide (nI 1 = nI 0) || decide (nI 1 = nI 1)) <| some ([Sum.inl (Value.int (nI 1))], h6))
      else
      mv_gd (decide (nI 0 = nI 0) || decide (nI 0 = nI 1)) <| some ([Sum.inl (Value.int (nI 0))], h6))
    else
    mv_gd (decide (nI 0 = nI 0) || decide (nI 0 = nI 1)) <| some ([Sum.inl (Value.int (nI 0))], h4))
  else
  mv_gd (decide (nI 0 = nI 0) || decide (nI 0 = nI 1)) <| some ([Sum.inl (Value.int (nI 0))], h2)) := eN_isRight_g fN_depths fN_goes fN_its o0 v1 v2 h
theorem GN_isRight : ∀ (j : Nat) (C : mv_C H2) (md' : mv_MD × Bool), mv_nth j gN_isRight = some C → mv_nth j nN_isRight = some md' → ∃ n', n' + 1 ≤ 6 ∧ mv_Cal vw2 n' md' C := fun j C md' => match j with
  | 0 => fun h1 h2 => by
    obtain rfl := Option.some.inj h1
    obtain rfl := Option.some.inj h2
    exact ⟨5, by decide, cN_goes_ok⟩
  | 1 => fun h1 h2 => by
    obtain rfl := Option.some.inj h1
    obtain rfl := Option.some.inj h2
    exact ⟨1, by decide, cN_its_ok⟩
  | 2 => fun h1 h2 => by
    obtain rfl := Option.some.inj h1
    obtain rfl := Option.some.inj h2
    exact ⟨2, by decide, cN_depths_ok⟩
  | jj + 3 => fun h1 _ => by cases jj <;> cases h1

set_option maxRecDepth 20000 in
theorem xN_isRight {g0 : mv_G} {res : List mv_V × H2} (o0 : Nat) (v1 : Int32) (v2 : Int32) (h : H2) (hh : fN_isRight o0 v1 v2 h = some res) : mv_X vw2 mdN_isRight 6 0 0 none g0 res 0 [(0, Sum.inr (8, o0)), (1, Sum.inl (Value.int v1)), (2, Sum.inl (Value.int v2))] [] h 0 0 := by
  refine mv_blkX ax2 (GN_isRight) (by decide) kN_isRight (fun pc lv st h ce sl hh => ?_) ((eN_isRight  o0 v1 v2 h).trans hh)
  cases hh

theorem mN_isRight (o0 : Nat) (v1 : Int32) (v2 : Int32) (h : H2) (vs : List mv_V) (h' : H2) (hh : fN_isRight o0 v1 v2 h = some (vs, h')) : mv_Met vw2 6 0 0 mdN_isRight [Sum.inr (8, o0), Sum.inl (Value.int v1), Sum.inl (Value.int v2)] h vs h' :=
  mv_Met_of (by decide +kernel) (Nat.le_of_ble_eq_true rfl) (xN_isRight o0 v1 v2 h hh)
theorem cN_isRight_ok : mv_Cal vw2 6 (mdN_isRight, true) ((0, 0), cN_isRight) := by
  intro as h k res hh
  change cN_isRight as h k = some res at hh
  unfold cN_isRight at hh
  split at hh
  · obtain ⟨hg0, ha0⟩ := mv_gd_some hh
    obtain rfl := Nat.eq_of_beq_eq_true hg0
    obtain ⟨x, h', h1, h9⟩ := mv_rI_some ha0
    exact ⟨_, _, h9, (by first | decide | exact Nat.le_refl _ | exact Nat.zero_le _), fun _ => ⟨_, _, _, rfl, Or.inl ⟨by decide, rfl⟩⟩, (mN_isRight _ _ _ h _ _ h1)⟩
  · cases hh

set_option maxRecDepth 100000 in
theorem kN_judge : mv_tok mdN_judge nN_judge tN_judge = true := by decide +kernel
def cN_isClothG_N_judge (F1 : Nat → Int32 → H2 → O2) : List mv_V → H2 → (List mv_V → H2 → O2) → O2 := fun as h k => match as with
  | [.inr (t0, o0), .inl (.int v1)] => mv_gd (Nat.beq t0 8) <| mv_rI (F1 o0 v1 h) fun x h => k [.inl (.int x)] h
  | _ => none
def cN_isRightG_N_judge (F2 : Nat → Int32 → Int32 → H2 → O2) : List mv_V → H2 → (List mv_V → H2 → O2) → O2 := fun as h k => match as with
  | [.inr (t0, o0), .inl (.int v1), .inl (.int v2)] => mv_gd (Nat.beq t0 8) <| mv_rI (F2 o0 v1 v2 h) fun x h => k [.inl (.int x)] h
  | _ => none
def cN_laysBackG_N_judge (F3 : Nat → H2 → O2) : List mv_V → H2 → (List mv_V → H2 → O2) → O2 := fun as h k => match as with
  | [.inr (t0, o0)] => mv_gd (Nat.beq t0 8) <| mv_rV (F3 o0 h) fun h => k [] h
  | _ => none
def cN_lendsG_N_judge (F4 : Nat → H2 → O2) : List mv_V → H2 → (List mv_V → H2 → O2) → O2 := fun as h k => match as with
  | [.inr (t0, o0)] => mv_gd (Nat.beq t0 8) <| mv_rV (F4 o0 h) fun h => k [] h
  | _ => none
set_option maxRecDepth 100000 in
set_option maxHeartbeats 1000000 in
theorem eN_judge_b39_g (F1 : Nat → Int32 → H2 → O2) (F2 : Nat → Int32 → Int32 → H2 → O2) (F3 : Nat → H2 → O2) (F4 : Nat → H2 → O2) (o0 : Nat) (v2 : Int32) (h : H2) : mv_blk rI2 rR2 ln2 wI2 wR2 nw2 cp2 bod none tN_judge [((0, 0), cN_isClothG_N_judge F1), ((0, 0), cN_lendsG_N_judge F4), ((0, 0), cN_isRightG_N_judge F2), ((0, 0), cN_laysBackG_N_judge F3)] 0 0 [] (fun _ _ _ _ _ _ => none) 400 (mv_seek 39 tN_judge) [(0, Sum.inr (8, o0)), (2, Sum.inl (Value.int v2))] [] h 0 0 = (
  mv_rV (F3 o0 h) fun h1 =>
  if (rI2 h1 8 o0 12) ≤ v2 then (
    some ([Sum.inl (Value.int (nI 0))], h1))
  else
  some ([Sum.inl (Value.int (v2 + (nI 1)))], h1)) := rfl
theorem eN_judge_b39 (o0 : Nat) (v2 : Int32) (h : H2) : mv_blk rI2 rR2 ln2 wI2 wR2 nw2 cp2 bod none tN_judge gN_judge 0 0 [] (fun _ _ _ _ _ _ => none) 400 (mv_seek 39 tN_judge) [(0, Sum.inr (8, o0)), (2, Sum.inl (Value.int v2))] [] h 0 0 = (
  mv_rV (fN_laysBack o0 h) fun h1 =>
  if (rI2 h1 8 o0 12) ≤ v2 then (
    some ([Sum.inl (Value.int (nI 0))], h1))
  else
  some ([Sum.inl (Value.int (v2 + (nI 1)))], h1)) := eN_judge_b39_g fN_isCloth fN_isRight fN_laysBack fN_lends o0 v2 h
set_option maxRecDepth 100000 in
set_option maxHeartbeats 1000000 in
theorem eN_judge_b16_g (F1 : Nat → Int32 → H2 → O2) (F2 : Nat → Int32 → Int32 → H2 → O2) (F3 : Nat → H2 → O2) (F4 : Nat → H2 → O2) (q16 : Nat → Int32 → Int32 → H2 → O2) (q39 : Nat → Int32 → H2 → O2) (o0 : Nat) (v1 : Int32) (v2 : Int32) (h : H2) : mv_blk rI2 rR2 ln2 wI2 wR2 nw2 cp2 bod none tN_judge [((0, 0), cN_isClothG_N_judge F1), ((0, 0), cN_lendsG_N_judge F4), ((0, 0), cN_isRightG_N_judge F2), ((0, 0), cN_laysBackG_N_judge F3)] 0 0 [16, 39] (fun pc lv st h ce sl => mv_gd (Nat.beq ce 0 && Nat.beq sl 0) (cond (Nat.beq pc 16) (mv_gR 0 8 lv fun o0 => mv_gI 1 lv fun v1 => mv_gI 2 lv fun v2 => mv_sE st (q16 o0 v1 v2 h)) (cond (Nat.beq pc 39) (mv_gR 0 8 lv fun o0 => mv_gI 2 lv fun v2 => mv_sE st (q39 o0 v2 h)) (none)))) 400 (mv_seek 16 tN_judge) [(0, Sum.inr (8, o0)), (1, Sum.inl (Value.int v1)), (2, Sum.inl (Value.int v2))] [] h 0 0 = (
  if (rI2 h 8 o0 12) ≤ v2 then (
    q39 o0 v2 h)
  else
  mv_rI (F2 o0 v1 v2 h) fun r2 h1 =>
  if r2 = 0 then (
    q39 o0 v2 h1)
  else
  mv_bi (v2 + (nI 1)) fun x3 =>
  q16 o0 v1 x3 h1) := rfl
theorem eN_judge_b16 (q16 : Nat → Int32 → Int32 → H2 → O2) (q39 : Nat → Int32 → H2 → O2) (o0 : Nat) (v1 : Int32) (v2 : Int32) (h : H2) : mv_blk rI2 rR2 ln2 wI2 wR2 nw2 cp2 bod none tN_judge gN_judge 0 0 [16, 39] (fun pc lv st h ce sl => mv_gd (Nat.beq ce 0 && Nat.beq sl 0) (cond (Nat.beq pc 16) (mv_gR 0 8 lv fun o0 => mv_gI 1 lv fun v1 => mv_gI 2 lv fun v2 => mv_sE st (q16 o0 v1 v2 h)) (cond (Nat.beq pc 39) (mv_gR 0 8 lv fun o0 => mv_gI 2 lv fun v2 => mv_sE st (q39 o0 v2 h)) (none)))) 400 (mv_seek 16 tN_judge) [(0, Sum.inr (8, o0)), (1, Sum.inl (Value.int v1)), (2, Sum.inl (Value.int v2))] [] h 0 0 = (
  if (rI2 h 8 o0 12) ≤ v2 then (
    q39 o0 v2 h)
  else
  mv_rI (fN_isRight o0 v1 v2 h) fun r2 h1 =>
  if r2 = 0 then (
    q39 o0 v2 h1)
  else
  mv_bi (v2 + (nI 1)) fun x3 =>
  q16 o0 v1 x3 h1) := eN_judge_b16_g fN_isCloth fN_isRight fN_laysBack fN_lends q16 q39 o0 v1 v2 h
set_option maxRecDepth 100000 in
set_option maxHeartbeats 1000000 in
theorem eN_judge_g (F1 : Nat → Int32 → H2 → O2) (F2 : Nat → Int32 → Int32 → H2 → O2) (F3 : Nat → H2 → O2) (F4 : Nat → H2 → O2) (q16 : Nat → Int32 → Int32 → H2 → O2) (o0 : Nat) (v1 : Int32) (h : H2) : mv_blk rI2 rR2 ln2 wI2 wR2 nw2 cp2 bod none tN_judge [((0, 0), cN_isClothG_N_judge F1), ((0, 0), cN_lendsG_N_judge F4), ((0, 0), cN_isRightG_N_judge F2), ((0, 0), cN_laysBackG_N_judge F3)] 0 0 [16] (fun pc lv st h ce sl => mv_gd (Nat.beq ce 0 && Nat.beq sl 0) (cond (Nat.beq pc 16) (mv_gR 0 8 lv fun o0 => mv_gI 1 lv fun v1 => mv_gI 2 lv fun v2 => mv_sE st (q16 o0 v1 v2 h)) (none))) 400 (mv_seek 0 tN_judge) [(0, Sum.inr (8, o0)), (1, Sum.inl (Value.int v1))] [] h 0 0 = (
  mv_rI (F1 o0 v1 h) fun r2 h1 =>
  if r2 = 0 then (
    some ([Sum.inl (Value.int (-(nI 1)))], h1))
  else
  mv_rV (F4 o0 h1) fun h3 =>
  mv_bi (nI 0) fun x4 =>
  q16 o0 v1 x4 h3) := rfl
theorem eN_judge (q16 : Nat → Int32 → Int32 → H2 → O2) (o0 : Nat) (v1 : Int32) (h : H2) : mv_blk rI2 rR2 ln2 wI2 wR2 nw2 cp2 bod none tN_judge gN_judge 0 0 [16] (fun pc lv st h ce sl => mv_gd (Nat.beq ce 0 && Nat.beq sl 0) (cond (Nat.beq pc 16) (mv_gR 0 8 lv fun o0 => mv_gI 1 lv fun v1 => mv_gI 2 lv fun v2 => mv_sE st (q16 o0 v1 v2 h)) (none))) 400 (mv_seek 0 tN_judge) [(0, Sum.inr (8, o0)), (1, Sum.inl (Value.int v1))] [] h 0 0 = (
  mv_rI (fN_isCloth o0 v1 h) fun r2 h1 =>
  if r2 = 0 then (
    some ([Sum.inl (Value.int (-(nI 1)))], h1))
  else
  mv_rV (fN_lends o0 h1) fun h3 =>
  mv_bi (nI 0) fun x4 =>
  q16 o0 v1 x4 h3) := eN_judge_g fN_isCloth fN_isRight fN_laysBack fN_lends q16 o0 v1 h
theorem GN_judge : ∀ (j : Nat) (C : mv_C H2) (md' : mv_MD × Bool), mv_nth j gN_judge = some C → mv_nth j nN_judge = some md' → ∃ n', n' + 1 ≤ 7 ∧ mv_Cal vw2 n' md' C := fun j C md' => match j with
  | 0 => fun h1 h2 => by
    obtain rfl := Option.some.inj h1
    obtain rfl := Option.some.inj h2
    exact ⟨2, by decide, cN_isCloth_ok⟩
  | 1 => fun h1 h2 => by
    obtain rfl := Option.some.inj h1
    obtain rfl := Option.some.inj h2
    exact ⟨2, by decide, cN_lends_ok⟩
  | 2 => fun h1 h2 => by
    obtain rfl := Option.some.inj h1
    obtain rfl := Option.some.inj h2
    exact ⟨6, by decide, cN_isRight_ok⟩
  | 3 => fun h1 h2 => by
    obtain rfl := Option.some.inj h1
    obtain rfl := Option.some.inj h2
    exact ⟨2, by decide, cN_laysBack_ok⟩
  | jj + 4 => fun h1 _ => by cases jj <;> cases h1

set_option maxRecDepth 20000 in
theorem xN_judge_b39 {g0 : mv_G} {res : List mv_V × H2} (o0 : Nat) (v2 : Int32) (h : H2) (hh : fN_judge_b39 o0 v2 h = some res) : mv_X vw2 mdN_judge 7 0 0 none g0 res 39 [(0, Sum.inr (8, o0)), (2, Sum.inl (Value.int v2))] [] h 0 0 := by
  refine mv_blkX ax2 (GN_judge) (by decide) kN_judge (fun pc lv st h ce sl hh => ?_) ((eN_judge_b39  o0 v2 h).trans hh)
  cases hh

set_option maxRecDepth 20000 in
theorem xN_judge_b16 {g0 : mv_G} {res : List mv_V × H2} : ∀ (n : Nat) (o0 : Nat) (v1 : Int32) (v2 : Int32) (h : H2), fN_judge_b16 n o0 v1 v2 h = some res → mv_X vw2 mdN_judge 7 0 0 none g0 res 16 [(0, Sum.inr (8, o0)), (1, Sum.inl (Value.int v1)), (2, Sum.inl (Value.int v2))] [] h 0 0 := by
  intro n
  induction n with
  | zero => intro o0 v1 v2 h hh; cases hh
  | succ n ih =>
    intro o0 v1 v2 h hh
    refine mv_blkX ax2 (GN_judge) (by decide) kN_judge (fun pc lv st h ce sl hh => ?_) ((eN_judge_b16 (fN_judge_b16 n) (fN_judge_b39) o0 v1 v2 h).trans hh)
    obtain ⟨hg, hh1⟩ := mv_gd_some hh
    obtain ⟨rfl, rfl⟩ := mv_z2 hg
    rcases mv_cond_some hh1 with ⟨hb, hh2⟩ | ⟨hb, hh3⟩
    · obtain rfl := Nat.eq_of_beq_eq_true hb
      obtain ⟨o0, m0, hh4⟩ := mv_gR_some hh2
      obtain ⟨v1, m1, hh5⟩ := mv_gI_some hh4
      obtain ⟨v2, m2, hh6⟩ := mv_gI_some hh5
      obtain ⟨rfl, hh7⟩ := mv_sE_some hh6
      exact (ih o0 v1 v2 h hh7).sub (List.forall_mem_cons.mpr ⟨m0, (List.forall_mem_cons.mpr ⟨m1, (List.forall_mem_cons.mpr ⟨m2, (fun q hq => by cases hq)⟩)⟩)⟩)
    rcases mv_cond_some hh3 with ⟨hb, hh8⟩ | ⟨hb, hh9⟩
    · obtain rfl := Nat.eq_of_beq_eq_true hb
      obtain ⟨o0, m0, hh10⟩ := mv_gR_some hh8
      obtain ⟨v2, m1, hh11⟩ := mv_gI_some hh10
      obtain ⟨rfl, hh12⟩ := mv_sE_some hh11
      exact (xN_judge_b39  o0 v2 h hh12).sub (List.forall_mem_cons.mpr ⟨m0, (List.forall_mem_cons.mpr ⟨m1, (fun q hq => by cases hq)⟩)⟩)
    cases hh9

set_option maxRecDepth 20000 in
theorem xN_judge {g0 : mv_G} {res : List mv_V × H2} (o0 : Nat) (v1 : Int32) (h : H2) (hh : fN_judge o0 v1 h = some res) : mv_X vw2 mdN_judge 7 0 0 none g0 res 0 [(0, Sum.inr (8, o0)), (1, Sum.inl (Value.int v1))] [] h 0 0 := by
  refine mv_blkX ax2 (GN_judge) (by decide) kN_judge (fun pc lv st h ce sl hh => ?_) ((eN_judge (fN_judge_b16 1000) o0 v1 h).trans hh)
  obtain ⟨hg, hh1⟩ := mv_gd_some hh
  obtain ⟨rfl, rfl⟩ := mv_z2 hg
  rcases mv_cond_some hh1 with ⟨hb, hh2⟩ | ⟨hb, hh3⟩
  · obtain rfl := Nat.eq_of_beq_eq_true hb
    obtain ⟨o0, m0, hh4⟩ := mv_gR_some hh2
    obtain ⟨v1, m1, hh5⟩ := mv_gI_some hh4
    obtain ⟨v2, m2, hh6⟩ := mv_gI_some hh5
    obtain ⟨rfl, hh7⟩ := mv_sE_some hh6
    exact (xN_judge_b16 1000 o0 v1 v2 h hh7).sub (List.forall_mem_cons.mpr ⟨m0, (List.forall_mem_cons.mpr ⟨m1, (List.forall_mem_cons.mpr ⟨m2, (fun q hq => by cases hq)⟩)⟩)⟩)
  cases hh3

theorem mN_judge (o0 : Nat) (v1 : Int32) (h : H2) (vs : List mv_V) (h' : H2) (hh : fN_judge o0 v1 h = some (vs, h')) : mv_Met vw2 7 0 0 mdN_judge [Sum.inr (8, o0), Sum.inl (Value.int v1)] h vs h' :=
  mv_Met_of (by decide +kernel) (Nat.le_of_ble_eq_true rfl) (xN_judge o0 v1 h hh)
