set_option maxRecDepth 100000 in
theorem kN_steep : mv_tok mdN_steep nN_steep tN_steep = true := by decide +kernel
def cN_changedG_N_steep (F1 : Nat → Int32 → Int32 → Int32 → H2 → O2) : List mv_V → H2 → (List mv_V → H2 → O2) → O2 := fun as h k => match as with
  | [.inr (t0, o0), .inl (.int v1), .inl (.int v2), .inl (.int v3)] => mv_gd (Nat.beq t0 8) <| mv_rI (F1 o0 v1 v2 v3 h) fun x h => k [.inl (.int x)] h
  | _ => none
def cN_inG_N_steep (F2 : Int64 → Int64 → Int64 → H2 → O2) : List mv_V → H2 → (List mv_V → H2 → O2) → O2 := fun as h k => match as with
  | [.inl (.long w0), .inl (.long w2), .inl (.long w4)] => mv_rI (F2 w0 w2 w4 h) fun x h => k [.inl (.int x)] h
  | _ => none
def cN_isClothG_N_steep (F3 : Nat → Int32 → H2 → O2) : List mv_V → H2 → (List mv_V → H2 → O2) → O2 := fun as h k => match as with
  | [.inr (t0, o0), .inl (.int v1)] => mv_gd (Nat.beq t0 8) <| mv_rI (F3 o0 v1 h) fun x h => k [.inl (.int x)] h
  | _ => none
def cN_isPurposeG_N_steep (F4 : Int32 → H2 → O2) : List mv_V → H2 → (List mv_V → H2 → O2) → O2 := fun as h k => match as with
  | [.inl (.int v0)] => mv_rI (F4 v0 h) fun x h => k [.inl (.int x)] h
  | _ => none
def cN_setsG_N_steep (F5 : Nat → Int32 → Int32 → Int32 → H2 → O2) : List mv_V → H2 → (List mv_V → H2 → O2) → O2 := fun as h k => match as with
  | [.inr (t0, o0), .inl (.int v1), .inl (.int v2), .inl (.int v3)] => mv_gd (Nat.beq t0 8) <| mv_rV (F5 o0 v1 v2 v3 h) fun h => k [] h
  | _ => none
set_option maxRecDepth 100000 in
set_option maxHeartbeats 1000000 in
theorem eN_steep_b41_g (F1 : Nat → Int32 → Int32 → Int32 → H2 → O2) (F2 : Int64 → Int64 → Int64 → H2 → O2) (F3 : Nat → Int32 → H2 → O2) (F4 : Int32 → H2 → O2) (F5 : Nat → Int32 → Int32 → Int32 → H2 → O2) (o0 : Nat) (v1 : Int32) (v2 : Int32) (v3 : Int32) (vs0 : Int32) (h : H2) : mv_blk rI2 rR2 ln2 wI2 wR2 nw2 cp2 bod none tN_steep [((0, 0), cN_isPurposeG_N_steep F4), ((0, 0), cN_inG_N_steep F2), ((0, 0), cN_isClothG_N_steep F3), ((0, 0), cN_setsG_N_steep F5), ((0, 0), cN_changedG_N_steep F1)] 0 0 [] (fun _ _ _ _ _ _ => none) 400 (mv_seek 41 tN_steep) [(0, Sum.inr (8, o0)), (1, Sum.inl (Value.int v1)), (2, Sum.inl (Value.int v2)), (3, Sum.inl (Value.int v3))] [Sum.inl (Value.int vs0)] h 0 0 = (
  mv_bi vs0 fun x1 =>
  mv_rI (F3 o0 v1 h) fun r3 h2 =>
  if r3 = 0 then (
    some ([Sum.inl (Value.int (-(nI 1)))], h2))
  else
  if x1 = 0 then (
    some ([Sum.inl (Value.int (-(nI 1)))], h2))
  else
  mv_rV (F5 o0 v1 (nI 2) v3 h2) fun h4 =>
  mv_rI (F1 o0 v1 (nI 1) v2 h4) fun r6 h5 =>
  some ([Sum.inl (Value.int ((nI 1) + r6))], h5)) := rfl
theorem eN_steep_b41 (o0 : Nat) (v1 : Int32) (v2 : Int32) (v3 : Int32) (vs0 : Int32) (h : H2) : mv_blk rI2 rR2 ln2 wI2 wR2 nw2 cp2 bod none tN_steep gN_steep 0 0 [] (fun _ _ _ _ _ _ => none) 400 (mv_seek 41 tN_steep) [(0, Sum.inr (8, o0)), (1, Sum.inl (Value.int v1)), (2, Sum.inl (Value.int v2)), (3, Sum.inl (Value.int v3))] [Sum.inl (Value.int vs0)] h 0 0 = (
  mv_bi vs0 fun x1 =>
  mv_rI (fN_isCloth o0 v1 h) fun r3 h2 =>
  if r3 = 0 then (
    some ([Sum.inl (Value.int (-(nI 1)))], h2))
  else
  if x1 = 0 then (
    some ([Sum.inl (Value.int (-(nI 1)))], h2))
  else
  mv_rV (fN_sets o0 v1 (nI 2) v3 h2) fun h4 =>
  mv_rI (fN_changed o0 v1 (nI 1) v2 h4) fun r6 h5 =>
  some ([Sum.inl (Value.int ((nI 1) + r6))], h5)) := eN_steep_b41_g fN_changed fN_in fN_isCloth fN_isPurpose fN_sets o0 v1 v2 v3 vs0 h
set_option maxRecDepth 100000 in
set_option maxHeartbeats 1000000 in
theorem eN_steep_g (F1 : Nat → Int32 → Int32 → Int32 → H2 → O2) (F2 : Int64 → Int64 → Int64 → H2 → O2) (F3 : Nat → Int32 → H2 → O2) (F4 : Int32 → H2 → O2) (F5 : Nat → Int32 → Int32 → Int32 → H2 → O2) (q41 : Nat → Int32 → Int32 → Int32 → Int32 → H2 → O2) (o0 : Nat) (v1 : Int32) (v2 : Int32) (v3 : Int32) (h : H2) : mv_blk rI2 rR2 ln2 wI2 wR2 nw2 cp2 bod none tN_steep [((0, 0), cN_isPurposeG_N_steep F4), ((0, 0), cN_inG_N_steep F2), ((0, 0), cN_isClothG_N_steep F3), ((0, 0), cN_setsG_N_steep F5), ((0, 0), cN_changedG_N_steep F1)] 0 0 [41] (fun pc lv st h ce sl => mv_gd (Nat.beq ce 0 && Nat.beq sl 0) (cond (Nat.beq pc 41) (mv_gR 0 8 lv fun o0 => mv_gI 1 lv fun v1 => mv_gI 2 lv fun v2 => mv_gI 3 lv fun v3 => mv_sI st fun vs0 st => mv_sE st (q41 o0 v1 v2 v3 vs0 h)) (none))) 400 (mv_seek 0 tN_steep) [(0, Sum.inr (8, o0)), (1, Sum.inl (Value.int v1)), (2, Sum.inl (Value.int v2)), (3, Sum.inl (Value.int v3))] [] h 0 0 = (
  if v2 = (-(nI 1)) then (
    if v3 = 0 then (
      q41 o0 v1 v2 v3 (nI 1) h)
    else
    q41 o0 v1 v2 v3 (nI 0) h)
  else
  mv_rI (F4 v2 h) fun r2 h1 =>
  if r2 = 0 then (
    q41 o0 v1 v2 v3 (nI 0) h1)
  else
  mv_rI (F2 v3.toInt64 (lN 1) (lN 99) h1) fun r4 h3 =>
  if r4 = 0 then (
    q41 o0 v1 v2 v3 (nI 0) h3)
  else
  q41 o0 v1 v2 v3 (nI 1) h3) := rfl
theorem eN_steep (q41 : Nat → Int32 → Int32 → Int32 → Int32 → H2 → O2) (o0 : Nat) (v1 : Int32) (v2 : Int32) (v3 : Int32) (h : H2) : mv_blk rI2 rR2 ln2 wI2 wR2 nw2 cp2 bod none tN_steep gN_steep 0 0 [41] (fun pc lv st h ce sl => mv_gd (Nat.beq ce 0 && Nat.beq sl 0) (cond (Nat.beq pc 41) (mv_gR 0 8 lv fun o0 => mv_gI 1 lv fun v1 => mv_gI 2 lv fun v2 => mv_gI 3 lv fun v3 => mv_sI st fun vs0 st => mv_sE st (q41 o0 v1 v2 v3 vs0 h)) (none))) 400 (mv_seek 0 tN_steep) [(0, Sum.inr (8, o0)), (1, Sum.inl (Value.int v1)), (2, Sum.inl (Value.int v2)), (3, Sum.inl (Value.int v3))] [] h 0 0 = (
  if v2 = (-(nI 1)) then (
    if v3 = 0 then (
      q41 o0 v1 v2 v3 (nI 1) h)
    else
    q41 o0 v1 v2 v3 (nI 0) h)
  else
  mv_rI (fN_isPurpose v2 h) fun r2 h1 =>
  if r2 = 0 then (
    q41 o0 v1 v2 v3 (nI 0) h1)
  else
  mv_rI (fN_in v3.toInt64 (lN 1) (lN 99) h1) fun r4 h3 =>
  if r4 = 0 then (
    q41 o0 v1 v2 v3 (nI 0) h3)
  else
  q41 o0 v1 v2 v3 (nI 1) h3) := eN_steep_g fN_changed fN_in fN_isCloth fN_isPurpose fN_sets q41 o0 v1 v2 v3 h
theorem GN_steep : ∀ (j : Nat) (C : mv_C H2) (md' : mv_MD × Bool), mv_nth j gN_steep = some C → mv_nth j nN_steep = some md' → ∃ n', n' + 1 ≤ 3 ∧ mv_Cal vw2 n' md' C := fun j C md' => match j with
  | 0 => fun h1 h2 => by
    obtain rfl := Option.some.inj h1
    obtain rfl := Option.some.inj h2
    exact ⟨2, by decide, cN_isPurpose_ok⟩
  | 1 => fun h1 h2 => by
    obtain rfl := Option.some.inj h1
    obtain rfl := Option.some.inj h2
    exact ⟨1, by decide, cN_in_ok⟩
  | 2 => fun h1 h2 => by
    obtain rfl := Option.some.inj h1
    obtain rfl := Option.some.inj h2
    exact ⟨2, by decide, cN_isCloth_ok⟩
  | 3 => fun h1 h2 => by
    obtain rfl := Option.some.inj h1
    obtain rfl := Option.some.inj h2
    exact ⟨1, by decide, cN_sets_ok⟩
  | 4 => fun h1 h2 => by
    obtain rfl := Option.some.inj h1
    obtain rfl := Option.some.inj h2
    exact ⟨2, by decide, cN_changed_ok⟩
  | jj + 5 => fun h1 _ => by cases jj <;> cases h1

set_option maxRecDepth 20000 in
theorem xN_steep_b41 {g0 : mv_G} {res : List mv_V × H2} (o0 : Nat) (v1 : Int32) (v2 : Int32) (v3 : Int32) (vs0 : Int32) (h : H2) (hh : fN_steep_b41 o0 v1 v2 v3 vs0 h = some res) : mv_X vw2 mdN_steep 3 0 0 none g0 res 41 [(0, Sum.inr (8, o0)), (1, Sum.inl (Value.int v1)), (2, Sum.inl (Value.int v2)), (3, Sum.inl (Value.int v3))] [Sum.inl (Value.int vs0)] h 0 0 := by
  refine mv_blkX ax2 (GN_steep) (by decide) kN_steep (fun pc lv st h ce sl hh => ?_) ((eN_steep_b41  o0 v1 v2 v3 vs0 h).trans hh)
  cases hh

set_option maxRecDepth 20000 in
theorem xN_steep {g0 : mv_G} {res : List mv_V × H2} (o0 : Nat) (v1 : Int32) (v2 : Int32) (v3 : Int32) (h : H2) (hh : fN_steep o0 v1 v2 v3 h = some res) : mv_X vw2 mdN_steep 3 0 0 none g0 res 0 [(0, Sum.inr (8, o0)), (1, Sum.inl (Value.int v1)), (2, Sum.inl (Value.int v2)), (3, Sum.inl (Value.int v3))] [] h 0 0 := by
  refine mv_blkX ax2 (GN_steep) (by decide) kN_steep (fun pc lv st h ce sl hh => ?_) ((eN_steep (fN_steep_b41) o0 v1 v2 v3 h).trans hh)
  obtain ⟨hg, hh1⟩ := mv_gd_some hh
  obtain ⟨rfl, rfl⟩ := mv_z2 hg
  rcases mv_cond_some hh1 with ⟨hb, hh2⟩ | ⟨hb, hh3⟩
  · obtain rfl := Nat.eq_of_beq_eq_true hb
    obtain ⟨o0, m0, hh4⟩ := mv_gR_some hh2
    obtain ⟨v1, m1, hh5⟩ := mv_gI_some hh4
    obtain ⟨v2, m2, hh6⟩ := mv_gI_some hh5
    obtain ⟨v3, m3, hh7⟩ := mv_gI_some hh6
    obtain ⟨vs0, sthh8, rfl, hh8⟩ := mv_sI_some hh7
    obtain ⟨rfl, hh9⟩ := mv_sE_some hh8
    exact (xN_steep_b41  o0 v1 v2 v3 vs0 h hh9).sub (List.forall_mem_cons.mpr ⟨m0, (List.forall_mem_cons.mpr ⟨m1, (List.forall_mem_cons.mpr ⟨m2, (List.forall_mem_cons.mpr ⟨m3, (fun q hq => by cases hq)⟩)⟩)⟩)⟩)
  cases hh3

theorem mN_steep (o0 : Nat) (v1 : Int32) (v2 : Int32) (v3 : Int32) (h : H2) (vs : List mv_V) (h' : H2) (hh : fN_steep o0 v1 v2 v3 h = some (vs, h')) : mv_Met vw2 3 0 0 mdN_steep [Sum.inr (8, o0), Sum.inl (Value.int v1), Sum.inl (Value.int v2), Sum.inl (Value.int v3)] h vs h' :=
  mv_Met_of (by decide +kernel) (Nat.le_of_ble_eq_true rfl) (xN_steep o0 v1 v2 v3 h hh)
set_option maxRecDepth 100000 in
theorem kN_hang : mv_tok mdN_hang nN_hang tN_hang = true := by decide +kernel
def cN_changedG_N_hang (F1 : Nat → Int32 → Int32 → Int32 → H2 → O2) : List mv_V → H2 → (List mv_V → H2 → O2) → O2 := fun as h k => match as with
  | [.inr (t0, o0), .inl (.int v1), .inl (.int v2), .inl (.int v3)] => mv_gd (Nat.beq t0 8) <| mv_rI (F1 o0 v1 v2 v3 h) fun x h => k [.inl (.int x)] h
  | _ => none
def cN_inG_N_hang (F2 : Int64 → Int64 → Int64 → H2 → O2) : List mv_V → H2 → (List mv_V → H2 → O2) → O2 := fun as h k => match as with
  | [.inl (.long w0), .inl (.long w2), .inl (.long w4)] => mv_rI (F2 w0 w2 w4 h) fun x h => k [.inl (.int x)] h
  | _ => none
def cN_isClothG_N_hang (F3 : Nat → Int32 → H2 → O2) : List mv_V → H2 → (List mv_V → H2 → O2) → O2 := fun as h k => match as with
  | [.inr (t0, o0), .inl (.int v1)] => mv_gd (Nat.beq t0 8) <| mv_rI (F3 o0 v1 h) fun x h => k [.inl (.int x)] h
  | _ => none
set_option maxRecDepth 100000 in
set_option maxHeartbeats 1000000 in
theorem eN_hang_g (F1 : Nat → Int32 → Int32 → Int32 → H2 → O2) (F2 : Int64 → Int64 → Int64 → H2 → O2) (F3 : Nat → Int32 → H2 → O2) (o0 : Nat) (v1 : Int32) (v2 : Int32) (h : H2) : mv_blk rI2 rR2 ln2 wI2 wR2 nw2 cp2 bod none tN_hang [((0, 0), cN_isClothG_N_hang F3), ((0, 0), cN_inG_N_hang F2), ((0, 0), cN_changedG_N_hang F1)] 0 0 [] (fun _ _ _ _ _ _ => none) 400 (mv_seek 0 tN_hang) [(0, Sum.inr (8, o0)), (1, Sum.inl (Value.int v1)), (2, Sum.inl (Value.int v2))] [] h 0 0 = (
  mv_rI (F3 o0 v1 h) fun r2 h1 =>
  if r2 = 0 then (
    some ([Sum.inl (Value.int (-(nI 1)))], h1))
  else
  mv_rI (F2 v2.toInt64 (lN 0) (lN 1) h1) fun r4 h3 =>
  if r4 = 0 then (
    some ([Sum.inl (Value.int (-(nI 1)))], h3))
  else
  mv_rI (F1 o0 v1 (nI 3) v2 h3) fun r6 h5 =>
  some ([Sum.inl (Value.int r6)], h5)) := rfl
theorem eN_hang (o0 : Nat) (v1 : Int32) (v2 : Int32) (h : H2) : mv_blk rI2 rR2 ln2 wI2 wR2 nw2 cp2 bod none tN_hang gN_hang 0 0 [] (fun _ _ _ _ _ _ => none) 400 (mv_seek 0 tN_hang) [(0, Sum.inr (8, o0)), (1, Sum.inl (Value.int v1)), (2, Sum.inl (Value.int v2))] [] h 0 0 = (
  mv_rI (fN_isCloth o0 v1 h) fun r2 h1 =>
  if r2 = 0 then (
    some ([Sum.inl (Value.int (-(nI 1)))], h1))
  else
  mv_rI (fN_in v2.toInt64 (lN 0) (lN 1) h1) fun r4 h3 =>
  if r4 = 0 then (
    some ([Sum.inl (Value.int (-(nI 1)))], h3))
  else
  mv_rI (fN_changed o0 v1 (nI 3) v2 h3) fun r6 h5 =>
  some ([Sum.inl (Value.int r6)], h5)) := eN_hang_g fN_changed fN_in fN_isCloth o0 v1 v2 h
theorem GN_hang : ∀ (j : Nat) (C : mv_C H2) (md' : mv_MD × Bool), mv_nth j gN_hang = some C → mv_nth j nN_hang = some md' → ∃ n', n' + 1 ≤ 3 ∧ mv_Cal vw2 n' md' C := fun j C md' => match j with
  | 0 => fun h1 h2 => by
    obtain rfl := Option.some.inj h1
    obtain rfl := Option.some.inj h2
    exact ⟨2, by decide, cN_isCloth_ok⟩
  | 1 => fun h1 h2 => by
    obtain rfl := Option.some.inj h1
    obtain rfl := Option.some.inj h2
    exact ⟨1, by decide, cN_in_ok⟩
  | 2 => fun h1 h2 => by
    obtain rfl := Option.some.inj h1
    obtain rfl := Option.some.inj h2
    exact ⟨2, by decide, cN_changed_ok⟩
  | jj + 3 => fun h1 _ => by cases jj <;> cases h1

set_option maxRecDepth 20000 in
theorem xN_hang {g0 : mv_G} {res : List mv_V × H2} (o0 : Nat) (v1 : Int32) (v2 : Int32) (h : H2) (hh : fN_hang o0 v1 v2 h = some res) : mv_X vw2 mdN_hang 3 0 0 none g0 res 0 [(0, Sum.inr (8, o0)), (1, Sum.inl (Value.int v1)), (2, Sum.inl (Value.int v2))] [] h 0 0 := by
  refine mv_blkX ax2 (GN_hang) (by decide) kN_hang (fun pc lv st h ce sl hh => ?_) ((eN_hang  o0 v1 v2 h).trans hh)
  cases hh

theorem mN_hang (o0 : Nat) (v1 : Int32) (v2 : Int32) (h : H2) (vs : List mv_V) (h' : H2) (hh : fN_hang o0 v1 v2 h = some (vs, h')) : mv_Met vw2 3 0 0 mdN_hang [Sum.inr (8, o0), Sum.inl (Value.int v1), Sum.inl (Value.int v2)] h vs h' :=
  mv_Met_of (by decide +kernel) (Nat.le_of_ble_eq_true rfl) (xN_hang o0 v1 v2 h hh)
set_option maxRecDepth 100000 in
theorem kN_dips : mv_tok mdN_dips nN_dips tN_dips = true := by decide +kernel
def cN_fightsOfG_N_dips (F1 : Nat → Int32 → Int32 → H2 → O2) : List mv_V → H2 → (List mv_V → H2 → O2) → O2 := fun as h k => match as with
  | [.inr (t0, o0), .inl (.int v1), .inl (.int v2)] => mv_gd (Nat.beq t0 8) <| mv_rI (F1 o0 v1 v2 h) fun x h => k [.inl (.int x)] h
  | _ => none
def cN_isDeepG_N_dips (F2 : Nat → Int32 → Int32 → H2 → O2) : List mv_V → H2 → (List mv_V → H2 → O2) → O2 := fun as h k => match as with
  | [.inr (t0, o0), .inl (.int v1), .inl (.int v2)] => mv_gd (Nat.beq t0 8) <| mv_rV (F2 o0 v1 v2 h) fun h => k [] h
  | _ => none
def cN_itsG_N_dips (F3 : Nat → Int32 → Int32 → H2 → O2) : List mv_V → H2 → (List mv_V → H2 → O2) → O2 := fun as h k => match as with
  | [.inr (t0, o0), .inl (.int v1), .inl (.int v2)] => mv_gd (Nat.beq t0 8) <| mv_rI (F3 o0 v1 v2 h) fun x h => k [.inl (.int x)] h
  | _ => none
def cN_setsG_N_dips (F4 : Nat → Int32 → Int32 → Int32 → H2 → O2) : List mv_V → H2 → (List mv_V → H2 → O2) → O2 := fun as h k => match as with
  | [.inr (t0, o0), .inl (.int v1), .inl (.int v2), .inl (.int v3)] => mv_gd (Nat.beq t0 8) <| mv_rV (F4 o0 v1 v2 v3 h) fun h => k [] h
  | _ => none
def cN_takesOfG_N_dips (F5 : Nat → Int32 → Int32 → H2 → O2) : List mv_V → H2 → (List mv_V → H2 → O2) → O2 := fun as h k => match as with
  | [.inr (t0, o0), .inl (.int v1), .inl (.int v2)] => mv_gd (Nat.beq t0 8) <| mv_rI (F5 o0 v1 v2 h) fun x h => k [.inl (.int x)] h
  | _ => none
set_option maxRecDepth 100000 in
set_option maxHeartbeats 1000000 in
theorem eN_dips_b108_g (F1 : Nat → Int32 → Int32 → H2 → O2) (F2 : Nat → Int32 → Int32 → H2 → O2) (F3 : Nat → Int32 → Int32 → H2 → O2) (F4 : Nat → Int32 → Int32 → Int32 → H2 → O2) (F5 : Nat → Int32 → Int32 → H2 → O2) (o0 : Nat) (v1 : Int32) (v2 : Int32) (v4 : Int32) (h : H2) : mv_blk rI2 rR2 ln2 wI2 wR2 nw2 cp2 bod none tN_dips [((0, 0), cN_itsG_N_dips F3), ((0, 0), cN_setsG_N_dips F4), ((0, 0), cN_takesOfG_N_dips F5), ((0, 0), cN_isDeepG_N_dips F2), ((0, 0), cN_fightsOfG_N_dips F1)] 0 0 [] (fun _ _ _ _ _ _ => none) 400 (mv_seek 108 tN_dips) [(0, Sum.inr (8, o0)), (1, Sum.inl (Value.int v1)), (2, Sum.inl (Value.int v2)), (4, Sum.inl (Value.int v4))] [] h 0 0 = (
  mv_rI (F3 o0 v1 (nI 4) h) fun r2 h1 =>
  mv_rV (F4 o0 v1 (nI 4) (if (r2 + (nI 1)) < (nI 9999) then (r2 + (nI 1)) else (nI 9999)) h1) fun h3 =>
  mv_gd (mv_inb ((nI 15) + v2) 69) <|
  mv_bh (wI2 h3 902 o0 ((nI 15) + v2).toNatClampNeg (if (nI 0) < (v4 - (nI 1)) then (v4 - (nI 1)) else (nI 0))) fun h4 =>
  some ([], h4)) := rfl
theorem eN_dips_b108 (o0 : Nat) (v1 : Int32) (v2 : Int32) (v4 : Int32) (h : H2) : mv_blk rI2 rR2 ln2 wI2 wR2 nw2 cp2 bod none tN_dips gN_dips 0 0 [] (fun _ _ _ _ _ _ => none) 400 (mv_seek 108 tN_dips) [(0, Sum.inr (8, o0)), (1, Sum.inl (Value.int v1)), (2, Sum.inl (Value.int v2)), (4, Sum.inl (Value.int v4))] [] h 0 0 = (
  mv_rI (fN_its o0 v1 (nI 4) h) fun r2 h1 =>
  mv_rV (fN_sets o0 v1 (nI 4) (if (r2 + (nI 1)) < (nI 9999) then (r2 + (nI 1)) else (nI 9999)) h1) fun h3 =>
  mv_gd (mv_inb ((nI 15) + v2) 69) <|
  mv_bh (wI2 h3 902 o0 ((nI 15) + v2).toNatClampNeg (if (nI 0) < (v4 - (nI 1)) then (v4 - (nI 1)) else (nI 0))) fun h4 =>
  some ([], h4)) := eN_dips_b108_g fN_fightsOf fN_isDeep fN_its fN_sets fN_takesOf o0 v1 v2 v4 h
set_option maxRecDepth 100000 in
set_option maxHeartbeats 1000000 in
theorem eN_dips_b49_g (F1 : Nat → Int32 → Int32 → H2 → O2) (F2 : Nat → Int32 → Int32 → H2 → O2) (F3 : Nat → Int32 → Int32 → H2 → O2) (F4 : Nat → Int32 → Int32 → Int32 → H2 → O2) (F5 : Nat → Int32 → Int32 → H2 → O2) (q108 : Nat → Int32 → Int32 → Int32 → H2 → O2) (o0 : Nat) (v1 : Int32) (v2 : Int32) (v3 : Int32) (v4 : Int32) (v5 : Int32) (h : H2) : mv_blk rI2 rR2 ln2 wI2 wR2 nw2 cp2 bod none tN_dips [((0, 0), cN_itsG_N_dips F3), ((0, 0), cN_setsG_N_dips F4), ((0, 0), cN_takesOfG_N_dips F5), ((0, 0), cN_isDeepG_N_dips F2), ((0, 0), cN_fightsOfG_N_dips F1)] 0 0 [108] (fun pc lv st h ce sl => mv_gd (Nat.beq ce 0 && Nat.beq sl 0) (cond (Nat.beq pc 108) (mv_gR 0 8 lv fun o0 => mv_gI 1 lv fun v1 => mv_gI 2 lv fun v2 => mv_gI 4 lv fun v4 => mv_sE st (q108 o0 v1 v2 v4 h)) (none))) 400 (mv_seek 49 tN_dips) [(0, Sum.inr (8, o0)), (1, Sum.inl (Value.int v1)), (2, Sum.inl (Value.int v2)), (3, Sum.inl (Value.int v3)), (4, Sum.inl (Value.int v4)), (5, Sum.inl (Value.int v5))] [] h 0 0 = (
  mv_rV (F4 o0 v1 (nI 1) v3 h) fun h1 =>
  mv_rI (F5 o0 v1 v4 h1) fun r3 h2 =>
  mv_rV (F2 o0 v1 (v5 + r3) h2) fun h4 =>
  q108 o0 v1 v2 v4 h4) := rfl
theorem eN_dips_b49 (q108 : Nat → Int32 → Int32 → Int32 → H2 → O2) (o0 : Nat) (v1 : Int32) (v2 : Int32) (v3 : Int32) (v4 : Int32) (v5 : Int32) (h : H2) : mv_blk rI2 rR2 ln2 wI2 wR2 nw2 cp2 bod none tN_dips gN_dips 0 0 [108] (fun pc lv st h ce sl => mv_gd (Nat.beq ce 0 && Nat.beq sl 0) (cond (Nat.beq pc 108) (mv_gR 0 8 lv fun o0 => mv_gI 1 lv fun v1 => mv_gI 2 lv fun v2 => mv_gI 4 lv fun v4 => mv_sE st (q108 o0 v1 v2 v4 h)) (none))) 400 (mv_seek 49 tN_dips) [(0, Sum.inr (8, o0)), (1, Sum.inl (Value.int v1)), (2, Sum.inl (Value.int v2)), (3, Sum.inl (Value.int v3)), (4, Sum.inl (Value.int v4)), (5, Sum.inl (Value.int v5))] [] h 0 0 = (
  mv_rV (fN_sets o0 v1 (nI 1) v3 h) fun h1 =>
  mv_rI (fN_takesOf o0 v1 v4 h1) fun r3 h2 =>
  mv_rV (fN_isDeep o0 v1 (v5 + r3) h2) fun h4 =>
  q108 o0 v1 v2 v4 h4) := eN_dips_b49_g fN_fightsOf fN_isDeep fN_its fN_sets fN_takesOf q108 o0 v1 v2 v3 v4 v5 h
set_option maxRecDepth 100000 in
set_option maxHeartbeats 1000000 in
theorem eN_dips_g (F1 : Nat → Int32 → Int32 → H2 → O2) (F2 : Nat → Int32 → Int32 → H2 → O2) (F3 : Nat → Int32 → Int32 → H2 → O2) (F4 : Nat → Int32 → Int32 → Int32 → H2 → O2) (F5 : Nat → Int32 → Int32 → H2 → O2) (q49 : Nat → Int32 → Int32 → Int32 → Int32 → Int32 → H2 → O2) (q108 : Nat → Int32 → Int32 → Int32 → H2 → O2) (o0 : Nat) (v1 : Int32) (v2 : Int32) (h : H2) : mv_blk rI2 rR2 ln2 wI2 wR2 nw2 cp2 bod none tN_dips [((0, 0), cN_itsG_N_dips F3), ((0, 0), cN_setsG_N_dips F4), ((0, 0), cN_takesOfG_N_dips F5), ((0, 0), cN_isDeepG_N_dips F2), ((0, 0), cN_fightsOfG_N_dips F1)] 0 0 [49, 108] (fun pc lv st h ce sl => mv_gd (Nat.beq ce 0 && Nat.beq sl 0) (cond (Nat.beq pc 49) (mv_gR 0 8 lv fun o0 => mv_gI 1 lv fun v1 => mv_gI 2 lv fun v2 => mv_gI 3 lv fun v3 => mv_gI 4 lv fun v4 => mv_gI 5 lv fun v5 => mv_sE st (q49 o0 v1 v2 v3 v4 v5 h)) (cond (Nat.beq pc 108) (mv_gR 0 8 lv fun o0 => mv_gI 1 lv fun v1 => mv_gI 2 lv fun v2 => mv_gI 4 lv fun v4 => mv_sE st (q108 o0 v1 v2 v4 h)) (none)))) 400 (mv_seek 0 tN_dips) [(0, Sum.inr (8, o0)), (1, Sum.inl (Value.int v1)), (2, Sum.inl (Value.int v2))] [] h 0 0 = (
  mv_gd (mv_inb ((nI 7) + v2) 69) <|
  mv_bi (rI2 h 902 o0 ((nI 7) + v2).toNatClampNeg) fun x1 =>
  mv_gd (mv_inb ((nI 15) + v2) 69) <|
  mv_bi (rI2 h 902 o0 ((nI 15) + v2).toNatClampNeg) fun x2 =>
  mv_rI (F3 o0 v1 (nI 2) h) fun r4 h3 =>
  mv_bi r4 fun x5 =>
  mv_rI (F3 o0 v1 (nI 1) h3) fun r7 h6 =>
  if r7 = (-(nI 1)) then (
    q49 o0 v1 v2 x1 x2 x5 h6)
  else
  mv_rI (F3 o0 v1 (nI 1) h6) fun r9 h8 =>
  if r9 = x1 then (
    q49 o0 v1 v2 x1 x2 x5 h8)
  else
  mv_rI (F1 o0 v1 x2 h8) fun r11 h10 =>
  mv_bi (x5 - r11) fun x12 =>
  if 0 ≤ x12 then (
    mv_rV (F2 o0 v1 (if 0 ≤ x12 then x12 else 0 - x12) h10) fun h13 =>
    q108 o0 v1 v2 x2 h13)
  else
  mv_rV (F4 o0 v1 (nI 1) x1 h10) fun h14 =>
  mv_rV (F2 o0 v1 (if 0 ≤ x12 then x12 else 0 - x12) h14) fun h15 =>
  q108 o0 v1 v2 x2 h15) := rfl
theorem eN_dips (q49 : Nat → Int32 → Int32 → Int32 → Int32 → Int32 → H2 → O2) (q108 : Nat → Int32 → Int32 → Int32 → H2 → O2) (o0 : Nat) (v1 : Int32) (v2 : Int32) (h : H2) : mv_blk rI2 rR2 ln2 wI2 wR2 nw2 cp2 bod none tN_dips gN_dips 0 0 [49, 108] (fun pc lv st h ce sl => mv_gd (Nat.beq ce 0 && Nat.beq sl 0) (cond (Nat.beq pc 49) (mv_gR 0 8 lv fun o0 => mv_gI 1 lv fun v1 => mv_gI 2 lv fun v2 => mv_gI 3 lv fun v3 => mv_gI 4 lv fun v4 => mv_gI 5 lv fun v5 => mv_sE st (q49 o0 v1 v2 v3 v4 v5 h)) (cond (Nat.beq pc 108) (mv_gR 0 8 lv fun o0 => mv_gI 1 lv fun v1 => mv_gI 2 lv fun v2 => mv_gI 4 lv fun v4 => mv_sE st (q108 o0 v1 v2 v4 h)) (none)))) 400 (mv_seek 0 tN_dips) [(0, Sum.inr (8, o0)), (1, Sum.inl (Value.int v1)), (2, Sum.inl (Value.int v2))] [] h 0 0 = (
  mv_gd (mv_inb ((nI 7) + v2) 69) <|
  mv_bi (rI2 h 902 o0 ((nI 7) + v2).toNatClampNeg) fun x1 =>
  mv_gd (mv_inb ((nI 15) + v2) 69) <|
  mv_bi (rI2 h 902 o0 ((nI 15) + v2).toNatClampNeg) fun x2 =>
  mv_rI (fN_its o0 v1 (nI 2) h) fun r4 h3 =>
  mv_bi r4 fun x5 =>
  mv_rI (fN_its o0 v1 (nI 1) h3) fun r7 h6 =>
  if r7 = (-(nI 1)) then (
    q49 o0 v1 v2 x1 x2 x5 h6)
  else
  mv_rI (fN_its o0 v1 (nI 1) h6) fun r9 h8 =>
  if r9 = x1 then (
    q49 o0 v1 v2 x1 x2 x5 h8)
  else
  mv_rI (fN_fightsOf o0 v1 x2 h8) fun r11 h10 =>
  mv_bi (x5 - r11) fun x12 =>
  if 0 ≤ x12 then (
    mv_rV (fN_isDeep o0 v1 (if 0 ≤ x12 then x12 else 0 - x12) h10) fun h13 =>
    q108 o0 v1 v2 x2 h13)
  else
  mv_rV (fN_sets o0 v1 (nI 1) x1 h10) fun h14 =>
  mv_rV (fN_isDeep o0 v1 (if 0 ≤ x12 then x12 else 0 - x12) h14) fun h15 =>
  q108 o0 v1 v2 x2 h15) := eN_dips_g fN_fightsOf fN_isDeep fN_its fN_sets fN_takesOf q49 q108 o0 v1 v2 h
theorem GN_dips : ∀ (j : Nat) (C : mv_C H2) (md' : mv_MD × Bool), mv_nth j gN_dips = some C → mv_nth j nN_dips = some md' → ∃ n', n' + 1 ≤ 3 ∧ mv_Cal vw2 n' md' C := fun j C md' => match j with
  | 0 => fun h1 h2 => by
    obtain rfl := Option.some.inj h1
    obtain rfl := Option.some.inj h2
    exact ⟨1, by decide, cN_its_ok⟩
  | 1 => fun h1 h2 => by
    obtain rfl := Option.some.inj h1
    obtain rfl := Option.some.inj h2
    exact ⟨1, by decide, cN_sets_ok⟩
  | 2 => fun h1 h2 => by
    obtain rfl := Option.some.inj h1
    obtain rfl := Option.some.inj h2
    exact ⟨2, by decide, cN_takesOf_ok⟩
  | 3 => fun h1 h2 => by
    obtain rfl := Option.some.inj h1
    obtain rfl := Option.some.inj h2
    exact ⟨2, by decide, cN_isDeep_ok⟩
  | 4 => fun h1 h2 => by
    obtain rfl := Option.some.inj h1
    obtain rfl := Option.some.inj h2
    exact ⟨2, by decide, cN_fightsOf_ok⟩
  | jj + 5 => fun h1 _ => by cases jj <;> cases h1

set_option maxRecDepth 20000 in
theorem xN_dips_b108 {g0 : mv_G} {res : List mv_V × H2} (o0 : Nat) (v1 : Int32) (v2 : Int32) (v4 : Int32) (h : H2) (hh : fN_dips_b108 o0 v1 v2 v4 h = some res) : mv_X vw2 mdN_dips 3 0 0 none g0 res 108 [(0, Sum.inr (8, o0)), (1, Sum.inl (Value.int v1)), (2, Sum.inl (Value.int v2)), (4, Sum.inl (Value.int v4))] [] h 0 0 := by
  refine mv_blkX ax2 (GN_dips) (by decide) kN_dips (fun pc lv st h ce sl hh => ?_) ((eN_dips_b108  o0 v1 v2 v4 h).trans hh)
  cases hh

set_option maxRecDepth 20000 in
theorem xN_dips_b49 {g0 : mv_G} {res : List mv_V × H2} (o0 : Nat) (v1 : Int32) (v2 : Int32) (v3 : Int32) (v4 : Int32) (v5 : Int32) (h : H2) (hh : fN_dips_b49 o0 v1 v2 v3 v4 v5 h = some res) : mv_X vw2 mdN_dips 3 0 0 none g0 res 49 [(0, Sum.inr (8, o0)), (1, Sum.inl (Value.int v1)), (2, Sum.inl (Value.int v2)), (3, Sum.inl (Value.int v3)), (4, Sum.inl (Value.int v4)), (5, Sum.inl (Value.int v5))] [] h 0 0 := by
  refine mv_blkX ax2 (GN_dips) (by decide) kN_dips (fun pc lv st h ce sl hh => ?_) ((eN_dips_b49 (fN_dips_b108) o0 v1 v2 v3 v4 v5 h).trans hh)
  obtain ⟨hg, hh1⟩ := mv_gd_some hh
  obtain ⟨rfl, rfl⟩ := mv_z2 hg
  rcases mv_cond_some hh1 with ⟨hb, hh2⟩ | ⟨hb, hh3⟩
  · obtain rfl := Nat.eq_of_beq_eq_true hb
    obtain ⟨o0, m0, hh4⟩ := mv_gR_some hh2
    obtain ⟨v1, m1, hh5⟩ := mv_gI_some hh4
    obtain ⟨v2, m2, hh6⟩ := mv_gI_some hh5
    obtain ⟨v4, m3, hh7⟩ := mv_gI_some hh6
    obtain ⟨rfl, hh8⟩ := mv_sE_some hh7
    exact (xN_dips_b108  o0 v1 v2 v4 h hh8).sub (List.forall_mem_cons.mpr ⟨m0, (List.forall_mem_cons.mpr ⟨m1, (List.forall_mem_cons.mpr ⟨m2, (List.forall_mem_cons.mpr ⟨m3, (fun q hq => by cases hq)⟩)⟩)⟩)⟩)
  cases hh3

set_option maxRecDepth 20000 in
theorem xN_dips {g0 : mv_G} {res : List mv_V × H2} (o0 : Nat) (v1 : Int32) (v2 : Int32) (h : H2) (hh : fN_dips o0 v1 v2 h = some res) : mv_X vw2 mdN_dips 3 0 0 none g0 res 0 [(0, Sum.inr (8, o0)), (1, Sum.inl (Value.int v1)), (2, Sum.inl (Value.int v2))] [] h 0 0 := by
  refine mv_blkX ax2 (GN_dips) (by decide) kN_dips (fun pc lv st h ce sl hh => ?_) ((eN_dips (fN_dips_b49) (fN_dips_b108) o0 v1 v2 h).trans hh)
  obtain ⟨hg, hh1⟩ := mv_gd_some hh
  obtain ⟨rfl, rfl⟩ := mv_z2 hg
  rcases mv_cond_some hh1 with ⟨hb, hh2⟩ | ⟨hb, hh3⟩
  · obtain rfl := Nat.eq_of_beq_eq_true hb
    obtain ⟨o0, m0, hh4⟩ := mv_gR_some hh2
    obtain ⟨v1, m1, hh5⟩ := mv_gI_some hh4
    obtain ⟨v2, m2, hh6⟩ := mv_gI_some hh5
    obtain ⟨v3, m3, hh7⟩ := mv_gI_some hh6
    obtain ⟨v4, m4, hh8⟩ := mv_gI_some hh7
    obtain ⟨v5, m5, hh9⟩ := mv_gI_some hh8
    obtain ⟨rfl, hh10⟩ := mv_sE_some hh9
    exact (xN_dips_b49  o0 v1 v2 v3 v4 v5 h hh10).sub (List.forall_mem_cons.mpr ⟨m0, (List.forall_mem_cons.mpr ⟨m1, (List.forall_mem_cons.mpr ⟨m2, (List.forall_mem_cons.mpr ⟨m3, (List.forall_mem_cons.mpr ⟨m4, (List.forall_mem_cons.mpr ⟨m5, (fun q hq => by cases hq)⟩)⟩)⟩)⟩)⟩)⟩)
  rcases mv_cond_some hh3 with ⟨hb, hh11⟩ | ⟨hb, hh12⟩
  · obtain rfl := Nat.eq_of_beq_eq_true hb
    obtain ⟨o0, m0, hh13⟩ := mv_gR_some hh11
    obtain ⟨v1, m1, hh14⟩ := mv_gI_some hh13
    obtain ⟨v2, m2, hh15⟩ := mv_gI_some hh14
    obtain ⟨v4, m3, hh16⟩ := mv_gI_some hh15
    obtain ⟨rfl, hh17⟩ := mv_sE_some hh16
    exact (xN_dips_b108  o0 v1 v2 v4 h hh17).sub (List.forall_mem_cons.mpr ⟨m0, (List.forall_mem_cons.mpr ⟨m1, (List.forall_mem_cons.mpr ⟨m2, (List.forall_mem_cons.mpr ⟨m3, (fun q hq => by cases hq)⟩)⟩)⟩)⟩)
  cases hh12

theorem mN_dips (o0 : Nat) (v1 : Int32) (v2 : Int32) (h : H2) (vs : List mv_V) (h' : H2) (hh : fN_dips o0 v1 v2 h = some (vs, h')) : mv_Met vw2 3 0 0 mdN_dips [Sum.inr (8, o0), Sum.inl (Value.int v1), Sum.inl (Value.int v2)] h vs h' :=
  mv_Met_of (by decide +kernel) (Nat.le_of_ble_eq_true rfl) (xN_dips o0 v1 v2 h hh)
theorem cN_dips_ok : mv_Cal vw2 3 (mdN_dips, true) ((0, 0), cN_dips) := by
  intro as h k res hh
  change cN_dips as h k = some res at hh
  unfold cN_dips at hh
  split at hh
  · obtain ⟨hg0, ha0⟩ := mv_gd_some hh
    obtain rfl := Nat.eq_of_beq_eq_true hg0
    obtain ⟨h', h1, h9⟩ := mv_rV_some ha0
    exact ⟨_, _, h9, (by first | decide | exact Nat.le_refl _ | exact Nat.zero_le _), fun _ => ⟨_, _, _, rfl, Or.inl ⟨by decide, rfl⟩⟩, (mN_dips _ _ _ h _ _ h1)⟩
  · cases hh

set_option maxRecDepth 100000 in
theorem kN_dip : mv_tok mdN_dip nN_dip tN_dip = true := by decide +kernel
def cN_dipsG_N_dip (F1 : Nat → Int32 → Int32 → H2 → O2) : List mv_V → H2 → (List mv_V → H2 → O2) → O2 := fun as h k => match as with
  | [.inr (t0, o0), .inl (.int v1), .inl (.int v2)] => mv_gd (Nat.beq t0 8) <| mv_rV (F1 o0 v1 v2 h) fun h => k [] h
  | _ => none
def cN_isClothG_N_dip (F2 : Nat → Int32 → H2 → O2) : List mv_V → H2 → (List mv_V → H2 → O2) → O2 := fun as h k => match as with
  | [.inr (t0, o0), .inl (.int v1)] => mv_gd (Nat.beq t0 8) <| mv_rI (F2 o0 v1 h) fun x h => k [.inl (.int x)] h
  | _ => none
def cN_isVatG_N_dip (F3 : Int32 → H2 → O2) : List mv_V → H2 → (List mv_V → H2 → O2) → O2 := fun as h k => match as with
  | [.inl (.int v0)] => mv_rI (F3 v0 h) fun x h => k [.inl (.int x)] h
  | _ => none
def cN_itsG_N_dip (F4 : Nat → Int32 → Int32 → H2 → O2) : List mv_V → H2 → (List mv_V → H2 → O2) → O2 := fun as h k => match as with
  | [.inr (t0, o0), .inl (.int v1), .inl (.int v2)] => mv_gd (Nat.beq t0 8) <| mv_rI (F4 o0 v1 v2 h) fun x h => k [.inl (.int x)] h
  | _ => none
set_option maxRecDepth 100000 in
set_option maxHeartbeats 1000000 in
theorem eN_dip_g (F1 : Nat → Int32 → Int32 → H2 → O2) (F2 : Nat → Int32 → H2 → O2) (F3 : Int32 → H2 → O2) (F4 : Nat → Int32 → Int32 → H2 → O2) (o0 : Nat) (v1 : Int32) (v2 : Int32) (h : H2) : mv_blk rI2 rR2 ln2 wI2 wR2 nw2 cp2 bod none tN_dip [((0, 0), cN_isClothG_N_dip F2), ((0, 0), cN_isVatG_N_dip F3), ((0, 0), cN_dipsG_N_dip F1), ((0, 0), cN_itsG_N_dip F4)] 0 0 [] (fun _ _ _ _ _ _ => none) 400 (mv_seek 0 tN_dip) [(0, Sum.inr (8, o0)), (1, Sum.inl (Value.int v1)), (2, Sum.inl (Value.int v2))] [] h 0 0 = (
  mv_rI (F2 o0 v1 h) fun r2 h1 =>
  if r2 = 0 then (
    some ([Sum.inl (Value.int (-(nI 1)))], h1))
  else
  mv_rI (F3 v2 h1) fun r4 h3 =>
  if r4 = 0 then (
    some ([Sum.inl (Value.int (-(nI 1)))], h3))
  else
  mv_rV (F1 o0 v1 v2 h3) fun h5 =>
  mv_rI (F4 o0 v1 (nI 1) h5) fun r7 h6 =>
  some ([Sum.inl (Value.int ((nI 1) + r7))], h6)) := rfl
theorem eN_dip (o0 : Nat) (v1 : Int32) (v2 : Int32) (h : H2) : mv_blk rI2 rR2 ln2 wI2 wR2 nw2 cp2 bod none tN_dip gN_dip 0 0 [] (fun _ _ _ _ _ _ => none) 400 (mv_seek 0 tN_dip) [(0, Sum.inr (8, o0)), (1, Sum.inl (Value.int v1)), (2, Sum.inl (Value.int v2))] [] h 0 0 = (
  mv_rI (fN_isCloth o0 v1 h) fun r2 h1 =>
  if r2 = 0 then (
    some ([Sum.inl (Value.int (-(nI 1)))], h1))
  else
  mv_rI (fN_isVat v2 h1) fun r4 h3 =>
  if r4 = 0 then (
    some ([Sum.inl (Value.int (-(nI 1)))], h3))
  else
  mv_rV (fN_dips o0 v1 v2 h3) fun h5 =>
  mv_rI (fN_its o0 v1 (nI 1) h5) fun r7 h6 =>
  some ([Sum.inl (Value.int ((nI 1) + r7))], h6)) := eN_dip_g fN_dips fN_isCloth fN_isVat fN_its o0 v1 v2 h
theorem GN_dip : ∀ (j : Nat) (C : mv_C H2) (md' : mv_MD × Bool), mv_nth j gN_dip = some C → mv_nth j nN_dip = some md' → ∃ n', n' + 1 ≤ 4 ∧ mv_Cal vw2 n' md' C := fun j C md' => match j with
  | 0 => fun h1 h2 => by
    obtain rfl := Option.some.inj h1
    obtain rfl := Option.some.inj h2
    exact ⟨2, by decide, cN_isCloth_ok⟩
  | 1 => fun h1 h2 => by
    obtain rfl := Option.some.inj h1
    obtain rfl := Option.some.inj h2
    exact ⟨2, by decide, cN_isVat_ok⟩
  | 2 => fun h1 h2 => by
    obtain rfl := Option.some.inj h1
    obtain rfl := Option.some.inj h2
    exact ⟨3, by decide, cN_dips_ok⟩
  | 3 => fun h1 h2 => by
    obtain rfl := Option.some.inj h1
    obtain rfl := Option.some.inj h2
    exact ⟨1, by decide, cN_its_ok⟩
  | jj + 4 => fun h1 _ => by cases jj <;> cases h1

set_option maxRecDepth 20000 in
theorem xN_dip {g0 : mv_G} {res : List mv_V × H2} (o0 : Nat) (v1 : Int32) (v2 : Int32) (h : H2) (hh : fN_dip o0 v1 v2 h = some res) : mv_X vw2 mdN_dip 4 0 0 none g0 res 0 [(0, Sum.inr (8, o0)), (1, Sum.inl (Value.int v1)), (2, Sum.inl (Value.int v2))] [] h 0 0 := by
  refine mv_blkX ax2 (GN_dip) (by decide) kN_dip (fun pc lv st h ce sl hh => ?_) ((eN_dip  o0 v1 v2 h).trans hh)
  cases hh

theorem mN_dip (o0 : Nat) (v1 : Int32) (v2 : Int32) (h : H2) (vs : List mv_V) (h' : H2) (hh : fN_dip o0 v1 v2 h = some (vs, h')) : mv_Met vw2 4 0 0 mdN_dip [Sum.inr (8, o0), Sum.inl (Value.int v1), Sum.inl (Value.int v2)] h vs h' :=
  mv_Met_of (by decide +kernel) (Nat.le_of_ble_eq_true rfl) (xN_dip o0 v1 v2 h hh)
set_option maxRecDepth 100000 in
theorem kN_aDay : mv_tok mdN_aDay nN_aDay tN_aDay = true := by decide +kernel
def cN_dipsG_N_aDay (F1 : Nat → Int32 → Int32 → H2 → O2) : List mv_V → H2 → (List mv_V → H2 → O2) → O2 := fun as h k => match as with
  | [.inr (t0, o0), .inl (.int v1), .inl (.int v2)] => mv_gd (Nat.beq t0 8) <| mv_rV (F1 o0 v1 v2 h) fun h => k [] h
  | _ => none
def cN_fadesOfG_N_aDay (F2 : Nat → Int32 → H2 → O2) : List mv_V → H2 → (List mv_V → H2 → O2) → O2 := fun as h k => match as with
  | [.inr (t0, o0), .inl (.int v1)] => mv_gd (Nat.beq t0 8) <| mv_rI (F2 o0 v1 h) fun x h => k [.inl (.int x)] h
  | _ => none
def cN_isDeepG_N_aDay (F3 : Nat → Int32 → Int32 → H2 → O2) : List mv_V → H2 → (List mv_V → H2 → O2) → O2 := fun as h k => match as with
  | [.inr (t0, o0), .inl (.int v1), .inl (.int v2)] => mv_gd (Nat.beq t0 8) <| mv_rV (F3 o0 v1 v2 h) fun h => k [] h
  | _ => none
def cN_itsG_N_aDay (F4 : Nat → Int32 → Int32 → H2 → O2) : List mv_V → H2 → (List mv_V → H2 → O2) → O2 := fun as h k => match as with
  | [.inr (t0, o0), .inl (.int v1), .inl (.int v2)] => mv_gd (Nat.beq t0 8) <| mv_rI (F4 o0 v1 v2 h) fun x h => k [.inl (.int x)] h
  | _ => none
set_option maxRecDepth 100000 in
set_option maxHeartbeats 1000000 in
theorem eN_aDay_b113_g (F1 : Nat → Int32 → Int32 → H2 → O2) (F2 : Nat → Int32 → H2 → O2) (F3 : Nat → Int32 → Int32 → H2 → O2) (F4 : Nat → Int32 → Int32 → H2 → O2) (q113 : Nat → Int32 → H2 → O2) (o0 : Nat) (v2 : Int32) (h : H2) : mv_blk rI2 rR2 ln2 wI2 wR2 nw2 cp2 bod none tN_aDay [((0, 0), cN_itsG_N_aDay F4), ((0, 0), cN_dipsG_N_aDay F1), ((0, 0), cN_fadesOfG_N_aDay F2), ((0, 0), cN_isDeepG_N_aDay F3)] 0 0 [113] (fun pc lv st h ce sl => mv_gd (Nat.beq ce 0 && Nat.beq sl 0) (cond (Nat.beq pc 113) (mv_gR 0 8 lv fun o0 => mv_gI 2 lv fun v2 => mv_sE st (q113 o0 v2 h)) (none))) 400 (mv_seek 113 tN_aDay) [(0, Sum.inr (8, o0)), (2, Sum.inl (Value.int v2))] [] h 0 0 = (
  if (nI 8) ≤ v2 then (
    mv_gd (mv_inb (nI 4) 69) <|
    mv_gd (mv_inb (nI 4) 69) <|
    mv_bh (wI2 h 902 o0 (nI 4).toNatClampNeg ((rI2 h 902 o0 (nI 4).toNatClampNeg) + (nI 1))) fun h1 =>
    some ([], h1))
  else
  mv_gd (mv_inb ((nI 15) + v2) 69) <|
  mv_gd (mv_inb ((nI 15) + v2) 69) <|
  mv_bh (wI2 h 902 o0 ((nI 15) + v2).toNatClampNeg (if ((rI2 h 902 o0 ((nI 15) + v2).toNatClampNeg) + (nI 1)) < (nI 9) then ((rI2 h 902 o0 ((nI 15) + v2).toNatClampNeg) + (nI 1)) else (nI 9))) fun h2 =>
  mv_bi (v2 + (nI 1)) fun x3 =>
  q113 o0 x3 h2) := rfl
theorem eN_aDay_b113 (q113 : Nat → Int32 → H2 → O2) (o0 : Nat) (v2 : Int32) (h : H2) : mv_blk rI2 rR2 ln2 wI2 wR2 nw2 cp2 bod none tN_aDay gN_aDay 0 0 [113] (fun pc lv st h ce sl => mv_gd (Nat.beq ce 0 && Nat.beq sl 0) (cond (Nat.beq pc 113) (mv_gR 0 8 lv fun o0 => mv_gI 2 lv fun v2 => mv_sE st (q113 o0 v2 h)) (none))) 400 (mv_seek 113 tN_aDay) [(0, Sum.inr (8, o0)), (2, Sum.inl (Value.int v2))] [] h 0 0 = (
  if (nI 8) ≤ v2 then (
    mv_gd (mv_inb (nI 4) 69) <|
    mv_gd (mv_inb (nI 4) 69) <|
    mv_bh (wI2 h 902 o0 (nI 4).toNatClampNeg ((rI2 h 902 o0 (nI 4).toNatClampNeg) + (nI 1))) fun h1 =>
    some ([], h1))
  else
  mv_gd (mv_inb ((nI 15) + v2) 69) <|
  mv_gd (mv_inb ((nI 15) + v2) 69) <|
  mv_bh (wI2 h 902 o0 ((nI 15) + v2).toNatClampNeg (if ((rI2 h 902 o0 ((nI 15) + v2).toNatClampNeg) + (nI 1)) < (nI 9) then ((rI2 h 902 o0 ((nI 15) + v2).toNatClampNeg) + (nI 1)) else (nI 9))) fun h2 =>
  mv_bi (v2 + (nI 1)) fun x3 =>
  q113 o0 x3 h2) := eN_aDay_b113_g fN_dips fN_fadesOf fN_isDeep fN_its q113 o0 v2 h
set_option maxRecDepth 100000 in
set_option maxHeartbeats 1000000 in
theorem eN_aDay_b58_g (F1 : Nat → Int32 → Int32 → H2 → O2) (F2 : Nat → Int32 → H2 → O2) (F3 : Nat → Int32 → Int32 → H2 → O2) (F4 : Nat → Int32 → Int32 → H2 → O2) (q58 : Nat → Int32 → H2 → O2) (q113 : Nat → Int32 → H2 → O2) (o0 : Nat) (v2 : Int32) (h : H2) : mv_blk rI2 rR2 ln2 wI2 wR2 nw2 cp2 bod none tN_aDay [((0, 0), cN_itsG_N_aDay F4), ((0, 0), cN_dipsG_N_aDay F1), ((0, 0), cN_fadesOfG_N_aDay F2), ((0, 0), cN_isDeepG_N_aDay F3)] 0 0 [58, 113] (fun pc lv st h ce sl => mv_gd (Nat.beq ce 0 && Nat.beq sl 0) (cond (Nat.beq pc 58) (mv_gR 0 8 lv fun o0 => mv_gI 2 lv fun v2 => mv_sE st (q58 o0 v2 h)) (cond (Nat.beq pc 113) (mv_gR 0 8 lv fun o0 => mv_gI 2 lv fun v2 => mv_sE st (q113 o0 v2 h)) (none)))) 400 (mv_seek 58 tN_aDay) [(0, Sum.inr (8, o0)), (2, Sum.inl (Value.int v2))] [] h 0 0 = (
  mv_gd (mv_inb (nI 6) 69) <|
  if (rI2 h 902 o0 (nI 6).toNatClampNeg) ≤ v2 then (
    mv_bi (nI 0) fun x1 =>
    q113 o0 x1 h)
  else
  mv_rI (F4 o0 v2 (nI 3) h) fun r3 h2 =>
  if r3 = (nI 1) then (
    mv_rI (F4 o0 v2 (nI 1) h2) fun r5 h4 =>
    if r5 < 0 then (
      mv_bi (v2 + (nI 1)) fun x6 =>
      q58 o0 x6 h4)
    else
    mv_rI (F4 o0 v2 (nI 2) h4) fun r8 h7 =>
    mv_rI (F2 o0 v2 h7) fun r10 h9 =>
    mv_rV (F3 o0 v2 (r8 - r10) h9) fun h11 =>
    mv_bi (v2 + (nI 1)) fun x12 =>
    q58 o0 x12 h11)
  else
  mv_bi (v2 + (nI 1)) fun x13 =>
  q58 o0 x13 h2) := rfl
theorem eN_aDay_b58 (q58 : Nat → Int32 → H2 → O2) (q113 : Nat → Int32 → H2 → O2) (o0 : Nat) (v2 : Int32) (h : H2) : mv_blk rI2 rR2 ln2 wI2 wR2 nw2 cp2 bod none tN_aDay gN_aDay 0 0 [58, 113] (fun pc lv st h ce sl => mv_gd (Nat.beq ce 0 && Nat.beq sl 0) (cond (Nat.beq pc 58) (mv_gR 0 8 lv fun o0 => mv_gI 2 lv fun v2 => mv_sE st (q58 o0 v2 h)) (cond (Nat.beq pc 113) (mv_gR 0 8 lv fun o0 => mv_gI 2 lv fun v2 => mv_sE st (q113 o0 v2 h)) (none)))) 400 (mv_seek 58 tN_aDay) [(0, Sum.inr (8, o0)), (2, Sum.inl (Value.int v2))] [] h 0 0 = (
  mv_gd (mv_inb (nI 6) 69) <|
  if (rI2 h 902 o0 (nI 6).toNatClampNeg) ≤ v2 then (
    mv_bi (nI 0) fun x1 =>
    q113 o0 x1 h)
  else
  mv_rI (fN_its o0 v2 (nI 3) h) fun r3 h2 =>
  if r3 = (nI 1) then (
    mv_rI (fN_its o0 v2 (nI 1) h2) fun r5 h4 =>
    if r5 < 0 then (
      mv_bi (v2 + (nI 1)) fun x6 =>
      q58 o0 x6 h4)
    else
    mv_rI (fN_its o0 v2 (nI 2) h4) fun r8 h7 =>
    mv_rI (fN_fadesOf o0 v2 h7) fun r10 h9 =>
    mv_rV (fN_isDeep o0 v2 (r8 - r10) h9) fun h11 =>
    mv_bi (v2 + (nI 1)) fun x12 =>
    q58 o0 x12 h11)
  else
  mv_bi (v2 + (nI 1)) fun x13 =>
  q58 o0 x13 h2) := eN_aDay_b58_g fN_dips fN_fadesOf fN_isDeep fN_its q58 q113 o0 v2 h
set_option maxRecDepth 100000 in
set_option maxHeartbeats 1000000 in
theorem eN_aDay_b20_g (F1 : Nat → Int32 → Int32 → H2 → O2) (F2 : Nat → Int32 → H2 → O2) (F3 : Nat → Int32 → Int32 → H2 → O2) (F4 : Nat → Int32 → Int32 → H2 → O2) (q20 : Nat → Int32 → Int32 → H2 → O2) (q58 : Nat → Int32 → H2 → O2) (o0 : Nat) (v1 : Int32) (v2 : Int32) (h : H2) : mv_blk rI2 rR2 ln2 wI2 wR2 nw2 cp2 bod none tN_aDay [((0, 0), cN_itsG_N_aDay F4), ((0, 0), cN_dipsG_N_aDay F1), ((0, 0), cN_fadesOfG_N_aDay F2), ((0, 0), cN_isDeepG_N_aDay F3)] 0 0 [20, 58] (fun pc lv st h ce sl => mv_gd (Nat.beq ce 0 && Nat.beq sl 0) (cond (Nat.beq pc 20) (mv_gR 0 8 lv fun o0 => mv_gI 1 lv fun v1 => mv_gI 2 lv fun v2 => mv_sE st (q20 o0 v1 v2 h)) (cond (Nat.beq pc 58) (mv_gR 0 8 lv fun o0 => mv_gI 2 lv fun v2 => mv_sE st (q58 o0 v2 h)) (none)))) 400 (mv_seek 20 tN_aDay) [(0, Sum.inr (8, o0)), (1, Sum.inl (Value.int v1)), (2, Sum.inl (Value.int v2))] [] h 0 0 = (
  if v1 < 0 then (
    mv_bi (nI 0) fun x1 =>
    q58 o0 x1 h)
  else
  mv_gd (mv_inb (nI 6) 69) <|
  if (rI2 h 902 o0 (nI 6).toNatClampNeg) ≤ v2 then (
    mv_bi (nI 0) fun x2 =>
    q58 o0 x2 h)
  else
  mv_rI (F4 o0 v2 (nI 3) h) fun r4 h3 =>
  if r4 = 0 then (
    mv_rV (F1 o0 v2 v1 h3) fun h5 =>
    mv_bi (v2 + (nI 1)) fun x6 =>
    q20 o0 v1 x6 h5)
  else
  mv_bi (v2 + (nI 1)) fun x7 =>
  q20 o0 v1 x7 h3) := rfl
theorem eN_aDay_b20 (q20 : Nat → Int32 → Int32 → H2 → O2) (q58 : Nat → Int32 → H2 → O2) (o0 : Nat) (v1 : Int32) (v2 : Int32) (h : H2) : mv_blk rI2 rR2 ln2 wI2 wR2 nw2 cp2 bod none tN_aDay gN_aDay 0 0 [20, 58] (fun pc lv st h ce sl => mv_gd (Nat.beq ce 0 && Nat.beq sl 0) (cond (Nat.beq pc 20) (mv_gR 0 8 lv fun o0 => mv_gI 1 lv fun v1 => mv_gI 2 lv fun v2 => mv_sE st (q20 o0 v1 v2 h)) (cond (Nat.beq pc 58) (mv_gR 0 8 lv fun o0 => mv_gI 2 lv fun v2 => mv_sE st (q58 o0 v2 h)) (none)))) 400 (mv_seek 20 tN_aDay) [(0, Sum.inr (8, o0)), (1, Sum.inl (Value.int v1)), (2, Sum.inl (Value.int v2))] [] h 0 0 = (
  if v1 < 0 then (
    mv_bi (nI 0) fun x1 =>
    q58 o0 x1 h)
  else
  mv_gd (mv_inb (nI 6) 69) <|
  if (rI2 h 902 o0 (nI 6).toNatClampNeg) ≤ v2 then (
    mv_bi (nI 0) fun x2 =>
    q58 o0 x2 h)
  else
  mv_rI (fN_its o0 v2 (nI 3) h) fun r4 h3 =>
  if r4 = 0 then (
    mv_rV (fN_dips o0 v2 v1 h3) fun h5 =>
    mv_bi (v2 + (nI 1)) fun x6 =>
    q20 o0 v1 x6 h5)
  else
  mv_bi (v2 + (nI 1)) fun x7 =>
  q20 o0 v1 x7 h3) := eN_aDay_b20_g fN_dips fN_fadesOf fN_isDeep fN_its q20 q58 o0 v1 v2 h
set_option maxRecDepth 100000 in
set_option maxHeartbeats 1000000 in
theorem eN_aDay_g (F1 : Nat → Int32 → Int32 → H2 → O2) (F2 : Nat → Int32 → H2 → O2) (F3 : Nat → Int32 → Int32 → H2 → O2) (F4 : Nat → Int32 → Int32 → H2 → O2) (q20 : Nat → Int32 → Int32 → H2 → O2) (o0 : Nat) (h : H2) : mv_blk rI2 rR2 ln2 wI2 wR2 nw2 cp2 bod none tN_aDay [((0, 0), cN_itsG_N_aDay F4), ((0, 0), cN_dipsG_N_aDay F1), ((0, 0), cN_fadesOfG_N_aDay F2), ((0, 0), cN_isDeepG_N_aDay F3)] 0 0 [20] (fun pc lv st h ce sl => mv_gd (Nat.beq ce 0 && Nat.beq sl 0) (cond (Nat.beq pc 20) (mv_gR 0 8 lv fun o0 => mv_gI 1 lv fun v1 => mv_gI 2 lv fun v2 => mv_sE st (q20 o0 v1 v2 h)) (none))) 400 (mv_seek 0 tN_aDay) [(0, Sum.inr (8, o0))] [] h 0 0 = (
  mv_gd (mv_inb (nI 4) 69) <|
  mv_gd (!decide ((nI 6) = 0)) <|
  mv_gd (mv_inb ((nI 23) + ((rI2 h 902 o0 (nI 4).toNatClampNeg) - (rI2 h 902 o0 (nI 4).toNatClampNeg) / (nI 6) * (nI 6))) 69) <|
  mv_bi (rI2 h 902 o0 ((nI 23) + ((rI2 h 902 o0 (nI 4).toNatClampNeg) - (rI2 h 902 o0 (nI 4).toNatClampNeg) / (nI 6) * (nI 6))).toNatClampNeg) fun x1 =>
  mv_bi (nI 0) fun x2 =>
  q20 o0 x1 x2 h) := rfl
theorem eN_aDay (q20 : Nat → Int32 → Int32 → H2 → O2) (o0 : Nat) (h : H2) : mv_blk rI2 rR2 ln2 wI2 wR2 nw2 cp2 bod none tN_aDay gN_aDay 0 0 [20] (fun pc lv st h ce sl => mv_gd (Nat.beq ce 0 && Nat.beq sl 0) (cond (Nat.beq pc 20) (mv_gR 0 8 lv fun o0 => mv_gI 1 lv fun v1 => mv_gI 2 lv fun v2 => mv_sE st (q20 o0 v1 v2 h)) (none))) 400 (mv_seek 0 tN_aDay) [(0, Sum.inr (8, o0))] [] h 0 0 = (
  mv_gd (mv_inb (nI 4) 69) <|
  mv_gd (!decide ((nI 6) = 0)) <|
  mv_gd (mv_inb ((nI 23) + ((rI2 h 902 o0 (nI 4).toNatClampNeg) - (rI2 h 902 o0 (nI 4).toNatClampNeg) / (nI 6) * (nI 6))) 69) <|
  mv_bi (rI2 h 902 o0 ((nI 23) + ((rI2 h 902 o0 (nI 4).toNatClampNeg) - (rI2 h 902 o0 (nI 4).toNatClampNeg) / (nI 6) * (nI 6))).toNatClampNeg) fun x1 =>
  mv_bi (nI 0) fun x2 =>
  q20 o0 x1 x2 h) := eN_aDay_g fN_dips fN_fadesOf fN_isDeep fN_its q20 o0 h
theorem GN_aDay : ∀ (j : Nat) (C : mv_C H2) (md' : mv_MD × Bool), mv_nth j gN_aDay = some C → mv_nth j nN_aDay = some md' → ∃ n', n' + 1 ≤ 4 ∧ mv_Cal vw2 n' md' C := fun j C md' => match j with
  | 0 => fun h1 h2 => by
    obtain rfl := Option.some.inj h1
    obtain rfl := Option.some.inj h2
    exact ⟨1, by decide, cN_its_ok⟩
  | 1 => fun h1 h2 => by
    obtain rfl := Option.some.inj h1
    obtain rfl := Option.some.inj h2
    exact ⟨3, by decide, cN_dips_ok⟩
  | 2 => fun h1 h2 => by
    obtain rfl := Option.some.inj h1
    obtain rfl := Option.some.inj h2
    exact ⟨2, by decide, cN_fadesOf_ok⟩
  | 3 => fun h1 h2 => by
    obtain rfl := Option.some.inj h1
    obtain rfl := Option.some.inj h2
    exact ⟨2, by decide, cN_isDeep_ok⟩
  | jj + 4 => fun h1 _ => by cases jj <;> cases h1

set_option maxRecDepth 20000 in
theorem xN_aDay_b113 {g0 : mv_G} {res : List mv_V × H2} : ∀ (n : Nat) (o0 : Nat) (v2 : Int32) (h : H2), fN_aDay_b113 n o0 v2 h = some res → mv_X vw2 mdN_aDay 4 0 0 none g0 res 113 [(0, Sum.inr (8, o0)), (2, Sum.inl (Value.int v2))] [] h 0 0 := by
  intro n
  induction n with
  | zero => intro o0 v2 h hh; cases hh
  | succ n ih =>
    intro o0 v2 h hh
    refine mv_blkX ax2 (GN_aDay) (by decide) kN_aDay (fun pc lv st h ce sl hh => ?_) ((eN_aDay_b113 (fN_aDay_b113 n) o0 v2 h).trans hh)
    obtain ⟨hg, hh1⟩ := mv_gd_some hh
    obtain ⟨rfl, rfl⟩ := mv_z2 hg
    rcases mv_cond_some hh1 with ⟨hb, hh2⟩ | ⟨hb, hh3⟩
    · obtain rfl := Nat.eq_of_beq_eq_true hb
      obtain ⟨o0, m0, hh4⟩ := mv_gR_some hh2
      obtain ⟨v2, m1, hh5⟩ := mv_gI_some hh4
      obtain ⟨rfl, hh6⟩ := mv_sE_some hh5
      exact (ih o0 v2 h hh6).sub (List.forall_mem_cons.mpr ⟨m0, (List.forall_mem_cons.mpr ⟨m1, (fun q hq => by cases hq)⟩)⟩)
    cases hh3

set_option maxRecDepth 20000 in
theorem xN_aDay_b58 {g0 : mv_G} {res : List mv_V × H2} : ∀ (n : Nat) (o0 : Nat) (v2 : Int32) (h : H2), fN_aDay_b58 n o0 v2 h = some res → mv_X vw2 mdN_aDay 4 0 0 none g0 res 58 [(0, Sum.inr (8, o0)), (2, Sum.inl (Value.int v2))] [] h 0 0 := by
  intro n
  induction n with
  | zero => intro o0 v2 h hh; cases hh
  | succ n ih =>
    intro o0 v2 h hh
    refine mv_blkX ax2 (GN_aDay) (by decide) kN_aDay (fun pc lv st h ce sl hh => ?_) ((eN_aDay_b58 (fN_aDay_b58 n) (fN_aDay_b113 1000) o0 v2 h).trans hh)
    obtain ⟨hg, hh1⟩ := mv_gd_some hh
    obtain ⟨rfl, rfl⟩ := mv_z2 hg
    rcases mv_cond_some hh1 with ⟨hb, hh2⟩ | ⟨hb, hh3⟩
    · obtain rfl := Nat.eq_of_beq_eq_true hb
      obtain ⟨o0, m0, hh4⟩ := mv_gR_some hh2
      obtain ⟨v2, m1, hh5⟩ := mv_gI_some hh4
      obtain ⟨rfl, hh6⟩ := mv_sE_some hh5
      exact (ih o0 v2 h hh6).sub (List.forall_mem_cons.mpr ⟨m0, (List.forall_mem_cons.mpr ⟨m1, (fun q hq => by cases hq)⟩)⟩)
    rcases mv_cond_some hh3 with ⟨hb, hh7⟩ | ⟨hb, hh8⟩
    · obtain rfl := Nat.eq_of_beq_eq_true hb
      obtain ⟨o0, m0, hh9⟩ := mv_gR_some hh7
      obtain ⟨v2, m1, hh10⟩ := mv_gI_some hh9
      obtain ⟨rfl, hh11⟩ := mv_sE_some hh10
      exact (xN_aDay_b113 1000 o0 v2 h hh11).sub (List.forall_mem_cons.mpr ⟨m0, (List.forall_mem_cons.mpr ⟨m1, (fun q hq => by cases hq)⟩)⟩)
    cases hh8

set_option maxRecDepth 20000 in
theorem xN_aDay_b20 {g0 : mv_G} {res : List mv_V × H2} : ∀ (n : Nat) (o0 : Nat) (v1 : Int32) (v2 : Int32) (h : H2), fN_aDay_b20 n o0 v1 v2 h = some res → mv_X vw2 mdN_aDay 4 0 0 none g0 res 20 [(0, Sum.inr (8, o0)), (1, Sum.inl (Value.int v1)), (2, Sum.inl (Value.int v2))] [] h 0 0 := by
  intro n
  induction n with
  | zero => intro o0 v1 v2 h hh; cases hh
  | succ n ih =>
    intro o0 v1 v2 h hh
    refine mv_blkX ax2 (GN_aDay) (by decide) kN_aDay (fun pc lv st h ce sl hh => ?_) ((eN_aDay_b20 (fN_aDay_b20 n) (fN_aDay_b58 1000) o0 v1 v2 h).trans hh)
    obtain ⟨hg, hh1⟩ := mv_gd_some hh
    obtain ⟨rfl, rfl⟩ := mv_z2 hg
    rcases mv_cond_some hh1 with ⟨hb, hh2⟩ | ⟨hb, hh3⟩
    · obtain rfl := Nat.eq_of_beq_eq_true hb
      obtain ⟨o0, m0, hh4⟩ := mv_gR_some hh2
      obtain ⟨v1, m1, hh5⟩ := mv_gI_some hh4
      obtain ⟨v2, m2, hh6⟩ := mv_gI_some hh5
      obtain ⟨rfl, hh7⟩ := mv_sE_some hh6
      exact (ih o0 v1 v2 h hh7).sub (List.forall_mem_cons.mpr ⟨m0, (List.forall_mem_cons.mpr ⟨m1, (List.forall_mem_cons.mpr ⟨m2, (fun q hq => by cases hq)⟩)⟩)⟩)
    rcases mv_cond_some hh3 with ⟨hb, hh8⟩ | ⟨hb, hh9⟩
    · obtain rfl := Nat.eq_of_beq_eq_true hb
      obtain ⟨o0, m0, hh10⟩ := mv_gR_some hh8
      obtain ⟨v2, m1, hh11⟩ := mv_gI_some hh10
      obtain ⟨rfl, hh12⟩ := mv_sE_some hh11
      exact (xN_aDay_b58 1000 o0 v2 h hh12).sub (List.forall_mem_cons.mpr ⟨m0, (List.forall_mem_cons.mpr ⟨m1, (fun q hq => by cases hq)⟩)⟩)
    cases hh9

set_option maxRecDepth 20000 in
theorem xN_aDay {g0 : mv_G} {res : List mv_V × H2} (o0 : Nat) (h : H2) (hh : fN_aDay o0 h = some res) : mv_X vw2 mdN_aDay 4 0 0 none g0 res 0 [(0, Sum.inr (8, o0))] [] h 0 0 := by
  refine mv_blkX ax2 (GN_aDay) (by decide) kN_aDay (fun pc lv st h ce sl hh => ?_) ((eN_aDay (fN_aDay_b20 1000) o0 h).trans hh)
  obtain ⟨hg, hh1⟩ := mv_gd_some hh
  obtain ⟨rfl, rfl⟩ := mv_z2 hg
  rcases mv_cond_some hh1 with ⟨hb, hh2⟩ | ⟨hb, hh3⟩
  · obtain rfl := Nat.eq_of_beq_eq_true hb
    obtain ⟨o0, m0, hh4⟩ := mv_gR_some hh2
    obtain ⟨v1, m1, hh5⟩ := mv_gI_some hh4
    obtain ⟨v2, m2, hh6⟩ := mv_gI_some hh5
    obtain ⟨rfl, hh7⟩ := mv_sE_some hh6
    exact (xN_aDay_b20 1000 o0 v1 v2 h hh7).sub (List.forall_mem_cons.mpr ⟨m0, (List.forall_mem_cons.mpr ⟨m1, (List.forall_mem_cons.mpr ⟨m2, (fun q hq => by cases hq)⟩)⟩)⟩)
  cases hh3

theorem mN_aDay (o0 : Nat) (h : H2) (vs : List mv_V) (h' : H2) (hh : fN_aDay o0 h = some (vs, h')) : mv_Met vw2 4 0 0 mdN_aDay [Sum.inr (8, o0)] h vs h' :=
  mv_Met_of (by decide +kernel) (Nat.le_of_ble_eq_true rfl) (xN_aDay o0 h hh)
theorem cN_aDay_ok : mv_Cal vw2 4 (mdN_aDay, true) ((0, 0), cN_aDay) := by
  intro as h k res hh
  change cN_aDay as h k = some res at hh
  unfold cN_aDay at hh
  split at hh
  · obtain ⟨hg0, ha0⟩ := mv_gd_some hh
    obtain rfl := Nat.eq_of_beq_eq_true hg0
    obtain ⟨h', h1, h9⟩ := mv_rV_some ha0
    exact ⟨_, _, h9, (by first | decide | exact Nat.le_refl _ | exact Nat.zero_le _), fun _ => ⟨_, _, _, rfl, Or.inl ⟨by decide, rfl⟩⟩, (mN_aDay _ h _ _ h1)⟩
  · cases hh

