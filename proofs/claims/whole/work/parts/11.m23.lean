set_option maxRecDepth 100000 in
theorem kN_hope : mv_tok mdN_hope nN_hope tN_hope = true := by decide +kernel
def cN_inG_N_hope (F1 : Int64 → Int64 → Int64 → H2 → O2) : List mv_V → H2 → (List mv_V → H2 → O2) → O2 := fun as h k => match as with
  | [.inl (.long w0), .inl (.long w2), .inl (.long w4)] => mv_rI (F1 w0 w2 w4 h) fun x h => k [.inl (.int x)] h
  | _ => none
def cN_lowestG_N_hope (F2 : Int64 → Int64 → Int32 → H2 → O2) : List mv_V → H2 → (List mv_V → H2 → O2) → O2 := fun as h k => match as with
  | [.inl (.long w0), .inl (.long w2), .inl (.int v4)] => mv_rL (F2 w0 w2 v4 h) fun x h => k [.inl (.long x)] h
  | _ => none
set_option maxRecDepth 100000 in
set_option maxHeartbeats 1000000 in
theorem eN_hope_g (F1 : Int64 → Int64 → Int64 → H2 → O2) (F2 : Int64 → Int64 → Int32 → H2 → O2) (o0 : Nat) (v1 : Int32) (v2 : Int32) (h : H2) : mv_blk rI2 rR2 ln2 wI2 wR2 nw2 cp2 bod none tN_hope [((0, 0), cN_inG_N_hope F1), ((0, 0), cN_lowestG_N_hope F2)] 0 0 [] (fun _ _ _ _ _ _ => none) 400 (mv_seek 0 tN_hope) [(0, Sum.inr (8, o0)), (1, Sum.inl (Value.int v1)), (2, Sum.inl (Value.int v2))] [] h 0 0 = (
  mv_rI (F1 v1.toInt64 (lN 0) (lN 99) h) fun r2 h1 =>
  if r2 = 0 then (
    some ([Sum.inl (Value.long (-(lN 1)))], h1))
  else
  mv_rI (F1 v2.toInt64 (lN 0) (lN 1) h1) fun r4 h3 =>
  if r4 = 0 then (
    some ([Sum.inl (Value.long (-(lN 1)))], h3))
  else
  mv_gd (mv_inb (nI 3) 69) <|
  mv_rL (F2 (v1.toInt64 * ((rI2 h3 902 o0 (nI 3).toNatClampNeg).toInt64)) (lN 100) v2 h3) fun r6 h5 =>
  some ([Sum.inl (Value.long r6)], h5)) := rfl
theorem eN_hope (o0 : Nat) (v1 : Int32) (v2 : Int32) (h : H2) : mv_blk rI2 rR2 ln2 wI2 wR2 nw2 cp2 bod none tN_hope gN_hope 0 0 [] (fun _ _ _ _ _ _ => none) 400 (mv_seek 0 tN_hope) [(0, Sum.inr (8, o0)), (1, Sum.inl (Value.int v1)), (2, Sum.inl (Value.int v2))] [] h 0 0 = (
  mv_rI (fN_in v1.toInt64 (lN 0) (lN 99) h) fun r2 h1 =>
  if r2 = 0 then (
    some ([Sum.inl (Value.long (-(lN 1)))], h1))
  else
  mv_rI (fN_in v2.toInt64 (lN 0) (lN 1) h1) fun r4 h3 =>
  if r4 = 0 then (
    some ([Sum.inl (Value.long (-(lN 1)))], h3))
  else
  mv_gd (mv_inb (nI 3) 69) <|
  mv_rL (fN_lowest (v1.toInt64 * ((rI2 h3 902 o0 (nI 3).toNatClampNeg).toInt64)) (lN 100) v2 h3) fun r6 h5 =>
  some ([Sum.inl (Value.long r6)], h5)) := eN_hope_g fN_in fN_lowest o0 v1 v2 h
theorem GN_hope : ∀ (j : Nat) (C : mv_C H2) (md' : mv_MD × Bool), mv_nth j gN_hope = some C → mv_nth j nN_hope = some md' → ∃ n', n' + 1 ≤ 2 ∧ mv_Cal vw2 n' md' C := fun j C md' => match j with
  | 0 => fun h1 h2 => by
    obtain rfl := Option.some.inj h1
    obtain rfl := Option.some.inj h2
    exact ⟨1, by decide, cN_in_ok⟩
  | 1 => fun h1 h2 => by
    obtain rfl := Option.some.inj h1
    obtain rfl := Option.some.inj h2
    exact ⟨1, by decide, cN_lowest_ok⟩
  | jj + 2 => fun h1 _ => by cases jj <;> cases h1

set_option maxRecDepth 20000 in
theorem xN_hope {g0 : mv_G} {res : List mv_V × H2} (o0 : Nat) (v1 : Int32) (v2 : Int32) (h : H2) (hh : fN_hope o0 v1 v2 h = some res) : mv_X vw2 mdN_hope 2 0 0 none g0 res 0 [(0, Sum.inr (8, o0)), (1, Sum.inl (Value.int v1)), (2, Sum.inl (Value.int v2))] [] h 0 0 := by
  refine mv_blkX ax2 (GN_hope) (by decide) kN_hope (fun pc lv st h ce sl hh => ?_) ((eN_hope  o0 v1 v2 h).trans hh)
  cases hh

theorem mN_hope (o0 : Nat) (v1 : Int32) (v2 : Int32) (h : H2) (vs : List mv_V) (h' : H2) (hh : fN_hope o0 v1 v2 h = some (vs, h')) : mv_Met vw2 2 0 0 mdN_hope [Sum.inr (8, o0), Sum.inl (Value.int v1), Sum.inl (Value.int v2)] h vs h' :=
  mv_Met_of (by decide +kernel) (Nat.le_of_ble_eq_true rfl) (xN_hope o0 v1 v2 h hh)
set_option maxRecDepth 100000 in
theorem kN_feed : mv_tok mdN_feed nN_feed tN_feed = true := by decide +kernel
def cN_inG_N_feed (F1 : Int64 → Int64 → Int64 → H2 → O2) : List mv_V → H2 → (List mv_V → H2 → O2) → O2 := fun as h k => match as with
  | [.inl (.long w0), .inl (.long w2), .inl (.long w4)] => mv_rI (F1 w0 w2 w4 h) fun x h => k [.inl (.int x)] h
  | _ => none
set_option maxRecDepth 100000 in
set_option maxHeartbeats 1000000 in
theorem eN_feed_b32_g (F1 : Int64 → Int64 → Int64 → H2 → O2) (q32 : Nat → Int64 → Int32 → Int32 → H2 → O2) (o0 : Nat) (w1 : Int64) (v3 : Int32) (v4 : Int32) (h : H2) : mv_blk rI2 rR2 ln2 wI2 wR2 nw2 cp2 bod none tN_feed [((0, 0), cN_inG_N_feed F1)] 0 0 [32] (fun pc lv st h ce sl => mv_gd (Nat.beq ce 0 && Nat.beq sl 0) (cond (Nat.beq pc 32) (mv_gR 0 8 lv fun o0 => mv_gL 1 lv fun w1 => mv_gI 3 lv fun v3 => mv_gI 4 lv fun v4 => mv_sE st (q32 o0 w1 v3 v4 h)) (none))) 400 (mv_seek 32 tN_feed) [(0, Sum.inr (8, o0)), (1, Sum.inl (Value.long w1)), (3, Sum.inl (Value.int v3)), (4, Sum.inl (Value.int v4))] [] h 0 0 = (
  if v3 ≤ v4 then (
    some ([Sum.inl (Value.int (rI2 h 8 o0 7))], h))
  else
  mv_gd (mv_inb (rI2 h 8 o0 7) 200) <|
  mv_bh (wI2 h 906 o0 (rI2 h 8 o0 7).toNatClampNeg (((w1 >>> (((nI 8) * v4).toInt64 &&& 63)) &&& (lN 255)).toInt32)) fun h1 =>
  mv_bh (wI2 h1 8 o0 7 ((rI2 h1 8 o0 7) + (nI 1))) fun h2 =>
  mv_bi (v4 + (nI 1)) fun x3 =>
  q32 o0 w1 v3 x3 h2) := rfl
theorem eN_feed_b32 (q32 : Nat → Int64 → Int32 → Int32 → H2 → O2) (o0 : Nat) (w1 : Int64) (v3 : Int32) (v4 : Int32) (h : H2) : mv_blk rI2 rR2 ln2 wI2 wR2 nw2 cp2 bod none tN_feed gN_feed 0 0 [32] (fun pc lv st h ce sl => mv_gd (Nat.beq ce 0 && Nat.beq sl 0) (cond (Nat.beq pc 32) (mv_gR 0 8 lv fun o0 => mv_gL 1 lv fun w1 => mv_gI 3 lv fun v3 => mv_gI 4 lv fun v4 => mv_sE st (q32 o0 w1 v3 v4 h)) (none))) 400 (mv_seek 32 tN_feed) [(0, Sum.inr (8, o0)), (1, Sum.inl (Value.long w1)), (3, Sum.inl (Value.int v3)), (4, Sum.inl (Value.int v4))] [] h 0 0 = (
  if v3 ≤ v4 then (
    some ([Sum.inl (Value.int (rI2 h 8 o0 7))], h))
  else
  mv_gd (mv_inb (rI2 h 8 o0 7) 200) <|
  mv_bh (wI2 h 906 o0 (rI2 h 8 o0 7).toNatClampNeg (((w1 >>> (((nI 8) * v4).toInt64 &&& 63)) &&& (lN 255)).toInt32)) fun h1 =>
  mv_bh (wI2 h1 8 o0 7 ((rI2 h1 8 o0 7) + (nI 1))) fun h2 =>
  mv_bi (v4 + (nI 1)) fun x3 =>
  q32 o0 w1 v3 x3 h2) := eN_feed_b32_g fN_in q32 o0 w1 v3 v4 h
set_option maxRecDepth 100000 in
set_option maxHeartbeats 1000000 in
theorem eN_feed_g (F1 : Int64 → Int64 → Int64 → H2 → O2) (q32 : Nat → Int64 → Int32 → Int32 → H2 → O2) (o0 : Nat) (w1 : Int64) (v3 : Int32) (h : H2) : mv_blk rI2 rR2 ln2 wI2 wR2 nw2 cp2 bod none tN_feed [((0, 0), cN_inG_N_feed F1)] 0 0 [32] (fun pc lv st h ce sl => mv_gd (Nat.beq ce 0 && Nat.beq sl 0) (cond (Nat.beq pc 32) (mv_gR 0 8 lv fun o0 => mv_gL 1 lv fun w1 => mv_gI 3 lv fun v3 => mv_gI 4 lv fun v4 => mv_sE st (q32 o0 w1 v3 v4 h)) (none))) 400 (mv_seek 0 tN_feed) [(0, Sum.inr (8, o0)), (1, Sum.inl (Value.long w1)), (3, Sum.inl (Value.int v3))] [] h 0 0 = (
  mv_rI (F1 v3.toInt64 (lN 1) (lN 8) h) fun r2 h1 =>
  if r2 = 0 then (
    some ([Sum.inl (Value.int (-(nI 1)))], h1))
  else
  if ((rI2 h1 8 o0 7) + v3) ≤ (nI 200) then (
    mv_bi (nI 0) fun x3 =>
    q32 o0 w1 v3 x3 h1)
  else
  some ([Sum.inl (Value.int (-(nI 2)))], h1)) := rfl
theorem eN_feed (q32 : Nat → Int64 → Int32 → Int32 → H2 → O2) (o0 : Nat) (w1 : Int64) (v3 : Int32) (h : H2) : mv_blk rI2 rR2 ln2 wI2 wR2 nw2 cp2 bod none tN_feed gN_feed 0 0 [32] (fun pc lv st h ce sl => mv_gd (Nat.beq ce 0 && Nat.beq sl 0) (cond (Nat.beq pc 32) (mv_gR 0 8 lv fun o0 => mv_gL 1 lv fun w1 => mv_gI 3 lv fun v3 => mv_gI 4 lv fun v4 => mv_sE st (q32 o0 w1 v3 v4 h)) (none))) 400 (mv_seek 0 tN_feed) [(0, Sum.inr (8, o0)), (1, Sum.inl (Value.long w1)), (3, Sum.inl (Value.int v3))] [] h 0 0 = (
  mv_rI (fN_in v3.toInt64 (lN 1) (lN 8) h) fun r2 h1 =>
  if r2 = 0 then (
    some ([Sum.inl (Value.int (-(nI 1)))], h1))
  else
  if ((rI2 h1 8 o0 7) + v3) ≤ (nI 200) then (
    mv_bi (nI 0) fun x3 =>
    q32 o0 w1 v3 x3 h1)
  else
  some ([Sum.inl (Value.int (-(nI 2)))], h1)) := eN_feed_g fN_in q32 o0 w1 v3 h
theorem GN_feed : ∀ (j : Nat) (C : mv_C H2) (md' : mv_MD × Bool), mv_nth j gN_feed = some C → mv_nth j nN_feed = some md' → ∃ n', n' + 1 ≤ 2 ∧ mv_Cal vw2 n' md' C := fun j C md' => match j with
  | 0 => fun h1 h2 => by
    obtain rfl := Option.some.inj h1
    obtain rfl := Option.some.inj h2
    exact ⟨1, by decide, cN_in_ok⟩
  | jj + 1 => fun h1 _ => by cases jj <;> cases h1

set_option maxRecDepth 20000 in
theorem xN_feed_b32 {g0 : mv_G} {res : List mv_V × H2} : ∀ (n : Nat) (o0 : Nat) (w1 : Int64) (v3 : Int32) (v4 : Int32) (h : H2), fN_feed_b32 n o0 w1 v3 v4 h = some res → mv_X vw2 mdN_feed 2 0 0 none g0 res 32 [(0, Sum.inr (8, o0)), (1, Sum.inl (Value.long w1)), (3, Sum.inl (Value.int v3)), (4, Sum.inl (Value.int v4))] [] h 0 0 := by
  intro n
  induction n with
  | zero => intro o0 w1 v3 v4 h hh; cases hh
  | succ n ih =>
    intro o0 w1 v3 v4 h hh
    refine mv_blkX ax2 (GN_feed) (by decide) kN_feed (fun pc lv st h ce sl hh => ?_) ((eN_feed_b32 (fN_feed_b32 n) o0 w1 v3 v4 h).trans hh)
    obtain ⟨hg, hh1⟩ := mv_gd_some hh
    obtain ⟨rfl, rfl⟩ := mv_z2 hg
    rcases mv_cond_some hh1 with ⟨hb, hh2⟩ | ⟨hb, hh3⟩
    · obtain rfl := Nat.eq_of_beq_eq_true hb
      obtain ⟨o0, m0, hh4⟩ := mv_gR_some hh2
      obtain ⟨w1, m1, hh5⟩ := mv_gL_some hh4
      obtain ⟨v3, m2, hh6⟩ := mv_gI_some hh5
      obtain ⟨v4, m3, hh7⟩ := mv_gI_some hh6
      obtain ⟨rfl, hh8⟩ := mv_sE_some hh7
      exact (ih o0 w1 v3 v4 h hh8).sub (List.forall_mem_cons.mpr ⟨m0, (List.forall_mem_cons.mpr ⟨m1, (List.forall_mem_cons.mpr ⟨m2, (List.forall_mem_cons.mpr ⟨m3, (fun q hq => by cases hq)⟩)⟩)⟩)⟩)
    cases hh3

set_option maxRecDepth 20000 in
theorem xN_feed {g0 : mv_G} {res : List mv_V × H2} (o0 : Nat) (w1 : Int64) (v3 : Int32) (h : H2) (hh : fN_feed o0 w1 v3 h = some res) : mv_X vw2 mdN_feed 2 0 0 none g0 res 0 [(0, Sum.inr (8, o0)), (1, Sum.inl (Value.long w1)), (3, Sum.inl (Value.int v3))] [] h 0 0 := by
  refine mv_blkX ax2 (GN_feed) (by decide) kN_feed (fun pc lv st h ce sl hh => ?_) ((eN_feed (fN_feed_b32 1000) o0 w1 v3 h).trans hh)
  obtain ⟨hg, hh1⟩ := mv_gd_some hh
  obtain ⟨rfl, rfl⟩ := mv_z2 hg
  rcases mv_cond_some hh1 with ⟨hb, hh2⟩ | ⟨hb, hh3⟩
  · obtain rfl := Nat.eq_of_beq_eq_true hb
    obtain ⟨o0, m0, hh4⟩ := mv_gR_some hh2
    obtain ⟨w1, m1, hh5⟩ := mv_gL_some hh4
    obtain ⟨v3, m2, hh6⟩ := mv_gI_some hh5
    obtain ⟨v4, m3, hh7⟩ := mv_gI_some hh6
    obtain ⟨rfl, hh8⟩ := mv_sE_some hh7
    exact (xN_feed_b32 1000 o0 w1 v3 v4 h hh8).sub (List.forall_mem_cons.mpr ⟨m0, (List.forall_mem_cons.mpr ⟨m1, (List.forall_mem_cons.mpr ⟨m2, (List.forall_mem_cons.mpr ⟨m3, (fun q hq => by cases hq)⟩)⟩)⟩)⟩)
  cases hh3

theorem mN_feed (o0 : Nat) (w1 : Int64) (v3 : Int32) (h : H2) (vs : List mv_V) (h' : H2) (hh : fN_feed o0 w1 v3 h = some (vs, h')) : mv_Met vw2 2 0 0 mdN_feed [Sum.inr (8, o0), Sum.inl (Value.long w1), Sum.inl (Value.int v3)] h vs h' :=
  mv_Met_of (by decide +kernel) (Nat.le_of_ble_eq_true rfl) (xN_feed o0 w1 v3 h hh)
set_option maxRecDepth 100000 in
theorem kN_isByte : mv_tok mdN_isByte nN_isByte tN_isByte = true := by decide +kernel
def cN_inG_N_isByte (F1 : Int64 → Int64 → Int64 → H2 → O2) : List mv_V → H2 → (List mv_V → H2 → O2) → O2 := fun as h k => match as with
  | [.inl (.long w0), .inl (.long w2), .inl (.long w4)] => mv_rI (F1 w0 w2 w4 h) fun x h => k [.inl (.int x)] h
  | _ => none
set_option maxRecDepth 100000 in
set_option maxHeartbeats 1000000 in
theorem eN_isByte_g (F1 : Int64 → Int64 → Int64 → H2 → O2) (o0 : Nat) (v1 : Int32) (v2 : Int32) (v3 : Int32) (h : H2) : mv_blk rI2 rR2 ln2 wI2 wR2 nw2 cp2 bod none tN_isByte [((0, 0), cN_inG_N_isByte F1)] 0 0 [] (fun _ _ _ _ _ _ => none) 400 (mv_seek 0 tN_isByte) [(0, Sum.inr (8, o0)), (1, Sum.inl (Value.int v1)), (2, Sum.inl (Value.int v2)), (3, Sum.inl (Value.int v3))] [] h 0 0 = (
  if (rI2 h 8 o0 7) ≤ v1 then (
    mv_gd (decide (nI 0 = nI 0) || decide (nI 0 = nI 1)) <| some ([Sum.inl (Value.int (nI 0))], h))
  else
  mv_gd (mv_inb v1 200) <|
  mv_rI (F1 ((rI2 h 906 o0 v1.toNatClampNeg).toInt64) v2.toInt64 v3.toInt64 h) fun r2 h1 =>
  if r2 = 0 then (
    mv_gd (decide (nI 0 = nI 0) || decide (nI 0 = nI 1)) <| some ([Sum.inl (Value.int (nI 0))], h1))
  else
  mv_gd (decide (nI 1 = nI 0) || decide (nI 1 = nI 1)) <| some ([Sum.inl (Value.int (nI 1))], h1)) := rfl
theorem eN_isByte (o0 : Nat) (v1 : Int32) (v2 : Int32) (v3 : Int32) (h : H2) : mv_blk rI2 rR2 ln2 wI2 wR2 nw2 cp2 bod none tN_isByte gN_isByte 0 0 [] (fun _ _ _ _ _ _ => none) 400 (mv_seek 0 tN_isByte) [(0, Sum.inr (8, o0)), (1, Sum.inl (Value.int v1)), (2, Sum.inl (Value.int v2)), (3, Sum.inl (Value.int v3))] [] h 0 0 = (
  if (rI2 h 8 o0 7) ≤ v1 then (
    mv_gd (decide (nI 0 = nI 0) || decide (nI 0 = nI 1)) <| some ([Sum.inl (Value.int (nI 0))], h))
  else
  mv_gd (mv_inb v1 200) <|
  mv_rI (fN_in ((rI2 h 906 o0 v1.toNatClampNeg).toInt64) v2.toInt64 v3.toInt64 h) fun r2 h1 =>
  if r2 = 0 then (
    mv_gd (decide (nI 0 = nI 0) || decide (nI 0 = nI 1)) <| some ([Sum.inl (Value.int (nI 0))], h1))
  else
  mv_gd (decide (nI 1 = nI 0) || decide (nI 1 = nI 1)) <| some ([Sum.inl (Value.int (nI 1))], h1)) := eN_isByte_g fN_in o0 v1 v2 v3 h
theorem GN_isByte : ∀ (j : Nat) (C : mv_C H2) (md' : mv_MD × Bool), mv_nth j gN_isByte = some C → mv_nth j nN_isByte = some md' → ∃ n', n' + 1 ≤ 2 ∧ mv_Cal vw2 n' md' C := fun j C md' => match j with
  | 0 => fun h1 h2 => by
    obtain rfl := Option.some.inj h1
    obtain rfl := Option.some.inj h2
    exact ⟨1, by decide, cN_in_ok⟩
  | jj + 1 => fun h1 _ => by cases jj <;> cases h1

set_option maxRecDepth 20000 in
theorem xN_isByte {g0 : mv_G} {res : List mv_V × H2} (o0 : Nat) (v1 : Int32) (v2 : Int32) (v3 : Int32) (h : H2) (hh : fN_isByte o0 v1 v2 v3 h = some res) : mv_X vw2 mdN_isByte 2 0 0 none g0 res 0 [(0, Sum.inr (8, o0)), (1, Sum.inl (Value.int v1)), (2, Sum.inl (Value.int v2)), (3, Sum.inl (Value.int v3))] [] h 0 0 := by
  refine mv_blkX ax2 (GN_isByte) (by decide) kN_isByte (fun pc lv st h ce sl hh => ?_) ((eN_isByte  o0 v1 v2 v3 h).trans hh)
  cases hh

theorem mN_isByte (o0 : Nat) (v1 : Int32) (v2 : Int32) (v3 : Int32) (h : H2) (vs : List mv_V) (h' : H2) (hh : fN_isByte o0 v1 v2 v3 h = some (vs, h')) : mv_Met vw2 2 0 0 mdN_isByte [Sum.inr (8, o0), Sum.inl (Value.int v1), Sum.inl (Value.int v2), Sum.inl (Value.int v3)] h vs h' :=
  mv_Met_of (by decide +kernel) (Nat.le_of_ble_eq_true rfl) (xN_isByte o0 v1 v2 v3 h hh)
theorem cN_isByte_ok : mv_Cal vw2 2 (mdN_isByte, true) ((0, 0), cN_isByte) := by
  intro as h k res hh
  change cN_isByte as h k = some res at hh
  unfold cN_isByte at hh
  split at hh
  · obtain ⟨hg0, ha0⟩ := mv_gd_some hh
    obtain rfl := Nat.eq_of_beq_eq_true hg0
    obtain ⟨x, h', h1, h9⟩ := mv_rI_some ha0
    exact ⟨_, _, h9, (by first | decide | exact Nat.le_refl _ | exact Nat.zero_le _), fun _ => ⟨_, _, _, rfl, Or.inl ⟨by decide, rfl⟩⟩, (mN_isByte _ _ _ _ h _ _ h1)⟩
  · cases hh

set_option maxRecDepth 100000 in
theorem kN_next : mv_tok mdN_next nN_next tN_next = true := by decide +kernel
def cN_isByteG_N_next (F1 : Nat → Int32 → Int32 → Int32 → H2 → O2) : List mv_V → H2 → (List mv_V → H2 → O2) → O2 := fun as h k => match as with
  | [.inr (t0, o0), .inl (.int v1), .inl (.int v2), .inl (.int v3)] => mv_gd (Nat.beq t0 8) <| mv_rI (F1 o0 v1 v2 v3 h) fun x h => k [.inl (.int x)] h
  | _ => none
set_option maxRecDepth 100000 in
set_option maxHeartbeats 1000000 in
theorem eN_next_b121_g (F1 : Nat → Int32 → Int32 → Int32 → H2 → O2) (o0 : Nat) (v1 : Int32) (v2 : Int32) (h : H2) : mv_blk rI2 rR2 ln2 wI2 wR2 nw2 cp2 bod none tN_next [((0, 0), cN_isByteG_N_next F1)] 0 0 [] (fun _ _ _ _ _ _ => none) 400 (mv_seek 121 tN_next) [(0, Sum.inr (8, o0)), (1, Sum.inl (Value.int v1)), (2, Sum.inl (Value.int v2))] [] h 0 0 = (
  if v1 = 0 then (
    if v2 = 0 then (
      if (rI2 h 8 o0 7) ≤ (rI2 h 8 o0 8) then (
        mv_bh (wI2 h 8 o0 9 ((rI2 h 8 o0 9) + (nI 0))) fun h1 =>
        some ([], h1))
      else
      mv_bh (wI2 h 8 o0 9 ((rI2 h 8 o0 9) + (nI 1))) fun h2 =>
      some ([], h2))
    else
    mv_bh (wI2 h 8 o0 9 ((rI2 h 8 o0 9) + (nI 0))) fun h3 =>
    some ([], h3))
  else
  mv_bh (wI2 h 8 o0 9 ((rI2 h 8 o0 9) + (nI 0))) fun h4 =>
  some ([], h4)) := rfl
theorem eN_next_b121 (o0 : Nat) (v1 : Int32) (v2 : Int32) (h : H2) : mv_blk rI2 rR2 ln2 wI2 wR2 nw2 cp2 bod none tN_next gN_next 0 0 [] (fun _ _ _ _ _ _ => none) 400 (mv_seek 121 tN_next) [(0, Sum.inr (8, o0)), (1, Sum.inl (Value.int v1)), (2, Sum.inl (Value.int v2))] [] h 0 0 = (
  if v1 = 0 then (
    if v2 = 0 then (
      if (rI2 h 8 o0 7) ≤ (rI2 h 8 o0 8) then (
        mv_bh (wI2 h 8 o0 9 ((rI2 h 8 o0 9) + (nI 0))) fun h1 =>
        some ([], h1))
      else
      mv_bh (wI2 h 8 o0 9 ((rI2 h 8 o0 9) + (nI 1))) fun h2 =>
      some ([], h2))
    else
    mv_bh (wI2 h 8 o0 9 ((rI2 h 8 o0 9) + (nI 0))) fun h3 =>
    some ([], h3))
  else
  mv_bh (wI2 h 8 o0 9 ((rI2 h 8 o0 9) + (nI 0))) fun h4 =>
  some ([], h4)) := eN_next_b121_g fN_isByte o0 v1 v2 h
set_option maxRecDepth 100000 in
set_option maxHeartbeats 1000000 in
theorem eN_next_b89_g (F1 : Nat → Int32 → Int32 → Int32 → H2 → O2) (q70 : Nat → Int32 → Int32 → H2 → O2) (q121 : Nat → Int32 → Int32 → H2 → O2) (o0 : Nat) (v1 : Int32) (v2 : Int32) (h : H2) : mv_blk rI2 rR2 ln2 wI2 wR2 nw2 cp2 bod none tN_next [((0, 0), cN_isByteG_N_next F1)] 0 0 [70, 121] (fun pc lv st h ce sl => mv_gd (Nat.beq ce 0 && Nat.beq sl 0) (cond (Nat.beq pc 70) (mv_gR 0 8 lv fun o0 => mv_gI 1 lv fun v1 => mv_gI 2 lv fun v2 => mv_sE st (q70 o0 v1 v2 h)) (cond (Nat.beq pc 121) (mv_gR 0 8 lv fun o0 => mv_gI 1 lv fun v1 => mv_gI 2 lv fun v2 => mv_sE st (q121 o0 v1 v2 h)) (none)))) 400 (mv_seek 89 tN_next) [(0, Sum.inr (8, o0)), (1, Sum.inl (Value.int v1)), (2, Sum.inl (Value.int v2))] [] h 0 0 = (
  if v2 = 0 then (
    q121 o0 v1 v2 h)
  else
  mv_rI (F1 o0 (rI2 h 8 o0 9) (nI 48) (nI 57) h) fun r2 h1 =>
  if r2 = 0 then (
    q121 o0 v1 v2 h1)
  else
  mv_bh (wI2 h1 8 o0 9 ((rI2 h1 8 o0 9) + (nI 1))) fun h3 =>
  q70 o0 v1 v2 h3) := rfl
theorem eN_next_b89 (q70 : Nat → Int32 → Int32 → H2 → O2) (q121 : Nat → Int32 → Int32 → H2 → O2) (o0 : Nat) (v1 : Int32) (v2 : Int32) (h : H2) : mv_blk rI2 rR2 ln2 wI2 wR2 nw2 cp2 bod none tN_next gN_next 0 0 [70, 121] (fun pc lv st h ce sl => mv_gd (Nat.beq ce 0 && Nat.beq sl 0) (cond (Nat.beq pc 70) (mv_gR 0 8 lv fun o0 => mv_gI 1 lv fun v1 => mv_gI 2 lv fun v2 => mv_sE st (q70 o0 v1 v2 h)) (cond (Nat.beq pc 121) (mv_gR 0 8 lv fun o0 => mv_gI 1 lv fun v1 => mv_gI 2 lv fun v2 => mv_sE st (q121 o0 v1 v2 h)) (none)))) 400 (mv_seek 89 tN_next) [(0, Sum.inr (8, o0)), (1, Sum.inl (Value.int v1)), (2, Sum.inl (Value.int v2))] [] h 0 0 = (
  if v2 = 0 then (
    q121 o0 v1 v2 h)
  else
  mv_rI (fN_isByte o0 (rI2 h 8 o0 9) (nI 48) (nI 57) h) fun r2 h1 =>
  if r2 = 0 then (
    q121 o0 v1 v2 h1)
  else
  mv_bh (wI2 h1 8 o0 9 ((rI2 h1 8 o0 9) + (nI 1))) fun h3 =>
  q70 o0 v1 v2 h3) := eN_next_b89_g fN_isByte q70 q121 o0 v1 v2 h
set_option maxRecDepth 100000 in
set_option maxHeartbeats 1000000 in
theorem eN_next_b70_g (F1 : Nat → Int32 → Int32 → Int32 → H2 → O2) (q70 : Nat → Int32 → Int32 → H2 → O2) (q89 : Nat → Int32 → Int32 → H2 → O2) (o0 : Nat) (v1 : Int32) (v2 : Int32) (h : H2) : mv_blk rI2 rR2 ln2 wI2 wR2 nw2 cp2 bod none tN_next [((0, 0), cN_isByteG_N_next F1)] 0 0 [70, 89] (fun pc lv st h ce sl => mv_gd (Nat.beq ce 0 && Nat.beq sl 0) (cond (Nat.beq pc 70) (mv_gR 0 8 lv fun o0 => mv_gI 1 lv fun v1 => mv_gI 2 lv fun v2 => mv_sE st (q70 o0 v1 v2 h)) (cond (Nat.beq pc 89) (mv_gR 0 8 lv fun o0 => mv_gI 1 lv fun v1 => mv_gI 2 lv fun v2 => mv_sE st (q89 o0 v1 v2 h)) (none)))) 400 (mv_seek 70 tN_next) [(0, Sum.inr (8, o0)), (1, Sum.inl (Value.int v1)), (2, Sum.inl (Value.int v2))] [] h 0 0 = (
  if v1 = 0 then (
    q89 o0 v1 v2 h)
  else
  mv_rI (F1 o0 (rI2 h 8 o0 9) (nI 97) (nI 122) h) fun r2 h1 =>
  if r2 = 0 then (
    q89 o0 v1 v2 h1)
  else
  mv_bh (wI2 h1 8 o0 9 ((rI2 h1 8 o0 9) + (nI 1))) fun h3 =>
  q70 o0 v1 v2 h3) := rfl
theorem eN_next_b70 (q70 : Nat → Int32 → Int32 → H2 → O2) (q89 : Nat → Int32 → Int32 → H2 → O2) (o0 : Nat) (v1 : Int32) (v2 : Int32) (h : H2) : mv_blk rI2 rR2 ln2 wI2 wR2 nw2 cp2 bod none tN_next gN_next 0 0 [70, 89] (fun pc lv st h ce sl => mv_gd (Nat.beq ce 0 && Nat.beq sl 0) (cond (Nat.beq pc 70) (mv_gR 0 8 lv fun o0 => mv_gI 1 lv fun v1 => mv_gI 2 lv fun v2 => mv_sE st (q70 o0 v1 v2 h)) (cond (Nat.beq pc 89) (mv_gR 0 8 lv fun o0 => mv_gI 1 lv fun v1 => mv_gI 2 lv fun v2 => mv_sE st (q89 o0 v1 v2 h)) (none)))) 400 (mv_seek 70 tN_next) [(0, Sum.inr (8, o0)), (1, Sum.inl (Value.int v1)), (2, Sum.inl (Value.int v2))] [] h 0 0 = (
  if v1 = 0 then (
    q89 o0 v1 v2 h)
  else
  mv_rI (fN_isByte o0 (rI2 h 8 o0 9) (nI 97) (nI 122) h) fun r2 h1 =>
  if r2 = 0 then (
    q89 o0 v1 v2 h1)
  else
  mv_bh (wI2 h1 8 o0 9 ((rI2 h1 8 o0 9) + (nI 1))) fun h3 =>
  q70 o0 v1 v2 h3) := eN_next_b70_g fN_isByte q70 q89 o0 v1 v2 h
set_option maxRecDepth 100000 in
set_option maxHeartbeats 1000000 in
theorem eN_next_b8_g (F1 : Nat → Int32 → Int32 → Int32 → H2 → O2) (q8 : Nat → H2 → O2) (q70 : Nat → Int32 → Int32 → H2 → O2) (o0 : Nat) (h : H2) : mv_blk rI2 rR2 ln2 wI2 wR2 nw2 cp2 bod none tN_next [((0, 0), cN_isByteG_N_next F1)] 0 0 [8, 70] (fun pc lv st h ce sl => mv_gd (Nat.beq ce 0 && Nat.beq sl 0) (cond (Nat.beq pc 8) (mv_gR 0 8 lv fun o0 => mv_sE st (q8 o0 h)) (cond (Nat.beq pc 70) (mv_gR 0 8 lv fun o0 => mv_gI 1 lv fun v1 => mv_gI 2 lv fun v2 => mv_sE st (q70 o0 v1 v2 h)) (none)))) 400 (mv_seek 8 tN_next) [(0, Sum.inr (8, o0))] [] h 0 0 = (
  mv_rI (F1 o0 (rI2 h 8 o0 8) (nI 32) (nI 32) h) fun r2 h1 =>
  if r2 = 0 then (
    mv_bh (wI2 h1 8 o0 9 (rI2 h1 8 o0 8)) fun h3 =>
    mv_rI (F1 o0 (rI2 h3 8 o0 8) (nI 97) (nI 122) h3) fun r5 h4 =>
    mv_bi r5 fun x6 =>
    mv_rI (F1 o0 (rI2 h4 8 o0 8) (nI 48) (nI 57) h4) fun r8 h7 =>
    mv_bi r8 fun x9 =>
    q70 o0 x6 x9 h7)
  else
  mv_bh (wI2 h1 8 o0 8 ((rI2 h1 8 o0 8) + (nI 1))) fun h10 =>
  q8 o0 h10) := rfl
theorem eN_next_b8 (q8 : Nat → H2 → O2) (q70 : Nat → Int32 → Int32 → H2 → O2) (o0 : Nat) (h : H2) : mv_blk rI2 rR2 ln2 wI2 wR2 nw2 cp2 bod none tN_next gN_next 0 0 [8, 70] (fun pc lv st h ce sl => mv_gd (Nat.beq ce 0 && Nat.beq sl 0) (cond (Nat.beq pc 8) (mv_gR 0 8 lv fun o0 => mv_sE st (q8 o0 h)) (cond (Nat.beq pc 70) (mv_gR 0 8 lv fun o0 => mv_gI 1 lv fun v1 => mv_gI 2 lv fun v2 => mv_sE st (q70 o0 v1 v2 h)) (none)))) 400 (mv_seek 8 tN_next) [(0, Sum.inr (8, o0))] [] h 0 0 = (
  mv_rI (fN_isByte o0 (rI2 h 8 o0 8) (nI 32) (nI 32) h) fun r2 h1 =>
  if r2 = 0 then (
    mv_bh (wI2 h1 8 o0 9 (rI2 h1 8 o0 8)) fun h3 =>
    mv_rI (fN_isByte o0 (rI2 h3 8 o0 8) (nI 97) (nI 122) h3) fun r5 h4 =>
    mv_bi r5 fun x6 =>
    mv_rI (fN_isByte o0 (rI2 h4 8 o0 8) (nI 48) (nI 57) h4) fun r8 h7 =>
    mv_bi r8 fun x9 =>
    q70 o0 x6 x9 h7)
  else
  mv_bh (wI2 h1 8 o0 8 ((rI2 h1 8 o0 8) + (nI 1))) fun h10 =>
  q8 o0 h10) := eN_next_b8_g fN_isByte q8 q70 o0 h
set_option maxRecDepth 100000 in
set_option maxHeartbeats 1000000 in
theorem eN_next_g (F1 : Nat → Int32 → Int32 → Int32 → H2 → O2) (q8 : Nat → H2 → O2) (o0 : Nat) (h : H2) : mv_blk rI2 rR2 ln2 wI2 wR2 nw2 cp2 bod none tN_next [((0, 0), cN_isByteG_N_next F1)] 0 0 [8] (fun pc lv st h ce sl => mv_gd (Nat.beq ce 0 && Nat.beq sl 0) (cond (Nat.beq pc 8) (mv_gR 0 8 lv fun o0 => mv_sE st (q8 o0 h)) (none))) 400 (mv_seek 0 tN_next) [(0, Sum.inr (8, o0))] [] h 0 0 = (
  mv_bh (wI2 h 8 o0 8 (rI2 h 8 o0 9)) fun h1 =>
  q8 o0 h1) := rfl
theorem eN_next (q8 : Nat → H2 → O2) (o0 : Nat) (h : H2) : mv_blk rI2 rR2 ln2 wI2 wR2 nw2 cp2 bod none tN_next gN_next 0 0 [8] (fun pc lv st h ce sl => mv_gd (Nat.beq ce 0 && Nat.beq sl 0) (cond (Nat.beq pc 8) (mv_gR 0 8 lv fun o0 => mv_sE st (q8 o0 h)) (none))) 400 (mv_seek 0 tN_next) [(0, Sum.inr (8, o0))] [] h 0 0 = (
  mv_bh (wI2 h 8 o0 8 (rI2 h 8 o0 9)) fun h1 =>
  q8 o0 h1) := eN_next_g fN_isByte q8 o0 h
theorem GN_next : ∀ (j : Nat) (C : mv_C H2) (md' : mv_MD × Bool), mv_nth j gN_next = some C → mv_nth j nN_next = some md' → ∃ n', n' + 1 ≤ 3 ∧ mv_Cal vw2 n' md' C := fun j C md' => match j with
  | 0 => fun h1 h2 => by
    obtain rfl := Option.some.inj h1
    obtain rfl := Option.some.inj h2
    exact ⟨2, by decide, cN_isByte_ok⟩
  | jj + 1 => fun h1 _ => by cases jj <;> cases h1

set_option maxRecDepth 20000 in
theorem xN_next_b121 {g0 : mv_G} {res : List mv_V × H2} (o0 : Nat) (v1 : Int32) (v2 : Int32) (h : H2) (hh : fN_next_b121 o0 v1 v2 h = some res) : mv_X vw2 mdN_next 3 0 0 none g0 res 121 [(0, Sum.inr (8, o0)), (1, Sum.inl (Value.int v1)), (2, Sum.inl (Value.int v2))] [] h 0 0 := by
  refine mv_blkX ax2 (GN_next) (by decide) kN_next (fun pc lv st h ce sl hh => ?_) ((eN_next_b121  o0 v1 v2 h).trans hh)
  cases hh

set_option maxRecDepth 20000 in
theorem xN_next_b89 {g0 : mv_G} {res : List mv_V × H2} {k70 : Nat → Int32 → Int32 → H2 → O2} (hk70 : ∀ (o0 : Nat) (v1 : Int32) (v2 : Int32) h, k70 o0 v1 v2 h = some res → mv_X vw2 mdN_next 3 0 0 none g0 res 70 [(0, Sum.inr (8, o0)), (1, Sum.inl (Value.int v1)), (2, Sum.inl (Value.int v2))] [] h 0 0) (o0 : Nat) (v1 : Int32) (v2 : Int32) (h : H2) (hh : fN_next_b89 k70 o0 v1 v2 h = some res) : mv_X vw2 mdN_next 3 0 0 none g0 res 89 [(0, Sum.inr (8, o0)), (1, Sum.inl (Value.int v1)), (2, Sum.inl (Value.int v2))] [] h 0 0 := by
  refine mv_blkX ax2 (GN_next) (by decide) kN_next (fun pc lv st h ce sl hh => ?_) ((eN_next_b89 (k70) (fN_next_b121) o0 v1 v2 h).trans hh)
  obtain ⟨hg, hh1⟩ := mv_gd_some hh
  obtain ⟨rfl, rfl⟩ := mv_z2 hg
  rcases mv_cond_some hh1 with ⟨hb, hh2⟩ | ⟨hb, hh3⟩
  · obtain rfl := Nat.eq_of_beq_eq_true hb
    obtain ⟨o0, m0, hh4⟩ := mv_gR_some hh2
    obtain ⟨v1, m1, hh5⟩ := mv_gI_some hh4
    obtain ⟨v2, m2, hh6⟩ := mv_gI_some hh5
    obtain ⟨rfl, hh7⟩ := mv_sE_some hh6
    exact (hk70 o0 v1 v2 h hh7).sub (List.forall_mem_cons.mpr ⟨m0, (List.forall_mem_cons.mpr ⟨m1, (List.forall_mem_cons.mpr ⟨m2, (fun q hq => by cases hq)⟩)⟩)⟩)
  rcases mv_cond_some hh3 with ⟨hb, hh8⟩ | ⟨hb, hh9⟩
  · obtain rfl := Nat.eq_of_beq_eq_true hb
    obtain ⟨o0, m0, hh10⟩ := mv_gR_some hh8
    obtain ⟨v1, m1, hh11⟩ := mv_gI_some hh10
    obtain ⟨v2, m2, hh12⟩ := mv_gI_some hh11
    obtain ⟨rfl, hh13⟩ := mv_sE_some hh12
    exact (xN_next_b121  o0 v1 v2 h hh13).sub (List.forall_mem_cons.mpr ⟨m0, (List.forall_mem_cons.mpr ⟨m1, (List.forall_mem_cons.mpr ⟨m2, (fun q hq => by cases hq)⟩)⟩)⟩)
  cases hh9

set_option maxRecDepth 20000 in
theorem xN_next_b70 {g0 : mv_G} {res : List mv_V × H2} : ∀ (n : Nat) (o0 : Nat) (v1 : Int32) (v2 : Int32) (h : H2), fN_next_b70 n o0 v1 v2 h = some res → mv_X vw2 mdN_next 3 0 0 none g0 res 70 [(0, Sum.inr (8, o0)), (1, Sum.inl (Value.int v1)), (2, Sum.inl (Value.int v2))] [] h 0 0 := by
  intro n
  induction n with
  | zero => intro o0 v1 v2 h hh; cases hh
  | succ n ih =>
    intro o0 v1 v2 h hh
    refine mv_blkX ax2 (GN_next) (by decide) kN_next (fun pc lv st h ce sl hh => ?_) ((eN_next_b70 (fN_next_b70 n) (fN_next_b89 (fN_next_b70 n)) o0 v1 v2 h).trans hh)
    obtain ⟨hg, hh1⟩ := mv_gd_some hh
    obtain ⟨rfl, rfl⟩ := mv_z2 hg
    rcases mv_cond_some hh1 with ⟨hb, hh2⟩ | ⟨hb, hh3⟩
    · obtain rfl := Nat.eq_of_beq_eq_true hb
      obtain ⟨o0, m0, hh4⟩ := mv_gR_some hh2
      obtain ⟨v1, m1, hh5⟩ := mv_gI_some hh4
      obtain ⟨v2, m2, hh6⟩ := mv_gI_some hh5
      obtain ⟨rfl, hh7⟩ := mv_sE_some hh6
      exact (ih o0 v1 v2 h hh7).sub (List.forall_mem_cons.mpr ⟨m0, (List.forall_mem_cons.mpr ⟨m1, (List.forall_mem_cons.mpr ⟨m2, (fun q hq => by cases hq)⟩)⟩)⟩)
    rcases mv_cond_some hh3 with ⟨hb, hh8⟩ | ⟨hb, hh9⟩
    · obtain rfl := Nat.eq_of_beq_eq_true hb
      obtain ⟨o0, m0, hh10⟩ := mv_gR_some hh8
      obtain ⟨v1, m1, hh11⟩ := mv_gI_some hh10
      obtain ⟨v2, m2, hh12⟩ := mv_gI_some hh11
      obtain ⟨rfl, hh13⟩ := mv_sE_some hh12
      exact (xN_next_b89 ih  o0 v1 v2 h hh13).sub (List.forall_mem_cons.mpr ⟨m0, (List.forall_mem_cons.mpr ⟨m1, (List.forall_mem_cons.mpr ⟨m2, (fun q hq => by cases hq)⟩)⟩)⟩)
    cases hh9

set_option maxRecDepth 20000 in
theorem xN_next_b8 {g0 : mv_G} {res : List mv_V × H2} : ∀ (n : Nat) (o0 : Nat) (h : H2), fN_next_b8 n o0 h = some res → mv_X vw2 mdN_next 3 0 0 none g0 res 8 [(0, Sum.inr (8, o0))] [] h 0 0 := by
  intro n
  induction n with
  | zero => intro o0 h hh; cases hh
  | succ n ih =>
    intro o0 h hh
    refine mv_blkX ax2 (GN_next) (by decide) kN_next (fun pc lv st h ce sl hh => ?_) ((eN_next_b8 (fN_next_b8 n) (fN_next_b70 1000) o0 h).trans hh)
    obtain ⟨hg, hh1⟩ := mv_gd_some hh
    obtain ⟨rfl, rfl⟩ := mv_z2 hg
    rcases mv_cond_some hh1 with ⟨hb, hh2⟩ | ⟨hb, hh3⟩
    · obtain rfl := Nat.eq_of_beq_eq_true hb
      obtain ⟨o0, m0, hh4⟩ := mv_gR_some hh2
      obtain ⟨rfl, hh5⟩ := mv_sE_some hh4
      exact (ih o0 h hh5).sub (List.forall_mem_cons.mpr ⟨m0, (fun q hq => by cases hq)⟩)
    rcases mv_cond_some hh3 with ⟨hb, hh6⟩ | ⟨hb, hh7⟩
    · obtain rfl := Nat.eq_of_beq_eq_true hb
      obtain ⟨o0, m0, hh8⟩ := mv_gR_some hh6
      obtain ⟨v1, m1, hh9⟩ := mv_gI_some hh8
      obtain ⟨v2, m2, hh10⟩ := mv_gI_some hh9
      obtain ⟨rfl, hh11⟩ := mv_sE_some hh10
      exact (xN_next_b70 1000 o0 v1 v2 h hh11).sub (List.forall_mem_cons.mpr ⟨m0, (List.forall_mem_cons.mpr ⟨m1, (List.forall_mem_cons.mpr ⟨m2, (fun q hq => by cases hq)⟩)⟩)⟩)
    cases hh7

set_option maxRecDepth 20000 in
theorem xN_next {g0 : mv_G} {res : List mv_V × H2} (o0 : Nat) (h : H2) (hh : fN_next o0 h = some res) : mv_X vw2 mdN_next 3 0 0 none g0 res 0 [(0, Sum.inr (8, o0))] [] h 0 0 := by
  refine mv_blkX ax2 (GN_next) (by decide) kN_next (fun pc lv st h ce sl hh => ?_) ((eN_next (fN_next_b8 1000) o0 h).trans hh)
  obtain ⟨hg, hh1⟩ := mv_gd_some hh
  obtain ⟨rfl, rfl⟩ := mv_z2 hg
  rcases mv_cond_some hh1 with ⟨hb, hh2⟩ | ⟨hb, hh3⟩
  · obtain rfl := Nat.eq_of_beq_eq_true hb
    obtain ⟨o0, m0, hh4⟩ := mv_gR_some hh2
    obtain ⟨rfl, hh5⟩ := mv_sE_some hh4
    exact (xN_next_b8 1000 o0 h hh5).sub (List.forall_mem_cons.mpr ⟨m0, (fun q hq => by cases hq)⟩)
  cases hh3

theorem mN_next (o0 : Nat) (h : H2) (vs : List mv_V) (h' : H2) (hh : fN_next o0 h = some (vs, h')) : mv_Met vw2 3 0 0 mdN_next [Sum.inr (8, o0)] h vs h' :=
  mv_Met_of (by decide +kernel) (Nat.le_of_ble_eq_true rfl) (xN_next o0 h hh)
theorem cN_next_ok : mv_Cal vw2 3 (mdN_next, true) ((0, 0), cN_next) := by
  intro as h k res hh
  change cN_next as h k = some res at hh
  unfold cN_next at hh
  split at hh
  · obtain ⟨hg0, ha0⟩ := mv_gd_some hh
    obtain rfl := Nat.eq_of_beq_eq_true hg0
    obtain ⟨h', h1, h9⟩ := mv_rV_some ha0
    exact ⟨_, _, h9, (by first | decide | exact Nat.le_refl _ | exact Nat.zero_le _), fun _ => ⟨_, _, _, rfl, Or.inl ⟨by decide, rfl⟩⟩, (mN_next _ h _ _ h1)⟩
  · cases hh

set_option maxRecDepth 100000 in
theorem kN_isWord : mv_tok mdN_isWord nN_isWord tN_isWord = true := by decide +kernel
def cK0_charAt_5068eG_N_isWord (F1 : Nat → Int32 → H2 → O2) : List mv_V → H2 → (List mv_V → H2 → O2) → O2 := fun as h k => match as with
  | [.inr (t0, o0), .inl (.int v1)] => mv_gd (Nat.beq t0 11) <| mv_rI (F1 o0 v1 h) fun x h => k [.inl (.int x)] h
  | _ => none
def cK0_length_8abf5G_N_isWord (F2 : Nat → H2 → O2) : List mv_V → H2 → (List mv_V → H2 → O2) → O2 := fun as h k => match as with
  | [.inr (t0, o0)] => mv_gd (Nat.beq t0 11) <| mv_rI (F2 o0 h) fun x h => k [.inl (.int x)] h
  | _ => none
set_option maxRecDepth 100000 in
set_option maxHeartbeats 1000000 in
theorem eN_isWord_b31_g (F1 : Nat → Int32 → H2 → O2) (F2 : Nat → H2 → O2) (q31 : Nat → Nat → Int32 → Int32 → H2 → O2) (o0 : Nat) (o1 : Nat) (v2 : Int32) (v3 : Int32) (h : H2) : mv_blk rI2 rR2 ln2 wI2 wR2 nw2 cp2 bod none tN_isWord [((0, 0), cK0_length_8abf5G_N_isWord F2), ((0, 0), cK0_charAt_5068eG_N_isWord F1)] 0 0 [31] (fun pc lv st h ce sl => mv_gd (Nat.beq ce 0 && Nat.beq sl 0) (cond (Nat.beq pc 31) (mv_gR 0 8 lv fun o0 => mv_gR 1 11 lv fun o1 => mv_gI 2 lv fun v2 => mv_gI 3 lv fun v3 => mv_sE st (q31 o0 o1 v2 v3 h)) (none))) 400 (mv_seek 31 tN_isWord) [(0, Sum.inr (8, o0)), (1, Sum.inr (11, o1)), (2, Sum.inl (Value.int v2)), (3, Sum.inl (Value.int v3))] [] h 0 0 = (
  if v2 = 0 then (
    mv_gd (decide (v2 = nI 0) || decide (v2 = nI 1)) <| some ([Sum.inl (Value.int v2)], h))
  else
  mv_rI (F2 o1 h) fun r2 h1 =>
  if r2 ≤ v3 then (
    mv_gd (decide (v2 = nI 0) || decide (v2 = nI 1)) <| some ([Sum.inl (Value.int v2)], h1))
  else
  mv_gd (mv_inb ((rI2 h1 8 o0 8) + v3) 200) <|
  mv_rI (F1 o1 v3 h1) fun r4 h3 =>
  if (rI2 h1 906 o0 ((rI2 h1 8 o0 8) + v3).toNatClampNeg) = r4 then (
    mv_bi (nI 1) fun x5 =>
    mv_bi (v3 + (nI 1)) fun x6 =>
    q31 o0 o1 x5 x6 h3)
  else
  mv_bi (nI 0) fun x7 =>
  mv_bi (v3 + (nI 1)) fun x8 =>
  q31 o0 o1 x7 x8 h3) := rfl
theorem eN_isWord_b31 (q31 : Nat → Nat → Int32 → Int32 → H2 → O2) (o0 : Nat) (o1 : Nat) (v2 : Int32) (v3 : Int32) (h : H2) : mv_blk rI2 rR2 ln2 wI2 wR2 nw2 cp2 bod none tN_isWord gN_isWord 0 0 [31] (fun pc lv st h ce sl => mv_gd (Nat.beq ce 0 && Nat.beq sl 0) (cond (Nat.beq pc 31) (mv_gR 0 8 lv fun o0 => mv_gR 1 11 lv fun o1 => mv_gI 2 lv fun v2 => mv_gI 3 lv fun v3 => mv_sE st (q31 o0 o1 v2 v3 h)) (none))) 400 (mv_seek 31 tN_isWord) [(0, Sum.inr (8, o0)), (1, Sum.inr (11, o1)), (2, Sum.inl (Value.int v2)), (3, Sum.inl (Value.int v3))] [] h 0 0 = (
  if v2 = 0 then (
    mv_gd (decide (v2 = nI 0) || decide (v2 = nI 1)) <| some ([Sum.inl (Value.int v2)], h))
  else
  mv_rI (fK0_length_8abf5 o1 h) fun r2 h1 =>
  if r2 ≤ v3 then (
    mv_gd (decide (v2 = nI 0) || decide (v2 = nI 1)) <| some ([Sum.inl (Value.int v2)], h1))
  else
  mv_gd (mv_inb ((rI2 h1 8 o0 8) + v3) 200) <|
  mv_rI (fK0_charAt_5068e o1 v3 h1) fun r4 h3 =>
  if (rI2 h1 906 o0 ((rI2 h1 8 o0 8) + v3).toNatClampNeg) = r4 then (
    mv_bi (nI 1) fun x5 =>
    mv_bi (v3 + (nI 1)) fun x6 =>
    q31 o0 o1 x5 x6 h3)
  else
  mv_bi (nI 0) fun x7 =>
  mv_bi (v3 + (nI 1)) fun x8 =>
  q31 o0 o1 x7 x8 h3) := eN_isWord_b31_g fK0_charAt_5068e fK0_length_8abf5 q31 o0 o1 v2 v3 h
set_option maxRecDepth 100000 in
set_option maxHeartbeats 1000000 in
theorem eN_isWord_g (F1 : Nat → Int32 → H2 → O2) (F2 : Nat → H2 → O2) (q31 : Nat → Nat → Int32 → Int32 → H2 → O2) (o0 : Nat) (o1 : Nat) (h : H2) : mv_blk rI2 rR2 ln2 wI2 wR2 nw2 cp2 bod none tN_isWord [((0, 0), cK0_length_8abf5G_N_isWord F2), ((0, 0), cK0_charAt_5068eG_N_isWord F1)] 0 0 [31] (fun pc lv st h ce sl => mv_gd (Nat.beq ce 0 && Nat.beq sl 0) (cond (Nat.beq pc 31) (mv_gR 0 8 lv fun o0 => mv_gR 1 11 lv fun o1 => mv_gI 2 lv fun v2 => mv_gI 3 lv fun v3 => mv_sE st (q31 o0 o1 v2 v3 h)) (none))) 400 (mv_seek 0 tN_isWord) [(0, Sum.inr (8, o0)), (1, Sum.inr (11, o1))] [] h 0 0 = (
  if (rI2 h 8 o0 10) = 0 then (
    mv_rI (F2 o1 h) fun r2 h1 =>
    if ((rI2 h 8 o0 9) - (rI2 h 8 o0 8)) = r2 then (
      mv_bi (nI 1) fun x3 =>
      mv_bi (nI 0) fun x4 =>
      q31 o0 o1 x3 x4 h1)
    else
    mv_bi (nI 0) fun x5 =>
    mv_bi (nI 0) fun x6 =>
    q31 o0 o1 x5 x6 h1)
  else
  mv_bi (nI 0) fun x7 =>
  mv_bi (nI 0) fun x8 =>
  q31 o0 o1 x7 x8 h) := rfl
theorem eN_isWord (q31 : Nat → Nat → Int32 → Int32 → H2 → O2) (o0 : Nat) (o1 : Nat) (h : H2) : mv_blk rI2 rR2 ln2 wI2 wR2 nw2 cp2 bod none tN_isWord gN_isWord 0 0 [31] (fun pc lv st h ce sl => mv_gd (Nat.beq ce 0 && Nat.beq sl 0) (cond (Nat.beq pc 31) (mv_gR 0 8 lv fun o0 => mv_gR 1 11 lv fun o1 => mv_gI 2 lv fun v2 => mv_gI 3 lv fun v3 => mv_sE st (q31 o0 o1 v2 v3 h)) (none))) 400 (mv_seek 0 tN_isWord) [(0, Sum.inr (8, o0)), (1, Sum.inr (11, o1))] [] h 0 0 = (
  if (rI2 h 8 o0 10) = 0 then (
    mv_rI (fK0_length_8abf5 o1 h) fun r2 h1 =>
    if ((rI2 h 8 o0 9) - (rI2 h 8 o0 8)) = r2 then (
      mv_bi (nI 1) fun x3 =>
      mv_bi (nI 0) fun x4 =>
      q31 o0 o1 x3 x4 h1)
    else
    mv_bi (nI 0) fun x5 =>
    mv_bi (nI 0) fun x6 =>
    q31 o0 o1 x5 x6 h1)
  else
  mv_bi (nI 0) fun x7 =>
  mv_bi (nI 0) fun x8 =>
  q31 o0 o1 x7 x8 h) := eN_isWord_g fK0_charAt_5068e fK0_length_8abf5 q31 o0 o1 h
theorem GN_isWord : ∀ (j : Nat) (C : mv_C H2) (md' : mv_MD × Bool), mv_nth j gN_isWord = some C → mv_nth j nN_isWord = some md' → ∃ n', n' + 1 ≤ 5 ∧ mv_Cal vw2 n' md' C := fun j C md' => match j with
  | 0 => fun h1 h2 => by
    obtain rfl := Option.some.inj h1
    obtain rfl := Option.some.inj h2
    exact ⟨2, by decide, cK0_length_8abf5_ok⟩
  | 1 => fun h1 h2 => by
    obtain rfl := Option.some.inj h1
    obtain rfl := Option.some.inj h2
    exact ⟨4, by decide, cK0_charAt_5068e_ok⟩
  | jj + 2 => fun h1 _ => by cases jj <;> cases h1

set_option maxRecDepth 20000 in
theorem xN_isWord_b31 {g0 : mv_G} {res : List mv_V × H2} : ∀ (n : Nat) (o0 : Nat) (o1 : Nat) (v2 : Int32) (v3 : Int32) (h : H2), fN_isWord_b31 n o0 o1 v2 v3 h = some res → mv_X vw2 mdN_isWord 5 0 0 none g0 res 31 [(0, Sum.inr (8, o0)), (1, Sum.inr (11, o1)), (2, Sum.inl (Value.int v2)), (3, Sum.inl (Value.int v3))] [] h 0 0 := by
  intro n
  induction n with
  | zero => intro o0 o1 v2 v3 h hh; cases hh
  | succ n ih =>
    intro o0 o1 v2 v3 h hh
    refine mv_blkX ax2 (GN_isWord) (by decide) kN_isWord (fun pc lv st h ce sl hh => ?_) ((eN_isWord_b31 (fN_isWord_b31 n) o0 o1 v2 v3 h).trans hh)
    obtain ⟨hg, hh1⟩ := mv_gd_some hh
    obtain ⟨rfl, rfl⟩ := mv_z2 hg
    rcases mv_cond_some hh1 with ⟨hb, hh2⟩ | ⟨hb, hh3⟩
    · obtain rfl := Nat.eq_of_beq_eq_true hb
      obtain ⟨o0, m0, hh4⟩ := mv_gR_some hh2
      obtain ⟨o1, m1, hh5⟩ := mv_gR_some hh4
      obtain ⟨v2, m2, hh6⟩ := mv_gI_some hh5
      obtain ⟨v3, m3, hh7⟩ := mv_gI_some hh6
      obtain ⟨rfl, hh8⟩ := mv_sE_some hh7
      exact (ih o0 o1 v2 v3 h hh8).sub (List.forall_mem_cons.mpr ⟨m0, (List.forall_mem_cons.mpr ⟨m1, (List.forall_mem_cons.mpr ⟨m2, (List.forall_mem_cons.mpr ⟨m3, (fun q hq => by cases hq)⟩)⟩)⟩)⟩)
    cases hh3

set_option maxRecDepth 20000 in
theorem xN_isWord {g0 : mv_G} {res : List mv_V × H2} (o0 : Nat) (o1 : Nat) (h : H2) (hh : fN_isWord o0 o1 h = some res) : mv_X vw2 mdN_isWord 5 0 0 none g0 res 0 [(0, Sum.inr (8, o0)), (1, Sum.inr (11, o1))] [] h 0 0 := by
  refine mv_blkX ax2 (GN_isWord) (by decide) kN_isWord (fun pc lv st h ce sl hh => ?_) ((eN_isWord (fN_isWord_b31 1000) o0 o1 h).trans hh)
  obtain ⟨hg, hh1⟩ := mv_gd_some hh
  obtain ⟨rfl, rfl⟩ := mv_z2 hg
  rcases mv_cond_some hh1 with ⟨hb, hh2⟩ | ⟨hb, hh3⟩
  · obtain rfl := Nat.eq_of_beq_eq_true hb
    obtain ⟨o0, m0, hh4⟩ := mv_gR_some hh2
    obtain ⟨o1, m1, hh5⟩ := mv_gR_some hh4
    obtain ⟨v2, m2, hh6⟩ := mv_gI_some hh5
    obtain ⟨v3, m3, hh7⟩ := mv_gI_some hh6
    obtain ⟨rfl, hh8⟩ := mv_sE_some hh7
    exact (xN_isWord_b31 1000 o0 o1 v2 v3 h hh8).sub (List.forall_mem_cons.mpr ⟨m0, (List.forall_mem_cons.mpr ⟨m1, (List.forall_mem_cons.mpr ⟨m2, (List.forall_mem_cons.mpr ⟨m3, (fun q hq => by cases hq)⟩)⟩)⟩)⟩)
  cases hh3

theorem mN_isWord (o0 : Nat) (o1 : Nat) (h : H2) (vs : List mv_V) (h' : H2) (hh : fN_isWord o0 o1 h = some (vs, h')) : mv_Met vw2 5 0 0 mdN_isWord [Sum.inr (8, o0), Sum.inr (11, o1)] h vs h' :=
  mv_Met_of (by decide +kernel) (Nat.le_of_ble_eq_true rfl) (xN_isWord o0 o1 h hh)
theorem cN_isWord_ok : mv_Cal vw2 5 (mdN_isWord, true) ((0, 0), cN_isWord) := by
  intro as h k res hh
  change cN_isWord as h k = some res at hh
  unfold cN_isWord at hh
  split at hh
  · obtain ⟨hg0, ha0⟩ := mv_gd_some hh
    obtain rfl := Nat.eq_of_beq_eq_true hg0
    obtain ⟨hg1, ha1⟩ := mv_gd_some ha0
    obtain rfl := Nat.eq_of_beq_eq_true hg1
    obtain ⟨x, h', h1, h9⟩ := mv_rI_some ha1
    exact ⟨_, _, h9, (by first | decide | exact Nat.le_refl _ | exact Nat.zero_le _), fun _ => ⟨_, _, _, rfl, Or.inl ⟨by decide, rfl⟩⟩, (mN_isWord _ _ h _ _ h1)⟩
  · cases hh

set_option maxRecDepth 100000 in
theorem kN_must : mv_tok mdN_must nN_must tN_must = true := by decide +kernel
def cN_nextG_N_must (F1 : Nat → H2 → O2) : List mv_V → H2 → (List mv_V → H2 → O2) → O2 := fun as h k => match as with
  | [.inr (t0, o0)] => mv_gd (Nat.beq t0 8) <| mv_rV (F1 o0 h) fun h => k [] h
  | _ => none
set_option maxRecDepth 100000 in
set_option maxHeartbeats 1000000 in
theorem eN_must_g (F1 : Nat → H2 → O2) (o0 : Nat) (v1 : Int32) (h : H2) : mv_blk rI2 rR2 ln2 wI2 wR2 nw2 cp2 bod none tN_must [((0, 0), cN_nextG_N_must F1)] 0 0 [] (fun _ _ _ _ _ _ => none) 400 (mv_seek 0 tN_must) [(0, Sum.inr (8, o0)), (1, Sum.inl (Value.int v1))] [] h 0 0 = (
  if (rI2 h 8 o0 10) = 0 then (
    if v1 = 0 then (
      mv_gd (decide (nI 1 = nI 0) || decide (nI 1 = nI 1)) <|
      mv_bh (wI2 h 8 o0 10 (nI 1)) fun h1 =>
      if (rI2 h1 8 o0 10) = 0 then (
        mv_rV (F1 o0 h1) fun h2 =>
        some ([], h2))
      else
      some ([], h1))
    else
    mv_gd (decide (nI 0 = nI 0) || decide (nI 0 = nI 1)) <|
    mv_bh (wI2 h 8 o0 10 (nI 0)) fun h3 =>
    if (rI2 h3 8 o0 10) = 0 then (
      mv_rV (F1 o0 h3) fun h4 =>
      some ([], h4))
    else
    some ([], h3))
  else
  mv_gd (decide (nI 1 = nI 0) || decide (nI 1 = nI 1)) <|
  mv_bh (wI2 h 8 o0 10 (nI 1)) fun h5 =>
  if (rI2 h5 8 o0 10) = 0 then (
    mv_rV (F1 o0 h5) fun h6 =>
    some ([], h6))
  else
  some ([], h5)) := rfl
theorem eN_must (o0 : Nat) (v1 : Int32) (h : H2) : mv_blk rI2 rR2 ln2 wI2 wR2 nw2 cp2 bod none tN_must gN_must 0 0 [] (fun _ _ _ _ _ _ => none) 400 (mv_seek 0 tN_must) [(0, Sum.inr (8, o0)), (1, Sum.inl (Value.int v1))] [] h 0 0 = (
  if (rI2 h 8 o0 10) = 0 then (
    if v1 = 0 then (
      mv_gd (decide (nI 1 = nI 0) || decide (nI 1 = nI 1)) <|
      mv_bh (wI2 h 8 o0 10 (nI 1)) fun h1 =>
      if (rI2 h1 8 o0 10) = 0 then (
        mv_rV (fN_next o0 h1) fun h2 =>
        some ([], h2))
      else
      some ([], h1))
    else
    mv_gd (decide (nI 0 = nI 0) || decide (nI 0 = nI 1)) <|
    mv_bh (wI2 h 8 o0 10 (nI 0)) fun h3 =>
    if (rI2 h3 8 o0 10) = 0 then (
      mv_rV (fN_next o0 h3) fun h4 =>
      some ([], h4))
    else
    some ([], h3))
  else
  mv_gd (decide (nI 1 = nI 0) || decide (nI 1 = nI 1)) <|
  mv_bh (wI2 h 8 o0 10 (nI 1)) fun h5 =>
  if (rI2 h5 8 o0 10) = 0 then (
    mv_rV (fN_next o0 h5) fun h6 =>
    some ([], h6))
  else
  some ([], h5)) := eN_must_g fN_next o0 v1 h
theorem GN_must : ∀ (j : Nat) (C : mv_C H2) (md' : mv_MD × Bool), mv_nth j gN_must = some C → mv_nth j nN_must = some md' → ∃ n', n' + 1 ≤ 4 ∧ mv_Cal vw2 n' md' C := fun j C md' => match j with
  | 0 => fun h1 h2 => by
    obtain rfl := Option.some.inj h1
    obtain rfl := Option.some.inj h2
    exact ⟨3, by decide, cN_next_ok⟩
  | jj + 1 => fun h1 _ => by cases jj <;> cases h1

set_option maxRecDepth 20000 in
theorem xN_must {g0 : mv_G} {res : List mv_V × H2} (o0 : Nat) (v1 : Int32) (h : H2) (hh : fN_must o0 v1 h = some res) : mv_X vw2 mdN_must 4 0 0 none g0 res 0 [(0, Sum.inr (8, o0)), (1, Sum.inl (Value.int v1))] [] h 0 0 := by
  refine mv_blkX ax2 (GN_must) (by decide) kN_must (fun pc lv st h ce sl hh => ?_) ((eN_must  o0 v1 h).trans hh)
  cases hh

theorem mN_must (o0 : Nat) (v1 : Int32) (h : H2) (vs : List mv_V) (h' : H2) (hh : fN_must o0 v1 h = some (vs, h')) : mv_Met vw2 4 0 0 mdN_must [Sum.inr (8, o0), Sum.inl (Value.int v1)] h vs h' :=
  mv_Met_of (by decide +kernel) (Nat.le_of_ble_eq_true rfl) (xN_must o0 v1 h hh)
theorem cN_must_ok : mv_Cal vw2 4 (mdN_must, true) ((0, 0), cN_must) := by
  intro as h k res hh
  change cN_must as h k = some res at hh
  unfold cN_must at hh
  split at hh
  · obtain ⟨hg0, ha0⟩ := mv_gd_some hh
    obtain rfl := Nat.eq_of_beq_eq_true hg0
    obtain ⟨h', h1, h9⟩ := mv_rV_some ha0
    exact ⟨_, _, h9, (by first | decide | exact Nat.le_refl _ | exact Nat.zero_le _), fun _ => ⟨_, _, _, rfl, Or.inl ⟨by decide, rfl⟩⟩, (mN_must _ _ h _ _ h1)⟩
  · cases hh

set_option maxRecDepth 100000 in
theorem kN_figures : mv_tok mdN_figures nN_figures tN_figures = true := by decide +kernel
def cN_isByteG_N_figures (F1 : Nat → Int32 → Int32 → Int32 → H2 → O2) : List mv_V → H2 → (List mv_V → H2 → O2) → O2 := fun as h k => match as with
  | [.inr (t0, o0), .inl (.int v1), .inl (.int v2), .inl (.int v3)] => mv_gd (Nat.beq t0 8) <| mv_rI (F1 o0 v1 v2 v3 h) fun x h => k [.inl (.int x)] h
  | _ => none
set_option maxRecDepth 100000 in
set_option maxHeartbeats 1000000 in
theorem eN_figures_b39_g (F1 : Nat → Int32 → Int32 → Int32 → H2 → O2) (q39 : Nat → Int32 → Int32 → H2 → O2) (o0 : Nat) (v1 : Int32) (v2 : Int32) (h : H2) : mv_blk rI2 rR2 ln2 wI2 wR2 nw2 cp2 bod none tN_figures [((0, 0), cN_isByteG_N_figures F1)] 0 0 [39] (fun pc lv st h ce sl => mv_gd (Nat.beq ce 0 && Nat.beq sl 0) (cond (Nat.beq pc 39) (mv_gR 0 8 lv fun o0 => mv_gI 1 lv fun v1 => mv_gI 2 lv fun v2 => mv_sE st (q39 o0 v1 v2 h)) (none))) 400 (mv_seek 39 tN_figures) [(0, Sum.inr (8, o0)), (1, Sum.inl (Value.int v1)), (2, Sum.inl (Value.int v2))] [] h 0 0 = (
  if (rI2 h 8 o0 9) ≤ v2 then (
    some ([Sum.inl (Value.int v1)], h))
  else
  if v1 < 0 then (
    some ([Sum.inl (Value.int v1)], h))
  else
  mv_gd (mv_inb v2 200) <|
  mv_bi ((((nI 10) * v1) + (rI2 h 906 o0 v2.toNatClampNeg)) - (nI 48)) fun x1 =>
  mv_bi (v2 + (nI 1)) fun x2 =>
  q39 o0 x1 x2 h) := rfl
theorem eN_figures_b39 (q39 : Nat → Int32 → Int32 → H2 → O2) (o0 : Nat) (v1 : Int32) (v2 : Int32) (h : H2) : mv_blk rI2 rR2 ln2 wI2 wR2 nw2 cp2 bod none tN_figures gN_figures 0 0 [39] (fun pc lv st h ce sl => mv_gd (Nat.beq ce 0 && Nat.beq sl 0) (cond (Nat.beq pc 39) (mv_gR 0 8 lv fun o0 => mv_gI 1 lv fun v1 => mv_gI 2 lv fun v2 => mv_sE st (q39 o0 v1 v2 h)) (none))) 400 (mv_seek 39 tN_figures) [(0, Sum.inr (8, o0)), (1, Sum.inl (Value.int v1)), (2, Sum.inl (Value.int v2))] [] h 0 0 = (
  if (rI2 h 8 o0 9) ≤ v2 then (
    some ([Sum.inl (Value.int v1)], h))
  else
  if v1 < 0 then (
    some ([Sum.inl (Value.int v1)], h))
  else
  mv_gd (mv_inb v2 200) <|
  mv_bi ((((nI 10) * v1) + (rI2 h 906 o0 v2.toNatClampNeg)) - (nI 48)) fun x1 =>
  mv_bi (v2 + (nI 1)) fun x2 =>
  q39 o0 x1 x2 h) := eN_figures_b39_g fN_isByte q39 o0 v1 v2 h
set_option maxRecDepth 100000 in
set_option maxHeartbeats 1000000 in
theorem eN_figures_g (F1 : Nat → Int32 → Int32 → Int32 → H2 → O2) (q39 : Nat → Int32 → Int32 → H2 → O2) (o0 : Nat) (h : H2) : mv_blk rI2 rR2 ln2 wI2 wR2 nw2 cp2 bod none tN_figures [((0, 0), cN_isByteG_N_figures F1)] 0 0 [39] (fun pc lv st h ce sl => mv_gd (Nat.beq ce 0 && Nat.beq sl 0) (cond (Nat.beq pc 39) (mv_gR 0 8 lv fun o0 => mv_gI 1 lv fun v1 => mv_gI 2 lv fun v2 => mv_sE st (q39 o0 v1 v2 h)) (none))) 400 (mv_seek 0 tN_figures) [(0, Sum.inr (8, o0))] [] h 0 0 = (
  mv_rI (F1 o0 (rI2 h 8 o0 8) (nI 48) (nI 57) h) fun r2 h1 =>
  if r2 = 0 then (
    mv_bi (-(nI 1)) fun x3 =>
    mv_bi (rI2 h1 8 o0 8) fun x4 =>
    q39 o0 x3 x4 h1)
  else
  if (nI 3) < ((rI2 h1 8 o0 9) - (rI2 h1 8 o0 8)) then (
    mv_bi (-(nI 1)) fun x5 =>
    mv_bi (rI2 h1 8 o0 8) fun x6 =>
    q39 o0 x5 x6 h1)
  else
  mv_bi (nI 0) fun x7 =>
  mv_bi (rI2 h1 8 o0 8) fun x8 =>
  q39 o0 x7 x8 h1) := rfl
theorem eN_figures (q39 : Nat → Int32 → Int32 → H2 → O2) (o0 : Nat) (h : H2) : mv_blk rI2 rR2 ln2 wI2 wR2 nw2 cp2 bod none tN_figures gN_figures 0 0 [39] (fun pc lv st h ce sl => mv_gd (Nat.beq ce 0 && Nat.beq sl 0) (cond (Nat.beq pc 39) (mv_gR 0 8 lv fun o0 => mv_gI 1 lv fun v1 => mv_gI 2 lv fun v2 => mv_sE st (q39 o0 v1 v2 h)) (none))) 400 (mv_seek 0 tN_figures) [(0, Sum.inr (8, o0))] [] h 0 0 = (
  mv_rI (fN_isByte o0 (rI2 h 8 o0 8) (nI 48) (nI 57) h) fun r2 h1 =>
  if r2 = 0 then (
    mv_bi (-(nI 1)) fun x3 =>
    mv_bi (rI2 h1 8 o0 8) fun x4 =>
    q39 o0 x3 x4 h1)
  else
  if (nI 3) < ((rI2 h1 8 o0 9) - (rI2 h1 8 o0 8)) then (
    mv_bi (-(nI 1)) fun x5 =>
    mv_bi (rI2 h1 8 o0 8) fun x6 =>
    q39 o0 x5 x6 h1)
  else
  mv_bi (nI 0) fun x7 =>
  mv_bi (rI2 h1 8 o0 8) fun x8 =>
  q39 o0 x7 x8 h1) := eN_figures_g fN_isByte q39 o0 h
theorem GN_figures : ∀ (j : Nat) (C : mv_C H2) (md' : mv_MD × Bool), mv_nth j gN_figures = some C → mv_nth j nN_figures = some md' → ∃ n', n' + 1 ≤ 3 ∧ mv_Cal vw2 n' md' C := fun j C md' => match j with
  | 0 => fun h1 h2 => by
    obtain rfl := Option.some.inj h1
    obtain rfl := Option.some.inj h2
    exact ⟨2, by decide, cN_isByte_ok⟩
  | jj + 1 => fun h1 _ => by cases jj <;> cases h1

set_option maxRecDepth 20000 in
theorem xN_figures_b39 {g0 : mv_G} {res : List mv_V × H2} : ∀ (n : Nat) (o0 : Nat) (v1 : Int32) (v2 : Int32) (h : H2), fN_figures_b39 n o0 v1 v2 h = some res → mv_X vw2 mdN_figures 3 0 0 none g0 res 39 [(0, Sum.inr (8, o0)), (1, Sum.inl (Value.int v1)), (2, Sum.inl (Value.int v2))] [] h 0 0 := by
  intro n
  induction n with
  | zero => intro o0 v1 v2 h hh; cases hh
  | succ n ih =>
    intro o0 v1 v2 h hh
    refine mv_blkX ax2 (GN_figures) (by decide) kN_figures (fun pc lv st h ce sl hh => ?_) ((eN_figures_b39 (fN_figures_b39 n) o0 v1 v2 h).trans hh)
    obtain ⟨hg, hh1⟩ := mv_gd_some hh
    obtain ⟨rfl, rfl⟩ := mv_z2 hg
    rcases mv_cond_some hh1 with ⟨hb, hh2⟩ | ⟨hb, hh3⟩
    · obtain rfl := Nat.eq_of_beq_eq_true hb
      obtain ⟨o0, m0, hh4⟩ := mv_gR_some hh2
      obtain ⟨v1, m1, hh5⟩ := mv_gI_some hh4
      obtain ⟨v2, m2, hh6⟩ := mv_gI_some hh5
      obtain ⟨rfl, hh7⟩ := mv_sE_some hh6
      exact (ih o0 v1 v2 h hh7).sub (List.forall_mem_cons.mpr ⟨m0, (List.forall_mem_cons.mpr ⟨m1, (List.forall_mem_cons.mpr ⟨m2, (fun q hq => by cases hq)⟩)⟩)⟩)
    cases hh3

set_option maxRecDepth 20000 in
theorem xN_figures {g0 : mv_G} {res : List mv_V × H2} (o0 : Nat) (h : H2) (hh : fN_figures o0 h = some res) : mv_X vw2 mdN_figures 3 0 0 none g0 res 0 [(0, Sum.inr (8, o0))] [] h 0 0 := by
  refine mv_blkX ax2 (GN_figures) (by decide) kN_figures (fun pc lv st h ce sl hh => ?_) ((eN_figures (fN_figures_b39 1000) o0 h).trans hh)
  obtain ⟨hg, hh1⟩ := mv_gd_some hh
  obtain ⟨rfl, rfl⟩ := mv_z2 hg
  rcases mv_cond_some hh1 with ⟨hb, hh2⟩ | ⟨hb, hh3⟩
  · obtain rfl := Nat.eq_of_beq_eq_true hb
    obtain ⟨o0, m0, hh4⟩ := mv_gR_some hh2
    obtain ⟨v1, m1, hh5⟩ := mv_gI_some hh4
    obtain ⟨v2, m2, hh6⟩ := mv_gI_some hh5
    obtain ⟨rfl, hh7⟩ := mv_sE_some hh6
    exact (xN_figures_b39 1000 o0 v1 v2 h hh7).sub (List.forall_mem_cons.mpr ⟨m0, (List.forall_mem_cons.mpr ⟨m1, (List.forall_mem_cons.mpr ⟨m2, (fun q hq => by cases hq)⟩)⟩)⟩)
  cases hh3

theorem mN_figures (o0 : Nat) (h : H2) (vs : List mv_V) (h' : H2) (hh : fN_figures o0 h = some (vs, h')) : mv_Met vw2 3 0 0 mdN_figures [Sum.inr (8, o0)] h vs h' :=
  mv_Met_of (by decide +kernel) (Nat.le_of_ble_eq_true rfl) (xN_figures o0 h hh)
theorem cN_figures_ok : mv_Cal vw2 3 (mdN_figures, true) ((0, 0), cN_figures) := by
  intro as h k res hh
  change cN_figures as h k = some res at hh
  unfold cN_figures at hh
  split at hh
  · obtain ⟨hg0, ha0⟩ := mv_gd_some hh
    obtain rfl := Nat.eq_of_beq_eq_true hg0
    obtain ⟨x, h', h1, h9⟩ := mv_rI_some ha0
    exact ⟨_, _, h9, (by first | decide | exact Nat.le_refl _ | exact Nat.zero_le _), fun _ => ⟨_, _, _, rfl, Or.inl ⟨by decide, rfl⟩⟩, (mN_figures _ h _ _ h1)⟩
  · cases hh

