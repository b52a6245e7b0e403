set_option maxRecDepth 100000 in
theorem kN_through : mv_tok mdN_through nN_through tN_through = true := by decide +kernel
def cN_isClothG_N_through (F1 : Nat → Int32 → H2 → O2) : List mv_V → H2 → (List mv_V → H2 → O2) → O2 := fun as h k => match as with
  | [.inr (t0, o0), .inl (.int v1)] => mv_gd (Nat.beq t0 8) <| mv_rI (F1 o0 v1 h) fun x h => k [.inl (.int x)] h
  | _ => none
def cN_isPurposeG_N_through (F2 : Int32 → H2 → O2) : List mv_V → H2 → (List mv_V → H2 → O2) → O2 := fun as h k => match as with
  | [.inl (.int v0)] => mv_rI (F2 v0 h) fun x h => k [.inl (.int x)] h
  | _ => none
def cN_isThroughG_N_through (F3 : Nat → Int32 → Int32 → Int32 → Int32 → H2 → O2) : List mv_V → H2 → (List mv_V → H2 → O2) → O2 := fun as h k => match as with
  | [.inr (t0, o0), .inl (.int v1), .inl (.int v2), .inl (.int v3), .inl (.int v4)] => mv_gd (Nat.beq t0 8) <| mv_rI (F3 o0 v1 v2 v3 v4 h) fun x h => k [.inl (.int x)] h
  | _ => none
def cN_lendsG_N_through (F4 : Nat → H2 → O2) : List mv_V → H2 → (List mv_V → H2 → O2) → O2 := fun as h k => match as with
  | [.inr (t0, o0)] => mv_gd (Nat.beq t0 8) <| mv_rV (F4 o0 h) fun h => k [] h
  | _ => none
set_option maxRecDepth 100000 in
set_option maxHeartbeats 1000000 in
theorem eN_through_b31_g (F1 : Nat → Int32 → H2 → O2) (F2 : Int32 → H2 → O2) (F3 : Nat → Int32 → Int32 → Int32 → Int32 → H2 → O2) (F4 : Nat → H2 → O2) (q23 : Nat → Int32 → Int32 → Int32 → H2 → O2) (q31 : Nat → Int32 → Int32 → Int32 → Int32 → H2 → O2) (o0 : Nat) (v1 : Int32) (v2 : Int32) (v3 : Int32) (v4 : Int32) (h : H2) : mv_blk rI2 rR2 ln2 wI2 wR2 nw2 cp2 bod none tN_through [((0, 0), cN_isClothG_N_through F1), ((0, 0), cN_isPurposeG_N_through F2), ((0, 0), cN_lendsG_N_through F4), ((0, 0), cN_isThroughG_N_through F3)] 0 0 [23, 31] (fun pc lv st h ce sl => mv_gd (Nat.beq ce 0 && Nat.beq sl 0) (cond (Nat.beq pc 23) (mv_gR 0 8 lv fun o0 => mv_gI 1 lv fun v1 => mv_gI 2 lv fun v2 => mv_gI 3 lv fun v3 => mv_sE st (q23 o0 v1 v2 v3 h)) (cond (Nat.beq pc 31) (mv_gR 0 8 lv fun o0 => mv_gI 1 lv fun v1 => mv_gI 2 lv fun v2 => mv_gI 3 lv fun v3 => mv_gI 4 lv fun v4 => mv_sE st (q31 o0 v1 v2 v3 v4 h)) (none)))) 400 (mv_seek 31 tN_through) [(0, Sum.inr (8, o0)), (1, Sum.inl (Value.int v1)), (2, Sum.inl (Value.int v2)), (3, Sum.inl (Value.int v3)), (4, Sum.inl (Value.int v4))] [] h 0 0 = (
  if ((nI 1) <<< (((nI 3) * v3) &&& 31)) ≤ v4 then (
    mv_bi (v3 + (nI 1)) fun x1 =>
    q23 o0 v1 v2 x1 h)
  else
  mv_rI (F3 o0 v1 v2 v3 v4 h) fun r3 h2 =>
  if r3 = 0 then (
    mv_bi (v4 + (nI 1)) fun x4 =>
    q31 o0 v1 v2 v3 x4 h2)
  else
  some ([Sum.inl (Value.int (((nI 1) <<< (((nI 3) * v3) &&& 31)) + v4))], h2)) := rfl
theorem eN_through_b31 (q23 : Nat → Int32 → Int32 → Int32 → H2 → O2) (q31 : Nat → Int32 → Int32 → Int32 → Int32 → H2 → O2) (o0 : Nat) (v1 : Int32) (v2 : Int32) (v3 : Int32) (v4 : Int32) (h : H2) : mv_blk rI2 rR2 ln2 wI2 wR2 nw2 cp2 bod none tN_through gN_through 0 0 [23, 31] (fun pc lv st h ce sl => mv_gd (Nat.beq ce 0 && Nat.beq sl 0) (cond (Nat.beq pc 23) (mv_gR 0 8 lv fun o0 => mv_gI 1 lv fun v1 => mv_gI 2 lv fun v2 => mv_gI 3 lv fun v3 => mv_sE st (q23 o0 v1 v2 v3 h)) (cond (Nat.beq pc 31) (mv_gR 0 8 lv fun o0 => mv_gI 1 lv fun v1 => mv_gI 2 lv fun v2 => mv_gI 3 lv fun v3 => mv_gI 4 lv fun v4 => mv_sE st (q31 o0 v1 v2 v3 v4 h)) (none)))) 400 (mv_seek 31 tN_through) [(0, Sum.inr (8, o0)), (1, Sum.inl (Value.int v1)), (2, Sum.inl (Value.int v2)), (3, Sum.inl (Value.int v3)), (4, Sum.inl (Value.int v4))] [] h 0 0 = (
  if ((nI 1) <<< (((nI 3) * v3) &&& 31)) ≤ v4 then (
    mv_bi (v3 + (nI 1)) fun x1 =>
    q23 o0 v1 v2 x1 h)
  else
  mv_rI (fN_isThrough o0 v1 v2 v3 v4 h) fun r3 h2 =>
  if r3 = 0 then (
    mv_bi (v4 + (nI 1)) fun x4 =>
    q31 o0 v1 v2 v3 x4 h2)
  else
  some ([Sum.inl (Value.int (((nI 1) <<< (((nI 3) * v3) &&& 31)) + v4))], h2)) := eN_through_b31_g fN_isCloth fN_isPurpose fN_isThrough fN_lends q23 q31 o0 v1 v2 v3 v4 h
set_option maxRecDepth 100000 in
set_option maxHeartbeats 1000000 in
theorem eN_through_b23_g (F1 : Nat → Int32 → H2 → O2) (F2 : Int32 → H2 → O2) (F3 : Nat → Int32 → Int32 → Int32 → Int32 → H2 → O2) (F4 : Nat → H2 → O2) (q31 : Nat → Int32 → Int32 → Int32 → Int32 → H2 → O2) (o0 : Nat) (v1 : Int32) (v2 : Int32) (v3 : Int32) (h : H2) : mv_blk rI2 rR2 ln2 wI2 wR2 nw2 cp2 bod none tN_through [((0, 0), cN_isClothG_N_through F1), ((0, 0), cN_isPurposeG_N_through F2), ((0, 0), cN_lendsG_N_through F4), ((0, 0), cN_isThroughG_N_through F3)] 0 0 [31] (fun pc lv st h ce sl => mv_gd (Nat.beq ce 0 && Nat.beq sl 0) (cond (Nat.beq pc 31) (mv_gR 0 8 lv fun o0 => mv_gI 1 lv fun v1 => mv_gI 2 lv fun v2 => mv_gI 3 lv fun v3 => mv_gI 4 lv fun v4 => mv_sE st (q31 o0 v1 v2 v3 v4 h)) (none))) 400 (mv_seek 23 tN_through) [(0, Sum.inr (8, o0)), (1, Sum.inl (Value.int v1)), (2, Sum.inl (Value.int v2)), (3, Sum.inl (Value.int v3))] [] h 0 0 = (
  if (nI 3) < v3 then (
    some ([Sum.inl (Value.int (-(nI 3)))], h))
  else
  mv_bi (nI 0) fun x1 =>
  q31 o0 v1 v2 v3 x1 h) := rfl
theorem eN_through_b23 (q31 : Nat → Int32 → Int32 → Int32 → Int32 → H2 → O2) (o0 : Nat) (v1 : Int32) (v2 : Int32) (v3 : Int32) (h : H2) : mv_blk rI2 rR2 ln2 wI2 wR2 nw2 cp2 bod none tN_through gN_through 0 0 [31] (fun pc lv st h ce sl => mv_gd (Nat.beq ce 0 && Nat.beq sl 0) (cond (Nat.beq pc 31) (mv_gR 0 8 lv fun o0 => mv_gI 1 lv fun v1 => mv_gI 2 lv fun v2 => mv_gI 3 lv fun v3 => mv_gI 4 lv fun v4 => mv_sE st (q31 o0 v1 v2 v3 v4 h)) (none))) 400 (mv_seek 23 tN_through) [(0, Sum.inr (8, o0)), (1, Sum.inl (Value.int v1)), (2, Sum.inl (Value.int v2)), (3, Sum.inl (Value.int v3))] [] h 0 0 = (
  if (nI 3) < v3 then (
    some ([Sum.inl (Value.int (-(nI 3)))], h))
  else
  mv_bi (nI 0) fun x1 =>
  q31 o0 v1 v2 v3 x1 h) := eN_through_b23_g fN_isCloth fN_isPurpose fN_isThrough fN_lends q31 o0 v1 v2 v3 h
set_option maxRecDepth 100000 in
set_option maxHeartbeats 1000000 in
theorem eN_through_g (F1 : Nat → Int32 → H2 → O2) (F2 : Int32 → H2 → O2) (F3 : Nat → Int32 → Int32 → Int32 → Int32 → H2 → O2) (F4 : Nat → H2 → O2) (q23 : Nat → Int32 → Int32 → Int32 → H2 → O2) (o0 : Nat) (v1 : Int32) (v2 : Int32) (h : H2) : mv_blk rI2 rR2 ln2 wI2 wR2 nw2 cp2 bod none tN_through [((0, 0), cN_isClothG_N_through F1), ((0, 0), cN_isPurposeG_N_through F2), ((0, 0), cN_lendsG_N_through F4), ((0, 0), cN_isThroughG_N_through F3)] 0 0 [23] (fun pc lv st h ce sl => mv_gd (Nat.beq ce 0 && Nat.beq sl 0) (cond (Nat.beq pc 23) (mv_gR 0 8 lv fun o0 => mv_gI 1 lv fun v1 => mv_gI 2 lv fun v2 => mv_gI 3 lv fun v3 => mv_sE st (q23 o0 v1 v2 v3 h)) (none))) 400 (mv_seek 0 tN_through) [(0, Sum.inr (8, o0)), (1, Sum.inl (Value.int v1)), (2, Sum.inl (Value.int v2))] [] h 0 0 = (
  mv_rI (F1 o0 v1 h) fun r2 h1 =>
  if r2 = 0 then (
    some ([Sum.inl (Value.int (-(nI 1)))], h1))
  else
  mv_rI (F2 v2 h1) fun r4 h3 =>
  if r4 = 0 then (
    some ([Sum.inl (Value.int (-(nI 1)))], h3))
  else
  mv_rV (F4 o0 h3) fun h5 =>
  mv_bi (nI 0) fun x6 =>
  q23 o0 v1 v2 x6 h5) := rfl
theorem eN_through (q23 : Nat → Int32 → Int32 → Int32 → H2 → O2) (o0 : Nat) (v1 : Int32) (v2 : Int32) (h : H2) : mv_blk rI2 rR2 ln2 wI2 wR2 nw2 cp2 bod none tN_through gN_through 0 0 [23] (fun pc lv st h ce sl => mv_gd (Nat.beq ce 0 && Nat.beq sl 0) (cond (Nat.beq pc 23) (mv_gR 0 8 lv fun o0 => mv_gI 1 lv fun v1 => mv_gI 2 lv fun v2 => mv_gI 3 lv fun v3 => mv_sE st (q23 o0 v1 v2 v3 h)) (none))) 400 (mv_seek 0 tN_through) [(0, Sum.inr (8, o0)), (1, Sum.inl (Value.int v1)), (2, Sum.inl (Value.int v2))] [] h 0 0 = (
  mv_rI (fN_isCloth o0 v1 h) fun r2 h1 =>
  if r2 = 0 then (
    some ([Sum.inl (Value.int (-(nI 1)))], h1))
  else
  mv_rI (fN_isPurpose v2 h1) fun r4 h3 =>
  if r4 = 0 then (
    some ([Sum.inl (Value.int (-(nI 1)))], h3))
  else
  mv_rV (fN_lends o0 h3) fun h5 =>
  mv_bi (nI 0) fun x6 =>
  q23 o0 v1 v2 x6 h5) := eN_through_g fN_isCloth fN_isPurpose fN_isThrough fN_lends q23 o0 v1 v2 h
theorem GN_through : ∀ (j : Nat) (C : mv_C H2) (md' : mv_MD × Bool), mv_nth j gN_through = some C → mv_nth j nN_through = some md' → ∃ n', n' + 1 ≤ 5 ∧ mv_Cal vw2 n' md' C := fun j C md' => match j with
  | 0 => fun h1 h2 => by
    obtain rfl := Option.some.inj h1
    obtain rfl := Option.some.inj h2
    exact ⟨2, by decide, cN_isCloth_ok⟩
  | 1 => fun h1 h2 => by
    obtain rfl := Option.some.inj h1
    obtain rfl := Option.some.inj h2
    exact ⟨2, by decide, cN_isPurpose_ok⟩
  | 2 => fun h1 h2 => by
    obtain rfl := Option.some.inj h1
    obtain rfl := Option.some.inj h2
    exact ⟨2, by decide, cN_lends_ok⟩
  | 3 => fun h1 h2 => by
    obtain rfl := Option.some.inj h1
    obtain rfl := Option.some.inj h2
    exact ⟨4, by decide, cN_isThrough_ok⟩
  | jj + 4 => fun h1 _ => by cases jj <;> cases h1

set_option maxRecDepth 20000 in
theorem xN_through_b31 {g0 : mv_G} {res : List mv_V × H2} {k23 : Nat → Int32 → Int32 → Int32 → H2 → O2} (hk23 : ∀ (o0 : Nat) (v1 : Int32) (v2 : Int32) (v3 : Int32) h, k23 o0 v1 v2 v3 h = some res → mv_X vw2 mdN_through 5 0 0 none g0 res 23 [(0, Sum.inr (8, o0)), (1, Sum.inl (Value.int v1)), (2, Sum.inl (Value.int v2)), (3, Sum.inl (Value.int v3))] [] h 0 0) : ∀ (n : Nat) (o0 : Nat) (v1 : Int32) (v2 : Int32) (v3 : Int32) (v4 : Int32) (h : H2), fN_through_b31 k23 n o0 v1 v2 v3 v4 h = some res → mv_X vw2 mdN_through 5 0 0 none g0 res 31 [(0, Sum.inr (8, o0)), (1, Sum.inl (Value.int v1)), (2, Sum.inl (Value.int v2)), (3, Sum.inl (Value.int v3)), (4, Sum.inl (Value.int v4))] [] h 0 0 := by
  intro n
  induction n with
  | zero => intro o0 v1 v2 v3 v4 h hh; cases hh
  | succ n ih =>
    intro o0 v1 v2 v3 v4 h hh
    refine mv_blkX ax2 (GN_through) (by decide) kN_through (fun pc lv st h ce sl hh => ?_) ((eN_through_b31 (k23) (fN_through_b31 k23 n) o0 v1 v2 v3 v4 h).trans hh)
    obtain ⟨hg, hh1⟩ := mv_gd_some hh
    obtain ⟨rfl, rfl⟩ := mv_z2 hg
    rcases mv_cond_some hh1 with ⟨hb, hh2⟩ | ⟨hb, hh3⟩
    · obtain rfl := Nat.eq_of_beq_eq_true hb
      obtain ⟨o0, m0, hh4⟩ := mv_gR_some hh2
      obtain ⟨v1, m1, hh5⟩ := mv_gI_some hh4
      obtain ⟨v2, m2, hh6⟩ := mv_gI_some hh5
      obtain ⟨v3, m3, hh7⟩ := mv_gI_some hh6
      obtain ⟨rfl, hh8⟩ := mv_sE_some hh7
      exact (hk23 o0 v1 v2 v3 h hh8).sub (List.forall_mem_cons.mpr ⟨m0, (List.forall_mem_cons.mpr ⟨m1, (List.forall_mem_cons.mpr ⟨m2, (List.forall_mem_cons.mpr ⟨m3, (fun q hq => by cases hq)⟩)⟩)⟩)⟩)
    rcases mv_cond_some hh3 with ⟨hb, hh9⟩ | ⟨hb, hh10⟩
    · obtain rfl := Nat.eq_of_beq_eq_true hb
      obtain ⟨o0, m0, hh11⟩ := mv_gR_some hh9
      obtain ⟨v1, m1, hh12⟩ := mv_gI_some hh11
      obtain ⟨v2, m2, hh13⟩ := mv_gI_some hh12
      obtain ⟨v3, m3, hh14⟩ := mv_gI_some hh13
      obtain ⟨v4, m4, hh15⟩ := mv_gI_some hh14
      obtain ⟨rfl, hh16⟩ := mv_sE_some hh15
      exact (ih o0 v1 v2 v3 v4 h hh16).sub (List.forall_mem_cons.mpr ⟨m0, (List.forall_mem_cons.mpr ⟨m1, (List.forall_mem_cons.mpr ⟨m2, (List.forall_mem_cons.mpr ⟨m3, (List.forall_mem_cons.mpr ⟨m4, (fun q hq => by cases hq)⟩)⟩)⟩)⟩)⟩)
    cases hh10

set_option maxRecDepth 20000 in
theorem xN_through_b23 {g0 : mv_G} {res : List mv_V × H2} : ∀ (n : Nat) (o0 : Nat) (v1 : Int32) (v2 : Int32) (v3 : Int32) (h : H2), fN_through_b23 n o0 v1 v2 v3 h = some res → mv_X vw2 mdN_through 5 0 0 none g0 res 23 [(0, Sum.inr (8, o0)), (1, Sum.inl (Value.int v1)), (2, Sum.inl (Value.int v2)), (3, Sum.inl (Value.int v3))] [] h 0 0 := by
  intro n
  induction n with
  | zero => intro o0 v1 v2 v3 h hh; cases hh
  | succ n ih =>
    intro o0 v1 v2 v3 h hh
    refine mv_blkX ax2 (GN_through) (by decide) kN_through (fun pc lv st h ce sl hh => ?_) ((eN_through_b23 (fN_through_b31 (fN_through_b23 n) 1000) o0 v1 v2 v3 h).trans hh)
    obtain ⟨hg, hh1⟩ := mv_gd_some hh
    obtain ⟨rfl, rfl⟩ := mv_z2 hg
    rcases mv_cond_some hh1 with ⟨hb, hh2⟩ | ⟨hb, hh3⟩
    · obtain rfl := Nat.eq_of_beq_eq_true hb
      obtain ⟨o0, m0, hh4⟩ := mv_gR_some hh2
      obtain ⟨v1, m1, hh5⟩ := mv_gI_some hh4
      obtain ⟨v2, m2, hh6⟩ := mv_gI_some hh5
      obtain ⟨v3, m3, hh7⟩ := mv_gI_some hh6
      obtain ⟨v4, m4, hh8⟩ := mv_gI_some hh7
      obtain ⟨rfl, hh9⟩ := mv_sE_some hh8
      exact (xN_through_b31 ih 1000 o0 v1 v2 v3 v4 h hh9).sub (List.forall_mem_cons.mpr ⟨m0, (List.forall_mem_cons.mpr ⟨m1, (List.forall_mem_cons.mpr ⟨m2, (List.forall_mem_cons.mpr ⟨m3, (List.forall_mem_cons.mpr ⟨m4, (fun q hq => by cases hq)⟩)⟩)⟩)⟩)⟩)
    cases hh3

set_option maxRecDepth 20000 in
theorem xN_through {g0 : mv_G} {res : List mv_V × H2} (o0 : Nat) (v1 : Int32) (v2 : Int32) (h : H2) (hh : fN_through o0 v1 v2 h = some res) : mv_X vw2 mdN_through 5 0 0 none g0 res 0 [(0, Sum.inr (8, o0)), (1, Sum.inl (Value.int v1)), (2, Sum.inl (Value.int v2))] [] h 0 0 := by
  refine mv_blkX ax2 (GN_through) (by decide) kN_through (fun pc lv st h ce sl hh => ?_) ((eN_through (fN_through_b23 1000) o0 v1 v2 h).trans hh)
  obtain ⟨hg, hh1⟩ := mv_gd_some hh
  obtain ⟨rfl, rfl⟩ := mv_z2 hg
  rcases mv_cond_some hh1 with ⟨hb, hh2⟩ | ⟨hb, hh3⟩
  · obtain rfl := Nat.eq_of_beq_eq_true hb
    obtain ⟨o0, m0, hh4⟩ := mv_gR_some hh2
    obtain ⟨v1, m1, hh5⟩ := mv_gI_some hh4
    obtain ⟨v2, m2, hh6⟩ := mv_gI_some hh5
    obtain ⟨v3, m3, hh7⟩ := mv_gI_some hh6
    obtain ⟨rfl, hh8⟩ := mv_sE_some hh7
    exact (xN_through_b23 1000 o0 v1 v2 v3 h hh8).sub (List.forall_mem_cons.mpr ⟨m0, (List.forall_mem_cons.mpr ⟨m1, (List.forall_mem_cons.mpr ⟨m2, (List.forall_mem_cons.mpr ⟨m3, (fun q hq => by cases hq)⟩)⟩)⟩)⟩)
  cases hh3

theorem mN_through (o0 : Nat) (v1 : Int32) (v2 : Int32) (h : H2) (vs : List mv_V) (h' : H2) (hh : fN_through o0 v1 v2 h = some (vs, h')) : mv_Met vw2 5 0 0 mdN_through [Sum.inr (8, o0), Sum.inl (Value.int v1), Sum.inl (Value.int v2)] h vs h' :=
  mv_Met_of (by decide +kernel) (Nat.le_of_ble_eq_true rfl) (xN_through o0 v1 v2 h hh)
set_option maxRecDepth 100000 in
theorem kN_vatFor : mv_tok mdN_vatFor nN_vatFor tN_vatFor = true := by decide +kernel
def cN_depthsG_N_vatFor (F1 : Nat → H2 → O2) : List mv_V → H2 → (List mv_V → H2 → O2) → O2 := fun as h k => match as with
  | [.inr (t0, o0)] => mv_gd (Nat.beq t0 8) <| mv_rI (F1 o0 h) fun x h => k [.inl (.int x)] h
  | _ => none
def cN_goesG_N_vatFor (F2 : Nat → Int32 → H2 → O2) : List mv_V → H2 → (List mv_V → H2 → O2) → O2 := fun as h k => match as with
  | [.inr (t0, o0), .inl (.int v1)] => mv_gd (Nat.beq t0 8) <| mv_rV (F2 o0 v1 h) fun h => k [] h
  | _ => none
def cN_isRestG_N_vatFor (F3 : Int32 → H2 → O2) : List mv_V → H2 → (List mv_V → H2 → O2) → O2 := fun as h k => match as with
  | [.inl (.int v0)] => mv_rI (F3 v0 h) fun x h => k [.inl (.int x)] h
  | _ => none
def cN_isSoonG_N_vatFor (F4 : Int32 → H2 → O2) : List mv_V → H2 → (List mv_V → H2 → O2) → O2 := fun as h k => match as with
  | [.inl (.int v0)] => mv_rI (F4 v0 h) fun x h => k [.inl (.int x)] h
  | _ => none
def cN_laysBackG_N_vatFor (F5 : Nat → H2 → O2) : List mv_V → H2 → (List mv_V → H2 → O2) → O2 := fun as h k => match as with
  | [.inr (t0, o0)] => mv_gd (Nat.beq t0 8) <| mv_rV (F5 o0 h) fun h => k [] h
  | _ => none
def cN_lendsG_N_vatFor (F6 : Nat → H2 → O2) : List mv_V → H2 → (List mv_V → H2 → O2) → O2 := fun as h k => match as with
  | [.inr (t0, o0)] => mv_gd (Nat.beq t0 8) <| mv_rV (F6 o0 h) fun h => k [] h
  | _ => none
set_option maxRecDepth 100000 in
set_option maxHeartbeats 1000000 in
theorem eN_vatFor_b24_g (F1 : Nat → H2 → O2) (F2 : Nat → Int32 → H2 → O2) (F3 : Int32 → H2 → O2) (F4 : Int32 → H2 → O2) (F5 : Nat → H2 → O2) (F6 : Nat → H2 → O2) (q24 : Nat → Int32 → Int32 → Int32 → Int32 → Int32 → H2 → O2) (o0 : Nat) (v1 : Int32) (v2 : Int32) (v3 : Int32) (v4 : Int32) (v5 : Int32) (h : H2) : mv_blk rI2 rR2 ln2 wI2 wR2 nw2 cp2 bod none tN_vatFor [((0, 0), cN_isRestG_N_vatFor F3), ((0, 0), cN_isSoonG_N_vatFor F4), ((0, 0), cN_lendsG_N_vatFor F6), ((0, 0), cN_goesG_N_vatFor F2), ((0, 0), cN_depthsG_N_vatFor F1), ((0, 0), cN_laysBackG_N_vatFor F5)] 0 0 [24] (fun pc lv st h ce sl => mv_gd (Nat.beq ce 0 && Nat.beq sl 0) (cond (Nat.beq pc 24) (mv_gR 0 8 lv fun o0 => mv_gI 1 lv fun v1 => mv_gI 2 lv fun v2 => mv_gI 3 lv fun v3 => mv_gI 4 lv fun v4 => mv_gI 5 lv fun v5 => mv_sE st (q24 o0 v1 v2 v3 v4 v5 h)) (none))) 400 (mv_seek 24 tN_vatFor) [(0, Sum.inr (8, o0)), (1, Sum.inl (Value.int v1)), (2, Sum.inl (Value.int v2)), (3, Sum.inl (Value.int v3)), (4, Sum.inl (Value.int v4)), (5, Sum.inl (Value.int v5))] [] h 0 0 = (
  if (nI 8) ≤ v5 then (
    some ([Sum.inl (Value.int v3)], h))
  else
  mv_rV (F6 o0 h) fun h1 =>
  mv_gd (mv_inb ((nI 23) + v1) 69) <|
  mv_bh (wI2 h1 902 o0 ((nI 23) + v1).toNatClampNeg v5) fun h2 =>
  mv_rV (F2 o0 v2 h2) fun h3 =>
  mv_rI (F1 o0 h3) fun r5 h4 =>
  mv_bi r5 fun x6 =>
  mv_rV (F5 o0 h4) fun h7 =>
  if x6 ≤ v4 then (
    mv_bi v3 fun x8 =>
    mv_bi (if v4 < x6 then x6 else v4) fun x9 =>
    mv_bi (v5 + (nI 1)) fun x10 =>
    q24 o0 v1 v2 x8 x9 x10 h7)
  else
  mv_bi v5 fun x11 =>
  mv_bi (if v4 < x6 then x6 else v4) fun x12 =>
  mv_bi (v5 + (nI 1)) fun x13 =>
  q24 o0 v1 v2 x11 x12 x13 h7) := rfl
theorem eN_vatFor_b24 (q24 : Nat → Int32 → Int32 → Int32 → Int32 → Int32 → H2 → O2) (o0 : Nat) (v1 : Int32) (v2 : Int32) (v3 : Int32) (v4 : Int32) (v5 : Int32) (h : H2) : mv_blk rI2 rR2 ln2 wI2 wR2 nw2 cp2 bod none tN_vatFor gN_vatFor 0 0 [24] (fun pc lv st h ce sl => mv_gd (Nat.beq ce 0 && Nat.beq sl 0) (cond (Nat.beq pc 24) (mv_gR 0 8 lv fun o0 => mv_gI 1 lv fun v1 => mv_gI 2 lv fun v2 => mv_gI 3 lv fun v3 => mv_gI 4 lv fun v4 => mv_gI 5 lv fun v5 => mv_sE st (q24 o0 v1 v2 v3 v4 v5 h)) (none))) 400 (mv_seek 24 tN_vatFor) [(0, Sum.inr (8, o0)), (1, Sum.inl (Value.int v1)), (2, Sum.inl (Value.int v2)), (3, Sum.inl (Value.int v3)), (4, Sum.inl (Value.int v4)), (5, Sum.inl (Value.int v5))] [] h 0 0 = (
  if (nI 8) ≤ v5 then (
    some ([Sum.inl (Value.int v3)], h))
  else
  mv_rV (fN_lends o0 h) fun h1 =>
  mv_gd (mv_inb ((nI 23) + v1) 69) <|
  mv_bh (wI2 h1 902 o0 ((nI 23) + v1).toNatClampNeg v5) fun h2 =>
  mv_rV (fN_goes o0 v2 h2) fun h3 =>
  mv_rI (fN_depths o0 h3) fun r5 h4 =>
  mv_bi r5 fun x6 =>
  mv_rV (fN_laysBack o0 h4) fun h7 =>
  if x6 ≤ v4 then (
    mv_bi v3 fun x8 =>
    mv_bi (if v4 < x6 then x6 else v4) fun x9 =>
    mv_bi (v5 + (nI 1)) fun x10 =>
    q24 o0 v1 v2 x8 x9 x10 h7)
  else
  mv_bi v5 fun x11 =>
  mv_bi (if v4 < x6 then x6 else v4) fun x12 =>
  mv_bi (v5 + (nI 1)) fun x13 =>
  q24 o0 v1 v2 x11 x12 x13 h7) := eN_vatFor_b24_g fN_depths fN_goes fN_isRest fN_isSoon fN_laysBack fN_lends q24 o0 v1 v2 v3 v4 v5 h
set_option maxRecDepth 100000 in
set_option maxHeartbeats 1000000 in
theorem eN_vatFor_g (F1 : Nat → H2 → O2) (F2 : Nat → Int32 → H2 → O2) (F3 : Int32 → H2 → O2) (F4 : Int32 → H2 → O2) (F5 : Nat → H2 → O2) (F6 : Nat → H2 → O2) (q24 : Nat → Int32 → Int32 → Int32 → Int32 → Int32 → H2 → O2) (o0 : Nat) (v1 : Int32) (v2 : Int32) (h : H2) : mv_blk rI2 rR2 ln2 wI2 wR2 nw2 cp2 bod none tN_vatFor [((0, 0), cN_isRestG_N_vatFor F3), ((0, 0), cN_isSoonG_N_vatFor F4), ((0, 0), cN_lendsG_N_vatFor F6), ((0, 0), cN_goesG_N_vatFor F2), ((0, 0), cN_depthsG_N_vatFor F1), ((0, 0), cN_laysBackG_N_vatFor F5)] 0 0 [24] (fun pc lv st h ce sl => mv_gd (Nat.beq ce 0 && Nat.beq sl 0) (cond (Nat.beq pc 24) (mv_gR 0 8 lv fun o0 => mv_gI 1 lv fun v1 => mv_gI 2 lv fun v2 => mv_gI 3 lv fun v3 => mv_gI 4 lv fun v4 => mv_gI 5 lv fun v5 => mv_sE st (q24 o0 v1 v2 v3 v4 v5 h)) (none))) 400 (mv_seek 0 tN_vatFor) [(0, Sum.inr (8, o0)), (1, Sum.inl (Value.int v1)), (2, Sum.inl (Value.int v2))] [] h 0 0 = (
  mv_rI (F3 v1 h) fun r2 h1 =>
  if r2 = 0 then (
    some ([Sum.inl (Value.int (-(nI 1)))], h1))
  else
  mv_rI (F4 v2 h1) fun r4 h3 =>
  if r4 = 0 then (
    some ([Sum.inl (Value.int (-(nI 1)))], h3))
  else
  mv_bi (-(nI 1)) fun x5 =>
  mv_bi (-(nI 1)) fun x6 =>
  mv_bi (nI 0) fun x7 =>
  q24 o0 v1 v2 x5 x6 x7 h3) := rfl
theorem eN_vatFor (q24 : Nat → Int32 → Int32 → Int32 → Int32 → Int32 → H2 → O2) (o0 : Nat) (v1 : Int32) (v2 : Int32) (h : H2) : mv_blk rI2 rR2 ln2 wI2 wR2 nw2 cp2 bod none tN_vatFor gN_vatFor 0 0 [24] (fun pc lv st h ce sl => mv_gd (Nat.beq ce 0 && Nat.beq sl 0) (cond (Nat.beq pc 24) (mv_gR 0 8 lv fun o0 => mv_gI 1 lv fun v1 => mv_gI 2 lv fun v2 => mv_gI 3 lv fun v3 => mv_gI 4 lv fun v4 => mv_gI 5 lv fun v5 => mv_sE st (q24 o0 v1 v2 v3 v4 v5 h)) (none))) 400 (mv_seek 0 tN_vatFor) [(0, Sum.inr (8, o0)), (1, Sum.inl (Value.int v1)), (2, Sum.inl (Value.int v2))] [] h 0 0 = (
  mv_rI (fN_isRest v1 h) fun r2 h1 =>
  if r2 = 0 then (
    some ([Sum.inl (Value.int (-(nI 1)))], h1))
  else
  mv_rI (fN_isSoon v2 h1) fun r4 h3 =>
  if r4 = 0 then (
    some ([Sum.inl (Value.int (-(nI 1)))], h3))
  else
  mv_bi (-(nI 1)) fun x5 =>
  mv_bi (-(nI 1)) fun x6 =>
  mv_bi (nI 0) fun x7 =>
  q24 o0 v1 v2 x5 x6 x7 h3) := eN_vatFor_g fN_depths fN_goes fN_isRest fN_isSoon fN_laysBack fN_lends q24 o0 v1 v2 h
theorem GN_vatFor : ∀ (j : Nat) (C : mv_C H2) (md' : mv_MD × Bool), mv_nth j gN_vatFor = some C → mv_nth j nN_vatFor = some md' → ∃ n', n' + 1 ≤ 6 ∧ mv_Cal vw2 n' md' C := fun j C md' => match j with
  | 0 => fun h1 h2 => by
    obtain rfl := Option.some.inj h1
    obtain rfl := Option.some.inj h2
    exact ⟨2, by decide, cN_isRest_ok⟩
  | 1 => fun h1 h2 => by
    obtain rfl := Option.some.inj h1
    obtain rfl := Option.some.inj h2
    exact ⟨2, by decide, cN_isSoon_ok⟩
  | 2 => fun h1 h2 => by
    obtain rfl := Option.some.inj h1
    obtain rfl := Option.some.inj h2
    exact ⟨2, by decide, cN_lends_ok⟩
  | 3 => fun h1 h2 => by
    obtain rfl := Option.some.inj h1
    obtain rfl := Option.some.inj h2
    exact ⟨5, by decide, cN_goes_ok⟩
  | 4 => fun h1 h2 => by
    obtain rfl := Option.some.inj h1
    obtain rfl := Option.some.inj h2
    exact ⟨2, by decide, cN_depths_ok⟩
  | 5 => fun h1 h2 => by
    obtain rfl := Option.some.inj h1
    obtain rfl := Option.some.inj h2
    exact ⟨2, by decide, cN_laysBack_ok⟩
  | jj + 6 => fun h1 _ => by cases jj <;> cases h1

set_option maxRecDepth 20000 in
theorem xN_vatFor_b24 {g0 : mv_G} {res : List mv_V × H2} : ∀ (n : Nat) (o0 : Nat) (v1 : Int32) (v2 : Int32) (v3 : Int32) (v4 : Int32) (v5 : Int32) (h : H2), fN_vatFor_b24 n o0 v1 v2 v3 v4 v5 h = some res → mv_X vw2 mdN_vatFor 6 0 0 none g0 res 24 [(0, Sum.inr (8, o0)), (1, Sum.inl (Value.int v1)), (2, Sum.inl (Value.int v2)), (3, Sum.inl (Value.int v3)), (4, Sum.inl (Value.int v4)), (5, Sum.inl (Value.int v5))] [] h 0 0 := by
  intro n
  induction n with
  | zero => intro o0 v1 v2 v3 v4 v5 h hh; cases hh
  | succ n ih =>
    intro o0 v1 v2 v3 v4 v5 h hh
    refine mv_blkX ax2 (GN_vatFor) (by decide) kN_vatFor (fun pc lv st h ce sl hh => ?_) ((eN_vatFor_b24 (fN_vatFor_b24 n) o0 v1 v2 v3 v4 v5 h).trans hh)
    obtain ⟨hg, hh1⟩ := mv_gd_some hh
    obtain ⟨rfl, rfl⟩ := mv_z2 hg
    rcases mv_cond_some hh1 with ⟨hb, hh2⟩ | ⟨hb, hh3⟩
    · obtain rfl := Nat.eq_of_beq_eq_true hb
      obtain ⟨o0, m0, hh4⟩ := mv_gR_some hh2
      obtain ⟨v1, m1, hh5⟩ := mv_gI_some hh4
      obtain ⟨v2, m2, hh6⟩ := mv_gI_some hh5
      obtain ⟨v3, m3, hh7⟩ := mv_gI_some hh6
      obtain ⟨v4, m4, hh8⟩ := mv_gI_some hh7
      obtain ⟨v5, m5, hh9⟩ := mv_gI_some hh8
      obtain ⟨rfl, hh10⟩ := mv_sE_some hh9
      exact (ih o0 v1 v2 v3 v4 v5 h hh10).sub (List.forall_mem_cons.mpr ⟨m0, (List.forall_mem_cons.mpr ⟨m1, (List.forall_mem_cons.mpr ⟨m2, (List.forall_mem_cons.mpr ⟨m3, (List.forall_mem_cons.mpr ⟨m4, (List.forall_mem_cons.mpr ⟨m5, (fun q hq => by cases hq)⟩)⟩)⟩)⟩)⟩)⟩)
    cases hh3

set_option maxRecDepth 20000 in
theorem xN_vatFor {g0 : mv_G} {res : List mv_V × H2} (o0 : Nat) (v1 : Int32) (v2 : Int32) (h : H2) (hh : fN_vatFor o0 v1 v2 h = some res) : mv_X vw2 mdN_vatFor 6 0 0 none g0 res 0 [(0, Sum.inr (8, o0)), (1, Sum.inl (Value.int v1)), (2, Sum.inl (Value.int v2))] [] h 0 0 := by
  refine mv_blkX ax2 (GN_vatFor) (by decide) kN_vatFor (fun pc lv st h ce sl hh => ?_) ((eN_vatFor (fN_vatFor_b24 1000) o0 v1 v2 h).trans hh)
  obtain ⟨hg, hh1⟩ := mv_gd_some hh
  obtain ⟨rfl, rfl⟩ := mv_z2 hg
  rcases mv_cond_some hh1 with ⟨hb, hh2⟩ | ⟨hb, hh3⟩
  · obtain rfl := Nat.eq_of_beq_eq_true hb
    obtain ⟨o0, m0, hh4⟩ := mv_gR_some hh2
    obtain ⟨v1, m1, hh5⟩ := mv_gI_some hh4
    obtain ⟨v2, m2, hh6⟩ := mv_gI_some hh5
    obtain ⟨v3, m3, hh7⟩ := mv_gI_some hh6
    obtain ⟨v4, m4, hh8⟩ := mv_gI_some hh7
    obtain ⟨v5, m5, hh9⟩ := mv_gI_some hh8
    obtain ⟨rfl, hh10⟩ := mv_sE_some hh9
    exact (xN_vatFor_b24 1000 o0 v1 v2 v3 v4 v5 h hh10).sub (List.forall_mem_cons.mpr ⟨m0, (List.forall_mem_cons.mpr ⟨m1, (List.forall_mem_cons.mpr ⟨m2, (List.forall_mem_cons.mpr ⟨m3, (List.forall_mem_cons.mpr ⟨m4, (List.forall_mem_cons.mpr ⟨m5, (fun q hq => by cases hq)⟩)⟩)⟩)⟩)⟩)⟩)
  cases hh3

theorem mN_vatFor (o0 : Nat) (v1 : Int32) (v2 : Int32) (h : H2) (vs : List mv_V) (h' : H2) (hh : fN_vatFor o0 v1 v2 h = some (vs, h')) : mv_Met vw2 6 0 0 mdN_vatFor [Sum.inr (8, o0), Sum.inl (Value.int v1), Sum.inl (Value.int v2)] h vs h' :=
  mv_Met_of (by decide +kernel) (Nat.le_of_ble_eq_true rfl) (xN_vatFor o0 v1 v2 h hh)
set_option maxRecDepth 100000 in
theorem kN_kindFor : mv_tok mdN_kindFor nN_kindFor tN_kindFor = true := by decide +kernel
def cN_behindG_N_kindFor (F1 : Nat → Int32 → Int32 → Int32 → H2 → O2) : List mv_V → H2 → (List mv_V → H2 → O2) → O2 := fun as h k => match as with
  | [.inr (t0, o0), .inl (.int v1), .inl (.int v2), .inl (.int v3)] => mv_gd (Nat.beq t0 8) <| mv_rI (F1 o0 v1 v2 v3 h) fun x h => k [.inl (.int x)] h
  | _ => none
def cN_isClothG_N_kindFor (F2 : Nat → Int32 → H2 → O2) : List mv_V → H2 → (List mv_V → H2 → O2) → O2 := fun as h k => match as with
  | [.inr (t0, o0), .inl (.int v1)] => mv_gd (Nat.beq t0 8) <| mv_rI (F2 o0 v1 h) fun x h => k [.inl (.int x)] h
  | _ => none
def cN_isSoonG_N_kindFor (F3 : Int32 → H2 → O2) : List mv_V → H2 → (List mv_V → H2 → O2) → O2 := fun as h k => match as with
  | [.inl (.int v0)] => mv_rI (F3 v0 h) fun x h => k [.inl (.int x)] h
  | _ => none
def cN_lendsG_N_kindFor (F4 : Nat → H2 → O2) : List mv_V → H2 → (List mv_V → H2 → O2) → O2 := fun as h k => match as with
  | [.inr (t0, o0)] => mv_gd (Nat.beq t0 8) <| mv_rV (F4 o0 h) fun h => k [] h
  | _ => none
def cN_setsG_N_kindFor (F5 : Nat → Int32 → Int32 → Int32 → H2 → O2) : List mv_V → H2 → (List mv_V → H2 → O2) → O2 := fun as h k => match as with
  | [.inr (t0, o0), .inl (.int v1), .inl (.int v2), .inl (.int v3)] => mv_gd (Nat.beq t0 8) <| mv_rV (F5 o0 v1 v2 v3 h) fun h => k [] h
  | _ => none
set_option maxRecDepth 100000 in
set_option maxHeartbeats 1000000 in
theorem eN_kindFor_b25_g (F1 : Nat → Int32 → Int32 → Int32 → H2 → O2) (F2 : Nat → Int32 → H2 → O2) (F3 : Int32 → H2 → O2) (F4 : Nat → H2 → O2) (F5 : Nat → Int32 → Int32 → Int32 → H2 → O2) (q25 : Nat → Int32 → Int32 → Int32 → Int32 → Int32 → H2 → O2) (o0 : Nat) (v1 : Int32) (v2 : Int32) (v3 : Int32) (v4 : Int32) (v5 : Int32) (h : H2) : mv_blk rI2 rR2 ln2 wI2 wR2 nw2 cp2 bod none tN_kindFor [((0, 0), cN_isClothG_N_kindFor F2), ((0, 0), cN_isSoonG_N_kindFor F3), ((0, 0), cN_lendsG_N_kindFor F4), ((0, 0), cN_setsG_N_kindFor F5), ((0, 0), cN_behindG_N_kindFor F1)] 0 0 [25] (fun pc lv st h ce sl => mv_gd (Nat.beq ce 0 && Nat.beq sl 0) (cond (Nat.beq pc 25) (mv_gR 0 8 lv fun o0 => mv_gI 1 lv fun v1 => mv_gI 2 lv fun v2 => mv_gI 3 lv fun v3 => mv_gI 4 lv fun v4 => mv_gI 5 lv fun v5 => mv_sE st (q25 o0 v1 v2 v3 v4 v5 h)) (none))) 400 (mv_seek 25 tN_kindFor) [(0, Sum.inr (8, o0)), (1, Sum.inl (Value.int v1)), (2, Sum.inl (Value.int v2)), (3, Sum.inl (Value.int v3)), (4, Sum.inl (Value.int v4)), (5, Sum.inl (Value.int v5))] [] h 0 0 = (
  if (nI 5) < v5 then (
    some ([Sum.inl (Value.int v3)], h))
  else
  mv_rV (F4 o0 h) fun h1 =>
  mv_rV (F5 o0 v1 (nI 0) v5 h1) fun h2 =>
  mv_rI (F1 o0 v1 (nI 2) v2 h2) fun r4 h3 =>
  mv_bi r4 fun x5 =>
  if x5 ≤ v4 then (
    mv_bi v3 fun x6 =>
    mv_bi (if v4 < x5 then x5 else v4) fun x7 =>
    mv_bi (v5 + (nI 1)) fun x8 =>
    q25 o0 v1 v2 x6 x7 x8 h3)
  else
  mv_bi v5 fun x9 =>
  mv_bi (if v4 < x5 then x5 else v4) fun x10 =>
  mv_bi (v5 + (nI 1)) fun x11 =>
  q25 o0 v1 v2 x9 x10 x11 h3) := rfl
theorem eN_kindFor_b25 (q25 : Nat → Int32 → Int32 → Int32 → Int32 → Int32 → H2 → O2) (o0 : Nat) (v1 : Int32) (v2 : Int32) (v3 : Int32) (v4 : Int32) (v5 : Int32) (h : H2) : mv_blk rI2 rR2 ln2 wI2 wR2 nw2 cp2 bod none tN_kindFor gN_kindFor 0 0 [25] (fun pc lv st h ce sl => mv_gd (Nat.beq ce 0 && Nat.beq sl 0) (cond (Nat.beq pc 25) (mv_gR 0 8 lv fun o0 => mv_gI 1 lv fun v1 => mv_gI 2 lv fun v2 => mv_gI 3 lv fun v3 => mv_gI 4 lv fun v4 => mv_gI 5 lv fun v5 => mv_sE st (q25 o0 v1 v2 v3 v4 v5 h)) (none))) 400 (mv_seek 25 tN_kindFor) [(0, Sum.inr (8, o0)), (1, Sum.inl (Value.int v1)), (2, Sum.inl (Value.int v2)), (3, Sum.inl (Value.int v3)), (4, Sum.inl (Value.int v4)), (5, Sum.inl (Value.int v5))] [] h 0 0 = (
  if (nI 5) < v5 then (
    some ([Sum.inl (Value.int v3)], h))
  else
  mv_rV (fN_lends o0 h) fun h1 =>
  mv_rV (fN_sets o0 v1 (nI 0) v5 h1) fun h2 =>
  mv_rI (fN_behind o0 v1 (nI 2) v2 h2) fun r4 h3 =>
  mv_bi r4 fun x5 =>
  if x5 ≤ v4 then (
    mv_bi v3 fun x6 =>
    mv_bi (if v4 < x5 then x5 else v4) fun x7 =>
    mv_bi (v5 + (nI 1)) fun x8 =>
    q25 o0 v1 v2 x6 x7 x8 h3)
  else
  mv_bi v5 fun x9 =>
  mv_bi (if v4 < x5 then x5 else v4) fun x10 =>
  mv_bi (v5 + (nI 1)) fun x11 =>
  q25 o0 v1 v2 x9 x10 x11 h3) := eN_kindFor_b25_g fN_behind fN_isCloth fN_isSoon fN_lends fN_sets q25 o0 v1 v2 v3 v4 v5 h
set_option maxRecDepth 100000 in
set_option maxHeartbeats 1000000 in
theorem eN_kindFor_g (F1 : Nat → Int32 → Int32 → Int32 → H2 → O2) (F2 : Nat → Int32 → H2 → O2) (F3 : Int32 → H2 → O2) (F4 : Nat → H2 → O2) (F5 : Nat → Int32 → Int32 → Int32 → H2 → O2) (q25 : Nat → Int32 → Int32 → Int32 → Int32 → Int32 → H2 → O2) (o0 : Nat) (v1 : Int32) (v2 : Int32) (h : H2) : mv_blk rI2 rR2 ln2 wI2 wR2 nw2 cp2 bod none tN_kindFor [((0, 0), cN_isClothG_N_kindFor F2), ((0, 0), cN_isSoonG_N_kindFor F3), ((0, 0), cN_lendsG_N_kindFor F4), ((0, 0), cN_setsG_N_kindFor F5), ((0, 0), cN_behindG_N_kindFor F1)] 0 0 [25] (fun pc lv st h ce sl => mv_gd (Nat.beq ce 0 && Nat.beq sl 0) (cond (Nat.beq pc 25) (mv_gR 0 8 lv fun o0 => mv_gI 1 lv fun v1 => mv_gI 2 lv fun v2 => mv_gI 3 lv fun v3 => mv_gI 4 lv fun v4 => mv_gI 5 lv fun v5 => mv_sE st (q25 o0 v1 v2 v3 v4 v5 h)) (none))) 400 (mv_seek 0 tN_kindFor) [(0, Sum.inr (8, o0)), (1, Sum.inl (Value.int v1)), (2, Sum.inl (Value.int v2))] [] h 0 0 = (
  mv_rI (F2 o0 v1 h) fun r2 h1 =>
  if r2 = 0 then (
    some ([Sum.inl (Value.int (-(nI 1)))], h1))
  else
  mv_rI (F3 v2 h1) fun r4 h3 =>
  if r4 = 0 then (
    some ([Sum.inl (Value.int (-(nI 1)))], h3))
  else
  mv_bi (-(nI 1)) fun x5 =>
  mv_bi (-(nI 1)) fun x6 =>
  mv_bi (nI 0) fun x7 =>
  q25 o0 v1 v2 x5 x6 x7 h3) := rfl
theorem eN_kindFor (q25 : Nat → Int32 → Int32 → Int32 → Int32 → Int32 → H2 → O2) (o0 : Nat) (v1 : Int32) (v2 : Int32) (h : H2) : mv_blk rI2 rR2 ln2 wI2 wR2 nw2 cp2 bod none tN_kindFor gN_kindFor 0 0 [25] (fun pc lv st h ce sl => mv_gd (Nat.beq ce 0 && Nat.beq sl 0) (cond (Nat.beq pc 25) (mv_gR 0 8 lv fun o0 => mv_gI 1 lv fun v1 => mv_gI 2 lv fun v2 => mv_gI 3 lv fun v3 => mv_gI 4 lv fun v4 => mv_gI 5 lv fun v5 => mv_sE st (q25 o0 v1 v2 v3 v4 v5 h)) (none))) 400 (mv_seek 0 tN_kindFor) [(0, Sum.inr (8, o0)), (1, Sum.inl (Value.int v1)), (2, Sum.inl (Value.int v2))] [] h 0 0 = (
  mv_rI (fN_isCloth o0 v1 h) fun r2 h1 =>
  if r2 = 0 then (
    some ([Sum.inl (Value.int (-(nI 1)))], h1))
  else
  mv_rI (fN_isSoon v2 h1) fun r4 h3 =>
  if r4 = 0 then (
    some ([Sum.inl (Value.int (-(nI 1)))], h3))
  else
  mv_bi (-(nI 1)) fun x5 =>
  mv_bi (-(nI 1)) fun x6 =>
  mv_bi (nI 0) fun x7 =>
  q25 o0 v1 v2 x5 x6 x7 h3) := eN_kindFor_g fN_behind fN_isCloth fN_isSoon fN_lends fN_sets q25 o0 v1 v2 h
theorem GN_kindFor : ∀ (j : Nat) (C : mv_C H2) (md' : mv_MD × Bool), mv_nth j gN_kindFor = some C → mv_nth j nN_kindFor = some md' → ∃ n', n' + 1 ≤ 7 ∧ mv_Cal vw2 n' md' C := fun j C md' => match j with
  | 0 => fun h1 h2 => by
    obtain rfl := Option.some.inj h1
    obtain rfl := Option.some.inj h2
    exact ⟨2, by decide, cN_isCloth_ok⟩
  | 1 => fun h1 h2 => by
    obtain rfl := Option.some.inj h1
    obtain rfl := Option.some.inj h2
    exact ⟨2, by decide, cN_isSoon_ok⟩
  | 2 => fun h1 h2 => by
    obtain rfl := Option.some.inj h1
    obtain rfl := Option.some.inj h2
    exact ⟨2, by decide, cN_lends_ok⟩
  | 3 => fun h1 h2 => by
    obtain rfl := Option.some.inj h1
    obtain rfl := Option.some.inj h2
    exact ⟨1, by decide, cN_sets_ok⟩
  | 4 => fun h1 h2 => by
    obtain rfl := Option.some.inj h1
    obtain rfl := Option.some.inj h2
    exact ⟨6, by decide, cN_behind_ok⟩
  | jj + 5 => fun h1 _ => by cases jj <;> cases h1

set_option maxRecDepth 20000 in
theorem xN_kindFor_b25 {g0 : mv_G} {res : List mv_V × H2} : ∀ (n : Nat) (o0 : Nat) (v1 : Int32) (v2 : Int32) (v3 : Int32) (v4 : Int32) (v5 : Int32) (h : H2), fN_kindFor_b25 n o0 v1 v2 v3 v4 v5 h = some res → mv_X vw2 mdN_kindFor 7 0 0 none g0 res 25 [(0, Sum.inr (8, o0)), (1, Sum.inl (Value.int v1)), (2, Sum.inl (Value.int v2)), (3, Sum.inl (Value.int v3)), (4, Sum.inl (Value.int v4)), (5, Sum.inl (Value.int v5))] [] h 0 0 := by
  intro n
  induction n with
  | zero => intro o0 v1 v2 v3 v4 v5 h hh; cases hh
  | succ n ih =>
    intro o0 v1 v2 v3 v4 v5 h hh
    refine mv_blkX ax2 (GN_kindFor) (by decide) kN_kindFor (fun pc lv st h ce sl hh => ?_) ((eN_kindFor_b25 (fN_kindFor_b25 n) o0 v1 v2 v3 v4 v5 h).trans hh)
    obtain ⟨hg, hh1⟩ := mv_gd_some hh
    obtain ⟨rfl, rfl⟩ := mv_z2 hg
    rcases mv_cond_some hh1 with ⟨hb, hh2⟩ | ⟨hb, hh3⟩
    · obtain rfl := Nat.eq_of_beq_eq_true hb
      obtain ⟨o0, m0, hh4⟩ := mv_gR_some hh2
      obtain ⟨v1, m1, hh5⟩ := mv_gI_some hh4
      obtain ⟨v2, m2, hh6⟩ := mv_gI_some hh5
      obtain ⟨v3, m3, hh7⟩ := mv_gI_some hh6
      obtain ⟨v4, m4, hh8⟩ := mv_gI_some hh7
      obtain ⟨v5, m5, hh9⟩ := mv_gI_some hh8
      obtain ⟨rfl, hh10⟩ := mv_sE_some hh9
      exact (ih o0 v1 v2 v3 v4 v5 h hh10).sub (List.forall_mem_cons.mpr ⟨m0, (List.forall_mem_cons.mpr ⟨m1, (List.forall_mem_cons.mpr ⟨m2, (List.forall_mem_cons.mpr ⟨m3, (List.forall_mem_cons.mpr ⟨m4, (List.forall_mem_cons.mpr ⟨m5, (fun q hq => by cases hq)⟩)⟩)⟩)⟩)⟩)⟩)
    cases hh3

set_option maxRecDepth 20000 in
theorem xN_kindFor {g0 : mv_G} {res : List mv_V × H2} (o0 : Nat) (v1 : Int32) (v2 : Int32) (h : H2) (hh : fN_kindFor o0 v1 v2 h = some res) : mv_X vw2 mdN_kindFor 7 0 0 none g0 res 0 [(0, Sum.inr (8, o0)), (1, Sum.inl (Value.int v1)), (2, Sum.inl (Value.int v2))] [] h 0 0 := by
  refine mv_blkX ax2 (GN_kindFor) (by decide) kN_kindFor (fun pc lv st h ce sl hh => ?_) ((eN_kindFor (fN_kindFor_b25 1000) o0 v1 v2 h).trans hh)
  obtain ⟨hg, hh1⟩ := mv_gd_some hh
  obtain ⟨rfl, rfl⟩ := mv_z2 hg
  rcases mv_cond_some hh1 with ⟨hb, hh2⟩ | ⟨hb, hh3⟩
  · obtain rfl := Nat.eq_of_beq_eq_true hb
    obtain ⟨o0, m0, hh4⟩ := mv_gR_some hh2
    obtain ⟨v1, m1, hh5⟩ := mv_gI_some hh4
    obtain ⟨v2, m2, hh6⟩ := mv_gI_some hh5
    obtain ⟨v3, m3, hh7⟩ := mv_gI_some hh6
    obtain ⟨v4, m4, hh8⟩ := mv_gI_some hh7
    obtain ⟨v5, m5, hh9⟩ := mv_gI_some hh8
    obtain ⟨rfl, hh10⟩ := mv_sE_some hh9
    exact (xN_kindFor_b25 1000 o0 v1 v2 v3 v4 v5 h hh10).sub (List.forall_mem_cons.mpr ⟨m0, (List.forall_mem_cons.mpr ⟨m1, (List.forall_mem_cons.mpr ⟨m2, (List.forall_mem_cons.mpr ⟨m3, (List.forall_mem_cons.mpr ⟨m4, (List.forall_mem_cons.mpr ⟨m5, (fun q hq => by cases hq)⟩)⟩)⟩)⟩)⟩)⟩)
  cases hh3

theorem mN_kindFor (o0 : Nat) (v1 : Int32) (v2 : Int32) (h : H2) (vs : List mv_V) (h' : H2) (hh : fN_kindFor o0 v1 v2 h = some (vs, h')) : mv_Met vw2 7 0 0 mdN_kindFor [Sum.inr (8, o0), Sum.inl (Value.int v1), Sum.inl (Value.int v2)] h vs h' :=
  mv_Met_of (by decide +kernel) (Nat.le_of_ble_eq_true rfl) (xN_kindFor o0 v1 v2 h hh)
set_option maxRecDepth 100000 in
theorem kN_strengthFor : mv_tok mdN_strengthFor nN_strengthFor tN_strengthFor = true := by decide +kernel
def cN_behindG_N_strengthFor (F1 : Nat → Int32 → Int32 → Int32 → H2 → O2) : List mv_V → H2 → (List mv_V → H2 → O2) → O2 := fun as h k => match as with
  | [.inr (t0, o0), .inl (.int v1), .inl (.int v2), .inl (.int v3)] => mv_gd (Nat.beq t0 8) <| mv_rI (F1 o0 v1 v2 v3 h) fun x h => k [.inl (.int x)] h
  | _ => none
def cN_isClothG_N_strengthFor (F2 : Nat → Int32 → H2 → O2) : List mv_V → H2 → (List mv_V → H2 → O2) → O2 := fun as h k => match as with
  | [.inr (t0, o0), .inl (.int v1)] => mv_gd (Nat.beq t0 8) <| mv_rI (F2 o0 v1 h) fun x h => k [.inl (.int x)] h
  | _ => none
def cN_isPurposeG_N_strengthFor (F3 : Int32 → H2 → O2) : List mv_V → H2 → (List mv_V → H2 → O2) → O2 := fun as h k => match as with
  | [.inl (.int v0)] => mv_rI (F3 v0 h) fun x h => k [.inl (.int x)] h
  | _ => none
def cN_isSoonG_N_strengthFor (F4 : Int32 → H2 → O2) : List mv_V → H2 → (List mv_V → H2 → O2) → O2 := fun as h k => match as with
  | [.inl (.int v0)] => mv_rI (F4 v0 h) fun x h => k [.inl (.int x)] h
  | _ => none
def cN_isVatG_N_strengthFor (F5 : Int32 → H2 → O2) : List mv_V → H2 → (List mv_V → H2 → O2) → O2 := fun as h k => match as with
  | [.inl (.int v0)] => mv_rI (F5 v0 h) fun x h => k [.inl (.int x)] h
  | _ => none
def cN_lendsG_N_strengthFor (F6 : Nat → H2 → O2) : List mv_V → H2 → (List mv_V → H2 → O2) → O2 := fun as h k => match as with
  | [.inr (t0, o0)] => mv_gd (Nat.beq t0 8) <| mv_rV (F6 o0 h) fun h => k [] h
  | _ => none
set_option maxRecDepth 100000 in
set_option maxHeartbeats 1000000 in
theorem eN_strengthFor_b40_g (F1 : Nat → Int32 → Int32 → Int32 → H2 → O2) (F2 : Nat → Int32 → H2 → O2) (F3 : Int32 → H2 → O2) (F4 : Int32 → H2 → O2) (F5 : Int32 → H2 → O2) (F6 : Nat → H2 → O2) (q40 : Nat → Int32 → Int32 → Int32 → Int32 → Int32 → Int32 → H2 → O2) (o0 : Nat) (v1 : Int32) (v2 : Int32) (v3 : Int32) (v4 : Int32) (v5 : Int32) (v6 : Int32) (h : H2) : mv_blk rI2 rR2 ln2 wI2 wR2 nw2 cp2 bod none tN_strengthFor [((0, 0), cN_isVatG_N_strengthFor F5), ((0, 0), cN_isClothG_N_strengthFor F2), ((0, 0), cN_isPurposeG_N_strengthFor F3), ((0, 0), cN_isSoonG_N_strengthFor F4), ((0, 0), cN_lendsG_N_strengthFor F6), ((0, 0), cN_behindG_N_strengthFor F1)] 0 0 [40] (fun pc lv st h ce sl => mv_gd (Nat.beq ce 0 && Nat.beq sl 0) (cond (Nat.beq pc 40) (mv_gR 0 8 lv fun o0 => mv_gI 1 lv fun v1 => mv_gI 2 lv fun v2 => mv_gI 3 lv fun v3 => mv_gI 4 lv fun v4 => mv_gI 5 lv fun v5 => mv_gI 6 lv fun v6 => mv_sE st (q40 o0 v1 v2 v3 v4 v5 v6 h)) (none))) 400 (mv_seek 40 tN_strengthFor) [(0, Sum.inr (8, o0)), (1, Sum.inl (Value.int v1)), (2, Sum.inl (Value.int v2)), (3, Sum.inl (Value.int v3)), (4, Sum.inl (Value.int v4)), (5, Sum.inl (Value.int v5)), (6, Sum.inl (Value.int v6))] [] h 0 0 = (
  if v6 < 0 then (
    some ([Sum.inl (Value.int v5)], h))
  else
  mv_rV (F6 o0 h) fun h1 =>
  mv_gd (mv_inb ((nI 15) + v1) 69) <|
  mv_bh (wI2 h1 902 o0 ((nI 15) + v1).toNatClampNeg v6) fun h2 =>
  mv_rI (F1 o0 v2 (nI 1) v4 h2) fun r4 h3 =>
  if r4 = v3 then (
    mv_bi v6 fun x5 =>
    mv_bi (v6 + (-(nI 1))) fun x6 =>
    q40 o0 v1 v2 v3 v4 x5 x6 h3)
  else
  mv_bi v5 fun x7 =>
  mv_bi (v6 + (-(nI 1))) fun x8 =>
  q40 o0 v1 v2 v3 v4 x7 x8 h3) := rfl
theorem eN_strengthFor_b40 (q40 : Nat → Int32 → Int32 → Int32 → Int32 → Int32 → Int32 → H2 → O2) (o0 : Nat) (v1 : Int32) (v2 : Int32) (v3 : Int32) (v4 : Int32) (v5 : Int32) (v6 : Int32) (h : H2) : mv_blk rI2 rR2 ln2 wI2 wR2 nw2 cp2 bod none tN_strengthFor gN_strengthFor 0 0 [40] (fun pc lv st h ce sl => mv_gd (Nat.beq ce 0 && Nat.beq sl 0) (cond (Nat.beq pc 40) (mv_gR 0 8 lv fun o0 => mv_gI 1 lv fun v1 => mv_gI 2 lv fun v2 => mv_gI 3 lv fun v3 => mv_gI 4 lv fun v4 => mv_gI 5 lv fun v5 => mv_gI 6 lv fun v6 => mv_sE st (q40 o0 v1 v2 v3 v4 v5 v6 h)) (none))) 400 (mv_seek 40 tN_strengthFor) [(0, Sum.inr (8, o0)), (1, Sum.inl (Value.int v1)), (2, Sum.inl (Value.int v2)), (3, Sum.inl (Value.int v3)), (4, Sum.inl (Value.int v4)), (5, Sum.inl (Value.int v5)), (6, Sum.inl (Value.int v6))] [] h 0 0 = (
  if v6 < 0 then (
    some ([Sum.inl (Value.int v5)], h))
  else
  mv_rV (fN_lends o0 h) fun h1 =>
  mv_gd (mv_inb ((nI 15) + v1) 69) <|
  mv_bh (wI2 h1 902 o0 ((nI 15) + v1).toNatClampNeg v6) fun h2 =>
  mv_rI (fN_behind o0 v2 (nI 1) v4 h2) fun r4 h3 =>
  if r4 = v3 then (
    mv_bi v6 fun x5 =>
    mv_bi (v6 + (-(nI 1))) fun x6 =>
    q40 o0 v1 v2 v3 v4 x5 x6 h3)
  else
  mv_bi v5 fun x7 =>
  mv_bi (v6 + (-(nI 1))) fun x8 =>
  q40 o0 v1 v2 v3 v4 x7 x8 h3) := eN_strengthFor_b40_g fN_behind fN_isCloth fN_isPurpose fN_isSoon fN_isVat fN_lends q40 o0 v1 v2 v3 v4 v5 v6 h
set_option maxRecDepth 100000 in
set_option maxHeartbeats 1000000 in
theorem eN_strengthFor_g (F1 : Nat → Int32 → Int32 → Int32 → H2 → O2) (F2 : Nat → Int32 → H2 → O2) (F3 : Int32 → H2 → O2) (F4 : Int32 → H2 → O2) (F5 : Int32 → H2 → O2) (F6 : Nat → H2 → O2) (q40 : Nat → Int32 → Int32 → Int32 → Int32 → Int32 → Int32 → H2 → O2) (o0 : Nat) (v1 : Int32) (v2 : Int32) (v3 : Int32) (v4 : Int32) (h : H2) : mv_blk rI2 rR2 ln2 wI2 wR2 nw2 cp2 bod none tN_strengthFor [((0, 0), cN_isVatG_N_strengthFor F5), ((0, 0), cN_isClothG_N_strengthFor F2), ((0, 0), cN_isPurposeG_N_strengthFor F3), ((0, 0), cN_isSoonG_N_strengthFor F4), ((0, 0), cN_lendsG_N_strengthFor F6), ((0, 0), cN_behindG_N_strengthFor F1)] 0 0 [40] (fun pc lv st h ce sl => mv_gd (Nat.beq ce 0 && Nat.beq sl 0) (cond (Nat.beq pc 40) (mv_gR 0 8 lv fun o0 => mv_gI 1 lv fun v1 => mv_gI 2 lv fun v2 => mv_gI 3 lv fun v3 => mv_gI 4 lv fun v4 => mv_gI 5 lv fun v5 => mv_gI 6 lv fun v6 => mv_sE st (q40 o0 v1 v2 v3 v4 v5 v6 h)) (none))) 400 (mv_seek 0 tN_strengthFor) [(0, Sum.inr (8, o0)), (1, Sum.inl (Value.int v1)), (2, Sum.inl (Value.int v2)), (3, Sum.inl (Value.int v3)), (4, Sum.inl (Value.int v4))] [] h 0 0 = (
  mv_rI (F5 v1 h) fun r2 h1 =>
  if r2 = 0 then (
    some ([Sum.inl (Value.int (-(nI 1)))], h1))
  else
  mv_rI (F2 o0 v2 h1) fun r4 h3 =>
  if r4 = 0 then (
    some ([Sum.inl (Value.int (-(nI 1)))], h3))
  else
  mv_rI (F3 v3 h3) fun r6 h5 =>
  if r6 = 0 then (
    some ([Sum.inl (Value.int (-(nI 1)))], h5))
  else
  mv_rI (F4 v4 h5) fun r8 h7 =>
  if r8 = 0 then (
    some ([Sum.inl (Value.int (-(nI 1)))], h7))
  else
  mv_bi (-(nI 3)) fun x9 =>
  mv_bi (nI 9) fun x10 =>
  q40 o0 v1 v2 v3 v4 x9 x10 h7) := rfl
theorem eN_strengthFor (q40 : Nat → Int32 → Int32 → Int32 → Int32 → Int32 → Int32 → H2 → O2) (o0 : Nat) (v1 : Int32) (v2 : Int32) (v3 : Int32) (v4 : Int32) (h : H2) : mv_blk rI2 rR2 ln2 wI2 wR2 nw2 cp2 bod none tN_strengthFor gN_strengthFor 0 0 [40] (fun pc lv st h ce sl => mv_gd (Nat.beq ce 0 && Nat.beq sl 0) (cond (Nat.beq pc 40) (mv_gR 0 8 lv fun o0 => mv_gI 1 lv fun v1 => mv_gI 2 lv fun v2 => mv_gI 3 lv fun v3 => mv_gI 4 lv fun v4 => mv_gI 5 lv fun v5 => mv_gI 6 lv fun v6 => mv_sE st (q40 o0 v1 v2 v3 v4 v5 v6 h)) (none))) 400 (mv_seek 0 tN_strengthFor) [(0, Sum.inr (8, o0)), (1, Sum.inl (Value.int v1)), (2, Sum.inl (Value.int v2)), (3, Sum.inl (Value.int v3)), (4, Sum.inl (Value.int v4))] [] h 0 0 = (
  mv_rI (fN_isVat v1 h) fun r2 h1 =>
  if r2 = 0 then (
    some ([Sum.inl (Value.int (-(nI 1)))], h1))
  else
  mv_rI (fN_isCloth o0 v2 h1) fun r4 h3 =>
  if r4 = 0 then (
    some ([Sum.inl (Value.int (-(nI 1)))], h3))
  else
  mv_rI (fN_isPurpose v3 h3) fun r6 h5 =>
  if r6 = 0 then (
    some ([Sum.inl (Value.int (-(nI 1)))], h5))
  else
  mv_rI (fN_isSoon v4 h5) fun r8 h7 =>
  if r8 = 0 then (
    some ([Sum.inl (Value.int (-(nI 1)))], h7))
  else
  mv_bi (-(nI 3)) fun x9 =>
  mv_bi (nI 9) fun x10 =>
  q40 o0 v1 v2 v3 v4 x9 x10 h7) := eN_strengthFor_g fN_behind fN_isCloth fN_isPurpose fN_isSoon fN_isVat fN_lends q40 o0 v1 v2 v3 v4 h
theorem GN_strengthFor : ∀ (j : Nat) (C : mv_C H2) (md' : mv_MD × Bool), mv_nth j gN_strengthFor = some C → mv_nth j nN_strengthFor = some md' → ∃ n', n' + 1 ≤ 7 ∧ mv_Cal vw2 n' md' C := fun j C md' => match j with
  | 0 => fun h1 h2 => by
    obtain rfl := Option.some.inj h1
    obtain rfl := Option.some.inj h2
    exact ⟨2, by decide, cN_isVat_ok⟩
  | 1 => fun h1 h2 => by
    obtain rfl := Option.some.inj h1
    obtain rfl := Option.some.inj h2
    exact ⟨2, by decide, cN_isCloth_ok⟩
  | 2 => fun h1 h2 => by
    obtain rfl := Option.some.inj h1
    obtain rfl := Option.some.inj h2
    exact ⟨2, by decide, cN_isPurpose_ok⟩
  | 3 => fun h1 h2 => by
    obtain rfl := Option.some.inj h1
    obtain rfl := Option.some.inj h2
    exact ⟨2, by decide, cN_isSoon_ok⟩
  | 4 => fun h1 h2 => by
    obtain rfl := Option.some.inj h1
    obtain rfl := Option.some.inj h2
    exact ⟨2, by decide, cN_lends_ok⟩
  | 5 => fun h1 h2 => by
    obtain rfl := Option.some.inj h1
    obtain rfl := Option.some.inj h2
    exact ⟨6, by decide, cN_behind_ok⟩
  | jj + 6 => fun h1 _ => by cases jj <;> cases h1

set_option maxRecDepth 20000 in
theorem xN_strengthFor_b40 {g0 : mv_G} {res : List mv_V × H2} : ∀ (n : Nat) (o0 : Nat) (v1 : Int32) (v2 : Int32) (v3 : Int32) (v4 : Int32) (v5 : Int32) (v6 : Int32) (h : H2), fN_strengthFor_b40 n o0 v1 v2 v3 v4 v5 v6 h = some res → mv_X vw2 mdN_strengthFor 7 0 0 none g0 res 40 [(0, Sum.inr (8, o0)), (1, Sum.inl (Value.int v1)), (2, Sum.inl (Value.int v2)), (3, Sum.inl (Value.int v3)), (4, Sum.inl (Value.int v4)), (5, Sum.inl (Value.int v5)), (6, Sum.inl (Value.int v6))] [] h 0 0 := by
  intro n
  induction n with
  | zero => intro o0 v1 v2 v3 v4 v5 v6 h hh; cases hh
  | succ n ih =>
    intro o0 v1 v2 v3 v4 v5 v6 h hh
    refine mv_blkX ax2 (GN_strengthFor) (by decide) kN_strengthFor (fun pc lv st h ce sl hh => ?_) ((eN_strengthFor_b40 (fN_strengthFor_b40 n) o0 v1 v2 v3 v4 v5 v6 h).trans hh)
    obtain ⟨hg, hh1⟩ := mv_gd_some hh
    obtain ⟨rfl, rfl⟩ := mv_z2 hg
    rcases mv_cond_some hh1 with ⟨hb, hh2⟩ | ⟨hb, hh3⟩
    · obtain rfl := Nat.eq_of_beq_eq_true hb
      obtain ⟨o0, m0, hh4⟩ := mv_gR_some hh2
      obtain ⟨v1, m1, hh5⟩ := mv_gI_some hh4
      obtain ⟨v2, m2, hh6⟩ := mv_gI_some hh5
      obtain ⟨v3, m3, hh7⟩ := mv_gI_some hh6
      obtain ⟨v4, m4, hh8⟩ := mv_gI_some hh7
      obtain ⟨v5, m5, hh9⟩ := mv_gI_some hh8
      obtain ⟨v6, m6, hh10⟩ := mv_gI_some hh9
      obtain ⟨rfl, hh11⟩ := mv_sE_some hh10
      exact (ih o0 v1 v2 v3 v4 v5 v6 h hh11).sub (List.forall_mem_cons.mpr ⟨m0, (List.forall_mem_cons.mpr ⟨m1, (List.forall_mem_cons.mpr ⟨m2, (List.forall_mem_cons.mpr ⟨m3, (List.forall_mem_cons.mpr ⟨m4, (List.forall_mem_cons.mpr ⟨m5, (List.forall_mem_cons.mpr ⟨m6, (fun q hq => by cases hq)⟩)⟩)⟩)⟩)⟩)⟩)⟩)
    cases hh3

set_option maxRecDepth 20000 in
theorem xN_strengthFor {g0 : mv_G} {res : List mv_V × H2} (o0 : Nat) (v1 : Int32) (v2 : Int32) (v3 : Int32) (v4 : Int32) (h : H2) (hh : fN_strengthFor o0 v1 v2 v3 v4 h = some res) : mv_X vw2 mdN_strengthFor 7 0 0 none g0 res 0 [(0, Sum.inr (8, o0)), (1, Sum.inl (Value.int v1)), (2, Sum.inl (Value.int v2)), (3, Sum.inl (Value.int v3)), (4, Sum.inl (Value.int v4))] [] h 0 0 := by
  refine mv_blkX ax2 (GN_strengthFor) (by decide) kN_strengthFor (fun pc lv st h ce sl hh => ?_) ((eN_strengthFor (fN_strengthFor_b40 1000) o0 v1 v2 v3 v4 h).trans hh)
  obtain ⟨hg, hh1⟩ := mv_gd_some hh
  obtain ⟨rfl, rfl⟩ := mv_z2 hg
  rcases mv_cond_some hh1 with ⟨hb, hh2⟩ | ⟨hb, hh3⟩
  · obtain rfl := Nat.eq_of_beq_eq_true hb
    obtain ⟨o0, m0, hh4⟩ := mv_gR_some hh2
    obtain ⟨v1, m1, hh5⟩ := mv_gI_some hh4
    obtain ⟨v2, m2, hh6⟩ := mv_gI_some hh5
    obtain ⟨v3, m3, hh7⟩ := mv_gI_some hh6
    obtain ⟨v4, m4, hh8⟩ := mv_gI_some hh7
    obtain ⟨v5, m5, hh9⟩ := mv_gI_some hh8
    obtain ⟨v6, m6, hh10⟩ := mv_gI_some hh9
    obtain ⟨rfl, hh11⟩ := mv_sE_some hh10
    exact (xN_strengthFor_b40 1000 o0 v1 v2 v3 v4 v5 v6 h hh11).sub (List.forall_mem_cons.mpr ⟨m0, (List.forall_mem_cons.mpr ⟨m1, (List.forall_mem_cons.mpr ⟨m2, (List.forall_mem_cons.mpr ⟨m3, (List.forall_mem_cons.mpr ⟨m4, (List.forall_mem_cons.mpr ⟨m5, (List.forall_mem_cons.mpr ⟨m6, (fun q hq => by cases hq)⟩)⟩)⟩)⟩)⟩)⟩)⟩)
  cases hh3

theorem mN_strengthFor (o0 : Nat) (v1 : Int32) (v2 : Int32) (v3 : Int32) (v4 : Int32) (h : H2) (vs : List mv_V) (h' : H2) (hh : fN_strengthFor o0 v1 v2 v3 v4 h = some (vs, h')) : mv_Met vw2 7 0 0 mdN_strengthFor [Sum.inr (8, o0), Sum.inl (Value.int v1), Sum.inl (Value.int v2), Sum.inl (Value.int v3), Sum.inl (Value.int v4)] h vs h' :=
  mv_Met_of (by decide +kernel) (Nat.le_of_ble_eq_true rfl) (xN_strengthFor o0 v1 v2 v3 v4 h hh)
set_option maxRecDepth 100000 in
theorem kN_ones : mv_tok mdN_ones nN_ones tN_ones = true := by decide +kernel
set_option maxRecDepth 100000 in
set_option maxHeartbeats 1000000 in
theorem eN_ones_b4 (q4 : Int32 → Int32 → Int32 → H2 → O2) (v0 : Int32) (v1 : Int32) (v2 : Int32) (h : H2) : mv_blk rI2 rR2 ln2 wI2 wR2 nw2 cp2 bod none tN_ones gN_ones 0 0 [4] (fun pc lv st h ce sl => mv_gd (Nat.beq ce 0 && Nat.beq sl 0) (cond (Nat.beq pc 4) (mv_gI 0 lv fun v0 => mv_gI 1 lv fun v1 => mv_gI 2 lv fun v2 => mv_sE st (q4 v0 v1 v2 h)) (none))) 400 (mv_seek 4 tN_ones) [(0, Sum.inl (Value.int v0)), (1, Sum.inl (Value.int v1)), (2, Sum.inl (Value.int v2))] [] h 0 0 = (
  if (nI 8) ≤ v2 then (
    some ([Sum.inl (Value.int v1)], h))
  else
  mv_bi (v1 + ((v0 >>> (v2 &&& 31)) &&& (nI 1))) fun x1 =>
  mv_bi (v2 + (nI 1)) fun x2 =>
  q4 v0 x1 x2 h) := rfl
set_option maxRecDepth 100000 in
set_option maxHeartbeats 1000000 in
theorem eN_ones (q4 : Int32 → Int32 → Int32 → H2 → O2) (v0 : Int32) (h : H2) : mv_blk rI2 rR2 ln2 wI2 wR2 nw2 cp2 bod none tN_ones gN_ones 0 0 [4] (fun pc lv st h ce sl => mv_gd (Nat.beq ce 0 && Nat.beq sl 0) (cond (Nat.beq pc 4) (mv_gI 0 lv fun v0 => mv_gI 1 lv fun v1 => mv_gI 2 lv fun v2 => mv_sE st (q4 v0 v1 v2 h)) (none))) 400 (mv_seek 0 tN_ones) [(0, Sum.inl (Value.int v0))] [] h 0 0 = (
  mv_bi (nI 0) fun x1 =>
  mv_bi (nI 0) fun x2 =>
  q4 v0 x1 x2 h) := rfl
theorem GN_ones : ∀ (j : Nat) (C : mv_C H2) (md' : mv_MD × Bool), mv_nth j gN_ones = some C → mv_nth j nN_ones = some md' → ∃ n', n' + 1 ≤ 1 ∧ mv_Cal vw2 n' md' C := fun j C md' h1 _ => by cases j <;> cases h1

set_option maxRecDepth 20000 in
theorem xN_ones_b4 {g0 : mv_G} {res : List mv_V × H2} : ∀ (n : Nat) (v0 : Int32) (v1 : Int32) (v2 : Int32) (h : H2), fN_ones_b4 n v0 v1 v2 h = some res → mv_X vw2 mdN_ones 1 0 0 none g0 res 4 [(0, Sum.inl (Value.int v0)), (1, Sum.inl (Value.int v1)), (2, Sum.inl (Value.int v2))] [] h 0 0 := by
  intro n
  induction n with
  | zero => intro v0 v1 v2 h hh; cases hh
  | succ n ih =>
    intro v0 v1 v2 h hh
    refine mv_blkX ax2 (GN_ones) (by decide) kN_ones (fun pc lv st h ce sl hh => ?_) ((eN_ones_b4 (fN_ones_b4 n) v0 v1 v2 h).trans hh)
    obtain ⟨hg, hh1⟩ := mv_gd_some hh
    obtain ⟨rfl, rfl⟩ := mv_z2 hg
    rcases mv_cond_some hh1 with ⟨hb, hh2⟩ | ⟨hb, hh3⟩
    · obtain rfl := Nat.eq_of_beq_eq_true hb
      obtain ⟨v0, m0, hh4⟩ := mv_gI_some hh2
      obtain ⟨v1, m1, hh5⟩ := mv_gI_some hh4
      obtain ⟨v2, m2, hh6⟩ := mv_gI_some hh5
      obtain ⟨rfl, hh7⟩ := mv_sE_some hh6
      exact (ih v0 v1 v2 h hh7).sub (List.forall_mem_cons.mpr ⟨m0, (List.forall_mem_cons.mpr ⟨m1, (List.forall_mem_cons.mpr ⟨m2, (fun q hq => by cases hq)⟩)⟩)⟩)
    cases hh3

set_option maxRecDepth 20000 in
theorem xN_ones {g0 : mv_G} {res : List mv_V × H2} (v0 : Int32) (h : H2) (hh : fN_ones v0 h = some res) : mv_X vw2 mdN_ones 1 0 0 none g0 res 0 [(0, Sum.inl (Value.int v0))] [] h 0 0 := by
  refine mv_blkX ax2 (GN_ones) (by decide) kN_ones (fun pc lv st h ce sl hh => ?_) ((eN_ones (fN_ones_b4 1000) v0 h).trans hh)
  obtain ⟨hg, hh1⟩ := mv_gd_some hh
  obtain ⟨rfl, rfl⟩ := mv_z2 hg
  rcases mv_cond_some hh1 with ⟨hb, hh2⟩ | ⟨hb, hh3⟩
  · obtain rfl := Nat.eq_of_beq_eq_true hb
    obtain ⟨v0, m0, hh4⟩ := mv_gI_some hh2
    obtain ⟨v1, m1, hh5⟩ := mv_gI_some hh4
    obtain ⟨v2, m2, hh6⟩ := mv_gI_some hh5
    obtain ⟨rfl, hh7⟩ := mv_sE_some hh6
    exact (xN_ones_b4 1000 v0 v1 v2 h hh7).sub (List.forall_mem_cons.mpr ⟨m0, (List.forall_mem_cons.mpr ⟨m1, (List.forall_mem_cons.mpr ⟨m2, (fun q hq => by cases hq)⟩)⟩)⟩)
  cases hh3

theorem mN_ones (v0 : Int32) (h : H2) (vs : List mv_V) (h' : H2) (hh : fN_ones v0 h = some (vs, h')) : mv_Met vw2 1 0 0 mdN_ones [Sum.inl (Value.int v0)] h vs h' :=
  mv_Met_of (by decide +kernel) (Nat.le_of_ble_eq_true rfl) (xN_ones v0 h hh)
theorem cN_ones_ok : mv_Cal vw2 1 (mdN_ones, false) ((0, 0), cN_ones) := by
  intro as h k res hh
  change cN_ones as h k = some res at hh
  unfold cN_ones at hh
  split at hh
  · obtain ⟨x, h', h1, h9⟩ := mv_rI_some hh
    exact ⟨_, _, h9, (by first | decide | exact Nat.le_refl _ | exact Nat.zero_le _), (fun h => by cases h), (mN_ones _ h _ _ h1)⟩
  · cases hh

set_option maxRecDepth 100000 in
theorem kN_hangs : mv_tok mdN_hangs nN_hangs tN_hangs = true := by decide +kernel
def cN_setsG_N_hangs (F1 : Nat → Int32 → Int32 → Int32 → H2 → O2) : List mv_V → H2 → (List mv_V → H2 → O2) → O2 := fun as h k => match as with
  | [.inr (t0, o0), .inl (.int v1), .inl (.int v2), .inl (.int v3)] => mv_gd (Nat.beq t0 8) <| mv_rV (F1 o0 v1 v2 v3 h) fun h => k [] h
  | _ => none
set_option maxRecDepth 100000 in
set_option maxHeartbeats 1000000 in
theorem eN_hangs_b2_g (F1 : Nat → Int32 → Int32 → Int32 → H2 → O2) (q2 : Nat → Int32 → Int32 → H2 → O2) (o0 : Nat) (v1 : Int32) (v2 : Int32) (h : H2) : mv_blk rI2 rR2 ln2 wI2 wR2 nw2 cp2 bod none tN_hangs [((0, 0), cN_setsG_N_hangs F1)] 0 0 [2] (fun pc lv st h ce sl => mv_gd (Nat.beq ce 0 && Nat.beq sl 0) (cond (Nat.beq pc 2) (mv_gR 0 8 lv fun o0 => mv_gI 1 lv fun v1 => mv_gI 2 lv fun v2 => mv_sE st (q2 o0 v1 v2 h)) (none))) 400 (mv_seek 2 tN_hangs) [(0, Sum.inr (8, o0)), (1, Sum.inl (Value.int v1)), (2, Sum.inl (Value.int v2))] [] h 0 0 = (
  mv_gd (mv_inb (nI 6) 69) <|
  if (rI2 h 902 o0 (nI 6).toNatClampNeg) ≤ v2 then (
    some ([], h))
  else
  mv_rV (F1 o0 v2 (nI 3) ((v1 >>> (v2 &&& 31)) &&& (nI 1)) h) fun h1 =>
  mv_bi (v2 + (nI 1)) fun x2 =>
  q2 o0 v1 x2 h1) := rfl
theorem eN_hangs_b2 (q2 : Nat → Int32 → Int32 → H2 → O2) (o0 : Nat) (v1 : Int32) (v2 : Int32) (h : H2) : mv_blk rI2 rR2 ln2 wI2 wR2 nw2 cp2 bod none tN_hangs gN_hangs 0 0 [2] (fun pc lv st h ce sl => mv_gd (Nat.beq ce 0 && Nat.beq sl 0) (cond (Nat.beq pc 2) (mv_gR 0 8 lv fun o0 => mv_gI 1 lv fun v1 => mv_gI 2 lv fun v2 => mv_sE st (q2 o0 v1 v2 h)) (none))) 400 (mv_seek 2 tN_hangs) [(0, Sum.inr (8, o0)), (1, Sum.inl (Value.int v1)), (2, Sum.inl (Value.int v2))] [] h 0 0 = (
  mv_gd (mv_inb (nI 6) 69) <|
  if (rI2 h 902 o0 (nI 6).toNatClampNeg) ≤ v2 then (
    some ([], h))
  else
  mv_rV (fN_sets o0 v2 (nI 3) ((v1 >>> (v2 &&& 31)) &&& (nI 1)) h) fun h1 =>
  mv_bi (v2 + (nI 1)) fun x2 =>
  q2 o0 v1 x2 h1) := eN_hangs_b2_g fN_sets q2 o0 v1 v2 h
set_option maxRecDepth 100000 in
set_option maxHeartbeats 1000000 in
theorem eN_hangs_g (F1 : Nat → Int32 → Int32 → Int32 → H2 → O2) (q2 : Nat → Int32 → Int32 → H2 → O2) (o0 : Nat) (v1 : Int32) (h : H2) : mv_blk rI2 rR2 ln2 wI2 wR2 nw2 cp2 bod none tN_hangs [((0, 0), cN_setsG_N_hangs F1)] 0 0 [2] (fun pc lv st h ce sl => mv_gd (Nat.beq ce 0 && Nat.beq sl 0) (cond (Nat.beq pc 2) (mv_gR 0 8 lv fun o0 => mv_gI 1 lv fun v1 => mv_gI 2 lv fun v2 => mv_sE st (q2 o0 v1 v2 h)) (none))) 400 (mv_seek 0 tN_hangs) [(0, Sum.inr (8, o0)), (1, Sum.inl (Value.int v1))] [] h 0 0 = (
  mv_bi (nI 0) fun x1 =>
  q2 o0 v1 x1 h) := rfl
theorem eN_hangs (q2 : Nat → Int32 → Int32 → H2 → O2) (o0 : Nat) (v1 : Int32) (h : H2) : mv_blk rI2 rR2 ln2 wI2 wR2 nw2 cp2 bod none tN_hangs gN_hangs 0 0 [2] (fun pc lv st h ce sl => mv_gd (Nat.beq ce 0 && Nat.beq sl 0) (cond (Nat.beq pc 2) (mv_gR 0 8 lv fun o0 => mv_gI 1 lv fun v1 => mv_gI 2 lv fun v2 => mv_sE st (q2 o0 v1 v2 h)) (none))) 400 (mv_seek 0 tN_hangs) [(0, Sum.inr (8, o0)), (1, Sum.inl (Value.int v1))] [] h 0 0 = (
  mv_bi (nI 0) fun x1 =>
  q2 o0 v1 x1 h) := eN_hangs_g fN_sets q2 o0 v1 h
theorem GN_hangs : ∀ (j : Nat) (C : mv_C H2) (md' : mv_MD × Bool), mv_nth j gN_hangs = some C → mv_nth j nN_hangs = some md' → ∃ n', n' + 1 ≤ 2 ∧ mv_Cal vw2 n' md' C := fun j C md' => match j with
  | 0 => fun h1 h2 => by
    obtain rfl := Option.some.inj h1
    obtain rfl := Option.some.inj h2
    exact ⟨1, by decide, cN_sets_ok⟩
  | jj + 1 => fun h1 _ => by cases jj <;> cases h1

set_option maxRecDepth 20000 in
theorem xN_hangs_b2 {g0 : mv_G} {res : List mv_V × H2} : ∀ (n : Nat) (o0 : Nat) (v1 : Int32) (v2 : Int32) (h : H2), fN_hangs_b2 n o0 v1 v2 h = some res → mv_X vw2 mdN_hangs 2 0 0 none g0 res 2 [(0, Sum.inr (8, o0)), (1, Sum.inl (Value.int v1)), (2, Sum.inl (Value.int v2))] [] h 0 0 := by
  intro n
  induction n with
  | zero => intro o0 v1 v2 h hh; cases hh
  | succ n ih =>
    intro o0 v1 v2 h hh
    refine mv_blkX ax2 (GN_hangs) (by decide) kN_hangs (fun pc lv st h ce sl hh => ?_) ((eN_hangs_b2 (fN_hangs_b2 n) o0 v1 v2 h).trans hh)
    obtain ⟨hg, hh1⟩ := mv_gd_some hh
    obtain ⟨rfl, rfl⟩ := mv_z2 hg
    rcases mv_cond_some hh1 with ⟨hb, hh2⟩ | ⟨hb, hh3⟩
    · obtain rfl := Nat.eq_of_beq_eq_true hb
      obtain ⟨o0, m0, hh4⟩ := mv_gR_some hh2
      obtain ⟨v1, m1, hh5⟩ := mv_gI_some hh4
      obtain ⟨v2, m2, hh6⟩ := mv_gI_some hh5
      obtain ⟨rfl, hh7⟩ := mv_sE_some hh6
      exact (ih o0 v1 v2 h hh7).sub (List.forall_mem_cons.mpr ⟨m0, (List.forall_mem_cons.mpr ⟨m1, (List.forall_mem_cons.mpr ⟨m2, (fun q hq => by cases hq)⟩)⟩)⟩)
    cases hh3

set_option maxRecDepth 20000 in
theorem xN_hangs {g0 : mv_G} {res : List mv_V × H2} (o0 : Nat) (v1 : Int32) (h : H2) (hh : fN_hangs o0 v1 h = some res) : mv_X vw2 mdN_hangs 2 0 0 none g0 res 0 [(0, Sum.inr (8, o0)), (1, Sum.inl (Value.int v1))] [] h 0 0 := by
  refine mv_blkX ax2 (GN_hangs) (by decide) kN_hangs (fun pc lv st h ce sl hh => ?_) ((eN_hangs (fN_hangs_b2 1000) o0 v1 h).trans hh)
  obtain ⟨hg, hh1⟩ := mv_gd_some hh
  obtain ⟨rfl, rfl⟩ := mv_z2 hg
  rcases mv_cond_some hh1 with ⟨hb, hh2⟩ | ⟨hb, hh3⟩
  · obtain rfl := Nat.eq_of_beq_eq_true hb
    obtain ⟨o0, m0, hh4⟩ := mv_gR_some hh2
    obtain ⟨v1, m1, hh5⟩ := mv_gI_some hh4
    obtain ⟨v2, m2, hh6⟩ := mv_gI_some hh5
    obtain ⟨rfl, hh7⟩ := mv_sE_some hh6
    exact (xN_hangs_b2 1000 o0 v1 v2 h hh7).sub (List.forall_mem_cons.mpr ⟨m0, (List.forall_mem_cons.mpr ⟨m1, (List.forall_mem_cons.mpr ⟨m2, (fun q hq => by cases hq)⟩)⟩)⟩)
  cases hh3

theorem mN_hangs (o0 : Nat) (v1 : Int32) (h : H2) (vs : List mv_V) (h' : H2) (hh : fN_hangs o0 v1 h = some (vs, h')) : mv_Met vw2 2 0 0 mdN_hangs [Sum.inr (8, o0), Sum.inl (Value.int v1)] h vs h' :=
  mv_Met_of (by decide +kernel) (Nat.le_of_ble_eq_true rfl) (xN_hangs o0 v1 h hh)
theorem cN_hangs_ok : mv_Cal vw2 2 (mdN_hangs, true) ((0, 0), cN_hangs) := by
  intro as h k res hh
  change cN_hangs as h k = some res at hh
  unfold cN_hangs at hh
  split at hh
  · obtain ⟨hg0, ha0⟩ := mv_gd_some hh
    obtain rfl := Nat.eq_of_beq_eq_true hg0
    obtain ⟨h', h1, h9⟩ := mv_rV_some ha0
    exact ⟨_, _, h9, (by first | decide | exact Nat.le_refl _ | exact Nat.zero_le _), fun _ => ⟨_, _, _, rfl, Or.inl ⟨by decide, rfl⟩⟩, (mN_hangs _ _ h _ _ h1)⟩
  · cases hh

set_option maxRecDepth 100000 in
theorem kN_hangFor : mv_tok mdN_hangFor nN_hangFor tN_hangFor = true := by decide +kernel
def cN_hangsG_N_hangFor (F1 : Nat → Int32 → H2 → O2) : List mv_V → H2 → (List mv_V → H2 → O2) → O2 := fun as h k => match as with
  | [.inr (t0, o0), .inl (.int v1)] => mv_gd (Nat.beq t0 8) <| mv_rV (F1 o0 v1 h) fun h => k [] h
  | _ => none
def cN_inG_N_hangFor (F2 : Int64 → Int64 → Int64 → H2 → O2) : List mv_V → H2 → (List mv_V → H2 → O2) → O2 := fun as h k => match as with
  | [.inl (.long w0), .inl (.long w2), .inl (.long w4)] => mv_rI (F2 w0 w2 w4 h) fun x h => k [.inl (.int x)] h
  | _ => none
def cN_lendsG_N_hangFor (F3 : Nat → H2 → O2) : List mv_V → H2 → (List mv_V → H2 → O2) → O2 := fun as h k => match as with
  | [.inr (t0, o0)] => mv_gd (Nat.beq t0 8) <| mv_rV (F3 o0 h) fun h => k [] h
  | _ => none
def cN_onesG_N_hangFor (F4 : Int32 → H2 → O2) : List mv_V → H2 → (List mv_V → H2 → O2) → O2 := fun as h k => match as with
  | [.inl (.int v0)] => mv_rI (F4 v0 h) fun x h => k [.inl (.int x)] h
  | _ => none
def cN_spoiltInG_N_hangFor (F5 : Nat → Int32 → H2 → O2) : List mv_V → H2 → (List mv_V → H2 → O2) → O2 := fun as h k => match as with
  | [.inr (t0, o0), .inl (.int v1)] => mv_gd (Nat.beq t0 8) <| mv_rI (F5 o0 v1 h) fun x h => k [.inl (.int x)] h
  | _ => none
set_option maxRecDepth 100000 in
set_option maxHeartbeats 1000000 in
theorem eN_hangFor_b62_g (F1 : Nat → Int32 → H2 → O2) (F2 : Int64 → Int64 → Int64 → H2 → O2) (F3 : Nat → H2 → O2) (F4 : Int32 → H2 → O2) (F5 : Nat → Int32 → H2 → O2) (q32 : Nat → Int32 → Int32 → Int32 → Int32 → H2 → O2) (o0 : Nat) (v1 : Int32) (v2 : Int32) (v3 : Int32) (v4 : Int32) (h : H2) : mv_blk rI2 rR2 ln2 wI2 wR2 nw2 cp2 bod none tN_hangFor [((0, 0), cN_inG_N_hangFor F2), ((0, 0), cN_onesG_N_hangFor F4), ((0, 0), cN_lendsG_N_hangFor F3), ((0, 0), cN_hangsG_N_hangFor F1), ((0, 0), cN_spoiltInG_N_hangFor F5)] 0 0 [32] (fun pc lv st h ce sl => mv_gd (Nat.beq ce 0 && Nat.beq sl 0) (cond (Nat.beq pc 32) (mv_gR 0 8 lv fun o0 => mv_gI 1 lv fun v1 => mv_gI 2 lv fun v2 => mv_gI 3 lv fun v3 => mv_gI 4 lv fun v4 => mv_sE st (q32 o0 v1 v2 v3 v4 h)) (none))) 400 (mv_seek 62 tN_hangFor) [(0, Sum.inr (8, o0)), (1, Sum.inl (Value.int v1)), (2, Sum.inl (Value.int v2)), (3, Sum.inl (Value.int v3)), (4, Sum.inl (Value.int v4))] [] h 0 0 = (
  mv_rV (F3 o0 h) fun h1 =>
  mv_rV (F1 o0 v4 h1) fun h2 =>
  mv_rI (F5 o0 v1 h2) fun r4 h3 =>
  if v2 < r4 then (
    mv_bi v3 fun x5 =>
    mv_bi (v4 + (nI 1)) fun x6 =>
    q32 o0 v1 v2 x5 x6 h3)
  else
  mv_bi v4 fun x7 =>
  mv_bi (v4 + (nI 1)) fun x8 =>
  q32 o0 v1 v2 x7 x8 h3) := rfl
theorem eN_hangFor_b62 (q32 : Nat → Int32 → Int32 → Int32 → Int32 → H2 → O2) (o0 : Nat) (v1 : Int32) (v2 : Int32) (v3 : Int32) (v4 : Int32) (h : H2) : mv_blk rI2 rR2 ln2 wI2 wR2 nw2 cp2 bod none tN_hangFor gN_hangFor 0 0 [32] (fun pc lv st h ce sl => mv_gd (Nat.beq ce 0 && Nat.beq sl 0) (cond (Nat.beq pc 32) (mv_gR 0 8 lv fun o0 => mv_gI 1 lv fun v1 => mv_gI 2 lv fun v2 => mv_gI 3 lv fun v3 => mv_gI 4 lv fun v4 => mv_sE st (q32 o0 v1 v2 v3 v4 h)) (none))) 400 (mv_seek 62 tN_hangFor) [(0, Sum.inr (8, o0)), (1, Sum.inl (Value.int v1)), (2, Sum.inl (Value.int v2)), (3, Sum.inl (Value.int v3)), (4, Sum.inl (Value.int v4))] [] h 0 0 = (
  mv_rV (fN_lends o0 h) fun h1 =>
  mv_rV (fN_hangs o0 v4 h1) fun h2 =>
  mv_rI (fN_spoiltIn o0 v1 h2) fun r4 h3 =>
  if v2 < r4 then (
    mv_bi v3 fun x5 =>
    mv_bi (v4 + (nI 1)) fun x6 =>
    q32 o0 v1 v2 x5 x6 h3)
  else
  mv_bi v4 fun x7 =>
  mv_bi (v4 + (nI 1)) fun x8 =>
  q32 o0 v1 v2 x7 x8 h3) := eN_hangFor_b62_g fN_hangs fN_in fN_lends fN_ones fN_spoiltIn q32 o0 v1 v2 v3 v4 h
set_option maxRecDepth 100000 in
set_option maxHeartbeats 1000000 in
theorem eN_hangFor_b32_g (F1 : Nat → Int32 → H2 → O2) (F2 : Int64 → Int64 → Int64 → H2 → O2) (F3 : Nat → H2 → O2) (F4 : Int32 → H2 → O2) (F5 : Nat → Int32 → H2 → O2) (q32 : Nat → Int32 → Int32 → Int32 → Int32 → H2 → O2) (q62 : Nat → Int32 → Int32 → Int32 → Int32 → H2 → O2) (o0 : Nat) (v1 : Int32) (v2 : Int32) (v3 : Int32) (v4 : Int32) (h : H2) : mv_blk rI2 rR2 ln2 wI2 wR2 nw2 cp2 bod none tN_hangFor [((0, 0), cN_inG_N_hangFor F2), ((0, 0), cN_onesG_N_hangFor F4), ((0, 0), cN_lendsG_N_hangFor F3), ((0, 0), cN_hangsG_N_hangFor F1), ((0, 0), cN_spoiltInG_N_hangFor F5)] 0 0 [32, 62] (fun pc lv st h ce sl => mv_gd (Nat.beq ce 0 && Nat.beq sl 0) (cond (Nat.beq pc 32) (mv_gR 0 8 lv fun o0 => mv_gI 1 lv fun v1 => mv_gI 2 lv fun v2 => mv_gI 3 lv fun v3 => mv_gI 4 lv fun v4 => mv_sE st (q32 o0 v1 v2 v3 v4 h)) (cond (Nat.beq pc 62) (mv_gR 0 8 lv fun o0 => mv_gI 1 lv fun v1 => mv_gI 2 lv fun v2 => mv_gI 3 lv fun v3 => mv_gI 4 lv fun v4 => mv_sE st (q62 o0 v1 v2 v3 v4 h)) (none)))) 400 (mv_seek 32 tN_hangFor) [(0, Sum.inr (8, o0)), (1, Sum.inl (Value.int v1)), (2, Sum.inl (Value.int v2)), (3, Sum.inl (Value.int v3)), (4, Sum.inl (Value.int v4))] [] h 0 0 = (
  mv_gd (mv_inb (nI 6) 69) <|
  if ((nI 1) <<< ((rI2 h 902 o0 (nI 6).toNatClampNeg) &&& 31)) ≤ v4 then (
    some ([Sum.inl (Value.int v3)], h))
  else
  if v3 < 0 then (
    q62 o0 v1 v2 v3 v4 h)
  else
  mv_rI (F4 v4 h) fun r2 h1 =>
  mv_rI (F4 v3 h1) fun r4 h3 =>
  if r4 ≤ r2 then (
    mv_bi (v4 + (nI 1)) fun x5 =>
    q32 o0 v1 v2 v3 x5 h3)
  else
  q62 o0 v1 v2 v3 v4 h3) := rfl
theorem eN_hangFor_b32 (q32 : Nat → Int32 → Int32 → Int32 → Int32 → H2 → O2) (q62 : Nat → Int32 → Int32 → Int32 → Int32 → H2 → O2) (o0 : Nat) (v1 : Int32) (v2 : Int32) (v3 : Int32) (v4 : Int32) (h : H2) : mv_blk rI2 rR2 ln2 wI2 wR2 nw2 cp2 bod none tN_hangFor gN_hangFor 0 0 [32, 62] (fun pc lv st h ce sl => mv_gd (Nat.beq ce 0 && Nat.beq sl 0) (cond (Nat.beq pc 32) (mv_gR 0 8 lv fun o0 => mv_gI 1 lv fun v1 => mv_gI 2 lv fun v2 => mv_gI 3 lv fun v3 => mv_gI 4 lv fun v4 => mv_sE st (q32 o0 v1 v2 v3 v4 h)) (cond (Nat.beq pc 62) (mv_gR 0 8 lv fun o0 => mv_gI 1 lv fun v1 => mv_gI 2 lv fun v2 => mv_gI 3 lv fun v3 => mv_gI 4 lv fun v4 => mv_sE st (q62 o0 v1 v2 v3 v4 h)) (none)))) 400 (mv_seek 32 tN_hangFor) [(0, Sum.inr (8, o0)), (1, Sum.inl (Value.int v1)), (2, Sum.inl (Value.int v2)), (3, Sum.inl (Value.int v3)), (4, Sum.inl (Value.int v4))] [] h 0 0 = (
  mv_gd (mv_inb (nI 6) 69) <|
  if ((nI 1) <<< ((rI2 h 902 o0 (nI 6).toNatClampNeg) &&& 31)) ≤ v4 then (
    some ([Sum.inl (Value.int v3)], h))
  else
  if v3 < 0 then (
    q62 o0 v1 v2 v3 v4 h)
  else
  mv_rI (fN_ones v4 h) fun r2 h1 =>
  mv_rI (fN_ones v3 h1) fun r4 h3 =>
  if r4 ≤ r2 then (
    mv_bi (v4 + (nI 1)) fun x5 =>
    q32 o0 v1 v2 v3 x5 h3)
  else
  q62 o0 v1 v2 v3 v4 h3) := eN_hangFor_b32_g fN_hangs fN_in fN_lends fN_ones fN_spoiltIn q32 q62 o0 v1 v2 v3 v4 h
set_option maxRecDepth 100000 in
set_option maxHeartbeats 1000000 in
theorem eN_hangFor_g (F1 : Nat → Int32 → H2 → O2) (F2 : Int64 → Int64 → Int64 → H2 → O2) (F3 : Nat → H2 → O2) (F4 : Int32 → H2 → O2) (F5 : Nat → Int32 → H2 → O2) (q32 : Nat → Int32 → Int32 → Int32 → Int32 → H2 → O2) (o0 : Nat) (v1 : Int32) (v2 : Int32) (h : H2) : mv_blk rI2 rR2 ln2 wI2 wR2 nw2 cp2 bod none tN_hangFor [((0, 0), cN_inG_N_hangFor F2), ((0, 0), cN_onesG_N_hangFor F4), ((0, 0), cN_lendsG_N_hangFor F3), ((0, 0), cN_hangsG_N_hangFor F1), ((0, 0), cN_spoiltInG_N_hangFor F5)] 0 0 [32] (fun pc lv st h ce sl => mv_gd (Nat.beq ce 0 && Nat.beq sl 0) (cond (Nat.beq pc 32) (mv_gR 0 8 lv fun o0 => mv_gI 1 lv fun v1 => mv_gI 2 lv fun v2 => mv_gI 3 lv fun v3 => mv_gI 4 lv fun v4 => mv_sE st (q32 o0 v1 v2 v3 v4 h)) (none))) 400 (mv_seek 0 tN_hangFor) [(0, Sum.inr (8, o0)), (1, Sum.inl (Value.int v1)), (2, Sum.inl (Value.int v2))] [] h 0 0 = (
  mv_rI (F2 v1.toInt64 (lN 1) (lN 30) h) fun r2 h1 =>
  if r2 = 0 then (
    some ([Sum.inl (Value.int (-(nI 1)))], h1))
  else
  mv_rI (F2 v2.toInt64 (lN 0) (lN 8) h1) fun r4 h3 =>
  if r4 = 0 then (
    some ([Sum.inl (Value.int (-(nI 1)))], h3))
  else
  mv_bi (-(nI 3)) fun x5 =>
  mv_bi (nI 0) fun x6 =>
  q32 o0 v1 v2 x5 x6 h3) := rfl
theorem eN_hangFor (q32 : Nat → Int32 → Int32 → Int32 → Int32 → H2 → O2) (o0 : Nat) (v1 : Int32) (v2 : Int32) (h : H2) : mv_blk rI2 rR2 ln2 wI2 wR2 nw2 cp2 bod none tN_hangFor gN_hangFor 0 0 [32] (fun pc lv st h ce sl => mv_gd (Nat.beq ce 0 && Nat.beq sl 0) (cond (Nat.beq pc 32) (mv_gR 0 8 lv fun o0 => mv_gI 1 lv fun v1 => mv_gI 2 lv fun v2 => mv_gI 3 lv fun v3 => mv_gI 4 lv fun v4 => mv_sE st (q32 o0 v1 v2 v3 v4 h)) (none))) 400 (mv_seek 0 tN_hangFor) [(0, Sum.inr (8, o0)), (1, Sum.inl (Value.int v1)), (2, Sum.inl (Value.int v2))] [] h 0 0 = (
  mv_rI (fN_in v1.toInt64 (lN 1) (lN 30) h) fun r2 h1 =>
  if r2 = 0 then (
    some ([Sum.inl (Value.int (-(nI 1)))], h1))
  else
  mv_rI (fN_in v2.toInt64 (lN 0) (lN 8) h1) fun r4 h3 =>
  if r4 = 0 then (
    some ([Sum.inl (Value.int (-(nI 1)))], h3))
  else
  mv_bi (-(nI 3)) fun x5 =>
  mv_bi (nI 0) fun x6 =>
  q32 o0 v1 v2 x5 x6 h3) := eN_hangFor_g fN_hangs fN_in fN_lends fN_ones fN_spoiltIn q32 o0 v1 v2 h
theorem GN_hangFor : ∀ (j : Nat) (C : mv_C H2) (md' : mv_MD × Bool), mv_nth j gN_hangFor = some C → mv_nth j nN_hangFor = some md' → ∃ n', n' + 1 ≤ 7 ∧ mv_Cal vw2 n' md' C := fun j C md' => match j with
  | 0 => fun h1 h2 => by
    obtain rfl := Option.some.inj h1
    obtain rfl := Option.some.inj h2
    exact ⟨1, by decide, cN_in_ok⟩
  | 1 => fun h1 h2 => by
    obtain rfl := Option.some.inj h1
    obtain rfl := Option.some.inj h2
    exact ⟨1, by decide, cN_ones_ok⟩
  | 2 => fun h1 h2 => by
    obtain rfl := Option.some.inj h1
    obtain rfl := Option.some.inj h2
    exact ⟨2, by decide, cN_lends_ok⟩
  | 3 => fun h1 h2 => by
    obtain rfl := Option.some.inj h1
    obtain rfl := Option.some.inj h2
    exact ⟨2, by decide, cN_hangs_ok⟩
  | 4 => fun h1 h2 => by
    obtain rfl := Option.some.inj h1
    obtain rfl := Option.some.inj h2
    exact ⟨6, by decide, cN_spoiltIn_ok⟩
  | jj + 5 => fun h1 _ => by cases jj <;> cases h1

set_option maxRecDepth 20000 in
theorem xN_hangFor_b62 {g0 : mv_G} {res : List mv_V × H2} {k32 : Nat → Int32 → Int32 → Int32 → Int32 → H2 → O2} (hk32 : ∀ (o0 : Nat) (v1 : Int32) (v2 : Int32) (v3 : Int32) (v4 : Int32) h, k32 o0 v1 v2 v3 v4 h = some res → mv_X vw2 mdN_hangFor 7 0 0 none g0 res 32 [(0, Sum.inr (8, o0)), (1, Sum.inl (Value.int v1)), (2, Sum.inl (Value.int v2)), (3, Sum.inl (Value.int v3)), (4, Sum.inl (Value.int v4))] [] h 0 0) (o0 : Nat) (v1 : Int32) (v2 : Int32) (v3 : Int32) (v4 : Int32) (h : H2) (hh : fN_hangFor_b62 k32 o0 v1 v2 v3 v4 h = some res) : mv_X vw2 mdN_hangFor 7 0 0 none g0 res 62 [(0, Sum.inr (8, o0)), (1, Sum.inl (Value.int v1)), (2, Sum.inl (Value.int v2)), (3, Sum.inl (Value.int v3)), (4, Sum.inl (Value.int v4))] [] h 0 0 := by
  refine mv_blkX ax2 (GN_hangFor) (by decide) kN_hangFor (fun pc lv st h ce sl hh => ?_) ((eN_hangFor_b62 (k32) o0 v1 v2 v3 v4 h).trans hh)
  obtain ⟨hg, hh1⟩ := mv_gd_some hh
  obtain ⟨rfl, rfl⟩ := mv_z2 hg
  rcases mv_cond_some hh1 with ⟨hb, hh2⟩ | ⟨hb, hh3⟩
  · obtain rfl := Nat.eq_of_beq_eq_true hb
    obtain ⟨o0, m0, hh4⟩ := mv_gR_some hh2
    obtain ⟨v1, m1, hh5⟩ := mv_gI_some hh4
    obtain ⟨v2, m2, hh6⟩ := mv_gI_some hh5
    obtain ⟨v3, m3, hh7⟩ := mv_gI_some hh6
    obtain ⟨v4, m4, hh8⟩ := mv_gI_some hh7
    obtain ⟨rfl, hh9⟩ := mv_sE_some hh8
    exact (hk32 o0 v1 v2 v3 v4 h hh9).sub (List.forall_mem_cons.mpr ⟨m0, (List.forall_mem_cons.mpr ⟨m1, (List.forall_mem_cons.mpr ⟨m2, (List.forall_mem_cons.mpr ⟨m3, (List.forall_mem_cons.mpr ⟨m4, (fun q hq => by cases hq)⟩)⟩)⟩)⟩)⟩)
  cases hh3

set_option maxRecDepth 20000 in
theorem xN_hangFor_b32 {g0 : mv_G} {res : List mv_V × H2} : ∀ (n : Nat) (o0 : Nat) (v1 : Int32) (v2 : Int32) (v3 : Int32) (v4 : Int32) (h : H2), fN_hangFor_b32 n o0 v1 v2 v3 v4 h = some res → mv_X vw2 mdN_hangFor 7 0 0 none g0 res 32 [(0, Sum.inr (8, o0)), (1, Sum.inl (Value.int v1)), (2, Sum.inl (Value.int v2)), (3, Sum.inl (Value.int v3)), (4, Sum.inl (Value.int v4))] [] h 0 0 := by
  intro n
  induction n with
  | zero => intro o0 v1 v2 v3 v4 h hh; cases hh
  | succ n ih =>
    intro o0 v1 v2 v3 v4 h hh
    refine mv_blkX ax2 (GN_hangFor) (by decide) kN_hangFor (fun pc lv st h ce sl hh => ?_) ((eN_hangFor_b32 (fN_hangFor_b32 n) (fN_hangFor_b62 (fN_hangFor_b32 n)) o0 v1 v2 v3 v4 h).trans hh)
    obtain ⟨hg, hh1⟩ := mv_gd_some hh
    obtain ⟨rfl, rfl⟩ := mv_z2 hg
    rcases mv_cond_some hh1 with ⟨hb, hh2⟩ | ⟨hb, hh3⟩
    · obtain rfl := Nat.eq_of_beq_eq_true hb
      obtain ⟨o0, m0, hh4⟩ := mv_gR_some hh2
      obtain ⟨v1, m1, hh5⟩ := mv_gI_some hh4
      obtain ⟨v2, m2, hh6⟩ := mv_gI_some hh5
      obtain ⟨v3, m3, hh7⟩ := mv_gI_some hh6
      obtain ⟨v4, m4, hh8⟩ := mv_gI_some hh7
      obtain ⟨rfl, hh9⟩ := mv_sE_some hh8
      exact (ih o0 v1 v2 v3 v4 h hh9).sub (List.forall_mem_cons.mpr ⟨m0, (List.forall_mem_cons.mpr ⟨m1, (List.forall_mem_cons.mpr ⟨m2, (List.forall_mem_cons.mpr ⟨m3, (List.forall_mem_cons.mpr ⟨m4, (fun q hq => by cases hq)⟩)⟩)⟩)⟩)⟩)
    rcases mv_cond_some hh3 with ⟨hb, hh10⟩ | ⟨hb, hh11⟩
    · obtain rfl := Nat.eq_of_beq_eq_true hb
      obtain ⟨o0, m0, hh12⟩ := mv_gR_some hh10
      obtain ⟨v1, m1, hh13⟩ := mv_gI_some hh12
      obtain ⟨v2, m2, hh14⟩ := mv_gI_some hh13
      obtain ⟨v3, m3, hh15⟩ := mv_gI_some hh14
      obtain ⟨v4, m4, hh16⟩ := mv_gI_some hh15
      obtain ⟨rfl, hh17⟩ := mv_sE_some hh16
      exact (xN_hangFor_b62 ih  o0 v1 v2 v3 v4 h hh17).sub (List.forall_mem_cons.mpr ⟨m0, (List.forall_mem_cons.mpr ⟨m1, (List.forall_mem_cons.mpr ⟨m2, (List.forall_mem_cons.mpr ⟨m3, (List.forall_mem_cons.mpr ⟨m4, (fun q hq => by cases hq)⟩)⟩)⟩)⟩)⟩)
    cases hh11

set_option maxRecDepth 20000 in
theorem xN_hangFor {g0 : mv_G} {res : List mv_V × H2} (o0 : Nat) (v1 : Int32) (v2 : Int32) (h : H2) (hh : fN_hangFor o0 v1 v2 h = some res) : mv_X vw2 mdN_hangFor 7 0 0 none g0 res 0 [(0, Sum.inr (8, o0)), (1, Sum.inl (Value.int v1)), (2, Sum.inl (Value.int v2))] [] h 0 0 := by
  refine mv_blkX ax2 (GN_hangFor) (by decide) kN_hangFor (fun pc lv st h ce sl hh => ?_) ((eN_hangFor (fN_hangFor_b32 1000) o0 v1 v2 h).trans hh)
  obtain ⟨hg, hh1⟩ := mv_gd_some hh
  obtain ⟨rfl, rfl⟩ := mv_z2 hg
  rcases mv_cond_some hh1 with ⟨hb, hh2⟩ | ⟨hb, hh3⟩
  · obtain rfl := Nat.eq_of_beq_eq_true hb
    obtain ⟨o0, m0, hh4⟩ := mv_gR_some hh2
    obtain ⟨v1, m1, hh5⟩ := mv_gI_some hh4
    obtain ⟨v2, m2, hh6⟩ := mv_gI_some hh5
    obtain ⟨v3, m3, hh7⟩ := mv_gI_some hh6
    obtain ⟨v4, m4, hh8⟩ := mv_gI_some hh7
    obtain ⟨rfl, hh9⟩ := mv_sE_some hh8
    exact (xN_hangFor_b32 1000 o0 v1 v2 v3 v4 h hh9).sub (List.forall_mem_cons.mpr ⟨m0, (List.forall_mem_cons.mpr ⟨m1, (List.forall_mem_cons.mpr ⟨m2, (List.forall_mem_cons.mpr ⟨m3, (List.forall_mem_cons.mpr ⟨m4, (fun q hq => by cases hq)⟩)⟩)⟩)⟩)⟩)
  cases hh3

theorem mN_hangFor (o0 : Nat) (v1 : Int32) (v2 : Int32) (h : H2) (vs : List mv_V) (h' : H2) (hh : fN_hangFor o0 v1 v2 h = some (vs, h')) : mv_Met vw2 7 0 0 mdN_hangFor [Sum.inr (8, o0), Sum.inl (Value.int v1), Sum.inl (Value.int v2)] h vs h' :=
  mv_Met_of (by decide +kernel) (Nat.le_of_ble_eq_true rfl) (xN_hangFor o0 v1 v2 h hh)
