set_option maxRecDepth 100000 in
theorem kN_goes : mv_tok mdN_goes nN_goes tN_goes = true := by decide +kernel
def cN_aDayG_N_goes (F1 : Nat → H2 → O2) : List mv_V → H2 → (List mv_V → H2 → O2) → O2 := fun as h k => match as with
  | [.inr (t0, o0)] => mv_gd (Nat.beq t0 8) <| mv_rV (F1 o0 h) fun h => k [] h
  | _ => none
set_option maxRecDepth 100000 in
set_option maxHeartbeats 1000000 in
theorem eN_goes_b2_g (F1 : Nat → H2 → O2) (q2 : Nat → Int32 → Int32 → H2 → O2) (o0 : Nat) (v1 : Int32) (v2 : Int32) (h : H2) : mv_blk rI2 rR2 ln2 wI2 wR2 nw2 cp2 bod none tN_goes [((0, 0), cN_aDayG_N_goes F1)] 0 0 [2] (fun pc lv st h ce sl => mv_gd (Nat.beq ce 0 && Nat.beq sl 0) (cond (Nat.beq pc 2) (mv_gR 0 8 lv fun o0 => mv_gI 1 lv fun v1 => mv_gI 2 lv fun v2 => mv_sE st (q2 o0 v1 v2 h)) (none))) 400 (mv_seek 2 tN_goes) [(0, Sum.inr (8, o0)), (1, Sum.inl (Value.int v1)), (2, Sum.inl (Value.int v2))] [] h 0 0 = (
  if v1 ≤ v2 then (
    some ([], h))
  else
  mv_rV (F1 o0 h) fun h1 =>
  mv_bi (v2 + (nI 1)) fun x2 =>
  q2 o0 v1 x2 h1) := rfl
theorem eN_goes_b2 (q2 : Nat → Int32 → Int32 → H2 → O2) (o0 : Nat) (v1 : Int32) (v2 : Int32) (h : H2) : mv_blk rI2 rR2 ln2 wI2 wR2 nw2 cp2 bod none tN_goes gN_goes 0 0 [2] (fun pc lv st h ce sl => mv_gd (Nat.beq ce 0 && Nat.beq sl 0) (cond (Nat.beq pc 2) (mv_gR 0 8 lv fun o0 => mv_gI 1 lv fun v1 => mv_gI 2 lv fun v2 => mv_sE st (q2 o0 v1 v2 h)) (none))) 400 (mv_seek 2 tN_goes) [(0, Sum.inr (8, o0)), (1, Sum.inl (Value.int v1)), (2, Sum.inl (Value.int v2))] [] h 0 0 = (
  if v1 ≤ v2 then (
    some ([], h))
  else
  mv_rV (fN_aDay o0 h) fun h1 =>
  mv_bi (v2 + (nI 1)) fun x2 =>
  q2 o0 v1 x2 h1) := eN_goes_b2_g fN_aDay q2 o0 v1 v2 h
set_option maxRecDepth 100000 in
set_option maxHeartbeats 1000000 in
theorem eN_goes_g (F1 : Nat → H2 → O2) (q2 : Nat → Int32 → Int32 → H2 → O2) (o0 : Nat) (v1 : Int32) (h : H2) : mv_blk rI2 rR2 ln2 wI2 wR2 nw2 cp2 bod none tN_goes [((0, 0), cN_aDayG_N_goes F1)] 0 0 [2] (fun pc lv st h ce sl => mv_gd (Nat.beq ce 0 && Nat.beq sl 0) (cond (Nat.beq pc 2) (mv_gR 0 8 lv fun o0 => mv_gI 1 lv fun v1 => mv_gI 2 lv fun v2 => mv_sE st (q2 o0 v1 v2 h)) (none))) 400 (mv_seek 0 tN_goes) [(0, Sum.inr (8, o0)), (1, Sum.inl (Value.int v1))] [] h 0 0 = (
  mv_bi (nI 0) fun x1 =>
  q2 o0 v1 x1 h) := rfl
theorem eN_goes (q2 : Nat → Int32 → Int32 → H2 → O2) (o0 : Nat) (v1 : Int32) (h : H2) : mv_blk rI2 rR2 ln2 wI2 wR2 nw2 cp2 bod none tN_goes gN_goes 0 0 [2] (fun pc lv st h ce sl => mv_gd (Nat.beq ce 0 && Nat.beq sl 0) (cond (Nat.beq pc 2) (mv_gR 0 8 lv fun o0 => mv_gI 1 lv fun v1 => mv_gI 2 lv fun v2 => mv_sE st (q2 o0 v1 v2 h)) (none))) 400 (mv_seek 0 tN_goes) [(0, Sum.inr (8, o0)), (1, Sum.inl (Value.int v1))] [] h 0 0 = (
  mv_bi (nI 0) fun x1 =>
  q2 o0 v1 x1 h) := eN_goes_g fN_aDay q2 o0 v1 h
theorem GN_goes : ∀ (j : Nat) (C : mv_C H2) (md' : mv_MD × Bool), mv_nth j gN_goes = some C → mv_nth j nN_goes = some md' → ∃ n', n' + 1 ≤ 5 ∧ mv_Cal vw2 n' md' C := fun j C md' => match j with
  | 0 => fun h1 h2 => by
    obtain rfl := Option.some.inj h1
    obtain rfl := Option.some.inj h2
    exact ⟨4, by decide, cN_aDay_ok⟩
  | jj + 1 => fun h1 _ => by cases jj <;> cases h1

set_option maxRecDepth 20000 in
theorem xN_goes_b2 {g0 : mv_G} {res : List mv_V × H2} : ∀ (n : Nat) (o0 : Nat) (v1 : Int32) (v2 : Int32) (h : H2), fN_goes_b2 n o0 v1 v2 h = some res → mv_X vw2 mdN_goes 5 0 0 none g0 res 2 [(0, Sum.inr (8, o0)), (1, Sum.inl (Value.int v1)), (2, Sum.inl (Value.int v2))] [] h 0 0 := by
  intro n
  induction n with
  | zero => intro o0 v1 v2 h hh; cases hh
  | succ n ih =>
    intro o0 v1 v2 h hh
    refine mv_blkX ax2 (GN_goes) (by decide) kN_goes (fun pc lv st h ce sl hh => ?_) ((eN_goes_b2 (fN_goes_b2 n) o0 v1 v2 h).trans hh)
    obtain ⟨hg, hh1⟩ := mv_gd_some hh
    obtain ⟨rfl, rfl⟩ := mv_z2 hg
    rcases mv_cond_some hh1 with ⟨hb, hh2⟩ | ⟨hb, hh3⟩
    · obtain rfl := Nat.eq_of_beq_eq_true hb
      obtain ⟨o0, m0, hh4⟩ := mv_gR_some hh2
      obtain ⟨v1, m1, hh5⟩ := mv_gI_some hh4
      obtain ⟨v2, m2, hh6⟩ := mv_gI_some hh5
      obtain ⟨rfl, hh7⟩ := mv_sE_some hh6
      exact (ih o0 v1 v2 h hh7).sub (List.forall_mem_cons.mpr ⟨m0, (List.forall_mem_cons.mpr ⟨m1, (List.forall_mem_cons.mpr ⟨m2, (fun q hq => by cases hq)⟩)⟩)⟩)
    cases hh3

set_option maxRecDepth 20000 in
theorem xN_goes {g0 : mv_G} {res : List mv_V × H2} (o0 : Nat) (v1 : Int32) (h : H2) (hh : fN_goes o0 v1 h = some res) : mv_X vw2 mdN_goes 5 0 0 none g0 res 0 [(0, Sum.inr (8, o0)), (1, Sum.inl (Value.int v1))] [] h 0 0 := by
  refine mv_blkX ax2 (GN_goes) (by decide) kN_goes (fun pc lv st h ce sl hh => ?_) ((eN_goes (fN_goes_b2 1000) o0 v1 h).trans hh)
  obtain ⟨hg, hh1⟩ := mv_gd_some hh
  obtain ⟨rfl, rfl⟩ := mv_z2 hg
  rcases mv_cond_some hh1 with ⟨hb, hh2⟩ | ⟨hb, hh3⟩
  · obtain rfl := Nat.eq_of_beq_eq_true hb
    obtain ⟨o0, m0, hh4⟩ := mv_gR_some hh2
    obtain ⟨v1, m1, hh5⟩ := mv_gI_some hh4
    obtain ⟨v2, m2, hh6⟩ := mv_gI_some hh5
    obtain ⟨rfl, hh7⟩ := mv_sE_some hh6
    exact (xN_goes_b2 1000 o0 v1 v2 h hh7).sub (List.forall_mem_cons.mpr ⟨m0, (List.forall_mem_cons.mpr ⟨m1, (List.forall_mem_cons.mpr ⟨m2, (fun q hq => by cases hq)⟩)⟩)⟩)
  cases hh3

theorem mN_goes (o0 : Nat) (v1 : Int32) (h : H2) (vs : List mv_V) (h' : H2) (hh : fN_goes o0 v1 h = some (vs, h')) : mv_Met vw2 5 0 0 mdN_goes [Sum.inr (8, o0), Sum.inl (Value.int v1)] h vs h' :=
  mv_Met_of (by decide +kernel) (Nat.le_of_ble_eq_true rfl) (xN_goes o0 v1 h hh)
theorem cN_goes_ok : mv_Cal vw2 5 (mdN_goes, true) ((0, 0), cN_goes) := by
  intro as h k res hh
  change cN_goes as h k = some res at hh
  unfold cN_goes at hh
  split at hh
  · obtain ⟨hg0, ha0⟩ := mv_gd_some hh
    obtain rfl := Nat.eq_of_beq_eq_true hg0
    obtain ⟨h', h1, h9⟩ := mv_rV_some ha0
    exact ⟨_, _, h9, (by first | decide | exact Nat.le_refl _ | exact Nat.zero_le _), fun _ => ⟨_, _, _, rfl, Or.inl ⟨by decide, rfl⟩⟩, (mN_goes _ _ h _ _ h1)⟩
  · cases hh

set_option maxRecDepth 100000 in
theorem kN_depths : mv_tok mdN_depths nN_depths tN_depths = true := by decide +kernel
def cN_itsG_N_depths (F1 : Nat → Int32 → Int32 → H2 → O2) : List mv_V → H2 → (List mv_V → H2 → O2) → O2 := fun as h k => match as with
  | [.inr (t0, o0), .inl (.int v1), .inl (.int v2)] => mv_gd (Nat.beq t0 8) <| mv_rI (F1 o0 v1 v2 h) fun x h => k [.inl (.int x)] h
  | _ => none
set_option maxRecDepth 100000 in
set_option maxHeartbeats 1000000 in
theorem eN_depths_b4_g (F1 : Nat → Int32 → Int32 → H2 → O2) (q4 : Nat → Int32 → Int32 → H2 → O2) (o0 : Nat) (v1 : Int32) (v2 : Int32) (h : H2) : mv_blk rI2 rR2 ln2 wI2 wR2 nw2 cp2 bod none tN_depths [((0, 0), cN_itsG_N_depths F1)] 0 0 [4] (fun pc lv st h ce sl => mv_gd (Nat.beq ce 0 && Nat.beq sl 0) (cond (Nat.beq pc 4) (mv_gR 0 8 lv fun o0 => mv_gI 1 lv fun v1 => mv_gI 2 lv fun v2 => mv_sE st (q4 o0 v1 v2 h)) (none))) 400 (mv_seek 4 tN_depths) [(0, Sum.inr (8, o0)), (1, Sum.inl (Value.int v1)), (2, Sum.inl (Value.int v2))] [] h 0 0 = (
  mv_gd (mv_inb (nI 6) 69) <|
  if (rI2 h 902 o0 (nI 6).toNatClampNeg) ≤ v2 then (
    some ([Sum.inl (Value.int v1)], h))
  else
  mv_rI (F1 o0 v2 (nI 2) h) fun r2 h1 =>
  mv_bi (v1 + r2) fun x3 =>
  mv_bi (v2 + (nI 1)) fun x4 =>
  q4 o0 x3 x4 h1) := rfl
theorem eN_depths_b4 (q4 : Nat → Int32 → Int32 → H2 → O2) (o0 : Nat) (v1 : Int32) (v2 : Int32) (h : H2) : mv_blk rI2 rR2 ln2 wI2 wR2 nw2 cp2 bod none tN_depths gN_depths 0 0 [4] (fun pc lv st h ce sl => mv_gd (Nat.beq ce 0 && Nat.beq sl 0) (cond (Nat.beq pc 4) (mv_gR 0 8 lv fun o0 => mv_gI 1 lv fun v1 => mv_gI 2 lv fun v2 => mv_sE st (q4 o0 v1 v2 h)) (none))) 400 (mv_seek 4 tN_depths) [(0, Sum.inr (8, o0)), (1, Sum.inl (Value.int v1)), (2, Sum.inl (Value.int v2))] [] h 0 0 = (
  mv_gd (mv_inb (nI 6) 69) <|
  if (rI2 h 902 o0 (nI 6).toNatClampNeg) ≤ v2 then (
    some ([Sum.inl (Value.int v1)], h))
  else
  mv_rI (fN_its o0 v2 (nI 2) h) fun r2 h1 =>
  mv_bi (v1 + r2) fun x3 =>
  mv_bi (v2 + (nI 1)) fun x4 =>
  q4 o0 x3 x4 h1) := eN_depths_b4_g fN_its q4 o0 v1 v2 h
set_option maxRecDepth 100000 in
set_option maxHeartbeats 1000000 in
theorem eN_depths_g (F1 : Nat → Int32 → Int32 → H2 → O2) (q4 : Nat → Int32 → Int32 → H2 → O2) (o0 : Nat) (h : H2) : mv_blk rI2 rR2 ln2 wI2 wR2 nw2 cp2 bod none tN_depths [((0, 0), cN_itsG_N_depths F1)] 0 0 [4] (fun pc lv st h ce sl => mv_gd (Nat.beq ce 0 && Nat.beq sl 0) (cond (Nat.beq pc 4) (mv_gR 0 8 lv fun o0 => mv_gI 1 lv fun v1 => mv_gI 2 lv fun v2 => mv_sE st (q4 o0 v1 v2 h)) (none))) 400 (mv_seek 0 tN_depths) [(0, Sum.inr (8, o0))] [] h 0 0 = (
  mv_bi (nI 0) fun x1 =>
  mv_bi (nI 0) fun x2 =>
  q4 o0 x1 x2 h) := rfl
theorem eN_depths (q4 : Nat → Int32 → Int32 → H2 → O2) (o0 : Nat) (h : H2) : mv_blk rI2 rR2 ln2 wI2 wR2 nw2 cp2 bod none tN_depths gN_depths 0 0 [4] (fun pc lv st h ce sl => mv_gd (Nat.beq ce 0 && Nat.beq sl 0) (cond (Nat.beq pc 4) (mv_gR 0 8 lv fun o0 => mv_gI 1 lv fun v1 => mv_gI 2 lv fun v2 => mv_sE st (q4 o0 v1 v2 h)) (none))) 400 (mv_seek 0 tN_depths) [(0, Sum.inr (8, o0))] [] h 0 0 = (
  mv_bi (nI 0) fun x1 =>
  mv_bi (nI 0) fun x2 =>
  q4 o0 x1 x2 h) := eN_depths_g fN_its q4 o0 h
theorem GN_depths : ∀ (j : Nat) (C : mv_C H2) (md' : mv_MD × Bool), mv_nth j gN_depths = some C → mv_nth j nN_depths = some md' → ∃ n', n' + 1 ≤ 2 ∧ mv_Cal vw2 n' md' C := fun j C md' => match j with
  | 0 => fun h1 h2 => by
    obtain rfl := Option.some.inj h1
    obtain rfl := Option.some.inj h2
    exact ⟨1, by decide, cN_its_ok⟩
  | jj + 1 => fun h1 _ => by cases jj <;> cases h1

set_option maxRecDepth 20000 in
theorem xN_depths_b4 {g0 : mv_G} {res : List mv_V × H2} : ∀ (n : Nat) (o0 : Nat) (v1 : Int32) (v2 : Int32) (h : H2), fN_depths_b4 n o0 v1 v2 h = some res → mv_X vw2 mdN_depths 2 0 0 none g0 res 4 [(0, Sum.inr (8, o0)), (1, Sum.inl (Value.int v1)), (2, Sum.inl (Value.int v2))] [] h 0 0 := by
  intro n
  induction n with
  | zero => intro o0 v1 v2 h hh; cases hh
  | succ n ih =>
    intro o0 v1 v2 h hh
    refine mv_blkX ax2 (GN_depths) (by decide) kN_depths (fun pc lv st h ce sl hh => ?_) ((eN_depths_b4 (fN_depths_b4 n) o0 v1 v2 h).trans hh)
    obtain ⟨hg, hh1⟩ := mv_gd_some hh
    obtain ⟨rfl, rfl⟩ := mv_z2 hg
    rcases mv_cond_some hh1 with ⟨hb, hh2⟩ | ⟨hb, hh3⟩
    · obtain rfl := Nat.eq_of_beq_eq_true hb
      obtain ⟨o0, m0, hh4⟩ := mv_gR_some hh2
      obtain ⟨v1, m1, hh5⟩ := mv_gI_some hh4
      obtain ⟨v2, m2, hh6⟩ := mv_gI_some hh5
      obtain ⟨rfl, hh7⟩ := mv_sE_some hh6
      exact (ih o0 v1 v2 h hh7).sub (List.forall_mem_cons.mpr ⟨m0, (List.forall_mem_cons.mpr ⟨m1, (List.forall_mem_cons.mpr ⟨m2, (fun q hq => by cases hq)⟩)⟩)⟩)
    cases hh3

set_option maxRecDepth 20000 in
theorem xN_depths {g0 : mv_G} {res : List mv_V × H2} (o0 : Nat) (h : H2) (hh : fN_depths o0 h = some res) : mv_X vw2 mdN_depths 2 0 0 none g0 res 0 [(0, Sum.inr (8, o0))] [] h 0 0 := by
  refine mv_blkX ax2 (GN_depths) (by decide) kN_depths (fun pc lv st h ce sl hh => ?_) ((eN_depths (fN_depths_b4 1000) o0 h).trans hh)
  obtain ⟨hg, hh1⟩ := mv_gd_some hh
  obtain ⟨rfl, rfl⟩ := mv_z2 hg
  rcases mv_cond_some hh1 with ⟨hb, hh2⟩ | ⟨hb, hh3⟩
  · obtain rfl := Nat.eq_of_beq_eq_true hb
    obtain ⟨o0, m0, hh4⟩ := mv_gR_some hh2
    obtain ⟨v1, m1, hh5⟩ := mv_gI_some hh4
    obtain ⟨v2, m2, hh6⟩ := mv_gI_some hh5
    obtain ⟨rfl, hh7⟩ := mv_sE_some hh6
    exact (xN_depths_b4 1000 o0 v1 v2 h hh7).sub (List.forall_mem_cons.mpr ⟨m0, (List.forall_mem_cons.mpr ⟨m1, (List.forall_mem_cons.mpr ⟨m2, (fun q hq => by cases hq)⟩)⟩)⟩)
  cases hh3

theorem mN_depths (o0 : Nat) (h : H2) (vs : List mv_V) (h' : H2) (hh : fN_depths o0 h = some (vs, h')) : mv_Met vw2 2 0 0 mdN_depths [Sum.inr (8, o0)] h vs h' :=
  mv_Met_of (by decide +kernel) (Nat.le_of_ble_eq_true rfl) (xN_depths o0 h hh)
theorem cN_depths_ok : mv_Cal vw2 2 (mdN_depths, true) ((0, 0), cN_depths) := by
  intro as h k res hh
  change cN_depths as h k = some res at hh
  unfold cN_depths at hh
  split at hh
  · obtain ⟨hg0, ha0⟩ := mv_gd_some hh
    obtain rfl := Nat.eq_of_beq_eq_true hg0
    obtain ⟨x, h', h1, h9⟩ := mv_rI_some ha0
    exact ⟨_, _, h9, (by first | decide | exact Nat.le_refl _ | exact Nat.zero_le _), fun _ => ⟨_, _, _, rfl, Or.inl ⟨by decide, rfl⟩⟩, (mN_depths _ h _ _ h1)⟩
  · cases hh

set_option maxRecDepth 100000 in
theorem kN_days : mv_tok mdN_days nN_days tN_days = true := by decide +kernel
def cN_depthsG_N_days (F1 : Nat → H2 → O2) : List mv_V → H2 → (List mv_V → H2 → O2) → O2 := fun as h k => match as with
  | [.inr (t0, o0)] => mv_gd (Nat.beq t0 8) <| mv_rI (F1 o0 h) fun x h => k [.inl (.int x)] h
  | _ => none
def cN_goesG_N_days (F2 : Nat → Int32 → H2 → O2) : List mv_V → H2 → (List mv_V → H2 → O2) → O2 := fun as h k => match as with
  | [.inr (t0, o0), .inl (.int v1)] => mv_gd (Nat.beq t0 8) <| mv_rV (F2 o0 v1 h) fun h => k [] h
  | _ => none
def cN_inG_N_days (F3 : Int64 → Int64 → Int64 → H2 → O2) : List mv_V → H2 → (List mv_V → H2 → O2) → O2 := fun as h k => match as with
  | [.inl (.long w0), .inl (.long w2), .inl (.long w4)] => mv_rI (F3 w0 w2 w4 h) fun x h => k [.inl (.int x)] h
  | _ => none
set_option maxRecDepth 100000 in
set_option maxHeartbeats 1000000 in
theorem eN_days_g (F1 : Nat → H2 → O2) (F2 : Nat → Int32 → H2 → O2) (F3 : Int64 → Int64 → Int64 → H2 → O2) (o0 : Nat) (v1 : Int32) (h : H2) : mv_blk rI2 rR2 ln2 wI2 wR2 nw2 cp2 bod none tN_days [((0, 0), cN_inG_N_days F3), ((0, 0), cN_goesG_N_days F2), ((0, 0), cN_depthsG_N_days F1)] 0 0 [] (fun _ _ _ _ _ _ => none) 400 (mv_seek 0 tN_days) [(0, Sum.inr (8, o0)), (1, Sum.inl (Value.int v1))] [] h 0 0 = (
  mv_rI (F3 v1.toInt64 (lN 1) (lN 60) h) fun r2 h1 =>
  if r2 = 0 then (
    some ([Sum.inl (Value.int (-(nI 1)))], h1))
  else
  mv_rV (F2 o0 v1 h1) fun h3 =>
  mv_rI (F1 o0 h3) fun r5 h4 =>
  some ([Sum.inl (Value.int r5)], h4)) := rfl
theorem eN_days (o0 : Nat) (v1 : Int32) (h : H2) : mv_blk rI2 rR2 ln2 wI2 wR2 nw2 cp2 bod none tN_days gN_days 0 0 [] (fun _ _ _ _ _ _ => none) 400 (mv_seek 0 tN_days) [(0, Sum.inr (8, o0)), (1, Sum.inl (Value.int v1))] [] h 0 0 = (
  mv_rI (fN_in v1.toInt64 (lN 1) (lN 60) h) fun r2 h1 =>
  if r2 = 0 then (
    some ([Sum.inl (Value.int (-(nI 1)))], h1))
  else
  mv_rV (fN_goes o0 v1 h1) fun h3 =>
  mv_rI (fN_depths o0 h3) fun r5 h4 =>
  some ([Sum.inl (Value.int r5)], h4)) := eN_days_g fN_depths fN_goes fN_in o0 v1 h
theorem GN_days : ∀ (j : Nat) (C : mv_C H2) (md' : mv_MD × Bool), mv_nth j gN_days = some C → mv_nth j nN_days = some md' → ∃ n', n' + 1 ≤ 6 ∧ mv_Cal vw2 n' md' C := fun j C md' => match j with
  | 0 => fun h1 h2 => by
    obtain rfl := Option.some.inj h1
    obtain rfl := Option.some.inj h2
    exact ⟨1, by decide, cN_in_ok⟩
  | 1 => fun h1 h2 => by
    obtain rfl := Option.some.inj h1
    obtain rfl := Option.some.inj h2
    exact ⟨5, by decide, cN_goes_ok⟩
  | 2 => fun h1 h2 => by
    obtain rfl := Option.some.inj h1
    obtain rfl := Option.some.inj h2
    exact ⟨2, by decide, cN_depths_ok⟩
  | jj + 3 => fun h1 _ => by cases jj <;> cases h1

set_option maxRecDepth 20000 in
theorem xN_days {g0 : mv_G} {res : List mv_V × H2} (o0 : Nat) (v1 : Int32) (h : H2) (hh : fN_days o0 v1 h = some res) : mv_X vw2 mdN_days 6 0 0 none g0 res 0 [(0, Sum.inr (8, o0)), (1, Sum.inl (Value.int v1))] [] h 0 0 := by
  refine mv_blkX ax2 (GN_days) (by decide) kN_days (fun pc lv st h ce sl hh => ?_) ((eN_days  o0 v1 h).trans hh)
  cases hh

theorem mN_days (o0 : Nat) (v1 : Int32) (h : H2) (vs : List mv_V) (h' : H2) (hh : fN_days o0 v1 h = some (vs, h')) : mv_Met vw2 6 0 0 mdN_days [Sum.inr (8, o0), Sum.inl (Value.int v1)] h vs h' :=
  mv_Met_of (by decide +kernel) (Nat.le_of_ble_eq_true rfl) (xN_days o0 v1 h hh)
set_option maxRecDepth 100000 in
theorem kN_seed : mv_tok mdN_seed nN_seed tN_seed = true := by decide +kernel
def cN_becomesG_N_seed (F1 : Nat → Int32 → Int32 → H2 → O2) : List mv_V → H2 → (List mv_V → H2 → O2) → O2 := fun as h k => match as with
  | [.inr (t0, o0), .inl (.int v1), .inl (.int v2)] => mv_gd (Nat.beq t0 8) <| mv_rI (F1 o0 v1 v2 h) fun x h => k [.inl (.int x)] h
  | _ => none
set_option maxRecDepth 100000 in
set_option maxHeartbeats 1000000 in
theorem eN_seed_g (F1 : Nat → Int32 → Int32 → H2 → O2) (o0 : Nat) (v1 : Int32) (h : H2) : mv_blk rI2 rR2 ln2 wI2 wR2 nw2 cp2 bod none tN_seed [((0, 0), cN_becomesG_N_seed F1)] 0 0 [] (fun _ _ _ _ _ _ => none) 400 (mv_seek 0 tN_seed) [(0, Sum.inr (8, o0)), (1, Sum.inl (Value.int v1))] [] h 0 0 = (
  mv_rI (F1 o0 (nI 5) v1 h) fun r2 h1 =>
  some ([Sum.inl (Value.int r2)], h1)) := rfl
theorem eN_seed (o0 : Nat) (v1 : Int32) (h : H2) : mv_blk rI2 rR2 ln2 wI2 wR2 nw2 cp2 bod none tN_seed gN_seed 0 0 [] (fun _ _ _ _ _ _ => none) 400 (mv_seek 0 tN_seed) [(0, Sum.inr (8, o0)), (1, Sum.inl (Value.int v1))] [] h 0 0 = (
  mv_rI (fN_becomes o0 (nI 5) v1 h) fun r2 h1 =>
  some ([Sum.inl (Value.int r2)], h1)) := eN_seed_g fN_becomes o0 v1 h
theorem GN_seed : ∀ (j : Nat) (C : mv_C H2) (md' : mv_MD × Bool), mv_nth j gN_seed = some C → mv_nth j nN_seed = some md' → ∃ n', n' + 1 ≤ 2 ∧ mv_Cal vw2 n' md' C := fun j C md' => match j with
  | 0 => fun h1 h2 => by
    obtain rfl := Option.some.inj h1
    obtain rfl := Option.some.inj h2
    exact ⟨1, by decide, cN_becomes_ok⟩
  | jj + 1 => fun h1 _ => by cases jj <;> cases h1

set_option maxRecDepth 20000 in
theorem xN_seed {g0 : mv_G} {res : List mv_V × H2} (o0 : Nat) (v1 : Int32) (h : H2) (hh : fN_seed o0 v1 h = some res) : mv_X vw2 mdN_seed 2 0 0 none g0 res 0 [(0, Sum.inr (8, o0)), (1, Sum.inl (Value.int v1))] [] h 0 0 := by
  refine mv_blkX ax2 (GN_seed) (by decide) kN_seed (fun pc lv st h ce sl hh => ?_) ((eN_seed  o0 v1 h).trans hh)
  cases hh

theorem mN_seed (o0 : Nat) (v1 : Int32) (h : H2) (vs : List mv_V) (h' : H2) (hh : fN_seed o0 v1 h = some (vs, h')) : mv_Met vw2 2 0 0 mdN_seed [Sum.inr (8, o0), Sum.inl (Value.int v1)] h vs h' :=
  mv_Met_of (by decide +kernel) (Nat.le_of_ble_eq_true rfl) (xN_seed o0 v1 h hh)
set_option maxRecDepth 100000 in
theorem kN_draw : mv_tok mdN_draw nN_draw tN_draw = true := by decide +kernel
set_option maxRecDepth 100000 in
set_option maxHeartbeats 1000000 in
theorem eN_draw (o0 : Nat) (h : H2) : mv_blk rI2 rR2 ln2 wI2 wR2 nw2 cp2 bod none tN_draw gN_draw 0 0 [] (fun _ _ _ _ _ _ => none) 400 (mv_seek 0 tN_draw) [(0, Sum.inr (8, o0))] [] h 0 0 = (
  mv_gd (mv_inb (nI 5) 69) <|
  mv_gd (mv_inb (nI 5) 69) <|
  mv_bh (wI2 h 902 o0 (nI 5).toNatClampNeg (((rI2 h 902 o0 (nI 5).toNatClampNeg) * (nI 1103515245)) + (nI 12345))) fun h1 =>
  mv_gd (mv_inb (nI 5) 69) <|
  some ([Sum.inl (Value.int (((rI2 h1 902 o0 (nI 5).toNatClampNeg).toUInt32 >>> ((nI 16).toUInt32 &&& Int32.toUInt32 31)).toInt32))], h1)) := rfl
theorem GN_draw : ∀ (j : Nat) (C : mv_C H2) (md' : mv_MD × Bool), mv_nth j gN_draw = some C → mv_nth j nN_draw = some md' → ∃ n', n' + 1 ≤ 1 ∧ mv_Cal vw2 n' md' C := fun j C md' h1 _ => by cases j <;> cases h1

set_option maxRecDepth 20000 in
theorem xN_draw {g0 : mv_G} {res : List mv_V × H2} (o0 : Nat) (h : H2) (hh : fN_draw o0 h = some res) : mv_X vw2 mdN_draw 1 0 0 none g0 res 0 [(0, Sum.inr (8, o0))] [] h 0 0 := by
  refine mv_blkX ax2 (GN_draw) (by decide) kN_draw (fun pc lv st h ce sl hh => ?_) ((eN_draw  o0 h).trans hh)
  cases hh

theorem mN_draw (o0 : Nat) (h : H2) (vs : List mv_V) (h' : H2) (hh : fN_draw o0 h = some (vs, h')) : mv_Met vw2 1 0 0 mdN_draw [Sum.inr (8, o0)] h vs h' :=
  mv_Met_of (by decide +kernel) (Nat.le_of_ble_eq_true rfl) (xN_draw o0 h hh)
theorem cN_draw_ok : mv_Cal vw2 1 (mdN_draw, true) ((0, 0), cN_draw) := by
  intro as h k res hh
  change cN_draw as h k = some res at hh
  unfold cN_draw at hh
  split at hh
  · obtain ⟨hg0, ha0⟩ := mv_gd_some hh
    obtain rfl := Nat.eq_of_beq_eq_true hg0
    obtain ⟨x, h', h1, h9⟩ := mv_rI_some ha0
    exact ⟨_, _, h9, (by first | decide | exact Nat.le_refl _ | exact Nat.zero_le _), fun _ => ⟨_, _, _, rfl, Or.inl ⟨by decide, rfl⟩⟩, (mN_draw _ h _ _ h1)⟩
  · cases hh

set_option maxRecDepth 100000 in
theorem kN_byDraws : mv_tok mdN_byDraws nN_byDraws tN_byDraws = true := by decide +kernel
def cN_aDayG_N_byDraws (F1 : Nat → H2 → O2) : List mv_V → H2 → (List mv_V → H2 → O2) → O2 := fun as h k => match as with
  | [.inr (t0, o0)] => mv_gd (Nat.beq t0 8) <| mv_rV (F1 o0 h) fun h => k [] h
  | _ => none
def cN_dipsG_N_byDraws (F2 : Nat → Int32 → Int32 → H2 → O2) : List mv_V → H2 → (List mv_V → H2 → O2) → O2 := fun as h k => match as with
  | [.inr (t0, o0), .inl (.int v1), .inl (.int v2)] => mv_gd (Nat.beq t0 8) <| mv_rV (F2 o0 v1 v2 h) fun h => k [] h
  | _ => none
def cN_drawG_N_byDraws (F3 : Nat → H2 → O2) : List mv_V → H2 → (List mv_V → H2 → O2) → O2 := fun as h k => match as with
  | [.inr (t0, o0)] => mv_gd (Nat.beq t0 8) <| mv_rI (F3 o0 h) fun x h => k [.inl (.int x)] h
  | _ => none
set_option maxRecDepth 100000 in
set_option maxHeartbeats 1000000 in
theorem eN_byDraws_g (F1 : Nat → H2 → O2) (F2 : Nat → Int32 → Int32 → H2 → O2) (F3 : Nat → H2 → O2) (o0 : Nat) (h : H2) : mv_blk rI2 rR2 ln2 wI2 wR2 nw2 cp2 bod none tN_byDraws [((0, 0), cN_drawG_N_byDraws F3), ((0, 0), cN_dipsG_N_byDraws F2), ((0, 0), cN_aDayG_N_byDraws F1)] 0 0 [] (fun _ _ _ _ _ _ => none) 400 (mv_seek 0 tN_byDraws) [(0, Sum.inr (8, o0))] [] h 0 0 = (
  mv_gd (mv_inb (nI 6) 69) <|
  if (rI2 h 902 o0 (nI 6).toNatClampNeg) ≤ 0 then (
    mv_rV (F1 o0 h) fun h1 =>
    some ([], h1))
  else
  mv_rI (F3 o0 h) fun r3 h2 =>
  mv_gd (mv_inb (nI 6) 69) <|
  mv_gd (!decide ((rI2 h2 902 o0 (nI 6).toNatClampNeg) = 0)) <|
  mv_bi (r3 - r3 / (rI2 h2 902 o0 (nI 6).toNatClampNeg) * (rI2 h2 902 o0 (nI 6).toNatClampNeg)) fun x4 =>
  mv_rI (F3 o0 h2) fun r6 h5 =>
  mv_gd (!decide ((nI 100) = 0)) <|
  mv_gd (mv_inb (nI 3) 69) <|
  if (rI2 h5 902 o0 (nI 3).toNatClampNeg) ≤ (r6 - r6 / (nI 100) * (nI 100)) then (
    mv_rV (F1 o0 h5) fun h7 =>
    some ([], h7))
  else
  mv_rI (F3 o0 h5) fun r9 h8 =>
  mv_gd (!decide ((nI 8) = 0)) <|
  mv_rV (F2 o0 x4 (r9 - r9 / (nI 8) * (nI 8)) h8) fun h10 =>
  mv_rV (F1 o0 h10) fun h11 =>
  some ([], h11)) := rfl
theorem eN_byDraws (o0 : Nat) (h : H2) : mv_blk rI2 rR2 ln2 wI2 wR2 nw2 cp2 bod none tN_byDraws gN_byDraws 0 0 [] (fun _ _ _ _ _ _ => none) 400 (mv_seek 0 tN_byDraws) [(0, Sum.inr (8, o0))] [] h 0 0 = (
  mv_gd (mv_inb (nI 6) 69) <|
  if (rI2 h 902 o0 (nI 6).toNatClampNeg) ≤ 0 then (
    mv_rV (fN_aDay o0 h) fun h1 =>
    some ([], h1))
  else
  mv_rI (fN_draw o0 h) fun r3 h2 =>
  mv_gd (mv_inb (nI 6) 69) <|
  mv_gd (!decide ((rI2 h2 902 o0 (nI 6).toNatClampNeg) = 0)) <|
  mv_bi (r3 - r3 / (rI2 h2 902 o0 (nI 6).toNatClampNeg) * (rI2 h2 902 o0 (nI 6).toNatClampNeg)) fun x4 =>
  mv_rI (fN_draw o0 h2) fun r6 h5 =>
  mv_gd (!decide ((nI 100) = 0)) <|
  mv_gd (mv_inb (nI 3) 69) <|
  if (rI2 h5 902 o0 (nI 3).toNatClampNeg) ≤ (r6 - r6 / (nI 100) * (nI 100)) then (
    mv_rV (fN_aDay o0 h5) fun h7 =>
    some ([], h7))
  else
  mv_rI (fN_draw o0 h5) fun r9 h8 =>
  mv_gd (!decide ((nI 8) = 0)) <|
  mv_rV (fN_dips o0 x4 (r9 - r9 / (nI 8) * (nI 8)) h8) fun h10 =>
  mv_rV (fN_aDay o0 h10) fun h11 =>
  some ([], h11)) := eN_byDraws_g fN_aDay fN_dips fN_draw o0 h
theorem GN_byDraws : ∀ (j : Nat) (C : mv_C H2) (md' : mv_MD × Bool), mv_nth j gN_byDraws = some C → mv_nth j nN_byDraws = some md' → ∃ n', n' + 1 ≤ 5 ∧ mv_Cal vw2 n' md' C := fun j C md' => match j with
  | 0 => fun h1 h2 => by
    obtain rfl := Option.some.inj h1
    obtain rfl := Option.some.inj h2
    exact ⟨1, by decide, cN_draw_ok⟩
  | 1 => fun h1 h2 => by
    obtain rfl := Option.some.inj h1
    obtain rfl := Option.some.inj h2
    exact ⟨3, by decide, cN_dips_ok⟩
  | 2 => fun h1 h2 => by
    obtain rfl := Option.some.inj h1
    obtain rfl := Option.some.inj h2
    exact ⟨4, by decide, cN_aDay_ok⟩
  | jj + 3 => fun h1 _ => by cases jj <;> cases h1

set_option maxRecDepth 20000 in
theorem xN_byDraws {g0 : mv_G} {res : List mv_V × H2} (o0 : Nat) (h : H2) (hh : fN_byDraws o0 h = some res) : mv_X vw2 mdN_byDraws 5 0 0 none g0 res 0 [(0, Sum.inr (8, o0))] [] h 0 0 := by
  refine mv_blkX ax2 (GN_byDraws) (by decide) kN_byDraws (fun pc lv st h ce sl hh => ?_) ((eN_byDraws  o0 h).trans hh)
  cases hh

theorem mN_byDraws (o0 : Nat) (h : H2) (vs : List mv_V) (h' : H2) (hh : fN_byDraws o0 h = some (vs, h')) : mv_Met vw2 5 0 0 mdN_byDraws [Sum.inr (8, o0)] h vs h' :=
  mv_Met_of (by decide +kernel) (Nat.le_of_ble_eq_true rfl) (xN_byDraws o0 h hh)
theorem cN_byDraws_ok : mv_Cal vw2 5 (mdN_byDraws, true) ((0, 0), cN_byDraws) := by
  intro as h k res hh
  change cN_byDraws as h k = some res at hh
  unfold cN_byDraws at hh
  split at hh
  · obtain ⟨hg0, ha0⟩ := mv_gd_some hh
    obtain rfl := Nat.eq_of_beq_eq_true hg0
    obtain ⟨h', h1, h9⟩ := mv_rV_some ha0
    exact ⟨_, _, h9, (by first | decide | exact Nat.le_refl _ | exact Nat.zero_le _), fun _ => ⟨_, _, _, rfl, Or.inl ⟨by decide, rfl⟩⟩, (mN_byDraws _ h _ _ h1)⟩
  · cases hh

set_option maxRecDepth 100000 in
theorem kN_day : mv_tok mdN_day nN_day tN_day = true := by decide +kernel
def cN_byDrawsG_N_day (F1 : Nat → H2 → O2) : List mv_V → H2 → (List mv_V → H2 → O2) → O2 := fun as h k => match as with
  | [.inr (t0, o0)] => mv_gd (Nat.beq t0 8) <| mv_rV (F1 o0 h) fun h => k [] h
  | _ => none
def cN_depthsG_N_day (F2 : Nat → H2 → O2) : List mv_V → H2 → (List mv_V → H2 → O2) → O2 := fun as h k => match as with
  | [.inr (t0, o0)] => mv_gd (Nat.beq t0 8) <| mv_rI (F2 o0 h) fun x h => k [.inl (.int x)] h
  | _ => none
set_option maxRecDepth 100000 in
set_option maxHeartbeats 1000000 in
theorem eN_day_g (F1 : Nat → H2 → O2) (F2 : Nat → H2 → O2) (o0 : Nat) (h : H2) : mv_blk rI2 rR2 ln2 wI2 wR2 nw2 cp2 bod none tN_day [((0, 0), cN_byDrawsG_N_day F1), ((0, 0), cN_depthsG_N_day F2)] 0 0 [] (fun _ _ _ _ _ _ => none) 400 (mv_seek 0 tN_day) [(0, Sum.inr (8, o0))] [] h 0 0 = (
  mv_rV (F1 o0 h) fun h1 =>
  mv_rI (F2 o0 h1) fun r3 h2 =>
  some ([Sum.inl (Value.int r3)], h2)) := rfl
theorem eN_day (o0 : Nat) (h : H2) : mv_blk rI2 rR2 ln2 wI2 wR2 nw2 cp2 bod none tN_day gN_day 0 0 [] (fun _ _ _ _ _ _ => none) 400 (mv_seek 0 tN_day) [(0, Sum.inr (8, o0))] [] h 0 0 = (
  mv_rV (fN_byDraws o0 h) fun h1 =>
  mv_rI (fN_depths o0 h1) fun r3 h2 =>
  some ([Sum.inl (Value.int r3)], h2)) := eN_day_g fN_byDraws fN_depths o0 h
theorem GN_day : ∀ (j : Nat) (C : mv_C H2) (md' : mv_MD × Bool), mv_nth j gN_day = some C → mv_nth j nN_day = some md' → ∃ n', n' + 1 ≤ 6 ∧ mv_Cal vw2 n' md' C := fun j C md' => match j with
  | 0 => fun h1 h2 => by
    obtain rfl := Option.some.inj h1
    obtain rfl := Option.some.inj h2
    exact ⟨5, by decide, cN_byDraws_ok⟩
  | 1 => fun h1 h2 => by
    obtain rfl := Option.some.inj h1
    obtain rfl := Option.some.inj h2
    exact ⟨2, by decide, cN_depths_ok⟩
  | jj + 2 => fun h1 _ => by cases jj <;> cases h1

set_option maxRecDepth 20000 in
theorem xN_day {g0 : mv_G} {res : List mv_V × H2} (o0 : Nat) (h : H2) (hh : fN_day o0 h = some res) : mv_X vw2 mdN_day 6 0 0 none g0 res 0 [(0, Sum.inr (8, o0))] [] h 0 0 := by
  refine mv_blkX ax2 (GN_day) (by decide) kN_day (fun pc lv st h ce sl hh => ?_) ((eN_day  o0 h).trans hh)
  cases hh

theorem mN_day (o0 : Nat) (h : H2) (vs : List mv_V) (h' : H2) (hh : fN_day o0 h = some (vs, h')) : mv_Met vw2 6 0 0 mdN_day [Sum.inr (8, o0)] h vs h' :=
  mv_Met_of (by decide +kernel) (Nat.le_of_ble_eq_true rfl) (xN_day o0 h hh)
set_option maxRecDepth 100000 in
theorem kN_luck : mv_tok mdN_luck nN_luck tN_luck = true := by decide +kernel
def cN_aDayG_N_luck (F1 : Nat → H2 → O2) : List mv_V → H2 → (List mv_V → H2 → O2) → O2 := fun as h k => match as with
  | [.inr (t0, o0)] => mv_gd (Nat.beq t0 8) <| mv_rV (F1 o0 h) fun h => k [] h
  | _ => none
def cN_byDrawsG_N_luck (F2 : Nat → H2 → O2) : List mv_V → H2 → (List mv_V → H2 → O2) → O2 := fun as h k => match as with
  | [.inr (t0, o0)] => mv_gd (Nat.beq t0 8) <| mv_rV (F2 o0 h) fun h => k [] h
  | _ => none
def cN_depthsG_N_luck (F3 : Nat → H2 → O2) : List mv_V → H2 → (List mv_V → H2 → O2) → O2 := fun as h k => match as with
  | [.inr (t0, o0)] => mv_gd (Nat.beq t0 8) <| mv_rI (F3 o0 h) fun x h => k [.inl (.int x)] h
  | _ => none
def cN_inG_N_luck (F4 : Int64 → Int64 → Int64 → H2 → O2) : List mv_V → H2 → (List mv_V → H2 → O2) → O2 := fun as h k => match as with
  | [.inl (.long w0), .inl (.long w2), .inl (.long w4)] => mv_rI (F4 w0 w2 w4 h) fun x h => k [.inl (.int x)] h
  | _ => none
def cN_laysBackG_N_luck (F5 : Nat → H2 → O2) : List mv_V → H2 → (List mv_V → H2 → O2) → O2 := fun as h k => match as with
  | [.inr (t0, o0)] => mv_gd (Nat.beq t0 8) <| mv_rV (F5 o0 h) fun h => k [] h
  | _ => none
def cN_lendsG_N_luck (F6 : Nat → H2 → O2) : List mv_V → H2 → (List mv_V → H2 → O2) → O2 := fun as h k => match as with
  | [.inr (t0, o0)] => mv_gd (Nat.beq t0 8) <| mv_rV (F6 o0 h) fun h => k [] h
  | _ => none
set_option maxRecDepth 100000 in
set_option maxHeartbeats 1000000 in
theorem eN_luck_b44_g (F1 : Nat → H2 → O2) (F2 : Nat → H2 → O2) (F3 : Nat → H2 → O2) (F4 : Int64 → Int64 → Int64 → H2 → O2) (F5 : Nat → H2 → O2) (F6 : Nat → H2 → O2) (q44 : Nat → Int32 → Int32 → Int32 → Int32 → Int32 → H2 → O2) (o0 : Nat) (v1 : Int32) (v2 : Int32) (v3 : Int32) (v4 : Int32) (v5 : Int32) (h : H2) : mv_blk rI2 rR2 ln2 wI2 wR2 nw2 cp2 bod none tN_luck [((0, 0), cN_inG_N_luck F4), ((0, 0), cN_lendsG_N_luck F6), ((0, 0), cN_aDayG_N_luck F1), ((0, 0), cN_depthsG_N_luck F3), ((0, 0), cN_laysBackG_N_luck F5), ((0, 0), cN_byDrawsG_N_luck F2)] 0 0 [44] (fun pc lv st h ce sl => mv_gd (Nat.beq ce 0 && Nat.beq sl 0) (cond (Nat.beq pc 44) (mv_gR 0 8 lv fun o0 => mv_gI 1 lv fun v1 => mv_gI 2 lv fun v2 => mv_gI 3 lv fun v3 => mv_gI 4 lv fun v4 => mv_gI 5 lv fun v5 => mv_sE st (q44 o0 v1 v2 v3 v4 v5 h)) (none))) 400 (mv_seek 44 tN_luck) [(0, Sum.inr (8, o0)), (1, Sum.inl (Value.int v1)), (2, Sum.inl (Value.int v2)), (3, Sum.inl (Value.int v3)), (4, Sum.inl (Value.int v4)), (5, Sum.inl (Value.int v5))] [] h 0 0 = (
  if v1 ≤ v5 then (
    some ([Sum.inl (Value.int v4)], h))
  else
  mv_gd (mv_inb (nI 5) 69) <|
  mv_bh (wI2 h 902 o0 (nI 5).toNatClampNeg v3) fun h1 =>
  mv_rV (F2 o0 h1) fun h2 =>
  mv_gd (mv_inb (nI 5) 69) <|
  mv_bi (rI2 h2 902 o0 (nI 5).toNatClampNeg) fun x3 =>
  mv_rI (F3 o0 h2) fun r5 h4 =>
  if r5 ≤ v2 then (
    mv_bi (v4 + (nI 0)) fun x6 =>
    mv_rV (F5 o0 h4) fun h7 =>
    mv_bi (v5 + (nI 1)) fun x8 =>
    q44 o0 v1 v2 x3 x6 x8 h7)
  else
  mv_bi (v4 + (nI 1)) fun x9 =>
  mv_rV (F5 o0 h4) fun h10 =>
  mv_bi (v5 + (nI 1)) fun x11 =>
  q44 o0 v1 v2 x3 x9 x11 h10) := rfl
theorem eN_luck_b44 (q44 : Nat → Int32 → Int32 → Int32 → Int32 → Int32 → H2 → O2) (o0 : Nat) (v1 : Int32) (v2 : Int32) (v3 : Int32) (v4 : Int32) (v5 : Int32) (h : H2) : mv_blk rI2 rR2 ln2 wI2 wR2 nw2 cp2 bod none tN_luck gN_luck 0 0 [44] (fun pc lv st h ce sl => mv_gd (Nat.beq ce 0 && Nat.beq sl 0) (cond (Nat.beq pc 44) (mv_gR 0 8 lv fun o0 => mv_gI 1 lv fun v1 => mv_gI 2 lv fun v2 => mv_gI 3 lv fun v3 => mv_gI 4 lv fun v4 => mv_gI 5 lv fun v5 => mv_sE st (q44 o0 v1 v2 v3 v4 v5 h)) (none))) 400 (mv_seek 44 tN_luck) [(0, Sum.inr (8, o0)), (1, Sum.inl (Value.int v1)), (2, Sum.inl (Value.int v2)), (3, Sum.inl (Value.int v3)), (4, Sum.inl (Value.int v4)), (5, Sum.inl (Value.int v5))] [] h 0 0 = (
  if v1 ≤ v5 then (
    some ([Sum.inl (Value.int v4)], h))
  else
  mv_gd (mv_inb (nI 5) 69) <|
  mv_bh (wI2 h 902 o0 (nI 5).toNatClampNeg v3) fun h1 =>
  mv_rV (fN_byDraws o0 h1) fun h2 =>
  mv_gd (mv_inb (nI 5) 69) <|
  mv_bi (rI2 h2 902 o0 (nI 5).toNatClampNeg) fun x3 =>
  mv_rI (fN_depths o0 h2) fun r5 h4 =>
  if r5 ≤ v2 then (
    mv_bi (v4 + (nI 0)) fun x6 =>
    mv_rV (fN_laysBack o0 h4) fun h7 =>
    mv_bi (v5 + (nI 1)) fun x8 =>
    q44 o0 v1 v2 x3 x6 x8 h7)
  else
  mv_bi (v4 + (nI 1)) fun x9 =>
  mv_rV (fN_laysBack o0 h4) fun h10 =>
  mv_bi (v5 + (nI 1)) fun x11 =>
  q44 o0 v1 v2 x3 x9 x11 h10) := eN_luck_b44_g fN_aDay fN_byDraws fN_depths fN_in fN_laysBack fN_lends q44 o0 v1 v2 v3 v4 v5 h
set_option maxRecDepth 100000 in
set_option maxHeartbeats 1000000 in
theorem eN_luck_g (F1 : Nat → H2 → O2) (F2 : Nat → H2 → O2) (F3 : Nat → H2 → O2) (F4 : Int64 → Int64 → Int64 → H2 → O2) (F5 : Nat → H2 → O2) (F6 : Nat → H2 → O2) (q44 : Nat → Int32 → Int32 → Int32 → Int32 → Int32 → H2 → O2) (o0 : Nat) (v1 : Int32) (h : H2) : mv_blk rI2 rR2 ln2 wI2 wR2 nw2 cp2 bod none tN_luck [((0, 0), cN_inG_N_luck F4), ((0, 0), cN_lendsG_N_luck F6), ((0, 0), cN_aDayG_N_luck F1), ((0, 0), cN_depthsG_N_luck F3), ((0, 0), cN_laysBackG_N_luck F5), ((0, 0), cN_byDrawsG_N_luck F2)] 0 0 [44] (fun pc lv st h ce sl => mv_gd (Nat.beq ce 0 && Nat.beq sl 0) (cond (Nat.beq pc 44) (mv_gR 0 8 lv fun o0 => mv_gI 1 lv fun v1 => mv_gI 2 lv fun v2 => mv_gI 3 lv fun v3 => mv_gI 4 lv fun v4 => mv_gI 5 lv fun v5 => mv_sE st (q44 o0 v1 v2 v3 v4 v5 h)) (none))) 400 (mv_seek 0 tN_luck) [(0, Sum.inr (8, o0)), (1, Sum.inl (Value.int v1))] [] h 0 0 = (
  mv_rI (F4 v1.toInt64 (lN 1) (lN 30) h) fun r2 h1 =>
  if r2 = 0 then (
    some ([Sum.inl (Value.int (-(nI 1)))], h1))
  else
  mv_rV (F6 o0 h1) fun h3 =>
  mv_rV (F1 o0 h3) fun h4 =>
  mv_rI (F3 o0 h4) fun r6 h5 =>
  mv_bi r6 fun x7 =>
  mv_rV (F5 o0 h5) fun h8 =>
  mv_gd (mv_inb (nI 5) 69) <|
  mv_bi (rI2 h8 902 o0 (nI 5).toNatClampNeg) fun x9 =>
  mv_bi (nI 0) fun x10 =>
  mv_bi (nI 0) fun x11 =>
  q44 o0 v1 x7 x9 x10 x11 h8) := rfl
theorem eN_luck (q44 : Nat → Int32 → Int32 → Int32 → Int32 → Int32 → H2 → O2) (o0 : Nat) (v1 : Int32) (h : H2) : mv_blk rI2 rR2 ln2 wI2 wR2 nw2 cp2 bod none tN_luck gN_luck 0 0 [44] (fun pc lv st h ce sl => mv_gd (Nat.beq ce 0 && Nat.beq sl 0) (cond (Nat.beq pc 44) (mv_gR 0 8 lv fun o0 => mv_gI 1 lv fun v1 => mv_gI 2 lv fun v2 => mv_gI 3 lv fun v3 => mv_gI 4 lv fun v4 => mv_gI 5 lv fun v5 => mv_sE st (q44 o0 v1 v2 v3 v4 v5 h)) (none))) 400 (mv_seek 0 tN_luck) [(0, Sum.inr (8, o0)), (1, Sum.inl (Value.int v1))] [] h 0 0 = (
  mv_rI (fN_in v1.toInt64 (lN 1) (lN 30) h) fun r2 h1 =>
  if r2 = 0 then (
    some ([Sum.inl (Value.int (-(nI 1)))], h1))
  else
  mv_rV (fN_lends o0 h1) fun h3 =>
  mv_rV (fN_aDay o0 h3) fun h4 =>
  mv_rI (fN_depths o0 h4) fun r6 h5 =>
  mv_bi r6 fun x7 =>
  mv_rV (fN_laysBack o0 h5) fun h8 =>
  mv_gd (mv_inb (nI 5) 69) <|
  mv_bi (rI2 h8 902 o0 (nI 5).toNatClampNeg) fun x9 =>
  mv_bi (nI 0) fun x10 =>
  mv_bi (nI 0) fun x11 =>
  q44 o0 v1 x7 x9 x10 x11 h8) := eN_luck_g fN_aDay fN_byDraws fN_depths fN_in fN_laysBack fN_lends q44 o0 v1 h
theorem GN_luck : ∀ (j : Nat) (C : mv_C H2) (md' : mv_MD × Bool), mv_nth j gN_luck = some C → mv_nth j nN_luck = some md' → ∃ n', n' + 1 ≤ 6 ∧ mv_Cal vw2 n' md' C := fun j C md' => match j with
  | 0 => fun h1 h2 => by
    obtain rfl := Option.some.inj h1
    obtain rfl := Option.some.inj h2
    exact ⟨1, by decide, cN_in_ok⟩
  | 1 => fun h1 h2 => by
    obtain rfl := Option.some.inj h1
    obtain rfl := Option.some.inj h2
    exact ⟨2, by decide, cN_lends_ok⟩
  | 2 => fun h1 h2 => by
    obtain rfl := Option.some.inj h1
    obtain rfl := Option.some.inj h2
    exact ⟨4, by decide, cN_aDay_ok⟩
  | 3 => fun h1 h2 => by
    obtain rfl := Option.some.inj h1
    obtain rfl := Option.some.inj h2
    exact ⟨2, by decide, cN_depths_ok⟩
  | 4 => fun h1 h2 => by
    obtain rfl := Option.some.inj h1
    obtain rfl := Option.some.inj h2
    exact ⟨2, by decide, cN_laysBack_ok⟩
  | 5 => fun h1 h2 => by
    obtain rfl := Option.some.inj h1
    obtain rfl := Option.some.inj h2
    exact ⟨5, by decide, cN_byDraws_ok⟩
  | jj + 6 => fun h1 _ => by cases jj <;> cases h1

set_option maxRecDepth 20000 in
theorem xN_luck_b44 {g0 : mv_G} {res : List mv_V × H2} : ∀ (n : Nat) (o0 : Nat) (v1 : Int32) (v2 : Int32) (v3 : Int32) (v4 : Int32) (v5 : Int32) (h : H2), fN_luck_b44 n o0 v1 v2 v3 v4 v5 h = some res → mv_X vw2 mdN_luck 6 0 0 none g0 res 44 [(0, Sum.inr (8, o0)), (1, Sum.inl (Value.int v1)), (2, Sum.inl (Value.int v2)), (3, Sum.inl (Value.int v3)), (4, Sum.inl (Value.int v4)), (5, Sum.inl (Value.int v5))] [] h 0 0 := by
  intro n
  induction n with
  | zero => intro o0 v1 v2 v3 v4 v5 h hh; cases hh
  | succ n ih =>
    intro o0 v1 v2 v3 v4 v5 h hh
    refine mv_blkX ax2 (GN_luck) (by decide) kN_luck (fun pc lv st h ce sl hh => ?_) ((eN_luck_b44 (fN_luck_b44 n) o0 v1 v2 v3 v4 v5 h).trans hh)
    obtain ⟨hg, hh1⟩ := mv_gd_some hh
    obtain ⟨rfl, rfl⟩ := mv_z2 hg
    rcases mv_cond_some hh1 with ⟨hb, hh2⟩ | ⟨hb, hh3⟩
    · obtain rfl := Nat.eq_of_beq_eq_true hb
      obtain ⟨o0, m0, hh4⟩ := mv_gR_some hh2
      obtain ⟨v1, m1, hh5⟩ := mv_gI_some hh4
      obtain ⟨v2, m2, hh6⟩ := mv_gI_some hh5
      obtain ⟨v3, m3, hh7⟩ := mv_gI_some hh6
      obtain ⟨v4, m4, hh8⟩ := mv_gI_some hh7
      obtain ⟨v5, m5, hh9⟩ := mv_gI_some hh8
      obtain ⟨rfl, hh10⟩ := mv_sE_some hh9
      exact (ih o0 v1 v2 v3 v4 v5 h hh10).sub (List.forall_mem_cons.mpr ⟨m0, (List.forall_mem_cons.mpr ⟨m1, (List.forall_mem_cons.mpr ⟨m2, (List.forall_mem_cons.mpr ⟨m3, (List.forall_mem_cons.mpr ⟨m4, (List.forall_mem_cons.mpr ⟨m5, (fun q hq => by cases hq)⟩)⟩)⟩)⟩)⟩)⟩)
    cases hh3

set_option maxRecDepth 20000 in
theorem xN_luck {g0 : mv_G} {res : List mv_V × H2} (o0 : Nat) (v1 : Int32) (h : H2) (hh : fN_luck o0 v1 h = some res) : mv_X vw2 mdN_luck 6 0 0 none g0 res 0 [(0, Sum.inr (8, o0)), (1, Sum.inl (Value.int v1))] [] h 0 0 := by
  refine mv_blkX ax2 (GN_luck) (by decide) kN_luck (fun pc lv st h ce sl hh => ?_) ((eN_luck (fN_luck_b44 1000) o0 v1 h).trans hh)
  obtain ⟨hg, hh1⟩ := mv_gd_some hh
  obtain ⟨rfl, rfl⟩ := mv_z2 hg
  rcases mv_cond_some hh1 with ⟨hb, hh2⟩ | ⟨hb, hh3⟩
  · obtain rfl := Nat.eq_of_beq_eq_true hb
    obtain ⟨o0, m0, hh4⟩ := mv_gR_some hh2
    obtain ⟨v1, m1, hh5⟩ := mv_gI_some hh4
    obtain ⟨v2, m2, hh6⟩ := mv_gI_some hh5
    obtain ⟨v3, m3, hh7⟩ := mv_gI_some hh6
    obtain ⟨v4, m4, hh8⟩ := mv_gI_some hh7
    obtain ⟨v5, m5, hh9⟩ := mv_gI_some hh8
    obtain ⟨rfl, hh10⟩ := mv_sE_some hh9
    exact (xN_luck_b44 1000 o0 v1 v2 v3 v4 v5 h hh10).sub (List.forall_mem_cons.mpr ⟨m0, (List.forall_mem_cons.mpr ⟨m1, (List.forall_mem_cons.mpr ⟨m2, (List.forall_mem_cons.mpr ⟨m3, (List.forall_mem_cons.mpr ⟨m4, (List.forall_mem_cons.mpr ⟨m5, (fun q hq => by cases hq)⟩)⟩)⟩)⟩)⟩)⟩)
  cases hh3

theorem mN_luck (o0 : Nat) (v1 : Int32) (h : H2) (vs : List mv_V) (h' : H2) (hh : fN_luck o0 v1 h = some (vs, h')) : mv_Met vw2 6 0 0 mdN_luck [Sum.inr (8, o0), Sum.inl (Value.int v1)] h vs h' :=
  mv_Met_of (by decide +kernel) (Nat.le_of_ble_eq_true rfl) (xN_luck o0 v1 h hh)
set_option maxRecDepth 100000 in
theorem kN_hungSet : mv_tok mdN_hungSet nN_hungSet tN_hungSet = true := by decide +kernel
def cN_itsG_N_hungSet (F1 : Nat → Int32 → Int32 → H2 → O2) : List mv_V → H2 → (List mv_V → H2 → O2) → O2 := fun as h k => match as with
  | [.inr (t0, o0), .inl (.int v1), .inl (.int v2)] => mv_gd (Nat.beq t0 8) <| mv_rI (F1 o0 v1 v2 h) fun x h => k [.inl (.int x)] h
  | _ => none
set_option maxRecDepth 100000 in
set_option maxHeartbeats 1000000 in
theorem eN_hungSet_b4_g (F1 : Nat → Int32 → Int32 → H2 → O2) (q4 : Nat → Int32 → Int32 → H2 → O2) (o0 : Nat) (v1 : Int32) (v2 : Int32) (h : H2) : mv_blk rI2 rR2 ln2 wI2 wR2 nw2 cp2 bod none tN_hungSet [((0, 0), cN_itsG_N_hungSet F1)] 0 0 [4] (fun pc lv st h ce sl => mv_gd (Nat.beq ce 0 && Nat.beq sl 0) (cond (Nat.beq pc 4) (mv_gR 0 8 lv fun o0 => mv_gI 1 lv fun v1 => mv_gI 2 lv fun v2 => mv_sE st (q4 o0 v1 v2 h)) (none))) 400 (mv_seek 4 tN_hungSet) [(0, Sum.inr (8, o0)), (1, Sum.inl (Value.int v1)), (2, Sum.inl (Value.int v2))] [] h 0 0 = (
  mv_gd (mv_inb (nI 6) 69) <|
  if (rI2 h 902 o0 (nI 6).toNatClampNeg) ≤ v2 then (
    some ([Sum.inl (Value.int v1)], h))
  else
  mv_rI (F1 o0 v2 (nI 3) h) fun r2 h1 =>
  mv_bi (v1 ||| (r2 <<< (v2 &&& 31))) fun x3 =>
  mv_bi (v2 + (nI 1)) fun x4 =>
  q4 o0 x3 x4 h1) := rfl
theorem eN_hungSet_b4 (q4 : Nat → Int32 → Int32 → H2 → O2) (o0 : Nat) (v1 : Int32) (v2 : Int32) (h : H2) : mv_blk rI2 rR2 ln2 wI2 wR2 nw2 cp2 bod none tN_hungSet gN_hungSet 0 0 [4] (fun pc lv st h ce sl => mv_gd (Nat.beq ce 0 && Nat.beq sl 0) (cond (Nat.beq pc 4) (mv_gR 0 8 lv fun o0 => mv_gI 1 lv fun v1 => mv_gI 2 lv fun v2 => mv_sE st (q4 o0 v1 v2 h)) (none))) 400 (mv_seek 4 tN_hungSet) [(0, Sum.inr (8, o0)), (1, Sum.inl (Value.int v1)), (2, Sum.inl (Value.int v2))] [] h 0 0 = (
  mv_gd (mv_inb (nI 6) 69) <|
  if (rI2 h 902 o0 (nI 6).toNatClampNeg) ≤ v2 then (
    some ([Sum.inl (Value.int v1)], h))
  else
  mv_rI (fN_its o0 v2 (nI 3) h) fun r2 h1 =>
  mv_bi (v1 ||| (r2 <<< (v2 &&& 31))) fun x3 =>
  mv_bi (v2 + (nI 1)) fun x4 =>
  q4 o0 x3 x4 h1) := eN_hungSet_b4_g fN_its q4 o0 v1 v2 h
set_option maxRecDepth 100000 in
set_option maxHeartbeats 1000000 in
theorem eN_hungSet_g (F1 : Nat → Int32 → Int32 → H2 → O2) (q4 : Nat → Int32 → Int32 → H2 → O2) (o0 : Nat) (h : H2) : mv_blk rI2 rR2 ln2 wI2 wR2 nw2 cp2 bod none tN_hungSet [((0, 0), cN_itsG_N_hungSet F1)] 0 0 [4] (fun pc lv st h ce sl => mv_gd (Nat.beq ce 0 && Nat.beq sl 0) (cond (Nat.beq pc 4) (mv_gR 0 8 lv fun o0 => mv_gI 1 lv fun v1 => mv_gI 2 lv fun v2 => mv_sE st (q4 o0 v1 v2 h)) (none))) 400 (mv_seek 0 tN_hungSet) [(0, Sum.inr (8, o0))] [] h 0 0 = (
  mv_bi (nI 0) fun x1 =>
  mv_bi (nI 0) fun x2 =>
  q4 o0 x1 x2 h) := rfl
theorem eN_hungSet (q4 : Nat → Int32 → Int32 → H2 → O2) (o0 : Nat) (h : H2) : mv_blk rI2 rR2 ln2 wI2 wR2 nw2 cp2 bod none tN_hungSet gN_hungSet 0 0 [4] (fun pc lv st h ce sl => mv_gd (Nat.beq ce 0 && Nat.beq sl 0) (cond (Nat.beq pc 4) (mv_gR 0 8 lv fun o0 => mv_gI 1 lv fun v1 => mv_gI 2 lv fun v2 => mv_sE st (q4 o0 v1 v2 h)) (none))) 400 (mv_seek 0 tN_hungSet) [(0, Sum.inr (8, o0))] [] h 0 0 = (
  mv_bi (nI 0) fun x1 =>
  mv_bi (nI 0) fun x2 =>
  q4 o0 x1 x2 h) := eN_hungSet_g fN_its q4 o0 h
theorem GN_hungSet : ∀ (j : Nat) (C : mv_C H2) (md' : mv_MD × Bool), mv_nth j gN_hungSet = some C → mv_nth j nN_hungSet = some md' → ∃ n', n' + 1 ≤ 2 ∧ mv_Cal vw2 n' md' C := fun j C md' => match j with
  | 0 => fun h1 h2 => by
    obtain rfl := Option.some.inj h1
    obtain rfl := Option.some.inj h2
    exact ⟨1, by decide, cN_its_ok⟩
  | jj + 1 => fun h1 _ => by cases jj <;> cases h1

set_option maxRecDepth 20000 in
theorem xN_hungSet_b4 {g0 : mv_G} {res : List mv_V × H2} : ∀ (n : Nat) (o0 : Nat) (v1 : Int32) (v2 : Int32) (h : H2), fN_hungSet_b4 n o0 v1 v2 h = some res → mv_X vw2 mdN_hungSet 2 0 0 none g0 res 4 [(0, Sum.inr (8, o0)), (1, Sum.inl (Value.int v1)), (2, Sum.inl (Value.int v2))] [] h 0 0 := by
  intro n
  induction n with
  | zero => intro o0 v1 v2 h hh; cases hh
  | succ n ih =>
    intro o0 v1 v2 h hh
    refine mv_blkX ax2 (GN_hungSet) (by decide) kN_hungSet (fun pc lv st h ce sl hh => ?_) ((eN_hungSet_b4 (fN_hungSet_b4 n) o0 v1 v2 h).trans hh)
    obtain ⟨hg, hh1⟩ := mv_gd_some hh
    obtain ⟨rfl, rfl⟩ := mv_z2 hg
    rcases mv_cond_some hh1 with ⟨hb, hh2⟩ | ⟨hb, hh3⟩
    · obtain rfl := Nat.eq_of_beq_eq_true hb
      obtain ⟨o0, m0, hh4⟩ := mv_gR_some hh2
      obtain ⟨v1, m1, hh5⟩ := mv_gI_some hh4
      obtain ⟨v2, m2, hh6⟩ := mv_gI_some hh5
      obtain ⟨rfl, hh7⟩ := mv_sE_some hh6
      exact (ih o0 v1 v2 h hh7).sub (List.forall_mem_cons.mpr ⟨m0, (List.forall_mem_cons.mpr ⟨m1, (List.forall_mem_cons.mpr ⟨m2, (fun q hq => by cases hq)⟩)⟩)⟩)
    cases hh3

set_option maxRecDepth 20000 in
theorem xN_hungSet {g0 : mv_G} {res : List mv_V × H2} (o0 : Nat) (h : H2) (hh : fN_hungSet o0 h = some res) : mv_X vw2 mdN_hungSet 2 0 0 none g0 res 0 [(0, Sum.inr (8, o0))] [] h 0 0 := by
  refine mv_blkX ax2 (GN_hungSet) (by decide) kN_hungSet (fun pc lv st h ce sl hh => ?_) ((eN_hungSet (fN_hungSet_b4 1000) o0 h).trans hh)
  obtain ⟨hg, hh1⟩ := mv_gd_some hh
  obtain ⟨rfl, rfl⟩ := mv_z2 hg
  rcases mv_cond_some hh1 with ⟨hb, hh2⟩ | ⟨hb, hh3⟩
  · obtain rfl := Nat.eq_of_beq_eq_true hb
    obtain ⟨o0, m0, hh4⟩ := mv_gR_some hh2
    obtain ⟨v1, m1, hh5⟩ := mv_gI_some hh4
    obtain ⟨v2, m2, hh6⟩ := mv_gI_some hh5
    obtain ⟨rfl, hh7⟩ := mv_sE_some hh6
    exact (xN_hungSet_b4 1000 o0 v1 v2 h hh7).sub (List.forall_mem_cons.mpr ⟨m0, (List.forall_mem_cons.mpr ⟨m1, (List.forall_mem_cons.mpr ⟨m2, (fun q hq => by cases hq)⟩)⟩)⟩)
  cases hh3

theorem mN_hungSet (o0 : Nat) (h : H2) (vs : List mv_V) (h' : H2) (hh : fN_hungSet o0 h = some (vs, h')) : mv_Met vw2 2 0 0 mdN_hungSet [Sum.inr (8, o0)] h vs h' :=
  mv_Met_of (by decide +kernel) (Nat.le_of_ble_eq_true rfl) (xN_hungSet o0 h hh)
theorem cN_hungSet_ok : mv_Cal vw2 2 (mdN_hungSet, true) ((0, 0), cN_hungSet) := by
  intro as h k res hh
  change cN_hungSet as h k = some res at hh
  unfold cN_hungSet at hh
  split at hh
  · obtain ⟨hg0, ha0⟩ := mv_gd_some hh
    obtain rfl := Nat.eq_of_beq_eq_true hg0
    obtain ⟨x, h', h1, h9⟩ := mv_rI_some ha0
    exact ⟨_, _, h9, (by first | decide | exact Nat.le_refl _ | exact Nat.zero_le _), fun _ => ⟨_, _, _, rfl, Or.inl ⟨by decide, rfl⟩⟩, (mN_hungSet _ h _ _ h1)⟩
  · cases hh

set_option maxRecDepth 100000 in
theorem kN_aboutSet : mv_tok mdN_aboutSet nN_aboutSet tN_aboutSet = true := by decide +kernel
def cN_itsG_N_aboutSet (F1 : Nat → Int32 → Int32 → H2 → O2) : List mv_V → H2 → (List mv_V → H2 → O2) → O2 := fun as h k => match as with
  | [.inr (t0, o0), .inl (.int v1), .inl (.int v2)] => mv_gd (Nat.beq t0 8) <| mv_rI (F1 o0 v1 v2 h) fun x h => k [.inl (.int x)] h
  | _ => none
set_option maxRecDepth 100000 in
set_option maxHeartbeats 1000000 in
theorem eN_aboutSet_b4_g (F1 : Nat → Int32 → Int32 → H2 → O2) (q4 : Nat → Int32 → Int32 → H2 → O2) (o0 : Nat) (v1 : Int32) (v2 : Int32) (h : H2) : mv_blk rI2 rR2 ln2 wI2 wR2 nw2 cp2 bod none tN_aboutSet [((0, 0), cN_itsG_N_aboutSet F1)] 0 0 [4] (fun pc lv st h ce sl => mv_gd (Nat.beq ce 0 && Nat.beq sl 0) (cond (Nat.beq pc 4) (mv_gR 0 8 lv fun o0 => mv_gI 1 lv fun v1 => mv_gI 2 lv fun v2 => mv_sE st (q4 o0 v1 v2 h)) (none))) 400 (mv_seek 4 tN_aboutSet) [(0, Sum.inr (8, o0)), (1, Sum.inl (Value.int v1)), (2, Sum.inl (Value.int v2))] [] h 0 0 = (
  mv_gd (mv_inb (nI 6) 69) <|
  if (rI2 h 902 o0 (nI 6).toNatClampNeg) ≤ v2 then (
    some ([Sum.inl (Value.int v1)], h))
  else
  mv_rI (F1 o0 v2 (nI 1) h) fun r2 h1 =>
  if r2 < 0 then (
    mv_bi (v1 ||| (nI 0)) fun x3 =>
    mv_bi (v2 + (nI 1)) fun x4 =>
    q4 o0 x3 x4 h1)
  else
  mv_bi (v1 ||| ((nI 1) <<< (v2 &&& 31))) fun x5 =>
  mv_bi (v2 + (nI 1)) fun x6 =>
  q4 o0 x5 x6 h1) := rfl
theorem eN_aboutSet_b4 (q4 : Nat → Int32 → Int32 → H2 → O2) (o0 : Nat) (v1 : Int32) (v2 : Int32) (h : H2) : mv_blk rI2 rR2 ln2 wI2 wR2 nw2 cp2 bod none tN_aboutSet gN_aboutSet 0 0 [4] (fun pc lv st h ce sl => mv_gd (Nat.beq ce 0 && Nat.beq sl 0) (cond (Nat.beq pc 4) (mv_gR 0 8 lv fun o0 => mv_gI 1 lv fun v1 => mv_gI 2 lv fun v2 => mv_sE st (q4 o0 v1 v2 h)) (none))) 400 (mv_seek 4 tN_aboutSet) [(0, Sum.inr (8, o0)), (1, Sum.inl (Value.int v1)), (2, Sum.inl (Value.int v2))] [] h 0 0 = (
  mv_gd (mv_inb (nI 6) 69) <|
  if (rI2 h 902 o0 (nI 6).toNatClampNeg) ≤ v2 then (
    some ([Sum.inl (Value.int v1)], h))
  else
  mv_rI (fN_its o0 v2 (nI 1) h) fun r2 h1 =>
  if r2 < 0 then (
    mv_bi (v1 ||| (nI 0)) fun x3 =>
    mv_bi (v2 + (nI 1)) fun x4 =>
    q4 o0 x3 x4 h1)
  else
  mv_bi (v1 ||| ((nI 1) <<< (v2 &&& 31))) fun x5 =>
  mv_bi (v2 + (nI 1)) fun x6 =>
  q4 o0 x5 x6 h1) := eN_aboutSet_b4_g fN_its q4 o0 v1 v2 h
set_option maxRecDepth 100000 in
set_option maxHeartbeats 1000000 in
theorem eN_aboutSet_g (F1 : Nat → Int32 → Int32 → H2 → O2) (q4 : Nat → Int32 → Int32 → H2 → O2) (o0 : Nat) (h : H2) : mv_blk rI2 rR2 ln2 wI2 wR2 nw2 cp2 bod none tN_aboutSet [((0, 0), cN_itsG_N_aboutSet F1)] 0 0 [4] (fun pc lv st h ce sl => mv_gd (Nat.beq ce 0 && Nat.beq sl 0) (cond (Nat.beq pc 4) (mv_gR 0 8 lv fun o0 => mv_gI 1 lv fun v1 => mv_gI 2 lv fun v2 => mv_sE st (q4 o0 v1 v2 h)) (none))) 400 (mv_seek 0 tN_aboutSet) [(0, Sum.inr (8, o0))] [] h 0 0 = (
  mv_bi (nI 0) fun x1 =>
  mv_bi (nI 0) fun x2 =>
  q4 o0 x1 x2 h) := rfl
theorem eN_aboutSet (q4 : Nat → Int32 → Int32 → H2 → O2) (o0 : Nat) (h : H2) : mv_blk rI2 rR2 ln2 wI2 wR2 nw2 cp2 bod none tN_aboutSet gN_aboutSet 0 0 [4] (fun pc lv st h ce sl => mv_gd (Nat.beq ce 0 && Nat.beq sl 0) (cond (Nat.beq pc 4) (mv_gR 0 8 lv fun o0 => mv_gI 1 lv fun v1 => mv_gI 2 lv fun v2 => mv_sE st (q4 o0 v1 v2 h)) (none))) 400 (mv_seek 0 tN_aboutSet) [(0, Sum.inr (8, o0))] [] h 0 0 = (
  mv_bi (nI 0) fun x1 =>
  mv_bi (nI 0) fun x2 =>
  q4 o0 x1 x2 h) := eN_aboutSet_g fN_its q4 o0 h
theorem GN_aboutSet : ∀ (j : Nat) (C : mv_C H2) (md' : mv_MD × Bool), mv_nth j gN_aboutSet = some C → mv_nth j nN_aboutSet = some md' → ∃ n', n' + 1 ≤ 2 ∧ mv_Cal vw2 n' md' C := fun j C md' => match j with
  | 0 => fun h1 h2 => by
    obtain rfl := Option.some.inj h1
    obtain rfl := Option.some.inj h2
    exact ⟨1, by decide, cN_its_ok⟩
  | jj + 1 => fun h1 _ => by cases jj <;> cases h1

set_option maxRecDepth 20000 in
theorem xN_aboutSet_b4 {g0 : mv_G} {res : List mv_V × H2} : ∀ (n : Nat) (o0 : Nat) (v1 : Int32) (v2 : Int32) (h : H2), fN_aboutSet_b4 n o0 v1 v2 h = some res → mv_X vw2 mdN_aboutSet 2 0 0 none g0 res 4 [(0, Sum.inr (8, o0)), (1, Sum.inl (Value.int v1)), (2, Sum.inl (Value.int v2))] [] h 0 0 := by
  intro n
  induction n with
  | zero => intro o0 v1 v2 h hh; cases hh
  | succ n ih =>
    intro o0 v1 v2 h hh
    refine mv_blkX ax2 (GN_aboutSet) (by decide) kN_aboutSet (fun pc lv st h ce sl hh => ?_) ((eN_aboutSet_b4 (fN_aboutSet_b4 n) o0 v1 v2 h).trans hh)
    obtain ⟨hg, hh1⟩ := mv_gd_some hh
    obtain ⟨rfl, rfl⟩ := mv_z2 hg
    rcases mv_cond_some hh1 with ⟨hb, hh2⟩ | ⟨hb, hh3⟩
    · obtain rfl := Nat.eq_of_beq_eq_true hb
      obtain ⟨o0, m0, hh4⟩ := mv_gR_some hh2
      obtain ⟨v1, m1, hh5⟩ := mv_gI_some hh4
      obtain ⟨v2, m2, hh6⟩ := mv_gI_some hh5
      obtain ⟨rfl, hh7⟩ := mv_sE_some hh6
      exact (ih o0 v1 v2 h hh7).sub (List.forall_mem_cons.mpr ⟨m0, (List.forall_mem_cons.mpr ⟨m1, (List.forall_mem_cons.mpr ⟨m2, (fun q hq => by cases hq)⟩)⟩)⟩)
    cases hh3

set_option maxRecDepth 20000 in
theorem xN_aboutSet {g0 : mv_G} {res : List mv_V × H2} (o0 : Nat) (h : H2) (hh : fN_aboutSet o0 h = some res) : mv_X vw2 mdN_aboutSet 2 0 0 none g0 res 0 [(0, Sum.inr (8, o0))] [] h 0 0 := by
  refine mv_blkX ax2 (GN_aboutSet) (by decide) kN_aboutSet (fun pc lv st h ce sl hh => ?_) ((eN_aboutSet (fN_aboutSet_b4 1000) o0 h).trans hh)
  obtain ⟨hg, hh1⟩ := mv_gd_some hh
  obtain ⟨rfl, rfl⟩ := mv_z2 hg
  rcases mv_cond_some hh1 with ⟨hb, hh2⟩ | ⟨hb, hh3⟩
  · obtain rfl := Nat.eq_of_beq_eq_true hb
    obtain ⟨o0, m0, hh4⟩ := mv_gR_some hh2
    obtain ⟨v1, m1, hh5⟩ := mv_gI_some hh4
    obtain ⟨v2, m2, hh6⟩ := mv_gI_some hh5
    obtain ⟨rfl, hh7⟩ := mv_sE_some hh6
    exact (xN_aboutSet_b4 1000 o0 v1 v2 h hh7).sub (List.forall_mem_cons.mpr ⟨m0, (List.forall_mem_cons.mpr ⟨m1, (List.forall_mem_cons.mpr ⟨m2, (fun q hq => by cases hq)⟩)⟩)⟩)
  cases hh3

theorem mN_aboutSet (o0 : Nat) (h : H2) (vs : List mv_V) (h' : H2) (hh : fN_aboutSet o0 h = some (vs, h')) : mv_Met vw2 2 0 0 mdN_aboutSet [Sum.inr (8, o0)] h vs h' :=
  mv_Met_of (by decide +kernel) (Nat.le_of_ble_eq_true rfl) (xN_aboutSet o0 h hh)
theorem cN_aboutSet_ok : mv_Cal vw2 2 (mdN_aboutSet, true) ((0, 0), cN_aboutSet) := by
  intro as h k res hh
  change cN_aboutSet as h k = some res at hh
  unfold cN_aboutSet at hh
  split at hh
  · obtain ⟨hg0, ha0⟩ := mv_gd_some hh
    obtain rfl := Nat.eq_of_beq_eq_true hg0
    obtain ⟨x, h', h1, h9⟩ := mv_rI_some ha0
    exact ⟨_, _, h9, (by first | decide | exact Nat.le_refl _ | exact Nat.zero_le _), fun _ => ⟨_, _, _, rfl, Or.inl ⟨by decide, rfl⟩⟩, (mN_aboutSet _ h _ _ h1)⟩
  · cases hh

set_option maxRecDepth 100000 in
theorem kN_isAtOdds : mv_tok mdN_isAtOdds nN_isAtOdds tN_isAtOdds = true := by decide +kernel
def cN_itsG_N_isAtOdds (F1 : Nat → Int32 → Int32 → H2 → O2) : List mv_V → H2 → (List mv_V → H2 → O2) → O2 := fun as h k => match as with
  | [.inr (t0, o0), .inl (.int v1), .inl (.int v2)] => mv_gd (Nat.beq t0 8) <| mv_rI (F1 o0 v1 v2 h) fun x h => k [.inl (.int x)] h
  | _ => none
set_option maxRecDepth 100000 in
set_option maxHeartbeats 1000000 in
theorem eN_isAtOdds_b23_g (F1 : Nat → Int32 → Int32 → H2 → O2) (o0 : Nat) (v1 : Int32) (v2 : Int32) (vs0 : Int32) (h : H2) : mv_blk rI2 rR2 ln2 wI2 wR2 nw2 cp2 bod none tN_isAtOdds [((0, 0), cN_itsG_N_isAtOdds F1)] 0 0 [] (fun _ _ _ _ _ _ => none) 400 (mv_seek 23 tN_isAtOdds) [(0, Sum.inr (8, o0)), (1, Sum.inl (Value.int v1)), (2, Sum.inl (Value.int v2))] [Sum.inl (Value.int vs0)] h 0 0 = (
  mv_bi vs0 fun x1 =>
  if x1 = 0 then (
    mv_gd (decide (nI 0 = nI 0) || decide (nI 0 = nI 1)) <| some ([Sum.inl (Value.int (nI 0))], h))
  else
  mv_rI (F1 o0 v1 (nI 1) h) fun r3 h2 =>
  if r3 < 0 then (
    mv_gd (decide (nI 0 = nI 0) || decide (nI 0 = nI 1)) <| some ([Sum.inl (Value.int (nI 0))], h2))
  else
  mv_rI (F1 o0 v2 (nI 1) h2) fun r5 h4 =>
  if r5 < 0 then (
    mv_gd (decide (nI 0 = nI 0) || decide (nI 0 = nI 1)) <| some ([Sum.inl (Value.int (nI 0))], h4))
  else
  mv_rI (F1 o0 v1 (nI 1) h4) fun r7 h6 =>
  mv_rI (F1 o0 v2 (nI 1) h6) fun r9 h8 =>
  if r7 = r9 then (
    mv_gd (decide (nI 0 = nI 0) || decide (nI 0 = nI 1)) <| some ([Sum.inl (Value.int (nI 0))], h8))
  else
  mv_gd (decide (nI 1 = nI 0) || decide (nI 1 = nI 1)) <| some ([Sum.inl (Value.int (nI 1))], h8)) := rfl
theorem eN_isAtOdds_b23 (o0 : Nat) (v1 : Int32) (v2 : Int32) (vs0 : Int32) (h : H2) : mv_blk rI2 rR2 ln2 wI2 wR2 nw2 cp2 bod none tN_isAtOdds gN_isAtOdds 0 0 [] (fun _ _ _ _ _ _ => none) 400 (mv_seek 23 tN_isAtOdds) [(0, Sum.inr (8, o0)), (1, Sum.inl (Value.int v1)), (2, Sum.inl (Value.int v2))] [Sum.inl (Value.int vs0)] h 0 0 = (
  mv_bi vs0 fun x1 =>
  if x1 = 0 then (
    mv_gd (decide (nI 0 = nI 0) || decide (nI 0 = nI 1)) <| some ([Sum.inl (Value.int (nI 0))], h))
  else
  mv_rI (fN_its o0 v1 (nI 1) h) fun r3 h2 =>
  if r3 < 0 then (
    mv_gd (decide (nI 0 = nI 0) || decide (nI 0 = nI 1)) <| some ([Sum.inl (Value.int (nI 0))], h2))
  else
  mv_rI (fN_its o0 v2 (nI 1) h2) fun r5 h4 =>
  if r5 < 0 then (
    mv_gd (decide (nI 0 = nI 0) || decide (nI 0 = nI 1)) <| some ([Sum.inl (Value.int (nI 0))], h4))
  else
  mv_rI (fN_its o0 v1 (nI 1) h4) fun r7 h6 =>
  mv_rI (fN_its o0 v2 (nI 1) h6) fun r9 h8 =>
  if r7 = r9 then (
    mv_gd (decide (nI 0 = nI 0) || decide (nI 0 = nI 1)) <| some ([Sum.inl (Value.int (nI 0))], h8))
  else
  mv_gd (decide (nI 1 = nI 0) || decide (nI 1 = nI 1)) <| some ([Sum.inl (Value.int (nI 1))], h8)) := eN_isAtOdds_b23_g fN_its o0 v1 v2 vs0 h
set_option maxRecDepth 100000 in
set_option maxHeartbeats 1000000 in
theorem eN_isAtOdds_g (F1 : Nat → Int32 → Int32 → H2 → O2) (q23 : Nat → Int32 → Int32 → Int32 → H2 → O2) (o0 : Nat) (v1 : Int32) (v2 : Int32) (h : H2) : mv_blk rI2 rR2 ln2 wI2 wR2 nw2 cp2 bod none tN_isAtOdds [((0, 0), cN_itsG_N_isAtOdds F1)] 0 0 [23] (fun pc lv st h ce sl => mv_gd (Nat.beq ce 0 && Nat.beq sl 0) (cond (Nat.beq pc 23) (mv_gR 0 8 lv fun o0 => mv_gI 1 lv fun v1 => mv_gI 2 lv fun v2 => mv_sI st fun vs0 st => mv_sE st (q23 o0 v1 v2 vs0 h)) (none))) 400 (mv_seek 0 tN_isAtOdds) [(0, Sum.inr (8, o0)), (1, Sum.inl (Value.int v1)), (2, Sum.inl (Value.int v2))] [] h 0 0 = (
  mv_rI (F1 o0 v1 (nI 3) h) fun r2 h1 =>
  if r2 = 0 then (
    mv_rI (F1 o0 v2 (nI 3) h1) fun r4 h3 =>
    if r4 = 0 then (
      q23 o0 v1 v2 (nI 1) h3)
    else
    q23 o0 v1 v2 (nI 0) h3)
  else
  q23 o0 v1 v2 (nI 0) h1) := rfl
theorem eN_isAtOdds (q23 : Nat → Int32 → Int32 → Int32 → H2 → O2) (o0 : Nat) (v1 : Int32) (v2 : Int32) (h : H2) : mv_blk rI2 rR2 ln2 wI2 wR2 nw2 cp2 bod none tN_isAtOdds gN_isAtOdds 0 0 [23] (fun pc lv st h ce sl => mv_gd (Nat.beq ce 0 && Nat.beq sl 0) (cond (Nat.beq pc 23) (mv_gR 0 8 lv fun o0 => mv_gI 1 lv fun v1 => mv_gI 2 lv fun v2 => mv_sI st fun vs0 st => mv_sE st (q23 o0 v1 v2 vs0 h)) (none))) 400 (mv_seek 0 tN_isAtOdds) [(0, Sum.inr (8, o0)), (1, Sum.inl (Value.int v1)), (2, Sum.inl (Value.int v2))] [] h 0 0 = (
  mv_rI (fN_its o0 v1 (nI 3) h) fun r2 h1 =>
  if r2 = 0 then (
    mv_rI (fN_its o0 v2 (nI 3) h1) fun r4 h3 =>
    if r4 = 0 then (
      q23 o0 v1 v2 (nI 1) h3)
    else
    q23 o0 v1 v2 (nI 0) h3)
  else
  q23 o0 v1 v2 (nI 0) h1) := eN_isAtOdds_g fN_its q23 o0 v1 v2 h
theorem GN_isAtOdds : ∀ (j : Nat) (C : mv_C H2) (md' : mv_MD × Bool), mv_nth j gN_isAtOdds = some C → mv_nth j nN_isAtOdds = some md' → ∃ n', n' + 1 ≤ 2 ∧ mv_Cal vw2 n' md' C := fun j C md' => match j with
  | 0 => fun h1 h2 => by
    obtain rfl := Option.some.inj h1
    obtain rfl := Option.some.inj h2
    exact ⟨1, by decide, cN_its_ok⟩
  | jj + 1 => fun h1 _ => by cases jj <;> cases h1

set_option maxRecDepth 20000 in
theorem xN_isAtOdds_b23 {g0 : mv_G} {res : List mv_V × H2} (o0 : Nat) (v1 : Int32) (v2 : Int32) (vs0 : Int32) (h : H2) (hh : fN_isAtOdds_b23 o0 v1 v2 vs0 h = some res) : mv_X vw2 mdN_isAtOdds 2 0 0 none g0 res 23 [(0, Sum.inr (8, o0)), (1, Sum.inl (Value.int v1)), (2, Sum.inl (Value.int v2))] [Sum.inl (Value.int vs0)] h 0 0 := by
  refine mv_blkX ax2 (GN_isAtOdds) (by decide) kN_isAtOdds (fun pc lv st h ce sl hh => ?_) ((eN_isAtOdds_b23  o0 v1 v2 vs0 h).trans hh)
  cases hh

set_option maxRecDepth 20000 in
theorem xN_isAtOdds {g0 : mv_G} {res : List mv_V × H2} (o0 : Nat) (v1 : Int32) (v2 : Int32) (h : H2) (hh : fN_isAtOdds o0 v1 v2 h = some res) : mv_X vw2 mdN_isAtOdds 2 0 0 none g0 res 0 [(0, Sum.inr (8, o0)), (1, Sum.inl (Value.int v1)), (2, Sum.inl (Value.int v2))] [] h 0 0 := by
  refine mv_blkX ax2 (GN_isAtOdds) (by decide) kN_isAtOdds (fun pc lv st h ce sl hh => ?_) ((eN_isAtOdds (fN_isAtOdds_b23) o0 v1 v2 h).trans hh)
  obtain ⟨hg, hh1⟩ := mv_gd_some hh
  obtain ⟨rfl, rfl⟩ := mv_z2 hg
  rcases mv_cond_some hh1 with ⟨hb, hh2⟩ | ⟨hb, hh3⟩
  · obtain rfl := Nat.eq_of_beq_eq_true hb
    obtain ⟨o0, m0, hh4⟩ := mv_gR_some hh2
    obtain ⟨v1, m1, hh5⟩ := mv_gI_some hh4
    obtain ⟨v2, m2, hh6⟩ := mv_gI_some hh5
    obtain ⟨vs0, sthh7, rfl, hh7⟩ := mv_sI_some hh6
    obtain ⟨rfl, hh8⟩ := mv_sE_some hh7
    exact (xN_isAtOdds_b23  o0 v1 v2 vs0 h hh8).sub (List.forall_mem_cons.mpr ⟨m0, (List.forall_mem_cons.mpr ⟨m1, (List.forall_mem_cons.mpr ⟨m2, (fun q hq => by cases hq)⟩)⟩)⟩)
  cases hh3

theorem mN_isAtOdds (o0 : Nat) (v1 : Int32) (v2 : Int32) (h : H2) (vs : List mv_V) (h' : H2) (hh : fN_isAtOdds o0 v1 v2 h = some (vs, h')) : mv_Met vw2 2 0 0 mdN_isAtOdds [Sum.inr (8, o0), Sum.inl (Value.int v1), Sum.inl (Value.int v2)] h vs h' :=
  mv_Met_of (by decide +kernel) (Nat.le_of_ble_eq_true rfl) (xN_isAtOdds o0 v1 v2 h hh)
theorem cN_isAtOdds_ok : mv_Cal vw2 2 (mdN_isAtOdds, true) ((0, 0), cN_isAtOdds) := by
  intro as h k res hh
  change cN_isAtOdds as h k = some res at hh
  unfold cN_isAtOdds at hh
  split at hh
  · obtain ⟨hg0, ha0⟩ := mv_gd_some hh
    obtain rfl := Nat.eq_of_beq_eq_true hg0
    obtain ⟨x, h', h1, h9⟩ := mv_rI_some ha0
    exact ⟨_, _, h9, (by first | decide | exact Nat.le_refl _ | exact Nat.zero_le _), fun _ => ⟨_, _, _, rfl, Or.inl ⟨by decide, rfl⟩⟩, (mN_isAtOdds _ _ _ h _ _ h1)⟩
  · cases hh

