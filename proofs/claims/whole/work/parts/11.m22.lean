set_option maxRecDepth 100000 in
theorem kN_isSo : mv_tok mdN_isSo nN_isSo tN_isSo = true := by decide +kernel
def cN_aDayG_N_isSo (F1 : Nat → H2 → O2) : List mv_V → H2 → (List mv_V → H2 → O2) → O2 := fun as h k => match as with
  | [.inr (t0, o0)] => mv_gd (Nat.beq t0 8) <| mv_rV (F1 o0 h) fun h => k [] h
  | _ => none
def cN_itsG_N_isSo (F2 : Nat → Int32 → Int32 → H2 → O2) : List mv_V → H2 → (List mv_V → H2 → O2) → O2 := fun as h k => match as with
  | [.inr (t0, o0), .inl (.int v1), .inl (.int v2)] => mv_gd (Nat.beq t0 8) <| mv_rI (F2 o0 v1 v2 h) fun x h => k [.inl (.int x)] h
  | _ => none
def cN_laysBackG_N_isSo (F3 : Nat → H2 → O2) : List mv_V → H2 → (List mv_V → H2 → O2) → O2 := fun as h k => match as with
  | [.inr (t0, o0)] => mv_gd (Nat.beq t0 8) <| mv_rV (F3 o0 h) fun h => k [] h
  | _ => none
def cN_lendsG_N_isSo (F4 : Nat → H2 → O2) : List mv_V → H2 → (List mv_V → H2 → O2) → O2 := fun as h k => match as with
  | [.inr (t0, o0)] => mv_gd (Nat.beq t0 8) <| mv_rV (F4 o0 h) fun h => k [] h
  | _ => none
def cN_setsG_N_isSo (F5 : Nat → Int32 → Int32 → Int32 → H2 → O2) : List mv_V → H2 → (List mv_V → H2 → O2) → O2 := fun as h k => match as with
  | [.inr (t0, o0), .inl (.int v1), .inl (.int v2), .inl (.int v3)] => mv_gd (Nat.beq t0 8) <| mv_rV (F5 o0 v1 v2 v3 h) fun h => k [] h
  | _ => none
set_option maxRecDepth 100000 in
set_option maxHeartbeats 1000000 in
theorem eN_isSo_b17_g (F1 : Nat → H2 → O2) (F2 : Nat → Int32 → Int32 → H2 → O2) (F3 : Nat → H2 → O2) (F4 : Nat → H2 → O2) (F5 : Nat → Int32 → Int32 → Int32 → H2 → O2) (q17 : Nat → Int32 → Int32 → Int32 → Int32 → H2 → O2) (o0 : Nat) (v1 : Int32) (v2 : Int32) (v4 : Int32) (v5 : Int32) (h : H2) : mv_blk rI2 rR2 ln2 wI2 wR2 nw2 cp2 bod none tN_isSo [((0, 0), cN_lendsG_N_isSo F4), ((0, 0), cN_setsG_N_isSo F5), ((0, 0), cN_aDayG_N_isSo F1), ((0, 0), cN_itsG_N_isSo F2), ((0, 0), cN_laysBackG_N_isSo F3)] 0 0 [17] (fun pc lv st h ce sl => mv_gd (Nat.beq ce 0 && Nat.beq sl 0) (cond (Nat.beq pc 17) (mv_gR 0 8 lv fun o0 => mv_gI 1 lv fun v1 => mv_gI 2 lv fun v2 => mv_gI 4 lv fun v4 => mv_gI 5 lv fun v5 => mv_sE st (q17 o0 v1 v2 v4 v5 h)) (none))) 400 (mv_seek 17 tN_isSo) [(0, Sum.inr (8, o0)), (1, Sum.inl (Value.int v1)), (2, Sum.inl (Value.int v2)), (4, Sum.inl (Value.int v4)), (5, Sum.inl (Value.int v5))] [] h 0 0 = (
  mv_gd (mv_inb v1 4) <|
  if (rI2 h 914 o0 v1.toNatClampNeg) ≤ v5 then (
    mv_rV (F3 o0 h) fun h1 =>
    mv_gd (decide (v4 = nI 0) || decide (v4 = nI 1)) <| some ([Sum.inl (Value.int v4)], h1))
  else
  if v4 = 0 then (
    mv_rV (F3 o0 h) fun h2 =>
    mv_gd (decide (v4 = nI 0) || decide (v4 = nI 1)) <| some ([Sum.inl (Value.int v4)], h2))
  else
  mv_rV (F1 o0 h) fun h3 =>
  mv_gd (mv_inb (((nI 40) * v1) + v5) 160) <|
  mv_bi (rI2 h3 915 o0 (((nI 40) * v1) + v5).toNatClampNeg) fun x4 =>
  if x4 = (-(nI 1)) then (
    mv_bi (nI 1) fun x5 =>
    mv_bi (v5 + (nI 1)) fun x6 =>
    q17 o0 v1 v2 x5 x6 h3)
  else
  mv_rI (F2 o0 v2 (nI 2) h3) fun r8 h7 =>
  if x4 = r8 then (
    mv_bi (nI 1) fun x9 =>
    mv_bi (v5 + (nI 1)) fun x10 =>
    q17 o0 v1 v2 x9 x10 h7)
  else
  mv_bi (nI 0) fun x11 =>
  mv_bi (v5 + (nI 1)) fun x12 =>
  q17 o0 v1 v2 x11 x12 h7) := rfl
theorem eN_isSo_b17 (q17 : Nat → Int32 → Int32 → Int32 → Int32 → H2 → O2) (o0 : Nat) (v1 : Int32) (v2 : Int32) (v4 : Int32) (v5 : Int32) (h : H2) : mv_blk rI2 rR2 ln2 wI2 wR2 nw2 cp2 bod none tN_isSo gN_isSo 0 0 [17] (fun pc lv st h ce sl => mv_gd (Nat.beq ce 0 && Nat.beq sl 0) (cond (Nat.beq pc 17) (mv_gR 0 8 lv fun o0 => mv_gI 1 lv fun v1 => mv_gI 2 lv fun v2 => mv_gI 4 lv fun v4 => mv_gI 5 lv fun v5 => mv_sE st (q17 o0 v1 v2 v4 v5 h)) (none))) 400 (mv_seek 17 tN_isSo) [(0, Sum.inr (8, o0)), (1, Sum.inl (Value.int v1)), (2, Sum.inl (Value.int v2)), (4, Sum.inl (Value.int v4)), (5, Sum.inl (Value.int v5))] [] h 0 0 = (
  mv_gd (mv_inb v1 4) <|
  if (rI2 h 914 o0 v1.toNatClampNeg) ≤ v5 then (
    mv_rV (fN_laysBack o0 h) fun h1 =>
    mv_gd (decide (v4 = nI 0) || decide (v4 = nI 1)) <| some ([Sum.inl (Value.int v4)], h1))
  else
  if v4 = 0 then (
    mv_rV (fN_laysBack o0 h) fun h2 =>
    mv_gd (decide (v4 = nI 0) || decide (v4 = nI 1)) <| some ([Sum.inl (Value.int v4)], h2))
  else
  mv_rV (fN_aDay o0 h) fun h3 =>
  mv_gd (mv_inb (((nI 40) * v1) + v5) 160) <|
  mv_bi (rI2 h3 915 o0 (((nI 40) * v1) + v5).toNatClampNeg) fun x4 =>
  if x4 = (-(nI 1)) then (
    mv_bi (nI 1) fun x5 =>
    mv_bi (v5 + (nI 1)) fun x6 =>
    q17 o0 v1 v2 x5 x6 h3)
  else
  mv_rI (fN_its o0 v2 (nI 2) h3) fun r8 h7 =>
  if x4 = r8 then (
    mv_bi (nI 1) fun x9 =>
    mv_bi (v5 + (nI 1)) fun x10 =>
    q17 o0 v1 v2 x9 x10 h7)
  else
  mv_bi (nI 0) fun x11 =>
  mv_bi (v5 + (nI 1)) fun x12 =>
  q17 o0 v1 v2 x11 x12 h7) := eN_isSo_b17_g fN_aDay fN_its fN_laysBack fN_lends fN_sets q17 o0 v1 v2 v4 v5 h
set_option maxRecDepth 100000 in
set_option maxHeartbeats 1000000 in
theorem eN_isSo_g (F1 : Nat → H2 → O2) (F2 : Nat → Int32 → Int32 → H2 → O2) (F3 : Nat → H2 → O2) (F4 : Nat → H2 → O2) (F5 : Nat → Int32 → Int32 → Int32 → H2 → O2) (q17 : Nat → Int32 → Int32 → Int32 → Int32 → H2 → O2) (o0 : Nat) (v1 : Int32) (v2 : Int32) (v3 : Int32) (h : H2) : mv_blk rI2 rR2 ln2 wI2 wR2 nw2 cp2 bod none tN_isSo [((0, 0), cN_lendsG_N_isSo F4), ((0, 0), cN_setsG_N_isSo F5), ((0, 0), cN_aDayG_N_isSo F1), ((0, 0), cN_itsG_N_isSo F2), ((0, 0), cN_laysBackG_N_isSo F3)] 0 0 [17] (fun pc lv st h ce sl => mv_gd (Nat.beq ce 0 && Nat.beq sl 0) (cond (Nat.beq pc 17) (mv_gR 0 8 lv fun o0 => mv_gI 1 lv fun v1 => mv_gI 2 lv fun v2 => mv_gI 4 lv fun v4 => mv_gI 5 lv fun v5 => mv_sE st (q17 o0 v1 v2 v4 v5 h)) (none))) 400 (mv_seek 0 tN_isSo) [(0, Sum.inr (8, o0)), (1, Sum.inl (Value.int v1)), (2, Sum.inl (Value.int v2)), (3, Sum.inl (Value.int v3))] [] h 0 0 = (
  mv_rV (F4 o0 h) fun h1 =>
  mv_rV (F5 o0 v2 (nI 1) v3 h1) fun h2 =>
  mv_bi (nI 1) fun x3 =>
  mv_bi (nI 0) fun x4 =>
  q17 o0 v1 v2 x3 x4 h2) := rfl
theorem eN_isSo (q17 : Nat → Int32 → Int32 → Int32 → Int32 → H2 → O2) (o0 : Nat) (v1 : Int32) (v2 : Int32) (v3 : Int32) (h : H2) : mv_blk rI2 rR2 ln2 wI2 wR2 nw2 cp2 bod none tN_isSo gN_isSo 0 0 [17] (fun pc lv st h ce sl => mv_gd (Nat.beq ce 0 && Nat.beq sl 0) (cond (Nat.beq pc 17) (mv_gR 0 8 lv fun o0 => mv_gI 1 lv fun v1 => mv_gI 2 lv fun v2 => mv_gI 4 lv fun v4 => mv_gI 5 lv fun v5 => mv_sE st (q17 o0 v1 v2 v4 v5 h)) (none))) 400 (mv_seek 0 tN_isSo) [(0, Sum.inr (8, o0)), (1, Sum.inl (Value.int v1)), (2, Sum.inl (Value.int v2)), (3, Sum.inl (Value.int v3))] [] h 0 0 = (
  mv_rV (fN_lends o0 h) fun h1 =>
  mv_rV (fN_sets o0 v2 (nI 1) v3 h1) fun h2 =>
  mv_bi (nI 1) fun x3 =>
  mv_bi (nI 0) fun x4 =>
  q17 o0 v1 v2 x3 x4 h2) := eN_isSo_g fN_aDay fN_its fN_laysBack fN_lends fN_sets q17 o0 v1 v2 v3 h
theorem GN_isSo : ∀ (j : Nat) (C : mv_C H2) (md' : mv_MD × Bool), mv_nth j gN_isSo = some C → mv_nth j nN_isSo = some md' → ∃ n', n' + 1 ≤ 5 ∧ mv_Cal vw2 n' md' C := fun j C md' => match j with
  | 0 => fun h1 h2 => by
    obtain rfl := Option.some.inj h1
    obtain rfl := Option.some.inj h2
    exact ⟨2, by decide, cN_lends_ok⟩
  | 1 => fun h1 h2 => by
    obtain rfl := Option.some.inj h1
    obtain rfl := Option.some.inj h2
    exact ⟨1, by decide, cN_sets_ok⟩
  | 2 => fun h1 h2 => by
    obtain rfl := Option.some.inj h1
    obtain rfl := Option.some.inj h2
    exact ⟨4, by decide, cN_aDay_ok⟩
  | 3 => fun h1 h2 => by
    obtain rfl := Option.some.inj h1
    obtain rfl := Option.some.inj h2
    exact ⟨1, by decide, cN_its_ok⟩
  | 4 => fun h1 h2 => by
    obtain rfl := Option.some.inj h1
    obtain rfl := Option.some.inj h2
    exact ⟨2, by decide, cN_laysBack_ok⟩
  | jj + 5 => fun h1 _ => by cases jj <;> cases h1

set_option maxRecDepth 20000 in
theorem xN_isSo_b17 {g0 : mv_G} {res : List mv_V × H2} : ∀ (n : Nat) (o0 : Nat) (v1 : Int32) (v2 : Int32) (v4 : Int32) (v5 : Int32) (h : H2), fN_isSo_b17 n o0 v1 v2 v4 v5 h = some res → mv_X vw2 mdN_isSo 5 0 0 none g0 res 17 [(0, Sum.inr (8, o0)), (1, Sum.inl (Value.int v1)), (2, Sum.inl (Value.int v2)), (4, Sum.inl (Value.int v4)), (5, Sum.inl (Value.int v5))] [] h 0 0 := by
  intro n
  induction n with
  | zero => intro o0 v1 v2 v4 v5 h hh; cases hh
  | succ n ih =>
    intro o0 v1 v2 v4 v5 h hh
    refine mv_blkX ax2 (GN_isSo) (by decide) kN_isSo (fun pc lv st h ce sl hh => ?_) ((eN_isSo_b17 (fN_isSo_b17 n) o0 v1 v2 v4 v5 h).trans hh)
    obtain ⟨hg, hh1⟩ := mv_gd_some hh
    obtain ⟨rfl, rfl⟩ := mv_z2 hg
    rcases mv_cond_some hh1 with ⟨hb, hh2⟩ | ⟨hb, hh3⟩
    · obtain rfl := Nat.eq_of_beq_eq_true hb
      obtain ⟨o0, m0, hh4⟩ := mv_gR_some hh2
      obtain ⟨v1, m1, hh5⟩ := mv_gI_some hh4
      obtain ⟨v2, m2, hh6⟩ := mv_gI_some hh5
      obtain ⟨v4, m3, hh7⟩ := mv_gI_some hh6
      obtain ⟨v5, m4, hh8⟩ := mv_gI_some hh7
      obtain ⟨rfl, hh9⟩ := mv_sE_some hh8
      exact (ih o0 v1 v2 v4 v5 h hh9).sub (List.forall_mem_cons.mpr ⟨m0, (List.forall_mem_cons.mpr ⟨m1, (List.forall_mem_cons.mpr ⟨m2, (List.forall_mem_cons.mpr ⟨m3, (List.forall_mem_cons.mpr ⟨m4, (fun q hq => by cases hq)⟩)⟩)⟩)⟩)⟩)
    cases hh3

set_option maxRecDepth 20000 in
theorem xN_isSo {g0 : mv_G} {res : List mv_V × H2} (o0 : Nat) (v1 : Int32) (v2 : Int32) (v3 : Int32) (h : H2) (hh : fN_isSo o0 v1 v2 v3 h = some res) : mv_X vw2 mdN_isSo 5 0 0 none g0 res 0 [(0, Sum.inr (8, o0)), (1, Sum.inl (Value.int v1)), (2, Sum.inl (Value.int v2)), (3, Sum.inl (Value.int v3))] [] h 0 0 := by
  refine mv_blkX ax2 (GN_isSo) (by decide) kN_isSo (fun pc lv st h ce sl hh => ?_) ((eN_isSo (fN_isSo_b17 1000) o0 v1 v2 v3 h).trans hh)
  obtain ⟨hg, hh1⟩ := mv_gd_some hh
  obtain ⟨rfl, rfl⟩ := mv_z2 hg
  rcases mv_cond_some hh1 with ⟨hb, hh2⟩ | ⟨hb, hh3⟩
  · obtain rfl := Nat.eq_of_beq_eq_true hb
    obtain ⟨o0, m0, hh4⟩ := mv_gR_some hh2
    obtain ⟨v1, m1, hh5⟩ := mv_gI_some hh4
    obtain ⟨v2, m2, hh6⟩ := mv_gI_some hh5
    obtain ⟨v4, m3, hh7⟩ := mv_gI_some hh6
    obtain ⟨v5, m4, hh8⟩ := mv_gI_some hh7
    obtain ⟨rfl, hh9⟩ := mv_sE_some hh8
    exact (xN_isSo_b17 1000 o0 v1 v2 v4 v5 h hh9).sub (List.forall_mem_cons.mpr ⟨m0, (List.forall_mem_cons.mpr ⟨m1, (List.forall_mem_cons.mpr ⟨m2, (List.forall_mem_cons.mpr ⟨m3, (List.forall_mem_cons.mpr ⟨m4, (fun q hq => by cases hq)⟩)⟩)⟩)⟩)⟩)
  cases hh3

theorem mN_isSo (o0 : Nat) (v1 : Int32) (v2 : Int32) (v3 : Int32) (h : H2) (vs : List mv_V) (h' : H2) (hh : fN_isSo o0 v1 v2 v3 h = some (vs, h')) : mv_Met vw2 5 0 0 mdN_isSo [Sum.inr (8, o0), Sum.inl (Value.int v1), Sum.inl (Value.int v2), Sum.inl (Value.int v3)] h vs h' :=
  mv_Met_of (by decide +kernel) (Nat.le_of_ble_eq_true rfl) (xN_isSo o0 v1 v2 v3 h hh)
theorem cN_isSo_ok : mv_Cal vw2 5 (mdN_isSo, true) ((0, 0), cN_isSo) := by
  intro as h k res hh
  change cN_isSo as h k = some res at hh
  unfold cN_isSo at hh
  split at hh
  · obtain ⟨hg0, ha0⟩ := mv_gd_some hh
    obtain rfl := Nat.eq_of_beq_eq_true hg0
    obtain ⟨x, h', h1, h9⟩ := mv_rI_some ha0
    exact ⟨_, _, h9, (by first | decide | exact Nat.le_refl _ | exact Nat.zero_le _), fun _ => ⟨_, _, _, rfl, Or.inl ⟨by decide, rfl⟩⟩, (mN_isSo _ _ _ _ h _ _ h1)⟩
  · cases hh

set_option maxRecDepth 100000 in
theorem kN_isFour : mv_tok mdN_isFour nN_isFour tN_isFour = true := by decide +kernel
def cN_inG_N_isFour (F1 : Int64 → Int64 → Int64 → H2 → O2) : List mv_V → H2 → (List mv_V → H2 → O2) → O2 := fun as h k => match as with
  | [.inl (.long w0), .inl (.long w2), .inl (.long w4)] => mv_rI (F1 w0 w2 w4 h) fun x h => k [.inl (.int x)] h
  | _ => none
set_option maxRecDepth 100000 in
set_option maxHeartbeats 1000000 in
theorem eN_isFour_g (F1 : Int64 → Int64 → Int64 → H2 → O2) (v0 : Int32) (h : H2) : mv_blk rI2 rR2 ln2 wI2 wR2 nw2 cp2 bod none tN_isFour [((0, 0), cN_inG_N_isFour F1)] 0 0 [] (fun _ _ _ _ _ _ => none) 400 (mv_seek 0 tN_isFour) [(0, Sum.inl (Value.int v0))] [] h 0 0 = (
  mv_rI (F1 v0.toInt64 (lN 0) (lN 3) h) fun r2 h1 =>
  mv_gd (decide (r2 = nI 0) || decide (r2 = nI 1)) <| some ([Sum.inl (Value.int r2)], h1)) := rfl
theorem eN_isFour (v0 : Int32) (h : H2) : mv_blk rI2 rR2 ln2 wI2 wR2 nw2 cp2 bod none tN_isFour gN_isFour 0 0 [] (fun _ _ _ _ _ _ => none) 400 (mv_seek 0 tN_isFour) [(0, Sum.inl (Value.int v0))] [] h 0 0 = (
  mv_rI (fN_in v0.toInt64 (lN 0) (lN 3) h) fun r2 h1 =>
  mv_gd (decide (r2 = nI 0) || decide (r2 = nI 1)) <| some ([Sum.inl (Value.int r2)], h1)) := eN_isFour_g fN_in v0 h
theorem GN_isFour : ∀ (j : Nat) (C : mv_C H2) (md' : mv_MD × Bool), mv_nth j gN_isFour = some C → mv_nth j nN_isFour = some md' → ∃ n', n' + 1 ≤ 2 ∧ mv_Cal vw2 n' md' C := fun j C md' => match j with
  | 0 => fun h1 h2 => by
    obtain rfl := Option.some.inj h1
    obtain rfl := Option.some.inj h2
    exact ⟨1, by decide, cN_in_ok⟩
  | jj + 1 => fun h1 _ => by cases jj <;> cases h1

set_option maxRecDepth 20000 in
theorem xN_isFour {g0 : mv_G} {res : List mv_V × H2} (v0 : Int32) (h : H2) (hh : fN_isFour v0 h = some res) : mv_X vw2 mdN_isFour 2 0 0 none g0 res 0 [(0, Sum.inl (Value.int v0))] [] h 0 0 := by
  refine mv_blkX ax2 (GN_isFour) (by decide) kN_isFour (fun pc lv st h ce sl hh => ?_) ((eN_isFour  v0 h).trans hh)
  cases hh

theorem mN_isFour (v0 : Int32) (h : H2) (vs : List mv_V) (h' : H2) (hh : fN_isFour v0 h = some (vs, h')) : mv_Met vw2 2 0 0 mdN_isFour [Sum.inl (Value.int v0)] h vs h' :=
  mv_Met_of (by decide +kernel) (Nat.le_of_ble_eq_true rfl) (xN_isFour v0 h hh)
theorem cN_isFour_ok : mv_Cal vw2 2 (mdN_isFour, false) ((0, 0), cN_isFour) := by
  intro as h k res hh
  change cN_isFour as h k = some res at hh
  unfold cN_isFour at hh
  split at hh
  · obtain ⟨x, h', h1, h9⟩ := mv_rI_some hh
    exact ⟨_, _, h9, (by first | decide | exact Nat.le_refl _ | exact Nat.zero_le _), (fun h => by cases h), (mN_isFour _ h _ _ h1)⟩
  · cases hh

set_option maxRecDepth 100000 in
theorem kN_fits : mv_tok mdN_fits nN_fits tN_fits = true := by decide +kernel
def cN_inG_N_fits (F1 : Int64 → Int64 → Int64 → H2 → O2) : List mv_V → H2 → (List mv_V → H2 → O2) → O2 := fun as h k => match as with
  | [.inl (.long w0), .inl (.long w2), .inl (.long w4)] => mv_rI (F1 w0 w2 w4 h) fun x h => k [.inl (.int x)] h
  | _ => none
def cN_isClothG_N_fits (F2 : Nat → Int32 → H2 → O2) : List mv_V → H2 → (List mv_V → H2 → O2) → O2 := fun as h k => match as with
  | [.inr (t0, o0), .inl (.int v1)] => mv_gd (Nat.beq t0 8) <| mv_rI (F2 o0 v1 h) fun x h => k [.inl (.int x)] h
  | _ => none
def cN_isFourG_N_fits (F3 : Int32 → H2 → O2) : List mv_V → H2 → (List mv_V → H2 → O2) → O2 := fun as h k => match as with
  | [.inl (.int v0)] => mv_rI (F3 v0 h) fun x h => k [.inl (.int x)] h
  | _ => none
def cN_isSoG_N_fits (F4 : Nat → Int32 → Int32 → Int32 → H2 → O2) : List mv_V → H2 → (List mv_V → H2 → O2) → O2 := fun as h k => match as with
  | [.inr (t0, o0), .inl (.int v1), .inl (.int v2), .inl (.int v3)] => mv_gd (Nat.beq t0 8) <| mv_rI (F4 o0 v1 v2 v3 h) fun x h => k [.inl (.int x)] h
  | _ => none
def cN_itsG_N_fits (F5 : Nat → Int32 → Int32 → H2 → O2) : List mv_V → H2 → (List mv_V → H2 → O2) → O2 := fun as h k => match as with
  | [.inr (t0, o0), .inl (.int v1), .inl (.int v2)] => mv_gd (Nat.beq t0 8) <| mv_rI (F5 o0 v1 v2 h) fun x h => k [.inl (.int x)] h
  | _ => none
set_option maxRecDepth 100000 in
set_option maxHeartbeats 1000000 in
theorem eN_fits_b87_g (F1 : Int64 → Int64 → Int64 → H2 → O2) (F2 : Nat → Int32 → H2 → O2) (F3 : Int32 → H2 → O2) (F4 : Nat → Int32 → Int32 → Int32 → H2 → O2) (F5 : Nat → Int32 → Int32 → H2 → O2) (q75 : Nat → Int32 → Int32 → Int32 → Int32 → Int32 → Int32 → Int32 → H2 → O2) (o0 : Nat) (v1 : Int32) (v2 : Int32) (v3 : Int32) (v4 : Int32) (v5 : Int32) (v6 : Int32) (v7 : Int32) (vs0 : Int32) (vs1 : Int32) (h : H2) : mv_blk rI2 rR2 ln2 wI2 wR2 nw2 cp2 bod none tN_fits [((0, 0), cN_isFourG_N_fits F3), ((0, 0), cN_isClothG_N_fits F2), ((0, 0), cN_inG_N_fits F1), ((0, 0), cN_itsG_N_fits F5), ((0, 0), cN_isSoG_N_fits F4)] 0 0 [75] (fun pc lv st h ce sl => mv_gd (Nat.beq ce 0 && Nat.beq sl 0) (cond (Nat.beq pc 75) (mv_gR 0 8 lv fun o0 => mv_gI 1 lv fun v1 => mv_gI 2 lv fun v2 => mv_gI 3 lv fun v3 => mv_gI 4 lv fun v4 => mv_gI 5 lv fun v5 => mv_gI 6 lv fun v6 => mv_gI 7 lv fun v7 => mv_sE st (q75 o0 v1 v2 v3 v4 v5 v6 v7 h)) (none))) 400 (mv_seek 87 tN_fits) [(0, Sum.inr (8, o0)), (1, Sum.inl (Value.int v1)), (2, Sum.inl (Value.int v2)), (3, Sum.inl (Value.int v3)), (4, Sum.inl (Value.int v4)), (5, Sum.inl (Value.int v5)), (6, Sum.inl (Value.int v6)), (7, Sum.inl (Value.int v7))] [Sum.inl (Value.int vs1), Sum.inl (Value.int vs0)] h 0 0 = (
  if vs0 < vs1 then (
    if v3 = 0 then (
      some ([Sum.inl (Value.int v5)], h))
    else
    some ([Sum.inl (Value.int v6)], h))
  else
  mv_rI (F4 o0 v1 v2 v7 h) fun r2 h1 =>
  mv_bi r2 fun x3 =>
  if x3 = 0 then (
    mv_bi (v5 + (nI 0)) fun x4 =>
    if x3 = 0 then (
      mv_bi v6 fun x5 =>
      mv_bi (v7 + (-(nI 1))) fun x6 =>
      q75 o0 v1 v2 v3 v4 x4 x5 x6 h1)
    else
    mv_bi ((nI 1) + v7) fun x7 =>
    mv_bi (v7 + (-(nI 1))) fun x8 =>
    q75 o0 v1 v2 v3 v4 x4 x7 x8 h1)
  else
  mv_bi (v5 + (nI 1)) fun x9 =>
  if x3 = 0 then (
    mv_bi v6 fun x10 =>
    mv_bi (v7 + (-(nI 1))) fun x11 =>
    q75 o0 v1 v2 v3 v4 x9 x10 x11 h1)
  else
  mv_bi ((nI 1) + v7) fun x12 =>
  mv_bi (v7 + (-(nI 1))) fun x13 =>
  q75 o0 v1 v2 v3 v4 x9 x12 x13 h1) := rfl
theorem eN_fits_b87 (q75 : Nat → Int32 → Int32 → Int32 → Int32 → Int32 → Int32 → Int32 → H2 → O2) (o0 : Nat) (v1 : Int32) (v2 : Int32) (v3 : Int32) (v4 : Int32) (v5 : Int32) (v6 : Int32) (v7 : Int32) (vs0 : Int32) (vs1 : Int32) (h : H2) : mv_blk rI2 rR2 ln2 wI2 wR2 nw2 cp2 bod none tN_fits gN_fits 0 0 [75] (fun pc lv st h ce sl => mv_gd (Nat.beq ce 0 && Nat.beq sl 0) (cond (Nat.beq pc 75) (mv_gR 0 8 lv fun o0 => mv_gI 1 lv fun v1 => mv_gI 2 lv fun v2 => mv_gI 3 lv fun v3 => mv_gI 4 lv fun v4 => mv_gI 5 lv fun v5 => mv_gI 6 lv fun v6 => mv_gI 7 lv fun v7 => mv_sE st (q75 o0 v1 v2 v3 v4 v5 v6 v7 h)) (none))) 400 (mv_seek 87 tN_fits) [(0, Sum.inr (8, o0)), (1, Sum.inl (Value.int v1)), (2, Sum.inl (Value.int v2)), (3, Sum.inl (Value.int v3)), (4, Sum.inl (Value.int v4)), (5, Sum.inl (Value.int v5)), (6, Sum.inl (Value.int v6)), (7, Sum.inl (Value.int v7))] [Sum.inl (Value.int vs1), Sum.inl (Value.int vs0)] h 0 0 = (
  if vs0 < vs1 then (
    if v3 = 0 then (
      some ([Sum.inl (Value.int v5)], h))
    else
    some ([Sum.inl (Value.int v6)], h))
  else
  mv_rI (fN_isSo o0 v1 v2 v7 h) fun r2 h1 =>
  mv_bi r2 fun x3 =>
  if x3 = 0 then (
    mv_bi (v5 + (nI 0)) fun x4 =>
    if x3 = 0 then (
      mv_bi v6 fun x5 =>
      mv_bi (v7 + (-(nI 1))) fun x6 =>
      q75 o0 v1 v2 v3 v4 x4 x5 x6 h1)
    else
    mv_bi ((nI 1) + v7) fun x7 =>
    mv_bi (v7 + (-(nI 1))) fun x8 =>
    q75 o0 v1 v2 v3 v4 x4 x7 x8 h1)
  else
  mv_bi (v5 + (nI 1)) fun x9 =>
  if x3 = 0 then (
    mv_bi v6 fun x10 =>
    mv_bi (v7 + (-(nI 1))) fun x11 =>
    q75 o0 v1 v2 v3 v4 x9 x10 x11 h1)
  else
  mv_bi ((nI 1) + v7) fun x12 =>
  mv_bi (v7 + (-(nI 1))) fun x13 =>
  q75 o0 v1 v2 v3 v4 x9 x12 x13 h1) := eN_fits_b87_g fN_in fN_isCloth fN_isFour fN_isSo fN_its q75 o0 v1 v2 v3 v4 v5 v6 v7 vs0 vs1 h
set_option maxRecDepth 100000 in
set_option maxHeartbeats 1000000 in
theorem eN_fits_b75_g (F1 : Int64 → Int64 → Int64 → H2 → O2) (F2 : Nat → Int32 → H2 → O2) (F3 : Int32 → H2 → O2) (F4 : Nat → Int32 → Int32 → Int32 → H2 → O2) (F5 : Nat → Int32 → Int32 → H2 → O2) (q87 : Nat → Int32 → Int32 → Int32 → Int32 → Int32 → Int32 → Int32 → Int32 → Int32 → H2 → O2) (o0 : Nat) (v1 : Int32) (v2 : Int32) (v3 : Int32) (v4 : Int32) (v5 : Int32) (v6 : Int32) (v7 : Int32) (h : H2) : mv_blk rI2 rR2 ln2 wI2 wR2 nw2 cp2 bod none tN_fits [((0, 0), cN_isFourG_N_fits F3), ((0, 0), cN_isClothG_N_fits F2), ((0, 0), cN_inG_N_fits F1), ((0, 0), cN_itsG_N_fits F5), ((0, 0), cN_isSoG_N_fits F4)] 0 0 [87] (fun pc lv st h ce sl => mv_gd (Nat.beq ce 0 && Nat.beq sl 0) (cond (Nat.beq pc 87) (mv_gR 0 8 lv fun o0 => mv_gI 1 lv fun v1 => mv_gI 2 lv fun v2 => mv_gI 3 lv fun v3 => mv_gI 4 lv fun v4 => mv_gI 5 lv fun v5 => mv_gI 6 lv fun v6 => mv_gI 7 lv fun v7 => mv_sI st fun vs1 st => mv_sI st fun vs0 st => mv_sE st (q87 o0 v1 v2 v3 v4 v5 v6 v7 vs0 vs1 h)) (none))) 400 (mv_seek 75 tN_fits) [(0, Sum.inr (8, o0)), (1, Sum.inl (Value.int v1)), (2, Sum.inl (Value.int v2)), (3, Sum.inl (Value.int v3)), (4, Sum.inl (Value.int v4)), (5, Sum.inl (Value.int v5)), (6, Sum.inl (Value.int v6)), (7, Sum.inl (Value.int v7))] [] h 0 0 = (
  if v4 = 0 then (
    q87 o0 v1 v2 v3 v4 v5 v6 v7 v7 (nI 0) h)
  else
  q87 o0 v1 v2 v3 v4 v5 v6 v7 v7 (-(nI 1)) h) := rfl
theorem eN_fits_b75 (q87 : Nat → Int32 → Int32 → Int32 → Int32 → Int32 → Int32 → Int32 → Int32 → Int32 → H2 → O2) (o0 : Nat) (v1 : Int32) (v2 : Int32) (v3 : Int32) (v4 : Int32) (v5 : Int32) (v6 : Int32) (v7 : Int32) (h : H2) : mv_blk rI2 rR2 ln2 wI2 wR2 nw2 cp2 bod none tN_fits gN_fits 0 0 [87] (fun pc lv st h ce sl => mv_gd (Nat.beq ce 0 && Nat.beq sl 0) (cond (Nat.beq pc 87) (mv_gR 0 8 lv fun o0 => mv_gI 1 lv fun v1 => mv_gI 2 lv fun v2 => mv_gI 3 lv fun v3 => mv_gI 4 lv fun v4 => mv_gI 5 lv fun v5 => mv_gI 6 lv fun v6 => mv_gI 7 lv fun v7 => mv_sI st fun vs1 st => mv_sI st fun vs0 st => mv_sE st (q87 o0 v1 v2 v3 v4 v5 v6 v7 vs0 vs1 h)) (none))) 400 (mv_seek 75 tN_fits) [(0, Sum.inr (8, o0)), (1, Sum.inl (Value.int v1)), (2, Sum.inl (Value.int v2)), (3, Sum.inl (Value.int v3)), (4, Sum.inl (Value.int v4)), (5, Sum.inl (Value.int v5)), (6, Sum.inl (Value.int v6)), (7, Sum.inl (Value.int v7))] [] h 0 0 = (
  if v4 = 0 then (
    q87 o0 v1 v2 v3 v4 v5 v6 v7 v7 (nI 0) h)
  else
  q87 o0 v1 v2 v3 v4 v5 v6 v7 v7 (-(nI 1)) h) := eN_fits_b75_g fN_in fN_isCloth fN_isFour fN_isSo fN_its q87 o0 v1 v2 v3 v4 v5 v6 v7 h
set_option maxRecDepth 100000 in
set_option maxHeartbeats 1000000 in
theorem eN_fits_g (F1 : Int64 → Int64 → Int64 → H2 → O2) (F2 : Nat → Int32 → H2 → O2) (F3 : Int32 → H2 → O2) (F4 : Nat → Int32 → Int32 → Int32 → H2 → O2) (F5 : Nat → Int32 → Int32 → H2 → O2) (q75 : Nat → Int32 → Int32 → Int32 → Int32 → Int32 → Int32 → Int32 → H2 → O2) (o0 : Nat) (v1 : Int32) (v2 : Int32) (v3 : Int32) (h : H2) : mv_blk rI2 rR2 ln2 wI2 wR2 nw2 cp2 bod none tN_fits [((0, 0), cN_isFourG_N_fits F3), ((0, 0), cN_isClothG_N_fits F2), ((0, 0), cN_inG_N_fits F1), ((0, 0), cN_itsG_N_fits F5), ((0, 0), cN_isSoG_N_fits F4)] 0 0 [75] (fun pc lv st h ce sl => mv_gd (Nat.beq ce 0 && Nat.beq sl 0) (cond (Nat.beq pc 75) (mv_gR 0 8 lv fun o0 => mv_gI 1 lv fun v1 => mv_gI 2 lv fun v2 => mv_gI 3 lv fun v3 => mv_gI 4 lv fun v4 => mv_gI 5 lv fun v5 => mv_gI 6 lv fun v6 => mv_gI 7 lv fun v7 => mv_sE st (q75 o0 v1 v2 v3 v4 v5 v6 v7 h)) (none))) 400 (mv_seek 0 tN_fits) [(0, Sum.inr (8, o0)), (1, Sum.inl (Value.int v1)), (2, Sum.inl (Value.int v2)), (3, Sum.inl (Value.int v3))] [] h 0 0 = (
  mv_rI (F3 v1 h) fun r2 h1 =>
  if r2 = 0 then (
    some ([Sum.inl (Value.int (-(nI 1)))], h1))
  else
  mv_rI (F2 o0 v2 h1) fun r4 h3 =>
  if r4 = 0 then (
    some ([Sum.inl (Value.int (-(nI 1)))], h3))
  else
  mv_rI (F1 v3.toInt64 (lN 0) (lN 1) h3) fun r6 h5 =>
  if r6 = 0 then (
    some ([Sum.inl (Value.int (-(nI 1)))], h5))
  else
  mv_gd (mv_inb v1 4) <|
  if 0 ≤ (rI2 h5 913 o0 v1.toNatClampNeg) then (
    mv_rI (F5 o0 v2 (nI 2) h5) fun r8 h7 =>
    if r8 = 0 then (
      mv_bi (nI 1) fun x9 =>
      mv_bi (nI 0) fun x10 =>
      mv_bi (-(nI 3)) fun x11 =>
      if x9 = 0 then (
        mv_bi (nI 9) fun x12 =>
        q75 o0 v1 v2 v3 x9 x10 x11 x12 h7)
      else
      mv_bi (-(nI 1)) fun x13 =>
      q75 o0 v1 v2 v3 x9 x10 x11 x13 h7)
    else
    mv_bi (nI 0) fun x14 =>
    mv_bi (nI 0) fun x15 =>
    mv_bi (-(nI 3)) fun x16 =>
    if x14 = 0 then (
      mv_bi (nI 9) fun x17 =>
      q75 o0 v1 v2 v3 x14 x15 x16 x17 h7)
    else
    mv_bi (-(nI 1)) fun x18 =>
    q75 o0 v1 v2 v3 x14 x15 x16 x18 h7)
  else
  some ([Sum.inl (Value.int (-(nI 11)))], h5)) := rfl
theorem eN_fits (q75 : Nat → Int32 → Int32 → Int32 → Int32 → Int32 → Int32 → Int32 → H2 → O2) (o0 : Nat) (v1 : Int32) (v2 : Int32) (v3 : Int32) (h : H2) : mv_blk rI2 rR2 ln2 wI2 wR2 nw2 cp2 bod none tN_fits gN_fits 0 0 [75] (fun pc lv st h ce sl => mv_gd (Nat.beq ce 0 && Nat.beq sl 0) (cond (Nat.beq pc 75) (mv_gR 0 8 lv fun o0 => mv_gI 1 lv fun v1 => mv_gI 2 lv fun v2 => mv_gI 3 lv fun v3 => mv_gI 4 lv fun v4 => mv_gI 5 lv fun v5 => mv_gI 6 lv fun v6 => mv_gI 7 lv fun v7 => mv_sE st (q75 o0 v1 v2 v3 v4 v5 v6 v7 h)) (none))) 400 (mv_seek 0 tN_fits) [(0, Sum.inr (8, o0)), (1, Sum.inl (Value.int v1)), (2, Sum.inl (Value.int v2)), (3, Sum.inl (Value.int v3))] [] h 0 0 = (
  mv_rI (fN_isFour v1 h) fun r2 h1 =>
  if r2 = 0 then (
    some ([Sum.inl (Value.int (-(nI 1)))], h1))
  else
  mv_rI (fN_isCloth o0 v2 h1) fun r4 h3 =>
  if r4 = 0 then (
    some ([Sum.inl (Value.int (-(nI 1)))], h3))
  else
  mv_rI (fN_in v3.toInt64 (lN 0) (lN 1) h3) fun r6 h5 =>
  if r6 = 0 then (
    some ([Sum.inl (Value.int (-(nI 1)))], h5))
  else
  mv_gd (mv_inb v1 4) <|
  if 0 ≤ (rI2 h5 913 o0 v1.toNatClampNeg) then (
    mv_rI (fN_its o0 v2 (nI 2) h5) fun r8 h7 =>
    if r8 = 0 then (
      mv_bi (nI 1) fun x9 =>
      mv_bi (nI 0) fun x10 =>
      mv_bi (-(nI 3)) fun x11 =>
      if x9 = 0 then (
        mv_bi (nI 9) fun x12 =>
        q75 o0 v1 v2 v3 x9 x10 x11 x12 h7)
      else
      mv_bi (-(nI 1)) fun x13 =>
      q75 o0 v1 v2 v3 x9 x10 x11 x13 h7)
    else
    mv_bi (nI 0) fun x14 =>
    mv_bi (nI 0) fun x15 =>
    mv_bi (-(nI 3)) fun x16 =>
    if x14 = 0 then (
      mv_bi (nI 9) fun x17 =>
      q75 o0 v1 v2 v3 x14 x15 x16 x17 h7)
    else
    mv_bi (-(nI 1)) fun x18 =>
    q75 o0 v1 v2 v3 x14 x15 x16 x18 h7)
  else
  some ([Sum.inl (Value.int (-(nI 11)))], h5)) := eN_fits_g fN_in fN_isCloth fN_isFour fN_isSo fN_its q75 o0 v1 v2 v3 h
theorem GN_fits : ∀ (j : Nat) (C : mv_C H2) (md' : mv_MD × Bool), mv_nth j gN_fits = some C → mv_nth j nN_fits = some md' → ∃ n', n' + 1 ≤ 6 ∧ mv_Cal vw2 n' md' C := fun j C md' => match j with
  | 0 => fun h1 h2 => by
    obtain rfl := Option.some.inj h1
    obtain rfl := Option.some.inj h2
    exact ⟨2, by decide, cN_isFour_ok⟩
  | 1 => fun h1 h2 => by
    obtain rfl := Option.some.inj h1
    obtain rfl := Option.some.inj h2
    exact ⟨2, by decide, cN_isCloth_ok⟩
  | 2 => fun h1 h2 => by
    obtain rfl := Option.some.inj h1
    obtain rfl := Option.some.inj h2
    exact ⟨1, by decide, cN_in_ok⟩
  | 3 => fun h1 h2 => by
    obtain rfl := Option.some.inj h1
    obtain rfl := Option.some.inj h2
    exact ⟨1, by decide, cN_its_ok⟩
  | 4 => fun h1 h2 => by
    obtain rfl := Option.some.inj h1
    obtain rfl := Option.some.inj h2
    exact ⟨5, by decide, cN_isSo_ok⟩
  | jj + 5 => fun h1 _ => by cases jj <;> cases h1

set_option maxRecDepth 20000 in
theorem xN_fits_b87 {g0 : mv_G} {res : List mv_V × H2} {k75 : Nat → Int32 → Int32 → Int32 → Int32 → Int32 → Int32 → Int32 → H2 → O2} (hk75 : ∀ (o0 : Nat) (v1 : Int32) (v2 : Int32) (v3 : Int32) (v4 : Int32) (v5 : Int32) (v6 : Int32) (v7 : Int32) h, k75 o0 v1 v2 v3 v4 v5 v6 v7 h = some res → mv_X vw2 mdN_fits 6 0 0 none g0 res 75 [(0, Sum.inr (8, o0)), (1, Sum.inl (Value.int v1)), (2, Sum.inl (Value.int v2)), (3, Sum.inl (Value.int v3)), (4, Sum.inl (Value.int v4)), (5, Sum.inl (Value.int v5)), (6, Sum.inl (Value.int v6)), (7, Sum.inl (Value.int v7))] [] h 0 0) (o0 : Nat) (v1 : Int32) (v2 : Int32) (v3 : Int32) (v4 : Int32) (v5 : Int32) (v6 : Int32) (v7 : Int32) (vs0 : Int32) (vs1 : Int32) (h : H2) (hh : fN_fits_b87 k75 o0 v1 v2 v3 v4 v5 v6 v7 vs0 vs1 h = some res) : mv_X vw2 mdN_fits 6 0 0 none g0 res 87 [(0, Sum.inr (8, o0)), (1, Sum.inl (Value.int v1)), (2, Sum.inl (Value.int v2)), (3, Sum.inl (Value.int v3)), (4, Sum.inl (Value.int v4)), (5, Sum.inl (Value.int v5)), (6, Sum.inl (Value.int v6)), (7, Sum.inl (Value.int v7))] [Sum.inl (Value.int vs1), Sum.inl (Value.int vs0)] h 0 0 := by
  refine mv_blkX ax2 (GN_fits) (by decide) kN_fits (fun pc lv st h ce sl hh => ?_) ((eN_fits_b87 (k75) o0 v1 v2 v3 v4 v5 v6 v7 vs0 vs1 h).trans hh)
  obtain ⟨hg, hh1⟩ := mv_gd_some hh
  obtain ⟨rfl, rfl⟩ := mv_z2 hg
  rcases mv_cond_some hh1 with ⟨hb, hh2⟩ | ⟨hb, hh3⟩
  · obtain rfl := Nat.eq_of_beq_eq_true hb
    obtain ⟨o0, m0, hh4⟩ := mv_gR_some hh2
    obtain ⟨v1, m1, hh5⟩ := mv_gI_some hh4
    obtain ⟨v2, m2, hh6⟩ := mv_gI_some hh5
    obtain ⟨v3, m3, hh7⟩ := mv_gI_some hh6
    obtain ⟨v4, m4, hh8⟩ := mv_gI_some hh7
    obtain ⟨v5, m5, hh9⟩ := mv_gI_some hh8
    obtain ⟨v6, m6, hh10⟩ := mv_gI_some hh9
    obtain ⟨v7, m7, hh11⟩ := mv_gI_some hh10
    obtain ⟨rfl, hh12⟩ := mv_sE_some hh11
    exact (hk75 o0 v1 v2 v3 v4 v5 v6 v7 h hh12).sub (List.forall_mem_cons.mpr ⟨m0, (List.forall_mem_cons.mpr ⟨m1, (List.forall_mem_cons.mpr ⟨m2, (List.forall_mem_cons.mpr ⟨m3, (List.forall_mem_cons.mpr ⟨m4, (List.forall_mem_cons.mpr ⟨m5, (List.forall_mem_cons.mpr ⟨m6, (List.forall_mem_cons.mpr ⟨m7, (fun q hq => by cases hq)⟩)⟩)⟩)⟩)⟩)⟩)⟩)⟩)
  cases hh3

set_option maxRecDepth 20000 in
theorem xN_fits_b75 {g0 : mv_G} {res : List mv_V × H2} : ∀ (n : Nat) (o0 : Nat) (v1 : Int32) (v2 : Int32) (v3 : Int32) (v4 : Int32) (v5 : Int32) (v6 : Int32) (v7 : Int32) (h : H2), fN_fits_b75 n o0 v1 v2 v3 v4 v5 v6 v7 h = some res → mv_X vw2 mdN_fits 6 0 0 none g0 res 75 [(0, Sum.inr (8, o0)), (1, Sum.inl (Value.int v1)), (2, Sum.inl (Value.int v2)), (3, Sum.inl (Value.int v3)), (4, Sum.inl (Value.int v4)), (5, Sum.inl (Value.int v5)), (6, Sum.inl (Value.int v6)), (7, Sum.inl (Value.int v7))] [] h 0 0 := by
  intro n
  induction n with
  | zero => intro o0 v1 v2 v3 v4 v5 v6 v7 h hh; cases hh
  | succ n ih =>
    intro o0 v1 v2 v3 v4 v5 v6 v7 h hh
    refine mv_blkX ax2 (GN_fits) (by decide) kN_fits (fun pc lv st h ce sl hh => ?_) ((eN_fits_b75 (fN_fits_b87 (fN_fits_b75 n)) o0 v1 v2 v3 v4 v5 v6 v7 h).trans hh)
    obtain ⟨hg, hh1⟩ := mv_gd_some hh
    obtain ⟨rfl, rfl⟩ := mv_z2 hg
    rcases mv_cond_some hh1 with ⟨hb, hh2⟩ | ⟨hb, hh3⟩
    · obtain rfl := Nat.eq_of_beq_eq_true hb
      obtain ⟨o0, m0, hh4⟩ := mv_gR_some hh2
      obtain ⟨v1, m1, hh5⟩ := mv_gI_some hh4
      obtain ⟨v2, m2, hh6⟩ := mv_gI_some hh5
      obtain ⟨v3, m3, hh7⟩ := mv_gI_some hh6
      obtain ⟨v4, m4, hh8⟩ := mv_gI_some hh7
      obtain ⟨v5, m5, hh9⟩ := mv_gI_some hh8
      obtain ⟨v6, m6, hh10⟩ := mv_gI_some hh9
      obtain ⟨v7, m7, hh11⟩ := mv_gI_some hh10
      obtain ⟨vs1, sthh12, rfl, hh12⟩ := mv_sI_some hh11
      obtain ⟨vs0, sthh13, rfl, hh13⟩ := mv_sI_some hh12
      obtain ⟨rfl, hh14⟩ := mv_sE_some hh13
      exact (xN_fits_b87 ih  o0 v1 v2 v3 v4 v5 v6 v7 vs0 vs1 h hh14).sub (List.forall_mem_cons.mpr ⟨m0, (List.forall_mem_cons.mpr ⟨m1, (List.forall_mem_cons.mpr ⟨m2, (List.forall_mem_cons.mpr ⟨m3, (List.forall_mem_cons.mpr ⟨m4, (List.forall_mem_cons.mpr ⟨m5, (List.forall_mem_cons.mpr ⟨m6, (List.forall_mem_cons.mpr ⟨m7, (fun q hq => by cases hq)⟩)⟩)⟩)⟩)⟩)⟩)⟩)⟩)
    cases hh3

set_option maxRecDepth 20000 in
theorem xN_fits {g0 : mv_G} {res : List mv_V × H2} (o0 : Nat) (v1 : Int32) (v2 : Int32) (v3 : Int32) (h : H2) (hh : fN_fits o0 v1 v2 v3 h = some res) : mv_X vw2 mdN_fits 6 0 0 none g0 res 0 [(0, Sum.inr (8, o0)), (1, Sum.inl (Value.int v1)), (2, Sum.inl (Value.int v2)), (3, Sum.inl (Value.int v3))] [] h 0 0 := by
  refine mv_blkX ax2 (GN_fits) (by decide) kN_fits (fun pc lv st h ce sl hh => ?_) ((eN_fits (fN_fits_b75 1000) o0 v1 v2 v3 h).trans hh)
  obtain ⟨hg, hh1⟩ := mv_gd_some hh
  obtain ⟨rfl, rfl⟩ := mv_z2 hg
  rcases mv_cond_some hh1 with ⟨hb, hh2⟩ | ⟨hb, hh3⟩
  · obtain rfl := Nat.eq_of_beq_eq_true hb
    obtain ⟨o0, m0, hh4⟩ := mv_gR_some hh2
    obtain ⟨v1, m1, hh5⟩ := mv_gI_some hh4
    obtain ⟨v2, m2, hh6⟩ := mv_gI_some hh5
    obtain ⟨v3, m3, hh7⟩ := mv_gI_some hh6
    obtain ⟨v4, m4, hh8⟩ := mv_gI_some hh7
    obtain ⟨v5, m5, hh9⟩ := mv_gI_some hh8
    obtain ⟨v6, m6, hh10⟩ := mv_gI_some hh9
    obtain ⟨v7, m7, hh11⟩ := mv_gI_some hh10
    obtain ⟨rfl, hh12⟩ := mv_sE_some hh11
    exact (xN_fits_b75 1000 o0 v1 v2 v3 v4 v5 v6 v7 h hh12).sub (List.forall_mem_cons.mpr ⟨m0, (List.forall_mem_cons.mpr ⟨m1, (List.forall_mem_cons.mpr ⟨m2, (List.forall_mem_cons.mpr ⟨m3, (List.forall_mem_cons.mpr ⟨m4, (List.forall_mem_cons.mpr ⟨m5, (List.forall_mem_cons.mpr ⟨m6, (List.forall_mem_cons.mpr ⟨m7, (fun q hq => by cases hq)⟩)⟩)⟩)⟩)⟩)⟩)⟩)⟩)
  cases hh3

theorem mN_fits (o0 : Nat) (v1 : Int32) (v2 : Int32) (v3 : Int32) (h : H2) (vs : List mv_V) (h' : H2) (hh : fN_fits o0 v1 v2 v3 h = some (vs, h')) : mv_Met vw2 6 0 0 mdN_fits [Sum.inr (8, o0), Sum.inl (Value.int v1), Sum.inl (Value.int v2), Sum.inl (Value.int v3)] h vs h' :=
  mv_Met_of (by decide +kernel) (Nat.le_of_ble_eq_true rfl) (xN_fits o0 v1 v2 v3 h hh)
set_option maxRecDepth 100000 in
theorem kN_lowest : mv_tok mdN_lowest nN_lowest tN_lowest = true := by decide +kernel
set_option maxRecDepth 100000 in
set_option maxHeartbeats 1000000 in
theorem eN_lowest_b6 (q6 : Int64 → Int64 → Int32 → Int64 → Int64 → H2 → O2) (w0 : Int64) (w2 : Int64) (v4 : Int32) (w5 : Int64) (w7 : Int64) (h : H2) : mv_blk rI2 rR2 ln2 wI2 wR2 nw2 cp2 bod none tN_lowest gN_lowest 0 0 [6] (fun pc lv st h ce sl => mv_gd (Nat.beq ce 0 && Nat.beq sl 0) (cond (Nat.beq pc 6) (mv_gL 0 lv fun w0 => mv_gL 2 lv fun w2 => mv_gI 4 lv fun v4 => mv_gL 5 lv fun w5 => mv_gL 7 lv fun w7 => mv_sE st (q6 w0 w2 v4 w5 w7 h)) (none))) 400 (mv_seek 6 tN_lowest) [(0, Sum.inl (Value.long w0)), (2, Sum.inl (Value.long w2)), (4, Sum.inl (Value.int v4)), (5, Sum.inl (Value.long w5)), (7, Sum.inl (Value.long w7))] [] h 0 0 = (
  if (lg_cmp w7 (lN 0)) = 0 then (
    if v4 = 0 then (
      mv_gd (!decide (w5 = 0)) <|
      some ([Sum.inl (Value.long (w0 / w5))], h))
    else
    mv_gd (!decide (w5 = 0)) <|
    some ([Sum.inl (Value.long (w2 / w5))], h))
  else
  mv_gd (!decide (w7 = 0)) <|
  mv_bl (w5 - w5 / w7 * w7) fun y1 =>
  mv_bl w7 fun y2 =>
  mv_bl y1 fun y3 =>
  q6 w0 w2 v4 y2 y3 h) := rfl
set_option maxRecDepth 100000 in
set_option maxHeartbeats 1000000 in
theorem eN_lowest (q6 : Int64 → Int64 → Int32 → Int64 → Int64 → H2 → O2) (w0 : Int64) (w2 : Int64) (v4 : Int32) (h : H2) : mv_blk rI2 rR2 ln2 wI2 wR2 nw2 cp2 bod none tN_lowest gN_lowest 0 0 [6] (fun pc lv st h ce sl => mv_gd (Nat.beq ce 0 && Nat.beq sl 0) (cond (Nat.beq pc 6) (mv_gL 0 lv fun w0 => mv_gL 2 lv fun w2 => mv_gI 4 lv fun v4 => mv_gL 5 lv fun w5 => mv_gL 7 lv fun w7 => mv_sE st (q6 w0 w2 v4 w5 w7 h)) (none))) 400 (mv_seek 0 tN_lowest) [(0, Sum.inl (Value.long w0)), (2, Sum.inl (Value.long w2)), (4, Sum.inl (Value.int v4))] [] h 0 0 = (
  mv_bl w0 fun y1 =>
  mv_bl w2 fun y2 =>
  q6 w0 w2 v4 y1 y2 h) := rfl
theorem GN_lowest : ∀ (j : Nat) (C : mv_C H2) (md' : mv_MD × Bool), mv_nth j gN_lowest = some C → mv_nth j nN_lowest = some md' → ∃ n', n' + 1 ≤ 1 ∧ mv_Cal vw2 n' md' C := fun j C md' h1 _ => by cases j <;> cases h1

set_option maxRecDepth 20000 in
theorem xN_lowest_b6 {g0 : mv_G} {res : List mv_V × H2} : ∀ (n : Nat) (w0 : Int64) (w2 : Int64) (v4 : Int32) (w5 : Int64) (w7 : Int64) (h : H2), fN_lowest_b6 n w0 w2 v4 w5 w7 h = some res → mv_X vw2 mdN_lowest 1 0 0 none g0 res 6 [(0, Sum.inl (Value.long w0)), (2, Sum.inl (Value.long w2)), (4, Sum.inl (Value.int v4)), (5, Sum.inl (Value.long w5)), (7, Sum.inl (Value.long w7))] [] h 0 0 := by
  intro n
  induction n with
  | zero => intro w0 w2 v4 w5 w7 h hh; cases hh
  | succ n ih =>
    intro w0 w2 v4 w5 w7 h hh
    refine mv_blkX ax2 (GN_lowest) (by decide) kN_lowest (fun pc lv st h ce sl hh => ?_) ((eN_lowest_b6 (fN_lowest_b6 n) w0 w2 v4 w5 w7 h).trans hh)
    obtain ⟨hg, hh1⟩ := mv_gd_some hh
    obtain ⟨rfl, rfl⟩ := mv_z2 hg
    rcases mv_cond_some hh1 with ⟨hb, hh2⟩ | ⟨hb, hh3⟩
    · obtain rfl := Nat.eq_of_beq_eq_true hb
      obtain ⟨w0, m0, hh4⟩ := mv_gL_some hh2
      obtain ⟨w2, m1, hh5⟩ := mv_gL_some hh4
      obtain ⟨v4, m2, hh6⟩ := mv_gI_some hh5
      obtain ⟨w5, m3, hh7⟩ := mv_gL_some hh6
      obtain ⟨w7, m4, hh8⟩ := mv_gL_some hh7
      obtain ⟨rfl, hh9⟩ := mv_sE_some hh8
      exact (ih w0 w2 v4 w5 w7 h hh9).sub (List.forall_mem_cons.mpr ⟨m0, (List.forall_mem_cons.mpr ⟨m1, (List.forall_mem_cons.mpr ⟨m2, (List.forall_mem_cons.mpr ⟨m3, (List.forall_mem_cons.mpr ⟨m4, (fun q hq => by cases hq)⟩)⟩)⟩)⟩)⟩)
    cases hh3

set_option maxRecDepth 20000 in
theorem xN_lowest {g0 : mv_G} {res : List mv_V × H2} (w0 : Int64) (w2 : Int64) (v4 : Int32) (h : H2) (hh : fN_lowest w0 w2 v4 h = some res) : mv_X vw2 mdN_lowest 1 0 0 none g0 res 0 [(0, Sum.inl (Value.long w0)), (2, Sum.inl (Value.long w2)), (4, Sum.inl (Value.int v4))] [] h 0 0 := by
  refine mv_blkX ax2 (GN_lowest) (by decide) kN_lowest (fun pc lv st h ce sl hh => ?_) ((eN_lowest (fN_lowest_b6 1000) w0 w2 v4 h).trans hh)
  obtain ⟨hg, hh1⟩ := mv_gd_some hh
  obtain ⟨rfl, rfl⟩ := mv_z2 hg
  rcases mv_cond_some hh1 with ⟨hb, hh2⟩ | ⟨hb, hh3⟩
  · obtain rfl := Nat.eq_of_beq_eq_true hb
    obtain ⟨w0, m0, hh4⟩ := mv_gL_some hh2
    obtain ⟨w2, m1, hh5⟩ := mv_gL_some hh4
    obtain ⟨v4, m2, hh6⟩ := mv_gI_some hh5
    obtain ⟨w5, m3, hh7⟩ := mv_gL_some hh6
    obtain ⟨w7, m4, hh8⟩ := mv_gL_some hh7
    obtain ⟨rfl, hh9⟩ := mv_sE_some hh8
    exact (xN_lowest_b6 1000 w0 w2 v4 w5 w7 h hh9).sub (List.forall_mem_cons.mpr ⟨m0, (List.forall_mem_cons.mpr ⟨m1, (List.forall_mem_cons.mpr ⟨m2, (List.forall_mem_cons.mpr ⟨m3, (List.forall_mem_cons.mpr ⟨m4, (fun q hq => by cases hq)⟩)⟩)⟩)⟩)⟩)
  cases hh3

theorem mN_lowest (w0 : Int64) (w2 : Int64) (v4 : Int32) (h : H2) (vs : List mv_V) (h' : H2) (hh : fN_lowest w0 w2 v4 h = some (vs, h')) : mv_Met vw2 1 0 0 mdN_lowest [Sum.inl (Value.long w0), Sum.inl (Value.long w2), Sum.inl (Value.int v4)] h vs h' :=
  mv_Met_of (by decide +kernel) (Nat.le_of_ble_eq_true rfl) (xN_lowest w0 w2 v4 h hh)
theorem cN_lowest_ok : mv_Cal vw2 1 (mdN_lowest, false) ((0, 0), cN_lowest) := by
  intro as h k res hh
  change cN_lowest as h k = some res at hh
  unfold cN_lowest at hh
  split at hh
  · obtain ⟨x, h', h1, h9⟩ := mv_rL_some hh
    exact ⟨_, _, h9, (by first | decide | exact Nat.le_refl _ | exact Nat.zero_le _), (fun h => by cases h), (mN_lowest _ _ _ h _ _ h1)⟩
  · cases hh

set_option maxRecDepth 100000 in
theorem kN_odds : mv_tok mdN_odds nN_odds tN_odds = true := by decide +kernel
def cN_inG_N_odds (F1 : Int64 → Int64 → Int64 → H2 → O2) : List mv_V → H2 → (List mv_V → H2 → O2) → O2 := fun as h k => match as with
  | [.inl (.long w0), .inl (.long w2), .inl (.long w4)] => mv_rI (F1 w0 w2 w4 h) fun x h => k [.inl (.int x)] h
  | _ => none
def cN_lowestG_N_odds (F2 : Int64 → Int64 → Int32 → H2 → O2) : List mv_V → H2 → (List mv_V → H2 → O2) → O2 := fun as h k => match as with
  | [.inl (.long w0), .inl (.long w2), .inl (.int v4)] => mv_rL (F2 w0 w2 v4 h) fun x h => k [.inl (.long x)] h
  | _ => none
set_option maxRecDepth 100000 in
set_option maxHeartbeats 1000000 in
theorem eN_odds_b103_g (F1 : Int64 → Int64 → Int64 → H2 → O2) (F2 : Int64 → Int64 → Int32 → H2 → O2) (q103 : Int32 → Int32 → Int32 → Int64 → Int64 → Int64 → Int32 → H2 → O2) (v1 : Int32) (v2 : Int32) (v3 : Int32) (w4 : Int64) (w6 : Int64) (w8 : Int64) (v10 : Int32) (h : H2) : mv_blk rI2 rR2 ln2 wI2 wR2 nw2 cp2 bod none tN_odds [((0, 0), cN_inG_N_odds F1), ((0, 0), cN_lowestG_N_odds F2)] 0 0 [103] (fun pc lv st h ce sl => mv_gd (Nat.beq ce 0 && Nat.beq sl 0) (cond (Nat.beq pc 103) (mv_gI 1 lv fun v1 => mv_gI 2 lv fun v2 => mv_gI 3 lv fun v3 => mv_gL 4 lv fun w4 => mv_gL 6 lv fun w6 => mv_gL 8 lv fun w8 => mv_gI 10 lv fun v10 => mv_sE st (q103 v1 v2 v3 w4 w6 w8 v10 h)) (none))) 400 (mv_seek 103 tN_odds) [(1, Sum.inl (Value.int v1)), (2, Sum.inl (Value.int v2)), (3, Sum.inl (Value.int v3)), (4, Sum.inl (Value.long w4)), (6, Sum.inl (Value.long w6)), (8, Sum.inl (Value.long w8)), (10, Sum.inl (Value.int v10))] [] h 0 0 = (
  if v2 ≤ v10 then (
    mv_rL (F2 (w4 * w8) w6 v3 h) fun r2 h1 =>
    some ([Sum.inl (Value.long r2)], h1))
  else
  mv_gd (!decide (((v10 + (nI 1)).toInt64) = 0)) <|
  mv_bl ((w8 * ((v1 - v10).toInt64)) / ((v10 + (nI 1)).toInt64)) fun y3 =>
  mv_bi (v10 + (nI 1)) fun x4 =>
  q103 v1 v2 v3 w4 w6 y3 x4 h) := rfl
theorem eN_odds_b103 (q103 : Int32 → Int32 → Int32 → Int64 → Int64 → Int64 → Int32 → H2 → O2) (v1 : Int32) (v2 : Int32) (v3 : Int32) (w4 : Int64) (w6 : Int64) (w8 : Int64) (v10 : Int32) (h : H2) : mv_blk rI2 rR2 ln2 wI2 wR2 nw2 cp2 bod none tN_odds gN_odds 0 0 [103] (fun pc lv st h ce sl => mv_gd (Nat.beq ce 0 && Nat.beq sl 0) (cond (Nat.beq pc 103) (mv_gI 1 lv fun v1 => mv_gI 2 lv fun v2 => mv_gI 3 lv fun v3 => mv_gL 4 lv fun w4 => mv_gL 6 lv fun w6 => mv_gL 8 lv fun w8 => mv_gI 10 lv fun v10 => mv_sE st (q103 v1 v2 v3 w4 w6 w8 v10 h)) (none))) 400 (mv_seek 103 tN_odds) [(1, Sum.inl (Value.int v1)), (2, Sum.inl (Value.int v2)), (3, Sum.inl (Value.int v3)), (4, Sum.inl (Value.long w4)), (6, Sum.inl (Value.long w6)), (8, Sum.inl (Value.long w8)), (10, Sum.inl (Value.int v10))] [] h 0 0 = (
  if v2 ≤ v10 then (
    mv_rL (fN_lowest (w4 * w8) w6 v3 h) fun r2 h1 =>
    some ([Sum.inl (Value.long r2)], h1))
  else
  mv_gd (!decide (((v10 + (nI 1)).toInt64) = 0)) <|
  mv_bl ((w8 * ((v1 - v10).toInt64)) / ((v10 + (nI 1)).toInt64)) fun y3 =>
  mv_bi (v10 + (nI 1)) fun x4 =>
  q103 v1 v2 v3 w4 w6 y3 x4 h) := eN_odds_b103_g fN_in fN_lowest q103 v1 v2 v3 w4 w6 w8 v10 h
set_option maxRecDepth 100000 in
set_option maxHeartbeats 1000000 in
theorem eN_odds_b46_g (F1 : Int64 → Int64 → Int64 → H2 → O2) (F2 : Int64 → Int64 → Int32 → H2 → O2) (q46 : Nat → Int32 → Int32 → Int32 → Int64 → Int64 → Int32 → H2 → O2) (q103 : Int32 → Int32 → Int32 → Int64 → Int64 → Int64 → Int32 → H2 → O2) (o0 : Nat) (v1 : Int32) (v2 : Int32) (v3 : Int32) (w4 : Int64) (w6 : Int64) (v8 : Int32) (h : H2) : mv_blk rI2 rR2 ln2 wI2 wR2 nw2 cp2 bod none tN_odds [((0, 0), cN_inG_N_odds F1), ((0, 0), cN_lowestG_N_odds F2)] 0 0 [46, 103] (fun pc lv st h ce sl => mv_gd (Nat.beq ce 0 && Nat.beq sl 0) (cond (Nat.beq pc 46) (mv_gR 0 8 lv fun o0 => mv_gI 1 lv fun v1 => mv_gI 2 lv fun v2 => mv_gI 3 lv fun v3 => mv_gL 4 lv fun w4 => mv_gL 6 lv fun w6 => mv_gI 8 lv fun v8 => mv_sE st (q46 o0 v1 v2 v3 w4 w6 v8 h)) (cond (Nat.beq pc 103) (mv_gI 1 lv fun v1 => mv_gI 2 lv fun v2 => mv_gI 3 lv fun v3 => mv_gL 4 lv fun w4 => mv_gL 6 lv fun w6 => mv_gL 8 lv fun w8 => mv_gI 10 lv fun v10 => mv_sE st (q103 v1 v2 v3 w4 w6 w8 v10 h)) (none)))) 400 (mv_seek 46 tN_odds) [(0, Sum.inr (8, o0)), (1, Sum.inl (Value.int v1)), (2, Sum.inl (Value.int v2)), (3, Sum.inl (Value.int v3)), (4, Sum.inl (Value.long w4)), (6, Sum.inl (Value.long w6)), (8, Sum.inl (Value.int v8))] [] h 0 0 = (
  if v1 ≤ v8 then (
    mv_bl (lN 1) fun y1 =>
    mv_bi (nI 0) fun x2 =>
    q103 v1 v2 v3 w4 w6 y1 x2 h)
  else
  if v2 ≤ v8 then (
    mv_gd (mv_inb (nI 3) 69) <|
    mv_bl (w4 * (((nI 100) - (rI2 h 902 o0 (nI 3).toNatClampNeg)).toInt64)) fun y3 =>
    mv_bl (w6 * (lN 100)) fun y4 =>
    mv_bi (v8 + (nI 1)) fun x5 =>
    q46 o0 v1 v2 v3 y3 y4 x5 h)
  else
  mv_gd (mv_inb (nI 3) 69) <|
  mv_bl (w4 * ((rI2 h 902 o0 (nI 3).toNatClampNeg).toInt64)) fun y6 =>
  mv_bl (w6 * (lN 100)) fun y7 =>
  mv_bi (v8 + (nI 1)) fun x8 =>
  q46 o0 v1 v2 v3 y6 y7 x8 h) := rfl
theorem eN_odds_b46 (q46 : Nat → Int32 → Int32 → Int32 → Int64 → Int64 → Int32 → H2 → O2) (q103 : Int32 → Int32 → Int32 → Int64 → Int64 → Int64 → Int32 → H2 → O2) (o0 : Nat) (v1 : Int32) (v2 : Int32) (v3 : Int32) (w4 : Int64) (w6 : Int64) (v8 : Int32) (h : H2) : mv_blk rI2 rR2 ln2 wI2 wR2 nw2 cp2 bod none tN_odds gN_odds 0 0 [46, 103] (fun pc lv st h ce sl => mv_gd (Nat.beq ce 0 && Nat.beq sl 0) (cond (Nat.beq pc 46) (mv_gR 0 8 lv fun o0 => mv_gI 1 lv fun v1 => mv_gI 2 lv fun v2 => mv_gI 3 lv fun v3 => mv_gL 4 lv fun w4 => mv_gL 6 lv fun w6 => mv_gI 8 lv fun v8 => mv_sE st (q46 o0 v1 v2 v3 w4 w6 v8 h)) (cond (Nat.beq pc 103) (mv_gI 1 lv fun v1 => mv_gI 2 lv fun v2 => mv_gI 3 lv fun v3 => mv_gL 4 lv fun w4 => mv_gL 6 lv fun w6 => mv_gL 8 lv fun w8 => mv_gI 10 lv fun v10 => mv_sE st (q103 v1 v2 v3 w4 w6 w8 v10 h)) (none)))) 400 (mv_seek 46 tN_odds) [(0, Sum.inr (8, o0)), (1, Sum.inl (Value.int v1)), (2, Sum.inl (Value.int v2)), (3, Sum.inl (Value.int v3)), (4, Sum.inl (Value.long w4)), (6, Sum.inl (Value.long w6)), (8, Sum.inl (Value.int v8))] [] h 0 0 = (
  if v1 ≤ v8 then (
    mv_bl (lN 1) fun y1 =>
    mv_bi (nI 0) fun x2 =>
    q103 v1 v2 v3 w4 w6 y1 x2 h)
  else
  if v2 ≤ v8 then (
    mv_gd (mv_inb (nI 3) 69) <|
    mv_bl (w4 * (((nI 100) - (rI2 h 902 o0 (nI 3).toNatClampNeg)).toInt64)) fun y3 =>
    mv_bl (w6 * (lN 100)) fun y4 =>
    mv_bi (v8 + (nI 1)) fun x5 =>
    q46 o0 v1 v2 v3 y3 y4 x5 h)
  else
  mv_gd (mv_inb (nI 3) 69) <|
  mv_bl (w4 * ((rI2 h 902 o0 (nI 3).toNatClampNeg).toInt64)) fun y6 =>
  mv_bl (w6 * (lN 100)) fun y7 =>
  mv_bi (v8 + (nI 1)) fun x8 =>
  q46 o0 v1 v2 v3 y6 y7 x8 h) := eN_odds_b46_g fN_in fN_lowest q46 q103 o0 v1 v2 v3 w4 w6 v8 h
set_option maxRecDepth 100000 in
set_option maxHeartbeats 1000000 in
theorem eN_odds_g (F1 : Int64 → Int64 → Int64 → H2 → O2) (F2 : Int64 → Int64 → Int32 → H2 → O2) (q46 : Nat → Int32 → Int32 → Int32 → Int64 → Int64 → Int32 → H2 → O2) (o0 : Nat) (v1 : Int32) (v2 : Int32) (v3 : Int32) (h : H2) : mv_blk rI2 rR2 ln2 wI2 wR2 nw2 cp2 bod none tN_odds [((0, 0), cN_inG_N_odds F1), ((0, 0), cN_lowestG_N_odds F2)] 0 0 [46] (fun pc lv st h ce sl => mv_gd (Nat.beq ce 0 && Nat.beq sl 0) (cond (Nat.beq pc 46) (mv_gR 0 8 lv fun o0 => mv_gI 1 lv fun v1 => mv_gI 2 lv fun v2 => mv_gI 3 lv fun v3 => mv_gL 4 lv fun w4 => mv_gL 6 lv fun w6 => mv_gI 8 lv fun v8 => mv_sE st (q46 o0 v1 v2 v3 w4 w6 v8 h)) (none))) 400 (mv_seek 0 tN_odds) [(0, Sum.inr (8, o0)), (1, Sum.inl (Value.int v1)), (2, Sum.inl (Value.int v2)), (3, Sum.inl (Value.int v3))] [] h 0 0 = (
  mv_rI (F1 v1.toInt64 (lN 0) (lN 8) h) fun r2 h1 =>
  if r2 = 0 then (
    some ([Sum.inl (Value.long (-(lN 1)))], h1))
  else
  mv_rI (F1 v2.toInt64 (lN 0) v1.toInt64 h1) fun r4 h3 =>
  if r4 = 0 then (
    some ([Sum.inl (Value.long (-(lN 1)))], h3))
  else
  mv_rI (F1 v3.toInt64 (lN 0) (lN 1) h3) fun r6 h5 =>
  if r6 = 0 then (
    some ([Sum.inl (Value.long (-(lN 1)))], h5))
  else
  mv_bl (lN 1) fun y7 =>
  mv_bl (lN 1) fun y8 =>
  mv_bi (nI 0) fun x9 =>
  q46 o0 v1 v2 v3 y7 y8 x9 h5) := rfl
theorem eN_odds (q46 : Nat → Int32 → Int32 → Int32 → Int64 → Int64 → Int32 → H2 → O2) (o0 : Nat) (v1 : Int32) (v2 : Int32) (v3 : Int32) (h : H2) : mv_blk rI2 rR2 ln2 wI2 wR2 nw2 cp2 bod none tN_odds gN_odds 0 0 [46] (fun pc lv st h ce sl => mv_gd (Nat.beq ce 0 && Nat.beq sl 0) (cond (Nat.beq pc 46) (mv_gR 0 8 lv fun o0 => mv_gI 1 lv fun v1 => mv_gI 2 lv fun v2 => mv_gI 3 lv fun v3 => mv_gL 4 lv fun w4 => mv_gL 6 lv fun w6 => mv_gI 8 lv fun v8 => mv_sE st (q46 o0 v1 v2 v3 w4 w6 v8 h)) (none))) 400 (mv_seek 0 tN_odds) [(0, Sum.inr (8, o0)), (1, Sum.inl (Value.int v1)), (2, Sum.inl (Value.int v2)), (3, Sum.inl (Value.int v3))] [] h 0 0 = (
  mv_rI (fN_in v1.toInt64 (lN 0) (lN 8) h) fun r2 h1 =>
  if r2 = 0 then (
    some ([Sum.inl (Value.long (-(lN 1)))], h1))
  else
  mv_rI (fN_in v2.toInt64 (lN 0) v1.toInt64 h1) fun r4 h3 =>
  if r4 = 0 then (
    some ([Sum.inl (Value.long (-(lN 1)))], h3))
  else
  mv_rI (fN_in v3.toInt64 (lN 0) (lN 1) h3) fun r6 h5 =>
  if r6 = 0 then (
    some ([Sum.inl (Value.long (-(lN 1)))], h5))
  else
  mv_bl (lN 1) fun y7 =>
  mv_bl (lN 1) fun y8 =>
  mv_bi (nI 0) fun x9 =>
  q46 o0 v1 v2 v3 y7 y8 x9 h5) := eN_odds_g fN_in fN_lowest q46 o0 v1 v2 v3 h
theorem GN_odds : ∀ (j : Nat) (C : mv_C H2) (md' : mv_MD × Bool), mv_nth j gN_odds = some C → mv_nth j nN_odds = some md' → ∃ n', n' + 1 ≤ 2 ∧ mv_Cal vw2 n' md' C := fun j C md' => match j with
  | 0 => fun h1 h2 => by
    obtain rfl := Option.some.inj h1
    obtain rfl := Option.some.inj h2
    exact ⟨1, by decide, cN_in_ok⟩
  | 1 => fun h1 h2 => by
    obtain rfl := Option.some.inj h1
    obtain rfl := Option.some.inj h2
    exact ⟨1, by decide, cN_lowest_ok⟩
  | jj + 2 => fun h1 _ => by cases jj <;> cases h1

set_option maxRecDepth 20000 in
theorem xN_odds_b103 {g0 : mv_G} {res : List mv_V × H2} : ∀ (n : Nat) (v1 : Int32) (v2 : Int32) (v3 : Int32) (w4 : Int64) (w6 : Int64) (w8 : Int64) (v10 : Int32) (h : H2), fN_odds_b103 n v1 v2 v3 w4 w6 w8 v10 h = some res → mv_X vw2 mdN_odds 2 0 0 none g0 res 103 [(1, Sum.inl (Value.int v1)), (2, Sum.inl (Value.int v2)), (3, Sum.inl (Value.int v3)), (4, Sum.inl (Value.long w4)), (6, Sum.inl (Value.long w6)), (8, Sum.inl (Value.long w8)), (10, Sum.inl (Value.int v10))] [] h 0 0 := by
  intro n
  induction n with
  | zero => intro v1 v2 v3 w4 w6 w8 v10 h hh; cases hh
  | succ n ih =>
    intro v1 v2 v3 w4 w6 w8 v10 h hh
    refine mv_blkX ax2 (GN_odds) (by decide) kN_odds (fun pc lv st h ce sl hh => ?_) ((eN_odds_b103 (fN_odds_b103 n) v1 v2 v3 w4 w6 w8 v10 h).trans hh)
    obtain ⟨hg, hh1⟩ := mv_gd_some hh
    obtain ⟨rfl, rfl⟩ := mv_z2 hg
    rcases mv_cond_some hh1 with ⟨hb, hh2⟩ | ⟨hb, hh3⟩
    · obtain rfl := Nat.eq_of_beq_eq_true hb
      obtain ⟨v1, m0, hh4⟩ := mv_gI_some hh2
      obtain ⟨v2, m1, hh5⟩ := mv_gI_some hh4
      obtain ⟨v3, m2, hh6⟩ := mv_gI_some hh5
      obtain ⟨w4, m3, hh7⟩ := mv_gL_some hh6
      obtain ⟨w6, m4, hh8⟩ := mv_gL_some hh7
      obtain ⟨w8, m5, hh9⟩ := mv_gL_some hh8
      obtain ⟨v10, m6, hh10⟩ := mv_gI_some hh9
      obtain ⟨rfl, hh11⟩ := mv_sE_some hh10
      exact (ih v1 v2 v3 w4 w6 w8 v10 h hh11).sub (List.forall_mem_cons.mpr ⟨m0, (List.forall_mem_cons.mpr ⟨m1, (List.forall_mem_cons.mpr ⟨m2, (List.forall_mem_cons.mpr ⟨m3, (List.forall_mem_cons.mpr ⟨m4, (List.forall_mem_cons.mpr ⟨m5, (List.forall_mem_cons.mpr ⟨m6, (fun q hq => by cases hq)⟩)⟩)⟩)⟩)⟩)⟩)⟩)
    cases hh3

set_option maxRecDepth 20000 in
theorem xN_odds_b46 {g0 : mv_G} {res : List mv_V × H2} : ∀ (n : Nat) (o0 : Nat) (v1 : Int32) (v2 : Int32) (v3 : Int32) (w4 : Int64) (w6 : Int64) (v8 : Int32) (h : H2), fN_odds_b46 n o0 v1 v2 v3 w4 w6 v8 h = some res → mv_X vw2 mdN_odds 2 0 0 none g0 res 46 [(0, Sum.inr (8, o0)), (1, Sum.inl (Value.int v1)), (2, Sum.inl (Value.int v2)), (3, Sum.inl (Value.int v3)), (4, Sum.inl (Value.long w4)), (6, Sum.inl (Value.long w6)), (8, Sum.inl (Value.int v8))] [] h 0 0 := by
  intro n
  induction n with
  | zero => intro o0 v1 v2 v3 w4 w6 v8 h hh; cases hh
  | succ n ih =>
    intro o0 v1 v2 v3 w4 w6 v8 h hh
    refine mv_blkX ax2 (GN_odds) (by decide) kN_odds (fun pc lv st h ce sl hh => ?_) ((eN_odds_b46 (fN_odds_b46 n) (fN_odds_b103 1000) o0 v1 v2 v3 w4 w6 v8 h).trans hh)
    obtain ⟨hg, hh1⟩ := mv_gd_some hh
    obtain ⟨rfl, rfl⟩ := mv_z2 hg
    rcases mv_cond_some hh1 with ⟨hb, hh2⟩ | ⟨hb, hh3⟩
    · obtain rfl := Nat.eq_of_beq_eq_true hb
      obtain ⟨o0, m0, hh4⟩ := mv_gR_some hh2
      obtain ⟨v1, m1, hh5⟩ := mv_gI_some hh4
      obtain ⟨v2, m2, hh6⟩ := mv_gI_some hh5
      obtain ⟨v3, m3, hh7⟩ := mv_gI_some hh6
      obtain ⟨w4, m4, hh8⟩ := mv_gL_some hh7
      obtain ⟨w6, m5, hh9⟩ := mv_gL_some hh8
      obtain ⟨v8, m6, hh10⟩ := mv_gI_some hh9
      obtain ⟨rfl, hh11⟩ := mv_sE_some hh10
      exact (ih o0 v1 v2 v3 w4 w6 v8 h hh11).sub (List.forall_mem_cons.mpr ⟨m0, (List.forall_mem_cons.mpr ⟨m1, (List.forall_mem_cons.mpr ⟨m2, (List.forall_mem_cons.mpr ⟨m3, (List.forall_mem_cons.mpr ⟨m4, (List.forall_mem_cons.mpr ⟨m5, (List.forall_mem_cons.mpr ⟨m6, (fun q hq => by cases hq)⟩)⟩)⟩)⟩)⟩)⟩)⟩)
    rcases mv_cond_some hh3 with ⟨hb, hh12⟩ | ⟨hb, hh13⟩
    · obtain rfl := Nat.eq_of_beq_eq_true hb
      obtain ⟨v1, m0, hh14⟩ := mv_gI_some hh12
      obtain ⟨v2, m1, hh15⟩ := mv_gI_some hh14
      obtain ⟨v3, m2, hh16⟩ := mv_gI_some hh15
      obtain ⟨w4, m3, hh17⟩ := mv_gL_some hh16
      obtain ⟨w6, m4, hh18⟩ := mv_gL_some hh17
      obtain ⟨w8, m5, hh19⟩ := mv_gL_some hh18
      obtain ⟨v10, m6, hh20⟩ := mv_gI_some hh19
      obtain ⟨rfl, hh21⟩ := mv_sE_some hh20
      exact (xN_odds_b103 1000 v1 v2 v3 w4 w6 w8 v10 h hh21).sub (List.forall_mem_cons.mpr ⟨m0, (List.forall_mem_cons.mpr ⟨m1, (List.forall_mem_cons.mpr ⟨m2, (List.forall_mem_cons.mpr ⟨m3, (List.forall_mem_cons.mpr ⟨m4, (List.forall_mem_cons.mpr ⟨m5, (List.forall_mem_cons.mpr ⟨m6, (fun q hq => by cases hq)⟩)⟩)⟩)⟩)⟩)⟩)⟩)
    cases hh13

set_option maxRecDepth 20000 in
theorem xN_odds {g0 : mv_G} {res : List mv_V × H2} (o0 : Nat) (v1 : Int32) (v2 : Int32) (v3 : Int32) (h : H2) (hh : fN_odds o0 v1 v2 v3 h = some res) : mv_X vw2 mdN_odds 2 0 0 none g0 res 0 [(0, Sum.inr (8, o0)), (1, Sum.inl (Value.int v1)), (2, Sum.inl (Value.int v2)), (3, Sum.inl (Value.int v3))] [] h 0 0 := by
  refine mv_blkX ax2 (GN_odds) (by decide) kN_odds (fun pc lv st h ce sl hh => ?_) ((eN_odds (fN_odds_b46 1000) o0 v1 v2 v3 h).trans hh)
  obtain ⟨hg, hh1⟩ := mv_gd_some hh
  obtain ⟨rfl, rfl⟩ := mv_z2 hg
  rcases mv_cond_some hh1 with ⟨hb, hh2⟩ | ⟨hb, hh3⟩
  · obtain rfl := Nat.eq_of_beq_eq_true hb
    obtain ⟨o0, m0, hh4⟩ := mv_gR_some hh2
    obtain ⟨v1, m1, hh5⟩ := mv_gI_some hh4
    obtain ⟨v2, m2, hh6⟩ := mv_gI_some hh5
    obtain ⟨v3, m3, hh7⟩ := mv_gI_some hh6
    obtain ⟨w4, m4, hh8⟩ := mv_gL_some hh7
    obtain ⟨w6, m5, hh9⟩ := mv_gL_some hh8
    obtain ⟨v8, m6, hh10⟩ := mv_gI_some hh9
    obtain ⟨rfl, hh11⟩ := mv_sE_some hh10
    exact (xN_odds_b46 1000 o0 v1 v2 v3 w4 w6 v8 h hh11).sub (List.forall_mem_cons.mpr ⟨m0, (List.forall_mem_cons.mpr ⟨m1, (List.forall_mem_cons.mpr ⟨m2, (List.forall_mem_cons.mpr ⟨m3, (List.forall_mem_cons.mpr ⟨m4, (List.forall_mem_cons.mpr ⟨m5, (List.forall_mem_cons.mpr ⟨m6, (fun q hq => by cases hq)⟩)⟩)⟩)⟩)⟩)⟩)⟩)
  cases hh3

theorem mN_odds (o0 : Nat) (v1 : Int32) (v2 : Int32) (v3 : Int32) (h : H2) (vs : List mv_V) (h' : H2) (hh : fN_odds o0 v1 v2 v3 h = some (vs, h')) : mv_Met vw2 2 0 0 mdN_odds [Sum.inr (8, o0), Sum.inl (Value.int v1), Sum.inl (Value.int v2), Sum.inl (Value.int v3)] h vs h' :=
  mv_Met_of (by decide +kernel) (Nat.le_of_ble_eq_true rfl) (xN_odds o0 v1 v2 v3 h hh)
