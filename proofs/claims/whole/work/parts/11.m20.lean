set_option maxRecDepth 100000 in
theorem kN_oddsAmong : mv_tok mdN_oddsAmong nN_oddsAmong tN_oddsAmong = true := by decide +kernel
def cN_isAtOddsG_N_oddsAmong (F1 : Nat → Int32 → Int32 → H2 → O2) : List mv_V → H2 → (List mv_V → H2 → O2) → O2 := fun as h k => match as with
  | [.inr (t0, o0), .inl (.int v1), .inl (.int v2)] => mv_gd (Nat.beq t0 8) <| mv_rI (F1 o0 v1 v2 h) fun x h => k [.inl (.int x)] h
  | _ => none
set_option maxRecDepth 100000 in
set_option maxHeartbeats 1000000 in
theorem eN_oddsAmong_b17_g (F1 : Nat → Int32 → Int32 → H2 → O2) (q4 : Nat → Int32 → Int32 → H2 → O2) (q17 : Nat → Int32 → Int32 → Int32 → H2 → O2) (o0 : Nat) (v1 : Int32) (v2 : Int32) (v3 : Int32) (h : H2) : mv_blk rI2 rR2 ln2 wI2 wR2 nw2 cp2 bod none tN_oddsAmong [((0, 0), cN_isAtOddsG_N_oddsAmong F1)] 0 0 [4, 17] (fun pc lv st h ce sl => mv_gd (Nat.beq ce 0 && Nat.beq sl 0) (cond (Nat.beq pc 4) (mv_gR 0 8 lv fun o0 => mv_gI 1 lv fun v1 => mv_gI 2 lv fun v2 => mv_sE st (q4 o0 v1 v2 h)) (cond (Nat.beq pc 17) (mv_gR 0 8 lv fun o0 => mv_gI 1 lv fun v1 => mv_gI 2 lv fun v2 => mv_gI 3 lv fun v3 => mv_sE st (q17 o0 v1 v2 v3 h)) (none)))) 400 (mv_seek 17 tN_oddsAmong) [(0, Sum.inr (8, o0)), (1, Sum.inl (Value.int v1)), (2, Sum.inl (Value.int v2)), (3, Sum.inl (Value.int v3))] [] h 0 0 = (
  if v2 ≤ v3 then (
    mv_bi (v2 + (nI 1)) fun x1 =>
    q4 o0 v1 x1 h)
  else
  mv_rI (F1 o0 v2 v3 h) fun r3 h2 =>
  if r3 = 0 then (
    mv_bi (v1 + (nI 0)) fun x4 =>
    mv_bi (v3 + (nI 1)) fun x5 =>
    q17 o0 x4 v2 x5 h2)
  else
  mv_bi (v1 + (nI 1)) fun x6 =>
  mv_bi (v3 + (nI 1)) fun x7 =>
  q17 o0 x6 v2 x7 h2) := rfl
theorem eN_oddsAmong_b17 (q4 : Nat → Int32 → Int32 → H2 → O2) (q17 : Nat → Int32 → Int32 → Int32 → H2 → O2) (o0 : Nat) (v1 : Int32) (v2 : Int32) (v3 : Int32) (h : H2) : mv_blk rI2 rR2 ln2 wI2 wR2 nw2 cp2 bod none tN_oddsAmong gN_oddsAmong 0 0 [4, 17] (fun pc lv st h ce sl => mv_gd (Nat.beq ce 0 && Nat.beq sl 0) (cond (Nat.beq pc 4) (mv_gR 0 8 lv fun o0 => mv_gI 1 lv fun v1 => mv_gI 2 lv fun v2 => mv_sE st (q4 o0 v1 v2 h)) (cond (Nat.beq pc 17) (mv_gR 0 8 lv fun o0 => mv_gI 1 lv fun v1 => mv_gI 2 lv fun v2 => mv_gI 3 lv fun v3 => mv_sE st (q17 o0 v1 v2 v3 h)) (none)))) 400 (mv_seek 17 tN_oddsAmong) [(0, Sum.inr (8, o0)), (1, Sum.inl (Value.int v1)), (2, Sum.inl (Value.int v2)), (3, Sum.inl (Value.int v3))] [] h 0 0 = (
  if v2 ≤ v3 then (
    mv_bi (v2 + (nI 1)) fun x1 =>
    q4 o0 v1 x1 h)
  else
  mv_rI (fN_isAtOdds o0 v2 v3 h) fun r3 h2 =>
  if r3 = 0 then (
    mv_bi (v1 + (nI 0)) fun x4 =>
    mv_bi (v3 + (nI 1)) fun x5 =>
    q17 o0 x4 v2 x5 h2)
  else
  mv_bi (v1 + (nI 1)) fun x6 =>
  mv_bi (v3 + (nI 1)) fun x7 =>
  q17 o0 x6 v2 x7 h2) := eN_oddsAmong_b17_g fN_isAtOdds q4 q17 o0 v1 v2 v3 h
set_option maxRecDepth 100000 in
set_option maxHeartbeats 1000000 in
theorem eN_oddsAmong_b4_g (F1 : Nat → Int32 → Int32 → H2 → O2) (q17 : Nat → Int32 → Int32 → Int32 → H2 → O2) (o0 : Nat) (v1 : Int32) (v2 : Int32) (h : H2) : mv_blk rI2 rR2 ln2 wI2 wR2 nw2 cp2 bod none tN_oddsAmong [((0, 0), cN_isAtOddsG_N_oddsAmong F1)] 0 0 [17] (fun pc lv st h ce sl => mv_gd (Nat.beq ce 0 && Nat.beq sl 0) (cond (Nat.beq pc 17) (mv_gR 0 8 lv fun o0 => mv_gI 1 lv fun v1 => mv_gI 2 lv fun v2 => mv_gI 3 lv fun v3 => mv_sE st (q17 o0 v1 v2 v3 h)) (none))) 400 (mv_seek 4 tN_oddsAmong) [(0, Sum.inr (8, o0)), (1, Sum.inl (Value.int v1)), (2, Sum.inl (Value.int v2))] [] h 0 0 = (
  mv_gd (mv_inb (nI 6) 69) <|
  if (rI2 h 902 o0 (nI 6).toNatClampNeg) ≤ v2 then (
    some ([Sum.inl (Value.int v1)], h))
  else
  mv_bi (nI 0) fun x1 =>
  q17 o0 v1 v2 x1 h) := rfl
theorem eN_oddsAmong_b4 (q17 : Nat → Int32 → Int32 → Int32 → H2 → O2) (o0 : Nat) (v1 : Int32) (v2 : Int32) (h : H2) : mv_blk rI2 rR2 ln2 wI2 wR2 nw2 cp2 bod none tN_oddsAmong gN_oddsAmong 0 0 [17] (fun pc lv st h ce sl => mv_gd (Nat.beq ce 0 && Nat.beq sl 0) (cond (Nat.beq pc 17) (mv_gR 0 8 lv fun o0 => mv_gI 1 lv fun v1 => mv_gI 2 lv fun v2 => mv_gI 3 lv fun v3 => mv_sE st (q17 o0 v1 v2 v3 h)) (none))) 400 (mv_seek 4 tN_oddsAmong) [(0, Sum.inr (8, o0)), (1, Sum.inl (Value.int v1)), (2, Sum.inl (Value.int v2))] [] h 0 0 = (
  mv_gd (mv_inb (nI 6) 69) <|
  if (rI2 h 902 o0 (nI 6).toNatClampNeg) ≤ v2 then (
    some ([Sum.inl (Value.int v1)], h))
  else
  mv_bi (nI 0) fun x1 =>
  q17 o0 v1 v2 x1 h) := eN_oddsAmong_b4_g fN_isAtOdds q17 o0 v1 v2 h
set_option maxRecDepth 100000 in
set_option maxHeartbeats 1000000 in
theorem eN_oddsAmong_g (F1 : Nat → Int32 → Int32 → H2 → O2) (q4 : Nat → Int32 → Int32 → H2 → O2) (o0 : Nat) (h : H2) : mv_blk rI2 rR2 ln2 wI2 wR2 nw2 cp2 bod none tN_oddsAmong [((0, 0), cN_isAtOddsG_N_oddsAmong F1)] 0 0 [4] (fun pc lv st h ce sl => mv_gd (Nat.beq ce 0 && Nat.beq sl 0) (cond (Nat.beq pc 4) (mv_gR 0 8 lv fun o0 => mv_gI 1 lv fun v1 => mv_gI 2 lv fun v2 => mv_sE st (q4 o0 v1 v2 h)) (none))) 400 (mv_seek 0 tN_oddsAmong) [(0, Sum.inr (8, o0))] [] h 0 0 = (
  mv_bi (nI 0) fun x1 =>
  mv_bi (nI 0) fun x2 =>
  q4 o0 x1 x2 h) := rfl
theorem eN_oddsAmong (q4 : Nat → Int32 → Int32 → H2 → O2) (o0 : Nat) (h : H2) : mv_blk rI2 rR2 ln2 wI2 wR2 nw2 cp2 bod none tN_oddsAmong gN_oddsAmong 0 0 [4] (fun pc lv st h ce sl => mv_gd (Nat.beq ce 0 && Nat.beq sl 0) (cond (Nat.beq pc 4) (mv_gR 0 8 lv fun o0 => mv_gI 1 lv fun v1 => mv_gI 2 lv fun v2 => mv_sE st (q4 o0 v1 v2 h)) (none))) 400 (mv_seek 0 tN_oddsAmong) [(0, Sum.inr (8, o0))] [] h 0 0 = (
  mv_bi (nI 0) fun x1 =>
  mv_bi (nI 0) fun x2 =>
  q4 o0 x1 x2 h) := eN_oddsAmong_g fN_isAtOdds q4 o0 h
theorem GN_oddsAmong : ∀ (j : Nat) (C : mv_C H2) (md' : mv_MD × Bool), mv_nth j gN_oddsAmong = some C → mv_nth j nN_oddsAmong = some md' → ∃ n', n' + 1 ≤ 3 ∧ mv_Cal vw2 n' md' C := fun j C md' => match j with
  | 0 => fun h1 h2 => by
    obtain rfl := Option.some.inj h1
    obtain rfl := Option.some.inj h2
    exact ⟨2, by decide, cN_isAtOdds_ok⟩
  | jj + 1 => fun h1 _ => by cases jj <;> cases h1

set_option maxRecDepth 20000 in
theorem xN_oddsAmong_b17 {g0 : mv_G} {res : List mv_V × H2} {k4 : Nat → Int32 → Int32 → H2 → O2} (hk4 : ∀ (o0 : Nat) (v1 : Int32) (v2 : Int32) h, k4 o0 v1 v2 h = some res → mv_X vw2 mdN_oddsAmong 3 0 0 none g0 res 4 [(0, Sum.inr (8, o0)), (1, Sum.inl (Value.int v1)), (2, Sum.inl (Value.int v2))] [] h 0 0) : ∀ (n : Nat) (o0 : Nat) (v1 : Int32) (v2 : Int32) (v3 : Int32) (h : H2), fN_oddsAmong_b17 k4 n o0 v1 v2 v3 h = some res → mv_X vw2 mdN_oddsAmong 3 0 0 none g0 res 17 [(0, Sum.inr (8, o0)), (1, Sum.inl (Value.int v1)), (2, Sum.inl (Value.int v2)), (3, Sum.inl (Value.int v3))] [] h 0 0 := by
  intro n
  induction n with
  | zero => intro o0 v1 v2 v3 h hh; cases hh
  | succ n ih =>
    intro o0 v1 v2 v3 h hh
    refine mv_blkX ax2 (GN_oddsAmong) (by decide) kN_oddsAmong (fun pc lv st h ce sl hh => ?_) ((eN_oddsAmong_b17 (k4) (fN_oddsAmong_b17 k4 n) o0 v1 v2 v3 h).trans hh)
    obtain ⟨hg, hh1⟩ := mv_gd_some hh
    obtain ⟨rfl, rfl⟩ := mv_z2 hg
    rcases mv_cond_some hh1 with ⟨hb, hh2⟩ | ⟨hb, hh3⟩
    · obtain rfl := Nat.eq_of_beq_eq_true hb
      obtain ⟨o0, m0, hh4⟩ := mv_gR_some hh2
      obtain ⟨v1, m1, hh5⟩ := mv_gI_some hh4
      obtain ⟨v2, m2, hh6⟩ := mv_gI_some hh5
      obtain ⟨rfl, hh7⟩ := mv_sE_some hh6
      exact (hk4 o0 v1 v2 h hh7).sub (List.forall_mem_cons.mpr ⟨m0, (List.forall_mem_cons.mpr ⟨m1, (List.forall_mem_cons.mpr ⟨m2, (fun q hq => by cases hq)⟩)⟩)⟩)
    rcases mv_cond_some hh3 with ⟨hb, hh8⟩ | ⟨hb, hh9⟩
    · obtain rfl := Nat.eq_of_beq_eq_true hb
      obtain ⟨o0, m0, hh10⟩ := mv_gR_some hh8
      obtain ⟨v1, m1, hh11⟩ := mv_gI_some hh10
      obtain ⟨v2, m2, hh12⟩ := mv_gI_some hh11
      obtain ⟨v3, m3, hh13⟩ := mv_gI_some hh12
      obtain ⟨rfl, hh14⟩ := mv_sE_some hh13
      exact (ih o0 v1 v2 v3 h hh14).sub (List.forall_mem_cons.mpr ⟨m0, (List.forall_mem_cons.mpr ⟨m1, (List.forall_mem_cons.mpr ⟨m2, (List.forall_mem_cons.mpr ⟨m3, (fun q hq => by cases hq)⟩)⟩)⟩)⟩)
    cases hh9

set_option maxRecDepth 20000 in
theorem xN_oddsAmong_b4 {g0 : mv_G} {res : List mv_V × H2} : ∀ (n : Nat) (o0 : Nat) (v1 : Int32) (v2 : Int32) (h : H2), fN_oddsAmong_b4 n o0 v1 v2 h = some res → mv_X vw2 mdN_oddsAmong 3 0 0 none g0 res 4 [(0, Sum.inr (8, o0)), (1, Sum.inl (Value.int v1)), (2, Sum.inl (Value.int v2))] [] h 0 0 := by
  intro n
  induction n with
  | zero => intro o0 v1 v2 h hh; cases hh
  | succ n ih =>
    intro o0 v1 v2 h hh
    refine mv_blkX ax2 (GN_oddsAmong) (by decide) kN_oddsAmong (fun pc lv st h ce sl hh => ?_) ((eN_oddsAmong_b4 (fN_oddsAmong_b17 (fN_oddsAmong_b4 n) 1000) o0 v1 v2 h).trans hh)
    obtain ⟨hg, hh1⟩ := mv_gd_some hh
    obtain ⟨rfl, rfl⟩ := mv_z2 hg
    rcases mv_cond_some hh1 with ⟨hb, hh2⟩ | ⟨hb, hh3⟩
    · obtain rfl := Nat.eq_of_beq_eq_true hb
      obtain ⟨o0, m0, hh4⟩ := mv_gR_some hh2
      obtain ⟨v1, m1, hh5⟩ := mv_gI_some hh4
      obtain ⟨v2, m2, hh6⟩ := mv_gI_some hh5
      obtain ⟨v3, m3, hh7⟩ := mv_gI_some hh6
      obtain ⟨rfl, hh8⟩ := mv_sE_some hh7
      exact (xN_oddsAmong_b17 ih 1000 o0 v1 v2 v3 h hh8).sub (List.forall_mem_cons.mpr ⟨m0, (List.forall_mem_cons.mpr ⟨m1, (List.forall_mem_cons.mpr ⟨m2, (List.forall_mem_cons.mpr ⟨m3, (fun q hq => by cases hq)⟩)⟩)⟩)⟩)
    cases hh3

set_option maxRecDepth 20000 in
theorem xN_oddsAmong {g0 : mv_G} {res : List mv_V × H2} (o0 : Nat) (h : H2) (hh : fN_oddsAmong o0 h = some res) : mv_X vw2 mdN_oddsAmong 3 0 0 none g0 res 0 [(0, Sum.inr (8, o0))] [] h 0 0 := by
  refine mv_blkX ax2 (GN_oddsAmong) (by decide) kN_oddsAmong (fun pc lv st h ce sl hh => ?_) ((eN_oddsAmong (fN_oddsAmong_b4 1000) o0 h).trans hh)
  obtain ⟨hg, hh1⟩ := mv_gd_some hh
  obtain ⟨rfl, rfl⟩ := mv_z2 hg
  rcases mv_cond_some hh1 with ⟨hb, hh2⟩ | ⟨hb, hh3⟩
  · obtain rfl := Nat.eq_of_beq_eq_true hb
    obtain ⟨o0, m0, hh4⟩ := mv_gR_some hh2
    obtain ⟨v1, m1, hh5⟩ := mv_gI_some hh4
    obtain ⟨v2, m2, hh6⟩ := mv_gI_some hh5
    obtain ⟨rfl, hh7⟩ := mv_sE_some hh6
    exact (xN_oddsAmong_b4 1000 o0 v1 v2 h hh7).sub (List.forall_mem_cons.mpr ⟨m0, (List.forall_mem_cons.mpr ⟨m1, (List.forall_mem_cons.mpr ⟨m2, (fun q hq => by cases hq)⟩)⟩)⟩)
  cases hh3

theorem mN_oddsAmong (o0 : Nat) (h : H2) (vs : List mv_V) (h' : H2) (hh : fN_oddsAmong o0 h = some (vs, h')) : mv_Met vw2 3 0 0 mdN_oddsAmong [Sum.inr (8, o0)] h vs h' :=
  mv_Met_of (by decide +kernel) (Nat.le_of_ble_eq_true rfl) (xN_oddsAmong o0 h hh)
theorem cN_oddsAmong_ok : mv_Cal vw2 3 (mdN_oddsAmong, true) ((0, 0), cN_oddsAmong) := by
  intro as h k res hh
  change cN_oddsAmong as h k = some res at hh
  unfold cN_oddsAmong at hh
  split at hh
  · obtain ⟨hg0, ha0⟩ := mv_gd_some hh
    obtain rfl := Nat.eq_of_beq_eq_true hg0
    obtain ⟨x, h', h1, h9⟩ := mv_rI_some ha0
    exact ⟨_, _, h9, (by first | decide | exact Nat.le_refl _ | exact Nat.zero_le _), fun _ => ⟨_, _, _, rfl, Or.inl ⟨by decide, rfl⟩⟩, (mN_oddsAmong _ h _ _ h1)⟩
  · cases hh

set_option maxRecDepth 100000 in
theorem kN_state : mv_tok mdN_state nN_state tN_state = true := by decide +kernel
def cN_aboutSetG_N_state (F1 : Nat → H2 → O2) : List mv_V → H2 → (List mv_V → H2 → O2) → O2 := fun as h k => match as with
  | [.inr (t0, o0)] => mv_gd (Nat.beq t0 8) <| mv_rI (F1 o0 h) fun x h => k [.inl (.int x)] h
  | _ => none
def cN_depthsG_N_state (F2 : Nat → H2 → O2) : List mv_V → H2 → (List mv_V → H2 → O2) → O2 := fun as h k => match as with
  | [.inr (t0, o0)] => mv_gd (Nat.beq t0 8) <| mv_rI (F2 o0 h) fun x h => k [.inl (.int x)] h
  | _ => none
def cN_hungSetG_N_state (F3 : Nat → H2 → O2) : List mv_V → H2 → (List mv_V → H2 → O2) → O2 := fun as h k => match as with
  | [.inr (t0, o0)] => mv_gd (Nat.beq t0 8) <| mv_rI (F3 o0 h) fun x h => k [.inl (.int x)] h
  | _ => none
def cN_oddsAmongG_N_state (F4 : Nat → H2 → O2) : List mv_V → H2 → (List mv_V → H2 → O2) → O2 := fun as h k => match as with
  | [.inr (t0, o0)] => mv_gd (Nat.beq t0 8) <| mv_rI (F4 o0 h) fun x h => k [.inl (.int x)] h
  | _ => none
set_option maxRecDepth 100000 in
set_option maxHeartbeats 1000000 in
theorem eN_state_g (F1 : Nat → H2 → O2) (F2 : Nat → H2 → O2) (F3 : Nat → H2 → O2) (F4 : Nat → H2 → O2) (o0 : Nat) (v1 : Int32) (h : H2) : mv_blk rI2 rR2 ln2 wI2 wR2 nw2 cp2 bod none tN_state [((0, 0), cN_hungSetG_N_state F3), ((0, 0), cN_aboutSetG_N_state F1), ((0, 0), cN_depthsG_N_state F2), ((0, 0), cN_oddsAmongG_N_state F4)] 0 0 [] (fun _ _ _ _ _ _ => none) 400 (mv_seek 0 tN_state) [(0, Sum.inr (8, o0)), (1, Sum.inl (Value.int v1))] [] h 0 0 = (
  if v1 = nI 0 then (
    mv_gd (mv_inb (nI 4) 69) <|
    some ([Sum.inl (Value.int (rI2 h 902 o0 (nI 4).toNatClampNeg))], h))
  else
  if v1 = nI 1 then (
    mv_gd (mv_inb (nI 4) 69) <|
    mv_gd (!decide ((nI 6) = 0)) <|
    mv_gd (mv_inb ((nI 23) + ((rI2 h 902 o0 (nI 4).toNatClampNeg) - (rI2 h 902 o0 (nI 4).toNatClampNeg) / (nI 6) * (nI 6))) 69) <|
    some ([Sum.inl (Value.int ((nI 1) + (rI2 h 902 o0 ((nI 23) + ((rI2 h 902 o0 (nI 4).toNatClampNeg) - (rI2 h 902 o0 (nI 4).toNatClampNeg) / (nI 6) * (nI 6))).toNatClampNeg)))], h))
  else
  if v1 = nI 2 then (
    mv_rI (F3 o0 h) fun r2 h1 =>
    some ([Sum.inl (Value.int r2)], h1))
  else
  if v1 = nI 3 then (
    mv_rI (F1 o0 h) fun r4 h3 =>
    some ([Sum.inl (Value.int r4)], h3))
  else
  if v1 = nI 4 then (
    mv_rI (F2 o0 h) fun r6 h5 =>
    some ([Sum.inl (Value.int r6)], h5))
  else
  if v1 = nI 5 then (
    mv_rI (F4 o0 h) fun r8 h7 =>
    some ([Sum.inl (Value.int r8)], h7))
  else
  some ([Sum.inl (Value.int (-(nI 1)))], h)) := rfl
theorem eN_state (o0 : Nat) (v1 : Int32) (h : H2) : mv_blk rI2 rR2 ln2 wI2 wR2 nw2 cp2 bod none tN_state gN_state 0 0 [] (fun _ _ _ _ _ _ => none) 400 (mv_seek 0 tN_state) [(0, Sum.inr (8, o0)), (1, Sum.inl (Value.int v1))] [] h 0 0 = (
  if v1 = nI 0 then (
    mv_gd (mv_inb (nI 4) 69) <|
    some ([Sum.inl (Value.int (rI2 h 902 o0 (nI 4).toNatClampNeg))], h))
  else
  if v1 = nI 1 then (
    mv_gd (mv_inb (nI 4) 69) <|
    mv_gd (!decide ((nI 6) = 0)) <|
    mv_gd (mv_inb ((nI 23) + ((rI2 h 902 o0 (nI 4).toNatClampNeg) - (rI2 h 902 o0 (nI 4).toNatClampNeg) / (nI 6) * (nI 6))) 69) <|
    some ([Sum.inl (Value.int ((nI 1) + (rI2 h 902 o0 ((nI 23) + ((rI2 h 902 o0 (nI 4).toNatClampNeg) - (rI2 h 902 o0 (nI 4).toNatClampNeg) / (nI 6) * (nI 6))).toNatClampNeg)))], h))
  else
  if v1 = nI 2 then (
    mv_rI (fN_hungSet o0 h) fun r2 h1 =>
    some ([Sum.inl (Value.int r2)], h1))
  else
  if v1 = nI 3 then (
    mv_rI (fN_aboutSet o0 h) fun r4 h3 =>
    some ([Sum.inl (Value.int r4)], h3))
  else
  if v1 = nI 4 then (
    mv_rI (fN_depths o0 h) fun r6 h5 =>
    some ([Sum.inl (Value.int r6)], h5))
  else
  if v1 = nI 5 then (
    mv_rI (fN_oddsAmong o0 h) fun r8 h7 =>
    some ([Sum.inl (Value.int r8)], h7))
  else
  some ([Sum.inl (Value.int (-(nI 1)))], h)) := eN_state_g fN_aboutSet fN_depths fN_hungSet fN_oddsAmong o0 v1 h
theorem GN_state : ∀ (j : Nat) (C : mv_C H2) (md' : mv_MD × Bool), mv_nth j gN_state = some C → mv_nth j nN_state = some md' → ∃ n', n' + 1 ≤ 4 ∧ mv_Cal vw2 n' md' C := fun j C md' => match j with
  | 0 => fun h1 h2 => by
    obtain rfl := Option.some.inj h1
    obtain rfl := Option.some.inj h2
    exact ⟨2, by decide, cN_hungSet_ok⟩
  | 1 => fun h1 h2 => by
    obtain rfl := Option.some.inj h1
    obtain rfl := Option.some.inj h2
    exact ⟨2, by decide, cN_aboutSet_ok⟩
  | 2 => fun h1 h2 => by
    obtain rfl := Option.some.inj h1
    obtain rfl := Option.some.inj h2
    exact ⟨2, by decide, cN_depths_ok⟩
  | 3 => fun h1 h2 => by
    obtain rfl := Option.some.inj h1
    obtain rfl := Option.some.inj h2
    exact ⟨3, by decide, cN_oddsAmong_ok⟩
  | jj + 4 => fun h1 _ => by cases jj <;> cases h1

set_option maxRecDepth 20000 in
theorem xN_state {g0 : mv_G} {res : List mv_V × H2} (o0 : Nat) (v1 : Int32) (h : H2) (hh : fN_state o0 v1 h = some res) : mv_X vw2 mdN_state 4 0 0 none g0 res 0 [(0, Sum.inr (8, o0)), (1, Sum.inl (Value.int v1))] [] h 0 0 := by
  refine mv_blkX ax2 (GN_state) (by decide) kN_state (fun pc lv st h ce sl hh => ?_) ((eN_state  o0 v1 h).trans hh)
  cases hh

theorem mN_state (o0 : Nat) (v1 : Int32) (h : H2) (vs : List mv_V) (h' : H2) (hh : fN_state o0 v1 h = some (vs, h')) : mv_Met vw2 4 0 0 mdN_state [Sum.inr (8, o0), Sum.inl (Value.int v1)] h vs h' :=
  mv_Met_of (by decide +kernel) (Nat.le_of_ble_eq_true rfl) (xN_state o0 v1 h hh)
set_option maxRecDepth 100000 in
theorem kN_isAhead : mv_tok mdN_isAhead nN_isAhead tN_isAhead = true := by decide +kernel
def cN_inG_N_isAhead (F1 : Int64 → Int64 → Int64 → H2 → O2) : List mv_V → H2 → (List mv_V → H2 → O2) → O2 := fun as h k => match as with
  | [.inl (.long w0), .inl (.long w2), .inl (.long w4)] => mv_rI (F1 w0 w2 w4 h) fun x h => k [.inl (.int x)] h
  | _ => none
set_option maxRecDepth 100000 in
set_option maxHeartbeats 1000000 in
theorem eN_isAhead_g (F1 : Int64 → Int64 → Int64 → H2 → O2) (v0 : Int32) (h : H2) : mv_blk rI2 rR2 ln2 wI2 wR2 nw2 cp2 bod none tN_isAhead [((0, 0), cN_inG_N_isAhead F1)] 0 0 [] (fun _ _ _ _ _ _ => none) 400 (mv_seek 0 tN_isAhead) [(0, Sum.inl (Value.int v0))] [] h 0 0 = (
  mv_rI (F1 v0.toInt64 (lN 0) (lN 60) h) fun r2 h1 =>
  mv_gd (decide (r2 = nI 0) || decide (r2 = nI 1)) <| some ([Sum.inl (Value.int r2)], h1)) := rfl
theorem eN_isAhead (v0 : Int32) (h : H2) : mv_blk rI2 rR2 ln2 wI2 wR2 nw2 cp2 bod none tN_isAhead gN_isAhead 0 0 [] (fun _ _ _ _ _ _ => none) 400 (mv_seek 0 tN_isAhead) [(0, Sum.inl (Value.int v0))] [] h 0 0 = (
  mv_rI (fN_in v0.toInt64 (lN 0) (lN 60) h) fun r2 h1 =>
  mv_gd (decide (r2 = nI 0) || decide (r2 = nI 1)) <| some ([Sum.inl (Value.int r2)], h1)) := eN_isAhead_g fN_in v0 h
theorem GN_isAhead : ∀ (j : Nat) (C : mv_C H2) (md' : mv_MD × Bool), mv_nth j gN_isAhead = some C → mv_nth j nN_isAhead = some md' → ∃ n', n' + 1 ≤ 2 ∧ mv_Cal vw2 n' md' C := fun j C md' => match j with
  | 0 => fun h1 h2 => by
    obtain rfl := Option.some.inj h1
    obtain rfl := Option.some.inj h2
    exact ⟨1, by decide, cN_in_ok⟩
  | jj + 1 => fun h1 _ => by cases jj <;> cases h1

set_option maxRecDepth 20000 in
theorem xN_isAhead {g0 : mv_G} {res : List mv_V × H2} (v0 : Int32) (h : H2) (hh : fN_isAhead v0 h = some res) : mv_X vw2 mdN_isAhead 2 0 0 none g0 res 0 [(0, Sum.inl (Value.int v0))] [] h 0 0 := by
  refine mv_blkX ax2 (GN_isAhead) (by decide) kN_isAhead (fun pc lv st h ce sl hh => ?_) ((eN_isAhead  v0 h).trans hh)
  cases hh

theorem mN_isAhead (v0 : Int32) (h : H2) (vs : List mv_V) (h' : H2) (hh : fN_isAhead v0 h = some (vs, h')) : mv_Met vw2 2 0 0 mdN_isAhead [Sum.inl (Value.int v0)] h vs h' :=
  mv_Met_of (by decide +kernel) (Nat.le_of_ble_eq_true rfl) (xN_isAhead v0 h hh)
theorem cN_isAhead_ok : mv_Cal vw2 2 (mdN_isAhead, false) ((0, 0), cN_isAhead) := by
  intro as h k res hh
  change cN_isAhead as h k = some res at hh
  unfold cN_isAhead at hh
  split at hh
  · obtain ⟨x, h', h1, h9⟩ := mv_rI_some hh
    exact ⟨_, _, h9, (by first | decide | exact Nat.le_refl _ | exact Nat.zero_le _), (fun h => by cases h), (mN_isAhead _ h _ _ h1)⟩
  · cases hh

set_option maxRecDepth 100000 in
theorem kN_isSoon : mv_tok mdN_isSoon nN_isSoon tN_isSoon = true := by decide +kernel
def cN_inG_N_isSoon (F1 : Int64 → Int64 → Int64 → H2 → O2) : List mv_V → H2 → (List mv_V → H2 → O2) → O2 := fun as h k => match as with
  | [.inl (.long w0), .inl (.long w2), .inl (.long w4)] => mv_rI (F1 w0 w2 w4 h) fun x h => k [.inl (.int x)] h
  | _ => none
set_option maxRecDepth 100000 in
set_option maxHeartbeats 1000000 in
theorem eN_isSoon_g (F1 : Int64 → Int64 → Int64 → H2 → O2) (v0 : Int32) (h : H2) : mv_blk rI2 rR2 ln2 wI2 wR2 nw2 cp2 bod none tN_isSoon [((0, 0), cN_inG_N_isSoon F1)] 0 0 [] (fun _ _ _ _ _ _ => none) 400 (mv_seek 0 tN_isSoon) [(0, Sum.inl (Value.int v0))] [] h 0 0 = (
  mv_rI (F1 v0.toInt64 (lN 1) (lN 40) h) fun r2 h1 =>
  mv_gd (decide (r2 = nI 0) || decide (r2 = nI 1)) <| some ([Sum.inl (Value.int r2)], h1)) := rfl
theorem eN_isSoon (v0 : Int32) (h : H2) : mv_blk rI2 rR2 ln2 wI2 wR2 nw2 cp2 bod none tN_isSoon gN_isSoon 0 0 [] (fun _ _ _ _ _ _ => none) 400 (mv_seek 0 tN_isSoon) [(0, Sum.inl (Value.int v0))] [] h 0 0 = (
  mv_rI (fN_in v0.toInt64 (lN 1) (lN 40) h) fun r2 h1 =>
  mv_gd (decide (r2 = nI 0) || decide (r2 = nI 1)) <| some ([Sum.inl (Value.int r2)], h1)) := eN_isSoon_g fN_in v0 h
theorem GN_isSoon : ∀ (j : Nat) (C : mv_C H2) (md' : mv_MD × Bool), mv_nth j gN_isSoon = some C → mv_nth j nN_isSoon = some md' → ∃ n', n' + 1 ≤ 2 ∧ mv_Cal vw2 n' md' C := fun j C md' => match j with
  | 0 => fun h1 h2 => by
    obtain rfl := Option.some.inj h1
    obtain rfl := Option.some.inj h2
    exact ⟨1, by decide, cN_in_ok⟩
  | jj + 1 => fun h1 _ => by cases jj <;> cases h1

set_option maxRecDepth 20000 in
theorem xN_isSoon {g0 : mv_G} {res : List mv_V × H2} (v0 : Int32) (h : H2) (hh : fN_isSoon v0 h = some res) : mv_X vw2 mdN_isSoon 2 0 0 none g0 res 0 [(0, Sum.inl (Value.int v0))] [] h 0 0 := by
  refine mv_blkX ax2 (GN_isSoon) (by decide) kN_isSoon (fun pc lv st h ce sl hh => ?_) ((eN_isSoon  v0 h).trans hh)
  cases hh

theorem mN_isSoon (v0 : Int32) (h : H2) (vs : List mv_V) (h' : H2) (hh : fN_isSoon v0 h = some (vs, h')) : mv_Met vw2 2 0 0 mdN_isSoon [Sum.inl (Value.int v0)] h vs h' :=
  mv_Met_of (by decide +kernel) (Nat.le_of_ble_eq_true rfl) (xN_isSoon v0 h hh)
theorem cN_isSoon_ok : mv_Cal vw2 2 (mdN_isSoon, false) ((0, 0), cN_isSoon) := by
  intro as h k res hh
  change cN_isSoon as h k = some res at hh
  unfold cN_isSoon at hh
  split at hh
  · obtain ⟨x, h', h1, h9⟩ := mv_rI_some hh
    exact ⟨_, _, h9, (by first | decide | exact Nat.le_refl _ | exact Nat.zero_le _), (fun h => by cases h), (mN_isSoon _ h _ _ h1)⟩
  · cases hh

set_option maxRecDepth 100000 in
theorem kN_behind : mv_tok mdN_behind nN_behind tN_behind = true := by decide +kernel
def cN_goesG_N_behind (F1 : Nat → Int32 → H2 → O2) : List mv_V → H2 → (List mv_V → H2 → O2) → O2 := fun as h k => match as with
  | [.inr (t0, o0), .inl (.int v1)] => mv_gd (Nat.beq t0 8) <| mv_rV (F1 o0 v1 h) fun h => k [] h
  | _ => none
def cN_itsG_N_behind (F2 : Nat → Int32 → Int32 → H2 → O2) : List mv_V → H2 → (List mv_V → H2 → O2) → O2 := fun as h k => match as with
  | [.inr (t0, o0), .inl (.int v1), .inl (.int v2)] => mv_gd (Nat.beq t0 8) <| mv_rI (F2 o0 v1 v2 h) fun x h => k [.inl (.int x)] h
  | _ => none
def cN_laysBackG_N_behind (F3 : Nat → H2 → O2) : List mv_V → H2 → (List mv_V → H2 → O2) → O2 := fun as h k => match as with
  | [.inr (t0, o0)] => mv_gd (Nat.beq t0 8) <| mv_rV (F3 o0 h) fun h => k [] h
  | _ => none
set_option maxRecDepth 100000 in
set_option maxHeartbeats 1000000 in
theorem eN_behind_g (F1 : Nat → Int32 → H2 → O2) (F2 : Nat → Int32 → Int32 → H2 → O2) (F3 : Nat → H2 → O2) (o0 : Nat) (v1 : Int32) (v2 : Int32) (v3 : Int32) (h : H2) : mv_blk rI2 rR2 ln2 wI2 wR2 nw2 cp2 bod none tN_behind [((0, 0), cN_goesG_N_behind F1), ((0, 0), cN_itsG_N_behind F2), ((0, 0), cN_laysBackG_N_behind F3)] 0 0 [] (fun _ _ _ _ _ _ => none) 400 (mv_seek 0 tN_behind) [(0, Sum.inr (8, o0)), (1, Sum.inl (Value.int v1)), (2, Sum.inl (Value.int v2)), (3, Sum.inl (Value.int v3))] [] h 0 0 = (
  mv_rV (F1 o0 v3 h) fun h1 =>
  mv_rI (F2 o0 v1 v2 h1) fun r3 h2 =>
  mv_bi r3 fun x4 =>
  mv_rV (F3 o0 h2) fun h5 =>
  some ([Sum.inl (Value.int x4)], h5)) := rfl
theorem eN_behind (o0 : Nat) (v1 : Int32) (v2 : Int32) (v3 : Int32) (h : H2) : mv_blk rI2 rR2 ln2 wI2 wR2 nw2 cp2 bod none tN_behind gN_behind 0 0 [] (fun _ _ _ _ _ _ => none) 400 (mv_seek 0 tN_behind) [(0, Sum.inr (8, o0)), (1, Sum.inl (Value.int v1)), (2, Sum.inl (Value.int v2)), (3, Sum.inl (Value.int v3))] [] h 0 0 = (
  mv_rV (fN_goes o0 v3 h) fun h1 =>
  mv_rI (fN_its o0 v1 v2 h1) fun r3 h2 =>
  mv_bi r3 fun x4 =>
  mv_rV (fN_laysBack o0 h2) fun h5 =>
  some ([Sum.inl (Value.int x4)], h5)) := eN_behind_g fN_goes fN_its fN_laysBack o0 v1 v2 v3 h
theorem GN_behind : ∀ (j : Nat) (C : mv_C H2) (md' : mv_MD × Bool), mv_nth j gN_behind = some C → mv_nth j nN_behind = some md' → ∃ n', n' + 1 ≤ 6 ∧ mv_Cal vw2 n' md' C := fun j C md' => match j with
  | 0 => fun h1 h2 => by
    obtain rfl := Option.some.inj h1
    obtain rfl := Option.some.inj h2
    exact ⟨5, by decide, cN_goes_ok⟩
  | 1 => fun h1 h2 => by
    obtain rfl := Option.some.inj h1
    obtain rfl := Option.some.inj h2
    exact ⟨1, by decide, cN_its_ok⟩
  | 2 => fun h1 h2 => by
    obtain rfl := Option.some.inj h1
    obtain rfl := Option.some.inj h2
    exact ⟨2, by decide, cN_laysBack_ok⟩
  | jj + 3 => fun h1 _ => by cases jj <;> cases h1

set_option maxRecDepth 20000 in
theorem xN_behind {g0 : mv_G} {res : List mv_V × H2} (o0 : Nat) (v1 : Int32) (v2 : Int32) (v3 : Int32) (h : H2) (hh : fN_behind o0 v1 v2 v3 h = some res) : mv_X vw2 mdN_behind 6 0 0 none g0 res 0 [(0, Sum.inr (8, o0)), (1, Sum.inl (Value.int v1)), (2, Sum.inl (Value.int v2)), (3, Sum.inl (Value.int v3))] [] h 0 0 := by
  refine mv_blkX ax2 (GN_behind) (by decide) kN_behind (fun pc lv st h ce sl hh => ?_) ((eN_behind  o0 v1 v2 v3 h).trans hh)
  cases hh

theorem mN_behind (o0 : Nat) (v1 : Int32) (v2 : Int32) (v3 : Int32) (h : H2) (vs : List mv_V) (h' : H2) (hh : fN_behind o0 v1 v2 v3 h = some (vs, h')) : mv_Met vw2 6 0 0 mdN_behind [Sum.inr (8, o0), Sum.inl (Value.int v1), Sum.inl (Value.int v2), Sum.inl (Value.int v3)] h vs h' :=
  mv_Met_of (by decide +kernel) (Nat.le_of_ble_eq_true rfl) (xN_behind o0 v1 v2 v3 h hh)
theorem cN_behind_ok : mv_Cal vw2 6 (mdN_behind, true) ((0, 0), cN_behind) := by
  intro as h k res hh
  change cN_behind as h k = some res at hh
  unfold cN_behind at hh
  split at hh
  · obtain ⟨hg0, ha0⟩ := mv_gd_some hh
    obtain rfl := Nat.eq_of_beq_eq_true hg0
    obtain ⟨x, h', h1, h9⟩ := mv_rI_some ha0
    exact ⟨_, _, h9, (by first | decide | exact Nat.le_refl _ | exact Nat.zero_le _), fun _ => ⟨_, _, _, rfl, Or.inl ⟨by decide, rfl⟩⟩, (mN_behind _ _ _ _ h _ _ h1)⟩
  · cases hh

set_option maxRecDepth 100000 in
theorem kN_gone : mv_tok mdN_gone nN_gone tN_gone = true := by decide +kernel
def cN_behindG_N_gone (F1 : Nat → Int32 → Int32 → Int32 → H2 → O2) : List mv_V → H2 → (List mv_V → H2 → O2) → O2 := fun as h k => match as with
  | [.inr (t0, o0), .inl (.int v1), .inl (.int v2), .inl (.int v3)] => mv_gd (Nat.beq t0 8) <| mv_rI (F1 o0 v1 v2 v3 h) fun x h => k [.inl (.int x)] h
  | _ => none
def cN_isAheadG_N_gone (F2 : Int32 → H2 → O2) : List mv_V → H2 → (List mv_V → H2 → O2) → O2 := fun as h k => match as with
  | [.inl (.int v0)] => mv_rI (F2 v0 h) fun x h => k [.inl (.int x)] h
  | _ => none
def cN_isClothG_N_gone (F3 : Nat → Int32 → H2 → O2) : List mv_V → H2 → (List mv_V → H2 → O2) → O2 := fun as h k => match as with
  | [.inr (t0, o0), .inl (.int v1)] => mv_gd (Nat.beq t0 8) <| mv_rI (F3 o0 v1 h) fun x h => k [.inl (.int x)] h
  | _ => none
def cN_lendsG_N_gone (F4 : Nat → H2 → O2) : List mv_V → H2 → (List mv_V → H2 → O2) → O2 := fun as h k => match as with
  | [.inr (t0, o0)] => mv_gd (Nat.beq t0 8) <| mv_rV (F4 o0 h) fun h => k [] h
  | _ => none
set_option maxRecDepth 100000 in
set_option maxHeartbeats 1000000 in
theorem eN_gone_g (F1 : Nat → Int32 → Int32 → Int32 → H2 → O2) (F2 : Int32 → H2 → O2) (F3 : Nat → Int32 → H2 → O2) (F4 : Nat → H2 → O2) (o0 : Nat) (v1 : Int32) (v2 : Int32) (h : H2) : mv_blk rI2 rR2 ln2 wI2 wR2 nw2 cp2 bod none tN_gone [((0, 0), cN_isClothG_N_gone F3), ((0, 0), cN_isAheadG_N_gone F2), ((0, 0), cN_lendsG_N_gone F4), ((0, 0), cN_behindG_N_gone F1)] 0 0 [] (fun _ _ _ _ _ _ => none) 400 (mv_seek 0 tN_gone) [(0, Sum.inr (8, o0)), (1, Sum.inl (Value.int v1)), (2, Sum.inl (Value.int v2))] [] h 0 0 = (
  mv_rI (F3 o0 v1 h) fun r2 h1 =>
  if r2 = 0 then (
    some ([Sum.inl (Value.int (-(nI 1)))], h1))
  else
  mv_rI (F2 v2 h1) fun r4 h3 =>
  if r4 = 0 then (
    some ([Sum.inl (Value.int (-(nI 1)))], h3))
  else
  mv_rV (F4 o0 h3) fun h5 =>
  mv_rI (F1 o0 v1 (nI 1) v2 h5) fun r7 h6 =>
  some ([Sum.inl (Value.int ((nI 1) + r7))], h6)) := rfl
theorem eN_gone (o0 : Nat) (v1 : Int32) (v2 : Int32) (h : H2) : mv_blk rI2 rR2 ln2 wI2 wR2 nw2 cp2 bod none tN_gone gN_gone 0 0 [] (fun _ _ _ _ _ _ => none) 400 (mv_seek 0 tN_gone) [(0, Sum.inr (8, o0)), (1, Sum.inl (Value.int v1)), (2, Sum.inl (Value.int v2))] [] h 0 0 = (
  mv_rI (fN_isCloth o0 v1 h) fun r2 h1 =>
  if r2 = 0 then (
    some ([Sum.inl (Value.int (-(nI 1)))], h1))
  else
  mv_rI (fN_isAhead v2 h1) fun r4 h3 =>
  if r4 = 0 then (
    some ([Sum.inl (Value.int (-(nI 1)))], h3))
  else
  mv_rV (fN_lends o0 h3) fun h5 =>
  mv_rI (fN_behind o0 v1 (nI 1) v2 h5) fun r7 h6 =>
  some ([Sum.inl (Value.int ((nI 1) + r7))], h6)) := eN_gone_g fN_behind fN_isAhead fN_isCloth fN_lends o0 v1 v2 h
theorem GN_gone : ∀ (j : Nat) (C : mv_C H2) (md' : mv_MD × Bool), mv_nth j gN_gone = some C → mv_nth j nN_gone = some md' → ∃ n', n' + 1 ≤ 7 ∧ mv_Cal vw2 n' md' C := fun j C md' => match j with
  | 0 => fun h1 h2 => by
    obtain rfl := Option.some.inj h1
    obtain rfl := Option.some.inj h2
    exact ⟨2, by decide, cN_isCloth_ok⟩
  | 1 => fun h1 h2 => by
    obtain rfl := Option.some.inj h1
    obtain rfl := Option.some.inj h2
    exact ⟨2, by decide, cN_isAhead_ok⟩
  | 2 => fun h1 h2 => by
    obtain rfl := Option.some.inj h1
    obtain rfl := Option.some.inj h2
    exact ⟨2, by decide, cN_lends_ok⟩
  | 3 => fun h1 h2 => by
    obtain rfl := Option.some.inj h1
    obtain rfl := Option.some.inj h2
    exact ⟨6, by decide, cN_behind_ok⟩
  | jj + 4 => fun h1 _ => by cases jj <;> cases h1

set_option maxRecDepth 20000 in
theorem xN_gone {g0 : mv_G} {res : List mv_V × H2} (o0 : Nat) (v1 : Int32) (v2 : Int32) (h : H2) (hh : fN_gone o0 v1 v2 h = some res) : mv_X vw2 mdN_gone 7 0 0 none g0 res 0 [(0, Sum.inr (8, o0)), (1, Sum.inl (Value.int v1)), (2, Sum.inl (Value.int v2))] [] h 0 0 := by
  refine mv_blkX ax2 (GN_gone) (by decide) kN_gone (fun pc lv st h ce sl hh => ?_) ((eN_gone  o0 v1 v2 h).trans hh)
  cases hh

theorem mN_gone (o0 : Nat) (v1 : Int32) (v2 : Int32) (h : H2) (vs : List mv_V) (h' : H2) (hh : fN_gone o0 v1 v2 h = some (vs, h')) : mv_Met vw2 7 0 0 mdN_gone [Sum.inr (8, o0), Sum.inl (Value.int v1), Sum.inl (Value.int v2)] h vs h' :=
  mv_Met_of (by decide +kernel) (Nat.le_of_ble_eq_true rfl) (xN_gone o0 v1 v2 h hh)
set_option maxRecDepth 100000 in
theorem kN_depth : mv_tok mdN_depth nN_depth tN_depth = true := by decide +kernel
def cN_behindG_N_depth (F1 : Nat → Int32 → Int32 → Int32 → H2 → O2) : List mv_V → H2 → (List mv_V → H2 → O2) → O2 := fun as h k => match as with
  | [.inr (t0, o0), .inl (.int v1), .inl (.int v2), .inl (.int v3)] => mv_gd (Nat.beq t0 8) <| mv_rI (F1 o0 v1 v2 v3 h) fun x h => k [.inl (.int x)] h
  | _ => none
def cN_isAheadG_N_depth (F2 : Int32 → H2 → O2) : List mv_V → H2 → (List mv_V → H2 → O2) → O2 := fun as h k => match as with
  | [.inl (.int v0)] => mv_rI (F2 v0 h) fun x h => k [.inl (.int x)] h
  | _ => none
def cN_isClothG_N_depth (F3 : Nat → Int32 → H2 → O2) : List mv_V → H2 → (List mv_V → H2 → O2) → O2 := fun as h k => match as with
  | [.inr (t0, o0), .inl (.int v1)] => mv_gd (Nat.beq t0 8) <| mv_rI (F3 o0 v1 h) fun x h => k [.inl (.int x)] h
  | _ => none
def cN_lendsG_N_depth (F4 : Nat → H2 → O2) : List mv_V → H2 → (List mv_V → H2 → O2) → O2 := fun as h k => match as with
  | [.inr (t0, o0)] => mv_gd (Nat.beq t0 8) <| mv_rV (F4 o0 h) fun h => k [] h
  | _ => none
set_option maxRecDepth 100000 in
set_option maxHeartbeats 1000000 in
theorem eN_depth_g (F1 : Nat → Int32 → Int32 → Int32 → H2 → O2) (F2 : Int32 → H2 → O2) (F3 : Nat → Int32 → H2 → O2) (F4 : Nat → H2 → O2) (o0 : Nat) (v1 : Int32) (v2 : Int32) (h : H2) : mv_blk rI2 rR2 ln2 wI2 wR2 nw2 cp2 bod none tN_depth [((0, 0), cN_isClothG_N_depth F3), ((0, 0), cN_isAheadG_N_depth F2), ((0, 0), cN_lendsG_N_depth F4), ((0, 0), cN_behindG_N_depth F1)] 0 0 [] (fun _ _ _ _ _ _ => none) 400 (mv_seek 0 tN_depth) [(0, Sum.inr (8, o0)), (1, Sum.inl (Value.int v1)), (2, Sum.inl (Value.int v2))] [] h 0 0 = (
  mv_rI (F3 o0 v1 h) fun r2 h1 =>
  if r2 = 0 then (
    some ([Sum.inl (Value.int (-(nI 1)))], h1))
  else
  mv_rI (F2 v2 h1) fun r4 h3 =>
  if r4 = 0 then (
    some ([Sum.inl (Value.int (-(nI 1)))], h3))
  else
  mv_rV (F4 o0 h3) fun h5 =>
  mv_rI (F1 o0 v1 (nI 2) v2 h5) fun r7 h6 =>
  some ([Sum.inl (Value.int r7)], h6)) := rfl
theorem eN_depth (o0 : Nat) (v1 : Int32) (v2 : Int32) (h : H2) : mv_blk rI2 rR2 ln2 wI2 wR2 nw2 cp2 bod none tN_depth gN_depth 0 0 [] (fun _ _ _ _ _ _ => none) 400 (mv_seek 0 tN_depth) [(0, Sum.inr (8, o0)), (1, Sum.inl (Value.int v1)), (2, Sum.inl (Value.int v2))] [] h 0 0 = (
  mv_rI (fN_isCloth o0 v1 h) fun r2 h1 =>
  if r2 = 0 then (
    some ([Sum.inl (Value.int (-(nI 1)))], h1))
  else
  mv_rI (fN_isAhead v2 h1) fun r4 h3 =>
  if r4 = 0 then (
    some ([Sum.inl (Value.int (-(nI 1)))], h3))
  else
  mv_rV (fN_lends o0 h3) fun h5 =>
  mv_rI (fN_behind o0 v1 (nI 2) v2 h5) fun r7 h6 =>
  some ([Sum.inl (Value.int r7)], h6)) := eN_depth_g fN_behind fN_isAhead fN_isCloth fN_lends o0 v1 v2 h
theorem GN_depth : ∀ (j : Nat) (C : mv_C H2) (md' : mv_MD × Bool), mv_nth j gN_depth = some C → mv_nth j nN_depth = some md' → ∃ n', n' + 1 ≤ 7 ∧ mv_Cal vw2 n' md' C := fun j C md' => match j with
  | 0 => fun h1 h2 => by
    obtain rfl := Option.some.inj h1
    obtain rfl := Option.some.inj h2
    exact ⟨2, by decide, cN_isCloth_ok⟩
  | 1 => fun h1 h2 => by
    obtain rfl := Option.some.inj h1
    obtain rfl := Option.some.inj h2
    exact ⟨2, by decide, cN_isAhead_ok⟩
  | 2 => fun h1 h2 => by
    obtain rfl := Option.some.inj h1
    obtain rfl := Option.some.inj h2
    exact ⟨2, by decide, cN_lends_ok⟩
  | 3 => fun h1 h2 => by
    obtain rfl := Option.some.inj h1
    obtain rfl := Option.some.inj h2
    exact ⟨6, by decide, cN_behind_ok⟩
  | jj + 4 => fun h1 _ => by cases jj <;> cases h1

set_option maxRecDepth 20000 in
theorem xN_depth {g0 : mv_G} {res : List mv_V × H2} (o0 : Nat) (v1 : Int32) (v2 : Int32) (h : H2) (hh : fN_depth o0 v1 v2 h = some res) : mv_X vw2 mdN_depth 7 0 0 none g0 res 0 [(0, Sum.inr (8, o0)), (1, Sum.inl (Value.int v1)), (2, Sum.inl (Value.int v2))] [] h 0 0 := by
  refine mv_blkX ax2 (GN_depth) (by decide) kN_depth (fun pc lv st h ce sl hh => ?_) ((eN_depth  o0 v1 v2 h).trans hh)
  cases hh

theorem mN_depth (o0 : Nat) (v1 : Int32) (v2 : Int32) (h : H2) (vs : List mv_V) (h' : H2) (hh : fN_depth o0 v1 v2 h = some (vs, h')) : mv_Met vw2 7 0 0 mdN_depth [Sum.inr (8, o0), Sum.inl (Value.int v1), Sum.inl (Value.int v2)] h vs h' :=
  mv_Met_of (by decide +kernel) (Nat.le_of_ble_eq_true rfl) (xN_depth o0 v1 v2 h hh)
set_option maxRecDepth 100000 in
theorem kN_firstAbout : mv_tok mdN_firstAbout nN_firstAbout tN_firstAbout = true := by decide +kernel
def cN_aDayG_N_firstAbout (F1 : Nat → H2 → O2) : List mv_V → H2 → (List mv_V → H2 → O2) → O2 := fun as h k => match as with
  | [.inr (t0, o0)] => mv_gd (Nat.beq t0 8) <| mv_rV (F1 o0 h) fun h => k [] h
  | _ => none
def cN_itsG_N_firstAbout (F2 : Nat → Int32 → Int32 → H2 → O2) : List mv_V → H2 → (List mv_V → H2 → O2) → O2 := fun as h k => match as with
  | [.inr (t0, o0), .inl (.int v1), .inl (.int v2)] => mv_gd (Nat.beq t0 8) <| mv_rI (F2 o0 v1 v2 h) fun x h => k [.inl (.int x)] h
  | _ => none
def cN_laysBackG_N_firstAbout (F3 : Nat → H2 → O2) : List mv_V → H2 → (List mv_V → H2 → O2) → O2 := fun as h k => match as with
  | [.inr (t0, o0)] => mv_gd (Nat.beq t0 8) <| mv_rV (F3 o0 h) fun h => k [] h
  | _ => none
def cN_lendsG_N_firstAbout (F4 : Nat → H2 → O2) : List mv_V → H2 → (List mv_V → H2 → O2) → O2 := fun as h k => match as with
  | [.inr (t0, o0)] => mv_gd (Nat.beq t0 8) <| mv_rV (F4 o0 h) fun h => k [] h
  | _ => none
set_option maxRecDepth 100000 in
set_option maxHeartbeats 1000000 in
theorem eN_firstAbout_b6_g (F1 : Nat → H2 → O2) (F2 : Nat → Int32 → Int32 → H2 → O2) (F3 : Nat → H2 → O2) (F4 : Nat → H2 → O2) (q6 : Nat → Int32 → Int32 → Int32 → H2 → O2) (o0 : Nat) (v1 : Int32) (v2 : Int32) (v3 : Int32) (h : H2) : mv_blk rI2 rR2 ln2 wI2 wR2 nw2 cp2 bod none tN_firstAbout [((0, 0), cN_lendsG_N_firstAbout F4), ((0, 0), cN_itsG_N_firstAbout F2), ((0, 0), cN_aDayG_N_firstAbout F1), ((0, 0), cN_laysBackG_N_firstAbout F3)] 0 0 [6] (fun pc lv st h ce sl => mv_gd (Nat.beq ce 0 && Nat.beq sl 0) (cond (Nat.beq pc 6) (mv_gR 0 8 lv fun o0 => mv_gI 1 lv fun v1 => mv_gI 2 lv fun v2 => mv_gI 3 lv fun v3 => mv_sE st (q6 o0 v1 v2 v3 h)) (none))) 400 (mv_seek 6 tN_firstAbout) [(0, Sum.inr (8, o0)), (1, Sum.inl (Value.int v1)), (2, Sum.inl (Value.int v2)), (3, Sum.inl (Value.int v3))] [] h 0 0 = (
  if (nI 60) < v3 then (
    mv_rV (F3 o0 h) fun h1 =>
    if (nI 60) < v3 then (
      some ([Sum.inl (Value.int (-(nI 3)))], h1))
    else
    some ([Sum.inl (Value.int v3)], h1))
  else
  mv_rI (F2 o0 v1 (nI 1) h) fun r3 h2 =>
  if r3 = v2 then (
    mv_rV (F3 o0 h2) fun h4 =>
    if (nI 60) < v3 then (
      some ([Sum.inl (Value.int (-(nI 3)))], h4))
    else
    some ([Sum.inl (Value.int v3)], h4))
  else
  mv_rV (F1 o0 h2) fun h5 =>
  mv_bi (v3 + (nI 1)) fun x6 =>
  q6 o0 v1 v2 x6 h5) := rfl
theorem eN_firstAbout_b6 (q6 : Nat → Int32 → Int32 → Int32 → H2 → O2) (o0 : Nat) (v1 : Int32) (v2 : Int32) (v3 : Int32) (h : H2) : mv_blk rI2 rR2 ln2 wI2 wR2 nw2 cp2 bod none tN_firstAbout gN_firstAbout 0 0 [6] (fun pc lv st h ce sl => mv_gd (Nat.beq ce 0 && Nat.beq sl 0) (cond (Nat.beq pc 6) (mv_gR 0 8 lv fun o0 => mv_gI 1 lv fun v1 => mv_gI 2 lv fun v2 => mv_gI 3 lv fun v3 => mv_sE st (q6 o0 v1 v2 v3 h)) (none))) 400 (mv_seek 6 tN_firstAbout) [(0, Sum.inr (8, o0)), (1, Sum.inl (Value.int v1)), (2, Sum.inl (Value.int v2)), (3, Sum.inl (Value.int v3))] [] h 0 0 = (
  if (nI 60) < v3 then (
    mv_rV (fN_laysBack o0 h) fun h1 =>
    if (nI 60) < v3 then (
      some ([Sum.inl (Value.int (-(nI 3)))], h1))
    else
    some ([Sum.inl (Value.int v3)], h1))
  else
  mv_rI (fN_its o0 v1 (nI 1) h) fun r3 h2 =>
  if r3 = v2 then (
    mv_rV (fN_laysBack o0 h2) fun h4 =>
    if (nI 60) < v3 then (
      some ([Sum.inl (Value.int (-(nI 3)))], h4))
    else
    some ([Sum.inl (Value.int v3)], h4))
  else
  mv_rV (fN_aDay o0 h2) fun h5 =>
  mv_bi (v3 + (nI 1)) fun x6 =>
  q6 o0 v1 v2 x6 h5) := eN_firstAbout_b6_g fN_aDay fN_its fN_laysBack fN_lends q6 o0 v1 v2 v3 h
set_option maxRecDepth 100000 in
set_option maxHeartbeats 1000000 in
theorem eN_firstAbout_g (F1 : Nat → H2 → O2) (F2 : Nat → Int32 → Int32 → H2 → O2) (F3 : Nat → H2 → O2) (F4 : Nat → H2 → O2) (q6 : Nat → Int32 → Int32 → Int32 → H2 → O2) (o0 : Nat) (v1 : Int32) (v2 : Int32) (h : H2) : mv_blk rI2 rR2 ln2 wI2 wR2 nw2 cp2 bod none tN_firstAbout [((0, 0), cN_lendsG_N_firstAbout F4), ((0, 0), cN_itsG_N_firstAbout F2), ((0, 0), cN_aDayG_N_firstAbout F1), ((0, 0), cN_laysBackG_N_firstAbout F3)] 0 0 [6] (fun pc lv st h ce sl => mv_gd (Nat.beq ce 0 && Nat.beq sl 0) (cond (Nat.beq pc 6) (mv_gR 0 8 lv fun o0 => mv_gI 1 lv fun v1 => mv_gI 2 lv fun v2 => mv_gI 3 lv fun v3 => mv_sE st (q6 o0 v1 v2 v3 h)) (none))) 400 (mv_seek 0 tN_firstAbout) [(0, Sum.inr (8, o0)), (1, Sum.inl (Value.int v1)), (2, Sum.inl (Value.int v2))] [] h 0 0 = (
  mv_rV (F4 o0 h) fun h1 =>
  mv_bi (nI 0) fun x2 =>
  q6 o0 v1 v2 x2 h1) := rfl
theorem eN_firstAbout (q6 : Nat → Int32 → Int32 → Int32 → H2 → O2) (o0 : Nat) (v1 : Int32) (v2 : Int32) (h : H2) : mv_blk rI2 rR2 ln2 wI2 wR2 nw2 cp2 bod none tN_firstAbout gN_firstAbout 0 0 [6] (fun pc lv st h ce sl => mv_gd (Nat.beq ce 0 && Nat.beq sl 0) (cond (Nat.beq pc 6) (mv_gR 0 8 lv fun o0 => mv_gI 1 lv fun v1 => mv_gI 2 lv fun v2 => mv_gI 3 lv fun v3 => mv_sE st (q6 o0 v1 v2 v3 h)) (none))) 400 (mv_seek 0 tN_firstAbout) [(0, Sum.inr (8, o0)), (1, Sum.inl (Value.int v1)), (2, Sum.inl (Value.int v2))] [] h 0 0 = (
  mv_rV (fN_lends o0 h) fun h1 =>
  mv_bi (nI 0) fun x2 =>
  q6 o0 v1 v2 x2 h1) := eN_firstAbout_g fN_aDay fN_its fN_laysBack fN_lends q6 o0 v1 v2 h
theorem GN_firstAbout : ∀ (j : Nat) (C : mv_C H2) (md' : mv_MD × Bool), mv_nth j gN_firstAbout = some C → mv_nth j nN_firstAbout = some md' → ∃ n', n' + 1 ≤ 5 ∧ mv_Cal vw2 n' md' C := fun j C md' => match j with
  | 0 => fun h1 h2 => by
    obtain rfl := Option.some.inj h1
    obtain rfl := Option.some.inj h2
    exact ⟨2, by decide, cN_lends_ok⟩
  | 1 => fun h1 h2 => by
    obtain rfl := Option.some.inj h1
    obtain rfl := Option.some.inj h2
    exact ⟨1, by decide, cN_its_ok⟩
  | 2 => fun h1 h2 => by
    obtain rfl := Option.some.inj h1
    obtain rfl := Option.some.inj h2
    exact ⟨4, by decide, cN_aDay_ok⟩
  | 3 => fun h1 h2 => by
    obtain rfl := Option.some.inj h1
    obtain rfl := Option.some.inj h2
    exact ⟨2, by decide, cN_laysBack_ok⟩
  | jj + 4 => fun h1 _ => by cases jj <;> cases h1

set_option maxRecDepth 20000 in
theorem xN_firstAbout_b6 {g0 : mv_G} {res : List mv_V × H2} : ∀ (n : Nat) (o0 : Nat) (v1 : Int32) (v2 : Int32) (v3 : Int32) (h : H2), fN_firstAbout_b6 n o0 v1 v2 v3 h = some res → mv_X vw2 mdN_firstAbout 5 0 0 none g0 res 6 [(0, Sum.inr (8, o0)), (1, Sum.inl (Value.int v1)), (2, Sum.inl (Value.int v2)), (3, Sum.inl (Value.int v3))] [] h 0 0 := by
  intro n
  induction n with
  | zero => intro o0 v1 v2 v3 h hh; cases hh
  | succ n ih =>
    intro o0 v1 v2 v3 h hh
    refine mv_blkX ax2 (GN_firstAbout) (by decide) kN_firstAbout (fun pc lv st h ce sl hh => ?_) ((eN_firstAbout_b6 (fN_firstAbout_b6 n) o0 v1 v2 v3 h).trans hh)
    obtain ⟨hg, hh1⟩ := mv_gd_some hh
    obtain ⟨rfl, rfl⟩ := mv_z2 hg
    rcases mv_cond_some hh1 with ⟨hb, hh2⟩ | ⟨hb, hh3⟩
    · obtain rfl := Nat.eq_of_beq_eq_true hb
      obtain ⟨o0, m0, hh4⟩ := mv_gR_some hh2
      obtain ⟨v1, m1, hh5⟩ := mv_gI_some hh4
      obtain ⟨v2, m2, hh6⟩ := mv_gI_some hh5
      obtain ⟨v3, m3, hh7⟩ := mv_gI_some hh6
      obtain ⟨rfl, hh8⟩ := mv_sE_some hh7
      exact (ih o0 v1 v2 v3 h hh8).sub (List.forall_mem_cons.mpr ⟨m0, (List.forall_mem_cons.mpr ⟨m1, (List.forall_mem_cons.mpr ⟨m2, (List.forall_mem_cons.mpr ⟨m3, (fun q hq => by cases hq)⟩)⟩)⟩)⟩)
    cases hh3

set_option maxRecDepth 20000 in
theorem xN_firstAbout {g0 : mv_G} {res : List mv_V × H2} (o0 : Nat) (v1 : Int32) (v2 : Int32) (h : H2) (hh : fN_firstAbout o0 v1 v2 h = some res) : mv_X vw2 mdN_firstAbout 5 0 0 none g0 res 0 [(0, Sum.inr (8, o0)), (1, Sum.inl (Value.int v1)), (2, Sum.inl (Value.int v2))] [] h 0 0 := by
  refine mv_blkX ax2 (GN_firstAbout) (by decide) kN_firstAbout (fun pc lv st h ce sl hh => ?_) ((eN_firstAbout (fN_firstAbout_b6 1000) o0 v1 v2 h).trans hh)
  obtain ⟨hg, hh1⟩ := mv_gd_some hh
  obtain ⟨rfl, rfl⟩ := mv_z2 hg
  rcases mv_cond_some hh1 with ⟨hb, hh2⟩ | ⟨hb, hh3⟩
  · obtain rfl := Nat.eq_of_beq_eq_true hb
    obtain ⟨o0, m0, hh4⟩ := mv_gR_some hh2
    obtain ⟨v1, m1, hh5⟩ := mv_gI_some hh4
    obtain ⟨v2, m2, hh6⟩ := mv_gI_some hh5
    obtain ⟨v3, m3, hh7⟩ := mv_gI_some hh6
    obtain ⟨rfl, hh8⟩ := mv_sE_some hh7
    exact (xN_firstAbout_b6 1000 o0 v1 v2 v3 h hh8).sub (List.forall_mem_cons.mpr ⟨m0, (List.forall_mem_cons.mpr ⟨m1, (List.forall_mem_cons.mpr ⟨m2, (List.forall_mem_cons.mpr ⟨m3, (fun q hq => by cases hq)⟩)⟩)⟩)⟩)
  cases hh3

theorem mN_firstAbout (o0 : Nat) (v1 : Int32) (v2 : Int32) (h : H2) (vs : List mv_V) (h' : H2) (hh : fN_firstAbout o0 v1 v2 h = some (vs, h')) : mv_Met vw2 5 0 0 mdN_firstAbout [Sum.inr (8, o0), Sum.inl (Value.int v1), Sum.inl (Value.int v2)] h vs h' :=
  mv_Met_of (by decide +kernel) (Nat.le_of_ble_eq_true rfl) (xN_firstAbout o0 v1 v2 h hh)
theorem cN_firstAbout_ok : mv_Cal vw2 5 (mdN_firstAbout, true) ((0, 0), cN_firstAbout) := by
  intro as h k res hh
  change cN_firstAbout as h k = some res at hh
  unfold cN_firstAbout at hh
  split at hh
  · obtain ⟨hg0, ha0⟩ := mv_gd_some hh
    obtain rfl := Nat.eq_of_beq_eq_true hg0
    obtain ⟨x, h', h1, h9⟩ := mv_rI_some ha0
    exact ⟨_, _, h9, (by first | decide | exact Nat.le_refl _ | exact Nat.zero_le _), fun _ => ⟨_, _, _, rfl, Or.inl ⟨by decide, rfl⟩⟩, (mN_firstAbout _ _ _ h _ _ h1)⟩
  · cases hh

set_option maxRecDepth 100000 in
theorem kN_comes : mv_tok mdN_comes nN_comes tN_comes = true := by decide +kernel
def cN_firstAboutG_N_comes (F1 : Nat → Int32 → Int32 → H2 → O2) : List mv_V → H2 → (List mv_V → H2 → O2) → O2 := fun as h k => match as with
  | [.inr (t0, o0), .inl (.int v1), .inl (.int v2)] => mv_gd (Nat.beq t0 8) <| mv_rI (F1 o0 v1 v2 h) fun x h => k [.inl (.int x)] h
  | _ => none
def cN_isClothG_N_comes (F2 : Nat → Int32 → H2 → O2) : List mv_V → H2 → (List mv_V → H2 → O2) → O2 := fun as h k => match as with
  | [.inr (t0, o0), .inl (.int v1)] => mv_gd (Nat.beq t0 8) <| mv_rI (F2 o0 v1 h) fun x h => k [.inl (.int x)] h
  | _ => none
def cN_isPurposeG_N_comes (F3 : Int32 → H2 → O2) : List mv_V → H2 → (List mv_V → H2 → O2) → O2 := fun as h k => match as with
  | [.inl (.int v0)] => mv_rI (F3 v0 h) fun x h => k [.inl (.int x)] h
  | _ => none
set_option maxRecDepth 100000 in
set_option maxHeartbeats 1000000 in
theorem eN_comes_g (F1 : Nat → Int32 → Int32 → H2 → O2) (F2 : Nat → Int32 → H2 → O2) (F3 : Int32 → H2 → O2) (o0 : Nat) (v1 : Int32) (v2 : Int32) (h : H2) : mv_blk rI2 rR2 ln2 wI2 wR2 nw2 cp2 bod none tN_comes [((0, 0), cN_isClothG_N_comes F2), ((0, 0), cN_isPurposeG_N_comes F3), ((0, 0), cN_firstAboutG_N_comes F1)] 0 0 [] (fun _ _ _ _ _ _ => none) 400 (mv_seek 0 tN_comes) [(0, Sum.inr (8, o0)), (1, Sum.inl (Value.int v1)), (2, Sum.inl (Value.int v2))] [] h 0 0 = (
  mv_rI (F2 o0 v1 h) fun r2 h1 =>
  if r2 = 0 then (
    some ([Sum.inl (Value.int (-(nI 1)))], h1))
  else
  mv_rI (F3 v2 h1) fun r4 h3 =>
  if r4 = 0 then (
    some ([Sum.inl (Value.int (-(nI 1)))], h3))
  else
  mv_rI (F1 o0 v1 v2 h3) fun r6 h5 =>
  some ([Sum.inl (Value.int r6)], h5)) := rfl
theorem eN_comes (o0 : Nat) (v1 : Int32) (v2 : Int32) (h : H2) : mv_blk rI2 rR2 ln2 wI2 wR2 nw2 cp2 bod none tN_comes gN_comes 0 0 [] (fun _ _ _ _ _ _ => none) 400 (mv_seek 0 tN_comes) [(0, Sum.inr (8, o0)), (1, Sum.inl (Value.int v1)), (2, Sum.inl (Value.int v2))] [] h 0 0 = (
  mv_rI (fN_isCloth o0 v1 h) fun r2 h1 =>
  if r2 = 0 then (
    some ([Sum.inl (Value.int (-(nI 1)))], h1))
  else
  mv_rI (fN_isPurpose v2 h1) fun r4 h3 =>
  if r4 = 0 then (
    some ([Sum.inl (Value.int (-(nI 1)))], h3))
  else
  mv_rI (fN_firstAbout o0 v1 v2 h3) fun r6 h5 =>
  some ([Sum.inl (Value.int r6)], h5)) := eN_comes_g fN_firstAbout fN_isCloth fN_isPurpose o0 v1 v2 h
theorem GN_comes : ∀ (j : Nat) (C : mv_C H2) (md' : mv_MD × Bool), mv_nth j gN_comes = some C → mv_nth j nN_comes = some md' → ∃ n', n' + 1 ≤ 6 ∧ mv_Cal vw2 n' md' C := fun j C md' => match j with
  | 0 => fun h1 h2 => by
    obtain rfl := Option.some.inj h1
    obtain rfl := Option.some.inj h2
    exact ⟨2, by decide, cN_isCloth_ok⟩
  | 1 => fun h1 h2 => by
    obtain rfl := Option.some.inj h1
    obtain rfl := Option.some.inj h2
    exact ⟨2, by decide, cN_isPurpose_ok⟩
  | 2 => fun h1 h2 => by
    obtain rfl := Option.some.inj h1
    obtain rfl := Option.some.inj h2
    exact ⟨5, by decide, cN_firstAbout_ok⟩
  | jj + 3 => fun h1 _ => by cases jj <;> cases h1

set_option maxRecDepth 20000 in
theorem xN_comes {g0 : mv_G} {res : List mv_V × H2} (o0 : Nat) (v1 : Int32) (v2 : Int32) (h : H2) (hh : fN_comes o0 v1 v2 h = some res) : mv_X vw2 mdN_comes 6 0 0 none g0 res 0 [(0, Sum.inr (8, o0)), (1, Sum.inl (Value.int v1)), (2, Sum.inl (Value.int v2))] [] h 0 0 := by
  refine mv_blkX ax2 (GN_comes) (by decide) kN_comes (fun pc lv st h ce sl hh => ?_) ((eN_comes  o0 v1 v2 h).trans hh)
  cases hh

theorem mN_comes (o0 : Nat) (v1 : Int32) (v2 : Int32) (h : H2) (vs : List mv_V) (h' : H2) (hh : fN_comes o0 v1 v2 h = some (vs, h')) : mv_Met vw2 6 0 0 mdN_comes [Sum.inr (8, o0), Sum.inl (Value.int v1), Sum.inl (Value.int v2)] h vs h' :=
  mv_Met_of (by decide +kernel) (Nat.le_of_ble_eq_true rfl) (xN_comes o0 v1 v2 h hh)
set_option maxRecDepth 100000 in
theorem kN_bare : mv_tok mdN_bare nN_bare tN_bare = true := by decide +kernel
def cN_firstAboutG_N_bare (F1 : Nat → Int32 → Int32 → H2 → O2) : List mv_V → H2 → (List mv_V → H2 → O2) → O2 := fun as h k => match as with
  | [.inr (t0, o0), .inl (.int v1), .inl (.int v2)] => mv_gd (Nat.beq t0 8) <| mv_rI (F1 o0 v1 v2 h) fun x h => k [.inl (.int x)] h
  | _ => none
def cN_isClothG_N_bare (F2 : Nat → Int32 → H2 → O2) : List mv_V → H2 → (List mv_V → H2 → O2) → O2 := fun as h k => match as with
  | [.inr (t0, o0), .inl (.int v1)] => mv_gd (Nat.beq t0 8) <| mv_rI (F2 o0 v1 h) fun x h => k [.inl (.int x)] h
  | _ => none
set_option maxRecDepth 100000 in
set_option maxHeartbeats 1000000 in
theorem eN_bare_g (F1 : Nat → Int32 → Int32 → H2 → O2) (F2 : Nat → Int32 → H2 → O2) (o0 : Nat) (v1 : Int32) (h : H2) : mv_blk rI2 rR2 ln2 wI2 wR2 nw2 cp2 bod none tN_bare [((0, 0), cN_isClothG_N_bare F2), ((0, 0), cN_firstAboutG_N_bare F1)] 0 0 [] (fun _ _ _ _ _ _ => none) 400 (mv_seek 0 tN_bare) [(0, Sum.inr (8, o0)), (1, Sum.inl (Value.int v1))] [] h 0 0 = (
  mv_rI (F2 o0 v1 h) fun r2 h1 =>
  if r2 = 0 then (
    some ([Sum.inl (Value.int (-(nI 1)))], h1))
  else
  mv_rI (F1 o0 v1 (-(nI 1)) h1) fun r4 h3 =>
  some ([Sum.inl (Value.int r4)], h3)) := rfl
theorem eN_bare (o0 : Nat) (v1 : Int32) (h : H2) : mv_blk rI2 rR2 ln2 wI2 wR2 nw2 cp2 bod none tN_bare gN_bare 0 0 [] (fun _ _ _ _ _ _ => none) 400 (mv_seek 0 tN_bare) [(0, Sum.inr (8, o0)), (1, Sum.inl (Value.int v1))] [] h 0 0 = (
  mv_rI (fN_isCloth o0 v1 h) fun r2 h1 =>
  if r2 = 0 then (
    some ([Sum.inl (Value.int (-(nI 1)))], h1))
  else
  mv_rI (fN_firstAbout o0 v1 (-(nI 1)) h1) fun r4 h3 =>
  some ([Sum.inl (Value.int r4)], h3)) := eN_bare_g fN_firstAbout fN_isCloth o0 v1 h
theorem GN_bare : ∀ (j : Nat) (C : mv_C H2) (md' : mv_MD × Bool), mv_nth j gN_bare = some C → mv_nth j nN_bare = some md' → ∃ n', n' + 1 ≤ 6 ∧ mv_Cal vw2 n' md' C := fun j C md' => match j with
  | 0 => fun h1 h2 => by
    obtain rfl := Option.some.inj h1
    obtain rfl := Option.some.inj h2
    exact ⟨2, by decide, cN_isCloth_ok⟩
  | 1 => fun h1 h2 => by
    obtain rfl := Option.some.inj h1
    obtain rfl := Option.some.inj h2
    exact ⟨5, by decide, cN_firstAbout_ok⟩
  | jj + 2 => fun h1 _ => by cases jj <;> cases h1

set_option maxRecDepth 20000 in
theorem xN_bare {g0 : mv_G} {res : List mv_V × H2} (o0 : Nat) (v1 : Int32) (h : H2) (hh : fN_bare o0 v1 h = some res) : mv_X vw2 mdN_bare 6 0 0 none g0 res 0 [(0, Sum.inr (8, o0)), (1, Sum.inl (Value.int v1))] [] h 0 0 := by
  refine mv_blkX ax2 (GN_bare) (by decide) kN_bare (fun pc lv st h ce sl hh => ?_) ((eN_bare  o0 v1 h).trans hh)
  cases hh

theorem mN_bare (o0 : Nat) (v1 : Int32) (h : H2) (vs : List mv_V) (h' : H2) (hh : fN_bare o0 v1 h = some (vs, h')) : mv_Met vw2 6 0 0 mdN_bare [Sum.inr (8, o0), Sum.inl (Value.int v1)] h vs h' :=
  mv_Met_of (by decide +kernel) (Nat.le_of_ble_eq_true rfl) (xN_bare o0 v1 h hh)
set_option maxRecDepth 100000 in
theorem kN_spoiltIn : mv_tok mdN_spoiltIn nN_spoiltIn tN_spoiltIn = true := by decide +kernel
def cN_goesG_N_spoiltIn (F1 : Nat → Int32 → H2 → O2) : List mv_V → H2 → (List mv_V → H2 → O2) → O2 := fun as h k => match as with
  | [.inr (t0, o0), .inl (.int v1)] => mv_gd (Nat.beq t0 8) <| mv_rV (F1 o0 v1 h) fun h => k [] h
  | _ => none
def cN_itsG_N_spoiltIn (F2 : Nat → Int32 → Int32 → H2 → O2) : List mv_V → H2 → (List mv_V → H2 → O2) → O2 := fun as h k => match as with
  | [.inr (t0, o0), .inl (.int v1), .inl (.int v2)] => mv_gd (Nat.beq t0 8) <| mv_rI (F2 o0 v1 v2 h) fun x h => k [.inl (.int x)] h
  | _ => none
def cN_laysBackG_N_spoiltIn (F3 : Nat → H2 → O2) : List mv_V → H2 → (List mv_V → H2 → O2) → O2 := fun as h k => match as with
  | [.inr (t0, o0)] => mv_gd (Nat.beq t0 8) <| mv_rV (F3 o0 h) fun h => k [] h
  | _ => none
set_option maxRecDepth 100000 in
set_option maxHeartbeats 1000000 in
theorem eN_spoiltIn_b9_g (F1 : Nat → Int32 → H2 → O2) (F2 : Nat → Int32 → Int32 → H2 → O2) (F3 : Nat → H2 → O2) (q9 : Nat → Int32 → Int32 → H2 → O2) (o0 : Nat) (v2 : Int32) (v3 : Int32) (h : H2) : mv_blk rI2 rR2 ln2 wI2 wR2 nw2 cp2 bod none tN_spoiltIn [((0, 0), cN_goesG_N_spoiltIn F1), ((0, 0), cN_itsG_N_spoiltIn F2), ((0, 0), cN_laysBackG_N_spoiltIn F3)] 0 0 [9] (fun pc lv st h ce sl => mv_gd (Nat.beq ce 0 && Nat.beq sl 0) (cond (Nat.beq pc 9) (mv_gR 0 8 lv fun o0 => mv_gI 2 lv fun v2 => mv_gI 3 lv fun v3 => mv_sE st (q9 o0 v2 v3 h)) (none))) 400 (mv_seek 9 tN_spoiltIn) [(0, Sum.inr (8, o0)), (2, Sum.inl (Value.int v2)), (3, Sum.inl (Value.int v3))] [] h 0 0 = (
  mv_gd (mv_inb (nI 6) 69) <|
  if (rI2 h 902 o0 (nI 6).toNatClampNeg) ≤ v3 then (
    mv_rV (F3 o0 h) fun h1 =>
    some ([Sum.inl (Value.int v2)], h1))
  else
  mv_rI (F2 o0 v3 (nI 1) h) fun r3 h2 =>
  mv_gd (mv_inb (((nI 29) + ((nI 5) * v3)) + (nI 1)) 69) <|
  if r3 = (rI2 h2 904 o0 (((nI 29) + ((nI 5) * v3)) + (nI 1)).toNatClampNeg) then (
    mv_bi (v2 + (nI 0)) fun x4 =>
    mv_bi (v3 + (nI 1)) fun x5 =>
    q9 o0 x4 x5 h2)
  else
  mv_bi (v2 + (nI 1)) fun x6 =>
  mv_bi (v3 + (nI 1)) fun x7 =>
  q9 o0 x6 x7 h2) := rfl
theorem eN_spoiltIn_b9 (q9 : Nat → Int32 → Int32 → H2 → O2) (o0 : Nat) (v2 : Int32) (v3 : Int32) (h : H2) : mv_blk rI2 rR2 ln2 wI2 wR2 nw2 cp2 bod none tN_spoiltIn gN_spoiltIn 0 0 [9] (fun pc lv st h ce sl => mv_gd (Nat.beq ce 0 && Nat.beq sl 0) (cond (Nat.beq pc 9) (mv_gR 0 8 lv fun o0 => mv_gI 2 lv fun v2 => mv_gI 3 lv fun v3 => mv_sE st (q9 o0 v2 v3 h)) (none))) 400 (mv_seek 9 tN_spoiltIn) [(0, Sum.inr (8, o0)), (2, Sum.inl (Value.int v2)), (3, Sum.inl (Value.int v3))] [] h 0 0 = (
  mv_gd (mv_inb (nI 6) 69) <|
  if (rI2 h 902 o0 (nI 6).toNatClampNeg) ≤ v3 then (
    mv_rV (fN_laysBack o0 h) fun h1 =>
    some ([Sum.inl (Value.int v2)], h1))
  else
  mv_rI (fN_its o0 v3 (nI 1) h) fun r3 h2 =>
  mv_gd (mv_inb (((nI 29) + ((nI 5) * v3)) + (nI 1)) 69) <|
  if r3 = (rI2 h2 904 o0 (((nI 29) + ((nI 5) * v3)) + (nI 1)).toNatClampNeg) then (
    mv_bi (v2 + (nI 0)) fun x4 =>
    mv_bi (v3 + (nI 1)) fun x5 =>
    q9 o0 x4 x5 h2)
  else
  mv_bi (v2 + (nI 1)) fun x6 =>
  mv_bi (v3 + (nI 1)) fun x7 =>
  q9 o0 x6 x7 h2) := eN_spoiltIn_b9_g fN_goes fN_its fN_laysBack q9 o0 v2 v3 h
set_option maxRecDepth 100000 in
set_option maxHeartbeats 1000000 in
theorem eN_spoiltIn_g (F1 : Nat → Int32 → H2 → O2) (F2 : Nat → Int32 → Int32 → H2 → O2) (F3 : Nat → H2 → O2) (q9 : Nat → Int32 → Int32 → H2 → O2) (o0 : Nat) (v1 : Int32) (h : H2) : mv_blk rI2 rR2 ln2 wI2 wR2 nw2 cp2 bod none tN_spoiltIn [((0, 0), cN_goesG_N_spoiltIn F1), ((0, 0), cN_itsG_N_spoiltIn F2), ((0, 0), cN_laysBackG_N_spoiltIn F3)] 0 0 [9] (fun pc lv st h ce sl => mv_gd (Nat.beq ce 0 && Nat.beq sl 0) (cond (Nat.beq pc 9) (mv_gR 0 8 lv fun o0 => mv_gI 2 lv fun v2 => mv_gI 3 lv fun v3 => mv_sE st (q9 o0 v2 v3 h)) (none))) 400 (mv_seek 0 tN_spoiltIn) [(0, Sum.inr (8, o0)), (1, Sum.inl (Value.int v1))] [] h 0 0 = (
  mv_rV (F1 o0 v1 h) fun h1 =>
  mv_bi (nI 0) fun x2 =>
  mv_bi (nI 0) fun x3 =>
  q9 o0 x2 x3 h1) := rfl
theorem eN_spoiltIn (q9 : Nat → Int32 → Int32 → H2 → O2) (o0 : Nat) (v1 : Int32) (h : H2) : mv_blk rI2 rR2 ln2 wI2 wR2 nw2 cp2 bod none tN_spoiltIn gN_spoiltIn 0 0 [9] (fun pc lv st h ce sl => mv_gd (Nat.beq ce 0 && Nat.beq sl 0) (cond (Nat.beq pc 9) (mv_gR 0 8 lv fun o0 => mv_gI 2 lv fun v2 => mv_gI 3 lv fun v3 => mv_sE st (q9 o0 v2 v3 h)) (none))) 400 (mv_seek 0 tN_spoiltIn) [(0, Sum.inr (8, o0)), (1, Sum.inl (Value.int v1))] [] h 0 0 = (
  mv_rV (fN_goes o0 v1 h) fun h1 =>
  mv_bi (nI 0) fun x2 =>
  mv_bi (nI 0) fun x3 =>
  q9 o0 x2 x3 h1) := eN_spoiltIn_g fN_goes fN_its fN_laysBack q9 o0 v1 h
theorem GN_spoiltIn : ∀ (j : Nat) (C : mv_C H2) (md' : mv_MD × Bool), mv_nth j gN_spoiltIn = some C → mv_nth j nN_spoiltIn = some md' → ∃ n', n' + 1 ≤ 6 ∧ mv_Cal vw2 n' md' C := fun j C md' => match j with
  | 0 => fun h1 h2 => by
    obtain rfl := Option.some.inj h1
    obtain rfl := Option.some.inj h2
    exact ⟨5, by decide, cN_goes_ok⟩
  | 1 => fun h1 h2 => by
    obtain rfl := Option.some.inj h1
    obtain rfl := Option.some.inj h2
    exact ⟨1, by decide, cN_its_ok⟩
  | 2 => fun h1 h2 => by
    obtain rfl := Option.some.inj h1
    obtain rfl := Option.some.inj h2
    exact ⟨2, by decide, cN_laysBack_ok⟩
  | jj + 3 => fun h1 _ => by cases jj <;> cases h1

set_option maxRecDepth 20000 in
theorem xN_spoiltIn_b9 {g0 : mv_G} {res : List mv_V × H2} : ∀ (n : Nat) (o0 : Nat) (v2 : Int32) (v3 : Int32) (h : H2), fN_spoiltIn_b9 n o0 v2 v3 h = some res → mv_X vw2 mdN_spoiltIn 6 0 0 none g0 res 9 [(0, Sum.inr (8, o0)), (2, Sum.inl (Value.int v2)), (3, Sum.inl (Value.int v3))] [] h 0 0 := by
  intro n
  induction n with
  | zero => intro o0 v2 v3 h hh; cases hh
  | succ n ih =>
    intro o0 v2 v3 h hh
    refine mv_blkX ax2 (GN_spoiltIn) (by decide) kN_spoiltIn (fun pc lv st h ce sl hh => ?_) ((eN_spoiltIn_b9 (fN_spoiltIn_b9 n) o0 v2 v3 h).trans hh)
    obtain ⟨hg, hh1⟩ := mv_gd_some hh
    obtain ⟨rfl, rfl⟩ := mv_z2 hg
    rcases mv_cond_some hh1 with ⟨hb, hh2⟩ | ⟨hb, hh3⟩
    · obtain rfl := Nat.eq_of_beq_eq_true hb
      obtain ⟨o0, m0, hh4⟩ := mv_gR_some hh2
      obtain ⟨v2, m1, hh5⟩ := mv_gI_some hh4
      obtain ⟨v3, m2, hh6⟩ := mv_gI_some hh5
      obtain ⟨rfl, hh7⟩ := mv_sE_some hh6
      exact (ih o0 v2 v3 h hh7).sub (List.forall_mem_cons.mpr ⟨m0, (List.forall_mem_cons.mpr ⟨m1, (List.forall_mem_cons.mpr ⟨m2, (fun q hq => by cases hq)⟩)⟩)⟩)
    cases hh3

set_option maxRecDepth 20000 in
theorem xN_spoiltIn {g0 : mv_G} {res : List mv_V × H2} (o0 : Nat) (v1 : Int32) (h : H2) (hh : fN_spoiltIn o0 v1 h = some res) : mv_X vw2 mdN_spoiltIn 6 0 0 none g0 res 0 [(0, Sum.inr (8, o0)), (1, Sum.inl (Value.int v1))] [] h 0 0 := by
  refine mv_blkX ax2 (GN_spoiltIn) (by decide) kN_spoiltIn (fun pc lv st h ce sl hh => ?_) ((eN_spoiltIn (fN_spoiltIn_b9 1000) o0 v1 h).trans hh)
  obtain ⟨hg, hh1⟩ := mv_gd_some hh
  obtain ⟨rfl, rfl⟩ := mv_z2 hg
  rcases mv_cond_some hh1 with ⟨hb, hh2⟩ | ⟨hb, hh3⟩
  · obtain rfl := Nat.eq_of_beq_eq_true hb
    obtain ⟨o0, m0, hh4⟩ := mv_gR_some hh2
    obtain ⟨v2, m1, hh5⟩ := mv_gI_some hh4
    obtain ⟨v3, m2, hh6⟩ := mv_gI_some hh5
    obtain ⟨rfl, hh7⟩ := mv_sE_some hh6
    exact (xN_spoiltIn_b9 1000 o0 v2 v3 h hh7).sub (List.forall_mem_cons.mpr ⟨m0, (List.forall_mem_cons.mpr ⟨m1, (List.forall_mem_cons.mpr ⟨m2, (fun q hq => by cases hq)⟩)⟩)⟩)
  cases hh3

theorem mN_spoiltIn (o0 : Nat) (v1 : Int32) (h : H2) (vs : List mv_V) (h' : H2) (hh : fN_spoiltIn o0 v1 h = some (vs, h')) : mv_Met vw2 6 0 0 mdN_spoiltIn [Sum.inr (8, o0), Sum.inl (Value.int v1)] h vs h' :=
  mv_Met_of (by decide +kernel) (Nat.le_of_ble_eq_true rfl) (xN_spoiltIn o0 v1 h hh)
theorem cN_spoiltIn_ok : mv_Cal vw2 6 (mdN_spoiltIn, true) ((0, 0), cN_spoiltIn) := by
  intro as h k res hh
  change cN_spoiltIn as h k = some res at hh
  unfold cN_spoiltIn at hh
  split at hh
  · obtain ⟨hg0, ha0⟩ := mv_gd_some hh
    obtain rfl := Nat.eq_of_beq_eq_true hg0
    obtain ⟨x, h', h1, h9⟩ := mv_rI_some ha0
    exact ⟨_, _, h9, (by first | decide | exact Nat.le_refl _ | exact Nat.zero_le _), fun _ => ⟨_, _, _, rfl, Or.inl ⟨by decide, rfl⟩⟩, (mN_spoiltIn _ _ h _ _ h1)⟩
  · cases hh

set_option maxRecDepth 100000 in
theorem kN_spoilt : mv_tok mdN_spoilt nN_spoilt tN_spoilt = true := by decide +kernel
def cN_isAheadG_N_spoilt (F1 : Int32 → H2 → O2) : List mv_V → H2 → (List mv_V → H2 → O2) → O2 := fun as h k => match as with
  | [.inl (.int v0)] => mv_rI (F1 v0 h) fun x h => k [.inl (.int x)] h
  | _ => none
def cN_lendsG_N_spoilt (F2 : Nat → H2 → O2) : List mv_V → H2 → (List mv_V → H2 → O2) → O2 := fun as h k => match as with
  | [.inr (t0, o0)] => mv_gd (Nat.beq t0 8) <| mv_rV (F2 o0 h) fun h => k [] h
  | _ => none
def cN_spoiltInG_N_spoilt (F3 : Nat → Int32 → H2 → O2) : List mv_V → H2 → (List mv_V → H2 → O2) → O2 := fun as h k => match as with
  | [.inr (t0, o0), .inl (.int v1)] => mv_gd (Nat.beq t0 8) <| mv_rI (F3 o0 v1 h) fun x h => k [.inl (.int x)] h
  | _ => none
set_option maxRecDepth 100000 in
set_option maxHeartbeats 1000000 in
theorem eN_spoilt_g (F1 : Int32 → H2 → O2) (F2 : Nat → H2 → O2) (F3 : Nat → Int32 → H2 → O2) (o0 : Nat) (v1 : Int32) (h : H2) : mv_blk rI2 rR2 ln2 wI2 wR2 nw2 cp2 bod none tN_spoilt [((0, 0), cN_isAheadG_N_spoilt F1), ((0, 0), cN_lendsG_N_spoilt F2), ((0, 0), cN_spoiltInG_N_spoilt F3)] 0 0 [] (fun _ _ _ _ _ _ => none) 400 (mv_seek 0 tN_spoilt) [(0, Sum.inr (8, o0)), (1, Sum.inl (Value.int v1))] [] h 0 0 = (
  mv_rI (F1 v1 h) fun r2 h1 =>
  if r2 = 0 then (
    some ([Sum.inl (Value.int (-(nI 1)))], h1))
  else
  mv_rV (F2 o0 h1) fun h3 =>
  mv_rI (F3 o0 v1 h3) fun r5 h4 =>
  some ([Sum.inl (Value.int r5)], h4)) := rfl
theorem eN_spoilt (o0 : Nat) (v1 : Int32) (h : H2) : mv_blk rI2 rR2 ln2 wI2 wR2 nw2 cp2 bod none tN_spoilt gN_spoilt 0 0 [] (fun _ _ _ _ _ _ => none) 400 (mv_seek 0 tN_spoilt) [(0, Sum.inr (8, o0)), (1, Sum.inl (Value.int v1))] [] h 0 0 = (
  mv_rI (fN_isAhead v1 h) fun r2 h1 =>
  if r2 = 0 then (
    some ([Sum.inl (Value.int (-(nI 1)))], h1))
  else
  mv_rV (fN_lends o0 h1) fun h3 =>
  mv_rI (fN_spoiltIn o0 v1 h3) fun r5 h4 =>
  some ([Sum.inl (Value.int r5)], h4)) := eN_spoilt_g fN_isAhead fN_lends fN_spoiltIn o0 v1 h
theorem GN_spoilt : ∀ (j : Nat) (C : mv_C H2) (md' : mv_MD × Bool), mv_nth j gN_spoilt = some C → mv_nth j nN_spoilt = some md' → ∃ n', n' + 1 ≤ 7 ∧ mv_Cal vw2 n' md' C := fun j C md' => match j with
  | 0 => fun h1 h2 => by
    obtain rfl := Option.some.inj h1
    obtain rfl := Option.some.inj h2
    exact ⟨2, by decide, cN_isAhead_ok⟩
  | 1 => fun h1 h2 => by
    obtain rfl := Option.some.inj h1
    obtain rfl := Option.some.inj h2
    exact ⟨2, by decide, cN_lends_ok⟩
  | 2 => fun h1 h2 => by
    obtain rfl := Option.some.inj h1
    obtain rfl := Option.some.inj h2
    exact ⟨6, by decide, cN_spoiltIn_ok⟩
  | jj + 3 => fun h1 _ => by cases jj <;> cases h1

set_option maxRecDepth 20000 in
theorem xN_spoilt {g0 : mv_G} {res : List mv_V × H2} (o0 : Nat) (v1 : Int32) (h : H2) (hh : fN_spoilt o0 v1 h = some res) : mv_X vw2 mdN_spoilt 7 0 0 none g0 res 0 [(0, Sum.inr (8, o0)), (1, Sum.inl (Value.int v1))] [] h 0 0 := by
  refine mv_blkX ax2 (GN_spoilt) (by decide) kN_spoilt (fun pc lv st h ce sl hh => ?_) ((eN_spoilt  o0 v1 h).trans hh)
  cases hh

theorem mN_spoilt (o0 : Nat) (v1 : Int32) (h : H2) (vs : List mv_V) (h' : H2) (hh : fN_spoilt o0 v1 h = some (vs, h')) : mv_Met vw2 7 0 0 mdN_spoilt [Sum.inr (8, o0), Sum.inl (Value.int v1)] h vs h' :=
  mv_Met_of (by decide +kernel) (Nat.le_of_ble_eq_true rfl) (xN_spoilt o0 v1 h hh)
set_option maxRecDepth 100000 in
theorem kN_isThrough : mv_tok mdN_isThrough nN_isThrough tN_isThrough = true := by decide +kernel
def cN_dipsG_N_isThrough (F1 : Nat → Int32 → Int32 → H2 → O2) : List mv_V → H2 → (List mv_V → H2 → O2) → O2 := fun as h k => match as with
  | [.inr (t0, o0), .inl (.int v1), .inl (.int v2)] => mv_gd (Nat.beq t0 8) <| mv_rV (F1 o0 v1 v2 h) fun h => k [] h
  | _ => none
def cN_itsG_N_isThrough (F2 : Nat → Int32 → Int32 → H2 → O2) : List mv_V → H2 → (List mv_V → H2 → O2) → O2 := fun as h k => match as with
  | [.inr (t0, o0), .inl (.int v1), .inl (.int v2)] => mv_gd (Nat.beq t0 8) <| mv_rI (F2 o0 v1 v2 h) fun x h => k [.inl (.int x)] h
  | _ => none
def cN_laysBackG_N_isThrough (F3 : Nat → H2 → O2) : List mv_V → H2 → (List mv_V → H2 → O2) → O2 := fun as h k => match as with
  | [.inr (t0, o0)] => mv_gd (Nat.beq t0 8) <| mv_rV (F3 o0 h) fun h => k [] h
  | _ => none
set_option maxRecDepth 100000 in
set_option maxHeartbeats 1000000 in
theorem eN_isThrough_b5_g (F1 : Nat → Int32 → Int32 → H2 → O2) (F2 : Nat → Int32 → Int32 → H2 → O2) (F3 : Nat → H2 → O2) (q5 : Nat → Int32 → Int32 → Int32 → Int32 → H2 → O2) (o0 : Nat) (v1 : Int32) (v2 : Int32) (v4 : Int32) (v5 : Int32) (h : H2) : mv_blk rI2 rR2 ln2 wI2 wR2 nw2 cp2 bod none tN_isThrough [((0, 0), cN_dipsG_N_isThrough F1), ((0, 0), cN_itsG_N_isThrough F2), ((0, 0), cN_laysBackG_N_isThrough F3)] 0 0 [5] (fun pc lv st h ce sl => mv_gd (Nat.beq ce 0 && Nat.beq sl 0) (cond (Nat.beq pc 5) (mv_gR 0 8 lv fun o0 => mv_gI 1 lv fun v1 => mv_gI 2 lv fun v2 => mv_gI 4 lv fun v4 => mv_gI 5 lv fun v5 => mv_sE st (q5 o0 v1 v2 v4 v5 h)) (none))) 400 (mv_seek 5 tN_isThrough) [(0, Sum.inr (8, o0)), (1, Sum.inl (Value.int v1)), (2, Sum.inl (Value.int v2)), (4, Sum.inl (Value.int v4)), (5, Sum.inl (Value.int v5))] [] h 0 0 = (
  if v5 < 0 then (
    mv_rI (F2 o0 v1 (nI 1) h) fun r2 h1 =>
    if r2 = v2 then (
      mv_bi (nI 1) fun x3 =>
      mv_rV (F3 o0 h1) fun h4 =>
      mv_gd (decide (x3 = nI 0) || decide (x3 = nI 1)) <| some ([Sum.inl (Value.int x3)], h4))
    else
    mv_bi (nI 0) fun x5 =>
    mv_rV (F3 o0 h1) fun h6 =>
    mv_gd (decide (x5 = nI 0) || decide (x5 = nI 1)) <| some ([Sum.inl (Value.int x5)], h6))
  else
  mv_rV (F1 o0 v1 ((v4 >>> (((nI 3) * v5) &&& 31)) &&& (nI 7)) h) fun h7 =>
  mv_bi (v5 + (-(nI 1))) fun x8 =>
  q5 o0 v1 v2 v4 x8 h7) := rfl
theorem eN_isThrough_b5 (q5 : Nat → Int32 → Int32 → Int32 → Int32 → H2 → O2) (o0 : Nat) (v1 : Int32) (v2 : Int32) (v4 : Int32) (v5 : Int32) (h : H2) : mv_blk rI2 rR2 ln2 wI2 wR2 nw2 cp2 bod none tN_isThrough gN_isThrough 0 0 [5] (fun pc lv st h ce sl => mv_gd (Nat.beq ce 0 && Nat.beq sl 0) (cond (Nat.beq pc 5) (mv_gR 0 8 lv fun o0 => mv_gI 1 lv fun v1 => mv_gI 2 lv fun v2 => mv_gI 4 lv fun v4 => mv_gI 5 lv fun v5 => mv_sE st (q5 o0 v1 v2 v4 v5 h)) (none))) 400 (mv_seek 5 tN_isThrough) [(0, Sum.inr (8, o0)), (1, Sum.inl (Value.int v1)), (2, Sum.inl (Value.int v2)), (4, Sum.inl (Value.int v4)), (5, Sum.inl (Value.int v5))] [] h 0 0 = (
  if v5 < 0 then (
    mv_rI (fN_its o0 v1 (nI 1) h) fun r2 h1 =>
    if r2 = v2 then (
      mv_bi (nI 1) fun x3 =>
      mv_rV (fN_laysBack o0 h1) fun h4 =>
      mv_gd (decide (x3 = nI 0) || decide (x3 = nI 1)) <| some ([Sum.inl (Value.int x3)], h4))
    else
    mv_bi (nI 0) fun x5 =>
    mv_rV (fN_laysBack o0 h1) fun h6 =>
    mv_gd (decide (x5 = nI 0) || decide (x5 = nI 1)) <| some ([Sum.inl (Value.int x5)], h6))
  else
  mv_rV (fN_dips o0 v1 ((v4 >>> (((nI 3) * v5) &&& 31)) &&& (nI 7)) h) fun h7 =>
  mv_bi (v5 + (-(nI 1))) fun x8 =>
  q5 o0 v1 v2 v4 x8 h7) := eN_isThrough_b5_g fN_dips fN_its fN_laysBack q5 o0 v1 v2 v4 v5 h
set_option maxRecDepth 100000 in
set_option maxHeartbeats 1000000 in
theorem eN_isThrough_g (F1 : Nat → Int32 → Int32 → H2 → O2) (F2 : Nat → Int32 → Int32 → H2 → O2) (F3 : Nat → H2 → O2) (q5 : Nat → Int32 → Int32 → Int32 → Int32 → H2 → O2) (o0 : Nat) (v1 : Int32) (v2 : Int32) (v3 : Int32) (v4 : Int32) (h : H2) : mv_blk rI2 rR2 ln2 wI2 wR2 nw2 cp2 bod none tN_isThrough [((0, 0), cN_dipsG_N_isThrough F1), ((0, 0), cN_itsG_N_isThrough F2), ((0, 0), cN_laysBackG_N_isThrough F3)] 0 0 [5] (fun pc lv st h ce sl => mv_gd (Nat.beq ce 0 && Nat.beq sl 0) (cond (Nat.beq pc 5) (mv_gR 0 8 lv fun o0 => mv_gI 1 lv fun v1 => mv_gI 2 lv fun v2 => mv_gI 4 lv fun v4 => mv_gI 5 lv fun v5 => mv_sE st (q5 o0 v1 v2 v4 v5 h)) (none))) 400 (mv_seek 0 tN_isThrough) [(0, Sum.inr (8, o0)), (1, Sum.inl (Value.int v1)), (2, Sum.inl (Value.int v2)), (3, Sum.inl (Value.int v3)), (4, Sum.inl (Value.int v4))] [] h 0 0 = (
  mv_bi (v3 - (nI 1)) fun x1 =>
  q5 o0 v1 v2 v4 x1 h) := rfl
theorem eN_isThrough (q5 : Nat → Int32 → Int32 → Int32 → Int32 → H2 → O2) (o0 : Nat) (v1 : Int32) (v2 : Int32) (v3 : Int32) (v4 : Int32) (h : H2) : mv_blk rI2 rR2 ln2 wI2 wR2 nw2 cp2 bod none tN_isThrough gN_isThrough 0 0 [5] (fun pc lv st h ce sl => mv_gd (Nat.beq ce 0 && Nat.beq sl 0) (cond (Nat.beq pc 5) (mv_gR 0 8 lv fun o0 => mv_gI 1 lv fun v1 => mv_gI 2 lv fun v2 => mv_gI 4 lv fun v4 => mv_gI 5 lv fun v5 => mv_sE st (q5 o0 v1 v2 v4 v5 h)) (none))) 400 (mv_seek 0 tN_isThrough) [(0, Sum.inr (8, o0)), (1, Sum.inl (Value.int v1)), (2, Sum.inl (Value.int v2)), (3, Sum.inl (Value.int v3)), (4, Sum.inl (Value.int v4))] [] h 0 0 = (
  mv_bi (v3 - (nI 1)) fun x1 =>
  q5 o0 v1 v2 v4 x1 h) := eN_isThrough_g fN_dips fN_its fN_laysBack q5 o0 v1 v2 v3 v4 h
theorem GN_isThrough : ∀ (j : Nat) (C : mv_C H2) (md' : mv_MD × Bool), mv_nth j gN_isThrough = some C → mv_nth j nN_isThrough = some md' → ∃ n', n' + 1 ≤ 4 ∧ mv_Cal vw2 n' md' C := fun j C md' => match j with
  | 0 => fun h1 h2 => by
    obtain rfl := Option.some.inj h1
    obtain rfl := Option.some.inj h2
    exact ⟨3, by decide, cN_dips_ok⟩
  | 1 => fun h1 h2 => by
    obtain rfl := Option.some.inj h1
    obtain rfl := Option.some.inj h2
    exact ⟨1, by decide, cN_its_ok⟩
  | 2 => fun h1 h2 => by
    obtain rfl := Option.some.inj h1
    obtain rfl := Option.some.inj h2
    exact ⟨2, by decide, cN_laysBack_ok⟩
  | jj + 3 => fun h1 _ => by cases jj <;> cases h1

set_option maxRecDepth 20000 in
theorem xN_isThrough_b5 {g0 : mv_G} {res : List mv_V × H2} : ∀ (n : Nat) (o0 : Nat) (v1 : Int32) (v2 : Int32) (v4 : Int32) (v5 : Int32) (h : H2), fN_isThrough_b5 n o0 v1 v2 v4 v5 h = some res → mv_X vw2 mdN_isThrough 4 0 0 none g0 res 5 [(0, Sum.inr (8, o0)), (1, Sum.inl (Value.int v1)), (2, Sum.inl (Value.int v2)), (4, Sum.inl (Value.int v4)), (5, Sum.inl (Value.int v5))] [] h 0 0 := by
  intro n
  induction n with
  | zero => intro o0 v1 v2 v4 v5 h hh; cases hh
  | succ n ih =>
    intro o0 v1 v2 v4 v5 h hh
    refine mv_blkX ax2 (GN_isThrough) (by decide) kN_isThrough (fun pc lv st h ce sl hh => ?_) ((eN_isThrough_b5 (fN_isThrough_b5 n) o0 v1 v2 v4 v5 h).trans hh)
    obtain ⟨hg, hh1⟩ := mv_gd_some hh
    obtain ⟨rfl, rfl⟩ := mv_z2 hg
    rcases mv_cond_some hh1 with ⟨hb, hh2⟩ | ⟨hb, hh3⟩
    · obtain rfl := Nat.eq_of_beq_eq_true hb
      obtain ⟨o0, m0, hh4⟩ := mv_gR_some hh2
      obtain ⟨v1, m1, hh5⟩ := mv_gI_some hh4
      obtain ⟨v2, m2, hh6⟩ := mv_gI_some hh5
      obtain ⟨v4, m3, hh7⟩ := mv_gI_some hh6
      obtain ⟨v5, m4, hh8⟩ := mv_gI_some hh7
      obtain ⟨rfl, hh9⟩ := mv_sE_some hh8
      exact (ih o0 v1 v2 v4 v5 h hh9).sub (List.forall_mem_cons.mpr ⟨m0, (List.forall_mem_cons.mpr ⟨m1, (List.forall_mem_cons.mpr ⟨m2, (List.forall_mem_cons.mpr ⟨m3, (List.forall_mem_cons.mpr ⟨m4, (fun q hq => by cases hq)⟩)⟩)⟩)⟩)⟩)
    cases hh3

set_option maxRecDepth 20000 in
theorem xN_isThrough {g0 : mv_G} {res : List mv_V × H2} (o0 : Nat) (v1 : Int32) (v2 : Int32) (v3 : Int32) (v4 : Int32) (h : H2) (hh : fN_isThrough o0 v1 v2 v3 v4 h = some res) : mv_X vw2 mdN_isThrough 4 0 0 none g0 res 0 [(0, Sum.inr (8, o0)), (1, Sum.inl (Value.int v1)), (2, Sum.inl (Value.int v2)), (3, Sum.inl (Value.int v3)), (4, Sum.inl (Value.int v4))] [] h 0 0 := by
  refine mv_blkX ax2 (GN_isThrough) (by decide) kN_isThrough (fun pc lv st h ce sl hh => ?_) ((eN_isThrough (fN_isThrough_b5 1000) o0 v1 v2 v3 v4 h).trans hh)
  obtain ⟨hg, hh1⟩ := mv_gd_some hh
  obtain ⟨rfl, rfl⟩ := mv_z2 hg
  rcases mv_cond_some hh1 with ⟨hb, hh2⟩ | ⟨hb, hh3⟩
  · obtain rfl := Nat.eq_of_beq_eq_true hb
    obtain ⟨o0, m0, hh4⟩ := mv_gR_some hh2
    obtain ⟨v1, m1, hh5⟩ := mv_gI_some hh4
    obtain ⟨v2, m2, hh6⟩ := mv_gI_some hh5
    obtain ⟨v4, m3, hh7⟩ := mv_gI_some hh6
    obtain ⟨v5, m4, hh8⟩ := mv_gI_some hh7
    obtain ⟨rfl, hh9⟩ := mv_sE_some hh8
    exact (xN_isThrough_b5 1000 o0 v1 v2 v4 v5 h hh9).sub (List.forall_mem_cons.mpr ⟨m0, (List.forall_mem_cons.mpr ⟨m1, (List.forall_mem_cons.mpr ⟨m2, (List.forall_mem_cons.mpr ⟨m3, (List.forall_mem_cons.mpr ⟨m4, (fun q hq => by cases hq)⟩)⟩)⟩)⟩)⟩)
  cases hh3

theorem mN_isThrough (o0 : Nat) (v1 : Int32) (v2 : Int32) (v3 : Int32) (v4 : Int32) (h : H2) (vs : List mv_V) (h' : H2) (hh : fN_isThrough o0 v1 v2 v3 v4 h = some (vs, h')) : mv_Met vw2 4 0 0 mdN_isThrough [Sum.inr (8, o0), Sum.inl (Value.int v1), Sum.inl (Value.int v2), Sum.inl (Value.int v3), Sum.inl (Value.int v4)] h vs h' :=
  mv_Met_of (by decide +kernel) (Nat.le_of_ble_eq_true rfl) (xN_isThrough o0 v1 v2 v3 v4 h hh)
theorem cN_isThrough_ok : mv_Cal vw2 4 (mdN_isThrough, true) ((0, 0), cN_isThrough) := by
  intro as h k res hh
  change cN_isThrough as h k = some res at hh
  unfold cN_isThrough at hh
  split at hh
  · obtain ⟨hg0, ha0⟩ := mv_gd_some hh
    obtain rfl := Nat.eq_of_beq_eq_true hg0
    obtain ⟨x, h', h1, h9⟩ := mv_rI_some ha0
    exact ⟨_, _, h9, (by first | decide | exact Nat.le_refl _ | exact Nat.zero_le _), fun _ => ⟨_, _, _, rfl, Or.inl ⟨by decide, rfl⟩⟩, (mN_isThrough _ _ _ _ _ h _ _ h1)⟩
  · cases hh

