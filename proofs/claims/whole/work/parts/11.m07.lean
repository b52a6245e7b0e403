set_option maxRecDepth 100000 in
theorem kM_oddPairs : mv_tok mdM_oddPairs nM_oddPairs tM_oddPairs = true := by decide +kernel
set_option maxRecDepth 100000 in
set_option maxHeartbeats 1000000 in
theorem eM_oddPairs_b16 (q4 : Nat → Int32 → Int32 → H2 → O2) (q16 : Nat → Int32 → Int32 → Int32 → H2 → O2) (o0 : Nat) (v1 : Int32) (v2 : Int32) (v3 : Int32) (h : H2) : mv_blk rI2 rR2 ln2 wI2 wR2 nw2 cp2 bod none tM_oddPairs gM_oddPairs 0 0 [4, 16] (fun pc lv st h ce sl => mv_gd (Nat.beq ce 0 && Nat.beq sl 0) (cond (Nat.beq pc 4) (mv_gR 0 2 lv fun o0 => mv_gI 1 lv fun v1 => mv_gI 2 lv fun v2 => mv_sE st (q4 o0 v1 v2 h)) (cond (Nat.beq pc 16) (mv_gR 0 2 lv fun o0 => mv_gI 1 lv fun v1 => mv_gI 2 lv fun v2 => mv_gI 3 lv fun v3 => mv_sE st (q16 o0 v1 v2 v3 h)) (none)))) 400 (mv_seek 16 tM_oddPairs) [(0, Sum.inr (2, o0)), (1, Sum.inl (Value.int v1)), (2, Sum.inl (Value.int v2)), (3, Sum.inl (Value.int v3))] [] h 0 0 = (
  if (rI2 h 2 o0 9) ≤ v3 then (
    mv_bi (v2 + (nI 1)) fun x1 =>
    q4 o0 v1 x1 h)
  else
  mv_gd (mv_inb v2 8) <|
  mv_gd (mv_inb v3 8) <|
  if (rI2 h 305 o0 v2.toNatClampNeg) = (rI2 h 305 o0 v3.toNatClampNeg) then (
    mv_bi (v3 + (nI 1)) fun x2 =>
    q16 o0 v1 v2 x2 h)
  else
  mv_rI (fM_isForOdds o0 v2 h) fun r4 h3 =>
  if r4 = 0 then (
    mv_bi (v3 + (nI 1)) fun x5 =>
    q16 o0 v1 v2 x5 h3)
  else
  mv_rI (fM_isForOdds o0 v3 h3) fun r7 h6 =>
  if r7 = 0 then (
    mv_bi (v3 + (nI 1)) fun x8 =>
    q16 o0 v1 v2 x8 h6)
  else
  mv_bi (v1 + (nI 1)) fun x9 =>
  mv_bi (v3 + (nI 1)) fun x10 =>
  q16 o0 x9 v2 x10 h6) := rfl
set_option maxRecDepth 100000 in
set_option maxHeartbeats 1000000 in
theorem eM_oddPairs_b4 (q16 : Nat → Int32 → Int32 → Int32 → H2 → O2) (o0 : Nat) (v1 : Int32) (v2 : Int32) (h : H2) : mv_blk rI2 rR2 ln2 wI2 wR2 nw2 cp2 bod none tM_oddPairs gM_oddPairs 0 0 [16] (fun pc lv st h ce sl => mv_gd (Nat.beq ce 0 && Nat.beq sl 0) (cond (Nat.beq pc 16) (mv_gR 0 2 lv fun o0 => mv_gI 1 lv fun v1 => mv_gI 2 lv fun v2 => mv_gI 3 lv fun v3 => mv_sE st (q16 o0 v1 v2 v3 h)) (none))) 400 (mv_seek 4 tM_oddPairs) [(0, Sum.inr (2, o0)), (1, Sum.inl (Value.int v1)), (2, Sum.inl (Value.int v2))] [] h 0 0 = (
  if (rI2 h 2 o0 9) ≤ v2 then (
    some ([Sum.inl (Value.int v1)], h))
  else
  mv_bi (v2 + (nI 1)) fun x1 =>
  q16 o0 v1 v2 x1 h) := rfl
set_option maxRecDepth 100000 in
set_option maxHeartbeats 1000000 in
theorem eM_oddPairs (q4 : Nat → Int32 → Int32 → H2 → O2) (o0 : Nat) (h : H2) : mv_blk rI2 rR2 ln2 wI2 wR2 nw2 cp2 bod none tM_oddPairs gM_oddPairs 0 0 [4] (fun pc lv st h ce sl => mv_gd (Nat.beq ce 0 && Nat.beq sl 0) (cond (Nat.beq pc 4) (mv_gR 0 2 lv fun o0 => mv_gI 1 lv fun v1 => mv_gI 2 lv fun v2 => mv_sE st (q4 o0 v1 v2 h)) (none))) 400 (mv_seek 0 tM_oddPairs) [(0, Sum.inr (2, o0))] [] h 0 0 = (
  mv_bi (nI 0) fun x1 =>
  mv_bi (nI 0) fun x2 =>
  q4 o0 x1 x2 h) := rfl
theorem GM_oddPairs : ∀ (j : Nat) (C : mv_C H2) (md' : mv_MD × Bool), mv_nth j gM_oddPairs = some C → mv_nth j nM_oddPairs = some md' → ∃ n', n' + 1 ≤ 2 ∧ mv_Cal vw2 n' md' C := fun j C md' => match j with
  | 0 => fun h1 h2 => by
    obtain rfl := Option.some.inj h1
    obtain rfl := Option.some.inj h2
    exact ⟨1, by decide, cM_isForOdds_ok⟩
  | jj + 1 => fun h1 _ => by cases jj <;> cases h1

set_option maxRecDepth 20000 in
theorem xM_oddPairs_b16 {g0 : mv_G} {res : List mv_V × H2} {k4 : Nat → Int32 → Int32 → H2 → O2} (hk4 : ∀ (o0 : Nat) (v1 : Int32) (v2 : Int32) h, k4 o0 v1 v2 h = some res → mv_X vw2 mdM_oddPairs 2 0 0 none g0 res 4 [(0, Sum.inr (2, o0)), (1, Sum.inl (Value.int v1)), (2, Sum.inl (Value.int v2))] [] h 0 0) : ∀ (n : Nat) (o0 : Nat) (v1 : Int32) (v2 : Int32) (v3 : Int32) (h : H2), fM_oddPairs_b16 k4 n o0 v1 v2 v3 h = some res → mv_X vw2 mdM_oddPairs 2 0 0 none g0 res 16 [(0, Sum.inr (2, o0)), (1, Sum.inl (Value.int v1)), (2, Sum.inl (Value.int v2)), (3, Sum.inl (Value.int v3))] [] h 0 0 := by
  intro n
  induction n with
  | zero => intro o0 v1 v2 v3 h hh; cases hh
  | succ n ih =>
    intro o0 v1 v2 v3 h hh
    refine mv_blkX ax2 (GM_oddPairs) (by decide) kM_oddPairs (fun pc lv st h ce sl hh => ?_) ((eM_oddPairs_b16 (k4) (fM_oddPairs_b16 k4 n) o0 v1 v2 v3 h).trans hh)
    obtain ⟨hg, hh1⟩ := mv_gd_some hh
    obtain ⟨rfl, rfl⟩ := mv_z2 hg
    rcases mv_cond_some hh1 with ⟨hb, hh2⟩ | ⟨hb, hh3⟩
    · obtain rfl := Nat.eq_of_beq_eq_true hb
      obtain ⟨o0, m0, hh4⟩ := mv_gR_some hh2
      obtain ⟨v1, m1, hh5⟩ := mv_gI_some hh4
      obtain ⟨v2, m2, hh6⟩ := mv_gI_some hh5
      obtain ⟨rfl, hh7⟩ := mv_sE_some hh6
      exact (hk4 o0 v1 v2 h hh7).sub (List.forall_mem_cons.mpr ⟨m0, (List.forall_mem_cons.mpr ⟨m1, (List.forall_mem_cons.mpr ⟨m2, (fun q hq => by cases hq)⟩)⟩)⟩)
    rcases mv_cond_some hh3 with ⟨hb, hh8⟩ | ⟨hb, hh9⟩
    · obtain rfl := Nat.eq_of_beq_eq_true hb
      obtain ⟨o0, m0, hh10⟩ := mv_gR_some hh8
      obtain ⟨v1, m1, hh11⟩ := mv_gI_some hh10
      obtain ⟨v2, m2, hh12⟩ := mv_gI_some hh11
      obtain ⟨v3, m3, hh13⟩ := mv_gI_some hh12
      obtain ⟨rfl, hh14⟩ := mv_sE_some hh13
      exact (ih o0 v1 v2 v3 h hh14).sub (List.forall_mem_cons.mpr ⟨m0, (List.forall_mem_cons.mpr ⟨m1, (List.forall_mem_cons.mpr ⟨m2, (List.forall_mem_cons.mpr ⟨m3, (fun q hq => by cases hq)⟩)⟩)⟩)⟩)
    cases hh9

set_option maxRecDepth 20000 in
theorem xM_oddPairs_b4 {g0 : mv_G} {res : List mv_V × H2} : ∀ (n : Nat) (o0 : Nat) (v1 : Int32) (v2 : Int32) (h : H2), fM_oddPairs_b4 n o0 v1 v2 h = some res → mv_X vw2 mdM_oddPairs 2 0 0 none g0 res 4 [(0, Sum.inr (2, o0)), (1, Sum.inl (Value.int v1)), (2, Sum.inl (Value.int v2))] [] h 0 0 := by
  intro n
  induction n with
  | zero => intro o0 v1 v2 h hh; cases hh
  | succ n ih =>
    intro o0 v1 v2 h hh
    refine mv_blkX ax2 (GM_oddPairs) (by decide) kM_oddPairs (fun pc lv st h ce sl hh => ?_) ((eM_oddPairs_b4 (fM_oddPairs_b16 (fM_oddPairs_b4 n) 1000) o0 v1 v2 h).trans hh)
    obtain ⟨hg, hh1⟩ := mv_gd_some hh
    obtain ⟨rfl, rfl⟩ := mv_z2 hg
    rcases mv_cond_some hh1 with ⟨hb, hh2⟩ | ⟨hb, hh3⟩
    · obtain rfl := Nat.eq_of_beq_eq_true hb
      obtain ⟨o0, m0, hh4⟩ := mv_gR_some hh2
      obtain ⟨v1, m1, hh5⟩ := mv_gI_some hh4
      obtain ⟨v2, m2, hh6⟩ := mv_gI_some hh5
      obtain ⟨v3, m3, hh7⟩ := mv_gI_some hh6
      obtain ⟨rfl, hh8⟩ := mv_sE_some hh7
      exact (xM_oddPairs_b16 ih 1000 o0 v1 v2 v3 h hh8).sub (List.forall_mem_cons.mpr ⟨m0, (List.forall_mem_cons.mpr ⟨m1, (List.forall_mem_cons.mpr ⟨m2, (List.forall_mem_cons.mpr ⟨m3, (fun q hq => by cases hq)⟩)⟩)⟩)⟩)
    cases hh3

set_option maxRecDepth 20000 in
theorem xM_oddPairs {g0 : mv_G} {res : List mv_V × H2} (o0 : Nat) (h : H2) (hh : fM_oddPairs o0 h = some res) : mv_X vw2 mdM_oddPairs 2 0 0 none g0 res 0 [(0, Sum.inr (2, o0))] [] h 0 0 := by
  refine mv_blkX ax2 (GM_oddPairs) (by decide) kM_oddPairs (fun pc lv st h ce sl hh => ?_) ((eM_oddPairs (fM_oddPairs_b4 1000) o0 h).trans hh)
  obtain ⟨hg, hh1⟩ := mv_gd_some hh
  obtain ⟨rfl, rfl⟩ := mv_z2 hg
  rcases mv_cond_some hh1 with ⟨hb, hh2⟩ | ⟨hb, hh3⟩
  · obtain rfl := Nat.eq_of_beq_eq_true hb
    obtain ⟨o0, m0, hh4⟩ := mv_gR_some hh2
    obtain ⟨v1, m1, hh5⟩ := mv_gI_some hh4
    obtain ⟨v2, m2, hh6⟩ := mv_gI_some hh5
    obtain ⟨rfl, hh7⟩ := mv_sE_some hh6
    exact (xM_oddPairs_b4 1000 o0 v1 v2 h hh7).sub (List.forall_mem_cons.mpr ⟨m0, (List.forall_mem_cons.mpr ⟨m1, (List.forall_mem_cons.mpr ⟨m2, (fun q hq => by cases hq)⟩)⟩)⟩)
  cases hh3

theorem mM_oddPairs (o0 : Nat) (h : H2) (vs : List mv_V) (h' : H2) (hh : fM_oddPairs o0 h = some (vs, h')) : mv_Met vw2 2 0 0 mdM_oddPairs [Sum.inr (2, o0)] h vs h' :=
  mv_Met_of (by decide +kernel) (Nat.le_of_ble_eq_true rfl) (xM_oddPairs o0 h hh)
theorem cM_oddPairs_ok : mv_Cal vw2 2 (mdM_oddPairs, true) ((0, 0), cM_oddPairs) := by
  intro as h k res hh
  change cM_oddPairs as h k = some res at hh
  unfold cM_oddPairs at hh
  split at hh
  · obtain ⟨hg0, ha0⟩ := mv_gd_some hh
    obtain rfl := Nat.eq_of_beq_eq_true hg0
    obtain ⟨x, h', h1, h9⟩ := mv_rI_some ha0
    exact ⟨_, _, h9, (by first | decide | exact Nat.le_refl _ | exact Nat.zero_le _), fun _ => ⟨_, _, _, rfl, Or.inl ⟨by decide, rfl⟩⟩, (mM_oddPairs _ h _ _ h1)⟩
  · cases hh

set_option maxRecDepth 100000 in
theorem kR_has : mv_tok mdR_has nR_has tR_has = true := by decide +kernel
set_option maxRecDepth 100000 in
set_option maxHeartbeats 1000000 in
theorem eR_has (o0 : Nat) (v1 : Int32) (v2 : Int32) (h : H2) : mv_blk rI2 rR2 ln2 wI2 wR2 nw2 cp2 bod none tR_has gR_has 0 0 [] (fun _ _ _ _ _ _ => none) 400 (mv_seek 0 tR_has) [(0, Sum.inr (3, o0)), (1, Sum.inl (Value.int v1)), (2, Sum.inl (Value.int v2))] [] h 0 0 = (
  mv_rI (fV_isIn v1 (nI 0) ((rI2 h 3 o0 1) - (nI 1)) h) fun r2 h1 =>
  if r2 = 0 then (
    mv_gd (decide (nI 0 = nI 0) || decide (nI 0 = nI 1)) <| some ([Sum.inl (Value.int (nI 0))], h1))
  else
  mv_rI (fV_isIn v2 (nI 0) (nI 2) h1) fun r4 h3 =>
  if r4 = 0 then (
    mv_gd (decide (nI 0 = nI 0) || decide (nI 0 = nI 1)) <| some ([Sum.inl (Value.int (nI 0))], h3))
  else
  mv_gd (decide (nI 1 = nI 0) || decide (nI 1 = nI 1)) <| some ([Sum.inl (Value.int (nI 1))], h3)) := rfl
theorem GR_has : ∀ (j : Nat) (C : mv_C H2) (md' : mv_MD × Bool), mv_nth j gR_has = some C → mv_nth j nR_has = some md' → ∃ n', n' + 1 ≤ 2 ∧ mv_Cal vw2 n' md' C := fun j C md' => match j with
  | 0 => fun h1 h2 => by
    obtain rfl := Option.some.inj h1
    obtain rfl := Option.some.inj h2
    exact ⟨1, by decide, cV_isIn_ok⟩
  | jj + 1 => fun h1 _ => by cases jj <;> cases h1

set_option maxRecDepth 20000 in
theorem xR_has {g0 : mv_G} {res : List mv_V × H2} (o0 : Nat) (v1 : Int32) (v2 : Int32) (h : H2) (hh : fR_has o0 v1 v2 h = some res) : mv_X vw2 mdR_has 2 0 0 none g0 res 0 [(0, Sum.inr (3, o0)), (1, Sum.inl (Value.int v1)), (2, Sum.inl (Value.int v2))] [] h 0 0 := by
  refine mv_blkX ax2 (GR_has) (by decide) kR_has (fun pc lv st h ce sl hh => ?_) ((eR_has  o0 v1 v2 h).trans hh)
  cases hh

theorem mR_has (o0 : Nat) (v1 : Int32) (v2 : Int32) (h : H2) (vs : List mv_V) (h' : H2) (hh : fR_has o0 v1 v2 h = some (vs, h')) : mv_Met vw2 2 0 0 mdR_has [Sum.inr (3, o0), Sum.inl (Value.int v1), Sum.inl (Value.int v2)] h vs h' :=
  mv_Met_of (by decide +kernel) (Nat.le_of_ble_eq_true rfl) (xR_has o0 v1 v2 h hh)
theorem cR_has_ok : mv_Cal vw2 2 (mdR_has, true) ((0, 0), cR_has) := by
  intro as h k res hh
  change cR_has as h k = some res at hh
  unfold cR_has at hh
  split at hh
  · obtain ⟨hg0, ha0⟩ := mv_gd_some hh
    obtain rfl := Nat.eq_of_beq_eq_true hg0
    obtain ⟨x, h', h1, h9⟩ := mv_rI_some ha0
    exact ⟨_, _, h9, (by first | decide | exact Nat.le_refl _ | exact Nat.zero_le _), fun _ => ⟨_, _, _, rfl, Or.inl ⟨by decide, rfl⟩⟩, (mR_has _ _ _ h _ _ h1)⟩
  · cases hh

set_option maxRecDepth 100000 in
theorem kS_init : mv_tok mdS_init nS_init tS_init = true := by decide +kernel
set_option maxRecDepth 100000 in
set_option maxHeartbeats 1000000 in
theorem eS_init (o0 : Nat) (v1 : Int32) (v2 : Int32) (h : H2) : mv_blk rI2 rR2 ln2 wI2 wR2 nw2 cp2 bod none tS_init gS_init 1 40 [] (fun _ _ _ _ _ _ => none) 400 (mv_seek 0 tS_init) [(0, Sum.inr (4, o0)), (1, Sum.inl (Value.int v1)), (2, Sum.inl (Value.int v2))] [] h 0 0 = (
  mv_bh (wI2 h 4 o0 0 v1) fun h1 =>
  mv_gd (!decide (v2 < 0) && (Nat.ble v2.toNatClampNeg 1000 && Nat.ble (0 + v2.toNatClampNeg) 40)) <|
  nw2 h1 501 v2.toNatClampNeg fun r2 h3 =>
  wR2 h3 4 o0 1 (some (501, r2)) fun h4 =>
  some ([], h4)) := rfl
theorem GS_init : ∀ (j : Nat) (C : mv_C H2) (md' : mv_MD × Bool), mv_nth j gS_init = some C → mv_nth j nS_init = some md' → ∃ n', n' + 1 ≤ 1 ∧ mv_Cal vw2 n' md' C := fun j C md' h1 _ => by cases j <;> cases h1

set_option maxRecDepth 20000 in
theorem xS_init {g0 : mv_G} {res : List mv_V × H2} (o0 : Nat) (v1 : Int32) (v2 : Int32) (h : H2) (hh : fS_init o0 v1 v2 h = some res) : mv_X vw2 mdS_init 1 1 40 none g0 res 0 [(0, Sum.inr (4, o0)), (1, Sum.inl (Value.int v1)), (2, Sum.inl (Value.int v2))] [] h 0 0 := by
  refine mv_blkX ax2 (GS_init) (by decide) kS_init (fun pc lv st h ce sl hh => ?_) ((eS_init  o0 v1 v2 h).trans hh)
  cases hh

theorem mS_init (o0 : Nat) (v1 : Int32) (v2 : Int32) (h : H2) (vs : List mv_V) (h' : H2) (hh : fS_init o0 v1 v2 h = some (vs, h')) : mv_Met vw2 1 1 40 mdS_init [Sum.inr (4, o0), Sum.inl (Value.int v1), Sum.inl (Value.int v2)] h vs h' :=
  mv_Met_of (by decide +kernel) (Nat.le_of_ble_eq_true rfl) (xS_init o0 v1 v2 h hh)
theorem cS_init_ok : mv_Cal vw2 1 (mdS_init, true) ((1, 40), cS_init) := by
  intro as h k res hh
  change cS_init as h k = some res at hh
  unfold cS_init at hh
  split at hh
  · obtain ⟨hg0, ha0⟩ := mv_gd_some hh
    obtain rfl := Nat.eq_of_beq_eq_true hg0
    obtain ⟨h', h1, h9⟩ := mv_rV_some ha0
    exact ⟨_, _, h9, (by first | decide | exact Nat.le_refl _ | exact Nat.zero_le _), fun _ => ⟨_, _, _, rfl, Or.inl ⟨by decide, rfl⟩⟩, (mS_init _ _ _ h _ _ h1)⟩
  · cases hh

set_option maxRecDepth 100000 in
theorem kS_has : mv_tok mdS_has nS_has tS_has = true := by decide +kernel
set_option maxRecDepth 100000 in
set_option maxHeartbeats 1000000 in
theorem eS_has (o0 : Nat) (v1 : Int32) (h : H2) : mv_blk rI2 rR2 ln2 wI2 wR2 nw2 cp2 bod none tS_has gS_has 0 0 [] (fun _ _ _ _ _ _ => none) 400 (mv_seek 0 tS_has) [(0, Sum.inr (4, o0)), (1, Sum.inl (Value.int v1))] [] h 0 0 = (
  mv_el (itm2 h o0) (
    none) fun r1 =>
  mv_rI (fV_isIn v1 (nI 0) ((nI (ln2 h 501 r1)) - (nI 1)) h) fun r3 h2 =>
  mv_gd (decide (r3 = nI 0) || decide (r3 = nI 1)) <| some ([Sum.inl (Value.int r3)], h2)) := rfl
theorem GS_has : ∀ (j : Nat) (C : mv_C H2) (md' : mv_MD × Bool), mv_nth j gS_has = some C → mv_nth j nS_has = some md' → ∃ n', n' + 1 ≤ 2 ∧ mv_Cal vw2 n' md' C := fun j C md' => match j with
  | 0 => fun h1 h2 => by
    obtain rfl := Option.some.inj h1
    obtain rfl := Option.some.inj h2
    exact ⟨1, by decide, cV_isIn_ok⟩
  | jj + 1 => fun h1 _ => by cases jj <;> cases h1

set_option maxRecDepth 20000 in
theorem xS_has {g0 : mv_G} {res : List mv_V × H2} (o0 : Nat) (v1 : Int32) (h : H2) (hh : fS_has o0 v1 h = some res) : mv_X vw2 mdS_has 2 0 0 none g0 res 0 [(0, Sum.inr (4, o0)), (1, Sum.inl (Value.int v1))] [] h 0 0 := by
  refine mv_blkX ax2 (GS_has) (by decide) kS_has (fun pc lv st h ce sl hh => ?_) ((eS_has  o0 v1 h).trans hh)
  cases hh

theorem mS_has (o0 : Nat) (v1 : Int32) (h : H2) (vs : List mv_V) (h' : H2) (hh : fS_has o0 v1 h = some (vs, h')) : mv_Met vw2 2 0 0 mdS_has [Sum.inr (4, o0), Sum.inl (Value.int v1)] h vs h' :=
  mv_Met_of (by decide +kernel) (Nat.le_of_ble_eq_true rfl) (xS_has o0 v1 h hh)
theorem cS_has_ok : mv_Cal vw2 2 (mdS_has, true) ((0, 0), cS_has) := by
  intro as h k res hh
  change cS_has as h k = some res at hh
  unfold cS_has at hh
  split at hh
  · obtain ⟨hg0, ha0⟩ := mv_gd_some hh
    obtain rfl := Nat.eq_of_beq_eq_true hg0
    obtain ⟨x, h', h1, h9⟩ := mv_rI_some ha0
    exact ⟨_, _, h9, (by first | decide | exact Nat.le_refl _ | exact Nat.zero_le _), fun _ => ⟨_, _, _, rfl, Or.inl ⟨by decide, rfl⟩⟩, (mS_has _ _ h _ _ h1)⟩
  · cases hh

set_option maxRecDepth 100000 in
theorem kS_write : mv_tok mdS_write nS_write tS_write = true := by decide +kernel
set_option maxRecDepth 100000 in
set_option maxHeartbeats 1000000 in
theorem eS_write (o0 : Nat) (v1 : Int32) (v2 : Int32) (h : H2) : mv_blk rI2 rR2 ln2 wI2 wR2 nw2 cp2 bod none tS_write gS_write 0 0 [] (fun _ _ _ _ _ _ => none) 400 (mv_seek 0 tS_write) [(0, Sum.inr (4, o0)), (1, Sum.inl (Value.int v1)), (2, Sum.inl (Value.int v2))] [] h 0 0 = (
  if (rI2 h 4 o0 0) = 0 then (
    mv_el (itm2 h o0) (
      none) fun r1 =>
    mv_gd (mv_inb v1 (ln2 h 501 r1)) <|
    mv_bh (wI2 h 501 r1 v1.toNatClampNeg v2.toInt8.toInt32) fun h2 =>
    some ([], h2))
  else
  if (rI2 h 4 o0 0) = (nI 1) then (
    mv_el (itm2 h o0) (
      none) fun r3 =>
    mv_gd (mv_inb v1 (ln2 h 501 r3)) <|
    mv_bh (wI2 h 501 r3 v1.toNatClampNeg v2.toInt16.toInt32) fun h4 =>
    some ([], h4))
  else
  mv_el (itm2 h o0) (
    none) fun r5 =>
  mv_gd (mv_inb v1 (ln2 h 501 r5)) <|
  mv_bh (wI2 h 501 r5 v1.toNatClampNeg v2) fun h6 =>
  some ([], h6)) := rfl
theorem GS_write : ∀ (j : Nat) (C : mv_C H2) (md' : mv_MD × Bool), mv_nth j gS_write = some C → mv_nth j nS_write = some md' → ∃ n', n' + 1 ≤ 1 ∧ mv_Cal vw2 n' md' C := fun j C md' h1 _ => by cases j <;> cases h1

set_option maxRecDepth 20000 in
theorem xS_write {g0 : mv_G} {res : List mv_V × H2} (o0 : Nat) (v1 : Int32) (v2 : Int32) (h : H2) (hh : fS_write o0 v1 v2 h = some res) : mv_X vw2 mdS_write 1 0 0 none g0 res 0 [(0, Sum.inr (4, o0)), (1, Sum.inl (Value.int v1)), (2, Sum.inl (Value.int v2))] [] h 0 0 := by
  refine mv_blkX ax2 (GS_write) (by decide) kS_write (fun pc lv st h ce sl hh => ?_) ((eS_write  o0 v1 v2 h).trans hh)
  cases hh

theorem mS_write (o0 : Nat) (v1 : Int32) (v2 : Int32) (h : H2) (vs : List mv_V) (h' : H2) (hh : fS_write o0 v1 v2 h = some (vs, h')) : mv_Met vw2 1 0 0 mdS_write [Sum.inr (4, o0), Sum.inl (Value.int v1), Sum.inl (Value.int v2)] h vs h' :=
  mv_Met_of (by decide +kernel) (Nat.le_of_ble_eq_true rfl) (xS_write o0 v1 v2 h hh)
theorem cS_write_ok : mv_Cal vw2 1 (mdS_write, true) ((0, 0), cS_write) := by
  intro as h k res hh
  change cS_write as h k = some res at hh
  unfold cS_write at hh
  split at hh
  · obtain ⟨hg0, ha0⟩ := mv_gd_some hh
    obtain rfl := Nat.eq_of_beq_eq_true hg0
    obtain ⟨h', h1, h9⟩ := mv_rV_some ha0
    exact ⟨_, _, h9, (by first | decide | exact Nat.le_refl _ | exact Nat.zero_le _), fun _ => ⟨_, _, _, rfl, Or.inl ⟨by decide, rfl⟩⟩, (mS_write _ _ _ h _ _ h1)⟩
  · cases hh

set_option maxRecDepth 100000 in
theorem kH_holdCloth : mv_tok mdH_holdCloth nH_holdCloth tH_holdCloth = true := by decide +kernel
set_option maxRecDepth 100000 in
set_option maxHeartbeats 1000000 in
theorem eH_holdCloth (o0 : Nat) (v1 : Int32) (v2 : Int32) (h : H2) : mv_blk rI2 rR2 ln2 wI2 wR2 nw2 cp2 bod none tH_holdCloth gH_holdCloth 0 0 [] (fun _ _ _ _ _ _ => none) 400 (mv_seek 0 tH_holdCloth) [(0, Sum.inr (5, o0)), (1, Sum.inl (Value.int v1)), (2, Sum.inl (Value.int v2))] [] h 0 0 = (
  mv_gd (mv_inb v1 4) <|
  mv_bh (wI2 h 600 0 v1.toNatClampNeg v2) fun h1 =>
  mv_gd (mv_inb v1 4) <|
  wR2 h1 601 0 v1.toNatClampNeg none fun h2 =>
  some ([], h2)) := rfl
theorem GH_holdCloth : ∀ (j : Nat) (C : mv_C H2) (md' : mv_MD × Bool), mv_nth j gH_holdCloth = some C → mv_nth j nH_holdCloth = some md' → ∃ n', n' + 1 ≤ 1 ∧ mv_Cal vw2 n' md' C := fun j C md' h1 _ => by cases j <;> cases h1

set_option maxRecDepth 20000 in
theorem xH_holdCloth {g0 : mv_G} {res : List mv_V × H2} (o0 : Nat) (v1 : Int32) (v2 : Int32) (h : H2) (hh : fH_holdCloth o0 v1 v2 h = some res) : mv_X vw2 mdH_holdCloth 1 0 0 none g0 res 0 [(0, Sum.inr (5, o0)), (1, Sum.inl (Value.int v1)), (2, Sum.inl (Value.int v2))] [] h 0 0 := by
  refine mv_blkX ax2 (GH_holdCloth) (by decide) kH_holdCloth (fun pc lv st h ce sl hh => ?_) ((eH_holdCloth  o0 v1 v2 h).trans hh)
  cases hh

theorem mH_holdCloth (o0 : Nat) (v1 : Int32) (v2 : Int32) (h : H2) (vs : List mv_V) (h' : H2) (hh : fH_holdCloth o0 v1 v2 h = some (vs, h')) : mv_Met vw2 1 0 0 mdH_holdCloth [Sum.inr (5, o0), Sum.inl (Value.int v1), Sum.inl (Value.int v2)] h vs h' :=
  mv_Met_of (by decide +kernel) (Nat.le_of_ble_eq_true rfl) (xH_holdCloth o0 v1 v2 h hh)
theorem cH_holdCloth_ok : mv_Cal vw2 1 (mdH_holdCloth, true) ((0, 0), cH_holdCloth) := by
  intro as h k res hh
  change cH_holdCloth as h k = some res at hh
  unfold cH_holdCloth at hh
  split at hh
  · obtain ⟨hg0, ha0⟩ := mv_gd_some hh
    obtain rfl := Nat.eq_of_beq_eq_true hg0
    obtain ⟨h', h1, h9⟩ := mv_rV_some ha0
    exact ⟨_, _, h9, (by first | decide | exact Nat.le_refl _ | exact Nat.zero_le _), fun _ => ⟨_, _, _, rfl, Or.inl ⟨by decide, rfl⟩⟩, (mH_holdCloth _ _ _ h _ _ h1)⟩
  · cases hh

set_option maxRecDepth 100000 in
theorem kH_holdRow_n : mv_tok mdH_holdRow nH_holdRow_n tH_holdRow_n = true := by decide +kernel
set_option maxRecDepth 100000 in
set_option maxHeartbeats 1000000 in
theorem eH_holdRow_n (o0 : Nat) (v1 : Int32) (h : H2) : mv_blk rI2 rR2 ln2 wI2 wR2 nw2 cp2 bod none tH_holdRow_n gH_holdRow_n 0 0 [] (fun _ _ _ _ _ _ => none) 400 (mv_seek 0 tH_holdRow_n) [(0, Sum.inr (5, o0)), (1, Sum.inl (Value.int v1)), (2, Sum.inl Value.null)] [] h 0 0 = (
  mv_gd (mv_inb v1 4) <|
  mv_bh (wI2 h 600 0 v1.toNatClampNeg (-(nI 1))) fun h1 =>
  mv_gd (mv_inb v1 4) <|
  wR2 h1 601 0 v1.toNatClampNeg none fun h2 =>
  some ([], h2)) := rfl
theorem GH_holdRow_n : ∀ (j : Nat) (C : mv_C H2) (md' : mv_MD × Bool), mv_nth j gH_holdRow_n = some C → mv_nth j nH_holdRow_n = some md' → ∃ n', n' + 1 ≤ 1 ∧ mv_Cal vw2 n' md' C := fun j C md' h1 _ => by cases j <;> cases h1

set_option maxRecDepth 20000 in
theorem xH_holdRow_n {g0 : mv_G} {res : List mv_V × H2} (o0 : Nat) (v1 : Int32) (h : H2) (hh : fH_holdRow_n o0 v1 h = some res) : mv_X vw2 mdH_holdRow 1 0 0 none g0 res 0 [(0, Sum.inr (5, o0)), (1, Sum.inl (Value.int v1)), (2, Sum.inl Value.null)] [] h 0 0 := by
  refine mv_blkX ax2 (GH_holdRow_n) (by decide) kH_holdRow_n (fun pc lv st h ce sl hh => ?_) ((eH_holdRow_n  o0 v1 h).trans hh)
  cases hh

theorem mH_holdRow_n (o0 : Nat) (v1 : Int32) (h : H2) (vs : List mv_V) (h' : H2) (hh : fH_holdRow_n o0 v1 h = some (vs, h')) : mv_Met vw2 1 0 0 mdH_holdRow [Sum.inr (5, o0), Sum.inl (Value.int v1), Sum.inl Value.null] h vs h' :=
  mv_Met_of (by decide +kernel) (Nat.le_of_ble_eq_true rfl) (xH_holdRow_n o0 v1 h hh)
set_option maxRecDepth 100000 in
theorem kH_holdRow_r : mv_tok mdH_holdRow nH_holdRow_r tH_holdRow_r = true := by decide +kernel
set_option maxRecDepth 100000 in
set_option maxHeartbeats 1000000 in
theorem eH_holdRow_r (o0 : Nat) (v1 : Int32) (o2 : Nat) (h : H2) : mv_blk rI2 rR2 ln2 wI2 wR2 nw2 cp2 bod none tH_holdRow_r gH_holdRow_r 0 0 [] (fun _ _ _ _ _ _ => none) 400 (mv_seek 0 tH_holdRow_r) [(0, Sum.inr (5, o0)), (1, Sum.inl (Value.int v1)), (2, Sum.inr (4, o2))] [] h 0 0 = (
  mv_gd (mv_inb v1 4) <|
  mv_bh (wI2 h 600 0 v1.toNatClampNeg (-(nI 1))) fun h1 =>
  mv_gd (mv_inb v1 4) <|
  wR2 h1 601 0 v1.toNatClampNeg (some (4, o2)) fun h2 =>
  some ([], h2)) := rfl
theorem GH_holdRow_r : ∀ (j : Nat) (C : mv_C H2) (md' : mv_MD × Bool), mv_nth j gH_holdRow_r = some C → mv_nth j nH_holdRow_r = some md' → ∃ n', n' + 1 ≤ 1 ∧ mv_Cal vw2 n' md' C := fun j C md' h1 _ => by cases j <;> cases h1

set_option maxRecDepth 20000 in
theorem xH_holdRow_r {g0 : mv_G} {res : List mv_V × H2} (o0 : Nat) (v1 : Int32) (o2 : Nat) (h : H2) (hh : fH_holdRow_r o0 v1 o2 h = some res) : mv_X vw2 mdH_holdRow 1 0 0 none g0 res 0 [(0, Sum.inr (5, o0)), (1, Sum.inl (Value.int v1)), (2, Sum.inr (4, o2))] [] h 0 0 := by
  refine mv_blkX ax2 (GH_holdRow_r) (by decide) kH_holdRow_r (fun pc lv st h ce sl hh => ?_) ((eH_holdRow_r  o0 v1 o2 h).trans hh)
  cases hh

theorem mH_holdRow_r (o0 : Nat) (v1 : Int32) (o2 : Nat) (h : H2) (vs : List mv_V) (h' : H2) (hh : fH_holdRow_r o0 v1 o2 h = some (vs, h')) : mv_Met vw2 1 0 0 mdH_holdRow [Sum.inr (5, o0), Sum.inl (Value.int v1), Sum.inr (4, o2)] h vs h' :=
  mv_Met_of (by decide +kernel) (Nat.le_of_ble_eq_true rfl) (xH_holdRow_r o0 v1 o2 h hh)
theorem cH_holdRow_ok : mv_Cal vw2 1 (mdH_holdRow, true) ((0, 0), cH_holdRow) := by
  intro as h k res hh
  change cH_holdRow as h k = some res at hh
  unfold cH_holdRow at hh
  split at hh
  · obtain ⟨hg0, ha0⟩ := mv_gd_some hh
    obtain rfl := Nat.eq_of_beq_eq_true hg0
    obtain ⟨h', h1, h9⟩ := mv_rV_some ha0
    exact ⟨_, _, h9, (by first | decide | exact Nat.le_refl _ | exact Nat.zero_le _), fun _ => ⟨_, _, _, rfl, Or.inl ⟨by decide, rfl⟩⟩, (mH_holdRow_n _ _ h _ _ h1)⟩
  · obtain ⟨hg0, ha0⟩ := mv_gd_some hh
    obtain rfl := Nat.eq_of_beq_eq_true hg0
    obtain ⟨hg2, ha2⟩ := mv_gd_some ha0
    obtain rfl := Nat.eq_of_beq_eq_true hg2
    obtain ⟨h', h1, h9⟩ := mv_rV_some ha2
    exact ⟨_, _, h9, (by first | decide | exact Nat.le_refl _ | exact Nat.zero_le _), fun _ => ⟨_, _, _, rfl, Or.inl ⟨by decide, rfl⟩⟩, (mH_holdRow_r _ _ _ h _ _ h1)⟩
  · cases hh

set_option maxRecDepth 100000 in
theorem kH_clothOn : mv_tok mdH_clothOn nH_clothOn tH_clothOn = true := by decide +kernel
set_option maxRecDepth 100000 in
set_option maxHeartbeats 1000000 in
theorem eH_clothOn (o0 : Nat) (v1 : Int32) (h : H2) : mv_blk rI2 rR2 ln2 wI2 wR2 nw2 cp2 bod none tH_clothOn gH_clothOn 0 0 [] (fun _ _ _ _ _ _ => none) 400 (mv_seek 0 tH_clothOn) [(0, Sum.inr (5, o0)), (1, Sum.inl (Value.int v1))] [] h 0 0 = (
  mv_gd (mv_inb v1 4) <|
  some ([Sum.inl (Value.int (rI2 h 600 0 v1.toNatClampNeg))], h)) := rfl
theorem GH_clothOn : ∀ (j : Nat) (C : mv_C H2) (md' : mv_MD × Bool), mv_nth j gH_clothOn = some C → mv_nth j nH_clothOn = some md' → ∃ n', n' + 1 ≤ 1 ∧ mv_Cal vw2 n' md' C := fun j C md' h1 _ => by cases j <;> cases h1

set_option maxRecDepth 20000 in
theorem xH_clothOn {g0 : mv_G} {res : List mv_V × H2} (o0 : Nat) (v1 : Int32) (h : H2) (hh : fH_clothOn o0 v1 h = some res) : mv_X vw2 mdH_clothOn 1 0 0 none g0 res 0 [(0, Sum.inr (5, o0)), (1, Sum.inl (Value.int v1))] [] h 0 0 := by
  refine mv_blkX ax2 (GH_clothOn) (by decide) kH_clothOn (fun pc lv st h ce sl hh => ?_) ((eH_clothOn  o0 v1 h).trans hh)
  cases hh

theorem mH_clothOn (o0 : Nat) (v1 : Int32) (h : H2) (vs : List mv_V) (h' : H2) (hh : fH_clothOn o0 v1 h = some (vs, h')) : mv_Met vw2 1 0 0 mdH_clothOn [Sum.inr (5, o0), Sum.inl (Value.int v1)] h vs h' :=
  mv_Met_of (by decide +kernel) (Nat.le_of_ble_eq_true rfl) (xH_clothOn o0 v1 h hh)
theorem cH_clothOn_ok : mv_Cal vw2 1 (mdH_clothOn, true) ((0, 0), cH_clothOn) := by
  intro as h k res hh
  change cH_clothOn as h k = some res at hh
  unfold cH_clothOn at hh
  split at hh
  · obtain ⟨hg0, ha0⟩ := mv_gd_some hh
    obtain rfl := Nat.eq_of_beq_eq_true hg0
    obtain ⟨x, h', h1, h9⟩ := mv_rI_some ha0
    exact ⟨_, _, h9, (by first | decide | exact Nat.le_refl _ | exact Nat.zero_le _), fun _ => ⟨_, _, _, rfl, Or.inl ⟨by decide, rfl⟩⟩, (mH_clothOn _ _ h _ _ h1)⟩
  · cases hh

set_option maxRecDepth 100000 in
theorem kH_rowOn : mv_tok mdH_rowOn nH_rowOn tH_rowOn = true := by decide +kernel
set_option maxRecDepth 100000 in
set_option maxHeartbeats 1000000 in
theorem eH_rowOn (o0 : Nat) (v1 : Int32) (h : H2) : mv_blk rI2 rR2 ln2 wI2 wR2 nw2 cp2 bod none tH_rowOn gH_rowOn 0 0 [] (fun _ _ _ _ _ _ => none) 400 (mv_seek 0 tH_rowOn) [(0, Sum.inr (5, o0)), (1, Sum.inl (Value.int v1))] [] h 0 0 = (
  mv_gd (mv_inb v1 4) <|
  mv_el (hld2 h v1.toNatClampNeg) (
    some ([Sum.inl Value.null], h)) fun r1 =>
  some ([Sum.inr (4, r1)], h)) := rfl
theorem GH_rowOn : ∀ (j : Nat) (C : mv_C H2) (md' : mv_MD × Bool), mv_nth j gH_rowOn = some C → mv_nth j nH_rowOn = some md' → ∃ n', n' + 1 ≤ 1 ∧ mv_Cal vw2 n' md' C := fun j C md' h1 _ => by cases j <;> cases h1

set_option maxRecDepth 20000 in
theorem xH_rowOn {g0 : mv_G} {res : List mv_V × H2} (o0 : Nat) (v1 : Int32) (h : H2) (hh : fH_rowOn o0 v1 h = some res) : mv_X vw2 mdH_rowOn 1 0 0 none g0 res 0 [(0, Sum.inr (5, o0)), (1, Sum.inl (Value.int v1))] [] h 0 0 := by
  refine mv_blkX ax2 (GH_rowOn) (by decide) kH_rowOn (fun pc lv st h ce sl hh => ?_) ((eH_rowOn  o0 v1 h).trans hh)
  cases hh

theorem mH_rowOn (o0 : Nat) (v1 : Int32) (h : H2) (vs : List mv_V) (h' : H2) (hh : fH_rowOn o0 v1 h = some (vs, h')) : mv_Met vw2 1 0 0 mdH_rowOn [Sum.inr (5, o0), Sum.inl (Value.int v1)] h vs h' :=
  mv_Met_of (by decide +kernel) (Nat.le_of_ble_eq_true rfl) (xH_rowOn o0 v1 h hh)
theorem cH_rowOn_ok : mv_Cal vw2 1 (mdH_rowOn, true) ((0, 0), cH_rowOn) := by
  intro as h k res hh
  change cH_rowOn as h k = some res at hh
  unfold cH_rowOn at hh
  split at hh
  · obtain ⟨hg0, ha0⟩ := mv_gd_some hh
    obtain rfl := Nat.eq_of_beq_eq_true hg0
    rcases mv_rQ_some ha0 with ⟨h', h1, h9⟩ | ⟨x, h', h1, h9⟩
    · exact ⟨_, _, h9, (by first | decide | exact Nat.le_refl _ | exact Nat.zero_le _), fun _ => ⟨_, _, _, rfl, Or.inl ⟨by decide, rfl⟩⟩, (mH_rowOn _ _ h _ _ h1)⟩
    · exact ⟨_, _, h9, (by first | decide | exact Nat.le_refl _ | exact Nat.zero_le _), fun _ => ⟨_, _, _, rfl, Or.inl ⟨by decide, rfl⟩⟩, (mH_rowOn _ _ h _ _ h1)⟩
  · cases hh

set_option maxRecDepth 100000 in
theorem kT_room : mv_tok mdT_room nT_room tT_room = true := by decide +kernel
set_option maxRecDepth 100000 in
set_option maxHeartbeats 1000000 in
theorem eT_room (o0 : Nat) (h : H2) : mv_blk rI2 rR2 ln2 wI2 wR2 nw2 cp2 bod none tT_room gT_room 0 0 [] (fun _ _ _ _ _ _ => none) 400 (mv_seek 0 tT_room) [(0, Sum.inr (6, o0))] [] h 0 0 = (
  some ([Sum.inl (Value.int ((nI 200) - (rI2 h 6 o0 1)))], h)) := rfl
theorem GT_room : ∀ (j : Nat) (C : mv_C H2) (md' : mv_MD × Bool), mv_nth j gT_room = some C → mv_nth j nT_room = some md' → ∃ n', n' + 1 ≤ 1 ∧ mv_Cal vw2 n' md' C := fun j C md' h1 _ => by cases j <;> cases h1

set_option maxRecDepth 20000 in
theorem xT_room {g0 : mv_G} {res : List mv_V × H2} (o0 : Nat) (h : H2) (hh : fT_room o0 h = some res) : mv_X vw2 mdT_room 1 0 0 none g0 res 0 [(0, Sum.inr (6, o0))] [] h 0 0 := by
  refine mv_blkX ax2 (GT_room) (by decide) kT_room (fun pc lv st h ce sl hh => ?_) ((eT_room  o0 h).trans hh)
  cases hh

theorem mT_room (o0 : Nat) (h : H2) (vs : List mv_V) (h' : H2) (hh : fT_room o0 h = some (vs, h')) : mv_Met vw2 1 0 0 mdT_room [Sum.inr (6, o0)] h vs h' :=
  mv_Met_of (by decide +kernel) (Nat.le_of_ble_eq_true rfl) (xT_room o0 h hh)
theorem cT_room_ok : mv_Cal vw2 1 (mdT_room, true) ((0, 0), cT_room) := by
  intro as h k res hh
  change cT_room as h k = some res at hh
  unfold cT_room at hh
  split at hh
  · obtain ⟨hg0, ha0⟩ := mv_gd_some hh
    obtain rfl := Nat.eq_of_beq_eq_true hg0
    obtain ⟨x, h', h1, h9⟩ := mv_rI_some ha0
    exact ⟨_, _, h9, (by first | decide | exact Nat.le_refl _ | exact Nat.zero_le _), fun _ => ⟨_, _, _, rfl, Or.inl ⟨by decide, rfl⟩⟩, (mT_room _ h _ _ h1)⟩
  · cases hh

set_option maxRecDepth 100000 in
theorem kT_take : mv_tok mdT_take nT_take tT_take = true := by decide +kernel
set_option maxRecDepth 100000 in
set_option maxHeartbeats 1000000 in
theorem eT_take_b3 (q3 : Nat → Int64 → Int32 → Int32 → H2 → O2) (o0 : Nat) (w1 : Int64) (v3 : Int32) (v4 : Int32) (h : H2) : mv_blk rI2 rR2 ln2 wI2 wR2 nw2 cp2 bod none tT_take gT_take 0 0 [3] (fun pc lv st h ce sl => mv_gd (Nat.beq ce 0 && Nat.beq sl 0) (cond (Nat.beq pc 3) (mv_gR 0 6 lv fun o0 => mv_gL 1 lv fun w1 => mv_gI 3 lv fun v3 => mv_gI 4 lv fun v4 => mv_sE st (q3 o0 w1 v3 v4 h)) (none))) 400 (mv_seek 3 tT_take) [(0, Sum.inr (6, o0)), (1, Sum.inl (Value.long w1)), (3, Sum.inl (Value.int v3)), (4, Sum.inl (Value.int v4))] [] h 0 0 = (
  if v3 ≤ v4 then (
    mv_bh (wI2 h 6 o0 1 ((rI2 h 6 o0 1) + v3)) fun h1 =>
    some ([], h1))
  else
  mv_gd (mv_inb ((rI2 h 6 o0 1) + v4) 200) <|
  mv_bh (wI2 h 700 o0 ((rI2 h 6 o0 1) + v4).toNatClampNeg (((w1 >>> (((nI 8) * v4).toInt64 &&& 63)) &&& (lN 255)).toInt32)) fun h2 =>
  mv_bi (v4 + (nI 1)) fun x3 =>
  q3 o0 w1 v3 x3 h2) := rfl
set_option maxRecDepth 100000 in
set_option maxHeartbeats 1000000 in
theorem eT_take (q3 : Nat → Int64 → Int32 → Int32 → H2 → O2) (o0 : Nat) (w1 : Int64) (v3 : Int32) (h : H2) : mv_blk rI2 rR2 ln2 wI2 wR2 nw2 cp2 bod none tT_take gT_take 0 0 [3] (fun pc lv st h ce sl => mv_gd (Nat.beq ce 0 && Nat.beq sl 0) (cond (Nat.beq pc 3) (mv_gR 0 6 lv fun o0 => mv_gL 1 lv fun w1 => mv_gI 3 lv fun v3 => mv_gI 4 lv fun v4 => mv_sE st (q3 o0 w1 v3 v4 h)) (none))) 400 (mv_seek 0 tT_take) [(0, Sum.inr (6, o0)), (1, Sum.inl (Value.long w1)), (3, Sum.inl (Value.int v3))] [] h 0 0 = (
  mv_bi (nI 0) fun x1 =>
  q3 o0 w1 v3 x1 h) := rfl
theorem GT_take : ∀ (j : Nat) (C : mv_C H2) (md' : mv_MD × Bool), mv_nth j gT_take = some C → mv_nth j nT_take = some md' → ∃ n', n' + 1 ≤ 1 ∧ mv_Cal vw2 n' md' C := fun j C md' h1 _ => by cases j <;> cases h1

set_option maxRecDepth 20000 in
theorem xT_take_b3 {g0 : mv_G} {res : List mv_V × H2} : ∀ (n : Nat) (o0 : Nat) (w1 : Int64) (v3 : Int32) (v4 : Int32) (h : H2), fT_take_b3 n o0 w1 v3 v4 h = some res → mv_X vw2 mdT_take 1 0 0 none g0 res 3 [(0, Sum.inr (6, o0)), (1, Sum.inl (Value.long w1)), (3, Sum.inl (Value.int v3)), (4, Sum.inl (Value.int v4))] [] h 0 0 := by
  intro n
  induction n with
  | zero => intro o0 w1 v3 v4 h hh; cases hh
  | succ n ih =>
    intro o0 w1 v3 v4 h hh
    refine mv_blkX ax2 (GT_take) (by decide) kT_take (fun pc lv st h ce sl hh => ?_) ((eT_take_b3 (fT_take_b3 n) o0 w1 v3 v4 h).trans hh)
    obtain ⟨hg, hh1⟩ := mv_gd_some hh
    obtain ⟨rfl, rfl⟩ := mv_z2 hg
    rcases mv_cond_some hh1 with ⟨hb, hh2⟩ | ⟨hb, hh3⟩
    · obtain rfl := Nat.eq_of_beq_eq_true hb
      obtain ⟨o0, m0, hh4⟩ := mv_gR_some hh2
      obtain ⟨w1, m1, hh5⟩ := mv_gL_some hh4
      obtain ⟨v3, m2, hh6⟩ := mv_gI_some hh5
      obtain ⟨v4, m3, hh7⟩ := mv_gI_some hh6
      obtain ⟨rfl, hh8⟩ := mv_sE_some hh7
      exact (ih o0 w1 v3 v4 h hh8).sub (List.forall_mem_cons.mpr ⟨m0, (List.forall_mem_cons.mpr ⟨m1, (List.forall_mem_cons.mpr ⟨m2, (List.forall_mem_cons.mpr ⟨m3, (fun q hq => by cases hq)⟩)⟩)⟩)⟩)
    cases hh3

set_option maxRecDepth 20000 in
theorem xT_take {g0 : mv_G} {res : List mv_V × H2} (o0 : Nat) (w1 : Int64) (v3 : Int32) (h : H2) (hh : fT_take o0 w1 v3 h = some res) : mv_X vw2 mdT_take 1 0 0 none g0 res 0 [(0, Sum.inr (6, o0)), (1, Sum.inl (Value.long w1)), (3, Sum.inl (Value.int v3))] [] h 0 0 := by
  refine mv_blkX ax2 (GT_take) (by decide) kT_take (fun pc lv st h ce sl hh => ?_) ((eT_take (fT_take_b3 1000) o0 w1 v3 h).trans hh)
  obtain ⟨hg, hh1⟩ := mv_gd_some hh
  obtain ⟨rfl, rfl⟩ := mv_z2 hg
  rcases mv_cond_some hh1 with ⟨hb, hh2⟩ | ⟨hb, hh3⟩
  · obtain rfl := Nat.eq_of_beq_eq_true hb
    obtain ⟨o0, m0, hh4⟩ := mv_gR_some hh2
    obtain ⟨w1, m1, hh5⟩ := mv_gL_some hh4
    obtain ⟨v3, m2, hh6⟩ := mv_gI_some hh5
    obtain ⟨v4, m3, hh7⟩ := mv_gI_some hh6
    obtain ⟨rfl, hh8⟩ := mv_sE_some hh7
    exact (xT_take_b3 1000 o0 w1 v3 v4 h hh8).sub (List.forall_mem_cons.mpr ⟨m0, (List.forall_mem_cons.mpr ⟨m1, (List.forall_mem_cons.mpr ⟨m2, (List.forall_mem_cons.mpr ⟨m3, (fun q hq => by cases hq)⟩)⟩)⟩)⟩)
  cases hh3

theorem mT_take (o0 : Nat) (w1 : Int64) (v3 : Int32) (h : H2) (vs : List mv_V) (h' : H2) (hh : fT_take o0 w1 v3 h = some (vs, h')) : mv_Met vw2 1 0 0 mdT_take [Sum.inr (6, o0), Sum.inl (Value.long w1), Sum.inl (Value.int v3)] h vs h' :=
  mv_Met_of (by decide +kernel) (Nat.le_of_ble_eq_true rfl) (xT_take o0 w1 v3 h hh)
theorem cT_take_ok : mv_Cal vw2 1 (mdT_take, true) ((0, 0), cT_take) := by
  intro as h k res hh
  change cT_take as h k = some res at hh
  unfold cT_take at hh
  split at hh
  · obtain ⟨hg0, ha0⟩ := mv_gd_some hh
    obtain rfl := Nat.eq_of_beq_eq_true hg0
    obtain ⟨h', h1, h9⟩ := mv_rV_some ha0
    exact ⟨_, _, h9, (by first | decide | exact Nat.le_refl _ | exact Nat.zero_le _), fun _ => ⟨_, _, _, rfl, Or.inl ⟨by decide, rfl⟩⟩, (mT_take _ _ _ h _ _ h1)⟩
  · cases hh

set_option maxRecDepth 100000 in
theorem kT_useUp : mv_tok mdT_useUp nT_useUp tT_useUp = true := by decide +kernel
set_option maxRecDepth 100000 in
set_option maxHeartbeats 1000000 in
theorem eT_useUp (o0 : Nat) (h : H2) : mv_blk rI2 rR2 ln2 wI2 wR2 nw2 cp2 bod none tT_useUp gT_useUp 0 0 [] (fun _ _ _ _ _ _ => none) 400 (mv_seek 0 tT_useUp) [(0, Sum.inr (6, o0))] [] h 0 0 = (
  mv_bh (wI2 h 6 o0 1 (nI 0)) fun h1 =>
  some ([], h1)) := rfl
theorem GT_useUp : ∀ (j : Nat) (C : mv_C H2) (md' : mv_MD × Bool), mv_nth j gT_useUp = some C → mv_nth j nT_useUp = some md' → ∃ n', n' + 1 ≤ 1 ∧ mv_Cal vw2 n' md' C := fun j C md' h1 _ => by cases j <;> cases h1

set_option maxRecDepth 20000 in
theorem xT_useUp {g0 : mv_G} {res : List mv_V × H2} (o0 : Nat) (h : H2) (hh : fT_useUp o0 h = some res) : mv_X vw2 mdT_useUp 1 0 0 none g0 res 0 [(0, Sum.inr (6, o0))] [] h 0 0 := by
  refine mv_blkX ax2 (GT_useUp) (by decide) kT_useUp (fun pc lv st h ce sl hh => ?_) ((eT_useUp  o0 h).trans hh)
  cases hh

theorem mT_useUp (o0 : Nat) (h : H2) (vs : List mv_V) (h' : H2) (hh : fT_useUp o0 h = some (vs, h')) : mv_Met vw2 1 0 0 mdT_useUp [Sum.inr (6, o0)] h vs h' :=
  mv_Met_of (by decide +kernel) (Nat.le_of_ble_eq_true rfl) (xT_useUp o0 h hh)
theorem cT_useUp_ok : mv_Cal vw2 1 (mdT_useUp, true) ((0, 0), cT_useUp) := by
  intro as h k res hh
  change cT_useUp as h k = some res at hh
  unfold cT_useUp at hh
  split at hh
  · obtain ⟨hg0, ha0⟩ := mv_gd_some hh
    obtain rfl := Nat.eq_of_beq_eq_true hg0
    obtain ⟨h', h1, h9⟩ := mv_rV_some ha0
    exact ⟨_, _, h9, (by first | decide | exact Nat.le_refl _ | exact Nat.zero_le _), fun _ => ⟨_, _, _, rfl, Or.inl ⟨by decide, rfl⟩⟩, (mT_useUp _ h _ _ h1)⟩
  · cases hh

set_option maxRecDepth 100000 in
theorem kT_readDigits : mv_tok mdT_readDigits nT_readDigits tT_readDigits = true := by decide +kernel
set_option maxRecDepth 100000 in
set_option maxHeartbeats 1000000 in
theorem eT_readDigits_b5 (q5 : Nat → H2 → O2) (o0 : Nat) (h : H2) : mv_blk rI2 rR2 ln2 wI2 wR2 nw2 cp2 bod none tT_readDigits gT_readDigits 0 0 [5] (fun pc lv st h ce sl => mv_gd (Nat.beq ce 0 && Nat.beq sl 0) (cond (Nat.beq pc 5) (mv_gR 0 6 lv fun o0 => mv_sE st (q5 o0 h)) (none))) 400 (mv_seek 5 tT_readDigits) [(0, Sum.inr (6, o0))] [] h 0 0 = (
  if (rI2 h 6 o0 1) ≤ (rI2 h 6 o0 2) then (
    if ((rI2 h 6 o0 2) - (rI2 h 6 o0 3)) ≤ (nI 3) then (
      some ([], h))
    else
    mv_bh (wI2 h 6 o0 5 (nI 1000)) fun h1 =>
    some ([], h1))
  else
  mv_gd (mv_inb (rI2 h 6 o0 2) 200) <|
  if (rI2 h 700 o0 (rI2 h 6 o0 2).toNatClampNeg) < (nI 48) then (
    if ((rI2 h 6 o0 2) - (rI2 h 6 o0 3)) ≤ (nI 3) then (
      some ([], h))
    else
    mv_bh (wI2 h 6 o0 5 (nI 1000)) fun h2 =>
    some ([], h2))
  else
  mv_gd (mv_inb (rI2 h 6 o0 2) 200) <|
  if (nI 57) < (rI2 h 700 o0 (rI2 h 6 o0 2).toNatClampNeg) then (
    if ((rI2 h 6 o0 2) - (rI2 h 6 o0 3)) ≤ (nI 3) then (
      some ([], h))
    else
    mv_bh (wI2 h 6 o0 5 (nI 1000)) fun h3 =>
    some ([], h3))
  else
  if (nI 3) ≤ ((rI2 h 6 o0 2) - (rI2 h 6 o0 3)) then (
    mv_bh (wI2 h 6 o0 2 ((rI2 h 6 o0 2) + (nI 1))) fun h4 =>
    q5 o0 h4)
  else
  mv_gd (mv_inb (rI2 h 6 o0 2) 200) <|
  mv_bh (wI2 h 6 o0 5 ((((rI2 h 6 o0 5) * (nI 10)) + (rI2 h 700 o0 (rI2 h 6 o0 2).toNatClampNeg)) - (nI 48))) fun h5 =>
  mv_bh (wI2 h5 6 o0 2 ((rI2 h5 6 o0 2) + (nI 1))) fun h6 =>
  q5 o0 h6) := rfl
set_option maxRecDepth 100000 in
set_option maxHeartbeats 1000000 in
theorem eT_readDigits (q5 : Nat → H2 → O2) (o0 : Nat) (h : H2) : mv_blk rI2 rR2 ln2 wI2 wR2 nw2 cp2 bod none tT_readDigits gT_readDigits 0 0 [5] (fun pc lv st h ce sl => mv_gd (Nat.beq ce 0 && Nat.beq sl 0) (cond (Nat.beq pc 5) (mv_gR 0 6 lv fun o0 => mv_sE st (q5 o0 h)) (none))) 400 (mv_seek 0 tT_readDigits) [(0, Sum.inr (6, o0))] [] h 0 0 = (
  mv_bh (wI2 h 6 o0 5 (nI 0)) fun h1 =>
  q5 o0 h1) := rfl
theorem GT_readDigits : ∀ (j : Nat) (C : mv_C H2) (md' : mv_MD × Bool), mv_nth j gT_readDigits = some C → mv_nth j nT_readDigits = some md' → ∃ n', n' + 1 ≤ 1 ∧ mv_Cal vw2 n' md' C := fun j C md' h1 _ => by cases j <;> cases h1

set_option maxRecDepth 20000 in
theorem xT_readDigits_b5 {g0 : mv_G} {res : List mv_V × H2} : ∀ (n : Nat) (o0 : Nat) (h : H2), fT_readDigits_b5 n o0 h = some res → mv_X vw2 mdT_readDigits 1 0 0 none g0 res 5 [(0, Sum.inr (6, o0))] [] h 0 0 := by
  intro n
  induction n with
  | zero => intro o0 h hh; cases hh
  | succ n ih =>
    intro o0 h hh
    refine mv_blkX ax2 (GT_readDigits) (by decide) kT_readDigits (fun pc lv st h ce sl hh => ?_) ((eT_readDigits_b5 (fT_readDigits_b5 n) o0 h).trans hh)
    obtain ⟨hg, hh1⟩ := mv_gd_some hh
    obtain ⟨rfl, rfl⟩ := mv_z2 hg
    rcases mv_cond_some hh1 with ⟨hb, hh2⟩ | ⟨hb, hh3⟩
    · obtain rfl := Nat.eq_of_beq_eq_true hb
      obtain ⟨o0, m0, hh4⟩ := mv_gR_some hh2
      obtain ⟨rfl, hh5⟩ := mv_sE_some hh4
      exact (ih o0 h hh5).sub (List.forall_mem_cons.mpr ⟨m0, (fun q hq => by cases hq)⟩)
    cases hh3

set_option maxRecDepth 20000 in
theorem xT_readDigits {g0 : mv_G} {res : List mv_V × H2} (o0 : Nat) (h : H2) (hh : fT_readDigits o0 h = some res) : mv_X vw2 mdT_readDigits 1 0 0 none g0 res 0 [(0, Sum.inr (6, o0))] [] h 0 0 := by
  refine mv_blkX ax2 (GT_readDigits) (by decide) kT_readDigits (fun pc lv st h ce sl hh => ?_) ((eT_readDigits (fT_readDigits_b5 1000) o0 h).trans hh)
  obtain ⟨hg, hh1⟩ := mv_gd_some hh
  obtain ⟨rfl, rfl⟩ := mv_z2 hg
  rcases mv_cond_some hh1 with ⟨hb, hh2⟩ | ⟨hb, hh3⟩
  · obtain rfl := Nat.eq_of_beq_eq_true hb
    obtain ⟨o0, m0, hh4⟩ := mv_gR_some hh2
    obtain ⟨rfl, hh5⟩ := mv_sE_some hh4
    exact (xT_readDigits_b5 1000 o0 h hh5).sub (List.forall_mem_cons.mpr ⟨m0, (fun q hq => by cases hq)⟩)
  cases hh3

theorem mT_readDigits (o0 : Nat) (h : H2) (vs : List mv_V) (h' : H2) (hh : fT_readDigits o0 h = some (vs, h')) : mv_Met vw2 1 0 0 mdT_readDigits [Sum.inr (6, o0)] h vs h' :=
  mv_Met_of (by decide +kernel) (Nat.le_of_ble_eq_true rfl) (xT_readDigits o0 h hh)
theorem cT_readDigits_ok : mv_Cal vw2 1 (mdT_readDigits, true) ((0, 0), cT_readDigits) := by
  intro as h k res hh
  change cT_readDigits as h k = some res at hh
  unfold cT_readDigits at hh
  split at hh
  · obtain ⟨hg0, ha0⟩ := mv_gd_some hh
    obtain rfl := Nat.eq_of_beq_eq_true hg0
    obtain ⟨h', h1, h9⟩ := mv_rV_some ha0
    exact ⟨_, _, h9, (by first | decide | exact Nat.le_refl _ | exact Nat.zero_le _), fun _ => ⟨_, _, _, rfl, Or.inl ⟨by decide, rfl⟩⟩, (mT_readDigits _ h _ _ h1)⟩
  · cases hh

