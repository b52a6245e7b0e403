set_option maxRecDepth 100000 in
theorem kM_deepen : mv_tok mdM_deepen nM_deepen tM_deepen = true := by decide +kernel
set_option maxRecDepth 100000 in
set_option maxHeartbeats 1000000 in
theorem eM_deepen (o0 : Nat) (v1 : Int32) (v2 : Int32) (h : H2) : mv_blk rI2 rR2 ln2 wI2 wR2 nw2 cp2 bod none tM_deepen gM_deepen 0 0 [] (fun _ _ _ _ _ _ => none) 400 (mv_seek 0 tM_deepen) [(0, Sum.inr (2, o0)), (1, Sum.inl (Value.int v1)), (2, Sum.inl (Value.int v2))] [] h 0 0 = (
  mv_gd (mv_inb v1 8) <|
  if (rI2 h 305 o0 v1.toNatClampNeg) = (-(nI 1)) then (
    some ([], h))
  else
  mv_rV (fM_settle o0 v1 v2 h) fun h1 =>
  some ([], h1)) := rfl
theorem GM_deepen : ∀ (j : Nat) (C : mv_C H2) (md' : mv_MD × Bool), mv_nth j gM_deepen = some C → mv_nth j nM_deepen = some md' → ∃ n', n' + 1 ≤ 2 ∧ mv_Cal vw2 n' md' C := fun j C md' => match j with
  | 0 => fun h1 h2 => by
    obtain rfl := Option.some.inj h1
    obtain rfl := Option.some.inj h2
    exact ⟨1, by decide, cM_settle_ok⟩
  | jj + 1 => fun h1 _ => by cases jj <;> cases h1

set_option maxRecDepth 20000 in
theorem xM_deepen {g0 : mv_G} {res : List mv_V × H2} (o0 : Nat) (v1 : Int32) (v2 : Int32) (h : H2) (hh : fM_deepen o0 v1 v2 h = some res) : mv_X vw2 mdM_deepen 2 0 0 none g0 res 0 [(0, Sum.inr (2, o0)), (1, Sum.inl (Value.int v1)), (2, Sum.inl (Value.int v2))] [] h 0 0 := by
  refine mv_blkX ax2 (GM_deepen) (by decide) kM_deepen (fun pc lv st h ce sl hh => ?_) ((eM_deepen  o0 v1 v2 h).trans hh)
  cases hh

theorem mM_deepen (o0 : Nat) (v1 : Int32) (v2 : Int32) (h : H2) (vs : List mv_V) (h' : H2) (hh : fM_deepen o0 v1 v2 h = some (vs, h')) : mv_Met vw2 2 0 0 mdM_deepen [Sum.inr (2, o0), Sum.inl (Value.int v1), Sum.inl (Value.int v2)] h vs h' :=
  mv_Met_of (by decide +kernel) (Nat.le_of_ble_eq_true rfl) (xM_deepen o0 v1 v2 h hh)
theorem cM_deepen_ok : mv_Cal vw2 2 (mdM_deepen, true) ((0, 0), cM_deepen) := by
  intro as h k res hh
  change cM_deepen as h k = some res at hh
  unfold cM_deepen at hh
  split at hh
  · obtain ⟨hg0, ha0⟩ := mv_gd_some hh
    obtain rfl := Nat.eq_of_beq_eq_true hg0
    obtain ⟨h', h1, h9⟩ := mv_rV_some ha0
    exact ⟨_, _, h9, (by first | decide | exact Nat.le_refl _ | exact Nat.zero_le _), fun _ => ⟨_, _, _, rfl, Or.inl ⟨by decide, rfl⟩⟩, (mM_deepen _ _ _ h _ _ h1)⟩
  · cases hh

set_option maxRecDepth 100000 in
theorem kM_passDay : mv_tok mdM_passDay nM_passDay tM_passDay = true := by decide +kernel
set_option maxRecDepth 100000 in
set_option maxHeartbeats 1000000 in
theorem eM_passDay_b86 (q86 : Nat → Int32 → H2 → O2) (o0 : Nat) (v2 : Int32) (h : H2) : mv_blk rI2 rR2 ln2 wI2 wR2 nw2 cp2 bod none tM_passDay gM_passDay 0 0 [86] (fun pc lv st h ce sl => mv_gd (Nat.beq ce 0 && Nat.beq sl 0) (cond (Nat.beq pc 86) (mv_gR 0 2 lv fun o0 => mv_gI 2 lv fun v2 => mv_sE st (q86 o0 v2 h)) (none))) 400 (mv_seek 86 tM_passDay) [(0, Sum.inr (2, o0)), (2, Sum.inl (Value.int v2))] [] h 0 0 = (
  if (nI 8) ≤ v2 then (
    mv_bh (wI2 h 2 o0 10 ((rI2 h 2 o0 10) + (nI 1))) fun h1 =>
    some ([], h1))
  else
  mv_gd (mv_inb v2 8) <|
  if (nI 9) ≤ (rI2 h 302 o0 v2.toNatClampNeg) then (
    mv_bi (v2 + (nI 1)) fun x2 =>
    q86 o0 x2 h)
  else
  mv_gd (mv_inb v2 8) <|
  mv_gd (mv_inb v2 8) <|
  mv_bh (wI2 h 302 o0 v2.toNatClampNeg ((rI2 h 302 o0 v2.toNatClampNeg) + (nI 1))) fun h3 =>
  mv_bi (v2 + (nI 1)) fun x4 =>
  q86 o0 x4 h3) := rfl
set_option maxRecDepth 100000 in
set_option maxHeartbeats 1000000 in
theorem eM_passDay_b43 (q43 : Nat → Int32 → H2 → O2) (q86 : Nat → Int32 → H2 → O2) (o0 : Nat) (v2 : Int32) (h : H2) : mv_blk rI2 rR2 ln2 wI2 wR2 nw2 cp2 bod none tM_passDay gM_passDay 0 0 [43, 86] (fun pc lv st h ce sl => mv_gd (Nat.beq ce 0 && Nat.beq sl 0) (cond (Nat.beq pc 43) (mv_gR 0 2 lv fun o0 => mv_gI 2 lv fun v2 => mv_sE st (q43 o0 v2 h)) (cond (Nat.beq pc 86) (mv_gR 0 2 lv fun o0 => mv_gI 2 lv fun v2 => mv_sE st (q86 o0 v2 h)) (none)))) 400 (mv_seek 43 tM_passDay) [(0, Sum.inr (2, o0)), (2, Sum.inl (Value.int v2))] [] h 0 0 = (
  if (rI2 h 2 o0 9) ≤ v2 then (
    mv_bi (nI 0) fun x1 =>
    q86 o0 x1 h)
  else
  mv_gd (mv_inb v2 8) <|
  if (rI2 h 307 o0 v2.toNatClampNeg) = (nI 1) then (
    mv_gd (mv_inb v2 8) <|
    mv_rI (fM_fades o0 v2 h) fun r3 h2 =>
    mv_rV (fM_deepen o0 v2 ((rI2 h 306 o0 v2.toNatClampNeg) - r3) h2) fun h4 =>
    mv_bi (v2 + (nI 1)) fun x5 =>
    q43 o0 x5 h4)
  else
  mv_bi (v2 + (nI 1)) fun x6 =>
  q43 o0 x6 h) := rfl
set_option maxRecDepth 100000 in
set_option maxHeartbeats 1000000 in
theorem eM_passDay_b7 (q7 : Nat → Int32 → Int32 → H2 → O2) (q43 : Nat → Int32 → H2 → O2) (o0 : Nat) (v1 : Int32) (v2 : Int32) (h : H2) : mv_blk rI2 rR2 ln2 wI2 wR2 nw2 cp2 bod none tM_passDay gM_passDay 0 0 [7, 43] (fun pc lv st h ce sl => mv_gd (Nat.beq ce 0 && Nat.beq sl 0) (cond (Nat.beq pc 7) (mv_gR 0 2 lv fun o0 => mv_gI 1 lv fun v1 => mv_gI 2 lv fun v2 => mv_sE st (q7 o0 v1 v2 h)) (cond (Nat.beq pc 43) (mv_gR 0 2 lv fun o0 => mv_gI 2 lv fun v2 => mv_sE st (q43 o0 v2 h)) (none)))) 400 (mv_seek 7 tM_passDay) [(0, Sum.inr (2, o0)), (1, Sum.inl (Value.int v1)), (2, Sum.inl (Value.int v2))] [] h 0 0 = (
  if (rI2 h 2 o0 9) ≤ v2 then (
    mv_bi (nI 0) fun x1 =>
    q43 o0 x1 h)
  else
  if v1 = (-(nI 1)) then (
    mv_bi (nI 0) fun x2 =>
    q43 o0 x2 h)
  else
  mv_gd (mv_inb v2 8) <|
  if (rI2 h 307 o0 v2.toNatClampNeg) = 0 then (
    mv_rV (fM_dipInto o0 v2 v1 h) fun h3 =>
    mv_bi (v2 + (nI 1)) fun x4 =>
    q7 o0 v1 x4 h3)
  else
  mv_bi (v2 + (nI 1)) fun x5 =>
  q7 o0 v1 x5 h) := rfl
set_option maxRecDepth 100000 in
set_option maxHeartbeats 1000000 in
theorem eM_passDay (q7 : Nat → Int32 → Int32 → H2 → O2) (o0 : Nat) (h : H2) : mv_blk rI2 rR2 ln2 wI2 wR2 nw2 cp2 bod none tM_passDay gM_passDay 0 0 [7] (fun pc lv st h ce sl => mv_gd (Nat.beq ce 0 && Nat.beq sl 0) (cond (Nat.beq pc 7) (mv_gR 0 2 lv fun o0 => mv_gI 1 lv fun v1 => mv_gI 2 lv fun v2 => mv_sE st (q7 o0 v1 v2 h)) (none))) 400 (mv_seek 0 tM_passDay) [(0, Sum.inr (2, o0))] [] h 0 0 = (
  mv_rI (fM_vatOfToday o0 h) fun r2 h1 =>
  mv_bi r2 fun x3 =>
  mv_bi (nI 0) fun x4 =>
  q7 o0 x3 x4 h1) := rfl
theorem GM_passDay : ∀ (j : Nat) (C : mv_C H2) (md' : mv_MD × Bool), mv_nth j gM_passDay = some C → mv_nth j nM_passDay = some md' → ∃ n', n' + 1 ≤ 3 ∧ mv_Cal vw2 n' md' C := fun j C md' => match j with
  | 0 => fun h1 h2 => by
    obtain rfl := Option.some.inj h1
    obtain rfl := Option.some.inj h2
    exact ⟨1, by decide, cM_vatOfToday_ok⟩
  | 1 => fun h1 h2 => by
    obtain rfl := Option.some.inj h1
    obtain rfl := Option.some.inj h2
    exact ⟨2, by decide, cM_dipInto_ok⟩
  | 2 => fun h1 h2 => by
    obtain rfl := Option.some.inj h1
    obtain rfl := Option.some.inj h2
    exact ⟨1, by decide, cM_fades_ok⟩
  | 3 => fun h1 h2 => by
    obtain rfl := Option.some.inj h1
    obtain rfl := Option.some.inj h2
    exact ⟨2, by decide, cM_deepen_ok⟩
  | jj + 4 => fun h1 _ => by cases jj <;> cases h1

set_option maxRecDepth 20000 in
theorem xM_passDay_b86 {g0 : mv_G} {res : List mv_V × H2} : ∀ (n : Nat) (o0 : Nat) (v2 : Int32) (h : H2), fM_passDay_b86 n o0 v2 h = some res → mv_X vw2 mdM_passDay 3 0 0 none g0 res 86 [(0, Sum.inr (2, o0)), (2, Sum.inl (Value.int v2))] [] h 0 0 := by
  intro n
  induction n with
  | zero => intro o0 v2 h hh; cases hh
  | succ n ih =>
    intro o0 v2 h hh
    refine mv_blkX ax2 (GM_passDay) (by decide) kM_passDay (fun pc lv st h ce sl hh => ?_) ((eM_passDay_b86 (fM_passDay_b86 n) o0 v2 h).trans hh)
    obtain ⟨hg, hh1⟩ := mv_gd_some hh
    obtain ⟨rfl, rfl⟩ := mv_z2 hg
    rcases mv_cond_some hh1 with ⟨hb, hh2⟩ | ⟨hb, hh3⟩
    · obtain rfl := Nat.eq_of_beq_eq_true hb
      obtain ⟨o0, m0, hh4⟩ := mv_gR_some hh2
      obtain ⟨v2, m1, hh5⟩ := mv_gI_some hh4
      obtain ⟨rfl, hh6⟩ := mv_sE_some hh5
      exact (ih o0 v2 h hh6).sub (List.forall_mem_cons.mpr ⟨m0, (List.forall_mem_cons.mpr ⟨m1, (fun q hq => by cases hq)⟩)⟩)
    cases hh3

set_option maxRecDepth 20000 in
theorem xM_passDay_b43 {g0 : mv_G} {res : List mv_V × H2} : ∀ (n : Nat) (o0 : Nat) (v2 : Int32) (h : H2), fM_passDay_b43 n o0 v2 h = some res → mv_X vw2 mdM_passDay 3 0 0 none g0 res 43 [(0, Sum.inr (2, o0)), (2, Sum.inl (Value.int v2))] [] h 0 0 := by
  intro n
  induction n with
  | zero => intro o0 v2 h hh; cases hh
  | succ n ih =>
    intro o0 v2 h hh
    refine mv_blkX ax2 (GM_passDay) (by decide) kM_passDay (fun pc lv st h ce sl hh => ?_) ((eM_passDay_b43 (fM_passDay_b43 n) (fM_passDay_b86 1000) o0 v2 h).trans hh)
    obtain ⟨hg, hh1⟩ := mv_gd_some hh
    obtain ⟨rfl, rfl⟩ := mv_z2 hg
    rcases mv_cond_some hh1 with ⟨hb, hh2⟩ | ⟨hb, hh3⟩
    · obtain rfl := Nat.eq_of_beq_eq_true hb
      obtain ⟨o0, m0, hh4⟩ := mv_gR_some hh2
      obtain ⟨v2, m1, hh5⟩ := mv_gI_some hh4
      obtain ⟨rfl, hh6⟩ := mv_sE_some hh5
      exact (ih o0 v2 h hh6).sub (List.forall_mem_cons.mpr ⟨m0, (List.forall_mem_cons.mpr ⟨m1, (fun q hq => by cases hq)⟩)⟩)
    rcases mv_cond_some hh3 with ⟨hb, hh7⟩ | ⟨hb, hh8⟩
    · obtain rfl := Nat.eq_of_beq_eq_true hb
      obtain ⟨o0, m0, hh9⟩ := mv_gR_some hh7
      obtain ⟨v2, m1, hh10⟩ := mv_gI_some hh9
      obtain ⟨rfl, hh11⟩ := mv_sE_some hh10
      exact (xM_passDay_b86 1000 o0 v2 h hh11).sub (List.forall_mem_cons.mpr ⟨m0, (List.forall_mem_cons.mpr ⟨m1, (fun q hq => by cases hq)⟩)⟩)
    cases hh8

set_option maxRecDepth 20000 in
theorem xM_passDay_b7 {g0 : mv_G} {res : List mv_V × H2} : ∀ (n : Nat) (o0 : Nat) (v1 : Int32) (v2 : Int32) (h : H2), fM_passDay_b7 n o0 v1 v2 h = some res → mv_X vw2 mdM_passDay 3 0 0 none g0 res 7 [(0, Sum.inr (2, o0)), (1, Sum.inl (Value.int v1)), (2, Sum.inl (Value.int v2))] [] h 0 0 := by
  intro n
  induction n with
  | zero => intro o0 v1 v2 h hh; cases hh
  | succ n ih =>
    intro o0 v1 v2 h hh
    refine mv_blkX ax2 (GM_passDay) (by decide) kM_passDay (fun pc lv st h ce sl hh => ?_) ((eM_passDay_b7 (fM_passDay_b7 n) (fM_passDay_b43 1000) o0 v1 v2 h).trans hh)
    obtain ⟨hg, hh1⟩ := mv_gd_some hh
    obtain ⟨rfl, rfl⟩ := mv_z2 hg
    rcases mv_cond_some hh1 with ⟨hb, hh2⟩ | ⟨hb, hh3⟩
    · obtain rfl := Nat.eq_of_beq_eq_true hb
      obtain ⟨o0, m0, hh4⟩ := mv_gR_some hh2
      obtain ⟨v1, m1, hh5⟩ := mv_gI_some hh4
      obtain ⟨v2, m2, hh6⟩ := mv_gI_some hh5
      obtain ⟨rfl, hh7⟩ := mv_sE_some hh6
      exact (ih o0 v1 v2 h hh7).sub (List.forall_mem_cons.mpr ⟨m0, (List.forall_mem_cons.mpr ⟨m1, (List.forall_mem_cons.mpr ⟨m2, (fun q hq => by cases hq)⟩)⟩)⟩)
    rcases mv_cond_some hh3 with ⟨hb, hh8⟩ | ⟨hb, hh9⟩
    · obtain rfl := Nat.eq_of_beq_eq_true hb
      obtain ⟨o0, m0, hh10⟩ := mv_gR_some hh8
      obtain ⟨v2, m1, hh11⟩ := mv_gI_some hh10
      obtain ⟨rfl, hh12⟩ := mv_sE_some hh11
      exact (xM_passDay_b43 1000 o0 v2 h hh12).sub (List.forall_mem_cons.mpr ⟨m0, (List.forall_mem_cons.mpr ⟨m1, (fun q hq => by cases hq)⟩)⟩)
    cases hh9

set_option maxRecDepth 20000 in
theorem xM_passDay {g0 : mv_G} {res : List mv_V × H2} (o0 : Nat) (h : H2) (hh : fM_passDay o0 h = some res) : mv_X vw2 mdM_passDay 3 0 0 none g0 res 0 [(0, Sum.inr (2, o0))] [] h 0 0 := by
  refine mv_blkX ax2 (GM_passDay) (by decide) kM_passDay (fun pc lv st h ce sl hh => ?_) ((eM_passDay (fM_passDay_b7 1000) o0 h).trans hh)
  obtain ⟨hg, hh1⟩ := mv_gd_some hh
  obtain ⟨rfl, rfl⟩ := mv_z2 hg
  rcases mv_cond_some hh1 with ⟨hb, hh2⟩ | ⟨hb, hh3⟩
  · obtain rfl := Nat.eq_of_beq_eq_true hb
    obtain ⟨o0, m0, hh4⟩ := mv_gR_some hh2
    obtain ⟨v1, m1, hh5⟩ := mv_gI_some hh4
    obtain ⟨v2, m2, hh6⟩ := mv_gI_some hh5
    obtain ⟨rfl, hh7⟩ := mv_sE_some hh6
    exact (xM_passDay_b7 1000 o0 v1 v2 h hh7).sub (List.forall_mem_cons.mpr ⟨m0, (List.forall_mem_cons.mpr ⟨m1, (List.forall_mem_cons.mpr ⟨m2, (fun q hq => by cases hq)⟩)⟩)⟩)
  cases hh3

theorem mM_passDay (o0 : Nat) (h : H2) (vs : List mv_V) (h' : H2) (hh : fM_passDay o0 h = some (vs, h')) : mv_Met vw2 3 0 0 mdM_passDay [Sum.inr (2, o0)] h vs h' :=
  mv_Met_of (by decide +kernel) (Nat.le_of_ble_eq_true rfl) (xM_passDay o0 h hh)
theorem cM_passDay_ok : mv_Cal vw2 3 (mdM_passDay, true) ((0, 0), cM_passDay) := by
  intro as h k res hh
  change cM_passDay as h k = some res at hh
  unfold cM_passDay at hh
  split at hh
  · obtain ⟨hg0, ha0⟩ := mv_gd_some hh
    obtain rfl := Nat.eq_of_beq_eq_true hg0
    obtain ⟨h', h1, h9⟩ := mv_rV_some ha0
    exact ⟨_, _, h9, (by first | decide | exact Nat.le_refl _ | exact Nat.zero_le _), fun _ => ⟨_, _, _, rfl, Or.inl ⟨by decide, rfl⟩⟩, (mM_passDay _ h _ _ h1)⟩
  · cases hh

set_option maxRecDepth 100000 in
theorem kM_passDays : mv_tok mdM_passDays nM_passDays tM_passDays = true := by decide +kernel
set_option maxRecDepth 100000 in
set_option maxHeartbeats 1000000 in
theorem eM_passDays_b2 (q2 : Nat → Int32 → Int32 → H2 → O2) (o0 : Nat) (v1 : Int32) (v2 : Int32) (h : H2) : mv_blk rI2 rR2 ln2 wI2 wR2 nw2 cp2 bod none tM_passDays gM_passDays 0 0 [2] (fun pc lv st h ce sl => mv_gd (Nat.beq ce 0 && Nat.beq sl 0) (cond (Nat.beq pc 2) (mv_gR 0 2 lv fun o0 => mv_gI 1 lv fun v1 => mv_gI 2 lv fun v2 => mv_sE st (q2 o0 v1 v2 h)) (none))) 400 (mv_seek 2 tM_passDays) [(0, Sum.inr (2, o0)), (1, Sum.inl (Value.int v1)), (2, Sum.inl (Value.int v2))] [] h 0 0 = (
  if v1 ≤ v2 then (
    some ([], h))
  else
  mv_rV (fM_passDay o0 h) fun h1 =>
  mv_bi (v2 + (nI 1)) fun x2 =>
  q2 o0 v1 x2 h1) := rfl
set_option maxRecDepth 100000 in
set_option maxHeartbeats 1000000 in
theorem eM_passDays (q2 : Nat → Int32 → Int32 → H2 → O2) (o0 : Nat) (v1 : Int32) (h : H2) : mv_blk rI2 rR2 ln2 wI2 wR2 nw2 cp2 bod none tM_passDays gM_passDays 0 0 [2] (fun pc lv st h ce sl => mv_gd (Nat.beq ce 0 && Nat.beq sl 0) (cond (Nat.beq pc 2) (mv_gR 0 2 lv fun o0 => mv_gI 1 lv fun v1 => mv_gI 2 lv fun v2 => mv_sE st (q2 o0 v1 v2 h)) (none))) 400 (mv_seek 0 tM_passDays) [(0, Sum.inr (2, o0)), (1, Sum.inl (Value.int v1))] [] h 0 0 = (
  mv_bi (nI 0) fun x1 =>
  q2 o0 v1 x1 h) := rfl
theorem GM_passDays : ∀ (j : Nat) (C : mv_C H2) (md' : mv_MD × Bool), mv_nth j gM_passDays = some C → mv_nth j nM_passDays = some md' → ∃ n', n' + 1 ≤ 4 ∧ mv_Cal vw2 n' md' C := fun j C md' => match j with
  | 0 => fun h1 h2 => by
    obtain rfl := Option.some.inj h1
    obtain rfl := Option.some.inj h2
    exact ⟨3, by decide, cM_passDay_ok⟩
  | jj + 1 => fun h1 _ => by cases jj <;> cases h1

set_option maxRecDepth 20000 in
theorem xM_passDays_b2 {g0 : mv_G} {res : List mv_V × H2} : ∀ (n : Nat) (o0 : Nat) (v1 : Int32) (v2 : Int32) (h : H2), fM_passDays_b2 n o0 v1 v2 h = some res → mv_X vw2 mdM_passDays 4 0 0 none g0 res 2 [(0, Sum.inr (2, o0)), (1, Sum.inl (Value.int v1)), (2, Sum.inl (Value.int v2))] [] h 0 0 := by
  intro n
  induction n with
  | zero => intro o0 v1 v2 h hh; cases hh
  | succ n ih =>
    intro o0 v1 v2 h hh
    refine mv_blkX ax2 (GM_passDays) (by decide) kM_passDays (fun pc lv st h ce sl hh => ?_) ((eM_passDays_b2 (fM_passDays_b2 n) o0 v1 v2 h).trans hh)
    obtain ⟨hg, hh1⟩ := mv_gd_some hh
    obtain ⟨rfl, rfl⟩ := mv_z2 hg
    rcases mv_cond_some hh1 with ⟨hb, hh2⟩ | ⟨hb, hh3⟩
    · obtain rfl := Nat.eq_of_beq_eq_true hb
      obtain ⟨o0, m0, hh4⟩ := mv_gR_some hh2
      obtain ⟨v1, m1, hh5⟩ := mv_gI_some hh4
      obtain ⟨v2, m2, hh6⟩ := mv_gI_some hh5
      obtain ⟨rfl, hh7⟩ := mv_sE_some hh6
      exact (ih o0 v1 v2 h hh7).sub (List.forall_mem_cons.mpr ⟨m0, (List.forall_mem_cons.mpr ⟨m1, (List.forall_mem_cons.mpr ⟨m2, (fun q hq => by cases hq)⟩)⟩)⟩)
    cases hh3

set_option maxRecDepth 20000 in
theorem xM_passDays {g0 : mv_G} {res : List mv_V × H2} (o0 : Nat) (v1 : Int32) (h : H2) (hh : fM_passDays o0 v1 h = some res) : mv_X vw2 mdM_passDays 4 0 0 none g0 res 0 [(0, Sum.inr (2, o0)), (1, Sum.inl (Value.int v1))] [] h 0 0 := by
  refine mv_blkX ax2 (GM_passDays) (by decide) kM_passDays (fun pc lv st h ce sl hh => ?_) ((eM_passDays (fM_passDays_b2 1000) o0 v1 h).trans hh)
  obtain ⟨hg, hh1⟩ := mv_gd_some hh
  obtain ⟨rfl, rfl⟩ := mv_z2 hg
  rcases mv_cond_some hh1 with ⟨hb, hh2⟩ | ⟨hb, hh3⟩
  · obtain rfl := Nat.eq_of_beq_eq_true hb
    obtain ⟨o0, m0, hh4⟩ := mv_gR_some hh2
    obtain ⟨v1, m1, hh5⟩ := mv_gI_some hh4
    obtain ⟨v2, m2, hh6⟩ := mv_gI_some hh5
    obtain ⟨rfl, hh7⟩ := mv_sE_some hh6
    exact (xM_passDays_b2 1000 o0 v1 v2 h hh7).sub (List.forall_mem_cons.mpr ⟨m0, (List.forall_mem_cons.mpr ⟨m1, (List.forall_mem_cons.mpr ⟨m2, (fun q hq => by cases hq)⟩)⟩)⟩)
  cases hh3

theorem mM_passDays (o0 : Nat) (v1 : Int32) (h : H2) (vs : List mv_V) (h' : H2) (hh : fM_passDays o0 v1 h = some (vs, h')) : mv_Met vw2 4 0 0 mdM_passDays [Sum.inr (2, o0), Sum.inl (Value.int v1)] h vs h' :=
  mv_Met_of (by decide +kernel) (Nat.le_of_ble_eq_true rfl) (xM_passDays o0 v1 h hh)
theorem cM_passDays_ok : mv_Cal vw2 4 (mdM_passDays, true) ((0, 0), cM_passDays) := by
  intro as h k res hh
  change cM_passDays as h k = some res at hh
  unfold cM_passDays at hh
  split at hh
  · obtain ⟨hg0, ha0⟩ := mv_gd_some hh
    obtain rfl := Nat.eq_of_beq_eq_true hg0
    obtain ⟨h', h1, h9⟩ := mv_rV_some ha0
    exact ⟨_, _, h9, (by first | decide | exact Nat.le_refl _ | exact Nat.zero_le _), fun _ => ⟨_, _, _, rfl, Or.inl ⟨by decide, rfl⟩⟩, (mM_passDays _ _ h _ _ h1)⟩
  · cases hh

set_option maxRecDepth 100000 in
theorem kF_behind : mv_tok mdF_behind nF_behind tF_behind = true := by decide +kernel
set_option maxRecDepth 100000 in
set_option maxHeartbeats 1000000 in
theorem eF_behind (o0 : Nat) (o1 : Nat) (v2 : Int32) (h : H2) : mv_blk rI2 rR2 ln2 wI2 wR2 nw2 cp2 bod none tF_behind gF_behind 0 0 [] (fun _ _ _ _ _ _ => none) 400 (mv_seek 0 tF_behind) [(0, Sum.inr (1, o0)), (1, Sum.inr (2, o1)), (2, Sum.inl (Value.int v2))] [] h 0 0 = (
  mv_rV (fM_copyFrom 3 o1 h) fun h1 =>
  mv_rV (fM_passDays 3 v2 h1) fun h2 =>
  some ([Sum.inr (2, 3)], h2)) := rfl
theorem GF_behind : ∀ (j : Nat) (C : mv_C H2) (md' : mv_MD × Bool), mv_nth j gF_behind = some C → mv_nth j nF_behind = some md' → ∃ n', n' + 1 ≤ 5 ∧ mv_Cal vw2 n' md' C := fun j C md' => match j with
  | 0 => fun h1 h2 => by
    obtain rfl := Option.some.inj h1
    obtain rfl := Option.some.inj h2
    exact ⟨1, by decide, cM_copyFrom_ok⟩
  | 1 => fun h1 h2 => by
    obtain rfl := Option.some.inj h1
    obtain rfl := Option.some.inj h2
    exact ⟨4, by decide, cM_passDays_ok⟩
  | jj + 2 => fun h1 _ => by cases jj <;> cases h1

set_option maxRecDepth 20000 in
theorem xF_behind {g0 : mv_G} {res : List mv_V × H2} (o0 : Nat) (o1 : Nat) (v2 : Int32) (h : H2) (hh : fF_behind o0 o1 v2 h = some res) : mv_X vw2 mdF_behind 5 0 0 none g0 res 0 [(0, Sum.inr (1, o0)), (1, Sum.inr (2, o1)), (2, Sum.inl (Value.int v2))] [] h 0 0 := by
  refine mv_blkX ax2 (GF_behind) (by decide) kF_behind (fun pc lv st h ce sl hh => ?_) ((eF_behind  o0 o1 v2 h).trans hh)
  cases hh

theorem mF_behind (o0 : Nat) (o1 : Nat) (v2 : Int32) (h : H2) (vs : List mv_V) (h' : H2) (hh : fF_behind o0 o1 v2 h = some (vs, h')) : mv_Met vw2 5 0 0 mdF_behind [Sum.inr (1, o0), Sum.inr (2, o1), Sum.inl (Value.int v2)] h vs h' :=
  mv_Met_of (by decide +kernel) (Nat.le_of_ble_eq_true rfl) (xF_behind o0 o1 v2 h hh)
theorem cF_behind_ok : mv_Cal vw2 5 (mdF_behind, true) ((0, 0), cF_behind) := by
  intro as h k res hh
  change cF_behind as h k = some res at hh
  unfold cF_behind at hh
  split at hh
  · obtain ⟨hg0, ha0⟩ := mv_gd_some hh
    obtain rfl := Nat.eq_of_beq_eq_true hg0
    obtain ⟨hg1, ha1⟩ := mv_gd_some ha0
    obtain rfl := Nat.eq_of_beq_eq_true hg1
    obtain ⟨x, h', h1, h9⟩ := mv_rR_some ha1
    exact ⟨_, _, h9, (by first | decide | exact Nat.le_refl _ | exact Nat.zero_le _), fun _ => ⟨_, _, _, rfl, Or.inl ⟨by decide, rfl⟩⟩, (mF_behind _ _ _ h _ _ h1)⟩
  · cases hh

set_option maxRecDepth 100000 in
theorem kM_allDepths : mv_tok mdM_allDepths nM_allDepths tM_allDepths = true := by decide +kernel
set_option maxRecDepth 100000 in
set_option maxHeartbeats 1000000 in
theorem eM_allDepths_b4 (q4 : Nat → Int32 → Int32 → H2 → O2) (o0 : Nat) (v1 : Int32) (v2 : Int32) (h : H2) : mv_blk rI2 rR2 ln2 wI2 wR2 nw2 cp2 bod none tM_allDepths gM_allDepths 0 0 [4] (fun pc lv st h ce sl => mv_gd (Nat.beq ce 0 && Nat.beq sl 0) (cond (Nat.beq pc 4) (mv_gR 0 2 lv fun o0 => mv_gI 1 lv fun v1 => mv_gI 2 lv fun v2 => mv_sE st (q4 o0 v1 v2 h)) (none))) 400 (mv_seek 4 tM_allDepths) [(0, Sum.inr (2, o0)), (1, Sum.inl (Value.int v1)), (2, Sum.inl (Value.int v2))] [] h 0 0 = (
  if (rI2 h 2 o0 9) ≤ v2 then (
    some ([Sum.inl (Value.int v1)], h))
  else
  mv_gd (mv_inb v2 8) <|
  mv_bi (v1 + (rI2 h 306 o0 v2.toNatClampNeg)) fun x1 =>
  mv_bi (v2 + (nI 1)) fun x2 =>
  q4 o0 x1 x2 h) := rfl
set_option maxRecDepth 100000 in
set_option maxHeartbeats 1000000 in
theorem eM_allDepths (q4 : Nat → Int32 → Int32 → H2 → O2) (o0 : Nat) (h : H2) : mv_blk rI2 rR2 ln2 wI2 wR2 nw2 cp2 bod none tM_allDepths gM_allDepths 0 0 [4] (fun pc lv st h ce sl => mv_gd (Nat.beq ce 0 && Nat.beq sl 0) (cond (Nat.beq pc 4) (mv_gR 0 2 lv fun o0 => mv_gI 1 lv fun v1 => mv_gI 2 lv fun v2 => mv_sE st (q4 o0 v1 v2 h)) (none))) 400 (mv_seek 0 tM_allDepths) [(0, Sum.inr (2, o0))] [] h 0 0 = (
  mv_bi (nI 0) fun x1 =>
  mv_bi (nI 0) fun x2 =>
  q4 o0 x1 x2 h) := rfl
theorem GM_allDepths : ∀ (j : Nat) (C : mv_C H2) (md' : mv_MD × Bool), mv_nth j gM_allDepths = some C → mv_nth j nM_allDepths = some md' → ∃ n', n' + 1 ≤ 1 ∧ mv_Cal vw2 n' md' C := fun j C md' h1 _ => by cases j <;> cases h1

set_option maxRecDepth 20000 in
theorem xM_allDepths_b4 {g0 : mv_G} {res : List mv_V × H2} : ∀ (n : Nat) (o0 : Nat) (v1 : Int32) (v2 : Int32) (h : H2), fM_allDepths_b4 n o0 v1 v2 h = some res → mv_X vw2 mdM_allDepths 1 0 0 none g0 res 4 [(0, Sum.inr (2, o0)), (1, Sum.inl (Value.int v1)), (2, Sum.inl (Value.int v2))] [] h 0 0 := by
  intro n
  induction n with
  | zero => intro o0 v1 v2 h hh; cases hh
  | succ n ih =>
    intro o0 v1 v2 h hh
    refine mv_blkX ax2 (GM_allDepths) (by decide) kM_allDepths (fun pc lv st h ce sl hh => ?_) ((eM_allDepths_b4 (fM_allDepths_b4 n) o0 v1 v2 h).trans hh)
    obtain ⟨hg, hh1⟩ := mv_gd_some hh
    obtain ⟨rfl, rfl⟩ := mv_z2 hg
    rcases mv_cond_some hh1 with ⟨hb, hh2⟩ | ⟨hb, hh3⟩
    · obtain rfl := Nat.eq_of_beq_eq_true hb
      obtain ⟨o0, m0, hh4⟩ := mv_gR_some hh2
      obtain ⟨v1, m1, hh5⟩ := mv_gI_some hh4
      obtain ⟨v2, m2, hh6⟩ := mv_gI_some hh5
      obtain ⟨rfl, hh7⟩ := mv_sE_some hh6
      exact (ih o0 v1 v2 h hh7).sub (List.forall_mem_cons.mpr ⟨m0, (List.forall_mem_cons.mpr ⟨m1, (List.forall_mem_cons.mpr ⟨m2, (fun q hq => by cases hq)⟩)⟩)⟩)
    cases hh3

set_option maxRecDepth 20000 in
theorem xM_allDepths {g0 : mv_G} {res : List mv_V × H2} (o0 : Nat) (h : H2) (hh : fM_allDepths o0 h = some res) : mv_X vw2 mdM_allDepths 1 0 0 none g0 res 0 [(0, Sum.inr (2, o0))] [] h 0 0 := by
  refine mv_blkX ax2 (GM_allDepths) (by decide) kM_allDepths (fun pc lv st h ce sl hh => ?_) ((eM_allDepths (fM_allDepths_b4 1000) o0 h).trans hh)
  obtain ⟨hg, hh1⟩ := mv_gd_some hh
  obtain ⟨rfl, rfl⟩ := mv_z2 hg
  rcases mv_cond_some hh1 with ⟨hb, hh2⟩ | ⟨hb, hh3⟩
  · obtain rfl := Nat.eq_of_beq_eq_true hb
    obtain ⟨o0, m0, hh4⟩ := mv_gR_some hh2
    obtain ⟨v1, m1, hh5⟩ := mv_gI_some hh4
    obtain ⟨v2, m2, hh6⟩ := mv_gI_some hh5
    obtain ⟨rfl, hh7⟩ := mv_sE_some hh6
    exact (xM_allDepths_b4 1000 o0 v1 v2 h hh7).sub (List.forall_mem_cons.mpr ⟨m0, (List.forall_mem_cons.mpr ⟨m1, (List.forall_mem_cons.mpr ⟨m2, (fun q hq => by cases hq)⟩)⟩)⟩)
  cases hh3

theorem mM_allDepths (o0 : Nat) (h : H2) (vs : List mv_V) (h' : H2) (hh : fM_allDepths o0 h = some (vs, h')) : mv_Met vw2 1 0 0 mdM_allDepths [Sum.inr (2, o0)] h vs h' :=
  mv_Met_of (by decide +kernel) (Nat.le_of_ble_eq_true rfl) (xM_allDepths o0 h hh)
theorem cM_allDepths_ok : mv_Cal vw2 1 (mdM_allDepths, true) ((0, 0), cM_allDepths) := by
  intro as h k res hh
  change cM_allDepths as h k = some res at hh
  unfold cM_allDepths at hh
  split at hh
  · obtain ⟨hg0, ha0⟩ := mv_gd_some hh
    obtain rfl := Nat.eq_of_beq_eq_true hg0
    obtain ⟨x, h', h1, h9⟩ := mv_rI_some ha0
    exact ⟨_, _, h9, (by first | decide | exact Nat.le_refl _ | exact Nat.zero_le _), fun _ => ⟨_, _, _, rfl, Or.inl ⟨by decide, rfl⟩⟩, (mM_allDepths _ h _ _ h1)⟩
  · cases hh

set_option maxRecDepth 100000 in
theorem kM_draw : mv_tok mdM_draw nM_draw tM_draw = true := by decide +kernel
set_option maxRecDepth 100000 in
set_option maxHeartbeats 1000000 in
theorem eM_draw (o0 : Nat) (h : H2) : mv_blk rI2 rR2 ln2 wI2 wR2 nw2 cp2 bod none tM_draw gM_draw 0 0 [] (fun _ _ _ _ _ _ => none) 400 (mv_seek 0 tM_draw) [(0, Sum.inr (2, o0))] [] h 0 0 = (
  mv_bh (wI2 h 2 o0 11 (((rI2 h 2 o0 11) * (nI 1103515245)) + (nI 12345))) fun h1 =>
  some ([Sum.inl (Value.int (((rI2 h1 2 o0 11).toUInt32 >>> ((nI 16).toUInt32 &&& Int32.toUInt32 31)).toInt32))], h1)) := rfl
theorem GM_draw : ∀ (j : Nat) (C : mv_C H2) (md' : mv_MD × Bool), mv_nth j gM_draw = some C → mv_nth j nM_draw = some md' → ∃ n', n' + 1 ≤ 1 ∧ mv_Cal vw2 n' md' C := fun j C md' h1 _ => by cases j <;> cases h1

set_option maxRecDepth 20000 in
theorem xM_draw {g0 : mv_G} {res : List mv_V × H2} (o0 : Nat) (h : H2) (hh : fM_draw o0 h = some res) : mv_X vw2 mdM_draw 1 0 0 none g0 res 0 [(0, Sum.inr (2, o0))] [] h 0 0 := by
  refine mv_blkX ax2 (GM_draw) (by decide) kM_draw (fun pc lv st h ce sl hh => ?_) ((eM_draw  o0 h).trans hh)
  cases hh

theorem mM_draw (o0 : Nat) (h : H2) (vs : List mv_V) (h' : H2) (hh : fM_draw o0 h = some (vs, h')) : mv_Met vw2 1 0 0 mdM_draw [Sum.inr (2, o0)] h vs h' :=
  mv_Met_of (by decide +kernel) (Nat.le_of_ble_eq_true rfl) (xM_draw o0 h hh)
theorem cM_draw_ok : mv_Cal vw2 1 (mdM_draw, true) ((0, 0), cM_draw) := by
  intro as h k res hh
  change cM_draw as h k = some res at hh
  unfold cM_draw at hh
  split at hh
  · obtain ⟨hg0, ha0⟩ := mv_gd_some hh
    obtain rfl := Nat.eq_of_beq_eq_true hg0
    obtain ⟨x, h', h1, h9⟩ := mv_rI_some ha0
    exact ⟨_, _, h9, (by first | decide | exact Nat.le_refl _ | exact Nat.zero_le _), fun _ => ⟨_, _, _, rfl, Or.inl ⟨by decide, rfl⟩⟩, (mM_draw _ h _ _ h1)⟩
  · cases hh

set_option maxRecDepth 100000 in
theorem kM_passDrawnDay : mv_tok mdM_passDrawnDay nM_passDrawnDay tM_passDrawnDay = true := by decide +kernel
set_option maxRecDepth 100000 in
set_option maxHeartbeats 1000000 in
theorem eM_passDrawnDay (o0 : Nat) (h : H2) : mv_blk rI2 rR2 ln2 wI2 wR2 nw2 cp2 bod none tM_passDrawnDay gM_passDrawnDay 0 0 [] (fun _ _ _ _ _ _ => none) 400 (mv_seek 0 tM_passDrawnDay) [(0, Sum.inr (2, o0))] [] h 0 0 = (
  if (rI2 h 2 o0 9) ≤ 0 then (
    mv_rV (fM_passDay o0 h) fun h1 =>
    some ([], h1))
  else
  mv_rI (fM_draw o0 h) fun r3 h2 =>
  mv_gd (!decide ((rI2 h2 2 o0 9) = 0)) <|
  mv_bi (r3 - r3 / (rI2 h2 2 o0 9) * (rI2 h2 2 o0 9)) fun x4 =>
  mv_rI (fM_draw o0 h2) fun r6 h5 =>
  mv_gd (!decide ((nI 100) = 0)) <|
  mv_gd (mv_inb (nI 3) 4) <|
  if (rI2 h5 300 o0 (nI 3).toNatClampNeg) ≤ (r6 - r6 / (nI 100) * (nI 100)) then (
    mv_rV (fM_passDay o0 h5) fun h7 =>
    some ([], h7))
  else
  mv_rI (fM_draw o0 h5) fun r9 h8 =>
  mv_gd (!decide ((nI 8) = 0)) <|
  mv_rV (fM_dipInto o0 x4 (r9 - r9 / (nI 8) * (nI 8)) h8) fun h10 =>
  mv_rV (fM_passDay o0 h10) fun h11 =>
  some ([], h11)) := rfl
theorem GM_passDrawnDay : ∀ (j : Nat) (C : mv_C H2) (md' : mv_MD × Bool), mv_nth j gM_passDrawnDay = some C → mv_nth j nM_passDrawnDay = some md' → ∃ n', n' + 1 ≤ 4 ∧ mv_Cal vw2 n' md' C := fun j C md' => match j with
  | 0 => fun h1 h2 => by
    obtain rfl := Option.some.inj h1
    obtain rfl := Option.some.inj h2
    exact ⟨1, by decide, cM_draw_ok⟩
  | 1 => fun h1 h2 => by
    obtain rfl := Option.some.inj h1
    obtain rfl := Option.some.inj h2
    exact ⟨2, by decide, cM_dipInto_ok⟩
  | 2 => fun h1 h2 => by
    obtain rfl := Option.some.inj h1
    obtain rfl := Option.some.inj h2
    exact ⟨3, by decide, cM_passDay_ok⟩
  | jj + 3 => fun h1 _ => by cases jj <;> cases h1

set_option maxRecDepth 20000 in
theorem xM_passDrawnDay {g0 : mv_G} {res : List mv_V × H2} (o0 : Nat) (h : H2) (hh : fM_passDrawnDay o0 h = some res) : mv_X vw2 mdM_passDrawnDay 4 0 0 none g0 res 0 [(0, Sum.inr (2, o0))] [] h 0 0 := by
  refine mv_blkX ax2 (GM_passDrawnDay) (by decide) kM_passDrawnDay (fun pc lv st h ce sl hh => ?_) ((eM_passDrawnDay  o0 h).trans hh)
  cases hh

theorem mM_passDrawnDay (o0 : Nat) (h : H2) (vs : List mv_V) (h' : H2) (hh : fM_passDrawnDay o0 h = some (vs, h')) : mv_Met vw2 4 0 0 mdM_passDrawnDay [Sum.inr (2, o0)] h vs h' :=
  mv_Met_of (by decide +kernel) (Nat.le_of_ble_eq_true rfl) (xM_passDrawnDay o0 h hh)
theorem cM_passDrawnDay_ok : mv_Cal vw2 4 (mdM_passDrawnDay, true) ((0, 0), cM_passDrawnDay) := by
  intro as h k res hh
  change cM_passDrawnDay as h k = some res at hh
  unfold cM_passDrawnDay at hh
  split at hh
  · obtain ⟨hg0, ha0⟩ := mv_gd_some hh
    obtain rfl := Nat.eq_of_beq_eq_true hg0
    obtain ⟨h', h1, h9⟩ := mv_rV_some ha0
    exact ⟨_, _, h9, (by first | decide | exact Nat.le_refl _ | exact Nat.zero_le _), fun _ => ⟨_, _, _, rfl, Or.inl ⟨by decide, rfl⟩⟩, (mM_passDrawnDay _ h _ _ h1)⟩
  · cases hh

set_option maxRecDepth 100000 in
theorem kF_luckyDays : mv_tok mdF_luckyDays nF_luckyDays tF_luckyDays = true := by decide +kernel
set_option maxRecDepth 100000 in
set_option maxHeartbeats 1000000 in
theorem eF_luckyDays_b22 (q22 : Nat → Nat → Int32 → Int32 → Int32 → Int32 → Int32 → H2 → O2) (o0 : Nat) (o1 : Nat) (v2 : Int32) (v3 : Int32) (v4 : Int32) (v5 : Int32) (v6 : Int32) (h : H2) : mv_blk rI2 rR2 ln2 wI2 wR2 nw2 cp2 bod none tF_luckyDays gF_luckyDays 0 0 [22] (fun pc lv st h ce sl => mv_gd (Nat.beq ce 0 && Nat.beq sl 0) (cond (Nat.beq pc 22) (mv_gR 0 1 lv fun o0 => mv_gR 1 2 lv fun o1 => mv_gI 2 lv fun v2 => mv_gI 3 lv fun v3 => mv_gI 4 lv fun v4 => mv_gI 5 lv fun v5 => mv_gI 6 lv fun v6 => mv_sE st (q22 o0 o1 v2 v3 v4 v5 v6 h)) (none))) 400 (mv_seek 22 tF_luckyDays) [(0, Sum.inr (1, o0)), (1, Sum.inr (2, o1)), (2, Sum.inl (Value.int v2)), (3, Sum.inl (Value.int v3)), (4, Sum.inl (Value.int v4)), (5, Sum.inl (Value.int v5)), (6, Sum.inl (Value.int v6))] [] h 0 0 = (
  if v2 ≤ v6 then (
    some ([Sum.inl (Value.int v5)], h))
  else
  mv_rV (fM_copyFrom 3 o1 h) fun h1 =>
  mv_bh (wI2 h1 2 3 11 v4) fun h2 =>
  mv_rV (fM_passDrawnDay 3 h2) fun h3 =>
  mv_bi (rI2 h3 2 3 11) fun x4 =>
  mv_rI (fM_allDepths 3 h3) fun r6 h5 =>
  if r6 ≤ v3 then (
    mv_bi (v6 + (nI 1)) fun x7 =>
    q22 o0 o1 v2 v3 x4 v5 x7 h5)
  else
  mv_bi (v5 + (nI 1)) fun x8 =>
  mv_bi (v6 + (nI 1)) fun x9 =>
  q22 o0 o1 v2 v3 x4 x8 x9 h5) := rfl
set_option maxRecDepth 100000 in
set_option maxHeartbeats 1000000 in
theorem eF_luckyDays (q22 : Nat → Nat → Int32 → Int32 → Int32 → Int32 → Int32 → H2 → O2) (o0 : Nat) (o1 : Nat) (v2 : Int32) (h : H2) : mv_blk rI2 rR2 ln2 wI2 wR2 nw2 cp2 bod none tF_luckyDays gF_luckyDays 0 0 [22] (fun pc lv st h ce sl => mv_gd (Nat.beq ce 0 && Nat.beq sl 0) (cond (Nat.beq pc 22) (mv_gR 0 1 lv fun o0 => mv_gR 1 2 lv fun o1 => mv_gI 2 lv fun v2 => mv_gI 3 lv fun v3 => mv_gI 4 lv fun v4 => mv_gI 5 lv fun v5 => mv_gI 6 lv fun v6 => mv_sE st (q22 o0 o1 v2 v3 v4 v5 v6 h)) (none))) 400 (mv_seek 0 tF_luckyDays) [(0, Sum.inr (1, o0)), (1, Sum.inr (2, o1)), (2, Sum.inl (Value.int v2))] [] h 0 0 = (
  mv_rR 2 (fF_behind o0 o1 (nI 1) h) fun r2 h1 =>
  mv_rI (fM_allDepths r2 h1) fun r4 h3 =>
  mv_bi r4 fun x5 =>
  mv_bi (rI2 h3 2 o1 11) fun x6 =>
  mv_bi (nI 0) fun x7 =>
  mv_bi (nI 0) fun x8 =>
  q22 o0 o1 v2 x5 x6 x7 x8 h3) := rfl
theorem GF_luckyDays : ∀ (j : Nat) (C : mv_C H2) (md' : mv_MD × Bool), mv_nth j gF_luckyDays = some C → mv_nth j nF_luckyDays = some md' → ∃ n', n' + 1 ≤ 6 ∧ mv_Cal vw2 n' md' C := fun j C md' => match j with
  | 0 => fun h1 h2 => by
    obtain rfl := Option.some.inj h1
    obtain rfl := Option.some.inj h2
    exact ⟨5, by decide, cF_behind_ok⟩
  | 1 => fun h1 h2 => by
    obtain rfl := Option.some.inj h1
    obtain rfl := Option.some.inj h2
    exact ⟨1, by decide, cM_allDepths_ok⟩
  | 2 => fun h1 h2 => by
    obtain rfl := Option.some.inj h1
    obtain rfl := Option.some.inj h2
    exact ⟨1, by decide, cM_copyFrom_ok⟩
  | 3 => fun h1 h2 => by
    obtain rfl := Option.some.inj h1
    obtain rfl := Option.some.inj h2
    exact ⟨4, by decide, cM_passDrawnDay_ok⟩
  | jj + 4 => fun h1 _ => by cases jj <;> cases h1

set_option maxRecDepth 20000 in
theorem xF_luckyDays_b22 {g0 : mv_G} {res : List mv_V × H2} : ∀ (n : Nat) (o0 : Nat) (o1 : Nat) (v2 : Int32) (v3 : Int32) (v4 : Int32) (v5 : Int32) (v6 : Int32) (h : H2), fF_luckyDays_b22 n o0 o1 v2 v3 v4 v5 v6 h = some res → mv_X vw2 mdF_luckyDays 6 0 0 none g0 res 22 [(0, Sum.inr (1, o0)), (1, Sum.inr (2, o1)), (2, Sum.inl (Value.int v2)), (3, Sum.inl (Value.int v3)), (4, Sum.inl (Value.int v4)), (5, Sum.inl (Value.int v5)), (6, Sum.inl (Value.int v6))] [] h 0 0 := by
  intro n
  induction n with
  | zero => intro o0 o1 v2 v3 v4 v5 v6 h hh; cases hh
  | succ n ih =>
    intro o0 o1 v2 v3 v4 v5 v6 h hh
    refine mv_blkX ax2 (GF_luckyDays) (by decide) kF_luckyDays (fun pc lv st h ce sl hh => ?_) ((eF_luckyDays_b22 (fF_luckyDays_b22 n) o0 o1 v2 v3 v4 v5 v6 h).trans hh)
    obtain ⟨hg, hh1⟩ := mv_gd_some hh
    obtain ⟨rfl, rfl⟩ := mv_z2 hg
    rcases mv_cond_some hh1 with ⟨hb, hh2⟩ | ⟨hb, hh3⟩
    · obtain rfl := Nat.eq_of_beq_eq_true hb
      obtain ⟨o0, m0, hh4⟩ := mv_gR_some hh2
      obtain ⟨o1, m1, hh5⟩ := mv_gR_some hh4
      obtain ⟨v2, m2, hh6⟩ := mv_gI_some hh5
      obtain ⟨v3, m3, hh7⟩ := mv_gI_some hh6
      obtain ⟨v4, m4, hh8⟩ := mv_gI_some hh7
      obtain ⟨v5, m5, hh9⟩ := mv_gI_some hh8
      obtain ⟨v6, m6, hh10⟩ := mv_gI_some hh9
      obtain ⟨rfl, hh11⟩ := mv_sE_some hh10
      exact (ih o0 o1 v2 v3 v4 v5 v6 h hh11).sub (List.forall_mem_cons.mpr ⟨m0, (List.forall_mem_cons.mpr ⟨m1, (List.forall_mem_cons.mpr ⟨m2, (List.forall_mem_cons.mpr ⟨m3, (List.forall_mem_cons.mpr ⟨m4, (List.forall_mem_cons.mpr ⟨m5, (List.forall_mem_cons.mpr ⟨m6, (fun q hq => by cases hq)⟩)⟩)⟩)⟩)⟩)⟩)⟩)
    cases hh3

set_option maxRecDepth 20000 in
theorem xF_luckyDays {g0 : mv_G} {res : List mv_V × H2} (o0 : Nat) (o1 : Nat) (v2 : Int32) (h : H2) (hh : fF_luckyDays o0 o1 v2 h = some res) : mv_X vw2 mdF_luckyDays 6 0 0 none g0 res 0 [(0, Sum.inr (1, o0)), (1, Sum.inr (2, o1)), (2, Sum.inl (Value.int v2))] [] h 0 0 := by
  refine mv_blkX ax2 (GF_luckyDays) (by decide) kF_luckyDays (fun pc lv st h ce sl hh => ?_) ((eF_luckyDays (fF_luckyDays_b22 1000) o0 o1 v2 h).trans hh)
  obtain ⟨hg, hh1⟩ := mv_gd_some hh
  obtain ⟨rfl, rfl⟩ := mv_z2 hg
  rcases mv_cond_some hh1 with ⟨hb, hh2⟩ | ⟨hb, hh3⟩
  · obtain rfl := Nat.eq_of_beq_eq_true hb
    obtain ⟨o0, m0, hh4⟩ := mv_gR_some hh2
    obtain ⟨o1, m1, hh5⟩ := mv_gR_some hh4
    obtain ⟨v2, m2, hh6⟩ := mv_gI_some hh5
    obtain ⟨v3, m3, hh7⟩ := mv_gI_some hh6
    obtain ⟨v4, m4, hh8⟩ := mv_gI_some hh7
    obtain ⟨v5, m5, hh9⟩ := mv_gI_some hh8
    obtain ⟨v6, m6, hh10⟩ := mv_gI_some hh9
    obtain ⟨rfl, hh11⟩ := mv_sE_some hh10
    exact (xF_luckyDays_b22 1000 o0 o1 v2 v3 v4 v5 v6 h hh11).sub (List.forall_mem_cons.mpr ⟨m0, (List.forall_mem_cons.mpr ⟨m1, (List.forall_mem_cons.mpr ⟨m2, (List.forall_mem_cons.mpr ⟨m3, (List.forall_mem_cons.mpr ⟨m4, (List.forall_mem_cons.mpr ⟨m5, (List.forall_mem_cons.mpr ⟨m6, (fun q hq => by cases hq)⟩)⟩)⟩)⟩)⟩)⟩)⟩)
  cases hh3

theorem mF_luckyDays (o0 : Nat) (o1 : Nat) (v2 : Int32) (h : H2) (vs : List mv_V) (h' : H2) (hh : fF_luckyDays o0 o1 v2 h = some (vs, h')) : mv_Met vw2 6 0 0 mdF_luckyDays [Sum.inr (1, o0), Sum.inr (2, o1), Sum.inl (Value.int v2)] h vs h' :=
  mv_Met_of (by decide +kernel) (Nat.le_of_ble_eq_true rfl) (xF_luckyDays o0 o1 v2 h hh)
theorem cF_luckyDays_ok : mv_Cal vw2 6 (mdF_luckyDays, true) ((0, 0), cF_luckyDays) := by
  intro as h k res hh
  change cF_luckyDays as h k = some res at hh
  unfold cF_luckyDays at hh
  split at hh
  · obtain ⟨hg0, ha0⟩ := mv_gd_some hh
    obtain rfl := Nat.eq_of_beq_eq_true hg0
    obtain ⟨hg1, ha1⟩ := mv_gd_some ha0
    obtain rfl := Nat.eq_of_beq_eq_true hg1
    obtain ⟨x, h', h1, h9⟩ := mv_rI_some ha1
    exact ⟨_, _, h9, (by first | decide | exact Nat.le_refl _ | exact Nat.zero_le _), fun _ => ⟨_, _, _, rfl, Or.inl ⟨by decide, rfl⟩⟩, (mF_luckyDays _ _ _ h _ _ h1)⟩
  · cases hh

set_option maxRecDepth 100000 in
theorem kF_daysUntilAbout : mv_tok mdF_daysUntilAbout nF_daysUntilAbout tF_daysUntilAbout = true := by decide +kernel
set_option maxRecDepth 100000 in
set_option maxHeartbeats 1000000 in
theorem eF_daysUntilAbout_b11 (q11 : Nat → Int32 → Int32 → Int32 → H2 → O2) (o0 : Nat) (v2 : Int32) (v3 : Int32) (v4 : Int32) (h : H2) : mv_blk rI2 rR2 ln2 wI2 wR2 nw2 cp2 bod none tF_daysUntilAbout gF_daysUntilAbout 0 0 [11] (fun pc lv st h ce sl => mv_gd (Nat.beq ce 0 && Nat.beq sl 0) (cond (Nat.beq pc 11) (mv_gR 0 1 lv fun o0 => mv_gI 2 lv fun v2 => mv_gI 3 lv fun v3 => mv_gI 4 lv fun v4 => mv_sE st (q11 o0 v2 v3 v4 h)) (none))) 400 (mv_seek 11 tF_daysUntilAbout) [(0, Sum.inr (1, o0)), (2, Sum.inl (Value.int v2)), (3, Sum.inl (Value.int v3)), (4, Sum.inl (Value.int v4))] [] h 0 0 = (
  if (nI 60) < v4 then (
    some ([Sum.inl (Value.int (-(nI 3)))], h))
  else
  mv_gd (mv_inb v2 8) <|
  if (rI2 h 305 3 v2.toNatClampNeg) = v3 then (
    some ([Sum.inl (Value.int v4)], h))
  else
  mv_rV (fM_passDay 3 h) fun h1 =>
  mv_bi (v4 + (nI 1)) fun x2 =>
  q11 o0 v2 v3 x2 h1) := rfl
set_option maxRecDepth 100000 in
set_option maxHeartbeats 1000000 in
theorem eF_daysUntilAbout (q11 : Nat → Int32 → Int32 → Int32 → H2 → O2) (o0 : Nat) (o1 : Nat) (v2 : Int32) (v3 : Int32) (h : H2) : mv_blk rI2 rR2 ln2 wI2 wR2 nw2 cp2 bod none tF_daysUntilAbout gF_daysUntilAbout 0 0 [11] (fun pc lv st h ce sl => mv_gd (Nat.beq ce 0 && Nat.beq sl 0) (cond (Nat.beq pc 11) (mv_gR 0 1 lv fun o0 => mv_gI 2 lv fun v2 => mv_gI 3 lv fun v3 => mv_gI 4 lv fun v4 => mv_sE st (q11 o0 v2 v3 v4 h)) (none))) 400 (mv_seek 0 tF_daysUntilAbout) [(0, Sum.inr (1, o0)), (1, Sum.inr (2, o1)), (2, Sum.inl (Value.int v2)), (3, Sum.inl (Value.int v3))] [] h 0 0 = (
  mv_rV (fM_copyFrom 3 o1 h) fun h1 =>
  mv_bi (nI 0) fun x2 =>
  q11 o0 v2 v3 x2 h1) := rfl
theorem GF_daysUntilAbout : ∀ (j : Nat) (C : mv_C H2) (md' : mv_MD × Bool), mv_nth j gF_daysUntilAbout = some C → mv_nth j nF_daysUntilAbout = some md' → ∃ n', n' + 1 ≤ 4 ∧ mv_Cal vw2 n' md' C := fun j C md' => match j with
  | 0 => fun h1 h2 => by
    obtain rfl := Option.some.inj h1
    obtain rfl := Option.some.inj h2
    exact ⟨1, by decide, cM_copyFrom_ok⟩
  | 1 => fun h1 h2 => by
    obtain rfl := Option.some.inj h1
    obtain rfl := Option.some.inj h2
    exact ⟨3, by decide, cM_passDay_ok⟩
  | jj + 2 => fun h1 _ => by cases jj <;> cases h1

set_option maxRecDepth 20000 in
theorem xF_daysUntilAbout_b11 {g0 : mv_G} {res : List mv_V × H2} : ∀ (n : Nat) (o0 : Nat) (v2 : Int32) (v3 : Int32) (v4 : Int32) (h : H2), fF_daysUntilAbout_b11 n o0 v2 v3 v4 h = some res → mv_X vw2 mdF_daysUntilAbout 4 0 0 none g0 res 11 [(0, Sum.inr (1, o0)), (2, Sum.inl (Value.int v2)), (3, Sum.inl (Value.int v3)), (4, Sum.inl (Value.int v4))] [] h 0 0 := by
  intro n
  induction n with
  | zero => intro o0 v2 v3 v4 h hh; cases hh
  | succ n ih =>
    intro o0 v2 v3 v4 h hh
    refine mv_blkX ax2 (GF_daysUntilAbout) (by decide) kF_daysUntilAbout (fun pc lv st h ce sl hh => ?_) ((eF_daysUntilAbout_b11 (fF_daysUntilAbout_b11 n) o0 v2 v3 v4 h).trans hh)
    obtain ⟨hg, hh1⟩ := mv_gd_some hh
    obtain ⟨rfl, rfl⟩ := mv_z2 hg
    rcases mv_cond_some hh1 with ⟨hb, hh2⟩ | ⟨hb, hh3⟩
    · obtain rfl := Nat.eq_of_beq_eq_true hb
      obtain ⟨o0, m0, hh4⟩ := mv_gR_some hh2
      obtain ⟨v2, m1, hh5⟩ := mv_gI_some hh4
      obtain ⟨v3, m2, hh6⟩ := mv_gI_some hh5
      obtain ⟨v4, m3, hh7⟩ := mv_gI_some hh6
      obtain ⟨rfl, hh8⟩ := mv_sE_some hh7
      exact (ih o0 v2 v3 v4 h hh8).sub (List.forall_mem_cons.mpr ⟨m0, (List.forall_mem_cons.mpr ⟨m1, (List.forall_mem_cons.mpr ⟨m2, (List.forall_mem_cons.mpr ⟨m3, (fun q hq => by cases hq)⟩)⟩)⟩)⟩)
    cases hh3

set_option maxRecDepth 20000 in
theorem xF_daysUntilAbout {g0 : mv_G} {res : List mv_V × H2} (o0 : Nat) (o1 : Nat) (v2 : Int32) (v3 : Int32) (h : H2) (hh : fF_daysUntilAbout o0 o1 v2 v3 h = some res) : mv_X vw2 mdF_daysUntilAbout 4 0 0 none g0 res 0 [(0, Sum.inr (1, o0)), (1, Sum.inr (2, o1)), (2, Sum.inl (Value.int v2)), (3, Sum.inl (Value.int v3))] [] h 0 0 := by
  refine mv_blkX ax2 (GF_daysUntilAbout) (by decide) kF_daysUntilAbout (fun pc lv st h ce sl hh => ?_) ((eF_daysUntilAbout (fF_daysUntilAbout_b11 1000) o0 o1 v2 v3 h).trans hh)
  obtain ⟨hg, hh1⟩ := mv_gd_some hh
  obtain ⟨rfl, rfl⟩ := mv_z2 hg
  rcases mv_cond_some hh1 with ⟨hb, hh2⟩ | ⟨hb, hh3⟩
  · obtain rfl := Nat.eq_of_beq_eq_true hb
    obtain ⟨o0, m0, hh4⟩ := mv_gR_some hh2
    obtain ⟨v2, m1, hh5⟩ := mv_gI_some hh4
    obtain ⟨v3, m2, hh6⟩ := mv_gI_some hh5
    obtain ⟨v4, m3, hh7⟩ := mv_gI_some hh6
    obtain ⟨rfl, hh8⟩ := mv_sE_some hh7
    exact (xF_daysUntilAbout_b11 1000 o0 v2 v3 v4 h hh8).sub (List.forall_mem_cons.mpr ⟨m0, (List.forall_mem_cons.mpr ⟨m1, (List.forall_mem_cons.mpr ⟨m2, (List.forall_mem_cons.mpr ⟨m3, (fun q hq => by cases hq)⟩)⟩)⟩)⟩)
  cases hh3

theorem mF_daysUntilAbout (o0 : Nat) (o1 : Nat) (v2 : Int32) (v3 : Int32) (h : H2) (vs : List mv_V) (h' : H2) (hh : fF_daysUntilAbout o0 o1 v2 v3 h = some (vs, h')) : mv_Met vw2 4 0 0 mdF_daysUntilAbout [Sum.inr (1, o0), Sum.inr (2, o1), Sum.inl (Value.int v2), Sum.inl (Value.int v3)] h vs h' :=
  mv_Met_of (by decide +kernel) (Nat.le_of_ble_eq_true rfl) (xF_daysUntilAbout o0 o1 v2 v3 h hh)
theorem cF_daysUntilAbout_ok : mv_Cal vw2 4 (mdF_daysUntilAbout, true) ((0, 0), cF_daysUntilAbout) := by
  intro as h k res hh
  change cF_daysUntilAbout as h k = some res at hh
  unfold cF_daysUntilAbout at hh
  split at hh
  · obtain ⟨hg0, ha0⟩ := mv_gd_some hh
    obtain rfl := Nat.eq_of_beq_eq_true hg0
    obtain ⟨hg1, ha1⟩ := mv_gd_some ha0
    obtain rfl := Nat.eq_of_beq_eq_true hg1
    obtain ⟨x, h', h1, h9⟩ := mv_rI_some ha1
    exact ⟨_, _, h9, (by first | decide | exact Nat.le_refl _ | exact Nat.zero_le _), fun _ => ⟨_, _, _, rfl, Or.inl ⟨by decide, rfl⟩⟩, (mF_daysUntilAbout _ _ _ _ h _ _ h1)⟩
  · cases hh

set_option maxRecDepth 100000 in
theorem kF_spoiltFromHere : mv_tok mdF_spoiltFromHere nF_spoiltFromHere tF_spoiltFromHere = true := by decide +kernel
set_option maxRecDepth 100000 in
set_option maxHeartbeats 1000000 in
theorem eF_spoiltFromHere_b13 (q13 : Nat → Nat → Int32 → Int32 → H2 → O2) (o0 : Nat) (o1 : Nat) (v3 : Int32) (v4 : Int32) (h : H2) : mv_blk rI2 rR2 ln2 wI2 wR2 nw2 cp2 bod none tF_spoiltFromHere gF_spoiltFromHere 0 0 [13] (fun pc lv st h ce sl => mv_gd (Nat.beq ce 0 && Nat.beq sl 0) (cond (Nat.beq pc 13) (mv_gR 0 1 lv fun o0 => mv_gR 1 2 lv fun o1 => mv_gI 3 lv fun v3 => mv_gI 4 lv fun v4 => mv_sE st (q13 o0 o1 v3 v4 h)) (none))) 400 (mv_seek 13 tF_spoiltFromHere) [(0, Sum.inr (1, o0)), (1, Sum.inr (2, o1)), (3, Sum.inl (Value.int v3)), (4, Sum.inl (Value.int v4))] [] h 0 0 = (
  if (rI2 h 2 o1 9) ≤ v4 then (
    some ([Sum.inl (Value.int v3)], h))
  else
  mv_gd (mv_inb v4 8) <|
  mv_gd (mv_inb v4 8) <|
  if (rI2 h 305 3 v4.toNatClampNeg) = (rI2 h 305 o1 v4.toNatClampNeg) then (
    mv_bi (v4 + (nI 1)) fun x1 =>
    q13 o0 o1 v3 x1 h)
  else
  mv_bi (v3 + (nI 1)) fun x2 =>
  mv_bi (v4 + (nI 1)) fun x3 =>
  q13 o0 o1 x2 x3 h) := rfl
set_option maxRecDepth 100000 in
set_option maxHeartbeats 1000000 in
theorem eF_spoiltFromHere (q13 : Nat → Nat → Int32 → Int32 → H2 → O2) (o0 : Nat) (o1 : Nat) (v2 : Int32) (h : H2) : mv_blk rI2 rR2 ln2 wI2 wR2 nw2 cp2 bod none tF_spoiltFromHere gF_spoiltFromHere 0 0 [13] (fun pc lv st h ce sl => mv_gd (Nat.beq ce 0 && Nat.beq sl 0) (cond (Nat.beq pc 13) (mv_gR 0 1 lv fun o0 => mv_gR 1 2 lv fun o1 => mv_gI 3 lv fun v3 => mv_gI 4 lv fun v4 => mv_sE st (q13 o0 o1 v3 v4 h)) (none))) 400 (mv_seek 0 tF_spoiltFromHere) [(0, Sum.inr (1, o0)), (1, Sum.inr (2, o1)), (2, Sum.inl (Value.int v2))] [] h 0 0 = (
  mv_rV (fM_passDays 3 v2 h) fun h1 =>
  mv_bi (nI 0) fun x2 =>
  mv_bi (nI 0) fun x3 =>
  q13 o0 o1 x2 x3 h1) := rfl
theorem GF_spoiltFromHere : ∀ (j : Nat) (C : mv_C H2) (md' : mv_MD × Bool), mv_nth j gF_spoiltFromHere = some C → mv_nth j nF_spoiltFromHere = some md' → ∃ n', n' + 1 ≤ 5 ∧ mv_Cal vw2 n' md' C := fun j C md' => match j with
  | 0 => fun h1 h2 => by
    obtain rfl := Option.some.inj h1
    obtain rfl := Option.some.inj h2
    exact ⟨4, by decide, cM_passDays_ok⟩
  | jj + 1 => fun h1 _ => by cases jj <;> cases h1

set_option maxRecDepth 20000 in
theorem xF_spoiltFromHere_b13 {g0 : mv_G} {res : List mv_V × H2} : ∀ (n : Nat) (o0 : Nat) (o1 : Nat) (v3 : Int32) (v4 : Int32) (h : H2), fF_spoiltFromHere_b13 n o0 o1 v3 v4 h = some res → mv_X vw2 mdF_spoiltFromHere 5 0 0 none g0 res 13 [(0, Sum.inr (1, o0)), (1, Sum.inr (2, o1)), (3, Sum.inl (Value.int v3)), (4, Sum.inl (Value.int v4))] [] h 0 0 := by
  intro n
  induction n with
  | zero => intro o0 o1 v3 v4 h hh; cases hh
  | succ n ih =>
    intro o0 o1 v3 v4 h hh
    refine mv_blkX ax2 (GF_spoiltFromHere) (by decide) kF_spoiltFromHere (fun pc lv st h ce sl hh => ?_) ((eF_spoiltFromHere_b13 (fF_spoiltFromHere_b13 n) o0 o1 v3 v4 h).trans hh)
    obtain ⟨hg, hh1⟩ := mv_gd_some hh
    obtain ⟨rfl, rfl⟩ := mv_z2 hg
    rcases mv_cond_some hh1 with ⟨hb, hh2⟩ | ⟨hb, hh3⟩
    · obtain rfl := Nat.eq_of_beq_eq_true hb
      obtain ⟨o0, m0, hh4⟩ := mv_gR_some hh2
      obtain ⟨o1, m1, hh5⟩ := mv_gR_some hh4
      obtain ⟨v3, m2, hh6⟩ := mv_gI_some hh5
      obtain ⟨v4, m3, hh7⟩ := mv_gI_some hh6
      obtain ⟨rfl, hh8⟩ := mv_sE_some hh7
      exact (ih o0 o1 v3 v4 h hh8).sub (List.forall_mem_cons.mpr ⟨m0, (List.forall_mem_cons.mpr ⟨m1, (List.forall_mem_cons.mpr ⟨m2, (List.forall_mem_cons.mpr ⟨m3, (fun q hq => by cases hq)⟩)⟩)⟩)⟩)
    cases hh3

set_option maxRecDepth 20000 in
theorem xF_spoiltFromHere {g0 : mv_G} {res : List mv_V × H2} (o0 : Nat) (o1 : Nat) (v2 : Int32) (h : H2) (hh : fF_spoiltFromHere o0 o1 v2 h = some res) : mv_X vw2 mdF_spoiltFromHere 5 0 0 none g0 res 0 [(0, Sum.inr (1, o0)), (1, Sum.inr (2, o1)), (2, Sum.inl (Value.int v2))] [] h 0 0 := by
  refine mv_blkX ax2 (GF_spoiltFromHere) (by decide) kF_spoiltFromHere (fun pc lv st h ce sl hh => ?_) ((eF_spoiltFromHere (fF_spoiltFromHere_b13 1000) o0 o1 v2 h).trans hh)
  obtain ⟨hg, hh1⟩ := mv_gd_some hh
  obtain ⟨rfl, rfl⟩ := mv_z2 hg
  rcases mv_cond_some hh1 with ⟨hb, hh2⟩ | ⟨hb, hh3⟩
  · obtain rfl := Nat.eq_of_beq_eq_true hb
    obtain ⟨o0, m0, hh4⟩ := mv_gR_some hh2
    obtain ⟨o1, m1, hh5⟩ := mv_gR_some hh4
    obtain ⟨v3, m2, hh6⟩ := mv_gI_some hh5
    obtain ⟨v4, m3, hh7⟩ := mv_gI_some hh6
    obtain ⟨rfl, hh8⟩ := mv_sE_some hh7
    exact (xF_spoiltFromHere_b13 1000 o0 o1 v3 v4 h hh8).sub (List.forall_mem_cons.mpr ⟨m0, (List.forall_mem_cons.mpr ⟨m1, (List.forall_mem_cons.mpr ⟨m2, (List.forall_mem_cons.mpr ⟨m3, (fun q hq => by cases hq)⟩)⟩)⟩)⟩)
  cases hh3

theorem mF_spoiltFromHere (o0 : Nat) (o1 : Nat) (v2 : Int32) (h : H2) (vs : List mv_V) (h' : H2) (hh : fF_spoiltFromHere o0 o1 v2 h = some (vs, h')) : mv_Met vw2 5 0 0 mdF_spoiltFromHere [Sum.inr (1, o0), Sum.inr (2, o1), Sum.inl (Value.int v2)] h vs h' :=
  mv_Met_of (by decide +kernel) (Nat.le_of_ble_eq_true rfl) (xF_spoiltFromHere o0 o1 v2 h hh)
theorem cF_spoiltFromHere_ok : mv_Cal vw2 5 (mdF_spoiltFromHere, true) ((0, 0), cF_spoiltFromHere) := by
  intro as h k res hh
  change cF_spoiltFromHere as h k = some res at hh
  unfold cF_spoiltFromHere at hh
  split at hh
  · obtain ⟨hg0, ha0⟩ := mv_gd_some hh
    obtain rfl := Nat.eq_of_beq_eq_true hg0
    obtain ⟨hg1, ha1⟩ := mv_gd_some ha0
    obtain rfl := Nat.eq_of_beq_eq_true hg1
    obtain ⟨x, h', h1, h9⟩ := mv_rI_some ha1
    exact ⟨_, _, h9, (by first | decide | exact Nat.le_refl _ | exact Nat.zero_le _), fun _ => ⟨_, _, _, rfl, Or.inl ⟨by decide, rfl⟩⟩, (mF_spoiltFromHere _ _ _ h _ _ h1)⟩
  · cases hh

