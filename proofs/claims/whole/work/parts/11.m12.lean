set_option maxRecDepth 100000 in
theorem kV_seed : mv_tok mdV_seed nV_seed tV_seed = true := by decide +kernel
set_option maxRecDepth 100000 in
set_option maxHeartbeats 1000000 in
theorem eV_seed (o0 : Nat) (v1 : Int32) (h : H2) : mv_blk rI2 rR2 ln2 wI2 wR2 nw2 cp2 bod none tV_seed gV_seed 0 0 [] (fun _ _ _ _ _ _ => none) 400 (mv_seek 0 tV_seed) [(0, Sum.inr (7, o0)), (1, Sum.inl (Value.int v1))] [] h 0 0 = (
  mv_bi (rI2 h 2 0 11) fun x1 =>
  mv_bh (wI2 h 2 0 11 v1) fun h2 =>
  some ([Sum.inl (Value.int x1)], h2)) := rfl
theorem GV_seed : ∀ (j : Nat) (C : mv_C H2) (md' : mv_MD × Bool), mv_nth j gV_seed = some C → mv_nth j nV_seed = some md' → ∃ n', n' + 1 ≤ 1 ∧ mv_Cal vw2 n' md' C := fun j C md' h1 _ => by cases j <;> cases h1

set_option maxRecDepth 20000 in
theorem xV_seed {g0 : mv_G} {res : List mv_V × H2} (o0 : Nat) (v1 : Int32) (h : H2) (hh : fV_seed o0 v1 h = some res) : mv_X vw2 mdV_seed 1 0 0 none g0 res 0 [(0, Sum.inr (7, o0)), (1, Sum.inl (Value.int v1))] [] h 0 0 := by
  refine mv_blkX ax2 (GV_seed) (by decide) kV_seed (fun pc lv st h ce sl hh => ?_) ((eV_seed  o0 v1 h).trans hh)
  cases hh

theorem mV_seed (o0 : Nat) (v1 : Int32) (h : H2) (vs : List mv_V) (h' : H2) (hh : fV_seed o0 v1 h = some (vs, h')) : mv_Met vw2 1 0 0 mdV_seed [Sum.inr (7, o0), Sum.inl (Value.int v1)] h vs h' :=
  mv_Met_of (by decide +kernel) (Nat.le_of_ble_eq_true rfl) (xV_seed o0 v1 h hh)
set_option maxRecDepth 100000 in
theorem kV_day : mv_tok mdV_day nV_day tV_day = true := by decide +kernel
set_option maxRecDepth 100000 in
set_option maxHeartbeats 1000000 in
theorem eV_day (o0 : Nat) (h : H2) : mv_blk rI2 rR2 ln2 wI2 wR2 nw2 cp2 bod none tV_day gV_day 0 0 [] (fun _ _ _ _ _ _ => none) 400 (mv_seek 0 tV_day) [(0, Sum.inr (7, o0))] [] h 0 0 = (
  mv_rV (fM_passDrawnDay 0 h) fun h1 =>
  mv_rI (fM_allDepths 0 h1) fun r3 h2 =>
  some ([Sum.inl (Value.int r3)], h2)) := rfl
theorem GV_day : ∀ (j : Nat) (C : mv_C H2) (md' : mv_MD × Bool), mv_nth j gV_day = some C → mv_nth j nV_day = some md' → ∃ n', n' + 1 ≤ 5 ∧ mv_Cal vw2 n' md' C := fun j C md' => match j with
  | 0 => fun h1 h2 => by
    obtain rfl := Option.some.inj h1
    obtain rfl := Option.some.inj h2
    exact ⟨4, by decide, cM_passDrawnDay_ok⟩
  | 1 => fun h1 h2 => by
    obtain rfl := Option.some.inj h1
    obtain rfl := Option.some.inj h2
    exact ⟨1, by decide, cM_allDepths_ok⟩
  | jj + 2 => fun h1 _ => by cases jj <;> cases h1

set_option maxRecDepth 20000 in
theorem xV_day {g0 : mv_G} {res : List mv_V × H2} (o0 : Nat) (h : H2) (hh : fV_day o0 h = some res) : mv_X vw2 mdV_day 5 0 0 none g0 res 0 [(0, Sum.inr (7, o0))] [] h 0 0 := by
  refine mv_blkX ax2 (GV_day) (by decide) kV_day (fun pc lv st h ce sl hh => ?_) ((eV_day  o0 h).trans hh)
  cases hh

theorem mV_day (o0 : Nat) (h : H2) (vs : List mv_V) (h' : H2) (hh : fV_day o0 h = some (vs, h')) : mv_Met vw2 5 0 0 mdV_day [Sum.inr (7, o0)] h vs h' :=
  mv_Met_of (by decide +kernel) (Nat.le_of_ble_eq_true rfl) (xV_day o0 h hh)
set_option maxRecDepth 100000 in
theorem kV_luck : mv_tok mdV_luck nV_luck tV_luck = true := by decide +kernel
def cF_luckyDaysG_V_luck (F1 : Nat → Nat → Int32 → H2 → O2) : List mv_V → H2 → (List mv_V → H2 → O2) → O2 := fun as h k => match as with
  | [.inr (t0, o0), .inr (t1, o1), .inl (.int v2)] => mv_gd (Nat.beq t0 1) <| mv_gd (Nat.beq t1 2) <| mv_rI (F1 o0 o1 v2 h) fun x h => k [.inl (.int x)] h
  | _ => none
set_option maxRecDepth 100000 in
set_option maxHeartbeats 1000000 in
theorem eV_luck_g (F1 : Nat → Nat → Int32 → H2 → O2) (o0 : Nat) (v1 : Int32) (h : H2) : mv_blk rI2 rR2 ln2 wI2 wR2 nw2 cp2 bod none tV_luck [((0, 0), cV_isIn), ((0, 0), cF_luckyDaysG_V_luck F1)] 0 0 [] (fun _ _ _ _ _ _ => none) 400 (mv_seek 0 tV_luck) [(0, Sum.inr (7, o0)), (1, Sum.inl (Value.int v1))] [] h 0 0 = (
  mv_rI (fV_isIn v1 (nI 1) (nI 30) h) fun r2 h1 =>
  if r2 = 0 then (
    some ([Sum.inl (Value.int (-(nI 1)))], h1))
  else
  mv_rI (F1 0 0 v1 h1) fun r4 h3 =>
  some ([Sum.inl (Value.int r4)], h3)) := rfl
theorem eV_luck (o0 : Nat) (v1 : Int32) (h : H2) : mv_blk rI2 rR2 ln2 wI2 wR2 nw2 cp2 bod none tV_luck gV_luck 0 0 [] (fun _ _ _ _ _ _ => none) 400 (mv_seek 0 tV_luck) [(0, Sum.inr (7, o0)), (1, Sum.inl (Value.int v1))] [] h 0 0 = (
  mv_rI (fV_isIn v1 (nI 1) (nI 30) h) fun r2 h1 =>
  if r2 = 0 then (
    some ([Sum.inl (Value.int (-(nI 1)))], h1))
  else
  mv_rI (fF_luckyDays 0 0 v1 h1) fun r4 h3 =>
  some ([Sum.inl (Value.int r4)], h3)) := eV_luck_g fF_luckyDays o0 v1 h
theorem GV_luck : ∀ (j : Nat) (C : mv_C H2) (md' : mv_MD × Bool), mv_nth j gV_luck = some C → mv_nth j nV_luck = some md' → ∃ n', n' + 1 ≤ 7 ∧ mv_Cal vw2 n' md' C := fun j C md' => match j with
  | 0 => fun h1 h2 => by
    obtain rfl := Option.some.inj h1
    obtain rfl := Option.some.inj h2
    exact ⟨1, by decide, cV_isIn_ok⟩
  | 1 => fun h1 h2 => by
    obtain rfl := Option.some.inj h1
    obtain rfl := Option.some.inj h2
    exact ⟨6, by decide, cF_luckyDays_ok⟩
  | jj + 2 => fun h1 _ => by cases jj <;> cases h1

set_option maxRecDepth 20000 in
theorem xV_luck {g0 : mv_G} {res : List mv_V × H2} (o0 : Nat) (v1 : Int32) (h : H2) (hh : fV_luck o0 v1 h = some res) : mv_X vw2 mdV_luck 7 0 0 none g0 res 0 [(0, Sum.inr (7, o0)), (1, Sum.inl (Value.int v1))] [] h 0 0 := by
  refine mv_blkX ax2 (GV_luck) (by decide) kV_luck (fun pc lv st h ce sl hh => ?_) ((eV_luck  o0 v1 h).trans hh)
  cases hh

theorem mV_luck (o0 : Nat) (v1 : Int32) (h : H2) (vs : List mv_V) (h' : H2) (hh : fV_luck o0 v1 h = some (vs, h')) : mv_Met vw2 7 0 0 mdV_luck [Sum.inr (7, o0), Sum.inl (Value.int v1)] h vs h' :=
  mv_Met_of (by decide +kernel) (Nat.le_of_ble_eq_true rfl) (xV_luck o0 v1 h hh)
set_option maxRecDepth 100000 in
theorem kV_state : mv_tok mdV_state nV_state tV_state = true := by decide +kernel
set_option maxRecDepth 100000 in
set_option maxHeartbeats 1000000 in
theorem eV_state (o0 : Nat) (v1 : Int32) (h : H2) : mv_blk rI2 rR2 ln2 wI2 wR2 nw2 cp2 bod none tV_state gV_state 0 0 [] (fun _ _ _ _ _ _ => none) 400 (mv_seek 0 tV_state) [(0, Sum.inr (7, o0)), (1, Sum.inl (Value.int v1))] [] h 0 0 = (
  if v1 = nI 0 then (
    some ([Sum.inl (Value.int (rI2 h 2 0 10))], h))
  else
  if v1 = nI 1 then (
    mv_rI (fM_vatOfToday 0 h) fun r2 h1 =>
    some ([Sum.inl (Value.int ((nI 1) + r2))], h1))
  else
  if v1 = nI 2 then (
    mv_rI (fM_hungSet 0 h) fun r4 h3 =>
    some ([Sum.inl (Value.int r4)], h3))
  else
  if v1 = nI 3 then (
    mv_rI (fM_aboutSet 0 h) fun r6 h5 =>
    some ([Sum.inl (Value.int r6)], h5))
  else
  if v1 = nI 4 then (
    mv_rI (fM_allDepths 0 h) fun r8 h7 =>
    some ([Sum.inl (Value.int r8)], h7))
  else
  if v1 = nI 5 then (
    mv_rI (fM_oddPairs 0 h) fun r10 h9 =>
    some ([Sum.inl (Value.int r10)], h9))
  else
  some ([Sum.inl (Value.int (-(nI 1)))], h)) := rfl
theorem GV_state : ∀ (j : Nat) (C : mv_C H2) (md' : mv_MD × Bool), mv_nth j gV_state = some C → mv_nth j nV_state = some md' → ∃ n', n' + 1 ≤ 3 ∧ mv_Cal vw2 n' md' C := fun j C md' => match j with
  | 0 => fun h1 h2 => by
    obtain rfl := Option.some.inj h1
    obtain rfl := Option.some.inj h2
    exact ⟨1, by decide, cM_vatOfToday_ok⟩
  | 1 => fun h1 h2 => by
    obtain rfl := Option.some.inj h1
    obtain rfl := Option.some.inj h2
    exact ⟨1, by decide, cM_hungSet_ok⟩
  | 2 => fun h1 h2 => by
    obtain rfl := Option.some.inj h1
    obtain rfl := Option.some.inj h2
    exact ⟨1, by decide, cM_aboutSet_ok⟩
  | 3 => fun h1 h2 => by
    obtain rfl := Option.some.inj h1
    obtain rfl := Option.some.inj h2
    exact ⟨1, by decide, cM_allDepths_ok⟩
  | 4 => fun h1 h2 => by
    obtain rfl := Option.some.inj h1
    obtain rfl := Option.some.inj h2
    exact ⟨2, by decide, cM_oddPairs_ok⟩
  | jj + 5 => fun h1 _ => by cases jj <;> cases h1

set_option maxRecDepth 20000 in
theorem xV_state {g0 : mv_G} {res : List mv_V × H2} (o0 : Nat) (v1 : Int32) (h : H2) (hh : fV_state o0 v1 h = some res) : mv_X vw2 mdV_state 3 0 0 none g0 res 0 [(0, Sum.inr (7, o0)), (1, Sum.inl (Value.int v1))] [] h 0 0 := by
  refine mv_blkX ax2 (GV_state) (by decide) kV_state (fun pc lv st h ce sl hh => ?_) ((eV_state  o0 v1 h).trans hh)
  cases hh

theorem mV_state (o0 : Nat) (v1 : Int32) (h : H2) (vs : List mv_V) (h' : H2) (hh : fV_state o0 v1 h = some (vs, h')) : mv_Met vw2 3 0 0 mdV_state [Sum.inr (7, o0), Sum.inl (Value.int v1)] h vs h' :=
  mv_Met_of (by decide +kernel) (Nat.le_of_ble_eq_true rfl) (xV_state o0 v1 h hh)
set_option maxRecDepth 100000 in
theorem kV_isDays : mv_tok mdV_isDays nV_isDays tV_isDays = true := by decide +kernel
set_option maxRecDepth 100000 in
set_option maxHeartbeats 1000000 in
theorem eV_isDays (v0 : Int32) (h : H2) : mv_blk rI2 rR2 ln2 wI2 wR2 nw2 cp2 bod none tV_isDays gV_isDays 0 0 [] (fun _ _ _ _ _ _ => none) 400 (mv_seek 0 tV_isDays) [(0, Sum.inl (Value.int v0))] [] h 0 0 = (
  mv_rI (fV_isIn v0 (nI 0) (nI 60) h) fun r2 h1 =>
  mv_gd (decide (r2 = nI 0) || decide (r2 = nI 1)) <| some ([Sum.inl (Value.int r2)], h1)) := rfl
theorem GV_isDays : ∀ (j : Nat) (C : mv_C H2) (md' : mv_MD × Bool), mv_nth j gV_isDays = some C → mv_nth j nV_isDays = some md' → ∃ n', n' + 1 ≤ 2 ∧ mv_Cal vw2 n' md' C := fun j C md' => match j with
  | 0 => fun h1 h2 => by
    obtain rfl := Option.some.inj h1
    obtain rfl := Option.some.inj h2
    exact ⟨1, by decide, cV_isIn_ok⟩
  | jj + 1 => fun h1 _ => by cases jj <;> cases h1

set_option maxRecDepth 20000 in
theorem xV_isDays {g0 : mv_G} {res : List mv_V × H2} (v0 : Int32) (h : H2) (hh : fV_isDays v0 h = some res) : mv_X vw2 mdV_isDays 2 0 0 none g0 res 0 [(0, Sum.inl (Value.int v0))] [] h 0 0 := by
  refine mv_blkX ax2 (GV_isDays) (by decide) kV_isDays (fun pc lv st h ce sl hh => ?_) ((eV_isDays  v0 h).trans hh)
  cases hh

theorem mV_isDays (v0 : Int32) (h : H2) (vs : List mv_V) (h' : H2) (hh : fV_isDays v0 h = some (vs, h')) : mv_Met vw2 2 0 0 mdV_isDays [Sum.inl (Value.int v0)] h vs h' :=
  mv_Met_of (by decide +kernel) (Nat.le_of_ble_eq_true rfl) (xV_isDays v0 h hh)
theorem cV_isDays_ok : mv_Cal vw2 2 (mdV_isDays, false) ((0, 0), cV_isDays) := by
  intro as h k res hh
  change cV_isDays as h k = some res at hh
  unfold cV_isDays at hh
  split at hh
  · obtain ⟨x, h', h1, h9⟩ := mv_rI_some hh
    exact ⟨_, _, h9, (by first | decide | exact Nat.le_refl _ | exact Nat.zero_le _), (fun h => by cases h), (mV_isDays _ h _ _ h1)⟩
  · cases hh

set_option maxRecDepth 100000 in
theorem kV_gone : mv_tok mdV_gone nV_gone tV_gone = true := by decide +kernel
set_option maxRecDepth 100000 in
set_option maxHeartbeats 1000000 in
theorem eV_gone (o0 : Nat) (v1 : Int32) (v2 : Int32) (h : H2) : mv_blk rI2 rR2 ln2 wI2 wR2 nw2 cp2 bod none tV_gone gV_gone 0 0 [] (fun _ _ _ _ _ _ => none) 400 (mv_seek 0 tV_gone) [(0, Sum.inr (7, o0)), (1, Sum.inl (Value.int v1)), (2, Sum.inl (Value.int v2))] [] h 0 0 = (
  mv_rI (fM_has 0 v1 h) fun r2 h1 =>
  if r2 = 0 then (
    some ([Sum.inl (Value.int (-(nI 1)))], h1))
  else
  mv_rI (fV_isDays v2 h1) fun r4 h3 =>
  if r4 = 0 then (
    some ([Sum.inl (Value.int (-(nI 1)))], h3))
  else
  mv_rR 2 (fF_behind 0 0 v2 h3) fun r6 h5 =>
  mv_gd (mv_inb v1 8) <|
  some ([Sum.inl (Value.int ((nI 1) + (rI2 h5 305 r6 v1.toNatClampNeg)))], h5)) := rfl
theorem GV_gone : ∀ (j : Nat) (C : mv_C H2) (md' : mv_MD × Bool), mv_nth j gV_gone = some C → mv_nth j nV_gone = some md' → ∃ n', n' + 1 ≤ 6 ∧ mv_Cal vw2 n' md' C := fun j C md' => match j with
  | 0 => fun h1 h2 => by
    obtain rfl := Option.some.inj h1
    obtain rfl := Option.some.inj h2
    exact ⟨2, by decide, cM_has_ok⟩
  | 1 => fun h1 h2 => by
    obtain rfl := Option.some.inj h1
    obtain rfl := Option.some.inj h2
    exact ⟨2, by decide, cV_isDays_ok⟩
  | 2 => fun h1 h2 => by
    obtain rfl := Option.some.inj h1
    obtain rfl := Option.some.inj h2
    exact ⟨5, by decide, cF_behind_ok⟩
  | jj + 3 => fun h1 _ => by cases jj <;> cases h1

set_option maxRecDepth 20000 in
theorem xV_gone {g0 : mv_G} {res : List mv_V × H2} (o0 : Nat) (v1 : Int32) (v2 : Int32) (h : H2) (hh : fV_gone o0 v1 v2 h = some res) : mv_X vw2 mdV_gone 6 0 0 none g0 res 0 [(0, Sum.inr (7, o0)), (1, Sum.inl (Value.int v1)), (2, Sum.inl (Value.int v2))] [] h 0 0 := by
  refine mv_blkX ax2 (GV_gone) (by decide) kV_gone (fun pc lv st h ce sl hh => ?_) ((eV_gone  o0 v1 v2 h).trans hh)
  cases hh

theorem mV_gone (o0 : Nat) (v1 : Int32) (v2 : Int32) (h : H2) (vs : List mv_V) (h' : H2) (hh : fV_gone o0 v1 v2 h = some (vs, h')) : mv_Met vw2 6 0 0 mdV_gone [Sum.inr (7, o0), Sum.inl (Value.int v1), Sum.inl (Value.int v2)] h vs h' :=
  mv_Met_of (by decide +kernel) (Nat.le_of_ble_eq_true rfl) (xV_gone o0 v1 v2 h hh)
set_option maxRecDepth 100000 in
theorem kV_depth : mv_tok mdV_depth nV_depth tV_depth = true := by decide +kernel
set_option maxRecDepth 100000 in
set_option maxHeartbeats 1000000 in
theorem eV_depth (o0 : Nat) (v1 : Int32) (v2 : Int32) (h : H2) : mv_blk rI2 rR2 ln2 wI2 wR2 nw2 cp2 bod none tV_depth gV_depth 0 0 [] (fun _ _ _ _ _ _ => none) 400 (mv_seek 0 tV_depth) [(0, Sum.inr (7, o0)), (1, Sum.inl (Value.int v1)), (2, Sum.inl (Value.int v2))] [] h 0 0 = (
  mv_rI (fM_has 0 v1 h) fun r2 h1 =>
  if r2 = 0 then (
    some ([Sum.inl (Value.int (-(nI 1)))], h1))
  else
  mv_rI (fV_isDays v2 h1) fun r4 h3 =>
  if r4 = 0 then (
    some ([Sum.inl (Value.int (-(nI 1)))], h3))
  else
  mv_rR 2 (fF_behind 0 0 v2 h3) fun r6 h5 =>
  mv_gd (mv_inb v1 8) <|
  some ([Sum.inl (Value.int (rI2 h5 306 r6 v1.toNatClampNeg))], h5)) := rfl
theorem GV_depth : ∀ (j : Nat) (C : mv_C H2) (md' : mv_MD × Bool), mv_nth j gV_depth = some C → mv_nth j nV_depth = some md' → ∃ n', n' + 1 ≤ 6 ∧ mv_Cal vw2 n' md' C := fun j C md' => match j with
  | 0 => fun h1 h2 => by
    obtain rfl := Option.some.inj h1
    obtain rfl := Option.some.inj h2
    exact ⟨2, by decide, cM_has_ok⟩
  | 1 => fun h1 h2 => by
    obtain rfl := Option.some.inj h1
    obtain rfl := Option.some.inj h2
    exact ⟨2, by decide, cV_isDays_ok⟩
  | 2 => fun h1 h2 => by
    obtain rfl := Option.some.inj h1
    obtain rfl := Option.some.inj h2
    exact ⟨5, by decide, cF_behind_ok⟩
  | jj + 3 => fun h1 _ => by cases jj <;> cases h1

set_option maxRecDepth 20000 in
theorem xV_depth {g0 : mv_G} {res : List mv_V × H2} (o0 : Nat) (v1 : Int32) (v2 : Int32) (h : H2) (hh : fV_depth o0 v1 v2 h = some res) : mv_X vw2 mdV_depth 6 0 0 none g0 res 0 [(0, Sum.inr (7, o0)), (1, Sum.inl (Value.int v1)), (2, Sum.inl (Value.int v2))] [] h 0 0 := by
  refine mv_blkX ax2 (GV_depth) (by decide) kV_depth (fun pc lv st h ce sl hh => ?_) ((eV_depth  o0 v1 v2 h).trans hh)
  cases hh

theorem mV_depth (o0 : Nat) (v1 : Int32) (v2 : Int32) (h : H2) (vs : List mv_V) (h' : H2) (hh : fV_depth o0 v1 v2 h = some (vs, h')) : mv_Met vw2 6 0 0 mdV_depth [Sum.inr (7, o0), Sum.inl (Value.int v1), Sum.inl (Value.int v2)] h vs h' :=
  mv_Met_of (by decide +kernel) (Nat.le_of_ble_eq_true rfl) (xV_depth o0 v1 v2 h hh)
set_option maxRecDepth 100000 in
theorem kV_comes : mv_tok mdV_comes nV_comes tV_comes = true := by decide +kernel
set_option maxRecDepth 100000 in
set_option maxHeartbeats 1000000 in
theorem eV_comes (o0 : Nat) (v1 : Int32) (v2 : Int32) (h : H2) : mv_blk rI2 rR2 ln2 wI2 wR2 nw2 cp2 bod none tV_comes gV_comes 0 0 [] (fun _ _ _ _ _ _ => none) 400 (mv_seek 0 tV_comes) [(0, Sum.inr (7, o0)), (1, Sum.inl (Value.int v1)), (2, Sum.inl (Value.int v2))] [] h 0 0 = (
  mv_rI (fM_has 0 v1 h) fun r2 h1 =>
  if r2 = 0 then (
    some ([Sum.inl (Value.int (-(nI 1)))], h1))
  else
  mv_rI (fV_isPurpose v2 h1) fun r4 h3 =>
  if r4 = 0 then (
    some ([Sum.inl (Value.int (-(nI 1)))], h3))
  else
  mv_rI (fF_daysUntilAbout 0 0 v1 v2 h3) fun r6 h5 =>
  some ([Sum.inl (Value.int r6)], h5)) := rfl
theorem GV_comes : ∀ (j : Nat) (C : mv_C H2) (md' : mv_MD × Bool), mv_nth j gV_comes = some C → mv_nth j nV_comes = some md' → ∃ n', n' + 1 ≤ 5 ∧ mv_Cal vw2 n' md' C := fun j C md' => match j with
  | 0 => fun h1 h2 => by
    obtain rfl := Option.some.inj h1
    obtain rfl := Option.some.inj h2
    exact ⟨2, by decide, cM_has_ok⟩
  | 1 => fun h1 h2 => by
    obtain rfl := Option.some.inj h1
    obtain rfl := Option.some.inj h2
    exact ⟨2, by decide, cV_isPurpose_ok⟩
  | 2 => fun h1 h2 => by
    obtain rfl := Option.some.inj h1
    obtain rfl := Option.some.inj h2
    exact ⟨4, by decide, cF_daysUntilAbout_ok⟩
  | jj + 3 => fun h1 _ => by cases jj <;> cases h1

set_option maxRecDepth 20000 in
theorem xV_comes {g0 : mv_G} {res : List mv_V × H2} (o0 : Nat) (v1 : Int32) (v2 : Int32) (h : H2) (hh : fV_comes o0 v1 v2 h = some res) : mv_X vw2 mdV_comes 5 0 0 none g0 res 0 [(0, Sum.inr (7, o0)), (1, Sum.inl (Value.int v1)), (2, Sum.inl (Value.int v2))] [] h 0 0 := by
  refine mv_blkX ax2 (GV_comes) (by decide) kV_comes (fun pc lv st h ce sl hh => ?_) ((eV_comes  o0 v1 v2 h).trans hh)
  cases hh

theorem mV_comes (o0 : Nat) (v1 : Int32) (v2 : Int32) (h : H2) (vs : List mv_V) (h' : H2) (hh : fV_comes o0 v1 v2 h = some (vs, h')) : mv_Met vw2 5 0 0 mdV_comes [Sum.inr (7, o0), Sum.inl (Value.int v1), Sum.inl (Value.int v2)] h vs h' :=
  mv_Met_of (by decide +kernel) (Nat.le_of_ble_eq_true rfl) (xV_comes o0 v1 v2 h hh)
set_option maxRecDepth 100000 in
theorem kV_bare : mv_tok mdV_bare nV_bare tV_bare = true := by decide +kernel
set_option maxRecDepth 100000 in
set_option maxHeartbeats 1000000 in
theorem eV_bare (o0 : Nat) (v1 : Int32) (h : H2) : mv_blk rI2 rR2 ln2 wI2 wR2 nw2 cp2 bod none tV_bare gV_bare 0 0 [] (fun _ _ _ _ _ _ => none) 400 (mv_seek 0 tV_bare) [(0, Sum.inr (7, o0)), (1, Sum.inl (Value.int v1))] [] h 0 0 = (
  mv_rI (fM_has 0 v1 h) fun r2 h1 =>
  if r2 = 0 then (
    some ([Sum.inl (Value.int (-(nI 1)))], h1))
  else
  mv_rI (fF_daysUntilAbout 0 0 v1 (-(nI 1)) h1) fun r4 h3 =>
  some ([Sum.inl (Value.int r4)], h3)) := rfl
theorem GV_bare : ∀ (j : Nat) (C : mv_C H2) (md' : mv_MD × Bool), mv_nth j gV_bare = some C → mv_nth j nV_bare = some md' → ∃ n', n' + 1 ≤ 5 ∧ mv_Cal vw2 n' md' C := fun j C md' => match j with
  | 0 => fun h1 h2 => by
    obtain rfl := Option.some.inj h1
    obtain rfl := Option.some.inj h2
    exact ⟨2, by decide, cM_has_ok⟩
  | 1 => fun h1 h2 => by
    obtain rfl := Option.some.inj h1
    obtain rfl := Option.some.inj h2
    exact ⟨4, by decide, cF_daysUntilAbout_ok⟩
  | jj + 2 => fun h1 _ => by cases jj <;> cases h1

set_option maxRecDepth 20000 in
theorem xV_bare {g0 : mv_G} {res : List mv_V × H2} (o0 : Nat) (v1 : Int32) (h : H2) (hh : fV_bare o0 v1 h = some res) : mv_X vw2 mdV_bare 5 0 0 none g0 res 0 [(0, Sum.inr (7, o0)), (1, Sum.inl (Value.int v1))] [] h 0 0 := by
  refine mv_blkX ax2 (GV_bare) (by decide) kV_bare (fun pc lv st h ce sl hh => ?_) ((eV_bare  o0 v1 h).trans hh)
  cases hh

theorem mV_bare (o0 : Nat) (v1 : Int32) (h : H2) (vs : List mv_V) (h' : H2) (hh : fV_bare o0 v1 h = some (vs, h')) : mv_Met vw2 5 0 0 mdV_bare [Sum.inr (7, o0), Sum.inl (Value.int v1)] h vs h' :=
  mv_Met_of (by decide +kernel) (Nat.le_of_ble_eq_true rfl) (xV_bare o0 v1 h hh)
set_option maxRecDepth 100000 in
theorem kV_spoilt : mv_tok mdV_spoilt nV_spoilt tV_spoilt = true := by decide +kernel
set_option maxRecDepth 100000 in
set_option maxHeartbeats 1000000 in
theorem eV_spoilt (o0 : Nat) (v1 : Int32) (h : H2) : mv_blk rI2 rR2 ln2 wI2 wR2 nw2 cp2 bod none tV_spoilt gV_spoilt 0 0 [] (fun _ _ _ _ _ _ => none) 400 (mv_seek 0 tV_spoilt) [(0, Sum.inr (7, o0)), (1, Sum.inl (Value.int v1))] [] h 0 0 = (
  mv_rI (fV_isDays v1 h) fun r2 h1 =>
  if r2 = 0 then (
    some ([Sum.inl (Value.int (-(nI 1)))], h1))
  else
  mv_rI (fF_spoiltBehind 0 0 v1 h1) fun r4 h3 =>
  some ([Sum.inl (Value.int r4)], h3)) := rfl
theorem GV_spoilt : ∀ (j : Nat) (C : mv_C H2) (md' : mv_MD × Bool), mv_nth j gV_spoilt = some C → mv_nth j nV_spoilt = some md' → ∃ n', n' + 1 ≤ 7 ∧ mv_Cal vw2 n' md' C := fun j C md' => match j with
  | 0 => fun h1 h2 => by
    obtain rfl := Option.some.inj h1
    obtain rfl := Option.some.inj h2
    exact ⟨2, by decide, cV_isDays_ok⟩
  | 1 => fun h1 h2 => by
    obtain rfl := Option.some.inj h1
    obtain rfl := Option.some.inj h2
    exact ⟨6, by decide, cF_spoiltBehind_ok⟩
  | jj + 2 => fun h1 _ => by cases jj <;> cases h1

set_option maxRecDepth 20000 in
theorem xV_spoilt {g0 : mv_G} {res : List mv_V × H2} (o0 : Nat) (v1 : Int32) (h : H2) (hh : fV_spoilt o0 v1 h = some res) : mv_X vw2 mdV_spoilt 7 0 0 none g0 res 0 [(0, Sum.inr (7, o0)), (1, Sum.inl (Value.int v1))] [] h 0 0 := by
  refine mv_blkX ax2 (GV_spoilt) (by decide) kV_spoilt (fun pc lv st h ce sl hh => ?_) ((eV_spoilt  o0 v1 h).trans hh)
  cases hh

theorem mV_spoilt (o0 : Nat) (v1 : Int32) (h : H2) (vs : List mv_V) (h' : H2) (hh : fV_spoilt o0 v1 h = some (vs, h')) : mv_Met vw2 7 0 0 mdV_spoilt [Sum.inr (7, o0), Sum.inl (Value.int v1)] h vs h' :=
  mv_Met_of (by decide +kernel) (Nat.le_of_ble_eq_true rfl) (xV_spoilt o0 v1 h hh)
set_option maxRecDepth 100000 in
theorem kV_through : mv_tok mdV_through nV_through tV_through = true := by decide +kernel
set_option maxRecDepth 100000 in
set_option maxHeartbeats 1000000 in
theorem eV_through (o0 : Nat) (v1 : Int32) (v2 : Int32) (h : H2) : mv_blk rI2 rR2 ln2 wI2 wR2 nw2 cp2 bod none tV_through gV_through 0 0 [] (fun _ _ _ _ _ _ => none) 400 (mv_seek 0 tV_through) [(0, Sum.inr (7, o0)), (1, Sum.inl (Value.int v1)), (2, Sum.inl (Value.int v2))] [] h 0 0 = (
  mv_rI (fM_has 0 v1 h) fun r2 h1 =>
  if r2 = 0 then (
    some ([Sum.inl (Value.int (-(nI 1)))], h1))
  else
  mv_rI (fV_isPurpose v2 h1) fun r4 h3 =>
  if r4 = 0 then (
    some ([Sum.inl (Value.int (-(nI 1)))], h3))
  else
  mv_rI (fF_vatsThrough 0 0 v1 v2 h3) fun r6 h5 =>
  some ([Sum.inl (Value.int r6)], h5)) := rfl
theorem GV_through : ∀ (j : Nat) (C : mv_C H2) (md' : mv_MD × Bool), mv_nth j gV_through = some C → mv_nth j nV_through = some md' → ∃ n', n' + 1 ≤ 5 ∧ mv_Cal vw2 n' md' C := fun j C md' => match j with
  | 0 => fun h1 h2 => by
    obtain rfl := Option.some.inj h1
    obtain rfl := Option.some.inj h2
    exact ⟨2, by decide, cM_has_ok⟩
  | 1 => fun h1 h2 => by
    obtain rfl := Option.some.inj h1
    obtain rfl := Option.some.inj h2
    exact ⟨2, by decide, cV_isPurpose_ok⟩
  | 2 => fun h1 h2 => by
    obtain rfl := Option.some.inj h1
    obtain rfl := Option.some.inj h2
    exact ⟨4, by decide, cF_vatsThrough_ok⟩
  | jj + 3 => fun h1 _ => by cases jj <;> cases h1

set_option maxRecDepth 20000 in
theorem xV_through {g0 : mv_G} {res : List mv_V × H2} (o0 : Nat) (v1 : Int32) (v2 : Int32) (h : H2) (hh : fV_through o0 v1 v2 h = some res) : mv_X vw2 mdV_through 5 0 0 none g0 res 0 [(0, Sum.inr (7, o0)), (1, Sum.inl (Value.int v1)), (2, Sum.inl (Value.int v2))] [] h 0 0 := by
  refine mv_blkX ax2 (GV_through) (by decide) kV_through (fun pc lv st h ce sl hh => ?_) ((eV_through  o0 v1 v2 h).trans hh)
  cases hh

theorem mV_through (o0 : Nat) (v1 : Int32) (v2 : Int32) (h : H2) (vs : List mv_V) (h' : H2) (hh : fV_through o0 v1 v2 h = some (vs, h')) : mv_Met vw2 5 0 0 mdV_through [Sum.inr (7, o0), Sum.inl (Value.int v1), Sum.inl (Value.int v2)] h vs h' :=
  mv_Met_of (by decide +kernel) (Nat.le_of_ble_eq_true rfl) (xV_through o0 v1 v2 h hh)
set_option maxRecDepth 100000 in
theorem kV_vatFor : mv_tok mdV_vatFor nV_vatFor tV_vatFor = true := by decide +kernel
set_option maxRecDepth 100000 in
set_option maxHeartbeats 1000000 in
theorem eV_vatFor (o0 : Nat) (v1 : Int32) (v2 : Int32) (h : H2) : mv_blk rI2 rR2 ln2 wI2 wR2 nw2 cp2 bod none tV_vatFor gV_vatFor 0 0 [] (fun _ _ _ _ _ _ => none) 400 (mv_seek 0 tV_vatFor) [(0, Sum.inr (7, o0)), (1, Sum.inl (Value.int v1)), (2, Sum.inl (Value.int v2))] [] h 0 0 = (
  mv_rI (fV_isRest v1 h) fun r2 h1 =>
  if r2 = 0 then (
    some ([Sum.inl (Value.int (-(nI 1)))], h1))
  else
  mv_rI (fV_isIn v2 (nI 1) (nI 40) h1) fun r4 h3 =>
  if r4 = 0 then (
    some ([Sum.inl (Value.int (-(nI 1)))], h3))
  else
  mv_rI (fF_deepestVat 0 0 v1 v2 h3) fun r6 h5 =>
  some ([Sum.inl (Value.int r6)], h5)) := rfl
theorem GV_vatFor : ∀ (j : Nat) (C : mv_C H2) (md' : mv_MD × Bool), mv_nth j gV_vatFor = some C → mv_nth j nV_vatFor = some md' → ∃ n', n' + 1 ≤ 6 ∧ mv_Cal vw2 n' md' C := fun j C md' => match j with
  | 0 => fun h1 h2 => by
    obtain rfl := Option.some.inj h1
    obtain rfl := Option.some.inj h2
    exact ⟨2, by decide, cV_isRest_ok⟩
  | 1 => fun h1 h2 => by
    obtain rfl := Option.some.inj h1
    obtain rfl := Option.some.inj h2
    exact ⟨1, by decide, cV_isIn_ok⟩
  | 2 => fun h1 h2 => by
    obtain rfl := Option.some.inj h1
    obtain rfl := Option.some.inj h2
    exact ⟨5, by decide, cF_deepestVat_ok⟩
  | jj + 3 => fun h1 _ => by cases jj <;> cases h1

set_option maxRecDepth 20000 in
theorem xV_vatFor {g0 : mv_G} {res : List mv_V × H2} (o0 : Nat) (v1 : Int32) (v2 : Int32) (h : H2) (hh : fV_vatFor o0 v1 v2 h = some res) : mv_X vw2 mdV_vatFor 6 0 0 none g0 res 0 [(0, Sum.inr (7, o0)), (1, Sum.inl (Value.int v1)), (2, Sum.inl (Value.int v2))] [] h 0 0 := by
  refine mv_blkX ax2 (GV_vatFor) (by decide) kV_vatFor (fun pc lv st h ce sl hh => ?_) ((eV_vatFor  o0 v1 v2 h).trans hh)
  cases hh

theorem mV_vatFor (o0 : Nat) (v1 : Int32) (v2 : Int32) (h : H2) (vs : List mv_V) (h' : H2) (hh : fV_vatFor o0 v1 v2 h = some (vs, h')) : mv_Met vw2 6 0 0 mdV_vatFor [Sum.inr (7, o0), Sum.inl (Value.int v1), Sum.inl (Value.int v2)] h vs h' :=
  mv_Met_of (by decide +kernel) (Nat.le_of_ble_eq_true rfl) (xV_vatFor o0 v1 v2 h hh)
set_option maxRecDepth 100000 in
theorem kV_kindFor : mv_tok mdV_kindFor nV_kindFor tV_kindFor = true := by decide +kernel
set_option maxRecDepth 100000 in
set_option maxHeartbeats 1000000 in
theorem eV_kindFor (o0 : Nat) (v1 : Int32) (v2 : Int32) (h : H2) : mv_blk rI2 rR2 ln2 wI2 wR2 nw2 cp2 bod none tV_kindFor gV_kindFor 0 0 [] (fun _ _ _ _ _ _ => none) 400 (mv_seek 0 tV_kindFor) [(0, Sum.inr (7, o0)), (1, Sum.inl (Value.int v1)), (2, Sum.inl (Value.int v2))] [] h 0 0 = (
  mv_rI (fM_has 0 v1 h) fun r2 h1 =>
  if r2 = 0 then (
    some ([Sum.inl (Value.int (-(nI 1)))], h1))
  else
  mv_rI (fV_isIn v2 (nI 1) (nI 40) h1) fun r4 h3 =>
  if r4 = 0 then (
    some ([Sum.inl (Value.int (-(nI 1)))], h3))
  else
  mv_rI (fF_deepestKind 0 0 v1 v2 h3) fun r6 h5 =>
  some ([Sum.inl (Value.int r6)], h5)) := rfl
theorem GV_kindFor : ∀ (j : Nat) (C : mv_C H2) (md' : mv_MD × Bool), mv_nth j gV_kindFor = some C → mv_nth j nV_kindFor = some md' → ∃ n', n' + 1 ≤ 6 ∧ mv_Cal vw2 n' md' C := fun j C md' => match j with
  | 0 => fun h1 h2 => by
    obtain rfl := Option.some.inj h1
    obtain rfl := Option.some.inj h2
    exact ⟨2, by decide, cM_has_ok⟩
  | 1 => fun h1 h2 => by
    obtain rfl := Option.some.inj h1
    obtain rfl := Option.some.inj h2
    exact ⟨1, by decide, cV_isIn_ok⟩
  | 2 => fun h1 h2 => by
    obtain rfl := Option.some.inj h1
    obtain rfl := Option.some.inj h2
    exact ⟨5, by decide, cF_deepestKind_ok⟩
  | jj + 3 => fun h1 _ => by cases jj <;> cases h1

set_option maxRecDepth 20000 in
theorem xV_kindFor {g0 : mv_G} {res : List mv_V × H2} (o0 : Nat) (v1 : Int32) (v2 : Int32) (h : H2) (hh : fV_kindFor o0 v1 v2 h = some res) : mv_X vw2 mdV_kindFor 6 0 0 none g0 res 0 [(0, Sum.inr (7, o0)), (1, Sum.inl (Value.int v1)), (2, Sum.inl (Value.int v2))] [] h 0 0 := by
  refine mv_blkX ax2 (GV_kindFor) (by decide) kV_kindFor (fun pc lv st h ce sl hh => ?_) ((eV_kindFor  o0 v1 v2 h).trans hh)
  cases hh

theorem mV_kindFor (o0 : Nat) (v1 : Int32) (v2 : Int32) (h : H2) (vs : List mv_V) (h' : H2) (hh : fV_kindFor o0 v1 v2 h = some (vs, h')) : mv_Met vw2 6 0 0 mdV_kindFor [Sum.inr (7, o0), Sum.inl (Value.int v1), Sum.inl (Value.int v2)] h vs h' :=
  mv_Met_of (by decide +kernel) (Nat.le_of_ble_eq_true rfl) (xV_kindFor o0 v1 v2 h hh)
set_option maxRecDepth 100000 in
theorem kV_strengthFor : mv_tok mdV_strengthFor nV_strengthFor tV_strengthFor = true := by decide +kernel
set_option maxRecDepth 100000 in
set_option maxHeartbeats 1000000 in
theorem eV_strengthFor (o0 : Nat) (v1 : Int32) (v2 : Int32) (v3 : Int32) (v4 : Int32) (h : H2) : mv_blk rI2 rR2 ln2 wI2 wR2 nw2 cp2 bod none tV_strengthFor gV_strengthFor 0 0 [] (fun _ _ _ _ _ _ => none) 400 (mv_seek 0 tV_strengthFor) [(0, Sum.inr (7, o0)), (1, Sum.inl (Value.int v1)), (2, Sum.inl (Value.int v2)), (3, Sum.inl (Value.int v3)), (4, Sum.inl (Value.int v4))] [] h 0 0 = (
  mv_rI (fV_isVat v1 h) fun r2 h1 =>
  if r2 = 0 then (
    some ([Sum.inl (Value.int (-(nI 1)))], h1))
  else
  mv_rI (fM_has 0 v2 h1) fun r4 h3 =>
  if r4 = 0 then (
    some ([Sum.inl (Value.int (-(nI 1)))], h3))
  else
  mv_rI (fV_isPurpose v3 h3) fun r6 h5 =>
  if r6 = 0 then (
    some ([Sum.inl (Value.int (-(nI 1)))], h5))
  else
  mv_rI (fV_isIn v4 (nI 1) (nI 40) h5) fun r8 h7 =>
  if r8 = 0 then (
    some ([Sum.inl (Value.int (-(nI 1)))], h7))
  else
  mv_rI (fF_leastStrength 0 0 v1 v2 v3 v4 h7) fun r10 h9 =>
  some ([Sum.inl (Value.int r10)], h9)) := rfl
theorem GV_strengthFor : ∀ (j : Nat) (C : mv_C H2) (md' : mv_MD × Bool), mv_nth j gV_strengthFor = some C → mv_nth j nV_strengthFor = some md' → ∃ n', n' + 1 ≤ 6 ∧ mv_Cal vw2 n' md' C := fun j C md' => match j with
  | 0 => fun h1 h2 => by
    obtain rfl := Option.some.inj h1
    obtain rfl := Option.some.inj h2
    exact ⟨2, by decide, cV_isVat_ok⟩
  | 1 => fun h1 h2 => by
    obtain rfl := Option.some.inj h1
    obtain rfl := Option.some.inj h2
    exact ⟨2, by decide, cM_has_ok⟩
  | 2 => fun h1 h2 => by
    obtain rfl := Option.some.inj h1
    obtain rfl := Option.some.inj h2
    exact ⟨2, by decide, cV_isPurpose_ok⟩
  | 3 => fun h1 h2 => by
    obtain rfl := Option.some.inj h1
    obtain rfl := Option.some.inj h2
    exact ⟨1, by decide, cV_isIn_ok⟩
  | 4 => fun h1 h2 => by
    obtain rfl := Option.some.inj h1
    obtain rfl := Option.some.inj h2
    exact ⟨5, by decide, cF_leastStrength_ok⟩
  | jj + 5 => fun h1 _ => by cases jj <;> cases h1

set_option maxRecDepth 20000 in
theorem xV_strengthFor {g0 : mv_G} {res : List mv_V × H2} (o0 : Nat) (v1 : Int32) (v2 : Int32) (v3 : Int32) (v4 : Int32) (h : H2) (hh : fV_strengthFor o0 v1 v2 v3 v4 h = some res) : mv_X vw2 mdV_strengthFor 6 0 0 none g0 res 0 [(0, Sum.inr (7, o0)), (1, Sum.inl (Value.int v1)), (2, Sum.inl (Value.int v2)), (3, Sum.inl (Value.int v3)), (4, Sum.inl (Value.int v4))] [] h 0 0 := by
  refine mv_blkX ax2 (GV_strengthFor) (by decide) kV_strengthFor (fun pc lv st h ce sl hh => ?_) ((eV_strengthFor  o0 v1 v2 v3 v4 h).trans hh)
  cases hh

theorem mV_strengthFor (o0 : Nat) (v1 : Int32) (v2 : Int32) (v3 : Int32) (v4 : Int32) (h : H2) (vs : List mv_V) (h' : H2) (hh : fV_strengthFor o0 v1 v2 v3 v4 h = some (vs, h')) : mv_Met vw2 6 0 0 mdV_strengthFor [Sum.inr (7, o0), Sum.inl (Value.int v1), Sum.inl (Value.int v2), Sum.inl (Value.int v3), Sum.inl (Value.int v4)] h vs h' :=
  mv_Met_of (by decide +kernel) (Nat.le_of_ble_eq_true rfl) (xV_strengthFor o0 v1 v2 v3 v4 h hh)
set_option maxRecDepth 100000 in
theorem kV_hangFor : mv_tok mdV_hangFor nV_hangFor tV_hangFor = true := by decide +kernel
set_option maxRecDepth 100000 in
set_option maxHeartbeats 1000000 in
theorem eV_hangFor (o0 : Nat) (v1 : Int32) (v2 : Int32) (h : H2) : mv_blk rI2 rR2 ln2 wI2 wR2 nw2 cp2 bod none tV_hangFor gV_hangFor 0 0 [] (fun _ _ _ _ _ _ => none) 400 (mv_seek 0 tV_hangFor) [(0, Sum.inr (7, o0)), (1, Sum.inl (Value.int v1)), (2, Sum.inl (Value.int v2))] [] h 0 0 = (
  mv_rI (fV_isIn v1 (nI 1) (nI 30) h) fun r2 h1 =>
  if r2 = 0 then (
    some ([Sum.inl (Value.int (-(nI 1)))], h1))
  else
  mv_rI (fV_isIn v2 (nI 0) (nI 8) h1) fun r4 h3 =>
  if r4 = 0 then (
    some ([Sum.inl (Value.int (-(nI 1)))], h3))
  else
  mv_rI (fF_fewestHung 0 0 v1 v2 h3) fun r6 h5 =>
  some ([Sum.inl (Value.int r6)], h5)) := rfl
theorem GV_hangFor : ∀ (j : Nat) (C : mv_C H2) (md' : mv_MD × Bool), mv_nth j gV_hangFor = some C → mv_nth j nV_hangFor = some md' → ∃ n', n' + 1 ≤ 7 ∧ mv_Cal vw2 n' md' C := fun j C md' => match j with
  | 0 => fun h1 h2 => by
    obtain rfl := Option.some.inj h1
    obtain rfl := Option.some.inj h2
    exact ⟨1, by decide, cV_isIn_ok⟩
  | 1 => fun h1 h2 => by
    obtain rfl := Option.some.inj h1
    obtain rfl := Option.some.inj h2
    exact ⟨6, by decide, cF_fewestHung_ok⟩
  | jj + 2 => fun h1 _ => by cases jj <;> cases h1

set_option maxRecDepth 20000 in
theorem xV_hangFor {g0 : mv_G} {res : List mv_V × H2} (o0 : Nat) (v1 : Int32) (v2 : Int32) (h : H2) (hh : fV_hangFor o0 v1 v2 h = some res) : mv_X vw2 mdV_hangFor 7 0 0 none g0 res 0 [(0, Sum.inr (7, o0)), (1, Sum.inl (Value.int v1)), (2, Sum.inl (Value.int v2))] [] h 0 0 := by
  refine mv_blkX ax2 (GV_hangFor) (by decide) kV_hangFor (fun pc lv st h ce sl hh => ?_) ((eV_hangFor  o0 v1 v2 h).trans hh)
  cases hh

theorem mV_hangFor (o0 : Nat) (v1 : Int32) (v2 : Int32) (h : H2) (vs : List mv_V) (h' : H2) (hh : fV_hangFor o0 v1 v2 h = some (vs, h')) : mv_Met vw2 7 0 0 mdV_hangFor [Sum.inr (7, o0), Sum.inl (Value.int v1), Sum.inl (Value.int v2)] h vs h' :=
  mv_Met_of (by decide +kernel) (Nat.le_of_ble_eq_true rfl) (xV_hangFor o0 v1 v2 h hh)
