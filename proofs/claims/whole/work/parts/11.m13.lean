set_option maxRecDepth 100000 in
theorem kV_isSheet : mv_tok mdV_isSheet nV_isSheet tV_isSheet = true := by decide +kernel
set_option maxRecDepth 100000 in
set_option maxHeartbeats 1000000 in
theorem eV_isSheet (v0 : Int32) (h : H2) : mv_blk rI2 rR2 ln2 wI2 wR2 nw2 cp2 bod none tV_isSheet gV_isSheet 0 0 [] (fun _ _ _ _ _ _ => none) 400 (mv_seek 0 tV_isSheet) [(0, Sum.inl (Value.int v0))] [] h 0 0 = (
  mv_rI (fV_isIn v0 (nI 0) (nI 3) h) fun r2 h1 =>
  mv_gd (decide (r2 = nI 0) || decide (r2 = nI 1)) <| some ([Sum.inl (Value.int r2)], h1)) := rfl
theorem GV_isSheet : ∀ (j : Nat) (C : mv_C H2) (md' : mv_MD × Bool), mv_nth j gV_isSheet = some C → mv_nth j nV_isSheet = some md' → ∃ n', n' + 1 ≤ 2 ∧ mv_Cal vw2 n' md' C := fun j C md' => match j with
  | 0 => fun h1 h2 => by
    obtain rfl := Option.some.inj h1
    obtain rfl := Option.some.inj h2
    exact ⟨1, by decide, cV_isIn_ok⟩
  | jj + 1 => fun h1 _ => by cases jj <;> cases h1

set_option maxRecDepth 20000 in
theorem xV_isSheet {g0 : mv_G} {res : List mv_V × H2} (v0 : Int32) (h : H2) (hh : fV_isSheet v0 h = some res) : mv_X vw2 mdV_isSheet 2 0 0 none g0 res 0 [(0, Sum.inl (Value.int v0))] [] h 0 0 := by
  refine mv_blkX ax2 (GV_isSheet) (by decide) kV_isSheet (fun pc lv st h ce sl hh => ?_) ((eV_isSheet  v0 h).trans hh)
  cases hh

theorem mV_isSheet (v0 : Int32) (h : H2) (vs : List mv_V) (h' : H2) (hh : fV_isSheet v0 h = some (vs, h')) : mv_Met vw2 2 0 0 mdV_isSheet [Sum.inl (Value.int v0)] h vs h' :=
  mv_Met_of (by decide +kernel) (Nat.le_of_ble_eq_true rfl) (xV_isSheet v0 h hh)
theorem cV_isSheet_ok : mv_Cal vw2 2 (mdV_isSheet, false) ((0, 0), cV_isSheet) := by
  intro as h k res hh
  change cV_isSheet as h k = some res at hh
  unfold cV_isSheet at hh
  split at hh
  · obtain ⟨x, h', h1, h9⟩ := mv_rI_some hh
    exact ⟨_, _, h9, (by first | decide | exact Nat.le_refl _ | exact Nat.zero_le _), (fun h => by cases h), (mV_isSheet _ h _ _ h1)⟩
  · cases hh

set_option maxRecDepth 100000 in
theorem kV_fits : mv_tok mdV_fits nV_fits tV_fits = true := by decide +kernel
set_option maxRecDepth 100000 in
set_option maxHeartbeats 1000000 in
theorem eV_fits (o0 : Nat) (v1 : Int32) (v2 : Int32) (v3 : Int32) (h : H2) : mv_blk rI2 rR2 ln2 wI2 wR2 nw2 cp2 bod none tV_fits gV_fits 0 0 [] (fun _ _ _ _ _ _ => none) 400 (mv_seek 0 tV_fits) [(0, Sum.inr (7, o0)), (1, Sum.inl (Value.int v1)), (2, Sum.inl (Value.int v2)), (3, Sum.inl (Value.int v3))] [] h 0 0 = (
  mv_rI (fV_isSheet v1 h) fun r2 h1 =>
  if r2 = 0 then (
    some ([Sum.inl (Value.int (-(nI 1)))], h1))
  else
  mv_rI (fM_has 0 v2 h1) fun r4 h3 =>
  if r4 = 0 then (
    some ([Sum.inl (Value.int (-(nI 1)))], h3))
  else
  mv_rI (fV_isIn v3 (nI 0) (nI 1) h3) fun r6 h5 =>
  if r6 = 0 then (
    some ([Sum.inl (Value.int (-(nI 1)))], h5))
  else
  mv_gd (mv_inb v1 4) <|
  mv_el (sht2 h5 v1.toNatClampNeg) (
    some ([Sum.inl (Value.int (-(nI 11)))], h5)) fun r7 =>
  if v3 = 0 then (
    mv_rI (fF_manyFitting 0 0 v2 r7 h5) fun r9 h8 =>
    some ([Sum.inl (Value.int r9)], h8))
  else
  mv_rI (fF_leastFitting 0 0 v2 r7 h5) fun r11 h10 =>
  some ([Sum.inl (Value.int r11)], h10)) := rfl
theorem GV_fits : ∀ (j : Nat) (C : mv_C H2) (md' : mv_MD × Bool), mv_nth j gV_fits = some C → mv_nth j nV_fits = some md' → ∃ n', n' + 1 ≤ 6 ∧ mv_Cal vw2 n' md' C := fun j C md' => match j with
  | 0 => fun h1 h2 => by
    obtain rfl := Option.some.inj h1
    obtain rfl := Option.some.inj h2
    exact ⟨2, by decide, cV_isSheet_ok⟩
  | 1 => fun h1 h2 => by
    obtain rfl := Option.some.inj h1
    obtain rfl := Option.some.inj h2
    exact ⟨2, by decide, cM_has_ok⟩
  | 2 => fun h1 h2 => by
    obtain rfl := Option.some.inj h1
    obtain rfl := Option.some.inj h2
    exact ⟨1, by decide, cV_isIn_ok⟩
  | 3 => fun h1 h2 => by
    obtain rfl := Option.some.inj h1
    obtain rfl := Option.some.inj h2
    exact ⟨5, by decide, cF_manyFitting_ok⟩
  | 4 => fun h1 h2 => by
    obtain rfl := Option.some.inj h1
    obtain rfl := Option.some.inj h2
    exact ⟨5, by decide, cF_leastFitting_ok⟩
  | jj + 5 => fun h1 _ => by cases jj <;> cases h1

set_option maxRecDepth 20000 in
theorem xV_fits {g0 : mv_G} {res : List mv_V × H2} (o0 : Nat) (v1 : Int32) (v2 : Int32) (v3 : Int32) (h : H2) (hh : fV_fits o0 v1 v2 v3 h = some res) : mv_X vw2 mdV_fits 6 0 0 none g0 res 0 [(0, Sum.inr (7, o0)), (1, Sum.inl (Value.int v1)), (2, Sum.inl (Value.int v2)), (3, Sum.inl (Value.int v3))] [] h 0 0 := by
  refine mv_blkX ax2 (GV_fits) (by decide) kV_fits (fun pc lv st h ce sl hh => ?_) ((eV_fits  o0 v1 v2 v3 h).trans hh)
  cases hh

theorem mV_fits (o0 : Nat) (v1 : Int32) (v2 : Int32) (v3 : Int32) (h : H2) (vs : List mv_V) (h' : H2) (hh : fV_fits o0 v1 v2 v3 h = some (vs, h')) : mv_Met vw2 6 0 0 mdV_fits [Sum.inr (7, o0), Sum.inl (Value.int v1), Sum.inl (Value.int v2), Sum.inl (Value.int v3)] h vs h' :=
  mv_Met_of (by decide +kernel) (Nat.le_of_ble_eq_true rfl) (xV_fits o0 v1 v2 v3 h hh)
set_option maxRecDepth 100000 in
theorem kV_odds : mv_tok mdV_odds nV_odds tV_odds = true := by decide +kernel
set_option maxRecDepth 100000 in
set_option maxHeartbeats 1000000 in
theorem eV_odds (o0 : Nat) (v1 : Int32) (v2 : Int32) (v3 : Int32) (h : H2) : mv_blk rI2 rR2 ln2 wI2 wR2 nw2 cp2 bod none tV_odds gV_odds 0 0 [] (fun _ _ _ _ _ _ => none) 400 (mv_seek 0 tV_odds) [(0, Sum.inr (7, o0)), (1, Sum.inl (Value.int v1)), (2, Sum.inl (Value.int v2)), (3, Sum.inl (Value.int v3))] [] h 0 0 = (
  mv_rI (fV_isIn v1 (nI 0) (nI 8) h) fun r2 h1 =>
  if r2 = 0 then (
    some ([Sum.inl (Value.long (-(lN 1)))], h1))
  else
  mv_rI (fV_isIn v2 (nI 0) v1 h1) fun r4 h3 =>
  if r4 = 0 then (
    some ([Sum.inl (Value.long (-(lN 1)))], h3))
  else
  mv_rI (fV_isIn v3 (nI 0) (nI 1) h3) fun r6 h5 =>
  if r6 = 0 then (
    some ([Sum.inl (Value.long (-(lN 1)))], h5))
  else
  mv_gd (mv_inb (nI 3) 4) <|
  mv_rL (fC_justSlip v1 v2 (rI2 h5 300 0 (nI 3).toNatClampNeg) v3 h5) fun r8 h7 =>
  some ([Sum.inl (Value.long r8)], h7)) := rfl
theorem GV_odds : ∀ (j : Nat) (C : mv_C H2) (md' : mv_MD × Bool), mv_nth j gV_odds = some C → mv_nth j nV_odds = some md' → ∃ n', n' + 1 ≤ 4 ∧ mv_Cal vw2 n' md' C := fun j C md' => match j with
  | 0 => fun h1 h2 => by
    obtain rfl := Option.some.inj h1
    obtain rfl := Option.some.inj h2
    exact ⟨1, by decide, cV_isIn_ok⟩
  | 1 => fun h1 h2 => by
    obtain rfl := Option.some.inj h1
    obtain rfl := Option.some.inj h2
    exact ⟨3, by decide, cC_justSlip_ok⟩
  | jj + 2 => fun h1 _ => by cases jj <;> cases h1

set_option maxRecDepth 20000 in
theorem xV_odds {g0 : mv_G} {res : List mv_V × H2} (o0 : Nat) (v1 : Int32) (v2 : Int32) (v3 : Int32) (h : H2) (hh : fV_odds o0 v1 v2 v3 h = some res) : mv_X vw2 mdV_odds 4 0 0 none g0 res 0 [(0, Sum.inr (7, o0)), (1, Sum.inl (Value.int v1)), (2, Sum.inl (Value.int v2)), (3, Sum.inl (Value.int v3))] [] h 0 0 := by
  refine mv_blkX ax2 (GV_odds) (by decide) kV_odds (fun pc lv st h ce sl hh => ?_) ((eV_odds  o0 v1 v2 v3 h).trans hh)
  cases hh

theorem mV_odds (o0 : Nat) (v1 : Int32) (v2 : Int32) (v3 : Int32) (h : H2) (vs : List mv_V) (h' : H2) (hh : fV_odds o0 v1 v2 v3 h = some (vs, h')) : mv_Met vw2 4 0 0 mdV_odds [Sum.inr (7, o0), Sum.inl (Value.int v1), Sum.inl (Value.int v2), Sum.inl (Value.int v3)] h vs h' :=
  mv_Met_of (by decide +kernel) (Nat.le_of_ble_eq_true rfl) (xV_odds o0 v1 v2 v3 h hh)
set_option maxRecDepth 100000 in
theorem kV_hope : mv_tok mdV_hope nV_hope tV_hope = true := by decide +kernel
set_option maxRecDepth 100000 in
set_option maxHeartbeats 1000000 in
theorem eV_hope (o0 : Nat) (v1 : Int32) (v2 : Int32) (h : H2) : mv_blk rI2 rR2 ln2 wI2 wR2 nw2 cp2 bod none tV_hope gV_hope 0 0 [] (fun _ _ _ _ _ _ => none) 400 (mv_seek 0 tV_hope) [(0, Sum.inr (7, o0)), (1, Sum.inl (Value.int v1)), (2, Sum.inl (Value.int v2))] [] h 0 0 = (
  mv_rI (fV_isIn v1 (nI 0) (nI 99) h) fun r2 h1 =>
  if r2 = 0 then (
    some ([Sum.inl (Value.long (-(lN 1)))], h1))
  else
  mv_rI (fV_isIn v2 (nI 0) (nI 1) h1) fun r4 h3 =>
  if r4 = 0 then (
    some ([Sum.inl (Value.long (-(lN 1)))], h3))
  else
  mv_gd (mv_inb (nI 3) 4) <|
  mv_rL (fC_partOf (v1.toInt64 * ((rI2 h3 300 0 (nI 3).toNatClampNeg).toInt64)) (lN 100) v2 h3) fun r6 h5 =>
  some ([Sum.inl (Value.long r6)], h5)) := rfl
theorem GV_hope : ∀ (j : Nat) (C : mv_C H2) (md' : mv_MD × Bool), mv_nth j gV_hope = some C → mv_nth j nV_hope = some md' → ∃ n', n' + 1 ≤ 3 ∧ mv_Cal vw2 n' md' C := fun j C md' => match j with
  | 0 => fun h1 h2 => by
    obtain rfl := Option.some.inj h1
    obtain rfl := Option.some.inj h2
    exact ⟨1, by decide, cV_isIn_ok⟩
  | 1 => fun h1 h2 => by
    obtain rfl := Option.some.inj h1
    obtain rfl := Option.some.inj h2
    exact ⟨2, by decide, cC_partOf_ok⟩
  | jj + 2 => fun h1 _ => by cases jj <;> cases h1

set_option maxRecDepth 20000 in
theorem xV_hope {g0 : mv_G} {res : List mv_V × H2} (o0 : Nat) (v1 : Int32) (v2 : Int32) (h : H2) (hh : fV_hope o0 v1 v2 h = some res) : mv_X vw2 mdV_hope 3 0 0 none g0 res 0 [(0, Sum.inr (7, o0)), (1, Sum.inl (Value.int v1)), (2, Sum.inl (Value.int v2))] [] h 0 0 := by
  refine mv_blkX ax2 (GV_hope) (by decide) kV_hope (fun pc lv st h ce sl hh => ?_) ((eV_hope  o0 v1 v2 h).trans hh)
  cases hh

theorem mV_hope (o0 : Nat) (v1 : Int32) (v2 : Int32) (h : H2) (vs : List mv_V) (h' : H2) (hh : fV_hope o0 v1 v2 h = some (vs, h')) : mv_Met vw2 3 0 0 mdV_hope [Sum.inr (7, o0), Sum.inl (Value.int v1), Sum.inl (Value.int v2)] h vs h' :=
  mv_Met_of (by decide +kernel) (Nat.le_of_ble_eq_true rfl) (xV_hope o0 v1 v2 h hh)
set_option maxRecDepth 100000 in
theorem kV_prove : mv_tok mdV_prove nV_prove tV_prove = true := by decide +kernel
set_option maxRecDepth 100000 in
set_option maxHeartbeats 1000000 in
theorem eV_prove (o0 : Nat) (v1 : Int32) (v2 : Int32) (h : H2) : mv_blk rI2 rR2 ln2 wI2 wR2 nw2 cp2 bod none tV_prove gV_prove 0 0 [] (fun _ _ _ _ _ _ => none) 400 (mv_seek 0 tV_prove) [(0, Sum.inr (7, o0)), (1, Sum.inl (Value.int v1)), (2, Sum.inl (Value.int v2))] [] h 0 0 = (
  mv_rI (fM_has 0 v1 h) fun r2 h1 =>
  if r2 = 0 then (
    some ([Sum.inl (Value.int (-(nI 1)))], h1))
  else
  mv_rI (fV_isIn v2 (nI 1) (nI 10) h1) fun r4 h3 =>
  if r4 = 0 then (
    some ([Sum.inl (Value.int (-(nI 1)))], h3))
  else
  mv_rV (fF_writeRows 0 0 v1 v2 0 h3) fun h5 =>
  some ([Sum.inl (Value.int v2)], h5)) := rfl
theorem GV_prove : ∀ (j : Nat) (C : mv_C H2) (md' : mv_MD × Bool), mv_nth j gV_prove = some C → mv_nth j nV_prove = some md' → ∃ n', n' + 1 ≤ 5 ∧ mv_Cal vw2 n' md' C := fun j C md' => match j with
  | 0 => fun h1 h2 => by
    obtain rfl := Option.some.inj h1
    obtain rfl := Option.some.inj h2
    exact ⟨2, by decide, cM_has_ok⟩
  | 1 => fun h1 h2 => by
    obtain rfl := Option.some.inj h1
    obtain rfl := Option.some.inj h2
    exact ⟨1, by decide, cV_isIn_ok⟩
  | 2 => fun h1 h2 => by
    obtain rfl := Option.some.inj h1
    obtain rfl := Option.some.inj h2
    exact ⟨4, by decide, cF_writeRows_ok⟩
  | jj + 3 => fun h1 _ => by cases jj <;> cases h1

set_option maxRecDepth 20000 in
theorem xV_prove {g0 : mv_G} {res : List mv_V × H2} (o0 : Nat) (v1 : Int32) (v2 : Int32) (h : H2) (hh : fV_prove o0 v1 v2 h = some res) : mv_X vw2 mdV_prove 5 0 0 none g0 res 0 [(0, Sum.inr (7, o0)), (1, Sum.inl (Value.int v1)), (2, Sum.inl (Value.int v2))] [] h 0 0 := by
  refine mv_blkX ax2 (GV_prove) (by decide) kV_prove (fun pc lv st h ce sl hh => ?_) ((eV_prove  o0 v1 v2 h).trans hh)
  cases hh

theorem mV_prove (o0 : Nat) (v1 : Int32) (v2 : Int32) (h : H2) (vs : List mv_V) (h' : H2) (hh : fV_prove o0 v1 v2 h = some (vs, h')) : mv_Met vw2 5 0 0 mdV_prove [Sum.inr (7, o0), Sum.inl (Value.int v1), Sum.inl (Value.int v2)] h vs h' :=
  mv_Met_of (by decide +kernel) (Nat.le_of_ble_eq_true rfl) (xV_prove o0 v1 v2 h hh)
set_option maxRecDepth 100000 in
theorem kV_row : mv_tok mdV_row nV_row tV_row = true := by decide +kernel
set_option maxRecDepth 100000 in
set_option maxHeartbeats 1000000 in
theorem eV_row (o0 : Nat) (v1 : Int32) (v2 : Int32) (h : H2) : mv_blk rI2 rR2 ln2 wI2 wR2 nw2 cp2 bod none tV_row gV_row 0 0 [] (fun _ _ _ _ _ _ => none) 400 (mv_seek 0 tV_row) [(0, Sum.inr (7, o0)), (1, Sum.inl (Value.int v1)), (2, Sum.inl (Value.int v2))] [] h 0 0 = (
  mv_rI (fR_has 0 v1 v2 h) fun r2 h1 =>
  if r2 = 0 then (
    some ([Sum.inl (Value.int (-(nI 9)))], h1))
  else
  mv_rI (fR_read 0 v1 v2 h1) fun r4 h3 =>
  some ([Sum.inl (Value.int r4)], h3)) := rfl
theorem GV_row : ∀ (j : Nat) (C : mv_C H2) (md' : mv_MD × Bool), mv_nth j gV_row = some C → mv_nth j nV_row = some md' → ∃ n', n' + 1 ≤ 3 ∧ mv_Cal vw2 n' md' C := fun j C md' => match j with
  | 0 => fun h1 h2 => by
    obtain rfl := Option.some.inj h1
    obtain rfl := Option.some.inj h2
    exact ⟨2, by decide, cR_has_ok⟩
  | 1 => fun h1 h2 => by
    obtain rfl := Option.some.inj h1
    obtain rfl := Option.some.inj h2
    exact ⟨1, by decide, cR_read_ok⟩
  | jj + 2 => fun h1 _ => by cases jj <;> cases h1

set_option maxRecDepth 20000 in
theorem xV_row {g0 : mv_G} {res : List mv_V × H2} (o0 : Nat) (v1 : Int32) (v2 : Int32) (h : H2) (hh : fV_row o0 v1 v2 h = some res) : mv_X vw2 mdV_row 3 0 0 none g0 res 0 [(0, Sum.inr (7, o0)), (1, Sum.inl (Value.int v1)), (2, Sum.inl (Value.int v2))] [] h 0 0 := by
  refine mv_blkX ax2 (GV_row) (by decide) kV_row (fun pc lv st h ce sl hh => ?_) ((eV_row  o0 v1 v2 h).trans hh)
  cases hh

theorem mV_row (o0 : Nat) (v1 : Int32) (v2 : Int32) (h : H2) (vs : List mv_V) (h' : H2) (hh : fV_row o0 v1 v2 h = some (vs, h')) : mv_Met vw2 3 0 0 mdV_row [Sum.inr (7, o0), Sum.inl (Value.int v1), Sum.inl (Value.int v2)] h vs h' :=
  mv_Met_of (by decide +kernel) (Nat.le_of_ble_eq_true rfl) (xV_row o0 v1 v2 h hh)
set_option maxRecDepth 100000 in
theorem kV_alterRow : mv_tok mdV_alterRow nV_alterRow tV_alterRow = true := by decide +kernel
set_option maxRecDepth 100000 in
set_option maxHeartbeats 1000000 in
theorem eV_alterRow (o0 : Nat) (v1 : Int32) (v2 : Int32) (v3 : Int32) (h : H2) : mv_blk rI2 rR2 ln2 wI2 wR2 nw2 cp2 bod none tV_alterRow gV_alterRow 0 0 [] (fun _ _ _ _ _ _ => none) 400 (mv_seek 0 tV_alterRow) [(0, Sum.inr (7, o0)), (1, Sum.inl (Value.int v1)), (2, Sum.inl (Value.int v2)), (3, Sum.inl (Value.int v3))] [] h 0 0 = (
  mv_rI (fR_has 0 v1 v2 h) fun r2 h1 =>
  if r2 = 0 then (
    some ([Sum.inl (Value.int (-(nI 9)))], h1))
  else
  mv_rI (fR_read 0 v1 v2 h1) fun r4 h3 =>
  mv_bi r4 fun x5 =>
  mv_rV (fR_write 0 v1 v2 v3 h3) fun h6 =>
  some ([Sum.inl (Value.int x5)], h6)) := rfl
theorem GV_alterRow : ∀ (j : Nat) (C : mv_C H2) (md' : mv_MD × Bool), mv_nth j gV_alterRow = some C → mv_nth j nV_alterRow = some md' → ∃ n', n' + 1 ≤ 3 ∧ mv_Cal vw2 n' md' C := fun j C md' => match j with
  | 0 => fun h1 h2 => by
    obtain rfl := Option.some.inj h1
    obtain rfl := Option.some.inj h2
    exact ⟨2, by decide, cR_has_ok⟩
  | 1 => fun h1 h2 => by
    obtain rfl := Option.some.inj h1
    obtain rfl := Option.some.inj h2
    exact ⟨1, by decide, cR_read_ok⟩
  | 2 => fun h1 h2 => by
    obtain rfl := Option.some.inj h1
    obtain rfl := Option.some.inj h2
    exact ⟨1, by decide, cR_write_ok⟩
  | jj + 3 => fun h1 _ => by cases jj <;> cases h1

set_option maxRecDepth 20000 in
theorem xV_alterRow {g0 : mv_G} {res : List mv_V × H2} (o0 : Nat) (v1 : Int32) (v2 : Int32) (v3 : Int32) (h : H2) (hh : fV_alterRow o0 v1 v2 v3 h = some res) : mv_X vw2 mdV_alterRow 3 0 0 none g0 res 0 [(0, Sum.inr (7, o0)), (1, Sum.inl (Value.int v1)), (2, Sum.inl (Value.int v2)), (3, Sum.inl (Value.int v3))] [] h 0 0 := by
  refine mv_blkX ax2 (GV_alterRow) (by decide) kV_alterRow (fun pc lv st h ce sl hh => ?_) ((eV_alterRow  o0 v1 v2 v3 h).trans hh)
  cases hh

theorem mV_alterRow (o0 : Nat) (v1 : Int32) (v2 : Int32) (v3 : Int32) (h : H2) (vs : List mv_V) (h' : H2) (hh : fV_alterRow o0 v1 v2 v3 h = some (vs, h')) : mv_Met vw2 3 0 0 mdV_alterRow [Sum.inr (7, o0), Sum.inl (Value.int v1), Sum.inl (Value.int v2), Sum.inl (Value.int v3)] h vs h' :=
  mv_Met_of (by decide +kernel) (Nat.le_of_ble_eq_true rfl) (xV_alterRow o0 v1 v2 v3 h hh)
set_option maxRecDepth 100000 in
theorem kV_judge : mv_tok mdV_judge nV_judge tV_judge = true := by decide +kernel
set_option maxRecDepth 100000 in
set_option maxHeartbeats 1000000 in
theorem eV_judge (o0 : Nat) (v1 : Int32) (h : H2) : mv_blk rI2 rR2 ln2 wI2 wR2 nw2 cp2 bod none tV_judge gV_judge 0 0 [] (fun _ _ _ _ _ _ => none) 400 (mv_seek 0 tV_judge) [(0, Sum.inr (7, o0)), (1, Sum.inl (Value.int v1))] [] h 0 0 = (
  mv_rI (fM_has 0 v1 h) fun r2 h1 =>
  if r2 = 0 then (
    some ([Sum.inl (Value.int (-(nI 1)))], h1))
  else
  mv_rI (fF_firstWrongRow 0 0 v1 0 h1) fun r4 h3 =>
  some ([Sum.inl (Value.int r4)], h3)) := rfl
theorem GV_judge : ∀ (j : Nat) (C : mv_C H2) (md' : mv_MD × Bool), mv_nth j gV_judge = some C → mv_nth j nV_judge = some md' → ∃ n', n' + 1 ≤ 5 ∧ mv_Cal vw2 n' md' C := fun j C md' => match j with
  | 0 => fun h1 h2 => by
    obtain rfl := Option.some.inj h1
    obtain rfl := Option.some.inj h2
    exact ⟨2, by decide, cM_has_ok⟩
  | 1 => fun h1 h2 => by
    obtain rfl := Option.some.inj h1
    obtain rfl := Option.some.inj h2
    exact ⟨4, by decide, cF_firstWrongRow_ok⟩
  | jj + 2 => fun h1 _ => by cases jj <;> cases h1

set_option maxRecDepth 20000 in
theorem xV_judge {g0 : mv_G} {res : List mv_V × H2} (o0 : Nat) (v1 : Int32) (h : H2) (hh : fV_judge o0 v1 h = some res) : mv_X vw2 mdV_judge 5 0 0 none g0 res 0 [(0, Sum.inr (7, o0)), (1, Sum.inl (Value.int v1))] [] h 0 0 := by
  refine mv_blkX ax2 (GV_judge) (by decide) kV_judge (fun pc lv st h ce sl hh => ?_) ((eV_judge  o0 v1 h).trans hh)
  cases hh

theorem mV_judge (o0 : Nat) (v1 : Int32) (h : H2) (vs : List mv_V) (h' : H2) (hh : fV_judge o0 v1 h = some (vs, h')) : mv_Met vw2 5 0 0 mdV_judge [Sum.inr (7, o0), Sum.inl (Value.int v1)] h vs h' :=
  mv_Met_of (by decide +kernel) (Nat.le_of_ble_eq_true rfl) (xV_judge o0 v1 h hh)
set_option maxRecDepth 100000 in
theorem kV_minds : mv_tok mdV_minds nV_minds tV_minds = true := by decide +kernel
set_option maxRecDepth 100000 in
set_option maxHeartbeats 1000000 in
theorem eV_minds_b105 (q105 : Nat → Int32 → Int32 → Int32 → Nat → Int32 → H2 → O2) (o0 : Nat) (v2 : Int32) (v3 : Int32) (v4 : Int32) (o5 : Nat) (v6 : Int32) (h : H2) : mv_blk rI2 rR2 ln2 wI2 wR2 nw2 cp2 bod none tV_minds gV_minds 0 0 [105] (fun pc lv st h ce sl => mv_gd (Nat.beq ce 0 && Nat.beq sl 0) (cond (Nat.beq pc 105) (mv_gR 0 7 lv fun o0 => mv_gI 2 lv fun v2 => mv_gI 3 lv fun v3 => mv_gI 4 lv fun v4 => mv_gR 5 4 lv fun o5 => mv_gI 6 lv fun v6 => mv_sE st (q105 o0 v2 v3 v4 o5 v6 h)) (none))) 400 (mv_seek 105 tV_minds) [(0, Sum.inr (7, o0)), (2, Sum.inl (Value.int v2)), (3, Sum.inl (Value.int v3)), (4, Sum.inl (Value.int v4)), (5, Sum.inr (4, o5)), (6, Sum.inl (Value.int v6))] [] h 0 0 = (
  if v4 ≤ v6 then (
    some ([Sum.inl (Value.int v4)], h))
  else
  mv_rI (fS_read o5 (v2 + v6) h) fun r2 h1 =>
  mv_rV (fM_deepen 0 (v3 + v6) r2 h1) fun h3 =>
  mv_bi (v6 + (nI 1)) fun x4 =>
  q105 o0 v2 v3 v4 o5 x4 h3) := rfl
set_option maxRecDepth 100000 in
set_option maxHeartbeats 1000000 in
theorem eV_minds (q105 : Nat → Int32 → Int32 → Int32 → Nat → Int32 → H2 → O2) (o0 : Nat) (v1 : Int32) (v2 : Int32) (v3 : Int32) (v4 : Int32) (h : H2) : mv_blk rI2 rR2 ln2 wI2 wR2 nw2 cp2 bod none tV_minds gV_minds 0 0 [105] (fun pc lv st h ce sl => mv_gd (Nat.beq ce 0 && Nat.beq sl 0) (cond (Nat.beq pc 105) (mv_gR 0 7 lv fun o0 => mv_gI 2 lv fun v2 => mv_gI 3 lv fun v3 => mv_gI 4 lv fun v4 => mv_gR 5 4 lv fun o5 => mv_gI 6 lv fun v6 => mv_sE st (q105 o0 v2 v3 v4 o5 v6 h)) (none))) 400 (mv_seek 0 tV_minds) [(0, Sum.inr (7, o0)), (1, Sum.inl (Value.int v1)), (2, Sum.inl (Value.int v2)), (3, Sum.inl (Value.int v3)), (4, Sum.inl (Value.int v4))] [] h 0 0 = (
  mv_rI (fV_isSheet v1 h) fun r2 h1 =>
  if r2 = 0 then (
    some ([Sum.inl (Value.int (-(nI 1)))], h1))
  else
  mv_rI (fM_has 0 v3 h1) fun r4 h3 =>
  if r4 = 0 then (
    some ([Sum.inl (Value.int (-(nI 1)))], h3))
  else
  mv_rI (fV_isIn v4 (nI 0) (nI 8) h3) fun r6 h5 =>
  if r6 = 0 then (
    some ([Sum.inl (Value.int (-(nI 1)))], h5))
  else
  if v4 ≤ ((rI2 h5 2 0 9) - v3) then (
    mv_gd (mv_inb v1 4) <|
    mv_el (sht2 h5 v1.toNatClampNeg) (
      some ([Sum.inl (Value.int (-(nI 11)))], h5)) fun r7 =>
    if (rI2 h5 4 r7 0) = 0 then (
      mv_rI (fS_size r7 h5) fun r9 h8 =>
      mv_rI (fV_isIn v2 (nI 0) r9 h8) fun r11 h10 =>
      if r11 = 0 then (
        some ([Sum.inl (Value.int (-(nI 12)))], h10))
      else
      mv_rI (fS_size r7 h10) fun r13 h12 =>
      if v4 ≤ (r13 - v2) then (
        mv_bi (nI 0) fun x14 =>
        q105 o0 v2 v3 v4 r7 x14 h12)
      else
      some ([Sum.inl (Value.int (-(nI 12)))], h12))
    else
    some ([Sum.inl (Value.int (-(nI 13)))], h5))
  else
  some ([Sum.inl (Value.int (-(nI 1)))], h5)) := rfl
theorem GV_minds : ∀ (j : Nat) (C : mv_C H2) (md' : mv_MD × Bool), mv_nth j gV_minds = some C → mv_nth j nV_minds = some md' → ∃ n', n' + 1 ≤ 3 ∧ mv_Cal vw2 n' md' C := fun j C md' => match j with
  | 0 => fun h1 h2 => by
    obtain rfl := Option.some.inj h1
    obtain rfl := Option.some.inj h2
    exact ⟨2, by decide, cV_isSheet_ok⟩
  | 1 => fun h1 h2 => by
    obtain rfl := Option.some.inj h1
    obtain rfl := Option.some.inj h2
    exact ⟨2, by decide, cM_has_ok⟩
  | 2 => fun h1 h2 => by
    obtain rfl := Option.some.inj h1
    obtain rfl := Option.some.inj h2
    exact ⟨1, by decide, cV_isIn_ok⟩
  | 3 => fun h1 h2 => by
    obtain rfl := Option.some.inj h1
    obtain rfl := Option.some.inj h2
    exact ⟨1, by decide, cS_size_ok⟩
  | 4 => fun h1 h2 => by
    obtain rfl := Option.some.inj h1
    obtain rfl := Option.some.inj h2
    exact ⟨1, by decide, cS_read_ok⟩
  | 5 => fun h1 h2 => by
    obtain rfl := Option.some.inj h1
    obtain rfl := Option.some.inj h2
    exact ⟨2, by decide, cM_deepen_ok⟩
  | jj + 6 => fun h1 _ => by cases jj <;> cases h1

set_option maxRecDepth 20000 in
theorem xV_minds_b105 {g0 : mv_G} {res : List mv_V × H2} : ∀ (n : Nat) (o0 : Nat) (v2 : Int32) (v3 : Int32) (v4 : Int32) (o5 : Nat) (v6 : Int32) (h : H2), fV_minds_b105 n o0 v2 v3 v4 o5 v6 h = some res → mv_X vw2 mdV_minds 3 0 0 none g0 res 105 [(0, Sum.inr (7, o0)), (2, Sum.inl (Value.int v2)), (3, Sum.inl (Value.int v3)), (4, Sum.inl (Value.int v4)), (5, Sum.inr (4, o5)), (6, Sum.inl (Value.int v6))] [] h 0 0 := by
  intro n
  induction n with
  | zero => intro o0 v2 v3 v4 o5 v6 h hh; cases hh
  | succ n ih =>
    intro o0 v2 v3 v4 o5 v6 h hh
    refine mv_blkX ax2 (GV_minds) (by decide) kV_minds (fun pc lv st h ce sl hh => ?_) ((eV_minds_b105 (fV_minds_b105 n) o0 v2 v3 v4 o5 v6 h).trans hh)
    obtain ⟨hg, hh1⟩ := mv_gd_some hh
    obtain ⟨rfl, rfl⟩ := mv_z2 hg
    rcases mv_cond_some hh1 with ⟨hb, hh2⟩ | ⟨hb, hh3⟩
    · obtain rfl := Nat.eq_of_beq_eq_true hb
      obtain ⟨o0, m0, hh4⟩ := mv_gR_some hh2
      obtain ⟨v2, m1, hh5⟩ := mv_gI_some hh4
      obtain ⟨v3, m2, hh6⟩ := mv_gI_some hh5
      obtain ⟨v4, m3, hh7⟩ := mv_gI_some hh6
      obtain ⟨o5, m4, hh8⟩ := mv_gR_some hh7
      obtain ⟨v6, m5, hh9⟩ := mv_gI_some hh8
      obtain ⟨rfl, hh10⟩ := mv_sE_some hh9
      exact (ih o0 v2 v3 v4 o5 v6 h hh10).sub (List.forall_mem_cons.mpr ⟨m0, (List.forall_mem_cons.mpr ⟨m1, (List.forall_mem_cons.mpr ⟨m2, (List.forall_mem_cons.mpr ⟨m3, (List.forall_mem_cons.mpr ⟨m4, (List.forall_mem_cons.mpr ⟨m5, (fun q hq => by cases hq)⟩)⟩)⟩)⟩)⟩)⟩)
    cases hh3

set_option maxRecDepth 20000 in
theorem xV_minds {g0 : mv_G} {res : List mv_V × H2} (o0 : Nat) (v1 : Int32) (v2 : Int32) (v3 : Int32) (v4 : Int32) (h : H2) (hh : fV_minds o0 v1 v2 v3 v4 h = some res) : mv_X vw2 mdV_minds 3 0 0 none g0 res 0 [(0, Sum.inr (7, o0)), (1, Sum.inl (Value.int v1)), (2, Sum.inl (Value.int v2)), (3, Sum.inl (Value.int v3)), (4, Sum.inl (Value.int v4))] [] h 0 0 := by
  refine mv_blkX ax2 (GV_minds) (by decide) kV_minds (fun pc lv st h ce sl hh => ?_) ((eV_minds (fV_minds_b105 1000) o0 v1 v2 v3 v4 h).trans hh)
  obtain ⟨hg, hh1⟩ := mv_gd_some hh
  obtain ⟨rfl, rfl⟩ := mv_z2 hg
  rcases mv_cond_some hh1 with ⟨hb, hh2⟩ | ⟨hb, hh3⟩
  · obtain rfl := Nat.eq_of_beq_eq_true hb
    obtain ⟨o0, m0, hh4⟩ := mv_gR_some hh2
    obtain ⟨v2, m1, hh5⟩ := mv_gI_some hh4
    obtain ⟨v3, m2, hh6⟩ := mv_gI_some hh5
    obtain ⟨v4, m3, hh7⟩ := mv_gI_some hh6
    obtain ⟨o5, m4, hh8⟩ := mv_gR_some hh7
    obtain ⟨v6, m5, hh9⟩ := mv_gI_some hh8
    obtain ⟨rfl, hh10⟩ := mv_sE_some hh9
    exact (xV_minds_b105 1000 o0 v2 v3 v4 o5 v6 h hh10).sub (List.forall_mem_cons.mpr ⟨m0, (List.forall_mem_cons.mpr ⟨m1, (List.forall_mem_cons.mpr ⟨m2, (List.forall_mem_cons.mpr ⟨m3, (List.forall_mem_cons.mpr ⟨m4, (List.forall_mem_cons.mpr ⟨m5, (fun q hq => by cases hq)⟩)⟩)⟩)⟩)⟩)⟩)
  cases hh3

theorem mV_minds (o0 : Nat) (v1 : Int32) (v2 : Int32) (v3 : Int32) (v4 : Int32) (h : H2) (vs : List mv_V) (h' : H2) (hh : fV_minds o0 v1 v2 v3 v4 h = some (vs, h')) : mv_Met vw2 3 0 0 mdV_minds [Sum.inr (7, o0), Sum.inl (Value.int v1), Sum.inl (Value.int v2), Sum.inl (Value.int v3), Sum.inl (Value.int v4)] h vs h' :=
  mv_Met_of (by decide +kernel) (Nat.le_of_ble_eq_true rfl) (xV_minds o0 v1 v2 v3 v4 h hh)
