set_option maxRecDepth 100000 in
theorem kV_sheet : mv_tok mdV_sheet nV_sheet tV_sheet = true := by decide +kernel
set_option maxRecDepth 100000 in
set_option maxHeartbeats 1000000 in
theorem eV_sheet (o0 : Nat) (v1 : Int32) (v2 : Int32) (v3 : Int32) (h : H2) : mv_blk rI2 rR2 ln2 wI2 wR2 nw2 cp2 bod none tV_sheet gV_sheet 2 42 [] (fun _ _ _ _ _ _ => none) 400 (mv_seek 0 tV_sheet) [(0, Sum.inr (7, o0)), (1, Sum.inl (Value.int v1)), (2, Sum.inl (Value.int v2)), (3, Sum.inl (Value.int v3))] [] h 0 0 = (
  mv_rI (fV_isSheet v1 h) fun r2 h1 =>
  if r2 = 0 then (
    some ([Sum.inl (Value.int (-(nI 1)))], h1))
  else
  mv_rI (fV_isIn v2 (-(nI 1)) (nI 3) h1) fun r4 h3 =>
  if r4 = 0 then (
    some ([Sum.inl (Value.int (-(nI 1)))], h3))
  else
  if v2 = (-(nI 1)) then (
    mv_gd (mv_inb v1 4) <|
    wR2 h3 807 0 v1.toNatClampNeg none fun h5 =>
    some ([Sum.inl (Value.int (nI 1))], h5))
  else
  if v3 ≤ (nI 40) then (
    if 0 ≤ v3 then (
      nw2 h3 4 0 fun r6 h7 =>
      mv_rV (fS_init r6 v2 v3 h7) fun h8 =>
      mv_gd (mv_inb v1 4) <|
      wR2 h8 807 0 v1.toNatClampNeg (some (4, r6)) fun h9 =>
      some ([Sum.inl (Value.int (nI 1))], h9))
    else
    some ([Sum.inl (Value.int (-(nI 14)))], h3))
  else
  some ([Sum.inl (Value.int (-(nI 1)))], h3)) := rfl
theorem GV_sheet : ∀ (j : Nat) (C : mv_C H2) (md' : mv_MD × Bool), mv_nth j gV_sheet = some C → mv_nth j nV_sheet = some md' → ∃ n', n' + 1 ≤ 3 ∧ mv_Cal vw2 n' md' C := fun j C md' => match j with
  | 0 => fun h1 h2 => by
    obtain rfl := Option.some.inj h1
    obtain rfl := Option.some.inj h2
    exact ⟨2, by decide, cV_isSheet_ok⟩
  | 1 => fun h1 h2 => by
    obtain rfl := Option.some.inj h1
    obtain rfl := Option.some.inj h2
    exact ⟨1, by decide, cV_isIn_ok⟩
  | 2 => fun h1 h2 => by
    obtain rfl := Option.some.inj h1
    obtain rfl := Option.some.inj h2
    exact ⟨1, by decide, cS_init_ok⟩
  | jj + 3 => fun h1 _ => by cases jj <;> cases h1

set_option maxRecDepth 20000 in
theorem xV_sheet {g0 : mv_G} {res : List mv_V × H2} (o0 : Nat) (v1 : Int32) (v2 : Int32) (v3 : Int32) (h : H2) (hh : fV_sheet o0 v1 v2 v3 h = some res) : mv_X vw2 mdV_sheet 3 2 42 none g0 res 0 [(0, Sum.inr (7, o0)), (1, Sum.inl (Value.int v1)), (2, Sum.inl (Value.int v2)), (3, Sum.inl (Value.int v3))] [] h 0 0 := by
  refine mv_blkX ax2 (GV_sheet) (by decide) kV_sheet (fun pc lv st h ce sl hh => ?_) ((eV_sheet  o0 v1 v2 v3 h).trans hh)
  cases hh

theorem mV_sheet (o0 : Nat) (v1 : Int32) (v2 : Int32) (v3 : Int32) (h : H2) (vs : List mv_V) (h' : H2) (hh : fV_sheet o0 v1 v2 v3 h = some (vs, h')) : mv_Met vw2 3 2 42 mdV_sheet [Sum.inr (7, o0), Sum.inl (Value.int v1), Sum.inl (Value.int v2), Sum.inl (Value.int v3)] h vs h' :=
  mv_Met_of (by decide +kernel) (Nat.le_of_ble_eq_true rfl) (xV_sheet o0 v1 v2 v3 h hh)
set_option maxRecDepth 100000 in
theorem kV_put : mv_tok mdV_put nV_put tV_put = true := by decide +kernel
set_option maxRecDepth 100000 in
set_option maxHeartbeats 1000000 in
theorem eV_put (o0 : Nat) (v1 : Int32) (v2 : Int32) (v3 : Int32) (h : H2) : mv_blk rI2 rR2 ln2 wI2 wR2 nw2 cp2 bod none tV_put gV_put 0 0 [] (fun _ _ _ _ _ _ => none) 400 (mv_seek 0 tV_put) [(0, Sum.inr (7, o0)), (1, Sum.inl (Value.int v1)), (2, Sum.inl (Value.int v2)), (3, Sum.inl (Value.int v3))] [] h 0 0 = (
  mv_rI (fV_isSheet v1 h) fun r2 h1 =>
  if r2 = 0 then (
    some ([Sum.inl (Value.int (-(nI 1)))], h1))
  else
  mv_gd (mv_inb v1 4) <|
  mv_el (sht2 h1 v1.toNatClampNeg) (
    some ([Sum.inl (Value.int (-(nI 11)))], h1)) fun r3 =>
  mv_rI (fS_has r3 v2 h1) fun r5 h4 =>
  if r5 = 0 then (
    some ([Sum.inl (Value.int (-(nI 12)))], h4))
  else
  mv_rV (fS_write r3 v2 v3 h4) fun h6 =>
  some ([Sum.inl (Value.int (nI 1))], h6)) := rfl
theorem GV_put : ∀ (j : Nat) (C : mv_C H2) (md' : mv_MD × Bool), mv_nth j gV_put = some C → mv_nth j nV_put = some md' → ∃ n', n' + 1 ≤ 3 ∧ mv_Cal vw2 n' md' C := fun j C md' => match j with
  | 0 => fun h1 h2 => by
    obtain rfl := Option.some.inj h1
    obtain rfl := Option.some.inj h2
    exact ⟨2, by decide, cV_isSheet_ok⟩
  | 1 => fun h1 h2 => by
    obtain rfl := Option.some.inj h1
    obtain rfl := Option.some.inj h2
    exact ⟨2, by decide, cS_has_ok⟩
  | 2 => fun h1 h2 => by
    obtain rfl := Option.some.inj h1
    obtain rfl := Option.some.inj h2
    exact ⟨1, by decide, cS_write_ok⟩
  | jj + 3 => fun h1 _ => by cases jj <;> cases h1

set_option maxRecDepth 20000 in
theorem xV_put {g0 : mv_G} {res : List mv_V × H2} (o0 : Nat) (v1 : Int32) (v2 : Int32) (v3 : Int32) (h : H2) (hh : fV_put o0 v1 v2 v3 h = some res) : mv_X vw2 mdV_put 3 0 0 none g0 res 0 [(0, Sum.inr (7, o0)), (1, Sum.inl (Value.int v1)), (2, Sum.inl (Value.int v2)), (3, Sum.inl (Value.int v3))] [] h 0 0 := by
  refine mv_blkX ax2 (GV_put) (by decide) kV_put (fun pc lv st h ce sl hh => ?_) ((eV_put  o0 v1 v2 v3 h).trans hh)
  cases hh

theorem mV_put (o0 : Nat) (v1 : Int32) (v2 : Int32) (v3 : Int32) (h : H2) (vs : List mv_V) (h' : H2) (hh : fV_put o0 v1 v2 v3 h = some (vs, h')) : mv_Met vw2 3 0 0 mdV_put [Sum.inr (7, o0), Sum.inl (Value.int v1), Sum.inl (Value.int v2), Sum.inl (Value.int v3)] h vs h' :=
  mv_Met_of (by decide +kernel) (Nat.le_of_ble_eq_true rfl) (xV_put o0 v1 v2 v3 h hh)
set_option maxRecDepth 100000 in
theorem kV_item : mv_tok mdV_item nV_item tV_item = true := by decide +kernel
set_option maxRecDepth 100000 in
set_option maxHeartbeats 1000000 in
theorem eV_item (o0 : Nat) (v1 : Int32) (v2 : Int32) (v3 : Int32) (h : H2) : mv_blk rI2 rR2 ln2 wI2 wR2 nw2 cp2 bod none tV_item gV_item 0 0 [] (fun _ _ _ _ _ _ => none) 400 (mv_seek 0 tV_item) [(0, Sum.inr (7, o0)), (1, Sum.inl (Value.int v1)), (2, Sum.inl (Value.int v2)), (3, Sum.inl (Value.int v3))] [] h 0 0 = (
  mv_rI (fV_isSheet v1 h) fun r2 h1 =>
  if r2 = 0 then (
    some ([Sum.inl (Value.int (-(nI 1)))], h1))
  else
  mv_rI (fV_isIn v2 (nI 0) (nI 3) h1) fun r4 h3 =>
  if r4 = 0 then (
    some ([Sum.inl (Value.int (-(nI 1)))], h3))
  else
  mv_gd (mv_inb v1 4) <|
  mv_el (sht2 h3 v1.toNatClampNeg) (
    some ([Sum.inl (Value.int (-(nI 11)))], h3)) fun r5 =>
  if (rI2 h3 4 r5 0) = v2 then (
    mv_rI (fS_has r5 v3 h3) fun r7 h6 =>
    if r7 = 0 then (
      some ([Sum.inl (Value.int (-(nI 12)))], h6))
    else
    mv_rI (fS_read r5 v3 h6) fun r9 h8 =>
    some ([Sum.inl (Value.int r9)], h8))
  else
  some ([Sum.inl (Value.int (-(nI 13)))], h3)) := rfl
theorem GV_item : ∀ (j : Nat) (C : mv_C H2) (md' : mv_MD × Bool), mv_nth j gV_item = some C → mv_nth j nV_item = some md' → ∃ n', n' + 1 ≤ 3 ∧ mv_Cal vw2 n' md' C := fun j C md' => match j with
  | 0 => fun h1 h2 => by
    obtain rfl := Option.some.inj h1
    obtain rfl := Option.some.inj h2
    exact ⟨2, by decide, cV_isSheet_ok⟩
  | 1 => fun h1 h2 => by
    obtain rfl := Option.some.inj h1
    obtain rfl := Option.some.inj h2
    exact ⟨1, by decide, cV_isIn_ok⟩
  | 2 => fun h1 h2 => by
    obtain rfl := Option.some.inj h1
    obtain rfl := Option.some.inj h2
    exact ⟨2, by decide, cS_has_ok⟩
  | 3 => fun h1 h2 => by
    obtain rfl := Option.some.inj h1
    obtain rfl := Option.some.inj h2
    exact ⟨1, by decide, cS_read_ok⟩
  | jj + 4 => fun h1 _ => by cases jj <;> cases h1

set_option maxRecDepth 20000 in
theorem xV_item {g0 : mv_G} {res : List mv_V × H2} (o0 : Nat) (v1 : Int32) (v2 : Int32) (v3 : Int32) (h : H2) (hh : fV_item o0 v1 v2 v3 h = some res) : mv_X vw2 mdV_item 3 0 0 none g0 res 0 [(0, Sum.inr (7, o0)), (1, Sum.inl (Value.int v1)), (2, Sum.inl (Value.int v2)), (3, Sum.inl (Value.int v3))] [] h 0 0 := by
  refine mv_blkX ax2 (GV_item) (by decide) kV_item (fun pc lv st h ce sl hh => ?_) ((eV_item  o0 v1 v2 v3 h).trans hh)
  cases hh

theorem mV_item (o0 : Nat) (v1 : Int32) (v2 : Int32) (v3 : Int32) (h : H2) (vs : List mv_V) (h' : H2) (hh : fV_item o0 v1 v2 v3 h = some (vs, h')) : mv_Met vw2 3 0 0 mdV_item [Sum.inr (7, o0), Sum.inl (Value.int v1), Sum.inl (Value.int v2), Sum.inl (Value.int v3)] h vs h' :=
  mv_Met_of (by decide +kernel) (Nat.le_of_ble_eq_true rfl) (xV_item o0 v1 v2 v3 h hh)
set_option maxRecDepth 100000 in
theorem kV_isShelf : mv_tok mdV_isShelf nV_isShelf tV_isShelf = true := by decide +kernel
set_option maxRecDepth 100000 in
set_option maxHeartbeats 1000000 in
theorem eV_isShelf (v0 : Int32) (h : H2) : mv_blk rI2 rR2 ln2 wI2 wR2 nw2 cp2 bod none tV_isShelf gV_isShelf 0 0 [] (fun _ _ _ _ _ _ => none) 400 (mv_seek 0 tV_isShelf) [(0, Sum.inl (Value.int v0))] [] h 0 0 = (
  mv_rI (fV_isIn v0 (nI 0) (nI 3) h) fun r2 h1 =>
  mv_gd (decide (r2 = nI 0) || decide (r2 = nI 1)) <| some ([Sum.inl (Value.int r2)], h1)) := rfl
theorem GV_isShelf : ∀ (j : Nat) (C : mv_C H2) (md' : mv_MD × Bool), mv_nth j gV_isShelf = some C → mv_nth j nV_isShelf = some md' → ∃ n', n' + 1 ≤ 2 ∧ mv_Cal vw2 n' md' C := fun j C md' => match j with
  | 0 => fun h1 h2 => by
    obtain rfl := Option.some.inj h1
    obtain rfl := Option.some.inj h2
    exact ⟨1, by decide, cV_isIn_ok⟩
  | jj + 1 => fun h1 _ => by cases jj <;> cases h1

set_option maxRecDepth 20000 in
theorem xV_isShelf {g0 : mv_G} {res : List mv_V × H2} (v0 : Int32) (h : H2) (hh : fV_isShelf v0 h = some res) : mv_X vw2 mdV_isShelf 2 0 0 none g0 res 0 [(0, Sum.inl (Value.int v0))] [] h 0 0 := by
  refine mv_blkX ax2 (GV_isShelf) (by decide) kV_isShelf (fun pc lv st h ce sl hh => ?_) ((eV_isShelf  v0 h).trans hh)
  cases hh

theorem mV_isShelf (v0 : Int32) (h : H2) (vs : List mv_V) (h' : H2) (hh : fV_isShelf v0 h = some (vs, h')) : mv_Met vw2 2 0 0 mdV_isShelf [Sum.inl (Value.int v0)] h vs h' :=
  mv_Met_of (by decide +kernel) (Nat.le_of_ble_eq_true rfl) (xV_isShelf v0 h hh)
theorem cV_isShelf_ok : mv_Cal vw2 2 (mdV_isShelf, false) ((0, 0), cV_isShelf) := by
  intro as h k res hh
  change cV_isShelf as h k = some res at hh
  unfold cV_isShelf at hh
  split at hh
  · obtain ⟨x, h', h1, h9⟩ := mv_rI_some hh
    exact ⟨_, _, h9, (by first | decide | exact Nat.le_refl _ | exact Nat.zero_le _), (fun h => by cases h), (mV_isShelf _ h _ _ h1)⟩
  · cases hh

set_option maxRecDepth 100000 in
theorem kV_shelf : mv_tok mdV_shelf nV_shelf tV_shelf = true := by decide +kernel
set_option maxRecDepth 100000 in
set_option maxHeartbeats 1000000 in
theorem eV_shelf (o0 : Nat) (v1 : Int32) (v2 : Int32) (v3 : Int32) (h : H2) : mv_blk rI2 rR2 ln2 wI2 wR2 nw2 cp2 bod none tV_shelf gV_shelf 0 0 [] (fun _ _ _ _ _ _ => none) 400 (mv_seek 0 tV_shelf) [(0, Sum.inr (7, o0)), (1, Sum.inl (Value.int v1)), (2, Sum.inl (Value.int v2)), (3, Sum.inl (Value.int v3))] [] h 0 0 = (
  mv_rI (fV_isShelf v1 h) fun r2 h1 =>
  if r2 = 0 then (
    some ([Sum.inl (Value.int (-(nI 1)))], h1))
  else
  if v2 = nI 0 then (
    mv_rI (fM_has 0 v3 h1) fun r4 h3 =>
    if r4 = 0 then (
      some ([Sum.inl (Value.int (-(nI 1)))], h3))
    else
    mv_rV (fH_holdCloth 0 v1 v3 h3) fun h5 =>
    some ([Sum.inl (Value.int (nI 1))], h5))
  else
  if v2 = nI 1 then (
    mv_rI (fV_isSheet v3 h1) fun r7 h6 =>
    if r7 = 0 then (
      some ([Sum.inl (Value.int (-(nI 1)))], h6))
    else
    mv_gd (mv_inb v3 4) <|
    mv_el (sht2 h6 v3.toNatClampNeg) (
      mv_rV (fH_holdRow_n 0 v1 h6) fun h9 =>
      some ([Sum.inl (Value.int (nI 1))], h9)) fun r8 =>
    mv_rV (fH_holdRow_r 0 v1 r8 h6) fun h10 =>
    some ([Sum.inl (Value.int (nI 1))], h10))
  else
  if v2 = nI 2 then (
    mv_rV (fH_holdRow_n 0 v1 h1) fun h11 =>
    some ([Sum.inl (Value.int (nI 1))], h11))
  else
  some ([Sum.inl (Value.int (-(nI 1)))], h1)) := rfl
theorem GV_shelf : ∀ (j : Nat) (C : mv_C H2) (md' : mv_MD × Bool), mv_nth j gV_shelf = some C → mv_nth j nV_shelf = some md' → ∃ n', n' + 1 ≤ 3 ∧ mv_Cal vw2 n' md' C := fun j C md' => match j with
  | 0 => fun h1 h2 => by
    obtain rfl := Option.some.inj h1
    obtain rfl := Option.some.inj h2
    exact ⟨2, by decide, cV_isShelf_ok⟩
  | 1 => fun h1 h2 => by
    obtain rfl := Option.some.inj h1
    obtain rfl := Option.some.inj h2
    exact ⟨2, by decide, cM_has_ok⟩
  | 2 => fun h1 h2 => by
    obtain rfl := Option.some.inj h1
    obtain rfl := Option.some.inj h2
    exact ⟨1, by decide, cH_holdCloth_ok⟩
  | 3 => fun h1 h2 => by
    obtain rfl := Option.some.inj h1
    obtain rfl := Option.some.inj h2
    exact ⟨2, by decide, cV_isSheet_ok⟩
  | 4 => fun h1 h2 => by
    obtain rfl := Option.some.inj h1
    obtain rfl := Option.some.inj h2
    exact ⟨1, by decide, cH_holdRow_ok⟩
  | jj + 5 => fun h1 _ => by cases jj <;> cases h1

set_option maxRecDepth 20000 in
theorem xV_shelf {g0 : mv_G} {res : List mv_V × H2} (o0 : Nat) (v1 : Int32) (v2 : Int32) (v3 : Int32) (h : H2) (hh : fV_shelf o0 v1 v2 v3 h = some res) : mv_X vw2 mdV_shelf 3 0 0 none g0 res 0 [(0, Sum.inr (7, o0)), (1, Sum.inl (Value.int v1)), (2, Sum.inl (Value.int v2)), (3, Sum.inl (Value.int v3))] [] h 0 0 := by
  refine mv_blkX ax2 (GV_shelf) (by decide) kV_shelf (fun pc lv st h ce sl hh => ?_) ((eV_shelf  o0 v1 v2 v3 h).trans hh)
  cases hh

theorem mV_shelf (o0 : Nat) (v1 : Int32) (v2 : Int32) (v3 : Int32) (h : H2) (vs : List mv_V) (h' : H2) (hh : fV_shelf o0 v1 v2 v3 h = some (vs, h')) : mv_Met vw2 3 0 0 mdV_shelf [Sum.inr (7, o0), Sum.inl (Value.int v1), Sum.inl (Value.int v2), Sum.inl (Value.int v3)] h vs h' :=
  mv_Met_of (by decide +kernel) (Nat.le_of_ble_eq_true rfl) (xV_shelf o0 v1 v2 v3 h hh)
set_option maxRecDepth 100000 in
theorem kV_parentKind : mv_tok mdV_parentKind nV_parentKind tV_parentKind = true := by decide +kernel
set_option maxRecDepth 100000 in
set_option maxHeartbeats 1000000 in
theorem eV_parentKind (v0 : Int32) (h : H2) : mv_blk rI2 rR2 ln2 wI2 wR2 nw2 cp2 bod none tV_parentKind gV_parentKind 0 0 [] (fun _ _ _ _ _ _ => none) 400 (mv_seek 0 tV_parentKind) [(0, Sum.inl (Value.int v0))] [] h 0 0 = (
  if v0 = nI 1 then (
    some ([Sum.inl (Value.int (nI 0))], h))
  else
  if v0 = nI 2 then (
    some ([Sum.inl (Value.int (nI 0))], h))
  else
  if v0 = nI 3 then (
    some ([Sum.inl (Value.int (nI 1))], h))
  else
  if v0 = nI 4 then (
    some ([Sum.inl (Value.int (nI 2))], h))
  else
  if v0 = nI 5 then (
    some ([Sum.inl (Value.int (nI 0))], h))
  else
  some ([Sum.inl (Value.int (-(nI 1)))], h)) := rfl
theorem GV_parentKind : ∀ (j : Nat) (C : mv_C H2) (md' : mv_MD × Bool), mv_nth j gV_parentKind = some C → mv_nth j nV_parentKind = some md' → ∃ n', n' + 1 ≤ 1 ∧ mv_Cal vw2 n' md' C := fun j C md' h1 _ => by cases j <;> cases h1

set_option maxRecDepth 20000 in
theorem xV_parentKind {g0 : mv_G} {res : List mv_V × H2} (v0 : Int32) (h : H2) (hh : fV_parentKind v0 h = some res) : mv_X vw2 mdV_parentKind 1 0 0 none g0 res 0 [(0, Sum.inl (Value.int v0))] [] h 0 0 := by
  refine mv_blkX ax2 (GV_parentKind) (by decide) kV_parentKind (fun pc lv st h ce sl hh => ?_) ((eV_parentKind  v0 h).trans hh)
  cases hh

theorem mV_parentKind (v0 : Int32) (h : H2) (vs : List mv_V) (h' : H2) (hh : fV_parentKind v0 h = some (vs, h')) : mv_Met vw2 1 0 0 mdV_parentKind [Sum.inl (Value.int v0)] h vs h' :=
  mv_Met_of (by decide +kernel) (Nat.le_of_ble_eq_true rfl) (xV_parentKind v0 h hh)
theorem cV_parentKind_ok : mv_Cal vw2 1 (mdV_parentKind, false) ((0, 0), cV_parentKind) := by
  intro as h k res hh
  change cV_parentKind as h k = some res at hh
  unfold cV_parentKind at hh
  split at hh
  · obtain ⟨x, h', h1, h9⟩ := mv_rI_some hh
    exact ⟨_, _, h9, (by first | decide | exact Nat.le_refl _ | exact Nat.zero_le _), (fun h => by cases h), (mV_parentKind _ h _ _ h1)⟩
  · cases hh

set_option maxRecDepth 100000 in
theorem kV_isUnder : mv_tok mdV_isUnder nV_isUnder tV_isUnder = true := by decide +kernel
set_option maxRecDepth 100000 in
set_option maxHeartbeats 1000000 in
theorem eV_isUnder_b4 (q4 : Int32 → Int32 → Int32 → H2 → O2) (v1 : Int32) (v2 : Int32) (v3 : Int32) (h : H2) : mv_blk rI2 rR2 ln2 wI2 wR2 nw2 cp2 bod none tV_isUnder gV_isUnder 0 0 [4] (fun pc lv st h ce sl => mv_gd (Nat.beq ce 0 && Nat.beq sl 0) (cond (Nat.beq pc 4) (mv_gI 1 lv fun v1 => mv_gI 2 lv fun v2 => mv_gI 3 lv fun v3 => mv_sE st (q4 v1 v2 v3 h)) (none))) 400 (mv_seek 4 tV_isUnder) [(1, Sum.inl (Value.int v1)), (2, Sum.inl (Value.int v2)), (3, Sum.inl (Value.int v3))] [] h 0 0 = (
  if (nI 6) ≤ v3 then (
    mv_gd (decide (nI 0 = nI 0) || decide (nI 0 = nI 1)) <| some ([Sum.inl (Value.int (nI 0))], h))
  else
  if v2 = (-(nI 1)) then (
    mv_gd (decide (nI 0 = nI 0) || decide (nI 0 = nI 1)) <| some ([Sum.inl (Value.int (nI 0))], h))
  else
  if v2 = v1 then (
    mv_gd (decide (nI 1 = nI 0) || decide (nI 1 = nI 1)) <| some ([Sum.inl (Value.int (nI 1))], h))
  else
  mv_rI (fV_parentKind v2 h) fun r2 h1 =>
  mv_bi r2 fun x3 =>
  mv_bi (v3 + (nI 1)) fun x4 =>
  q4 v1 x3 x4 h1) := rfl
set_option maxRecDepth 100000 in
set_option maxHeartbeats 1000000 in
theorem eV_isUnder (q4 : Int32 → Int32 → Int32 → H2 → O2) (v0 : Int32) (v1 : Int32) (h : H2) : mv_blk rI2 rR2 ln2 wI2 wR2 nw2 cp2 bod none tV_isUnder gV_isUnder 0 0 [4] (fun pc lv st h ce sl => mv_gd (Nat.beq ce 0 && Nat.beq sl 0) (cond (Nat.beq pc 4) (mv_gI 1 lv fun v1 => mv_gI 2 lv fun v2 => mv_gI 3 lv fun v3 => mv_sE st (q4 v1 v2 v3 h)) (none))) 400 (mv_seek 0 tV_isUnder) [(0, Sum.inl (Value.int v0)), (1, Sum.inl (Value.int v1))] [] h 0 0 = (
  mv_bi v0 fun x1 =>
  mv_bi (nI 0) fun x2 =>
  q4 v1 x1 x2 h) := rfl
theorem GV_isUnder : ∀ (j : Nat) (C : mv_C H2) (md' : mv_MD × Bool), mv_nth j gV_isUnder = some C → mv_nth j nV_isUnder = some md' → ∃ n', n' + 1 ≤ 2 ∧ mv_Cal vw2 n' md' C := fun j C md' => match j with
  | 0 => fun h1 h2 => by
    obtain rfl := Option.some.inj h1
    obtain rfl := Option.some.inj h2
    exact ⟨1, by decide, cV_parentKind_ok⟩
  | jj + 1 => fun h1 _ => by cases jj <;> cases h1

set_option maxRecDepth 20000 in
theorem xV_isUnder_b4 {g0 : mv_G} {res : List mv_V × H2} : ∀ (n : Nat) (v1 : Int32) (v2 : Int32) (v3 : Int32) (h : H2), fV_isUnder_b4 n v1 v2 v3 h = some res → mv_X vw2 mdV_isUnder 2 0 0 none g0 res 4 [(1, Sum.inl (Value.int v1)), (2, Sum.inl (Value.int v2)), (3, Sum.inl (Value.int v3))] [] h 0 0 := by
  intro n
  induction n with
  | zero => intro v1 v2 v3 h hh; cases hh
  | succ n ih =>
    intro v1 v2 v3 h hh
    refine mv_blkX ax2 (GV_isUnder) (by decide) kV_isUnder (fun pc lv st h ce sl hh => ?_) ((eV_isUnder_b4 (fV_isUnder_b4 n) v1 v2 v3 h).trans hh)
    obtain ⟨hg, hh1⟩ := mv_gd_some hh
    obtain ⟨rfl, rfl⟩ := mv_z2 hg
    rcases mv_cond_some hh1 with ⟨hb, hh2⟩ | ⟨hb, hh3⟩
    · obtain rfl := Nat.eq_of_beq_eq_true hb
      obtain ⟨v1, m0, hh4⟩ := mv_gI_some hh2
      obtain ⟨v2, m1, hh5⟩ := mv_gI_some hh4
      obtain ⟨v3, m2, hh6⟩ := mv_gI_some hh5
      obtain ⟨rfl, hh7⟩ := mv_sE_some hh6
      exact (ih v1 v2 v3 h hh7).sub (List.forall_mem_cons.mpr ⟨m0, (List.forall_mem_cons.mpr ⟨m1, (List.forall_mem_cons.mpr ⟨m2, (fun q hq => by cases hq)⟩)⟩)⟩)
    cases hh3

set_option maxRecDepth 20000 in
theorem xV_isUnder {g0 : mv_G} {res : List mv_V × H2} (v0 : Int32) (v1 : Int32) (h : H2) (hh : fV_isUnder v0 v1 h = some res) : mv_X vw2 mdV_isUnder 2 0 0 none g0 res 0 [(0, Sum.inl (Value.int v0)), (1, Sum.inl (Value.int v1))] [] h 0 0 := by
  refine mv_blkX ax2 (GV_isUnder) (by decide) kV_isUnder (fun pc lv st h ce sl hh => ?_) ((eV_isUnder (fV_isUnder_b4 1000) v0 v1 h).trans hh)
  obtain ⟨hg, hh1⟩ := mv_gd_some hh
  obtain ⟨rfl, rfl⟩ := mv_z2 hg
  rcases mv_cond_some hh1 with ⟨hb, hh2⟩ | ⟨hb, hh3⟩
  · obtain rfl := Nat.eq_of_beq_eq_true hb
    obtain ⟨v1, m0, hh4⟩ := mv_gI_some hh2
    obtain ⟨v2, m1, hh5⟩ := mv_gI_some hh4
    obtain ⟨v3, m2, hh6⟩ := mv_gI_some hh5
    obtain ⟨rfl, hh7⟩ := mv_sE_some hh6
    exact (xV_isUnder_b4 1000 v1 v2 v3 h hh7).sub (List.forall_mem_cons.mpr ⟨m0, (List.forall_mem_cons.mpr ⟨m1, (List.forall_mem_cons.mpr ⟨m2, (fun q hq => by cases hq)⟩)⟩)⟩)
  cases hh3

theorem mV_isUnder (v0 : Int32) (v1 : Int32) (h : H2) (vs : List mv_V) (h' : H2) (hh : fV_isUnder v0 v1 h = some (vs, h')) : mv_Met vw2 2 0 0 mdV_isUnder [Sum.inl (Value.int v0), Sum.inl (Value.int v1)] h vs h' :=
  mv_Met_of (by decide +kernel) (Nat.le_of_ble_eq_true rfl) (xV_isUnder v0 v1 h hh)
theorem cV_isUnder_ok : mv_Cal vw2 2 (mdV_isUnder, false) ((0, 0), cV_isUnder) := by
  intro as h k res hh
  change cV_isUnder as h k = some res at hh
  unfold cV_isUnder at hh
  split at hh
  · obtain ⟨x, h', h1, h9⟩ := mv_rI_some hh
    exact ⟨_, _, h9, (by first | decide | exact Nat.le_refl _ | exact Nat.zero_le _), (fun h => by cases h), (mV_isUnder _ _ h _ _ h1)⟩
  · cases hh

set_option maxRecDepth 100000 in
theorem kV_taken : mv_tok mdV_taken nV_taken tV_taken = true := by decide +kernel
set_option maxRecDepth 100000 in
set_option maxHeartbeats 1000000 in
theorem eV_taken_b29 (o0 : Nat) (v1 : Int32) (v2 : Int32) (h : H2) : mv_blk rI2 rR2 ln2 wI2 wR2 nw2 cp2 bod none tV_taken gV_taken 0 0 [] (fun _ _ _ _ _ _ => none) 400 (mv_seek 29 tV_taken) [(0, Sum.inr (7, o0)), (1, Sum.inl (Value.int v1)), (2, Sum.inl (Value.int v2))] [] h 0 0 = (
  mv_rQ (fH_rowOn 0 v1 h) (fun h1 =>
    mv_rI (fH_clothOn 0 v1 h1) fun r4 h3 =>
    mv_bi r4 fun x5 =>
    mv_rI (fM_has 0 x5 h3) fun r7 h6 =>
    if r7 = 0 then (
      some ([Sum.inl (Value.int (-(nI 11)))], h6))
    else
    mv_gd (mv_inb x5 8) <|
    mv_rI (fV_isUnder (rI2 h6 304 0 x5.toNatClampNeg) v2 h6) fun r9 h8 =>
    if r9 = 0 then (
      some ([Sum.inl (Value.int (-(nI 13)))], h8))
    else
    some ([Sum.inl (Value.int x5)], h8)) fun r2 h1 =>
  if (rI2 h1 4 r2 0) = (v2 - (nI 10)) then (
    mv_rI (fS_size r2 h1) fun r11 h10 =>
    some ([Sum.inl (Value.int r11)], h10))
  else
  some ([Sum.inl (Value.int (-(nI 13)))], h1)) := rfl
set_option maxRecDepth 100000 in
set_option maxHeartbeats 1000000 in
theorem eV_taken (q29 : Nat → Int32 → Int32 → H2 → O2) (o0 : Nat) (v1 : Int32) (v2 : Int32) (h : H2) : mv_blk rI2 rR2 ln2 wI2 wR2 nw2 cp2 bod none tV_taken gV_taken 0 0 [29] (fun pc lv st h ce sl => mv_gd (Nat.beq ce 0 && Nat.beq sl 0) (cond (Nat.beq pc 29) (mv_gR 0 7 lv fun o0 => mv_gI 1 lv fun v1 => mv_gI 2 lv fun v2 => mv_sE st (q29 o0 v1 v2 h)) (none))) 400 (mv_seek 0 tV_taken) [(0, Sum.inr (7, o0)), (1, Sum.inl (Value.int v1)), (2, Sum.inl (Value.int v2))] [] h 0 0 = (
  mv_rI (fV_isShelf v1 h) fun r2 h1 =>
  if r2 = 0 then (
    some ([Sum.inl (Value.int (-(nI 1)))], h1))
  else
  mv_rI (fV_isKind v2 h1) fun r4 h3 =>
  if r4 = 0 then (
    mv_rI (fV_isIn v2 (nI 10) (nI 13) h3) fun r6 h5 =>
    if r6 = 0 then (
      some ([Sum.inl (Value.int (-(nI 1)))], h5))
    else
    q29 o0 v1 v2 h5)
  else
  q29 o0 v1 v2 h3) := rfl
theorem GV_taken : ∀ (j : Nat) (C : mv_C H2) (md' : mv_MD × Bool), mv_nth j gV_taken = some C → mv_nth j nV_taken = some md' → ∃ n', n' + 1 ≤ 3 ∧ mv_Cal vw2 n' md' C := fun j C md' => match j with
  | 0 => fun h1 h2 => by
    obtain rfl := Option.some.inj h1
    obtain rfl := Option.some.inj h2
    exact ⟨2, by decide, cV_isShelf_ok⟩
  | 1 => fun h1 h2 => by
    obtain rfl := Option.some.inj h1
    obtain rfl := Option.some.inj h2
    exact ⟨2, by decide, cV_isKind_ok⟩
  | 2 => fun h1 h2 => by
    obtain rfl := Option.some.inj h1
    obtain rfl := Option.some.inj h2
    exact ⟨1, by decide, cV_isIn_ok⟩
  | 3 => fun h1 h2 => by
    obtain rfl := Option.some.inj h1
    obtain rfl := Option.some.inj h2
    exact ⟨1, by decide, cH_rowOn_ok⟩
  | 4 => fun h1 h2 => by
    obtain rfl := Option.some.inj h1
    obtain rfl := Option.some.inj h2
    exact ⟨1, by decide, cS_size_ok⟩
  | 5 => fun h1 h2 => by
    obtain rfl := Option.some.inj h1
    obtain rfl := Option.some.inj h2
    exact ⟨1, by decide, cH_clothOn_ok⟩
  | 6 => fun h1 h2 => by
    obtain rfl := Option.some.inj h1
    obtain rfl := Option.some.inj h2
    exact ⟨2, by decide, cM_has_ok⟩
  | 7 => fun h1 h2 => by
    obtain rfl := Option.some.inj h1
    obtain rfl := Option.some.inj h2
    exact ⟨2, by decide, cV_isUnder_ok⟩
  | jj + 8 => fun h1 _ => by cases jj <;> cases h1

set_option maxRecDepth 20000 in
theorem xV_taken_b29 {g0 : mv_G} {res : List mv_V × H2} (o0 : Nat) (v1 : Int32) (v2 : Int32) (h : H2) (hh : fV_taken_b29 o0 v1 v2 h = some res) : mv_X vw2 mdV_taken 3 0 0 none g0 res 29 [(0, Sum.inr (7, o0)), (1, Sum.inl (Value.int v1)), (2, Sum.inl (Value.int v2))] [] h 0 0 := by
  refine mv_blkX ax2 (GV_taken) (by decide) kV_taken (fun pc lv st h ce sl hh => ?_) ((eV_taken_b29  o0 v1 v2 h).trans hh)
  cases hh

set_option maxRecDepth 20000 in
theorem xV_taken {g0 : mv_G} {res : List mv_V × H2} (o0 : Nat) (v1 : Int32) (v2 : Int32) (h : H2) (hh : fV_taken o0 v1 v2 h = some res) : mv_X vw2 mdV_taken 3 0 0 none g0 res 0 [(0, Sum.inr (7, o0)), (1, Sum.inl (Value.int v1)), (2, Sum.inl (Value.int v2))] [] h 0 0 := by
  refine mv_blkX ax2 (GV_taken) (by decide) kV_taken (fun pc lv st h ce sl hh => ?_) ((eV_taken (fV_taken_b29) o0 v1 v2 h).trans hh)
  obtain ⟨hg, hh1⟩ := mv_gd_some hh
  obtain ⟨rfl, rfl⟩ := mv_z2 hg
  rcases mv_cond_some hh1 with ⟨hb, hh2⟩ | ⟨hb, hh3⟩
  · obtain rfl := Nat.eq_of_beq_eq_true hb
    obtain ⟨o0, m0, hh4⟩ := mv_gR_some hh2
    obtain ⟨v1, m1, hh5⟩ := mv_gI_some hh4
    obtain ⟨v2, m2, hh6⟩ := mv_gI_some hh5
    obtain ⟨rfl, hh7⟩ := mv_sE_some hh6
    exact (xV_taken_b29  o0 v1 v2 h hh7).sub (List.forall_mem_cons.mpr ⟨m0, (List.forall_mem_cons.mpr ⟨m1, (List.forall_mem_cons.mpr ⟨m2, (fun q hq => by cases hq)⟩)⟩)⟩)
  cases hh3

theorem mV_taken (o0 : Nat) (v1 : Int32) (v2 : Int32) (h : H2) (vs : List mv_V) (h' : H2) (hh : fV_taken o0 v1 v2 h = some (vs, h')) : mv_Met vw2 3 0 0 mdV_taken [Sum.inr (7, o0), Sum.inl (Value.int v1), Sum.inl (Value.int v2)] h vs h' :=
  mv_Met_of (by decide +kernel) (Nat.le_of_ble_eq_true rfl) (xV_taken o0 v1 v2 h hh)
set_option maxRecDepth 100000 in
theorem kV_act : mv_tok mdV_act nV_act tV_act = true := by decide +kernel
set_option maxRecDepth 100000 in
set_option maxHeartbeats 1000000 in
theorem eV_act (o0 : Nat) (v1 : Int32) (v2 : Int32) (v3 : Int32) (h : H2) : mv_blk rI2 rR2 ln2 wI2 wR2 nw2 cp2 bod none tV_act gV_act 0 0 [] (fun _ _ _ _ _ _ => none) 400 (mv_seek 0 tV_act) [(0, Sum.inr (7, o0)), (1, Sum.inl (Value.int v1)), (2, Sum.inl (Value.int v2)), (3, Sum.inl (Value.int v3))] [] h 0 0 = (
  mv_rV (fA_forget 0 h) fun h1 =>
  mv_rI (fV_isShelf v1 h1) fun r3 h2 =>
  if r3 = 0 then (
    some ([Sum.inl (Value.int (nI 0))], h2))
  else
  mv_rI (fV_isIn v2 (nI 0) (nI 3) h2) fun r5 h4 =>
  if r5 = 0 then (
    some ([Sum.inl (Value.int (nI 0))], h4))
  else
  mv_rI (fH_clothOn 0 v1 h4) fun r7 h6 =>
  mv_bi r7 fun x8 =>
  mv_rI (fM_has 0 x8 h6) fun r10 h9 =>
  if r10 = 0 then (
    some ([Sum.inl (Value.int (nI 0))], h9))
  else
  mv_gd (mv_inb x8 8) <|
  mv_gd (mv_inb x8 8) <|
  mv_rV (fA_hold 0 (rI2 h9 304 0 x8.toNatClampNeg) x8 ((nI 1) + (rI2 h9 305 0 x8.toNatClampNeg)) h9) fun h11 =>
  mv_rI (fA_perform 0 v2 v3 h11) fun r13 h12 =>
  some ([Sum.inl (Value.int r13)], h12)) := rfl
theorem GV_act : ∀ (j : Nat) (C : mv_C H2) (md' : mv_MD × Bool), mv_nth j gV_act = some C → mv_nth j nV_act = some md' → ∃ n', n' + 1 ≤ 105 ∧ mv_Cal vw2 n' md' C := fun j C md' => match j with
  | 0 => fun h1 h2 => by
    obtain rfl := Option.some.inj h1
    obtain rfl := Option.some.inj h2
    exact ⟨1, by decide, cA_forget_ok⟩
  | 1 => fun h1 h2 => by
    obtain rfl := Option.some.inj h1
    obtain rfl := Option.some.inj h2
    exact ⟨2, by decide, cV_isShelf_ok⟩
  | 2 => fun h1 h2 => by
    obtain rfl := Option.some.inj h1
    obtain rfl := Option.some.inj h2
    exact ⟨1, by decide, cV_isIn_ok⟩
  | 3 => fun h1 h2 => by
    obtain rfl := Option.some.inj h1
    obtain rfl := Option.some.inj h2
    exact ⟨1, by decide, cH_clothOn_ok⟩
  | 4 => fun h1 h2 => by
    obtain rfl := Option.some.inj h1
    obtain rfl := Option.some.inj h2
    exact ⟨2, by decide, cM_has_ok⟩
  | 5 => fun h1 h2 => by
    obtain rfl := Option.some.inj h1
    obtain rfl := Option.some.inj h2
    exact ⟨1, by decide, cA_hold_ok⟩
  | 6 => fun h1 h2 => by
    obtain rfl := Option.some.inj h1
    obtain rfl := Option.some.inj h2
    exact ⟨104, by decide, cA_perform_ok⟩
  | jj + 7 => fun h1 _ => by cases jj <;> cases h1

set_option maxRecDepth 20000 in
theorem xV_act {g0 : mv_G} {res : List mv_V × H2} (o0 : Nat) (v1 : Int32) (v2 : Int32) (v3 : Int32) (h : H2) (hh : fV_act o0 v1 v2 v3 h = some res) : mv_X vw2 mdV_act 105 0 0 none g0 res 0 [(0, Sum.inr (7, o0)), (1, Sum.inl (Value.int v1)), (2, Sum.inl (Value.int v2)), (3, Sum.inl (Value.int v3))] [] h 0 0 := by
  refine mv_blkX ax2 (GV_act) (by decide) kV_act (fun pc lv st h ce sl hh => ?_) ((eV_act  o0 v1 v2 v3 h).trans hh)
  cases hh

theorem mV_act (o0 : Nat) (v1 : Int32) (v2 : Int32) (v3 : Int32) (h : H2) (vs : List mv_V) (h' : H2) (hh : fV_act o0 v1 v2 v3 h = some (vs, h')) : mv_Met vw2 105 0 0 mdV_act [Sum.inr (7, o0), Sum.inl (Value.int v1), Sum.inl (Value.int v2), Sum.inl (Value.int v3)] h vs h' :=
  mv_Met_of (by decide +kernel) (Nat.le_of_ble_eq_true rfl) (xV_act o0 v1 v2 v3 h hh)
