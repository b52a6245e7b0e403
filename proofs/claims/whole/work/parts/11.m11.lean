set_option maxRecDepth 100000 in
theorem kV_isKind : mv_tok mdV_isKind nV_isKind tV_isKind = true := by decide +kernel
set_option maxRecDepth 100000 in
set_option maxHeartbeats 1000000 in
theorem eV_isKind (v0 : Int32) (h : H2) : mv_blk rI2 rR2 ln2 wI2 wR2 nw2 cp2 bod none tV_isKind gV_isKind 0 0 [] (fun _ _ _ _ _ _ => none) 400 (mv_seek 0 tV_isKind) [(0, Sum.inl (Value.int v0))] [] h 0 0 = (
  mv_rI (fV_isIn v0 (nI 0) (nI 5) h) fun r2 h1 =>
  mv_gd (decide (r2 = nI 0) || decide (r2 = nI 1)) <| some ([Sum.inl (Value.int r2)], h1)) := rfl
theorem GV_isKind : ∀ (j : Nat) (C : mv_C H2) (md' : mv_MD × Bool), mv_nth j gV_isKind = some C → mv_nth j nV_isKind = some md' → ∃ n', n' + 1 ≤ 2 ∧ mv_Cal vw2 n' md' C := fun j C md' => match j with
  | 0 => fun h1 h2 => by
    obtain rfl := Option.some.inj h1
    obtain rfl := Option.some.inj h2
    exact ⟨1, by decide, cV_isIn_ok⟩
  | jj + 1 => fun h1 _ => by cases jj <;> cases h1

set_option maxRecDepth 20000 in
theorem xV_isKind {g0 : mv_G} {res : List mv_V × H2} (v0 : Int32) (h : H2) (hh : fV_isKind v0 h = some res) : mv_X vw2 mdV_isKind 2 0 0 none g0 res 0 [(0, Sum.inl (Value.int v0))] [] h 0 0 := by
  refine mv_blkX ax2 (GV_isKind) (by decide) kV_isKind (fun pc lv st h ce sl hh => ?_) ((eV_isKind  v0 h).trans hh)
  cases hh

theorem mV_isKind (v0 : Int32) (h : H2) (vs : List mv_V) (h' : H2) (hh : fV_isKind v0 h = some (vs, h')) : mv_Met vw2 2 0 0 mdV_isKind [Sum.inl (Value.int v0)] h vs h' :=
  mv_Met_of (by decide +kernel) (Nat.le_of_ble_eq_true rfl) (xV_isKind v0 h hh)
theorem cV_isKind_ok : mv_Cal vw2 2 (mdV_isKind, false) ((0, 0), cV_isKind) := by
  intro as h k res hh
  change cV_isKind as h k = some res at hh
  unfold cV_isKind at hh
  split at hh
  · obtain ⟨x, h', h1, h9⟩ := mv_rI_some hh
    exact ⟨_, _, h9, (by first | decide | exact Nat.le_refl _ | exact Nat.zero_le _), (fun h => by cases h), (mV_isKind _ h _ _ h1)⟩
  · cases hh

set_option maxRecDepth 100000 in
theorem kV_cloth : mv_tok mdV_cloth nV_cloth tV_cloth = true := by decide +kernel
set_option maxRecDepth 100000 in
set_option maxHeartbeats 1000000 in
theorem eV_cloth (o0 : Nat) (v1 : Int32) (h : H2) : mv_blk rI2 rR2 ln2 wI2 wR2 nw2 cp2 bod none tV_cloth gV_cloth 0 0 [] (fun _ _ _ _ _ _ => none) 400 (mv_seek 0 tV_cloth) [(0, Sum.inr (7, o0)), (1, Sum.inl (Value.int v1))] [] h 0 0 = (
  mv_rI (fV_isKind v1 h) fun r2 h1 =>
  if r2 = 0 then (
    some ([Sum.inl (Value.int (-(nI 1)))], h1))
  else
  if (rI2 h1 2 0 9) < (nI 8) then (
    mv_rI (fM_addCloth 0 v1 h1) fun r4 h3 =>
    some ([Sum.inl (Value.int r4)], h3))
  else
  some ([Sum.inl (Value.int (-(nI 2)))], h1)) := rfl
theorem GV_cloth : ∀ (j : Nat) (C : mv_C H2) (md' : mv_MD × Bool), mv_nth j gV_cloth = some C → mv_nth j nV_cloth = some md' → ∃ n', n' + 1 ≤ 3 ∧ mv_Cal vw2 n' md' C := fun j C md' => match j with
  | 0 => fun h1 h2 => by
    obtain rfl := Option.some.inj h1
    obtain rfl := Option.some.inj h2
    exact ⟨2, by decide, cV_isKind_ok⟩
  | 1 => fun h1 h2 => by
    obtain rfl := Option.some.inj h1
    obtain rfl := Option.some.inj h2
    exact ⟨1, by decide, cM_addCloth_ok⟩
  | jj + 2 => fun h1 _ => by cases jj <;> cases h1

set_option maxRecDepth 20000 in
theorem xV_cloth {g0 : mv_G} {res : List mv_V × H2} (o0 : Nat) (v1 : Int32) (h : H2) (hh : fV_cloth o0 v1 h = some res) : mv_X vw2 mdV_cloth 3 0 0 none g0 res 0 [(0, Sum.inr (7, o0)), (1, Sum.inl (Value.int v1))] [] h 0 0 := by
  refine mv_blkX ax2 (GV_cloth) (by decide) kV_cloth (fun pc lv st h ce sl hh => ?_) ((eV_cloth  o0 v1 h).trans hh)
  cases hh

theorem mV_cloth (o0 : Nat) (v1 : Int32) (h : H2) (vs : List mv_V) (h' : H2) (hh : fV_cloth o0 v1 h = some (vs, h')) : mv_Met vw2 3 0 0 mdV_cloth [Sum.inr (7, o0), Sum.inl (Value.int v1)] h vs h' :=
  mv_Met_of (by decide +kernel) (Nat.le_of_ble_eq_true rfl) (xV_cloth o0 v1 h hh)
set_option maxRecDepth 100000 in
theorem kV_of : mv_tok mdV_of nV_of tV_of = true := by decide +kernel
set_option maxRecDepth 100000 in
set_option maxHeartbeats 1000000 in
theorem eV_of (o0 : Nat) (v1 : Int32) (v2 : Int32) (h : H2) : mv_blk rI2 rR2 ln2 wI2 wR2 nw2 cp2 bod none tV_of gV_of 0 0 [] (fun _ _ _ _ _ _ => none) 400 (mv_seek 0 tV_of) [(0, Sum.inr (7, o0)), (1, Sum.inl (Value.int v1)), (2, Sum.inl (Value.int v2))] [] h 0 0 = (
  mv_rI (fM_has 0 v1 h) fun r2 h1 =>
  if r2 = 0 then (
    some ([Sum.inl (Value.int (-(nI 1)))], h1))
  else
  if v2 = nI 0 then (
    mv_gd (mv_inb v1 8) <|
    some ([Sum.inl (Value.int (rI2 h1 304 0 v1.toNatClampNeg))], h1))
  else
  if v2 = nI 1 then (
    mv_gd (mv_inb v1 8) <|
    some ([Sum.inl (Value.int ((nI 1) + (rI2 h1 305 0 v1.toNatClampNeg)))], h1))
  else
  if v2 = nI 2 then (
    mv_gd (mv_inb v1 8) <|
    some ([Sum.inl (Value.int (rI2 h1 306 0 v1.toNatClampNeg))], h1))
  else
  if v2 = nI 3 then (
    mv_gd (mv_inb v1 8) <|
    some ([Sum.inl (Value.int (rI2 h1 307 0 v1.toNatClampNeg))], h1))
  else
  if v2 = nI 4 then (
    mv_gd (mv_inb v1 8) <|
    some ([Sum.inl (Value.int (rI2 h1 308 0 v1.toNatClampNeg))], h1))
  else
  some ([Sum.inl (Value.int (-(nI 1)))], h1)) := rfl
theorem GV_of : ∀ (j : Nat) (C : mv_C H2) (md' : mv_MD × Bool), mv_nth j gV_of = some C → mv_nth j nV_of = some md' → ∃ n', n' + 1 ≤ 3 ∧ mv_Cal vw2 n' md' C := fun j C md' => match j with
  | 0 => fun h1 h2 => by
    obtain rfl := Option.some.inj h1
    obtain rfl := Option.some.inj h2
    exact ⟨2, by decide, cM_has_ok⟩
  | jj + 1 => fun h1 _ => by cases jj <;> cases h1

set_option maxRecDepth 20000 in
theorem xV_of {g0 : mv_G} {res : List mv_V × H2} (o0 : Nat) (v1 : Int32) (v2 : Int32) (h : H2) (hh : fV_of o0 v1 v2 h = some res) : mv_X vw2 mdV_of 3 0 0 none g0 res 0 [(0, Sum.inr (7, o0)), (1, Sum.inl (Value.int v1)), (2, Sum.inl (Value.int v2))] [] h 0 0 := by
  refine mv_blkX ax2 (GV_of) (by decide) kV_of (fun pc lv st h ce sl hh => ?_) ((eV_of  o0 v1 v2 h).trans hh)
  cases hh

theorem mV_of (o0 : Nat) (v1 : Int32) (v2 : Int32) (h : H2) (vs : List mv_V) (h' : H2) (hh : fV_of o0 v1 v2 h = some (vs, h')) : mv_Met vw2 3 0 0 mdV_of [Sum.inr (7, o0), Sum.inl (Value.int v1), Sum.inl (Value.int v2)] h vs h' :=
  mv_Met_of (by decide +kernel) (Nat.le_of_ble_eq_true rfl) (xV_of o0 v1 v2 h hh)
set_option maxRecDepth 100000 in
theorem kV_does : mv_tok mdV_does nV_does tV_does = true := by decide +kernel
set_option maxRecDepth 100000 in
set_option maxHeartbeats 1000000 in
theorem eV_does (o0 : Nat) (v1 : Int32) (v2 : Int32) (v3 : Int32) (h : H2) : mv_blk rI2 rR2 ln2 wI2 wR2 nw2 cp2 bod none tV_does gV_does 0 0 [] (fun _ _ _ _ _ _ => none) 400 (mv_seek 0 tV_does) [(0, Sum.inr (7, o0)), (1, Sum.inl (Value.int v1)), (2, Sum.inl (Value.int v2)), (3, Sum.inl (Value.int v3))] [] h 0 0 = (
  mv_rI (fM_has 0 v1 h) fun r2 h1 =>
  if r2 = 0 then (
    some ([Sum.inl (Value.int (-(nI 1)))], h1))
  else
  mv_rI (fV_isVat v2 h1) fun r4 h3 =>
  if r4 = 0 then (
    some ([Sum.inl (Value.int (-(nI 1)))], h3))
  else
  if v3 = nI 0 then (
    mv_rI (fM_takes 0 v1 v2 h3) fun r6 h5 =>
    some ([Sum.inl (Value.int ((nI 1000) + r6))], h5))
  else
  if v3 = nI 1 then (
    mv_rI (fM_fights 0 v1 v2 h3) fun r8 h7 =>
    some ([Sum.inl (Value.int ((nI 1000) + r8))], h7))
  else
  if v3 = nI 2 then (
    mv_rI (fM_fades 0 v1 h3) fun r10 h9 =>
    some ([Sum.inl (Value.int ((nI 1000) + r10))], h9))
  else
  some ([Sum.inl (Value.int (-(nI 1)))], h3)) := rfl
theorem GV_does : ∀ (j : Nat) (C : mv_C H2) (md' : mv_MD × Bool), mv_nth j gV_does = some C → mv_nth j nV_does = some md' → ∃ n', n' + 1 ≤ 3 ∧ mv_Cal vw2 n' md' C := fun j C md' => match j with
  | 0 => fun h1 h2 => by
    obtain rfl := Option.some.inj h1
    obtain rfl := Option.some.inj h2
    exact ⟨2, by decide, cM_has_ok⟩
  | 1 => fun h1 h2 => by
    obtain rfl := Option.some.inj h1
    obtain rfl := Option.some.inj h2
    exact ⟨2, by decide, cV_isVat_ok⟩
  | 2 => fun h1 h2 => by
    obtain rfl := Option.some.inj h1
    obtain rfl := Option.some.inj h2
    exact ⟨1, by decide, cM_takes_ok⟩
  | 3 => fun h1 h2 => by
    obtain rfl := Option.some.inj h1
    obtain rfl := Option.some.inj h2
    exact ⟨1, by decide, cM_fights_ok⟩
  | 4 => fun h1 h2 => by
    obtain rfl := Option.some.inj h1
    obtain rfl := Option.some.inj h2
    exact ⟨1, by decide, cM_fades_ok⟩
  | jj + 5 => fun h1 _ => by cases jj <;> cases h1

set_option maxRecDepth 20000 in
theorem xV_does {g0 : mv_G} {res : List mv_V × H2} (o0 : Nat) (v1 : Int32) (v2 : Int32) (v3 : Int32) (h : H2) (hh : fV_does o0 v1 v2 v3 h = some res) : mv_X vw2 mdV_does 3 0 0 none g0 res 0 [(0, Sum.inr (7, o0)), (1, Sum.inl (Value.int v1)), (2, Sum.inl (Value.int v2)), (3, Sum.inl (Value.int v3))] [] h 0 0 := by
  refine mv_blkX ax2 (GV_does) (by decide) kV_does (fun pc lv st h ce sl hh => ?_) ((eV_does  o0 v1 v2 v3 h).trans hh)
  cases hh

theorem mV_does (o0 : Nat) (v1 : Int32) (v2 : Int32) (v3 : Int32) (h : H2) (vs : List mv_V) (h' : H2) (hh : fV_does o0 v1 v2 v3 h = some (vs, h')) : mv_Met vw2 3 0 0 mdV_does [Sum.inr (7, o0), Sum.inl (Value.int v1), Sum.inl (Value.int v2), Sum.inl (Value.int v3)] h vs h' :=
  mv_Met_of (by decide +kernel) (Nat.le_of_ble_eq_true rfl) (xV_does o0 v1 v2 v3 h hh)
set_option maxRecDepth 100000 in
theorem kV_mind : mv_tok mdV_mind nV_mind tV_mind = true := by decide +kernel
set_option maxRecDepth 100000 in
set_option maxHeartbeats 1000000 in
theorem eV_mind (o0 : Nat) (v1 : Int32) (v2 : Int32) (h : H2) : mv_blk rI2 rR2 ln2 wI2 wR2 nw2 cp2 bod none tV_mind gV_mind 0 0 [] (fun _ _ _ _ _ _ => none) 400 (mv_seek 0 tV_mind) [(0, Sum.inr (7, o0)), (1, Sum.inl (Value.int v1)), (2, Sum.inl (Value.int v2))] [] h 0 0 = (
  mv_rI (fM_has 0 v1 h) fun r2 h1 =>
  if r2 = 0 then (
    some ([Sum.inl (Value.int (-(nI 1)))], h1))
  else
  mv_rI (fV_isKind v2 h1) fun r4 h3 =>
  if r4 = 0 then (
    some ([Sum.inl (Value.int (-(nI 1)))], h3))
  else
  mv_gd (mv_inb v1 8) <|
  mv_bi (rI2 h3 304 0 v1.toNatClampNeg) fun x5 =>
  mv_gd (mv_inb v1 8) <|
  mv_bh (wI2 h3 304 0 v1.toNatClampNeg v2) fun h6 =>
  some ([Sum.inl (Value.int x5)], h6)) := rfl
theorem GV_mind : ∀ (j : Nat) (C : mv_C H2) (md' : mv_MD × Bool), mv_nth j gV_mind = some C → mv_nth j nV_mind = some md' → ∃ n', n' + 1 ≤ 3 ∧ mv_Cal vw2 n' md' C := fun j C md' => match j with
  | 0 => fun h1 h2 => by
    obtain rfl := Option.some.inj h1
    obtain rfl := Option.some.inj h2
    exact ⟨2, by decide, cM_has_ok⟩
  | 1 => fun h1 h2 => by
    obtain rfl := Option.some.inj h1
    obtain rfl := Option.some.inj h2
    exact ⟨2, by decide, cV_isKind_ok⟩
  | jj + 2 => fun h1 _ => by cases jj <;> cases h1

set_option maxRecDepth 20000 in
theorem xV_mind {g0 : mv_G} {res : List mv_V × H2} (o0 : Nat) (v1 : Int32) (v2 : Int32) (h : H2) (hh : fV_mind o0 v1 v2 h = some res) : mv_X vw2 mdV_mind 3 0 0 none g0 res 0 [(0, Sum.inr (7, o0)), (1, Sum.inl (Value.int v1)), (2, Sum.inl (Value.int v2))] [] h 0 0 := by
  refine mv_blkX ax2 (GV_mind) (by decide) kV_mind (fun pc lv st h ce sl hh => ?_) ((eV_mind  o0 v1 v2 h).trans hh)
  cases hh

theorem mV_mind (o0 : Nat) (v1 : Int32) (v2 : Int32) (h : H2) (vs : List mv_V) (h' : H2) (hh : fV_mind o0 v1 v2 h = some (vs, h')) : mv_Met vw2 3 0 0 mdV_mind [Sum.inr (7, o0), Sum.inl (Value.int v1), Sum.inl (Value.int v2)] h vs h' :=
  mv_Met_of (by decide +kernel) (Nat.le_of_ble_eq_true rfl) (xV_mind o0 v1 v2 h hh)
set_option maxRecDepth 100000 in
theorem kV_isPurpose : mv_tok mdV_isPurpose nV_isPurpose tV_isPurpose = true := by decide +kernel
set_option maxRecDepth 100000 in
set_option maxHeartbeats 1000000 in
theorem eV_isPurpose (v0 : Int32) (h : H2) : mv_blk rI2 rR2 ln2 wI2 wR2 nw2 cp2 bod none tV_isPurpose gV_isPurpose 0 0 [] (fun _ _ _ _ _ _ => none) 400 (mv_seek 0 tV_isPurpose) [(0, Sum.inl (Value.int v0))] [] h 0 0 = (
  mv_rI (fV_isIn v0 (nI 0) (nI 9) h) fun r2 h1 =>
  mv_gd (decide (r2 = nI 0) || decide (r2 = nI 1)) <| some ([Sum.inl (Value.int r2)], h1)) := rfl
theorem GV_isPurpose : ∀ (j : Nat) (C : mv_C H2) (md' : mv_MD × Bool), mv_nth j gV_isPurpose = some C → mv_nth j nV_isPurpose = some md' → ∃ n', n' + 1 ≤ 2 ∧ mv_Cal vw2 n' md' C := fun j C md' => match j with
  | 0 => fun h1 h2 => by
    obtain rfl := Option.some.inj h1
    obtain rfl := Option.some.inj h2
    exact ⟨1, by decide, cV_isIn_ok⟩
  | jj + 1 => fun h1 _ => by cases jj <;> cases h1

set_option maxRecDepth 20000 in
theorem xV_isPurpose {g0 : mv_G} {res : List mv_V × H2} (v0 : Int32) (h : H2) (hh : fV_isPurpose v0 h = some res) : mv_X vw2 mdV_isPurpose 2 0 0 none g0 res 0 [(0, Sum.inl (Value.int v0))] [] h 0 0 := by
  refine mv_blkX ax2 (GV_isPurpose) (by decide) kV_isPurpose (fun pc lv st h ce sl hh => ?_) ((eV_isPurpose  v0 h).trans hh)
  cases hh

theorem mV_isPurpose (v0 : Int32) (h : H2) (vs : List mv_V) (h' : H2) (hh : fV_isPurpose v0 h = some (vs, h')) : mv_Met vw2 2 0 0 mdV_isPurpose [Sum.inl (Value.int v0)] h vs h' :=
  mv_Met_of (by decide +kernel) (Nat.le_of_ble_eq_true rfl) (xV_isPurpose v0 h hh)
theorem cV_isPurpose_ok : mv_Cal vw2 2 (mdV_isPurpose, false) ((0, 0), cV_isPurpose) := by
  intro as h k res hh
  change cV_isPurpose as h k = some res at hh
  unfold cV_isPurpose at hh
  split at hh
  · obtain ⟨x, h', h1, h9⟩ := mv_rI_some hh
    exact ⟨_, _, h9, (by first | decide | exact Nat.le_refl _ | exact Nat.zero_le _), (fun h => by cases h), (mV_isPurpose _ h _ _ h1)⟩
  · cases hh

set_option maxRecDepth 100000 in
theorem kV_steep : mv_tok mdV_steep nV_steep tV_steep = true := by decide +kernel
set_option maxRecDepth 100000 in
set_option maxHeartbeats 1000000 in
theorem eV_steep_b53 (o0 : Nat) (v1 : Int32) (v2 : Int32) (v3 : Int32) (h : H2) : mv_blk rI2 rR2 ln2 wI2 wR2 nw2 cp2 bod none tV_steep gV_steep 0 0 [] (fun _ _ _ _ _ _ => none) 400 (mv_seek 53 tV_steep) [(0, Sum.inr (7, o0)), (1, Sum.inl (Value.int v1)), (2, Sum.inl (Value.int v2)), (3, Sum.inl (Value.int v3))] [] h 0 0 = (
  mv_gd (mv_inb v1 8) <|
  mv_bi (rI2 h 305 0 v1.toNatClampNeg) fun x1 =>
  mv_gd (mv_inb v1 8) <|
  mv_bh (wI2 h 305 0 v1.toNatClampNeg v2) fun h2 =>
  mv_gd (mv_inb v1 8) <|
  mv_bh (wI2 h2 306 0 v1.toNatClampNeg v3) fun h3 =>
  some ([Sum.inl (Value.int ((nI 1) + x1))], h3)) := rfl
set_option maxRecDepth 100000 in
set_option maxHeartbeats 1000000 in
theorem eV_steep_b27 (q53 : Nat → Int32 → Int32 → Int32 → H2 → O2) (o0 : Nat) (v1 : Int32) (v2 : Int32) (v3 : Int32) (vs0 : Int32) (h : H2) : mv_blk rI2 rR2 ln2 wI2 wR2 nw2 cp2 bod none tV_steep gV_steep 0 0 [53] (fun pc lv st h ce sl => mv_gd (Nat.beq ce 0 && Nat.beq sl 0) (cond (Nat.beq pc 53) (mv_gR 0 7 lv fun o0 => mv_gI 1 lv fun v1 => mv_gI 2 lv fun v2 => mv_gI 3 lv fun v3 => mv_sE st (q53 o0 v1 v2 v3 h)) (none))) 400 (mv_seek 27 tV_steep) [(0, Sum.inr (7, o0)), (1, Sum.inl (Value.int v1)), (2, Sum.inl (Value.int v2)), (3, Sum.inl (Value.int v3))] [Sum.inl (Value.int vs0)] h 0 0 = (
  mv_bi vs0 fun x1 =>
  if x1 = 0 then (
    mv_rI (fV_isPurpose v2 h) fun r3 h2 =>
    if r3 = 0 then (
      some ([Sum.inl (Value.int (-(nI 1)))], h2))
    else
    mv_rI (fV_isIn v3 (nI 1) (nI 99) h2) fun r5 h4 =>
    if r5 = 0 then (
      some ([Sum.inl (Value.int (-(nI 1)))], h4))
    else
    q53 o0 v1 v2 v3 h4)
  else
  q53 o0 v1 v2 v3 h) := rfl
set_option maxRecDepth 100000 in
set_option maxHeartbeats 1000000 in
theorem eV_steep (q27 : Nat → Int32 → Int32 → Int32 → Int32 → H2 → O2) (o0 : Nat) (v1 : Int32) (v2 : Int32) (v3 : Int32) (h : H2) : mv_blk rI2 rR2 ln2 wI2 wR2 nw2 cp2 bod none tV_steep gV_steep 0 0 [27] (fun pc lv st h ce sl => mv_gd (Nat.beq ce 0 && Nat.beq sl 0) (cond (Nat.beq pc 27) (mv_gR 0 7 lv fun o0 => mv_gI 1 lv fun v1 => mv_gI 2 lv fun v2 => mv_gI 3 lv fun v3 => mv_sI st fun vs0 st => mv_sE st (q27 o0 v1 v2 v3 vs0 h)) (none))) 400 (mv_seek 0 tV_steep) [(0, Sum.inr (7, o0)), (1, Sum.inl (Value.int v1)), (2, Sum.inl (Value.int v2)), (3, Sum.inl (Value.int v3))] [] h 0 0 = (
  mv_rI (fM_has 0 v1 h) fun r2 h1 =>
  if r2 = 0 then (
    some ([Sum.inl (Value.int (-(nI 1)))], h1))
  else
  if v2 = (-(nI 1)) then (
    if v3 = 0 then (
      q27 o0 v1 v2 v3 (nI 1) h1)
    else
    q27 o0 v1 v2 v3 (nI 0) h1)
  else
  q27 o0 v1 v2 v3 (nI 0) h1) := rfl
theorem GV_steep : ∀ (j : Nat) (C : mv_C H2) (md' : mv_MD × Bool), mv_nth j gV_steep = some C → mv_nth j nV_steep = some md' → ∃ n', n' + 1 ≤ 3 ∧ mv_Cal vw2 n' md' C := fun j C md' => match j with
  | 0 => fun h1 h2 => by
    obtain rfl := Option.some.inj h1
    obtain rfl := Option.some.inj h2
    exact ⟨2, by decide, cM_has_ok⟩
  | 1 => fun h1 h2 => by
    obtain rfl := Option.some.inj h1
    obtain rfl := Option.some.inj h2
    exact ⟨2, by decide, cV_isPurpose_ok⟩
  | 2 => fun h1 h2 => by
    obtain rfl := Option.some.inj h1
    obtain rfl := Option.some.inj h2
    exact ⟨1, by decide, cV_isIn_ok⟩
  | jj + 3 => fun h1 _ => by cases jj <;> cases h1

set_option maxRecDepth 20000 in
theorem xV_steep_b53 {g0 : mv_G} {res : List mv_V × H2} (o0 : Nat) (v1 : Int32) (v2 : Int32) (v3 : Int32) (h : H2) (hh : fV_steep_b53 o0 v1 v2 v3 h = some res) : mv_X vw2 mdV_steep 3 0 0 none g0 res 53 [(0, Sum.inr (7, o0)), (1, Sum.inl (Value.int v1)), (2, Sum.inl (Value.int v2)), (3, Sum.inl (Value.int v3))] [] h 0 0 := by
  refine mv_blkX ax2 (GV_steep) (by decide) kV_steep (fun pc lv st h ce sl hh => ?_) ((eV_steep_b53  o0 v1 v2 v3 h).trans hh)
  cases hh

set_option maxRecDepth 20000 in
theorem xV_steep_b27 {g0 : mv_G} {res : List mv_V × H2} (o0 : Nat) (v1 : Int32) (v2 : Int32) (v3 : Int32) (vs0 : Int32) (h : H2) (hh : fV_steep_b27 o0 v1 v2 v3 vs0 h = some res) : mv_X vw2 mdV_steep 3 0 0 none g0 res 27 [(0, Sum.inr (7, o0)), (1, Sum.inl (Value.int v1)), (2, Sum.inl (Value.int v2)), (3, Sum.inl (Value.int v3))] [Sum.inl (Value.int vs0)] h 0 0 := by
  refine mv_blkX ax2 (GV_steep) (by decide) kV_steep (fun pc lv st h ce sl hh => ?_) ((eV_steep_b27 (fV_steep_b53) o0 v1 v2 v3 vs0 h).trans hh)
  obtain ⟨hg, hh1⟩ := mv_gd_some hh
  obtain ⟨rfl, rfl⟩ := mv_z2 hg
  rcases mv_cond_some hh1 with ⟨hb, hh2⟩ | ⟨hb, hh3⟩
  · obtain rfl := Nat.eq_of_beq_eq_true hb
    obtain ⟨o0, m0, hh4⟩ := mv_gR_some hh2
    obtain ⟨v1, m1, hh5⟩ := mv_gI_some hh4
    obtain ⟨v2, m2, hh6⟩ := mv_gI_some hh5
    obtain ⟨v3, m3, hh7⟩ := mv_gI_some hh6
    obtain ⟨rfl, hh8⟩ := mv_sE_some hh7
    exact (xV_steep_b53  o0 v1 v2 v3 h hh8).sub (List.forall_mem_cons.mpr ⟨m0, (List.forall_mem_cons.mpr ⟨m1, (List.forall_mem_cons.mpr ⟨m2, (List.forall_mem_cons.mpr ⟨m3, (fun q hq => by cases hq)⟩)⟩)⟩)⟩)
  cases hh3

set_option maxRecDepth 20000 in
theorem xV_steep {g0 : mv_G} {res : List mv_V × H2} (o0 : Nat) (v1 : Int32) (v2 : Int32) (v3 : Int32) (h : H2) (hh : fV_steep o0 v1 v2 v3 h = some res) : mv_X vw2 mdV_steep 3 0 0 none g0 res 0 [(0, Sum.inr (7, o0)), (1, Sum.inl (Value.int v1)), (2, Sum.inl (Value.int v2)), (3, Sum.inl (Value.int v3))] [] h 0 0 := by
  refine mv_blkX ax2 (GV_steep) (by decide) kV_steep (fun pc lv st h ce sl hh => ?_) ((eV_steep (fV_steep_b27) o0 v1 v2 v3 h).trans hh)
  obtain ⟨hg, hh1⟩ := mv_gd_some hh
  obtain ⟨rfl, rfl⟩ := mv_z2 hg
  rcases mv_cond_some hh1 with ⟨hb, hh2⟩ | ⟨hb, hh3⟩
  · obtain rfl := Nat.eq_of_beq_eq_true hb
    obtain ⟨o0, m0, hh4⟩ := mv_gR_some hh2
    obtain ⟨v1, m1, hh5⟩ := mv_gI_some hh4
    obtain ⟨v2, m2, hh6⟩ := mv_gI_some hh5
    obtain ⟨v3, m3, hh7⟩ := mv_gI_some hh6
    obtain ⟨vs0, sthh8, rfl, hh8⟩ := mv_sI_some hh7
    obtain ⟨rfl, hh9⟩ := mv_sE_some hh8
    exact (xV_steep_b27  o0 v1 v2 v3 vs0 h hh9).sub (List.forall_mem_cons.mpr ⟨m0, (List.forall_mem_cons.mpr ⟨m1, (List.forall_mem_cons.mpr ⟨m2, (List.forall_mem_cons.mpr ⟨m3, (fun q hq => by cases hq)⟩)⟩)⟩)⟩)
  cases hh3

theorem mV_steep (o0 : Nat) (v1 : Int32) (v2 : Int32) (v3 : Int32) (h : H2) (vs : List mv_V) (h' : H2) (hh : fV_steep o0 v1 v2 v3 h = some (vs, h')) : mv_Met vw2 3 0 0 mdV_steep [Sum.inr (7, o0), Sum.inl (Value.int v1), Sum.inl (Value.int v2), Sum.inl (Value.int v3)] h vs h' :=
  mv_Met_of (by decide +kernel) (Nat.le_of_ble_eq_true rfl) (xV_steep o0 v1 v2 v3 h hh)
set_option maxRecDepth 100000 in
theorem kV_hang : mv_tok mdV_hang nV_hang tV_hang = true := by decide +kernel
set_option maxRecDepth 100000 in
set_option maxHeartbeats 1000000 in
theorem eV_hang (o0 : Nat) (v1 : Int32) (v2 : Int32) (h : H2) : mv_blk rI2 rR2 ln2 wI2 wR2 nw2 cp2 bod none tV_hang gV_hang 0 0 [] (fun _ _ _ _ _ _ => none) 400 (mv_seek 0 tV_hang) [(0, Sum.inr (7, o0)), (1, Sum.inl (Value.int v1)), (2, Sum.inl (Value.int v2))] [] h 0 0 = (
  mv_rI (fM_has 0 v1 h) fun r2 h1 =>
  if r2 = 0 then (
    some ([Sum.inl (Value.int (-(nI 1)))], h1))
  else
  mv_rI (fV_isIn v2 (nI 0) (nI 1) h1) fun r4 h3 =>
  if r4 = 0 then (
    some ([Sum.inl (Value.int (-(nI 1)))], h3))
  else
  mv_gd (mv_inb v1 8) <|
  mv_bi (rI2 h3 307 0 v1.toNatClampNeg) fun x5 =>
  mv_gd (mv_inb v1 8) <|
  mv_bh (wI2 h3 307 0 v1.toNatClampNeg v2) fun h6 =>
  some ([Sum.inl (Value.int x5)], h6)) := rfl
theorem GV_hang : ∀ (j : Nat) (C : mv_C H2) (md' : mv_MD × Bool), mv_nth j gV_hang = some C → mv_nth j nV_hang = some md' → ∃ n', n' + 1 ≤ 3 ∧ mv_Cal vw2 n' md' C := fun j C md' => match j with
  | 0 => fun h1 h2 => by
    obtain rfl := Option.some.inj h1
    obtain rfl := Option.some.inj h2
    exact ⟨2, by decide, cM_has_ok⟩
  | 1 => fun h1 h2 => by
    obtain rfl := Option.some.inj h1
    obtain rfl := Option.some.inj h2
    exact ⟨1, by decide, cV_isIn_ok⟩
  | jj + 2 => fun h1 _ => by cases jj <;> cases h1

set_option maxRecDepth 20000 in
theorem xV_hang {g0 : mv_G} {res : List mv_V × H2} (o0 : Nat) (v1 : Int32) (v2 : Int32) (h : H2) (hh : fV_hang o0 v1 v2 h = some res) : mv_X vw2 mdV_hang 3 0 0 none g0 res 0 [(0, Sum.inr (7, o0)), (1, Sum.inl (Value.int v1)), (2, Sum.inl (Value.int v2))] [] h 0 0 := by
  refine mv_blkX ax2 (GV_hang) (by decide) kV_hang (fun pc lv st h ce sl hh => ?_) ((eV_hang  o0 v1 v2 h).trans hh)
  cases hh

theorem mV_hang (o0 : Nat) (v1 : Int32) (v2 : Int32) (h : H2) (vs : List mv_V) (h' : H2) (hh : fV_hang o0 v1 v2 h = some (vs, h')) : mv_Met vw2 3 0 0 mdV_hang [Sum.inr (7, o0), Sum.inl (Value.int v1), Sum.inl (Value.int v2)] h vs h' :=
  mv_Met_of (by decide +kernel) (Nat.le_of_ble_eq_true rfl) (xV_hang o0 v1 v2 h hh)
set_option maxRecDepth 100000 in
theorem kV_dip : mv_tok mdV_dip nV_dip tV_dip = true := by decide +kernel
set_option maxRecDepth 100000 in
set_option maxHeartbeats 1000000 in
theorem eV_dip (o0 : Nat) (v1 : Int32) (v2 : Int32) (h : H2) : mv_blk rI2 rR2 ln2 wI2 wR2 nw2 cp2 bod none tV_dip gV_dip 0 0 [] (fun _ _ _ _ _ _ => none) 400 (mv_seek 0 tV_dip) [(0, Sum.inr (7, o0)), (1, Sum.inl (Value.int v1)), (2, Sum.inl (Value.int v2))] [] h 0 0 = (
  mv_rI (fM_has 0 v1 h) fun r2 h1 =>
  if r2 = 0 then (
    some ([Sum.inl (Value.int (-(nI 1)))], h1))
  else
  mv_rI (fV_isVat v2 h1) fun r4 h3 =>
  if r4 = 0 then (
    some ([Sum.inl (Value.int (-(nI 1)))], h3))
  else
  mv_rV (fM_dipInto 0 v1 v2 h3) fun h5 =>
  mv_gd (mv_inb v1 8) <|
  some ([Sum.inl (Value.int ((nI 1) + (rI2 h5 305 0 v1.toNatClampNeg)))], h5)) := rfl
theorem GV_dip : ∀ (j : Nat) (C : mv_C H2) (md' : mv_MD × Bool), mv_nth j gV_dip = some C → mv_nth j nV_dip = some md' → ∃ n', n' + 1 ≤ 3 ∧ mv_Cal vw2 n' md' C := fun j C md' => match j with
  | 0 => fun h1 h2 => by
    obtain rfl := Option.some.inj h1
    obtain rfl := Option.some.inj h2
    exact ⟨2, by decide, cM_has_ok⟩
  | 1 => fun h1 h2 => by
    obtain rfl := Option.some.inj h1
    obtain rfl := Option.some.inj h2
    exact ⟨2, by decide, cV_isVat_ok⟩
  | 2 => fun h1 h2 => by
    obtain rfl := Option.some.inj h1
    obtain rfl := Option.some.inj h2
    exact ⟨2, by decide, cM_dipInto_ok⟩
  | jj + 3 => fun h1 _ => by cases jj <;> cases h1

set_option maxRecDepth 20000 in
theorem xV_dip {g0 : mv_G} {res : List mv_V × H2} (o0 : Nat) (v1 : Int32) (v2 : Int32) (h : H2) (hh : fV_dip o0 v1 v2 h = some res) : mv_X vw2 mdV_dip 3 0 0 none g0 res 0 [(0, Sum.inr (7, o0)), (1, Sum.inl (Value.int v1)), (2, Sum.inl (Value.int v2))] [] h 0 0 := by
  refine mv_blkX ax2 (GV_dip) (by decide) kV_dip (fun pc lv st h ce sl hh => ?_) ((eV_dip  o0 v1 v2 h).trans hh)
  cases hh

theorem mV_dip (o0 : Nat) (v1 : Int32) (v2 : Int32) (h : H2) (vs : List mv_V) (h' : H2) (hh : fV_dip o0 v1 v2 h = some (vs, h')) : mv_Met vw2 3 0 0 mdV_dip [Sum.inr (7, o0), Sum.inl (Value.int v1), Sum.inl (Value.int v2)] h vs h' :=
  mv_Met_of (by decide +kernel) (Nat.le_of_ble_eq_true rfl) (xV_dip o0 v1 v2 h hh)
set_option maxRecDepth 100000 in
theorem kV_days : mv_tok mdV_days nV_days tV_days = true := by decide +kernel
set_option maxRecDepth 100000 in
set_option maxHeartbeats 1000000 in
theorem eV_days (o0 : Nat) (v1 : Int32) (h : H2) : mv_blk rI2 rR2 ln2 wI2 wR2 nw2 cp2 bod none tV_days gV_days 0 0 [] (fun _ _ _ _ _ _ => none) 400 (mv_seek 0 tV_days) [(0, Sum.inr (7, o0)), (1, Sum.inl (Value.int v1))] [] h 0 0 = (
  mv_rI (fV_isIn v1 (nI 1) (nI 60) h) fun r2 h1 =>
  if r2 = 0 then (
    some ([Sum.inl (Value.int (-(nI 1)))], h1))
  else
  mv_rV (fM_passDays 0 v1 h1) fun h3 =>
  mv_rI (fM_allDepths 0 h3) fun r5 h4 =>
  some ([Sum.inl (Value.int r5)], h4)) := rfl
theorem GV_days : ∀ (j : Nat) (C : mv_C H2) (md' : mv_MD × Bool), mv_nth j gV_days = some C → mv_nth j nV_days = some md' → ∃ n', n' + 1 ≤ 5 ∧ mv_Cal vw2 n' md' C := fun j C md' => match j with
  | 0 => fun h1 h2 => by
    obtain rfl := Option.some.inj h1
    obtain rfl := Option.some.inj h2
    exact ⟨1, by decide, cV_isIn_ok⟩
  | 1 => fun h1 h2 => by
    obtain rfl := Option.some.inj h1
    obtain rfl := Option.some.inj h2
    exact ⟨4, by decide, cM_passDays_ok⟩
  | 2 => fun h1 h2 => by
    obtain rfl := Option.some.inj h1
    obtain rfl := Option.some.inj h2
    exact ⟨1, by decide, cM_allDepths_ok⟩
  | jj + 3 => fun h1 _ => by cases jj <;> cases h1

set_option maxRecDepth 20000 in
theorem xV_days {g0 : mv_G} {res : List mv_V × H2} (o0 : Nat) (v1 : Int32) (h : H2) (hh : fV_days o0 v1 h = some res) : mv_X vw2 mdV_days 5 0 0 none g0 res 0 [(0, Sum.inr (7, o0)), (1, Sum.inl (Value.int v1))] [] h 0 0 := by
  refine mv_blkX ax2 (GV_days) (by decide) kV_days (fun pc lv st h ce sl hh => ?_) ((eV_days  o0 v1 h).trans hh)
  cases hh

theorem mV_days (o0 : Nat) (v1 : Int32) (h : H2) (vs : List mv_V) (h' : H2) (hh : fV_days o0 v1 h = some (vs, h')) : mv_Met vw2 5 0 0 mdV_days [Sum.inr (7, o0), Sum.inl (Value.int v1)] h vs h' :=
  mv_Met_of (by decide +kernel) (Nat.le_of_ble_eq_true rfl) (xV_days o0 v1 h hh)
