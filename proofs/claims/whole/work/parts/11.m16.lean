set_option maxRecDepth 100000 in
theorem kN_isVat : mv_tok mdN_isVat nN_isVat tN_isVat = true := by decide +kernel
set_option maxRecDepth 100000 in
set_option maxHeartbeats 1000000 in
theorem eN_isVat (v0 : Int32) (h : H2) : mv_blk rI2 rR2 ln2 wI2 wR2 nw2 cp2 bod none tN_isVat gN_isVat 0 0 [] (fun _ _ _ _ _ _ => none) 400 (mv_seek 0 tN_isVat) [(0, Sum.inl (Value.int v0))] [] h 0 0 = (
  mv_rI (fN_in v0.toInt64 (lN 0) (lN 7) h) fun r2 h1 =>
  mv_gd (decide (r2 = nI 0) || decide (r2 = nI 1)) <| some ([Sum.inl (Value.int r2)], h1)) := rfl
theorem GN_isVat : ∀ (j : Nat) (C : mv_C H2) (md' : mv_MD × Bool), mv_nth j gN_isVat = some C → mv_nth j nN_isVat = some md' → ∃ n', n' + 1 ≤ 2 ∧ mv_Cal vw2 n' md' C := fun j C md' => match j with
  | 0 => fun h1 h2 => by
    obtain rfl := Option.some.inj h1
    obtain rfl := Option.some.inj h2
    exact ⟨1, by decide, cN_in_ok⟩
  | jj + 1 => fun h1 _ => by cases jj <;> cases h1

set_option maxRecDepth 20000 in
theorem xN_isVat {g0 : mv_G} {res : List mv_V × H2} (v0 : Int32) (h : H2) (hh : fN_isVat v0 h = some res) : mv_X vw2 mdN_isVat 2 0 0 none g0 res 0 [(0, Sum.inl (Value.int v0))] [] h 0 0 := by
  refine mv_blkX ax2 (GN_isVat) (by decide) kN_isVat (fun pc lv st h ce sl hh => ?_) ((eN_isVat  v0 h).trans hh)
  cases hh

theorem mN_isVat (v0 : Int32) (h : H2) (vs : List mv_V) (h' : H2) (hh : fN_isVat v0 h = some (vs, h')) : mv_Met vw2 2 0 0 mdN_isVat [Sum.inl (Value.int v0)] h vs h' :=
  mv_Met_of (by decide +kernel) (Nat.le_of_ble_eq_true rfl) (xN_isVat v0 h hh)
theorem cN_isVat_ok : mv_Cal vw2 2 (mdN_isVat, false) ((0, 0), cN_isVat) := by
  intro as h k res hh
  change cN_isVat as h k = some res at hh
  unfold cN_isVat at hh
  split at hh
  · obtain ⟨x, h', h1, h9⟩ := mv_rI_some hh
    exact ⟨_, _, h9, (by first | decide | exact Nat.le_refl _ | exact Nat.zero_le _), (fun h => by cases h), (mN_isVat _ h _ _ h1)⟩
  · cases hh

set_option maxRecDepth 100000 in
theorem kN_isPurpose : mv_tok mdN_isPurpose nN_isPurpose tN_isPurpose = true := by decide +kernel
set_option maxRecDepth 100000 in
set_option maxHeartbeats 1000000 in
theorem eN_isPurpose (v0 : Int32) (h : H2) : mv_blk rI2 rR2 ln2 wI2 wR2 nw2 cp2 bod none tN_isPurpose gN_isPurpose 0 0 [] (fun _ _ _ _ _ _ => none) 400 (mv_seek 0 tN_isPurpose) [(0, Sum.inl (Value.int v0))] [] h 0 0 = (
  mv_rI (fN_in v0.toInt64 (lN 0) (lN 9) h) fun r2 h1 =>
  mv_gd (decide (r2 = nI 0) || decide (r2 = nI 1)) <| some ([Sum.inl (Value.int r2)], h1)) := rfl
theorem GN_isPurpose : ∀ (j : Nat) (C : mv_C H2) (md' : mv_MD × Bool), mv_nth j gN_isPurpose = some C → mv_nth j nN_isPurpose = some md' → ∃ n', n' + 1 ≤ 2 ∧ mv_Cal vw2 n' md' C := fun j C md' => match j with
  | 0 => fun h1 h2 => by
    obtain rfl := Option.some.inj h1
    obtain rfl := Option.some.inj h2
    exact ⟨1, by decide, cN_in_ok⟩
  | jj + 1 => fun h1 _ => by cases jj <;> cases h1

set_option maxRecDepth 20000 in
theorem xN_isPurpose {g0 : mv_G} {res : List mv_V × H2} (v0 : Int32) (h : H2) (hh : fN_isPurpose v0 h = some res) : mv_X vw2 mdN_isPurpose 2 0 0 none g0 res 0 [(0, Sum.inl (Value.int v0))] [] h 0 0 := by
  refine mv_blkX ax2 (GN_isPurpose) (by decide) kN_isPurpose (fun pc lv st h ce sl hh => ?_) ((eN_isPurpose  v0 h).trans hh)
  cases hh

theorem mN_isPurpose (v0 : Int32) (h : H2) (vs : List mv_V) (h' : H2) (hh : fN_isPurpose v0 h = some (vs, h')) : mv_Met vw2 2 0 0 mdN_isPurpose [Sum.inl (Value.int v0)] h vs h' :=
  mv_Met_of (by decide +kernel) (Nat.le_of_ble_eq_true rfl) (xN_isPurpose v0 h hh)
theorem cN_isPurpose_ok : mv_Cal vw2 2 (mdN_isPurpose, false) ((0, 0), cN_isPurpose) := by
  intro as h k res hh
  change cN_isPurpose as h k = some res at hh
  unfold cN_isPurpose at hh
  split at hh
  · obtain ⟨x, h', h1, h9⟩ := mv_rI_some hh
    exact ⟨_, _, h9, (by first | decide | exact Nat.le_refl _ | exact Nat.zero_le _), (fun h => by cases h), (mN_isPurpose _ h _ _ h1)⟩
  · cases hh

set_option maxRecDepth 100000 in
theorem kN_isRest : mv_tok mdN_isRest nN_isRest tN_isRest = true := by decide +kernel
set_option maxRecDepth 100000 in
set_option maxHeartbeats 1000000 in
theorem eN_isRest (v0 : Int32) (h : H2) : mv_blk rI2 rR2 ln2 wI2 wR2 nw2 cp2 bod none tN_isRest gN_isRest 0 0 [] (fun _ _ _ _ _ _ => none) 400 (mv_seek 0 tN_isRest) [(0, Sum.inl (Value.int v0))] [] h 0 0 = (
  mv_rI (fN_in v0.toInt64 (lN 0) (lN 5) h) fun r2 h1 =>
  mv_gd (decide (r2 = nI 0) || decide (r2 = nI 1)) <| some ([Sum.inl (Value.int r2)], h1)) := rfl
theorem GN_isRest : ∀ (j : Nat) (C : mv_C H2) (md' : mv_MD × Bool), mv_nth j gN_isRest = some C → mv_nth j nN_isRest = some md' → ∃ n', n' + 1 ≤ 2 ∧ mv_Cal vw2 n' md' C := fun j C md' => match j with
  | 0 => fun h1 h2 => by
    obtain rfl := Option.some.inj h1
    obtain rfl := Option.some.inj h2
    exact ⟨1, by decide, cN_in_ok⟩
  | jj + 1 => fun h1 _ => by cases jj <;> cases h1

set_option maxRecDepth 20000 in
theorem xN_isRest {g0 : mv_G} {res : List mv_V × H2} (v0 : Int32) (h : H2) (hh : fN_isRest v0 h = some res) : mv_X vw2 mdN_isRest 2 0 0 none g0 res 0 [(0, Sum.inl (Value.int v0))] [] h 0 0 := by
  refine mv_blkX ax2 (GN_isRest) (by decide) kN_isRest (fun pc lv st h ce sl hh => ?_) ((eN_isRest  v0 h).trans hh)
  cases hh

theorem mN_isRest (v0 : Int32) (h : H2) (vs : List mv_V) (h' : H2) (hh : fN_isRest v0 h = some (vs, h')) : mv_Met vw2 2 0 0 mdN_isRest [Sum.inl (Value.int v0)] h vs h' :=
  mv_Met_of (by decide +kernel) (Nat.le_of_ble_eq_true rfl) (xN_isRest v0 h hh)
theorem cN_isRest_ok : mv_Cal vw2 2 (mdN_isRest, false) ((0, 0), cN_isRest) := by
  intro as h k res hh
  change cN_isRest as h k = some res at hh
  unfold cN_isRest at hh
  split at hh
  · obtain ⟨x, h', h1, h9⟩ := mv_rI_some hh
    exact ⟨_, _, h9, (by first | decide | exact Nat.le_refl _ | exact Nat.zero_le _), (fun h => by cases h), (mN_isRest _ h _ _ h1)⟩
  · cases hh

set_option maxRecDepth 100000 in
theorem kN_its : mv_tok mdN_its nN_its tN_its = true := by decide +kernel
set_option maxRecDepth 100000 in
set_option maxHeartbeats 1000000 in
theorem eN_its (o0 : Nat) (v1 : Int32) (v2 : Int32) (h : H2) : mv_blk rI2 rR2 ln2 wI2 wR2 nw2 cp2 bod none tN_its gN_its 0 0 [] (fun _ _ _ _ _ _ => none) 400 (mv_seek 0 tN_its) [(0, Sum.inr (8, o0)), (1, Sum.inl (Value.int v1)), (2, Sum.inl (Value.int v2))] [] h 0 0 = (
  mv_gd (mv_inb (((nI 29) + ((nI 5) * v1)) + v2) 69) <|
  some ([Sum.inl (Value.int (rI2 h 902 o0 (((nI 29) + ((nI 5) * v1)) + v2).toNatClampNeg))], h)) := rfl
theorem GN_its : ∀ (j : Nat) (C : mv_C H2) (md' : mv_MD × Bool), mv_nth j gN_its = some C → mv_nth j nN_its = some md' → ∃ n', n' + 1 ≤ 1 ∧ mv_Cal vw2 n' md' C := fun j C md' h1 _ => by cases j <;> cases h1

set_option maxRecDepth 20000 in
theorem xN_its {g0 : mv_G} {res : List mv_V × H2} (o0 : Nat) (v1 : Int32) (v2 : Int32) (h : H2) (hh : fN_its o0 v1 v2 h = some res) : mv_X vw2 mdN_its 1 0 0 none g0 res 0 [(0, Sum.inr (8, o0)), (1, Sum.inl (Value.int v1)), (2, Sum.inl (Value.int v2))] [] h 0 0 := by
  refine mv_blkX ax2 (GN_its) (by decide) kN_its (fun pc lv st h ce sl hh => ?_) ((eN_its  o0 v1 v2 h).trans hh)
  cases hh

theorem mN_its (o0 : Nat) (v1 : Int32) (v2 : Int32) (h : H2) (vs : List mv_V) (h' : H2) (hh : fN_its o0 v1 v2 h = some (vs, h')) : mv_Met vw2 1 0 0 mdN_its [Sum.inr (8, o0), Sum.inl (Value.int v1), Sum.inl (Value.int v2)] h vs h' :=
  mv_Met_of (by decide +kernel) (Nat.le_of_ble_eq_true rfl) (xN_its o0 v1 v2 h hh)
theorem cN_its_ok : mv_Cal vw2 1 (mdN_its, true) ((0, 0), cN_its) := by
  intro as h k res hh
  change cN_its as h k = some res at hh
  unfold cN_its at hh
  split at hh
  · obtain ⟨hg0, ha0⟩ := mv_gd_some hh
    obtain rfl := Nat.eq_of_beq_eq_true hg0
    obtain ⟨x, h', h1, h9⟩ := mv_rI_some ha0
    exact ⟨_, _, h9, (by first | decide | exact Nat.le_refl _ | exact Nat.zero_le _), fun _ => ⟨_, _, _, rfl, Or.inl ⟨by decide, rfl⟩⟩, (mN_its _ _ _ h _ _ h1)⟩
  · cases hh

set_option maxRecDepth 100000 in
theorem kN_sets : mv_tok mdN_sets nN_sets tN_sets = true := by decide +kernel
set_option maxRecDepth 100000 in
set_option maxHeartbeats 1000000 in
theorem eN_sets (o0 : Nat) (v1 : Int32) (v2 : Int32) (v3 : Int32) (h : H2) : mv_blk rI2 rR2 ln2 wI2 wR2 nw2 cp2 bod none tN_sets gN_sets 0 0 [] (fun _ _ _ _ _ _ => none) 400 (mv_seek 0 tN_sets) [(0, Sum.inr (8, o0)), (1, Sum.inl (Value.int v1)), (2, Sum.inl (Value.int v2)), (3, Sum.inl (Value.int v3))] [] h 0 0 = (
  mv_gd (mv_inb (((nI 29) + ((nI 5) * v1)) + v2) 69) <|
  mv_bh (wI2 h 902 o0 (((nI 29) + ((nI 5) * v1)) + v2).toNatClampNeg v3) fun h1 =>
  some ([], h1)) := rfl
theorem GN_sets : ∀ (j : Nat) (C : mv_C H2) (md' : mv_MD × Bool), mv_nth j gN_sets = some C → mv_nth j nN_sets = some md' → ∃ n', n' + 1 ≤ 1 ∧ mv_Cal vw2 n' md' C := fun j C md' h1 _ => by cases j <;> cases h1

set_option maxRecDepth 20000 in
theorem xN_sets {g0 : mv_G} {res : List mv_V × H2} (o0 : Nat) (v1 : Int32) (v2 : Int32) (v3 : Int32) (h : H2) (hh : fN_sets o0 v1 v2 v3 h = some res) : mv_X vw2 mdN_sets 1 0 0 none g0 res 0 [(0, Sum.inr (8, o0)), (1, Sum.inl (Value.int v1)), (2, Sum.inl (Value.int v2)), (3, Sum.inl (Value.int v3))] [] h 0 0 := by
  refine mv_blkX ax2 (GN_sets) (by decide) kN_sets (fun pc lv st h ce sl hh => ?_) ((eN_sets  o0 v1 v2 v3 h).trans hh)
  cases hh

theorem mN_sets (o0 : Nat) (v1 : Int32) (v2 : Int32) (v3 : Int32) (h : H2) (vs : List mv_V) (h' : H2) (hh : fN_sets o0 v1 v2 v3 h = some (vs, h')) : mv_Met vw2 1 0 0 mdN_sets [Sum.inr (8, o0), Sum.inl (Value.int v1), Sum.inl (Value.int v2), Sum.inl (Value.int v3)] h vs h' :=
  mv_Met_of (by decide +kernel) (Nat.le_of_ble_eq_true rfl) (xN_sets o0 v1 v2 v3 h hh)
theorem cN_sets_ok : mv_Cal vw2 1 (mdN_sets, true) ((0, 0), cN_sets) := by
  intro as h k res hh
  change cN_sets as h k = some res at hh
  unfold cN_sets at hh
  split at hh
  · obtain ⟨hg0, ha0⟩ := mv_gd_some hh
    obtain rfl := Nat.eq_of_beq_eq_true hg0
    obtain ⟨h', h1, h9⟩ := mv_rV_some ha0
    exact ⟨_, _, h9, (by first | decide | exact Nat.le_refl _ | exact Nat.zero_le _), fun _ => ⟨_, _, _, rfl, Or.inl ⟨by decide, rfl⟩⟩, (mN_sets _ _ _ _ h _ _ h1)⟩
  · cases hh

set_option maxRecDepth 100000 in
theorem kN_becomes : mv_tok mdN_becomes nN_becomes tN_becomes = true := by decide +kernel
set_option maxRecDepth 100000 in
set_option maxHeartbeats 1000000 in
theorem eN_becomes (o0 : Nat) (v1 : Int32) (v2 : Int32) (h : H2) : mv_blk rI2 rR2 ln2 wI2 wR2 nw2 cp2 bod none tN_becomes gN_becomes 0 0 [] (fun _ _ _ _ _ _ => none) 400 (mv_seek 0 tN_becomes) [(0, Sum.inr (8, o0)), (1, Sum.inl (Value.int v1)), (2, Sum.inl (Value.int v2))] [] h 0 0 = (
  mv_gd (mv_inb v1 69) <|
  mv_bi (rI2 h 902 o0 v1.toNatClampNeg) fun x1 =>
  mv_gd (mv_inb v1 69) <|
  mv_bh (wI2 h 902 o0 v1.toNatClampNeg v2) fun h2 =>
  some ([Sum.inl (Value.int x1)], h2)) := rfl
theorem GN_becomes : ∀ (j : Nat) (C : mv_C H2) (md' : mv_MD × Bool), mv_nth j gN_becomes = some C → mv_nth j nN_becomes = some md' → ∃ n', n' + 1 ≤ 1 ∧ mv_Cal vw2 n' md' C := fun j C md' h1 _ => by cases j <;> cases h1

set_option maxRecDepth 20000 in
theorem xN_becomes {g0 : mv_G} {res : List mv_V × H2} (o0 : Nat) (v1 : Int32) (v2 : Int32) (h : H2) (hh : fN_becomes o0 v1 v2 h = some res) : mv_X vw2 mdN_becomes 1 0 0 none g0 res 0 [(0, Sum.inr (8, o0)), (1, Sum.inl (Value.int v1)), (2, Sum.inl (Value.int v2))] [] h 0 0 := by
  refine mv_blkX ax2 (GN_becomes) (by decide) kN_becomes (fun pc lv st h ce sl hh => ?_) ((eN_becomes  o0 v1 v2 h).trans hh)
  cases hh

theorem mN_becomes (o0 : Nat) (v1 : Int32) (v2 : Int32) (h : H2) (vs : List mv_V) (h' : H2) (hh : fN_becomes o0 v1 v2 h = some (vs, h')) : mv_Met vw2 1 0 0 mdN_becomes [Sum.inr (8, o0), Sum.inl (Value.int v1), Sum.inl (Value.int v2)] h vs h' :=
  mv_Met_of (by decide +kernel) (Nat.le_of_ble_eq_true rfl) (xN_becomes o0 v1 v2 h hh)
theorem cN_becomes_ok : mv_Cal vw2 1 (mdN_becomes, true) ((0, 0), cN_becomes) := by
  intro as h k res hh
  change cN_becomes as h k = some res at hh
  unfold cN_becomes at hh
  split at hh
  · obtain ⟨hg0, ha0⟩ := mv_gd_some hh
    obtain rfl := Nat.eq_of_beq_eq_true hg0
    obtain ⟨x, h', h1, h9⟩ := mv_rI_some ha0
    exact ⟨_, _, h9, (by first | decide | exact Nat.le_refl _ | exact Nat.zero_le _), fun _ => ⟨_, _, _, rfl, Or.inl ⟨by decide, rfl⟩⟩, (mN_becomes _ _ _ h _ _ h1)⟩
  · cases hh

set_option maxRecDepth 100000 in
theorem kN_set : mv_tok mdN_set nN_set tN_set = true := by decide +kernel
set_option maxRecDepth 100000 in
set_option maxHeartbeats 1000000 in
theorem eN_set (o0 : Nat) (v1 : Int32) (v2 : Int32) (h : H2) : mv_blk rI2 rR2 ln2 wI2 wR2 nw2 cp2 bod none tN_set gN_set 0 0 [] (fun _ _ _ _ _ _ => none) 400 (mv_seek 0 tN_set) [(0, Sum.inr (8, o0)), (1, Sum.inl (Value.int v1)), (2, Sum.inl (Value.int v2))] [] h 0 0 = (
  mv_rI (fN_in v1.toInt64 (lN 0) (lN 3) h) fun r2 h1 =>
  if r2 = 0 then (
    some ([Sum.inl (Value.int (-(nI 1)))], h1))
  else
  mv_gd (mv_inb v1 4) <|
  mv_rI (fN_in v2.toInt64 (lN 0) ((rI2 h1 900 o0 v1.toNatClampNeg).toInt64) h1) fun r4 h3 =>
  if r4 = 0 then (
    some ([Sum.inl (Value.int (-(nI 1)))], h3))
  else
  mv_rI (fN_becomes o0 v1 v2 h3) fun r6 h5 =>
  some ([Sum.inl (Value.int r6)], h5)) := rfl
theorem GN_set : ∀ (j : Nat) (C : mv_C H2) (md' : mv_MD × Bool), mv_nth j gN_set = some C → mv_nth j nN_set = some md' → ∃ n', n' + 1 ≤ 2 ∧ mv_Cal vw2 n' md' C := fun j C md' => match j with
  | 0 => fun h1 h2 => by
    obtain rfl := Option.some.inj h1
    obtain rfl := Option.some.inj h2
    exact ⟨1, by decide, cN_in_ok⟩
  | 1 => fun h1 h2 => by
    obtain rfl := Option.some.inj h1
    obtain rfl := Option.some.inj h2
    exact ⟨1, by decide, cN_becomes_ok⟩
  | jj + 2 => fun h1 _ => by cases jj <;> cases h1

set_option maxRecDepth 20000 in
theorem xN_set {g0 : mv_G} {res : List mv_V × H2} (o0 : Nat) (v1 : Int32) (v2 : Int32) (h : H2) (hh : fN_set o0 v1 v2 h = some res) : mv_X vw2 mdN_set 2 0 0 none g0 res 0 [(0, Sum.inr (8, o0)), (1, Sum.inl (Value.int v1)), (2, Sum.inl (Value.int v2))] [] h 0 0 := by
  refine mv_blkX ax2 (GN_set) (by decide) kN_set (fun pc lv st h ce sl hh => ?_) ((eN_set  o0 v1 v2 h).trans hh)
  cases hh

theorem mN_set (o0 : Nat) (v1 : Int32) (v2 : Int32) (h : H2) (vs : List mv_V) (h' : H2) (hh : fN_set o0 v1 v2 h = some (vs, h')) : mv_Met vw2 2 0 0 mdN_set [Sum.inr (8, o0), Sum.inl (Value.int v1), Sum.inl (Value.int v2)] h vs h' :=
  mv_Met_of (by decide +kernel) (Nat.le_of_ble_eq_true rfl) (xN_set o0 v1 v2 h hh)
set_option maxRecDepth 100000 in
theorem kN_lawOf : mv_tok mdN_lawOf nN_lawOf tN_lawOf = true := by decide +kernel
set_option maxRecDepth 100000 in
set_option maxHeartbeats 1000000 in
theorem eN_lawOf (o0 : Nat) (v1 : Int32) (h : H2) : mv_blk rI2 rR2 ln2 wI2 wR2 nw2 cp2 bod none tN_lawOf gN_lawOf 0 0 [] (fun _ _ _ _ _ _ => none) 400 (mv_seek 0 tN_lawOf) [(0, Sum.inr (8, o0)), (1, Sum.inl (Value.int v1))] [] h 0 0 = (
  mv_rI (fN_in v1.toInt64 (lN 0) (lN 3) h) fun r2 h1 =>
  if r2 = 0 then (
    some ([Sum.inl (Value.int (-(nI 1)))], h1))
  else
  mv_gd (mv_inb v1 69) <|
  some ([Sum.inl (Value.int (rI2 h1 902 o0 v1.toNatClampNeg))], h1)) := rfl
theorem GN_lawOf : ∀ (j : Nat) (C : mv_C H2) (md' : mv_MD × Bool), mv_nth j gN_lawOf = some C → mv_nth j nN_lawOf = some md' → ∃ n', n' + 1 ≤ 2 ∧ mv_Cal vw2 n' md' C := fun j C md' => match j with
  | 0 => fun h1 h2 => by
    obtain rfl := Option.some.inj h1
    obtain rfl := Option.some.inj h2
    exact ⟨1, by decide, cN_in_ok⟩
  | jj + 1 => fun h1 _ => by cases jj <;> cases h1

set_option maxRecDepth 20000 in
theorem xN_lawOf {g0 : mv_G} {res : List mv_V × H2} (o0 : Nat) (v1 : Int32) (h : H2) (hh : fN_lawOf o0 v1 h = some res) : mv_X vw2 mdN_lawOf 2 0 0 none g0 res 0 [(0, Sum.inr (8, o0)), (1, Sum.inl (Value.int v1))] [] h 0 0 := by
  refine mv_blkX ax2 (GN_lawOf) (by decide) kN_lawOf (fun pc lv st h ce sl hh => ?_) ((eN_lawOf  o0 v1 h).trans hh)
  cases hh

theorem mN_lawOf (o0 : Nat) (v1 : Int32) (h : H2) (vs : List mv_V) (h' : H2) (hh : fN_lawOf o0 v1 h = some (vs, h')) : mv_Met vw2 2 0 0 mdN_lawOf [Sum.inr (8, o0), Sum.inl (Value.int v1)] h vs h' :=
  mv_Met_of (by decide +kernel) (Nat.le_of_ble_eq_true rfl) (xN_lawOf o0 v1 h hh)
set_option maxRecDepth 100000 in
theorem kN_fill : mv_tok mdN_fill nN_fill tN_fill = true := by decide +kernel
set_option maxRecDepth 100000 in
set_option maxHeartbeats 1000000 in
theorem eN_fill (o0 : Nat) (v1 : Int32) (v2 : Int32) (v3 : Int32) (h : H2) : mv_blk rI2 rR2 ln2 wI2 wR2 nw2 cp2 bod none tN_fill gN_fill 0 0 [] (fun _ _ _ _ _ _ => none) 400 (mv_seek 0 tN_fill) [(0, Sum.inr (8, o0)), (1, Sum.inl (Value.int v1)), (2, Sum.inl (Value.int v2)), (3, Sum.inl (Value.int v3))] [] h 0 0 = (
  mv_rI (fN_isVat v1 h) fun r2 h1 =>
  if r2 = 0 then (
    some ([Sum.inl (Value.int (-(nI 1)))], h1))
  else
  mv_rI (fN_in v2.toInt64 (lN 0) (lN 1) h1) fun r4 h3 =>
  if r4 = 0 then (
    some ([Sum.inl (Value.int (-(nI 1)))], h3))
  else
  mv_rI (fN_in v3.toInt64 (lN 0) (lN 9) h3) fun r6 h5 =>
  if r6 = 0 then (
    some ([Sum.inl (Value.int (-(nI 1)))], h5))
  else
  mv_rI (fN_becomes o0 (((nI 7) + ((nI 8) * v2)) + v1) v3 h5) fun r8 h7 =>
  some ([Sum.inl (Value.int r8)], h7)) := rfl
theorem GN_fill : ∀ (j : Nat) (C : mv_C H2) (md' : mv_MD × Bool), mv_nth j gN_fill = some C → mv_nth j nN_fill = some md' → ∃ n', n' + 1 ≤ 3 ∧ mv_Cal vw2 n' md' C := fun j C md' => match j with
  | 0 => fun h1 h2 => by
    obtain rfl := Option.some.inj h1
    obtain rfl := Option.some.inj h2
    exact ⟨2, by decide, cN_isVat_ok⟩
  | 1 => fun h1 h2 => by
    obtain rfl := Option.some.inj h1
    obtain rfl := Option.some.inj h2
    exact ⟨1, by decide, cN_in_ok⟩
  | 2 => fun h1 h2 => by
    obtain rfl := Option.some.inj h1
    obtain rfl := Option.some.inj h2
    exact ⟨1, by decide, cN_becomes_ok⟩
  | jj + 3 => fun h1 _ => by cases jj <;> cases h1

set_option maxRecDepth 20000 in
theorem xN_fill {g0 : mv_G} {res : List mv_V × H2} (o0 : Nat) (v1 : Int32) (v2 : Int32) (v3 : Int32) (h : H2) (hh : fN_fill o0 v1 v2 v3 h = some res) : mv_X vw2 mdN_fill 3 0 0 none g0 res 0 [(0, Sum.inr (8, o0)), (1, Sum.inl (Value.int v1)), (2, Sum.inl (Value.int v2)), (3, Sum.inl (Value.int v3))] [] h 0 0 := by
  refine mv_blkX ax2 (GN_fill) (by decide) kN_fill (fun pc lv st h ce sl hh => ?_) ((eN_fill  o0 v1 v2 v3 h).trans hh)
  cases hh

theorem mN_fill (o0 : Nat) (v1 : Int32) (v2 : Int32) (v3 : Int32) (h : H2) (vs : List mv_V) (h' : H2) (hh : fN_fill o0 v1 v2 v3 h = some (vs, h')) : mv_Met vw2 3 0 0 mdN_fill [Sum.inr (8, o0), Sum.inl (Value.int v1), Sum.inl (Value.int v2), Sum.inl (Value.int v3)] h vs h' :=
  mv_Met_of (by decide +kernel) (Nat.le_of_ble_eq_true rfl) (xN_fill o0 v1 v2 v3 h hh)
set_option maxRecDepth 100000 in
theorem kN_vatOf : mv_tok mdN_vatOf nN_vatOf tN_vatOf = true := by decide +kernel
set_option maxRecDepth 100000 in
set_option maxHeartbeats 1000000 in
theorem eN_vatOf (o0 : Nat) (v1 : Int32) (v2 : Int32) (h : H2) : mv_blk rI2 rR2 ln2 wI2 wR2 nw2 cp2 bod none tN_vatOf gN_vatOf 0 0 [] (fun _ _ _ _ _ _ => none) 400 (mv_seek 0 tN_vatOf) [(0, Sum.inr (8, o0)), (1, Sum.inl (Value.int v1)), (2, Sum.inl (Value.int v2))] [] h 0 0 = (
  mv_rI (fN_isVat v1 h) fun r2 h1 =>
  if r2 = 0 then (
    some ([Sum.inl (Value.int (-(nI 1)))], h1))
  else
  mv_rI (fN_in v2.toInt64 (lN 0) (lN 1) h1) fun r4 h3 =>
  if r4 = 0 then (
    some ([Sum.inl (Value.int (-(nI 1)))], h3))
  else
  mv_gd (mv_inb (((nI 7) + ((nI 8) * v2)) + v1) 69) <|
  some ([Sum.inl (Value.int (rI2 h3 902 o0 (((nI 7) + ((nI 8) * v2)) + v1).toNatClampNeg))], h3)) := rfl
theorem GN_vatOf : ∀ (j : Nat) (C : mv_C H2) (md' : mv_MD × Bool), mv_nth j gN_vatOf = some C → mv_nth j nN_vatOf = some md' → ∃ n', n' + 1 ≤ 3 ∧ mv_Cal vw2 n' md' C := fun j C md' => match j with
  | 0 => fun h1 h2 => by
    obtain rfl := Option.some.inj h1
    obtain rfl := Option.some.inj h2
    exact ⟨2, by decide, cN_isVat_ok⟩
  | 1 => fun h1 h2 => by
    obtain rfl := Option.some.inj h1
    obtain rfl := Option.some.inj h2
    exact ⟨1, by decide, cN_in_ok⟩
  | jj + 2 => fun h1 _ => by cases jj <;> cases h1

set_option maxRecDepth 20000 in
theorem xN_vatOf {g0 : mv_G} {res : List mv_V × H2} (o0 : Nat) (v1 : Int32) (v2 : Int32) (h : H2) (hh : fN_vatOf o0 v1 v2 h = some res) : mv_X vw2 mdN_vatOf 3 0 0 none g0 res 0 [(0, Sum.inr (8, o0)), (1, Sum.inl (Value.int v1)), (2, Sum.inl (Value.int v2))] [] h 0 0 := by
  refine mv_blkX ax2 (GN_vatOf) (by decide) kN_vatOf (fun pc lv st h ce sl hh => ?_) ((eN_vatOf  o0 v1 v2 h).trans hh)
  cases hh

theorem mN_vatOf (o0 : Nat) (v1 : Int32) (v2 : Int32) (h : H2) (vs : List mv_V) (h' : H2) (hh : fN_vatOf o0 v1 v2 h = some (vs, h')) : mv_Met vw2 3 0 0 mdN_vatOf [Sum.inr (8, o0), Sum.inl (Value.int v1), Sum.inl (Value.int v2)] h vs h' :=
  mv_Met_of (by decide +kernel) (Nat.le_of_ble_eq_true rfl) (xN_vatOf o0 v1 v2 h hh)
set_option maxRecDepth 100000 in
theorem kN_roster : mv_tok mdN_roster nN_roster tN_roster = true := by decide +kernel
set_option maxRecDepth 100000 in
set_option maxHeartbeats 1000000 in
theorem eN_roster (o0 : Nat) (v1 : Int32) (v2 : Int32) (h : H2) : mv_blk rI2 rR2 ln2 wI2 wR2 nw2 cp2 bod none tN_roster gN_roster 0 0 [] (fun _ _ _ _ _ _ => none) 400 (mv_seek 0 tN_roster) [(0, Sum.inr (8, o0)), (1, Sum.inl (Value.int v1)), (2, Sum.inl (Value.int v2))] [] h 0 0 = (
  mv_rI (fN_isRest v1 h) fun r2 h1 =>
  if r2 = 0 then (
    some ([Sum.inl (Value.int (-(nI 1)))], h1))
  else
  if v2 = (-(nI 1)) then (
    mv_rI (fN_becomes o0 ((nI 23) + v1) v2 h1) fun r4 h3 =>
    some ([Sum.inl (Value.int ((nI 1) + r4))], h3))
  else
  mv_rI (fN_isVat v2 h1) fun r6 h5 =>
  if r6 = 0 then (
    some ([Sum.inl (Value.int (-(nI 1)))], h5))
  else
  mv_rI (fN_becomes o0 ((nI 23) + v1) v2 h5) fun r8 h7 =>
  some ([Sum.inl (Value.int ((nI 1) + r8))], h7)) := rfl
theorem GN_roster : ∀ (j : Nat) (C : mv_C H2) (md' : mv_MD × Bool), mv_nth j gN_roster = some C → mv_nth j nN_roster = some md' → ∃ n', n' + 1 ≤ 3 ∧ mv_Cal vw2 n' md' C := fun j C md' => match j with
  | 0 => fun h1 h2 => by
    obtain rfl := Option.some.inj h1
    obtain rfl := Option.some.inj h2
    exact ⟨2, by decide, cN_isRest_ok⟩
  | 1 => fun h1 h2 => by
    obtain rfl := Option.some.inj h1
    obtain rfl := Option.some.inj h2
    exact ⟨2, by decide, cN_isVat_ok⟩
  | 2 => fun h1 h2 => by
    obtain rfl := Option.some.inj h1
    obtain rfl := Option.some.inj h2
    exact ⟨1, by decide, cN_becomes_ok⟩
  | jj + 3 => fun h1 _ => by cases jj <;> cases h1

set_option maxRecDepth 20000 in
theorem xN_roster {g0 : mv_G} {res : List mv_V × H2} (o0 : Nat) (v1 : Int32) (v2 : Int32) (h : H2) (hh : fN_roster o0 v1 v2 h = some res) : mv_X vw2 mdN_roster 3 0 0 none g0 res 0 [(0, Sum.inr (8, o0)), (1, Sum.inl (Value.int v1)), (2, Sum.inl (Value.int v2))] [] h 0 0 := by
  refine mv_blkX ax2 (GN_roster) (by decide) kN_roster (fun pc lv st h ce sl hh => ?_) ((eN_roster  o0 v1 v2 h).trans hh)
  cases hh

theorem mN_roster (o0 : Nat) (v1 : Int32) (v2 : Int32) (h : H2) (vs : List mv_V) (h' : H2) (hh : fN_roster o0 v1 v2 h = some (vs, h')) : mv_Met vw2 3 0 0 mdN_roster [Sum.inr (8, o0), Sum.inl (Value.int v1), Sum.inl (Value.int v2)] h vs h' :=
  mv_Met_of (by decide +kernel) (Nat.le_of_ble_eq_true rfl) (xN_roster o0 v1 v2 h hh)
set_option maxRecDepth 100000 in
theorem kN_rosterOf : mv_tok mdN_rosterOf nN_rosterOf tN_rosterOf = true := by decide +kernel
set_option maxRecDepth 100000 in
set_option maxHeartbeats 1000000 in
theorem eN_rosterOf (o0 : Nat) (v1 : Int32) (h : H2) : mv_blk rI2 rR2 ln2 wI2 wR2 nw2 cp2 bod none tN_rosterOf gN_rosterOf 0 0 [] (fun _ _ _ _ _ _ => none) 400 (mv_seek 0 tN_rosterOf) [(0, Sum.inr (8, o0)), (1, Sum.inl (Value.int v1))] [] h 0 0 = (
  mv_rI (fN_isRest v1 h) fun r2 h1 =>
  if r2 = 0 then (
    some ([Sum.inl (Value.int (-(nI 1)))], h1))
  else
  mv_gd (mv_inb ((nI 23) + v1) 69) <|
  some ([Sum.inl (Value.int ((nI 1) + (rI2 h1 902 o0 ((nI 23) + v1).toNatClampNeg)))], h1)) := rfl
theorem GN_rosterOf : ∀ (j : Nat) (C : mv_C H2) (md' : mv_MD × Bool), mv_nth j gN_rosterOf = some C → mv_nth j nN_rosterOf = some md' → ∃ n', n' + 1 ≤ 3 ∧ mv_Cal vw2 n' md' C := fun j C md' => match j with
  | 0 => fun h1 h2 => by
    obtain rfl := Option.some.inj h1
    obtain rfl := Option.some.inj h2
    exact ⟨2, by decide, cN_isRest_ok⟩
  | jj + 1 => fun h1 _ => by cases jj <;> cases h1

set_option maxRecDepth 20000 in
theorem xN_rosterOf {g0 : mv_G} {res : List mv_V × H2} (o0 : Nat) (v1 : Int32) (h : H2) (hh : fN_rosterOf o0 v1 h = some res) : mv_X vw2 mdN_rosterOf 3 0 0 none g0 res 0 [(0, Sum.inr (8, o0)), (1, Sum.inl (Value.int v1))] [] h 0 0 := by
  refine mv_blkX ax2 (GN_rosterOf) (by decide) kN_rosterOf (fun pc lv st h ce sl hh => ?_) ((eN_rosterOf  o0 v1 h).trans hh)
  cases hh

theorem mN_rosterOf (o0 : Nat) (v1 : Int32) (h : H2) (vs : List mv_V) (h' : H2) (hh : fN_rosterOf o0 v1 h = some (vs, h')) : mv_Met vw2 3 0 0 mdN_rosterOf [Sum.inr (8, o0), Sum.inl (Value.int v1)] h vs h' :=
  mv_Met_of (by decide +kernel) (Nat.le_of_ble_eq_true rfl) (xN_rosterOf o0 v1 h hh)
set_option maxRecDepth 100000 in
theorem kN_isKind : mv_tok mdN_isKind nN_isKind tN_isKind = true := by decide +kernel
set_option maxRecDepth 100000 in
set_option maxHeartbeats 1000000 in
theorem eN_isKind (v0 : Int32) (h : H2) : mv_blk rI2 rR2 ln2 wI2 wR2 nw2 cp2 bod none tN_isKind gN_isKind 0 0 [] (fun _ _ _ _ _ _ => none) 400 (mv_seek 0 tN_isKind) [(0, Sum.inl (Value.int v0))] [] h 0 0 = (
  mv_rI (fN_in v0.toInt64 (lN 0) (lN 5) h) fun r2 h1 =>
  mv_gd (decide (r2 = nI 0) || decide (r2 = nI 1)) <| some ([Sum.inl (Value.int r2)], h1)) := rfl
theorem GN_isKind : ∀ (j : Nat) (C : mv_C H2) (md' : mv_MD × Bool), mv_nth j gN_isKind = some C → mv_nth j nN_isKind = some md' → ∃ n', n' + 1 ≤ 2 ∧ mv_Cal vw2 n' md' C := fun j C md' => match j with
  | 0 => fun h1 h2 => by
    obtain rfl := Option.some.inj h1
    obtain rfl := Option.some.inj h2
    exact ⟨1, by decide, cN_in_ok⟩
  | jj + 1 => fun h1 _ => by cases jj <;> cases h1

set_option maxRecDepth 20000 in
theorem xN_isKind {g0 : mv_G} {res : List mv_V × H2} (v0 : Int32) (h : H2) (hh : fN_isKind v0 h = some res) : mv_X vw2 mdN_isKind 2 0 0 none g0 res 0 [(0, Sum.inl (Value.int v0))] [] h 0 0 := by
  refine mv_blkX ax2 (GN_isKind) (by decide) kN_isKind (fun pc lv st h ce sl hh => ?_) ((eN_isKind  v0 h).trans hh)
  cases hh

theorem mN_isKind (v0 : Int32) (h : H2) (vs : List mv_V) (h' : H2) (hh : fN_isKind v0 h = some (vs, h')) : mv_Met vw2 2 0 0 mdN_isKind [Sum.inl (Value.int v0)] h vs h' :=
  mv_Met_of (by decide +kernel) (Nat.le_of_ble_eq_true rfl) (xN_isKind v0 h hh)
theorem cN_isKind_ok : mv_Cal vw2 2 (mdN_isKind, false) ((0, 0), cN_isKind) := by
  intro as h k res hh
  change cN_isKind as h k = some res at hh
  unfold cN_isKind at hh
  split at hh
  · obtain ⟨x, h', h1, h9⟩ := mv_rI_some hh
    exact ⟨_, _, h9, (by first | decide | exact Nat.le_refl _ | exact Nat.zero_le _), (fun h => by cases h), (mN_isKind _ h _ _ h1)⟩
  · cases hh

set_option maxRecDepth 100000 in
theorem kN_isUnder : mv_tok mdN_isUnder nN_isUnder tN_isUnder = true := by decide +kernel
set_option maxRecDepth 100000 in
set_option maxHeartbeats 1000000 in
theorem eN_isUnder (v0 : Int32) (v1 : Int32) (h : H2) : mv_blk rI2 rR2 ln2 wI2 wR2 nw2 cp2 bod none tN_isUnder gN_isUnder 0 0 [] (fun _ _ _ _ _ _ => none) 400 (mv_seek 0 tN_isUnder) [(0, Sum.inl (Value.int v0)), (1, Sum.inl (Value.int v1))] [] h 0 0 = (
  if v1 = 0 then (
    mv_gd (decide (nI 1 = nI 0) || decide (nI 1 = nI 1)) <| some ([Sum.inl (Value.int (nI 1))], h))
  else
  if v0 = v1 then (
    mv_gd (decide (nI 1 = nI 0) || decide (nI 1 = nI 1)) <| some ([Sum.inl (Value.int (nI 1))], h))
  else
  if v0 = (nI 3) then (
    if v1 = (nI 1) then (
      mv_gd (decide (nI 1 = nI 0) || decide (nI 1 = nI 1)) <| some ([Sum.inl (Value.int (nI 1))], h))
    else
    if v0 = (nI 4) then (
      if v1 = (nI 2) then (
        mv_gd (decide (nI 1 = nI 0) || decide (nI 1 = nI 1)) <| some ([Sum.inl (Value.int (nI 1))], h))
      else
      mv_gd (decide (nI 0 = nI 0) || decide (nI 0 = nI 1)) <| some ([Sum.inl (Value.int (nI 0))], h))
    else
    mv_gd (decide (nI 0 = nI 0) || decide (nI 0 = nI 1)) <| some ([Sum.inl (Value.int (nI 0))], h))
  else
  if v0 = (nI 4) then (
    if v1 = (nI 2) then (
      mv_gd (decide (nI 1 = nI 0) || decide (nI 1 = nI 1)) <| some ([Sum.inl (Value.int (nI 1))], h))
    else
    mv_gd (decide (nI 0 = nI 0) || decide (nI 0 = nI 1)) <| some ([Sum.inl (Value.int (nI 0))], h))
  else
  mv_gd (decide (nI 0 = nI 0) || decide (nI 0 = nI 1)) <| some ([Sum.inl (Value.int (nI 0))], h)) := rfl
theorem GN_isUnder : ∀ (j : Nat) (C : mv_C H2) (md' : mv_MD × Bool), mv_nth j gN_isUnder = some C → mv_nth j nN_isUnder = some md' → ∃ n', n' + 1 ≤ 1 ∧ mv_Cal vw2 n' md' C := fun j C md' h1 _ => by cases j <;> cases h1

set_option maxRecDepth 20000 in
theorem xN_isUnder {g0 : mv_G} {res : List mv_V × H2} (v0 : Int32) (v1 : Int32) (h : H2) (hh : fN_isUnder v0 v1 h = some res) : mv_X vw2 mdN_isUnder 1 0 0 none g0 res 0 [(0, Sum.inl (Value.int v0)), (1, Sum.inl (Value.int v1))] [] h 0 0 := by
  refine mv_blkX ax2 (GN_isUnder) (by decide) kN_isUnder (fun pc lv st h ce sl hh => ?_) ((eN_isUnder  v0 v1 h).trans hh)
  cases hh

theorem mN_isUnder (v0 : Int32) (v1 : Int32) (h : H2) (vs : List mv_V) (h' : H2) (hh : fN_isUnder v0 v1 h = some (vs, h')) : mv_Met vw2 1 0 0 mdN_isUnder [Sum.inl (Value.int v0), Sum.inl (Value.int v1)] h vs h' :=
  mv_Met_of (by decide +kernel) (Nat.le_of_ble_eq_true rfl) (xN_isUnder v0 v1 h hh)
theorem cN_isUnder_ok : mv_Cal vw2 1 (mdN_isUnder, false) ((0, 0), cN_isUnder) := by
  intro as h k res hh
  change cN_isUnder as h k = some res at hh
  unfold cN_isUnder at hh
  split at hh
  · obtain ⟨x, h', h1, h9⟩ := mv_rI_some hh
    exact ⟨_, _, h9, (by first | decide | exact Nat.le_refl _ | exact Nat.zero_le _), (fun h => by cases h), (mN_isUnder _ _ h _ _ h1)⟩
  · cases hh

set_option maxRecDepth 100000 in
theorem kN_takesOf : mv_tok mdN_takesOf nN_takesOf tN_takesOf = true := by decide +kernel
set_option maxRecDepth 100000 in
set_option maxHeartbeats 1000000 in
theorem eN_takesOf (o0 : Nat) (v1 : Int32) (v2 : Int32) (h : H2) : mv_blk rI2 rR2 ln2 wI2 wR2 nw2 cp2 bod none tN_takesOf gN_takesOf 0 0 [] (fun _ _ _ _ _ _ => none) 400 (mv_seek 0 tN_takesOf) [(0, Sum.inr (8, o0)), (1, Sum.inl (Value.int v1)), (2, Sum.inl (Value.int v2))] [] h 0 0 = (
  mv_gd (mv_inb (nI 0) 69) <|
  mv_bi (v2 + (rI2 h 902 o0 (nI 0).toNatClampNeg)) fun x1 =>
  mv_rI (fN_its o0 v1 (nI 0) h) fun r3 h2 =>
  if r3 = nI 1 then (
    some ([Sum.inl (Value.int (x1 + (nI 3)))], h2))
  else
  if r3 = nI 2 then (
    mv_gd (mv_inb (nI 1) 69) <|
    some ([Sum.inl (Value.int (x1 - (rI2 h2 902 o0 (nI 1).toNatClampNeg)))], h2))
  else
  if r3 = nI 3 then (
    some ([Sum.inl (Value.int ((nI 2) * (x1 + (nI 3))))], h2))
  else
  if r3 = nI 4 then (
    mv_gd (mv_inb (nI 1) 69) <|
    mv_gd (mv_inb (nI 2) 69) <|
    some ([Sum.inl (Value.int ((x1 - (rI2 h2 902 o0 (nI 1).toNatClampNeg)) + (rI2 h2 902 o0 (nI 2).toNatClampNeg)))], h2))
  else
  if r3 = nI 5 then (
    mv_gd (!decide ((nI 2) = 0)) <|
    some ([Sum.inl (Value.int (x1 / (nI 2)))], h2))
  else
  some ([Sum.inl (Value.int x1)], h2)) := rfl
theorem GN_takesOf : ∀ (j : Nat) (C : mv_C H2) (md' : mv_MD × Bool), mv_nth j gN_takesOf = some C → mv_nth j nN_takesOf = some md' → ∃ n', n' + 1 ≤ 2 ∧ mv_Cal vw2 n' md' C := fun j C md' => match j with
  | 0 => fun h1 h2 => by
    obtain rfl := Option.some.inj h1
    obtain rfl := Option.some.inj h2
    exact ⟨1, by decide, cN_its_ok⟩
  | jj + 1 => fun h1 _ => by cases jj <;> cases h1

set_option maxRecDepth 20000 in
theorem xN_takesOf {g0 : mv_G} {res : List mv_V × H2} (o0 : Nat) (v1 : Int32) (v2 : Int32) (h : H2) (hh : fN_takesOf o0 v1 v2 h = some res) : mv_X vw2 mdN_takesOf 2 0 0 none g0 res 0 [(0, Sum.inr (8, o0)), (1, Sum.inl (Value.int v1)), (2, Sum.inl (Value.int v2))] [] h 0 0 := by
  refine mv_blkX ax2 (GN_takesOf) (by decide) kN_takesOf (fun pc lv st h ce sl hh => ?_) ((eN_takesOf  o0 v1 v2 h).trans hh)
  cases hh

theorem mN_takesOf (o0 : Nat) (v1 : Int32) (v2 : Int32) (h : H2) (vs : List mv_V) (h' : H2) (hh : fN_takesOf o0 v1 v2 h = some (vs, h')) : mv_Met vw2 2 0 0 mdN_takesOf [Sum.inr (8, o0), Sum.inl (Value.int v1), Sum.inl (Value.int v2)] h vs h' :=
  mv_Met_of (by decide +kernel) (Nat.le_of_ble_eq_true rfl) (xN_takesOf o0 v1 v2 h hh)
theorem cN_takesOf_ok : mv_Cal vw2 2 (mdN_takesOf, true) ((0, 0), cN_takesOf) := by
  intro as h k res hh
  change cN_takesOf as h k = some res at hh
  unfold cN_takesOf at hh
  split at hh
  · obtain ⟨hg0, ha0⟩ := mv_gd_some hh
    obtain rfl := Nat.eq_of_beq_eq_true hg0
    obtain ⟨x, h', h1, h9⟩ := mv_rI_some ha0
    exact ⟨_, _, h9, (by first | decide | exact Nat.le_refl _ | exact Nat.zero_le _), fun _ => ⟨_, _, _, rfl, Or.inl ⟨by decide, rfl⟩⟩, (mN_takesOf _ _ _ h _ _ h1)⟩
  · cases hh

