set_option maxRecDepth 100000 in
theorem kN_fightsOf : mv_tok mdN_fightsOf nN_fightsOf tN_fightsOf = true := by decide +kernel
def cN_itsG_N_fightsOf (F1 : Nat → Int32 → Int32 → H2 → O2) : List mv_V → H2 → (List mv_V → H2 → O2) → O2 := fun as h k => match as with
  | [.inr (t0, o0), .inl (.int v1), .inl (.int v2)] => mv_gd (Nat.beq t0 8) <| mv_rI (F1 o0 v1 v2 h) fun x h => k [.inl (.int x)] h
  | _ => none
set_option maxRecDepth 100000 in
set_option maxHeartbeats 1000000 in
theorem eN_fightsOf_g (F1 : Nat → Int32 → Int32 → H2 → O2) (o0 : Nat) (v1 : Int32) (v2 : Int32) (h : H2) : mv_blk rI2 rR2 ln2 wI2 wR2 nw2 cp2 bod none tN_fightsOf [((0, 0), cN_itsG_N_fightsOf F1)] 0 0 [] (fun _ _ _ _ _ _ => none) 400 (mv_seek 0 tN_fightsOf) [(0, Sum.inr (8, o0)), (1, Sum.inl (Value.int v1)), (2, Sum.inl (Value.int v2))] [] h 0 0 = (
  mv_rI (F1 o0 v1 (nI 0) h) fun r2 h1 =>
  if r2 = nI 1 then (
    mv_gd (mv_inb (nI 2) 69) <|
    some ([Sum.inl (Value.int (v2 - (rI2 h1 902 o0 (nI 2).toNatClampNeg)))], h1))
  else
  if r2 = nI 2 then (
    mv_gd (mv_inb (nI 2) 69) <|
    some ([Sum.inl (Value.int (v2 + (rI2 h1 902 o0 (nI 2).toNatClampNeg)))], h1))
  else
  if r2 = nI 3 then (
    mv_gd (mv_inb (nI 2) 69) <|
    mv_gd (mv_inb (nI 0) 69) <|
    some ([Sum.inl (Value.int ((v2 - (rI2 h1 902 o0 (nI 2).toNatClampNeg)) + (rI2 h1 902 o0 (nI 0).toNatClampNeg)))], h1))
  else
  if r2 = nI 4 then (
    mv_gd (mv_inb (nI 2) 69) <|
    some ([Sum.inl (Value.int ((nI 2) * (v2 + (rI2 h1 902 o0 (nI 2).toNatClampNeg))))], h1))
  else
  if r2 = nI 5 then (
    some ([Sum.inl (Value.int (v2 + (nI 1)))], h1))
  else
  some ([Sum.inl (Value.int v2)], h1)) := rfl
theorem eN_fightsOf (o0 : Nat) (v1 : Int32) (v2 : Int32) (h : H2) : mv_blk rI2 rR2 ln2 wI2 wR2 nw2 cp2 bod none tN_fightsOf gN_fightsOf 0 0 [] (fun _ _ _ _ _ _ => none) 400 (mv_seek 0 tN_fightsOf) [(0, Sum.inr (8, o0)), (1, Sum.inl (Value.int v1)), (2, Sum.inl (Value.int v2))] [] h 0 0 = (
  mv_rI (fN_its o0 v1 (nI 0) h) fun r2 h1 =>
  if r2 = nI 1 then (
    mv_gd (mv_inb (nI 2) 69) <|
    some ([Sum.inl (Value.int (v2 - (rI2 h1 902 o0 (nI 2).toNatClampNeg)))], h1))
  else
  if r2 = nI 2 then (
    mv_gd (mv_inb (nI 2) 69) <|
    some ([Sum.inl (Value.int (v2 + (rI2 h1 902 o0 (nI 2).toNatClampNeg)))], h1))
  else
  if r2 = nI 3 then (
    mv_gd (mv_inb (nI 2) 69) <|
    mv_gd (mv_inb (nI 0) 69) <|
    some ([Sum.inl (Value.int ((v2 - (rI2 h1 902 o0 (nI 2).toNatClampNeg)) + (rI2 h1 902 o0 (nI 0).toNatClampNeg)))], h1))
  else
  if r2 = nI 4 then (
    mv_gd (mv_inb (nI 2) 69) <|
    some ([Sum.inl (Value.int ((nI 2) * (v2 + (rI2 h1 902 o0 (nI 2).toNatClampNeg))))], h1))
  else
  if r2 = nI 5 then (
    some ([Sum.inl (Value.int (v2 + (nI 1)))], h1))
  else
  some ([Sum.inl (Value.int v2)], h1)) := eN_fightsOf_g fN_its o0 v1 v2 h
theorem GN_fightsOf : ∀ (j : Nat) (C : mv_C H2) (md' : mv_MD × Bool), mv_nth j gN_fightsOf = some C → mv_nth j nN_fightsOf = some md' → ∃ n', n' + 1 ≤ 2 ∧ mv_Cal vw2 n' md' C := fun j C md' => match j with
  | 0 => fun h1 h2 => by
    obtain rfl := Option.some.inj h1
    obtain rfl := Option.some.inj h2
    exact ⟨1, by decide, cN_its_ok⟩
  | jj + 1 => fun h1 _ => by cases jj <;> cases h1

set_option maxRecDepth 20000 in
theorem xN_fightsOf {g0 : mv_G} {res : List mv_V × H2} (o0 : Nat) (v1 : Int32) (v2 : Int32) (h : H2) (hh : fN_fightsOf o0 v1 v2 h = some res) : mv_X vw2 mdN_fightsOf 2 0 0 none g0 res 0 [(0, Sum.inr (8, o0)), (1, Sum.inl (Value.int v1)), (2, Sum.inl (Value.int v2))] [] h 0 0 := by
  refine mv_blkX ax2 (GN_fightsOf) (by decide) kN_fightsOf (fun pc lv st h ce sl hh => ?_) ((eN_fightsOf  o0 v1 v2 h).trans hh)
  cases hh

theorem mN_fightsOf (o0 : Nat) (v1 : Int32) (v2 : Int32) (h : H2) (vs : List mv_V) (h' : H2) (hh : fN_fightsOf o0 v1 v2 h = some (vs, h')) : mv_Met vw2 2 0 0 mdN_fightsOf [Sum.inr (8, o0), Sum.inl (Value.int v1), Sum.inl (Value.int v2)] h vs h' :=
  mv_Met_of (by decide +kernel) (Nat.le_of_ble_eq_true rfl) (xN_fightsOf o0 v1 v2 h hh)
theorem cN_fightsOf_ok : mv_Cal vw2 2 (mdN_fightsOf, true) ((0, 0), cN_fightsOf) := by
  intro as h k res hh
  change cN_fightsOf as h k = some res at hh
  unfold cN_fightsOf at hh
  split at hh
  · obtain ⟨hg0, ha0⟩ := mv_gd_some hh
    obtain rfl := Nat.eq_of_beq_eq_true hg0
    obtain ⟨x, h', h1, h9⟩ := mv_rI_some ha0
    exact ⟨_, _, h9, (by first | decide | exact Nat.le_refl _ | exact Nat.zero_le _), fun _ => ⟨_, _, _, rfl, Or.inl ⟨by decide, rfl⟩⟩, (mN_fightsOf _ _ _ h _ _ h1)⟩
  · cases hh

set_option maxRecDepth 100000 in
theorem kN_fadesOf : mv_tok mdN_fadesOf nN_fadesOf tN_fadesOf = true := by decide +kernel
def cN_itsG_N_fadesOf (F1 : Nat → Int32 → Int32 → H2 → O2) : List mv_V → H2 → (List mv_V → H2 → O2) → O2 := fun as h k => match as with
  | [.inr (t0, o0), .inl (.int v1), .inl (.int v2)] => mv_gd (Nat.beq t0 8) <| mv_rI (F1 o0 v1 v2 h) fun x h => k [.inl (.int x)] h
  | _ => none
set_option maxRecDepth 100000 in
set_option maxHeartbeats 1000000 in
theorem eN_fadesOf_g (F1 : Nat → Int32 → Int32 → H2 → O2) (o0 : Nat) (v1 : Int32) (h : H2) : mv_blk rI2 rR2 ln2 wI2 wR2 nw2 cp2 bod none tN_fadesOf [((0, 0), cN_itsG_N_fadesOf F1)] 0 0 [] (fun _ _ _ _ _ _ => none) 400 (mv_seek 0 tN_fadesOf) [(0, Sum.inr (8, o0)), (1, Sum.inl (Value.int v1))] [] h 0 0 = (
  mv_gd (mv_inb (nI 1) 69) <|
  mv_bi (rI2 h 902 o0 (nI 1).toNatClampNeg) fun x1 =>
  mv_rI (F1 o0 v1 (nI 0) h) fun r3 h2 =>
  if r3 = nI 1 then (
    some ([Sum.inl (Value.int (x1 - (nI 1)))], h2))
  else
  if r3 = nI 2 then (
    some ([Sum.inl (Value.int (x1 + (nI 1)))], h2))
  else
  if r3 = nI 3 then (
    some ([Sum.inl (Value.int (nI 0))], h2))
  else
  if r3 = nI 4 then (
    some ([Sum.inl (Value.int ((nI 2) * (x1 + (nI 1))))], h2))
  else
  if r3 = nI 5 then (
    some ([Sum.inl (Value.int (x1 + (nI 3)))], h2))
  else
  some ([Sum.inl (Value.int x1)], h2)) := rfl
theorem eN_fadesOf (o0 : Nat) (v1 : Int32) (h : H2) : mv_blk rI2 rR2 ln2 wI2 wR2 nw2 cp2 bod none tN_fadesOf gN_fadesOf 0 0 [] (fun _ _ _ _ _ _ => none) 400 (mv_seek 0 tN_fadesOf) [(0, Sum.inr (8, o0)), (1, Sum.inl (Value.int v1))] [] h 0 0 = (
  mv_gd (mv_inb (nI 1) 69) <|
  mv_bi (rI2 h 902 o0 (nI 1).toNatClampNeg) fun x1 =>
  mv_rI (fN_its o0 v1 (nI 0) h) fun r3 h2 =>
  if r3 = nI 1 then (
    some ([Sum.inl (Value.int (x1 - (nI 1)))], h2))
  else
  if r3 = nI 2 then (
    some ([Sum.inl (Value.int (x1 + (nI 1)))], h2))
  else
  if r3 = nI 3 then (
    some ([Sum.inl (Value.int (nI 0))], h2))
  else
  if r3 = nI 4 then (
    some ([Sum.inl (Value.int ((nI 2) * (x1 + (nI 1))))], h2))
  else
  if r3 = nI 5 then (
    some ([Sum.inl (Value.int (x1 + (nI 3)))], h2))
  else
  some ([Sum.inl (Value.int x1)], h2)) := eN_fadesOf_g fN_its o0 v1 h
theorem GN_fadesOf : ∀ (j : Nat) (C : mv_C H2) (md' : mv_MD × Bool), mv_nth j gN_fadesOf = some C → mv_nth j nN_fadesOf = some md' → ∃ n', n' + 1 ≤ 2 ∧ mv_Cal vw2 n' md' C := fun j C md' => match j with
  | 0 => fun h1 h2 => by
    obtain rfl := Option.some.inj h1
    obtain rfl := Option.some.inj h2
    exact ⟨1, by decide, cN_its_ok⟩
  | jj + 1 => fun h1 _ => by cases jj <;> cases h1

set_option maxRecDepth 20000 in
theorem xN_fadesOf {g0 : mv_G} {res : List mv_V × H2} (o0 : Nat) (v1 : Int32) (h : H2) (hh : fN_fadesOf o0 v1 h = some res) : mv_X vw2 mdN_fadesOf 2 0 0 none g0 res 0 [(0, Sum.inr (8, o0)), (1, Sum.inl (Value.int v1))] [] h 0 0 := by
  refine mv_blkX ax2 (GN_fadesOf) (by decide) kN_fadesOf (fun pc lv st h ce sl hh => ?_) ((eN_fadesOf  o0 v1 h).trans hh)
  cases hh

theorem mN_fadesOf (o0 : Nat) (v1 : Int32) (h : H2) (vs : List mv_V) (h' : H2) (hh : fN_fadesOf o0 v1 h = some (vs, h')) : mv_Met vw2 2 0 0 mdN_fadesOf [Sum.inr (8, o0), Sum.inl (Value.int v1)] h vs h' :=
  mv_Met_of (by decide +kernel) (Nat.le_of_ble_eq_true rfl) (xN_fadesOf o0 v1 h hh)
theorem cN_fadesOf_ok : mv_Cal vw2 2 (mdN_fadesOf, true) ((0, 0), cN_fadesOf) := by
  intro as h k res hh
  change cN_fadesOf as h k = some res at hh
  unfold cN_fadesOf at hh
  split at hh
  · obtain ⟨hg0, ha0⟩ := mv_gd_some hh
    obtain rfl := Nat.eq_of_beq_eq_true hg0
    obtain ⟨x, h', h1, h9⟩ := mv_rI_some ha0
    exact ⟨_, _, h9, (by first | decide | exact Nat.le_refl _ | exact Nat.zero_le _), fun _ => ⟨_, _, _, rfl, Or.inl ⟨by decide, rfl⟩⟩, (mN_fadesOf _ _ h _ _ h1)⟩
  · cases hh

set_option maxRecDepth 100000 in
theorem kN_adds : mv_tok mdN_adds nN_adds tN_adds = true := by decide +kernel
def cN_setsG_N_adds (F1 : Nat → Int32 → Int32 → Int32 → H2 → O2) : List mv_V → H2 → (List mv_V → H2 → O2) → O2 := fun as h k => match as with
  | [.inr (t0, o0), .inl (.int v1), .inl (.int v2), .inl (.int v3)] => mv_gd (Nat.beq t0 8) <| mv_rV (F1 o0 v1 v2 v3 h) fun h => k [] h
  | _ => none
set_option maxRecDepth 100000 in
set_option maxHeartbeats 1000000 in
theorem eN_adds_g (F1 : Nat → Int32 → Int32 → Int32 → H2 → O2) (o0 : Nat) (v1 : Int32) (h : H2) : mv_blk rI2 rR2 ln2 wI2 wR2 nw2 cp2 bod none tN_adds [((0, 0), cN_setsG_N_adds F1)] 0 0 [] (fun _ _ _ _ _ _ => none) 400 (mv_seek 0 tN_adds) [(0, Sum.inr (8, o0)), (1, Sum.inl (Value.int v1))] [] h 0 0 = (
  mv_gd (mv_inb (nI 6) 69) <|
  mv_bi (rI2 h 902 o0 (nI 6).toNatClampNeg) fun x1 =>
  mv_gd (mv_inb (nI 6) 69) <|
  mv_gd (mv_inb (nI 6) 69) <|
  mv_bh (wI2 h 902 o0 (nI 6).toNatClampNeg ((rI2 h 902 o0 (nI 6).toNatClampNeg) + (nI 1))) fun h2 =>
  mv_rV (F1 o0 x1 (nI 0) v1 h2) fun h3 =>
  mv_rV (F1 o0 x1 (nI 1) (-(nI 1)) h3) fun h4 =>
  mv_rV (F1 o0 x1 (nI 2) (nI 0) h4) fun h5 =>
  mv_rV (F1 o0 x1 (nI 3) (nI 0) h5) fun h6 =>
  mv_rV (F1 o0 x1 (nI 4) (nI 0) h6) fun h7 =>
  some ([], h7)) := rfl
theorem eN_adds (o0 : Nat) (v1 : Int32) (h : H2) : mv_blk rI2 rR2 ln2 wI2 wR2 nw2 cp2 bod none tN_adds gN_adds 0 0 [] (fun _ _ _ _ _ _ => none) 400 (mv_seek 0 tN_adds) [(0, Sum.inr (8, o0)), (1, Sum.inl (Value.int v1))] [] h 0 0 = (
  mv_gd (mv_inb (nI 6) 69) <|
  mv_bi (rI2 h 902 o0 (nI 6).toNatClampNeg) fun x1 =>
  mv_gd (mv_inb (nI 6) 69) <|
  mv_gd (mv_inb (nI 6) 69) <|
  mv_bh (wI2 h 902 o0 (nI 6).toNatClampNeg ((rI2 h 902 o0 (nI 6).toNatClampNeg) + (nI 1))) fun h2 =>
  mv_rV (fN_sets o0 x1 (nI 0) v1 h2) fun h3 =>
  mv_rV (fN_sets o0 x1 (nI 1) (-(nI 1)) h3) fun h4 =>
  mv_rV (fN_sets o0 x1 (nI 2) (nI 0) h4) fun h5 =>
  mv_rV (fN_sets o0 x1 (nI 3) (nI 0) h5) fun h6 =>
  mv_rV (fN_sets o0 x1 (nI 4) (nI 0) h6) fun h7 =>
  some ([], h7)) := eN_adds_g fN_sets o0 v1 h
theorem GN_adds : ∀ (j : Nat) (C : mv_C H2) (md' : mv_MD × Bool), mv_nth j gN_adds = some C → mv_nth j nN_adds = some md' → ∃ n', n' + 1 ≤ 2 ∧ mv_Cal vw2 n' md' C := fun j C md' => match j with
  | 0 => fun h1 h2 => by
    obtain rfl := Option.some.inj h1
    obtain rfl := Option.some.inj h2
    exact ⟨1, by decide, cN_sets_ok⟩
  | jj + 1 => fun h1 _ => by cases jj <;> cases h1

set_option maxRecDepth 20000 in
theorem xN_adds {g0 : mv_G} {res : List mv_V × H2} (o0 : Nat) (v1 : Int32) (h : H2) (hh : fN_adds o0 v1 h = some res) : mv_X vw2 mdN_adds 2 0 0 none g0 res 0 [(0, Sum.inr (8, o0)), (1, Sum.inl (Value.int v1))] [] h 0 0 := by
  refine mv_blkX ax2 (GN_adds) (by decide) kN_adds (fun pc lv st h ce sl hh => ?_) ((eN_adds  o0 v1 h).trans hh)
  cases hh

theorem mN_adds (o0 : Nat) (v1 : Int32) (h : H2) (vs : List mv_V) (h' : H2) (hh : fN_adds o0 v1 h = some (vs, h')) : mv_Met vw2 2 0 0 mdN_adds [Sum.inr (8, o0), Sum.inl (Value.int v1)] h vs h' :=
  mv_Met_of (by decide +kernel) (Nat.le_of_ble_eq_true rfl) (xN_adds o0 v1 h hh)
theorem cN_adds_ok : mv_Cal vw2 2 (mdN_adds, true) ((0, 0), cN_adds) := by
  intro as h k res hh
  change cN_adds as h k = some res at hh
  unfold cN_adds at hh
  split at hh
  · obtain ⟨hg0, ha0⟩ := mv_gd_some hh
    obtain rfl := Nat.eq_of_beq_eq_true hg0
    obtain ⟨h', h1, h9⟩ := mv_rV_some ha0
    exact ⟨_, _, h9, (by first | decide | exact Nat.le_refl _ | exact Nat.zero_le _), fun _ => ⟨_, _, _, rfl, Or.inl ⟨by decide, rfl⟩⟩, (mN_adds _ _ h _ _ h1)⟩
  · cases hh

set_option maxRecDepth 100000 in
theorem kN_cloth : mv_tok mdN_cloth nN_cloth tN_cloth = true := by decide +kernel
def cN_addsG_N_cloth (F1 : Nat → Int32 → H2 → O2) : List mv_V → H2 → (List mv_V → H2 → O2) → O2 := fun as h k => match as with
  | [.inr (t0, o0), .inl (.int v1)] => mv_gd (Nat.beq t0 8) <| mv_rV (F1 o0 v1 h) fun h => k [] h
  | _ => none
def cN_isKindG_N_cloth (F2 : Int32 → H2 → O2) : List mv_V → H2 → (List mv_V → H2 → O2) → O2 := fun as h k => match as with
  | [.inl (.int v0)] => mv_rI (F2 v0 h) fun x h => k [.inl (.int x)] h
  | _ => none
set_option maxRecDepth 100000 in
set_option maxHeartbeats 1000000 in
theorem eN_cloth_g (F1 : Nat → Int32 → H2 → O2) (F2 : Int32 → H2 → O2) (o0 : Nat) (v1 : Int32) (h : H2) : mv_blk rI2 rR2 ln2 wI2 wR2 nw2 cp2 bod none tN_cloth [((0, 0), cN_isKindG_N_cloth F2), ((0, 0), cN_addsG_N_cloth F1)] 0 0 [] (fun _ _ _ _ _ _ => none) 400 (mv_seek 0 tN_cloth) [(0, Sum.inr (8, o0)), (1, Sum.inl (Value.int v1))] [] h 0 0 = (
  mv_rI (F2 v1 h) fun r2 h1 =>
  if r2 = 0 then (
    some ([Sum.inl (Value.int (-(nI 1)))], h1))
  else
  mv_gd (mv_inb (nI 6) 69) <|
  if (rI2 h1 902 o0 (nI 6).toNatClampNeg) = (nI 8) then (
    some ([Sum.inl (Value.int (-(nI 2)))], h1))
  else
  mv_rV (F1 o0 v1 h1) fun h3 =>
  mv_gd (mv_inb (nI 6) 69) <|
  some ([Sum.inl (Value.int ((rI2 h3 902 o0 (nI 6).toNatClampNeg) - (nI 1)))], h3)) := rfl
theorem eN_cloth (o0 : Nat) (v1 : Int32) (h : H2) : mv_blk rI2 rR2 ln2 wI2 wR2 nw2 cp2 bod none tN_cloth gN_cloth 0 0 [] (fun _ _ _ _ _ _ => none) 400 (mv_seek 0 tN_cloth) [(0, Sum.inr (8, o0)), (1, Sum.inl (Value.int v1))] [] h 0 0 = (
  mv_rI (fN_isKind v1 h) fun r2 h1 =>
  if r2 = 0 then (
    some ([Sum.inl (Value.int (-(nI 1)))], h1))
  else
  mv_gd (mv_inb (nI 6) 69) <|
  if (rI2 h1 902 o0 (nI 6).toNatClampNeg) = (nI 8) then (
    some ([Sum.inl (Value.int (-(nI 2)))], h1))
  else
  mv_rV (fN_adds o0 v1 h1) fun h3 =>
  mv_gd (mv_inb (nI 6) 69) <|
  some ([Sum.inl (Value.int ((rI2 h3 902 o0 (nI 6).toNatClampNeg) - (nI 1)))], h3)) := eN_cloth_g fN_adds fN_isKind o0 v1 h
theorem GN_cloth : ∀ (j : Nat) (C : mv_C H2) (md' : mv_MD × Bool), mv_nth j gN_cloth = some C → mv_nth j nN_cloth = some md' → ∃ n', n' + 1 ≤ 3 ∧ mv_Cal vw2 n' md' C := fun j C md' => match j with
  | 0 => fun h1 h2 => by
    obtain rfl := Option.some.inj h1
    obtain rfl := Option.some.inj h2
    exact ⟨2, by decide, cN_isKind_ok⟩
  | 1 => fun h1 h2 => by
    obtain rfl := Option.some.inj h1
    obtain rfl := Option.some.inj h2
    exact ⟨2, by decide, cN_adds_ok⟩
  | jj + 2 => fun h1 _ => by cases jj <;> cases h1

set_option maxRecDepth 20000 in
theorem xN_cloth {g0 : mv_G} {res : List mv_V × H2} (o0 : Nat) (v1 : Int32) (h : H2) (hh : fN_cloth o0 v1 h = some res) : mv_X vw2 mdN_cloth 3 0 0 none g0 res 0 [(0, Sum.inr (8, o0)), (1, Sum.inl (Value.int v1))] [] h 0 0 := by
  refine mv_blkX ax2 (GN_cloth) (by decide) kN_cloth (fun pc lv st h ce sl hh => ?_) ((eN_cloth  o0 v1 h).trans hh)
  cases hh

theorem mN_cloth (o0 : Nat) (v1 : Int32) (h : H2) (vs : List mv_V) (h' : H2) (hh : fN_cloth o0 v1 h = some (vs, h')) : mv_Met vw2 3 0 0 mdN_cloth [Sum.inr (8, o0), Sum.inl (Value.int v1)] h vs h' :=
  mv_Met_of (by decide +kernel) (Nat.le_of_ble_eq_true rfl) (xN_cloth o0 v1 h hh)
set_option maxRecDepth 100000 in
theorem kN_of : mv_tok mdN_of nN_of tN_of = true := by decide +kernel
def cN_inG_N_of (F1 : Int64 → Int64 → Int64 → H2 → O2) : List mv_V → H2 → (List mv_V → H2 → O2) → O2 := fun as h k => match as with
  | [.inl (.long w0), .inl (.long w2), .inl (.long w4)] => mv_rI (F1 w0 w2 w4 h) fun x h => k [.inl (.int x)] h
  | _ => none
def cN_isClothG_N_of (F2 : Nat → Int32 → H2 → O2) : List mv_V → H2 → (List mv_V → H2 → O2) → O2 := fun as h k => match as with
  | [.inr (t0, o0), .inl (.int v1)] => mv_gd (Nat.beq t0 8) <| mv_rI (F2 o0 v1 h) fun x h => k [.inl (.int x)] h
  | _ => none
def cN_itsG_N_of (F3 : Nat → Int32 → Int32 → H2 → O2) : List mv_V → H2 → (List mv_V → H2 → O2) → O2 := fun as h k => match as with
  | [.inr (t0, o0), .inl (.int v1), .inl (.int v2)] => mv_gd (Nat.beq t0 8) <| mv_rI (F3 o0 v1 v2 h) fun x h => k [.inl (.int x)] h
  | _ => none
set_option maxRecDepth 100000 in
set_option maxHeartbeats 1000000 in
theorem eN_of_g (F1 : Int64 → Int64 → Int64 → H2 → O2) (F2 : Nat → Int32 → H2 → O2) (F3 : Nat → Int32 → Int32 → H2 → O2) (o0 : Nat) (v1 : Int32) (v2 : Int32) (h : H2) : mv_blk rI2 rR2 ln2 wI2 wR2 nw2 cp2 bod none tN_of [((0, 0), cN_isClothG_N_of F2), ((0, 0), cN_inG_N_of F1), ((0, 0), cN_itsG_N_of F3)] 0 0 [] (fun _ _ _ _ _ _ => none) 400 (mv_seek 0 tN_of) [(0, Sum.inr (8, o0)), (1, Sum.inl (Value.int v1)), (2, Sum.inl (Value.int v2))] [] h 0 0 = (
  mv_rI (F2 o0 v1 h) fun r2 h1 =>
  if r2 = 0 then (
    some ([Sum.inl (Value.int (-(nI 1)))], h1))
  else
  mv_rI (F1 v2.toInt64 (lN 0) (lN 4) h1) fun r4 h3 =>
  if r4 = 0 then (
    some ([Sum.inl (Value.int (-(nI 1)))], h3))
  else
  if v2 = (nI 1) then (
    mv_rI (F3 o0 v1 (nI 1) h3) fun r6 h5 =>
    some ([Sum.inl (Value.int ((nI 1) + r6))], h5))
  else
  mv_rI (F3 o0 v1 v2 h3) fun r8 h7 =>
  some ([Sum.inl (Value.int r8)], h7)) := rfl
theorem eN_of (o0 : Nat) (v1 : Int32) (v2 : Int32) (h : H2) : mv_blk rI2 rR2 ln2 wI2 wR2 nw2 cp2 bod none tN_of gN_of 0 0 [] (fun _ _ _ _ _ _ => none) 400 (mv_seek 0 tN_of) [(0, Sum.inr (8, o0)), (1, Sum.inl (Value.int v1)), (2, Sum.inl (Value.int v2))] [] h 0 0 = (
  mv_rI (fN_isCloth o0 v1 h) fun r2 h1 =>
  if r2 = 0 then (
    some ([Sum.inl (Value.int (-(nI 1)))], h1))
  else
  mv_rI (fN_in v2.toInt64 (lN 0) (lN 4) h1) fun r4 h3 =>
  if r4 = 0 then (
    some ([Sum.inl (Value.int (-(nI 1)))], h3))
  else
  if v2 = (nI 1) then (
    mv_rI (fN_its o0 v1 (nI 1) h3) fun r6 h5 =>
    some ([Sum.inl (Value.int ((nI 1) + r6))], h5))
  else
  mv_rI (fN_its o0 v1 v2 h3) fun r8 h7 =>
  some ([Sum.inl (Value.int r8)], h7)) := eN_of_g fN_in fN_isCloth fN_its o0 v1 v2 h
theorem GN_of : ∀ (j : Nat) (C : mv_C H2) (md' : mv_MD × Bool), mv_nth j gN_of = some C → mv_nth j nN_of = some md' → ∃ n', n' + 1 ≤ 3 ∧ mv_Cal vw2 n' md' C := fun j C md' => match j with
  | 0 => fun h1 h2 => by
    obtain rfl := Option.some.inj h1
    obtain rfl := Option.some.inj h2
    exact ⟨2, by decide, cN_isCloth_ok⟩
  | 1 => fun h1 h2 => by
    obtain rfl := Option.some.inj h1
    obtain rfl := Option.some.inj h2
    exact ⟨1, by decide, cN_in_ok⟩
  | 2 => fun h1 h2 => by
    obtain rfl := Option.some.inj h1
    obtain rfl := Option.some.inj h2
    exact ⟨1, by decide, cN_its_ok⟩
  | jj + 3 => fun h1 _ => by cases jj <;> cases h1

set_option maxRecDepth 20000 in
theorem xN_of {g0 : mv_G} {res : List mv_V × H2} (o0 : Nat) (v1 : Int32) (v2 : Int32) (h : H2) (hh : fN_of o0 v1 v2 h = some res) : mv_X vw2 mdN_of 3 0 0 none g0 res 0 [(0, Sum.inr (8, o0)), (1, Sum.inl (Value.int v1)), (2, Sum.inl (Value.int v2))] [] h 0 0 := by
  refine mv_blkX ax2 (GN_of) (by decide) kN_of (fun pc lv st h ce sl hh => ?_) ((eN_of  o0 v1 v2 h).trans hh)
  cases hh

theorem mN_of (o0 : Nat) (v1 : Int32) (v2 : Int32) (h : H2) (vs : List mv_V) (h' : H2) (hh : fN_of o0 v1 v2 h = some (vs, h')) : mv_Met vw2 3 0 0 mdN_of [Sum.inr (8, o0), Sum.inl (Value.int v1), Sum.inl (Value.int v2)] h vs h' :=
  mv_Met_of (by decide +kernel) (Nat.le_of_ble_eq_true rfl) (xN_of o0 v1 v2 h hh)
set_option maxRecDepth 100000 in
theorem kN_does : mv_tok mdN_does nN_does tN_does = true := by decide +kernel
def cN_fadesOfG_N_does (F1 : Nat → Int32 → H2 → O2) : List mv_V → H2 → (List mv_V → H2 → O2) → O2 := fun as h k => match as with
  | [.inr (t0, o0), .inl (.int v1)] => mv_gd (Nat.beq t0 8) <| mv_rI (F1 o0 v1 h) fun x h => k [.inl (.int x)] h
  | _ => none
def cN_fightsOfG_N_does (F2 : Nat → Int32 → Int32 → H2 → O2) : List mv_V → H2 → (List mv_V → H2 → O2) → O2 := fun as h k => match as with
  | [.inr (t0, o0), .inl (.int v1), .inl (.int v2)] => mv_gd (Nat.beq t0 8) <| mv_rI (F2 o0 v1 v2 h) fun x h => k [.inl (.int x)] h
  | _ => none
def cN_inG_N_does (F3 : Int64 → Int64 → Int64 → H2 → O2) : List mv_V → H2 → (List mv_V → H2 → O2) → O2 := fun as h k => match as with
  | [.inl (.long w0), .inl (.long w2), .inl (.long w4)] => mv_rI (F3 w0 w2 w4 h) fun x h => k [.inl (.int x)] h
  | _ => none
def cN_isClothG_N_does (F4 : Nat → Int32 → H2 → O2) : List mv_V → H2 → (List mv_V → H2 → O2) → O2 := fun as h k => match as with
  | [.inr (t0, o0), .inl (.int v1)] => mv_gd (Nat.beq t0 8) <| mv_rI (F4 o0 v1 h) fun x h => k [.inl (.int x)] h
  | _ => none
def cN_isVatG_N_does (F5 : Int32 → H2 → O2) : List mv_V → H2 → (List mv_V → H2 → O2) → O2 := fun as h k => match as with
  | [.inl (.int v0)] => mv_rI (F5 v0 h) fun x h => k [.inl (.int x)] h
  | _ => none
def cN_takesOfG_N_does (F6 : Nat → Int32 → Int32 → H2 → O2) : List mv_V → H2 → (List mv_V → H2 → O2) → O2 := fun as h k => match as with
  | [.inr (t0, o0), .inl (.int v1), .inl (.int v2)] => mv_gd (Nat.beq t0 8) <| mv_rI (F6 o0 v1 v2 h) fun x h => k [.inl (.int x)] h
  | _ => none
set_option maxRecDepth 100000 in
set_option maxHeartbeats 1000000 in
theorem eN_does_g (F1 : Nat → Int32 → H2 → O2) (F2 : Nat → Int32 → Int32 → H2 → O2) (F3 : Int64 → Int64 → Int64 → H2 → O2) (F4 : Nat → Int32 → H2 → O2) (F5 : Int32 → H2 → O2) (F6 : Nat → Int32 → Int32 → H2 → O2) (o0 : Nat) (v1 : Int32) (v2 : Int32) (v3 : Int32) (h : H2) : mv_blk rI2 rR2 ln2 wI2 wR2 nw2 cp2 bod none tN_does [((0, 0), cN_isClothG_N_does F4), ((0, 0), cN_isVatG_N_does F5), ((0, 0), cN_inG_N_does F3), ((0, 0), cN_takesOfG_N_does F6), ((0, 0), cN_fightsOfG_N_does F2), ((0, 0), cN_fadesOfG_N_does F1)] 0 0 [] (fun _ _ _ _ _ _ => none) 400 (mv_seek 0 tN_does) [(0, Sum.inr (8, o0)), (1, Sum.inl (Value.int v1)), (2, Sum.inl (Value.int v2)), (3, Sum.inl (Value.int v3))] [] h 0 0 = (
  mv_rI (F4 o0 v1 h) fun r2 h1 =>
  if r2 = 0 then (
    some ([Sum.inl (Value.int (-(nI 1)))], h1))
  else
  mv_rI (F5 v2 h1) fun r4 h3 =>
  if r4 = 0 then (
    some ([Sum.inl (Value.int (-(nI 1)))], h3))
  else
  mv_rI (F3 v3.toInt64 (lN 0) (lN 2) h3) fun r6 h5 =>
  if r6 = 0 then (
    some ([Sum.inl (Value.int (-(nI 1)))], h5))
  else
  mv_gd (mv_inb ((nI 15) + v2) 69) <|
  mv_bi (rI2 h5 902 o0 ((nI 15) + v2).toNatClampNeg) fun x7 =>
  if v3 = 0 then (
    mv_rI (F6 o0 v1 x7 h5) fun r9 h8 =>
    some ([Sum.inl (Value.int ((nI 1000) + r9))], h8))
  else
  if v3 = (nI 1) then (
    mv_rI (F2 o0 v1 x7 h5) fun r11 h10 =>
    some ([Sum.inl (Value.int ((nI 1000) + r11))], h10))
  else
  mv_rI (F1 o0 v1 h5) fun r13 h12 =>
  some ([Sum.inl (Value.int ((nI 1000) + r13))], h12)) := rfl
theorem eN_does (o0 : Nat) (v1 : Int32) (v2 : Int32) (v3 : Int32) (h : H2) : mv_blk rI2 rR2 ln2 wI2 wR2 nw2 cp2 bod none tN_does gN_does 0 0 [] (fun _ _ _ _ _ _ => none) 400 (mv_seek 0 tN_does) [(0, Sum.inr (8, o0)), (1, Sum.inl (Value.int v1)), (2, Sum.inl (Value.int v2)), (3, Sum.inl (Value.int v3))] [] h 0 0 = (
  mv_rI (fN_isCloth o0 v1 h) fun r2 h1 =>
  if r2 = 0 then (
    some ([Sum.inl (Value.int (-(nI 1)))], h1))
  else
  mv_rI (fN_isVat v2 h1) fun r4 h3 =>
  if r4 = 0 then (
    some ([Sum.inl (Value.int (-(nI 1)))], h3))
  else
  mv_rI (fN_in v3.toInt64 (lN 0) (lN 2) h3) fun r6 h5 =>
  if r6 = 0 then (
    some ([Sum.inl (Value.int (-(nI 1)))], h5))
  else
  mv_gd (mv_inb ((nI 15) + v2) 69) <|
  mv_bi (rI2 h5 902 o0 ((nI 15) + v2).toNatClampNeg) fun x7 =>
  if v3 = 0 then (
    mv_rI (fN_takesOf o0 v1 x7 h5) fun r9 h8 =>
    some ([Sum.inl (Value.int ((nI 1000) + r9))], h8))
  else
  if v3 = (nI 1) then (
    mv_rI (fN_fightsOf o0 v1 x7 h5) fun r11 h10 =>
    some ([Sum.inl (Value.int ((nI 1000) + r11))], h10))
  else
  mv_rI (fN_fadesOf o0 v1 h5) fun r13 h12 =>
  some ([Sum.inl (Value.int ((nI 1000) + r13))], h12)) := eN_does_g fN_fadesOf fN_fightsOf fN_in fN_isCloth fN_isVat fN_takesOf o0 v1 v2 v3 h
theorem GN_does : ∀ (j : Nat) (C : mv_C H2) (md' : mv_MD × Bool), mv_nth j gN_does = some C → mv_nth j nN_does = some md' → ∃ n', n' + 1 ≤ 3 ∧ mv_Cal vw2 n' md' C := fun j C md' => match j with
  | 0 => fun h1 h2 => by
    obtain rfl := Option.some.inj h1
    obtain rfl := Option.some.inj h2
    exact ⟨2, by decide, cN_isCloth_ok⟩
  | 1 => fun h1 h2 => by
    obtain rfl := Option.some.inj h1
    obtain rfl := Option.some.inj h2
    exact ⟨2, by decide, cN_isVat_ok⟩
  | 2 => fun h1 h2 => by
    obtain rfl := Option.some.inj h1
    obtain rfl := Option.some.inj h2
    exact ⟨1, by decide, cN_in_ok⟩
  | 3 => fun h1 h2 => by
    obtain rfl := Option.some.inj h1
    obtain rfl := Option.some.inj h2
    exact ⟨2, by decide, cN_takesOf_ok⟩
  | 4 => fun h1 h2 => by
    obtain rfl := Option.some.inj h1
    obtain rfl := Option.some.inj h2
    exact ⟨2, by decide, cN_fightsOf_ok⟩
  | 5 => fun h1 h2 => by
    obtain rfl := Option.some.inj h1
    obtain rfl := Option.some.inj h2
    exact ⟨2, by decide, cN_fadesOf_ok⟩
  | jj + 6 => fun h1 _ => by cases jj <;> cases h1

set_option maxRecDepth 20000 in
theorem xN_does {g0 : mv_G} {res : List mv_V × H2} (o0 : Nat) (v1 : Int32) (v2 : Int32) (v3 : Int32) (h : H2) (hh : fN_does o0 v1 v2 v3 h = some res) : mv_X vw2 mdN_does 3 0 0 none g0 res 0 [(0, Sum.inr (8, o0)), (1, Sum.inl (Value.int v1)), (2, Sum.inl (Value.int v2)), (3, Sum.inl (Value.int v3))] [] h 0 0 := by
  refine mv_blkX ax2 (GN_does) (by decide) kN_does (fun pc lv st h ce sl hh => ?_) ((eN_does  o0 v1 v2 v3 h).trans hh)
  cases hh

theorem mN_does (o0 : Nat) (v1 : Int32) (v2 : Int32) (v3 : Int32) (h : H2) (vs : List mv_V) (h' : H2) (hh : fN_does o0 v1 v2 v3 h = some (vs, h')) : mv_Met vw2 3 0 0 mdN_does [Sum.inr (8, o0), Sum.inl (Value.int v1), Sum.inl (Value.int v2), Sum.inl (Value.int v3)] h vs h' :=
  mv_Met_of (by decide +kernel) (Nat.le_of_ble_eq_true rfl) (xN_does o0 v1 v2 v3 h hh)
set_option maxRecDepth 100000 in
theorem kN_changed : mv_tok mdN_changed nN_changed tN_changed = true := by decide +kernel
def cN_becomesG_N_changed (F1 : Nat → Int32 → Int32 → H2 → O2) : List mv_V → H2 → (List mv_V → H2 → O2) → O2 := fun as h k => match as with
  | [.inr (t0, o0), .inl (.int v1), .inl (.int v2)] => mv_gd (Nat.beq t0 8) <| mv_rI (F1 o0 v1 v2 h) fun x h => k [.inl (.int x)] h
  | _ => none
set_option maxRecDepth 100000 in
set_option maxHeartbeats 1000000 in
theorem eN_changed_g (F1 : Nat → Int32 → Int32 → H2 → O2) (o0 : Nat) (v1 : Int32) (v2 : Int32) (v3 : Int32) (h : H2) : mv_blk rI2 rR2 ln2 wI2 wR2 nw2 cp2 bod none tN_changed [((0, 0), cN_becomesG_N_changed F1)] 0 0 [] (fun _ _ _ _ _ _ => none) 400 (mv_seek 0 tN_changed) [(0, Sum.inr (8, o0)), (1, Sum.inl (Value.int v1)), (2, Sum.inl (Value.int v2)), (3, Sum.inl (Value.int v3))] [] h 0 0 = (
  mv_rI (F1 o0 (((nI 29) + ((nI 5) * v1)) + v2) v3 h) fun r2 h1 =>
  some ([Sum.inl (Value.int r2)], h1)) := rfl
theorem eN_changed (o0 : Nat) (v1 : Int32) (v2 : Int32) (v3 : Int32) (h : H2) : mv_blk rI2 rR2 ln2 wI2 wR2 nw2 cp2 bod none tN_changed gN_changed 0 0 [] (fun _ _ _ _ _ _ => none) 400 (mv_seek 0 tN_changed) [(0, Sum.inr (8, o0)), (1, Sum.inl (Value.int v1)), (2, Sum.inl (Value.int v2)), (3, Sum.inl (Value.int v3))] [] h 0 0 = (
  mv_rI (fN_becomes o0 (((nI 29) + ((nI 5) * v1)) + v2) v3 h) fun r2 h1 =>
  some ([Sum.inl (Value.int r2)], h1)) := eN_changed_g fN_becomes o0 v1 v2 v3 h
theorem GN_changed : ∀ (j : Nat) (C : mv_C H2) (md' : mv_MD × Bool), mv_nth j gN_changed = some C → mv_nth j nN_changed = some md' → ∃ n', n' + 1 ≤ 2 ∧ mv_Cal vw2 n' md' C := fun j C md' => match j with
  | 0 => fun h1 h2 => by
    obtain rfl := Option.some.inj h1
    obtain rfl := Option.some.inj h2
    exact ⟨1, by decide, cN_becomes_ok⟩
  | jj + 1 => fun h1 _ => by cases jj <;> cases h1

set_option maxRecDepth 20000 in
theorem xN_changed {g0 : mv_G} {res : List mv_V × H2} (o0 : Nat) (v1 : Int32) (v2 : Int32) (v3 : Int32) (h : H2) (hh : fN_changed o0 v1 v2 v3 h = some res) : mv_X vw2 mdN_changed 2 0 0 none g0 res 0 [(0, Sum.inr (8, o0)), (1, Sum.inl (Value.int v1)), (2, Sum.inl (Value.int v2)), (3, Sum.inl (Value.int v3))] [] h 0 0 := by
  refine mv_blkX ax2 (GN_changed) (by decide) kN_changed (fun pc lv st h ce sl hh => ?_) ((eN_changed  o0 v1 v2 v3 h).trans hh)
  cases hh

theorem mN_changed (o0 : Nat) (v1 : Int32) (v2 : Int32) (v3 : Int32) (h : H2) (vs : List mv_V) (h' : H2) (hh : fN_changed o0 v1 v2 v3 h = some (vs, h')) : mv_Met vw2 2 0 0 mdN_changed [Sum.inr (8, o0), Sum.inl (Value.int v1), Sum.inl (Value.int v2), Sum.inl (Value.int v3)] h vs h' :=
  mv_Met_of (by decide +kernel) (Nat.le_of_ble_eq_true rfl) (xN_changed o0 v1 v2 v3 h hh)
theorem cN_changed_ok : mv_Cal vw2 2 (mdN_changed, true) ((0, 0), cN_changed) := by
  intro as h k res hh
  change cN_changed as h k = some res at hh
  unfold cN_changed at hh
  split at hh
  · obtain ⟨hg0, ha0⟩ := mv_gd_some hh
    obtain rfl := Nat.eq_of_beq_eq_true hg0
    obtain ⟨x, h', h1, h9⟩ := mv_rI_some ha0
    exact ⟨_, _, h9, (by first | decide | exact Nat.le_refl _ | exact Nat.zero_le _), fun _ => ⟨_, _, _, rfl, Or.inl ⟨by decide, rfl⟩⟩, (mN_changed _ _ _ _ h _ _ h1)⟩
  · cases hh

set_option maxRecDepth 100000 in
theorem kN_mind : mv_tok mdN_mind nN_mind tN_mind = true := by decide +kernel
def cN_changedG_N_mind (F1 : Nat → Int32 → Int32 → Int32 → H2 → O2) : List mv_V → H2 → (List mv_V → H2 → O2) → O2 := fun as h k => match as with
  | [.inr (t0, o0), .inl (.int v1), .inl (.int v2), .inl (.int v3)] => mv_gd (Nat.beq t0 8) <| mv_rI (F1 o0 v1 v2 v3 h) fun x h => k [.inl (.int x)] h
  | _ => none
def cN_isClothG_N_mind (F2 : Nat → Int32 → H2 → O2) : List mv_V → H2 → (List mv_V → H2 → O2) → O2 := fun as h k => match as with
  | [.inr (t0, o0), .inl (.int v1)] => mv_gd (Nat.beq t0 8) <| mv_rI (F2 o0 v1 h) fun x h => k [.inl (.int x)] h
  | _ => none
def cN_isKindG_N_mind (F3 : Int32 → H2 → O2) : List mv_V → H2 → (List mv_V → H2 → O2) → O2 := fun as h k => match as with
  | [.inl (.int v0)] => mv_rI (F3 v0 h) fun x h => k [.inl (.int x)] h
  | _ => none
set_option maxRecDepth 100000 in
set_option maxHeartbeats 1000000 in
theorem eN_mind_g (F1 : Nat → Int32 → Int32 → Int32 → H2 → O2) (F2 : Nat → Int32 → H2 → O2) (F3 : Int32 → H2 → O2) (o0 : Nat) (v1 : Int32) (v2 : Int32) (h : H2) : mv_blk rI2 rR2 ln2 wI2 wR2 nw2 cp2 bod none tN_mind [((0, 0), cN_isClothG_N_mind F2), ((0, 0), cN_isKindG_N_mind F3), ((0, 0), cN_changedG_N_mind F1)] 0 0 [] (fun _ _ _ _ _ _ => none) 400 (mv_seek 0 tN_mind) [(0, Sum.inr (8, o0)), (1, Sum.inl (Value.int v1)), (2, Sum.inl (Value.int v2))] [] h 0 0 = (
  mv_rI (F2 o0 v1 h) fun r2 h1 =>
  if r2 = 0 then (
    some ([Sum.inl (Value.int (-(nI 1)))], h1))
  else
  mv_rI (F3 v2 h1) fun r4 h3 =>
  if r4 = 0 then (
    some ([Sum.inl (Value.int (-(nI 1)))], h3))
  else
  mv_rI (F1 o0 v1 (nI 0) v2 h3) fun r6 h5 =>
  some ([Sum.inl (Value.int r6)], h5)) := rfl
theorem eN_mind (o0 : Nat) (v1 : Int32) (v2 : Int32) (h : H2) : mv_blk rI2 rR2 ln2 wI2 wR2 nw2 cp2 bod none tN_mind gN_mind 0 0 [] (fun _ _ _ _ _ _ => none) 400 (mv_seek 0 tN_mind) [(0, Sum.inr (8, o0)), (1, Sum.inl (Value.int v1)), (2, Sum.inl (Value.int v2))] [] h 0 0 = (
  mv_rI (fN_isCloth o0 v1 h) fun r2 h1 =>
  if r2 = 0 then (
    some ([Sum.inl (Value.int (-(nI 1)))], h1))
  else
  mv_rI (fN_isKind v2 h1) fun r4 h3 =>
  if r4 = 0 then (
    some ([Sum.inl (Value.int (-(nI 1)))], h3))
  else
  mv_rI (fN_changed o0 v1 (nI 0) v2 h3) fun r6 h5 =>
  some ([Sum.inl (Value.int r6)], h5)) := eN_mind_g fN_changed fN_isCloth fN_isKind o0 v1 v2 h
theorem GN_mind : ∀ (j : Nat) (C : mv_C H2) (md' : mv_MD × Bool), mv_nth j gN_mind = some C → mv_nth j nN_mind = some md' → ∃ n', n' + 1 ≤ 3 ∧ mv_Cal vw2 n' md' C := fun j C md' => match j with
  | 0 => fun h1 h2 => by
    obtain rfl := Option.some.inj h1
    obtain rfl := Option.some.inj h2
    exact ⟨2, by decide, cN_isCloth_ok⟩
  | 1 => fun h1 h2 => by
    obtain rfl := Option.some.inj h1
    obtain rfl := Option.some.inj h2
    exact ⟨2, by decide, cN_isKind_ok⟩
  | 2 => fun h1 h2 => by
    obtain rfl := Option.some.inj h1
    obtain rfl := Option.some.inj h2
    exact ⟨2, by decide, cN_changed_ok⟩
  | jj + 3 => fun h1 _ => by cases jj <;> cases h1

set_option maxRecDepth 20000 in
theorem xN_mind {g0 : mv_G} {res : List mv_V × H2} (o0 : Nat) (v1 : Int32) (v2 : Int32) (h : H2) (hh : fN_mind o0 v1 v2 h = some res) : mv_X vw2 mdN_mind 3 0 0 none g0 res 0 [(0, Sum.inr (8, o0)), (1, Sum.inl (Value.int v1)), (2, Sum.inl (Value.int v2))] [] h 0 0 := by
  refine mv_blkX ax2 (GN_mind) (by decide) kN_mind (fun pc lv st h ce sl hh => ?_) ((eN_mind  o0 v1 v2 h).trans hh)
  cases hh

theorem mN_mind (o0 : Nat) (v1 : Int32) (v2 : Int32) (h : H2) (vs : List mv_V) (h' : H2) (hh : fN_mind o0 v1 v2 h = some (vs, h')) : mv_Met vw2 3 0 0 mdN_mind [Sum.inr (8, o0), Sum.inl (Value.int v1), Sum.inl (Value.int v2)] h vs h' :=
  mv_Met_of (by decide +kernel) (Nat.le_of_ble_eq_true rfl) (xN_mind o0 v1 v2 h hh)
set_option maxRecDepth 100000 in
theorem kN_isDeep : mv_tok mdN_isDeep nN_isDeep tN_isDeep = true := by decide +kernel
def cN_setsG_N_isDeep (F1 : Nat → Int32 → Int32 → Int32 → H2 → O2) : List mv_V → H2 → (List mv_V → H2 → O2) → O2 := fun as h k => match as with
  | [.inr (t0, o0), .inl (.int v1), .inl (.int v2), .inl (.int v3)] => mv_gd (Nat.beq t0 8) <| mv_rV (F1 o0 v1 v2 v3 h) fun h => k [] h
  | _ => none
set_option maxRecDepth 100000 in
set_option maxHeartbeats 1000000 in
theorem eN_isDeep_g (F1 : Nat → Int32 → Int32 → Int32 → H2 → O2) (o0 : Nat) (v1 : Int32) (v2 : Int32) (h : H2) : mv_blk rI2 rR2 ln2 wI2 wR2 nw2 cp2 bod none tN_isDeep [((0, 0), cN_setsG_N_isDeep F1)] 0 0 [] (fun _ _ _ _ _ _ => none) 400 (mv_seek 0 tN_isDeep) [(0, Sum.inr (8, o0)), (1, Sum.inl (Value.int v1)), (2, Sum.inl (Value.int v2))] [] h 0 0 = (
  mv_rV (F1 o0 v1 (nI 2) (if (nI 0) < (if v2 < (nI 99) then v2 else (nI 99)) then (if v2 < (nI 99) then v2 else (nI 99)) else (nI 0)) h) fun h1 =>
  if 0 < v2 then (
    some ([], h1))
  else
  mv_rV (F1 o0 v1 (nI 1) (-(nI 1)) h1) fun h2 =>
  some ([], h2)) := rfl
theorem eN_isDeep (o0 : Nat) (v1 : Int32) (v2 : Int32) (h : H2) : mv_blk rI2 rR2 ln2 wI2 wR2 nw2 cp2 bod none tN_isDeep gN_isDeep 0 0 [] (fun _ _ _ _ _ _ => none) 400 (mv_seek 0 tN_isDeep) [(0, Sum.inr (8, o0)), (1, Sum.inl (Value.int v1)), (2, Sum.inl (Value.int v2))] [] h 0 0 = (
  mv_rV (fN_sets o0 v1 (nI 2) (if (nI 0) < (if v2 < (nI 99) then v2 else (nI 99)) then (if v2 < (nI 99) then v2 else (nI 99)) else (nI 0)) h) fun h1 =>
  if 0 < v2 then (
    some ([], h1))
  else
  mv_rV (fN_sets o0 v1 (nI 1) (-(nI 1)) h1) fun h2 =>
  some ([], h2)) := eN_isDeep_g fN_sets o0 v1 v2 h
theorem GN_isDeep : ∀ (j : Nat) (C : mv_C H2) (md' : mv_MD × Bool), mv_nth j gN_isDeep = some C → mv_nth j nN_isDeep = some md' → ∃ n', n' + 1 ≤ 2 ∧ mv_Cal vw2 n' md' C := fun j C md' => match j with
  | 0 => fun h1 h2 => by
    obtain rfl := Option.some.inj h1
    obtain rfl := Option.some.inj h2
    exact ⟨1, by decide, cN_sets_ok⟩
  | jj + 1 => fun h1 _ => by cases jj <;> cases h1

set_option maxRecDepth 20000 in
theorem xN_isDeep {g0 : mv_G} {res : List mv_V × H2} (o0 : Nat) (v1 : Int32) (v2 : Int32) (h : H2) (hh : fN_isDeep o0 v1 v2 h = some res) : mv_X vw2 mdN_isDeep 2 0 0 none g0 res 0 [(0, Sum.inr (8, o0)), (1, Sum.inl (Value.int v1)), (2, Sum.inl (Value.int v2))] [] h 0 0 := by
  refine mv_blkX ax2 (GN_isDeep) (by decide) kN_isDeep (fun pc lv st h ce sl hh => ?_) ((eN_isDeep  o0 v1 v2 h).trans hh)
  cases hh

theorem mN_isDeep (o0 : Nat) (v1 : Int32) (v2 : Int32) (h : H2) (vs : List mv_V) (h' : H2) (hh : fN_isDeep o0 v1 v2 h = some (vs, h')) : mv_Met vw2 2 0 0 mdN_isDeep [Sum.inr (8, o0), Sum.inl (Value.int v1), Sum.inl (Value.int v2)] h vs h' :=
  mv_Met_of (by decide +kernel) (Nat.le_of_ble_eq_true rfl) (xN_isDeep o0 v1 v2 h hh)
theorem cN_isDeep_ok : mv_Cal vw2 2 (mdN_isDeep, true) ((0, 0), cN_isDeep) := by
  intro as h k res hh
  change cN_isDeep as h k = some res at hh
  unfold cN_isDeep at hh
  split at hh
  · obtain ⟨hg0, ha0⟩ := mv_gd_some hh
    obtain rfl := Nat.eq_of_beq_eq_true hg0
    obtain ⟨h', h1, h9⟩ := mv_rV_some ha0
    exact ⟨_, _, h9, (by first | decide | exact Nat.le_refl _ | exact Nat.zero_le _), fun _ => ⟨_, _, _, rfl, Or.inl ⟨by decide, rfl⟩⟩, (mN_isDeep _ _ _ h _ _ h1)⟩
  · cases hh

