set_option maxRecDepth 100000 in
theorem kN_many : mv_tok mdN_many nN_many tN_many = true := by decide +kernel
set_option maxRecDepth 100000 in
set_option maxHeartbeats 8000000 in
theorem eN_many (o0 : Nat) (v1 : Int32) (h : H2) : mv_blk rI2 rR2 ln2 wI2 wR2 nw2 cp2 bod none tN_many gN_many 0 0 [] (fun _ _ _ _ _ _ => none) 400 (mv_seek 0 tN_many) [(0, Sum.inr (8, o0)), (1, Sum.inl (Value.int v1))] [] h 0 0 = (
  if v1 = nI 0 then (
    mv_gd (mv_inb (nI 6) 69) <|
    some ([Sum.inl (Value.int (rI2 h 902 o0 (nI 6).toNatClampNeg))], h))
  else
  if v1 = nI 1 then (
    mv_rI (fN_hungSet o0 h) fun r2 h1 =>
    mv_rI (fN_ones r2 h1) fun r4 h3 =>
    some ([Sum.inl (Value.int r4)], h3))
  else
  if v1 = nI 2 then (
    mv_rI (fN_aboutSet o0 h) fun r6 h5 =>
    mv_rI (fN_ones r6 h5) fun r8 h7 =>
    some ([Sum.inl (Value.int r8)], h7))
  else
  if v1 = nI 3 then (
    mv_rI (fN_purposesAbout o0 h) fun r10 h9 =>
    some ([Sum.inl (Value.int r10)], h9))
  else
  if v1 = nI 4 then (
    some ([Sum.inl (Value.int (rI2 h 8 o0 12))], h))
  else
  if v1 = nI 5 then (
    some ([Sum.inl (Value.int (rI2 h 8 o0 7))], h))
  else
  if v1 = nI 6 then (
    some ([Sum.inl (Value.int (rI2 h 8 o0 20))], h))
  else
  some ([Sum.inl (Value.int (-(nI 1)))], h)) := rfl
theorem GN_many : ∀ (j : Nat) (C : mv_C H2) (md' : mv_MD × Bool), mv_nth j gN_many = some C → mv_nth j nN_many = some md' → ∃ n', n' + 1 ≤ 3 ∧ mv_Cal vw2 n' md' C := fun j C md' => match j with
  | 0 => fun h1 h2 => by
    obtain rfl := Option.some.inj h1
    obtain rfl := Option.some.inj h2
    exact ⟨2, by decide, cN_hungSet_ok⟩
  | 1 => fun h1 h2 => by
    obtain rfl := Option.some.inj h1
    obtain rfl := Option.some.inj h2
    exact ⟨1, by decide, cN_ones_ok⟩
  | 2 => fun h1 h2 => by
    obtain rfl := Option.some.inj h1
    obtain rfl := Option.some.inj h2
    exact ⟨2, by decide, cN_aboutSet_ok⟩
  | 3 => fun h1 h2 => by
    obtain rfl := Option.some.inj h1
    obtain rfl := Option.some.inj h2
    exact ⟨2, by decide, cN_purposesAbout_ok⟩
  | jj + 4 => fun h1 _ => by cases jj <;> cases h1

set_option maxRecDepth 20000 in
theorem xN_many {g0 : mv_G} {res : List mv_V × H2} (o0 : Nat) (v1 : Int32) (h : H2) (hh : fN_many o0 v1 h = some res) : mv_X vw2 mdN_many 3 0 0 none g0 res 0 [(0, Sum.inr (8, o0)), (1, Sum.inl (Value.int v1))] [] h 0 0 := by
  refine mv_blkX ax2 (GN_many) (by decide) kN_many (fun pc lv st h ce sl hh => ?_) ((eN_many  o0 v1 h).trans hh)
  cases hh

theorem mN_many (o0 : Nat) (v1 : Int32) (h : H2) (vs : List mv_V) (h' : H2) (hh : fN_many o0 v1 h = some (vs, h')) : mv_Met vw2 3 0 0 mdN_many [Sum.inr (8, o0), Sum.inl (Value.int v1)] h vs h' :=
  mv_Met_of (by decide +kernel) (Nat.le_of_ble_eq_true rfl) (xN_many o0 v1 h hh)
set_option maxRecDepth 100000 in
theorem kN_keep : mv_tok mdN_keep nN_keep tN_keep = true := by decide +kernel
set_option maxRecDepth 100000 in
set_option maxHeartbeats 8000000 in
theorem eN_keep (o0 : Nat) (h : H2) : mv_blk rI2 rR2 ln2 wI2 wR2 nw2 cp2 bod none tN_keep gN_keep 0 0 [] (fun _ _ _ _ _ _ => none) 400 (mv_seek 0 tN_keep) [(0, Sum.inr (8, o0))] [] h 0 0 = (
  mv_rV (fN_become_902_903 o0 o0 h) fun h1 =>
  mv_gd (decide (nI 1 = nI 0) || decide (nI 1 = nI 1)) <|
  mv_bh (wI2 h1 8 o0 5 (nI 1)) fun h2 =>
  some ([Sum.inl (Value.int (nI 1))], h2)) := rfl
theorem GN_keep : ∀ (j : Nat) (C : mv_C H2) (md' : mv_MD × Bool), mv_nth j gN_keep = some C → mv_nth j nN_keep = some md' → ∃ n', n' + 1 ≤ 2 ∧ mv_Cal vw2 n' md' C := fun j C md' => match j with
  | 0 => fun h1 h2 => by
    obtain rfl := Option.some.inj h1
    obtain rfl := Option.some.inj h2
    exact ⟨1, by decide, cN_become_ok⟩
  | jj + 1 => fun h1 _ => by cases jj <;> cases h1

set_option maxRecDepth 20000 in
theorem xN_keep {g0 : mv_G} {res : List mv_V × H2} (o0 : Nat) (h : H2) (hh : fN_keep o0 h = some res) : mv_X vw2 mdN_keep 2 0 0 none g0 res 0 [(0, Sum.inr (8, o0))] [] h 0 0 := by
  refine mv_blkX ax2 (GN_keep) (by decide) kN_keep (fun pc lv st h ce sl hh => ?_) ((eN_keep  o0 h).trans hh)
  cases hh

theorem mN_keep (o0 : Nat) (h : H2) (vs : List mv_V) (h' : H2) (hh : fN_keep o0 h = some (vs, h')) : mv_Met vw2 2 0 0 mdN_keep [Sum.inr (8, o0)] h vs h' :=
  mv_Met_of (by decide +kernel) (Nat.le_of_ble_eq_true rfl) (xN_keep o0 h hh)
set_option maxRecDepth 100000 in
theorem kN_again : mv_tok mdN_again nN_again tN_again = true := by decide +kernel
set_option maxRecDepth 100000 in
set_option maxHeartbeats 8000000 in
theorem eN_again (o0 : Nat) (h : H2) : mv_blk rI2 rR2 ln2 wI2 wR2 nw2 cp2 bod none tN_again gN_again 0 0 [] (fun _ _ _ _ _ _ => none) 400 (mv_seek 0 tN_again) [(0, Sum.inr (8, o0))] [] h 0 0 = (
  if (rI2 h 8 o0 5) = 0 then (
    some ([Sum.inl (Value.int (-(nI 3)))], h))
  else
  mv_rV (fN_become_903_902 o0 o0 h) fun h1 =>
  mv_gd (mv_inb (nI 6) 69) <|
  some ([Sum.inl (Value.int (rI2 h1 902 o0 (nI 6).toNatClampNeg))], h1)) := rfl
theorem GN_again : ∀ (j : Nat) (C : mv_C H2) (md' : mv_MD × Bool), mv_nth j gN_again = some C → mv_nth j nN_again = some md' → ∃ n', n' + 1 ≤ 2 ∧ mv_Cal vw2 n' md' C := fun j C md' => match j with
  | 0 => fun h1 h2 => by
    obtain rfl := Option.some.inj h1
    obtain rfl := Option.some.inj h2
    exact ⟨1, by decide, cN_become_ok⟩
  | jj + 1 => fun h1 _ => by cases jj <;> cases h1

set_option maxRecDepth 20000 in
theorem xN_again {g0 : mv_G} {res : List mv_V × H2} (o0 : Nat) (h : H2) (hh : fN_again o0 h = some res) : mv_X vw2 mdN_again 2 0 0 none g0 res 0 [(0, Sum.inr (8, o0))] [] h 0 0 := by
  refine mv_blkX ax2 (GN_again) (by decide) kN_again (fun pc lv st h ce sl hh => ?_) ((eN_again  o0 h).trans hh)
  cases hh

theorem mN_again (o0 : Nat) (h : H2) (vs : List mv_V) (h' : H2) (hh : fN_again o0 h = some (vs, h')) : mv_Met vw2 2 0 0 mdN_again [Sum.inr (8, o0)] h vs h' :=
  mv_Met_of (by decide +kernel) (Nat.le_of_ble_eq_true rfl) (xN_again o0 h hh)
