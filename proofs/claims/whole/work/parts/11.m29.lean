set_option maxRecDepth 100000 in
theorem kN_many : mv_tok mdN_many nN_many tN_many = true := by decide +kernel
def cN_aboutSetG_N_many (F1 : Nat → H2 → O2) : List mv_V → H2 → (List mv_V → H2 → O2) → O2 := fun as h k => match as with
  | [.inr (t0, o0)] => mv_gd (Nat.beq t0 8) <| mv_rI (F1 o0 h) fun x h => k [.inl (.int x)] h
  | _ => none
def cN_hungSetG_N_many (F2 : Nat → H2 → O2) : List mv_V → H2 → (List mv_V → H2 → O2) → O2 := fun as h k => match as with
  | [.inr (t0, o0)] => mv_gd (Nat.beq t0 8) <| mv_rI (F2 o0 h) fun x h => k [.inl (.int x)] h
  | _ => none
def cN_onesG_N_many (F3 : Int32 → H2 → O2) : List mv_V → H2 → (List mv_V → H2 → O2) → O2 := fun as h k => match as with
  | [.inl (.int v0)] => mv_rI (F3 v0 h) fun x h => k [.inl (.int x)] h
  | _ => none
def cN_purposesAboutG_N_many (F4 : Nat → H2 → O2) : List mv_V → H2 → (List mv_V → H2 → O2) → O2 := fun as h k => match as with
  | [.inr (t0, o0)] => mv_gd (Nat.beq t0 8) <| mv_rI (F4 o0 h) fun x h => k [.inl (.int x)] h
  | _ => none
set_option maxRecDepth 100000 in
set_option maxHeartbeats 1000000 in
theorem eN_many_g (F1 : Nat → H2 → O2) (F2 : Nat → H2 → O2) (F3 : Int32 → H2 → O2) (F4 : Nat → H2 → O2) (o0 : Nat) (v1 : Int32) (h : H2) : mv_blk rI2 rR2 ln2 wI2 wR2 nw2 cp2 bod none tN_many [((0, 0), cN_hungSetG_N_many F2), ((0, 0), cN_onesG_N_many F3), ((0, 0), cN_aboutSetG_N_many F1), ((0, 0), cN_purposesAboutG_N_many F4)] 0 0 [] (fun _ _ _ _ _ _ => none) 400 (mv_seek 0 tN_many) [(0, Sum.inr (8, o0)), (1, Sum.inl (Value.int v1))] [] h 0 0 = (
  if v1 = nI 0 then (
    mv_gd (mv_inb (nI 6) 69) <|
    some ([Sum.inl (Value.int (rI2 h 902 o0 (nI 6).toNatClampNeg))], h))
  else
  if v1 = nI 1 then (
    mv_rI (F2 o0 h) fun r2 h1 =>
    mv_rI (F3 r2 h1) fun r4 h3 =>
    some ([Sum.inl (Value.int r4)], h3))
  else
  if v1 = nI 2 then (
    mv_rI (F1 o0 h) fun r6 h5 =>
    mv_rI (F3 r6 h5) fun r8 h7 =>
    some ([Sum.inl (Value.int r8)], h7))
  else
  if v1 = nI 3 then (
    mv_rI (F4 o0 h) fun r10 h9 =>
    some ([Sum.inl (Value.int r10)], h9))
  else
  if v1 = nI 4 then (
    some ([Sum.inl (Value.int (rI2 h 8 o0 12))], h))
  else
  if v1 = nI 5 then (
    some ([Sum.inl (Value.int (rI2 h 8 o0 7))], h))
  else
  if v1 = nI 6 then (
    some ([Sum.inl (Value.int (rI2 h 8 o0 20))], h))
  else
  some ([Sum.inl (Value.int (-(nI 1)))], h)) := rfl
theorem eN_many (o0 : Nat) (v1 : Int32) (h : H2) : mv_blk rI2 rR2 ln2 wI2 wR2 nw2 cp2 bod none tN_many gN_many 0 0 [] (fun _ _ _ _ _ _ => none) 400 (mv_seek 0 tN_many) [(0, Sum.inr (8, o0)), (1, Sum.inl (Value.int v1))] [] h 0 0 = (
  if v1 = nI 0 then (
    mv_gd (mv_inb (nI 6) 69) <|
    some ([Sum.inl (Value.int (rI2 h 902 o0 (nI 6).toNatClampNeg))], h))
  else
  if v1 = nI 1 then (
    mv_rI (fN_hungSet o0 h) fun r2 h1 =>
    mv_rI (fN_ones r2 h1) fun r4 h3 =>
    some ([Sum.inl (Value.int r4)], h3))
  else
  if v1 = nI 2 then (
    mv_rI (fN_aboutSet o0 h) fun r6 h5 =>
    mv_rI (fN_ones r6 h5) fun r8 h7 =>
    some ([Sum.inl (Value.int r8)], h7))
  else
  if v1 = nI 3 then (
    mv_rI (fN_purposesAbout o0 h) fun r10 h9 =>
    some ([Sum.inl (Value.int r10)], h9))
  else
  if v1 = nI 4 then (
    some ([Sum.inl (Value.int (rI2 h 8 o0 12))], h))
  else
  if v1 = nI 5 then (
    some ([Sum.inl (Value.int (rI2 h 8 o0 7))], h))
  else
  if v1 = nI 6 then (
    some ([Sum.inl (Value.int (rI2 h 8 o0 20))], h))
  else
  some ([Sum.inl (Value.int (-(nI 1)))], h)) := eN_many_g fN_aboutSet fN_hungSet fN_ones fN_purposesAbout o0 v1 h
theorem GN_many : ∀ (j : Nat) (C : mv_C H2) (md' : mv_MD × Bool), mv_nth j gN_many = some C → mv_nth j nN_many = some md' → ∃ n', n' + 1 ≤ 3 ∧ mv_Cal vw2 n' md' C := fun j C md' => match j with
  | 0 => fun h1 h2 => by
    obtain rfl := Option.some.inj h1
    obtain rfl := Option.some.inj h2
    exact ⟨2, by decide, cN_hungSet_ok⟩
  | 1 => fun h1 h2 => by
    obtain rfl := Option.some.inj h1
    obtain rfl := Option.some.inj h2
    exact ⟨1, by decide, cN_ones_ok⟩
  | 2 => fun h1 h2 => by
    obtain rfl := Option.some.inj h1
    obtain rfl := Option.some.inj h2
    exact ⟨2, by decide, cN_aboutSet_ok⟩
  | 3 => fun h1 h2 => by
    obtain rfl := Option.some.inj h1
    obtain rfl := Option.some.inj h2
    exact ⟨2, by decide, cN_purposesAbout_ok⟩
  | jj + 4 => fun h1 _ => by cases jj <;> cases h1

set_option maxRecDepth 20000 in
theorem xN_many {g0 : mv_G} {res : List mv_V × H2} (o0 : Nat) (v1 : Int32) (h : H2) (hh : fN_many o0 v1 h = some res) : mv_X vw2 mdN_many 3 0 0 none g0 res 0 [(0, Sum.inr (8, o0)), (1, Sum.inl (Value.int v1))] [] h 0 0 := by
  refine mv_blkX ax2 (GN_many) (by decide) kN_many (fun pc lv st h ce sl hh => ?_) ((eN_many  o0 v1 h).trans hh)
  cases hh

theorem mN_many (o0 : Nat) (v1 : Int32) (h : H2) (vs : List mv_V) (h' : H2) (hh : fN_many o0 v1 h = some (vs, h')) : mv_Met vw2 3 0 0 mdN_many [Sum.inr (8, o0), Sum.inl (Value.int v1)] h vs h' :=
  mv_Met_of (by decide +kernel) (Nat.le_of_ble_eq_true rfl) (xN_many o0 v1 h hh)
set_option maxRecDepth 100000 in
theorem kN_keep : mv_tok mdN_keep nN_keep tN_keep = true := by decide +kernel
def cN_becomeG_N_keep (F1 : Nat → Nat → H2 → O2) (F2 : Nat → Nat → H2 → O2) (F3 : Nat → Nat → H2 → O2) (F4 : Nat → Nat → H2 → O2) : List mv_V → H2 → (List mv_V → H2 → O2) → O2 := fun as h k => match as with
  | [.inr (t0, o0), .inr (t1, o1)] => cond (Nat.beq t0 902 && Nat.beq t1 904) (mv_rV (F2 o0 o1 h) fun h => k [] h) (cond (Nat.beq t0 904 && Nat.beq t1 902) (mv_rV (F4 o0 o1 h) fun h => k [] h) (cond (Nat.beq t0 902 && Nat.beq t1 903) (mv_rV (F1 o0 o1 h) fun h => k [] h) (cond (Nat.beq t0 903 && Nat.beq t1 902) (mv_rV (F3 o0 o1 h) fun h => k [] h) (none))))
  | _ => none
set_option maxRecDepth 100000 in
set_option maxHeartbeats 1000000 in
theorem eN_keep_g (F1 : Nat → Nat → H2 → O2) (F2 : Nat → Nat → H2 → O2) (F3 : Nat → Nat → H2 → O2) (F4 : Nat → Nat → H2 → O2) (o0 : Nat) (h : H2) : mv_blk rI2 rR2 ln2 wI2 wR2 nw2 cp2 bod none tN_keep [((0, 0), cN_becomeG_N_keep F1 F2 F3 F4)] 0 0 [] (fun _ _ _ _ _ _ => none) 400 (mv_seek 0 tN_keep) [(0, Sum.inr (8, o0))] [] h 0 0 = (
  mv_rV (F1 o0 o0 h) fun h1 =>
  mv_gd (decide (nI 1 = nI 0) || decide (nI 1 = nI 1)) <|
  mv_bh (wI2 h1 8 o0 5 (nI 1)) fun h2 =>
  some ([Sum.inl (Value.int (nI 1))], h2)) := rfl
theorem eN_keep (o0 : Nat) (h : H2) : mv_blk rI2 rR2 ln2 wI2 wR2 nw2 cp2 bod none tN_keep gN_keep 0 0 [] (fun _ _ _ _ _ _ => none) 400 (mv_seek 0 tN_keep) [(0, Sum.inr (8, o0))] [] h 0 0 = (
  mv_rV (fN_become_902_903 o0 o0 h) fun h1 =>
  mv_gd (decide (nI 1 = nI 0) || decide (nI 1 = nI 1)) <|
  mv_bh (wI2 h1 8 o0 5 (nI 1)) fun h2 =>
  some ([Sum.inl (Value.int (nI 1))], h2)) := eN_keep_g fN_become_902_903 fN_become_902_904 fN_become_903_902 fN_become_904_902 o0 h
theorem GN_keep : ∀ (j : Nat) (C : mv_C H2) (md' : mv_MD × Bool), mv_nth j gN_keep = some C → mv_nth j nN_keep = some md' → ∃ n', n' + 1 ≤ 2 ∧ mv_Cal vw2 n' md' C := fun j C md' => match j with
  | 0 => fun h1 h2 => by
    obtain rfl := Option.some.inj h1
    obtain rfl := Option.some.inj h2
    exact ⟨1, by decide, cN_become_ok⟩
  | jj + 1 => fun h1 _ => by cases jj <;> cases h1

set_option maxRecDepth 20000 in
theorem xN_keep {g0 : mv_G} {res : List mv_V × H2} (o0 : Nat) (h : H2) (hh : fN_keep o0 h = some res) : mv_X vw2 mdN_keep 2 0 0 none g0 res 0 [(0, Sum.inr (8, o0))] [] h 0 0 := by
  refine mv_blkX ax2 (GN_keep) (by decide) kN_keep (fun pc lv st h ce sl hh => ?_) ((eN_keep  o0 h).trans hh)
  cases hh

theorem mN_keep (o0 : Nat) (h : H2) (vs : List mv_V) (h' : H2) (hh : fN_keep o0 h = some (vs, h')) : mv_Met vw2 2 0 0 mdN_keep [Sum.inr (8, o0)] h vs h' :=
  mv_Met_of (by decide +kernel) (Nat.le_of_ble_eq_true rfl) (xN_keep o0 h hh)
set_option maxRecDepth 100000 in
theorem kN_again : mv_tok mdN_again nN_again tN_again = true := by decide +kernel
def cN_becomeG_N_again (F1 : Nat → Nat → H2 → O2) (F2 : Nat → Nat → H2 → O2) (F3 : Nat → Nat → H2 → O2) (F4 : Nat → Nat → H2 → O2) : List mv_V → H2 → (List mv_V → H2 → O2) → O2 := fun as h k => match as with
  | [.inr (t0, o0), .inr (t1, o1)] => cond (Nat.beq t0 902 && Nat.beq t1 904) (mv_rV (F2 o0 o1 h) fun h => k [] h) (cond (Nat.beq t0 904 && Nat.beq t1 902) (mv_rV (F4 o0 o1 h) fun h => k [] h) (cond (Nat.beq t0 902 && Nat.beq t1 903) (mv_rV (F1 o0 o1 h) fun h => k [] h) (cond (Nat.beq t0 903 && Nat.beq t1 902) (mv_rV (F3 o0 o1 h) fun h => k [] h) (none))))
  | _ => none
set_option maxRecDepth 100000 in
set_option maxHeartbeats 1000000 in
theorem eN_again_g (F1 : Nat → Nat → H2 → O2) (F2 : Nat → Nat → H2 → O2) (F3 : Nat → Nat → H2 → O2) (F4 : Nat → Nat → H2 → O2) (o0 : Nat) (h : H2) : mv_blk rI2 rR2 ln2 wI2 wR2 nw2 cp2 bod none tN_again [((0, 0), cN_becomeG_N_again F1 F2 F3 F4)] 0 0 [] (fun _ _ _ _ _ _ => none) 400 (mv_seek 0 tN_again) [(0, Sum.inr (8, o0))] [] h 0 0 = (
  if (rI2 h 8 o0 5) = 0 then (
    some ([Sum.inl (Value.int (-(nI 3)))], h))
  else
  mv_rV (F3 o0 o0 h) fun h1 =>
  mv_gd (mv_inb (nI 6) 69) <|
  some ([Sum.inl (Value.int (rI2 h1 902 o0 (nI 6).toNatClampNeg))], h1)) := rfl
theorem eN_again (o0 : Nat) (h : H2) : mv_blk rI2 rR2 ln2 wI2 wR2 nw2 cp2 bod none tN_again gN_again 0 0 [] (fun _ _ _ _ _ _ => none) 400 (mv_seek 0 tN_again) [(0, Sum.inr (8, o0))] [] h 0 0 = (
  if (rI2 h 8 o0 5) = 0 then (
    some ([Sum.inl (Value.int (-(nI 3)))], h))
  else
  mv_rV (fN_become_903_902 o0 o0 h) fun h1 =>
  mv_gd (mv_inb (nI 6) 69) <|
  some ([Sum.inl (Value.int (rI2 h1 902 o0 (nI 6).toNatClampNeg))], h1)) := eN_again_g fN_become_902_903 fN_become_902_904 fN_become_903_902 fN_become_904_902 o0 h
theorem GN_again : ∀ (j : Nat) (C : mv_C H2) (md' : mv_MD × Bool), mv_nth j gN_again = some C → mv_nth j nN_again = some md' → ∃ n', n' + 1 ≤ 2 ∧ mv_Cal vw2 n' md' C := fun j C md' => match j with
  | 0 => fun h1 h2 => by
    obtain rfl := Option.some.inj h1
    obtain rfl := Option.some.inj h2
    exact ⟨1, by decide, cN_become_ok⟩
  | jj + 1 => fun h1 _ => by cases jj <;> cases h1

set_option maxRecDepth 20000 in
theorem xN_again {g0 : mv_G} {res : List mv_V × H2} (o0 : Nat) (h : H2) (hh : fN_again o0 h = some res) : mv_X vw2 mdN_again 2 0 0 none g0 res 0 [(0, Sum.inr (8, o0))] [] h 0 0 := by
  refine mv_blkX ax2 (GN_again) (by decide) kN_again (fun pc lv st h ce sl hh => ?_) ((eN_again  o0 h).trans hh)
  cases hh

theorem mN_again (o0 : Nat) (h : H2) (vs : List mv_V) (h' : H2) (hh : fN_again o0 h = some (vs, h')) : mv_Met vw2 2 0 0 mdN_again [Sum.inr (8, o0)] h vs h' :=
  mv_Met_of (by decide +kernel) (Nat.le_of_ble_eq_true rfl) (xN_again o0 h hh)
