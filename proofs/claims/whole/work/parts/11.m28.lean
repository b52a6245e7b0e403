set_option maxRecDepth 100000 in
theorem kN_plainParts : mv_tok mdN_plainParts nN_plainParts tN_plainParts = true := by decide +kernel
def cN_runsG_N_plainParts (F1 : Nat → Int32 → H2 → O2) : List mv_V → H2 → (List mv_V → H2 → O2) → O2 := fun as h k => match as with
  | [.inr (t0, o0), .inl (.int v1)] => mv_gd (Nat.beq t0 8) <| mv_rV (F1 o0 v1 h) fun h => k [] h
  | _ => none
set_option maxRecDepth 100000 in
set_option maxHeartbeats 1000000 in
theorem eN_plainParts_b30_g (F1 : Nat → Int32 → H2 → O2) (o0 : Nat) (v1 : Int32) (os0 : Nat) (vs1 : Int32) (h : H2) : mv_blk rI2 rR2 ln2 wI2 wR2 nw2 cp2 bod none tN_plainParts [((0, 0), cN_runsG_N_plainParts F1)] 0 0 [] (fun _ _ _ _ _ _ => none) 400 (mv_seek 30 tN_plainParts) [(0, Sum.inr (8, o0)), (1, Sum.inl (Value.int v1))] [Sum.inl (Value.int vs1), Sum.inr (8, os0)] h 0 0 = (
  mv_gd (decide (vs1 = nI 0) || decide (vs1 = nI 1)) <|
  mv_bh (wI2 h 8 os0 24 vs1) fun h1 =>
  if (rI2 h1 8 o0 23) = (rI2 h1 8 o0 22) then (
    some ([Sum.inl (Value.int (nI 0))], h1))
  else
  if ((rI2 h1 8 o0 23) - (rI2 h1 8 o0 22)) = (-(nI 1)) then (
    some ([Sum.inl (Value.int (-v1))], h1))
  else
  mv_gd (!decide (((rI2 h1 8 o0 23) - (rI2 h1 8 o0 22)) = 0)) <|
  some ([Sum.inl (Value.int (v1 / ((rI2 h1 8 o0 23) - (rI2 h1 8 o0 22))))], h1)) := rfl
theorem eN_plainParts_b30 (o0 : Nat) (v1 : Int32) (os0 : Nat) (vs1 : Int32) (h : H2) : mv_blk rI2 rR2 ln2 wI2 wR2 nw2 cp2 bod none tN_plainParts gN_plainParts 0 0 [] (fun _ _ _ _ _ _ => none) 400 (mv_seek 30 tN_plainParts) [(0, Sum.inr (8, o0)), (1, Sum.inl (Value.int v1))] [Sum.inl (Value.int vs1), Sum.inr (8, os0)] h 0 0 = (
  mv_gd (decide (vs1 = nI 0) || decide (vs1 = nI 1)) <|
  mv_bh (wI2 h 8 os0 24 vs1) fun h1 =>
  if (rI2 h1 8 o0 23) = (rI2 h1 8 o0 22) then (
    some ([Sum.inl (Value.int (nI 0))], h1))
  else
  if ((rI2 h1 8 o0 23) - (rI2 h1 8 o0 22)) = (-(nI 1)) then (
    some ([Sum.inl (Value.int (-v1))], h1))
  else
  mv_gd (!decide (((rI2 h1 8 o0 23) - (rI2 h1 8 o0 22)) = 0)) <|
  some ([Sum.inl (Value.int (v1 / ((rI2 h1 8 o0 23) - (rI2 h1 8 o0 22))))], h1)) := eN_plainParts_b30_g fN_runs o0 v1 os0 vs1 h
set_option maxRecDepth 100000 in
set_option maxHeartbeats 1000000 in
theorem eN_plainParts_g (F1 : Nat → Int32 → H2 → O2) (q30 : Nat → Int32 → Nat → Int32 → H2 → O2) (o0 : Nat) (v1 : Int32) (h : H2) : mv_blk rI2 rR2 ln2 wI2 wR2 nw2 cp2 bod none tN_plainParts [((0, 0), cN_runsG_N_plainParts F1)] 0 0 [30] (fun pc lv st h ce sl => mv_gd (Nat.beq ce 0 && Nat.beq sl 0) (cond (Nat.beq pc 30) (mv_gR 0 8 lv fun o0 => mv_gI 1 lv fun v1 => mv_sI st fun vs1 st => mv_sR 8 st fun os0 st => mv_sE st (q30 o0 v1 os0 vs1 h)) (none))) 400 (mv_seek 0 tN_plainParts) [(0, Sum.inr (8, o0)), (1, Sum.inl (Value.int v1))] [] h 0 0 = (
  mv_rV (F1 o0 (nI 12) h) fun h1 =>
  if (rI2 h1 8 o0 24) = 0 then (
    if (rI2 h1 8 o0 23) = (rI2 h1 8 o0 22) then (
      q30 o0 v1 o0 (nI 1) h1)
    else
    q30 o0 v1 o0 (nI 0) h1)
  else
  q30 o0 v1 o0 (nI 1) h1) := rfl
theorem eN_plainParts (q30 : Nat → Int32 → Nat → Int32 → H2 → O2) (o0 : Nat) (v1 : Int32) (h : H2) : mv_blk rI2 rR2 ln2 wI2 wR2 nw2 cp2 bod none tN_plainParts gN_plainParts 0 0 [30] (fun pc lv st h ce sl => mv_gd (Nat.beq ce 0 && Nat.beq sl 0) (cond (Nat.beq pc 30) (mv_gR 0 8 lv fun o0 => mv_gI 1 lv fun v1 => mv_sI st fun vs1 st => mv_sR 8 st fun os0 st => mv_sE st (q30 o0 v1 os0 vs1 h)) (none))) 400 (mv_seek 0 tN_plainParts) [(0, Sum.inr (8, o0)), (1, Sum.inl (Value.int v1))] [] h 0 0 = (
  mv_rV (fN_runs o0 (nI 12) h) fun h1 =>
  if (rI2 h1 8 o0 24) = 0 then (
    if (rI2 h1 8 o0 23) = (rI2 h1 8 o0 22) then (
      q30 o0 v1 o0 (nI 1) h1)
    else
    q30 o0 v1 o0 (nI 0) h1)
  else
  q30 o0 v1 o0 (nI 1) h1) := eN_plainParts_g fN_runs q30 o0 v1 h
theorem GN_plainParts : ∀ (j : Nat) (C : mv_C H2) (md' : mv_MD × Bool), mv_nth j gN_plainParts = some C → mv_nth j nN_plainParts = some md' → ∃ n', n' + 1 ≤ 2 ∧ mv_Cal vw2 n' md' C := fun j C md' => match j with
  | 0 => fun h1 h2 => by
    obtain rfl := Option.some.inj h1
    obtain rfl := Option.some.inj h2
    exact ⟨1, by decide, cN_runs_ok⟩
  | jj + 1 => fun h1 _ => by cases jj <;> cases h1

set_option maxRecDepth 20000 in
theorem xN_plainParts_b30 {g0 : mv_G} {res : List mv_V × H2} (o0 : Nat) (v1 : Int32) (os0 : Nat) (vs1 : Int32) (h : H2) (hh : fN_plainParts_b30 o0 v1 os0 vs1 h = some res) : mv_X vw2 mdN_plainParts 2 0 0 none g0 res 30 [(0, Sum.inr (8, o0)), (1, Sum.inl (Value.int v1))] [Sum.inl (Value.int vs1), Sum.inr (8, os0)] h 0 0 := by
  refine mv_blkX ax2 (GN_plainParts) (by decide) kN_plainParts (fun pc lv st h ce sl hh => ?_) ((eN_plainParts_b30  o0 v1 os0 vs1 h).trans hh)
  cases hh

set_option maxRecDepth 20000 in
theorem xN_plainParts {g0 : mv_G} {res : List mv_V × H2} (o0 : Nat) (v1 : Int32) (h : H2) (hh : fN_plainParts o0 v1 h = some res) : mv_X vw2 mdN_plainParts 2 0 0 none g0 res 0 [(0, Sum.inr (8, o0)), (1, Sum.inl (Value.int v1))] [] h 0 0 := by
  refine mv_blkX ax2 (GN_plainParts) (by decide) kN_plainParts (fun pc lv st h ce sl hh => ?_) ((eN_plainParts (fN_plainParts_b30) o0 v1 h).trans hh)
  obtain ⟨hg, hh1⟩ := mv_gd_some hh
  obtain ⟨rfl, rfl⟩ := mv_z2 hg
  rcases mv_cond_some hh1 with ⟨hb, hh2⟩ | ⟨hb, hh3⟩
  · obtain rfl := Nat.eq_of_beq_eq_true hb
    obtain ⟨o0, m0, hh4⟩ := mv_gR_some hh2
    obtain ⟨v1, m1, hh5⟩ := mv_gI_some hh4
    obtain ⟨vs1, sthh6, rfl, hh6⟩ := mv_sI_some hh5
    obtain ⟨os0, sthh7, rfl, hh7⟩ := mv_sR_some hh6
    obtain ⟨rfl, hh8⟩ := mv_sE_some hh7
    exact (xN_plainParts_b30  o0 v1 os0 vs1 h hh8).sub (List.forall_mem_cons.mpr ⟨m0, (List.forall_mem_cons.mpr ⟨m1, (fun q hq => by cases hq)⟩)⟩)
  cases hh3

theorem mN_plainParts (o0 : Nat) (v1 : Int32) (h : H2) (vs : List mv_V) (h' : H2) (hh : fN_plainParts o0 v1 h = some (vs, h')) : mv_Met vw2 2 0 0 mdN_plainParts [Sum.inr (8, o0), Sum.inl (Value.int v1)] h vs h' :=
  mv_Met_of (by decide +kernel) (Nat.le_of_ble_eq_true rfl) (xN_plainParts o0 v1 h hh)
theorem cN_plainParts_ok : mv_Cal vw2 2 (mdN_plainParts, true) ((0, 0), cN_plainParts) := by
  intro as h k res hh
  change cN_plainParts as h k = some res at hh
  unfold cN_plainParts at hh
  split at hh
  · obtain ⟨hg0, ha0⟩ := mv_gd_some hh
    obtain rfl := Nat.eq_of_beq_eq_true hg0
    obtain ⟨x, h', h1, h9⟩ := mv_rI_some ha0
    exact ⟨_, _, h9, (by first | decide | exact Nat.le_refl _ | exact Nat.zero_le _), fun _ => ⟨_, _, _, rfl, Or.inl ⟨by decide, rfl⟩⟩, (mN_plainParts _ _ h _ _ h1)⟩
  · cases hh

set_option maxRecDepth 100000 in
theorem kN_parts : mv_tok mdN_parts nN_parts tN_parts = true := by decide +kernel
def cN_plainPartsG_N_parts (F1 : Nat → Int32 → H2 → O2) : List mv_V → H2 → (List mv_V → H2 → O2) → O2 := fun as h k => match as with
  | [.inr (t0, o0), .inl (.int v1)] => mv_gd (Nat.beq t0 8) <| mv_rI (F1 o0 v1 h) fun x h => k [.inl (.int x)] h
  | _ => none
def cN_rubsG_N_parts (F2 : Nat → Int32 → H2 → O2) : List mv_V → H2 → (List mv_V → H2 → O2) → O2 := fun as h k => match as with
  | [.inr (t0, o0), .inl (.int v1)] => mv_gd (Nat.beq t0 8) <| mv_rI (F2 o0 v1 h) fun x h => k [.inl (.int x)] h
  | _ => none
def cN_runsG_N_parts (F3 : Nat → Int32 → H2 → O2) : List mv_V → H2 → (List mv_V → H2 → O2) → O2 := fun as h k => match as with
  | [.inr (t0, o0), .inl (.int v1)] => mv_gd (Nat.beq t0 8) <| mv_rV (F3 o0 v1 h) fun h => k [] h
  | _ => none
set_option maxRecDepth 100000 in
set_option maxHeartbeats 1000000 in
theorem eN_parts_g (F1 : Nat → Int32 → H2 → O2) (F2 : Nat → Int32 → H2 → O2) (F3 : Nat → Int32 → H2 → O2) (o0 : Nat) (v1 : Int32) (h : H2) : mv_blk rI2 rR2 ln2 wI2 wR2 nw2 cp2 bod none tN_parts [((0, 0), cN_runsG_N_parts F3), ((0, 0), cN_plainPartsG_N_parts F1), ((0, 0), cN_rubsG_N_parts F2)] 0 0 [] (fun _ _ _ _ _ _ => none) 400 (mv_seek 0 tN_parts) [(0, Sum.inr (8, o0)), (1, Sum.inl (Value.int v1))] [] h 0 0 = (
  if (rI2 h 8 o0 21) = (nI 3) then (
    mv_rV (F3 o0 (nI 50) h) fun h1 =>
    mv_rI (F1 o0 (v1 + (nI 3)) h1) fun r3 h2 =>
    some ([Sum.inl (Value.int (r3 + (rI2 h2 8 o0 23)))], h2))
  else
  if (rI2 h 8 o0 21) = (nI 5) then (
    mv_rV (F3 o0 (nI 61) h) fun h4 =>
    mv_rI (F1 o0 v1 h4) fun r6 h5 =>
    mv_bi r6 fun x7 =>
    if (rI2 h5 8 o0 24) = 0 then (
      mv_rI (F2 o0 (rI2 h5 8 o0 22) h5) fun r9 h8 =>
      some ([Sum.inl (Value.int (x7 - r9))], h8))
    else
    some ([Sum.inl (Value.int (nI 0))], h5))
  else
  mv_rI (F1 o0 v1 h) fun r11 h10 =>
  some ([Sum.inl (Value.int r11)], h10)) := rfl
theorem eN_parts (o0 : Nat) (v1 : Int32) (h : H2) : mv_blk rI2 rR2 ln2 wI2 wR2 nw2 cp2 bod none tN_parts gN_parts 0 0 [] (fun _ _ _ _ _ _ => none) 400 (mv_seek 0 tN_parts) [(0, Sum.inr (8, o0)), (1, Sum.inl (Value.int v1))] [] h 0 0 = (
  if (rI2 h 8 o0 21) = (nI 3) then (
    mv_rV (fN_runs o0 (nI 50) h) fun h1 =>
    mv_rI (fN_plainParts o0 (v1 + (nI 3)) h1) fun r3 h2 =>
    some ([Sum.inl (Value.int (r3 + (rI2 h2 8 o0 23)))], h2))
  else
  if (rI2 h 8 o0 21) = (nI 5) then (
    mv_rV (fN_runs o0 (nI 61) h) fun h4 =>
    mv_rI (fN_plainParts o0 v1 h4) fun r6 h5 =>
    mv_bi r6 fun x7 =>
    if (rI2 h5 8 o0 24) = 0 then (
      mv_rI (fN_rubs o0 (rI2 h5 8 o0 22) h5) fun r9 h8 =>
      some ([Sum.inl (Value.int (x7 - r9))], h8))
    else
    some ([Sum.inl (Value.int (nI 0))], h5))
  else
  mv_rI (fN_plainParts o0 v1 h) fun r11 h10 =>
  some ([Sum.inl (Value.int r11)], h10)) := eN_parts_g fN_plainParts fN_rubs fN_runs o0 v1 h
theorem GN_parts : ∀ (j : Nat) (C : mv_C H2) (md' : mv_MD × Bool), mv_nth j gN_parts = some C → mv_nth j nN_parts = some md' → ∃ n', n' + 1 ≤ 5 ∧ mv_Cal vw2 n' md' C := fun j C md' => match j with
  | 0 => fun h1 h2 => by
    obtain rfl := Option.some.inj h1
    obtain rfl := Option.some.inj h2
    exact ⟨1, by decide, cN_runs_ok⟩
  | 1 => fun h1 h2 => by
    obtain rfl := Option.some.inj h1
    obtain rfl := Option.some.inj h2
    exact ⟨2, by decide, cN_plainParts_ok⟩
  | 2 => fun h1 h2 => by
    obtain rfl := Option.some.inj h1
    obtain rfl := Option.some.inj h2
    exact ⟨4, by decide, cN_rubs_ok⟩
  | jj + 3 => fun h1 _ => by cases jj <;> cases h1

set_option maxRecDepth 20000 in
theorem xN_parts {g0 : mv_G} {res : List mv_V × H2} (o0 : Nat) (v1 : Int32) (h : H2) (hh : fN_parts o0 v1 h = some res) : mv_X vw2 mdN_parts 5 0 0 none g0 res 0 [(0, Sum.inr (8, o0)), (1, Sum.inl (Value.int v1))] [] h 0 0 := by
  refine mv_blkX ax2 (GN_parts) (by decide) kN_parts (fun pc lv st h ce sl hh => ?_) ((eN_parts  o0 v1 h).trans hh)
  cases hh

theorem mN_parts (o0 : Nat) (v1 : Int32) (h : H2) (vs : List mv_V) (h' : H2) (hh : fN_parts o0 v1 h = some (vs, h')) : mv_Met vw2 5 0 0 mdN_parts [Sum.inr (8, o0), Sum.inl (Value.int v1)] h vs h' :=
  mv_Met_of (by decide +kernel) (Nat.le_of_ble_eq_true rfl) (xN_parts o0 v1 h hh)
theorem cN_parts_ok : mv_Cal vw2 5 (mdN_parts, true) ((0, 0), cN_parts) := by
  intro as h k res hh
  change cN_parts as h k = some res at hh
  unfold cN_parts at hh
  split at hh
  · obtain ⟨hg0, ha0⟩ := mv_gd_some hh
    obtain rfl := Nat.eq_of_beq_eq_true hg0
    obtain ⟨x, h', h1, h9⟩ := mv_rI_some ha0
    exact ⟨_, _, h9, (by first | decide | exact Nat.le_refl _ | exact Nat.zero_le _), fun _ => ⟨_, _, _, rfl, Or.inl ⟨by decide, rfl⟩⟩, (mN_parts _ _ h _ _ h1)⟩
  · cases hh

set_option maxRecDepth 100000 in
theorem kN_plainDries : mv_tok mdN_plainDries nN_plainDries tN_plainDries = true := by decide +kernel
def cN_runsG_N_plainDries (F1 : Nat → Int32 → H2 → O2) : List mv_V → H2 → (List mv_V → H2 → O2) → O2 := fun as h k => match as with
  | [.inr (t0, o0), .inl (.int v1)] => mv_gd (Nat.beq t0 8) <| mv_rV (F1 o0 v1 h) fun h => k [] h
  | _ => none
def cN_steepsActG_N_plainDries (F2 : Nat → Int32 → H2 → O2) : List mv_V → H2 → (List mv_V → H2 → O2) → O2 := fun as h k => match as with
  | [.inr (t0, o0), .inl (.int v1)] => mv_gd (Nat.beq t0 8) <| mv_rI (F2 o0 v1 h) fun x h => k [.inl (.int x)] h
  | _ => none
set_option maxRecDepth 100000 in
set_option maxHeartbeats 1000000 in
theorem eN_plainDries_g (F1 : Nat → Int32 → H2 → O2) (F2 : Nat → Int32 → H2 → O2) (o0 : Nat) (v1 : Int32) (h : H2) : mv_blk rI2 rR2 ln2 wI2 wR2 nw2 cp2 bod none tN_plainDries [((0, 0), cN_runsG_N_plainDries F1), ((0, 0), cN_steepsActG_N_plainDries F2)] 0 0 [] (fun _ _ _ _ _ _ => none) 400 (mv_seek 0 tN_plainDries) [(0, Sum.inr (8, o0)), (1, Sum.inl (Value.int v1))] [] h 0 0 = (
  mv_rV (F1 o0 (nI 13) h) fun h1 =>
  mv_rI (F2 o0 v1 h1) fun r3 h2 =>
  some ([Sum.inl (Value.int (r3 ^^^ (nI 240)))], h2)) := rfl
theorem eN_plainDries (o0 : Nat) (v1 : Int32) (h : H2) : mv_blk rI2 rR2 ln2 wI2 wR2 nw2 cp2 bod none tN_plainDries gN_plainDries 0 0 [] (fun _ _ _ _ _ _ => none) 400 (mv_seek 0 tN_plainDries) [(0, Sum.inr (8, o0)), (1, Sum.inl (Value.int v1))] [] h 0 0 = (
  mv_rV (fN_runs o0 (nI 13) h) fun h1 =>
  mv_rI (fN_steepsAct o0 v1 h1) fun r3 h2 =>
  some ([Sum.inl (Value.int (r3 ^^^ (nI 240)))], h2)) := eN_plainDries_g fN_runs fN_steepsAct o0 v1 h
theorem GN_plainDries : ∀ (j : Nat) (C : mv_C H2) (md' : mv_MD × Bool), mv_nth j gN_plainDries = some C → mv_nth j nN_plainDries = some md' → ∃ n', n' + 1 ≤ 7 ∧ mv_Cal vw2 n' md' C := fun j C md' => match j with
  | 0 => fun h1 h2 => by
    obtain rfl := Option.some.inj h1
    obtain rfl := Option.some.inj h2
    exact ⟨1, by decide, cN_runs_ok⟩
  | 1 => fun h1 h2 => by
    obtain rfl := Option.some.inj h1
    obtain rfl := Option.some.inj h2
    exact ⟨6, by decide, cN_steepsAct_ok⟩
  | jj + 2 => fun h1 _ => by cases jj <;> cases h1

set_option maxRecDepth 20000 in
theorem xN_plainDries {g0 : mv_G} {res : List mv_V × H2} (o0 : Nat) (v1 : Int32) (h : H2) (hh : fN_plainDries o0 v1 h = some res) : mv_X vw2 mdN_plainDries 7 0 0 none g0 res 0 [(0, Sum.inr (8, o0)), (1, Sum.inl (Value.int v1))] [] h 0 0 := by
  refine mv_blkX ax2 (GN_plainDries) (by decide) kN_plainDries (fun pc lv st h ce sl hh => ?_) ((eN_plainDries  o0 v1 h).trans hh)
  cases hh

theorem mN_plainDries (o0 : Nat) (v1 : Int32) (h : H2) (vs : List mv_V) (h' : H2) (hh : fN_plainDries o0 v1 h = some (vs, h')) : mv_Met vw2 7 0 0 mdN_plainDries [Sum.inr (8, o0), Sum.inl (Value.int v1)] h vs h' :=
  mv_Met_of (by decide +kernel) (Nat.le_of_ble_eq_true rfl) (xN_plainDries o0 v1 h hh)
theorem cN_plainDries_ok : mv_Cal vw2 7 (mdN_plainDries, true) ((0, 0), cN_plainDries) := by
  intro as h k res hh
  change cN_plainDries as h k = some res at hh
  unfold cN_plainDries at hh
  split at hh
  · obtain ⟨hg0, ha0⟩ := mv_gd_some hh
    obtain rfl := Nat.eq_of_beq_eq_true hg0
    obtain ⟨x, h', h1, h9⟩ := mv_rI_some ha0
    exact ⟨_, _, h9, (by first | decide | exact Nat.le_refl _ | exact Nat.zero_le _), fun _ => ⟨_, _, _, rfl, Or.inl ⟨by decide, rfl⟩⟩, (mN_plainDries _ _ h _ _ h1)⟩
  · cases hh

set_option maxRecDepth 100000 in
theorem kN_driesAct : mv_tok mdN_driesAct nN_driesAct tN_driesAct = true := by decide +kernel
def cN_partsG_N_driesAct (F1 : Nat → Int32 → H2 → O2) : List mv_V → H2 → (List mv_V → H2 → O2) → O2 := fun as h k => match as with
  | [.inr (t0, o0), .inl (.int v1)] => mv_gd (Nat.beq t0 8) <| mv_rI (F1 o0 v1 h) fun x h => k [.inl (.int x)] h
  | _ => none
def cN_plainDriesG_N_driesAct (F2 : Nat → Int32 → H2 → O2) : List mv_V → H2 → (List mv_V → H2 → O2) → O2 := fun as h k => match as with
  | [.inr (t0, o0), .inl (.int v1)] => mv_gd (Nat.beq t0 8) <| mv_rI (F2 o0 v1 h) fun x h => k [.inl (.int x)] h
  | _ => none
def cN_runsG_N_driesAct (F3 : Nat → Int32 → H2 → O2) : List mv_V → H2 → (List mv_V → H2 → O2) → O2 := fun as h k => match as with
  | [.inr (t0, o0), .inl (.int v1)] => mv_gd (Nat.beq t0 8) <| mv_rV (F3 o0 v1 h) fun h => k [] h
  | _ => none
set_option maxRecDepth 100000 in
set_option maxHeartbeats 1000000 in
theorem eN_driesAct_b16_g (F1 : Nat → Int32 → H2 → O2) (F2 : Nat → Int32 → H2 → O2) (F3 : Nat → Int32 → H2 → O2) (o0 : Nat) (v1 : Int32) (h : H2) : mv_blk rI2 rR2 ln2 wI2 wR2 nw2 cp2 bod none tN_driesAct [((0, 0), cN_runsG_N_driesAct F3), ((0, 0), cN_plainDriesG_N_driesAct F2), ((0, 0), cN_partsG_N_driesAct F1)] 0 0 [] (fun _ _ _ _ _ _ => none) 400 (mv_seek 16 tN_driesAct) [(0, Sum.inr (8, o0)), (1, Sum.inl (Value.int v1))] [] h 0 0 = (
  mv_rV (F3 o0 (nI 31) h) fun h1 =>
  mv_rI (F2 o0 v1 h1) fun r3 h2 =>
  mv_bi r3 fun x4 =>
  mv_rI (F1 o0 (rI2 h2 8 o0 22) h2) fun r6 h5 =>
  some ([Sum.inl (Value.int (x4 + r6))], h5)) := rfl
theorem eN_driesAct_b16 (o0 : Nat) (v1 : Int32) (h : H2) : mv_blk rI2 rR2 ln2 wI2 wR2 nw2 cp2 bod none tN_driesAct gN_driesAct 0 0 [] (fun _ _ _ _ _ _ => none) 400 (mv_seek 16 tN_driesAct) [(0, Sum.inr (8, o0)), (1, Sum.inl (Value.int v1))] [] h 0 0 = (
  mv_rV (fN_runs o0 (nI 31) h) fun h1 =>
  mv_rI (fN_plainDries o0 v1 h1) fun r3 h2 =>
  mv_bi r3 fun x4 =>
  mv_rI (fN_parts o0 (rI2 h2 8 o0 22) h2) fun r6 h5 =>
  some ([Sum.inl (Value.int (x4 + r6))], h5)) := eN_driesAct_b16_g fN_parts fN_plainDries fN_runs o0 v1 h
set_option maxRecDepth 100000 in
set_option maxHeartbeats 1000000 in
theorem eN_driesAct_g (F1 : Nat → Int32 → H2 → O2) (F2 : Nat → Int32 → H2 → O2) (F3 : Nat → Int32 → H2 → O2) (q16 : Nat → Int32 → H2 → O2) (o0 : Nat) (v1 : Int32) (h : H2) : mv_blk rI2 rR2 ln2 wI2 wR2 nw2 cp2 bod none tN_driesAct [((0, 0), cN_runsG_N_driesAct F3), ((0, 0), cN_plainDriesG_N_driesAct F2), ((0, 0), cN_partsG_N_driesAct F1)] 0 0 [16] (fun pc lv st h ce sl => mv_gd (Nat.beq ce 0 && Nat.beq sl 0) (cond (Nat.beq pc 16) (mv_gR 0 8 lv fun o0 => mv_gI 1 lv fun v1 => mv_sE st (q16 o0 v1 h)) (none))) 400 (mv_seek 0 tN_driesAct) [(0, Sum.inr (8, o0)), (1, Sum.inl (Value.int v1))] [] h 0 0 = (
  if (rI2 h 8 o0 21) = (nI 2) then (
    q16 o0 v1 h)
  else
  if (rI2 h 8 o0 21) = (nI 4) then (
    q16 o0 v1 h)
  else
  if (rI2 h 8 o0 21) = (nI 5) then (
    mv_rV (F3 o0 (nI 60) h) fun h1 =>
    mv_rI (F2 o0 v1 h1) fun r3 h2 =>
    some ([Sum.inl (Value.int (r3 * (nI 3)))], h2))
  else
  mv_rI (F2 o0 v1 h) fun r5 h4 =>
  some ([Sum.inl (Value.int r5)], h4)) := rfl
theorem eN_driesAct (q16 : Nat → Int32 → H2 → O2) (o0 : Nat) (v1 : Int32) (h : H2) : mv_blk rI2 rR2 ln2 wI2 wR2 nw2 cp2 bod none tN_driesAct gN_driesAct 0 0 [16] (fun pc lv st h ce sl => mv_gd (Nat.beq ce 0 && Nat.beq sl 0) (cond (Nat.beq pc 16) (mv_gR 0 8 lv fun o0 => mv_gI 1 lv fun v1 => mv_sE st (q16 o0 v1 h)) (none))) 400 (mv_seek 0 tN_driesAct) [(0, Sum.inr (8, o0)), (1, Sum.inl (Value.int v1))] [] h 0 0 = (
  if (rI2 h 8 o0 21) = (nI 2) then (
    q16 o0 v1 h)
  else
  if (rI2 h 8 o0 21) = (nI 4) then (
    q16 o0 v1 h)
  else
  if (rI2 h 8 o0 21) = (nI 5) then (
    mv_rV (fN_runs o0 (nI 60) h) fun h1 =>
    mv_rI (fN_plainDries o0 v1 h1) fun r3 h2 =>
    some ([Sum.inl (Value.int (r3 * (nI 3)))], h2))
  else
  mv_rI (fN_plainDries o0 v1 h) fun r5 h4 =>
  some ([Sum.inl (Value.int r5)], h4)) := eN_driesAct_g fN_parts fN_plainDries fN_runs q16 o0 v1 h
theorem GN_driesAct : ∀ (j : Nat) (C : mv_C H2) (md' : mv_MD × Bool), mv_nth j gN_driesAct = some C → mv_nth j nN_driesAct = some md' → ∃ n', n' + 1 ≤ 8 ∧ mv_Cal vw2 n' md' C := fun j C md' => match j with
  | 0 => fun h1 h2 => by
    obtain rfl := Option.some.inj h1
    obtain rfl := Option.some.inj h2
    exact ⟨1, by decide, cN_runs_ok⟩
  | 1 => fun h1 h2 => by
    obtain rfl := Option.some.inj h1
    obtain rfl := Option.some.inj h2
    exact ⟨7, by decide, cN_plainDries_ok⟩
  | 2 => fun h1 h2 => by
    obtain rfl := Option.some.inj h1
    obtain rfl := Option.some.inj h2
    exact ⟨5, by decide, cN_parts_ok⟩
  | jj + 3 => fun h1 _ => by cases jj <;> cases h1

set_option maxRecDepth 20000 in
theorem xN_driesAct_b16 {g0 : mv_G} {res : List mv_V × H2} (o0 : Nat) (v1 : Int32) (h : H2) (hh : fN_driesAct_b16 o0 v1 h = some res) : mv_X vw2 mdN_driesAct 8 0 0 none g0 res 16 [(0, Sum.inr (8, o0)), (1, Sum.inl (Value.int v1))] [] h 0 0 := by
  refine mv_blkX ax2 (GN_driesAct) (by decide) kN_driesAct (fun pc lv st h ce sl hh => ?_) ((eN_driesAct_b16  o0 v1 h).trans hh)
  cases hh

set_option maxRecDepth 20000 in
theorem xN_driesAct {g0 : mv_G} {res : List mv_V × H2} (o0 : Nat) (v1 : Int32) (h : H2) (hh : fN_driesAct o0 v1 h = some res) : mv_X vw2 mdN_driesAct 8 0 0 none g0 res 0 [(0, Sum.inr (8, o0)), (1, Sum.inl (Value.int v1))] [] h 0 0 := by
  refine mv_blkX ax2 (GN_driesAct) (by decide) kN_driesAct (fun pc lv st h ce sl hh => ?_) ((eN_driesAct (fN_driesAct_b16) o0 v1 h).trans hh)
  obtain ⟨hg, hh1⟩ := mv_gd_some hh
  obtain ⟨rfl, rfl⟩ := mv_z2 hg
  rcases mv_cond_some hh1 with ⟨hb, hh2⟩ | ⟨hb, hh3⟩
  · obtain rfl := Nat.eq_of_beq_eq_true hb
    obtain ⟨o0, m0, hh4⟩ := mv_gR_some hh2
    obtain ⟨v1, m1, hh5⟩ := mv_gI_some hh4
    obtain ⟨rfl, hh6⟩ := mv_sE_some hh5
    exact (xN_driesAct_b16  o0 v1 h hh6).sub (List.forall_mem_cons.mpr ⟨m0, (List.forall_mem_cons.mpr ⟨m1, (fun q hq => by cases hq)⟩)⟩)
  cases hh3

theorem mN_driesAct (o0 : Nat) (v1 : Int32) (h : H2) (vs : List mv_V) (h' : H2) (hh : fN_driesAct o0 v1 h = some (vs, h')) : mv_Met vw2 8 0 0 mdN_driesAct [Sum.inr (8, o0), Sum.inl (Value.int v1)] h vs h' :=
  mv_Met_of (by decide +kernel) (Nat.le_of_ble_eq_true rfl) (xN_driesAct o0 v1 h hh)
theorem cN_driesAct_ok : mv_Cal vw2 8 (mdN_driesAct, true) ((0, 0), cN_driesAct) := by
  intro as h k res hh
  change cN_driesAct as h k = some res at hh
  unfold cN_driesAct at hh
  split at hh
  · obtain ⟨hg0, ha0⟩ := mv_gd_some hh
    obtain rfl := Nat.eq_of_beq_eq_true hg0
    obtain ⟨x, h', h1, h9⟩ := mv_rI_some ha0
    exact ⟨_, _, h9, (by first | decide | exact Nat.le_refl _ | exact Nat.zero_le _), fun _ => ⟨_, _, _, rfl, Or.inl ⟨by decide, rfl⟩⟩, (mN_driesAct _ _ h _ _ h1)⟩
  · cases hh

set_option maxRecDepth 100000 in
theorem kN_act : mv_tok mdN_act nN_act tN_act = true := by decide +kernel
def cN_driesActG_N_act (F1 : Nat → Int32 → H2 → O2) : List mv_V → H2 → (List mv_V → H2 → O2) → O2 := fun as h k => match as with
  | [.inr (t0, o0), .inl (.int v1)] => mv_gd (Nat.beq t0 8) <| mv_rI (F1 o0 v1 h) fun x h => k [.inl (.int x)] h
  | _ => none
def cN_isFourG_N_act (F2 : Int32 → H2 → O2) : List mv_V → H2 → (List mv_V → H2 → O2) → O2 := fun as h k => match as with
  | [.inl (.int v0)] => mv_rI (F2 v0 h) fun x h => k [.inl (.int x)] h
  | _ => none
def cN_isHeldG_N_act (F3 : Nat → Int32 → H2 → O2) : List mv_V → H2 → (List mv_V → H2 → O2) → O2 := fun as h k => match as with
  | [.inr (t0, o0), .inl (.int v1)] => mv_gd (Nat.beq t0 8) <| mv_rI (F3 o0 v1 h) fun x h => k [.inl (.int x)] h
  | _ => none
def cN_itsG_N_act (F4 : Nat → Int32 → Int32 → H2 → O2) : List mv_V → H2 → (List mv_V → H2 → O2) → O2 := fun as h k => match as with
  | [.inr (t0, o0), .inl (.int v1), .inl (.int v2)] => mv_gd (Nat.beq t0 8) <| mv_rI (F4 o0 v1 v2 h) fun x h => k [.inl (.int x)] h
  | _ => none
def cN_partsG_N_act (F5 : Nat → Int32 → H2 → O2) : List mv_V → H2 → (List mv_V → H2 → O2) → O2 := fun as h k => match as with
  | [.inr (t0, o0), .inl (.int v1)] => mv_gd (Nat.beq t0 8) <| mv_rI (F5 o0 v1 h) fun x h => k [.inl (.int x)] h
  | _ => none
def cN_rubsG_N_act (F6 : Nat → Int32 → H2 → O2) : List mv_V → H2 → (List mv_V → H2 → O2) → O2 := fun as h k => match as with
  | [.inr (t0, o0), .inl (.int v1)] => mv_gd (Nat.beq t0 8) <| mv_rI (F6 o0 v1 h) fun x h => k [.inl (.int x)] h
  | _ => none
def cN_steepsActG_N_act (F7 : Nat → Int32 → H2 → O2) : List mv_V → H2 → (List mv_V → H2 → O2) → O2 := fun as h k => match as with
  | [.inr (t0, o0), .inl (.int v1)] => mv_gd (Nat.beq t0 8) <| mv_rI (F7 o0 v1 h) fun x h => k [.inl (.int x)] h
  | _ => none
set_option maxRecDepth 100000 in
set_option maxHeartbeats 1000000 in
theorem eN_act_g (F1 : Nat → Int32 → H2 → O2) (F2 : Int32 → H2 → O2) (F3 : Nat → Int32 → H2 → O2) (F4 : Nat → Int32 → Int32 → H2 → O2) (F5 : Nat → Int32 → H2 → O2) (F6 : Nat → Int32 → H2 → O2) (F7 : Nat → Int32 → H2 → O2) (o0 : Nat) (v1 : Int32) (v2 : Int32) (v3 : Int32) (h : H2) : mv_blk rI2 rR2 ln2 wI2 wR2 nw2 cp2 bod none tN_act [((0, 0), cN_isFourG_N_act F2), ((0, 0), cN_isHeldG_N_act F3), ((0, 0), cN_itsG_N_act F4), ((0, 0), cN_rubsG_N_act F6), ((0, 0), cN_steepsActG_N_act F7), ((0, 0), cN_partsG_N_act F5), ((0, 0), cN_driesActG_N_act F1)] 0 0 [] (fun _ _ _ _ _ _ => none) 400 (mv_seek 0 tN_act) [(0, Sum.inr (8, o0)), (1, Sum.inl (Value.int v1)), (2, Sum.inl (Value.int v2)), (3, Sum.inl (Value.int v3))] [] h 0 0 = (
  mv_bh (wI2 h 8 o0 20 (nI 0)) fun h1 =>
  mv_rI (F2 v1 h1) fun r3 h2 =>
  if r3 = 0 then (
    some ([Sum.inl (Value.int (nI 0))], h2))
  else
  mv_rI (F2 v2 h2) fun r5 h4 =>
  if r5 = 0 then (
    some ([Sum.inl (Value.int (nI 0))], h4))
  else
  mv_rI (F3 o0 v1 h4) fun r7 h6 =>
  if r7 = 0 then (
    some ([Sum.inl (Value.int (nI 0))], h6))
  else
  mv_gd (mv_inb v1 4) <|
  mv_bh (wI2 h6 8 o0 22 (rI2 h6 917 o0 v1.toNatClampNeg)) fun h8 =>
  mv_rI (F4 o0 (rI2 h8 8 o0 22) (nI 0) h8) fun r10 h9 =>
  mv_bh (wI2 h9 8 o0 21 r10) fun h11 =>
  mv_rI (F4 o0 (rI2 h11 8 o0 22) (nI 1) h11) fun r13 h12 =>
  mv_bh (wI2 h12 8 o0 23 ((nI 1) + r13)) fun h14 =>
  mv_gd (decide (nI 0 = nI 0) || decide (nI 0 = nI 1)) <|
  mv_bh (wI2 h14 8 o0 24 (nI 0)) fun h15 =>
  if v2 = 0 then (
    mv_rI (F6 o0 v3 h15) fun r17 h16 =>
    mv_bi r17 fun x18 =>
    if (rI2 h16 8 o0 24) = 0 then (
      some ([Sum.inl (Value.int x18)], h16))
    else
    some ([Sum.inl (Value.int (-(nI 15)))], h16))
  else
  if v2 = (nI 1) then (
    mv_rI (F7 o0 v3 h15) fun r20 h19 =>
    mv_bi r20 fun x21 =>
    if (rI2 h19 8 o0 24) = 0 then (
      some ([Sum.inl (Value.int x21)], h19))
    else
    some ([Sum.inl (Value.int (-(nI 15)))], h19))
  else
  if v2 = (nI 2) then (
    mv_rI (F5 o0 v3 h15) fun r23 h22 =>
    mv_bi r23 fun x24 =>
    if (rI2 h22 8 o0 24) = 0 then (
      some ([Sum.inl (Value.int x24)], h22))
    else
    some ([Sum.inl (Value.int (-(nI 15)))], h22))
  else
  mv_rI (F1 o0 v3 h15) fun r26 h25 =>
  mv_bi r26 fun x27 =>
  if (rI2 h25 8 o0 24) = 0 then (
    some ([Sum.inl (Value.int x27)], h25))
  else
  some ([Sum.inl (Value.int (-(nI 15)))], h25)) := rfl
theorem eN_act (o0 : Nat) (v1 : Int32) (v2 : Int32) (v3 : Int32) (h : H2) : mv_blk rI2 rR2 ln2 wI2 wR2 nw2 cp2 bod none tN_act gN_act 0 0 [] (fun _ _ _ _ _ _ => none) 400 (mv_seek 0 tN_act) [(0, Sum.inr (8, o0)), (1, Sum.inl (Value.int v1)), (2, Sum.inl (Value.int v2)), (3, Sum.inl (Value.int v3))] [] h 0 0 = (
  mv_bh (wI2 h 8 o0 20 (nI 0)) fun h1 =>
  mv_rI (fN_isFour v1 h1) fun r3 h2 =>
  if r3 = 0 then (
    some ([Sum.inl (Value.int (nI 0))], h2))
  else
  mv_rI (fN_isFour v2 h2) fun r5 h4 =>
  if r5 = 0 then (
    some ([Sum.inl (Value.int (nI 0))], h4))
  else
  mv_rI (fN_isHeld o0 v1 h4) fun r7 h6 =>
  if r7 = 0 then (
    some ([Sum.inl (Value.int (nI 0))], h6))
  else
  mv_gd (mv_inb v1 4) <|
  mv_bh (wI2 h6 8 o0 22 (rI2 h6 917 o0 v1.toNatClampNeg)) fun h8 =>
  mv_rI (fN_its o0 (rI2 h8 8 o0 22) (nI 0) h8) fun r10 h9 =>
  mv_bh (wI2 h9 8 o0 21 r10) fun h11 =>
  mv_rI (fN_its o0 (rI2 h11 8 o0 22) (nI 1) h11) fun r13 h12 =>
  mv_bh (wI2 h12 8 o0 23 ((nI 1) + r13)) fun h14 =>
  mv_gd (decide (nI 0 = nI 0) || decide (nI 0 = nI 1)) <|
  mv_bh (wI2 h14 8 o0 24 (nI 0)) fun h15 =>
  if v2 = 0 then (
    mv_rI (fN_rubs o0 v3 h15) fun r17 h16 =>
    mv_bi r17 fun x18 =>
    if (rI2 h16 8 o0 24) = 0 then (
      some ([Sum.inl (Value.int x18)], h16))
    else
    some ([Sum.inl (Value.int (-(nI 15)))], h16))
  else
  if v2 = (nI 1) then (
    mv_rI (fN_steepsAct o0 v3 h15) fun r20 h19 =>
    mv_bi r20 fun x21 =>
    if (rI2 h19 8 o0 24) = 0 then (
      some ([Sum.inl (Value.int x21)], h19))
    else
    some ([Sum.inl (Value.int (-(nI 15)))], h19))
  else
  if v2 = (nI 2) then (
    mv_rI (fN_parts o0 v3 h15) fun r23 h22 =>
    mv_bi r23 fun x24 =>
    if (rI2 h22 8 o0 24) = 0 then (
      some ([Sum.inl (Value.int x24)], h22))
    else
    some ([Sum.inl (Value.int (-(nI 15)))], h22))
  else
  mv_rI (fN_driesAct o0 v3 h15) fun r26 h25 =>
  mv_bi r26 fun x27 =>
  if (rI2 h25 8 o0 24) = 0 then (
    some ([Sum.inl (Value.int x27)], h25))
  else
  some ([Sum.inl (Value.int (-(nI 15)))], h25)) := eN_act_g fN_driesAct fN_isFour fN_isHeld fN_its fN_parts fN_rubs fN_steepsAct o0 v1 v2 v3 h
theorem GN_act : ∀ (j : Nat) (C : mv_C H2) (md' : mv_MD × Bool), mv_nth j gN_act = some C → mv_nth j nN_act = some md' → ∃ n', n' + 1 ≤ 9 ∧ mv_Cal vw2 n' md' C := fun j C md' => match j with
  | 0 => fun h1 h2 => by
    obtain rfl := Option.some.inj h1
    obtain rfl := Option.some.inj h2
    exact ⟨2, by decide, cN_isFour_ok⟩
  | 1 => fun h1 h2 => by
    obtain rfl := Option.some.inj h1
    obtain rfl := Option.some.inj h2
    exact ⟨3, by decide, cN_isHeld_ok⟩
  | 2 => fun h1 h2 => by
    obtain rfl := Option.some.inj h1
    obtain rfl := Option.some.inj h2
    exact ⟨1, by decide, cN_its_ok⟩
  | 3 => fun h1 h2 => by
    obtain rfl := Option.some.inj h1
    obtain rfl := Option.some.inj h2
    exact ⟨4, by decide, cN_rubs_ok⟩
  | 4 => fun h1 h2 => by
    obtain rfl := Option.some.inj h1
    obtain rfl := Option.some.inj h2
    exact ⟨6, by decide, cN_steepsAct_ok⟩
  | 5 => fun h1 h2 => by
    obtain rfl := Option.some.inj h1
    obtain rfl := Option.some.inj h2
    exact ⟨5, by decide, cN_parts_ok⟩
  | 6 => fun h1 h2 => by
    obtain rfl := Option.some.inj h1
    obtain rfl := Option.some.inj h2
    exact ⟨8, by decide, cN_driesAct_ok⟩
  | jj + 7 => fun h1 _ => by cases jj <;> cases h1

set_option maxRecDepth 20000 in
theorem xN_act {g0 : mv_G} {res : List mv_V × H2} (o0 : Nat) (v1 : Int32) (v2 : Int32) (v3 : Int32) (h : H2) (hh : fN_act o0 v1 v2 v3 h = some res) : mv_X vw2 mdN_act 9 0 0 none g0 res 0 [(0, Sum.inr (8, o0)), (1, Sum.inl (Value.int v1)), (2, Sum.inl (Value.int v2)), (3, Sum.inl (Value.int v3))] [] h 0 0 := by
  refine mv_blkX ax2 (GN_act) (by decide) kN_act (fun pc lv st h ce sl hh => ?_) ((eN_act  o0 v1 v2 v3 h).trans hh)
  cases hh

theorem mN_act (o0 : Nat) (v1 : Int32) (v2 : Int32) (v3 : Int32) (h : H2) (vs : List mv_V) (h' : H2) (hh : fN_act o0 v1 v2 v3 h = some (vs, h')) : mv_Met vw2 9 0 0 mdN_act [Sum.inr (8, o0), Sum.inl (Value.int v1), Sum.inl (Value.int v2), Sum.inl (Value.int v3)] h vs h' :=
  mv_Met_of (by decide +kernel) (Nat.le_of_ble_eq_true rfl) (xN_act o0 v1 v2 v3 h hh)
set_option maxRecDepth 100000 in
theorem kN_trace : mv_tok mdN_trace nN_trace tN_trace = true := by decide +kernel
def cN_inG_N_trace (F1 : Int64 → Int64 → Int64 → H2 → O2) : List mv_V → H2 → (List mv_V → H2 → O2) → O2 := fun as h k => match as with
  | [.inl (.long w0), .inl (.long w2), .inl (.long w4)] => mv_rI (F1 w0 w2 w4 h) fun x h => k [.inl (.int x)] h
  | _ => none
set_option maxRecDepth 100000 in
set_option maxHeartbeats 1000000 in
theorem eN_trace_g (F1 : Int64 → Int64 → Int64 → H2 → O2) (o0 : Nat) (v1 : Int32) (h : H2) : mv_blk rI2 rR2 ln2 wI2 wR2 nw2 cp2 bod none tN_trace [((0, 0), cN_inG_N_trace F1)] 0 0 [] (fun _ _ _ _ _ _ => none) 400 (mv_seek 0 tN_trace) [(0, Sum.inr (8, o0)), (1, Sum.inl (Value.int v1))] [] h 0 0 = (
  mv_rI (F1 v1.toInt64 (lN 0) (((rI2 h 8 o0 20) - (nI 1)).toInt64) h) fun r2 h1 =>
  if r2 = 0 then (
    some ([Sum.inl (Value.int (-(nI 3)))], h1))
  else
  mv_gd (mv_inb v1 30) <|
  some ([Sum.inl (Value.int (rI2 h1 919 o0 v1.toNatClampNeg))], h1)) := rfl
theorem eN_trace (o0 : Nat) (v1 : Int32) (h : H2) : mv_blk rI2 rR2 ln2 wI2 wR2 nw2 cp2 bod none tN_trace gN_trace 0 0 [] (fun _ _ _ _ _ _ => none) 400 (mv_seek 0 tN_trace) [(0, Sum.inr (8, o0)), (1, Sum.inl (Value.int v1))] [] h 0 0 = (
  mv_rI (fN_in v1.toInt64 (lN 0) (((rI2 h 8 o0 20) - (nI 1)).toInt64) h) fun r2 h1 =>
  if r2 = 0 then (
    some ([Sum.inl (Value.int (-(nI 3)))], h1))
  else
  mv_gd (mv_inb v1 30) <|
  some ([Sum.inl (Value.int (rI2 h1 919 o0 v1.toNatClampNeg))], h1)) := eN_trace_g fN_in o0 v1 h
theorem GN_trace : ∀ (j : Nat) (C : mv_C H2) (md' : mv_MD × Bool), mv_nth j gN_trace = some C → mv_nth j nN_trace = some md' → ∃ n', n' + 1 ≤ 2 ∧ mv_Cal vw2 n' md' C := fun j C md' => match j with
  | 0 => fun h1 h2 => by
    obtain rfl := Option.some.inj h1
    obtain rfl := Option.some.inj h2
    exact ⟨1, by decide, cN_in_ok⟩
  | jj + 1 => fun h1 _ => by cases jj <;> cases h1

set_option maxRecDepth 20000 in
theorem xN_trace {g0 : mv_G} {res : List mv_V × H2} (o0 : Nat) (v1 : Int32) (h : H2) (hh : fN_trace o0 v1 h = some res) : mv_X vw2 mdN_trace 2 0 0 none g0 res 0 [(0, Sum.inr (8, o0)), (1, Sum.inl (Value.int v1))] [] h 0 0 := by
  refine mv_blkX ax2 (GN_trace) (by decide) kN_trace (fun pc lv st h ce sl hh => ?_) ((eN_trace  o0 v1 h).trans hh)
  cases hh

theorem mN_trace (o0 : Nat) (v1 : Int32) (h : H2) (vs : List mv_V) (h' : H2) (hh : fN_trace o0 v1 h = some (vs, h')) : mv_Met vw2 2 0 0 mdN_trace [Sum.inr (8, o0), Sum.inl (Value.int v1)] h vs h' :=
  mv_Met_of (by decide +kernel) (Nat.le_of_ble_eq_true rfl) (xN_trace o0 v1 h hh)
set_option maxRecDepth 100000 in
theorem kN_purposesAbout : mv_tok mdN_purposesAbout nN_purposesAbout tN_purposesAbout = true := by decide +kernel
def cN_itsG_N_purposesAbout (F1 : Nat → Int32 → Int32 → H2 → O2) : List mv_V → H2 → (List mv_V → H2 → O2) → O2 := fun as h k => match as with
  | [.inr (t0, o0), .inl (.int v1), .inl (.int v2)] => mv_gd (Nat.beq t0 8) <| mv_rI (F1 o0 v1 v2 h) fun x h => k [.inl (.int x)] h
  | _ => none
set_option maxRecDepth 100000 in
set_option maxHeartbeats 1000000 in
theorem eN_purposesAbout_b15_g (F1 : Nat → Int32 → Int32 → H2 → O2) (q4 : Nat → Int32 → Int32 → H2 → O2) (q15 : Nat → Int32 → Int32 → Int32 → Int32 → H2 → O2) (o0 : Nat) (v1 : Int32) (v2 : Int32) (v3 : Int32) (v4 : Int32) (h : H2) : mv_blk rI2 rR2 ln2 wI2 wR2 nw2 cp2 bod none tN_purposesAbout [((0, 0), cN_itsG_N_purposesAbout F1)] 0 0 [4, 15] (fun pc lv st h ce sl => mv_gd (Nat.beq ce 0 && Nat.beq sl 0) (cond (Nat.beq pc 4) (mv_gR 0 8 lv fun o0 => mv_gI 1 lv fun v1 => mv_gI 2 lv fun v2 => mv_sE st (q4 o0 v1 v2 h)) (cond (Nat.beq pc 15) (mv_gR 0 8 lv fun o0 => mv_gI 1 lv fun v1 => mv_gI 2 lv fun v2 => mv_gI 3 lv fun v3 => mv_gI 4 lv fun v4 => mv_sE st (q15 o0 v1 v2 v3 v4 h)) (none)))) 400 (mv_seek 15 tN_purposesAbout) [(0, Sum.inr (8, o0)), (1, Sum.inl (Value.int v1)), (2, Sum.inl (Value.int v2)), (3, Sum.inl (Value.int v3)), (4, Sum.inl (Value.int v4))] [] h 0 0 = (
  mv_gd (mv_inb (nI 6) 69) <|
  if (rI2 h 902 o0 (nI 6).toNatClampNeg) ≤ v4 then (
    if v3 = 0 then (
      mv_bi (v1 + (nI 0)) fun x1 =>
      mv_bi (v2 + (nI 1)) fun x2 =>
      q4 o0 x1 x2 h)
    else
    mv_bi (v1 + (nI 1)) fun x3 =>
    mv_bi (v2 + (nI 1)) fun x4 =>
    q4 o0 x3 x4 h)
  else
  if v3 = 0 then (
    mv_rI (F1 o0 v4 (nI 1) h) fun r6 h5 =>
    if r6 = v2 then (
      mv_bi (nI 1) fun x7 =>
      mv_bi (v4 + (nI 1)) fun x8 =>
      q15 o0 v1 v2 x7 x8 h5)
    else
    mv_bi (nI 0) fun x9 =>
    mv_bi (v4 + (nI 1)) fun x10 =>
    q15 o0 v1 v2 x9 x10 h5)
  else
  mv_bi (nI 1) fun x11 =>
  mv_bi (v4 + (nI 1)) fun x12 =>
  q15 o0 v1 v2 x11 x12 h) := rfl
theorem eN_purposesAbout_b15 (q4 : Nat → Int32 → Int32 → H2 → O2) (q15 : Nat → Int32 → Int32 → Int32 → Int32 → H2 → O2) (o0 : Nat) (v1 : Int32) (v2 : Int32) (v3 : Int32) (v4 : Int32) (h : H2) : mv_blk rI2 rR2 ln2 wI2 wR2 nw2 cp2 bod none tN_purposesAbout gN_purposesAbout 0 0 [4, 15] (fun pc lv st h ce sl => mv_gd (Nat.beq ce 0 && Nat.beq sl 0) (cond (Nat.beq pc 4) (mv_gR 0 8 lv fun o0 => mv_gI 1 lv fun v1 => mv_gI 2 lv fun v2 => mv_sE st (q4 o0 v1 v2 h)) (cond (Nat.beq pc 15) (mv_gR 0 8 lv fun o0 => mv_gI 1 lv fun v1 => mv_gI 2 lv fun v2 => mv_gI 3 lv fun v3 => mv_gI 4 lv fun v4 => mv_sE st (q15 o0 v1 v2 v3 v4 h)) (none)))) 400 (mv_seek 15 tN_purposesAbout) [(0, Sum.inr (8, o0)), (1, Sum.inl (Value.int v1)), (2, Sum.inl (Value.int v2)), (3, Sum.inl (Value.int v3)), (4, Sum.inl (Value.int v4))] [] h 0 0 = (
  mv_gd (mv_inb (nI 6) 69) <|
  if (rI2 h 902 o0 (nI 6).toNatClampNeg) ≤ v4 then (
    if v3 = 0 then (
      mv_bi (v1 + (nI 0)) fun x1 =>
      mv_bi (v2 + (nI 1)) fun x2 =>
      q4 o0 x1 x2 h)
    else
    mv_bi (v1 + (nI 1)) fun x3 =>
    mv_bi (v2 + (nI 1)) fun x4 =>
    q4 o0 x3 x4 h)
  else
  if v3 = 0 then (
    mv_rI (fN_its o0 v4 (nI 1) h) fun r6 h5 =>
    if r6 = v2 then (
      mv_bi (nI 1) fun x7 =>
      mv_bi (v4 + (nI 1)) fun x8 =>
      q15 o0 v1 v2 x7 x8 h5)
    else
    mv_bi (nI 0) fun x9 =>
    mv_bi (v4 + (nI 1)) fun x10 =>
    q15 o0 v1 v2 x9 x10 h5)
  else
  mv_bi (nI 1) fun x11 =>
  mv_bi (v4 + (nI 1)) fun x12 =>
  q15 o0 v1 v2 x11 x12 h) := eN_purposesAbout_b15_g fN_its q4 q15 o0 v1 v2 v3 v4 h
set_option maxRecDepth 100000 in
set_option maxHeartbeats 1000000 in
theorem eN_purposesAbout_b4_g (F1 : Nat → Int32 → Int32 → H2 → O2) (q15 : Nat → Int32 → Int32 → Int32 → Int32 → H2 → O2) (o0 : Nat) (v1 : Int32) (v2 : Int32) (h : H2) : mv_blk rI2 rR2 ln2 wI2 wR2 nw2 cp2 bod none tN_purposesAbout [((0, 0), cN_itsG_N_purposesAbout F1)] 0 0 [15] (fun pc lv st h ce sl => mv_gd (Nat.beq ce 0 && Nat.beq sl 0) (cond (Nat.beq pc 15) (mv_gR 0 8 lv fun o0 => mv_gI 1 lv fun v1 => mv_gI 2 lv fun v2 => mv_gI 3 lv fun v3 => mv_gI 4 lv fun v4 => mv_sE st (q15 o0 v1 v2 v3 v4 h)) (none))) 400 (mv_seek 4 tN_purposesAbout) [(0, Sum.inr (8, o0)), (1, Sum.inl (Value.int v1)), (2, Sum.inl (Value.int v2))] [] h 0 0 = (
  if (nI 10) ≤ v2 then (
    some ([Sum.inl (Value.int v1)], h))
  else
  mv_bi (nI 0) fun x1 =>
  mv_bi (nI 0) fun x2 =>
  q15 o0 v1 v2 x1 x2 h) := rfl
theorem eN_purposesAbout_b4 (q15 : Nat → Int32 → Int32 → Int32 → Int32 → H2 → O2) (o0 : Nat) (v1 : Int32) (v2 : Int32) (h : H2) : mv_blk rI2 rR2 ln2 wI2 wR2 nw2 cp2 bod none tN_purposesAbout gN_purposesAbout 0 0 [15] (fun pc lv st h ce sl => mv_gd (Nat.beq ce 0 && Nat.beq sl 0) (cond (Nat.beq pc 15) (mv_gR 0 8 lv fun o0 => mv_gI 1 lv fun v1 => mv_gI 2 lv fun v2 => mv_gI 3 lv fun v3 => mv_gI 4 lv fun v4 => mv_sE st (q15 o0 v1 v2 v3 v4 h)) (none))) 400 (mv_seek 4 tN_purposesAbout) [(0, Sum.inr (8, o0)), (1, Sum.inl (Value.int v1)), (2, Sum.inl (Value.int v2))] [] h 0 0 = (
  if (nI 10) ≤ v2 then (
    some ([Sum.inl (Value.int v1)], h))
  else
  mv_bi (nI 0) fun x1 =>
  mv_bi (nI 0) fun x2 =>
  q15 o0 v1 v2 x1 x2 h) := eN_purposesAbout_b4_g fN_its q15 o0 v1 v2 h
set_option maxRecDepth 100000 in
set_option maxHeartbeats 1000000 in
theorem eN_purposesAbout_g (F1 : Nat → Int32 → Int32 → H2 → O2) (q4 : Nat → Int32 → Int32 → H2 → O2) (o0 : Nat) (h : H2) : mv_blk rI2 rR2 ln2 wI2 wR2 nw2 cp2 bod none tN_purposesAbout [((0, 0), cN_itsG_N_purposesAbout F1)] 0 0 [4] (fun pc lv st h ce sl => mv_gd (Nat.beq ce 0 && Nat.beq sl 0) (cond (Nat.beq pc 4) (mv_gR 0 8 lv fun o0 => mv_gI 1 lv fun v1 => mv_gI 2 lv fun v2 => mv_sE st (q4 o0 v1 v2 h)) (none))) 400 (mv_seek 0 tN_purposesAbout) [(0, Sum.inr (8, o0))] [] h 0 0 = (
  mv_bi (nI 0) fun x1 =>
  mv_bi (nI 0) fun x2 =>
  q4 o0 x1 x2 h) := rfl
theorem eN_purposesAbout (q4 : Nat → Int32 → Int32 → H2 → O2) (o0 : Nat) (h : H2) : mv_blk rI2 rR2 ln2 wI2 wR2 nw2 cp2 bod none tN_purposesAbout gN_purposesAbout 0 0 [4] (fun pc lv st h ce sl => mv_gd (Nat.beq ce 0 && Nat.beq sl 0) (cond (Nat.beq pc 4) (mv_gR 0 8 lv fun o0 => mv_gI 1 lv fun v1 => mv_gI 2 lv fun v2 => mv_sE st (q4 o0 v1 v2 h)) (none))) 400 (mv_seek 0 tN_purposesAbout) [(0, Sum.inr (8, o0))] [] h 0 0 = (
  mv_bi (nI 0) fun x1 =>
  mv_bi (nI 0) fun x2 =>
  q4 o0 x1 x2 h) := eN_purposesAbout_g fN_its q4 o0 h
theorem GN_purposesAbout : ∀ (j : Nat) (C : mv_C H2) (md' : mv_MD × Bool), mv_nth j gN_purposesAbout = some C → mv_nth j nN_purposesAbout = some md' → ∃ n', n' + 1 ≤ 2 ∧ mv_Cal vw2 n' md' C := fun j C md' => match j with
  | 0 => fun h1 h2 => by
    obtain rfl := Option.some.inj h1
    obtain rfl := Option.some.inj h2
    exact ⟨1, by decide, cN_its_ok⟩
  | jj + 1 => fun h1 _ => by cases jj <;> cases h1

set_option maxRecDepth 20000 in
theorem xN_purposesAbout_b15 {g0 : mv_G} {res : List mv_V × H2} {k4 : Nat → Int32 → Int32 → H2 → O2} (hk4 : ∀ (o0 : Nat) (v1 : Int32) (v2 : Int32) h, k4 o0 v1 v2 h = some res → mv_X vw2 mdN_purposesAbout 2 0 0 none g0 res 4 [(0, Sum.inr (8, o0)), (1, Sum.inl (Value.int v1)), (2, Sum.inl (Value.int v2))] [] h 0 0) : ∀ (n : Nat) (o0 : Nat) (v1 : Int32) (v2 : Int32) (v3 : Int32) (v4 : Int32) (h : H2), fN_purposesAbout_b15 k4 n o0 v1 v2 v3 v4 h = some res → mv_X vw2 mdN_purposesAbout 2 0 0 none g0 res 15 [(0, Sum.inr (8, o0)), (1, Sum.inl (Value.int v1)), (2, Sum.inl (Value.int v2)), (3, Sum.inl (Value.int v3)), (4, Sum.inl (Value.int v4))] [] h 0 0 := by
  intro n
  induction n with
  | zero => intro o0 v1 v2 v3 v4 h hh; cases hh
  | succ n ih =>
    intro o0 v1 v2 v3 v4 h hh
    refine mv_blkX ax2 (GN_purposesAbout) (by decide) kN_purposesAbout (fun pc lv st h ce sl hh => ?_) ((eN_purposesAbout_b15 (k4) (fN_purposesAbout_b15 k4 n) o0 v1 v2 v3 v4 h).trans hh)
    obtain ⟨hg, hh1⟩ := mv_gd_some hh
    obtain ⟨rfl, rfl⟩ := mv_z2 hg
    rcases mv_cond_some hh1 with ⟨hb, hh2⟩ | ⟨hb, hh3⟩
    · obtain rfl := Nat.eq_of_beq_eq_true hb
      obtain ⟨o0, m0, hh4⟩ := mv_gR_some hh2
      obtain ⟨v1, m1, hh5⟩ := mv_gI_some hh4
      obtain ⟨v2, m2, hh6⟩ := mv_gI_some hh5
      obtain ⟨rfl, hh7⟩ := mv_sE_some hh6
      exact (hk4 o0 v1 v2 h hh7).sub (List.forall_mem_cons.mpr ⟨m0, (List.forall_mem_cons.mpr ⟨m1, (List.forall_mem_cons.mpr ⟨m2, (fun q hq => by cases hq)⟩)⟩)⟩)
    rcases mv_cond_some hh3 with ⟨hb, hh8⟩ | ⟨hb, hh9⟩
    · obtain rfl := Nat.eq_of_beq_eq_true hb
      obtain ⟨o0, m0, hh10⟩ := mv_gR_some hh8
      obtain ⟨v1, m1, hh11⟩ := mv_gI_some hh10
      obtain ⟨v2, m2, hh12⟩ := mv_gI_some hh11
      obtain ⟨v3, m3, hh13⟩ := mv_gI_some hh12
      obtain ⟨v4, m4, hh14⟩ := mv_gI_some hh13
      obtain ⟨rfl, hh15⟩ := mv_sE_some hh14
      exact (ih o0 v1 v2 v3 v4 h hh15).sub (List.forall_mem_cons.mpr ⟨m0, (List.forall_mem_cons.mpr ⟨m1, (List.forall_mem_cons.mpr ⟨m2, (List.forall_mem_cons.mpr ⟨m3, (List.forall_mem_cons.mpr ⟨m4, (fun q hq => by cases hq)⟩)⟩)⟩)⟩)⟩)
    cases hh9

set_option maxRecDepth 20000 in
theorem xN_purposesAbout_b4 {g0 : mv_G} {res : List mv_V × H2} : ∀ (n : Nat) (o0 : Nat) (v1 : Int32) (v2 : Int32) (h : H2), fN_purposesAbout_b4 n o0 v1 v2 h = some res → mv_X vw2 mdN_purposesAbout 2 0 0 none g0 res 4 [(0, Sum.inr (8, o0)), (1, Sum.inl (Value.int v1)), (2, Sum.inl (Value.int v2))] [] h 0 0 := by
  intro n
  induction n with
  | zero => intro o0 v1 v2 h hh; cases hh
  | succ n ih =>
    intro o0 v1 v2 h hh
    refine mv_blkX ax2 (GN_purposesAbout) (by decide) kN_purposesAbout (fun pc lv st h ce sl hh => ?_) ((eN_purposesAbout_b4 (fN_purposesAbout_b15 (fN_purposesAbout_b4 n) 1000) o0 v1 v2 h).trans hh)
    obtain ⟨hg, hh1⟩ := mv_gd_some hh
    obtain ⟨rfl, rfl⟩ := mv_z2 hg
    rcases mv_cond_some hh1 with ⟨hb, hh2⟩ | ⟨hb, hh3⟩
    · obtain rfl := Nat.eq_of_beq_eq_true hb
      obtain ⟨o0, m0, hh4⟩ := mv_gR_some hh2
      obtain ⟨v1, m1, hh5⟩ := mv_gI_some hh4
      obtain ⟨v2, m2, hh6⟩ := mv_gI_some hh5
      obtain ⟨v3, m3, hh7⟩ := mv_gI_some hh6
      obtain ⟨v4, m4, hh8⟩ := mv_gI_some hh7
      obtain ⟨rfl, hh9⟩ := mv_sE_some hh8
      exact (xN_purposesAbout_b15 ih 1000 o0 v1 v2 v3 v4 h hh9).sub (List.forall_mem_cons.mpr ⟨m0, (List.forall_mem_cons.mpr ⟨m1, (List.forall_mem_cons.mpr ⟨m2, (List.forall_mem_cons.mpr ⟨m3, (List.forall_mem_cons.mpr ⟨m4, (fun q hq => by cases hq)⟩)⟩)⟩)⟩)⟩)
    cases hh3

set_option maxRecDepth 20000 in
theorem xN_purposesAbout {g0 : mv_G} {res : List mv_V × H2} (o0 : Nat) (h : H2) (hh : fN_purposesAbout o0 h = some res) : mv_X vw2 mdN_purposesAbout 2 0 0 none g0 res 0 [(0, Sum.inr (8, o0))] [] h 0 0 := by
  refine mv_blkX ax2 (GN_purposesAbout) (by decide) kN_purposesAbout (fun pc lv st h ce sl hh => ?_) ((eN_purposesAbout (fN_purposesAbout_b4 1000) o0 h).trans hh)
  obtain ⟨hg, hh1⟩ := mv_gd_some hh
  obtain ⟨rfl, rfl⟩ := mv_z2 hg
  rcases mv_cond_some hh1 with ⟨hb, hh2⟩ | ⟨hb, hh3⟩
  · obtain rfl := Nat.eq_of_beq_eq_true hb
    obtain ⟨o0, m0, hh4⟩ := mv_gR_some hh2
    obtain ⟨v1, m1, hh5⟩ := mv_gI_some hh4
    obtain ⟨v2, m2, hh6⟩ := mv_gI_some hh5
    obtain ⟨rfl, hh7⟩ := mv_sE_some hh6
    exact (xN_purposesAbout_b4 1000 o0 v1 v2 h hh7).sub (List.forall_mem_cons.mpr ⟨m0, (List.forall_mem_cons.mpr ⟨m1, (List.forall_mem_cons.mpr ⟨m2, (fun q hq => by cases hq)⟩)⟩)⟩)
  cases hh3

theorem mN_purposesAbout (o0 : Nat) (h : H2) (vs : List mv_V) (h' : H2) (hh : fN_purposesAbout o0 h = some (vs, h')) : mv_Met vw2 2 0 0 mdN_purposesAbout [Sum.inr (8, o0)] h vs h' :=
  mv_Met_of (by decide +kernel) (Nat.le_of_ble_eq_true rfl) (xN_purposesAbout o0 h hh)
theorem cN_purposesAbout_ok : mv_Cal vw2 2 (mdN_purposesAbout, true) ((0, 0), cN_purposesAbout) := by
  intro as h k res hh
  change cN_purposesAbout as h k = some res at hh
  unfold cN_purposesAbout at hh
  split at hh
  · obtain ⟨hg0, ha0⟩ := mv_gd_some hh
    obtain rfl := Nat.eq_of_beq_eq_true hg0
    obtain ⟨x, h', h1, h9⟩ := mv_rI_some ha0
    exact ⟨_, _, h9, (by first | decide | exact Nat.le_refl _ | exact Nat.zero_le _), fun _ => ⟨_, _, _, rfl, Or.inl ⟨by decide, rfl⟩⟩, (mN_purposesAbout _ h _ _ h1)⟩
  · cases hh

