set_option maxRecDepth 100000 in
theorem kA_forget : mv_tok mdA_forget nA_forget tA_forget = true := by decide +kernel
set_option maxRecDepth 100000 in
set_option maxHeartbeats 1000000 in
theorem eA_forget (o0 : Nat) (h : H2) : mv_blk rI2 rR2 ln2 wI2 wR2 nw2 cp2 bod none tA_forget gA_forget 0 0 [] (fun _ _ _ _ _ _ => none) 400 (mv_seek 0 tA_forget) [(0, Sum.inr (0, o0))] [] h 0 0 = (
  mv_bh (wI2 h 0 o0 1 (nI 0)) fun h1 =>
  some ([], h1)) := rfl
theorem GA_forget : ∀ (j : Nat) (C : mv_C H2) (md' : mv_MD × Bool), mv_nth j gA_forget = some C → mv_nth j nA_forget = some md' → ∃ n', n' + 1 ≤ 1 ∧ mv_Cal vw2 n' md' C := fun j C md' h1 _ => by cases j <;> cases h1

set_option maxRecDepth 20000 in
theorem xA_forget {g0 : mv_G} {res : List mv_V × H2} (o0 : Nat) (h : H2) (hh : fA_forget o0 h = some res) : mv_X vw2 mdA_forget 1 0 0 none g0 res 0 [(0, Sum.inr (0, o0))] [] h 0 0 := by
  refine mv_blkX ax2 (GA_forget) (by decide) kA_forget (fun pc lv st h ce sl hh => ?_) ((eA_forget  o0 h).trans hh)
  cases hh

theorem mA_forget (o0 : Nat) (h : H2) (vs : List mv_V) (h' : H2) (hh : fA_forget o0 h = some (vs, h')) : mv_Met vw2 1 0 0 mdA_forget [Sum.inr (0, o0)] h vs h' :=
  mv_Met_of (by decide +kernel) (Nat.le_of_ble_eq_true rfl) (xA_forget o0 h hh)
theorem cA_forget_ok : mv_Cal vw2 1 (mdA_forget, true) ((0, 0), cA_forget) := by
  intro as h k res hh
  change cA_forget as h k = some res at hh
  unfold cA_forget at hh
  split at hh
  · obtain ⟨hg0, ha0⟩ := mv_gd_some hh
    obtain rfl := Nat.eq_of_beq_eq_true hg0
    obtain ⟨h', h1, h9⟩ := mv_rV_some ha0
    exact ⟨_, _, h9, (by first | decide | exact Nat.le_refl _ | exact Nat.zero_le _), fun _ => ⟨_, _, _, rfl, Or.inl ⟨by decide, rfl⟩⟩, (mA_forget _ h _ _ h1)⟩
  · cases hh

set_option maxRecDepth 100000 in
theorem kA_hold : mv_tok mdA_hold nA_hold tA_hold = true := by decide +kernel
set_option maxRecDepth 100000 in
set_option maxHeartbeats 1000000 in
theorem eA_hold (o0 : Nat) (v1 : Int32) (v2 : Int32) (v3 : Int32) (h : H2) : mv_blk rI2 rR2 ln2 wI2 wR2 nw2 cp2 bod none tA_hold gA_hold 0 0 [] (fun _ _ _ _ _ _ => none) 400 (mv_seek 0 tA_hold) [(0, Sum.inr (0, o0)), (1, Sum.inl (Value.int v1)), (2, Sum.inl (Value.int v2)), (3, Sum.inl (Value.int v3))] [] h 0 0 = (
  mv_bh (wI2 h 0 o0 2 v1) fun h1 =>
  mv_bh (wI2 h1 0 o0 3 v2) fun h2 =>
  mv_bh (wI2 h2 0 o0 4 v3) fun h3 =>
  some ([], h3)) := rfl
theorem GA_hold : ∀ (j : Nat) (C : mv_C H2) (md' : mv_MD × Bool), mv_nth j gA_hold = some C → mv_nth j nA_hold = some md' → ∃ n', n' + 1 ≤ 1 ∧ mv_Cal vw2 n' md' C := fun j C md' h1 _ => by cases j <;> cases h1

set_option maxRecDepth 20000 in
theorem xA_hold {g0 : mv_G} {res : List mv_V × H2} (o0 : Nat) (v1 : Int32) (v2 : Int32) (v3 : Int32) (h : H2) (hh : fA_hold o0 v1 v2 v3 h = some res) : mv_X vw2 mdA_hold 1 0 0 none g0 res 0 [(0, Sum.inr (0, o0)), (1, Sum.inl (Value.int v1)), (2, Sum.inl (Value.int v2)), (3, Sum.inl (Value.int v3))] [] h 0 0 := by
  refine mv_blkX ax2 (GA_hold) (by decide) kA_hold (fun pc lv st h ce sl hh => ?_) ((eA_hold  o0 v1 v2 v3 h).trans hh)
  cases hh

theorem mA_hold (o0 : Nat) (v1 : Int32) (v2 : Int32) (v3 : Int32) (h : H2) (vs : List mv_V) (h' : H2) (hh : fA_hold o0 v1 v2 v3 h = some (vs, h')) : mv_Met vw2 1 0 0 mdA_hold [Sum.inr (0, o0), Sum.inl (Value.int v1), Sum.inl (Value.int v2), Sum.inl (Value.int v3)] h vs h' :=
  mv_Met_of (by decide +kernel) (Nat.le_of_ble_eq_true rfl) (xA_hold o0 v1 v2 v3 h hh)
theorem cA_hold_ok : mv_Cal vw2 1 (mdA_hold, true) ((0, 0), cA_hold) := by
  intro as h k res hh
  change cA_hold as h k = some res at hh
  unfold cA_hold at hh
  split at hh
  · obtain ⟨hg0, ha0⟩ := mv_gd_some hh
    obtain rfl := Nat.eq_of_beq_eq_true hg0
    obtain ⟨h', h1, h9⟩ := mv_rV_some ha0
    exact ⟨_, _, h9, (by first | decide | exact Nat.le_refl _ | exact Nat.zero_le _), fun _ => ⟨_, _, _, rfl, Or.inl ⟨by decide, rfl⟩⟩, (mA_hold _ _ _ _ h _ _ h1)⟩
  · cases hh

set_option maxRecDepth 100000 in
theorem kA_note : mv_tok mdA_note nA_note tA_note = true := by decide +kernel
set_option maxRecDepth 100000 in
set_option maxHeartbeats 1000000 in
theorem eA_note (o0 : Nat) (v1 : Int32) (h : H2) : mv_blk rI2 rR2 ln2 wI2 wR2 nw2 cp2 bod none tA_note gA_note 0 0 [] (fun _ _ _ _ _ _ => none) 400 (mv_seek 0 tA_note) [(0, Sum.inr (0, o0)), (1, Sum.inl (Value.int v1))] [] h 0 0 = (
  if (nI 30) ≤ (rI2 h 0 o0 1) then (
    some ([], h))
  else
  mv_bh (wI2 h 0 o0 1 ((rI2 h 0 o0 1) + (nI 1))) fun h1 =>
  mv_gd (mv_inb (rI2 h 0 o0 1) 30) <|
  mv_bh (wI2 h1 100 o0 (rI2 h 0 o0 1).toNatClampNeg v1) fun h2 =>
  some ([], h2)) := rfl
theorem GA_note : ∀ (j : Nat) (C : mv_C H2) (md' : mv_MD × Bool), mv_nth j gA_note = some C → mv_nth j nA_note = some md' → ∃ n', n' + 1 ≤ 1 ∧ mv_Cal vw2 n' md' C := fun j C md' h1 _ => by cases j <;> cases h1

set_option maxRecDepth 20000 in
theorem xA_note {g0 : mv_G} {res : List mv_V × H2} (o0 : Nat) (v1 : Int32) (h : H2) (hh : fA_note o0 v1 h = some res) : mv_X vw2 mdA_note 1 0 0 none g0 res 0 [(0, Sum.inr (0, o0)), (1, Sum.inl (Value.int v1))] [] h 0 0 := by
  refine mv_blkX ax2 (GA_note) (by decide) kA_note (fun pc lv st h ce sl hh => ?_) ((eA_note  o0 v1 h).trans hh)
  cases hh

theorem mA_note (o0 : Nat) (v1 : Int32) (h : H2) (vs : List mv_V) (h' : H2) (hh : fA_note o0 v1 h = some (vs, h')) : mv_Met vw2 1 0 0 mdA_note [Sum.inr (0, o0), Sum.inl (Value.int v1)] h vs h' :=
  mv_Met_of (by decide +kernel) (Nat.le_of_ble_eq_true rfl) (xA_note o0 v1 h hh)
theorem cA_note_ok : mv_Cal vw2 1 (mdA_note, true) ((0, 0), cA_note) := by
  intro as h k res hh
  change cA_note as h k = some res at hh
  unfold cA_note at hh
  split at hh
  · obtain ⟨hg0, ha0⟩ := mv_gd_some hh
    obtain rfl := Nat.eq_of_beq_eq_true hg0
    obtain ⟨h', h1, h9⟩ := mv_rV_some ha0
    exact ⟨_, _, h9, (by first | decide | exact Nat.le_refl _ | exact Nat.zero_le _), fun _ => ⟨_, _, _, rfl, Or.inl ⟨by decide, rfl⟩⟩, (mA_note _ _ h _ _ h1)⟩
  · cases hh

set_option maxRecDepth 100000 in
theorem kA_parted : mv_tok mdA_parted nA_parted tA_parted = true := by decide +kernel
set_option maxRecDepth 100000 in
set_option maxHeartbeats 1000000 in
theorem eA_parted (o0 : Nat) (v1 : Int32) (v2 : Int32) (h : H2) : mv_blk rI2 rR2 ln2 wI2 wR2 nw2 cp2 bod none tA_parted gA_parted 0 0 [] (fun _ _ _ _ _ _ => none) 400 (mv_seek 0 tA_parted) [(0, Sum.inr (0, o0)), (1, Sum.inl (Value.int v1)), (2, Sum.inl (Value.int v2))] [] h 0 0 = (
  if v2 = 0 then (
    mv_gd (decide (nI 1 = nI 0) || decide (nI 1 = nI 1)) <|
    mv_bh (wI2 h 0 o0 5 (nI 1)) fun h1 =>
    some ([Sum.inl (Value.int (nI 0))], h1))
  else
  mv_gd (!decide (v2 = 0)) <|
  some ([Sum.inl (Value.int (v1 / v2))], h)) := rfl
theorem GA_parted : ∀ (j : Nat) (C : mv_C H2) (md' : mv_MD × Bool), mv_nth j gA_parted = some C → mv_nth j nA_parted = some md' → ∃ n', n' + 1 ≤ 1 ∧ mv_Cal vw2 n' md' C := fun j C md' h1 _ => by cases j <;> cases h1

set_option maxRecDepth 20000 in
theorem xA_parted {g0 : mv_G} {res : List mv_V × H2} (o0 : Nat) (v1 : Int32) (v2 : Int32) (h : H2) (hh : fA_parted o0 v1 v2 h = some res) : mv_X vw2 mdA_parted 1 0 0 none g0 res 0 [(0, Sum.inr (0, o0)), (1, Sum.inl (Value.int v1)), (2, Sum.inl (Value.int v2))] [] h 0 0 := by
  refine mv_blkX ax2 (GA_parted) (by decide) kA_parted (fun pc lv st h ce sl hh => ?_) ((eA_parted  o0 v1 v2 h).trans hh)
  cases hh

theorem mA_parted (o0 : Nat) (v1 : Int32) (v2 : Int32) (h : H2) (vs : List mv_V) (h' : H2) (hh : fA_parted o0 v1 v2 h = some (vs, h')) : mv_Met vw2 1 0 0 mdA_parted [Sum.inr (0, o0), Sum.inl (Value.int v1), Sum.inl (Value.int v2)] h vs h' :=
  mv_Met_of (by decide +kernel) (Nat.le_of_ble_eq_true rfl) (xA_parted o0 v1 v2 h hh)
theorem cA_parted_ok : mv_Cal vw2 1 (mdA_parted, true) ((0, 0), cA_parted) := by
  intro as h k res hh
  change cA_parted as h k = some res at hh
  unfold cA_parted at hh
  split at hh
  · obtain ⟨hg0, ha0⟩ := mv_gd_some hh
    obtain rfl := Nat.eq_of_beq_eq_true hg0
    obtain ⟨x, h', h1, h9⟩ := mv_rI_some ha0
    exact ⟨_, _, h9, (by first | decide | exact Nat.le_refl _ | exact Nat.zero_le _), fun _ => ⟨_, _, _, rfl, Or.inl ⟨by decide, rfl⟩⟩, (mA_parted _ _ _ h _ _ h1)⟩
  · cases hh

set_option maxRecDepth 100000 in
theorem kA_own : mv_tok mdA_own nA_own tA_own = true := by decide +kernel
set_option maxRecDepth 100000 in
set_option maxHeartbeats 1000000 in
theorem eA_own (bd : Nat → Int32 → Int32 → Int32 → H2 → O2) (o0 : Nat) (v1 : Int32) (v2 : Int32) (v3 : Int32) (h : H2) : mv_blk rI2 rR2 ln2 wI2 wR2 nw2 cp2 bod none tA_own (gA_own bd) 0 0 [] (fun _ _ _ _ _ _ => none) 400 (mv_seek 0 tA_own) [(0, Sum.inr (0, o0)), (1, Sum.inl (Value.int v1)), (2, Sum.inl (Value.int v2)), (3, Sum.inl (Value.int v3))] [] h 0 0 = (
  mv_gd (mv_inb (((rI2 h 0 o0 2) * (nI 4)) + v1) 24) <|
  mv_rI (bd o0 (bod (((rI2 h 0 o0 2) * (nI 4)) + v1).toNatClampNeg) v2 (v3 + (nI 1)) h) fun r2 h1 =>
  some ([Sum.inl (Value.int r2)], h1)) := rfl
set_option maxRecDepth 100000 in
theorem kA_body : mv_tok mdA_body nA_body tA_body = true := by decide +kernel
set_option maxRecDepth 100000 in
set_option maxHeartbeats 1000000 in
theorem eA_body_b244 (bd : Nat → Int32 → Int32 → Int32 → H2 → O2) (o0 : Nat) (v2 : Int32) (h : H2) : mv_blk rI2 rR2 ln2 wI2 wR2 nw2 cp2 bod none tA_body (gA_body bd) 0 0 [] (fun _ _ _ _ _ _ => none) 400 (mv_seek 244 tA_body) [(0, Sum.inr (0, o0)), (2, Sum.inl (Value.int v2))] [] h 0 0 = (
  some ([Sum.inl (Value.int ((v2 * (nI 5)) + (rI2 h 0 o0 3)))], h)) := rfl
set_option maxRecDepth 100000 in
set_option maxHeartbeats 1000000 in
theorem eA_body_b253 (bd : Nat → Int32 → Int32 → Int32 → H2 → O2) (o0 : Nat) (v2 : Int32) (v3 : Int32) (h : H2) : mv_blk rI2 rR2 ln2 wI2 wR2 nw2 cp2 bod none tA_body (gA_body bd) 0 0 [] (fun _ _ _ _ _ _ => none) 400 (mv_seek 253 tA_body) [(0, Sum.inr (0, o0)), (2, Sum.inl (Value.int v2)), (3, Sum.inl (Value.int v3))] [] h 0 0 = (
  mv_rI (fA_own bd o0 (nI 0) v2 v3 h) fun r2 h1 =>
  some ([Sum.inl (Value.int (r2 + ((rI2 h1 0 o0 4) * (nI 9))))], h1)) := rfl
set_option maxRecDepth 100000 in
set_option maxHeartbeats 1000000 in
theorem eA_body_b269 (bd : Nat → Int32 → Int32 → Int32 → H2 → O2) (o0 : Nat) (v2 : Int32) (h : H2) : mv_blk rI2 rR2 ln2 wI2 wR2 nw2 cp2 bod none tA_body (gA_body bd) 0 0 [] (fun _ _ _ _ _ _ => none) 400 (mv_seek 269 tA_body) [(0, Sum.inr (0, o0)), (2, Sum.inl (Value.int v2))] [] h 0 0 = (
  mv_rI (fA_parted o0 v2 ((rI2 h 0 o0 4) - (rI2 h 0 o0 3)) h) fun r2 h1 =>
  some ([Sum.inl (Value.int r2)], h1)) := rfl
set_option maxRecDepth 100000 in
set_option maxHeartbeats 1000000 in
theorem eA_body_b284 (bd : Nat → Int32 → Int32 → Int32 → H2 → O2) (o0 : Nat) (v2 : Int32) (v3 : Int32) (h : H2) : mv_blk rI2 rR2 ln2 wI2 wR2 nw2 cp2 bod none tA_body (gA_body bd) 0 0 [] (fun _ _ _ _ _ _ => none) 400 (mv_seek 284 tA_body) [(0, Sum.inr (0, o0)), (2, Sum.inl (Value.int v2)), (3, Sum.inl (Value.int v3))] [] h 0 0 = (
  mv_rI (fA_own bd o0 (nI 1) v2 v3 h) fun r2 h1 =>
  some ([Sum.inl (Value.int (r2 ^^^ (nI 240)))], h1)) := rfl
set_option maxRecDepth 100000 in
set_option maxHeartbeats 1000000 in
theorem eA_body_b296 (bd : Nat → Int32 → Int32 → Int32 → H2 → O2) (o0 : Nat) (v2 : Int32) (v3 : Int32) (h : H2) : mv_blk rI2 rR2 ln2 wI2 wR2 nw2 cp2 bod none tA_body (gA_body bd) 0 0 [] (fun _ _ _ _ _ _ => none) 400 (mv_seek 296 tA_body) [(0, Sum.inr (0, o0)), (2, Sum.inl (Value.int v2)), (3, Sum.inl (Value.int v3))] [] h 0 0 = (
  mv_rI (bd o0 (nI 11) v2 (v3 + (nI 1)) h) fun r2 h1 =>
  some ([Sum.inl (Value.int (r2 - (nI 6)))], h1)) := rfl
set_option maxRecDepth 100000 in
set_option maxHeartbeats 1000000 in
theorem eA_body_b310 (bd : Nat → Int32 → Int32 → Int32 → H2 → O2) (o0 : Nat) (v2 : Int32) (v3 : Int32) (h : H2) : mv_blk rI2 rR2 ln2 wI2 wR2 nw2 cp2 bod none tA_body (gA_body bd) 0 0 [] (fun _ _ _ _ _ _ => none) 400 (mv_seek 310 tA_body) [(0, Sum.inr (0, o0)), (2, Sum.inl (Value.int v2)), (3, Sum.inl (Value.int v3))] [] h 0 0 = (
  mv_rI (bd o0 (nI 10) v2 (v3 + (nI 1)) h) fun r2 h1 =>
  some ([Sum.inl (Value.int (r2 * (nI 2)))], h1)) := rfl
set_option maxRecDepth 100000 in
set_option maxHeartbeats 1000000 in
theorem eA_body_b323 (bd : Nat → Int32 → Int32 → Int32 → H2 → O2) (o0 : Nat) (v2 : Int32) (v3 : Int32) (h : H2) : mv_blk rI2 rR2 ln2 wI2 wR2 nw2 cp2 bod none tA_body (gA_body bd) 0 0 [] (fun _ _ _ _ _ _ => none) 400 (mv_seek 323 tA_body) [(0, Sum.inr (0, o0)), (2, Sum.inl (Value.int v2)), (3, Sum.inl (Value.int v3))] [] h 0 0 = (
  mv_rI (bd o0 (nI 13) v2 (v3 + (nI 1)) h) fun r2 h1 =>
  mv_rI (fA_own bd o0 (nI 2) (rI2 h1 0 o0 3) v3 h1) fun r4 h3 =>
  some ([Sum.inl (Value.int (r2 + r4))], h3)) := rfl
set_option maxRecDepth 100000 in
set_option maxHeartbeats 1000000 in
theorem eA_body_b345 (bd : Nat → Int32 → Int32 → Int32 → H2 → O2) (o0 : Nat) (v2 : Int32) (v3 : Int32) (h : H2) : mv_blk rI2 rR2 ln2 wI2 wR2 nw2 cp2 bod none tA_body (gA_body bd) 0 0 [] (fun _ _ _ _ _ _ => none) 400 (mv_seek 345 tA_body) [(0, Sum.inr (0, o0)), (2, Sum.inl (Value.int v2)), (3, Sum.inl (Value.int v3))] [] h 0 0 = (
  mv_rI (bd o0 (nI 30) v2 (v3 + (nI 1)) h) fun r2 h1 =>
  some ([Sum.inl (Value.int ((nI 0) - r2))], h1)) := rfl
set_option maxRecDepth 100000 in
set_option maxHeartbeats 1000000 in
theorem eA_body_b358 (bd : Nat → Int32 → Int32 → Int32 → H2 → O2) (o0 : Nat) (v2 : Int32) (v3 : Int32) (h : H2) : mv_blk rI2 rR2 ln2 wI2 wR2 nw2 cp2 bod none tA_body (gA_body bd) 0 0 [] (fun _ _ _ _ _ _ => none) 400 (mv_seek 358 tA_body) [(0, Sum.inr (0, o0)), (2, Sum.inl (Value.int v2)), (3, Sum.inl (Value.int v3))] [] h 0 0 = (
  mv_rI (bd o0 (nI 11) v2 (v3 + (nI 1)) h) fun r2 h1 =>
  mv_rI (fA_own bd o0 (nI 0) (rI2 h1 0 o0 4) v3 h1) fun r4 h3 =>
  some ([Sum.inl (Value.int (r2 ^^^ r4))], h3)) := rfl
set_option maxRecDepth 100000 in
set_option maxHeartbeats 1000000 in
theorem eA_body_b380 (bd : Nat → Int32 → Int32 → Int32 → H2 → O2) (o0 : Nat) (v2 : Int32) (v3 : Int32) (h : H2) : mv_blk rI2 rR2 ln2 wI2 wR2 nw2 cp2 bod none tA_body (gA_body bd) 0 0 [] (fun _ _ _ _ _ _ => none) 400 (mv_seek 380 tA_body) [(0, Sum.inr (0, o0)), (2, Sum.inl (Value.int v2)), (3, Sum.inl (Value.int v3))] [] h 0 0 = (
  mv_rI (bd o0 (nI 12) (v2 + (nI 3)) (v3 + (nI 1)) h) fun r2 h1 =>
  some ([Sum.inl (Value.int (r2 + (rI2 h1 0 o0 4)))], h1)) := rfl
set_option maxRecDepth 100000 in
set_option maxHeartbeats 1000000 in
theorem eA_body_b398 (bd : Nat → Int32 → Int32 → Int32 → H2 → O2) (o0 : Nat) (v2 : Int32) (v3 : Int32) (h : H2) : mv_blk rI2 rR2 ln2 wI2 wR2 nw2 cp2 bod none tA_body (gA_body bd) 0 0 [] (fun _ _ _ _ _ _ => none) 400 (mv_seek 398 tA_body) [(0, Sum.inr (0, o0)), (2, Sum.inl (Value.int v2)), (3, Sum.inl (Value.int v3))] [] h 0 0 = (
  mv_rI (bd o0 (nI 10) v2 (v3 + (nI 1)) h) fun r2 h1 =>
  some ([Sum.inl (Value.int (r2 - (nI 2)))], h1)) := rfl
set_option maxRecDepth 100000 in
set_option maxHeartbeats 1000000 in
theorem eA_body_b411 (bd : Nat → Int32 → Int32 → Int32 → H2 → O2) (o0 : Nat) (v2 : Int32) (v3 : Int32) (h : H2) : mv_blk rI2 rR2 ln2 wI2 wR2 nw2 cp2 bod none tA_body (gA_body bd) 0 0 [] (fun _ _ _ _ _ _ => none) 400 (mv_seek 411 tA_body) [(0, Sum.inr (0, o0)), (2, Sum.inl (Value.int v2)), (3, Sum.inl (Value.int v3))] [] h 0 0 = (
  mv_rI (bd o0 (nI 13) v2 (v3 + (nI 1)) h) fun r2 h1 =>
  some ([Sum.inl (Value.int (r2 * (nI 3)))], h1)) := rfl
set_option maxRecDepth 100000 in
set_option maxHeartbeats 1000000 in
theorem eA_body_b424 (bd : Nat → Int32 → Int32 → Int32 → H2 → O2) (o0 : Nat) (v2 : Int32) (v3 : Int32) (h : H2) : mv_blk rI2 rR2 ln2 wI2 wR2 nw2 cp2 bod none tA_body (gA_body bd) 0 0 [] (fun _ _ _ _ _ _ => none) 400 (mv_seek 424 tA_body) [(0, Sum.inr (0, o0)), (2, Sum.inl (Value.int v2)), (3, Sum.inl (Value.int v3))] [] h 0 0 = (
  mv_rI (bd o0 (nI 12) v2 (v3 + (nI 1)) h) fun r2 h1 =>
  mv_rI (fA_own bd o0 (nI 0) (rI2 h1 0 o0 3) v3 h1) fun r4 h3 =>
  some ([Sum.inl (Value.int (r2 - r4))], h3)) := rfl
set_option maxRecDepth 100000 in
set_option maxHeartbeats 1000000 in
theorem eA_body_b446 (bd : Nat → Int32 → Int32 → Int32 → H2 → O2) (h : H2) : mv_blk rI2 rR2 ln2 wI2 wR2 nw2 cp2 bod none tA_body (gA_body bd) 0 0 [] (fun _ _ _ _ _ _ => none) 400 (mv_seek 446 tA_body) [] [] h 0 0 = (
  some ([Sum.inl (Value.int (nI 0))], h)) := rfl
set_option maxRecDepth 100000 in
set_option maxHeartbeats 1000000 in
theorem eA_body (bd : Nat → Int32 → Int32 → Int32 → H2 → O2) (q244 : Nat → Int32 → H2 → O2) (q253 : Nat → Int32 → Int32 → H2 → O2) (q269 : Nat → Int32 → H2 → O2) (q284 : Nat → Int32 → Int32 → H2 → O2) (q296 : Nat → Int32 → Int32 → H2 → O2) (q310 : Nat → Int32 → Int32 → H2 → O2) (q323 : Nat → Int32 → Int32 → H2 → O2) (q345 : Nat → Int32 → Int32 → H2 → O2) (q358 : Nat → Int32 → Int32 → H2 → O2) (q380 : Nat → Int32 → Int32 → H2 → O2) (q398 : Nat → Int32 → Int32 → H2 → O2) (q411 : Nat → Int32 → Int32 → H2 → O2) (q424 : Nat → Int32 → Int32 → H2 → O2) (q446 : H2 → O2) (o0 : Nat) (v1 : Int32) (v2 : Int32) (v3 : Int32) (h : H2) : mv_blk rI2 rR2 ln2 wI2 wR2 nw2 cp2 bod none tA_body (gA_body bd) 0 0 [244, 253, 269, 284, 296, 310, 323, 345, 358, 380, 398, 411, 424, 446] (fun pc lv st h ce sl => mv_gd (Nat.beq ce 0 && Nat.beq sl 0) (cond (Nat.beq pc 244) (mv_gR 0 0 lv fun o0 => mv_gI 2 lv fun v2 => mv_sE st (q244 o0 v2 h)) (cond (Nat.beq pc 253) (mv_gR 0 0 lv fun o0 => mv_gI 2 lv fun v2 => mv_gI 3 lv fun v3 => mv_sE st (q253 o0 v2 v3 h)) (cond (Nat.beq pc 269) (mv_gR 0 0 lv fun o0 => mv_gI 2 lv fun v2 => mv_sE st (q269 o0 v2 h)) (cond (Nat.beq pc 284) (mv_gR 0 0 lv fun o0 => mv_gI 2 lv fun v2 => mv_gI 3 lv fun v3 => mv_sE st (q284 o0 v2 v3 h)) (cond (Nat.beq pc 296) (mv_gR 0 0 lv fun o0 => mv_gI 2 lv fun v2 => mv_gI 3 lv fun v3 => mv_sE st (q296 o0 v2 v3 h)) (cond (Nat.beq pc 310) (mv_gR 0 0 lv fun o0 => mv_gI 2 lv fun v2 => mv_gI 3 lv fun v3 => mv_sE st (q310 o0 v2 v3 h)) (cond (Nat.beq pc 323) (mv_gR 0 0 lv fun o0 => mv_gI 2 lv fun v2 => mv_gI 3 lv fun v3 => mv_sE st (q323 o0 v2 v3 h)) (cond (Nat.beq pc 345) (mv_gR 0 0 lv fun o0 => mv_gI 2 lv fun v2 => mv_gI 3 lv fun v3 => mv_sE st (q345 o0 v2 v3 h)) (cond (Nat.beq pc 358) (mv_gR 0 0 lv fun o0 => mv_gI 2 lv fun v2 => mv_gI 3 lv fun v3 => mv_sE st (q358 o0 v2 v3 h)) (cond (Nat.beq pc 380) (mv_gR 0 0 lv fun o0 => mv_gI 2 lv fun v2 => mv_gI 3 lv fun v3 => mv_sE st (q380 o0 v2 v3 h)) (cond (Nat.beq pc 398) (mv_gR 0 0 lv fun o0 => mv_gI 2 lv fun v2 => mv_gI 3 lv fun v3 => mv_sE st (q398 o0 v2 v3 h)) (cond (Nat.beq pc 411) (mv_gR 0 0 lv fun o0 => mv_gI 2 lv fun v2 => mv_gI 3 lv fun v3 => mv_sE st (q411 o0 v2 v3 h)) (cond (Nat.beq pc 424) (mv_gR 0 0 lv fun o0 => mv_gI 2 lv fun v2 => mv_gI 3 lv fun v3 => mv_sE st (q424 o0 v2 v3 h)) (cond (Nat.beq pc 446) (mv_sE st (q446 h)) (none)))))))))))))))) 400 (mv_seek 0 tA_body) [(0, Sum.inr (0, o0)), (1, Sum.inl (Value.int v1)), (2, Sum.inl (Value.int v2)), (3, Sum.inl (Value.int v3))] [] h 0 0 = (
  if (rI2 h 0 o0 5) = 0 then (
    if v3 ≤ (nI 20) then (
      mv_rV (fA_note o0 v1 h) fun h1 =>
      if v1 = nI 10 then (
        q244 o0 v2 h1)
      else
      if v1 = nI 11 then (
        q253 o0 v2 v3 h1)
      else
      if v1 = nI 12 then (
        q269 o0 v2 h1)
      else
      if v1 = nI 13 then (
        q284 o0 v2 v3 h1)
      else
      if v1 = nI 14 then (
        q446 h1)
      else
      if v1 = nI 15 then (
        q446 h1)
      else
      if v1 = nI 16 then (
        q446 h1)
      else
      if v1 = nI 17 then (
        q446 h1)
      else
      if v1 = nI 18 then (
        q446 h1)
      else
      if v1 = nI 19 then (
        q446 h1)
      else
      if v1 = nI 20 then (
        q296 o0 v2 v3 h1)
      else
      if v1 = nI 21 then (
        q446 h1)
      else
      if v1 = nI 22 then (
        q446 h1)
      else
      if v1 = nI 23 then (
        q446 h1)
      else
      if v1 = nI 24 then (
        q446 h1)
      else
      if v1 = nI 25 then (
        q446 h1)
      else
      if v1 = nI 26 then (
        q446 h1)
      else
      if v1 = nI 27 then (
        q446 h1)
      else
      if v1 = nI 28 then (
        q446 h1)
      else
      if v1 = nI 29 then (
        q446 h1)
      else
      if v1 = nI 30 then (
        q310 o0 v2 v3 h1)
      else
      if v1 = nI 31 then (
        q323 o0 v2 v3 h1)
      else
      if v1 = nI 32 then (
        q446 h1)
      else
      if v1 = nI 33 then (
        q446 h1)
      else
      if v1 = nI 34 then (
        q446 h1)
      else
      if v1 = nI 35 then (
        q446 h1)
      else
      if v1 = nI 36 then (
        q446 h1)
      else
      if v1 = nI 37 then (
        q446 h1)
      else
      if v1 = nI 38 then (
        q446 h1)
      else
      if v1 = nI 39 then (
        q446 h1)
      else
      if v1 = nI 40 then (
        q345 o0 v2 v3 h1)
      else
      if v1 = nI 41 then (
        q358 o0 v2 v3 h1)
      else
      if v1 = nI 42 then (
        q446 h1)
      else
      if v1 = nI 43 then (
        q446 h1)
      else
      if v1 = nI 44 then (
        q446 h1)
      else
      if v1 = nI 45 then (
        q446 h1)
      else
      if v1 = nI 46 then (
        q446 h1)
      else
      if v1 = nI 47 then (
        q446 h1)
      else
      if v1 = nI 48 then (
        q446 h1)
      else
      if v1 = nI 49 then (
        q446 h1)
      else
      if v1 = nI 50 then (
        q380 o0 v2 v3 h1)
      else
      if v1 = nI 51 then (
        q398 o0 v2 v3 h1)
      else
      if v1 = nI 52 then (
        q446 h1)
      else
      if v1 = nI 53 then (
        q446 h1)
      else
      if v1 = nI 54 then (
        q446 h1)
      else
      if v1 = nI 55 then (
        q446 h1)
      else
      if v1 = nI 56 then (
        q446 h1)
      else
      if v1 = nI 57 then (
        q446 h1)
      else
      if v1 = nI 58 then (
        q446 h1)
      else
      if v1 = nI 59 then (
        q446 h1)
      else
      if v1 = nI 60 then (
        q411 o0 v2 v3 h1)
      else
      if v1 = nI 61 then (
        q424 o0 v2 v3 h1)
      else
      q446 h1)
    else
    some ([Sum.inl (Value.int (nI 0))], h))
  else
  some ([Sum.inl (Value.int (nI 0))], h)) := rfl
