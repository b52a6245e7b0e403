set_option maxRecDepth 100000 in
theorem kM_vatOfToday : mv_tok mdM_vatOfToday nM_vatOfToday tM_vatOfToday = true := by decide +kernel
set_option maxRecDepth 100000 in
set_option maxHeartbeats 1000000 in
theorem eM_vatOfToday (o0 : Nat) (h : H2) : mv_blk rI2 rR2 ln2 wI2 wR2 nw2 cp2 bod none tM_vatOfToday gM_vatOfToday 0 0 [] (fun _ _ _ _ _ _ => none) 400 (mv_seek 0 tM_vatOfToday) [(0, Sum.inr (2, o0))] [] h 0 0 = (
  mv_gd (!decide ((nI 6) = 0)) <|
  mv_gd (mv_inb ((rI2 h 2 o0 10) - (rI2 h 2 o0 10) / (nI 6) * (nI 6)) 6) <|
  some ([Sum.inl (Value.int (rI2 h 303 o0 ((rI2 h 2 o0 10) - (rI2 h 2 o0 10) / (nI 6) * (nI 6)).toNatClampNeg))], h)) := rfl
theorem GM_vatOfToday : ∀ (j : Nat) (C : mv_C H2) (md' : mv_MD × Bool), mv_nth j gM_vatOfToday = some C → mv_nth j nM_vatOfToday = some md' → ∃ n', n' + 1 ≤ 1 ∧ mv_Cal vw2 n' md' C := fun j C md' h1 _ => by cases j <;> cases h1

set_option maxRecDepth 20000 in
theorem xM_vatOfToday {g0 : mv_G} {res : List mv_V × H2} (o0 : Nat) (h : H2) (hh : fM_vatOfToday o0 h = some res) : mv_X vw2 mdM_vatOfToday 1 0 0 none g0 res 0 [(0, Sum.inr (2, o0))] [] h 0 0 := by
  refine mv_blkX ax2 (GM_vatOfToday) (by decide) kM_vatOfToday (fun pc lv st h ce sl hh => ?_) ((eM_vatOfToday  o0 h).trans hh)
  cases hh

theorem mM_vatOfToday (o0 : Nat) (h : H2) (vs : List mv_V) (h' : H2) (hh : fM_vatOfToday o0 h = some (vs, h')) : mv_Met vw2 1 0 0 mdM_vatOfToday [Sum.inr (2, o0)] h vs h' :=
  mv_Met_of (by decide +kernel) (Nat.le_of_ble_eq_true rfl) (xM_vatOfToday o0 h hh)
theorem cM_vatOfToday_ok : mv_Cal vw2 1 (mdM_vatOfToday, true) ((0, 0), cM_vatOfToday) := by
  intro as h k res hh
  change cM_vatOfToday as h k = some res at hh
  unfold cM_vatOfToday at hh
  split at hh
  · obtain ⟨hg0, ha0⟩ := mv_gd_some hh
    obtain rfl := Nat.eq_of_beq_eq_true hg0
    obtain ⟨x, h', h1, h9⟩ := mv_rI_some ha0
    exact ⟨_, _, h9, (by first | decide | exact Nat.le_refl _ | exact Nat.zero_le _), fun _ => ⟨_, _, _, rfl, Or.inl ⟨by decide, rfl⟩⟩, (mM_vatOfToday _ h _ _ h1)⟩
  · cases hh

set_option maxRecDepth 100000 in
theorem kM_takes : mv_tok mdM_takes nM_takes tM_takes = true := by decide +kernel
set_option maxRecDepth 100000 in
set_option maxHeartbeats 1000000 in
theorem eM_takes (o0 : Nat) (v1 : Int32) (v2 : Int32) (h : H2) : mv_blk rI2 rR2 ln2 wI2 wR2 nw2 cp2 bod none tM_takes gM_takes 0 0 [] (fun _ _ _ _ _ _ => none) 400 (mv_seek 0 tM_takes) [(0, Sum.inr (2, o0)), (1, Sum.inl (Value.int v1)), (2, Sum.inl (Value.int v2))] [] h 0 0 = (
  mv_gd (mv_inb v2 8) <|
  mv_gd (mv_inb (nI 0) 4) <|
  mv_bi ((rI2 h 302 o0 v2.toNatClampNeg) + (rI2 h 300 o0 (nI 0).toNatClampNeg)) fun x1 =>
  mv_gd (mv_inb v1 8) <|
  if (rI2 h 304 o0 v1.toNatClampNeg) = nI 1 then (
    some ([Sum.inl (Value.int (x1 + (nI 3)))], h))
  else
  if (rI2 h 304 o0 v1.toNatClampNeg) = nI 2 then (
    mv_gd (mv_inb (nI 1) 4) <|
    some ([Sum.inl (Value.int (x1 - (rI2 h 300 o0 (nI 1).toNatClampNeg)))], h))
  else
  if (rI2 h 304 o0 v1.toNatClampNeg) = nI 3 then (
    some ([Sum.inl (Value.int ((x1 + (nI 3)) * (nI 2)))], h))
  else
  if (rI2 h 304 o0 v1.toNatClampNeg) = nI 4 then (
    mv_gd (mv_inb (nI 1) 4) <|
    mv_gd (mv_inb (nI 2) 4) <|
    some ([Sum.inl (Value.int ((x1 - (rI2 h 300 o0 (nI 1).toNatClampNeg)) + (rI2 h 300 o0 (nI 2).toNatClampNeg)))], h))
  else
  if (rI2 h 304 o0 v1.toNatClampNeg) = nI 5 then (
    mv_gd (!decide ((nI 2) = 0)) <|
    some ([Sum.inl (Value.int (x1 / (nI 2)))], h))
  else
  some ([Sum.inl (Value.int x1)], h)) := rfl
theorem GM_takes : ∀ (j : Nat) (C : mv_C H2) (md' : mv_MD × Bool), mv_nth j gM_takes = some C → mv_nth j nM_takes = some md' → ∃ n', n' + 1 ≤ 1 ∧ mv_Cal vw2 n' md' C := fun j C md' h1 _ => by cases j <;> cases h1

set_option maxRecDepth 20000 in
theorem xM_takes {g0 : mv_G} {res : List mv_V × H2} (o0 : Nat) (v1 : Int32) (v2 : Int32) (h : H2) (hh : fM_takes o0 v1 v2 h = some res) : mv_X vw2 mdM_takes 1 0 0 none g0 res 0 [(0, Sum.inr (2, o0)), (1, Sum.inl (Value.int v1)), (2, Sum.inl (Value.int v2))] [] h 0 0 := by
  refine mv_blkX ax2 (GM_takes) (by decide) kM_takes (fun pc lv st h ce sl hh => ?_) ((eM_takes  o0 v1 v2 h).trans hh)
  cases hh

theorem mM_takes (o0 : Nat) (v1 : Int32) (v2 : Int32) (h : H2) (vs : List mv_V) (h' : H2) (hh : fM_takes o0 v1 v2 h = some (vs, h')) : mv_Met vw2 1 0 0 mdM_takes [Sum.inr (2, o0), Sum.inl (Value.int v1), Sum.inl (Value.int v2)] h vs h' :=
  mv_Met_of (by decide +kernel) (Nat.le_of_ble_eq_true rfl) (xM_takes o0 v1 v2 h hh)
theorem cM_takes_ok : mv_Cal vw2 1 (mdM_takes, true) ((0, 0), cM_takes) := by
  intro as h k res hh
  change cM_takes as h k = some res at hh
  unfold cM_takes at hh
  split at hh
  · obtain ⟨hg0, ha0⟩ := mv_gd_some hh
    obtain rfl := Nat.eq_of_beq_eq_true hg0
    obtain ⟨x, h', h1, h9⟩ := mv_rI_some ha0
    exact ⟨_, _, h9, (by first | decide | exact Nat.le_refl _ | exact Nat.zero_le _), fun _ => ⟨_, _, _, rfl, Or.inl ⟨by decide, rfl⟩⟩, (mM_takes _ _ _ h _ _ h1)⟩
  · cases hh

set_option maxRecDepth 100000 in
theorem kM_fights : mv_tok mdM_fights nM_fights tM_fights = true := by decide +kernel
set_option maxRecDepth 100000 in
set_option maxHeartbeats 1000000 in
theorem eM_fights (o0 : Nat) (v1 : Int32) (v2 : Int32) (h : H2) : mv_blk rI2 rR2 ln2 wI2 wR2 nw2 cp2 bod none tM_fights gM_fights 0 0 [] (fun _ _ _ _ _ _ => none) 400 (mv_seek 0 tM_fights) [(0, Sum.inr (2, o0)), (1, Sum.inl (Value.int v1)), (2, Sum.inl (Value.int v2))] [] h 0 0 = (
  mv_gd (mv_inb v2 8) <|
  mv_bi (rI2 h 302 o0 v2.toNatClampNeg) fun x1 =>
  mv_gd (mv_inb v1 8) <|
  if (rI2 h 304 o0 v1.toNatClampNeg) = nI 1 then (
    mv_gd (mv_inb (nI 2) 4) <|
    some ([Sum.inl (Value.int (x1 - (rI2 h 300 o0 (nI 2).toNatClampNeg)))], h))
  else
  if (rI2 h 304 o0 v1.toNatClampNeg) = nI 2 then (
    mv_gd (mv_inb (nI 2) 4) <|
    some ([Sum.inl (Value.int (x1 + (rI2 h 300 o0 (nI 2).toNatClampNeg)))], h))
  else
  if (rI2 h 304 o0 v1.toNatClampNeg) = nI 3 then (
    mv_gd (mv_inb (nI 2) 4) <|
    mv_gd (mv_inb (nI 0) 4) <|
    some ([Sum.inl (Value.int ((x1 - (rI2 h 300 o0 (nI 2).toNatClampNeg)) + (rI2 h 300 o0 (nI 0).toNatClampNeg)))], h))
  else
  if (rI2 h 304 o0 v1.toNatClampNeg) = nI 4 then (
    mv_gd (mv_inb (nI 2) 4) <|
    some ([Sum.inl (Value.int ((x1 + (rI2 h 300 o0 (nI 2).toNatClampNeg)) * (nI 2)))], h))
  else
  if (rI2 h 304 o0 v1.toNatClampNeg) = nI 5 then (
    some ([Sum.inl (Value.int (x1 + (nI 1)))], h))
  else
  some ([Sum.inl (Value.int x1)], h)) := rfl
theorem GM_fights : ∀ (j : Nat) (C : mv_C H2) (md' : mv_MD × Bool), mv_nth j gM_fights = some C → mv_nth j nM_fights = some md' → ∃ n', n' + 1 ≤ 1 ∧ mv_Cal vw2 n' md' C := fun j C md' h1 _ => by cases j <;> cases h1

set_option maxRecDepth 20000 in
theorem xM_fights {g0 : mv_G} {res : List mv_V × H2} (o0 : Nat) (v1 : Int32) (v2 : Int32) (h : H2) (hh : fM_fights o0 v1 v2 h = some res) : mv_X vw2 mdM_fights 1 0 0 none g0 res 0 [(0, Sum.inr (2, o0)), (1, Sum.inl (Value.int v1)), (2, Sum.inl (Value.int v2))] [] h 0 0 := by
  refine mv_blkX ax2 (GM_fights) (by decide) kM_fights (fun pc lv st h ce sl hh => ?_) ((eM_fights  o0 v1 v2 h).trans hh)
  cases hh

theorem mM_fights (o0 : Nat) (v1 : Int32) (v2 : Int32) (h : H2) (vs : List mv_V) (h' : H2) (hh : fM_fights o0 v1 v2 h = some (vs, h')) : mv_Met vw2 1 0 0 mdM_fights [Sum.inr (2, o0), Sum.inl (Value.int v1), Sum.inl (Value.int v2)] h vs h' :=
  mv_Met_of (by decide +kernel) (Nat.le_of_ble_eq_true rfl) (xM_fights o0 v1 v2 h hh)
theorem cM_fights_ok : mv_Cal vw2 1 (mdM_fights, true) ((0, 0), cM_fights) := by
  intro as h k res hh
  change cM_fights as h k = some res at hh
  unfold cM_fights at hh
  split at hh
  · obtain ⟨hg0, ha0⟩ := mv_gd_some hh
    obtain rfl := Nat.eq_of_beq_eq_true hg0
    obtain ⟨x, h', h1, h9⟩ := mv_rI_some ha0
    exact ⟨_, _, h9, (by first | decide | exact Nat.le_refl _ | exact Nat.zero_le _), fun _ => ⟨_, _, _, rfl, Or.inl ⟨by decide, rfl⟩⟩, (mM_fights _ _ _ h _ _ h1)⟩
  · cases hh

set_option maxRecDepth 100000 in
theorem kM_settle : mv_tok mdM_settle nM_settle tM_settle = true := by decide +kernel
set_option maxRecDepth 100000 in
set_option maxHeartbeats 1000000 in
theorem eM_settle (o0 : Nat) (v1 : Int32) (v2 : Int32) (h : H2) : mv_blk rI2 rR2 ln2 wI2 wR2 nw2 cp2 bod none tM_settle gM_settle 0 0 [] (fun _ _ _ _ _ _ => none) 400 (mv_seek 0 tM_settle) [(0, Sum.inr (2, o0)), (1, Sum.inl (Value.int v1)), (2, Sum.inl (Value.int v2))] [] h 0 0 = (
  if 0 < v2 then (
    if (nI 99) ≤ v2 then (
      mv_gd (mv_inb v1 8) <|
      mv_bh (wI2 h 306 o0 v1.toNatClampNeg (nI 99)) fun h1 =>
      some ([], h1))
    else
    mv_gd (mv_inb v1 8) <|
    mv_bh (wI2 h 306 o0 v1.toNatClampNeg v2) fun h2 =>
    some ([], h2))
  else
  mv_gd (mv_inb v1 8) <|
  mv_bh (wI2 h 306 o0 v1.toNatClampNeg (nI 0)) fun h3 =>
  mv_gd (mv_inb v1 8) <|
  mv_bh (wI2 h3 305 o0 v1.toNatClampNeg (-(nI 1))) fun h4 =>
  some ([], h4)) := rfl
theorem GM_settle : ∀ (j : Nat) (C : mv_C H2) (md' : mv_MD × Bool), mv_nth j gM_settle = some C → mv_nth j nM_settle = some md' → ∃ n', n' + 1 ≤ 1 ∧ mv_Cal vw2 n' md' C := fun j C md' h1 _ => by cases j <;> cases h1

set_option maxRecDepth 20000 in
theorem xM_settle {g0 : mv_G} {res : List mv_V × H2} (o0 : Nat) (v1 : Int32) (v2 : Int32) (h : H2) (hh : fM_settle o0 v1 v2 h = some res) : mv_X vw2 mdM_settle 1 0 0 none g0 res 0 [(0, Sum.inr (2, o0)), (1, Sum.inl (Value.int v1)), (2, Sum.inl (Value.int v2))] [] h 0 0 := by
  refine mv_blkX ax2 (GM_settle) (by decide) kM_settle (fun pc lv st h ce sl hh => ?_) ((eM_settle  o0 v1 v2 h).trans hh)
  cases hh

theorem mM_settle (o0 : Nat) (v1 : Int32) (v2 : Int32) (h : H2) (vs : List mv_V) (h' : H2) (hh : fM_settle o0 v1 v2 h = some (vs, h')) : mv_Met vw2 1 0 0 mdM_settle [Sum.inr (2, o0), Sum.inl (Value.int v1), Sum.inl (Value.int v2)] h vs h' :=
  mv_Met_of (by decide +kernel) (Nat.le_of_ble_eq_true rfl) (xM_settle o0 v1 v2 h hh)
theorem cM_settle_ok : mv_Cal vw2 1 (mdM_settle, true) ((0, 0), cM_settle) := by
  intro as h k res hh
  change cM_settle as h k = some res at hh
  unfold cM_settle at hh
  split at hh
  · obtain ⟨hg0, ha0⟩ := mv_gd_some hh
    obtain rfl := Nat.eq_of_beq_eq_true hg0
    obtain ⟨h', h1, h9⟩ := mv_rV_some ha0
    exact ⟨_, _, h9, (by first | decide | exact Nat.le_refl _ | exact Nat.zero_le _), fun _ => ⟨_, _, _, rfl, Or.inl ⟨by decide, rfl⟩⟩, (mM_settle _ _ _ h _ _ h1)⟩
  · cases hh

set_option maxRecDepth 100000 in
theorem kM_dipInto : mv_tok mdM_dipInto nM_dipInto tM_dipInto = true := by decide +kernel
set_option maxRecDepth 100000 in
set_option maxHeartbeats 1000000 in
theorem eM_dipInto_b84 (o0 : Nat) (v1 : Int32) (v2 : Int32) (v4 : Int32) (h : H2) : mv_blk rI2 rR2 ln2 wI2 wR2 nw2 cp2 bod none tM_dipInto gM_dipInto 0 0 [] (fun _ _ _ _ _ _ => none) 400 (mv_seek 84 tM_dipInto) [(0, Sum.inr (2, o0)), (1, Sum.inl (Value.int v1)), (2, Sum.inl (Value.int v2)), (4, Sum.inl (Value.int v4))] [] h 0 0 = (
  mv_rV (fM_settle o0 v1 v4 h) fun h1 =>
  mv_gd (mv_inb v1 8) <|
  if (nI 9999) ≤ (rI2 h1 308 o0 v1.toNatClampNeg) then (
    mv_gd (mv_inb v2 8) <|
    if (rI2 h1 302 o0 v2.toNatClampNeg) ≤ 0 then (
      some ([], h1))
    else
    mv_gd (mv_inb v2 8) <|
    mv_gd (mv_inb v2 8) <|
    mv_bh (wI2 h1 302 o0 v2.toNatClampNeg ((rI2 h1 302 o0 v2.toNatClampNeg) - (nI 1))) fun h2 =>
    some ([], h2))
  else
  mv_gd (mv_inb v1 8) <|
  mv_gd (mv_inb v1 8) <|
  mv_bh (wI2 h1 308 o0 v1.toNatClampNeg ((rI2 h1 308 o0 v1.toNatClampNeg) + (nI 1))) fun h3 =>
  mv_gd (mv_inb v2 8) <|
  if (rI2 h3 302 o0 v2.toNatClampNeg) ≤ 0 then (
    some ([], h3))
  else
  mv_gd (mv_inb v2 8) <|
  mv_gd (mv_inb v2 8) <|
  mv_bh (wI2 h3 302 o0 v2.toNatClampNeg ((rI2 h3 302 o0 v2.toNatClampNeg) - (nI 1))) fun h4 =>
  some ([], h4)) := rfl
set_option maxRecDepth 100000 in
set_option maxHeartbeats 1000000 in
theorem eM_dipInto_b27 (q84 : Nat → Int32 → Int32 → Int32 → H2 → O2) (o0 : Nat) (v1 : Int32) (v2 : Int32) (v3 : Int32) (h : H2) : mv_blk rI2 rR2 ln2 wI2 wR2 nw2 cp2 bod none tM_dipInto gM_dipInto 0 0 [84] (fun pc lv st h ce sl => mv_gd (Nat.beq ce 0 && Nat.beq sl 0) (cond (Nat.beq pc 84) (mv_gR 0 2 lv fun o0 => mv_gI 1 lv fun v1 => mv_gI 2 lv fun v2 => mv_gI 4 lv fun v4 => mv_sE st (q84 o0 v1 v2 v4 h)) (none))) 400 (mv_seek 27 tM_dipInto) [(0, Sum.inr (2, o0)), (1, Sum.inl (Value.int v1)), (2, Sum.inl (Value.int v2)), (3, Sum.inl (Value.int v3))] [] h 0 0 = (
  mv_gd (mv_inb v1 8) <|
  mv_bh (wI2 h 305 o0 v1.toNatClampNeg v3) fun h1 =>
  mv_gd (mv_inb v1 8) <|
  mv_rI (fM_takes o0 v1 v2 h1) fun r3 h2 =>
  mv_bi ((rI2 h1 306 o0 v1.toNatClampNeg) + r3) fun x4 =>
  q84 o0 v1 v2 x4 h2) := rfl
set_option maxRecDepth 100000 in
set_option maxHeartbeats 1000000 in
theorem eM_dipInto (q27 : Nat → Int32 → Int32 → Int32 → H2 → O2) (q84 : Nat → Int32 → Int32 → Int32 → H2 → O2) (o0 : Nat) (v1 : Int32) (v2 : Int32) (h : H2) : mv_blk rI2 rR2 ln2 wI2 wR2 nw2 cp2 bod none tM_dipInto gM_dipInto 0 0 [27, 84] (fun pc lv st h ce sl => mv_gd (Nat.beq ce 0 && Nat.beq sl 0) (cond (Nat.beq pc 27) (mv_gR 0 2 lv fun o0 => mv_gI 1 lv fun v1 => mv_gI 2 lv fun v2 => mv_gI 3 lv fun v3 => mv_sE st (q27 o0 v1 v2 v3 h)) (cond (Nat.beq pc 84) (mv_gR 0 2 lv fun o0 => mv_gI 1 lv fun v1 => mv_gI 2 lv fun v2 => mv_gI 4 lv fun v4 => mv_sE st (q84 o0 v1 v2 v4 h)) (none)))) 400 (mv_seek 0 tM_dipInto) [(0, Sum.inr (2, o0)), (1, Sum.inl (Value.int v1)), (2, Sum.inl (Value.int v2))] [] h 0 0 = (
  mv_gd (mv_inb v2 8) <|
  mv_bi (rI2 h 301 o0 v2.toNatClampNeg) fun x1 =>
  mv_gd (mv_inb v1 8) <|
  if (rI2 h 305 o0 v1.toNatClampNeg) = (-(nI 1)) then (
    q27 o0 v1 v2 x1 h)
  else
  mv_gd (mv_inb v1 8) <|
  if (rI2 h 305 o0 v1.toNatClampNeg) = x1 then (
    q27 o0 v1 v2 x1 h)
  else
  mv_gd (mv_inb v1 8) <|
  mv_rI (fM_fights o0 v1 v2 h) fun r3 h2 =>
  mv_bi ((rI2 h 306 o0 v1.toNatClampNeg) - r3) fun x4 =>
  if 0 ≤ x4 then (
    q84 o0 v1 v2 x4 h2)
  else
  mv_gd (mv_inb v1 8) <|
  mv_bh (wI2 h2 305 o0 v1.toNatClampNeg x1) fun h5 =>
  mv_bi (-x4) fun x6 =>
  q84 o0 v1 v2 x6 h5) := rfl
theorem GM_dipInto : ∀ (j : Nat) (C : mv_C H2) (md' : mv_MD × Bool), mv_nth j gM_dipInto = some C → mv_nth j nM_dipInto = some md' → ∃ n', n' + 1 ≤ 2 ∧ mv_Cal vw2 n' md' C := fun j C md' => match j with
  | 0 => fun h1 h2 => by
    obtain rfl := Option.some.inj h1
    obtain rfl := Option.some.inj h2
    exact ⟨1, by decide, cM_takes_ok⟩
  | 1 => fun h1 h2 => by
    obtain rfl := Option.some.inj h1
    obtain rfl := Option.some.inj h2
    exact ⟨1, by decide, cM_fights_ok⟩
  | 2 => fun h1 h2 => by
    obtain rfl := Option.some.inj h1
    obtain rfl := Option.some.inj h2
    exact ⟨1, by decide, cM_settle_ok⟩
  | jj + 3 => fun h1 _ => by cases jj <;> cases h1

set_option maxRecDepth 20000 in
theorem xM_dipInto_b84 {g0 : mv_G} {res : List mv_V × H2} (o0 : Nat) (v1 : Int32) (v2 : Int32) (v4 : Int32) (h : H2) (hh : fM_dipInto_b84 o0 v1 v2 v4 h = some res) : mv_X vw2 mdM_dipInto 2 0 0 none g0 res 84 [(0, Sum.inr (2, o0)), (1, Sum.inl (Value.int v1)), (2, Sum.inl (Value.int v2)), (4, Sum.inl (Value.int v4))] [] h 0 0 := by
  refine mv_blkX ax2 (GM_dipInto) (by decide) kM_dipInto (fun pc lv st h ce sl hh => ?_) ((eM_dipInto_b84  o0 v1 v2 v4 h).trans hh)
  cases hh

set_option maxRecDepth 20000 in
theorem xM_dipInto_b27 {g0 : mv_G} {res : List mv_V × H2} (o0 : Nat) (v1 : Int32) (v2 : Int32) (v3 : Int32) (h : H2) (hh : fM_dipInto_b27 o0 v1 v2 v3 h = some res) : mv_X vw2 mdM_dipInto 2 0 0 none g0 res 27 [(0, Sum.inr (2, o0)), (1, Sum.inl (Value.int v1)), (2, Sum.inl (Value.int v2)), (3, Sum.inl (Value.int v3))] [] h 0 0 := by
  refine mv_blkX ax2 (GM_dipInto) (by decide) kM_dipInto (fun pc lv st h ce sl hh => ?_) ((eM_dipInto_b27 (fM_dipInto_b84) o0 v1 v2 v3 h).trans hh)
  obtain ⟨hg, hh1⟩ := mv_gd_some hh
  obtain ⟨rfl, rfl⟩ := mv_z2 hg
  rcases mv_cond_some hh1 with ⟨hb, hh2⟩ | ⟨hb, hh3⟩
  · obtain rfl := Nat.eq_of_beq_eq_true hb
    obtain ⟨o0, m0, hh4⟩ := mv_gR_some hh2
    obtain ⟨v1, m1, hh5⟩ := mv_gI_some hh4
    obtain ⟨v2, m2, hh6⟩ := mv_gI_some hh5
    obtain ⟨v4, m3, hh7⟩ := mv_gI_some hh6
    obtain ⟨rfl, hh8⟩ := mv_sE_some hh7
    exact (xM_dipInto_b84  o0 v1 v2 v4 h hh8).sub (List.forall_mem_cons.mpr ⟨m0, (List.forall_mem_cons.mpr ⟨m1, (List.forall_mem_cons.mpr ⟨m2, (List.forall_mem_cons.mpr ⟨m3, (fun q hq => by cases hq)⟩)⟩)⟩)⟩)
  cases hh3

set_option maxRecDepth 20000 in
theorem xM_dipInto {g0 : mv_G} {res : List mv_V × H2} (o0 : Nat) (v1 : Int32) (v2 : Int32) (h : H2) (hh : fM_dipInto o0 v1 v2 h = some res) : mv_X vw2 mdM_dipInto 2 0 0 none g0 res 0 [(0, Sum.inr (2, o0)), (1, Sum.inl (Value.int v1)), (2, Sum.inl (Value.int v2))] [] h 0 0 := by
  refine mv_blkX ax2 (GM_dipInto) (by decide) kM_dipInto (fun pc lv st h ce sl hh => ?_) ((eM_dipInto (fM_dipInto_b27) (fM_dipInto_b84) o0 v1 v2 h).trans hh)
  obtain ⟨hg, hh1⟩ := mv_gd_some hh
  obtain ⟨rfl, rfl⟩ := mv_z2 hg
  rcases mv_cond_some hh1 with ⟨hb, hh2⟩ | ⟨hb, hh3⟩
  · obtain rfl := Nat.eq_of_beq_eq_true hb
    obtain ⟨o0, m0, hh4⟩ := mv_gR_some hh2
    obtain ⟨v1, m1, hh5⟩ := mv_gI_some hh4
    obtain ⟨v2, m2, hh6⟩ := mv_gI_some hh5
    obtain ⟨v3, m3, hh7⟩ := mv_gI_some hh6
    obtain ⟨rfl, hh8⟩ := mv_sE_some hh7
    exact (xM_dipInto_b27  o0 v1 v2 v3 h hh8).sub (List.forall_mem_cons.mpr ⟨m0, (List.forall_mem_cons.mpr ⟨m1, (List.forall_mem_cons.mpr ⟨m2, (List.forall_mem_cons.mpr ⟨m3, (fun q hq => by cases hq)⟩)⟩)⟩)⟩)
  rcases mv_cond_some hh3 with ⟨hb, hh9⟩ | ⟨hb, hh10⟩
  · obtain rfl := Nat.eq_of_beq_eq_true hb
    obtain ⟨o0, m0, hh11⟩ := mv_gR_some hh9
    obtain ⟨v1, m1, hh12⟩ := mv_gI_some hh11
    obtain ⟨v2, m2, hh13⟩ := mv_gI_some hh12
    obtain ⟨v4, m3, hh14⟩ := mv_gI_some hh13
    obtain ⟨rfl, hh15⟩ := mv_sE_some hh14
    exact (xM_dipInto_b84  o0 v1 v2 v4 h hh15).sub (List.forall_mem_cons.mpr ⟨m0, (List.forall_mem_cons.mpr ⟨m1, (List.forall_mem_cons.mpr ⟨m2, (List.forall_mem_cons.mpr ⟨m3, (fun q hq => by cases hq)⟩)⟩)⟩)⟩)
  cases hh10

theorem mM_dipInto (o0 : Nat) (v1 : Int32) (v2 : Int32) (h : H2) (vs : List mv_V) (h' : H2) (hh : fM_dipInto o0 v1 v2 h = some (vs, h')) : mv_Met vw2 2 0 0 mdM_dipInto [Sum.inr (2, o0), Sum.inl (Value.int v1), Sum.inl (Value.int v2)] h vs h' :=
  mv_Met_of (by decide +kernel) (Nat.le_of_ble_eq_true rfl) (xM_dipInto o0 v1 v2 h hh)
theorem cM_dipInto_ok : mv_Cal vw2 2 (mdM_dipInto, true) ((0, 0), cM_dipInto) := by
  intro as h k res hh
  change cM_dipInto as h k = some res at hh
  unfold cM_dipInto at hh
  split at hh
  · obtain ⟨hg0, ha0⟩ := mv_gd_some hh
    obtain rfl := Nat.eq_of_beq_eq_true hg0
    obtain ⟨h', h1, h9⟩ := mv_rV_some ha0
    exact ⟨_, _, h9, (by first | decide | exact Nat.le_refl _ | exact Nat.zero_le _), fun _ => ⟨_, _, _, rfl, Or.inl ⟨by decide, rfl⟩⟩, (mM_dipInto _ _ _ h _ _ h1)⟩
  · cases hh

set_option maxRecDepth 100000 in
theorem kM_fades : mv_tok mdM_fades nM_fades tM_fades = true := by decide +kernel
set_option maxRecDepth 100000 in
set_option maxHeartbeats 1000000 in
theorem eM_fades (o0 : Nat) (v1 : Int32) (h : H2) : mv_blk rI2 rR2 ln2 wI2 wR2 nw2 cp2 bod none tM_fades gM_fades 0 0 [] (fun _ _ _ _ _ _ => none) 400 (mv_seek 0 tM_fades) [(0, Sum.inr (2, o0)), (1, Sum.inl (Value.int v1))] [] h 0 0 = (
  mv_gd (mv_inb (nI 1) 4) <|
  mv_bi (rI2 h 300 o0 (nI 1).toNatClampNeg) fun x1 =>
  mv_gd (mv_inb v1 8) <|
  if (rI2 h 304 o0 v1.toNatClampNeg) = nI 1 then (
    some ([Sum.inl (Value.int (x1 - (nI 1)))], h))
  else
  if (rI2 h 304 o0 v1.toNatClampNeg) = nI 2 then (
    some ([Sum.inl (Value.int (x1 + (nI 1)))], h))
  else
  if (rI2 h 304 o0 v1.toNatClampNeg) = nI 3 then (
    some ([Sum.inl (Value.int (nI 0))], h))
  else
  if (rI2 h 304 o0 v1.toNatClampNeg) = nI 4 then (
    some ([Sum.inl (Value.int ((x1 + (nI 1)) * (nI 2)))], h))
  else
  if (rI2 h 304 o0 v1.toNatClampNeg) = nI 5 then (
    some ([Sum.inl (Value.int (x1 + (nI 3)))], h))
  else
  some ([Sum.inl (Value.int x1)], h)) := rfl
theorem GM_fades : ∀ (j : Nat) (C : mv_C H2) (md' : mv_MD × Bool), mv_nth j gM_fades = some C → mv_nth j nM_fades = some md' → ∃ n', n' + 1 ≤ 1 ∧ mv_Cal vw2 n' md' C := fun j C md' h1 _ => by cases j <;> cases h1

set_option maxRecDepth 20000 in
theorem xM_fades {g0 : mv_G} {res : List mv_V × H2} (o0 : Nat) (v1 : Int32) (h : H2) (hh : fM_fades o0 v1 h = some res) : mv_X vw2 mdM_fades 1 0 0 none g0 res 0 [(0, Sum.inr (2, o0)), (1, Sum.inl (Value.int v1))] [] h 0 0 := by
  refine mv_blkX ax2 (GM_fades) (by decide) kM_fades (fun pc lv st h ce sl hh => ?_) ((eM_fades  o0 v1 h).trans hh)
  cases hh

theorem mM_fades (o0 : Nat) (v1 : Int32) (h : H2) (vs : List mv_V) (h' : H2) (hh : fM_fades o0 v1 h = some (vs, h')) : mv_Met vw2 1 0 0 mdM_fades [Sum.inr (2, o0), Sum.inl (Value.int v1)] h vs h' :=
  mv_Met_of (by decide +kernel) (Nat.le_of_ble_eq_true rfl) (xM_fades o0 v1 h hh)
theorem cM_fades_ok : mv_Cal vw2 1 (mdM_fades, true) ((0, 0), cM_fades) := by
  intro as h k res hh
  change cM_fades as h k = some res at hh
  unfold cM_fades at hh
  split at hh
  · obtain ⟨hg0, ha0⟩ := mv_gd_some hh
    obtain rfl := Nat.eq_of_beq_eq_true hg0
    obtain ⟨x, h', h1, h9⟩ := mv_rI_some ha0
    exact ⟨_, _, h9, (by first | decide | exact Nat.le_refl _ | exact Nat.zero_le _), fun _ => ⟨_, _, _, rfl, Or.inl ⟨by decide, rfl⟩⟩, (mM_fades _ _ h _ _ h1)⟩
  · cases hh

