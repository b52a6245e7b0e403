set_option maxRecDepth 100000 in
theorem kN_clothTold : mv_tok mdN_clothTold nN_clothTold tN_clothTold = true := by decide +kernel
set_option maxRecDepth 100000 in
set_option maxHeartbeats 8000000 in
theorem eN_clothTold_b81 (o0 : Nat) (v1 : Int32) (v2 : Int32) (v3 : Int32) (vs0 : Int32) (h : H2) : mv_blk rI2 rR2 ln2 wI2 wR2 nw2 cp2 bod none tN_clothTold gN_clothTold 0 0 [] (fun _ _ _ _ _ _ => none) 400 (mv_seek 81 tN_clothTold) [(0, Sum.inr (8, o0)), (1, Sum.inl (Value.int v1)), (2, Sum.inl (Value.int v2)), (3, Sum.inl (Value.int v3))] [Sum.inl (Value.int vs0)] h 0 0 = (
  mv_bi vs0 fun x1 =>
  if (rI2 h 8 o0 10) = 0 then (
    mv_rV (fN_adds o0 v1 h) fun h2 =>
    mv_gd (mv_inb (nI 6) 69) <|
    mv_rV (fN_sets o0 ((rI2 h2 902 o0 (nI 6).toNatClampNeg) - (nI 1)) (nI 1) v2 h2) fun h3 =>
    mv_gd (mv_inb (nI 6) 69) <|
    mv_rV (fN_sets o0 ((rI2 h3 902 o0 (nI 6).toNatClampNeg) - (nI 1)) (nI 2) v3 h3) fun h4 =>
    mv_gd (mv_inb (nI 6) 69) <|
    mv_rV (fN_sets o0 ((rI2 h4 902 o0 (nI 6).toNatClampNeg) - (nI 1)) (nI 3) x1 h4) fun h5 =>
    some ([], h5))
  else
  some ([], h)) := rfl
set_option maxRecDepth 100000 in
set_option maxHeartbeats 8000000 in
theorem eN_clothTold_b18 (q81 : Nat → Int32 → Int32 → Int32 → Int32 → H2 → O2) (o0 : Nat) (v1 : Int32) (os0 : Nat) (vs1 : Int32) (h : H2) : mv_blk rI2 rR2 ln2 wI2 wR2 nw2 cp2 bod none tN_clothTold gN_clothTold 0 0 [81] (fun pc lv st h ce sl => mv_gd (Nat.beq ce 0 && Nat.beq sl 0) (cond (Nat.beq pc 81) (mv_gR 0 8 lv fun o0 => mv_gI 1 lv fun v1 => mv_gI 2 lv fun v2 => mv_gI 3 lv fun v3 => mv_sI st fun vs0 st => mv_sE st (q81 o0 v1 v2 v3 vs0 h)) (none))) 400 (mv_seek 18 tN_clothTold) [(0, Sum.inr (8, o0)), (1, Sum.inl (Value.int v1))] [Sum.inl (Value.int vs1), Sum.inr (8, os0)] h 0 0 = (
  mv_rV (fN_must os0 vs1 h) fun h1 =>
  mv_bi (-(nI 1)) fun x2 =>
  mv_bi (nI 0) fun x3 =>
  mv_rI (fN_takes o0 23 h1) fun r5 h4 =>
  if r5 = 0 then (
    mv_rI (fN_takes o0 25 h4) fun r7 h6 =>
    if r7 = 0 then (
      q81 o0 v1 x2 x3 (nI 0) h6)
    else
    q81 o0 v1 x2 x3 (nI 1) h6)
  else
  mv_rI (fN_number o0 (nI 0) (nI 9) h4) fun r9 h8 =>
  mv_bi r9 fun x10 =>
  mv_rI (fN_takes o0 24 h8) fun r12 h11 =>
  if r12 = 0 then (
    mv_bi (nI 20) fun x13 =>
    mv_rI (fN_takes o0 25 h11) fun r15 h14 =>
    if r15 = 0 then (
      q81 o0 v1 x10 x13 (nI 0) h14)
    else
    q81 o0 v1 x10 x13 (nI 1) h14)
  else
  mv_rI (fN_number o0 (nI 1) (nI 99) h11) fun r17 h16 =>
  mv_bi r17 fun x18 =>
  mv_rI (fN_takes o0 25 h16) fun r20 h19 =>
  if r20 = 0 then (
    q81 o0 v1 x10 x18 (nI 0) h19)
  else
  q81 o0 v1 x10 x18 (nI 1) h19) := rfl
set_option maxRecDepth 100000 in
set_option maxHeartbeats 8000000 in
theorem eN_clothTold (q18 : Nat → Int32 → Nat → Int32 → H2 → O2) (o0 : Nat) (v1 : Int32) (h : H2) : mv_blk rI2 rR2 ln2 wI2 wR2 nw2 cp2 bod none tN_clothTold gN_clothTold 0 0 [18] (fun pc lv st h ce sl => mv_gd (Nat.beq ce 0 && Nat.beq sl 0) (cond (Nat.beq pc 18) (mv_gR 0 8 lv fun o0 => mv_gI 1 lv fun v1 => mv_sI st fun vs1 st => mv_sR 8 st fun os0 st => mv_sE st (q18 o0 v1 os0 vs1 h)) (none))) 400 (mv_seek 0 tN_clothTold) [(0, Sum.inr (8, o0)), (1, Sum.inl (Value.int v1))] [] h 0 0 = (
  mv_gd (mv_inb (nI 6) 69) <|
  if (nI 8) ≤ (rI2 h 902 o0 (nI 6).toNatClampNeg) then (
    q18 o0 v1 o0 (nI 0) h)
  else
  q18 o0 v1 o0 (nI 1) h) := rfl
theorem GN_clothTold : ∀ (j : Nat) (C : mv_C H2) (md' : mv_MD × Bool), mv_nth j gN_clothTold = some C → mv_nth j nN_clothTold = some md' → ∃ n', n' + 1 ≤ 7 ∧ mv_Cal vw2 n' md' C := fun j C md' => match j with
  | 0, h1, h2 => by
    obtain rfl := Option.some.inj h1
    obtain rfl := Option.some.inj h2
    exact ⟨4, by decide, cN_must_ok⟩
  | 1, h1, h2 => by
    obtain rfl := Option.some.inj h1
    obtain rfl := Option.some.inj h2
    exact ⟨6, by decide, cN_takes_ok⟩
  | 2, h1, h2 => by
    obtain rfl := Option.some.inj h1
    obtain rfl := Option.some.inj h2
    exact ⟨5, by decide, cN_number_ok⟩
  | 3, h1, h2 => by
    obtain rfl := Option.some.inj h1
    obtain rfl := Option.some.inj h2
    exact ⟨2, by decide, cN_adds_ok⟩
  | 4, h1, h2 => by
    obtain rfl := Option.some.inj h1
    obtain rfl := Option.some.inj h2
    exact ⟨1, by decide, cN_sets_ok⟩
  | _ + 5, h1, _ => by cases h1

set_option maxRecDepth 20000 in
theorem xN_clothTold_b81 {g0 : mv_G} {res : List mv_V × H2} (o0 : Nat) (v1 : Int32) (v2 : Int32) (v3 : Int32) (vs0 : Int32) (h : H2) (hh : fN_clothTold_b81 o0 v1 v2 v3 vs0 h = some res) : mv_X vw2 mdN_clothTold 7 0 0 none g0 res 81 [(0, Sum.inr (8, o0)), (1, Sum.inl (Value.int v1)), (2, Sum.inl (Value.int v2)), (3, Sum.inl (Value.int v3))] [Sum.inl (Value.int vs0)] h 0 0 := by
  refine mv_blkX ax2 (GN_clothTold) (by decide) kN_clothTold (fun pc lv st h ce sl hh => ?_) ((eN_clothTold_b81  o0 v1 v2 v3 vs0 h).trans hh)
  cases hh

set_option maxRecDepth 20000 in
theorem xN_clothTold_b18 {g0 : mv_G} {res : List mv_V × H2} (o0 : Nat) (v1 : Int32) (os0 : Nat) (vs1 : Int32) (h : H2) (hh : fN_clothTold_b18 o0 v1 os0 vs1 h = some res) : mv_X vw2 mdN_clothTold 7 0 0 none g0 res 18 [(0, Sum.inr (8, o0)), (1, Sum.inl (Value.int v1))] [Sum.inl (Value.int vs1), Sum.inr (8, os0)] h 0 0 := by
  refine mv_blkX ax2 (GN_clothTold) (by decide) kN_clothTold (fun pc lv st h ce sl hh => ?_) ((eN_clothTold_b18 (fN_clothTold_b81) o0 v1 os0 vs1 h).trans hh)
  obtain ⟨hg, hh1⟩ := mv_gd_some hh
  obtain ⟨rfl, rfl⟩ := mv_z2 hg
  rcases mv_cond_some hh1 with ⟨hb, hh2⟩ | ⟨hb, hh3⟩
  · obtain rfl := Nat.eq_of_beq_eq_true hb
    obtain ⟨o0, m0, hh4⟩ := mv_gR_some hh2
    obtain ⟨v1, m1, hh5⟩ := mv_gI_some hh4
    obtain ⟨v2, m2, hh6⟩ := mv_gI_some hh5
    obtain ⟨v3, m3, hh7⟩ := mv_gI_some hh6
    obtain ⟨vs0, sthh8, rfl, hh8⟩ := mv_sI_some hh7
    obtain ⟨rfl, hh9⟩ := mv_sE_some hh8
    exact (xN_clothTold_b81  o0 v1 v2 v3 vs0 h hh9).sub (List.forall_mem_cons.mpr ⟨m0, (List.forall_mem_cons.mpr ⟨m1, (List.forall_mem_cons.mpr ⟨m2, (List.forall_mem_cons.mpr ⟨m3, (fun q hq => by cases hq)⟩)⟩)⟩)⟩)
  cases hh3

set_option maxRecDepth 20000 in
theorem xN_clothTold {g0 : mv_G} {res : List mv_V × H2} (o0 : Nat) (v1 : Int32) (h : H2) (hh : fN_clothTold o0 v1 h = some res) : mv_X vw2 mdN_clothTold 7 0 0 none g0 res 0 [(0, Sum.inr (8, o0)), (1, Sum.inl (Value.int v1))] [] h 0 0 := by
  refine mv_blkX ax2 (GN_clothTold) (by decide) kN_clothTold (fun pc lv st h ce sl hh => ?_) ((eN_clothTold (fN_clothTold_b18) o0 v1 h).trans hh)
  obtain ⟨hg, hh1⟩ := mv_gd_some hh
  obtain ⟨rfl, rfl⟩ := mv_z2 hg
  rcases mv_cond_some hh1 with ⟨hb, hh2⟩ | ⟨hb, hh3⟩
  · obtain rfl := Nat.eq_of_beq_eq_true hb
    obtain ⟨o0, m0, hh4⟩ := mv_gR_some hh2
    obtain ⟨v1, m1, hh5⟩ := mv_gI_some hh4
    obtain ⟨vs1, sthh6, rfl, hh6⟩ := mv_sI_some hh5
    obtain ⟨os0, sthh7, rfl, hh7⟩ := mv_sR_some hh6
    obtain ⟨rfl, hh8⟩ := mv_sE_some hh7
    exact (xN_clothTold_b18  o0 v1 os0 vs1 h hh8).sub (List.forall_mem_cons.mpr ⟨m0, (List.forall_mem_cons.mpr ⟨m1, (fun q hq => by cases hq)⟩)⟩)
  cases hh3

theorem mN_clothTold (o0 : Nat) (v1 : Int32) (h : H2) (vs : List mv_V) (h' : H2) (hh : fN_clothTold o0 v1 h = some (vs, h')) : mv_Met vw2 7 0 0 mdN_clothTold [Sum.inr (8, o0), Sum.inl (Value.int v1)] h vs h' :=
  mv_Met_of (by decide +kernel) (Nat.le_of_ble_eq_true rfl) (xN_clothTold o0 v1 h hh)
theorem cN_clothTold_ok : mv_Cal vw2 7 (mdN_clothTold, true) ((0, 0), cN_clothTold) := by
  intro as h k res hh
  change cN_clothTold as h k = some res at hh
  unfold cN_clothTold at hh
  split at hh
  · obtain ⟨hg0, ha0⟩ := mv_gd_some hh
    obtain rfl := Nat.eq_of_beq_eq_true hg0
    obtain ⟨h', h1, h9⟩ := mv_rV_some ha0
    exact ⟨_, _, h9, by decide, fun _ => ⟨_, _, _, rfl, Or.inl ⟨by decide, rfl⟩⟩, (mN_clothTold _ _ h _ _ h1)⟩
  · cases hh

set_option maxRecDepth 100000 in
theorem kN_twoTold : mv_tok mdN_twoTold nN_twoTold tN_twoTold = true := by decide +kernel
set_option maxRecDepth 100000 in
set_option maxHeartbeats 8000000 in
theorem eN_twoTold_b29 (o0 : Nat) (v1 : Int32) (v4 : Int32) (v5 : Int32) (h : H2) : mv_blk rI2 rR2 ln2 wI2 wR2 nw2 cp2 bod none tN_twoTold gN_twoTold 0 0 [] (fun _ _ _ _ _ _ => none) 400 (mv_seek 29 tN_twoTold) [(0, Sum.inr (8, o0)), (1, Sum.inl (Value.int v1)), (4, Sum.inl (Value.int v4)), (5, Sum.inl (Value.int v5))] [] h 0 0 = (
  mv_rI (fN_number o0 (nI 0) v4 h) fun r2 h1 =>
  mv_bi r2 fun x3 =>
  if (rI2 h1 8 o0 10) = 0 then (
    mv_gd (mv_inb (v1 + v5) 69) <|
    mv_bh (wI2 h1 902 o0 (v1 + v5).toNatClampNeg x3) fun h4 =>
    some ([], h4))
  else
  some ([], h1)) := rfl
set_option maxRecDepth 100000 in
set_option maxHeartbeats 8000000 in
theorem eN_twoTold (q29 : Nat → Int32 → Int32 → Int32 → H2 → O2) (o0 : Nat) (v1 : Int32) (v2 : Int32) (o3 : Nat) (v4 : Int32) (h : H2) : mv_blk rI2 rR2 ln2 wI2 wR2 nw2 cp2 bod none tN_twoTold gN_twoTold 0 0 [29] (fun pc lv st h ce sl => mv_gd (Nat.beq ce 0 && Nat.beq sl 0) (cond (Nat.beq pc 29) (mv_gR 0 8 lv fun o0 => mv_gI 1 lv fun v1 => mv_gI 4 lv fun v4 => mv_gI 5 lv fun v5 => mv_sE st (q29 o0 v1 v4 v5 h)) (none))) 400 (mv_seek 0 tN_twoTold) [(0, Sum.inr (8, o0)), (1, Sum.inl (Value.int v1)), (2, Sum.inl (Value.int v2)), (3, Sum.inr (11, o3)), (4, Sum.inl (Value.int v4))] [] h 0 0 = (
  mv_rV (fN_must o0 (nI 1) h) fun h1 =>
  mv_rI (fN_number o0 (nI 0) v2 h1) fun r3 h2 =>
  mv_bi r3 fun x4 =>
  mv_rI (fK0_length_8abf5 o3 h2) fun r6 h5 =>
  if r6 ≤ 0 then (
    q29 o0 v1 v4 x4 h5)
  else
  mv_rI (fN_isWord o0 o3 h5) fun r8 h7 =>
  mv_rV (fN_must o0 r8 h7) fun h9 =>
  q29 o0 v1 v4 x4 h9) := rfl
theorem GN_twoTold : ∀ (j : Nat) (C : mv_C H2) (md' : mv_MD × Bool), mv_nth j gN_twoTold = some C → mv_nth j nN_twoTold = some md' → ∃ n', n' + 1 ≤ 6 ∧ mv_Cal vw2 n' md' C := fun j C md' => match j with
  | 0, h1, h2 => by
    obtain rfl := Option.some.inj h1
    obtain rfl := Option.some.inj h2
    exact ⟨4, by decide, cN_must_ok⟩
  | 1, h1, h2 => by
    obtain rfl := Option.some.inj h1
    obtain rfl := Option.some.inj h2
    exact ⟨5, by decide, cN_number_ok⟩
  | 2, h1, h2 => by
    obtain rfl := Option.some.inj h1
    obtain rfl := Option.some.inj h2
    exact ⟨2, by decide, cK0_length_8abf5_ok⟩
  | 3, h1, h2 => by
    obtain rfl := Option.some.inj h1
    obtain rfl := Option.some.inj h2
    exact ⟨5, by decide, cN_isWord_ok⟩
  | _ + 4, h1, _ => by cases h1

set_option maxRecDepth 20000 in
theorem xN_twoTold_b29 {g0 : mv_G} {res : List mv_V × H2} (o0 : Nat) (v1 : Int32) (v4 : Int32) (v5 : Int32) (h : H2) (hh : fN_twoTold_b29 o0 v1 v4 v5 h = some res) : mv_X vw2 mdN_twoTold 6 0 0 none g0 res 29 [(0, Sum.inr (8, o0)), (1, Sum.inl (Value.int v1)), (4, Sum.inl (Value.int v4)), (5, Sum.inl (Value.int v5))] [] h 0 0 := by
  refine mv_blkX ax2 (GN_twoTold) (by decide) kN_twoTold (fun pc lv st h ce sl hh => ?_) ((eN_twoTold_b29  o0 v1 v4 v5 h).trans hh)
  cases hh

set_option maxRecDepth 20000 in
theorem xN_twoTold {g0 : mv_G} {res : List mv_V × H2} (o0 : Nat) (v1 : Int32) (v2 : Int32) (o3 : Nat) (v4 : Int32) (h : H2) (hh : fN_twoTold o0 v1 v2 o3 v4 h = some res) : mv_X vw2 mdN_twoTold 6 0 0 none g0 res 0 [(0, Sum.inr (8, o0)), (1, Sum.inl (Value.int v1)), (2, Sum.inl (Value.int v2)), (3, Sum.inr (11, o3)), (4, Sum.inl (Value.int v4))] [] h 0 0 := by
  refine mv_blkX ax2 (GN_twoTold) (by decide) kN_twoTold (fun pc lv st h ce sl hh => ?_) ((eN_twoTold (fN_twoTold_b29) o0 v1 v2 o3 v4 h).trans hh)
  obtain ⟨hg, hh1⟩ := mv_gd_some hh
  obtain ⟨rfl, rfl⟩ := mv_z2 hg
  rcases mv_cond_some hh1 with ⟨hb, hh2⟩ | ⟨hb, hh3⟩
  · obtain rfl := Nat.eq_of_beq_eq_true hb
    obtain ⟨o0, m0, hh4⟩ := mv_gR_some hh2
    obtain ⟨v1, m1, hh5⟩ := mv_gI_some hh4
    obtain ⟨v4, m2, hh6⟩ := mv_gI_some hh5
    obtain ⟨v5, m3, hh7⟩ := mv_gI_some hh6
    obtain ⟨rfl, hh8⟩ := mv_sE_some hh7
    exact (xN_twoTold_b29  o0 v1 v4 v5 h hh8).sub (List.forall_mem_cons.mpr ⟨m0, (List.forall_mem_cons.mpr ⟨m1, (List.forall_mem_cons.mpr ⟨m2, (List.forall_mem_cons.mpr ⟨m3, (fun q hq => by cases hq)⟩)⟩)⟩)⟩)
  cases hh3

theorem mN_twoTold (o0 : Nat) (v1 : Int32) (v2 : Int32) (o3 : Nat) (v4 : Int32) (h : H2) (vs : List mv_V) (h' : H2) (hh : fN_twoTold o0 v1 v2 o3 v4 h = some (vs, h')) : mv_Met vw2 6 0 0 mdN_twoTold [Sum.inr (8, o0), Sum.inl (Value.int v1), Sum.inl (Value.int v2), Sum.inr (11, o3), Sum.inl (Value.int v4)] h vs h' :=
  mv_Met_of (by decide +kernel) (Nat.le_of_ble_eq_true rfl) (xN_twoTold o0 v1 v2 o3 v4 h hh)
theorem cN_twoTold_ok : mv_Cal vw2 6 (mdN_twoTold, true) ((0, 0), cN_twoTold) := by
  intro as h k res hh
  change cN_twoTold as h k = some res at hh
  unfold cN_twoTold at hh
  split at hh
  · obtain ⟨hg0, ha0⟩ := mv_gd_some hh
    obtain rfl := Nat.eq_of_beq_eq_true hg0
    obtain ⟨hg3, ha3⟩ := mv_gd_some ha0
    obtain rfl := Nat.eq_of_beq_eq_true hg3
    obtain ⟨h', h1, h9⟩ := mv_rV_some ha3
    exact ⟨_, _, h9, by decide, fun _ => ⟨_, _, _, rfl, Or.inl ⟨by decide, rfl⟩⟩, (mN_twoTold _ _ _ _ _ h _ _ h1)⟩
  · cases hh

set_option maxRecDepth 100000 in
theorem kN_lawTold : mv_tok mdN_lawTold nN_lawTold tN_lawTold = true := by decide +kernel
set_option maxRecDepth 100000 in
set_option maxHeartbeats 8000000 in
theorem eN_lawTold (o0 : Nat) (v1 : Int32) (h : H2) : mv_blk rI2 rR2 ln2 wI2 wR2 nw2 cp2 bod none tN_lawTold gN_lawTold 0 0 [] (fun _ _ _ _ _ _ => none) 400 (mv_seek 0 tN_lawTold) [(0, Sum.inr (8, o0)), (1, Sum.inl (Value.int v1))] [] h 0 0 = (
  mv_gd (mv_inb v1 4) <|
  mv_rI (fN_number o0 (nI 0) (rI2 h 900 o0 v1.toNatClampNeg) h) fun r2 h1 =>
  mv_bi r2 fun x3 =>
  if (rI2 h1 8 o0 10) = 0 then (
    mv_gd (mv_inb v1 69) <|
    mv_bh (wI2 h1 902 o0 v1.toNatClampNeg x3) fun h4 =>
    some ([], h4))
  else
  some ([], h1)) := rfl
theorem GN_lawTold : ∀ (j : Nat) (C : mv_C H2) (md' : mv_MD × Bool), mv_nth j gN_lawTold = some C → mv_nth j nN_lawTold = some md' → ∃ n', n' + 1 ≤ 6 ∧ mv_Cal vw2 n' md' C := fun j C md' => match j with
  | 0, h1, h2 => by
    obtain rfl := Option.some.inj h1
    obtain rfl := Option.some.inj h2
    exact ⟨5, by decide, cN_number_ok⟩
  | _ + 1, h1, _ => by cases h1

set_option maxRecDepth 20000 in
theorem xN_lawTold {g0 : mv_G} {res : List mv_V × H2} (o0 : Nat) (v1 : Int32) (h : H2) (hh : fN_lawTold o0 v1 h = some res) : mv_X vw2 mdN_lawTold 6 0 0 none g0 res 0 [(0, Sum.inr (8, o0)), (1, Sum.inl (Value.int v1))] [] h 0 0 := by
  refine mv_blkX ax2 (GN_lawTold) (by decide) kN_lawTold (fun pc lv st h ce sl hh => ?_) ((eN_lawTold  o0 v1 h).trans hh)
  cases hh

theorem mN_lawTold (o0 : Nat) (v1 : Int32) (h : H2) (vs : List mv_V) (h' : H2) (hh : fN_lawTold o0 v1 h = some (vs, h')) : mv_Met vw2 6 0 0 mdN_lawTold [Sum.inr (8, o0), Sum.inl (Value.int v1)] h vs h' :=
  mv_Met_of (by decide +kernel) (Nat.le_of_ble_eq_true rfl) (xN_lawTold o0 v1 h hh)
theorem cN_lawTold_ok : mv_Cal vw2 6 (mdN_lawTold, true) ((0, 0), cN_lawTold) := by
  intro as h k res hh
  change cN_lawTold as h k = some res at hh
  unfold cN_lawTold at hh
  split at hh
  · obtain ⟨hg0, ha0⟩ := mv_gd_some hh
    obtain rfl := Nat.eq_of_beq_eq_true hg0
    obtain ⟨h', h1, h9⟩ := mv_rV_some ha0
    exact ⟨_, _, h9, by decide, fun _ => ⟨_, _, _, rfl, Or.inl ⟨by decide, rfl⟩⟩, (mN_lawTold _ _ h _ _ h1)⟩
  · cases hh

set_option maxRecDepth 100000 in
theorem kN_lawHere : mv_tok mdN_lawHere nN_lawHere tN_lawHere = true := by decide +kernel
set_option maxRecDepth 100000 in
set_option maxHeartbeats 8000000 in
theorem eN_lawHere (o0 : Nat) (h : H2) : mv_blk rI2 rR2 ln2 wI2 wR2 nw2 cp2 bod none tN_lawHere gN_lawHere 0 0 [] (fun _ _ _ _ _ _ => none) 400 (mv_seek 0 tN_lawHere) [(0, Sum.inr (8, o0))] [] h 0 0 = (
  mv_rI (fN_isWord o0 26 h) fun r2 h1 =>
  if r2 = 0 then (
    mv_rI (fN_isWord o0 27 h1) fun r4 h3 =>
    if r4 = 0 then (
      mv_rI (fN_isWord o0 28 h3) fun r6 h5 =>
      if r6 = 0 then (
        mv_rI (fN_isWord o0 29 h5) fun r8 h7 =>
        if r8 = 0 then (
          some ([Sum.inl (Value.int (-(nI 1)))], h7))
        else
        some ([Sum.inl (Value.int (nI 3))], h7))
      else
      some ([Sum.inl (Value.int (nI 2))], h5))
    else
    some ([Sum.inl (Value.int (nI 1))], h3))
  else
  some ([Sum.inl (Value.int (nI 0))], h1)) := rfl
theorem GN_lawHere : ∀ (j : Nat) (C : mv_C H2) (md' : mv_MD × Bool), mv_nth j gN_lawHere = some C → mv_nth j nN_lawHere = some md' → ∃ n', n' + 1 ≤ 6 ∧ mv_Cal vw2 n' md' C := fun j C md' => match j with
  | 0, h1, h2 => by
    obtain rfl := Option.some.inj h1
    obtain rfl := Option.some.inj h2
    exact ⟨5, by decide, cN_isWord_ok⟩
  | _ + 1, h1, _ => by cases h1

set_option maxRecDepth 20000 in
theorem xN_lawHere {g0 : mv_G} {res : List mv_V × H2} (o0 : Nat) (h : H2) (hh : fN_lawHere o0 h = some res) : mv_X vw2 mdN_lawHere 6 0 0 none g0 res 0 [(0, Sum.inr (8, o0))] [] h 0 0 := by
  refine mv_blkX ax2 (GN_lawHere) (by decide) kN_lawHere (fun pc lv st h ce sl hh => ?_) ((eN_lawHere  o0 h).trans hh)
  cases hh

theorem mN_lawHere (o0 : Nat) (h : H2) (vs : List mv_V) (h' : H2) (hh : fN_lawHere o0 h = some (vs, h')) : mv_Met vw2 6 0 0 mdN_lawHere [Sum.inr (8, o0)] h vs h' :=
  mv_Met_of (by decide +kernel) (Nat.le_of_ble_eq_true rfl) (xN_lawHere o0 h hh)
theorem cN_lawHere_ok : mv_Cal vw2 6 (mdN_lawHere, true) ((0, 0), cN_lawHere) := by
  intro as h k res hh
  change cN_lawHere as h k = some res at hh
  unfold cN_lawHere at hh
  split at hh
  · obtain ⟨hg0, ha0⟩ := mv_gd_some hh
    obtain rfl := Nat.eq_of_beq_eq_true hg0
    obtain ⟨x, h', h1, h9⟩ := mv_rI_some ha0
    exact ⟨_, _, h9, by decide, fun _ => ⟨_, _, _, rfl, Or.inl ⟨by decide, rfl⟩⟩, (mN_lawHere _ h _ _ h1)⟩
  · cases hh

set_option maxRecDepth 100000 in
theorem kN_item : mv_tok mdN_item nN_item tN_item = true := by decide +kernel
set_option maxRecDepth 100000 in
set_option maxHeartbeats 8000000 in
theorem eN_item_b109 (o0 : Nat) (v2 : Int32) (os0 : Nat) (vs1 : Int32) (h : H2) : mv_blk rI2 rR2 ln2 wI2 wR2 nw2 cp2 bod none tN_item gN_item 0 0 [] (fun _ _ _ _ _ _ => none) 400 (mv_seek 109 tN_item) [(0, Sum.inr (8, o0)), (2, Sum.inl (Value.int v2))] [Sum.inl (Value.int vs1), Sum.inr (8, os0)] h 0 0 = (
  mv_rV (fN_must os0 vs1 h) fun h1 =>
  mv_rV (fN_lawTold o0 (if (nI 0) < v2 then v2 else (nI 0)) h1) fun h2 =>
  mv_rI (fN_isWord o0 35 h2) fun r4 h3 =>
  mv_rV (fN_must o0 r4 h3) fun h5 =>
  some ([], h5)) := rfl
set_option maxRecDepth 100000 in
set_option maxHeartbeats 8000000 in
theorem eN_item (q109 : Nat → Int32 → Nat → Int32 → H2 → O2) (o0 : Nat) (h : H2) : mv_blk rI2 rR2 ln2 wI2 wR2 nw2 cp2 bod none tN_item gN_item 0 0 [109] (fun pc lv st h ce sl => mv_gd (Nat.beq ce 0 && Nat.beq sl 0) (cond (Nat.beq pc 109) (mv_gR 0 8 lv fun o0 => mv_gI 2 lv fun v2 => mv_sI st fun vs1 st => mv_sR 8 st fun os0 st => mv_sE st (q109 o0 v2 os0 vs1 h)) (none))) 400 (mv_seek 0 tN_item) [(0, Sum.inr (8, o0))] [] h 0 0 = (
  mv_rI (fN_kindHere o0 h) fun r2 h1 =>
  mv_bi r2 fun x3 =>
  mv_rI (fN_lawHere o0 h1) fun r5 h4 =>
  mv_bi r5 fun x6 =>
  if x3 < 0 then (
    mv_rI (fN_isWord o0 30 h4) fun r8 h7 =>
    if r8 = 0 then (
      mv_rI (fN_isWord o0 32 h7) fun r10 h9 =>
      if r10 = 0 then (
        mv_rI (fN_isWord o0 34 h9) fun r12 h11 =>
        if r12 = 0 then (
          if x6 < 0 then (
            q109 o0 x6 o0 (nI 0) h11)
          else
          q109 o0 x6 o0 (nI 1) h11)
        else
        mv_rV (fN_twoTold o0 (nI 23) (nI 5) 30 (nI 7) h11) fun h13 =>
        mv_rI (fN_isWord o0 35 h13) fun r15 h14 =>
        mv_rV (fN_must o0 r15 h14) fun h16 =>
        some ([], h16))
      else
      mv_rV (fN_twoTold o0 (nI 15) (nI 7) 33 (nI 9) h9) fun h17 =>
      mv_rI (fN_isWord o0 35 h17) fun r19 h18 =>
      mv_rV (fN_must o0 r19 h18) fun h20 =>
      some ([], h20))
    else
    mv_rV (fN_twoTold o0 (nI 7) (nI 7) 31 (nI 9) h7) fun h21 =>
    mv_rI (fN_isWord o0 35 h21) fun r23 h22 =>
    mv_rV (fN_must o0 r23 h22) fun h24 =>
    some ([], h24))
  else
  mv_rV (fN_clothTold o0 x3 h4) fun h25 =>
  mv_rI (fN_isWord o0 35 h25) fun r27 h26 =>
  mv_rV (fN_must o0 r27 h26) fun h28 =>
  some ([], h28)) := rfl
theorem GN_item : ∀ (j : Nat) (C : mv_C H2) (md' : mv_MD × Bool), mv_nth j gN_item = some C → mv_nth j nN_item = some md' → ∃ n', n' + 1 ≤ 8 ∧ mv_Cal vw2 n' md' C := fun j C md' => match j with
  | 0, h1, h2 => by
    obtain rfl := Option.some.inj h1
    obtain rfl := Option.some.inj h2
    exact ⟨6, by decide, cN_kindHere_ok⟩
  | 1, h1, h2 => by
    obtain rfl := Option.some.inj h1
    obtain rfl := Option.some.inj h2
    exact ⟨6, by decide, cN_lawHere_ok⟩
  | 2, h1, h2 => by
    obtain rfl := Option.some.inj h1
    obtain rfl := Option.some.inj h2
    exact ⟨7, by decide, cN_clothTold_ok⟩
  | 3, h1, h2 => by
    obtain rfl := Option.some.inj h1
    obtain rfl := Option.some.inj h2
    exact ⟨5, by decide, cN_isWord_ok⟩
  | 4, h1, h2 => by
    obtain rfl := Option.some.inj h1
    obtain rfl := Option.some.inj h2
    exact ⟨6, by decide, cN_twoTold_ok⟩
  | 5, h1, h2 => by
    obtain rfl := Option.some.inj h1
    obtain rfl := Option.some.inj h2
    exact ⟨4, by decide, cN_must_ok⟩
  | 6, h1, h2 => by
    obtain rfl := Option.some.inj h1
    obtain rfl := Option.some.inj h2
    exact ⟨6, by decide, cN_lawTold_ok⟩
  | _ + 7, h1, _ => by cases h1

set_option maxRecDepth 20000 in
theorem xN_item_b109 {g0 : mv_G} {res : List mv_V × H2} (o0 : Nat) (v2 : Int32) (os0 : Nat) (vs1 : Int32) (h : H2) (hh : fN_item_b109 o0 v2 os0 vs1 h = some res) : mv_X vw2 mdN_item 8 0 0 none g0 res 109 [(0, Sum.inr (8, o0)), (2, Sum.inl (Value.int v2))] [Sum.inl (Value.int vs1), Sum.inr (8, os0)] h 0 0 := by
  refine mv_blkX ax2 (GN_item) (by decide) kN_item (fun pc lv st h ce sl hh => ?_) ((eN_item_b109  o0 v2 os0 vs1 h).trans hh)
  cases hh

set_option maxRecDepth 20000 in
theorem xN_item {g0 : mv_G} {res : List mv_V × H2} (o0 : Nat) (h : H2) (hh : fN_item o0 h = some res) : mv_X vw2 mdN_item 8 0 0 none g0 res 0 [(0, Sum.inr (8, o0))] [] h 0 0 := by
  refine mv_blkX ax2 (GN_item) (by decide) kN_item (fun pc lv st h ce sl hh => ?_) ((eN_item (fN_item_b109) o0 h).trans hh)
  obtain ⟨hg, hh1⟩ := mv_gd_some hh
  obtain ⟨rfl, rfl⟩ := mv_z2 hg
  rcases mv_cond_some hh1 with ⟨hb, hh2⟩ | ⟨hb, hh3⟩
  · obtain rfl := Nat.eq_of_beq_eq_true hb
    obtain ⟨o0, m0, hh4⟩ := mv_gR_some hh2
    obtain ⟨v2, m1, hh5⟩ := mv_gI_some hh4
    obtain ⟨vs1, sthh6, rfl, hh6⟩ := mv_sI_some hh5
    obtain ⟨os0, sthh7, rfl, hh7⟩ := mv_sR_some hh6
    obtain ⟨rfl, hh8⟩ := mv_sE_some hh7
    exact (xN_item_b109  o0 v2 os0 vs1 h hh8).sub (List.forall_mem_cons.mpr ⟨m0, (List.forall_mem_cons.mpr ⟨m1, (fun q hq => by cases hq)⟩)⟩)
  cases hh3

theorem mN_item (o0 : Nat) (h : H2) (vs : List mv_V) (h' : H2) (hh : fN_item o0 h = some (vs, h')) : mv_Met vw2 8 0 0 mdN_item [Sum.inr (8, o0)] h vs h' :=
  mv_Met_of (by decide +kernel) (Nat.le_of_ble_eq_true rfl) (xN_item o0 h hh)
theorem cN_item_ok : mv_Cal vw2 8 (mdN_item, true) ((0, 0), cN_item) := by
  intro as h k res hh
  change cN_item as h k = some res at hh
  unfold cN_item at hh
  split at hh
  · obtain ⟨hg0, ha0⟩ := mv_gd_some hh
    obtain rfl := Nat.eq_of_beq_eq_true hg0
    obtain ⟨h', h1, h9⟩ := mv_rV_some ha0
    exact ⟨_, _, h9, by decide, fun _ => ⟨_, _, _, rfl, Or.inl ⟨by decide, rfl⟩⟩, (mN_item _ h _ _ h1)⟩
  · cases hh

set_option maxRecDepth 100000 in
theorem kN_mill : mv_tok mdN_mill nN_mill tN_mill = true := by decide +kernel
set_option maxRecDepth 100000 in
set_option maxHeartbeats 8000000 in
theorem eN_mill_b47 (o0 : Nat) (h : H2) : mv_blk rI2 rR2 ln2 wI2 wR2 nw2 cp2 bod none tN_mill gN_mill 0 0 [] (fun _ _ _ _ _ _ => none) 400 (mv_seek 47 tN_mill) [(0, Sum.inr (8, o0))] [] h 0 0 = (
  mv_bh (wI2 h 8 o0 7 (nI 0)) fun h1 =>
  if (rI2 h1 8 o0 10) = 0 then (
    mv_bh (wI2 h1 8 o0 12 (nI 0)) fun h2 =>
    mv_gd (mv_inb (nI 6) 69) <|
    some ([Sum.inl (Value.int (rI2 h2 902 o0 (nI 6).toNatClampNeg))], h2))
  else
  mv_rV (fN_laysBack o0 h1) fun h3 =>
  some ([Sum.inl (Value.int ((-(nI 100)) - (rI2 h3 8 o0 8)))], h3)) := rfl
set_option maxRecDepth 100000 in
set_option maxHeartbeats 8000000 in
theorem eN_mill_b22 (q22 : Nat → H2 → O2) (q47 : Nat → H2 → O2) (o0 : Nat) (h : H2) : mv_blk rI2 rR2 ln2 wI2 wR2 nw2 cp2 bod none tN_mill gN_mill 0 0 [22, 47] (fun pc lv st h ce sl => mv_gd (Nat.beq ce 0 && Nat.beq sl 0) (cond (Nat.beq pc 22) (mv_gR 0 8 lv fun o0 => mv_sE st (q22 o0 h)) (cond (Nat.beq pc 47) (mv_gR 0 8 lv fun o0 => mv_sE st (q47 o0 h)) (none)))) 400 (mv_seek 22 tN_mill) [(0, Sum.inr (8, o0))] [] h 0 0 = (
  if (rI2 h 8 o0 10) = 0 then (
    if (rI2 h 8 o0 7) ≤ (rI2 h 8 o0 8) then (
      q47 o0 h)
    else
    mv_rV (fN_item o0 h) fun h1 =>
    q22 o0 h1)
  else
  q47 o0 h) := rfl
set_option maxRecDepth 100000 in
set_option maxHeartbeats 8000000 in
theorem eN_mill (q22 : Nat → H2 → O2) (o0 : Nat) (h : H2) : mv_blk rI2 rR2 ln2 wI2 wR2 nw2 cp2 bod none tN_mill gN_mill 0 0 [22] (fun pc lv st h ce sl => mv_gd (Nat.beq ce 0 && Nat.beq sl 0) (cond (Nat.beq pc 22) (mv_gR 0 8 lv fun o0 => mv_sE st (q22 o0 h)) (none))) 400 (mv_seek 0 tN_mill) [(0, Sum.inr (8, o0))] [] h 0 0 = (
  mv_rV (fN_lends o0 h) fun h1 =>
  mv_rV (fN_anew o0 h1) fun h2 =>
  mv_gd (decide (nI 0 = nI 0) || decide (nI 0 = nI 1)) <|
  mv_bh (wI2 h2 8 o0 10 (nI 0)) fun h3 =>
  mv_bh (wI2 h3 8 o0 9 (nI 0)) fun h4 =>
  mv_rV (fN_next o0 h4) fun h5 =>
  q22 o0 h5) := rfl
theorem GN_mill : ∀ (j : Nat) (C : mv_C H2) (md' : mv_MD × Bool), mv_nth j gN_mill = some C → mv_nth j nN_mill = some md' → ∃ n', n' + 1 ≤ 9 ∧ mv_Cal vw2 n' md' C := fun j C md' => match j with
  | 0, h1, h2 => by
    obtain rfl := Option.some.inj h1
    obtain rfl := Option.some.inj h2
    exact ⟨2, by decide, cN_lends_ok⟩
  | 1, h1, h2 => by
    obtain rfl := Option.some.inj h1
    obtain rfl := Option.some.inj h2
    exact ⟨1, by decide, cN_anew_ok⟩
  | 2, h1, h2 => by
    obtain rfl := Option.some.inj h1
    obtain rfl := Option.some.inj h2
    exact ⟨3, by decide, cN_next_ok⟩
  | 3, h1, h2 => by
    obtain rfl := Option.some.inj h1
    obtain rfl := Option.some.inj h2
    exact ⟨8, by decide, cN_item_ok⟩
  | 4, h1, h2 => by
    obtain rfl := Option.some.inj h1
    obtain rfl := Option.some.inj h2
    exact ⟨2, by decide, cN_laysBack_ok⟩
  | _ + 5, h1, _ => by cases h1

set_option maxRecDepth 20000 in
theorem xN_mill_b47 {g0 : mv_G} {res : List mv_V × H2} (o0 : Nat) (h : H2) (hh : fN_mill_b47 o0 h = some res) : mv_X vw2 mdN_mill 9 0 0 none g0 res 47 [(0, Sum.inr (8, o0))] [] h 0 0 := by
  refine mv_blkX ax2 (GN_mill) (by decide) kN_mill (fun pc lv st h ce sl hh => ?_) ((eN_mill_b47  o0 h).trans hh)
  cases hh

set_option maxRecDepth 20000 in
theorem xN_mill_b22 {g0 : mv_G} {res : List mv_V × H2} : ∀ (n : Nat) (o0 : Nat) (h : H2), fN_mill_b22 n o0 h = some res → mv_X vw2 mdN_mill 9 0 0 none g0 res 22 [(0, Sum.inr (8, o0))] [] h 0 0 := by
  intro n
  induction n with
  | zero => intro o0 h hh; cases hh
  | succ n ih =>
    intro o0 h hh
    refine mv_blkX ax2 (GN_mill) (by decide) kN_mill (fun pc lv st h ce sl hh => ?_) ((eN_mill_b22 (fN_mill_b22 n) (fN_mill_b47) o0 h).trans hh)
    obtain ⟨hg, hh1⟩ := mv_gd_some hh
    obtain ⟨rfl, rfl⟩ := mv_z2 hg
    rcases mv_cond_some hh1 with ⟨hb, hh2⟩ | ⟨hb, hh3⟩
    · obtain rfl := Nat.eq_of_beq_eq_true hb
      obtain ⟨o0, m0, hh4⟩ := mv_gR_some hh2
      obtain ⟨rfl, hh5⟩ := mv_sE_some hh4
      exact (ih o0 h hh5).sub (List.forall_mem_cons.mpr ⟨m0, (fun q hq => by cases hq)⟩)
    rcases mv_cond_some hh3 with ⟨hb, hh6⟩ | ⟨hb, hh7⟩
    · obtain rfl := Nat.eq_of_beq_eq_true hb
      obtain ⟨o0, m0, hh8⟩ := mv_gR_some hh6
      obtain ⟨rfl, hh9⟩ := mv_sE_some hh8
      exact (xN_mill_b47  o0 h hh9).sub (List.forall_mem_cons.mpr ⟨m0, (fun q hq => by cases hq)⟩)
    cases hh7

set_option maxRecDepth 20000 in
theorem xN_mill {g0 : mv_G} {res : List mv_V × H2} (o0 : Nat) (h : H2) (hh : fN_mill o0 h = some res) : mv_X vw2 mdN_mill 9 0 0 none g0 res 0 [(0, Sum.inr (8, o0))] [] h 0 0 := by
  refine mv_blkX ax2 (GN_mill) (by decide) kN_mill (fun pc lv st h ce sl hh => ?_) ((eN_mill (fN_mill_b22 1000) o0 h).trans hh)
  obtain ⟨hg, hh1⟩ := mv_gd_some hh
  obtain ⟨rfl, rfl⟩ := mv_z2 hg
  rcases mv_cond_some hh1 with ⟨hb, hh2⟩ | ⟨hb, hh3⟩
  · obtain rfl := Nat.eq_of_beq_eq_true hb
    obtain ⟨o0, m0, hh4⟩ := mv_gR_some hh2
    obtain ⟨rfl, hh5⟩ := mv_sE_some hh4
    exact (xN_mill_b22 1000 o0 h hh5).sub (List.forall_mem_cons.mpr ⟨m0, (fun q hq => by cases hq)⟩)
  cases hh3

theorem mN_mill (o0 : Nat) (h : H2) (vs : List mv_V) (h' : H2) (hh : fN_mill o0 h = some (vs, h')) : mv_Met vw2 9 0 0 mdN_mill [Sum.inr (8, o0)] h vs h' :=
  mv_Met_of (by decide +kernel) (Nat.le_of_ble_eq_true rfl) (xN_mill o0 h hh)
set_option maxRecDepth 100000 in
theorem kN_prove : mv_tok mdN_prove nN_prove tN_prove = true := by decide +kernel
set_option maxRecDepth 100000 in
set_option maxHeartbeats 8000000 in
theorem eN_prove_b28 (q28 : Nat → Int32 → Int32 → Int32 → H2 → O2) (o0 : Nat) (v1 : Int32) (v2 : Int32) (v3 : Int32) (h : H2) : mv_blk rI2 rR2 ln2 wI2 wR2 nw2 cp2 bod none tN_prove gN_prove 0 0 [28] (fun pc lv st h ce sl => mv_gd (Nat.beq ce 0 && Nat.beq sl 0) (cond (Nat.beq pc 28) (mv_gR 0 8 lv fun o0 => mv_gI 1 lv fun v1 => mv_gI 2 lv fun v2 => mv_gI 3 lv fun v3 => mv_sE st (q28 o0 v1 v2 v3 h)) (none))) 400 (mv_seek 28 tN_prove) [(0, Sum.inr (8, o0)), (1, Sum.inl (Value.int v1)), (2, Sum.inl (Value.int v2)), (3, Sum.inl (Value.int v3))] [] h 0 0 = (
  if v2 ≤ v3 then (
    mv_rV (fN_laysBack o0 h) fun h1 =>
    mv_bh (wI2 h1 8 o0 12 v2) fun h2 =>
    some ([Sum.inl (Value.int v2)], h2))
  else
  mv_rV (fN_goes o0 (nI 1) h) fun h3 =>
  mv_rI (fN_its o0 v1 (nI 1) h3) fun r5 h4 =>
  mv_gd (mv_inb ((nI 3) * v3) 30) <|
  mv_bh (wI2 h4 911 o0 ((nI 3) * v3).toNatClampNeg ((nI 1) + r5)) fun h6 =>
  mv_rI (fN_its o0 v1 (nI 2) h6) fun r8 h7 =>
  mv_gd (mv_inb (((nI 3) * v3) + (nI 1)) 30) <|
  mv_bh (wI2 h7 911 o0 (((nI 3) * v3) + (nI 1)).toNatClampNeg r8) fun h9 =>
  mv_rI (fN_depths o0 h9) fun r11 h10 =>
  mv_gd (mv_inb (((nI 3) * v3) + (nI 2)) 30) <|
  mv_bh (wI2 h10 911 o0 (((nI 3) * v3) + (nI 2)).toNatClampNeg r11) fun h12 =>
  mv_bi (v3 + (nI 1)) fun x13 =>
  q28 o0 v1 v2 x13 h12) := rfl
set_option maxRecDepth 100000 in
set_option maxHeartbeats 8000000 in
theorem eN_prove (q28 : Nat → Int32 → Int32 → Int32 → H2 → O2) (o0 : Nat) (v1 : Int32) (v2 : Int32) (h : H2) : mv_blk rI2 rR2 ln2 wI2 wR2 nw2 cp2 bod none tN_prove gN_prove 0 0 [28] (fun pc lv st h ce sl => mv_gd (Nat.beq ce 0 && Nat.beq sl 0) (cond (Nat.beq pc 28) (mv_gR 0 8 lv fun o0 => mv_gI 1 lv fun v1 => mv_gI 2 lv fun v2 => mv_gI 3 lv fun v3 => mv_sE st (q28 o0 v1 v2 v3 h)) (none))) 400 (mv_seek 0 tN_prove) [(0, Sum.inr (8, o0)), (1, Sum.inl (Value.int v1)), (2, Sum.inl (Value.int v2))] [] h 0 0 = (
  mv_rI (fN_isCloth o0 v1 h) fun r2 h1 =>
  if r2 = 0 then (
    some ([Sum.inl (Value.int (-(nI 1)))], h1))
  else
  mv_rI (fN_in v2.toInt64 (lN 1) (lN 10) h1) fun r4 h3 =>
  if r4 = 0 then (
    some ([Sum.inl (Value.int (-(nI 1)))], h3))
  else
  mv_rV (fN_lends o0 h3) fun h5 =>
  mv_bi (nI 0) fun x6 =>
  q28 o0 v1 v2 x6 h5) := rfl
theorem GN_prove : ∀ (j : Nat) (C : mv_C H2) (md' : mv_MD × Bool), mv_nth j gN_prove = some C → mv_nth j nN_prove = some md' → ∃ n', n' + 1 ≤ 6 ∧ mv_Cal vw2 n' md' C := fun j C md' => match j with
  | 0, h1, h2 => by
    obtain rfl := Option.some.inj h1
    obtain rfl := Option.some.inj h2
    exact ⟨2, by decide, cN_isCloth_ok⟩
  | 1, h1, h2 => by
    obtain rfl := Option.some.inj h1
    obtain rfl := Option.some.inj h2
    exact ⟨1, by decide, cN_in_ok⟩
  | 2, h1, h2 => by
    obtain rfl := Option.some.inj h1
    obtain rfl := Option.some.inj h2
    exact ⟨2, by decide, cN_lends_ok⟩
  | 3, h1, h2 => by
    obtain rfl := Option.some.inj h1
    obtain rfl := Option.some.inj h2
    exact ⟨5, by decide, cN_goes_ok⟩
  | 4, h1, h2 => by
    obtain rfl := Option.some.inj h1
    obtain rfl := Option.some.inj h2
    exact ⟨1, by decide, cN_its_ok⟩
  | 5, h1, h2 => by
    obtain rfl := Option.some.inj h1
    obtain rfl := Option.some.inj h2
    exact ⟨2, by decide, cN_depths_ok⟩
  | 6, h1, h2 => by
    obtain rfl := Option.some.inj h1
    obtain rfl := Option.some.inj h2
    exact ⟨2, by decide, cN_laysBack_ok⟩
  | _ + 7, h1, _ => by cases h1

set_option maxRecDepth 20000 in
theorem xN_prove_b28 {g0 : mv_G} {res : List mv_V × H2} : ∀ (n : Nat) (o0 : Nat) (v1 : Int32) (v2 : Int32) (v3 : Int32) (h : H2), fN_prove_b28 n o0 v1 v2 v3 h = some res → mv_X vw2 mdN_prove 6 0 0 none g0 res 28 [(0, Sum.inr (8, o0)), (1, Sum.inl (Value.int v1)), (2, Sum.inl (Value.int v2)), (3, Sum.inl (Value.int v3))] [] h 0 0 := by
  intro n
  induction n with
  | zero => intro o0 v1 v2 v3 h hh; cases hh
  | succ n ih =>
    intro o0 v1 v2 v3 h hh
    refine mv_blkX ax2 (GN_prove) (by decide) kN_prove (fun pc lv st h ce sl hh => ?_) ((eN_prove_b28 (fN_prove_b28 n) o0 v1 v2 v3 h).trans hh)
    obtain ⟨hg, hh1⟩ := mv_gd_some hh
    obtain ⟨rfl, rfl⟩ := mv_z2 hg
    rcases mv_cond_some hh1 with ⟨hb, hh2⟩ | ⟨hb, hh3⟩
    · obtain rfl := Nat.eq_of_beq_eq_true hb
      obtain ⟨o0, m0, hh4⟩ := mv_gR_some hh2
      obtain ⟨v1, m1, hh5⟩ := mv_gI_some hh4
      obtain ⟨v2, m2, hh6⟩ := mv_gI_some hh5
      obtain ⟨v3, m3, hh7⟩ := mv_gI_some hh6
      obtain ⟨rfl, hh8⟩ := mv_sE_some hh7
      exact (ih o0 v1 v2 v3 h hh8).sub (List.forall_mem_cons.mpr ⟨m0, (List.forall_mem_cons.mpr ⟨m1, (List.forall_mem_cons.mpr ⟨m2, (List.forall_mem_cons.mpr ⟨m3, (fun q hq => by cases hq)⟩)⟩)⟩)⟩)
    cases hh3

set_option maxRecDepth 20000 in
theorem xN_prove {g0 : mv_G} {res : List mv_V × H2} (o0 : Nat) (v1 : Int32) (v2 : Int32) (h : H2) (hh : fN_prove o0 v1 v2 h = some res) : mv_X vw2 mdN_prove 6 0 0 none g0 res 0 [(0, Sum.inr (8, o0)), (1, Sum.inl (Value.int v1)), (2, Sum.inl (Value.int v2))] [] h 0 0 := by
  refine mv_blkX ax2 (GN_prove) (by decide) kN_prove (fun pc lv st h ce sl hh => ?_) ((eN_prove (fN_prove_b28 1000) o0 v1 v2 h).trans hh)
  obtain ⟨hg, hh1⟩ := mv_gd_some hh
  obtain ⟨rfl, rfl⟩ := mv_z2 hg
  rcases mv_cond_some hh1 with ⟨hb, hh2⟩ | ⟨hb, hh3⟩
  · obtain rfl := Nat.eq_of_beq_eq_true hb
    obtain ⟨o0, m0, hh4⟩ := mv_gR_some hh2
    obtain ⟨v1, m1, hh5⟩ := mv_gI_some hh4
    obtain ⟨v2, m2, hh6⟩ := mv_gI_some hh5
    obtain ⟨v3, m3, hh7⟩ := mv_gI_some hh6
    obtain ⟨rfl, hh8⟩ := mv_sE_some hh7
    exact (xN_prove_b28 1000 o0 v1 v2 v3 h hh8).sub (List.forall_mem_cons.mpr ⟨m0, (List.forall_mem_cons.mpr ⟨m1, (List.forall_mem_cons.mpr ⟨m2, (List.forall_mem_cons.mpr ⟨m3, (fun q hq => by cases hq)⟩)⟩)⟩)⟩)
  cases hh3

theorem mN_prove (o0 : Nat) (v1 : Int32) (v2 : Int32) (h : H2) (vs : List mv_V) (h' : H2) (hh : fN_prove o0 v1 v2 h = some (vs, h')) : mv_Met vw2 6 0 0 mdN_prove [Sum.inr (8, o0), Sum.inl (Value.int v1), Sum.inl (Value.int v2)] h vs h' :=
  mv_Met_of (by decide +kernel) (Nat.le_of_ble_eq_true rfl) (xN_prove o0 v1 v2 h hh)
set_option maxRecDepth 100000 in
theorem kN_isCell : mv_tok mdN_isCell nN_isCell tN_isCell = true := by decide +kernel
set_option maxRecDepth 100000 in
set_option maxHeartbeats 8000000 in
theorem eN_isCell (o0 : Nat) (v1 : Int32) (v2 : Int32) (h : H2) : mv_blk rI2 rR2 ln2 wI2 wR2 nw2 cp2 bod none tN_isCell gN_isCell 0 0 [] (fun _ _ _ _ _ _ => none) 400 (mv_seek 0 tN_isCell) [(0, Sum.inr (8, o0)), (1, Sum.inl (Value.int v1)), (2, Sum.inl (Value.int v2))] [] h 0 0 = (
  mv_rI (fN_in v1.toInt64 (lN 0) (((rI2 h 8 o0 12) - (nI 1)).toInt64) h) fun r2 h1 =>
  if r2 = 0 then (
    mv_gd (decide (nI 0 = nI 0) || decide (nI 0 = nI 1)) <| some ([Sum.inl (Value.int (nI 0))], h1))
  else
  mv_rI (fN_in v2.toInt64 (lN 0) (lN 2) h1) fun r4 h3 =>
  if r4 = 0 then (
    mv_gd (decide (nI 0 = nI 0) || decide (nI 0 = nI 1)) <| some ([Sum.inl (Value.int (nI 0))], h3))
  else
  mv_gd (decide (nI 1 = nI 0) || decide (nI 1 = nI 1)) <| some ([Sum.inl (Value.int (nI 1))], h3)) := rfl
theorem GN_isCell : ∀ (j : Nat) (C : mv_C H2) (md' : mv_MD × Bool), mv_nth j gN_isCell = some C → mv_nth j nN_isCell = some md' → ∃ n', n' + 1 ≤ 2 ∧ mv_Cal vw2 n' md' C := fun j C md' => match j with
  | 0, h1, h2 => by
    obtain rfl := Option.some.inj h1
    obtain rfl := Option.some.inj h2
    exact ⟨1, by decide, cN_in_ok⟩
  | _ + 1, h1, _ => by cases h1

set_option maxRecDepth 20000 in
theorem xN_isCell {g0 : mv_G} {res : List mv_V × H2} (o0 : Nat) (v1 : Int32) (v2 : Int32) (h : H2) (hh : fN_isCell o0 v1 v2 h = some res) : mv_X vw2 mdN_isCell 2 0 0 none g0 res 0 [(0, Sum.inr (8, o0)), (1, Sum.inl (Value.int v1)), (2, Sum.inl (Value.int v2))] [] h 0 0 := by
  refine mv_blkX ax2 (GN_isCell) (by decide) kN_isCell (fun pc lv st h ce sl hh => ?_) ((eN_isCell  o0 v1 v2 h).trans hh)
  cases hh

theorem mN_isCell (o0 : Nat) (v1 : Int32) (v2 : Int32) (h : H2) (vs : List mv_V) (h' : H2) (hh : fN_isCell o0 v1 v2 h = some (vs, h')) : mv_Met vw2 2 0 0 mdN_isCell [Sum.inr (8, o0), Sum.inl (Value.int v1), Sum.inl (Value.int v2)] h vs h' :=
  mv_Met_of (by decide +kernel) (Nat.le_of_ble_eq_true rfl) (xN_isCell o0 v1 v2 h hh)
theorem cN_isCell_ok : mv_Cal vw2 2 (mdN_isCell, true) ((0, 0), cN_isCell) := by
  intro as h k res hh
  change cN_isCell as h k = some res at hh
  unfold cN_isCell at hh
  split at hh
  · obtain ⟨hg0, ha0⟩ := mv_gd_some hh
    obtain rfl := Nat.eq_of_beq_eq_true hg0
    obtain ⟨x, h', h1, h9⟩ := mv_rI_some ha0
    exact ⟨_, _, h9, by decide, fun _ => ⟨_, _, _, rfl, Or.inl ⟨by decide, rfl⟩⟩, (mN_isCell _ _ _ h _ _ h1)⟩
  · cases hh

