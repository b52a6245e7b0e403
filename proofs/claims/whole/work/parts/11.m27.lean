set_option maxRecDepth 100000 in
theorem kN_shelf : mv_tok mdN_shelf nN_shelf tN_shelf = true := by decide +kernel
def cN_isClothG_N_shelf (F1 : Nat → Int32 → H2 → O2) : List mv_V → H2 → (List mv_V → H2 → O2) → O2 := fun as h k => match as with
  | [.inr (t0, o0), .inl (.int v1)] => mv_gd (Nat.beq t0 8) <| mv_rI (F1 o0 v1 h) fun x h => k [.inl (.int x)] h
  | _ => none
def cN_isFourG_N_shelf (F2 : Int32 → H2 → O2) : List mv_V → H2 → (List mv_V → H2 → O2) → O2 := fun as h k => match as with
  | [.inl (.int v0)] => mv_rI (F2 v0 h) fun x h => k [.inl (.int x)] h
  | _ => none
set_option maxRecDepth 100000 in
set_option maxHeartbeats 1000000 in
theorem eN_shelf_b107_g (F1 : Nat → Int32 → H2 → O2) (F2 : Int32 → H2 → O2) (o0 : Nat) (v1 : Int32) (v3 : Int32) (v5 : Int32) (os0 : Nat) (vs1 : Int32) (vs2 : Int32) (h : H2) : mv_blk rI2 rR2 ln2 wI2 wR2 nw2 cp2 bod none tN_shelf [((0, 0), cN_isClothG_N_shelf F1), ((0, 0), cN_isFourG_N_shelf F2)] 0 0 [] (fun _ _ _ _ _ _ => none) 400 (mv_seek 107 tN_shelf) [(0, Sum.inr (8, o0)), (1, Sum.inl (Value.int v1)), (3, Sum.inl (Value.int v3)), (5, Sum.inl (Value.int v5))] [Sum.inl (Value.int vs2), Sum.inl (Value.int vs1), Sum.inr (917, os0)] h 0 0 = (
  mv_gd (mv_inb vs1 4) <|
  mv_bh (wI2 h 917 os0 vs1.toNatClampNeg vs2) fun h1 =>
  if v5 = 0 then (
    mv_gd (mv_inb v1 4) <|
    mv_bh (wI2 h1 918 o0 v1.toNatClampNeg (nI 0)) fun h2 =>
    some ([Sum.inl (Value.int (nI 1))], h2))
  else
  mv_gd (mv_inb v3 4) <|
  mv_gd (mv_inb v1 4) <|
  mv_bh (wI2 h1 918 o0 v1.toNatClampNeg (rI2 h1 914 o0 v3.toNatClampNeg)) fun h3 =>
  some ([Sum.inl (Value.int (nI 1))], h3)) := rfl
theorem eN_shelf_b107 (o0 : Nat) (v1 : Int32) (v3 : Int32) (v5 : Int32) (os0 : Nat) (vs1 : Int32) (vs2 : Int32) (h : H2) : mv_blk rI2 rR2 ln2 wI2 wR2 nw2 cp2 bod none tN_shelf gN_shelf 0 0 [] (fun _ _ _ _ _ _ => none) 400 (mv_seek 107 tN_shelf) [(0, Sum.inr (8, o0)), (1, Sum.inl (Value.int v1)), (3, Sum.inl (Value.int v3)), (5, Sum.inl (Value.int v5))] [Sum.inl (Value.int vs2), Sum.inl (Value.int vs1), Sum.inr (917, os0)] h 0 0 = (
  mv_gd (mv_inb vs1 4) <|
  mv_bh (wI2 h 917 os0 vs1.toNatClampNeg vs2) fun h1 =>
  if v5 = 0 then (
    mv_gd (mv_inb v1 4) <|
    mv_bh (wI2 h1 918 o0 v1.toNatClampNeg (nI 0)) fun h2 =>
    some ([Sum.inl (Value.int (nI 1))], h2))
  else
  mv_gd (mv_inb v3 4) <|
  mv_gd (mv_inb v1 4) <|
  mv_bh (wI2 h1 918 o0 v1.toNatClampNeg (rI2 h1 914 o0 v3.toNatClampNeg)) fun h3 =>
  some ([Sum.inl (Value.int (nI 1))], h3)) := eN_shelf_b107_g fN_isCloth fN_isFour o0 v1 v3 v5 os0 vs1 vs2 h
set_option maxRecDepth 100000 in
set_option maxHeartbeats 1000000 in
theorem eN_shelf_b60_g (F1 : Nat → Int32 → H2 → O2) (F2 : Int32 → H2 → O2) (q107 : Nat → Int32 → Int32 → Int32 → Nat → Int32 → Int32 → H2 → O2) (o0 : Nat) (v1 : Int32) (v2 : Int32) (v3 : Int32) (vs0 : Int32) (h : H2) : mv_blk rI2 rR2 ln2 wI2 wR2 nw2 cp2 bod none tN_shelf [((0, 0), cN_isClothG_N_shelf F1), ((0, 0), cN_isFourG_N_shelf F2)] 0 0 [107] (fun pc lv st h ce sl => mv_gd (Nat.beq ce 0 && Nat.beq sl 0) (cond (Nat.beq pc 107) (mv_gR 0 8 lv fun o0 => mv_gI 1 lv fun v1 => mv_gI 3 lv fun v3 => mv_gI 5 lv fun v5 => mv_sI st fun vs2 st => mv_sI st fun vs1 st => mv_sR 917 st fun os0 st => mv_sE st (q107 o0 v1 v3 v5 os0 vs1 vs2 h)) (none))) 400 (mv_seek 60 tN_shelf) [(0, Sum.inr (8, o0)), (1, Sum.inl (Value.int v1)), (2, Sum.inl (Value.int v2)), (3, Sum.inl (Value.int v3))] [Sum.inl (Value.int vs0)] h 0 0 = (
  mv_bi vs0 fun x1 =>
  if x1 = 0 then (
    mv_gd (mv_inb v1 4) <|
    mv_bh (wI2 h 916 o0 v1.toNatClampNeg v2) fun h2 =>
    if x1 = 0 then (
      q107 o0 v1 v3 x1 o0 v1 v3 h2)
    else
    mv_gd (mv_inb v3 4) <|
    q107 o0 v1 v3 x1 o0 v1 (rI2 h2 913 o0 v3.toNatClampNeg) h2)
  else
  mv_gd (mv_inb v3 4) <|
  if 0 ≤ (rI2 h 913 o0 v3.toNatClampNeg) then (
    mv_gd (mv_inb v1 4) <|
    mv_bh (wI2 h 916 o0 v1.toNatClampNeg v2) fun h3 =>
    if x1 = 0 then (
      q107 o0 v1 v3 x1 o0 v1 v3 h3)
    else
    mv_gd (mv_inb v3 4) <|
    q107 o0 v1 v3 x1 o0 v1 (rI2 h3 913 o0 v3.toNatClampNeg) h3)
  else
  mv_gd (mv_inb v1 4) <|
  mv_bh (wI2 h 916 o0 v1.toNatClampNeg (nI 2)) fun h4 =>
  if x1 = 0 then (
    q107 o0 v1 v3 x1 o0 v1 v3 h4)
  else
  mv_gd (mv_inb v3 4) <|
  q107 o0 v1 v3 x1 o0 v1 (rI2 h4 913 o0 v3.toNatClampNeg) h4) := rfl
theorem eN_shelf_b60 (q107 : Nat → Int32 → Int32 → Int32 → Nat → Int32 → Int32 → H2 → O2) (o0 : Nat) (v1 : Int32) (v2 : Int32) (v3 : Int32) (vs0 : Int32) (h : H2) : mv_blk rI2 rR2 ln2 wI2 wR2 nw2 cp2 bod none tN_shelf gN_shelf 0 0 [107] (fun pc lv st h ce sl => mv_gd (Nat.beq ce 0 && Nat.beq sl 0) (cond (Nat.beq pc 107) (mv_gR 0 8 lv fun o0 => mv_gI 1 lv fun v1 => mv_gI 3 lv fun v3 => mv_gI 5 lv fun v5 => mv_sI st fun vs2 st => mv_sI st fun vs1 st => mv_sR 917 st fun os0 st => mv_sE st (q107 o0 v1 v3 v5 os0 vs1 vs2 h)) (none))) 400 (mv_seek 60 tN_shelf) [(0, Sum.inr (8, o0)), (1, Sum.inl (Value.int v1)), (2, Sum.inl (Value.int v2)), (3, Sum.inl (Value.int v3))] [Sum.inl (Value.int vs0)] h 0 0 = (
  mv_bi vs0 fun x1 =>
  if x1 = 0 then (
    mv_gd (mv_inb v1 4) <|
    mv_bh (wI2 h 916 o0 v1.toNatClampNeg v2) fun h2 =>
    if x1 = 0 then (
      q107 o0 v1 v3 x1 o0 v1 v3 h2)
    else
    mv_gd (mv_inb v3 4) <|
    q107 o0 v1 v3 x1 o0 v1 (rI2 h2 913 o0 v3.toNatClampNeg) h2)
  else
  mv_gd (mv_inb v3 4) <|
  if 0 ≤ (rI2 h 913 o0 v3.toNatClampNeg) then (
    mv_gd (mv_inb v1 4) <|
    mv_bh (wI2 h 916 o0 v1.toNatClampNeg v2) fun h3 =>
    if x1 = 0 then (
      q107 o0 v1 v3 x1 o0 v1 v3 h3)
    else
    mv_gd (mv_inb v3 4) <|
    q107 o0 v1 v3 x1 o0 v1 (rI2 h3 913 o0 v3.toNatClampNeg) h3)
  else
  mv_gd (mv_inb v1 4) <|
  mv_bh (wI2 h 916 o0 v1.toNatClampNeg (nI 2)) fun h4 =>
  if x1 = 0 then (
    q107 o0 v1 v3 x1 o0 v1 v3 h4)
  else
  mv_gd (mv_inb v3 4) <|
  q107 o0 v1 v3 x1 o0 v1 (rI2 h4 913 o0 v3.toNatClampNeg) h4) := eN_shelf_b60_g fN_isCloth fN_isFour q107 o0 v1 v2 v3 vs0 h
set_option maxRecDepth 100000 in
set_option maxHeartbeats 1000000 in
theorem eN_shelf_b34_g (F1 : Nat → Int32 → H2 → O2) (F2 : Int32 → H2 → O2) (q60 : Nat → Int32 → Int32 → Int32 → Int32 → H2 → O2) (o0 : Nat) (v1 : Int32) (v2 : Int32) (v3 : Int32) (vs0 : Int32) (h : H2) : mv_blk rI2 rR2 ln2 wI2 wR2 nw2 cp2 bod none tN_shelf [((0, 0), cN_isClothG_N_shelf F1), ((0, 0), cN_isFourG_N_shelf F2)] 0 0 [60] (fun pc lv st h ce sl => mv_gd (Nat.beq ce 0 && Nat.beq sl 0) (cond (Nat.beq pc 60) (mv_gR 0 8 lv fun o0 => mv_gI 1 lv fun v1 => mv_gI 2 lv fun v2 => mv_gI 3 lv fun v3 => mv_sI st fun vs0 st => mv_sE st (q60 o0 v1 v2 v3 vs0 h)) (none))) 400 (mv_seek 34 tN_shelf) [(0, Sum.inr (8, o0)), (1, Sum.inl (Value.int v1)), (2, Sum.inl (Value.int v2)), (3, Sum.inl (Value.int v3))] [Sum.inl (Value.int vs0)] h 0 0 = (
  mv_bi vs0 fun x1 =>
  mv_rI (F2 v1 h) fun r3 h2 =>
  if r3 = 0 then (
    some ([Sum.inl (Value.int (-(nI 1)))], h2))
  else
  if x1 = 0 then (
    some ([Sum.inl (Value.int (-(nI 1)))], h2))
  else
  if v2 = (nI 1) then (
    q60 o0 v1 v2 v3 (nI 1) h2)
  else
  q60 o0 v1 v2 v3 (nI 0) h2) := rfl
theorem eN_shelf_b34 (q60 : Nat → Int32 → Int32 → Int32 → Int32 → H2 → O2) (o0 : Nat) (v1 : Int32) (v2 : Int32) (v3 : Int32) (vs0 : Int32) (h : H2) : mv_blk rI2 rR2 ln2 wI2 wR2 nw2 cp2 bod none tN_shelf gN_shelf 0 0 [60] (fun pc lv st h ce sl => mv_gd (Nat.beq ce 0 && Nat.beq sl 0) (cond (Nat.beq pc 60) (mv_gR 0 8 lv fun o0 => mv_gI 1 lv fun v1 => mv_gI 2 lv fun v2 => mv_gI 3 lv fun v3 => mv_sI st fun vs0 st => mv_sE st (q60 o0 v1 v2 v3 vs0 h)) (none))) 400 (mv_seek 34 tN_shelf) [(0, Sum.inr (8, o0)), (1, Sum.inl (Value.int v1)), (2, Sum.inl (Value.int v2)), (3, Sum.inl (Value.int v3))] [Sum.inl (Value.int vs0)] h 0 0 = (
  mv_bi vs0 fun x1 =>
  mv_rI (fN_isFour v1 h) fun r3 h2 =>
  if r3 = 0 then (
    some ([Sum.inl (Value.int (-(nI 1)))], h2))
  else
  if x1 = 0 then (
    some ([Sum.inl (Value.int (-(nI 1)))], h2))
  else
  if v2 = (nI 1) then (
    q60 o0 v1 v2 v3 (nI 1) h2)
  else
  q60 o0 v1 v2 v3 (nI 0) h2) := eN_shelf_b34_g fN_isCloth fN_isFour q60 o0 v1 v2 v3 vs0 h
set_option maxRecDepth 100000 in
set_option maxHeartbeats 1000000 in
theorem eN_shelf_g (F1 : Nat → Int32 → H2 → O2) (F2 : Int32 → H2 → O2) (q34 : Nat → Int32 → Int32 → Int32 → Int32 → H2 → O2) (o0 : Nat) (v1 : Int32) (v2 : Int32) (v3 : Int32) (h : H2) : mv_blk rI2 rR2 ln2 wI2 wR2 nw2 cp2 bod none tN_shelf [((0, 0), cN_isClothG_N_shelf F1), ((0, 0), cN_isFourG_N_shelf F2)] 0 0 [34] (fun pc lv st h ce sl => mv_gd (Nat.beq ce 0 && Nat.beq sl 0) (cond (Nat.beq pc 34) (mv_gR 0 8 lv fun o0 => mv_gI 1 lv fun v1 => mv_gI 2 lv fun v2 => mv_gI 3 lv fun v3 => mv_sI st fun vs0 st => mv_sE st (q34 o0 v1 v2 v3 vs0 h)) (none))) 400 (mv_seek 0 tN_shelf) [(0, Sum.inr (8, o0)), (1, Sum.inl (Value.int v1)), (2, Sum.inl (Value.int v2)), (3, Sum.inl (Value.int v3))] [] h 0 0 = (
  if v2 = 0 then (
    mv_rI (F1 o0 v3 h) fun r2 h1 =>
    q34 o0 v1 v2 v3 r2 h1)
  else
  if v2 = (nI 1) then (
    mv_rI (F2 v3 h) fun r4 h3 =>
    q34 o0 v1 v2 v3 r4 h3)
  else
  if v2 = (nI 2) then (
    q34 o0 v1 v2 v3 (nI 1) h)
  else
  q34 o0 v1 v2 v3 (nI 0) h) := rfl
theorem eN_shelf (q34 : Nat → Int32 → Int32 → Int32 → Int32 → H2 → O2) (o0 : Nat) (v1 : Int32) (v2 : Int32) (v3 : Int32) (h : H2) : mv_blk rI2 rR2 ln2 wI2 wR2 nw2 cp2 bod none tN_shelf gN_shelf 0 0 [34] (fun pc lv st h ce sl => mv_gd (Nat.beq ce 0 && Nat.beq sl 0) (cond (Nat.beq pc 34) (mv_gR 0 8 lv fun o0 => mv_gI 1 lv fun v1 => mv_gI 2 lv fun v2 => mv_gI 3 lv fun v3 => mv_sI st fun vs0 st => mv_sE st (q34 o0 v1 v2 v3 vs0 h)) (none))) 400 (mv_seek 0 tN_shelf) [(0, Sum.inr (8, o0)), (1, Sum.inl (Value.int v1)), (2, Sum.inl (Value.int v2)), (3, Sum.inl (Value.int v3))] [] h 0 0 = (
  if v2 = 0 then (
    mv_rI (fN_isCloth o0 v3 h) fun r2 h1 =>
    q34 o0 v1 v2 v3 r2 h1)
  else
  if v2 = (nI 1) then (
    mv_rI (fN_isFour v3 h) fun r4 h3 =>
    q34 o0 v1 v2 v3 r4 h3)
  else
  if v2 = (nI 2) then (
    q34 o0 v1 v2 v3 (nI 1) h)
  else
  q34 o0 v1 v2 v3 (nI 0) h) := eN_shelf_g fN_isCloth fN_isFour q34 o0 v1 v2 v3 h
theorem GN_shelf : ∀ (j : Nat) (C : mv_C H2) (md' : mv_MD × Bool), mv_nth j gN_shelf = some C → mv_nth j nN_shelf = some md' → ∃ n', n' + 1 ≤ 3 ∧ mv_Cal vw2 n' md' C := fun j C md' => match j with
  | 0 => fun h1 h2 => by
    obtain rfl := Option.some.inj h1
    obtain rfl := Option.some.inj h2
    exact ⟨2, by decide, cN_isCloth_ok⟩
  | 1 => fun h1 h2 => by
    obtain rfl := Option.some.inj h1
    obtain rfl := Option.some.inj h2
    exact ⟨2, by decide, cN_isFour_ok⟩
  | jj + 2 => fun h1 _ => by cases jj <;> cases h1

set_option maxRecDepth 20000 in
theorem xN_shelf_b107 {g0 : mv_G} {res : List mv_V × H2} (o0 : Nat) (v1 : Int32) (v3 : Int32) (v5 : Int32) (os0 : Nat) (vs1 : Int32) (vs2 : Int32) (h : H2) (hh : fN_shelf_b107 o0 v1 v3 v5 os0 vs1 vs2 h = some res) : mv_X vw2 mdN_shelf 3 0 0 none g0 res 107 [(0, Sum.inr (8, o0)), (1, Sum.inl (Value.int v1)), (3, Sum.inl (Value.int v3)), (5, Sum.inl (Value.int v5))] [Sum.inl (Value.int vs2), Sum.inl (Value.int vs1), Sum.inr (917, os0)] h 0 0 := by
  refine mv_blkX ax2 (GN_shelf) (by decide) kN_shelf (fun pc lv st h ce sl hh => ?_) ((eN_shelf_b107  o0 v1 v3 v5 os0 vs1 vs2 h).trans hh)
  cases hh

set_option maxRecDepth 20000 in
theorem xN_shelf_b60 {g0 : mv_G} {res : List mv_V × H2} (o0 : Nat) (v1 : Int32) (v2 : Int32) (v3 : Int32) (vs0 : Int32) (h : H2) (hh : fN_shelf_b60 o0 v1 v2 v3 vs0 h = some res) : mv_X vw2 mdN_shelf 3 0 0 none g0 res 60 [(0, Sum.inr (8, o0)), (1, Sum.inl (Value.int v1)), (2, Sum.inl (Value.int v2)), (3, Sum.inl (Value.int v3))] [Sum.inl (Value.int vs0)] h 0 0 := by
  refine mv_blkX ax2 (GN_shelf) (by decide) kN_shelf (fun pc lv st h ce sl hh => ?_) ((eN_shelf_b60 (fN_shelf_b107) o0 v1 v2 v3 vs0 h).trans hh)
  obtain ⟨hg, hh1⟩ := mv_gd_some hh
  obtain ⟨rfl, rfl⟩ := mv_z2 hg
  rcases mv_cond_some hh1 with ⟨hb, hh2⟩ | ⟨hb, hh3⟩
  · obtain rfl := Nat.eq_of_beq_eq_true hb
    obtain ⟨o0, m0, hh4⟩ := mv_gR_some hh2
    obtain ⟨v1, m1, hh5⟩ := mv_gI_some hh4
    obtain ⟨v3, m2, hh6⟩ := mv_gI_some hh5
    obtain ⟨v5, m3, hh7⟩ := mv_gI_some hh6
    obtain ⟨vs2, sthh8, rfl, hh8⟩ := mv_sI_some hh7
    obtain ⟨vs1, sthh9, rfl, hh9⟩ := mv_sI_some hh8
    obtain ⟨os0, sthh10, rfl, hh10⟩ := mv_sR_some hh9
    obtain ⟨rfl, hh11⟩ := mv_sE_some hh10
    exact (xN_shelf_b107  o0 v1 v3 v5 os0 vs1 vs2 h hh11).sub (List.forall_mem_cons.mpr ⟨m0, (List.forall_mem_cons.mpr ⟨m1, (List.forall_mem_cons.mpr ⟨m2, (List.forall_mem_cons.mpr ⟨m3, (fun q hq => by cases hq)⟩)⟩)⟩)⟩)
  cases hh3

set_option maxRecDepth 20000 in
theorem xN_shelf_b34 {g0 : mv_G} {res : List mv_V × H2} (o0 : Nat) (v1 : Int32) (v2 : Int32) (v3 : Int32) (vs0 : Int32) (h : H2) (hh : fN_shelf_b34 o0 v1 v2 v3 vs0 h = some res) : mv_X vw2 mdN_shelf 3 0 0 none g0 res 34 [(0, Sum.inr (8, o0)), (1, Sum.inl (Value.int v1)), (2, Sum.inl (Value.int v2)), (3, Sum.inl (Value.int v3))] [Sum.inl (Value.int vs0)] h 0 0 := by
  refine mv_blkX ax2 (GN_shelf) (by decide) kN_shelf (fun pc lv st h ce sl hh => ?_) ((eN_shelf_b34 (fN_shelf_b60) o0 v1 v2 v3 vs0 h).trans hh)
  obtain ⟨hg, hh1⟩ := mv_gd_some hh
  obtain ⟨rfl, rfl⟩ := mv_z2 hg
  rcases mv_cond_some hh1 with ⟨hb, hh2⟩ | ⟨hb, hh3⟩
  · obtain rfl := Nat.eq_of_beq_eq_true hb
    obtain ⟨o0, m0, hh4⟩ := mv_gR_some hh2
    obtain ⟨v1, m1, hh5⟩ := mv_gI_some hh4
    obtain ⟨v2, m2, hh6⟩ := mv_gI_some hh5
    obtain ⟨v3, m3, hh7⟩ := mv_gI_some hh6
    obtain ⟨vs0, sthh8, rfl, hh8⟩ := mv_sI_some hh7
    obtain ⟨rfl, hh9⟩ := mv_sE_some hh8
    exact (xN_shelf_b60  o0 v1 v2 v3 vs0 h hh9).sub (List.forall_mem_cons.mpr ⟨m0, (List.forall_mem_cons.mpr ⟨m1, (List.forall_mem_cons.mpr ⟨m2, (List.forall_mem_cons.mpr ⟨m3, (fun q hq => by cases hq)⟩)⟩)⟩)⟩)
  cases hh3

set_option maxRecDepth 20000 in
theorem xN_shelf {g0 : mv_G} {res : List mv_V × H2} (o0 : Nat) (v1 : Int32) (v2 : Int32) (v3 : Int32) (h : H2) (hh : fN_shelf o0 v1 v2 v3 h = some res) : mv_X vw2 mdN_shelf 3 0 0 none g0 res 0 [(0, Sum.inr (8, o0)), (1, Sum.inl (Value.int v1)), (2, Sum.inl (Value.int v2)), (3, Sum.inl (Value.int v3))] [] h 0 0 := by
  refine mv_blkX ax2 (GN_shelf) (by decide) kN_shelf (fun pc lv st h ce sl hh => ?_) ((eN_shelf (fN_shelf_b34) o0 v1 v2 v3 h).trans hh)
  obtain ⟨hg, hh1⟩ := mv_gd_some hh
  obtain ⟨rfl, rfl⟩ := mv_z2 hg
  rcases mv_cond_some hh1 with ⟨hb, hh2⟩ | ⟨hb, hh3⟩
  · obtain rfl := Nat.eq_of_beq_eq_true hb
    obtain ⟨o0, m0, hh4⟩ := mv_gR_some hh2
    obtain ⟨v1, m1, hh5⟩ := mv_gI_some hh4
    obtain ⟨v2, m2, hh6⟩ := mv_gI_some hh5
    obtain ⟨v3, m3, hh7⟩ := mv_gI_some hh6
    obtain ⟨vs0, sthh8, rfl, hh8⟩ := mv_sI_some hh7
    obtain ⟨rfl, hh9⟩ := mv_sE_some hh8
    exact (xN_shelf_b34  o0 v1 v2 v3 vs0 h hh9).sub (List.forall_mem_cons.mpr ⟨m0, (List.forall_mem_cons.mpr ⟨m1, (List.forall_mem_cons.mpr ⟨m2, (List.forall_mem_cons.mpr ⟨m3, (fun q hq => by cases hq)⟩)⟩)⟩)⟩)
  cases hh3

theorem mN_shelf (o0 : Nat) (v1 : Int32) (v2 : Int32) (v3 : Int32) (h : H2) (vs : List mv_V) (h' : H2) (hh : fN_shelf o0 v1 v2 v3 h = some (vs, h')) : mv_Met vw2 3 0 0 mdN_shelf [Sum.inr (8, o0), Sum.inl (Value.int v1), Sum.inl (Value.int v2), Sum.inl (Value.int v3)] h vs h' :=
  mv_Met_of (by decide +kernel) (Nat.le_of_ble_eq_true rfl) (xN_shelf o0 v1 v2 v3 h hh)
set_option maxRecDepth 100000 in
theorem kN_isHeld : mv_tok mdN_isHeld nN_isHeld tN_isHeld = true := by decide +kernel
def cN_isClothG_N_isHeld (F1 : Nat → Int32 → H2 → O2) : List mv_V → H2 → (List mv_V → H2 → O2) → O2 := fun as h k => match as with
  | [.inr (t0, o0), .inl (.int v1)] => mv_gd (Nat.beq t0 8) <| mv_rI (F1 o0 v1 h) fun x h => k [.inl (.int x)] h
  | _ => none
set_option maxRecDepth 100000 in
set_option maxHeartbeats 1000000 in
theorem eN_isHeld_g (F1 : Nat → Int32 → H2 → O2) (o0 : Nat) (v1 : Int32) (h : H2) : mv_blk rI2 rR2 ln2 wI2 wR2 nw2 cp2 bod none tN_isHeld [((0, 0), cN_isClothG_N_isHeld F1)] 0 0 [] (fun _ _ _ _ _ _ => none) 400 (mv_seek 0 tN_isHeld) [(0, Sum.inr (8, o0)), (1, Sum.inl (Value.int v1))] [] h 0 0 = (
  mv_gd (mv_inb v1 4) <|
  if (rI2 h 916 o0 v1.toNatClampNeg) = 0 then (
    mv_gd (mv_inb v1 4) <|
    mv_rI (F1 o0 (rI2 h 917 o0 v1.toNatClampNeg) h) fun r2 h1 =>
    if r2 = 0 then (
      mv_gd (decide (nI 0 = nI 0) || decide (nI 0 = nI 1)) <| some ([Sum.inl (Value.int (nI 0))], h1))
    else
    mv_gd (decide (nI 1 = nI 0) || decide (nI 1 = nI 1)) <| some ([Sum.inl (Value.int (nI 1))], h1))
  else
  mv_gd (decide (nI 0 = nI 0) || decide (nI 0 = nI 1)) <| some ([Sum.inl (Value.int (nI 0))], h)) := rfl
theorem eN_isHeld (o0 : Nat) (v1 : Int32) (h : H2) : mv_blk rI2 rR2 ln2 wI2 wR2 nw2 cp2 bod none tN_isHeld gN_isHeld 0 0 [] (fun _ _ _ _ _ _ => none) 400 (mv_seek 0 tN_isHeld) [(0, Sum.inr (8, o0)), (1, Sum.inl (Value.int v1))] [] h 0 0 = (
  mv_gd (mv_inb v1 4) <|
  if (rI2 h 916 o0 v1.toNatClampNeg) = 0 then (
    mv_gd (mv_inb v1 4) <|
    mv_rI (fN_isCloth o0 (rI2 h 917 o0 v1.toNatClampNeg) h) fun r2 h1 =>
    if r2 = 0 then (
      mv_gd (decide (nI 0 = nI 0) || decide (nI 0 = nI 1)) <| some ([Sum.inl (Value.int (nI 0))], h1))
    else
    mv_gd (decide (nI 1 = nI 0) || decide (nI 1 = nI 1)) <| some ([Sum.inl (Value.int (nI 1))], h1))
  else
  mv_gd (decide (nI 0 = nI 0) || decide (nI 0 = nI 1)) <| some ([Sum.inl (Value.int (nI 0))], h)) := eN_isHeld_g fN_isCloth o0 v1 h
theorem GN_isHeld : ∀ (j : Nat) (C : mv_C H2) (md' : mv_MD × Bool), mv_nth j gN_isHeld = some C → mv_nth j nN_isHeld = some md' → ∃ n', n' + 1 ≤ 3 ∧ mv_Cal vw2 n' md' C := fun j C md' => match j with
  | 0 => fun h1 h2 => by
    obtain rfl := Option.some.inj h1
    obtain rfl := Option.some.inj h2
    exact ⟨2, by decide, cN_isCloth_ok⟩
  | jj + 1 => fun h1 _ => by cases jj <;> cases h1

set_option maxRecDepth 20000 in
theorem xN_isHeld {g0 : mv_G} {res : List mv_V × H2} (o0 : Nat) (v1 : Int32) (h : H2) (hh : fN_isHeld o0 v1 h = some res) : mv_X vw2 mdN_isHeld 3 0 0 none g0 res 0 [(0, Sum.inr (8, o0)), (1, Sum.inl (Value.int v1))] [] h 0 0 := by
  refine mv_blkX ax2 (GN_isHeld) (by decide) kN_isHeld (fun pc lv st h ce sl hh => ?_) ((eN_isHeld  o0 v1 h).trans hh)
  cases hh

theorem mN_isHeld (o0 : Nat) (v1 : Int32) (h : H2) (vs : List mv_V) (h' : H2) (hh : fN_isHeld o0 v1 h = some (vs, h')) : mv_Met vw2 3 0 0 mdN_isHeld [Sum.inr (8, o0), Sum.inl (Value.int v1)] h vs h' :=
  mv_Met_of (by decide +kernel) (Nat.le_of_ble_eq_true rfl) (xN_isHeld o0 v1 h hh)
theorem cN_isHeld_ok : mv_Cal vw2 3 (mdN_isHeld, true) ((0, 0), cN_isHeld) := by
  intro as h k res hh
  change cN_isHeld as h k = some res at hh
  unfold cN_isHeld at hh
  split at hh
  · obtain ⟨hg0, ha0⟩ := mv_gd_some hh
    obtain rfl := Nat.eq_of_beq_eq_true hg0
    obtain ⟨x, h', h1, h9⟩ := mv_rI_some ha0
    exact ⟨_, _, h9, (by first | decide | exact Nat.le_refl _ | exact Nat.zero_le _), fun _ => ⟨_, _, _, rfl, Or.inl ⟨by decide, rfl⟩⟩, (mN_isHeld _ _ h _ _ h1)⟩
  · cases hh

set_option maxRecDepth 100000 in
theorem kN_taken : mv_tok mdN_taken nN_taken tN_taken = true := by decide +kernel
def cN_inG_N_taken (F1 : Int64 → Int64 → Int64 → H2 → O2) : List mv_V → H2 → (List mv_V → H2 → O2) → O2 := fun as h k => match as with
  | [.inl (.long w0), .inl (.long w2), .inl (.long w4)] => mv_rI (F1 w0 w2 w4 h) fun x h => k [.inl (.int x)] h
  | _ => none
def cN_isFourG_N_taken (F2 : Int32 → H2 → O2) : List mv_V → H2 → (List mv_V → H2 → O2) → O2 := fun as h k => match as with
  | [.inl (.int v0)] => mv_rI (F2 v0 h) fun x h => k [.inl (.int x)] h
  | _ => none
def cN_isHeldG_N_taken (F3 : Nat → Int32 → H2 → O2) : List mv_V → H2 → (List mv_V → H2 → O2) → O2 := fun as h k => match as with
  | [.inr (t0, o0), .inl (.int v1)] => mv_gd (Nat.beq t0 8) <| mv_rI (F3 o0 v1 h) fun x h => k [.inl (.int x)] h
  | _ => none
def cN_isKindG_N_taken (F4 : Int32 → H2 → O2) : List mv_V → H2 → (List mv_V → H2 → O2) → O2 := fun as h k => match as with
  | [.inl (.int v0)] => mv_rI (F4 v0 h) fun x h => k [.inl (.int x)] h
  | _ => none
def cN_isUnderG_N_taken (F5 : Int32 → Int32 → H2 → O2) : List mv_V → H2 → (List mv_V → H2 → O2) → O2 := fun as h k => match as with
  | [.inl (.int v0), .inl (.int v1)] => mv_rI (F5 v0 v1 h) fun x h => k [.inl (.int x)] h
  | _ => none
def cN_itsG_N_taken (F6 : Nat → Int32 → Int32 → H2 → O2) : List mv_V → H2 → (List mv_V → H2 → O2) → O2 := fun as h k => match as with
  | [.inr (t0, o0), .inl (.int v1), .inl (.int v2)] => mv_gd (Nat.beq t0 8) <| mv_rI (F6 o0 v1 v2 h) fun x h => k [.inl (.int x)] h
  | _ => none
set_option maxRecDepth 100000 in
set_option maxHeartbeats 1000000 in
theorem eN_taken_b30_g (F1 : Int64 → Int64 → Int64 → H2 → O2) (F2 : Int32 → H2 → O2) (F3 : Nat → Int32 → H2 → O2) (F4 : Int32 → H2 → O2) (F5 : Int32 → Int32 → H2 → O2) (F6 : Nat → Int32 → Int32 → H2 → O2) (o0 : Nat) (v1 : Int32) (v2 : Int32) (h : H2) : mv_blk rI2 rR2 ln2 wI2 wR2 nw2 cp2 bod none tN_taken [((0, 0), cN_isFourG_N_taken F2), ((0, 0), cN_isKindG_N_taken F4), ((0, 0), cN_inG_N_taken F1), ((0, 0), cN_isHeldG_N_taken F3), ((0, 0), cN_itsG_N_taken F6), ((0, 0), cN_isUnderG_N_taken F5)] 0 0 [] (fun _ _ _ _ _ _ => none) 400 (mv_seek 30 tN_taken) [(0, Sum.inr (8, o0)), (1, Sum.inl (Value.int v1)), (2, Sum.inl (Value.int v2))] [] h 0 0 = (
  mv_gd (mv_inb v1 4) <|
  if (rI2 h 916 o0 v1.toNatClampNeg) = (nI 1) then (
    mv_gd (mv_inb v1 4) <|
    if (v2 - (nI 10)) = (rI2 h 917 o0 v1.toNatClampNeg) then (
      mv_gd (mv_inb v1 4) <|
      some ([Sum.inl (Value.int (rI2 h 918 o0 v1.toNatClampNeg))], h))
    else
    some ([Sum.inl (Value.int (-(nI 13)))], h))
  else
  mv_rI (F3 o0 v1 h) fun r2 h1 =>
  if r2 = 0 then (
    some ([Sum.inl (Value.int (-(nI 11)))], h1))
  else
  if (nI 10) ≤ v2 then (
    some ([Sum.inl (Value.int (-(nI 13)))], h1))
  else
  mv_gd (mv_inb v1 4) <|
  mv_rI (F6 o0 (rI2 h1 917 o0 v1.toNatClampNeg) (nI 0) h1) fun r4 h3 =>
  mv_rI (F5 r4 v2 h3) fun r6 h5 =>
  if r6 = 0 then (
    some ([Sum.inl (Value.int (-(nI 13)))], h5))
  else
  mv_gd (mv_inb v1 4) <|
  some ([Sum.inl (Value.int (rI2 h5 917 o0 v1.toNatClampNeg))], h5)) := rfl
theorem eN_taken_b30 (o0 : Nat) (v1 : Int32) (v2 : Int32) (h : H2) : mv_blk rI2 rR2 ln2 wI2 wR2 nw2 cp2 bod none tN_taken gN_taken 0 0 [] (fun _ _ _ _ _ _ => none) 400 (mv_seek 30 tN_taken) [(0, Sum.inr (8, o0)), (1, Sum.inl (Value.int v1)), (2, Sum.inl (Value.int v2))] [] h 0 0 = (
  mv_gd (mv_inb v1 4) <|
  if (rI2 h 916 o0 v1.toNatClampNeg) = (nI 1) then (
    mv_gd (mv_inb v1 4) <|
    if (v2 - (nI 10)) = (rI2 h 917 o0 v1.toNatClampNeg) then (
      mv_gd (mv_inb v1 4) <|
      some ([Sum.inl (Value.int (rI2 h 918 o0 v1.toNatClampNeg))], h))
    else
    some ([Sum.inl (Value.int (-(nI 13)))], h))
  else
  mv_rI (fN_isHeld o0 v1 h) fun r2 h1 =>
  if r2 = 0 then (
    some ([Sum.inl (Value.int (-(nI 11)))], h1))
  else
  if (nI 10) ≤ v2 then (
    some ([Sum.inl (Value.int (-(nI 13)))], h1))
  else
  mv_gd (mv_inb v1 4) <|
  mv_rI (fN_its o0 (rI2 h1 917 o0 v1.toNatClampNeg) (nI 0) h1) fun r4 h3 =>
  mv_rI (fN_isUnder r4 v2 h3) fun r6 h5 =>
  if r6 = 0 then (
    some ([Sum.inl (Value.int (-(nI 13)))], h5))
  else
  mv_gd (mv_inb v1 4) <|
  some ([Sum.inl (Value.int (rI2 h5 917 o0 v1.toNatClampNeg))], h5)) := eN_taken_b30_g fN_in fN_isFour fN_isHeld fN_isKind fN_isUnder fN_its o0 v1 v2 h
set_option maxRecDepth 100000 in
set_option maxHeartbeats 1000000 in
theorem eN_taken_g (F1 : Int64 → Int64 → Int64 → H2 → O2) (F2 : Int32 → H2 → O2) (F3 : Nat → Int32 → H2 → O2) (F4 : Int32 → H2 → O2) (F5 : Int32 → Int32 → H2 → O2) (F6 : Nat → Int32 → Int32 → H2 → O2) (q30 : Nat → Int32 → Int32 → H2 → O2) (o0 : Nat) (v1 : Int32) (v2 : Int32) (h : H2) : mv_blk rI2 rR2 ln2 wI2 wR2 nw2 cp2 bod none tN_taken [((0, 0), cN_isFourG_N_taken F2), ((0, 0), cN_isKindG_N_taken F4), ((0, 0), cN_inG_N_taken F1), ((0, 0), cN_isHeldG_N_taken F3), ((0, 0), cN_itsG_N_taken F6), ((0, 0), cN_isUnderG_N_taken F5)] 0 0 [30] (fun pc lv st h ce sl => mv_gd (Nat.beq ce 0 && Nat.beq sl 0) (cond (Nat.beq pc 30) (mv_gR 0 8 lv fun o0 => mv_gI 1 lv fun v1 => mv_gI 2 lv fun v2 => mv_sE st (q30 o0 v1 v2 h)) (none))) 400 (mv_seek 0 tN_taken) [(0, Sum.inr (8, o0)), (1, Sum.inl (Value.int v1)), (2, Sum.inl (Value.int v2))] [] h 0 0 = (
  mv_rI (F2 v1 h) fun r2 h1 =>
  if r2 = 0 then (
    some ([Sum.inl (Value.int (-(nI 1)))], h1))
  else
  mv_rI (F4 v2 h1) fun r4 h3 =>
  if r4 = 0 then (
    mv_rI (F1 v2.toInt64 (lN 10) (lN 13) h3) fun r6 h5 =>
    if r6 = 0 then (
      some ([Sum.inl (Value.int (-(nI 1)))], h5))
    else
    q30 o0 v1 v2 h5)
  else
  q30 o0 v1 v2 h3) := rfl
theorem eN_taken (q30 : Nat → Int32 → Int32 → H2 → O2) (o0 : Nat) (v1 : Int32) (v2 : Int32) (h : H2) : mv_blk rI2 rR2 ln2 wI2 wR2 nw2 cp2 bod none tN_taken gN_taken 0 0 [30] (fun pc lv st h ce sl => mv_gd (Nat.beq ce 0 && Nat.beq sl 0) (cond (Nat.beq pc 30) (mv_gR 0 8 lv fun o0 => mv_gI 1 lv fun v1 => mv_gI 2 lv fun v2 => mv_sE st (q30 o0 v1 v2 h)) (none))) 400 (mv_seek 0 tN_taken) [(0, Sum.inr (8, o0)), (1, Sum.inl (Value.int v1)), (2, Sum.inl (Value.int v2))] [] h 0 0 = (
  mv_rI (fN_isFour v1 h) fun r2 h1 =>
  if r2 = 0 then (
    some ([Sum.inl (Value.int (-(nI 1)))], h1))
  else
  mv_rI (fN_isKind v2 h1) fun r4 h3 =>
  if r4 = 0 then (
    mv_rI (fN_in v2.toInt64 (lN 10) (lN 13) h3) fun r6 h5 =>
    if r6 = 0 then (
      some ([Sum.inl (Value.int (-(nI 1)))], h5))
    else
    q30 o0 v1 v2 h5)
  else
  q30 o0 v1 v2 h3) := eN_taken_g fN_in fN_isFour fN_isHeld fN_isKind fN_isUnder fN_its q30 o0 v1 v2 h
theorem GN_taken : ∀ (j : Nat) (C : mv_C H2) (md' : mv_MD × Bool), mv_nth j gN_taken = some C → mv_nth j nN_taken = some md' → ∃ n', n' + 1 ≤ 4 ∧ mv_Cal vw2 n' md' C := fun j C md' => match j with
  | 0 => fun h1 h2 => by
    obtain rfl := Option.some.inj h1
    obtain rfl := Option.some.inj h2
    exact ⟨2, by decide, cN_isFour_ok⟩
  | 1 => fun h1 h2 => by
    obtain rfl := Option.some.inj h1
    obtain rfl := Option.some.inj h2
    exact ⟨2, by decide, cN_isKind_ok⟩
  | 2 => fun h1 h2 => by
    obtain rfl := Option.some.inj h1
    obtain rfl := Option.some.inj h2
    exact ⟨1, by decide, cN_in_ok⟩
  | 3 => fun h1 h2 => by
    obtain rfl := Option.some.inj h1
    obtain rfl := Option.some.inj h2
    exact ⟨3, by decide, cN_isHeld_ok⟩
  | 4 => fun h1 h2 => by
    obtain rfl := Option.some.inj h1
    obtain rfl := Option.some.inj h2
    exact ⟨1, by decide, cN_its_ok⟩
  | 5 => fun h1 h2 => by
    obtain rfl := Option.some.inj h1
    obtain rfl := Option.some.inj h2
    exact ⟨1, by decide, cN_isUnder_ok⟩
  | jj + 6 => fun h1 _ => by cases jj <;> cases h1

set_option maxRecDepth 20000 in
theorem xN_taken_b30 {g0 : mv_G} {res : List mv_V × H2} (o0 : Nat) (v1 : Int32) (v2 : Int32) (h : H2) (hh : fN_taken_b30 o0 v1 v2 h = some res) : mv_X vw2 mdN_taken 4 0 0 none g0 res 30 [(0, Sum.inr (8, o0)), (1, Sum.inl (Value.int v1)), (2, Sum.inl (Value.int v2))] [] h 0 0 := by
  refine mv_blkX ax2 (GN_taken) (by decide) kN_taken (fun pc lv st h ce sl hh => ?_) ((eN_taken_b30  o0 v1 v2 h).trans hh)
  cases hh

set_option maxRecDepth 20000 in
theorem xN_taken {g0 : mv_G} {res : List mv_V × H2} (o0 : Nat) (v1 : Int32) (v2 : Int32) (h : H2) (hh : fN_taken o0 v1 v2 h = some res) : mv_X vw2 mdN_taken 4 0 0 none g0 res 0 [(0, Sum.inr (8, o0)), (1, Sum.inl (Value.int v1)), (2, Sum.inl (Value.int v2))] [] h 0 0 := by
  refine mv_blkX ax2 (GN_taken) (by decide) kN_taken (fun pc lv st h ce sl hh => ?_) ((eN_taken (fN_taken_b30) o0 v1 v2 h).trans hh)
  obtain ⟨hg, hh1⟩ := mv_gd_some hh
  obtain ⟨rfl, rfl⟩ := mv_z2 hg
  rcases mv_cond_some hh1 with ⟨hb, hh2⟩ | ⟨hb, hh3⟩
  · obtain rfl := Nat.eq_of_beq_eq_true hb
    obtain ⟨o0, m0, hh4⟩ := mv_gR_some hh2
    obtain ⟨v1, m1, hh5⟩ := mv_gI_some hh4
    obtain ⟨v2, m2, hh6⟩ := mv_gI_some hh5
    obtain ⟨rfl, hh7⟩ := mv_sE_some hh6
    exact (xN_taken_b30  o0 v1 v2 h hh7).sub (List.forall_mem_cons.mpr ⟨m0, (List.forall_mem_cons.mpr ⟨m1, (List.forall_mem_cons.mpr ⟨m2, (fun q hq => by cases hq)⟩)⟩)⟩)
  cases hh3

theorem mN_taken (o0 : Nat) (v1 : Int32) (v2 : Int32) (h : H2) (vs : List mv_V) (h' : H2) (hh : fN_taken o0 v1 v2 h = some (vs, h')) : mv_Met vw2 4 0 0 mdN_taken [Sum.inr (8, o0), Sum.inl (Value.int v1), Sum.inl (Value.int v2)] h vs h' :=
  mv_Met_of (by decide +kernel) (Nat.le_of_ble_eq_true rfl) (xN_taken o0 v1 v2 h hh)
set_option maxRecDepth 100000 in
theorem kN_runs : mv_tok mdN_runs nN_runs tN_runs = true := by decide +kernel
set_option maxRecDepth 100000 in
set_option maxHeartbeats 1000000 in
theorem eN_runs (o0 : Nat) (v1 : Int32) (h : H2) : mv_blk rI2 rR2 ln2 wI2 wR2 nw2 cp2 bod none tN_runs gN_runs 0 0 [] (fun _ _ _ _ _ _ => none) 400 (mv_seek 0 tN_runs) [(0, Sum.inr (8, o0)), (1, Sum.inl (Value.int v1))] [] h 0 0 = (
  if (nI 30) ≤ (rI2 h 8 o0 20) then (
    some ([], h))
  else
  mv_gd (mv_inb (rI2 h 8 o0 20) 30) <|
  mv_bh (wI2 h 919 o0 (rI2 h 8 o0 20).toNatClampNeg v1) fun h1 =>
  mv_bh (wI2 h1 8 o0 20 ((rI2 h1 8 o0 20) + (nI 1))) fun h2 =>
  some ([], h2)) := rfl
theorem GN_runs : ∀ (j : Nat) (C : mv_C H2) (md' : mv_MD × Bool), mv_nth j gN_runs = some C → mv_nth j nN_runs = some md' → ∃ n', n' + 1 ≤ 1 ∧ mv_Cal vw2 n' md' C := fun j C md' h1 _ => by cases j <;> cases h1

set_option maxRecDepth 20000 in
theorem xN_runs {g0 : mv_G} {res : List mv_V × H2} (o0 : Nat) (v1 : Int32) (h : H2) (hh : fN_runs o0 v1 h = some res) : mv_X vw2 mdN_runs 1 0 0 none g0 res 0 [(0, Sum.inr (8, o0)), (1, Sum.inl (Value.int v1))] [] h 0 0 := by
  refine mv_blkX ax2 (GN_runs) (by decide) kN_runs (fun pc lv st h ce sl hh => ?_) ((eN_runs  o0 v1 h).trans hh)
  cases hh

theorem mN_runs (o0 : Nat) (v1 : Int32) (h : H2) (vs : List mv_V) (h' : H2) (hh : fN_runs o0 v1 h = some (vs, h')) : mv_Met vw2 1 0 0 mdN_runs [Sum.inr (8, o0), Sum.inl (Value.int v1)] h vs h' :=
  mv_Met_of (by decide +kernel) (Nat.le_of_ble_eq_true rfl) (xN_runs o0 v1 h hh)
theorem cN_runs_ok : mv_Cal vw2 1 (mdN_runs, true) ((0, 0), cN_runs) := by
  intro as h k res hh
  change cN_runs as h k = some res at hh
  unfold cN_runs at hh
  split at hh
  · obtain ⟨hg0, ha0⟩ := mv_gd_some hh
    obtain rfl := Nat.eq_of_beq_eq_true hg0
    obtain ⟨h', h1, h9⟩ := mv_rV_some ha0
    exact ⟨_, _, h9, (by first | decide | exact Nat.le_refl _ | exact Nat.zero_le _), fun _ => ⟨_, _, _, rfl, Or.inl ⟨by decide, rfl⟩⟩, (mN_runs _ _ h _ _ h1)⟩
  · cases hh

set_option maxRecDepth 100000 in
theorem kN_plainRubs : mv_tok mdN_plainRubs nN_plainRubs tN_plainRubs = true := by decide +kernel
def cN_runsG_N_plainRubs (F1 : Nat → Int32 → H2 → O2) : List mv_V → H2 → (List mv_V → H2 → O2) → O2 := fun as h k => match as with
  | [.inr (t0, o0), .inl (.int v1)] => mv_gd (Nat.beq t0 8) <| mv_rV (F1 o0 v1 h) fun h => k [] h
  | _ => none
set_option maxRecDepth 100000 in
set_option maxHeartbeats 1000000 in
theorem eN_plainRubs_g (F1 : Nat → Int32 → H2 → O2) (o0 : Nat) (v1 : Int32) (h : H2) : mv_blk rI2 rR2 ln2 wI2 wR2 nw2 cp2 bod none tN_plainRubs [((0, 0), cN_runsG_N_plainRubs F1)] 0 0 [] (fun _ _ _ _ _ _ => none) 400 (mv_seek 0 tN_plainRubs) [(0, Sum.inr (8, o0)), (1, Sum.inl (Value.int v1))] [] h 0 0 = (
  mv_rV (F1 o0 (nI 10) h) fun h1 =>
  some ([Sum.inl (Value.int ((v1 * (nI 5)) + (rI2 h1 8 o0 22)))], h1)) := rfl
theorem eN_plainRubs (o0 : Nat) (v1 : Int32) (h : H2) : mv_blk rI2 rR2 ln2 wI2 wR2 nw2 cp2 bod none tN_plainRubs gN_plainRubs 0 0 [] (fun _ _ _ _ _ _ => none) 400 (mv_seek 0 tN_plainRubs) [(0, Sum.inr (8, o0)), (1, Sum.inl (Value.int v1))] [] h 0 0 = (
  mv_rV (fN_runs o0 (nI 10) h) fun h1 =>
  some ([Sum.inl (Value.int ((v1 * (nI 5)) + (rI2 h1 8 o0 22)))], h1)) := eN_plainRubs_g fN_runs o0 v1 h
theorem GN_plainRubs : ∀ (j : Nat) (C : mv_C H2) (md' : mv_MD × Bool), mv_nth j gN_plainRubs = some C → mv_nth j nN_plainRubs = some md' → ∃ n', n' + 1 ≤ 2 ∧ mv_Cal vw2 n' md' C := fun j C md' => match j with
  | 0 => fun h1 h2 => by
    obtain rfl := Option.some.inj h1
    obtain rfl := Option.some.inj h2
    exact ⟨1, by decide, cN_runs_ok⟩
  | jj + 1 => fun h1 _ => by cases jj <;> cases h1

set_option maxRecDepth 20000 in
theorem xN_plainRubs {g0 : mv_G} {res : List mv_V × H2} (o0 : Nat) (v1 : Int32) (h : H2) (hh : fN_plainRubs o0 v1 h = some res) : mv_X vw2 mdN_plainRubs 2 0 0 none g0 res 0 [(0, Sum.inr (8, o0)), (1, Sum.inl (Value.int v1))] [] h 0 0 := by
  refine mv_blkX ax2 (GN_plainRubs) (by decide) kN_plainRubs (fun pc lv st h ce sl hh => ?_) ((eN_plainRubs  o0 v1 h).trans hh)
  cases hh

theorem mN_plainRubs (o0 : Nat) (v1 : Int32) (h : H2) (vs : List mv_V) (h' : H2) (hh : fN_plainRubs o0 v1 h = some (vs, h')) : mv_Met vw2 2 0 0 mdN_plainRubs [Sum.inr (8, o0), Sum.inl (Value.int v1)] h vs h' :=
  mv_Met_of (by decide +kernel) (Nat.le_of_ble_eq_true rfl) (xN_plainRubs o0 v1 h hh)
theorem cN_plainRubs_ok : mv_Cal vw2 2 (mdN_plainRubs, true) ((0, 0), cN_plainRubs) := by
  intro as h k res hh
  change cN_plainRubs as h k = some res at hh
  unfold cN_plainRubs at hh
  split at hh
  · obtain ⟨hg0, ha0⟩ := mv_gd_some hh
    obtain rfl := Nat.eq_of_beq_eq_true hg0
    obtain ⟨x, h', h1, h9⟩ := mv_rI_some ha0
    exact ⟨_, _, h9, (by first | decide | exact Nat.le_refl _ | exact Nat.zero_le _), fun _ => ⟨_, _, _, rfl, Or.inl ⟨by decide, rfl⟩⟩, (mN_plainRubs _ _ h _ _ h1)⟩
  · cases hh

set_option maxRecDepth 100000 in
theorem kN_linenRubs : mv_tok mdN_linenRubs nN_linenRubs tN_linenRubs = true := by decide +kernel
def cN_plainRubsG_N_linenRubs (F1 : Nat → Int32 → H2 → O2) : List mv_V → H2 → (List mv_V → H2 → O2) → O2 := fun as h k => match as with
  | [.inr (t0, o0), .inl (.int v1)] => mv_gd (Nat.beq t0 8) <| mv_rI (F1 o0 v1 h) fun x h => k [.inl (.int x)] h
  | _ => none
def cN_runsG_N_linenRubs (F2 : Nat → Int32 → H2 → O2) : List mv_V → H2 → (List mv_V → H2 → O2) → O2 := fun as h k => match as with
  | [.inr (t0, o0), .inl (.int v1)] => mv_gd (Nat.beq t0 8) <| mv_rV (F2 o0 v1 h) fun h => k [] h
  | _ => none
set_option maxRecDepth 100000 in
set_option maxHeartbeats 1000000 in
theorem eN_linenRubs_g (F1 : Nat → Int32 → H2 → O2) (F2 : Nat → Int32 → H2 → O2) (o0 : Nat) (v1 : Int32) (h : H2) : mv_blk rI2 rR2 ln2 wI2 wR2 nw2 cp2 bod none tN_linenRubs [((0, 0), cN_runsG_N_linenRubs F2), ((0, 0), cN_plainRubsG_N_linenRubs F1)] 0 0 [] (fun _ _ _ _ _ _ => none) 400 (mv_seek 0 tN_linenRubs) [(0, Sum.inr (8, o0)), (1, Sum.inl (Value.int v1))] [] h 0 0 = (
  mv_rV (F2 o0 (nI 30) h) fun h1 =>
  mv_rI (F1 o0 v1 h1) fun r3 h2 =>
  some ([Sum.inl (Value.int (r3 * (nI 2)))], h2)) := rfl
theorem eN_linenRubs (o0 : Nat) (v1 : Int32) (h : H2) : mv_blk rI2 rR2 ln2 wI2 wR2 nw2 cp2 bod none tN_linenRubs gN_linenRubs 0 0 [] (fun _ _ _ _ _ _ => none) 400 (mv_seek 0 tN_linenRubs) [(0, Sum.inr (8, o0)), (1, Sum.inl (Value.int v1))] [] h 0 0 = (
  mv_rV (fN_runs o0 (nI 30) h) fun h1 =>
  mv_rI (fN_plainRubs o0 v1 h1) fun r3 h2 =>
  some ([Sum.inl (Value.int (r3 * (nI 2)))], h2)) := eN_linenRubs_g fN_plainRubs fN_runs o0 v1 h
theorem GN_linenRubs : ∀ (j : Nat) (C : mv_C H2) (md' : mv_MD × Bool), mv_nth j gN_linenRubs = some C → mv_nth j nN_linenRubs = some md' → ∃ n', n' + 1 ≤ 3 ∧ mv_Cal vw2 n' md' C := fun j C md' => match j with
  | 0 => fun h1 h2 => by
    obtain rfl := Option.some.inj h1
    obtain rfl := Option.some.inj h2
    exact ⟨1, by decide, cN_runs_ok⟩
  | 1 => fun h1 h2 => by
    obtain rfl := Option.some.inj h1
    obtain rfl := Option.some.inj h2
    exact ⟨2, by decide, cN_plainRubs_ok⟩
  | jj + 2 => fun h1 _ => by cases jj <;> cases h1

set_option maxRecDepth 20000 in
theorem xN_linenRubs {g0 : mv_G} {res : List mv_V × H2} (o0 : Nat) (v1 : Int32) (h : H2) (hh : fN_linenRubs o0 v1 h = some res) : mv_X vw2 mdN_linenRubs 3 0 0 none g0 res 0 [(0, Sum.inr (8, o0)), (1, Sum.inl (Value.int v1))] [] h 0 0 := by
  refine mv_blkX ax2 (GN_linenRubs) (by decide) kN_linenRubs (fun pc lv st h ce sl hh => ?_) ((eN_linenRubs  o0 v1 h).trans hh)
  cases hh

theorem mN_linenRubs (o0 : Nat) (v1 : Int32) (h : H2) (vs : List mv_V) (h' : H2) (hh : fN_linenRubs o0 v1 h = some (vs, h')) : mv_Met vw2 3 0 0 mdN_linenRubs [Sum.inr (8, o0), Sum.inl (Value.int v1)] h vs h' :=
  mv_Met_of (by decide +kernel) (Nat.le_of_ble_eq_true rfl) (xN_linenRubs o0 v1 h hh)
theorem cN_linenRubs_ok : mv_Cal vw2 3 (mdN_linenRubs, true) ((0, 0), cN_linenRubs) := by
  intro as h k res hh
  change cN_linenRubs as h k = some res at hh
  unfold cN_linenRubs at hh
  split at hh
  · obtain ⟨hg0, ha0⟩ := mv_gd_some hh
    obtain rfl := Nat.eq_of_beq_eq_true hg0
    obtain ⟨x, h', h1, h9⟩ := mv_rI_some ha0
    exact ⟨_, _, h9, (by first | decide | exact Nat.le_refl _ | exact Nat.zero_le _), fun _ => ⟨_, _, _, rfl, Or.inl ⟨by decide, rfl⟩⟩, (mN_linenRubs _ _ h _ _ h1)⟩
  · cases hh

set_option maxRecDepth 100000 in
theorem kN_rubs : mv_tok mdN_rubs nN_rubs tN_rubs = true := by decide +kernel
def cN_linenRubsG_N_rubs (F1 : Nat → Int32 → H2 → O2) : List mv_V → H2 → (List mv_V → H2 → O2) → O2 := fun as h k => match as with
  | [.inr (t0, o0), .inl (.int v1)] => mv_gd (Nat.beq t0 8) <| mv_rI (F1 o0 v1 h) fun x h => k [.inl (.int x)] h
  | _ => none
def cN_plainRubsG_N_rubs (F2 : Nat → Int32 → H2 → O2) : List mv_V → H2 → (List mv_V → H2 → O2) → O2 := fun as h k => match as with
  | [.inr (t0, o0), .inl (.int v1)] => mv_gd (Nat.beq t0 8) <| mv_rI (F2 o0 v1 h) fun x h => k [.inl (.int x)] h
  | _ => none
def cN_runsG_N_rubs (F3 : Nat → Int32 → H2 → O2) : List mv_V → H2 → (List mv_V → H2 → O2) → O2 := fun as h k => match as with
  | [.inr (t0, o0), .inl (.int v1)] => mv_gd (Nat.beq t0 8) <| mv_rV (F3 o0 v1 h) fun h => k [] h
  | _ => none
set_option maxRecDepth 100000 in
set_option maxHeartbeats 1000000 in
theorem eN_rubs_g (F1 : Nat → Int32 → H2 → O2) (F2 : Nat → Int32 → H2 → O2) (F3 : Nat → Int32 → H2 → O2) (o0 : Nat) (v1 : Int32) (h : H2) : mv_blk rI2 rR2 ln2 wI2 wR2 nw2 cp2 bod none tN_rubs [((0, 0), cN_linenRubsG_N_rubs F1), ((0, 0), cN_runsG_N_rubs F3), ((0, 0), cN_plainRubsG_N_rubs F2)] 0 0 [] (fun _ _ _ _ _ _ => none) 400 (mv_seek 0 tN_rubs) [(0, Sum.inr (8, o0)), (1, Sum.inl (Value.int v1))] [] h 0 0 = (
  if (rI2 h 8 o0 21) = nI 2 then (
    mv_rI (F1 o0 v1 h) fun r2 h1 =>
    some ([Sum.inl (Value.int r2)], h1))
  else
  if (rI2 h 8 o0 21) = nI 3 then (
    mv_rV (F3 o0 (nI 51) h) fun h3 =>
    mv_rI (F2 o0 v1 h3) fun r5 h4 =>
    some ([Sum.inl (Value.int (r5 - (nI 2)))], h4))
  else
  if (rI2 h 8 o0 21) = nI 4 then (
    mv_rV (F3 o0 (nI 40) h) fun h6 =>
    mv_rI (F1 o0 v1 h6) fun r8 h7 =>
    some ([Sum.inl (Value.int ((nI 0) - r8))], h7))
  else
  mv_rI (F2 o0 v1 h) fun r10 h9 =>
  some ([Sum.inl (Value.int r10)], h9)) := rfl
theorem eN_rubs (o0 : Nat) (v1 : Int32) (h : H2) : mv_blk rI2 rR2 ln2 wI2 wR2 nw2 cp2 bod none tN_rubs gN_rubs 0 0 [] (fun _ _ _ _ _ _ => none) 400 (mv_seek 0 tN_rubs) [(0, Sum.inr (8, o0)), (1, Sum.inl (Value.int v1))] [] h 0 0 = (
  if (rI2 h 8 o0 21) = nI 2 then (
    mv_rI (fN_linenRubs o0 v1 h) fun r2 h1 =>
    some ([Sum.inl (Value.int r2)], h1))
  else
  if (rI2 h 8 o0 21) = nI 3 then (
    mv_rV (fN_runs o0 (nI 51) h) fun h3 =>
    mv_rI (fN_plainRubs o0 v1 h3) fun r5 h4 =>
    some ([Sum.inl (Value.int (r5 - (nI 2)))], h4))
  else
  if (rI2 h 8 o0 21) = nI 4 then (
    mv_rV (fN_runs o0 (nI 40) h) fun h6 =>
    mv_rI (fN_linenRubs o0 v1 h6) fun r8 h7 =>
    some ([Sum.inl (Value.int ((nI 0) - r8))], h7))
  else
  mv_rI (fN_plainRubs o0 v1 h) fun r10 h9 =>
  some ([Sum.inl (Value.int r10)], h9)) := eN_rubs_g fN_linenRubs fN_plainRubs fN_runs o0 v1 h
theorem GN_rubs : ∀ (j : Nat) (C : mv_C H2) (md' : mv_MD × Bool), mv_nth j gN_rubs = some C → mv_nth j nN_rubs = some md' → ∃ n', n' + 1 ≤ 4 ∧ mv_Cal vw2 n' md' C := fun j C md' => match j with
  | 0 => fun h1 h2 => by
    obtain rfl := Option.some.inj h1
    obtain rfl := Option.some.inj h2
    exact ⟨3, by decide, cN_linenRubs_ok⟩
  | 1 => fun h1 h2 => by
    obtain rfl := Option.some.inj h1
    obtain rfl := Option.some.inj h2
    exact ⟨1, by decide, cN_runs_ok⟩
  | 2 => fun h1 h2 => by
    obtain rfl := Option.some.inj h1
    obtain rfl := Option.some.inj h2
    exact ⟨2, by decide, cN_plainRubs_ok⟩
  | jj + 3 => fun h1 _ => by cases jj <;> cases h1

set_option maxRecDepth 20000 in
theorem xN_rubs {g0 : mv_G} {res : List mv_V × H2} (o0 : Nat) (v1 : Int32) (h : H2) (hh : fN_rubs o0 v1 h = some res) : mv_X vw2 mdN_rubs 4 0 0 none g0 res 0 [(0, Sum.inr (8, o0)), (1, Sum.inl (Value.int v1))] [] h 0 0 := by
  refine mv_blkX ax2 (GN_rubs) (by decide) kN_rubs (fun pc lv st h ce sl hh => ?_) ((eN_rubs  o0 v1 h).trans hh)
  cases hh

theorem mN_rubs (o0 : Nat) (v1 : Int32) (h : H2) (vs : List mv_V) (h' : H2) (hh : fN_rubs o0 v1 h = some (vs, h')) : mv_Met vw2 4 0 0 mdN_rubs [Sum.inr (8, o0), Sum.inl (Value.int v1)] h vs h' :=
  mv_Met_of (by decide +kernel) (Nat.le_of_ble_eq_true rfl) (xN_rubs o0 v1 h hh)
theorem cN_rubs_ok : mv_Cal vw2 4 (mdN_rubs, true) ((0, 0), cN_rubs) := by
  intro as h k res hh
  change cN_rubs as h k = some res at hh
  unfold cN_rubs at hh
  split at hh
  · obtain ⟨hg0, ha0⟩ := mv_gd_some hh
    obtain rfl := Nat.eq_of_beq_eq_true hg0
    obtain ⟨x, h', h1, h9⟩ := mv_rI_some ha0
    exact ⟨_, _, h9, (by first | decide | exact Nat.le_refl _ | exact Nat.zero_le _), fun _ => ⟨_, _, _, rfl, Or.inl ⟨by decide, rfl⟩⟩, (mN_rubs _ _ h _ _ h1)⟩
  · cases hh

set_option maxRecDepth 100000 in
theorem kN_plainSteeps : mv_tok mdN_plainSteeps nN_plainSteeps tN_plainSteeps = true := by decide +kernel
def cN_rubsG_N_plainSteeps (F1 : Nat → Int32 → H2 → O2) : List mv_V → H2 → (List mv_V → H2 → O2) → O2 := fun as h k => match as with
  | [.inr (t0, o0), .inl (.int v1)] => mv_gd (Nat.beq t0 8) <| mv_rI (F1 o0 v1 h) fun x h => k [.inl (.int x)] h
  | _ => none
def cN_runsG_N_plainSteeps (F2 : Nat → Int32 → H2 → O2) : List mv_V → H2 → (List mv_V → H2 → O2) → O2 := fun as h k => match as with
  | [.inr (t0, o0), .inl (.int v1)] => mv_gd (Nat.beq t0 8) <| mv_rV (F2 o0 v1 h) fun h => k [] h
  | _ => none
set_option maxRecDepth 100000 in
set_option maxHeartbeats 1000000 in
theorem eN_plainSteeps_g (F1 : Nat → Int32 → H2 → O2) (F2 : Nat → Int32 → H2 → O2) (o0 : Nat) (v1 : Int32) (h : H2) : mv_blk rI2 rR2 ln2 wI2 wR2 nw2 cp2 bod none tN_plainSteeps [((0, 0), cN_runsG_N_plainSteeps F2), ((0, 0), cN_rubsG_N_plainSteeps F1)] 0 0 [] (fun _ _ _ _ _ _ => none) 400 (mv_seek 0 tN_plainSteeps) [(0, Sum.inr (8, o0)), (1, Sum.inl (Value.int v1))] [] h 0 0 = (
  mv_rV (F2 o0 (nI 11) h) fun h1 =>
  mv_rI (F1 o0 v1 h1) fun r3 h2 =>
  some ([Sum.inl (Value.int (r3 + ((rI2 h2 8 o0 23) * (nI 9))))], h2)) := rfl
theorem eN_plainSteeps (o0 : Nat) (v1 : Int32) (h : H2) : mv_blk rI2 rR2 ln2 wI2 wR2 nw2 cp2 bod none tN_plainSteeps gN_plainSteeps 0 0 [] (fun _ _ _ _ _ _ => none) 400 (mv_seek 0 tN_plainSteeps) [(0, Sum.inr (8, o0)), (1, Sum.inl (Value.int v1))] [] h 0 0 = (
  mv_rV (fN_runs o0 (nI 11) h) fun h1 =>
  mv_rI (fN_rubs o0 v1 h1) fun r3 h2 =>
  some ([Sum.inl (Value.int (r3 + ((rI2 h2 8 o0 23) * (nI 9))))], h2)) := eN_plainSteeps_g fN_rubs fN_runs o0 v1 h
theorem GN_plainSteeps : ∀ (j : Nat) (C : mv_C H2) (md' : mv_MD × Bool), mv_nth j gN_plainSteeps = some C → mv_nth j nN_plainSteeps = some md' → ∃ n', n' + 1 ≤ 5 ∧ mv_Cal vw2 n' md' C := fun j C md' => match j with
  | 0 => fun h1 h2 => by
    obtain rfl := Option.some.inj h1
    obtain rfl := Option.some.inj h2
    exact ⟨1, by decide, cN_runs_ok⟩
  | 1 => fun h1 h2 => by
    obtain rfl := Option.some.inj h1
    obtain rfl := Option.some.inj h2
    exact ⟨4, by decide, cN_rubs_ok⟩
  | jj + 2 => fun h1 _ => by cases jj <;> cases h1

set_option maxRecDepth 20000 in
theorem xN_plainSteeps {g0 : mv_G} {res : List mv_V × H2} (o0 : Nat) (v1 : Int32) (h : H2) (hh : fN_plainSteeps o0 v1 h = some res) : mv_X vw2 mdN_plainSteeps 5 0 0 none g0 res 0 [(0, Sum.inr (8, o0)), (1, Sum.inl (Value.int v1))] [] h 0 0 := by
  refine mv_blkX ax2 (GN_plainSteeps) (by decide) kN_plainSteeps (fun pc lv st h ce sl hh => ?_) ((eN_plainSteeps  o0 v1 h).trans hh)
  cases hh

theorem mN_plainSteeps (o0 : Nat) (v1 : Int32) (h : H2) (vs : List mv_V) (h' : H2) (hh : fN_plainSteeps o0 v1 h = some (vs, h')) : mv_Met vw2 5 0 0 mdN_plainSteeps [Sum.inr (8, o0), Sum.inl (Value.int v1)] h vs h' :=
  mv_Met_of (by decide +kernel) (Nat.le_of_ble_eq_true rfl) (xN_plainSteeps o0 v1 h hh)
theorem cN_plainSteeps_ok : mv_Cal vw2 5 (mdN_plainSteeps, true) ((0, 0), cN_plainSteeps) := by
  intro as h k res hh
  change cN_plainSteeps as h k = some res at hh
  unfold cN_plainSteeps at hh
  split at hh
  · obtain ⟨hg0, ha0⟩ := mv_gd_some hh
    obtain rfl := Nat.eq_of_beq_eq_true hg0
    obtain ⟨x, h', h1, h9⟩ := mv_rI_some ha0
    exact ⟨_, _, h9, (by first | decide | exact Nat.le_refl _ | exact Nat.zero_le _), fun _ => ⟨_, _, _, rfl, Or.inl ⟨by decide, rfl⟩⟩, (mN_plainSteeps _ _ h _ _ h1)⟩
  · cases hh

set_option maxRecDepth 100000 in
theorem kN_steepsAct : mv_tok mdN_steepsAct nN_steepsAct tN_steepsAct = true := by decide +kernel
def cN_plainSteepsG_N_steepsAct (F1 : Nat → Int32 → H2 → O2) : List mv_V → H2 → (List mv_V → H2 → O2) → O2 := fun as h k => match as with
  | [.inr (t0, o0), .inl (.int v1)] => mv_gd (Nat.beq t0 8) <| mv_rI (F1 o0 v1 h) fun x h => k [.inl (.int x)] h
  | _ => none
def cN_rubsG_N_steepsAct (F2 : Nat → Int32 → H2 → O2) : List mv_V → H2 → (List mv_V → H2 → O2) → O2 := fun as h k => match as with
  | [.inr (t0, o0), .inl (.int v1)] => mv_gd (Nat.beq t0 8) <| mv_rI (F2 o0 v1 h) fun x h => k [.inl (.int x)] h
  | _ => none
def cN_runsG_N_steepsAct (F3 : Nat → Int32 → H2 → O2) : List mv_V → H2 → (List mv_V → H2 → O2) → O2 := fun as h k => match as with
  | [.inr (t0, o0), .inl (.int v1)] => mv_gd (Nat.beq t0 8) <| mv_rV (F3 o0 v1 h) fun h => k [] h
  | _ => none
set_option maxRecDepth 100000 in
set_option maxHeartbeats 1000000 in
theorem eN_steepsAct_b16_g (F1 : Nat → Int32 → H2 → O2) (F2 : Nat → Int32 → H2 → O2) (F3 : Nat → Int32 → H2 → O2) (o0 : Nat) (v1 : Int32) (h : H2) : mv_blk rI2 rR2 ln2 wI2 wR2 nw2 cp2 bod none tN_steepsAct [((0, 0), cN_runsG_N_steepsAct F3), ((0, 0), cN_plainSteepsG_N_steepsAct F1), ((0, 0), cN_rubsG_N_steepsAct F2)] 0 0 [] (fun _ _ _ _ _ _ => none) 400 (mv_seek 16 tN_steepsAct) [(0, Sum.inr (8, o0)), (1, Sum.inl (Value.int v1))] [] h 0 0 = (
  mv_rV (F3 o0 (nI 20) h) fun h1 =>
  mv_rI (F1 o0 v1 h1) fun r3 h2 =>
  some ([Sum.inl (Value.int (r3 - (nI 6)))], h2)) := rfl
theorem eN_steepsAct_b16 (o0 : Nat) (v1 : Int32) (h : H2) : mv_blk rI2 rR2 ln2 wI2 wR2 nw2 cp2 bod none tN_steepsAct gN_steepsAct 0 0 [] (fun _ _ _ _ _ _ => none) 400 (mv_seek 16 tN_steepsAct) [(0, Sum.inr (8, o0)), (1, Sum.inl (Value.int v1))] [] h 0 0 = (
  mv_rV (fN_runs o0 (nI 20) h) fun h1 =>
  mv_rI (fN_plainSteeps o0 v1 h1) fun r3 h2 =>
  some ([Sum.inl (Value.int (r3 - (nI 6)))], h2)) := eN_steepsAct_b16_g fN_plainSteeps fN_rubs fN_runs o0 v1 h
set_option maxRecDepth 100000 in
set_option maxHeartbeats 1000000 in
theorem eN_steepsAct_g (F1 : Nat → Int32 → H2 → O2) (F2 : Nat → Int32 → H2 → O2) (F3 : Nat → Int32 → H2 → O2) (q16 : Nat → Int32 → H2 → O2) (o0 : Nat) (v1 : Int32) (h : H2) : mv_blk rI2 rR2 ln2 wI2 wR2 nw2 cp2 bod none tN_steepsAct [((0, 0), cN_runsG_N_steepsAct F3), ((0, 0), cN_plainSteepsG_N_steepsAct F1), ((0, 0), cN_rubsG_N_steepsAct F2)] 0 0 [16] (fun pc lv st h ce sl => mv_gd (Nat.beq ce 0 && Nat.beq sl 0) (cond (Nat.beq pc 16) (mv_gR 0 8 lv fun o0 => mv_gI 1 lv fun v1 => mv_sE st (q16 o0 v1 h)) (none))) 400 (mv_seek 0 tN_steepsAct) [(0, Sum.inr (8, o0)), (1, Sum.inl (Value.int v1))] [] h 0 0 = (
  if (rI2 h 8 o0 21) = (nI 1) then (
    q16 o0 v1 h)
  else
  if (rI2 h 8 o0 21) = (nI 3) then (
    q16 o0 v1 h)
  else
  if (rI2 h 8 o0 21) = (nI 4) then (
    mv_rV (F3 o0 (nI 41) h) fun h1 =>
    mv_rI (F1 o0 v1 h1) fun r3 h2 =>
    mv_bi r3 fun x4 =>
    mv_rI (F2 o0 (rI2 h2 8 o0 23) h2) fun r6 h5 =>
    some ([Sum.inl (Value.int (x4 ^^^ r6))], h5))
  else
  mv_rI (F1 o0 v1 h) fun r8 h7 =>
  some ([Sum.inl (Value.int r8)], h7)) := rfl
theorem eN_steepsAct (q16 : Nat → Int32 → H2 → O2) (o0 : Nat) (v1 : Int32) (h : H2) : mv_blk rI2 rR2 ln2 wI2 wR2 nw2 cp2 bod none tN_steepsAct gN_steepsAct 0 0 [16] (fun pc lv st h ce sl => mv_gd (Nat.beq ce 0 && Nat.beq sl 0) (cond (Nat.beq pc 16) (mv_gR 0 8 lv fun o0 => mv_gI 1 lv fun v1 => mv_sE st (q16 o0 v1 h)) (none))) 400 (mv_seek 0 tN_steepsAct) [(0, Sum.inr (8, o0)), (1, Sum.inl (Value.int v1))] [] h 0 0 = (
  if (rI2 h 8 o0 21) = (nI 1) then (
    q16 o0 v1 h)
  else
  if (rI2 h 8 o0 21) = (nI 3) then (
    q16 o0 v1 h)
  else
  if (rI2 h 8 o0 21) = (nI 4) then (
    mv_rV (fN_runs o0 (nI 41) h) fun h1 =>
    mv_rI (fN_plainSteeps o0 v1 h1) fun r3 h2 =>
    mv_bi r3 fun x4 =>
    mv_rI (fN_rubs o0 (rI2 h2 8 o0 23) h2) fun r6 h5 =>
    some ([Sum.inl (Value.int (x4 ^^^ r6))], h5))
  else
  mv_rI (fN_plainSteeps o0 v1 h) fun r8 h7 =>
  some ([Sum.inl (Value.int r8)], h7)) := eN_steepsAct_g fN_plainSteeps fN_rubs fN_runs q16 o0 v1 h
theorem GN_steepsAct : ∀ (j : Nat) (C : mv_C H2) (md' : mv_MD × Bool), mv_nth j gN_steepsAct = some C → mv_nth j nN_steepsAct = some md' → ∃ n', n' + 1 ≤ 6 ∧ mv_Cal vw2 n' md' C := fun j C md' => match j with
  | 0 => fun h1 h2 => by
    obtain rfl := Option.some.inj h1
    obtain rfl := Option.some.inj h2
    exact ⟨1, by decide, cN_runs_ok⟩
  | 1 => fun h1 h2 => by
    obtain rfl := Option.some.inj h1
    obtain rfl := Option.some.inj h2
    exact ⟨5, by decide, cN_plainSteeps_ok⟩
  | 2 => fun h1 h2 => by
    obtain rfl := Option.some.inj h1
    obtain rfl := Option.some.inj h2
    exact ⟨4, by decide, cN_rubs_ok⟩
  | jj + 3 => fun h1 _ => by cases jj <;> cases h1

set_option maxRecDepth 20000 in
theorem xN_steepsAct_b16 {g0 : mv_G} {res : List mv_V × H2} (o0 : Nat) (v1 : Int32) (h : H2) (hh : fN_steepsAct_b16 o0 v1 h = some res) : mv_X vw2 mdN_steepsAct 6 0 0 none g0 res 16 [(0, Sum.inr (8, o0)), (1, Sum.inl (Value.int v1))] [] h 0 0 := by
  refine mv_blkX ax2 (GN_steepsAct) (by decide) kN_steepsAct (fun pc lv st h ce sl hh => ?_) ((eN_steepsAct_b16  o0 v1 h).trans hh)
  cases hh

set_option maxRecDepth 20000 in
theorem xN_steepsAct {g0 : mv_G} {res : List mv_V × H2} (o0 : Nat) (v1 : Int32) (h : H2) (hh : fN_steepsAct o0 v1 h = some res) : mv_X vw2 mdN_steepsAct 6 0 0 none g0 res 0 [(0, Sum.inr (8, o0)), (1, Sum.inl (Value.int v1))] [] h 0 0 := by
  refine mv_blkX ax2 (GN_steepsAct) (by decide) kN_steepsAct (fun pc lv st h ce sl hh => ?_) ((eN_steepsAct (fN_steepsAct_b16) o0 v1 h).trans hh)
  obtain ⟨hg, hh1⟩ := mv_gd_some hh
  obtain ⟨rfl, rfl⟩ := mv_z2 hg
  rcases mv_cond_some hh1 with ⟨hb, hh2⟩ | ⟨hb, hh3⟩
  · obtain rfl := Nat.eq_of_beq_eq_true hb
    obtain ⟨o0, m0, hh4⟩ := mv_gR_some hh2
    obtain ⟨v1, m1, hh5⟩ := mv_gI_some hh4
    obtain ⟨rfl, hh6⟩ := mv_sE_some hh5
    exact (xN_steepsAct_b16  o0 v1 h hh6).sub (List.forall_mem_cons.mpr ⟨m0, (List.forall_mem_cons.mpr ⟨m1, (fun q hq => by cases hq)⟩)⟩)
  cases hh3

theorem mN_steepsAct (o0 : Nat) (v1 : Int32) (h : H2) (vs : List mv_V) (h' : H2) (hh : fN_steepsAct o0 v1 h = some (vs, h')) : mv_Met vw2 6 0 0 mdN_steepsAct [Sum.inr (8, o0), Sum.inl (Value.int v1)] h vs h' :=
  mv_Met_of (by decide +kernel) (Nat.le_of_ble_eq_true rfl) (xN_steepsAct o0 v1 h hh)
theorem cN_steepsAct_ok : mv_Cal vw2 6 (mdN_steepsAct, true) ((0, 0), cN_steepsAct) := by
  intro as h k res hh
  change cN_steepsAct as h k = some res at hh
  unfold cN_steepsAct at hh
  split at hh
  · obtain ⟨hg0, ha0⟩ := mv_gd_some hh
    obtain rfl := Nat.eq_of_beq_eq_true hg0
    obtain ⟨x, h', h1, h9⟩ := mv_rI_some ha0
    exact ⟨_, _, h9, (by first | decide | exact Nat.le_refl _ | exact Nat.zero_le _), fun _ => ⟨_, _, _, rfl, Or.inl ⟨by decide, rfl⟩⟩, (mN_steepsAct _ _ h _ _ h1)⟩
  · cases hh

