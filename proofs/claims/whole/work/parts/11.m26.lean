set_option maxRecDepth 100000 in
theorem kN_minds : mv_tok mdN_minds nN_minds tN_minds = true := by decide +kernel
def cN_inG_N_minds (F1 : Int64 → Int64 → Int64 → H2 → O2) : List mv_V → H2 → (List mv_V → H2 → O2) → O2 := fun as h k => match as with
  | [.inl (.long w0), .inl (.long w2), .inl (.long w4)] => mv_rI (F1 w0 w2 w4 h) fun x h => k [.inl (.int x)] h
  | _ => none
def cN_isClothG_N_minds (F2 : Nat → Int32 → H2 → O2) : List mv_V → H2 → (List mv_V → H2 → O2) → O2 := fun as h k => match as with
  | [.inr (t0, o0), .inl (.int v1)] => mv_gd (Nat.beq t0 8) <| mv_rI (F2 o0 v1 h) fun x h => k [.inl (.int x)] h
  | _ => none
def cN_isDeepG_N_minds (F3 : Nat → Int32 → Int32 → H2 → O2) : List mv_V → H2 → (List mv_V → H2 → O2) → O2 := fun as h k => match as with
  | [.inr (t0, o0), .inl (.int v1), .inl (.int v2)] => mv_gd (Nat.beq t0 8) <| mv_rV (F3 o0 v1 v2 h) fun h => k [] h
  | _ => none
def cN_isFourG_N_minds (F4 : Int32 → H2 → O2) : List mv_V → H2 → (List mv_V → H2 → O2) → O2 := fun as h k => match as with
  | [.inl (.int v0)] => mv_rI (F4 v0 h) fun x h => k [.inl (.int x)] h
  | _ => none
def cN_itsG_N_minds (F5 : Nat → Int32 → Int32 → H2 → O2) : List mv_V → H2 → (List mv_V → H2 → O2) → O2 := fun as h k => match as with
  | [.inr (t0, o0), .inl (.int v1), .inl (.int v2)] => mv_gd (Nat.beq t0 8) <| mv_rI (F5 o0 v1 v2 h) fun x h => k [.inl (.int x)] h
  | _ => none
set_option maxRecDepth 100000 in
set_option maxHeartbeats 1000000 in
theorem eN_minds_b105_g (F1 : Int64 → Int64 → Int64 → H2 → O2) (F2 : Nat → Int32 → H2 → O2) (F3 : Nat → Int32 → Int32 → H2 → O2) (F4 : Int32 → H2 → O2) (F5 : Nat → Int32 → Int32 → H2 → O2) (q105 : Nat → Int32 → Int32 → Int32 → Int32 → Int32 → H2 → O2) (o0 : Nat) (v1 : Int32) (v2 : Int32) (v3 : Int32) (v4 : Int32) (v5 : Int32) (h : H2) : mv_blk rI2 rR2 ln2 wI2 wR2 nw2 cp2 bod none tN_minds [((0, 0), cN_isFourG_N_minds F4), ((0, 0), cN_isClothG_N_minds F2), ((0, 0), cN_inG_N_minds F1), ((0, 0), cN_itsG_N_minds F5), ((0, 0), cN_isDeepG_N_minds F3)] 0 0 [105] (fun pc lv st h ce sl => mv_gd (Nat.beq ce 0 && Nat.beq sl 0) (cond (Nat.beq pc 105) (mv_gR 0 8 lv fun o0 => mv_gI 1 lv fun v1 => mv_gI 2 lv fun v2 => mv_gI 3 lv fun v3 => mv_gI 4 lv fun v4 => mv_gI 5 lv fun v5 => mv_sE st (q105 o0 v1 v2 v3 v4 v5 h)) (none))) 400 (mv_seek 105 tN_minds) [(0, Sum.inr (8, o0)), (1, Sum.inl (Value.int v1)), (2, Sum.inl (Value.int v2)), (3, Sum.inl (Value.int v3)), (4, Sum.inl (Value.int v4)), (5, Sum.inl (Value.int v5))] [] h 0 0 = (
  if v4 ≤ v5 then (
    some ([Sum.inl (Value.int v4)], h))
  else
  mv_rI (F5 o0 (v3 + v5) (nI 1) h) fun r2 h1 =>
  if r2 < 0 then (
    mv_bi (v5 + (nI 1)) fun x3 =>
    q105 o0 v1 v2 v3 v4 x3 h1)
  else
  mv_gd (mv_inb ((((nI 40) * v1) + v2) + v5) 160) <|
  mv_rV (F3 o0 (v3 + v5) (rI2 h1 915 o0 ((((nI 40) * v1) + v2) + v5).toNatClampNeg) h1) fun h4 =>
  mv_bi (v5 + (nI 1)) fun x5 =>
  q105 o0 v1 v2 v3 v4 x5 h4) := rfl
theorem eN_minds_b105 (q105 : Nat → Int32 → Int32 → Int32 → Int32 → Int32 → H2 → O2) (o0 : Nat) (v1 : Int32) (v2 : Int32) (v3 : Int32) (v4 : Int32) (v5 : Int32) (h : H2) : mv_blk rI2 rR2 ln2 wI2 wR2 nw2 cp2 bod none tN_minds gN_minds 0 0 [105] (fun pc lv st h ce sl => mv_gd (Nat.beq ce 0 && Nat.beq sl 0) (cond (Nat.beq pc 105) (mv_gR 0 8 lv fun o0 => mv_gI 1 lv fun v1 => mv_gI 2 lv fun v2 => mv_gI 3 lv fun v3 => mv_gI 4 lv fun v4 => mv_gI 5 lv fun v5 => mv_sE st (q105 o0 v1 v2 v3 v4 v5 h)) (none))) 400 (mv_seek 105 tN_minds) [(0, Sum.inr (8, o0)), (1, Sum.inl (Value.int v1)), (2, Sum.inl (Value.int v2)), (3, Sum.inl (Value.int v3)), (4, Sum.inl (Value.int v4)), (5, Sum.inl (Value.int v5))] [] h 0 0 = (
  if v4 ≤ v5 then (
    some ([Sum.inl (Value.int v4)], h))
  else
  mv_rI (fN_its o0 (v3 + v5) (nI 1) h) fun r2 h1 =>
  if r2 < 0 then (
    mv_bi (v5 + (nI 1)) fun x3 =>
    q105 o0 v1 v2 v3 v4 x3 h1)
  else
  mv_gd (mv_inb ((((nI 40) * v1) + v2) + v5) 160) <|
  mv_rV (fN_isDeep o0 (v3 + v5) (rI2 h1 915 o0 ((((nI 40) * v1) + v2) + v5).toNatClampNeg) h1) fun h4 =>
  mv_bi (v5 + (nI 1)) fun x5 =>
  q105 o0 v1 v2 v3 v4 x5 h4) := eN_minds_b105_g fN_in fN_isCloth fN_isDeep fN_isFour fN_its q105 o0 v1 v2 v3 v4 v5 h
set_option maxRecDepth 100000 in
set_option maxHeartbeats 1000000 in
theorem eN_minds_g (F1 : Int64 → Int64 → Int64 → H2 → O2) (F2 : Nat → Int32 → H2 → O2) (F3 : Nat → Int32 → Int32 → H2 → O2) (F4 : Int32 → H2 → O2) (F5 : Nat → Int32 → Int32 → H2 → O2) (q105 : Nat → Int32 → Int32 → Int32 → Int32 → Int32 → H2 → O2) (o0 : Nat) (v1 : Int32) (v2 : Int32) (v3 : Int32) (v4 : Int32) (h : H2) : mv_blk rI2 rR2 ln2 wI2 wR2 nw2 cp2 bod none tN_minds [((0, 0), cN_isFourG_N_minds F4), ((0, 0), cN_isClothG_N_minds F2), ((0, 0), cN_inG_N_minds F1), ((0, 0), cN_itsG_N_minds F5), ((0, 0), cN_isDeepG_N_minds F3)] 0 0 [105] (fun pc lv st h ce sl => mv_gd (Nat.beq ce 0 && Nat.beq sl 0) (cond (Nat.beq pc 105) (mv_gR 0 8 lv fun o0 => mv_gI 1 lv fun v1 => mv_gI 2 lv fun v2 => mv_gI 3 lv fun v3 => mv_gI 4 lv fun v4 => mv_gI 5 lv fun v5 => mv_sE st (q105 o0 v1 v2 v3 v4 v5 h)) (none))) 400 (mv_seek 0 tN_minds) [(0, Sum.inr (8, o0)), (1, Sum.inl (Value.int v1)), (2, Sum.inl (Value.int v2)), (3, Sum.inl (Value.int v3)), (4, Sum.inl (Value.int v4))] [] h 0 0 = (
  mv_rI (F4 v1 h) fun r2 h1 =>
  if r2 = 0 then (
    some ([Sum.inl (Value.int (-(nI 1)))], h1))
  else
  mv_rI (F2 o0 v3 h1) fun r4 h3 =>
  if r4 = 0 then (
    some ([Sum.inl (Value.int (-(nI 1)))], h3))
  else
  mv_rI (F1 v4.toInt64 (lN 0) (lN 8) h3) fun r6 h5 =>
  if r6 = 0 then (
    some ([Sum.inl (Value.int (-(nI 1)))], h5))
  else
  mv_gd (mv_inb (nI 6) 69) <|
  if (v3 + v4) ≤ (rI2 h5 902 o0 (nI 6).toNatClampNeg) then (
    mv_gd (mv_inb v1 4) <|
    if (rI2 h5 913 o0 v1.toNatClampNeg) = 0 then (
      mv_gd (mv_inb v1 4) <|
      mv_rI (F1 v2.toInt64 (lN 0) ((rI2 h5 914 o0 v1.toNatClampNeg).toInt64) h5) fun r8 h7 =>
      if r8 = 0 then (
        some ([Sum.inl (Value.int (-(nI 12)))], h7))
      else
      mv_gd (mv_inb v1 4) <|
      if v4 ≤ ((rI2 h7 914 o0 v1.toNatClampNeg) - v2) then (
        mv_bi (nI 0) fun x9 =>
        q105 o0 v1 v2 v3 v4 x9 h7)
      else
      some ([Sum.inl (Value.int (-(nI 12)))], h7))
    else
    mv_gd (mv_inb v1 4) <|
    if 0 ≤ (rI2 h5 913 o0 v1.toNatClampNeg) then (
      some ([Sum.inl (Value.int (-(nI 13)))], h5))
    else
    some ([Sum.inl (Value.int (-(nI 11)))], h5))
  else
  some ([Sum.inl (Value.int (-(nI 1)))], h5)) := rfl
theorem eN_minds (q105 : Nat → Int32 → Int32 → Int32 → Int32 → Int32 → H2 → O2) (o0 : Nat) (v1 : Int32) (v2 : Int32) (v3 : Int32) (v4 : Int32) (h : H2) : mv_blk rI2 rR2 ln2 wI2 wR2 nw2 cp2 bod none tN_minds gN_minds 0 0 [105] (fun pc lv st h ce sl => mv_gd (Nat.beq ce 0 && Nat.beq sl 0) (cond (Nat.beq pc 105) (mv_gR 0 8 lv fun o0 => mv_gI 1 lv fun v1 => mv_gI 2 lv fun v2 => mv_gI 3 lv fun v3 => mv_gI 4 lv fun v4 => mv_gI 5 lv fun v5 => mv_sE st (q105 o0 v1 v2 v3 v4 v5 h)) (none))) 400 (mv_seek 0 tN_minds) [(0, Sum.inr (8, o0)), (1, Sum.inl (Value.int v1)), (2, Sum.inl (Value.int v2)), (3, Sum.inl (Value.int v3)), (4, Sum.inl (Value.int v4))] [] h 0 0 = (
  mv_rI (fN_isFour v1 h) fun r2 h1 =>
  if r2 = 0 then (
    some ([Sum.inl (Value.int (-(nI 1)))], h1))
  else
  mv_rI (fN_isCloth o0 v3 h1) fun r4 h3 =>
  if r4 = 0 then (
    some ([Sum.inl (Value.int (-(nI 1)))], h3))
  else
  mv_rI (fN_in v4.toInt64 (lN 0) (lN 8) h3) fun r6 h5 =>
  if r6 = 0 then (
    some ([Sum.inl (Value.int (-(nI 1)))], h5))
  else
  mv_gd (mv_inb (nI 6) 69) <|
  if (v3 + v4) ≤ (rI2 h5 902 o0 (nI 6).toNatClampNeg) then (
    mv_gd (mv_inb v1 4) <|
    if (rI2 h5 913 o0 v1.toNatClampNeg) = 0 then (
      mv_gd (mv_inb v1 4) <|
      mv_rI (fN_in v2.toInt64 (lN 0) ((rI2 h5 914 o0 v1.toNatClampNeg).toInt64) h5) fun r8 h7 =>
      if r8 = 0 then (
        some ([Sum.inl (Value.int (-(nI 12)))], h7))
      else
      mv_gd (mv_inb v1 4) <|
      if v4 ≤ ((rI2 h7 914 o0 v1.toNatClampNeg) - v2) then (
        mv_bi (nI 0) fun x9 =>
        q105 o0 v1 v2 v3 v4 x9 h7)
      else
      some ([Sum.inl (Value.int (-(nI 12)))], h7))
    else
    mv_gd (mv_inb v1 4) <|
    if 0 ≤ (rI2 h5 913 o0 v1.toNatClampNeg) then (
      some ([Sum.inl (Value.int (-(nI 13)))], h5))
    else
    some ([Sum.inl (Value.int (-(nI 11)))], h5))
  else
  some ([Sum.inl (Value.int (-(nI 1)))], h5)) := eN_minds_g fN_in fN_isCloth fN_isDeep fN_isFour fN_its q105 o0 v1 v2 v3 v4 h
theorem GN_minds : ∀ (j : Nat) (C : mv_C H2) (md' : mv_MD × Bool), mv_nth j gN_minds = some C → mv_nth j nN_minds = some md' → ∃ n', n' + 1 ≤ 3 ∧ mv_Cal vw2 n' md' C := fun j C md' => match j with
  | 0 => fun h1 h2 => by
    obtain rfl := Option.some.inj h1
    obtain rfl := Option.some.inj h2
    exact ⟨2, by decide, cN_isFour_ok⟩
  | 1 => fun h1 h2 => by
    obtain rfl := Option.some.inj h1
    obtain rfl := Option.some.inj h2
    exact ⟨2, by decide, cN_isCloth_ok⟩
  | 2 => fun h1 h2 => by
    obtain rfl := Option.some.inj h1
    obtain rfl := Option.some.inj h2
    exact ⟨1, by decide, cN_in_ok⟩
  | 3 => fun h1 h2 => by
    obtain rfl := Option.some.inj h1
    obtain rfl := Option.some.inj h2
    exact ⟨1, by decide, cN_its_ok⟩
  | 4 => fun h1 h2 => by
    obtain rfl := Option.some.inj h1
    obtain rfl := Option.some.inj h2
    exact ⟨2, by decide, cN_isDeep_ok⟩
  | jj + 5 => fun h1 _ => by cases jj <;> cases h1

set_option maxRecDepth 20000 in
theorem xN_minds_b105 {g0 : mv_G} {res : List mv_V × H2} : ∀ (n : Nat) (o0 : Nat) (v1 : Int32) (v2 : Int32) (v3 : Int32) (v4 : Int32) (v5 : Int32) (h : H2), fN_minds_b105 n o0 v1 v2 v3 v4 v5 h = some res → mv_X vw2 mdN_minds 3 0 0 none g0 res 105 [(0, Sum.inr (8, o0)), (1, Sum.inl (Value.int v1)), (2, Sum.inl (Value.int v2)), (3, Sum.inl (Value.int v3)), (4, Sum.inl (Value.int v4)), (5, Sum.inl (Value.int v5))] [] h 0 0 := by
  intro n
  induction n with
  | zero => intro o0 v1 v2 v3 v4 v5 h hh; cases hh
  | succ n ih =>
    intro o0 v1 v2 v3 v4 v5 h hh
    refine mv_blkX ax2 (GN_minds) (by decide) kN_minds (fun pc lv st h ce sl hh => ?_) ((eN_minds_b105 (fN_minds_b105 n) o0 v1 v2 v3 v4 v5 h).trans hh)
    obtain ⟨hg, hh1⟩ := mv_gd_some hh
    obtain ⟨rfl, rfl⟩ := mv_z2 hg
    rcases mv_cond_some hh1 with ⟨hb, hh2⟩ | ⟨hb, hh3⟩
    · obtain rfl := Nat.eq_of_beq_eq_true hb
      obtain ⟨o0, m0, hh4⟩ := mv_gR_some hh2
      obtain ⟨v1, m1, hh5⟩ := mv_gI_some hh4
      obtain ⟨v2, m2, hh6⟩ := mv_gI_some hh5
      obtain ⟨v3, m3, hh7⟩ := mv_gI_some hh6
      obtain ⟨v4, m4, hh8⟩ := mv_gI_some hh7
      obtain ⟨v5, m5, hh9⟩ := mv_gI_some hh8
      obtain ⟨rfl, hh10⟩ := mv_sE_some hh9
      exact (ih o0 v1 v2 v3 v4 v5 h hh10).sub (List.forall_mem_cons.mpr ⟨m0, (List.forall_mem_cons.mpr ⟨m1, (List.forall_mem_cons.mpr ⟨m2, (List.forall_mem_cons.mpr ⟨m3, (List.forall_mem_cons.mpr ⟨m4, (List.forall_mem_cons.mpr ⟨m5, (fun q hq => by cases hq)⟩)⟩)⟩)⟩)⟩)⟩)
    cases hh3

set_option maxRecDepth 20000 in
theorem xN_minds {g0 : mv_G} {res : List mv_V × H2} (o0 : Nat) (v1 : Int32) (v2 : Int32) (v3 : Int32) (v4 : Int32) (h : H2) (hh : fN_minds o0 v1 v2 v3 v4 h = some res) : mv_X vw2 mdN_minds 3 0 0 none g0 res 0 [(0, Sum.inr (8, o0)), (1, Sum.inl (Value.int v1)), (2, Sum.inl (Value.int v2)), (3, Sum.inl (Value.int v3)), (4, Sum.inl (Value.int v4))] [] h 0 0 := by
  refine mv_blkX ax2 (GN_minds) (by decide) kN_minds (fun pc lv st h ce sl hh => ?_) ((eN_minds (fN_minds_b105 1000) o0 v1 v2 v3 v4 h).trans hh)
  obtain ⟨hg, hh1⟩ := mv_gd_some hh
  obtain ⟨rfl, rfl⟩ := mv_z2 hg
  rcases mv_cond_some hh1 with ⟨hb, hh2⟩ | ⟨hb, hh3⟩
  · obtain rfl := Nat.eq_of_beq_eq_true hb
    obtain ⟨o0, m0, hh4⟩ := mv_gR_some hh2
    obtain ⟨v1, m1, hh5⟩ := mv_gI_some hh4
    obtain ⟨v2, m2, hh6⟩ := mv_gI_some hh5
    obtain ⟨v3, m3, hh7⟩ := mv_gI_some hh6
    obtain ⟨v4, m4, hh8⟩ := mv_gI_some hh7
    obtain ⟨v5, m5, hh9⟩ := mv_gI_some hh8
    obtain ⟨rfl, hh10⟩ := mv_sE_some hh9
    exact (xN_minds_b105 1000 o0 v1 v2 v3 v4 v5 h hh10).sub (List.forall_mem_cons.mpr ⟨m0, (List.forall_mem_cons.mpr ⟨m1, (List.forall_mem_cons.mpr ⟨m2, (List.forall_mem_cons.mpr ⟨m3, (List.forall_mem_cons.mpr ⟨m4, (List.forall_mem_cons.mpr ⟨m5, (fun q hq => by cases hq)⟩)⟩)⟩)⟩)⟩)⟩)
  cases hh3

theorem mN_minds (o0 : Nat) (v1 : Int32) (v2 : Int32) (v3 : Int32) (v4 : Int32) (h : H2) (vs : List mv_V) (h' : H2) (hh : fN_minds o0 v1 v2 v3 v4 h = some (vs, h')) : mv_Met vw2 3 0 0 mdN_minds [Sum.inr (8, o0), Sum.inl (Value.int v1), Sum.inl (Value.int v2), Sum.inl (Value.int v3), Sum.inl (Value.int v4)] h vs h' :=
  mv_Met_of (by decide +kernel) (Nat.le_of_ble_eq_true rfl) (xN_minds o0 v1 v2 v3 v4 h hh)
set_option maxRecDepth 100000 in
theorem kN_sheet : mv_tok mdN_sheet nN_sheet tN_sheet = true := by decide +kernel
def cN_inG_N_sheet (F1 : Int64 → Int64 → Int64 → H2 → O2) : List mv_V → H2 → (List mv_V → H2 → O2) → O2 := fun as h k => match as with
  | [.inl (.long w0), .inl (.long w2), .inl (.long w4)] => mv_rI (F1 w0 w2 w4 h) fun x h => k [.inl (.int x)] h
  | _ => none
def cN_isFourG_N_sheet (F2 : Int32 → H2 → O2) : List mv_V → H2 → (List mv_V → H2 → O2) → O2 := fun as h k => match as with
  | [.inl (.int v0)] => mv_rI (F2 v0 h) fun x h => k [.inl (.int x)] h
  | _ => none
set_option maxRecDepth 100000 in
set_option maxHeartbeats 1000000 in
theorem eN_sheet_b69_g (F1 : Int64 → Int64 → Int64 → H2 → O2) (F2 : Int32 → H2 → O2) (q69 : Nat → Int32 → Int32 → H2 → O2) (o0 : Nat) (v1 : Int32) (v4 : Int32) (h : H2) : mv_blk rI2 rR2 ln2 wI2 wR2 nw2 cp2 bod none tN_sheet [((0, 0), cN_isFourG_N_sheet F2), ((0, 0), cN_inG_N_sheet F1)] 0 0 [69] (fun pc lv st h ce sl => mv_gd (Nat.beq ce 0 && Nat.beq sl 0) (cond (Nat.beq pc 69) (mv_gR 0 8 lv fun o0 => mv_gI 1 lv fun v1 => mv_gI 4 lv fun v4 => mv_sE st (q69 o0 v1 v4 h)) (none))) 400 (mv_seek 69 tN_sheet) [(0, Sum.inr (8, o0)), (1, Sum.inl (Value.int v1)), (4, Sum.inl (Value.int v4))] [] h 0 0 = (
  if (nI 40) ≤ v4 then (
    some ([Sum.inl (Value.int (nI 1))], h))
  else
  mv_gd (mv_inb (((nI 40) * v1) + v4) 160) <|
  mv_bh (wI2 h 915 o0 (((nI 40) * v1) + v4).toNatClampNeg (nI 0)) fun h1 =>
  mv_bi (v4 + (nI 1)) fun x2 =>
  q69 o0 v1 x2 h1) := rfl
theorem eN_sheet_b69 (q69 : Nat → Int32 → Int32 → H2 → O2) (o0 : Nat) (v1 : Int32) (v4 : Int32) (h : H2) : mv_blk rI2 rR2 ln2 wI2 wR2 nw2 cp2 bod none tN_sheet gN_sheet 0 0 [69] (fun pc lv st h ce sl => mv_gd (Nat.beq ce 0 && Nat.beq sl 0) (cond (Nat.beq pc 69) (mv_gR 0 8 lv fun o0 => mv_gI 1 lv fun v1 => mv_gI 4 lv fun v4 => mv_sE st (q69 o0 v1 v4 h)) (none))) 400 (mv_seek 69 tN_sheet) [(0, Sum.inr (8, o0)), (1, Sum.inl (Value.int v1)), (4, Sum.inl (Value.int v4))] [] h 0 0 = (
  if (nI 40) ≤ v4 then (
    some ([Sum.inl (Value.int (nI 1))], h))
  else
  mv_gd (mv_inb (((nI 40) * v1) + v4) 160) <|
  mv_bh (wI2 h 915 o0 (((nI 40) * v1) + v4).toNatClampNeg (nI 0)) fun h1 =>
  mv_bi (v4 + (nI 1)) fun x2 =>
  q69 o0 v1 x2 h1) := eN_sheet_b69_g fN_in fN_isFour q69 o0 v1 v4 h
set_option maxRecDepth 100000 in
set_option maxHeartbeats 1000000 in
theorem eN_sheet_b44_g (F1 : Int64 → Int64 → Int64 → H2 → O2) (F2 : Int32 → H2 → O2) (q69 : Nat → Int32 → Int32 → H2 → O2) (o0 : Nat) (v1 : Int32) (v2 : Int32) (v3 : Int32) (h : H2) : mv_blk rI2 rR2 ln2 wI2 wR2 nw2 cp2 bod none tN_sheet [((0, 0), cN_isFourG_N_sheet F2), ((0, 0), cN_inG_N_sheet F1)] 0 0 [69] (fun pc lv st h ce sl => mv_gd (Nat.beq ce 0 && Nat.beq sl 0) (cond (Nat.beq pc 69) (mv_gR 0 8 lv fun o0 => mv_gI 1 lv fun v1 => mv_gI 4 lv fun v4 => mv_sE st (q69 o0 v1 v4 h)) (none))) 400 (mv_seek 44 tN_sheet) [(0, Sum.inr (8, o0)), (1, Sum.inl (Value.int v1)), (2, Sum.inl (Value.int v2)), (3, Sum.inl (Value.int v3))] [] h 0 0 = (
  mv_gd (mv_inb v1 4) <|
  mv_bh (wI2 h 913 o0 v1.toNatClampNeg v2) fun h1 =>
  if 0 ≤ v2 then (
    mv_gd (mv_inb v1 4) <|
    mv_bh (wI2 h1 914 o0 v1.toNatClampNeg v3) fun h2 =>
    mv_bi (nI 0) fun x3 =>
    q69 o0 v1 x3 h2)
  else
  mv_gd (mv_inb v1 4) <|
  mv_bh (wI2 h1 914 o0 v1.toNatClampNeg (nI 0)) fun h4 =>
  mv_bi (nI 0) fun x5 =>
  q69 o0 v1 x5 h4) := rfl
theorem eN_sheet_b44 (q69 : Nat → Int32 → Int32 → H2 → O2) (o0 : Nat) (v1 : Int32) (v2 : Int32) (v3 : Int32) (h : H2) : mv_blk rI2 rR2 ln2 wI2 wR2 nw2 cp2 bod none tN_sheet gN_sheet 0 0 [69] (fun pc lv st h ce sl => mv_gd (Nat.beq ce 0 && Nat.beq sl 0) (cond (Nat.beq pc 69) (mv_gR 0 8 lv fun o0 => mv_gI 1 lv fun v1 => mv_gI 4 lv fun v4 => mv_sE st (q69 o0 v1 v4 h)) (none))) 400 (mv_seek 44 tN_sheet) [(0, Sum.inr (8, o0)), (1, Sum.inl (Value.int v1)), (2, Sum.inl (Value.int v2)), (3, Sum.inl (Value.int v3))] [] h 0 0 = (
  mv_gd (mv_inb v1 4) <|
  mv_bh (wI2 h 913 o0 v1.toNatClampNeg v2) fun h1 =>
  if 0 ≤ v2 then (
    mv_gd (mv_inb v1 4) <|
    mv_bh (wI2 h1 914 o0 v1.toNatClampNeg v3) fun h2 =>
    mv_bi (nI 0) fun x3 =>
    q69 o0 v1 x3 h2)
  else
  mv_gd (mv_inb v1 4) <|
  mv_bh (wI2 h1 914 o0 v1.toNatClampNeg (nI 0)) fun h4 =>
  mv_bi (nI 0) fun x5 =>
  q69 o0 v1 x5 h4) := eN_sheet_b44_g fN_in fN_isFour q69 o0 v1 v2 v3 h
set_option maxRecDepth 100000 in
set_option maxHeartbeats 1000000 in
theorem eN_sheet_g (F1 : Int64 → Int64 → Int64 → H2 → O2) (F2 : Int32 → H2 → O2) (q44 : Nat → Int32 → Int32 → Int32 → H2 → O2) (o0 : Nat) (v1 : Int32) (v2 : Int32) (v3 : Int32) (h : H2) : mv_blk rI2 rR2 ln2 wI2 wR2 nw2 cp2 bod none tN_sheet [((0, 0), cN_isFourG_N_sheet F2), ((0, 0), cN_inG_N_sheet F1)] 0 0 [44] (fun pc lv st h ce sl => mv_gd (Nat.beq ce 0 && Nat.beq sl 0) (cond (Nat.beq pc 44) (mv_gR 0 8 lv fun o0 => mv_gI 1 lv fun v1 => mv_gI 2 lv fun v2 => mv_gI 3 lv fun v3 => mv_sE st (q44 o0 v1 v2 v3 h)) (none))) 400 (mv_seek 0 tN_sheet) [(0, Sum.inr (8, o0)), (1, Sum.inl (Value.int v1)), (2, Sum.inl (Value.int v2)), (3, Sum.inl (Value.int v3))] [] h 0 0 = (
  mv_rI (F2 v1 h) fun r2 h1 =>
  if r2 = 0 then (
    some ([Sum.inl (Value.int (-(nI 1)))], h1))
  else
  mv_rI (F1 v2.toInt64 (-(lN 1)) (lN 3) h1) fun r4 h3 =>
  if r4 = 0 then (
    some ([Sum.inl (Value.int (-(nI 1)))], h3))
  else
  if v2 < 0 then (
    if v2 < 0 then (
      q44 o0 v1 v2 v3 h3)
    else
    if 0 ≤ v3 then (
      q44 o0 v1 v2 v3 h3)
    else
    some ([Sum.inl (Value.int (-(nI 14)))], h3))
  else
  if v3 ≤ (nI 40) then (
    if v2 < 0 then (
      q44 o0 v1 v2 v3 h3)
    else
    if 0 ≤ v3 then (
      q44 o0 v1 v2 v3 h3)
    else
    some ([Sum.inl (Value.int (-(nI 14)))], h3))
  else
  some ([Sum.inl (Value.int (-(nI 1)))], h3)) := rfl
theorem eN_sheet (q44 : Nat → Int32 → Int32 → Int32 → H2 → O2) (o0 : Nat) (v1 : Int32) (v2 : Int32) (v3 : Int32) (h : H2) : mv_blk rI2 rR2 ln2 wI2 wR2 nw2 cp2 bod none tN_sheet gN_sheet 0 0 [44] (fun pc lv st h ce sl => mv_gd (Nat.beq ce 0 && Nat.beq sl 0) (cond (Nat.beq pc 44) (mv_gR 0 8 lv fun o0 => mv_gI 1 lv fun v1 => mv_gI 2 lv fun v2 => mv_gI 3 lv fun v3 => mv_sE st (q44 o0 v1 v2 v3 h)) (none))) 400 (mv_seek 0 tN_sheet) [(0, Sum.inr (8, o0)), (1, Sum.inl (Value.int v1)), (2, Sum.inl (Value.int v2)), (3, Sum.inl (Value.int v3))] [] h 0 0 = (
  mv_rI (fN_isFour v1 h) fun r2 h1 =>
  if r2 = 0 then (
    some ([Sum.inl (Value.int (-(nI 1)))], h1))
  else
  mv_rI (fN_in v2.toInt64 (-(lN 1)) (lN 3) h1) fun r4 h3 =>
  if r4 = 0 then (
    some ([Sum.inl (Value.int (-(nI 1)))], h3))
  else
  if v2 < 0 then (
    if v2 < 0 then (
      q44 o0 v1 v2 v3 h3)
    else
    if 0 ≤ v3 then (
      q44 o0 v1 v2 v3 h3)
    else
    some ([Sum.inl (Value.int (-(nI 14)))], h3))
  else
  if v3 ≤ (nI 40) then (
    if v2 < 0 then (
      q44 o0 v1 v2 v3 h3)
    else
    if 0 ≤ v3 then (
      q44 o0 v1 v2 v3 h3)
    else
    some ([Sum.inl (Value.int (-(nI 14)))], h3))
  else
  some ([Sum.inl (Value.int (-(nI 1)))], h3)) := eN_sheet_g fN_in fN_isFour q44 o0 v1 v2 v3 h
theorem GN_sheet : ∀ (j : Nat) (C : mv_C H2) (md' : mv_MD × Bool), mv_nth j gN_sheet = some C → mv_nth j nN_sheet = some md' → ∃ n', n' + 1 ≤ 3 ∧ mv_Cal vw2 n' md' C := fun j C md' => match j with
  | 0 => fun h1 h2 => by
    obtain rfl := Option.some.inj h1
    obtain rfl := Option.some.inj h2
    exact ⟨2, by decide, cN_isFour_ok⟩
  | 1 => fun h1 h2 => by
    obtain rfl := Option.some.inj h1
    obtain rfl := Option.some.inj h2
    exact ⟨1, by decide, cN_in_ok⟩
  | jj + 2 => fun h1 _ => by cases jj <;> cases h1

set_option maxRecDepth 20000 in
theorem xN_sheet_b69 {g0 : mv_G} {res : List mv_V × H2} : ∀ (n : Nat) (o0 : Nat) (v1 : Int32) (v4 : Int32) (h : H2), fN_sheet_b69 n o0 v1 v4 h = some res → mv_X vw2 mdN_sheet 3 0 0 none g0 res 69 [(0, Sum.inr (8, o0)), (1, Sum.inl (Value.int v1)), (4, Sum.inl (Value.int v4))] [] h 0 0 := by
  intro n
  induction n with
  | zero => intro o0 v1 v4 h hh; cases hh
  | succ n ih =>
    intro o0 v1 v4 h hh
    refine mv_blkX ax2 (GN_sheet) (by decide) kN_sheet (fun pc lv st h ce sl hh => ?_) ((eN_sheet_b69 (fN_sheet_b69 n) o0 v1 v4 h).trans hh)
    obtain ⟨hg, hh1⟩ := mv_gd_some hh
    obtain ⟨rfl, rfl⟩ := mv_z2 hg
    rcases mv_cond_some hh1 with ⟨hb, hh2⟩ | ⟨hb, hh3⟩
    · obtain rfl := Nat.eq_of_beq_eq_true hb
      obtain ⟨o0, m0, hh4⟩ := mv_gR_some hh2
      obtain ⟨v1, m1, hh5⟩ := mv_gI_some hh4
      obtain ⟨v4, m2, hh6⟩ := mv_gI_some hh5
      obtain ⟨rfl, hh7⟩ := mv_sE_some hh6
      exact (ih o0 v1 v4 h hh7).sub (List.forall_mem_cons.mpr ⟨m0, (List.forall_mem_cons.mpr ⟨m1, (List.forall_mem_cons.mpr ⟨m2, (fun q hq => by cases hq)⟩)⟩)⟩)
    cases hh3

set_option maxRecDepth 20000 in
theorem xN_sheet_b44 {g0 : mv_G} {res : List mv_V × H2} (o0 : Nat) (v1 : Int32) (v2 : Int32) (v3 : Int32) (h : H2) (hh : fN_sheet_b44 o0 v1 v2 v3 h = some res) : mv_X vw2 mdN_sheet 3 0 0 none g0 res 44 [(0, Sum.inr (8, o0)), (1, Sum.inl (Value.int v1)), (2, Sum.inl (Value.int v2)), (3, Sum.inl (Value.int v3))] [] h 0 0 := by
  refine mv_blkX ax2 (GN_sheet) (by decide) kN_sheet (fun pc lv st h ce sl hh => ?_) ((eN_sheet_b44 (fN_sheet_b69 1000) o0 v1 v2 v3 h).trans hh)
  obtain ⟨hg, hh1⟩ := mv_gd_some hh
  obtain ⟨rfl, rfl⟩ := mv_z2 hg
  rcases mv_cond_some hh1 with ⟨hb, hh2⟩ | ⟨hb, hh3⟩
  · obtain rfl := Nat.eq_of_beq_eq_true hb
    obtain ⟨o0, m0, hh4⟩ := mv_gR_some hh2
    obtain ⟨v1, m1, hh5⟩ := mv_gI_some hh4
    obtain ⟨v4, m2, hh6⟩ := mv_gI_some hh5
    obtain ⟨rfl, hh7⟩ := mv_sE_some hh6
    exact (xN_sheet_b69 1000 o0 v1 v4 h hh7).sub (List.forall_mem_cons.mpr ⟨m0, (List.forall_mem_cons.mpr ⟨m1, (List.forall_mem_cons.mpr ⟨m2, (fun q hq => by cases hq)⟩)⟩)⟩)
  cases hh3

set_option maxRecDepth 20000 in
theorem xN_sheet {g0 : mv_G} {res : List mv_V × H2} (o0 : Nat) (v1 : Int32) (v2 : Int32) (v3 : Int32) (h : H2) (hh : fN_sheet o0 v1 v2 v3 h = some res) : mv_X vw2 mdN_sheet 3 0 0 none g0 res 0 [(0, Sum.inr (8, o0)), (1, Sum.inl (Value.int v1)), (2, Sum.inl (Value.int v2)), (3, Sum.inl (Value.int v3))] [] h 0 0 := by
  refine mv_blkX ax2 (GN_sheet) (by decide) kN_sheet (fun pc lv st h ce sl hh => ?_) ((eN_sheet (fN_sheet_b44) o0 v1 v2 v3 h).trans hh)
  obtain ⟨hg, hh1⟩ := mv_gd_some hh
  obtain ⟨rfl, rfl⟩ := mv_z2 hg
  rcases mv_cond_some hh1 with ⟨hb, hh2⟩ | ⟨hb, hh3⟩
  · obtain rfl := Nat.eq_of_beq_eq_true hb
    obtain ⟨o0, m0, hh4⟩ := mv_gR_some hh2
    obtain ⟨v1, m1, hh5⟩ := mv_gI_some hh4
    obtain ⟨v2, m2, hh6⟩ := mv_gI_some hh5
    obtain ⟨v3, m3, hh7⟩ := mv_gI_some hh6
    obtain ⟨rfl, hh8⟩ := mv_sE_some hh7
    exact (xN_sheet_b44  o0 v1 v2 v3 h hh8).sub (List.forall_mem_cons.mpr ⟨m0, (List.forall_mem_cons.mpr ⟨m1, (List.forall_mem_cons.mpr ⟨m2, (List.forall_mem_cons.mpr ⟨m3, (fun q hq => by cases hq)⟩)⟩)⟩)⟩)
  cases hh3

theorem mN_sheet (o0 : Nat) (v1 : Int32) (v2 : Int32) (v3 : Int32) (h : H2) (vs : List mv_V) (h' : H2) (hh : fN_sheet o0 v1 v2 v3 h = some (vs, h')) : mv_Met vw2 3 0 0 mdN_sheet [Sum.inr (8, o0), Sum.inl (Value.int v1), Sum.inl (Value.int v2), Sum.inl (Value.int v3)] h vs h' :=
  mv_Met_of (by decide +kernel) (Nat.le_of_ble_eq_true rfl) (xN_sheet o0 v1 v2 v3 h hh)
set_option maxRecDepth 100000 in
theorem kN_narrowed : mv_tok mdN_narrowed nN_narrowed tN_narrowed = true := by decide +kernel
set_option maxRecDepth 100000 in
set_option maxHeartbeats 1000000 in
theorem eN_narrowed (v0 : Int32) (v1 : Int32) (h : H2) : mv_blk rI2 rR2 ln2 wI2 wR2 nw2 cp2 bod none tN_narrowed gN_narrowed 0 0 [] (fun _ _ _ _ _ _ => none) 400 (mv_seek 0 tN_narrowed) [(0, Sum.inl (Value.int v0)), (1, Sum.inl (Value.int v1))] [] h 0 0 = (
  if v0 = 0 then (
    some ([Sum.inl (Value.int v1.toInt8.toInt32)], h))
  else
  if v0 = (nI 1) then (
    some ([Sum.inl (Value.int v1.toInt16.toInt32)], h))
  else
  some ([Sum.inl (Value.int v1)], h)) := rfl
theorem GN_narrowed : ∀ (j : Nat) (C : mv_C H2) (md' : mv_MD × Bool), mv_nth j gN_narrowed = some C → mv_nth j nN_narrowed = some md' → ∃ n', n' + 1 ≤ 1 ∧ mv_Cal vw2 n' md' C := fun j C md' h1 _ => by cases j <;> cases h1

set_option maxRecDepth 20000 in
theorem xN_narrowed {g0 : mv_G} {res : List mv_V × H2} (v0 : Int32) (v1 : Int32) (h : H2) (hh : fN_narrowed v0 v1 h = some res) : mv_X vw2 mdN_narrowed 1 0 0 none g0 res 0 [(0, Sum.inl (Value.int v0)), (1, Sum.inl (Value.int v1))] [] h 0 0 := by
  refine mv_blkX ax2 (GN_narrowed) (by decide) kN_narrowed (fun pc lv st h ce sl hh => ?_) ((eN_narrowed  v0 v1 h).trans hh)
  cases hh

theorem mN_narrowed (v0 : Int32) (v1 : Int32) (h : H2) (vs : List mv_V) (h' : H2) (hh : fN_narrowed v0 v1 h = some (vs, h')) : mv_Met vw2 1 0 0 mdN_narrowed [Sum.inl (Value.int v0), Sum.inl (Value.int v1)] h vs h' :=
  mv_Met_of (by decide +kernel) (Nat.le_of_ble_eq_true rfl) (xN_narrowed v0 v1 h hh)
theorem cN_narrowed_ok : mv_Cal vw2 1 (mdN_narrowed, false) ((0, 0), cN_narrowed) := by
  intro as h k res hh
  change cN_narrowed as h k = some res at hh
  unfold cN_narrowed at hh
  split at hh
  · obtain ⟨x, h', h1, h9⟩ := mv_rI_some hh
    exact ⟨_, _, h9, (by first | decide | exact Nat.le_refl _ | exact Nat.zero_le _), (fun h => by cases h), (mN_narrowed _ _ h _ _ h1)⟩
  · cases hh

set_option maxRecDepth 100000 in
theorem kN_put : mv_tok mdN_put nN_put tN_put = true := by decide +kernel
def cN_inG_N_put (F1 : Int64 → Int64 → Int64 → H2 → O2) : List mv_V → H2 → (List mv_V → H2 → O2) → O2 := fun as h k => match as with
  | [.inl (.long w0), .inl (.long w2), .inl (.long w4)] => mv_rI (F1 w0 w2 w4 h) fun x h => k [.inl (.int x)] h
  | _ => none
def cN_isFourG_N_put (F2 : Int32 → H2 → O2) : List mv_V → H2 → (List mv_V → H2 → O2) → O2 := fun as h k => match as with
  | [.inl (.int v0)] => mv_rI (F2 v0 h) fun x h => k [.inl (.int x)] h
  | _ => none
def cN_narrowedG_N_put (F3 : Int32 → Int32 → H2 → O2) : List mv_V → H2 → (List mv_V → H2 → O2) → O2 := fun as h k => match as with
  | [.inl (.int v0), .inl (.int v1)] => mv_rI (F3 v0 v1 h) fun x h => k [.inl (.int x)] h
  | _ => none
set_option maxRecDepth 100000 in
set_option maxHeartbeats 1000000 in
theorem eN_put_g (F1 : Int64 → Int64 → Int64 → H2 → O2) (F2 : Int32 → H2 → O2) (F3 : Int32 → Int32 → H2 → O2) (o0 : Nat) (v1 : Int32) (v2 : Int32) (v3 : Int32) (h : H2) : mv_blk rI2 rR2 ln2 wI2 wR2 nw2 cp2 bod none tN_put [((0, 0), cN_isFourG_N_put F2), ((0, 0), cN_inG_N_put F1), ((0, 0), cN_narrowedG_N_put F3)] 0 0 [] (fun _ _ _ _ _ _ => none) 400 (mv_seek 0 tN_put) [(0, Sum.inr (8, o0)), (1, Sum.inl (Value.int v1)), (2, Sum.inl (Value.int v2)), (3, Sum.inl (Value.int v3))] [] h 0 0 = (
  mv_rI (F2 v1 h) fun r2 h1 =>
  if r2 = 0 then (
    some ([Sum.inl (Value.int (-(nI 1)))], h1))
  else
  mv_gd (mv_inb v1 4) <|
  if 0 ≤ (rI2 h1 913 o0 v1.toNatClampNeg) then (
    mv_gd (mv_inb v1 4) <|
    mv_rI (F1 v2.toInt64 (lN 0) (((rI2 h1 914 o0 v1.toNatClampNeg) - (nI 1)).toInt64) h1) fun r4 h3 =>
    if r4 = 0 then (
      some ([Sum.inl (Value.int (-(nI 12)))], h3))
    else
    mv_gd (mv_inb v1 4) <|
    mv_rI (F3 (rI2 h3 913 o0 v1.toNatClampNeg) v3 h3) fun r6 h5 =>
    mv_gd (mv_inb (((nI 40) * v1) + v2) 160) <|
    mv_bh (wI2 h5 915 o0 (((nI 40) * v1) + v2).toNatClampNeg r6) fun h7 =>
    some ([Sum.inl (Value.int (nI 1))], h7))
  else
  some ([Sum.inl (Value.int (-(nI 11)))], h1)) := rfl
theorem eN_put (o0 : Nat) (v1 : Int32) (v2 : Int32) (v3 : Int32) (h : H2) : mv_blk rI2 rR2 ln2 wI2 wR2 nw2 cp2 bod none tN_put gN_put 0 0 [] (fun _ _ _ _ _ _ => none) 400 (mv_seek 0 tN_put) [(0, Sum.inr (8, o0)), (1, Sum.inl (Value.int v1)), (2, Sum.inl (Value.int v2)), (3, Sum.inl (Value.int v3))] [] h 0 0 = (
  mv_rI (fN_isFour v1 h) fun r2 h1 =>
  if r2 = 0 then (
    some ([Sum.inl (Value.int (-(nI 1)))], h1))
  else
  mv_gd (mv_inb v1 4) <|
  if 0 ≤ (rI2 h1 913 o0 v1.toNatClampNeg) then (
    mv_gd (mv_inb v1 4) <|
    mv_rI (fN_in v2.toInt64 (lN 0) (((rI2 h1 914 o0 v1.toNatClampNeg) - (nI 1)).toInt64) h1) fun r4 h3 =>
    if r4 = 0 then (
      some ([Sum.inl (Value.int (-(nI 12)))], h3))
    else
    mv_gd (mv_inb v1 4) <|
    mv_rI (fN_narrowed (rI2 h3 913 o0 v1.toNatClampNeg) v3 h3) fun r6 h5 =>
    mv_gd (mv_inb (((nI 40) * v1) + v2) 160) <|
    mv_bh (wI2 h5 915 o0 (((nI 40) * v1) + v2).toNatClampNeg r6) fun h7 =>
    some ([Sum.inl (Value.int (nI 1))], h7))
  else
  some ([Sum.inl (Value.int (-(nI 11)))], h1)) := eN_put_g fN_in fN_isFour fN_narrowed o0 v1 v2 v3 h
theorem GN_put : ∀ (j : Nat) (C : mv_C H2) (md' : mv_MD × Bool), mv_nth j gN_put = some C → mv_nth j nN_put = some md' → ∃ n', n' + 1 ≤ 3 ∧ mv_Cal vw2 n' md' C := fun j C md' => match j with
  | 0 => fun h1 h2 => by
    obtain rfl := Option.some.inj h1
    obtain rfl := Option.some.inj h2
    exact ⟨2, by decide, cN_isFour_ok⟩
  | 1 => fun h1 h2 => by
    obtain rfl := Option.some.inj h1
    obtain rfl := Option.some.inj h2
    exact ⟨1, by decide, cN_in_ok⟩
  | 2 => fun h1 h2 => by
    obtain rfl := Option.some.inj h1
    obtain rfl := Option.some.inj h2
    exact ⟨1, by decide, cN_narrowed_ok⟩
  | jj + 3 => fun h1 _ => by cases jj <;> cases h1

set_option maxRecDepth 20000 in
theorem xN_put {g0 : mv_G} {res : List mv_V × H2} (o0 : Nat) (v1 : Int32) (v2 : Int32) (v3 : Int32) (h : H2) (hh : fN_put o0 v1 v2 v3 h = some res) : mv_X vw2 mdN_put 3 0 0 none g0 res 0 [(0, Sum.inr (8, o0)), (1, Sum.inl (Value.int v1)), (2, Sum.inl (Value.int v2)), (3, Sum.inl (Value.int v3))] [] h 0 0 := by
  refine mv_blkX ax2 (GN_put) (by decide) kN_put (fun pc lv st h ce sl hh => ?_) ((eN_put  o0 v1 v2 v3 h).trans hh)
  cases hh

theorem mN_put (o0 : Nat) (v1 : Int32) (v2 : Int32) (v3 : Int32) (h : H2) (vs : List mv_V) (h' : H2) (hh : fN_put o0 v1 v2 v3 h = some (vs, h')) : mv_Met vw2 3 0 0 mdN_put [Sum.inr (8, o0), Sum.inl (Value.int v1), Sum.inl (Value.int v2), Sum.inl (Value.int v3)] h vs h' :=
  mv_Met_of (by decide +kernel) (Nat.le_of_ble_eq_true rfl) (xN_put o0 v1 v2 v3 h hh)
set_option maxRecDepth 100000 in
theorem kN_item_ : mv_tok mdN_item_ nN_item_ tN_item_ = true := by decide +kernel
def cN_inG_N_item_ (F1 : Int64 → Int64 → Int64 → H2 → O2) : List mv_V → H2 → (List mv_V → H2 → O2) → O2 := fun as h k => match as with
  | [.inl (.long w0), .inl (.long w2), .inl (.long w4)] => mv_rI (F1 w0 w2 w4 h) fun x h => k [.inl (.int x)] h
  | _ => none
def cN_isFourG_N_item_ (F2 : Int32 → H2 → O2) : List mv_V → H2 → (List mv_V → H2 → O2) → O2 := fun as h k => match as with
  | [.inl (.int v0)] => mv_rI (F2 v0 h) fun x h => k [.inl (.int x)] h
  | _ => none
set_option maxRecDepth 100000 in
set_option maxHeartbeats 1000000 in
theorem eN_item__g (F1 : Int64 → Int64 → Int64 → H2 → O2) (F2 : Int32 → H2 → O2) (o0 : Nat) (v1 : Int32) (v2 : Int32) (v3 : Int32) (h : H2) : mv_blk rI2 rR2 ln2 wI2 wR2 nw2 cp2 bod none tN_item_ [((0, 0), cN_isFourG_N_item_ F2), ((0, 0), cN_inG_N_item_ F1)] 0 0 [] (fun _ _ _ _ _ _ => none) 400 (mv_seek 0 tN_item_) [(0, Sum.inr (8, o0)), (1, Sum.inl (Value.int v1)), (2, Sum.inl (Value.int v2)), (3, Sum.inl (Value.int v3))] [] h 0 0 = (
  mv_rI (F2 v1 h) fun r2 h1 =>
  if r2 = 0 then (
    some ([Sum.inl (Value.int (-(nI 1)))], h1))
  else
  mv_rI (F1 v2.toInt64 (lN 0) (lN 3) h1) fun r4 h3 =>
  if r4 = 0 then (
    some ([Sum.inl (Value.int (-(nI 1)))], h3))
  else
  mv_gd (mv_inb v1 4) <|
  if 0 ≤ (rI2 h3 913 o0 v1.toNatClampNeg) then (
    mv_gd (mv_inb v1 4) <|
    if (rI2 h3 913 o0 v1.toNatClampNeg) = v2 then (
      mv_gd (mv_inb v1 4) <|
      mv_rI (F1 v3.toInt64 (lN 0) (((rI2 h3 914 o0 v1.toNatClampNeg) - (nI 1)).toInt64) h3) fun r6 h5 =>
      if r6 = 0 then (
        some ([Sum.inl (Value.int (-(nI 12)))], h5))
      else
      mv_gd (mv_inb (((nI 40) * v1) + v3) 160) <|
      some ([Sum.inl (Value.int (rI2 h5 915 o0 (((nI 40) * v1) + v3).toNatClampNeg))], h5))
    else
    some ([Sum.inl (Value.int (-(nI 13)))], h3))
  else
  some ([Sum.inl (Value.int (-(nI 11)))], h3)) := rfl
theorem eN_item_ (o0 : Nat) (v1 : Int32) (v2 : Int32) (v3 : Int32) (h : H2) : mv_blk rI2 rR2 ln2 wI2 wR2 nw2 cp2 bod none tN_item_ gN_item_ 0 0 [] (fun _ _ _ _ _ _ => none) 400 (mv_seek 0 tN_item_) [(0, Sum.inr (8, o0)), (1, Sum.inl (Value.int v1)), (2, Sum.inl (Value.int v2)), (3, Sum.inl (Value.int v3))] [] h 0 0 = (
  mv_rI (fN_isFour v1 h) fun r2 h1 =>
  if r2 = 0 then (
    some ([Sum.inl (Value.int (-(nI 1)))], h1))
  else
  mv_rI (fN_in v2.toInt64 (lN 0) (lN 3) h1) fun r4 h3 =>
  if r4 = 0 then (
    some ([Sum.inl (Value.int (-(nI 1)))], h3))
  else
  mv_gd (mv_inb v1 4) <|
  if 0 ≤ (rI2 h3 913 o0 v1.toNatClampNeg) then (
    mv_gd (mv_inb v1 4) <|
    if (rI2 h3 913 o0 v1.toNatClampNeg) = v2 then (
      mv_gd (mv_inb v1 4) <|
      mv_rI (fN_in v3.toInt64 (lN 0) (((rI2 h3 914 o0 v1.toNatClampNeg) - (nI 1)).toInt64) h3) fun r6 h5 =>
      if r6 = 0 then (
        some ([Sum.inl (Value.int (-(nI 12)))], h5))
      else
      mv_gd (mv_inb (((nI 40) * v1) + v3) 160) <|
      some ([Sum.inl (Value.int (rI2 h5 915 o0 (((nI 40) * v1) + v3).toNatClampNeg))], h5))
    else
    some ([Sum.inl (Value.int (-(nI 13)))], h3))
  else
  some ([Sum.inl (Value.int (-(nI 11)))], h3)) := eN_item__g fN_in fN_isFour o0 v1 v2 v3 h
theorem GN_item_ : ∀ (j : Nat) (C : mv_C H2) (md' : mv_MD × Bool), mv_nth j gN_item_ = some C → mv_nth j nN_item_ = some md' → ∃ n', n' + 1 ≤ 3 ∧ mv_Cal vw2 n' md' C := fun j C md' => match j with
  | 0 => fun h1 h2 => by
    obtain rfl := Option.some.inj h1
    obtain rfl := Option.some.inj h2
    exact ⟨2, by decide, cN_isFour_ok⟩
  | 1 => fun h1 h2 => by
    obtain rfl := Option.some.inj h1
    obtain rfl := Option.some.inj h2
    exact ⟨1, by decide, cN_in_ok⟩
  | jj + 2 => fun h1 _ => by cases jj <;> cases h1

set_option maxRecDepth 20000 in
theorem xN_item_ {g0 : mv_G} {res : List mv_V × H2} (o0 : Nat) (v1 : Int32) (v2 : Int32) (v3 : Int32) (h : H2) (hh : fN_item_ o0 v1 v2 v3 h = some res) : mv_X vw2 mdN_item_ 3 0 0 none g0 res 0 [(0, Sum.inr (8, o0)), (1, Sum.inl (Value.int v1)), (2, Sum.inl (Value.int v2)), (3, Sum.inl (Value.int v3))] [] h 0 0 := by
  refine mv_blkX ax2 (GN_item_) (by decide) kN_item_ (fun pc lv st h ce sl hh => ?_) ((eN_item_  o0 v1 v2 v3 h).trans hh)
  cases hh

theorem mN_item_ (o0 : Nat) (v1 : Int32) (v2 : Int32) (v3 : Int32) (h : H2) (vs : List mv_V) (h' : H2) (hh : fN_item_ o0 v1 v2 v3 h = some (vs, h')) : mv_Met vw2 3 0 0 mdN_item_ [Sum.inr (8, o0), Sum.inl (Value.int v1), Sum.inl (Value.int v2), Sum.inl (Value.int v3)] h vs h' :=
  mv_Met_of (by decide +kernel) (Nat.le_of_ble_eq_true rfl) (xN_item_ o0 v1 v2 v3 h hh)
