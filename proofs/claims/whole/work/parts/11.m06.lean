set_option maxRecDepth 100000 in
theorem kR_read : mv_tok mdR_read nR_read tR_read = true := by decide +kernel
set_option maxRecDepth 100000 in
set_option maxHeartbeats 1000000 in
theorem eR_read (o0 : Nat) (v1 : Int32) (v2 : Int32) (h : H2) : mv_blk rI2 rR2 ln2 wI2 wR2 nw2 cp2 bod none tR_read gR_read 0 0 [] (fun _ _ _ _ _ _ => none) 400 (mv_seek 0 tR_read) [(0, Sum.inr (3, o0)), (1, Sum.inl (Value.int v1)), (2, Sum.inl (Value.int v2))] [] h 0 0 = (
  mv_gd (mv_inb ((v1 * (nI 3)) + v2) 30) <|
  some ([Sum.inl (Value.int (rI2 h 400 o0 ((v1 * (nI 3)) + v2).toNatClampNeg))], h)) := rfl
theorem GR_read : ∀ (j : Nat) (C : mv_C H2) (md' : mv_MD × Bool), mv_nth j gR_read = some C → mv_nth j nR_read = some md' → ∃ n', n' + 1 ≤ 1 ∧ mv_Cal vw2 n' md' C := fun j C md' h1 _ => by cases j <;> cases h1

set_option maxRecDepth 20000 in
theorem xR_read {g0 : mv_G} {res : List mv_V × H2} (o0 : Nat) (v1 : Int32) (v2 : Int32) (h : H2) (hh : fR_read o0 v1 v2 h = some res) : mv_X vw2 mdR_read 1 0 0 none g0 res 0 [(0, Sum.inr (3, o0)), (1, Sum.inl (Value.int v1)), (2, Sum.inl (Value.int v2))] [] h 0 0 := by
  refine mv_blkX ax2 (GR_read) (by decide) kR_read (fun pc lv st h ce sl hh => ?_) ((eR_read  o0 v1 v2 h).trans hh)
  cases hh

theorem mR_read (o0 : Nat) (v1 : Int32) (v2 : Int32) (h : H2) (vs : List mv_V) (h' : H2) (hh : fR_read o0 v1 v2 h = some (vs, h')) : mv_Met vw2 1 0 0 mdR_read [Sum.inr (3, o0), Sum.inl (Value.int v1), Sum.inl (Value.int v2)] h vs h' :=
  mv_Met_of (by decide +kernel) (Nat.le_of_ble_eq_true rfl) (xR_read o0 v1 v2 h hh)
theorem cR_read_ok : mv_Cal vw2 1 (mdR_read, true) ((0, 0), cR_read) := by
  intro as h k res hh
  change cR_read as h k = some res at hh
  unfold cR_read at hh
  split at hh
  · obtain ⟨hg0, ha0⟩ := mv_gd_some hh
    obtain rfl := Nat.eq_of_beq_eq_true hg0
    obtain ⟨x, h', h1, h9⟩ := mv_rI_some ha0
    exact ⟨_, _, h9, (by first | decide | exact Nat.le_refl _ | exact Nat.zero_le _), fun _ => ⟨_, _, _, rfl, Or.inl ⟨by decide, rfl⟩⟩, (mR_read _ _ _ h _ _ h1)⟩
  · cases hh

set_option maxRecDepth 100000 in
theorem kF_firstWrongRow : mv_tok mdF_firstWrongRow nF_firstWrongRow tF_firstWrongRow = true := by decide +kernel
set_option maxRecDepth 100000 in
set_option maxHeartbeats 1000000 in
theorem eF_firstWrongRow_b30 (q11 : Nat → Int32 → Nat → Int32 → H2 → O2) (q30 : Nat → Int32 → Nat → Int32 → Int32 → H2 → O2) (o0 : Nat) (v2 : Int32) (o3 : Nat) (v4 : Int32) (v5 : Int32) (h : H2) : mv_blk rI2 rR2 ln2 wI2 wR2 nw2 cp2 bod none tF_firstWrongRow gF_firstWrongRow 0 0 [11, 30] (fun pc lv st h ce sl => mv_gd (Nat.beq ce 0 && Nat.beq sl 0) (cond (Nat.beq pc 11) (mv_gR 0 1 lv fun o0 => mv_gI 2 lv fun v2 => mv_gR 3 3 lv fun o3 => mv_gI 4 lv fun v4 => mv_sE st (q11 o0 v2 o3 v4 h)) (cond (Nat.beq pc 30) (mv_gR 0 1 lv fun o0 => mv_gI 2 lv fun v2 => mv_gR 3 3 lv fun o3 => mv_gI 4 lv fun v4 => mv_gI 5 lv fun v5 => mv_sE st (q30 o0 v2 o3 v4 v5 h)) (none)))) 400 (mv_seek 30 tF_firstWrongRow) [(0, Sum.inr (1, o0)), (2, Sum.inl (Value.int v2)), (3, Sum.inr (3, o3)), (4, Sum.inl (Value.int v4)), (5, Sum.inl (Value.int v5))] [] h 0 0 = (
  if (nI 3) ≤ v5 then (
    mv_bi (v4 + (nI 1)) fun x1 =>
    q11 o0 v2 o3 x1 h)
  else
  mv_rI (fR_read o3 v4 v5 h) fun r3 h2 =>
  mv_rI (fF_rowPart o0 v2 v5 h2) fun r5 h4 =>
  if r3 = r5 then (
    mv_bi (v5 + (nI 1)) fun x6 =>
    q30 o0 v2 o3 v4 x6 h4)
  else
  some ([Sum.inl (Value.int (v4 + (nI 1)))], h4)) := rfl
set_option maxRecDepth 100000 in
set_option maxHeartbeats 1000000 in
theorem eF_firstWrongRow_b11 (q30 : Nat → Int32 → Nat → Int32 → Int32 → H2 → O2) (o0 : Nat) (v2 : Int32) (o3 : Nat) (v4 : Int32) (h : H2) : mv_blk rI2 rR2 ln2 wI2 wR2 nw2 cp2 bod none tF_firstWrongRow gF_firstWrongRow 0 0 [30] (fun pc lv st h ce sl => mv_gd (Nat.beq ce 0 && Nat.beq sl 0) (cond (Nat.beq pc 30) (mv_gR 0 1 lv fun o0 => mv_gI 2 lv fun v2 => mv_gR 3 3 lv fun o3 => mv_gI 4 lv fun v4 => mv_gI 5 lv fun v5 => mv_sE st (q30 o0 v2 o3 v4 v5 h)) (none))) 400 (mv_seek 11 tF_firstWrongRow) [(0, Sum.inr (1, o0)), (2, Sum.inl (Value.int v2)), (3, Sum.inr (3, o3)), (4, Sum.inl (Value.int v4))] [] h 0 0 = (
  if (rI2 h 3 o3 1) ≤ v4 then (
    some ([Sum.inl (Value.int (nI 0))], h))
  else
  mv_rV (fM_passDay 3 h) fun h1 =>
  mv_bi (nI 0) fun x2 =>
  q30 o0 v2 o3 v4 x2 h1) := rfl
set_option maxRecDepth 100000 in
set_option maxHeartbeats 1000000 in
theorem eF_firstWrongRow (q11 : Nat → Int32 → Nat → Int32 → H2 → O2) (o0 : Nat) (o1 : Nat) (v2 : Int32) (o3 : Nat) (h : H2) : mv_blk rI2 rR2 ln2 wI2 wR2 nw2 cp2 bod none tF_firstWrongRow gF_firstWrongRow 0 0 [11] (fun pc lv st h ce sl => mv_gd (Nat.beq ce 0 && Nat.beq sl 0) (cond (Nat.beq pc 11) (mv_gR 0 1 lv fun o0 => mv_gI 2 lv fun v2 => mv_gR 3 3 lv fun o3 => mv_gI 4 lv fun v4 => mv_sE st (q11 o0 v2 o3 v4 h)) (none))) 400 (mv_seek 0 tF_firstWrongRow) [(0, Sum.inr (1, o0)), (1, Sum.inr (2, o1)), (2, Sum.inl (Value.int v2)), (3, Sum.inr (3, o3))] [] h 0 0 = (
  mv_rV (fM_copyFrom 3 o1 h) fun h1 =>
  mv_bi (nI 0) fun x2 =>
  q11 o0 v2 o3 x2 h1) := rfl
theorem GF_firstWrongRow : ∀ (j : Nat) (C : mv_C H2) (md' : mv_MD × Bool), mv_nth j gF_firstWrongRow = some C → mv_nth j nF_firstWrongRow = some md' → ∃ n', n' + 1 ≤ 4 ∧ mv_Cal vw2 n' md' C := fun j C md' => match j with
  | 0 => fun h1 h2 => by
    obtain rfl := Option.some.inj h1
    obtain rfl := Option.some.inj h2
    exact ⟨1, by decide, cM_copyFrom_ok⟩
  | 1 => fun h1 h2 => by
    obtain rfl := Option.some.inj h1
    obtain rfl := Option.some.inj h2
    exact ⟨3, by decide, cM_passDay_ok⟩
  | 2 => fun h1 h2 => by
    obtain rfl := Option.some.inj h1
    obtain rfl := Option.some.inj h2
    exact ⟨1, by decide, cR_read_ok⟩
  | 3 => fun h1 h2 => by
    obtain rfl := Option.some.inj h1
    obtain rfl := Option.some.inj h2
    exact ⟨2, by decide, cF_rowPart_ok⟩
  | jj + 4 => fun h1 _ => by cases jj <;> cases h1

set_option maxRecDepth 20000 in
theorem xF_firstWrongRow_b30 {g0 : mv_G} {res : List mv_V × H2} {k11 : Nat → Int32 → Nat → Int32 → H2 → O2} (hk11 : ∀ (o0 : Nat) (v2 : Int32) (o3 : Nat) (v4 : Int32) h, k11 o0 v2 o3 v4 h = some res → mv_X vw2 mdF_firstWrongRow 4 0 0 none g0 res 11 [(0, Sum.inr (1, o0)), (2, Sum.inl (Value.int v2)), (3, Sum.inr (3, o3)), (4, Sum.inl (Value.int v4))] [] h 0 0) : ∀ (n : Nat) (o0 : Nat) (v2 : Int32) (o3 : Nat) (v4 : Int32) (v5 : Int32) (h : H2), fF_firstWrongRow_b30 k11 n o0 v2 o3 v4 v5 h = some res → mv_X vw2 mdF_firstWrongRow 4 0 0 none g0 res 30 [(0, Sum.inr (1, o0)), (2, Sum.inl (Value.int v2)), (3, Sum.inr (3, o3)), (4, Sum.inl (Value.int v4)), (5, Sum.inl (Value.int v5))] [] h 0 0 := by
  intro n
  induction n with
  | zero => intro o0 v2 o3 v4 v5 h hh; cases hh
  | succ n ih =>
    intro o0 v2 o3 v4 v5 h hh
    refine mv_blkX ax2 (GF_firstWrongRow) (by decide) kF_firstWrongRow (fun pc lv st h ce sl hh => ?_) ((eF_firstWrongRow_b30 (k11) (fF_firstWrongRow_b30 k11 n) o0 v2 o3 v4 v5 h).trans hh)
    obtain ⟨hg, hh1⟩ := mv_gd_some hh
    obtain ⟨rfl, rfl⟩ := mv_z2 hg
    rcases mv_cond_some hh1 with ⟨hb, hh2⟩ | ⟨hb, hh3⟩
    · obtain rfl := Nat.eq_of_beq_eq_true hb
      obtain ⟨o0, m0, hh4⟩ := mv_gR_some hh2
      obtain ⟨v2, m1, hh5⟩ := mv_gI_some hh4
      obtain ⟨o3, m2, hh6⟩ := mv_gR_some hh5
      obtain ⟨v4, m3, hh7⟩ := mv_gI_some hh6
      obtain ⟨rfl, hh8⟩ := mv_sE_some hh7
      exact (hk11 o0 v2 o3 v4 h hh8).sub (List.forall_mem_cons.mpr ⟨m0, (List.forall_mem_cons.mpr ⟨m1, (List.forall_mem_cons.mpr ⟨m2, (List.forall_mem_cons.mpr ⟨m3, (fun q hq => by cases hq)⟩)⟩)⟩)⟩)
    rcases mv_cond_some hh3 with ⟨hb, hh9⟩ | ⟨hb, hh10⟩
    · obtain rfl := Nat.eq_of_beq_eq_true hb
      obtain ⟨o0, m0, hh11⟩ := mv_gR_some hh9
      obtain ⟨v2, m1, hh12⟩ := mv_gI_some hh11
      obtain ⟨o3, m2, hh13⟩ := mv_gR_some hh12
      obtain ⟨v4, m3, hh14⟩ := mv_gI_some hh13
      obtain ⟨v5, m4, hh15⟩ := mv_gI_some hh14
      obtain ⟨rfl, hh16⟩ := mv_sE_some hh15
      exact (ih o0 v2 o3 v4 v5 h hh16).sub (List.forall_mem_cons.mpr ⟨m0, (List.forall_mem_cons.mpr ⟨m1, (List.forall_mem_cons.mpr ⟨m2, (List.forall_mem_cons.mpr ⟨m3, (List.forall_mem_cons.mpr ⟨m4, (fun q hq => by cases hq)⟩)⟩)⟩)⟩)⟩)
    cases hh10

set_option maxRecDepth 20000 in
theorem xF_firstWrongRow_b11 {g0 : mv_G} {res : List mv_V × H2} : ∀ (n : Nat) (o0 : Nat) (v2 : Int32) (o3 : Nat) (v4 : Int32) (h : H2), fF_firstWrongRow_b11 n o0 v2 o3 v4 h = some res → mv_X vw2 mdF_firstWrongRow 4 0 0 none g0 res 11 [(0, Sum.inr (1, o0)), (2, Sum.inl (Value.int v2)), (3, Sum.inr (3, o3)), (4, Sum.inl (Value.int v4))] [] h 0 0 := by
  intro n
  induction n with
  | zero => intro o0 v2 o3 v4 h hh; cases hh
  | succ n ih =>
    intro o0 v2 o3 v4 h hh
    refine mv_blkX ax2 (GF_firstWrongRow) (by decide) kF_firstWrongRow (fun pc lv st h ce sl hh => ?_) ((eF_firstWrongRow_b11 (fF_firstWrongRow_b30 (fF_firstWrongRow_b11 n) 1000) o0 v2 o3 v4 h).trans hh)
    obtain ⟨hg, hh1⟩ := mv_gd_some hh
    obtain ⟨rfl, rfl⟩ := mv_z2 hg
    rcases mv_cond_some hh1 with ⟨hb, hh2⟩ | ⟨hb, hh3⟩
    · obtain rfl := Nat.eq_of_beq_eq_true hb
      obtain ⟨o0, m0, hh4⟩ := mv_gR_some hh2
      obtain ⟨v2, m1, hh5⟩ := mv_gI_some hh4
      obtain ⟨o3, m2, hh6⟩ := mv_gR_some hh5
      obtain ⟨v4, m3, hh7⟩ := mv_gI_some hh6
      obtain ⟨v5, m4, hh8⟩ := mv_gI_some hh7
      obtain ⟨rfl, hh9⟩ := mv_sE_some hh8
      exact (xF_firstWrongRow_b30 ih 1000 o0 v2 o3 v4 v5 h hh9).sub (List.forall_mem_cons.mpr ⟨m0, (List.forall_mem_cons.mpr ⟨m1, (List.forall_mem_cons.mpr ⟨m2, (List.forall_mem_cons.mpr ⟨m3, (List.forall_mem_cons.mpr ⟨m4, (fun q hq => by cases hq)⟩)⟩)⟩)⟩)⟩)
    cases hh3

set_option maxRecDepth 20000 in
theorem xF_firstWrongRow {g0 : mv_G} {res : List mv_V × H2} (o0 : Nat) (o1 : Nat) (v2 : Int32) (o3 : Nat) (h : H2) (hh : fF_firstWrongRow o0 o1 v2 o3 h = some res) : mv_X vw2 mdF_firstWrongRow 4 0 0 none g0 res 0 [(0, Sum.inr (1, o0)), (1, Sum.inr (2, o1)), (2, Sum.inl (Value.int v2)), (3, Sum.inr (3, o3))] [] h 0 0 := by
  refine mv_blkX ax2 (GF_firstWrongRow) (by decide) kF_firstWrongRow (fun pc lv st h ce sl hh => ?_) ((eF_firstWrongRow (fF_firstWrongRow_b11 1000) o0 o1 v2 o3 h).trans hh)
  obtain ⟨hg, hh1⟩ := mv_gd_some hh
  obtain ⟨rfl, rfl⟩ := mv_z2 hg
  rcases mv_cond_some hh1 with ⟨hb, hh2⟩ | ⟨hb, hh3⟩
  · obtain rfl := Nat.eq_of_beq_eq_true hb
    obtain ⟨o0, m0, hh4⟩ := mv_gR_some hh2
    obtain ⟨v2, m1, hh5⟩ := mv_gI_some hh4
    obtain ⟨o3, m2, hh6⟩ := mv_gR_some hh5
    obtain ⟨v4, m3, hh7⟩ := mv_gI_some hh6
    obtain ⟨rfl, hh8⟩ := mv_sE_some hh7
    exact (xF_firstWrongRow_b11 1000 o0 v2 o3 v4 h hh8).sub (List.forall_mem_cons.mpr ⟨m0, (List.forall_mem_cons.mpr ⟨m1, (List.forall_mem_cons.mpr ⟨m2, (List.forall_mem_cons.mpr ⟨m3, (fun q hq => by cases hq)⟩)⟩)⟩)⟩)
  cases hh3

theorem mF_firstWrongRow (o0 : Nat) (o1 : Nat) (v2 : Int32) (o3 : Nat) (h : H2) (vs : List mv_V) (h' : H2) (hh : fF_firstWrongRow o0 o1 v2 o3 h = some (vs, h')) : mv_Met vw2 4 0 0 mdF_firstWrongRow [Sum.inr (1, o0), Sum.inr (2, o1), Sum.inl (Value.int v2), Sum.inr (3, o3)] h vs h' :=
  mv_Met_of (by decide +kernel) (Nat.le_of_ble_eq_true rfl) (xF_firstWrongRow o0 o1 v2 o3 h hh)
theorem cF_firstWrongRow_ok : mv_Cal vw2 4 (mdF_firstWrongRow, true) ((0, 0), cF_firstWrongRow) := by
  intro as h k res hh
  change cF_firstWrongRow as h k = some res at hh
  unfold cF_firstWrongRow at hh
  split at hh
  · obtain ⟨hg0, ha0⟩ := mv_gd_some hh
    obtain rfl := Nat.eq_of_beq_eq_true hg0
    obtain ⟨hg1, ha1⟩ := mv_gd_some ha0
    obtain rfl := Nat.eq_of_beq_eq_true hg1
    obtain ⟨hg3, ha3⟩ := mv_gd_some ha1
    obtain rfl := Nat.eq_of_beq_eq_true hg3
    obtain ⟨x, h', h1, h9⟩ := mv_rI_some ha3
    exact ⟨_, _, h9, (by first | decide | exact Nat.le_refl _ | exact Nat.zero_le _), fun _ => ⟨_, _, _, rfl, Or.inl ⟨by decide, rfl⟩⟩, (mF_firstWrongRow _ _ _ _ h _ _ h1)⟩
  · cases hh

set_option maxRecDepth 100000 in
theorem kM_becomeFirst : mv_tok mdM_becomeFirst nM_becomeFirst tM_becomeFirst = true := by decide +kernel
set_option maxRecDepth 100000 in
set_option maxHeartbeats 1000000 in
theorem eM_becomeFirst_b59 (q59 : Nat → Int32 → H2 → O2) (o0 : Nat) (v1 : Int32) (h : H2) : mv_blk rI2 rR2 ln2 wI2 wR2 nw2 cp2 bod none tM_becomeFirst gM_becomeFirst 0 0 [59] (fun pc lv st h ce sl => mv_gd (Nat.beq ce 0 && Nat.beq sl 0) (cond (Nat.beq pc 59) (mv_gR 0 2 lv fun o0 => mv_gI 1 lv fun v1 => mv_sE st (q59 o0 v1 h)) (none))) 400 (mv_seek 59 tM_becomeFirst) [(0, Sum.inr (2, o0)), (1, Sum.inl (Value.int v1))] [] h 0 0 = (
  if (nI 6) ≤ v1 then (
    mv_bh (wI2 h 2 o0 9 (nI 0)) fun h1 =>
    mv_bh (wI2 h1 2 o0 10 (nI 0)) fun h2 =>
    some ([], h2))
  else
  mv_gd (mv_inb v1 6) <|
  mv_bh (wI2 h 303 o0 v1.toNatClampNeg v1) fun h3 =>
  mv_bi (v1 + (nI 1)) fun x4 =>
  q59 o0 x4 h3) := rfl
set_option maxRecDepth 100000 in
set_option maxHeartbeats 1000000 in
theorem eM_becomeFirst_b31 (q31 : Nat → Int32 → H2 → O2) (q59 : Nat → Int32 → H2 → O2) (o0 : Nat) (v1 : Int32) (h : H2) : mv_blk rI2 rR2 ln2 wI2 wR2 nw2 cp2 bod none tM_becomeFirst gM_becomeFirst 0 0 [31, 59] (fun pc lv st h ce sl => mv_gd (Nat.beq ce 0 && Nat.beq sl 0) (cond (Nat.beq pc 31) (mv_gR 0 2 lv fun o0 => mv_gI 1 lv fun v1 => mv_sE st (q31 o0 v1 h)) (cond (Nat.beq pc 59) (mv_gR 0 2 lv fun o0 => mv_gI 1 lv fun v1 => mv_sE st (q59 o0 v1 h)) (none)))) 400 (mv_seek 31 tM_becomeFirst) [(0, Sum.inr (2, o0)), (1, Sum.inl (Value.int v1))] [] h 0 0 = (
  if (nI 8) ≤ v1 then (
    mv_bi (nI 0) fun x1 =>
    q59 o0 x1 h)
  else
  mv_gd (mv_inb v1 8) <|
  mv_bh (wI2 h 301 o0 v1.toNatClampNeg v1) fun h2 =>
  mv_gd (mv_inb v1 8) <|
  mv_bh (wI2 h2 302 o0 v1.toNatClampNeg (nI 5)) fun h3 =>
  mv_bi (v1 + (nI 1)) fun x4 =>
  q31 o0 x4 h3) := rfl
set_option maxRecDepth 100000 in
set_option maxHeartbeats 1000000 in
theorem eM_becomeFirst (q31 : Nat → Int32 → H2 → O2) (o0 : Nat) (h : H2) : mv_blk rI2 rR2 ln2 wI2 wR2 nw2 cp2 bod none tM_becomeFirst gM_becomeFirst 0 0 [31] (fun pc lv st h ce sl => mv_gd (Nat.beq ce 0 && Nat.beq sl 0) (cond (Nat.beq pc 31) (mv_gR 0 2 lv fun o0 => mv_gI 1 lv fun v1 => mv_sE st (q31 o0 v1 h)) (none))) 400 (mv_seek 0 tM_becomeFirst) [(0, Sum.inr (2, o0))] [] h 0 0 = (
  mv_gd (mv_inb (nI 0) 4) <|
  mv_bh (wI2 h 300 o0 (nI 0).toNatClampNeg (nI 3)) fun h1 =>
  mv_gd (mv_inb (nI 1) 4) <|
  mv_bh (wI2 h1 300 o0 (nI 1).toNatClampNeg (nI 2)) fun h2 =>
  mv_gd (mv_inb (nI 2) 4) <|
  mv_bh (wI2 h2 300 o0 (nI 2).toNatClampNeg (nI 4)) fun h3 =>
  mv_gd (mv_inb (nI 3) 4) <|
  mv_bh (wI2 h3 300 o0 (nI 3).toNatClampNeg (nI 20)) fun h4 =>
  mv_bi (nI 0) fun x5 =>
  q31 o0 x5 h4) := rfl
theorem GM_becomeFirst : ∀ (j : Nat) (C : mv_C H2) (md' : mv_MD × Bool), mv_nth j gM_becomeFirst = some C → mv_nth j nM_becomeFirst = some md' → ∃ n', n' + 1 ≤ 1 ∧ mv_Cal vw2 n' md' C := fun j C md' h1 _ => by cases j <;> cases h1

set_option maxRecDepth 20000 in
theorem xM_becomeFirst_b59 {g0 : mv_G} {res : List mv_V × H2} : ∀ (n : Nat) (o0 : Nat) (v1 : Int32) (h : H2), fM_becomeFirst_b59 n o0 v1 h = some res → mv_X vw2 mdM_becomeFirst 1 0 0 none g0 res 59 [(0, Sum.inr (2, o0)), (1, Sum.inl (Value.int v1))] [] h 0 0 := by
  intro n
  induction n with
  | zero => intro o0 v1 h hh; cases hh
  | succ n ih =>
    intro o0 v1 h hh
    refine mv_blkX ax2 (GM_becomeFirst) (by decide) kM_becomeFirst (fun pc lv st h ce sl hh => ?_) ((eM_becomeFirst_b59 (fM_becomeFirst_b59 n) o0 v1 h).trans hh)
    obtain ⟨hg, hh1⟩ := mv_gd_some hh
    obtain ⟨rfl, rfl⟩ := mv_z2 hg
    rcases mv_cond_some hh1 with ⟨hb, hh2⟩ | ⟨hb, hh3⟩
    · obtain rfl := Nat.eq_of_beq_eq_true hb
      obtain ⟨o0, m0, hh4⟩ := mv_gR_some hh2
      obtain ⟨v1, m1, hh5⟩ := mv_gI_some hh4
      obtain ⟨rfl, hh6⟩ := mv_sE_some hh5
      exact (ih o0 v1 h hh6).sub (List.forall_mem_cons.mpr ⟨m0, (List.forall_mem_cons.mpr ⟨m1, (fun q hq => by cases hq)⟩)⟩)
    cases hh3

set_option maxRecDepth 20000 in
theorem xM_becomeFirst_b31 {g0 : mv_G} {res : List mv_V × H2} : ∀ (n : Nat) (o0 : Nat) (v1 : Int32) (h : H2), fM_becomeFirst_b31 n o0 v1 h = some res → mv_X vw2 mdM_becomeFirst 1 0 0 none g0 res 31 [(0, Sum.inr (2, o0)), (1, Sum.inl (Value.int v1))] [] h 0 0 := by
  intro n
  induction n with
  | zero => intro o0 v1 h hh; cases hh
  | succ n ih =>
    intro o0 v1 h hh
    refine mv_blkX ax2 (GM_becomeFirst) (by decide) kM_becomeFirst (fun pc lv st h ce sl hh => ?_) ((eM_becomeFirst_b31 (fM_becomeFirst_b31 n) (fM_becomeFirst_b59 1000) o0 v1 h).trans hh)
    obtain ⟨hg, hh1⟩ := mv_gd_some hh
    obtain ⟨rfl, rfl⟩ := mv_z2 hg
    rcases mv_cond_some hh1 with ⟨hb, hh2⟩ | ⟨hb, hh3⟩
    · obtain rfl := Nat.eq_of_beq_eq_true hb
      obtain ⟨o0, m0, hh4⟩ := mv_gR_some hh2
      obtain ⟨v1, m1, hh5⟩ := mv_gI_some hh4
      obtain ⟨rfl, hh6⟩ := mv_sE_some hh5
      exact (ih o0 v1 h hh6).sub (List.forall_mem_cons.mpr ⟨m0, (List.forall_mem_cons.mpr ⟨m1, (fun q hq => by cases hq)⟩)⟩)
    rcases mv_cond_some hh3 with ⟨hb, hh7⟩ | ⟨hb, hh8⟩
    · obtain rfl := Nat.eq_of_beq_eq_true hb
      obtain ⟨o0, m0, hh9⟩ := mv_gR_some hh7
      obtain ⟨v1, m1, hh10⟩ := mv_gI_some hh9
      obtain ⟨rfl, hh11⟩ := mv_sE_some hh10
      exact (xM_becomeFirst_b59 1000 o0 v1 h hh11).sub (List.forall_mem_cons.mpr ⟨m0, (List.forall_mem_cons.mpr ⟨m1, (fun q hq => by cases hq)⟩)⟩)
    cases hh8

set_option maxRecDepth 20000 in
theorem xM_becomeFirst {g0 : mv_G} {res : List mv_V × H2} (o0 : Nat) (h : H2) (hh : fM_becomeFirst o0 h = some res) : mv_X vw2 mdM_becomeFirst 1 0 0 none g0 res 0 [(0, Sum.inr (2, o0))] [] h 0 0 := by
  refine mv_blkX ax2 (GM_becomeFirst) (by decide) kM_becomeFirst (fun pc lv st h ce sl hh => ?_) ((eM_becomeFirst (fM_becomeFirst_b31 1000) o0 h).trans hh)
  obtain ⟨hg, hh1⟩ := mv_gd_some hh
  obtain ⟨rfl, rfl⟩ := mv_z2 hg
  rcases mv_cond_some hh1 with ⟨hb, hh2⟩ | ⟨hb, hh3⟩
  · obtain rfl := Nat.eq_of_beq_eq_true hb
    obtain ⟨o0, m0, hh4⟩ := mv_gR_some hh2
    obtain ⟨v1, m1, hh5⟩ := mv_gI_some hh4
    obtain ⟨rfl, hh6⟩ := mv_sE_some hh5
    exact (xM_becomeFirst_b31 1000 o0 v1 h hh6).sub (List.forall_mem_cons.mpr ⟨m0, (List.forall_mem_cons.mpr ⟨m1, (fun q hq => by cases hq)⟩)⟩)
  cases hh3

theorem mM_becomeFirst (o0 : Nat) (h : H2) (vs : List mv_V) (h' : H2) (hh : fM_becomeFirst o0 h = some (vs, h')) : mv_Met vw2 1 0 0 mdM_becomeFirst [Sum.inr (2, o0)] h vs h' :=
  mv_Met_of (by decide +kernel) (Nat.le_of_ble_eq_true rfl) (xM_becomeFirst o0 h hh)
theorem cM_becomeFirst_ok : mv_Cal vw2 1 (mdM_becomeFirst, true) ((0, 0), cM_becomeFirst) := by
  intro as h k res hh
  change cM_becomeFirst as h k = some res at hh
  unfold cM_becomeFirst at hh
  split at hh
  · obtain ⟨hg0, ha0⟩ := mv_gd_some hh
    obtain rfl := Nat.eq_of_beq_eq_true hg0
    obtain ⟨h', h1, h9⟩ := mv_rV_some ha0
    exact ⟨_, _, h9, (by first | decide | exact Nat.le_refl _ | exact Nat.zero_le _), fun _ => ⟨_, _, _, rfl, Or.inl ⟨by decide, rfl⟩⟩, (mM_becomeFirst _ h _ _ h1)⟩
  · cases hh

set_option maxRecDepth 100000 in
theorem kV_isIn : mv_tok mdV_isIn nV_isIn tV_isIn = true := by decide +kernel
set_option maxRecDepth 100000 in
set_option maxHeartbeats 1000000 in
theorem eV_isIn (v0 : Int32) (v1 : Int32) (v2 : Int32) (h : H2) : mv_blk rI2 rR2 ln2 wI2 wR2 nw2 cp2 bod none tV_isIn gV_isIn 0 0 [] (fun _ _ _ _ _ _ => none) 400 (mv_seek 0 tV_isIn) [(0, Sum.inl (Value.int v0)), (1, Sum.inl (Value.int v1)), (2, Sum.inl (Value.int v2))] [] h 0 0 = (
  if v0 < v1 then (
    mv_gd (decide (nI 0 = nI 0) || decide (nI 0 = nI 1)) <| some ([Sum.inl (Value.int (nI 0))], h))
  else
  if v2 < v0 then (
    mv_gd (decide (nI 0 = nI 0) || decide (nI 0 = nI 1)) <| some ([Sum.inl (Value.int (nI 0))], h))
  else
  mv_gd (decide (nI 1 = nI 0) || decide (nI 1 = nI 1)) <| some ([Sum.inl (Value.int (nI 1))], h)) := rfl
theorem GV_isIn : ∀ (j : Nat) (C : mv_C H2) (md' : mv_MD × Bool), mv_nth j gV_isIn = some C → mv_nth j nV_isIn = some md' → ∃ n', n' + 1 ≤ 1 ∧ mv_Cal vw2 n' md' C := fun j C md' h1 _ => by cases j <;> cases h1

set_option maxRecDepth 20000 in
theorem xV_isIn {g0 : mv_G} {res : List mv_V × H2} (v0 : Int32) (v1 : Int32) (v2 : Int32) (h : H2) (hh : fV_isIn v0 v1 v2 h = some res) : mv_X vw2 mdV_isIn 1 0 0 none g0 res 0 [(0, Sum.inl (Value.int v0)), (1, Sum.inl (Value.int v1)), (2, Sum.inl (Value.int v2))] [] h 0 0 := by
  refine mv_blkX ax2 (GV_isIn) (by decide) kV_isIn (fun pc lv st h ce sl hh => ?_) ((eV_isIn  v0 v1 v2 h).trans hh)
  cases hh

theorem mV_isIn (v0 : Int32) (v1 : Int32) (v2 : Int32) (h : H2) (vs : List mv_V) (h' : H2) (hh : fV_isIn v0 v1 v2 h = some (vs, h')) : mv_Met vw2 1 0 0 mdV_isIn [Sum.inl (Value.int v0), Sum.inl (Value.int v1), Sum.inl (Value.int v2)] h vs h' :=
  mv_Met_of (by decide +kernel) (Nat.le_of_ble_eq_true rfl) (xV_isIn v0 v1 v2 h hh)
theorem cV_isIn_ok : mv_Cal vw2 1 (mdV_isIn, false) ((0, 0), cV_isIn) := by
  intro as h k res hh
  change cV_isIn as h k = some res at hh
  unfold cV_isIn at hh
  split at hh
  · obtain ⟨x, h', h1, h9⟩ := mv_rI_some hh
    exact ⟨_, _, h9, (by first | decide | exact Nat.le_refl _ | exact Nat.zero_le _), (fun h => by cases h), (mV_isIn _ _ _ h _ _ h1)⟩
  · cases hh

set_option maxRecDepth 100000 in
theorem kM_has : mv_tok mdM_has nM_has tM_has = true := by decide +kernel
set_option maxRecDepth 100000 in
set_option maxHeartbeats 1000000 in
theorem eM_has (o0 : Nat) (v1 : Int32) (h : H2) : mv_blk rI2 rR2 ln2 wI2 wR2 nw2 cp2 bod none tM_has gM_has 0 0 [] (fun _ _ _ _ _ _ => none) 400 (mv_seek 0 tM_has) [(0, Sum.inr (2, o0)), (1, Sum.inl (Value.int v1))] [] h 0 0 = (
  mv_rI (fV_isIn v1 (nI 0) ((rI2 h 2 o0 9) - (nI 1)) h) fun r2 h1 =>
  mv_gd (decide (r2 = nI 0) || decide (r2 = nI 1)) <| some ([Sum.inl (Value.int r2)], h1)) := rfl
theorem GM_has : ∀ (j : Nat) (C : mv_C H2) (md' : mv_MD × Bool), mv_nth j gM_has = some C → mv_nth j nM_has = some md' → ∃ n', n' + 1 ≤ 2 ∧ mv_Cal vw2 n' md' C := fun j C md' => match j with
  | 0 => fun h1 h2 => by
    obtain rfl := Option.some.inj h1
    obtain rfl := Option.some.inj h2
    exact ⟨1, by decide, cV_isIn_ok⟩
  | jj + 1 => fun h1 _ => by cases jj <;> cases h1

set_option maxRecDepth 20000 in
theorem xM_has {g0 : mv_G} {res : List mv_V × H2} (o0 : Nat) (v1 : Int32) (h : H2) (hh : fM_has o0 v1 h = some res) : mv_X vw2 mdM_has 2 0 0 none g0 res 0 [(0, Sum.inr (2, o0)), (1, Sum.inl (Value.int v1))] [] h 0 0 := by
  refine mv_blkX ax2 (GM_has) (by decide) kM_has (fun pc lv st h ce sl hh => ?_) ((eM_has  o0 v1 h).trans hh)
  cases hh

theorem mM_has (o0 : Nat) (v1 : Int32) (h : H2) (vs : List mv_V) (h' : H2) (hh : fM_has o0 v1 h = some (vs, h')) : mv_Met vw2 2 0 0 mdM_has [Sum.inr (2, o0), Sum.inl (Value.int v1)] h vs h' :=
  mv_Met_of (by decide +kernel) (Nat.le_of_ble_eq_true rfl) (xM_has o0 v1 h hh)
theorem cM_has_ok : mv_Cal vw2 2 (mdM_has, true) ((0, 0), cM_has) := by
  intro as h k res hh
  change cM_has as h k = some res at hh
  unfold cM_has at hh
  split at hh
  · obtain ⟨hg0, ha0⟩ := mv_gd_some hh
    obtain rfl := Nat.eq_of_beq_eq_true hg0
    obtain ⟨x, h', h1, h9⟩ := mv_rI_some ha0
    exact ⟨_, _, h9, (by first | decide | exact Nat.le_refl _ | exact Nat.zero_le _), fun _ => ⟨_, _, _, rfl, Or.inl ⟨by decide, rfl⟩⟩, (mM_has _ _ h _ _ h1)⟩
  · cases hh

set_option maxRecDepth 100000 in
theorem kM_addCloth : mv_tok mdM_addCloth nM_addCloth tM_addCloth = true := by decide +kernel
set_option maxRecDepth 100000 in
set_option maxHeartbeats 1000000 in
theorem eM_addCloth (o0 : Nat) (v1 : Int32) (h : H2) : mv_blk rI2 rR2 ln2 wI2 wR2 nw2 cp2 bod none tM_addCloth gM_addCloth 0 0 [] (fun _ _ _ _ _ _ => none) 400 (mv_seek 0 tM_addCloth) [(0, Sum.inr (2, o0)), (1, Sum.inl (Value.int v1))] [] h 0 0 = (
  mv_bi (rI2 h 2 o0 9) fun x1 =>
  mv_gd (mv_inb x1 8) <|
  mv_bh (wI2 h 304 o0 x1.toNatClampNeg v1) fun h2 =>
  mv_gd (mv_inb x1 8) <|
  mv_bh (wI2 h2 305 o0 x1.toNatClampNeg (-(nI 1))) fun h3 =>
  mv_gd (mv_inb x1 8) <|
  mv_bh (wI2 h3 306 o0 x1.toNatClampNeg (nI 0)) fun h4 =>
  mv_gd (mv_inb x1 8) <|
  mv_bh (wI2 h4 307 o0 x1.toNatClampNeg (nI 0)) fun h5 =>
  mv_gd (mv_inb x1 8) <|
  mv_bh (wI2 h5 308 o0 x1.toNatClampNeg (nI 0)) fun h6 =>
  mv_bh (wI2 h6 2 o0 9 ((rI2 h6 2 o0 9) + (nI 1))) fun h7 =>
  some ([Sum.inl (Value.int x1)], h7)) := rfl
theorem GM_addCloth : ∀ (j : Nat) (C : mv_C H2) (md' : mv_MD × Bool), mv_nth j gM_addCloth = some C → mv_nth j nM_addCloth = some md' → ∃ n', n' + 1 ≤ 1 ∧ mv_Cal vw2 n' md' C := fun j C md' h1 _ => by cases j <;> cases h1

set_option maxRecDepth 20000 in
theorem xM_addCloth {g0 : mv_G} {res : List mv_V × H2} (o0 : Nat) (v1 : Int32) (h : H2) (hh : fM_addCloth o0 v1 h = some res) : mv_X vw2 mdM_addCloth 1 0 0 none g0 res 0 [(0, Sum.inr (2, o0)), (1, Sum.inl (Value.int v1))] [] h 0 0 := by
  refine mv_blkX ax2 (GM_addCloth) (by decide) kM_addCloth (fun pc lv st h ce sl hh => ?_) ((eM_addCloth  o0 v1 h).trans hh)
  cases hh

theorem mM_addCloth (o0 : Nat) (v1 : Int32) (h : H2) (vs : List mv_V) (h' : H2) (hh : fM_addCloth o0 v1 h = some (vs, h')) : mv_Met vw2 1 0 0 mdM_addCloth [Sum.inr (2, o0), Sum.inl (Value.int v1)] h vs h' :=
  mv_Met_of (by decide +kernel) (Nat.le_of_ble_eq_true rfl) (xM_addCloth o0 v1 h hh)
theorem cM_addCloth_ok : mv_Cal vw2 1 (mdM_addCloth, true) ((0, 0), cM_addCloth) := by
  intro as h k res hh
  change cM_addCloth as h k = some res at hh
  unfold cM_addCloth at hh
  split at hh
  · obtain ⟨hg0, ha0⟩ := mv_gd_some hh
    obtain rfl := Nat.eq_of_beq_eq_true hg0
    obtain ⟨x, h', h1, h9⟩ := mv_rI_some ha0
    exact ⟨_, _, h9, (by first | decide | exact Nat.le_refl _ | exact Nat.zero_le _), fun _ => ⟨_, _, _, rfl, Or.inl ⟨by decide, rfl⟩⟩, (mM_addCloth _ _ h _ _ h1)⟩
  · cases hh

set_option maxRecDepth 100000 in
theorem kM_hungSet : mv_tok mdM_hungSet nM_hungSet tM_hungSet = true := by decide +kernel
set_option maxRecDepth 100000 in
set_option maxHeartbeats 1000000 in
theorem eM_hungSet_b4 (q4 : Nat → Int32 → Int32 → H2 → O2) (o0 : Nat) (v1 : Int32) (v2 : Int32) (h : H2) : mv_blk rI2 rR2 ln2 wI2 wR2 nw2 cp2 bod none tM_hungSet gM_hungSet 0 0 [4] (fun pc lv st h ce sl => mv_gd (Nat.beq ce 0 && Nat.beq sl 0) (cond (Nat.beq pc 4) (mv_gR 0 2 lv fun o0 => mv_gI 1 lv fun v1 => mv_gI 2 lv fun v2 => mv_sE st (q4 o0 v1 v2 h)) (none))) 400 (mv_seek 4 tM_hungSet) [(0, Sum.inr (2, o0)), (1, Sum.inl (Value.int v1)), (2, Sum.inl (Value.int v2))] [] h 0 0 = (
  if (rI2 h 2 o0 9) ≤ v2 then (
    some ([Sum.inl (Value.int v1)], h))
  else
  mv_gd (mv_inb v2 8) <|
  if (rI2 h 307 o0 v2.toNatClampNeg) = (nI 1) then (
    mv_bi (v1 ||| ((nI 1) <<< (v2 &&& 31))) fun x1 =>
    mv_bi (v2 + (nI 1)) fun x2 =>
    q4 o0 x1 x2 h)
  else
  mv_bi (v2 + (nI 1)) fun x3 =>
  q4 o0 v1 x3 h) := rfl
set_option maxRecDepth 100000 in
set_option maxHeartbeats 1000000 in
theorem eM_hungSet (q4 : Nat → Int32 → Int32 → H2 → O2) (o0 : Nat) (h : H2) : mv_blk rI2 rR2 ln2 wI2 wR2 nw2 cp2 bod none tM_hungSet gM_hungSet 0 0 [4] (fun pc lv st h ce sl => mv_gd (Nat.beq ce 0 && Nat.beq sl 0) (cond (Nat.beq pc 4) (mv_gR 0 2 lv fun o0 => mv_gI 1 lv fun v1 => mv_gI 2 lv fun v2 => mv_sE st (q4 o0 v1 v2 h)) (none))) 400 (mv_seek 0 tM_hungSet) [(0, Sum.inr (2, o0))] [] h 0 0 = (
  mv_bi (nI 0) fun x1 =>
  mv_bi (nI 0) fun x2 =>
  q4 o0 x1 x2 h) := rfl
theorem GM_hungSet : ∀ (j : Nat) (C : mv_C H2) (md' : mv_MD × Bool), mv_nth j gM_hungSet = some C → mv_nth j nM_hungSet = some md' → ∃ n', n' + 1 ≤ 1 ∧ mv_Cal vw2 n' md' C := fun j C md' h1 _ => by cases j <;> cases h1

set_option maxRecDepth 20000 in
theorem xM_hungSet_b4 {g0 : mv_G} {res : List mv_V × H2} : ∀ (n : Nat) (o0 : Nat) (v1 : Int32) (v2 : Int32) (h : H2), fM_hungSet_b4 n o0 v1 v2 h = some res → mv_X vw2 mdM_hungSet 1 0 0 none g0 res 4 [(0, Sum.inr (2, o0)), (1, Sum.inl (Value.int v1)), (2, Sum.inl (Value.int v2))] [] h 0 0 := by
  intro n
  induction n with
  | zero => intro o0 v1 v2 h hh; cases hh
  | succ n ih =>
    intro o0 v1 v2 h hh
    refine mv_blkX ax2 (GM_hungSet) (by decide) kM_hungSet (fun pc lv st h ce sl hh => ?_) ((eM_hungSet_b4 (fM_hungSet_b4 n) o0 v1 v2 h).trans hh)
    obtain ⟨hg, hh1⟩ := mv_gd_some hh
    obtain ⟨rfl, rfl⟩ := mv_z2 hg
    rcases mv_cond_some hh1 with ⟨hb, hh2⟩ | ⟨hb, hh3⟩
    · obtain rfl := Nat.eq_of_beq_eq_true hb
      obtain ⟨o0, m0, hh4⟩ := mv_gR_some hh2
      obtain ⟨v1, m1, hh5⟩ := mv_gI_some hh4
      obtain ⟨v2, m2, hh6⟩ := mv_gI_some hh5
      obtain ⟨rfl, hh7⟩ := mv_sE_some hh6
      exact (ih o0 v1 v2 h hh7).sub (List.forall_mem_cons.mpr ⟨m0, (List.forall_mem_cons.mpr ⟨m1, (List.forall_mem_cons.mpr ⟨m2, (fun q hq => by cases hq)⟩)⟩)⟩)
    cases hh3

set_option maxRecDepth 20000 in
theorem xM_hungSet {g0 : mv_G} {res : List mv_V × H2} (o0 : Nat) (h : H2) (hh : fM_hungSet o0 h = some res) : mv_X vw2 mdM_hungSet 1 0 0 none g0 res 0 [(0, Sum.inr (2, o0))] [] h 0 0 := by
  refine mv_blkX ax2 (GM_hungSet) (by decide) kM_hungSet (fun pc lv st h ce sl hh => ?_) ((eM_hungSet (fM_hungSet_b4 1000) o0 h).trans hh)
  obtain ⟨hg, hh1⟩ := mv_gd_some hh
  obtain ⟨rfl, rfl⟩ := mv_z2 hg
  rcases mv_cond_some hh1 with ⟨hb, hh2⟩ | ⟨hb, hh3⟩
  · obtain rfl := Nat.eq_of_beq_eq_true hb
    obtain ⟨o0, m0, hh4⟩ := mv_gR_some hh2
    obtain ⟨v1, m1, hh5⟩ := mv_gI_some hh4
    obtain ⟨v2, m2, hh6⟩ := mv_gI_some hh5
    obtain ⟨rfl, hh7⟩ := mv_sE_some hh6
    exact (xM_hungSet_b4 1000 o0 v1 v2 h hh7).sub (List.forall_mem_cons.mpr ⟨m0, (List.forall_mem_cons.mpr ⟨m1, (List.forall_mem_cons.mpr ⟨m2, (fun q hq => by cases hq)⟩)⟩)⟩)
  cases hh3

theorem mM_hungSet (o0 : Nat) (h : H2) (vs : List mv_V) (h' : H2) (hh : fM_hungSet o0 h = some (vs, h')) : mv_Met vw2 1 0 0 mdM_hungSet [Sum.inr (2, o0)] h vs h' :=
  mv_Met_of (by decide +kernel) (Nat.le_of_ble_eq_true rfl) (xM_hungSet o0 h hh)
theorem cM_hungSet_ok : mv_Cal vw2 1 (mdM_hungSet, true) ((0, 0), cM_hungSet) := by
  intro as h k res hh
  change cM_hungSet as h k = some res at hh
  unfold cM_hungSet at hh
  split at hh
  · obtain ⟨hg0, ha0⟩ := mv_gd_some hh
    obtain rfl := Nat.eq_of_beq_eq_true hg0
    obtain ⟨x, h', h1, h9⟩ := mv_rI_some ha0
    exact ⟨_, _, h9, (by first | decide | exact Nat.le_refl _ | exact Nat.zero_le _), fun _ => ⟨_, _, _, rfl, Or.inl ⟨by decide, rfl⟩⟩, (mM_hungSet _ h _ _ h1)⟩
  · cases hh

set_option maxRecDepth 100000 in
theorem kM_aboutSet : mv_tok mdM_aboutSet nM_aboutSet tM_aboutSet = true := by decide +kernel
set_option maxRecDepth 100000 in
set_option maxHeartbeats 1000000 in
theorem eM_aboutSet_b4 (q4 : Nat → Int32 → Int32 → H2 → O2) (o0 : Nat) (v1 : Int32) (v2 : Int32) (h : H2) : mv_blk rI2 rR2 ln2 wI2 wR2 nw2 cp2 bod none tM_aboutSet gM_aboutSet 0 0 [4] (fun pc lv st h ce sl => mv_gd (Nat.beq ce 0 && Nat.beq sl 0) (cond (Nat.beq pc 4) (mv_gR 0 2 lv fun o0 => mv_gI 1 lv fun v1 => mv_gI 2 lv fun v2 => mv_sE st (q4 o0 v1 v2 h)) (none))) 400 (mv_seek 4 tM_aboutSet) [(0, Sum.inr (2, o0)), (1, Sum.inl (Value.int v1)), (2, Sum.inl (Value.int v2))] [] h 0 0 = (
  if (rI2 h 2 o0 9) ≤ v2 then (
    some ([Sum.inl (Value.int v1)], h))
  else
  mv_gd (mv_inb v2 8) <|
  if (rI2 h 305 o0 v2.toNatClampNeg) = (-(nI 1)) then (
    mv_bi (v2 + (nI 1)) fun x1 =>
    q4 o0 v1 x1 h)
  else
  mv_bi (v1 ||| ((nI 1) <<< (v2 &&& 31))) fun x2 =>
  mv_bi (v2 + (nI 1)) fun x3 =>
  q4 o0 x2 x3 h) := rfl
set_option maxRecDepth 100000 in
set_option maxHeartbeats 1000000 in
theorem eM_aboutSet (q4 : Nat → Int32 → Int32 → H2 → O2) (o0 : Nat) (h : H2) : mv_blk rI2 rR2 ln2 wI2 wR2 nw2 cp2 bod none tM_aboutSet gM_aboutSet 0 0 [4] (fun pc lv st h ce sl => mv_gd (Nat.beq ce 0 && Nat.beq sl 0) (cond (Nat.beq pc 4) (mv_gR 0 2 lv fun o0 => mv_gI 1 lv fun v1 => mv_gI 2 lv fun v2 => mv_sE st (q4 o0 v1 v2 h)) (none))) 400 (mv_seek 0 tM_aboutSet) [(0, Sum.inr (2, o0))] [] h 0 0 = (
  mv_bi (nI 0) fun x1 =>
  mv_bi (nI 0) fun x2 =>
  q4 o0 x1 x2 h) := rfl
theorem GM_aboutSet : ∀ (j : Nat) (C : mv_C H2) (md' : mv_MD × Bool), mv_nth j gM_aboutSet = some C → mv_nth j nM_aboutSet = some md' → ∃ n', n' + 1 ≤ 1 ∧ mv_Cal vw2 n' md' C := fun j C md' h1 _ => by cases j <;> cases h1

set_option maxRecDepth 20000 in
theorem xM_aboutSet_b4 {g0 : mv_G} {res : List mv_V × H2} : ∀ (n : Nat) (o0 : Nat) (v1 : Int32) (v2 : Int32) (h : H2), fM_aboutSet_b4 n o0 v1 v2 h = some res → mv_X vw2 mdM_aboutSet 1 0 0 none g0 res 4 [(0, Sum.inr (2, o0)), (1, Sum.inl (Value.int v1)), (2, Sum.inl (Value.int v2))] [] h 0 0 := by
  intro n
  induction n with
  | zero => intro o0 v1 v2 h hh; cases hh
  | succ n ih =>
    intro o0 v1 v2 h hh
    refine mv_blkX ax2 (GM_aboutSet) (by decide) kM_aboutSet (fun pc lv st h ce sl hh => ?_) ((eM_aboutSet_b4 (fM_aboutSet_b4 n) o0 v1 v2 h).trans hh)
    obtain ⟨hg, hh1⟩ := mv_gd_some hh
    obtain ⟨rfl, rfl⟩ := mv_z2 hg
    rcases mv_cond_some hh1 with ⟨hb, hh2⟩ | ⟨hb, hh3⟩
    · obtain rfl := Nat.eq_of_beq_eq_true hb
      obtain ⟨o0, m0, hh4⟩ := mv_gR_some hh2
      obtain ⟨v1, m1, hh5⟩ := mv_gI_some hh4
      obtain ⟨v2, m2, hh6⟩ := mv_gI_some hh5
      obtain ⟨rfl, hh7⟩ := mv_sE_some hh6
      exact (ih o0 v1 v2 h hh7).sub (List.forall_mem_cons.mpr ⟨m0, (List.forall_mem_cons.mpr ⟨m1, (List.forall_mem_cons.mpr ⟨m2, (fun q hq => by cases hq)⟩)⟩)⟩)
    cases hh3

set_option maxRecDepth 20000 in
theorem xM_aboutSet {g0 : mv_G} {res : List mv_V × H2} (o0 : Nat) (h : H2) (hh : fM_aboutSet o0 h = some res) : mv_X vw2 mdM_aboutSet 1 0 0 none g0 res 0 [(0, Sum.inr (2, o0))] [] h 0 0 := by
  refine mv_blkX ax2 (GM_aboutSet) (by decide) kM_aboutSet (fun pc lv st h ce sl hh => ?_) ((eM_aboutSet (fM_aboutSet_b4 1000) o0 h).trans hh)
  obtain ⟨hg, hh1⟩ := mv_gd_some hh
  obtain ⟨rfl, rfl⟩ := mv_z2 hg
  rcases mv_cond_some hh1 with ⟨hb, hh2⟩ | ⟨hb, hh3⟩
  · obtain rfl := Nat.eq_of_beq_eq_true hb
    obtain ⟨o0, m0, hh4⟩ := mv_gR_some hh2
    obtain ⟨v1, m1, hh5⟩ := mv_gI_some hh4
    obtain ⟨v2, m2, hh6⟩ := mv_gI_some hh5
    obtain ⟨rfl, hh7⟩ := mv_sE_some hh6
    exact (xM_aboutSet_b4 1000 o0 v1 v2 h hh7).sub (List.forall_mem_cons.mpr ⟨m0, (List.forall_mem_cons.mpr ⟨m1, (List.forall_mem_cons.mpr ⟨m2, (fun q hq => by cases hq)⟩)⟩)⟩)
  cases hh3

theorem mM_aboutSet (o0 : Nat) (h : H2) (vs : List mv_V) (h' : H2) (hh : fM_aboutSet o0 h = some (vs, h')) : mv_Met vw2 1 0 0 mdM_aboutSet [Sum.inr (2, o0)] h vs h' :=
  mv_Met_of (by decide +kernel) (Nat.le_of_ble_eq_true rfl) (xM_aboutSet o0 h hh)
theorem cM_aboutSet_ok : mv_Cal vw2 1 (mdM_aboutSet, true) ((0, 0), cM_aboutSet) := by
  intro as h k res hh
  change cM_aboutSet as h k = some res at hh
  unfold cM_aboutSet at hh
  split at hh
  · obtain ⟨hg0, ha0⟩ := mv_gd_some hh
    obtain rfl := Nat.eq_of_beq_eq_true hg0
    obtain ⟨x, h', h1, h9⟩ := mv_rI_some ha0
    exact ⟨_, _, h9, (by first | decide | exact Nat.le_refl _ | exact Nat.zero_le _), fun _ => ⟨_, _, _, rfl, Or.inl ⟨by decide, rfl⟩⟩, (mM_aboutSet _ h _ _ h1)⟩
  · cases hh

set_option maxRecDepth 100000 in
theorem kM_purposeSet : mv_tok mdM_purposeSet nM_purposeSet tM_purposeSet = true := by decide +kernel
set_option maxRecDepth 100000 in
set_option maxHeartbeats 1000000 in
theorem eM_purposeSet_b4 (q4 : Nat → Int32 → Int32 → H2 → O2) (o0 : Nat) (v1 : Int32) (v2 : Int32) (h : H2) : mv_blk rI2 rR2 ln2 wI2 wR2 nw2 cp2 bod none tM_purposeSet gM_purposeSet 0 0 [4] (fun pc lv st h ce sl => mv_gd (Nat.beq ce 0 && Nat.beq sl 0) (cond (Nat.beq pc 4) (mv_gR 0 2 lv fun o0 => mv_gI 1 lv fun v1 => mv_gI 2 lv fun v2 => mv_sE st (q4 o0 v1 v2 h)) (none))) 400 (mv_seek 4 tM_purposeSet) [(0, Sum.inr (2, o0)), (1, Sum.inl (Value.int v1)), (2, Sum.inl (Value.int v2))] [] h 0 0 = (
  if (rI2 h 2 o0 9) ≤ v2 then (
    some ([Sum.inl (Value.int v1)], h))
  else
  mv_gd (mv_inb v2 8) <|
  if (rI2 h 305 o0 v2.toNatClampNeg) = (-(nI 1)) then (
    mv_bi (v2 + (nI 1)) fun x1 =>
    q4 o0 v1 x1 h)
  else
  mv_gd (mv_inb v2 8) <|
  mv_bi (v1 ||| ((nI 1) <<< ((rI2 h 305 o0 v2.toNatClampNeg) &&& 31))) fun x2 =>
  mv_bi (v2 + (nI 1)) fun x3 =>
  q4 o0 x2 x3 h) := rfl
set_option maxRecDepth 100000 in
set_option maxHeartbeats 1000000 in
theorem eM_purposeSet (q4 : Nat → Int32 → Int32 → H2 → O2) (o0 : Nat) (h : H2) : mv_blk rI2 rR2 ln2 wI2 wR2 nw2 cp2 bod none tM_purposeSet gM_purposeSet 0 0 [4] (fun pc lv st h ce sl => mv_gd (Nat.beq ce 0 && Nat.beq sl 0) (cond (Nat.beq pc 4) (mv_gR 0 2 lv fun o0 => mv_gI 1 lv fun v1 => mv_gI 2 lv fun v2 => mv_sE st (q4 o0 v1 v2 h)) (none))) 400 (mv_seek 0 tM_purposeSet) [(0, Sum.inr (2, o0))] [] h 0 0 = (
  mv_bi (nI 0) fun x1 =>
  mv_bi (nI 0) fun x2 =>
  q4 o0 x1 x2 h) := rfl
theorem GM_purposeSet : ∀ (j : Nat) (C : mv_C H2) (md' : mv_MD × Bool), mv_nth j gM_purposeSet = some C → mv_nth j nM_purposeSet = some md' → ∃ n', n' + 1 ≤ 1 ∧ mv_Cal vw2 n' md' C := fun j C md' h1 _ => by cases j <;> cases h1

set_option maxRecDepth 20000 in
theorem xM_purposeSet_b4 {g0 : mv_G} {res : List mv_V × H2} : ∀ (n : Nat) (o0 : Nat) (v1 : Int32) (v2 : Int32) (h : H2), fM_purposeSet_b4 n o0 v1 v2 h = some res → mv_X vw2 mdM_purposeSet 1 0 0 none g0 res 4 [(0, Sum.inr (2, o0)), (1, Sum.inl (Value.int v1)), (2, Sum.inl (Value.int v2))] [] h 0 0 := by
  intro n
  induction n with
  | zero => intro o0 v1 v2 h hh; cases hh
  | succ n ih =>
    intro o0 v1 v2 h hh
    refine mv_blkX ax2 (GM_purposeSet) (by decide) kM_purposeSet (fun pc lv st h ce sl hh => ?_) ((eM_purposeSet_b4 (fM_purposeSet_b4 n) o0 v1 v2 h).trans hh)
    obtain ⟨hg, hh1⟩ := mv_gd_some hh
    obtain ⟨rfl, rfl⟩ := mv_z2 hg
    rcases mv_cond_some hh1 with ⟨hb, hh2⟩ | ⟨hb, hh3⟩
    · obtain rfl := Nat.eq_of_beq_eq_true hb
      obtain ⟨o0, m0, hh4⟩ := mv_gR_some hh2
      obtain ⟨v1, m1, hh5⟩ := mv_gI_some hh4
      obtain ⟨v2, m2, hh6⟩ := mv_gI_some hh5
      obtain ⟨rfl, hh7⟩ := mv_sE_some hh6
      exact (ih o0 v1 v2 h hh7).sub (List.forall_mem_cons.mpr ⟨m0, (List.forall_mem_cons.mpr ⟨m1, (List.forall_mem_cons.mpr ⟨m2, (fun q hq => by cases hq)⟩)⟩)⟩)
    cases hh3

set_option maxRecDepth 20000 in
theorem xM_purposeSet {g0 : mv_G} {res : List mv_V × H2} (o0 : Nat) (h : H2) (hh : fM_purposeSet o0 h = some res) : mv_X vw2 mdM_purposeSet 1 0 0 none g0 res 0 [(0, Sum.inr (2, o0))] [] h 0 0 := by
  refine mv_blkX ax2 (GM_purposeSet) (by decide) kM_purposeSet (fun pc lv st h ce sl hh => ?_) ((eM_purposeSet (fM_purposeSet_b4 1000) o0 h).trans hh)
  obtain ⟨hg, hh1⟩ := mv_gd_some hh
  obtain ⟨rfl, rfl⟩ := mv_z2 hg
  rcases mv_cond_some hh1 with ⟨hb, hh2⟩ | ⟨hb, hh3⟩
  · obtain rfl := Nat.eq_of_beq_eq_true hb
    obtain ⟨o0, m0, hh4⟩ := mv_gR_some hh2
    obtain ⟨v1, m1, hh5⟩ := mv_gI_some hh4
    obtain ⟨v2, m2, hh6⟩ := mv_gI_some hh5
    obtain ⟨rfl, hh7⟩ := mv_sE_some hh6
    exact (xM_purposeSet_b4 1000 o0 v1 v2 h hh7).sub (List.forall_mem_cons.mpr ⟨m0, (List.forall_mem_cons.mpr ⟨m1, (List.forall_mem_cons.mpr ⟨m2, (fun q hq => by cases hq)⟩)⟩)⟩)
  cases hh3

theorem mM_purposeSet (o0 : Nat) (h : H2) (vs : List mv_V) (h' : H2) (hh : fM_purposeSet o0 h = some (vs, h')) : mv_Met vw2 1 0 0 mdM_purposeSet [Sum.inr (2, o0)] h vs h' :=
  mv_Met_of (by decide +kernel) (Nat.le_of_ble_eq_true rfl) (xM_purposeSet o0 h hh)
theorem cM_purposeSet_ok : mv_Cal vw2 1 (mdM_purposeSet, true) ((0, 0), cM_purposeSet) := by
  intro as h k res hh
  change cM_purposeSet as h k = some res at hh
  unfold cM_purposeSet at hh
  split at hh
  · obtain ⟨hg0, ha0⟩ := mv_gd_some hh
    obtain rfl := Nat.eq_of_beq_eq_true hg0
    obtain ⟨x, h', h1, h9⟩ := mv_rI_some ha0
    exact ⟨_, _, h9, (by first | decide | exact Nat.le_refl _ | exact Nat.zero_le _), fun _ => ⟨_, _, _, rfl, Or.inl ⟨by decide, rfl⟩⟩, (mM_purposeSet _ h _ _ h1)⟩
  · cases hh

set_option maxRecDepth 100000 in
theorem kM_isForOdds : mv_tok mdM_isForOdds nM_isForOdds tM_isForOdds = true := by decide +kernel
set_option maxRecDepth 100000 in
set_option maxHeartbeats 1000000 in
theorem eM_isForOdds (o0 : Nat) (v1 : Int32) (h : H2) : mv_blk rI2 rR2 ln2 wI2 wR2 nw2 cp2 bod none tM_isForOdds gM_isForOdds 0 0 [] (fun _ _ _ _ _ _ => none) 400 (mv_seek 0 tM_isForOdds) [(0, Sum.inr (2, o0)), (1, Sum.inl (Value.int v1))] [] h 0 0 = (
  mv_gd (mv_inb v1 8) <|
  if (rI2 h 307 o0 v1.toNatClampNeg) = 0 then (
    mv_gd (mv_inb v1 8) <|
    if (rI2 h 305 o0 v1.toNatClampNeg) = (-(nI 1)) then (
      mv_gd (decide (nI 0 = nI 0) || decide (nI 0 = nI 1)) <| some ([Sum.inl (Value.int (nI 0))], h))
    else
    mv_gd (decide (nI 1 = nI 0) || decide (nI 1 = nI 1)) <| some ([Sum.inl (Value.int (nI 1))], h))
  else
  mv_gd (decide (nI 0 = nI 0) || decide (nI 0 = nI 1)) <| some ([Sum.inl (Value.int (nI 0))], h)) := rfl
theorem GM_isForOdds : ∀ (j : Nat) (C : mv_C H2) (md' : mv_MD × Bool), mv_nth j gM_isForOdds = some C → mv_nth j nM_isForOdds = some md' → ∃ n', n' + 1 ≤ 1 ∧ mv_Cal vw2 n' md' C := fun j C md' h1 _ => by cases j <;> cases h1

set_option maxRecDepth 20000 in
theorem xM_isForOdds {g0 : mv_G} {res : List mv_V × H2} (o0 : Nat) (v1 : Int32) (h : H2) (hh : fM_isForOdds o0 v1 h = some res) : mv_X vw2 mdM_isForOdds 1 0 0 none g0 res 0 [(0, Sum.inr (2, o0)), (1, Sum.inl (Value.int v1))] [] h 0 0 := by
  refine mv_blkX ax2 (GM_isForOdds) (by decide) kM_isForOdds (fun pc lv st h ce sl hh => ?_) ((eM_isForOdds  o0 v1 h).trans hh)
  cases hh

theorem mM_isForOdds (o0 : Nat) (v1 : Int32) (h : H2) (vs : List mv_V) (h' : H2) (hh : fM_isForOdds o0 v1 h = some (vs, h')) : mv_Met vw2 1 0 0 mdM_isForOdds [Sum.inr (2, o0), Sum.inl (Value.int v1)] h vs h' :=
  mv_Met_of (by decide +kernel) (Nat.le_of_ble_eq_true rfl) (xM_isForOdds o0 v1 h hh)
theorem cM_isForOdds_ok : mv_Cal vw2 1 (mdM_isForOdds, true) ((0, 0), cM_isForOdds) := by
  intro as h k res hh
  change cM_isForOdds as h k = some res at hh
  unfold cM_isForOdds at hh
  split at hh
  · obtain ⟨hg0, ha0⟩ := mv_gd_some hh
    obtain rfl := Nat.eq_of_beq_eq_true hg0
    obtain ⟨x, h', h1, h9⟩ := mv_rI_some ha0
    exact ⟨_, _, h9, (by first | decide | exact Nat.le_refl _ | exact Nat.zero_le _), fun _ => ⟨_, _, _, rfl, Or.inl ⟨by decide, rfl⟩⟩, (mM_isForOdds _ _ h _ _ h1)⟩
  · cases hh

