set_option maxRecDepth 100000 in
theorem kT_readInto : mv_tok mdT_readInto nT_readInto tT_readInto = true := by decide +kernel
set_option maxRecDepth 100000 in
set_option maxHeartbeats 1000000 in
theorem eT_readInto_b11 (q11 : Nat → Nat → Int32 → H2 → O2) (o0 : Nat) (o1 : Nat) (v2 : Int32) (h : H2) : mv_blk rI2 rR2 ln2 wI2 wR2 nw2 cp2 bod none tT_readInto gT_readInto 0 0 [11] (fun pc lv st h ce sl => mv_gd (Nat.beq ce 0 && Nat.beq sl 0) (cond (Nat.beq pc 11) (mv_gR 0 6 lv fun o0 => mv_gR 1 2 lv fun o1 => mv_gI 2 lv fun v2 => mv_sE st (q11 o0 o1 v2 h)) (none))) 400 (mv_seek 11 tT_readInto) [(0, Sum.inr (6, o0)), (1, Sum.inr (2, o1)), (2, Sum.inl (Value.int v2))] [] h 0 0 = (
  if (rI2 h 6 o0 1) < v2 then (
    some ([Sum.inl (Value.int (-(nI 1)))], h))
  else
  mv_rV (fT_readWord o0 h) fun h1 =>
  if (rI2 h1 6 o0 4) = 0 then (
    some ([Sum.inl (Value.int (-(nI 1)))], h1))
  else
  mv_rI (fT_readStatement o0 o1 h1) fun r3 h2 =>
  if r3 = 0 then (
    some ([Sum.inl (Value.int (rI2 h2 6 o0 3))], h2))
  else
  mv_bi (v2 + (nI 1)) fun x4 =>
  q11 o0 o1 x4 h2) := rfl
set_option maxRecDepth 100000 in
set_option maxHeartbeats 1000000 in
theorem eT_readInto (q11 : Nat → Nat → Int32 → H2 → O2) (o0 : Nat) (o1 : Nat) (h : H2) : mv_blk rI2 rR2 ln2 wI2 wR2 nw2 cp2 bod none tT_readInto gT_readInto 0 0 [11] (fun pc lv st h ce sl => mv_gd (Nat.beq ce 0 && Nat.beq sl 0) (cond (Nat.beq pc 11) (mv_gR 0 6 lv fun o0 => mv_gR 1 2 lv fun o1 => mv_gI 2 lv fun v2 => mv_sE st (q11 o0 o1 v2 h)) (none))) 400 (mv_seek 0 tT_readInto) [(0, Sum.inr (6, o0)), (1, Sum.inr (2, o1))] [] h 0 0 = (
  mv_rV (fM_becomeFirst o1 h) fun h1 =>
  mv_bh (wI2 h1 6 o0 2 (nI 0)) fun h2 =>
  mv_bi (nI 0) fun x3 =>
  q11 o0 o1 x3 h2) := rfl
theorem GT_readInto : ∀ (j : Nat) (C : mv_C H2) (md' : mv_MD × Bool), mv_nth j gT_readInto = some C → mv_nth j nT_readInto = some md' → ∃ n', n' + 1 ≤ 9 ∧ mv_Cal vw2 n' md' C := fun j C md' => match j with
  | 0 => fun h1 h2 => by
    obtain rfl := Option.some.inj h1
    obtain rfl := Option.some.inj h2
    exact ⟨1, by decide, cM_becomeFirst_ok⟩
  | 1 => fun h1 h2 => by
    obtain rfl := Option.some.inj h1
    obtain rfl := Option.some.inj h2
    exact ⟨2, by decide, cT_readWord_ok⟩
  | 2 => fun h1 h2 => by
    obtain rfl := Option.some.inj h1
    obtain rfl := Option.some.inj h2
    exact ⟨8, by decide, cT_readStatement_ok⟩
  | jj + 3 => fun h1 _ => by cases jj <;> cases h1

set_option maxRecDepth 20000 in
theorem xT_readInto_b11 {g0 : mv_G} {res : List mv_V × H2} : ∀ (n : Nat) (o0 : Nat) (o1 : Nat) (v2 : Int32) (h : H2), fT_readInto_b11 n o0 o1 v2 h = some res → mv_X vw2 mdT_readInto 9 0 0 none g0 res 11 [(0, Sum.inr (6, o0)), (1, Sum.inr (2, o1)), (2, Sum.inl (Value.int v2))] [] h 0 0 := by
  intro n
  induction n with
  | zero => intro o0 o1 v2 h hh; cases hh
  | succ n ih =>
    intro o0 o1 v2 h hh
    refine mv_blkX ax2 (GT_readInto) (by decide) kT_readInto (fun pc lv st h ce sl hh => ?_) ((eT_readInto_b11 (fT_readInto_b11 n) o0 o1 v2 h).trans hh)
    obtain ⟨hg, hh1⟩ := mv_gd_some hh
    obtain ⟨rfl, rfl⟩ := mv_z2 hg
    rcases mv_cond_some hh1 with ⟨hb, hh2⟩ | ⟨hb, hh3⟩
    · obtain rfl := Nat.eq_of_beq_eq_true hb
      obtain ⟨o0, m0, hh4⟩ := mv_gR_some hh2
      obtain ⟨o1, m1, hh5⟩ := mv_gR_some hh4
      obtain ⟨v2, m2, hh6⟩ := mv_gI_some hh5
      obtain ⟨rfl, hh7⟩ := mv_sE_some hh6
      exact (ih o0 o1 v2 h hh7).sub (List.forall_mem_cons.mpr ⟨m0, (List.forall_mem_cons.mpr ⟨m1, (List.forall_mem_cons.mpr ⟨m2, (fun q hq => by cases hq)⟩)⟩)⟩)
    cases hh3

set_option maxRecDepth 20000 in
theorem xT_readInto {g0 : mv_G} {res : List mv_V × H2} (o0 : Nat) (o1 : Nat) (h : H2) (hh : fT_readInto o0 o1 h = some res) : mv_X vw2 mdT_readInto 9 0 0 none g0 res 0 [(0, Sum.inr (6, o0)), (1, Sum.inr (2, o1))] [] h 0 0 := by
  refine mv_blkX ax2 (GT_readInto) (by decide) kT_readInto (fun pc lv st h ce sl hh => ?_) ((eT_readInto (fT_readInto_b11 1000) o0 o1 h).trans hh)
  obtain ⟨hg, hh1⟩ := mv_gd_some hh
  obtain ⟨rfl, rfl⟩ := mv_z2 hg
  rcases mv_cond_some hh1 with ⟨hb, hh2⟩ | ⟨hb, hh3⟩
  · obtain rfl := Nat.eq_of_beq_eq_true hb
    obtain ⟨o0, m0, hh4⟩ := mv_gR_some hh2
    obtain ⟨o1, m1, hh5⟩ := mv_gR_some hh4
    obtain ⟨v2, m2, hh6⟩ := mv_gI_some hh5
    obtain ⟨rfl, hh7⟩ := mv_sE_some hh6
    exact (xT_readInto_b11 1000 o0 o1 v2 h hh7).sub (List.forall_mem_cons.mpr ⟨m0, (List.forall_mem_cons.mpr ⟨m1, (List.forall_mem_cons.mpr ⟨m2, (fun q hq => by cases hq)⟩)⟩)⟩)
  cases hh3

theorem mT_readInto (o0 : Nat) (o1 : Nat) (h : H2) (vs : List mv_V) (h' : H2) (hh : fT_readInto o0 o1 h = some (vs, h')) : mv_Met vw2 9 0 0 mdT_readInto [Sum.inr (6, o0), Sum.inr (2, o1)] h vs h' :=
  mv_Met_of (by decide +kernel) (Nat.le_of_ble_eq_true rfl) (xT_readInto o0 o1 h hh)
theorem cT_readInto_ok : mv_Cal vw2 9 (mdT_readInto, true) ((0, 0), cT_readInto) := by
  intro as h k res hh
  change cT_readInto as h k = some res at hh
  unfold cT_readInto at hh
  split at hh
  · obtain ⟨hg0, ha0⟩ := mv_gd_some hh
    obtain rfl := Nat.eq_of_beq_eq_true hg0
    obtain ⟨hg1, ha1⟩ := mv_gd_some ha0
    obtain rfl := Nat.eq_of_beq_eq_true hg1
    obtain ⟨x, h', h1, h9⟩ := mv_rI_some ha1
    exact ⟨_, _, h9, (by first | decide | exact Nat.le_refl _ | exact Nat.zero_le _), fun _ => ⟨_, _, _, rfl, Or.inl ⟨by decide, rfl⟩⟩, (mT_readInto _ _ h _ _ h1)⟩
  · cases hh

set_option maxRecDepth 100000 in
theorem kV_feed : mv_tok mdV_feed nV_feed tV_feed = true := by decide +kernel
set_option maxRecDepth 100000 in
set_option maxHeartbeats 1000000 in
theorem eV_feed (o0 : Nat) (w1 : Int64) (v3 : Int32) (h : H2) : mv_blk rI2 rR2 ln2 wI2 wR2 nw2 cp2 bod none tV_feed gV_feed 0 0 [] (fun _ _ _ _ _ _ => none) 400 (mv_seek 0 tV_feed) [(0, Sum.inr (7, o0)), (1, Sum.inl (Value.long w1)), (3, Sum.inl (Value.int v3))] [] h 0 0 = (
  mv_rI (fV_isIn v3 (nI 1) (nI 8) h) fun r2 h1 =>
  if r2 = 0 then (
    some ([Sum.inl (Value.int (-(nI 1)))], h1))
  else
  mv_rI (fT_room 0 h1) fun r4 h3 =>
  if v3 ≤ r4 then (
    mv_rV (fT_take 0 w1 v3 h3) fun h5 =>
    some ([Sum.inl (Value.int (rI2 h5 6 0 1))], h5))
  else
  some ([Sum.inl (Value.int (-(nI 2)))], h3)) := rfl
theorem GV_feed : ∀ (j : Nat) (C : mv_C H2) (md' : mv_MD × Bool), mv_nth j gV_feed = some C → mv_nth j nV_feed = some md' → ∃ n', n' + 1 ≤ 2 ∧ mv_Cal vw2 n' md' C := fun j C md' => match j with
  | 0 => fun h1 h2 => by
    obtain rfl := Option.some.inj h1
    obtain rfl := Option.some.inj h2
    exact ⟨1, by decide, cV_isIn_ok⟩
  | 1 => fun h1 h2 => by
    obtain rfl := Option.some.inj h1
    obtain rfl := Option.some.inj h2
    exact ⟨1, by decide, cT_room_ok⟩
  | 2 => fun h1 h2 => by
    obtain rfl := Option.some.inj h1
    obtain rfl := Option.some.inj h2
    exact ⟨1, by decide, cT_take_ok⟩
  | jj + 3 => fun h1 _ => by cases jj <;> cases h1

set_option maxRecDepth 20000 in
theorem xV_feed {g0 : mv_G} {res : List mv_V × H2} (o0 : Nat) (w1 : Int64) (v3 : Int32) (h : H2) (hh : fV_feed o0 w1 v3 h = some res) : mv_X vw2 mdV_feed 2 0 0 none g0 res 0 [(0, Sum.inr (7, o0)), (1, Sum.inl (Value.long w1)), (3, Sum.inl (Value.int v3))] [] h 0 0 := by
  refine mv_blkX ax2 (GV_feed) (by decide) kV_feed (fun pc lv st h ce sl hh => ?_) ((eV_feed  o0 w1 v3 h).trans hh)
  cases hh

theorem mV_feed (o0 : Nat) (w1 : Int64) (v3 : Int32) (h : H2) (vs : List mv_V) (h' : H2) (hh : fV_feed o0 w1 v3 h = some (vs, h')) : mv_Met vw2 2 0 0 mdV_feed [Sum.inr (7, o0), Sum.inl (Value.long w1), Sum.inl (Value.int v3)] h vs h' :=
  mv_Met_of (by decide +kernel) (Nat.le_of_ble_eq_true rfl) (xV_feed o0 w1 v3 h hh)
set_option maxRecDepth 100000 in
theorem kV_mill : mv_tok mdV_mill nV_mill tV_mill = true := by decide +kernel
set_option maxRecDepth 100000 in
set_option maxHeartbeats 1000000 in
theorem eV_mill (o0 : Nat) (h : H2) : mv_blk rI2 rR2 ln2 wI2 wR2 nw2 cp2 bod none tV_mill gV_mill 0 0 [] (fun _ _ _ _ _ _ => none) 400 (mv_seek 0 tV_mill) [(0, Sum.inr (7, o0))] [] h 0 0 = (
  mv_rI (fT_readInto 0 1 h) fun r2 h1 =>
  mv_bi r2 fun x3 =>
  mv_rV (fT_useUp 0 h1) fun h4 =>
  if x3 < 0 then (
    mv_bh (wI2 h4 2 1 11 (rI2 h4 2 0 11)) fun h5 =>
    mv_rV (fM_copyFrom 0 1 h5) fun h6 =>
    mv_bh (wI2 h6 3 0 1 (nI 0)) fun h7 =>
    some ([Sum.inl (Value.int (rI2 h7 2 0 9))], h7))
  else
  some ([Sum.inl (Value.int ((-(nI 100)) - x3))], h4)) := rfl
theorem GV_mill : ∀ (j : Nat) (C : mv_C H2) (md' : mv_MD × Bool), mv_nth j gV_mill = some C → mv_nth j nV_mill = some md' → ∃ n', n' + 1 ≤ 10 ∧ mv_Cal vw2 n' md' C := fun j C md' => match j with
  | 0 => fun h1 h2 => by
    obtain rfl := Option.some.inj h1
    obtain rfl := Option.some.inj h2
    exact ⟨9, by decide, cT_readInto_ok⟩
  | 1 => fun h1 h2 => by
    obtain rfl := Option.some.inj h1
    obtain rfl := Option.some.inj h2
    exact ⟨1, by decide, cT_useUp_ok⟩
  | 2 => fun h1 h2 => by
    obtain rfl := Option.some.inj h1
    obtain rfl := Option.some.inj h2
    exact ⟨1, by decide, cM_copyFrom_ok⟩
  | jj + 3 => fun h1 _ => by cases jj <;> cases h1

set_option maxRecDepth 20000 in
theorem xV_mill {g0 : mv_G} {res : List mv_V × H2} (o0 : Nat) (h : H2) (hh : fV_mill o0 h = some res) : mv_X vw2 mdV_mill 10 0 0 none g0 res 0 [(0, Sum.inr (7, o0))] [] h 0 0 := by
  refine mv_blkX ax2 (GV_mill) (by decide) kV_mill (fun pc lv st h ce sl hh => ?_) ((eV_mill  o0 h).trans hh)
  cases hh

theorem mV_mill (o0 : Nat) (h : H2) (vs : List mv_V) (h' : H2) (hh : fV_mill o0 h = some (vs, h')) : mv_Met vw2 10 0 0 mdV_mill [Sum.inr (7, o0)] h vs h' :=
  mv_Met_of (by decide +kernel) (Nat.le_of_ble_eq_true rfl) (xV_mill o0 h hh)
set_option maxRecDepth 100000 in
theorem kV_set : mv_tok mdV_set nV_set tV_set = true := by decide +kernel
set_option maxRecDepth 100000 in
set_option maxHeartbeats 1000000 in
theorem eV_set (o0 : Nat) (v1 : Int32) (v2 : Int32) (h : H2) : mv_blk rI2 rR2 ln2 wI2 wR2 nw2 cp2 bod none tV_set gV_set 0 0 [] (fun _ _ _ _ _ _ => none) 400 (mv_seek 0 tV_set) [(0, Sum.inr (7, o0)), (1, Sum.inl (Value.int v1)), (2, Sum.inl (Value.int v2))] [] h 0 0 = (
  mv_rI (fV_isIn v1 (nI 0) (nI 3) h) fun r2 h1 =>
  if r2 = 0 then (
    some ([Sum.inl (Value.int (-(nI 1)))], h1))
  else
  mv_rI (fV_mostOfLaw v1 h1) fun r4 h3 =>
  mv_rI (fV_isIn v2 (nI 0) r4 h3) fun r6 h5 =>
  if r6 = 0 then (
    some ([Sum.inl (Value.int (-(nI 1)))], h5))
  else
  mv_gd (mv_inb v1 4) <|
  mv_bi (rI2 h5 300 0 v1.toNatClampNeg) fun x7 =>
  mv_gd (mv_inb v1 4) <|
  mv_bh (wI2 h5 300 0 v1.toNatClampNeg v2) fun h8 =>
  some ([Sum.inl (Value.int x7)], h8)) := rfl
theorem GV_set : ∀ (j : Nat) (C : mv_C H2) (md' : mv_MD × Bool), mv_nth j gV_set = some C → mv_nth j nV_set = some md' → ∃ n', n' + 1 ≤ 2 ∧ mv_Cal vw2 n' md' C := fun j C md' => match j with
  | 0 => fun h1 h2 => by
    obtain rfl := Option.some.inj h1
    obtain rfl := Option.some.inj h2
    exact ⟨1, by decide, cV_isIn_ok⟩
  | 1 => fun h1 h2 => by
    obtain rfl := Option.some.inj h1
    obtain rfl := Option.some.inj h2
    exact ⟨1, by decide, cV_mostOfLaw_ok⟩
  | jj + 2 => fun h1 _ => by cases jj <;> cases h1

set_option maxRecDepth 20000 in
theorem xV_set {g0 : mv_G} {res : List mv_V × H2} (o0 : Nat) (v1 : Int32) (v2 : Int32) (h : H2) (hh : fV_set o0 v1 v2 h = some res) : mv_X vw2 mdV_set 2 0 0 none g0 res 0 [(0, Sum.inr (7, o0)), (1, Sum.inl (Value.int v1)), (2, Sum.inl (Value.int v2))] [] h 0 0 := by
  refine mv_blkX ax2 (GV_set) (by decide) kV_set (fun pc lv st h ce sl hh => ?_) ((eV_set  o0 v1 v2 h).trans hh)
  cases hh

theorem mV_set (o0 : Nat) (v1 : Int32) (v2 : Int32) (h : H2) (vs : List mv_V) (h' : H2) (hh : fV_set o0 v1 v2 h = some (vs, h')) : mv_Met vw2 2 0 0 mdV_set [Sum.inr (7, o0), Sum.inl (Value.int v1), Sum.inl (Value.int v2)] h vs h' :=
  mv_Met_of (by decide +kernel) (Nat.le_of_ble_eq_true rfl) (xV_set o0 v1 v2 h hh)
set_option maxRecDepth 100000 in
theorem kV_lawOf : mv_tok mdV_lawOf nV_lawOf tV_lawOf = true := by decide +kernel
set_option maxRecDepth 100000 in
set_option maxHeartbeats 1000000 in
theorem eV_lawOf (o0 : Nat) (v1 : Int32) (h : H2) : mv_blk rI2 rR2 ln2 wI2 wR2 nw2 cp2 bod none tV_lawOf gV_lawOf 0 0 [] (fun _ _ _ _ _ _ => none) 400 (mv_seek 0 tV_lawOf) [(0, Sum.inr (7, o0)), (1, Sum.inl (Value.int v1))] [] h 0 0 = (
  mv_rI (fV_isIn v1 (nI 0) (nI 3) h) fun r2 h1 =>
  if r2 = 0 then (
    some ([Sum.inl (Value.int (-(nI 1)))], h1))
  else
  mv_gd (mv_inb v1 4) <|
  some ([Sum.inl (Value.int (rI2 h1 300 0 v1.toNatClampNeg))], h1)) := rfl
theorem GV_lawOf : ∀ (j : Nat) (C : mv_C H2) (md' : mv_MD × Bool), mv_nth j gV_lawOf = some C → mv_nth j nV_lawOf = some md' → ∃ n', n' + 1 ≤ 2 ∧ mv_Cal vw2 n' md' C := fun j C md' => match j with
  | 0 => fun h1 h2 => by
    obtain rfl := Option.some.inj h1
    obtain rfl := Option.some.inj h2
    exact ⟨1, by decide, cV_isIn_ok⟩
  | jj + 1 => fun h1 _ => by cases jj <;> cases h1

set_option maxRecDepth 20000 in
theorem xV_lawOf {g0 : mv_G} {res : List mv_V × H2} (o0 : Nat) (v1 : Int32) (h : H2) (hh : fV_lawOf o0 v1 h = some res) : mv_X vw2 mdV_lawOf 2 0 0 none g0 res 0 [(0, Sum.inr (7, o0)), (1, Sum.inl (Value.int v1))] [] h 0 0 := by
  refine mv_blkX ax2 (GV_lawOf) (by decide) kV_lawOf (fun pc lv st h ce sl hh => ?_) ((eV_lawOf  o0 v1 h).trans hh)
  cases hh

theorem mV_lawOf (o0 : Nat) (v1 : Int32) (h : H2) (vs : List mv_V) (h' : H2) (hh : fV_lawOf o0 v1 h = some (vs, h')) : mv_Met vw2 2 0 0 mdV_lawOf [Sum.inr (7, o0), Sum.inl (Value.int v1)] h vs h' :=
  mv_Met_of (by decide +kernel) (Nat.le_of_ble_eq_true rfl) (xV_lawOf o0 v1 h hh)
set_option maxRecDepth 100000 in
theorem kV_isVat : mv_tok mdV_isVat nV_isVat tV_isVat = true := by decide +kernel
set_option maxRecDepth 100000 in
set_option maxHeartbeats 1000000 in
theorem eV_isVat (v0 : Int32) (h : H2) : mv_blk rI2 rR2 ln2 wI2 wR2 nw2 cp2 bod none tV_isVat gV_isVat 0 0 [] (fun _ _ _ _ _ _ => none) 400 (mv_seek 0 tV_isVat) [(0, Sum.inl (Value.int v0))] [] h 0 0 = (
  mv_rI (fV_isIn v0 (nI 0) (nI 7) h) fun r2 h1 =>
  mv_gd (decide (r2 = nI 0) || decide (r2 = nI 1)) <| some ([Sum.inl (Value.int r2)], h1)) := rfl
theorem GV_isVat : ∀ (j : Nat) (C : mv_C H2) (md' : mv_MD × Bool), mv_nth j gV_isVat = some C → mv_nth j nV_isVat = some md' → ∃ n', n' + 1 ≤ 2 ∧ mv_Cal vw2 n' md' C := fun j C md' => match j with
  | 0 => fun h1 h2 => by
    obtain rfl := Option.some.inj h1
    obtain rfl := Option.some.inj h2
    exact ⟨1, by decide, cV_isIn_ok⟩
  | jj + 1 => fun h1 _ => by cases jj <;> cases h1

set_option maxRecDepth 20000 in
theorem xV_isVat {g0 : mv_G} {res : List mv_V × H2} (v0 : Int32) (h : H2) (hh : fV_isVat v0 h = some res) : mv_X vw2 mdV_isVat 2 0 0 none g0 res 0 [(0, Sum.inl (Value.int v0))] [] h 0 0 := by
  refine mv_blkX ax2 (GV_isVat) (by decide) kV_isVat (fun pc lv st h ce sl hh => ?_) ((eV_isVat  v0 h).trans hh)
  cases hh

theorem mV_isVat (v0 : Int32) (h : H2) (vs : List mv_V) (h' : H2) (hh : fV_isVat v0 h = some (vs, h')) : mv_Met vw2 2 0 0 mdV_isVat [Sum.inl (Value.int v0)] h vs h' :=
  mv_Met_of (by decide +kernel) (Nat.le_of_ble_eq_true rfl) (xV_isVat v0 h hh)
theorem cV_isVat_ok : mv_Cal vw2 2 (mdV_isVat, false) ((0, 0), cV_isVat) := by
  intro as h k res hh
  change cV_isVat as h k = some res at hh
  unfold cV_isVat at hh
  split at hh
  · obtain ⟨x, h', h1, h9⟩ := mv_rI_some hh
    exact ⟨_, _, h9, (by first | decide | exact Nat.le_refl _ | exact Nat.zero_le _), (fun h => by cases h), (mV_isVat _ h _ _ h1)⟩
  · cases hh

set_option maxRecDepth 100000 in
theorem kV_fill : mv_tok mdV_fill nV_fill tV_fill = true := by decide +kernel
set_option maxRecDepth 100000 in
set_option maxHeartbeats 1000000 in
theorem eV_fill_b31 (o0 : Nat) (v1 : Int32) (v2 : Int32) (v3 : Int32) (vs0 : Int32) (vs1 : Int32) (vs2 : Int32) (h : H2) : mv_blk rI2 rR2 ln2 wI2 wR2 nw2 cp2 bod none tV_fill gV_fill 0 0 [] (fun _ _ _ _ _ _ => none) 400 (mv_seek 31 tV_fill) [(0, Sum.inr (7, o0)), (1, Sum.inl (Value.int v1)), (2, Sum.inl (Value.int v2)), (3, Sum.inl (Value.int v3))] [Sum.inl (Value.int vs2), Sum.inl (Value.int vs1), Sum.inl (Value.int vs0)] h 0 0 = (
  mv_rI (fV_isIn vs0 vs1 vs2 h) fun r2 h1 =>
  if r2 = 0 then (
    some ([Sum.inl (Value.int (-(nI 1)))], h1))
  else
  if v2 = 0 then (
    mv_gd (mv_inb v1 8) <|
    mv_bi (rI2 h1 301 0 v1.toNatClampNeg) fun x3 =>
    mv_gd (mv_inb v1 8) <|
    mv_bh (wI2 h1 301 0 v1.toNatClampNeg v3) fun h4 =>
    some ([Sum.inl (Value.int x3)], h4))
  else
  mv_gd (mv_inb v1 8) <|
  mv_bi (rI2 h1 302 0 v1.toNatClampNeg) fun x5 =>
  mv_gd (mv_inb v1 8) <|
  mv_bh (wI2 h1 302 0 v1.toNatClampNeg v3) fun h6 =>
  some ([Sum.inl (Value.int x5)], h6)) := rfl
set_option maxRecDepth 100000 in
set_option maxHeartbeats 1000000 in
theorem eV_fill (q31 : Nat → Int32 → Int32 → Int32 → Int32 → Int32 → Int32 → H2 → O2) (o0 : Nat) (v1 : Int32) (v2 : Int32) (v3 : Int32) (h : H2) : mv_blk rI2 rR2 ln2 wI2 wR2 nw2 cp2 bod none tV_fill gV_fill 0 0 [31] (fun pc lv st h ce sl => mv_gd (Nat.beq ce 0 && Nat.beq sl 0) (cond (Nat.beq pc 31) (mv_gR 0 7 lv fun o0 => mv_gI 1 lv fun v1 => mv_gI 2 lv fun v2 => mv_gI 3 lv fun v3 => mv_sI st fun vs2 st => mv_sI st fun vs1 st => mv_sI st fun vs0 st => mv_sE st (q31 o0 v1 v2 v3 vs0 vs1 vs2 h)) (none))) 400 (mv_seek 0 tV_fill) [(0, Sum.inr (7, o0)), (1, Sum.inl (Value.int v1)), (2, Sum.inl (Value.int v2)), (3, Sum.inl (Value.int v3))] [] h 0 0 = (
  mv_rI (fV_isVat v1 h) fun r2 h1 =>
  if r2 = 0 then (
    some ([Sum.inl (Value.int (-(nI 1)))], h1))
  else
  mv_rI (fV_isIn v2 (nI 0) (nI 1) h1) fun r4 h3 =>
  if r4 = 0 then (
    some ([Sum.inl (Value.int (-(nI 1)))], h3))
  else
  if v2 = 0 then (
    q31 o0 v1 v2 v3 v3 (nI 0) (nI 9) h3)
  else
  q31 o0 v1 v2 v3 v3 (nI 0) (nI 9) h3) := rfl
theorem GV_fill : ∀ (j : Nat) (C : mv_C H2) (md' : mv_MD × Bool), mv_nth j gV_fill = some C → mv_nth j nV_fill = some md' → ∃ n', n' + 1 ≤ 3 ∧ mv_Cal vw2 n' md' C := fun j C md' => match j with
  | 0 => fun h1 h2 => by
    obtain rfl := Option.some.inj h1
    obtain rfl := Option.some.inj h2
    exact ⟨2, by decide, cV_isVat_ok⟩
  | 1 => fun h1 h2 => by
    obtain rfl := Option.some.inj h1
    obtain rfl := Option.some.inj h2
    exact ⟨1, by decide, cV_isIn_ok⟩
  | jj + 2 => fun h1 _ => by cases jj <;> cases h1

set_option maxRecDepth 20000 in
theorem xV_fill_b31 {g0 : mv_G} {res : List mv_V × H2} (o0 : Nat) (v1 : Int32) (v2 : Int32) (v3 : Int32) (vs0 : Int32) (vs1 : Int32) (vs2 : Int32) (h : H2) (hh : fV_fill_b31 o0 v1 v2 v3 vs0 vs1 vs2 h = some res) : mv_X vw2 mdV_fill 3 0 0 none g0 res 31 [(0, Sum.inr (7, o0)), (1, Sum.inl (Value.int v1)), (2, Sum.inl (Value.int v2)), (3, Sum.inl (Value.int v3))] [Sum.inl (Value.int vs2), Sum.inl (Value.int vs1), Sum.inl (Value.int vs0)] h 0 0 := by
  refine mv_blkX ax2 (GV_fill) (by decide) kV_fill (fun pc lv st h ce sl hh => ?_) ((eV_fill_b31  o0 v1 v2 v3 vs0 vs1 vs2 h).trans hh)
  cases hh

set_option maxRecDepth 20000 in
theorem xV_fill {g0 : mv_G} {res : List mv_V × H2} (o0 : Nat) (v1 : Int32) (v2 : Int32) (v3 : Int32) (h : H2) (hh : fV_fill o0 v1 v2 v3 h = some res) : mv_X vw2 mdV_fill 3 0 0 none g0 res 0 [(0, Sum.inr (7, o0)), (1, Sum.inl (Value.int v1)), (2, Sum.inl (Value.int v2)), (3, Sum.inl (Value.int v3))] [] h 0 0 := by
  refine mv_blkX ax2 (GV_fill) (by decide) kV_fill (fun pc lv st h ce sl hh => ?_) ((eV_fill (fV_fill_b31) o0 v1 v2 v3 h).trans hh)
  obtain ⟨hg, hh1⟩ := mv_gd_some hh
  obtain ⟨rfl, rfl⟩ := mv_z2 hg
  rcases mv_cond_some hh1 with ⟨hb, hh2⟩ | ⟨hb, hh3⟩
  · obtain rfl := Nat.eq_of_beq_eq_true hb
    obtain ⟨o0, m0, hh4⟩ := mv_gR_some hh2
    obtain ⟨v1, m1, hh5⟩ := mv_gI_some hh4
    obtain ⟨v2, m2, hh6⟩ := mv_gI_some hh5
    obtain ⟨v3, m3, hh7⟩ := mv_gI_some hh6
    obtain ⟨vs2, sthh8, rfl, hh8⟩ := mv_sI_some hh7
    obtain ⟨vs1, sthh9, rfl, hh9⟩ := mv_sI_some hh8
    obtain ⟨vs0, sthh10, rfl, hh10⟩ := mv_sI_some hh9
    obtain ⟨rfl, hh11⟩ := mv_sE_some hh10
    exact (xV_fill_b31  o0 v1 v2 v3 vs0 vs1 vs2 h hh11).sub (List.forall_mem_cons.mpr ⟨m0, (List.forall_mem_cons.mpr ⟨m1, (List.forall_mem_cons.mpr ⟨m2, (List.forall_mem_cons.mpr ⟨m3, (fun q hq => by cases hq)⟩)⟩)⟩)⟩)
  cases hh3

theorem mV_fill (o0 : Nat) (v1 : Int32) (v2 : Int32) (v3 : Int32) (h : H2) (vs : List mv_V) (h' : H2) (hh : fV_fill o0 v1 v2 v3 h = some (vs, h')) : mv_Met vw2 3 0 0 mdV_fill [Sum.inr (7, o0), Sum.inl (Value.int v1), Sum.inl (Value.int v2), Sum.inl (Value.int v3)] h vs h' :=
  mv_Met_of (by decide +kernel) (Nat.le_of_ble_eq_true rfl) (xV_fill o0 v1 v2 v3 h hh)
set_option maxRecDepth 100000 in
theorem kV_vatOf : mv_tok mdV_vatOf nV_vatOf tV_vatOf = true := by decide +kernel
set_option maxRecDepth 100000 in
set_option maxHeartbeats 1000000 in
theorem eV_vatOf (o0 : Nat) (v1 : Int32) (v2 : Int32) (h : H2) : mv_blk rI2 rR2 ln2 wI2 wR2 nw2 cp2 bod none tV_vatOf gV_vatOf 0 0 [] (fun _ _ _ _ _ _ => none) 400 (mv_seek 0 tV_vatOf) [(0, Sum.inr (7, o0)), (1, Sum.inl (Value.int v1)), (2, Sum.inl (Value.int v2))] [] h 0 0 = (
  mv_rI (fV_isVat v1 h) fun r2 h1 =>
  if r2 = 0 then (
    some ([Sum.inl (Value.int (-(nI 1)))], h1))
  else
  mv_rI (fV_isIn v2 (nI 0) (nI 1) h1) fun r4 h3 =>
  if r4 = 0 then (
    some ([Sum.inl (Value.int (-(nI 1)))], h3))
  else
  if v2 = 0 then (
    mv_gd (mv_inb v1 8) <|
    some ([Sum.inl (Value.int (rI2 h3 301 0 v1.toNatClampNeg))], h3))
  else
  mv_gd (mv_inb v1 8) <|
  some ([Sum.inl (Value.int (rI2 h3 302 0 v1.toNatClampNeg))], h3)) := rfl
theorem GV_vatOf : ∀ (j : Nat) (C : mv_C H2) (md' : mv_MD × Bool), mv_nth j gV_vatOf = some C → mv_nth j nV_vatOf = some md' → ∃ n', n' + 1 ≤ 3 ∧ mv_Cal vw2 n' md' C := fun j C md' => match j with
  | 0 => fun h1 h2 => by
    obtain rfl := Option.some.inj h1
    obtain rfl := Option.some.inj h2
    exact ⟨2, by decide, cV_isVat_ok⟩
  | 1 => fun h1 h2 => by
    obtain rfl := Option.some.inj h1
    obtain rfl := Option.some.inj h2
    exact ⟨1, by decide, cV_isIn_ok⟩
  | jj + 2 => fun h1 _ => by cases jj <;> cases h1

set_option maxRecDepth 20000 in
theorem xV_vatOf {g0 : mv_G} {res : List mv_V × H2} (o0 : Nat) (v1 : Int32) (v2 : Int32) (h : H2) (hh : fV_vatOf o0 v1 v2 h = some res) : mv_X vw2 mdV_vatOf 3 0 0 none g0 res 0 [(0, Sum.inr (7, o0)), (1, Sum.inl (Value.int v1)), (2, Sum.inl (Value.int v2))] [] h 0 0 := by
  refine mv_blkX ax2 (GV_vatOf) (by decide) kV_vatOf (fun pc lv st h ce sl hh => ?_) ((eV_vatOf  o0 v1 v2 h).trans hh)
  cases hh

theorem mV_vatOf (o0 : Nat) (v1 : Int32) (v2 : Int32) (h : H2) (vs : List mv_V) (h' : H2) (hh : fV_vatOf o0 v1 v2 h = some (vs, h')) : mv_Met vw2 3 0 0 mdV_vatOf [Sum.inr (7, o0), Sum.inl (Value.int v1), Sum.inl (Value.int v2)] h vs h' :=
  mv_Met_of (by decide +kernel) (Nat.le_of_ble_eq_true rfl) (xV_vatOf o0 v1 v2 h hh)
set_option maxRecDepth 100000 in
theorem kV_isRest : mv_tok mdV_isRest nV_isRest tV_isRest = true := by decide +kernel
set_option maxRecDepth 100000 in
set_option maxHeartbeats 1000000 in
theorem eV_isRest (v0 : Int32) (h : H2) : mv_blk rI2 rR2 ln2 wI2 wR2 nw2 cp2 bod none tV_isRest gV_isRest 0 0 [] (fun _ _ _ _ _ _ => none) 400 (mv_seek 0 tV_isRest) [(0, Sum.inl (Value.int v0))] [] h 0 0 = (
  mv_rI (fV_isIn v0 (nI 0) (nI 5) h) fun r2 h1 =>
  mv_gd (decide (r2 = nI 0) || decide (r2 = nI 1)) <| some ([Sum.inl (Value.int r2)], h1)) := rfl
theorem GV_isRest : ∀ (j : Nat) (C : mv_C H2) (md' : mv_MD × Bool), mv_nth j gV_isRest = some C → mv_nth j nV_isRest = some md' → ∃ n', n' + 1 ≤ 2 ∧ mv_Cal vw2 n' md' C := fun j C md' => match j with
  | 0 => fun h1 h2 => by
    obtain rfl := Option.some.inj h1
    obtain rfl := Option.some.inj h2
    exact ⟨1, by decide, cV_isIn_ok⟩
  | jj + 1 => fun h1 _ => by cases jj <;> cases h1

set_option maxRecDepth 20000 in
theorem xV_isRest {g0 : mv_G} {res : List mv_V × H2} (v0 : Int32) (h : H2) (hh : fV_isRest v0 h = some res) : mv_X vw2 mdV_isRest 2 0 0 none g0 res 0 [(0, Sum.inl (Value.int v0))] [] h 0 0 := by
  refine mv_blkX ax2 (GV_isRest) (by decide) kV_isRest (fun pc lv st h ce sl hh => ?_) ((eV_isRest  v0 h).trans hh)
  cases hh

theorem mV_isRest (v0 : Int32) (h : H2) (vs : List mv_V) (h' : H2) (hh : fV_isRest v0 h = some (vs, h')) : mv_Met vw2 2 0 0 mdV_isRest [Sum.inl (Value.int v0)] h vs h' :=
  mv_Met_of (by decide +kernel) (Nat.le_of_ble_eq_true rfl) (xV_isRest v0 h hh)
theorem cV_isRest_ok : mv_Cal vw2 2 (mdV_isRest, false) ((0, 0), cV_isRest) := by
  intro as h k res hh
  change cV_isRest as h k = some res at hh
  unfold cV_isRest at hh
  split at hh
  · obtain ⟨x, h', h1, h9⟩ := mv_rI_some hh
    exact ⟨_, _, h9, (by first | decide | exact Nat.le_refl _ | exact Nat.zero_le _), (fun h => by cases h), (mV_isRest _ h _ _ h1)⟩
  · cases hh

set_option maxRecDepth 100000 in
theorem kV_roster : mv_tok mdV_roster nV_roster tV_roster = true := by decide +kernel
set_option maxRecDepth 100000 in
set_option maxHeartbeats 1000000 in
theorem eV_roster_b23 (o0 : Nat) (v1 : Int32) (v2 : Int32) (h : H2) : mv_blk rI2 rR2 ln2 wI2 wR2 nw2 cp2 bod none tV_roster gV_roster 0 0 [] (fun _ _ _ _ _ _ => none) 400 (mv_seek 23 tV_roster) [(0, Sum.inr (7, o0)), (1, Sum.inl (Value.int v1)), (2, Sum.inl (Value.int v2))] [] h 0 0 = (
  mv_gd (mv_inb v1 6) <|
  mv_bi (rI2 h 303 0 v1.toNatClampNeg) fun x1 =>
  mv_gd (mv_inb v1 6) <|
  mv_bh (wI2 h 303 0 v1.toNatClampNeg v2) fun h2 =>
  some ([Sum.inl (Value.int ((nI 1) + x1))], h2)) := rfl
set_option maxRecDepth 100000 in
set_option maxHeartbeats 1000000 in
theorem eV_roster (q23 : Nat → Int32 → Int32 → H2 → O2) (o0 : Nat) (v1 : Int32) (v2 : Int32) (h : H2) : mv_blk rI2 rR2 ln2 wI2 wR2 nw2 cp2 bod none tV_roster gV_roster 0 0 [23] (fun pc lv st h ce sl => mv_gd (Nat.beq ce 0 && Nat.beq sl 0) (cond (Nat.beq pc 23) (mv_gR 0 7 lv fun o0 => mv_gI 1 lv fun v1 => mv_gI 2 lv fun v2 => mv_sE st (q23 o0 v1 v2 h)) (none))) 400 (mv_seek 0 tV_roster) [(0, Sum.inr (7, o0)), (1, Sum.inl (Value.int v1)), (2, Sum.inl (Value.int v2))] [] h 0 0 = (
  mv_rI (fV_isRest v1 h) fun r2 h1 =>
  if r2 = 0 then (
    some ([Sum.inl (Value.int (-(nI 1)))], h1))
  else
  if v2 = (-(nI 1)) then (
    q23 o0 v1 v2 h1)
  else
  mv_rI (fV_isVat v2 h1) fun r4 h3 =>
  if r4 = 0 then (
    some ([Sum.inl (Value.int (-(nI 1)))], h3))
  else
  q23 o0 v1 v2 h3) := rfl
theorem GV_roster : ∀ (j : Nat) (C : mv_C H2) (md' : mv_MD × Bool), mv_nth j gV_roster = some C → mv_nth j nV_roster = some md' → ∃ n', n' + 1 ≤ 3 ∧ mv_Cal vw2 n' md' C := fun j C md' => match j with
  | 0 => fun h1 h2 => by
    obtain rfl := Option.some.inj h1
    obtain rfl := Option.some.inj h2
    exact ⟨2, by decide, cV_isRest_ok⟩
  | 1 => fun h1 h2 => by
    obtain rfl := Option.some.inj h1
    obtain rfl := Option.some.inj h2
    exact ⟨2, by decide, cV_isVat_ok⟩
  | jj + 2 => fun h1 _ => by cases jj <;> cases h1

set_option maxRecDepth 20000 in
theorem xV_roster_b23 {g0 : mv_G} {res : List mv_V × H2} (o0 : Nat) (v1 : Int32) (v2 : Int32) (h : H2) (hh : fV_roster_b23 o0 v1 v2 h = some res) : mv_X vw2 mdV_roster 3 0 0 none g0 res 23 [(0, Sum.inr (7, o0)), (1, Sum.inl (Value.int v1)), (2, Sum.inl (Value.int v2))] [] h 0 0 := by
  refine mv_blkX ax2 (GV_roster) (by decide) kV_roster (fun pc lv st h ce sl hh => ?_) ((eV_roster_b23  o0 v1 v2 h).trans hh)
  cases hh

set_option maxRecDepth 20000 in
theorem xV_roster {g0 : mv_G} {res : List mv_V × H2} (o0 : Nat) (v1 : Int32) (v2 : Int32) (h : H2) (hh : fV_roster o0 v1 v2 h = some res) : mv_X vw2 mdV_roster 3 0 0 none g0 res 0 [(0, Sum.inr (7, o0)), (1, Sum.inl (Value.int v1)), (2, Sum.inl (Value.int v2))] [] h 0 0 := by
  refine mv_blkX ax2 (GV_roster) (by decide) kV_roster (fun pc lv st h ce sl hh => ?_) ((eV_roster (fV_roster_b23) o0 v1 v2 h).trans hh)
  obtain ⟨hg, hh1⟩ := mv_gd_some hh
  obtain ⟨rfl, rfl⟩ := mv_z2 hg
  rcases mv_cond_some hh1 with ⟨hb, hh2⟩ | ⟨hb, hh3⟩
  · obtain rfl := Nat.eq_of_beq_eq_true hb
    obtain ⟨o0, m0, hh4⟩ := mv_gR_some hh2
    obtain ⟨v1, m1, hh5⟩ := mv_gI_some hh4
    obtain ⟨v2, m2, hh6⟩ := mv_gI_some hh5
    obtain ⟨rfl, hh7⟩ := mv_sE_some hh6
    exact (xV_roster_b23  o0 v1 v2 h hh7).sub (List.forall_mem_cons.mpr ⟨m0, (List.forall_mem_cons.mpr ⟨m1, (List.forall_mem_cons.mpr ⟨m2, (fun q hq => by cases hq)⟩)⟩)⟩)
  cases hh3

theorem mV_roster (o0 : Nat) (v1 : Int32) (v2 : Int32) (h : H2) (vs : List mv_V) (h' : H2) (hh : fV_roster o0 v1 v2 h = some (vs, h')) : mv_Met vw2 3 0 0 mdV_roster [Sum.inr (7, o0), Sum.inl (Value.int v1), Sum.inl (Value.int v2)] h vs h' :=
  mv_Met_of (by decide +kernel) (Nat.le_of_ble_eq_true rfl) (xV_roster o0 v1 v2 h hh)
set_option maxRecDepth 100000 in
theorem kV_rosterOf : mv_tok mdV_rosterOf nV_rosterOf tV_rosterOf = true := by decide +kernel
set_option maxRecDepth 100000 in
set_option maxHeartbeats 1000000 in
theorem eV_rosterOf (o0 : Nat) (v1 : Int32) (h : H2) : mv_blk rI2 rR2 ln2 wI2 wR2 nw2 cp2 bod none tV_rosterOf gV_rosterOf 0 0 [] (fun _ _ _ _ _ _ => none) 400 (mv_seek 0 tV_rosterOf) [(0, Sum.inr (7, o0)), (1, Sum.inl (Value.int v1))] [] h 0 0 = (
  mv_rI (fV_isRest v1 h) fun r2 h1 =>
  if r2 = 0 then (
    some ([Sum.inl (Value.int (-(nI 1)))], h1))
  else
  mv_gd (mv_inb v1 6) <|
  some ([Sum.inl (Value.int ((nI 1) + (rI2 h1 303 0 v1.toNatClampNeg)))], h1)) := rfl
theorem GV_rosterOf : ∀ (j : Nat) (C : mv_C H2) (md' : mv_MD × Bool), mv_nth j gV_rosterOf = some C → mv_nth j nV_rosterOf = some md' → ∃ n', n' + 1 ≤ 3 ∧ mv_Cal vw2 n' md' C := fun j C md' => match j with
  | 0 => fun h1 h2 => by
    obtain rfl := Option.some.inj h1
    obtain rfl := Option.some.inj h2
    exact ⟨2, by decide, cV_isRest_ok⟩
  | jj + 1 => fun h1 _ => by cases jj <;> cases h1

set_option maxRecDepth 20000 in
theorem xV_rosterOf {g0 : mv_G} {res : List mv_V × H2} (o0 : Nat) (v1 : Int32) (h : H2) (hh : fV_rosterOf o0 v1 h = some res) : mv_X vw2 mdV_rosterOf 3 0 0 none g0 res 0 [(0, Sum.inr (7, o0)), (1, Sum.inl (Value.int v1))] [] h 0 0 := by
  refine mv_blkX ax2 (GV_rosterOf) (by decide) kV_rosterOf (fun pc lv st h ce sl hh => ?_) ((eV_rosterOf  o0 v1 h).trans hh)
  cases hh

theorem mV_rosterOf (o0 : Nat) (v1 : Int32) (h : H2) (vs : List mv_V) (h' : H2) (hh : fV_rosterOf o0 v1 h = some (vs, h')) : mv_Met vw2 3 0 0 mdV_rosterOf [Sum.inr (7, o0), Sum.inl (Value.int v1)] h vs h' :=
  mv_Met_of (by decide +kernel) (Nat.le_of_ble_eq_true rfl) (xV_rosterOf o0 v1 h hh)
