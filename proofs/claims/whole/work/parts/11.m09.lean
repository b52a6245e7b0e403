set_option maxRecDepth 100000 in
theorem kT_isStop : mv_tok mdT_isStop nT_isStop tT_isStop = true := by decide +kernel
set_option maxRecDepth 100000 in
set_option maxHeartbeats 1000000 in
theorem eT_isStop (o0 : Nat) (h : H2) : mv_blk rI2 rR2 ln2 wI2 wR2 nw2 cp2 bod none tT_isStop gT_isStop 0 0 [] (fun _ _ _ _ _ _ => none) 400 (mv_seek 0 tT_isStop) [(0, Sum.inr (6, o0))] [] h 0 0 = (
  if (rI2 h 6 o0 4) = (nI 3) then (
    mv_gd (mv_inb (rI2 h 6 o0 3) 200) <|
    if (rI2 h 700 o0 (rI2 h 6 o0 3).toNatClampNeg) = (nI 59) then (
      mv_gd (decide (nI 1 = nI 0) || decide (nI 1 = nI 1)) <| some ([Sum.inl (Value.int (nI 1))], h))
    else
    mv_gd (decide (nI 0 = nI 0) || decide (nI 0 = nI 1)) <| some ([Sum.inl (Value.int (nI 0))], h))
  else
  mv_gd (decide (nI 0 = nI 0) || decide (nI 0 = nI 1)) <| some ([Sum.inl (Value.int (nI 0))], h)) := rfl
theorem GT_isStop : ∀ (j : Nat) (C : mv_C H2) (md' : mv_MD × Bool), mv_nth j gT_isStop = some C → mv_nth j nT_isStop = some md' → ∃ n', n' + 1 ≤ 1 ∧ mv_Cal vw2 n' md' C := fun j C md' h1 _ => by cases j <;> cases h1

set_option maxRecDepth 20000 in
theorem xT_isStop {g0 : mv_G} {res : List mv_V × H2} (o0 : Nat) (h : H2) (hh : fT_isStop o0 h = some res) : mv_X vw2 mdT_isStop 1 0 0 none g0 res 0 [(0, Sum.inr (6, o0))] [] h 0 0 := by
  refine mv_blkX ax2 (GT_isStop) (by decide) kT_isStop (fun pc lv st h ce sl hh => ?_) ((eT_isStop  o0 h).trans hh)
  cases hh

theorem mT_isStop (o0 : Nat) (h : H2) (vs : List mv_V) (h' : H2) (hh : fT_isStop o0 h = some (vs, h')) : mv_Met vw2 1 0 0 mdT_isStop [Sum.inr (6, o0)] h vs h' :=
  mv_Met_of (by decide +kernel) (Nat.le_of_ble_eq_true rfl) (xT_isStop o0 h hh)
theorem cT_isStop_ok : mv_Cal vw2 1 (mdT_isStop, true) ((0, 0), cT_isStop) := by
  intro as h k res hh
  change cT_isStop as h k = some res at hh
  unfold cT_isStop at hh
  split at hh
  · obtain ⟨hg0, ha0⟩ := mv_gd_some hh
    obtain rfl := Nat.eq_of_beq_eq_true hg0
    obtain ⟨x, h', h1, h9⟩ := mv_rI_some ha0
    exact ⟨_, _, h9, (by first | decide | exact Nat.le_refl _ | exact Nat.zero_le _), fun _ => ⟨_, _, _, rfl, Or.inl ⟨by decide, rfl⟩⟩, (mT_isStop _ h _ _ h1)⟩
  · cases hh

set_option maxRecDepth 100000 in
theorem kT_readCloth : mv_tok mdT_readCloth nT_readCloth tT_readCloth = true := by decide +kernel
set_option maxRecDepth 100000 in
set_option maxHeartbeats 1000000 in
theorem eT_readCloth_b99 (o0 : Nat) (o1 : Nat) (v3 : Int32) (h : H2) : mv_blk rI2 rR2 ln2 wI2 wR2 nw2 cp2 bod none tT_readCloth gT_readCloth 0 0 [] (fun _ _ _ _ _ _ => none) 400 (mv_seek 99 tT_readCloth) [(0, Sum.inr (6, o0)), (1, Sum.inr (2, o1)), (3, Sum.inl (Value.int v3))] [] h 0 0 = (
  mv_rI (fT_isName o0 5 h) fun r2 h1 =>
  if r2 = 0 then (
    mv_rI (fT_isStop o0 h1) fun r4 h3 =>
    mv_gd (decide (r4 = nI 0) || decide (r4 = nI 1)) <| some ([Sum.inl (Value.int r4)], h3))
  else
  mv_gd (mv_inb v3 8) <|
  mv_bh (wI2 h1 307 o1 v3.toNatClampNeg (nI 1)) fun h5 =>
  mv_rV (fT_readWord o0 h5) fun h6 =>
  mv_rI (fT_isStop o0 h6) fun r8 h7 =>
  mv_gd (decide (r8 = nI 0) || decide (r8 = nI 1)) <| some ([Sum.inl (Value.int r8)], h7)) := rfl
set_option maxRecDepth 100000 in
set_option maxHeartbeats 1000000 in
theorem eT_readCloth (q99 : Nat → Nat → Int32 → H2 → O2) (o0 : Nat) (o1 : Nat) (v2 : Int32) (h : H2) : mv_blk rI2 rR2 ln2 wI2 wR2 nw2 cp2 bod none tT_readCloth gT_readCloth 0 0 [99] (fun pc lv st h ce sl => mv_gd (Nat.beq ce 0 && Nat.beq sl 0) (cond (Nat.beq pc 99) (mv_gR 0 6 lv fun o0 => mv_gR 1 2 lv fun o1 => mv_gI 3 lv fun v3 => mv_sE st (q99 o0 o1 v3 h)) (none))) 400 (mv_seek 0 tT_readCloth) [(0, Sum.inr (6, o0)), (1, Sum.inr (2, o1)), (2, Sum.inl (Value.int v2))] [] h 0 0 = (
  if (rI2 h 2 o1 9) < (nI 8) then (
    mv_rI (fM_addCloth o1 v2 h) fun r2 h1 =>
    mv_bi r2 fun x3 =>
    mv_rV (fT_readWord o0 h1) fun h4 =>
    mv_rI (fT_isName o0 3 h4) fun r6 h5 =>
    if r6 = 0 then (
      q99 o0 o1 x3 h5)
    else
    mv_rI (fT_readNumber o0 (nI 0) (nI 9) h5) fun r8 h7 =>
    if r8 = 0 then (
      mv_gd (decide (nI 0 = nI 0) || decide (nI 0 = nI 1)) <| some ([Sum.inl (Value.int (nI 0))], h7))
    else
    mv_gd (mv_inb x3 8) <|
    mv_bh (wI2 h7 305 o1 x3.toNatClampNeg (rI2 h7 6 o0 5)) fun h9 =>
    mv_gd (mv_inb x3 8) <|
    mv_bh (wI2 h9 306 o1 x3.toNatClampNeg (nI 20)) fun h10 =>
    mv_rV (fT_readWord o0 h10) fun h11 =>
    mv_rI (fT_isName o0 4 h11) fun r13 h12 =>
    if r13 = 0 then (
      q99 o0 o1 x3 h12)
    else
    mv_rI (fT_readNumber o0 (nI 1) (nI 99) h12) fun r15 h14 =>
    if r15 = 0 then (
      mv_gd (decide (nI 0 = nI 0) || decide (nI 0 = nI 1)) <| some ([Sum.inl (Value.int (nI 0))], h14))
    else
    mv_gd (mv_inb x3 8) <|
    mv_bh (wI2 h14 306 o1 x3.toNatClampNeg (rI2 h14 6 o0 5)) fun h16 =>
    mv_rV (fT_readWord o0 h16) fun h17 =>
    q99 o0 o1 x3 h17)
  else
  mv_gd (decide (nI 0 = nI 0) || decide (nI 0 = nI 1)) <| some ([Sum.inl (Value.int (nI 0))], h)) := rfl
theorem GT_readCloth : ∀ (j : Nat) (C : mv_C H2) (md' : mv_MD × Bool), mv_nth j gT_readCloth = some C → mv_nth j nT_readCloth = some md' → ∃ n', n' + 1 ≤ 6 ∧ mv_Cal vw2 n' md' C := fun j C md' => match j with
  | 0 => fun h1 h2 => by
    obtain rfl := Option.some.inj h1
    obtain rfl := Option.some.inj h2
    exact ⟨1, by decide, cM_addCloth_ok⟩
  | 1 => fun h1 h2 => by
    obtain rfl := Option.some.inj h1
    obtain rfl := Option.some.inj h2
    exact ⟨2, by decide, cT_readWord_ok⟩
  | 2 => fun h1 h2 => by
    obtain rfl := Option.some.inj h1
    obtain rfl := Option.some.inj h2
    exact ⟨5, by decide, cT_isName_ok⟩
  | 3 => fun h1 h2 => by
    obtain rfl := Option.some.inj h1
    obtain rfl := Option.some.inj h2
    exact ⟨3, by decide, cT_readNumber_ok⟩
  | 4 => fun h1 h2 => by
    obtain rfl := Option.some.inj h1
    obtain rfl := Option.some.inj h2
    exact ⟨1, by decide, cT_isStop_ok⟩
  | jj + 5 => fun h1 _ => by cases jj <;> cases h1

set_option maxRecDepth 20000 in
theorem xT_readCloth_b99 {g0 : mv_G} {res : List mv_V × H2} (o0 : Nat) (o1 : Nat) (v3 : Int32) (h : H2) (hh : fT_readCloth_b99 o0 o1 v3 h = some res) : mv_X vw2 mdT_readCloth 6 0 0 none g0 res 99 [(0, Sum.inr (6, o0)), (1, Sum.inr (2, o1)), (3, Sum.inl (Value.int v3))] [] h 0 0 := by
  refine mv_blkX ax2 (GT_readCloth) (by decide) kT_readCloth (fun pc lv st h ce sl hh => ?_) ((eT_readCloth_b99  o0 o1 v3 h).trans hh)
  cases hh

set_option maxRecDepth 20000 in
theorem xT_readCloth {g0 : mv_G} {res : List mv_V × H2} (o0 : Nat) (o1 : Nat) (v2 : Int32) (h : H2) (hh : fT_readCloth o0 o1 v2 h = some res) : mv_X vw2 mdT_readCloth 6 0 0 none g0 res 0 [(0, Sum.inr (6, o0)), (1, Sum.inr (2, o1)), (2, Sum.inl (Value.int v2))] [] h 0 0 := by
  refine mv_blkX ax2 (GT_readCloth) (by decide) kT_readCloth (fun pc lv st h ce sl hh => ?_) ((eT_readCloth (fT_readCloth_b99) o0 o1 v2 h).trans hh)
  obtain ⟨hg, hh1⟩ := mv_gd_some hh
  obtain ⟨rfl, rfl⟩ := mv_z2 hg
  rcases mv_cond_some hh1 with ⟨hb, hh2⟩ | ⟨hb, hh3⟩
  · obtain rfl := Nat.eq_of_beq_eq_true hb
    obtain ⟨o0, m0, hh4⟩ := mv_gR_some hh2
    obtain ⟨o1, m1, hh5⟩ := mv_gR_some hh4
    obtain ⟨v3, m2, hh6⟩ := mv_gI_some hh5
    obtain ⟨rfl, hh7⟩ := mv_sE_some hh6
    exact (xT_readCloth_b99  o0 o1 v3 h hh7).sub (List.forall_mem_cons.mpr ⟨m0, (List.forall_mem_cons.mpr ⟨m1, (List.forall_mem_cons.mpr ⟨m2, (fun q hq => by cases hq)⟩)⟩)⟩)
  cases hh3

theorem mT_readCloth (o0 : Nat) (o1 : Nat) (v2 : Int32) (h : H2) (vs : List mv_V) (h' : H2) (hh : fT_readCloth o0 o1 v2 h = some (vs, h')) : mv_Met vw2 6 0 0 mdT_readCloth [Sum.inr (6, o0), Sum.inr (2, o1), Sum.inl (Value.int v2)] h vs h' :=
  mv_Met_of (by decide +kernel) (Nat.le_of_ble_eq_true rfl) (xT_readCloth o0 o1 v2 h hh)
theorem cT_readCloth_ok : mv_Cal vw2 6 (mdT_readCloth, true) ((0, 0), cT_readCloth) := by
  intro as h k res hh
  change cT_readCloth as h k = some res at hh
  unfold cT_readCloth at hh
  split at hh
  · obtain ⟨hg0, ha0⟩ := mv_gd_some hh
    obtain rfl := Nat.eq_of_beq_eq_true hg0
    obtain ⟨hg1, ha1⟩ := mv_gd_some ha0
    obtain rfl := Nat.eq_of_beq_eq_true hg1
    obtain ⟨x, h', h1, h9⟩ := mv_rI_some ha1
    exact ⟨_, _, h9, (by first | decide | exact Nat.le_refl _ | exact Nat.zero_le _), fun _ => ⟨_, _, _, rfl, Or.inl ⟨by decide, rfl⟩⟩, (mT_readCloth _ _ _ h _ _ h1)⟩
  · cases hh

set_option maxRecDepth 100000 in
theorem kT_readName : mv_tok mdT_readName nT_readName tT_readName = true := by decide +kernel
set_option maxRecDepth 100000 in
set_option maxHeartbeats 1000000 in
theorem eT_readName (o0 : Nat) (o1 : Nat) (h : H2) : mv_blk rI2 rR2 ln2 wI2 wR2 nw2 cp2 bod none tT_readName gT_readName 0 0 [] (fun _ _ _ _ _ _ => none) 400 (mv_seek 0 tT_readName) [(0, Sum.inr (6, o0)), (1, Sum.inr (11, o1))] [] h 0 0 = (
  mv_rV (fT_readWord o0 h) fun h1 =>
  mv_rI (fT_isName o0 o1 h1) fun r3 h2 =>
  mv_gd (decide (r3 = nI 0) || decide (r3 = nI 1)) <| some ([Sum.inl (Value.int r3)], h2)) := rfl
theorem GT_readName : ∀ (j : Nat) (C : mv_C H2) (md' : mv_MD × Bool), mv_nth j gT_readName = some C → mv_nth j nT_readName = some md' → ∃ n', n' + 1 ≤ 6 ∧ mv_Cal vw2 n' md' C := fun j C md' => match j with
  | 0 => fun h1 h2 => by
    obtain rfl := Option.some.inj h1
    obtain rfl := Option.some.inj h2
    exact ⟨2, by decide, cT_readWord_ok⟩
  | 1 => fun h1 h2 => by
    obtain rfl := Option.some.inj h1
    obtain rfl := Option.some.inj h2
    exact ⟨5, by decide, cT_isName_ok⟩
  | jj + 2 => fun h1 _ => by cases jj <;> cases h1

set_option maxRecDepth 20000 in
theorem xT_readName {g0 : mv_G} {res : List mv_V × H2} (o0 : Nat) (o1 : Nat) (h : H2) (hh : fT_readName o0 o1 h = some res) : mv_X vw2 mdT_readName 6 0 0 none g0 res 0 [(0, Sum.inr (6, o0)), (1, Sum.inr (11, o1))] [] h 0 0 := by
  refine mv_blkX ax2 (GT_readName) (by decide) kT_readName (fun pc lv st h ce sl hh => ?_) ((eT_readName  o0 o1 h).trans hh)
  cases hh

theorem mT_readName (o0 : Nat) (o1 : Nat) (h : H2) (vs : List mv_V) (h' : H2) (hh : fT_readName o0 o1 h = some (vs, h')) : mv_Met vw2 6 0 0 mdT_readName [Sum.inr (6, o0), Sum.inr (11, o1)] h vs h' :=
  mv_Met_of (by decide +kernel) (Nat.le_of_ble_eq_true rfl) (xT_readName o0 o1 h hh)
theorem cT_readName_ok : mv_Cal vw2 6 (mdT_readName, true) ((0, 0), cT_readName) := by
  intro as h k res hh
  change cT_readName as h k = some res at hh
  unfold cT_readName at hh
  split at hh
  · obtain ⟨hg0, ha0⟩ := mv_gd_some hh
    obtain rfl := Nat.eq_of_beq_eq_true hg0
    obtain ⟨hg1, ha1⟩ := mv_gd_some ha0
    obtain rfl := Nat.eq_of_beq_eq_true hg1
    obtain ⟨x, h', h1, h9⟩ := mv_rI_some ha1
    exact ⟨_, _, h9, (by first | decide | exact Nat.le_refl _ | exact Nat.zero_le _), fun _ => ⟨_, _, _, rfl, Or.inl ⟨by decide, rfl⟩⟩, (mT_readName _ _ h _ _ h1)⟩
  · cases hh

set_option maxRecDepth 100000 in
theorem kT_readStop : mv_tok mdT_readStop nT_readStop tT_readStop = true := by decide +kernel
set_option maxRecDepth 100000 in
set_option maxHeartbeats 1000000 in
theorem eT_readStop (o0 : Nat) (h : H2) : mv_blk rI2 rR2 ln2 wI2 wR2 nw2 cp2 bod none tT_readStop gT_readStop 0 0 [] (fun _ _ _ _ _ _ => none) 400 (mv_seek 0 tT_readStop) [(0, Sum.inr (6, o0))] [] h 0 0 = (
  mv_rV (fT_readWord o0 h) fun h1 =>
  mv_rI (fT_isStop o0 h1) fun r3 h2 =>
  mv_gd (decide (r3 = nI 0) || decide (r3 = nI 1)) <| some ([Sum.inl (Value.int r3)], h2)) := rfl
theorem GT_readStop : ∀ (j : Nat) (C : mv_C H2) (md' : mv_MD × Bool), mv_nth j gT_readStop = some C → mv_nth j nT_readStop = some md' → ∃ n', n' + 1 ≤ 3 ∧ mv_Cal vw2 n' md' C := fun j C md' => match j with
  | 0 => fun h1 h2 => by
    obtain rfl := Option.some.inj h1
    obtain rfl := Option.some.inj h2
    exact ⟨2, by decide, cT_readWord_ok⟩
  | 1 => fun h1 h2 => by
    obtain rfl := Option.some.inj h1
    obtain rfl := Option.some.inj h2
    exact ⟨1, by decide, cT_isStop_ok⟩
  | jj + 2 => fun h1 _ => by cases jj <;> cases h1

set_option maxRecDepth 20000 in
theorem xT_readStop {g0 : mv_G} {res : List mv_V × H2} (o0 : Nat) (h : H2) (hh : fT_readStop o0 h = some res) : mv_X vw2 mdT_readStop 3 0 0 none g0 res 0 [(0, Sum.inr (6, o0))] [] h 0 0 := by
  refine mv_blkX ax2 (GT_readStop) (by decide) kT_readStop (fun pc lv st h ce sl hh => ?_) ((eT_readStop  o0 h).trans hh)
  cases hh

theorem mT_readStop (o0 : Nat) (h : H2) (vs : List mv_V) (h' : H2) (hh : fT_readStop o0 h = some (vs, h')) : mv_Met vw2 3 0 0 mdT_readStop [Sum.inr (6, o0)] h vs h' :=
  mv_Met_of (by decide +kernel) (Nat.le_of_ble_eq_true rfl) (xT_readStop o0 h hh)
theorem cT_readStop_ok : mv_Cal vw2 3 (mdT_readStop, true) ((0, 0), cT_readStop) := by
  intro as h k res hh
  change cT_readStop as h k = some res at hh
  unfold cT_readStop at hh
  split at hh
  · obtain ⟨hg0, ha0⟩ := mv_gd_some hh
    obtain rfl := Nat.eq_of_beq_eq_true hg0
    obtain ⟨x, h', h1, h9⟩ := mv_rI_some ha0
    exact ⟨_, _, h9, (by first | decide | exact Nat.le_refl _ | exact Nat.zero_le _), fun _ => ⟨_, _, _, rfl, Or.inl ⟨by decide, rfl⟩⟩, (mT_readStop _ h _ _ h1)⟩
  · cases hh

set_option maxRecDepth 100000 in
theorem kT_readVat : mv_tok mdT_readVat nT_readVat tT_readVat = true := by decide +kernel
set_option maxRecDepth 100000 in
set_option maxHeartbeats 1000000 in
theorem eT_readVat (o0 : Nat) (o1 : Nat) (h : H2) : mv_blk rI2 rR2 ln2 wI2 wR2 nw2 cp2 bod none tT_readVat gT_readVat 0 0 [] (fun _ _ _ _ _ _ => none) 400 (mv_seek 0 tT_readVat) [(0, Sum.inr (6, o0)), (1, Sum.inr (2, o1))] [] h 0 0 = (
  mv_rI (fT_readNumber o0 (nI 0) (nI 7) h) fun r2 h1 =>
  if r2 = 0 then (
    mv_gd (decide (nI 0 = nI 0) || decide (nI 0 = nI 1)) <| some ([Sum.inl (Value.int (nI 0))], h1))
  else
  mv_bi (rI2 h1 6 o0 5) fun x3 =>
  mv_rI (fT_readName o0 6 h1) fun r5 h4 =>
  if r5 = 0 then (
    mv_gd (decide (nI 0 = nI 0) || decide (nI 0 = nI 1)) <| some ([Sum.inl (Value.int (nI 0))], h4))
  else
  mv_rI (fT_readNumber o0 (nI 0) (nI 9) h4) fun r7 h6 =>
  if r7 = 0 then (
    mv_gd (decide (nI 0 = nI 0) || decide (nI 0 = nI 1)) <| some ([Sum.inl (Value.int (nI 0))], h6))
  else
  mv_gd (mv_inb x3 8) <|
  mv_bh (wI2 h6 301 o1 x3.toNatClampNeg (rI2 h6 6 o0 5)) fun h8 =>
  mv_rI (fT_readStop o0 h8) fun r10 h9 =>
  mv_gd (decide (r10 = nI 0) || decide (r10 = nI 1)) <| some ([Sum.inl (Value.int r10)], h9)) := rfl
theorem GT_readVat : ∀ (j : Nat) (C : mv_C H2) (md' : mv_MD × Bool), mv_nth j gT_readVat = some C → mv_nth j nT_readVat = some md' → ∃ n', n' + 1 ≤ 7 ∧ mv_Cal vw2 n' md' C := fun j C md' => match j with
  | 0 => fun h1 h2 => by
    obtain rfl := Option.some.inj h1
    obtain rfl := Option.some.inj h2
    exact ⟨3, by decide, cT_readNumber_ok⟩
  | 1 => fun h1 h2 => by
    obtain rfl := Option.some.inj h1
    obtain rfl := Option.some.inj h2
    exact ⟨6, by decide, cT_readName_ok⟩
  | 2 => fun h1 h2 => by
    obtain rfl := Option.some.inj h1
    obtain rfl := Option.some.inj h2
    exact ⟨3, by decide, cT_readStop_ok⟩
  | jj + 3 => fun h1 _ => by cases jj <;> cases h1

set_option maxRecDepth 20000 in
theorem xT_readVat {g0 : mv_G} {res : List mv_V × H2} (o0 : Nat) (o1 : Nat) (h : H2) (hh : fT_readVat o0 o1 h = some res) : mv_X vw2 mdT_readVat 7 0 0 none g0 res 0 [(0, Sum.inr (6, o0)), (1, Sum.inr (2, o1))] [] h 0 0 := by
  refine mv_blkX ax2 (GT_readVat) (by decide) kT_readVat (fun pc lv st h ce sl hh => ?_) ((eT_readVat  o0 o1 h).trans hh)
  cases hh

theorem mT_readVat (o0 : Nat) (o1 : Nat) (h : H2) (vs : List mv_V) (h' : H2) (hh : fT_readVat o0 o1 h = some (vs, h')) : mv_Met vw2 7 0 0 mdT_readVat [Sum.inr (6, o0), Sum.inr (2, o1)] h vs h' :=
  mv_Met_of (by decide +kernel) (Nat.le_of_ble_eq_true rfl) (xT_readVat o0 o1 h hh)
theorem cT_readVat_ok : mv_Cal vw2 7 (mdT_readVat, true) ((0, 0), cT_readVat) := by
  intro as h k res hh
  change cT_readVat as h k = some res at hh
  unfold cT_readVat at hh
  split at hh
  · obtain ⟨hg0, ha0⟩ := mv_gd_some hh
    obtain rfl := Nat.eq_of_beq_eq_true hg0
    obtain ⟨hg1, ha1⟩ := mv_gd_some ha0
    obtain rfl := Nat.eq_of_beq_eq_true hg1
    obtain ⟨x, h', h1, h9⟩ := mv_rI_some ha1
    exact ⟨_, _, h9, (by first | decide | exact Nat.le_refl _ | exact Nat.zero_le _), fun _ => ⟨_, _, _, rfl, Or.inl ⟨by decide, rfl⟩⟩, (mT_readVat _ _ h _ _ h1)⟩
  · cases hh

set_option maxRecDepth 100000 in
theorem kT_readStrong : mv_tok mdT_readStrong nT_readStrong tT_readStrong = true := by decide +kernel
set_option maxRecDepth 100000 in
set_option maxHeartbeats 1000000 in
theorem eT_readStrong (o0 : Nat) (o1 : Nat) (h : H2) : mv_blk rI2 rR2 ln2 wI2 wR2 nw2 cp2 bod none tT_readStrong gT_readStrong 0 0 [] (fun _ _ _ _ _ _ => none) 400 (mv_seek 0 tT_readStrong) [(0, Sum.inr (6, o0)), (1, Sum.inr (2, o1))] [] h 0 0 = (
  mv_rI (fT_readNumber o0 (nI 0) (nI 7) h) fun r2 h1 =>
  if r2 = 0 then (
    mv_gd (decide (nI 0 = nI 0) || decide (nI 0 = nI 1)) <| some ([Sum.inl (Value.int (nI 0))], h1))
  else
  mv_bi (rI2 h1 6 o0 5) fun x3 =>
  mv_rI (fT_readNumber o0 (nI 0) (nI 9) h1) fun r5 h4 =>
  if r5 = 0 then (
    mv_gd (decide (nI 0 = nI 0) || decide (nI 0 = nI 1)) <| some ([Sum.inl (Value.int (nI 0))], h4))
  else
  mv_gd (mv_inb x3 8) <|
  mv_bh (wI2 h4 302 o1 x3.toNatClampNeg (rI2 h4 6 o0 5)) fun h6 =>
  mv_rI (fT_readStop o0 h6) fun r8 h7 =>
  mv_gd (decide (r8 = nI 0) || decide (r8 = nI 1)) <| some ([Sum.inl (Value.int r8)], h7)) := rfl
theorem GT_readStrong : ∀ (j : Nat) (C : mv_C H2) (md' : mv_MD × Bool), mv_nth j gT_readStrong = some C → mv_nth j nT_readStrong = some md' → ∃ n', n' + 1 ≤ 4 ∧ mv_Cal vw2 n' md' C := fun j C md' => match j with
  | 0 => fun h1 h2 => by
    obtain rfl := Option.some.inj h1
    obtain rfl := Option.some.inj h2
    exact ⟨3, by decide, cT_readNumber_ok⟩
  | 1 => fun h1 h2 => by
    obtain rfl := Option.some.inj h1
    obtain rfl := Option.some.inj h2
    exact ⟨3, by decide, cT_readStop_ok⟩
  | jj + 2 => fun h1 _ => by cases jj <;> cases h1

set_option maxRecDepth 20000 in
theorem xT_readStrong {g0 : mv_G} {res : List mv_V × H2} (o0 : Nat) (o1 : Nat) (h : H2) (hh : fT_readStrong o0 o1 h = some res) : mv_X vw2 mdT_readStrong 4 0 0 none g0 res 0 [(0, Sum.inr (6, o0)), (1, Sum.inr (2, o1))] [] h 0 0 := by
  refine mv_blkX ax2 (GT_readStrong) (by decide) kT_readStrong (fun pc lv st h ce sl hh => ?_) ((eT_readStrong  o0 o1 h).trans hh)
  cases hh

theorem mT_readStrong (o0 : Nat) (o1 : Nat) (h : H2) (vs : List mv_V) (h' : H2) (hh : fT_readStrong o0 o1 h = some (vs, h')) : mv_Met vw2 4 0 0 mdT_readStrong [Sum.inr (6, o0), Sum.inr (2, o1)] h vs h' :=
  mv_Met_of (by decide +kernel) (Nat.le_of_ble_eq_true rfl) (xT_readStrong o0 o1 h hh)
theorem cT_readStrong_ok : mv_Cal vw2 4 (mdT_readStrong, true) ((0, 0), cT_readStrong) := by
  intro as h k res hh
  change cT_readStrong as h k = some res at hh
  unfold cT_readStrong at hh
  split at hh
  · obtain ⟨hg0, ha0⟩ := mv_gd_some hh
    obtain rfl := Nat.eq_of_beq_eq_true hg0
    obtain ⟨hg1, ha1⟩ := mv_gd_some ha0
    obtain rfl := Nat.eq_of_beq_eq_true hg1
    obtain ⟨x, h', h1, h9⟩ := mv_rI_some ha1
    exact ⟨_, _, h9, (by first | decide | exact Nat.le_refl _ | exact Nat.zero_le _), fun _ => ⟨_, _, _, rfl, Or.inl ⟨by decide, rfl⟩⟩, (mT_readStrong _ _ h _ _ h1)⟩
  · cases hh

set_option maxRecDepth 100000 in
theorem kT_readDay : mv_tok mdT_readDay nT_readDay tT_readDay = true := by decide +kernel
set_option maxRecDepth 100000 in
set_option maxHeartbeats 1000000 in
theorem eT_readDay (o0 : Nat) (o1 : Nat) (h : H2) : mv_blk rI2 rR2 ln2 wI2 wR2 nw2 cp2 bod none tT_readDay gT_readDay 0 0 [] (fun _ _ _ _ _ _ => none) 400 (mv_seek 0 tT_readDay) [(0, Sum.inr (6, o0)), (1, Sum.inr (2, o1))] [] h 0 0 = (
  mv_rI (fT_readNumber o0 (nI 0) (nI 5) h) fun r2 h1 =>
  if r2 = 0 then (
    mv_gd (decide (nI 0 = nI 0) || decide (nI 0 = nI 1)) <| some ([Sum.inl (Value.int (nI 0))], h1))
  else
  mv_bi (rI2 h1 6 o0 5) fun x3 =>
  mv_rI (fT_readName o0 0 h1) fun r5 h4 =>
  if r5 = 0 then (
    mv_gd (decide (nI 0 = nI 0) || decide (nI 0 = nI 1)) <| some ([Sum.inl (Value.int (nI 0))], h4))
  else
  mv_rI (fT_readNumber o0 (nI 0) (nI 7) h4) fun r7 h6 =>
  if r7 = 0 then (
    mv_gd (decide (nI 0 = nI 0) || decide (nI 0 = nI 1)) <| some ([Sum.inl (Value.int (nI 0))], h6))
  else
  mv_gd (mv_inb x3 6) <|
  mv_bh (wI2 h6 303 o1 x3.toNatClampNeg (rI2 h6 6 o0 5)) fun h8 =>
  mv_rI (fT_readStop o0 h8) fun r10 h9 =>
  mv_gd (decide (r10 = nI 0) || decide (r10 = nI 1)) <| some ([Sum.inl (Value.int r10)], h9)) := rfl
theorem GT_readDay : ∀ (j : Nat) (C : mv_C H2) (md' : mv_MD × Bool), mv_nth j gT_readDay = some C → mv_nth j nT_readDay = some md' → ∃ n', n' + 1 ≤ 7 ∧ mv_Cal vw2 n' md' C := fun j C md' => match j with
  | 0 => fun h1 h2 => by
    obtain rfl := Option.some.inj h1
    obtain rfl := Option.some.inj h2
    exact ⟨3, by decide, cT_readNumber_ok⟩
  | 1 => fun h1 h2 => by
    obtain rfl := Option.some.inj h1
    obtain rfl := Option.some.inj h2
    exact ⟨6, by decide, cT_readName_ok⟩
  | 2 => fun h1 h2 => by
    obtain rfl := Option.some.inj h1
    obtain rfl := Option.some.inj h2
    exact ⟨3, by decide, cT_readStop_ok⟩
  | jj + 3 => fun h1 _ => by cases jj <;> cases h1

set_option maxRecDepth 20000 in
theorem xT_readDay {g0 : mv_G} {res : List mv_V × H2} (o0 : Nat) (o1 : Nat) (h : H2) (hh : fT_readDay o0 o1 h = some res) : mv_X vw2 mdT_readDay 7 0 0 none g0 res 0 [(0, Sum.inr (6, o0)), (1, Sum.inr (2, o1))] [] h 0 0 := by
  refine mv_blkX ax2 (GT_readDay) (by decide) kT_readDay (fun pc lv st h ce sl hh => ?_) ((eT_readDay  o0 o1 h).trans hh)
  cases hh

theorem mT_readDay (o0 : Nat) (o1 : Nat) (h : H2) (vs : List mv_V) (h' : H2) (hh : fT_readDay o0 o1 h = some (vs, h')) : mv_Met vw2 7 0 0 mdT_readDay [Sum.inr (6, o0), Sum.inr (2, o1)] h vs h' :=
  mv_Met_of (by decide +kernel) (Nat.le_of_ble_eq_true rfl) (xT_readDay o0 o1 h hh)
theorem cT_readDay_ok : mv_Cal vw2 7 (mdT_readDay, true) ((0, 0), cT_readDay) := by
  intro as h k res hh
  change cT_readDay as h k = some res at hh
  unfold cT_readDay at hh
  split at hh
  · obtain ⟨hg0, ha0⟩ := mv_gd_some hh
    obtain rfl := Nat.eq_of_beq_eq_true hg0
    obtain ⟨hg1, ha1⟩ := mv_gd_some ha0
    obtain rfl := Nat.eq_of_beq_eq_true hg1
    obtain ⟨x, h', h1, h9⟩ := mv_rI_some ha1
    exact ⟨_, _, h9, (by first | decide | exact Nat.le_refl _ | exact Nat.zero_le _), fun _ => ⟨_, _, _, rfl, Or.inl ⟨by decide, rfl⟩⟩, (mT_readDay _ _ h _ _ h1)⟩
  · cases hh

set_option maxRecDepth 100000 in
theorem kT_lawNamed : mv_tok mdT_lawNamed nT_lawNamed tT_lawNamed = true := by decide +kernel
set_option maxRecDepth 100000 in
set_option maxHeartbeats 1000000 in
theorem eT_lawNamed (o0 : Nat) (h : H2) : mv_blk rI2 rR2 ln2 wI2 wR2 nw2 cp2 bod none tT_lawNamed gT_lawNamed 0 0 [] (fun _ _ _ _ _ _ => none) 400 (mv_seek 0 tT_lawNamed) [(0, Sum.inr (6, o0))] [] h 0 0 = (
  mv_rI (fT_isName o0 13 h) fun r2 h1 =>
  if r2 = 0 then (
    mv_rI (fT_isName o0 14 h1) fun r4 h3 =>
    if r4 = 0 then (
      mv_rI (fT_isName o0 15 h3) fun r6 h5 =>
      if r6 = 0 then (
        mv_rI (fT_isName o0 16 h5) fun r8 h7 =>
        if r8 = 0 then (
          some ([Sum.inl (Value.int (-(nI 1)))], h7))
        else
        some ([Sum.inl (Value.int (nI 3))], h7))
      else
      some ([Sum.inl (Value.int (nI 2))], h5))
    else
    some ([Sum.inl (Value.int (nI 1))], h3))
  else
  some ([Sum.inl (Value.int (nI 0))], h1)) := rfl
theorem GT_lawNamed : ∀ (j : Nat) (C : mv_C H2) (md' : mv_MD × Bool), mv_nth j gT_lawNamed = some C → mv_nth j nT_lawNamed = some md' → ∃ n', n' + 1 ≤ 6 ∧ mv_Cal vw2 n' md' C := fun j C md' => match j with
  | 0 => fun h1 h2 => by
    obtain rfl := Option.some.inj h1
    obtain rfl := Option.some.inj h2
    exact ⟨5, by decide, cT_isName_ok⟩
  | jj + 1 => fun h1 _ => by cases jj <;> cases h1

set_option maxRecDepth 20000 in
theorem xT_lawNamed {g0 : mv_G} {res : List mv_V × H2} (o0 : Nat) (h : H2) (hh : fT_lawNamed o0 h = some res) : mv_X vw2 mdT_lawNamed 6 0 0 none g0 res 0 [(0, Sum.inr (6, o0))] [] h 0 0 := by
  refine mv_blkX ax2 (GT_lawNamed) (by decide) kT_lawNamed (fun pc lv st h ce sl hh => ?_) ((eT_lawNamed  o0 h).trans hh)
  cases hh

theorem mT_lawNamed (o0 : Nat) (h : H2) (vs : List mv_V) (h' : H2) (hh : fT_lawNamed o0 h = some (vs, h')) : mv_Met vw2 6 0 0 mdT_lawNamed [Sum.inr (6, o0)] h vs h' :=
  mv_Met_of (by decide +kernel) (Nat.le_of_ble_eq_true rfl) (xT_lawNamed o0 h hh)
theorem cT_lawNamed_ok : mv_Cal vw2 6 (mdT_lawNamed, true) ((0, 0), cT_lawNamed) := by
  intro as h k res hh
  change cT_lawNamed as h k = some res at hh
  unfold cT_lawNamed at hh
  split at hh
  · obtain ⟨hg0, ha0⟩ := mv_gd_some hh
    obtain rfl := Nat.eq_of_beq_eq_true hg0
    obtain ⟨x, h', h1, h9⟩ := mv_rI_some ha0
    exact ⟨_, _, h9, (by first | decide | exact Nat.le_refl _ | exact Nat.zero_le _), fun _ => ⟨_, _, _, rfl, Or.inl ⟨by decide, rfl⟩⟩, (mT_lawNamed _ h _ _ h1)⟩
  · cases hh

set_option maxRecDepth 100000 in
theorem kV_mostOfLaw : mv_tok mdV_mostOfLaw nV_mostOfLaw tV_mostOfLaw = true := by decide +kernel
set_option maxRecDepth 100000 in
set_option maxHeartbeats 1000000 in
theorem eV_mostOfLaw (v0 : Int32) (h : H2) : mv_blk rI2 rR2 ln2 wI2 wR2 nw2 cp2 bod none tV_mostOfLaw gV_mostOfLaw 0 0 [] (fun _ _ _ _ _ _ => none) 400 (mv_seek 0 tV_mostOfLaw) [(0, Sum.inl (Value.int v0))] [] h 0 0 = (
  if v0 = (nI 3) then (
    some ([Sum.inl (Value.int (nI 99))], h))
  else
  some ([Sum.inl (Value.int (nI 9))], h)) := rfl
theorem GV_mostOfLaw : ∀ (j : Nat) (C : mv_C H2) (md' : mv_MD × Bool), mv_nth j gV_mostOfLaw = some C → mv_nth j nV_mostOfLaw = some md' → ∃ n', n' + 1 ≤ 1 ∧ mv_Cal vw2 n' md' C := fun j C md' h1 _ => by cases j <;> cases h1

set_option maxRecDepth 20000 in
theorem xV_mostOfLaw {g0 : mv_G} {res : List mv_V × H2} (v0 : Int32) (h : H2) (hh : fV_mostOfLaw v0 h = some res) : mv_X vw2 mdV_mostOfLaw 1 0 0 none g0 res 0 [(0, Sum.inl (Value.int v0))] [] h 0 0 := by
  refine mv_blkX ax2 (GV_mostOfLaw) (by decide) kV_mostOfLaw (fun pc lv st h ce sl hh => ?_) ((eV_mostOfLaw  v0 h).trans hh)
  cases hh

theorem mV_mostOfLaw (v0 : Int32) (h : H2) (vs : List mv_V) (h' : H2) (hh : fV_mostOfLaw v0 h = some (vs, h')) : mv_Met vw2 1 0 0 mdV_mostOfLaw [Sum.inl (Value.int v0)] h vs h' :=
  mv_Met_of (by decide +kernel) (Nat.le_of_ble_eq_true rfl) (xV_mostOfLaw v0 h hh)
theorem cV_mostOfLaw_ok : mv_Cal vw2 1 (mdV_mostOfLaw, false) ((0, 0), cV_mostOfLaw) := by
  intro as h k res hh
  change cV_mostOfLaw as h k = some res at hh
  unfold cV_mostOfLaw at hh
  split at hh
  · obtain ⟨x, h', h1, h9⟩ := mv_rI_some hh
    exact ⟨_, _, h9, (by first | decide | exact Nat.le_refl _ | exact Nat.zero_le _), (fun h => by cases h), (mV_mostOfLaw _ h _ _ h1)⟩
  · cases hh

set_option maxRecDepth 100000 in
theorem kT_readLaw : mv_tok mdT_readLaw nT_readLaw tT_readLaw = true := by decide +kernel
set_option maxRecDepth 100000 in
set_option maxHeartbeats 1000000 in
theorem eT_readLaw (o0 : Nat) (o1 : Nat) (v2 : Int32) (h : H2) : mv_blk rI2 rR2 ln2 wI2 wR2 nw2 cp2 bod none tT_readLaw gT_readLaw 0 0 [] (fun _ _ _ _ _ _ => none) 400 (mv_seek 0 tT_readLaw) [(0, Sum.inr (6, o0)), (1, Sum.inr (2, o1)), (2, Sum.inl (Value.int v2))] [] h 0 0 = (
  mv_rI (fV_mostOfLaw v2 h) fun r2 h1 =>
  mv_rI (fT_readNumber o0 (nI 0) r2 h1) fun r4 h3 =>
  if r4 = 0 then (
    mv_gd (decide (nI 0 = nI 0) || decide (nI 0 = nI 1)) <| some ([Sum.inl (Value.int (nI 0))], h3))
  else
  mv_gd (mv_inb v2 4) <|
  mv_bh (wI2 h3 300 o1 v2.toNatClampNeg (rI2 h3 6 o0 5)) fun h5 =>
  mv_rI (fT_readStop o0 h5) fun r7 h6 =>
  mv_gd (decide (r7 = nI 0) || decide (r7 = nI 1)) <| some ([Sum.inl (Value.int r7)], h6)) := rfl
theorem GT_readLaw : ∀ (j : Nat) (C : mv_C H2) (md' : mv_MD × Bool), mv_nth j gT_readLaw = some C → mv_nth j nT_readLaw = some md' → ∃ n', n' + 1 ≤ 4 ∧ mv_Cal vw2 n' md' C := fun j C md' => match j with
  | 0 => fun h1 h2 => by
    obtain rfl := Option.some.inj h1
    obtain rfl := Option.some.inj h2
    exact ⟨1, by decide, cV_mostOfLaw_ok⟩
  | 1 => fun h1 h2 => by
    obtain rfl := Option.some.inj h1
    obtain rfl := Option.some.inj h2
    exact ⟨3, by decide, cT_readNumber_ok⟩
  | 2 => fun h1 h2 => by
    obtain rfl := Option.some.inj h1
    obtain rfl := Option.some.inj h2
    exact ⟨3, by decide, cT_readStop_ok⟩
  | jj + 3 => fun h1 _ => by cases jj <;> cases h1

set_option maxRecDepth 20000 in
theorem xT_readLaw {g0 : mv_G} {res : List mv_V × H2} (o0 : Nat) (o1 : Nat) (v2 : Int32) (h : H2) (hh : fT_readLaw o0 o1 v2 h = some res) : mv_X vw2 mdT_readLaw 4 0 0 none g0 res 0 [(0, Sum.inr (6, o0)), (1, Sum.inr (2, o1)), (2, Sum.inl (Value.int v2))] [] h 0 0 := by
  refine mv_blkX ax2 (GT_readLaw) (by decide) kT_readLaw (fun pc lv st h ce sl hh => ?_) ((eT_readLaw  o0 o1 v2 h).trans hh)
  cases hh

theorem mT_readLaw (o0 : Nat) (o1 : Nat) (v2 : Int32) (h : H2) (vs : List mv_V) (h' : H2) (hh : fT_readLaw o0 o1 v2 h = some (vs, h')) : mv_Met vw2 4 0 0 mdT_readLaw [Sum.inr (6, o0), Sum.inr (2, o1), Sum.inl (Value.int v2)] h vs h' :=
  mv_Met_of (by decide +kernel) (Nat.le_of_ble_eq_true rfl) (xT_readLaw o0 o1 v2 h hh)
theorem cT_readLaw_ok : mv_Cal vw2 4 (mdT_readLaw, true) ((0, 0), cT_readLaw) := by
  intro as h k res hh
  change cT_readLaw as h k = some res at hh
  unfold cT_readLaw at hh
  split at hh
  · obtain ⟨hg0, ha0⟩ := mv_gd_some hh
    obtain rfl := Nat.eq_of_beq_eq_true hg0
    obtain ⟨hg1, ha1⟩ := mv_gd_some ha0
    obtain rfl := Nat.eq_of_beq_eq_true hg1
    obtain ⟨x, h', h1, h9⟩ := mv_rI_some ha1
    exact ⟨_, _, h9, (by first | decide | exact Nat.le_refl _ | exact Nat.zero_le _), fun _ => ⟨_, _, _, rfl, Or.inl ⟨by decide, rfl⟩⟩, (mT_readLaw _ _ _ h _ _ h1)⟩
  · cases hh

set_option maxRecDepth 100000 in
theorem kT_readStatement : mv_tok mdT_readStatement nT_readStatement tT_readStatement = true := by decide +kernel
set_option maxRecDepth 100000 in
set_option maxHeartbeats 1000000 in
theorem eT_readStatement (o0 : Nat) (o1 : Nat) (h : H2) : mv_blk rI2 rR2 ln2 wI2 wR2 nw2 cp2 bod none tT_readStatement gT_readStatement 0 0 [] (fun _ _ _ _ _ _ => none) 400 (mv_seek 0 tT_readStatement) [(0, Sum.inr (6, o0)), (1, Sum.inr (2, o1))] [] h 0 0 = (
  mv_rI (fT_kindNamed o0 h) fun r2 h1 =>
  mv_bi r2 fun x3 =>
  if x3 < 0 then (
    mv_rI (fT_isName o0 0 h1) fun r5 h4 =>
    if r5 = 0 then (
      mv_rI (fT_isName o0 1 h4) fun r7 h6 =>
      if r7 = 0 then (
        mv_rI (fT_isName o0 2 h6) fun r9 h8 =>
        if r9 = 0 then (
          mv_rI (fT_lawNamed o0 h8) fun r11 h10 =>
          mv_bi r11 fun x12 =>
          if x12 < 0 then (
            mv_gd (decide (nI 0 = nI 0) || decide (nI 0 = nI 1)) <| some ([Sum.inl (Value.int (nI 0))], h10))
          else
          mv_rI (fT_readLaw o0 o1 x12 h10) fun r14 h13 =>
          if r14 = 0 then (
            mv_gd (decide (nI 0 = nI 0) || decide (nI 0 = nI 1)) <| some ([Sum.inl (Value.int (nI 0))], h13))
          else
          mv_gd (decide (nI 1 = nI 0) || decide (nI 1 = nI 1)) <| some ([Sum.inl (Value.int (nI 1))], h13))
        else
        mv_rI (fT_readDay o0 o1 h8) fun r16 h15 =>
        mv_gd (decide (r16 = nI 0) || decide (r16 = nI 1)) <| some ([Sum.inl (Value.int r16)], h15))
      else
      mv_rI (fT_readStrong o0 o1 h6) fun r18 h17 =>
      mv_gd (decide (r18 = nI 0) || decide (r18 = nI 1)) <| some ([Sum.inl (Value.int r18)], h17))
    else
    mv_rI (fT_readVat o0 o1 h4) fun r20 h19 =>
    mv_gd (decide (r20 = nI 0) || decide (r20 = nI 1)) <| some ([Sum.inl (Value.int r20)], h19))
  else
  mv_rI (fT_readCloth o0 o1 x3 h1) fun r22 h21 =>
  mv_gd (decide (r22 = nI 0) || decide (r22 = nI 1)) <| some ([Sum.inl (Value.int r22)], h21)) := rfl
theorem GT_readStatement : ∀ (j : Nat) (C : mv_C H2) (md' : mv_MD × Bool), mv_nth j gT_readStatement = some C → mv_nth j nT_readStatement = some md' → ∃ n', n' + 1 ≤ 8 ∧ mv_Cal vw2 n' md' C := fun j C md' => match j with
  | 0 => fun h1 h2 => by
    obtain rfl := Option.some.inj h1
    obtain rfl := Option.some.inj h2
    exact ⟨6, by decide, cT_kindNamed_ok⟩
  | 1 => fun h1 h2 => by
    obtain rfl := Option.some.inj h1
    obtain rfl := Option.some.inj h2
    exact ⟨6, by decide, cT_readCloth_ok⟩
  | 2 => fun h1 h2 => by
    obtain rfl := Option.some.inj h1
    obtain rfl := Option.some.inj h2
    exact ⟨5, by decide, cT_isName_ok⟩
  | 3 => fun h1 h2 => by
    obtain rfl := Option.some.inj h1
    obtain rfl := Option.some.inj h2
    exact ⟨7, by decide, cT_readVat_ok⟩
  | 4 => fun h1 h2 => by
    obtain rfl := Option.some.inj h1
    obtain rfl := Option.some.inj h2
    exact ⟨4, by decide, cT_readStrong_ok⟩
  | 5 => fun h1 h2 => by
    obtain rfl := Option.some.inj h1
    obtain rfl := Option.some.inj h2
    exact ⟨7, by decide, cT_readDay_ok⟩
  | 6 => fun h1 h2 => by
    obtain rfl := Option.some.inj h1
    obtain rfl := Option.some.inj h2
    exact ⟨6, by decide, cT_lawNamed_ok⟩
  | 7 => fun h1 h2 => by
    obtain rfl := Option.some.inj h1
    obtain rfl := Option.some.inj h2
    exact ⟨4, by decide, cT_readLaw_ok⟩
  | jj + 8 => fun h1 _ => by cases jj <;> cases h1

set_option maxRecDepth 20000 in
theorem xT_readStatement {g0 : mv_G} {res : List mv_V × H2} (o0 : Nat) (o1 : Nat) (h : H2) (hh : fT_readStatement o0 o1 h = some res) : mv_X vw2 mdT_readStatement 8 0 0 none g0 res 0 [(0, Sum.inr (6, o0)), (1, Sum.inr (2, o1))] [] h 0 0 := by
  refine mv_blkX ax2 (GT_readStatement) (by decide) kT_readStatement (fun pc lv st h ce sl hh => ?_) ((eT_readStatement  o0 o1 h).trans hh)
  cases hh

theorem mT_readStatement (o0 : Nat) (o1 : Nat) (h : H2) (vs : List mv_V) (h' : H2) (hh : fT_readStatement o0 o1 h = some (vs, h')) : mv_Met vw2 8 0 0 mdT_readStatement [Sum.inr (6, o0), Sum.inr (2, o1)] h vs h' :=
  mv_Met_of (by decide +kernel) (Nat.le_of_ble_eq_true rfl) (xT_readStatement o0 o1 h hh)
theorem cT_readStatement_ok : mv_Cal vw2 8 (mdT_readStatement, true) ((0, 0), cT_readStatement) := by
  intro as h k res hh
  change cT_readStatement as h k = some res at hh
  unfold cT_readStatement at hh
  split at hh
  · obtain ⟨hg0, ha0⟩ := mv_gd_some hh
    obtain rfl := Nat.eq_of_beq_eq_true hg0
    obtain ⟨hg1, ha1⟩ := mv_gd_some ha0
    obtain rfl := Nat.eq_of_beq_eq_true hg1
    obtain ⟨x, h', h1, h9⟩ := mv_rI_some ha1
    exact ⟨_, _, h9, (by first | decide | exact Nat.le_refl _ | exact Nat.zero_le _), fun _ => ⟨_, _, _, rfl, Or.inl ⟨by decide, rfl⟩⟩, (mT_readStatement _ _ h _ _ h1)⟩
  · cases hh

