set_option maxRecDepth 100000 in
theorem kT_readWord : mv_tok mdT_readWord nT_readWord tT_readWord = true := by decide +kernel
set_option maxRecDepth 100000 in
set_option maxHeartbeats 1000000 in
theorem eT_readWord_b89 (q89 : Nat → H2 → O2) (o0 : Nat) (h : H2) : mv_blk rI2 rR2 ln2 wI2 wR2 nw2 cp2 bod none tT_readWord gT_readWord 0 0 [89] (fun pc lv st h ce sl => mv_gd (Nat.beq ce 0 && Nat.beq sl 0) (cond (Nat.beq pc 89) (mv_gR 0 6 lv fun o0 => mv_sE st (q89 o0 h)) (none))) 400 (mv_seek 89 tT_readWord) [(0, Sum.inr (6, o0))] [] h 0 0 = (
  if (rI2 h 6 o0 1) ≤ (rI2 h 6 o0 2) then (
    some ([], h))
  else
  mv_gd (mv_inb (rI2 h 6 o0 2) 200) <|
  mv_rI (fV_isIn (rI2 h 700 o0 (rI2 h 6 o0 2).toNatClampNeg) (nI 97) (nI 122) h) fun r2 h1 =>
  if r2 = 0 then (
    some ([], h1))
  else
  mv_bh (wI2 h1 6 o0 2 ((rI2 h1 6 o0 2) + (nI 1))) fun h3 =>
  q89 o0 h3) := rfl
set_option maxRecDepth 100000 in
set_option maxHeartbeats 1000000 in
theorem eT_readWord_b38 (q89 : Nat → H2 → O2) (o0 : Nat) (h : H2) : mv_blk rI2 rR2 ln2 wI2 wR2 nw2 cp2 bod none tT_readWord gT_readWord 0 0 [89] (fun pc lv st h ce sl => mv_gd (Nat.beq ce 0 && Nat.beq sl 0) (cond (Nat.beq pc 89) (mv_gR 0 6 lv fun o0 => mv_sE st (q89 o0 h)) (none))) 400 (mv_seek 38 tT_readWord) [(0, Sum.inr (6, o0))] [] h 0 0 = (
  mv_bh (wI2 h 6 o0 3 (rI2 h 6 o0 2)) fun h1 =>
  if (rI2 h1 6 o0 2) < (rI2 h1 6 o0 1) then (
    mv_gd (mv_inb (rI2 h1 6 o0 2) 200) <|
    mv_rI (fV_isIn (rI2 h1 700 o0 (rI2 h1 6 o0 2).toNatClampNeg) (nI 97) (nI 122) h1) fun r3 h2 =>
    if r3 = 0 then (
      mv_gd (mv_inb (rI2 h2 6 o0 2) 200) <|
      mv_rI (fV_isIn (rI2 h2 700 o0 (rI2 h2 6 o0 2).toNatClampNeg) (nI 48) (nI 57) h2) fun r5 h4 =>
      if r5 = 0 then (
        mv_bh (wI2 h4 6 o0 4 (nI 3)) fun h6 =>
        mv_bh (wI2 h6 6 o0 2 ((rI2 h6 6 o0 2) + (nI 1))) fun h7 =>
        some ([], h7))
      else
      mv_bh (wI2 h4 6 o0 4 (nI 2)) fun h8 =>
      mv_rV (fT_readDigits o0 h8) fun h9 =>
      some ([], h9))
    else
    mv_bh (wI2 h2 6 o0 4 (nI 1)) fun h10 =>
    q89 o0 h10)
  else
  mv_bh (wI2 h1 6 o0 4 (nI 0)) fun h11 =>
  some ([], h11)) := rfl
set_option maxRecDepth 100000 in
set_option maxHeartbeats 1000000 in
theorem eT_readWord_b0 (q0 : Nat → H2 → O2) (q38 : Nat → H2 → O2) (o0 : Nat) (h : H2) : mv_blk rI2 rR2 ln2 wI2 wR2 nw2 cp2 bod none tT_readWord gT_readWord 0 0 [0, 38] (fun pc lv st h ce sl => mv_gd (Nat.beq ce 0 && Nat.beq sl 0) (cond (Nat.beq pc 0) (mv_gR 0 6 lv fun o0 => mv_sE st (q0 o0 h)) (cond (Nat.beq pc 38) (mv_gR 0 6 lv fun o0 => mv_sE st (q38 o0 h)) (none)))) 400 (mv_seek 0 tT_readWord) [(0, Sum.inr (6, o0))] [] h 0 0 = (
  if (rI2 h 6 o0 1) ≤ (rI2 h 6 o0 2) then (
    q38 o0 h)
  else
  mv_gd (mv_inb (rI2 h 6 o0 2) 200) <|
  if (rI2 h 700 o0 (rI2 h 6 o0 2).toNatClampNeg) = (nI 32) then (
    mv_bh (wI2 h 6 o0 2 ((rI2 h 6 o0 2) + (nI 1))) fun h1 =>
    q0 o0 h1)
  else
  q38 o0 h) := rfl
theorem GT_readWord : ∀ (j : Nat) (C : mv_C H2) (md' : mv_MD × Bool), mv_nth j gT_readWord = some C → mv_nth j nT_readWord = some md' → ∃ n', n' + 1 ≤ 2 ∧ mv_Cal vw2 n' md' C := fun j C md' => match j with
  | 0 => fun h1 h2 => by
    obtain rfl := Option.some.inj h1
    obtain rfl := Option.some.inj h2
    exact ⟨1, by decide, cV_isIn_ok⟩
  | 1 => fun h1 h2 => by
    obtain rfl := Option.some.inj h1
    obtain rfl := Option.some.inj h2
    exact ⟨1, by decide, cT_readDigits_ok⟩
  | jj + 2 => fun h1 _ => by cases jj <;> cases h1

set_option maxRecDepth 20000 in
theorem xT_readWord_b89 {g0 : mv_G} {res : List mv_V × H2} : ∀ (n : Nat) (o0 : Nat) (h : H2), fT_readWord_b89 n o0 h = some res → mv_X vw2 mdT_readWord 2 0 0 none g0 res 89 [(0, Sum.inr (6, o0))] [] h 0 0 := by
  intro n
  induction n with
  | zero => intro o0 h hh; cases hh
  | succ n ih =>
    intro o0 h hh
    refine mv_blkX ax2 (GT_readWord) (by decide) kT_readWord (fun pc lv st h ce sl hh => ?_) ((eT_readWord_b89 (fT_readWord_b89 n) o0 h).trans hh)
    obtain ⟨hg, hh1⟩ := mv_gd_some hh
    obtain ⟨rfl, rfl⟩ := mv_z2 hg
    rcases mv_cond_some hh1 with ⟨hb, hh2⟩ | ⟨hb, hh3⟩
    · obtain rfl := Nat.eq_of_beq_eq_true hb
      obtain ⟨o0, m0, hh4⟩ := mv_gR_some hh2
      obtain ⟨rfl, hh5⟩ := mv_sE_some hh4
      exact (ih o0 h hh5).sub (List.forall_mem_cons.mpr ⟨m0, (fun q hq => by cases hq)⟩)
    cases hh3

set_option maxRecDepth 20000 in
theorem xT_readWord_b38 {g0 : mv_G} {res : List mv_V × H2} (o0 : Nat) (h : H2) (hh : fT_readWord_b38 o0 h = some res) : mv_X vw2 mdT_readWord 2 0 0 none g0 res 38 [(0, Sum.inr (6, o0))] [] h 0 0 := by
  refine mv_blkX ax2 (GT_readWord) (by decide) kT_readWord (fun pc lv st h ce sl hh => ?_) ((eT_readWord_b38 (fT_readWord_b89 1000) o0 h).trans hh)
  obtain ⟨hg, hh1⟩ := mv_gd_some hh
  obtain ⟨rfl, rfl⟩ := mv_z2 hg
  rcases mv_cond_some hh1 with ⟨hb, hh2⟩ | ⟨hb, hh3⟩
  · obtain rfl := Nat.eq_of_beq_eq_true hb
    obtain ⟨o0, m0, hh4⟩ := mv_gR_some hh2
    obtain ⟨rfl, hh5⟩ := mv_sE_some hh4
    exact (xT_readWord_b89 1000 o0 h hh5).sub (List.forall_mem_cons.mpr ⟨m0, (fun q hq => by cases hq)⟩)
  cases hh3

set_option maxRecDepth 20000 in
theorem xT_readWord_b0 {g0 : mv_G} {res : List mv_V × H2} : ∀ (n : Nat) (o0 : Nat) (h : H2), fT_readWord_b0 n o0 h = some res → mv_X vw2 mdT_readWord 2 0 0 none g0 res 0 [(0, Sum.inr (6, o0))] [] h 0 0 := by
  intro n
  induction n with
  | zero => intro o0 h hh; cases hh
  | succ n ih =>
    intro o0 h hh
    refine mv_blkX ax2 (GT_readWord) (by decide) kT_readWord (fun pc lv st h ce sl hh => ?_) ((eT_readWord_b0 (fT_readWord_b0 n) (fT_readWord_b38) o0 h).trans hh)
    obtain ⟨hg, hh1⟩ := mv_gd_some hh
    obtain ⟨rfl, rfl⟩ := mv_z2 hg
    rcases mv_cond_some hh1 with ⟨hb, hh2⟩ | ⟨hb, hh3⟩
    · obtain rfl := Nat.eq_of_beq_eq_true hb
      obtain ⟨o0, m0, hh4⟩ := mv_gR_some hh2
      obtain ⟨rfl, hh5⟩ := mv_sE_some hh4
      exact (ih o0 h hh5).sub (List.forall_mem_cons.mpr ⟨m0, (fun q hq => by cases hq)⟩)
    rcases mv_cond_some hh3 with ⟨hb, hh6⟩ | ⟨hb, hh7⟩
    · obtain rfl := Nat.eq_of_beq_eq_true hb
      obtain ⟨o0, m0, hh8⟩ := mv_gR_some hh6
      obtain ⟨rfl, hh9⟩ := mv_sE_some hh8
      exact (xT_readWord_b38  o0 h hh9).sub (List.forall_mem_cons.mpr ⟨m0, (fun q hq => by cases hq)⟩)
    cases hh7

theorem xT_readWord {g0 : mv_G} {res : List mv_V × H2} (o0 : Nat) (h : H2) (hh : fT_readWord o0 h = some res) : mv_X vw2 mdT_readWord 2 0 0 none g0 res 0 [(0, Sum.inr (6, o0))] [] h 0 0 := xT_readWord_b0 1000 o0 h hh
theorem mT_readWord (o0 : Nat) (h : H2) (vs : List mv_V) (h' : H2) (hh : fT_readWord o0 h = some (vs, h')) : mv_Met vw2 2 0 0 mdT_readWord [Sum.inr (6, o0)] h vs h' :=
  mv_Met_of (by decide +kernel) (Nat.le_of_ble_eq_true rfl) (xT_readWord o0 h hh)
theorem cT_readWord_ok : mv_Cal vw2 2 (mdT_readWord, true) ((0, 0), cT_readWord) := by
  intro as h k res hh
  change cT_readWord as h k = some res at hh
  unfold cT_readWord at hh
  split at hh
  · obtain ⟨hg0, ha0⟩ := mv_gd_some hh
    obtain rfl := Nat.eq_of_beq_eq_true hg0
    obtain ⟨h', h1, h9⟩ := mv_rV_some ha0
    exact ⟨_, _, h9, (by first | decide | exact Nat.le_refl _ | exact Nat.zero_le _), fun _ => ⟨_, _, _, rfl, Or.inl ⟨by decide, rfl⟩⟩, (mT_readWord _ h _ _ h1)⟩
  · cases hh

set_option maxRecDepth 100000 in
theorem kK0_coder_7d493 : mv_tok mdK0_coder_7d493 nK0_coder_7d493 tK0_coder_7d493 = true := by decide +kernel
set_option maxRecDepth 100000 in
set_option maxHeartbeats 1000000 in
theorem eK0_coder_7d493 (o0 : Nat) (h : H2) : mv_blk rI2 rR2 ln2 wI2 wR2 nw2 cp2 bod none tK0_coder_7d493 gK0_coder_7d493 0 0 [] (fun _ _ _ _ _ _ => none) 400 (mv_seek 0 tK0_coder_7d493) [(0, Sum.inr (11, o0))] [] h 0 0 = (
  if (nI 1) = 0 then (
    mv_gd (decide (0 ≤ (nI 1)) && decide ((nI 1) ≤ 127)) <| some ([Sum.inl (Value.int (nI 1))], h))
  else
  mv_gd (decide (0 ≤ (nI 0)) && decide ((nI 0) ≤ 127)) <| some ([Sum.inl (Value.int (nI 0))], h)) := rfl
theorem GK0_coder_7d493 : ∀ (j : Nat) (C : mv_C H2) (md' : mv_MD × Bool), mv_nth j gK0_coder_7d493 = some C → mv_nth j nK0_coder_7d493 = some md' → ∃ n', n' + 1 ≤ 1 ∧ mv_Cal vw2 n' md' C := fun j C md' h1 _ => by cases j <;> cases h1

set_option maxRecDepth 20000 in
theorem xK0_coder_7d493 {g0 : mv_G} {res : List mv_V × H2} (o0 : Nat) (h : H2) (hh : fK0_coder_7d493 o0 h = some res) : mv_X vw2 mdK0_coder_7d493 1 0 0 none g0 res 0 [(0, Sum.inr (11, o0))] [] h 0 0 := by
  refine mv_blkX ax2 (GK0_coder_7d493) (by decide) kK0_coder_7d493 (fun pc lv st h ce sl hh => ?_) ((eK0_coder_7d493  o0 h).trans hh)
  cases hh

theorem mK0_coder_7d493 (o0 : Nat) (h : H2) (vs : List mv_V) (h' : H2) (hh : fK0_coder_7d493 o0 h = some (vs, h')) : mv_Met vw2 1 0 0 mdK0_coder_7d493 [Sum.inr (11, o0)] h vs h' :=
  mv_Met_of (by decide +kernel) (Nat.le_of_ble_eq_true rfl) (xK0_coder_7d493 o0 h hh)
theorem cK0_coder_7d493_ok : mv_Cal vw2 1 (mdK0_coder_7d493, true) ((0, 0), cK0_coder_7d493) := by
  intro as h k res hh
  change cK0_coder_7d493 as h k = some res at hh
  unfold cK0_coder_7d493 at hh
  split at hh
  · obtain ⟨hg0, ha0⟩ := mv_gd_some hh
    obtain rfl := Nat.eq_of_beq_eq_true hg0
    obtain ⟨x, h', h1, h9⟩ := mv_rI_some ha0
    exact ⟨_, _, h9, (by first | decide | exact Nat.le_refl _ | exact Nat.zero_le _), fun _ => ⟨_, _, _, rfl, Or.inr ⟨rfl, rfl⟩⟩, (mK0_coder_7d493 _ h _ _ h1)⟩
  · cases hh

set_option maxRecDepth 100000 in
theorem kK0_length_8abf5 : mv_tok mdK0_length_8abf5 nK0_length_8abf5 tK0_length_8abf5 = true := by decide +kernel
set_option maxRecDepth 100000 in
set_option maxHeartbeats 1000000 in
theorem eK0_length_8abf5 (o0 : Nat) (h : H2) : mv_blk rI2 rR2 ln2 wI2 wR2 nw2 cp2 bod none tK0_length_8abf5 gK0_length_8abf5 0 0 [] (fun _ _ _ _ _ _ => none) 400 (mv_seek 0 tK0_length_8abf5) [(0, Sum.inr (11, o0))] [] h 0 0 = (
  mv_rI (fK0_coder_7d493 o0 h) fun r2 h1 =>
  some ([Sum.inl (Value.int ((nI (stl o0)) >>> (r2 &&& 31)))], h1)) := rfl
theorem GK0_length_8abf5 : ∀ (j : Nat) (C : mv_C H2) (md' : mv_MD × Bool), mv_nth j gK0_length_8abf5 = some C → mv_nth j nK0_length_8abf5 = some md' → ∃ n', n' + 1 ≤ 2 ∧ mv_Cal vw2 n' md' C := fun j C md' => match j with
  | 0 => fun h1 h2 => by
    obtain rfl := Option.some.inj h1
    obtain rfl := Option.some.inj h2
    exact ⟨1, by decide, cK0_coder_7d493_ok⟩
  | jj + 1 => fun h1 _ => by cases jj <;> cases h1

set_option maxRecDepth 20000 in
theorem xK0_length_8abf5 {g0 : mv_G} {res : List mv_V × H2} (o0 : Nat) (h : H2) (hh : fK0_length_8abf5 o0 h = some res) : mv_X vw2 mdK0_length_8abf5 2 0 0 none g0 res 0 [(0, Sum.inr (11, o0))] [] h 0 0 := by
  refine mv_blkX ax2 (GK0_length_8abf5) (by decide) kK0_length_8abf5 (fun pc lv st h ce sl hh => ?_) ((eK0_length_8abf5  o0 h).trans hh)
  cases hh

theorem mK0_length_8abf5 (o0 : Nat) (h : H2) (vs : List mv_V) (h' : H2) (hh : fK0_length_8abf5 o0 h = some (vs, h')) : mv_Met vw2 2 0 0 mdK0_length_8abf5 [Sum.inr (11, o0)] h vs h' :=
  mv_Met_of (by decide +kernel) (Nat.le_of_ble_eq_true rfl) (xK0_length_8abf5 o0 h hh)
theorem cK0_length_8abf5_ok : mv_Cal vw2 2 (mdK0_length_8abf5, true) ((0, 0), cK0_length_8abf5) := by
  intro as h k res hh
  change cK0_length_8abf5 as h k = some res at hh
  unfold cK0_length_8abf5 at hh
  split at hh
  · obtain ⟨hg0, ha0⟩ := mv_gd_some hh
    obtain rfl := Nat.eq_of_beq_eq_true hg0
    obtain ⟨x, h', h1, h9⟩ := mv_rI_some ha0
    exact ⟨_, _, h9, (by first | decide | exact Nat.le_refl _ | exact Nat.zero_le _), fun _ => ⟨_, _, _, rfl, Or.inr ⟨rfl, rfl⟩⟩, (mK0_length_8abf5 _ h _ _ h1)⟩
  · cases hh

set_option maxRecDepth 100000 in
theorem kK0_isLatin1_aae02 : mv_tok mdK0_isLatin1_aae02 nK0_isLatin1_aae02 tK0_isLatin1_aae02 = true := by decide +kernel
set_option maxRecDepth 100000 in
set_option maxHeartbeats 1000000 in
theorem eK0_isLatin1_aae02 (o0 : Nat) (h : H2) : mv_blk rI2 rR2 ln2 wI2 wR2 nw2 cp2 bod none tK0_isLatin1_aae02 gK0_isLatin1_aae02 0 0 [] (fun _ _ _ _ _ _ => none) 400 (mv_seek 0 tK0_isLatin1_aae02) [(0, Sum.inr (11, o0))] [] h 0 0 = (
  if (nI 1) = 0 then (
    mv_gd (decide (nI 0 = nI 0) || decide (nI 0 = nI 1)) <| some ([Sum.inl (Value.int (nI 0))], h))
  else
  if (nI 0) = 0 then (
    mv_gd (decide (nI 1 = nI 0) || decide (nI 1 = nI 1)) <| some ([Sum.inl (Value.int (nI 1))], h))
  else
  mv_gd (decide (nI 0 = nI 0) || decide (nI 0 = nI 1)) <| some ([Sum.inl (Value.int (nI 0))], h)) := rfl
theorem GK0_isLatin1_aae02 : ∀ (j : Nat) (C : mv_C H2) (md' : mv_MD × Bool), mv_nth j gK0_isLatin1_aae02 = some C → mv_nth j nK0_isLatin1_aae02 = some md' → ∃ n', n' + 1 ≤ 1 ∧ mv_Cal vw2 n' md' C := fun j C md' h1 _ => by cases j <;> cases h1

set_option maxRecDepth 20000 in
theorem xK0_isLatin1_aae02 {g0 : mv_G} {res : List mv_V × H2} (o0 : Nat) (h : H2) (hh : fK0_isLatin1_aae02 o0 h = some res) : mv_X vw2 mdK0_isLatin1_aae02 1 0 0 none g0 res 0 [(0, Sum.inr (11, o0))] [] h 0 0 := by
  refine mv_blkX ax2 (GK0_isLatin1_aae02) (by decide) kK0_isLatin1_aae02 (fun pc lv st h ce sl hh => ?_) ((eK0_isLatin1_aae02  o0 h).trans hh)
  cases hh

theorem mK0_isLatin1_aae02 (o0 : Nat) (h : H2) (vs : List mv_V) (h' : H2) (hh : fK0_isLatin1_aae02 o0 h = some (vs, h')) : mv_Met vw2 1 0 0 mdK0_isLatin1_aae02 [Sum.inr (11, o0)] h vs h' :=
  mv_Met_of (by decide +kernel) (Nat.le_of_ble_eq_true rfl) (xK0_isLatin1_aae02 o0 h hh)
theorem cK0_isLatin1_aae02_ok : mv_Cal vw2 1 (mdK0_isLatin1_aae02, true) ((0, 0), cK0_isLatin1_aae02) := by
  intro as h k res hh
  change cK0_isLatin1_aae02 as h k = some res at hh
  unfold cK0_isLatin1_aae02 at hh
  split at hh
  · obtain ⟨hg0, ha0⟩ := mv_gd_some hh
    obtain rfl := Nat.eq_of_beq_eq_true hg0
    obtain ⟨x, h', h1, h9⟩ := mv_rI_some ha0
    exact ⟨_, _, h9, (by first | decide | exact Nat.le_refl _ | exact Nat.zero_le _), fun _ => ⟨_, _, _, rfl, Or.inr ⟨rfl, rfl⟩⟩, (mK0_isLatin1_aae02 _ h _ _ h1)⟩
  · cases hh

set_option maxRecDepth 100000 in
theorem kK3_checkIndex_8e157 : mv_tok mdK3_checkIndex_8e157 nK3_checkIndex_8e157 tK3_checkIndex_8e157 = true := by decide +kernel
set_option maxRecDepth 100000 in
set_option maxHeartbeats 1000000 in
theorem eK3_checkIndex_8e157 (v0 : Int32) (v1 : Int32) (o2 : Nat) (h : H2) : mv_blk rI2 rR2 ln2 wI2 wR2 nw2 cp2 bod none tK3_checkIndex_8e157 gK3_checkIndex_8e157 0 0 [] (fun _ _ _ _ _ _ => none) 400 (mv_seek 0 tK3_checkIndex_8e157) [(0, Sum.inl (Value.int v0)), (1, Sum.inl (Value.int v1)), (2, Sum.inr (14, o2))] [] h 0 0 = (
  if v0 < 0 then (
    none)
  else
  if v0 < v1 then (
    some ([Sum.inl (Value.int v0)], h))
  else
  none) := rfl
theorem GK3_checkIndex_8e157 : ∀ (j : Nat) (C : mv_C H2) (md' : mv_MD × Bool), mv_nth j gK3_checkIndex_8e157 = some C → mv_nth j nK3_checkIndex_8e157 = some md' → ∃ n', n' + 1 ≤ 1 ∧ mv_Cal vw2 n' md' C := fun j C md' h1 _ => by cases j <;> cases h1

set_option maxRecDepth 20000 in
theorem xK3_checkIndex_8e157 {g0 : mv_G} {res : List mv_V × H2} (v0 : Int32) (v1 : Int32) (o2 : Nat) (h : H2) (hh : fK3_checkIndex_8e157 v0 v1 o2 h = some res) : mv_X vw2 mdK3_checkIndex_8e157 1 0 0 none g0 res 0 [(0, Sum.inl (Value.int v0)), (1, Sum.inl (Value.int v1)), (2, Sum.inr (14, o2))] [] h 0 0 := by
  refine mv_blkX ax2 (GK3_checkIndex_8e157) (by decide) kK3_checkIndex_8e157 (fun pc lv st h ce sl hh => ?_) ((eK3_checkIndex_8e157  v0 v1 o2 h).trans hh)
  cases hh

theorem mK3_checkIndex_8e157 (v0 : Int32) (v1 : Int32) (o2 : Nat) (h : H2) (vs : List mv_V) (h' : H2) (hh : fK3_checkIndex_8e157 v0 v1 o2 h = some (vs, h')) : mv_Met vw2 1 0 0 mdK3_checkIndex_8e157 [Sum.inl (Value.int v0), Sum.inl (Value.int v1), Sum.inr (14, o2)] h vs h' :=
  mv_Met_of (by decide +kernel) (Nat.le_of_ble_eq_true rfl) (xK3_checkIndex_8e157 v0 v1 o2 h hh)
theorem cK3_checkIndex_8e157_ok : mv_Cal vw2 1 (mdK3_checkIndex_8e157, false) ((0, 0), cK3_checkIndex_8e157) := by
  intro as h k res hh
  change cK3_checkIndex_8e157 as h k = some res at hh
  unfold cK3_checkIndex_8e157 at hh
  split at hh
  · obtain ⟨hg2, ha2⟩ := mv_gd_some hh
    obtain rfl := Nat.eq_of_beq_eq_true hg2
    obtain ⟨x, h', h1, h9⟩ := mv_rI_some ha2
    exact ⟨_, _, h9, (by first | decide | exact Nat.le_refl _ | exact Nat.zero_le _), (fun h => by cases h), (mK3_checkIndex_8e157 _ _ _ h _ _ h1)⟩
  · cases hh

set_option maxRecDepth 100000 in
theorem kK0_checkIndex_df160 : mv_tok mdK0_checkIndex_df160 nK0_checkIndex_df160 tK0_checkIndex_df160 = true := by decide +kernel
set_option maxRecDepth 100000 in
set_option maxHeartbeats 1000000 in
-- the formatter may be null: the third argument is one or the other, and is not looked at
theorem eK3n (v0 : Int32) (v1 : Int32) (h : H2) : mv_blk rI2 rR2 ln2 wI2 wR2 nw2 cp2 bod none tK3_checkIndex_8e157 gK3_checkIndex_8e157 0 0 [] (fun _ _ _ _ _ _ => none) 400 (mv_seek 0 tK3_checkIndex_8e157) [(0, Sum.inl (Value.int v0)), (1, Sum.inl (Value.int v1)), (2, Sum.inl Value.null)] [] h 0 0 = (
  if v0 < 0 then (
    none)
  else
  if v0 < v1 then (
    some ([Sum.inl (Value.int v0)], h))
  else
  none) := rfl
theorem mK3n (v0 : Int32) (v1 : Int32) (h : H2) (vs : List mv_V) (h' : H2) (hh : fK3_checkIndex_8e157 v0 v1 0 h = some (vs, h')) : mv_Met vw2 1 0 0 mdK3_checkIndex_8e157 [Sum.inl (Value.int v0), Sum.inl (Value.int v1), Sum.inl Value.null] h vs h' :=
  mv_Met_of (by decide +kernel) (Nat.le_of_ble_eq_true rfl) (mv_blkX ax2 (GK3_checkIndex_8e157) (by decide) kK3_checkIndex_8e157 (fun pc lv st h ce sl hh => by cases hh) ((eK3n v0 v1 h).trans hh))
def cK3n : List mv_V → H2 → (List mv_V → H2 → O2) → O2 := fun as h k => match as with
  | [.inl (.int v0), .inl (.int v1), .inl .null] => mv_rI (fK3_checkIndex_8e157 v0 v1 0 h) fun x h => k [.inl (.int x)] h
  | _ => none
theorem cK3n_ok : mv_Cal vw2 1 (mdK3_checkIndex_8e157, false) ((0, 0), cK3n) := by
  intro as h k res hh
  change cK3n as h k = some res at hh
  unfold cK3n at hh
  split at hh
  · obtain ⟨x, h', h1, h9⟩ := mv_rI_some hh
    exact ⟨_, _, h9, Nat.le_refl _, (fun h => by cases h), mK3n _ _ h _ _ h1⟩
  · cases hh
def gK0n : List (mv_C H2) := [((0, 0), cK3n)]
set_option maxRecDepth 100000 in
set_option maxHeartbeats 1000000 in
theorem eK0a (ka : Nat → mv_L → List mv_V → H2 → Nat → Nat → O2) (v0 : Int32) (v1 : Int32) (h : H2) : mv_blk rI2 rR2 ln2 wI2 wR2 nw2 cp2 bod none tK0_checkIndex_df160 gK0_checkIndex_df160 0 0 [2] ka 400 (mv_seek 0 tK0_checkIndex_df160) [(0, Sum.inl (Value.int v0)), (1, Sum.inl (Value.int v1))] [] h 0 0 = ka 2 [(0, Sum.inl (Value.int v0)), (1, Sum.inl (Value.int v1))] [Sum.inl (Value.int v1), Sum.inl (Value.int v0)] h 0 0 := rfl
set_option maxRecDepth 100000 in
set_option maxHeartbeats 1000000 in
theorem eK0r (v0 : Int32) (v1 : Int32) (h : H2) : mv_blk rI2 rR2 ln2 wI2 wR2 nw2 cp2 bod none tK0_checkIndex_df160 gK0_checkIndex_df160 0 0 [] (fun _ _ _ _ _ _ => none) 400 (mv_seek 5 tK0_checkIndex_df160) [(0, Sum.inl (Value.int v0)), (1, Sum.inl (Value.int v1))] [Sum.inr (14, 0), Sum.inl (Value.int v1), Sum.inl (Value.int v0)] h 0 0 = (
  mv_rI (fK3_checkIndex_8e157 v0 v1 0 h) fun r2 h1 =>
  some ([], h1)) := rfl
set_option maxRecDepth 100000 in
set_option maxHeartbeats 1000000 in
theorem eK0n (v0 : Int32) (v1 : Int32) (h : H2) : mv_blk rI2 rR2 ln2 wI2 wR2 nw2 cp2 bod none tK0_checkIndex_df160 gK0n 0 0 [] (fun _ _ _ _ _ _ => none) 400 (mv_seek 5 tK0_checkIndex_df160) [(0, Sum.inl (Value.int v0)), (1, Sum.inl (Value.int v1))] [Sum.inl Value.null, Sum.inl (Value.int v1), Sum.inl (Value.int v0)] h 0 0 = (
  mv_rI (fK3_checkIndex_8e157 v0 v1 0 h) fun r2 h1 =>
  some ([], h1)) := rfl
theorem GK0_checkIndex_df160 : ∀ (j : Nat) (C : mv_C H2) (md' : mv_MD × Bool), mv_nth j gK0_checkIndex_df160 = some C → mv_nth j nK0_checkIndex_df160 = some md' → ∃ n', n' + 1 ≤ 2 ∧ mv_Cal vw2 n' md' C := fun j C md' => match j with
  | 0 => fun h1 h2 => by
    obtain rfl := Option.some.inj h1
    obtain rfl := Option.some.inj h2
    exact ⟨1, by decide, cK3_checkIndex_8e157_ok⟩
  | jj + 1 => fun h1 _ => by cases jj <;> cases h1

theorem GK0n : ∀ (j : Nat) (C : mv_C H2) (md' : mv_MD × Bool), mv_nth j gK0n = some C → mv_nth j nK0_checkIndex_df160 = some md' → ∃ n', n' + 1 ≤ 2 ∧ mv_Cal vw2 n' md' C := fun j C md' => match j with
  | 0 => fun h1 h2 => by
    obtain rfl := Option.some.inj h1
    obtain rfl := Option.some.inj h2
    exact ⟨1, by decide, cK3n_ok⟩
  | jj + 1 => fun h1 _ => by cases jj <;> cases h1

theorem xK0_checkIndex_df160 {g0 : mv_G} {res : List mv_V × H2} (v0 : Int32) (v1 : Int32) (h : H2) (hh : fK0_checkIndex_df160 v0 v1 h = some res) : mv_X vw2 mdK0_checkIndex_df160 2 0 0 none g0 res 0 [(0, Sum.inl (Value.int v0)), (1, Sum.inl (Value.int v1))] [] h 0 0 := by
  intro p l e R s m args below meth c D cI cQ q0 φ0 Qf hB hRet
  have hr := mv_blkX ax2 GK0_checkIndex_df160 (by decide) kK0_checkIndex_df160 (fun pc lv st h ce sl hh => by cases hh) ((eK0r v0 v1 h).trans hh) p l e R s m args below meth c D cI cQ q0 φ0 Qf hB hRet
  have hn := mv_blkX ax2 GK0n (by decide) kK0_checkIndex_df160 (fun pc lv st h ce sl hh => by cases hh) ((eK0n v0 v1 h).trans hh) p l e R s m args below meth c D cI cQ q0 φ0 Qf hB hRet
  have h2 : mv_Y vw2 mdK0_checkIndex_df160 0 0 g0 p l e R s m args below meth c D cI cQ q0 φ0 Qf 2 [(0, Sum.inl (Value.int v0)), (1, Sum.inl (Value.int v1))] [Sum.inl (Value.int v1), Sum.inl (Value.int v0)] h 0 0 := by
    intro hce hsl hv hvl φ H locs ls hge hW hS hl
    obtain ⟨hx, hb, hml, hown, hnm, hts, hK, hq0, hR, hE, hScr⟩ := hB
    have hw := hts _ (wAt_in (j := 2) (i := 60) (w := .fieldLink mdK0_checkIndex_df160.1.cls 1053 "jdk/internal/util/Preconditions" "SIOOBE_FORMATTER" "Ljava/util/function/BiFunction;") (by decide +kernel))
    have hd : decode mdK0_checkIndex_df160.2.1 2 = .ok (.getstatic 1053, 3) := by decide +kernel
    rcases hE.2.2.2.2.2.1 with hz | hz
    · have h3 := va_gets (p := p) (l := l) (e := e) (R := R) (m := m) (args := args) (below := below) (meth := meth) (cells := 0) (slots := 0) (Q := Qf) (ls := ls) (rest := [Value.int v1, Value.int v0]) hx hb hz hS hown hw (fun _ h9 => h9) hd (by
        rw [← hge.2.1 14 0 (by decide) (by decide)]
        exact hr hce hsl (List.forall_mem_cons.mpr ⟨Or.inr ⟨by decide, by decide, fun h => absurd h (by decide)⟩, hv⟩) hvl φ H locs ls hge hW hS hl)
      exact h3
    · exact va_gets (p := p) (l := l) (e := e) (R := R) (m := m) (args := args) (below := below) (meth := meth) (cells := 0) (slots := 0) (Q := Qf) (ls := ls) (rest := [Value.int v1, Value.int v0]) hx hb hz hS hown hw (fun _ h9 => h9) hd (hn hce hsl (List.forall_mem_cons.mpr ⟨trivial, hv⟩) hvl φ H locs ls hge hW hS hl)
  have hka : ∃ ka : Nat → mv_L → List mv_V → H2 → Nat → Nat → O2, ∀ pc lv st h ce sl, ka pc lv st h ce sl = some res ↔ mv_Y vw2 mdK0_checkIndex_df160 0 0 g0 p l e R s m args below meth c D cI cQ q0 φ0 Qf pc lv st h ce sl := by
    refine ⟨fun pc lv st h ce sl => @ite _ (mv_Y vw2 mdK0_checkIndex_df160 0 0 g0 p l e R s m args below meth c D cI cQ q0 φ0 Qf pc lv st h ce sl) (Classical.propDecidable _) (some res) none, fun pc lv st h ce sl => ?_⟩
    by_cases hy : mv_Y vw2 mdK0_checkIndex_df160 0 0 g0 p l e R s m args below meth c D cI cQ q0 φ0 Qf pc lv st h ce sl
    · exact ⟨fun _ => hy, fun _ => @if_pos _ (Classical.propDecidable _) hy _ _ _⟩
    · refine ⟨fun h3 => ?_, fun h3 => absurd h3 hy⟩
      have h4 := (@if_neg _ (Classical.propDecidable _) hy _ (some res) none).symm.trans h3
      cases h4
  obtain ⟨ka, hka⟩ := hka
  exact mv_blk_sound ax2 hB hRet GK0_checkIndex_df160 (by decide) kK0_checkIndex_df160 (stops := [2]) (ka := ka) (fun pc lv st h ce sl => (hka pc lv st h ce sl).mp) 400 (mv_seek 0 tK0_checkIndex_df160) (mv_seek_ok kK0_checkIndex_df160).1 _ _ _ _ _ ((eK0a ka v0 v1 h).trans ((hka _ _ _ _ _ _).mpr h2)) (0, .iload_n 0, 1, [0]) _ rfl

theorem mK0_checkIndex_df160 (v0 : Int32) (v1 : Int32) (h : H2) (vs : List mv_V) (h' : H2) (hh : fK0_checkIndex_df160 v0 v1 h = some (vs, h')) : mv_Met vw2 2 0 0 mdK0_checkIndex_df160 [Sum.inl (Value.int v0), Sum.inl (Value.int v1)] h vs h' :=
  mv_Met_of (by decide +kernel) (Nat.le_of_ble_eq_true rfl) (xK0_checkIndex_df160 v0 v1 h hh)
theorem cK0_checkIndex_df160_ok : mv_Cal vw2 2 (mdK0_checkIndex_df160, false) ((0, 0), cK0_checkIndex_df160) := by
  intro as h k res hh
  change cK0_checkIndex_df160 as h k = some res at hh
  unfold cK0_checkIndex_df160 at hh
  split at hh
  · obtain ⟨h', h1, h9⟩ := mv_rV_some hh
    exact ⟨_, _, h9, (by first | decide | exact Nat.le_refl _ | exact Nat.zero_le _), (fun h => by cases h), (mK0_checkIndex_df160 _ _ h _ _ h1)⟩
  · cases hh

set_option maxRecDepth 100000 in
theorem kK1_charAt_3b067 : mv_tok mdK1_charAt_3b067 nK1_charAt_3b067 tK1_charAt_3b067 = true := by decide +kernel
set_option maxRecDepth 100000 in
set_option maxHeartbeats 1000000 in
theorem eK1_charAt_3b067 (o0 : Nat) (v1 : Int32) (h : H2) : mv_blk rI2 rR2 ln2 wI2 wR2 nw2 cp2 bod none tK1_charAt_3b067 gK1_charAt_3b067 0 0 [] (fun _ _ _ _ _ _ => none) 400 (mv_seek 0 tK1_charAt_3b067) [(0, Sum.inr (12, o0)), (1, Sum.inl (Value.int v1))] [] h 0 0 = (
  mv_rV (fK0_checkIndex_df160 v1 (nI (stl o0)) h) fun h1 =>
  mv_gd (mv_inb v1 (stl o0)) <|
  mv_gd (decide (0 ≤ (((stc o0 v1.toNatClampNeg) &&& (nI 255)).toUInt32.toUInt16.toUInt32.toInt32)) && decide ((((stc o0 v1.toNatClampNeg) &&& (nI 255)).toUInt32.toUInt16.toUInt32.toInt32) ≤ 127)) <| some ([Sum.inl (Value.int (((stc o0 v1.toNatClampNeg) &&& (nI 255)).toUInt32.toUInt16.toUInt32.toInt32))], h1)) := rfl
theorem GK1_charAt_3b067 : ∀ (j : Nat) (C : mv_C H2) (md' : mv_MD × Bool), mv_nth j gK1_charAt_3b067 = some C → mv_nth j nK1_charAt_3b067 = some md' → ∃ n', n' + 1 ≤ 3 ∧ mv_Cal vw2 n' md' C := fun j C md' => match j with
  | 0 => fun h1 h2 => by
    obtain rfl := Option.some.inj h1
    obtain rfl := Option.some.inj h2
    exact ⟨2, by decide, cK0_checkIndex_df160_ok⟩
  | jj + 1 => fun h1 _ => by cases jj <;> cases h1

set_option maxRecDepth 20000 in
theorem xK1_charAt_3b067 {g0 : mv_G} {res : List mv_V × H2} (o0 : Nat) (v1 : Int32) (h : H2) (hh : fK1_charAt_3b067 o0 v1 h = some res) : mv_X vw2 mdK1_charAt_3b067 3 0 0 none g0 res 0 [(0, Sum.inr (12, o0)), (1, Sum.inl (Value.int v1))] [] h 0 0 := by
  refine mv_blkX ax2 (GK1_charAt_3b067) (by decide) kK1_charAt_3b067 (fun pc lv st h ce sl hh => ?_) ((eK1_charAt_3b067  o0 v1 h).trans hh)
  cases hh

theorem mK1_charAt_3b067 (o0 : Nat) (v1 : Int32) (h : H2) (vs : List mv_V) (h' : H2) (hh : fK1_charAt_3b067 o0 v1 h = some (vs, h')) : mv_Met vw2 3 0 0 mdK1_charAt_3b067 [Sum.inr (12, o0), Sum.inl (Value.int v1)] h vs h' :=
  mv_Met_of (by decide +kernel) (Nat.le_of_ble_eq_true rfl) (xK1_charAt_3b067 o0 v1 h hh)
theorem cK1_charAt_3b067_ok : mv_Cal vw2 3 (mdK1_charAt_3b067, false) ((0, 0), cK1_charAt_3b067) := by
  intro as h k res hh
  change cK1_charAt_3b067 as h k = some res at hh
  unfold cK1_charAt_3b067 at hh
  split at hh
  · obtain ⟨hg0, ha0⟩ := mv_gd_some hh
    obtain rfl := Nat.eq_of_beq_eq_true hg0
    obtain ⟨x, h', h1, h9⟩ := mv_rI_some ha0
    exact ⟨_, _, h9, (by first | decide | exact Nat.le_refl _ | exact Nat.zero_le _), (fun h => by cases h), (mK1_charAt_3b067 _ _ h _ _ h1)⟩
  · cases hh

set_option maxRecDepth 100000 in
theorem kK0_charAt_5068e : mv_tok mdK0_charAt_5068e nK0_charAt_5068e tK0_charAt_5068e = true := by decide +kernel
set_option maxRecDepth 100000 in
set_option maxHeartbeats 1000000 in
theorem eK0_charAt_5068e (o0 : Nat) (v1 : Int32) (h : H2) : mv_blk rI2 rR2 ln2 wI2 wR2 nw2 cp2 bod none tK0_charAt_5068e gK0_charAt_5068e 0 0 [] (fun _ _ _ _ _ _ => none) 400 (mv_seek 0 tK0_charAt_5068e) [(0, Sum.inr (11, o0)), (1, Sum.inl (Value.int v1))] [] h 0 0 = (
  mv_rI (fK0_isLatin1_aae02 o0 h) fun r2 h1 =>
  if r2 = 0 then (
    none)
  else
  mv_rI (fK1_charAt_3b067 o0 v1 h1) fun r4 h3 =>
  mv_gd (decide (0 ≤ r4) && decide (r4 ≤ 127)) <| some ([Sum.inl (Value.int r4)], h3)) := rfl
theorem GK0_charAt_5068e : ∀ (j : Nat) (C : mv_C H2) (md' : mv_MD × Bool), mv_nth j gK0_charAt_5068e = some C → mv_nth j nK0_charAt_5068e = some md' → ∃ n', n' + 1 ≤ 4 ∧ mv_Cal vw2 n' md' C := fun j C md' => match j with
  | 0 => fun h1 h2 => by
    obtain rfl := Option.some.inj h1
    obtain rfl := Option.some.inj h2
    exact ⟨1, by decide, cK0_isLatin1_aae02_ok⟩
  | 1 => fun h1 h2 => by
    obtain rfl := Option.some.inj h1
    obtain rfl := Option.some.inj h2
    exact ⟨3, by decide, cK1_charAt_3b067_ok⟩
  | jj + 2 => fun h1 _ => by cases jj <;> cases h1

set_option maxRecDepth 20000 in
theorem xK0_charAt_5068e {g0 : mv_G} {res : List mv_V × H2} (o0 : Nat) (v1 : Int32) (h : H2) (hh : fK0_charAt_5068e o0 v1 h = some res) : mv_X vw2 mdK0_charAt_5068e 4 0 0 none g0 res 0 [(0, Sum.inr (11, o0)), (1, Sum.inl (Value.int v1))] [] h 0 0 := by
  refine mv_blkX ax2 (GK0_charAt_5068e) (by decide) kK0_charAt_5068e (fun pc lv st h ce sl hh => ?_) ((eK0_charAt_5068e  o0 v1 h).trans hh)
  cases hh

theorem mK0_charAt_5068e (o0 : Nat) (v1 : Int32) (h : H2) (vs : List mv_V) (h' : H2) (hh : fK0_charAt_5068e o0 v1 h = some (vs, h')) : mv_Met vw2 4 0 0 mdK0_charAt_5068e [Sum.inr (11, o0), Sum.inl (Value.int v1)] h vs h' :=
  mv_Met_of (by decide +kernel) (Nat.le_of_ble_eq_true rfl) (xK0_charAt_5068e o0 v1 h hh)
theorem cK0_charAt_5068e_ok : mv_Cal vw2 4 (mdK0_charAt_5068e, true) ((0, 0), cK0_charAt_5068e) := by
  intro as h k res hh
  change cK0_charAt_5068e as h k = some res at hh
  unfold cK0_charAt_5068e at hh
  split at hh
  · obtain ⟨hg0, ha0⟩ := mv_gd_some hh
    obtain rfl := Nat.eq_of_beq_eq_true hg0
    obtain ⟨x, h', h1, h9⟩ := mv_rI_some ha0
    exact ⟨_, _, h9, (by first | decide | exact Nat.le_refl _ | exact Nat.zero_le _), fun _ => ⟨_, _, _, rfl, Or.inr ⟨rfl, rfl⟩⟩, (mK0_charAt_5068e _ _ h _ _ h1)⟩
  · cases hh

set_option maxRecDepth 100000 in
theorem kT_isName : mv_tok mdT_isName nT_isName tT_isName = true := by decide +kernel
set_option maxRecDepth 100000 in
set_option maxHeartbeats 1000000 in
theorem eT_isName_b28 (q28 : Nat → Nat → Int32 → H2 → O2) (o0 : Nat) (o1 : Nat) (v2 : Int32) (h : H2) : mv_blk rI2 rR2 ln2 wI2 wR2 nw2 cp2 bod none tT_isName gT_isName 0 0 [28] (fun pc lv st h ce sl => mv_gd (Nat.beq ce 0 && Nat.beq sl 0) (cond (Nat.beq pc 28) (mv_gR 0 6 lv fun o0 => mv_gR 1 11 lv fun o1 => mv_gI 2 lv fun v2 => mv_sE st (q28 o0 o1 v2 h)) (none))) 400 (mv_seek 28 tT_isName) [(0, Sum.inr (6, o0)), (1, Sum.inr (11, o1)), (2, Sum.inl (Value.int v2))] [] h 0 0 = (
  mv_rI (fK0_length_8abf5 o1 h) fun r2 h1 =>
  if r2 ≤ v2 then (
    mv_gd (decide (nI 1 = nI 0) || decide (nI 1 = nI 1)) <| some ([Sum.inl (Value.int (nI 1))], h1))
  else
  mv_gd (mv_inb ((rI2 h1 6 o0 3) + v2) 200) <|
  mv_rI (fK0_charAt_5068e o1 v2 h1) fun r4 h3 =>
  if (rI2 h1 700 o0 ((rI2 h1 6 o0 3) + v2).toNatClampNeg) = r4 then (
    mv_bi (v2 + (nI 1)) fun x5 =>
    q28 o0 o1 x5 h3)
  else
  mv_gd (decide (nI 0 = nI 0) || decide (nI 0 = nI 1)) <| some ([Sum.inl (Value.int (nI 0))], h3)) := rfl
set_option maxRecDepth 100000 in
set_option maxHeartbeats 1000000 in
theorem eT_isName (q28 : Nat → Nat → Int32 → H2 → O2) (o0 : Nat) (o1 : Nat) (h : H2) : mv_blk rI2 rR2 ln2 wI2 wR2 nw2 cp2 bod none tT_isName gT_isName 0 0 [28] (fun pc lv st h ce sl => mv_gd (Nat.beq ce 0 && Nat.beq sl 0) (cond (Nat.beq pc 28) (mv_gR 0 6 lv fun o0 => mv_gR 1 11 lv fun o1 => mv_gI 2 lv fun v2 => mv_sE st (q28 o0 o1 v2 h)) (none))) 400 (mv_seek 0 tT_isName) [(0, Sum.inr (6, o0)), (1, Sum.inr (11, o1))] [] h 0 0 = (
  if (rI2 h 6 o0 4) = (nI 1) then (
    mv_rI (fK0_length_8abf5 o1 h) fun r2 h1 =>
    if ((rI2 h 6 o0 2) - (rI2 h 6 o0 3)) = r2 then (
      mv_bi (nI 0) fun x3 =>
      q28 o0 o1 x3 h1)
    else
    mv_gd (decide (nI 0 = nI 0) || decide (nI 0 = nI 1)) <| some ([Sum.inl (Value.int (nI 0))], h1))
  else
  mv_gd (decide (nI 0 = nI 0) || decide (nI 0 = nI 1)) <| some ([Sum.inl (Value.int (nI 0))], h)) := rfl
theorem GT_isName : ∀ (j : Nat) (C : mv_C H2) (md' : mv_MD × Bool), mv_nth j gT_isName = some C → mv_nth j nT_isName = some md' → ∃ n', n' + 1 ≤ 5 ∧ mv_Cal vw2 n' md' C := fun j C md' => match j with
  | 0 => fun h1 h2 => by
    obtain rfl := Option.some.inj h1
    obtain rfl := Option.some.inj h2
    exact ⟨2, by decide, cK0_length_8abf5_ok⟩
  | 1 => fun h1 h2 => by
    obtain rfl := Option.some.inj h1
    obtain rfl := Option.some.inj h2
    exact ⟨4, by decide, cK0_charAt_5068e_ok⟩
  | jj + 2 => fun h1 _ => by cases jj <;> cases h1

set_option maxRecDepth 20000 in
theorem xT_isName_b28 {g0 : mv_G} {res : List mv_V × H2} : ∀ (n : Nat) (o0 : Nat) (o1 : Nat) (v2 : Int32) (h : H2), fT_isName_b28 n o0 o1 v2 h = some res → mv_X vw2 mdT_isName 5 0 0 none g0 res 28 [(0, Sum.inr (6, o0)), (1, Sum.inr (11, o1)), (2, Sum.inl (Value.int v2))] [] h 0 0 := by
  intro n
  induction n with
  | zero => intro o0 o1 v2 h hh; cases hh
  | succ n ih =>
    intro o0 o1 v2 h hh
    refine mv_blkX ax2 (GT_isName) (by decide) kT_isName (fun pc lv st h ce sl hh => ?_) ((eT_isName_b28 (fT_isName_b28 n) o0 o1 v2 h).trans hh)
    obtain ⟨hg, hh1⟩ := mv_gd_some hh
    obtain ⟨rfl, rfl⟩ := mv_z2 hg
    rcases mv_cond_some hh1 with ⟨hb, hh2⟩ | ⟨hb, hh3⟩
    · obtain rfl := Nat.eq_of_beq_eq_true hb
      obtain ⟨o0, m0, hh4⟩ := mv_gR_some hh2
      obtain ⟨o1, m1, hh5⟩ := mv_gR_some hh4
      obtain ⟨v2, m2, hh6⟩ := mv_gI_some hh5
      obtain ⟨rfl, hh7⟩ := mv_sE_some hh6
      exact (ih o0 o1 v2 h hh7).sub (List.forall_mem_cons.mpr ⟨m0, (List.forall_mem_cons.mpr ⟨m1, (List.forall_mem_cons.mpr ⟨m2, (fun q hq => by cases hq)⟩)⟩)⟩)
    cases hh3

set_option maxRecDepth 20000 in
theorem xT_isName {g0 : mv_G} {res : List mv_V × H2} (o0 : Nat) (o1 : Nat) (h : H2) (hh : fT_isName o0 o1 h = some res) : mv_X vw2 mdT_isName 5 0 0 none g0 res 0 [(0, Sum.inr (6, o0)), (1, Sum.inr (11, o1))] [] h 0 0 := by
  refine mv_blkX ax2 (GT_isName) (by decide) kT_isName (fun pc lv st h ce sl hh => ?_) ((eT_isName (fT_isName_b28 1000) o0 o1 h).trans hh)
  obtain ⟨hg, hh1⟩ := mv_gd_some hh
  obtain ⟨rfl, rfl⟩ := mv_z2 hg
  rcases mv_cond_some hh1 with ⟨hb, hh2⟩ | ⟨hb, hh3⟩
  · obtain rfl := Nat.eq_of_beq_eq_true hb
    obtain ⟨o0, m0, hh4⟩ := mv_gR_some hh2
    obtain ⟨o1, m1, hh5⟩ := mv_gR_some hh4
    obtain ⟨v2, m2, hh6⟩ := mv_gI_some hh5
    obtain ⟨rfl, hh7⟩ := mv_sE_some hh6
    exact (xT_isName_b28 1000 o0 o1 v2 h hh7).sub (List.forall_mem_cons.mpr ⟨m0, (List.forall_mem_cons.mpr ⟨m1, (List.forall_mem_cons.mpr ⟨m2, (fun q hq => by cases hq)⟩)⟩)⟩)
  cases hh3

theorem mT_isName (o0 : Nat) (o1 : Nat) (h : H2) (vs : List mv_V) (h' : H2) (hh : fT_isName o0 o1 h = some (vs, h')) : mv_Met vw2 5 0 0 mdT_isName [Sum.inr (6, o0), Sum.inr (11, o1)] h vs h' :=
  mv_Met_of (by decide +kernel) (Nat.le_of_ble_eq_true rfl) (xT_isName o0 o1 h hh)
theorem cT_isName_ok : mv_Cal vw2 5 (mdT_isName, true) ((0, 0), cT_isName) := by
  intro as h k res hh
  change cT_isName as h k = some res at hh
  unfold cT_isName at hh
  split at hh
  · obtain ⟨hg0, ha0⟩ := mv_gd_some hh
    obtain rfl := Nat.eq_of_beq_eq_true hg0
    obtain ⟨hg1, ha1⟩ := mv_gd_some ha0
    obtain rfl := Nat.eq_of_beq_eq_true hg1
    obtain ⟨x, h', h1, h9⟩ := mv_rI_some ha1
    exact ⟨_, _, h9, (by first | decide | exact Nat.le_refl _ | exact Nat.zero_le _), fun _ => ⟨_, _, _, rfl, Or.inl ⟨by decide, rfl⟩⟩, (mT_isName _ _ h _ _ h1)⟩
  · cases hh

set_option maxRecDepth 100000 in
theorem kT_kindNamed : mv_tok mdT_kindNamed nT_kindNamed tT_kindNamed = true := by decide +kernel
set_option maxRecDepth 100000 in
set_option maxHeartbeats 1000000 in
theorem eT_kindNamed (o0 : Nat) (h : H2) : mv_blk rI2 rR2 ln2 wI2 wR2 nw2 cp2 bod none tT_kindNamed gT_kindNamed 0 0 [] (fun _ _ _ _ _ _ => none) 400 (mv_seek 0 tT_kindNamed) [(0, Sum.inr (6, o0))] [] h 0 0 = (
  mv_rI (fT_isName o0 7 h) fun r2 h1 =>
  if r2 = 0 then (
    mv_rI (fT_isName o0 8 h1) fun r4 h3 =>
    if r4 = 0 then (
      mv_rI (fT_isName o0 9 h3) fun r6 h5 =>
      if r6 = 0 then (
        mv_rI (fT_isName o0 10 h5) fun r8 h7 =>
        if r8 = 0 then (
          mv_rI (fT_isName o0 11 h7) fun r10 h9 =>
          if r10 = 0 then (
            mv_rI (fT_isName o0 12 h9) fun r12 h11 =>
            if r12 = 0 then (
              some ([Sum.inl (Value.int (-(nI 1)))], h11))
            else
            some ([Sum.inl (Value.int (nI 5))], h11))
          else
          some ([Sum.inl (Value.int (nI 4))], h9))
        else
        some ([Sum.inl (Value.int (nI 3))], h7))
      else
      some ([Sum.inl (Value.int (nI 2))], h5))
    else
    some ([Sum.inl (Value.int (nI 1))], h3))
  else
  some ([Sum.inl (Value.int (nI 0))], h1)) := rfl
theorem GT_kindNamed : ∀ (j : Nat) (C : mv_C H2) (md' : mv_MD × Bool), mv_nth j gT_kindNamed = some C → mv_nth j nT_kindNamed = some md' → ∃ n', n' + 1 ≤ 6 ∧ mv_Cal vw2 n' md' C := fun j C md' => match j with
  | 0 => fun h1 h2 => by
    obtain rfl := Option.some.inj h1
    obtain rfl := Option.some.inj h2
    exact ⟨5, by decide, cT_isName_ok⟩
  | jj + 1 => fun h1 _ => by cases jj <;> cases h1

set_option maxRecDepth 20000 in
theorem xT_kindNamed {g0 : mv_G} {res : List mv_V × H2} (o0 : Nat) (h : H2) (hh : fT_kindNamed o0 h = some res) : mv_X vw2 mdT_kindNamed 6 0 0 none g0 res 0 [(0, Sum.inr (6, o0))] [] h 0 0 := by
  refine mv_blkX ax2 (GT_kindNamed) (by decide) kT_kindNamed (fun pc lv st h ce sl hh => ?_) ((eT_kindNamed  o0 h).trans hh)
  cases hh

theorem mT_kindNamed (o0 : Nat) (h : H2) (vs : List mv_V) (h' : H2) (hh : fT_kindNamed o0 h = some (vs, h')) : mv_Met vw2 6 0 0 mdT_kindNamed [Sum.inr (6, o0)] h vs h' :=
  mv_Met_of (by decide +kernel) (Nat.le_of_ble_eq_true rfl) (xT_kindNamed o0 h hh)
theorem cT_kindNamed_ok : mv_Cal vw2 6 (mdT_kindNamed, true) ((0, 0), cT_kindNamed) := by
  intro as h k res hh
  change cT_kindNamed as h k = some res at hh
  unfold cT_kindNamed at hh
  split at hh
  · obtain ⟨hg0, ha0⟩ := mv_gd_some hh
    obtain rfl := Nat.eq_of_beq_eq_true hg0
    obtain ⟨x, h', h1, h9⟩ := mv_rI_some ha0
    exact ⟨_, _, h9, (by first | decide | exact Nat.le_refl _ | exact Nat.zero_le _), fun _ => ⟨_, _, _, rfl, Or.inl ⟨by decide, rfl⟩⟩, (mT_kindNamed _ h _ _ h1)⟩
  · cases hh

set_option maxRecDepth 100000 in
theorem kT_readNumber : mv_tok mdT_readNumber nT_readNumber tT_readNumber = true := by decide +kernel
set_option maxRecDepth 100000 in
set_option maxHeartbeats 1000000 in
theorem eT_readNumber (o0 : Nat) (v1 : Int32) (v2 : Int32) (h : H2) : mv_blk rI2 rR2 ln2 wI2 wR2 nw2 cp2 bod none tT_readNumber gT_readNumber 0 0 [] (fun _ _ _ _ _ _ => none) 400 (mv_seek 0 tT_readNumber) [(0, Sum.inr (6, o0)), (1, Sum.inl (Value.int v1)), (2, Sum.inl (Value.int v2))] [] h 0 0 = (
  mv_rV (fT_readWord o0 h) fun h1 =>
  if (rI2 h1 6 o0 4) = (nI 2) then (
    mv_rI (fV_isIn (rI2 h1 6 o0 5) v1 v2 h1) fun r3 h2 =>
    if r3 = 0 then (
      mv_gd (decide (nI 0 = nI 0) || decide (nI 0 = nI 1)) <| some ([Sum.inl (Value.int (nI 0))], h2))
    else
    mv_gd (decide (nI 1 = nI 0) || decide (nI 1 = nI 1)) <| some ([Sum.inl (Value.int (nI 1))], h2))
  else
  mv_gd (decide (nI 0 = nI 0) || decide (nI 0 = nI 1)) <| some ([Sum.inl (Value.int (nI 0))], h1)) := rfl
theorem GT_readNumber : ∀ (j : Nat) (C : mv_C H2) (md' : mv_MD × Bool), mv_nth j gT_readNumber = some C → mv_nth j nT_readNumber = some md' → ∃ n', n' + 1 ≤ 3 ∧ mv_Cal vw2 n' md' C := fun j C md' => match j with
  | 0 => fun h1 h2 => by
    obtain rfl := Option.some.inj h1
    obtain rfl := Option.some.inj h2
    exact ⟨2, by decide, cT_readWord_ok⟩
  | 1 => fun h1 h2 => by
    obtain rfl := Option.some.inj h1
    obtain rfl := Option.some.inj h2
    exact ⟨1, by decide, cV_isIn_ok⟩
  | jj + 2 => fun h1 _ => by cases jj <;> cases h1

set_option maxRecDepth 20000 in
theorem xT_readNumber {g0 : mv_G} {res : List mv_V × H2} (o0 : Nat) (v1 : Int32) (v2 : Int32) (h : H2) (hh : fT_readNumber o0 v1 v2 h = some res) : mv_X vw2 mdT_readNumber 3 0 0 none g0 res 0 [(0, Sum.inr (6, o0)), (1, Sum.inl (Value.int v1)), (2, Sum.inl (Value.int v2))] [] h 0 0 := by
  refine mv_blkX ax2 (GT_readNumber) (by decide) kT_readNumber (fun pc lv st h ce sl hh => ?_) ((eT_readNumber  o0 v1 v2 h).trans hh)
  cases hh

theorem mT_readNumber (o0 : Nat) (v1 : Int32) (v2 : Int32) (h : H2) (vs : List mv_V) (h' : H2) (hh : fT_readNumber o0 v1 v2 h = some (vs, h')) : mv_Met vw2 3 0 0 mdT_readNumber [Sum.inr (6, o0), Sum.inl (Value.int v1), Sum.inl (Value.int v2)] h vs h' :=
  mv_Met_of (by decide +kernel) (Nat.le_of_ble_eq_true rfl) (xT_readNumber o0 v1 v2 h hh)
theorem cT_readNumber_ok : mv_Cal vw2 3 (mdT_readNumber, true) ((0, 0), cT_readNumber) := by
  intro as h k res hh
  change cT_readNumber as h k = some res at hh
  unfold cT_readNumber at hh
  split at hh
  · obtain ⟨hg0, ha0⟩ := mv_gd_some hh
    obtain rfl := Nat.eq_of_beq_eq_true hg0
    obtain ⟨x, h', h1, h9⟩ := mv_rI_some ha0
    exact ⟨_, _, h9, (by first | decide | exact Nat.le_refl _ | exact Nat.zero_le _), fun _ => ⟨_, _, _, rfl, Or.inl ⟨by decide, rfl⟩⟩, (mT_readNumber _ _ _ h _ _ h1)⟩
  · cases hh

