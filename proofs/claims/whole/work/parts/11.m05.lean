set_option maxRecDepth 100000 in
theorem kF_hangJust : mv_tok mdF_hangJust nF_hangJust tF_hangJust = true := by decide +kernel
set_option maxRecDepth 100000 in
set_option maxHeartbeats 1000000 in
theorem eF_hangJust_b10 (q10 : Nat → Nat → Int32 → Int32 → H2 → O2) (o0 : Nat) (o1 : Nat) (v2 : Int32) (v3 : Int32) (h : H2) : mv_blk rI2 rR2 ln2 wI2 wR2 nw2 cp2 bod none tF_hangJust gF_hangJust 0 0 [10] (fun pc lv st h ce sl => mv_gd (Nat.beq ce 0 && Nat.beq sl 0) (cond (Nat.beq pc 10) (mv_gR 0 1 lv fun o0 => mv_gR 1 2 lv fun o1 => mv_gI 2 lv fun v2 => mv_gI 3 lv fun v3 => mv_sE st (q10 o0 o1 v2 v3 h)) (none))) 400 (mv_seek 10 tF_hangJust) [(0, Sum.inr (1, o0)), (1, Sum.inr (2, o1)), (2, Sum.inl (Value.int v2)), (3, Sum.inl (Value.int v3))] [] h 0 0 = (
  if (rI2 h 2 o1 9) ≤ v3 then (
    some ([], h))
  else
  mv_gd (mv_inb v3 8) <|
  mv_bh (wI2 h 307 3 v3.toNatClampNeg ((v2 >>> (v3 &&& 31)) &&& (nI 1))) fun h1 =>
  mv_bi (v3 + (nI 1)) fun x2 =>
  q10 o0 o1 v2 x2 h1) := rfl
set_option maxRecDepth 100000 in
set_option maxHeartbeats 1000000 in
theorem eF_hangJust (q10 : Nat → Nat → Int32 → Int32 → H2 → O2) (o0 : Nat) (o1 : Nat) (v2 : Int32) (h : H2) : mv_blk rI2 rR2 ln2 wI2 wR2 nw2 cp2 bod none tF_hangJust gF_hangJust 0 0 [10] (fun pc lv st h ce sl => mv_gd (Nat.beq ce 0 && Nat.beq sl 0) (cond (Nat.beq pc 10) (mv_gR 0 1 lv fun o0 => mv_gR 1 2 lv fun o1 => mv_gI 2 lv fun v2 => mv_gI 3 lv fun v3 => mv_sE st (q10 o0 o1 v2 v3 h)) (none))) 400 (mv_seek 0 tF_hangJust) [(0, Sum.inr (1, o0)), (1, Sum.inr (2, o1)), (2, Sum.inl (Value.int v2))] [] h 0 0 = (
  mv_rV (fM_copyFrom 3 o1 h) fun h1 =>
  mv_bi (nI 0) fun x2 =>
  q10 o0 o1 v2 x2 h1) := rfl
theorem GF_hangJust : ∀ (j : Nat) (C : mv_C H2) (md' : mv_MD × Bool), mv_nth j gF_hangJust = some C → mv_nth j nF_hangJust = some md' → ∃ n', n' + 1 ≤ 2 ∧ mv_Cal vw2 n' md' C := fun j C md' => match j with
  | 0 => fun h1 h2 => by
    obtain rfl := Option.some.inj h1
    obtain rfl := Option.some.inj h2
    exact ⟨1, by decide, cM_copyFrom_ok⟩
  | jj + 1 => fun h1 _ => by cases jj <;> cases h1

set_option maxRecDepth 20000 in
theorem xF_hangJust_b10 {g0 : mv_G} {res : List mv_V × H2} : ∀ (n : Nat) (o0 : Nat) (o1 : Nat) (v2 : Int32) (v3 : Int32) (h : H2), fF_hangJust_b10 n o0 o1 v2 v3 h = some res → mv_X vw2 mdF_hangJust 2 0 0 none g0 res 10 [(0, Sum.inr (1, o0)), (1, Sum.inr (2, o1)), (2, Sum.inl (Value.int v2)), (3, Sum.inl (Value.int v3))] [] h 0 0 := by
  intro n
  induction n with
  | zero => intro o0 o1 v2 v3 h hh; cases hh
  | succ n ih =>
    intro o0 o1 v2 v3 h hh
    refine mv_blkX ax2 (GF_hangJust) (by decide) kF_hangJust (fun pc lv st h ce sl hh => ?_) ((eF_hangJust_b10 (fF_hangJust_b10 n) o0 o1 v2 v3 h).trans hh)
    obtain ⟨hg, hh1⟩ := mv_gd_some hh
    obtain ⟨rfl, rfl⟩ := mv_z2 hg
    rcases mv_cond_some hh1 with ⟨hb, hh2⟩ | ⟨hb, hh3⟩
    · obtain rfl := Nat.eq_of_beq_eq_true hb
      obtain ⟨o0, m0, hh4⟩ := mv_gR_some hh2
      obtain ⟨o1, m1, hh5⟩ := mv_gR_some hh4
      obtain ⟨v2, m2, hh6⟩ := mv_gI_some hh5
      obtain ⟨v3, m3, hh7⟩ := mv_gI_some hh6
      obtain ⟨rfl, hh8⟩ := mv_sE_some hh7
      exact (ih o0 o1 v2 v3 h hh8).sub (List.forall_mem_cons.mpr ⟨m0, (List.forall_mem_cons.mpr ⟨m1, (List.forall_mem_cons.mpr ⟨m2, (List.forall_mem_cons.mpr ⟨m3, (fun q hq => by cases hq)⟩)⟩)⟩)⟩)
    cases hh3

set_option maxRecDepth 20000 in
theorem xF_hangJust {g0 : mv_G} {res : List mv_V × H2} (o0 : Nat) (o1 : Nat) (v2 : Int32) (h : H2) (hh : fF_hangJust o0 o1 v2 h = some res) : mv_X vw2 mdF_hangJust 2 0 0 none g0 res 0 [(0, Sum.inr (1, o0)), (1, Sum.inr (2, o1)), (2, Sum.inl (Value.int v2))] [] h 0 0 := by
  refine mv_blkX ax2 (GF_hangJust) (by decide) kF_hangJust (fun pc lv st h ce sl hh => ?_) ((eF_hangJust (fF_hangJust_b10 1000) o0 o1 v2 h).trans hh)
  obtain ⟨hg, hh1⟩ := mv_gd_some hh
  obtain ⟨rfl, rfl⟩ := mv_z2 hg
  rcases mv_cond_some hh1 with ⟨hb, hh2⟩ | ⟨hb, hh3⟩
  · obtain rfl := Nat.eq_of_beq_eq_true hb
    obtain ⟨o0, m0, hh4⟩ := mv_gR_some hh2
    obtain ⟨o1, m1, hh5⟩ := mv_gR_some hh4
    obtain ⟨v2, m2, hh6⟩ := mv_gI_some hh5
    obtain ⟨v3, m3, hh7⟩ := mv_gI_some hh6
    obtain ⟨rfl, hh8⟩ := mv_sE_some hh7
    exact (xF_hangJust_b10 1000 o0 o1 v2 v3 h hh8).sub (List.forall_mem_cons.mpr ⟨m0, (List.forall_mem_cons.mpr ⟨m1, (List.forall_mem_cons.mpr ⟨m2, (List.forall_mem_cons.mpr ⟨m3, (fun q hq => by cases hq)⟩)⟩)⟩)⟩)
  cases hh3

theorem mF_hangJust (o0 : Nat) (o1 : Nat) (v2 : Int32) (h : H2) (vs : List mv_V) (h' : H2) (hh : fF_hangJust o0 o1 v2 h = some (vs, h')) : mv_Met vw2 2 0 0 mdF_hangJust [Sum.inr (1, o0), Sum.inr (2, o1), Sum.inl (Value.int v2)] h vs h' :=
  mv_Met_of (by decide +kernel) (Nat.le_of_ble_eq_true rfl) (xF_hangJust o0 o1 v2 h hh)
theorem cF_hangJust_ok : mv_Cal vw2 2 (mdF_hangJust, true) ((0, 0), cF_hangJust) := by
  intro as h k res hh
  change cF_hangJust as h k = some res at hh
  unfold cF_hangJust at hh
  split at hh
  · obtain ⟨hg0, ha0⟩ := mv_gd_some hh
    obtain rfl := Nat.eq_of_beq_eq_true hg0
    obtain ⟨hg1, ha1⟩ := mv_gd_some ha0
    obtain rfl := Nat.eq_of_beq_eq_true hg1
    obtain ⟨h', h1, h9⟩ := mv_rV_some ha1
    exact ⟨_, _, h9, (by first | decide | exact Nat.le_refl _ | exact Nat.zero_le _), fun _ => ⟨_, _, _, rfl, Or.inl ⟨by decide, rfl⟩⟩, (mF_hangJust _ _ _ h _ _ h1)⟩
  · cases hh

set_option maxRecDepth 100000 in
theorem kF_fewestHung : mv_tok mdF_fewestHung nF_fewestHung tF_fewestHung = true := by decide +kernel
set_option maxRecDepth 100000 in
set_option maxHeartbeats 1000000 in
theorem eF_fewestHung_b23 (q11 : Nat → Nat → Int32 → Int32 → Int32 → Int32 → H2 → O2) (q23 : Nat → Nat → Int32 → Int32 → Int32 → Int32 → Int32 → H2 → O2) (o0 : Nat) (o1 : Nat) (v2 : Int32) (v3 : Int32) (v4 : Int32) (v5 : Int32) (v6 : Int32) (h : H2) : mv_blk rI2 rR2 ln2 wI2 wR2 nw2 cp2 bod none tF_fewestHung gF_fewestHung 0 0 [11, 23] (fun pc lv st h ce sl => mv_gd (Nat.beq ce 0 && Nat.beq sl 0) (cond (Nat.beq pc 11) (mv_gR 0 1 lv fun o0 => mv_gR 1 2 lv fun o1 => mv_gI 2 lv fun v2 => mv_gI 3 lv fun v3 => mv_gI 4 lv fun v4 => mv_gI 5 lv fun v5 => mv_sE st (q11 o0 o1 v2 v3 v4 v5 h)) (cond (Nat.beq pc 23) (mv_gR 0 1 lv fun o0 => mv_gR 1 2 lv fun o1 => mv_gI 2 lv fun v2 => mv_gI 3 lv fun v3 => mv_gI 4 lv fun v4 => mv_gI 5 lv fun v5 => mv_gI 6 lv fun v6 => mv_sE st (q23 o0 o1 v2 v3 v4 v5 v6 h)) (none)))) 400 (mv_seek 23 tF_fewestHung) [(0, Sum.inr (1, o0)), (1, Sum.inr (2, o1)), (2, Sum.inl (Value.int v2)), (3, Sum.inl (Value.int v3)), (4, Sum.inl (Value.int v4)), (5, Sum.inl (Value.int v5)), (6, Sum.inl (Value.int v6))] [] h 0 0 = (
  if v4 ≤ v6 then (
    mv_bi (v5 + (nI 1)) fun x1 =>
    q11 o0 o1 v2 v3 v4 x1 h)
  else
  mv_rI (fJ_bitCount_0f7a4 v6 h) fun r3 h2 =>
  if r3 = v5 then (
    mv_rV (fF_hangJust o0 o1 v6 h2) fun h4 =>
    mv_rI (fF_spoiltFromHere o0 o1 v2 h4) fun r6 h5 =>
    if v3 < r6 then (
      mv_bi (v6 + (nI 1)) fun x7 =>
      q23 o0 o1 v2 v3 v4 v5 x7 h5)
    else
    some ([Sum.inl (Value.int v6)], h5))
  else
  mv_bi (v6 + (nI 1)) fun x8 =>
  q23 o0 o1 v2 v3 v4 v5 x8 h2) := rfl
set_option maxRecDepth 100000 in
set_option maxHeartbeats 1000000 in
theorem eF_fewestHung_b11 (q23 : Nat → Nat → Int32 → Int32 → Int32 → Int32 → Int32 → H2 → O2) (o0 : Nat) (o1 : Nat) (v2 : Int32) (v3 : Int32) (v4 : Int32) (v5 : Int32) (h : H2) : mv_blk rI2 rR2 ln2 wI2 wR2 nw2 cp2 bod none tF_fewestHung gF_fewestHung 0 0 [23] (fun pc lv st h ce sl => mv_gd (Nat.beq ce 0 && Nat.beq sl 0) (cond (Nat.beq pc 23) (mv_gR 0 1 lv fun o0 => mv_gR 1 2 lv fun o1 => mv_gI 2 lv fun v2 => mv_gI 3 lv fun v3 => mv_gI 4 lv fun v4 => mv_gI 5 lv fun v5 => mv_gI 6 lv fun v6 => mv_sE st (q23 o0 o1 v2 v3 v4 v5 v6 h)) (none))) 400 (mv_seek 11 tF_fewestHung) [(0, Sum.inr (1, o0)), (1, Sum.inr (2, o1)), (2, Sum.inl (Value.int v2)), (3, Sum.inl (Value.int v3)), (4, Sum.inl (Value.int v4)), (5, Sum.inl (Value.int v5))] [] h 0 0 = (
  if (rI2 h 2 o1 9) < v5 then (
    some ([Sum.inl (Value.int (-(nI 3)))], h))
  else
  mv_bi (nI 0) fun x1 =>
  q23 o0 o1 v2 v3 v4 v5 x1 h) := rfl
set_option maxRecDepth 100000 in
set_option maxHeartbeats 1000000 in
theorem eF_fewestHung (q11 : Nat → Nat → Int32 → Int32 → Int32 → Int32 → H2 → O2) (o0 : Nat) (o1 : Nat) (v2 : Int32) (v3 : Int32) (h : H2) : mv_blk rI2 rR2 ln2 wI2 wR2 nw2 cp2 bod none tF_fewestHung gF_fewestHung 0 0 [11] (fun pc lv st h ce sl => mv_gd (Nat.beq ce 0 && Nat.beq sl 0) (cond (Nat.beq pc 11) (mv_gR 0 1 lv fun o0 => mv_gR 1 2 lv fun o1 => mv_gI 2 lv fun v2 => mv_gI 3 lv fun v3 => mv_gI 4 lv fun v4 => mv_gI 5 lv fun v5 => mv_sE st (q11 o0 o1 v2 v3 v4 v5 h)) (none))) 400 (mv_seek 0 tF_fewestHung) [(0, Sum.inr (1, o0)), (1, Sum.inr (2, o1)), (2, Sum.inl (Value.int v2)), (3, Sum.inl (Value.int v3))] [] h 0 0 = (
  mv_bi ((nI 1) <<< ((rI2 h 2 o1 9) &&& 31)) fun x1 =>
  mv_bi (nI 0) fun x2 =>
  q11 o0 o1 v2 v3 x1 x2 h) := rfl
theorem GF_fewestHung : ∀ (j : Nat) (C : mv_C H2) (md' : mv_MD × Bool), mv_nth j gF_fewestHung = some C → mv_nth j nF_fewestHung = some md' → ∃ n', n' + 1 ≤ 6 ∧ mv_Cal vw2 n' md' C := fun j C md' => match j with
  | 0 => fun h1 h2 => by
    obtain rfl := Option.some.inj h1
    obtain rfl := Option.some.inj h2
    exact ⟨1, by decide, cJ_bitCount_0f7a4_ok⟩
  | 1 => fun h1 h2 => by
    obtain rfl := Option.some.inj h1
    obtain rfl := Option.some.inj h2
    exact ⟨2, by decide, cF_hangJust_ok⟩
  | 2 => fun h1 h2 => by
    obtain rfl := Option.some.inj h1
    obtain rfl := Option.some.inj h2
    exact ⟨5, by decide, cF_spoiltFromHere_ok⟩
  | jj + 3 => fun h1 _ => by cases jj <;> cases h1

set_option maxRecDepth 20000 in
theorem xF_fewestHung_b23 {g0 : mv_G} {res : List mv_V × H2} {k11 : Nat → Nat → Int32 → Int32 → Int32 → Int32 → H2 → O2} (hk11 : ∀ (o0 : Nat) (o1 : Nat) (v2 : Int32) (v3 : Int32) (v4 : Int32) (v5 : Int32) h, k11 o0 o1 v2 v3 v4 v5 h = some res → mv_X vw2 mdF_fewestHung 6 0 0 none g0 res 11 [(0, Sum.inr (1, o0)), (1, Sum.inr (2, o1)), (2, Sum.inl (Value.int v2)), (3, Sum.inl (Value.int v3)), (4, Sum.inl (Value.int v4)), (5, Sum.inl (Value.int v5))] [] h 0 0) : ∀ (n : Nat) (o0 : Nat) (o1 : Nat) (v2 : Int32) (v3 : Int32) (v4 : Int32) (v5 : Int32) (v6 : Int32) (h : H2), fF_fewestHung_b23 k11 n o0 o1 v2 v3 v4 v5 v6 h = some res → mv_X vw2 mdF_fewestHung 6 0 0 none g0 res 23 [(0, Sum.inr (1, o0)), (1, Sum.inr (2, o1)), (2, Sum.inl (Value.int v2)), (3, Sum.inl (Value.int v3)), (4, Sum.inl (Value.int v4)), (5, Sum.inl (Value.int v5)), (6, Sum.inl (Value.int v6))] [] h 0 0 := by
  intro n
  induction n with
  | zero => intro o0 o1 v2 v3 v4 v5 v6 h hh; cases hh
  | succ n ih =>
    intro o0 o1 v2 v3 v4 v5 v6 h hh
    refine mv_blkX ax2 (GF_fewestHung) (by decide) kF_fewestHung (fun pc lv st h ce sl hh => ?_) ((eF_fewestHung_b23 (k11) (fF_fewestHung_b23 k11 n) o0 o1 v2 v3 v4 v5 v6 h).trans hh)
    obtain ⟨hg, hh1⟩ := mv_gd_some hh
    obtain ⟨rfl, rfl⟩ := mv_z2 hg
    rcases mv_cond_some hh1 with ⟨hb, hh2⟩ | ⟨hb, hh3⟩
    · obtain rfl := Nat.eq_of_beq_eq_true hb
      obtain ⟨o0, m0, hh4⟩ := mv_gR_some hh2
      obtain ⟨o1, m1, hh5⟩ := mv_gR_some hh4
      obtain ⟨v2, m2, hh6⟩ := mv_gI_some hh5
      obtain ⟨v3, m3, hh7⟩ := mv_gI_some hh6
      obtain ⟨v4, m4, hh8⟩ := mv_gI_some hh7
      obtain ⟨v5, m5, hh9⟩ := mv_gI_some hh8
      obtain ⟨rfl, hh10⟩ := mv_sE_some hh9
      exact (hk11 o0 o1 v2 v3 v4 v5 h hh10).sub (List.forall_mem_cons.mpr ⟨m0, (List.forall_mem_cons.mpr ⟨m1, (List.forall_mem_cons.mpr ⟨m2, (List.forall_mem_cons.mpr ⟨m3, (List.forall_mem_cons.mpr ⟨m4, (List.forall_mem_cons.mpr ⟨m5, (fun q hq => by cases hq)⟩)⟩)⟩)⟩)⟩)⟩)
    rcases mv_cond_some hh3 with ⟨hb, hh11⟩ | ⟨hb, hh12⟩
    · obtain rfl := Nat.eq_of_beq_eq_true hb
      obtain ⟨o0, m0, hh13⟩ := mv_gR_some hh11
      obtain ⟨o1, m1, hh14⟩ := mv_gR_some hh13
      obtain ⟨v2, m2, hh15⟩ := mv_gI_some hh14
      obtain ⟨v3, m3, hh16⟩ := mv_gI_some hh15
      obtain ⟨v4, m4, hh17⟩ := mv_gI_some hh16
      obtain ⟨v5, m5, hh18⟩ := mv_gI_some hh17
      obtain ⟨v6, m6, hh19⟩ := mv_gI_some hh18
      obtain ⟨rfl, hh20⟩ := mv_sE_some hh19
      exact (ih o0 o1 v2 v3 v4 v5 v6 h hh20).sub (List.forall_mem_cons.mpr ⟨m0, (List.forall_mem_cons.mpr ⟨m1, (List.forall_mem_cons.mpr ⟨m2, (List.forall_mem_cons.mpr ⟨m3, (List.forall_mem_cons.mpr ⟨m4, (List.forall_mem_cons.mpr ⟨m5, (List.forall_mem_cons.mpr ⟨m6, (fun q hq => by cases hq)⟩)⟩)⟩)⟩)⟩)⟩)⟩)
    cases hh12

set_option maxRecDepth 20000 in
theorem xF_fewestHung_b11 {g0 : mv_G} {res : List mv_V × H2} : ∀ (n : Nat) (o0 : Nat) (o1 : Nat) (v2 : Int32) (v3 : Int32) (v4 : Int32) (v5 : Int32) (h : H2), fF_fewestHung_b11 n o0 o1 v2 v3 v4 v5 h = some res → mv_X vw2 mdF_fewestHung 6 0 0 none g0 res 11 [(0, Sum.inr (1, o0)), (1, Sum.inr (2, o1)), (2, Sum.inl (Value.int v2)), (3, Sum.inl (Value.int v3)), (4, Sum.inl (Value.int v4)), (5, Sum.inl (Value.int v5))] [] h 0 0 := by
  intro n
  induction n with
  | zero => intro o0 o1 v2 v3 v4 v5 h hh; cases hh
  | succ n ih =>
    intro o0 o1 v2 v3 v4 v5 h hh
    refine mv_blkX ax2 (GF_fewestHung) (by decide) kF_fewestHung (fun pc lv st h ce sl hh => ?_) ((eF_fewestHung_b11 (fF_fewestHung_b23 (fF_fewestHung_b11 n) 1000) o0 o1 v2 v3 v4 v5 h).trans hh)
    obtain ⟨hg, hh1⟩ := mv_gd_some hh
    obtain ⟨rfl, rfl⟩ := mv_z2 hg
    rcases mv_cond_some hh1 with ⟨hb, hh2⟩ | ⟨hb, hh3⟩
    · obtain rfl := Nat.eq_of_beq_eq_true hb
      obtain ⟨o0, m0, hh4⟩ := mv_gR_some hh2
      obtain ⟨o1, m1, hh5⟩ := mv_gR_some hh4
      obtain ⟨v2, m2, hh6⟩ := mv_gI_some hh5
      obtain ⟨v3, m3, hh7⟩ := mv_gI_some hh6
      obtain ⟨v4, m4, hh8⟩ := mv_gI_some hh7
      obtain ⟨v5, m5, hh9⟩ := mv_gI_some hh8
      obtain ⟨v6, m6, hh10⟩ := mv_gI_some hh9
      obtain ⟨rfl, hh11⟩ := mv_sE_some hh10
      exact (xF_fewestHung_b23 ih 1000 o0 o1 v2 v3 v4 v5 v6 h hh11).sub (List.forall_mem_cons.mpr ⟨m0, (List.forall_mem_cons.mpr ⟨m1, (List.forall_mem_cons.mpr ⟨m2, (List.forall_mem_cons.mpr ⟨m3, (List.forall_mem_cons.mpr ⟨m4, (List.forall_mem_cons.mpr ⟨m5, (List.forall_mem_cons.mpr ⟨m6, (fun q hq => by cases hq)⟩)⟩)⟩)⟩)⟩)⟩)⟩)
    cases hh3

set_option maxRecDepth 20000 in
theorem xF_fewestHung {g0 : mv_G} {res : List mv_V × H2} (o0 : Nat) (o1 : Nat) (v2 : Int32) (v3 : Int32) (h : H2) (hh : fF_fewestHung o0 o1 v2 v3 h = some res) : mv_X vw2 mdF_fewestHung 6 0 0 none g0 res 0 [(0, Sum.inr (1, o0)), (1, Sum.inr (2, o1)), (2, Sum.inl (Value.int v2)), (3, Sum.inl (Value.int v3))] [] h 0 0 := by
  refine mv_blkX ax2 (GF_fewestHung) (by decide) kF_fewestHung (fun pc lv st h ce sl hh => ?_) ((eF_fewestHung (fF_fewestHung_b11 1000) o0 o1 v2 v3 h).trans hh)
  obtain ⟨hg, hh1⟩ := mv_gd_some hh
  obtain ⟨rfl, rfl⟩ := mv_z2 hg
  rcases mv_cond_some hh1 with ⟨hb, hh2⟩ | ⟨hb, hh3⟩
  · obtain rfl := Nat.eq_of_beq_eq_true hb
    obtain ⟨o0, m0, hh4⟩ := mv_gR_some hh2
    obtain ⟨o1, m1, hh5⟩ := mv_gR_some hh4
    obtain ⟨v2, m2, hh6⟩ := mv_gI_some hh5
    obtain ⟨v3, m3, hh7⟩ := mv_gI_some hh6
    obtain ⟨v4, m4, hh8⟩ := mv_gI_some hh7
    obtain ⟨v5, m5, hh9⟩ := mv_gI_some hh8
    obtain ⟨rfl, hh10⟩ := mv_sE_some hh9
    exact (xF_fewestHung_b11 1000 o0 o1 v2 v3 v4 v5 h hh10).sub (List.forall_mem_cons.mpr ⟨m0, (List.forall_mem_cons.mpr ⟨m1, (List.forall_mem_cons.mpr ⟨m2, (List.forall_mem_cons.mpr ⟨m3, (List.forall_mem_cons.mpr ⟨m4, (List.forall_mem_cons.mpr ⟨m5, (fun q hq => by cases hq)⟩)⟩)⟩)⟩)⟩)⟩)
  cases hh3

theorem mF_fewestHung (o0 : Nat) (o1 : Nat) (v2 : Int32) (v3 : Int32) (h : H2) (vs : List mv_V) (h' : H2) (hh : fF_fewestHung o0 o1 v2 v3 h = some (vs, h')) : mv_Met vw2 6 0 0 mdF_fewestHung [Sum.inr (1, o0), Sum.inr (2, o1), Sum.inl (Value.int v2), Sum.inl (Value.int v3)] h vs h' :=
  mv_Met_of (by decide +kernel) (Nat.le_of_ble_eq_true rfl) (xF_fewestHung o0 o1 v2 v3 h hh)
theorem cF_fewestHung_ok : mv_Cal vw2 6 (mdF_fewestHung, true) ((0, 0), cF_fewestHung) := by
  intro as h k res hh
  change cF_fewestHung as h k = some res at hh
  unfold cF_fewestHung at hh
  split at hh
  · obtain ⟨hg0, ha0⟩ := mv_gd_some hh
    obtain rfl := Nat.eq_of_beq_eq_true hg0
    obtain ⟨hg1, ha1⟩ := mv_gd_some ha0
    obtain rfl := Nat.eq_of_beq_eq_true hg1
    obtain ⟨x, h', h1, h9⟩ := mv_rI_some ha1
    exact ⟨_, _, h9, (by first | decide | exact Nat.le_refl _ | exact Nat.zero_le _), fun _ => ⟨_, _, _, rfl, Or.inl ⟨by decide, rfl⟩⟩, (mF_fewestHung _ _ _ _ h _ _ h1)⟩
  · cases hh

set_option maxRecDepth 100000 in
theorem kS_size : mv_tok mdS_size nS_size tS_size = true := by decide +kernel
set_option maxRecDepth 100000 in
set_option maxHeartbeats 1000000 in
theorem eS_size (o0 : Nat) (h : H2) : mv_blk rI2 rR2 ln2 wI2 wR2 nw2 cp2 bod none tS_size gS_size 0 0 [] (fun _ _ _ _ _ _ => none) 400 (mv_seek 0 tS_size) [(0, Sum.inr (4, o0))] [] h 0 0 = (
  mv_el (itm2 h o0) (
    none) fun r1 =>
  some ([Sum.inl (Value.int (nI (ln2 h 501 r1)))], h)) := rfl
theorem GS_size : ∀ (j : Nat) (C : mv_C H2) (md' : mv_MD × Bool), mv_nth j gS_size = some C → mv_nth j nS_size = some md' → ∃ n', n' + 1 ≤ 1 ∧ mv_Cal vw2 n' md' C := fun j C md' h1 _ => by cases j <;> cases h1

set_option maxRecDepth 20000 in
theorem xS_size {g0 : mv_G} {res : List mv_V × H2} (o0 : Nat) (h : H2) (hh : fS_size o0 h = some res) : mv_X vw2 mdS_size 1 0 0 none g0 res 0 [(0, Sum.inr (4, o0))] [] h 0 0 := by
  refine mv_blkX ax2 (GS_size) (by decide) kS_size (fun pc lv st h ce sl hh => ?_) ((eS_size  o0 h).trans hh)
  cases hh

theorem mS_size (o0 : Nat) (h : H2) (vs : List mv_V) (h' : H2) (hh : fS_size o0 h = some (vs, h')) : mv_Met vw2 1 0 0 mdS_size [Sum.inr (4, o0)] h vs h' :=
  mv_Met_of (by decide +kernel) (Nat.le_of_ble_eq_true rfl) (xS_size o0 h hh)
theorem cS_size_ok : mv_Cal vw2 1 (mdS_size, true) ((0, 0), cS_size) := by
  intro as h k res hh
  change cS_size as h k = some res at hh
  unfold cS_size at hh
  split at hh
  · obtain ⟨hg0, ha0⟩ := mv_gd_some hh
    obtain rfl := Nat.eq_of_beq_eq_true hg0
    obtain ⟨x, h', h1, h9⟩ := mv_rI_some ha0
    exact ⟨_, _, h9, (by first | decide | exact Nat.le_refl _ | exact Nat.zero_le _), fun _ => ⟨_, _, _, rfl, Or.inl ⟨by decide, rfl⟩⟩, (mS_size _ h _ _ h1)⟩
  · cases hh

set_option maxRecDepth 100000 in
theorem kS_read : mv_tok mdS_read nS_read tS_read = true := by decide +kernel
set_option maxRecDepth 100000 in
set_option maxHeartbeats 1000000 in
theorem eS_read (o0 : Nat) (v1 : Int32) (h : H2) : mv_blk rI2 rR2 ln2 wI2 wR2 nw2 cp2 bod none tS_read gS_read 0 0 [] (fun _ _ _ _ _ _ => none) 400 (mv_seek 0 tS_read) [(0, Sum.inr (4, o0)), (1, Sum.inl (Value.int v1))] [] h 0 0 = (
  mv_el (itm2 h o0) (
    none) fun r1 =>
  mv_gd (mv_inb v1 (ln2 h 501 r1)) <|
  some ([Sum.inl (Value.int (rI2 h 501 r1 v1.toNatClampNeg))], h)) := rfl
theorem GS_read : ∀ (j : Nat) (C : mv_C H2) (md' : mv_MD × Bool), mv_nth j gS_read = some C → mv_nth j nS_read = some md' → ∃ n', n' + 1 ≤ 1 ∧ mv_Cal vw2 n' md' C := fun j C md' h1 _ => by cases j <;> cases h1

set_option maxRecDepth 20000 in
theorem xS_read {g0 : mv_G} {res : List mv_V × H2} (o0 : Nat) (v1 : Int32) (h : H2) (hh : fS_read o0 v1 h = some res) : mv_X vw2 mdS_read 1 0 0 none g0 res 0 [(0, Sum.inr (4, o0)), (1, Sum.inl (Value.int v1))] [] h 0 0 := by
  refine mv_blkX ax2 (GS_read) (by decide) kS_read (fun pc lv st h ce sl hh => ?_) ((eS_read  o0 v1 h).trans hh)
  cases hh

theorem mS_read (o0 : Nat) (v1 : Int32) (h : H2) (vs : List mv_V) (h' : H2) (hh : fS_read o0 v1 h = some (vs, h')) : mv_Met vw2 1 0 0 mdS_read [Sum.inr (4, o0), Sum.inl (Value.int v1)] h vs h' :=
  mv_Met_of (by decide +kernel) (Nat.le_of_ble_eq_true rfl) (xS_read o0 v1 h hh)
theorem cS_read_ok : mv_Cal vw2 1 (mdS_read, true) ((0, 0), cS_read) := by
  intro as h k res hh
  change cS_read as h k = some res at hh
  unfold cS_read at hh
  split at hh
  · obtain ⟨hg0, ha0⟩ := mv_gd_some hh
    obtain rfl := Nat.eq_of_beq_eq_true hg0
    obtain ⟨x, h', h1, h9⟩ := mv_rI_some ha0
    exact ⟨_, _, h9, (by first | decide | exact Nat.le_refl _ | exact Nat.zero_le _), fun _ => ⟨_, _, _, rfl, Or.inl ⟨by decide, rfl⟩⟩, (mS_read _ _ h _ _ h1)⟩
  · cases hh

set_option maxRecDepth 100000 in
theorem kF_fitsAs : mv_tok mdF_fitsAs nF_fitsAs tF_fitsAs = true := by decide +kernel
set_option maxRecDepth 100000 in
set_option maxHeartbeats 1000000 in
theorem eF_fitsAs_b28 (q28 : Nat → Int32 → Nat → Int32 → Int32 → H2 → O2) (o0 : Nat) (v2 : Int32) (o4 : Nat) (v5 : Int32) (v6 : Int32) (h : H2) : mv_blk rI2 rR2 ln2 wI2 wR2 nw2 cp2 bod none tF_fitsAs gF_fitsAs 0 0 [28] (fun pc lv st h ce sl => mv_gd (Nat.beq ce 0 && Nat.beq sl 0) (cond (Nat.beq pc 28) (mv_gR 0 1 lv fun o0 => mv_gI 2 lv fun v2 => mv_gR 4 4 lv fun o4 => mv_gI 5 lv fun v5 => mv_gI 6 lv fun v6 => mv_sE st (q28 o0 v2 o4 v5 v6 h)) (none))) 400 (mv_seek 28 tF_fitsAs) [(0, Sum.inr (1, o0)), (2, Sum.inl (Value.int v2)), (4, Sum.inr (4, o4)), (5, Sum.inl (Value.int v5)), (6, Sum.inl (Value.int v6))] [] h 0 0 = (
  if v5 ≤ v6 then (
    mv_gd (decide (nI 1 = nI 0) || decide (nI 1 = nI 1)) <| some ([Sum.inl (Value.int (nI 1))], h))
  else
  mv_rV (fM_passDay 3 h) fun h1 =>
  mv_rI (fS_read o4 v6 h1) fun r3 h2 =>
  mv_bi r3 fun x4 =>
  if x4 = (-(nI 1)) then (
    mv_bi (v6 + (nI 1)) fun x5 =>
    q28 o0 v2 o4 v5 x5 h2)
  else
  mv_gd (mv_inb v2 8) <|
  if x4 = (rI2 h2 306 3 v2.toNatClampNeg) then (
    mv_bi (v6 + (nI 1)) fun x6 =>
    q28 o0 v2 o4 v5 x6 h2)
  else
  mv_gd (decide (nI 0 = nI 0) || decide (nI 0 = nI 1)) <| some ([Sum.inl (Value.int (nI 0))], h2)) := rfl
set_option maxRecDepth 100000 in
set_option maxHeartbeats 1000000 in
theorem eF_fitsAs (q28 : Nat → Int32 → Nat → Int32 → Int32 → H2 → O2) (o0 : Nat) (o1 : Nat) (v2 : Int32) (v3 : Int32) (o4 : Nat) (h : H2) : mv_blk rI2 rR2 ln2 wI2 wR2 nw2 cp2 bod none tF_fitsAs gF_fitsAs 0 0 [28] (fun pc lv st h ce sl => mv_gd (Nat.beq ce 0 && Nat.beq sl 0) (cond (Nat.beq pc 28) (mv_gR 0 1 lv fun o0 => mv_gI 2 lv fun v2 => mv_gR 4 4 lv fun o4 => mv_gI 5 lv fun v5 => mv_gI 6 lv fun v6 => mv_sE st (q28 o0 v2 o4 v5 v6 h)) (none))) 400 (mv_seek 0 tF_fitsAs) [(0, Sum.inr (1, o0)), (1, Sum.inr (2, o1)), (2, Sum.inl (Value.int v2)), (3, Sum.inl (Value.int v3)), (4, Sum.inr (4, o4))] [] h 0 0 = (
  mv_rV (fM_copyFrom 3 o1 h) fun h1 =>
  mv_gd (mv_inb v2 8) <|
  mv_bh (wI2 h1 305 3 v2.toNatClampNeg v3) fun h2 =>
  mv_rI (fS_size o4 h2) fun r4 h3 =>
  mv_bi r4 fun x5 =>
  mv_bi (nI 0) fun x6 =>
  q28 o0 v2 o4 x5 x6 h3) := rfl
theorem GF_fitsAs : ∀ (j : Nat) (C : mv_C H2) (md' : mv_MD × Bool), mv_nth j gF_fitsAs = some C → mv_nth j nF_fitsAs = some md' → ∃ n', n' + 1 ≤ 4 ∧ mv_Cal vw2 n' md' C := fun j C md' => match j with
  | 0 => fun h1 h2 => by
    obtain rfl := Option.some.inj h1
    obtain rfl := Option.some.inj h2
    exact ⟨1, by decide, cM_copyFrom_ok⟩
  | 1 => fun h1 h2 => by
    obtain rfl := Option.some.inj h1
    obtain rfl := Option.some.inj h2
    exact ⟨1, by decide, cS_size_ok⟩
  | 2 => fun h1 h2 => by
    obtain rfl := Option.some.inj h1
    obtain rfl := Option.some.inj h2
    exact ⟨3, by decide, cM_passDay_ok⟩
  | 3 => fun h1 h2 => by
    obtain rfl := Option.some.inj h1
    obtain rfl := Option.some.inj h2
    exact ⟨1, by decide, cS_read_ok⟩
  | jj + 4 => fun h1 _ => by cases jj <;> cases h1

set_option maxRecDepth 20000 in
theorem xF_fitsAs_b28 {g0 : mv_G} {res : List mv_V × H2} : ∀ (n : Nat) (o0 : Nat) (v2 : Int32) (o4 : Nat) (v5 : Int32) (v6 : Int32) (h : H2), fF_fitsAs_b28 n o0 v2 o4 v5 v6 h = some res → mv_X vw2 mdF_fitsAs 4 0 0 none g0 res 28 [(0, Sum.inr (1, o0)), (2, Sum.inl (Value.int v2)), (4, Sum.inr (4, o4)), (5, Sum.inl (Value.int v5)), (6, Sum.inl (Value.int v6))] [] h 0 0 := by
  intro n
  induction n with
  | zero => intro o0 v2 o4 v5 v6 h hh; cases hh
  | succ n ih =>
    intro o0 v2 o4 v5 v6 h hh
    refine mv_blkX ax2 (GF_fitsAs) (by decide) kF_fitsAs (fun pc lv st h ce sl hh => ?_) ((eF_fitsAs_b28 (fF_fitsAs_b28 n) o0 v2 o4 v5 v6 h).trans hh)
    obtain ⟨hg, hh1⟩ := mv_gd_some hh
    obtain ⟨rfl, rfl⟩ := mv_z2 hg
    rcases mv_cond_some hh1 with ⟨hb, hh2⟩ | ⟨hb, hh3⟩
    · obtain rfl := Nat.eq_of_beq_eq_true hb
      obtain ⟨o0, m0, hh4⟩ := mv_gR_some hh2
      obtain ⟨v2, m1, hh5⟩ := mv_gI_some hh4
      obtain ⟨o4, m2, hh6⟩ := mv_gR_some hh5
      obtain ⟨v5, m3, hh7⟩ := mv_gI_some hh6
      obtain ⟨v6, m4, hh8⟩ := mv_gI_some hh7
      obtain ⟨rfl, hh9⟩ := mv_sE_some hh8
      exact (ih o0 v2 o4 v5 v6 h hh9).sub (List.forall_mem_cons.mpr ⟨m0, (List.forall_mem_cons.mpr ⟨m1, (List.forall_mem_cons.mpr ⟨m2, (List.forall_mem_cons.mpr ⟨m3, (List.forall_mem_cons.mpr ⟨m4, (fun q hq => by cases hq)⟩)⟩)⟩)⟩)⟩)
    cases hh3

set_option maxRecDepth 20000 in
theorem xF_fitsAs {g0 : mv_G} {res : List mv_V × H2} (o0 : Nat) (o1 : Nat) (v2 : Int32) (v3 : Int32) (o4 : Nat) (h : H2) (hh : fF_fitsAs o0 o1 v2 v3 o4 h = some res) : mv_X vw2 mdF_fitsAs 4 0 0 none g0 res 0 [(0, Sum.inr (1, o0)), (1, Sum.inr (2, o1)), (2, Sum.inl (Value.int v2)), (3, Sum.inl (Value.int v3)), (4, Sum.inr (4, o4))] [] h 0 0 := by
  refine mv_blkX ax2 (GF_fitsAs) (by decide) kF_fitsAs (fun pc lv st h ce sl hh => ?_) ((eF_fitsAs (fF_fitsAs_b28 1000) o0 o1 v2 v3 o4 h).trans hh)
  obtain ⟨hg, hh1⟩ := mv_gd_some hh
  obtain ⟨rfl, rfl⟩ := mv_z2 hg
  rcases mv_cond_some hh1 with ⟨hb, hh2⟩ | ⟨hb, hh3⟩
  · obtain rfl := Nat.eq_of_beq_eq_true hb
    obtain ⟨o0, m0, hh4⟩ := mv_gR_some hh2
    obtain ⟨v2, m1, hh5⟩ := mv_gI_some hh4
    obtain ⟨o4, m2, hh6⟩ := mv_gR_some hh5
    obtain ⟨v5, m3, hh7⟩ := mv_gI_some hh6
    obtain ⟨v6, m4, hh8⟩ := mv_gI_some hh7
    obtain ⟨rfl, hh9⟩ := mv_sE_some hh8
    exact (xF_fitsAs_b28 1000 o0 v2 o4 v5 v6 h hh9).sub (List.forall_mem_cons.mpr ⟨m0, (List.forall_mem_cons.mpr ⟨m1, (List.forall_mem_cons.mpr ⟨m2, (List.forall_mem_cons.mpr ⟨m3, (List.forall_mem_cons.mpr ⟨m4, (fun q hq => by cases hq)⟩)⟩)⟩)⟩)⟩)
  cases hh3

theorem mF_fitsAs (o0 : Nat) (o1 : Nat) (v2 : Int32) (v3 : Int32) (o4 : Nat) (h : H2) (vs : List mv_V) (h' : H2) (hh : fF_fitsAs o0 o1 v2 v3 o4 h = some (vs, h')) : mv_Met vw2 4 0 0 mdF_fitsAs [Sum.inr (1, o0), Sum.inr (2, o1), Sum.inl (Value.int v2), Sum.inl (Value.int v3), Sum.inr (4, o4)] h vs h' :=
  mv_Met_of (by decide +kernel) (Nat.le_of_ble_eq_true rfl) (xF_fitsAs o0 o1 v2 v3 o4 h hh)
theorem cF_fitsAs_ok : mv_Cal vw2 4 (mdF_fitsAs, true) ((0, 0), cF_fitsAs) := by
  intro as h k res hh
  change cF_fitsAs as h k = some res at hh
  unfold cF_fitsAs at hh
  split at hh
  · obtain ⟨hg0, ha0⟩ := mv_gd_some hh
    obtain rfl := Nat.eq_of_beq_eq_true hg0
    obtain ⟨hg1, ha1⟩ := mv_gd_some ha0
    obtain rfl := Nat.eq_of_beq_eq_true hg1
    obtain ⟨hg4, ha4⟩ := mv_gd_some ha1
    obtain rfl := Nat.eq_of_beq_eq_true hg4
    obtain ⟨x, h', h1, h9⟩ := mv_rI_some ha4
    exact ⟨_, _, h9, (by first | decide | exact Nat.le_refl _ | exact Nat.zero_le _), fun _ => ⟨_, _, _, rfl, Or.inl ⟨by decide, rfl⟩⟩, (mF_fitsAs _ _ _ _ _ h _ _ h1)⟩
  · cases hh

set_option maxRecDepth 100000 in
theorem kF_manyFitting : mv_tok mdF_manyFitting nF_manyFitting tF_manyFitting = true := by decide +kernel
set_option maxRecDepth 100000 in
set_option maxHeartbeats 1000000 in
theorem eF_manyFitting_b32 (q32 : Nat → Nat → Int32 → Nat → Int32 → Int32 → H2 → O2) (o0 : Nat) (o1 : Nat) (v2 : Int32) (o3 : Nat) (v4 : Int32) (v5 : Int32) (h : H2) : mv_blk rI2 rR2 ln2 wI2 wR2 nw2 cp2 bod none tF_manyFitting gF_manyFitting 0 0 [32] (fun pc lv st h ce sl => mv_gd (Nat.beq ce 0 && Nat.beq sl 0) (cond (Nat.beq pc 32) (mv_gR 0 1 lv fun o0 => mv_gR 1 2 lv fun o1 => mv_gI 2 lv fun v2 => mv_gR 3 4 lv fun o3 => mv_gI 4 lv fun v4 => mv_gI 5 lv fun v5 => mv_sE st (q32 o0 o1 v2 o3 v4 v5 h)) (none))) 400 (mv_seek 32 tF_manyFitting) [(0, Sum.inr (1, o0)), (1, Sum.inr (2, o1)), (2, Sum.inl (Value.int v2)), (3, Sum.inr (4, o3)), (4, Sum.inl (Value.int v4)), (5, Sum.inl (Value.int v5))] [] h 0 0 = (
  if (nI 9) < v5 then (
    some ([Sum.inl (Value.int v4)], h))
  else
  mv_rI (fF_fitsAs o0 o1 v2 v5 o3 h) fun r2 h1 =>
  if r2 = 0 then (
    mv_bi (v5 + (nI 1)) fun x3 =>
    q32 o0 o1 v2 o3 v4 x3 h1)
  else
  mv_bi (v4 + (nI 1)) fun x4 =>
  mv_bi (v5 + (nI 1)) fun x5 =>
  q32 o0 o1 v2 o3 x4 x5 h1) := rfl
set_option maxRecDepth 100000 in
set_option maxHeartbeats 1000000 in
theorem eF_manyFitting (q32 : Nat → Nat → Int32 → Nat → Int32 → Int32 → H2 → O2) (o0 : Nat) (o1 : Nat) (v2 : Int32) (o3 : Nat) (h : H2) : mv_blk rI2 rR2 ln2 wI2 wR2 nw2 cp2 bod none tF_manyFitting gF_manyFitting 0 0 [32] (fun pc lv st h ce sl => mv_gd (Nat.beq ce 0 && Nat.beq sl 0) (cond (Nat.beq pc 32) (mv_gR 0 1 lv fun o0 => mv_gR 1 2 lv fun o1 => mv_gI 2 lv fun v2 => mv_gR 3 4 lv fun o3 => mv_gI 4 lv fun v4 => mv_gI 5 lv fun v5 => mv_sE st (q32 o0 o1 v2 o3 v4 v5 h)) (none))) 400 (mv_seek 0 tF_manyFitting) [(0, Sum.inr (1, o0)), (1, Sum.inr (2, o1)), (2, Sum.inl (Value.int v2)), (3, Sum.inr (4, o3))] [] h 0 0 = (
  mv_gd (mv_inb v2 8) <|
  if (rI2 h 306 o1 v2.toNatClampNeg) = 0 then (
    mv_rI (fF_fitsAs o0 o1 v2 (-(nI 1)) o3 h) fun r2 h1 =>
    if r2 = 0 then (
      some ([Sum.inl (Value.int (nI 0))], h1))
    else
    some ([Sum.inl (Value.int (nI 1))], h1))
  else
  mv_bi (nI 0) fun x3 =>
  mv_bi (nI 0) fun x4 =>
  q32 o0 o1 v2 o3 x3 x4 h) := rfl
theorem GF_manyFitting : ∀ (j : Nat) (C : mv_C H2) (md' : mv_MD × Bool), mv_nth j gF_manyFitting = some C → mv_nth j nF_manyFitting = some md' → ∃ n', n' + 1 ≤ 5 ∧ mv_Cal vw2 n' md' C := fun j C md' => match j with
  | 0 => fun h1 h2 => by
    obtain rfl := Option.some.inj h1
    obtain rfl := Option.some.inj h2
    exact ⟨4, by decide, cF_fitsAs_ok⟩
  | jj + 1 => fun h1 _ => by cases jj <;> cases h1

set_option maxRecDepth 20000 in
theorem xF_manyFitting_b32 {g0 : mv_G} {res : List mv_V × H2} : ∀ (n : Nat) (o0 : Nat) (o1 : Nat) (v2 : Int32) (o3 : Nat) (v4 : Int32) (v5 : Int32) (h : H2), fF_manyFitting_b32 n o0 o1 v2 o3 v4 v5 h = some res → mv_X vw2 mdF_manyFitting 5 0 0 none g0 res 32 [(0, Sum.inr (1, o0)), (1, Sum.inr (2, o1)), (2, Sum.inl (Value.int v2)), (3, Sum.inr (4, o3)), (4, Sum.inl (Value.int v4)), (5, Sum.inl (Value.int v5))] [] h 0 0 := by
  intro n
  induction n with
  | zero => intro o0 o1 v2 o3 v4 v5 h hh; cases hh
  | succ n ih =>
    intro o0 o1 v2 o3 v4 v5 h hh
    refine mv_blkX ax2 (GF_manyFitting) (by decide) kF_manyFitting (fun pc lv st h ce sl hh => ?_) ((eF_manyFitting_b32 (fF_manyFitting_b32 n) o0 o1 v2 o3 v4 v5 h).trans hh)
    obtain ⟨hg, hh1⟩ := mv_gd_some hh
    obtain ⟨rfl, rfl⟩ := mv_z2 hg
    rcases mv_cond_some hh1 with ⟨hb, hh2⟩ | ⟨hb, hh3⟩
    · obtain rfl := Nat.eq_of_beq_eq_true hb
      obtain ⟨o0, m0, hh4⟩ := mv_gR_some hh2
      obtain ⟨o1, m1, hh5⟩ := mv_gR_some hh4
      obtain ⟨v2, m2, hh6⟩ := mv_gI_some hh5
      obtain ⟨o3, m3, hh7⟩ := mv_gR_some hh6
      obtain ⟨v4, m4, hh8⟩ := mv_gI_some hh7
      obtain ⟨v5, m5, hh9⟩ := mv_gI_some hh8
      obtain ⟨rfl, hh10⟩ := mv_sE_some hh9
      exact (ih o0 o1 v2 o3 v4 v5 h hh10).sub (List.forall_mem_cons.mpr ⟨m0, (List.forall_mem_cons.mpr ⟨m1, (List.forall_mem_cons.mpr ⟨m2, (List.forall_mem_cons.mpr ⟨m3, (List.forall_mem_cons.mpr ⟨m4, (List.forall_mem_cons.mpr ⟨m5, (fun q hq => by cases hq)⟩)⟩)⟩)⟩)⟩)⟩)
    cases hh3

set_option maxRecDepth 20000 in
theorem xF_manyFitting {g0 : mv_G} {res : List mv_V × H2} (o0 : Nat) (o1 : Nat) (v2 : Int32) (o3 : Nat) (h : H2) (hh : fF_manyFitting o0 o1 v2 o3 h = some res) : mv_X vw2 mdF_manyFitting 5 0 0 none g0 res 0 [(0, Sum.inr (1, o0)), (1, Sum.inr (2, o1)), (2, Sum.inl (Value.int v2)), (3, Sum.inr (4, o3))] [] h 0 0 := by
  refine mv_blkX ax2 (GF_manyFitting) (by decide) kF_manyFitting (fun pc lv st h ce sl hh => ?_) ((eF_manyFitting (fF_manyFitting_b32 1000) o0 o1 v2 o3 h).trans hh)
  obtain ⟨hg, hh1⟩ := mv_gd_some hh
  obtain ⟨rfl, rfl⟩ := mv_z2 hg
  rcases mv_cond_some hh1 with ⟨hb, hh2⟩ | ⟨hb, hh3⟩
  · obtain rfl := Nat.eq_of_beq_eq_true hb
    obtain ⟨o0, m0, hh4⟩ := mv_gR_some hh2
    obtain ⟨o1, m1, hh5⟩ := mv_gR_some hh4
    obtain ⟨v2, m2, hh6⟩ := mv_gI_some hh5
    obtain ⟨o3, m3, hh7⟩ := mv_gR_some hh6
    obtain ⟨v4, m4, hh8⟩ := mv_gI_some hh7
    obtain ⟨v5, m5, hh9⟩ := mv_gI_some hh8
    obtain ⟨rfl, hh10⟩ := mv_sE_some hh9
    exact (xF_manyFitting_b32 1000 o0 o1 v2 o3 v4 v5 h hh10).sub (List.forall_mem_cons.mpr ⟨m0, (List.forall_mem_cons.mpr ⟨m1, (List.forall_mem_cons.mpr ⟨m2, (List.forall_mem_cons.mpr ⟨m3, (List.forall_mem_cons.mpr ⟨m4, (List.forall_mem_cons.mpr ⟨m5, (fun q hq => by cases hq)⟩)⟩)⟩)⟩)⟩)⟩)
  cases hh3

theorem mF_manyFitting (o0 : Nat) (o1 : Nat) (v2 : Int32) (o3 : Nat) (h : H2) (vs : List mv_V) (h' : H2) (hh : fF_manyFitting o0 o1 v2 o3 h = some (vs, h')) : mv_Met vw2 5 0 0 mdF_manyFitting [Sum.inr (1, o0), Sum.inr (2, o1), Sum.inl (Value.int v2), Sum.inr (4, o3)] h vs h' :=
  mv_Met_of (by decide +kernel) (Nat.le_of_ble_eq_true rfl) (xF_manyFitting o0 o1 v2 o3 h hh)
theorem cF_manyFitting_ok : mv_Cal vw2 5 (mdF_manyFitting, true) ((0, 0), cF_manyFitting) := by
  intro as h k res hh
  change cF_manyFitting as h k = some res at hh
  unfold cF_manyFitting at hh
  split at hh
  · obtain ⟨hg0, ha0⟩ := mv_gd_some hh
    obtain rfl := Nat.eq_of_beq_eq_true hg0
    obtain ⟨hg1, ha1⟩ := mv_gd_some ha0
    obtain rfl := Nat.eq_of_beq_eq_true hg1
    obtain ⟨hg3, ha3⟩ := mv_gd_some ha1
    obtain rfl := Nat.eq_of_beq_eq_true hg3
    obtain ⟨x, h', h1, h9⟩ := mv_rI_some ha3
    exact ⟨_, _, h9, (by first | decide | exact Nat.le_refl _ | exact Nat.zero_le _), fun _ => ⟨_, _, _, rfl, Or.inl ⟨by decide, rfl⟩⟩, (mF_manyFitting _ _ _ _ h _ _ h1)⟩
  · cases hh

set_option maxRecDepth 100000 in
theorem kF_leastFitting : mv_tok mdF_leastFitting nF_leastFitting tF_leastFitting = true := by decide +kernel
set_option maxRecDepth 100000 in
set_option maxHeartbeats 1000000 in
theorem eF_leastFitting_b30 (q30 : Nat → Nat → Int32 → Nat → Int32 → H2 → O2) (o0 : Nat) (o1 : Nat) (v2 : Int32) (o3 : Nat) (v4 : Int32) (h : H2) : mv_blk rI2 rR2 ln2 wI2 wR2 nw2 cp2 bod none tF_leastFitting gF_leastFitting 0 0 [30] (fun pc lv st h ce sl => mv_gd (Nat.beq ce 0 && Nat.beq sl 0) (cond (Nat.beq pc 30) (mv_gR 0 1 lv fun o0 => mv_gR 1 2 lv fun o1 => mv_gI 2 lv fun v2 => mv_gR 3 4 lv fun o3 => mv_gI 4 lv fun v4 => mv_sE st (q30 o0 o1 v2 o3 v4 h)) (none))) 400 (mv_seek 30 tF_leastFitting) [(0, Sum.inr (1, o0)), (1, Sum.inr (2, o1)), (2, Sum.inl (Value.int v2)), (3, Sum.inr (4, o3)), (4, Sum.inl (Value.int v4))] [] h 0 0 = (
  if (nI 9) < v4 then (
    some ([Sum.inl (Value.int (-(nI 3)))], h))
  else
  mv_rI (fF_fitsAs o0 o1 v2 v4 o3 h) fun r2 h1 =>
  if r2 = 0 then (
    mv_bi (v4 + (nI 1)) fun x3 =>
    q30 o0 o1 v2 o3 x3 h1)
  else
  some ([Sum.inl (Value.int ((nI 1) + v4))], h1)) := rfl
set_option maxRecDepth 100000 in
set_option maxHeartbeats 1000000 in
theorem eF_leastFitting (q30 : Nat → Nat → Int32 → Nat → Int32 → H2 → O2) (o0 : Nat) (o1 : Nat) (v2 : Int32) (o3 : Nat) (h : H2) : mv_blk rI2 rR2 ln2 wI2 wR2 nw2 cp2 bod none tF_leastFitting gF_leastFitting 0 0 [30] (fun pc lv st h ce sl => mv_gd (Nat.beq ce 0 && Nat.beq sl 0) (cond (Nat.beq pc 30) (mv_gR 0 1 lv fun o0 => mv_gR 1 2 lv fun o1 => mv_gI 2 lv fun v2 => mv_gR 3 4 lv fun o3 => mv_gI 4 lv fun v4 => mv_sE st (q30 o0 o1 v2 o3 v4 h)) (none))) 400 (mv_seek 0 tF_leastFitting) [(0, Sum.inr (1, o0)), (1, Sum.inr (2, o1)), (2, Sum.inl (Value.int v2)), (3, Sum.inr (4, o3))] [] h 0 0 = (
  mv_gd (mv_inb v2 8) <|
  if (rI2 h 306 o1 v2.toNatClampNeg) = 0 then (
    mv_rI (fF_fitsAs o0 o1 v2 (-(nI 1)) o3 h) fun r2 h1 =>
    if r2 = 0 then (
      some ([Sum.inl (Value.int (-(nI 3)))], h1))
    else
    some ([Sum.inl (Value.int (nI 0))], h1))
  else
  mv_bi (nI 0) fun x3 =>
  q30 o0 o1 v2 o3 x3 h) := rfl
theorem GF_leastFitting : ∀ (j : Nat) (C : mv_C H2) (md' : mv_MD × Bool), mv_nth j gF_leastFitting = some C → mv_nth j nF_leastFitting = some md' → ∃ n', n' + 1 ≤ 5 ∧ mv_Cal vw2 n' md' C := fun j C md' => match j with
  | 0 => fun h1 h2 => by
    obtain rfl := Option.some.inj h1
    obtain rfl := Option.some.inj h2
    exact ⟨4, by decide, cF_fitsAs_ok⟩
  | jj + 1 => fun h1 _ => by cases jj <;> cases h1

set_option maxRecDepth 20000 in
theorem xF_leastFitting_b30 {g0 : mv_G} {res : List mv_V × H2} : ∀ (n : Nat) (o0 : Nat) (o1 : Nat) (v2 : Int32) (o3 : Nat) (v4 : Int32) (h : H2), fF_leastFitting_b30 n o0 o1 v2 o3 v4 h = some res → mv_X vw2 mdF_leastFitting 5 0 0 none g0 res 30 [(0, Sum.inr (1, o0)), (1, Sum.inr (2, o1)), (2, Sum.inl (Value.int v2)), (3, Sum.inr (4, o3)), (4, Sum.inl (Value.int v4))] [] h 0 0 := by
  intro n
  induction n with
  | zero => intro o0 o1 v2 o3 v4 h hh; cases hh
  | succ n ih =>
    intro o0 o1 v2 o3 v4 h hh
    refine mv_blkX ax2 (GF_leastFitting) (by decide) kF_leastFitting (fun pc lv st h ce sl hh => ?_) ((eF_leastFitting_b30 (fF_leastFitting_b30 n) o0 o1 v2 o3 v4 h).trans hh)
    obtain ⟨hg, hh1⟩ := mv_gd_some hh
    obtain ⟨rfl, rfl⟩ := mv_z2 hg
    rcases mv_cond_some hh1 with ⟨hb, hh2⟩ | ⟨hb, hh3⟩
    · obtain rfl := Nat.eq_of_beq_eq_true hb
      obtain ⟨o0, m0, hh4⟩ := mv_gR_some hh2
      obtain ⟨o1, m1, hh5⟩ := mv_gR_some hh4
      obtain ⟨v2, m2, hh6⟩ := mv_gI_some hh5
      obtain ⟨o3, m3, hh7⟩ := mv_gR_some hh6
      obtain ⟨v4, m4, hh8⟩ := mv_gI_some hh7
      obtain ⟨rfl, hh9⟩ := mv_sE_some hh8
      exact (ih o0 o1 v2 o3 v4 h hh9).sub (List.forall_mem_cons.mpr ⟨m0, (List.forall_mem_cons.mpr ⟨m1, (List.forall_mem_cons.mpr ⟨m2, (List.forall_mem_cons.mpr ⟨m3, (List.forall_mem_cons.mpr ⟨m4, (fun q hq => by cases hq)⟩)⟩)⟩)⟩)⟩)
    cases hh3

set_option maxRecDepth 20000 in
theorem xF_leastFitting {g0 : mv_G} {res : List mv_V × H2} (o0 : Nat) (o1 : Nat) (v2 : Int32) (o3 : Nat) (h : H2) (hh : fF_leastFitting o0 o1 v2 o3 h = some res) : mv_X vw2 mdF_leastFitting 5 0 0 none g0 res 0 [(0, Sum.inr (1, o0)), (1, Sum.inr (2, o1)), (2, Sum.inl (Value.int v2)), (3, Sum.inr (4, o3))] [] h 0 0 := by
  refine mv_blkX ax2 (GF_leastFitting) (by decide) kF_leastFitting (fun pc lv st h ce sl hh => ?_) ((eF_leastFitting (fF_leastFitting_b30 1000) o0 o1 v2 o3 h).trans hh)
  obtain ⟨hg, hh1⟩ := mv_gd_some hh
  obtain ⟨rfl, rfl⟩ := mv_z2 hg
  rcases mv_cond_some hh1 with ⟨hb, hh2⟩ | ⟨hb, hh3⟩
  · obtain rfl := Nat.eq_of_beq_eq_true hb
    obtain ⟨o0, m0, hh4⟩ := mv_gR_some hh2
    obtain ⟨o1, m1, hh5⟩ := mv_gR_some hh4
    obtain ⟨v2, m2, hh6⟩ := mv_gI_some hh5
    obtain ⟨o3, m3, hh7⟩ := mv_gR_some hh6
    obtain ⟨v4, m4, hh8⟩ := mv_gI_some hh7
    obtain ⟨rfl, hh9⟩ := mv_sE_some hh8
    exact (xF_leastFitting_b30 1000 o0 o1 v2 o3 v4 h hh9).sub (List.forall_mem_cons.mpr ⟨m0, (List.forall_mem_cons.mpr ⟨m1, (List.forall_mem_cons.mpr ⟨m2, (List.forall_mem_cons.mpr ⟨m3, (List.forall_mem_cons.mpr ⟨m4, (fun q hq => by cases hq)⟩)⟩)⟩)⟩)⟩)
  cases hh3

theorem mF_leastFitting (o0 : Nat) (o1 : Nat) (v2 : Int32) (o3 : Nat) (h : H2) (vs : List mv_V) (h' : H2) (hh : fF_leastFitting o0 o1 v2 o3 h = some (vs, h')) : mv_Met vw2 5 0 0 mdF_leastFitting [Sum.inr (1, o0), Sum.inr (2, o1), Sum.inl (Value.int v2), Sum.inr (4, o3)] h vs h' :=
  mv_Met_of (by decide +kernel) (Nat.le_of_ble_eq_true rfl) (xF_leastFitting o0 o1 v2 o3 h hh)
theorem cF_leastFitting_ok : mv_Cal vw2 5 (mdF_leastFitting, true) ((0, 0), cF_leastFitting) := by
  intro as h k res hh
  change cF_leastFitting as h k = some res at hh
  unfold cF_leastFitting at hh
  split at hh
  · obtain ⟨hg0, ha0⟩ := mv_gd_some hh
    obtain rfl := Nat.eq_of_beq_eq_true hg0
    obtain ⟨hg1, ha1⟩ := mv_gd_some ha0
    obtain rfl := Nat.eq_of_beq_eq_true hg1
    obtain ⟨hg3, ha3⟩ := mv_gd_some ha1
    obtain rfl := Nat.eq_of_beq_eq_true hg3
    obtain ⟨x, h', h1, h9⟩ := mv_rI_some ha3
    exact ⟨_, _, h9, (by first | decide | exact Nat.le_refl _ | exact Nat.zero_le _), fun _ => ⟨_, _, _, rfl, Or.inl ⟨by decide, rfl⟩⟩, (mF_leastFitting _ _ _ _ h _ _ h1)⟩
  · cases hh

set_option maxRecDepth 100000 in
theorem kF_rowPart : mv_tok mdF_rowPart nF_rowPart tF_rowPart = true := by decide +kernel
set_option maxRecDepth 100000 in
set_option maxHeartbeats 1000000 in
theorem eF_rowPart (o0 : Nat) (v1 : Int32) (v2 : Int32) (h : H2) : mv_blk rI2 rR2 ln2 wI2 wR2 nw2 cp2 bod none tF_rowPart gF_rowPart 0 0 [] (fun _ _ _ _ _ _ => none) 400 (mv_seek 0 tF_rowPart) [(0, Sum.inr (1, o0)), (1, Sum.inl (Value.int v1)), (2, Sum.inl (Value.int v2))] [] h 0 0 = (
  if v2 = nI 0 then (
    mv_gd (mv_inb v1 8) <|
    some ([Sum.inl (Value.int ((nI 1) + (rI2 h 305 3 v1.toNatClampNeg)))], h))
  else
  if v2 = nI 1 then (
    mv_gd (mv_inb v1 8) <|
    some ([Sum.inl (Value.int (rI2 h 306 3 v1.toNatClampNeg))], h))
  else
  mv_rI (fM_allDepths 3 h) fun r2 h1 =>
  some ([Sum.inl (Value.int r2)], h1)) := rfl
theorem GF_rowPart : ∀ (j : Nat) (C : mv_C H2) (md' : mv_MD × Bool), mv_nth j gF_rowPart = some C → mv_nth j nF_rowPart = some md' → ∃ n', n' + 1 ≤ 2 ∧ mv_Cal vw2 n' md' C := fun j C md' => match j with
  | 0 => fun h1 h2 => by
    obtain rfl := Option.some.inj h1
    obtain rfl := Option.some.inj h2
    exact ⟨1, by decide, cM_allDepths_ok⟩
  | jj + 1 => fun h1 _ => by cases jj <;> cases h1

set_option maxRecDepth 20000 in
theorem xF_rowPart {g0 : mv_G} {res : List mv_V × H2} (o0 : Nat) (v1 : Int32) (v2 : Int32) (h : H2) (hh : fF_rowPart o0 v1 v2 h = some res) : mv_X vw2 mdF_rowPart 2 0 0 none g0 res 0 [(0, Sum.inr (1, o0)), (1, Sum.inl (Value.int v1)), (2, Sum.inl (Value.int v2))] [] h 0 0 := by
  refine mv_blkX ax2 (GF_rowPart) (by decide) kF_rowPart (fun pc lv st h ce sl hh => ?_) ((eF_rowPart  o0 v1 v2 h).trans hh)
  cases hh

theorem mF_rowPart (o0 : Nat) (v1 : Int32) (v2 : Int32) (h : H2) (vs : List mv_V) (h' : H2) (hh : fF_rowPart o0 v1 v2 h = some (vs, h')) : mv_Met vw2 2 0 0 mdF_rowPart [Sum.inr (1, o0), Sum.inl (Value.int v1), Sum.inl (Value.int v2)] h vs h' :=
  mv_Met_of (by decide +kernel) (Nat.le_of_ble_eq_true rfl) (xF_rowPart o0 v1 v2 h hh)
theorem cF_rowPart_ok : mv_Cal vw2 2 (mdF_rowPart, true) ((0, 0), cF_rowPart) := by
  intro as h k res hh
  change cF_rowPart as h k = some res at hh
  unfold cF_rowPart at hh
  split at hh
  · obtain ⟨hg0, ha0⟩ := mv_gd_some hh
    obtain rfl := Nat.eq_of_beq_eq_true hg0
    obtain ⟨x, h', h1, h9⟩ := mv_rI_some ha0
    exact ⟨_, _, h9, (by first | decide | exact Nat.le_refl _ | exact Nat.zero_le _), fun _ => ⟨_, _, _, rfl, Or.inl ⟨by decide, rfl⟩⟩, (mF_rowPart _ _ _ h _ _ h1)⟩
  · cases hh

set_option maxRecDepth 100000 in
theorem kR_write : mv_tok mdR_write nR_write tR_write = true := by decide +kernel
set_option maxRecDepth 100000 in
set_option maxHeartbeats 1000000 in
theorem eR_write (o0 : Nat) (v1 : Int32) (v2 : Int32) (v3 : Int32) (h : H2) : mv_blk rI2 rR2 ln2 wI2 wR2 nw2 cp2 bod none tR_write gR_write 0 0 [] (fun _ _ _ _ _ _ => none) 400 (mv_seek 0 tR_write) [(0, Sum.inr (3, o0)), (1, Sum.inl (Value.int v1)), (2, Sum.inl (Value.int v2)), (3, Sum.inl (Value.int v3))] [] h 0 0 = (
  mv_gd (mv_inb ((v1 * (nI 3)) + v2) 30) <|
  mv_bh (wI2 h 400 o0 ((v1 * (nI 3)) + v2).toNatClampNeg v3) fun h1 =>
  some ([], h1)) := rfl
theorem GR_write : ∀ (j : Nat) (C : mv_C H2) (md' : mv_MD × Bool), mv_nth j gR_write = some C → mv_nth j nR_write = some md' → ∃ n', n' + 1 ≤ 1 ∧ mv_Cal vw2 n' md' C := fun j C md' h1 _ => by cases j <;> cases h1

set_option maxRecDepth 20000 in
theorem xR_write {g0 : mv_G} {res : List mv_V × H2} (o0 : Nat) (v1 : Int32) (v2 : Int32) (v3 : Int32) (h : H2) (hh : fR_write o0 v1 v2 v3 h = some res) : mv_X vw2 mdR_write 1 0 0 none g0 res 0 [(0, Sum.inr (3, o0)), (1, Sum.inl (Value.int v1)), (2, Sum.inl (Value.int v2)), (3, Sum.inl (Value.int v3))] [] h 0 0 := by
  refine mv_blkX ax2 (GR_write) (by decide) kR_write (fun pc lv st h ce sl hh => ?_) ((eR_write  o0 v1 v2 v3 h).trans hh)
  cases hh

theorem mR_write (o0 : Nat) (v1 : Int32) (v2 : Int32) (v3 : Int32) (h : H2) (vs : List mv_V) (h' : H2) (hh : fR_write o0 v1 v2 v3 h = some (vs, h')) : mv_Met vw2 1 0 0 mdR_write [Sum.inr (3, o0), Sum.inl (Value.int v1), Sum.inl (Value.int v2), Sum.inl (Value.int v3)] h vs h' :=
  mv_Met_of (by decide +kernel) (Nat.le_of_ble_eq_true rfl) (xR_write o0 v1 v2 v3 h hh)
theorem cR_write_ok : mv_Cal vw2 1 (mdR_write, true) ((0, 0), cR_write) := by
  intro as h k res hh
  change cR_write as h k = some res at hh
  unfold cR_write at hh
  split at hh
  · obtain ⟨hg0, ha0⟩ := mv_gd_some hh
    obtain rfl := Nat.eq_of_beq_eq_true hg0
    obtain ⟨h', h1, h9⟩ := mv_rV_some ha0
    exact ⟨_, _, h9, (by first | decide | exact Nat.le_refl _ | exact Nat.zero_le _), fun _ => ⟨_, _, _, rfl, Or.inl ⟨by decide, rfl⟩⟩, (mR_write _ _ _ _ h _ _ h1)⟩
  · cases hh

set_option maxRecDepth 100000 in
theorem kF_writeRows : mv_tok mdF_writeRows nF_writeRows tF_writeRows = true := by decide +kernel
set_option maxRecDepth 100000 in
set_option maxHeartbeats 1000000 in
theorem eF_writeRows_b33 (q17 : Nat → Int32 → Int32 → Nat → Int32 → H2 → O2) (q33 : Nat → Int32 → Int32 → Nat → Int32 → Int32 → H2 → O2) (o0 : Nat) (v2 : Int32) (v3 : Int32) (o4 : Nat) (v5 : Int32) (v6 : Int32) (h : H2) : mv_blk rI2 rR2 ln2 wI2 wR2 nw2 cp2 bod none tF_writeRows gF_writeRows 0 0 [17, 33] (fun pc lv st h ce sl => mv_gd (Nat.beq ce 0 && Nat.beq sl 0) (cond (Nat.beq pc 17) (mv_gR 0 1 lv fun o0 => mv_gI 2 lv fun v2 => mv_gI 3 lv fun v3 => mv_gR 4 3 lv fun o4 => mv_gI 5 lv fun v5 => mv_sE st (q17 o0 v2 v3 o4 v5 h)) (cond (Nat.beq pc 33) (mv_gR 0 1 lv fun o0 => mv_gI 2 lv fun v2 => mv_gI 3 lv fun v3 => mv_gR 4 3 lv fun o4 => mv_gI 5 lv fun v5 => mv_gI 6 lv fun v6 => mv_sE st (q33 o0 v2 v3 o4 v5 v6 h)) (none)))) 400 (mv_seek 33 tF_writeRows) [(0, Sum.inr (1, o0)), (2, Sum.inl (Value.int v2)), (3, Sum.inl (Value.int v3)), (4, Sum.inr (3, o4)), (5, Sum.inl (Value.int v5)), (6, Sum.inl (Value.int v6))] [] h 0 0 = (
  if (nI 3) ≤ v6 then (
    mv_bi (v5 + (nI 1)) fun x1 =>
    q17 o0 v2 v3 o4 x1 h)
  else
  mv_rI (fF_rowPart o0 v2 v6 h) fun r3 h2 =>
  mv_rV (fR_write o4 v5 v6 r3 h2) fun h4 =>
  mv_bi (v6 + (nI 1)) fun x5 =>
  q33 o0 v2 v3 o4 v5 x5 h4) := rfl
set_option maxRecDepth 100000 in
set_option maxHeartbeats 1000000 in
theorem eF_writeRows_b17 (q33 : Nat → Int32 → Int32 → Nat → Int32 → Int32 → H2 → O2) (o0 : Nat) (v2 : Int32) (v3 : Int32) (o4 : Nat) (v5 : Int32) (h : H2) : mv_blk rI2 rR2 ln2 wI2 wR2 nw2 cp2 bod none tF_writeRows gF_writeRows 0 0 [33] (fun pc lv st h ce sl => mv_gd (Nat.beq ce 0 && Nat.beq sl 0) (cond (Nat.beq pc 33) (mv_gR 0 1 lv fun o0 => mv_gI 2 lv fun v2 => mv_gI 3 lv fun v3 => mv_gR 4 3 lv fun o4 => mv_gI 5 lv fun v5 => mv_gI 6 lv fun v6 => mv_sE st (q33 o0 v2 v3 o4 v5 v6 h)) (none))) 400 (mv_seek 17 tF_writeRows) [(0, Sum.inr (1, o0)), (2, Sum.inl (Value.int v2)), (3, Sum.inl (Value.int v3)), (4, Sum.inr (3, o4)), (5, Sum.inl (Value.int v5))] [] h 0 0 = (
  if v3 ≤ v5 then (
    some ([], h))
  else
  mv_rV (fM_passDay 3 h) fun h1 =>
  mv_bi (nI 0) fun x2 =>
  q33 o0 v2 v3 o4 v5 x2 h1) := rfl
set_option maxRecDepth 100000 in
set_option maxHeartbeats 1000000 in
theorem eF_writeRows (q17 : Nat → Int32 → Int32 → Nat → Int32 → H2 → O2) (o0 : Nat) (o1 : Nat) (v2 : Int32) (v3 : Int32) (o4 : Nat) (h : H2) : mv_blk rI2 rR2 ln2 wI2 wR2 nw2 cp2 bod none tF_writeRows gF_writeRows 0 0 [17] (fun pc lv st h ce sl => mv_gd (Nat.beq ce 0 && Nat.beq sl 0) (cond (Nat.beq pc 17) (mv_gR 0 1 lv fun o0 => mv_gI 2 lv fun v2 => mv_gI 3 lv fun v3 => mv_gR 4 3 lv fun o4 => mv_gI 5 lv fun v5 => mv_sE st (q17 o0 v2 v3 o4 v5 h)) (none))) 400 (mv_seek 0 tF_writeRows) [(0, Sum.inr (1, o0)), (1, Sum.inr (2, o1)), (2, Sum.inl (Value.int v2)), (3, Sum.inl (Value.int v3)), (4, Sum.inr (3, o4))] [] h 0 0 = (
  mv_rV (fM_copyFrom 3 o1 h) fun h1 =>
  mv_bh (wI2 h1 3 o4 1 v3) fun h2 =>
  mv_bi (nI 0) fun x3 =>
  q17 o0 v2 v3 o4 x3 h2) := rfl
theorem GF_writeRows : ∀ (j : Nat) (C : mv_C H2) (md' : mv_MD × Bool), mv_nth j gF_writeRows = some C → mv_nth j nF_writeRows = some md' → ∃ n', n' + 1 ≤ 4 ∧ mv_Cal vw2 n' md' C := fun j C md' => match j with
  | 0 => fun h1 h2 => by
    obtain rfl := Option.some.inj h1
    obtain rfl := Option.some.inj h2
    exact ⟨1, by decide, cM_copyFrom_ok⟩
  | 1 => fun h1 h2 => by
    obtain rfl := Option.some.inj h1
    obtain rfl := Option.some.inj h2
    exact ⟨3, by decide, cM_passDay_ok⟩
  | 2 => fun h1 h2 => by
    obtain rfl := Option.some.inj h1
    obtain rfl := Option.some.inj h2
    exact ⟨2, by decide, cF_rowPart_ok⟩
  | 3 => fun h1 h2 => by
    obtain rfl := Option.some.inj h1
    obtain rfl := Option.some.inj h2
    exact ⟨1, by decide, cR_write_ok⟩
  | jj + 4 => fun h1 _ => by cases jj <;> cases h1

set_option maxRecDepth 20000 in
theorem xF_writeRows_b33 {g0 : mv_G} {res : List mv_V × H2} {k17 : Nat → Int32 → Int32 → Nat → Int32 → H2 → O2} (hk17 : ∀ (o0 : Nat) (v2 : Int32) (v3 : Int32) (o4 : Nat) (v5 : Int32) h, k17 o0 v2 v3 o4 v5 h = some res → mv_X vw2 mdF_writeRows 4 0 0 none g0 res 17 [(0, Sum.inr (1, o0)), (2, Sum.inl (Value.int v2)), (3, Sum.inl (Value.int v3)), (4, Sum.inr (3, o4)), (5, Sum.inl (Value.int v5))] [] h 0 0) : ∀ (n : Nat) (o0 : Nat) (v2 : Int32) (v3 : Int32) (o4 : Nat) (v5 : Int32) (v6 : Int32) (h : H2), fF_writeRows_b33 k17 n o0 v2 v3 o4 v5 v6 h = some res → mv_X vw2 mdF_writeRows 4 0 0 none g0 res 33 [(0, Sum.inr (1, o0)), (2, Sum.inl (Value.int v2)), (3, Sum.inl (Value.int v3)), (4, Sum.inr (3, o4)), (5, Sum.inl (Value.int v5)), (6, Sum.inl (Value.int v6))] [] h 0 0 := by
  intro n
  induction n with
  | zero => intro o0 v2 v3 o4 v5 v6 h hh; cases hh
  | succ n ih =>
    intro o0 v2 v3 o4 v5 v6 h hh
    refine mv_blkX ax2 (GF_writeRows) (by decide) kF_writeRows (fun pc lv st h ce sl hh => ?_) ((eF_writeRows_b33 (k17) (fF_writeRows_b33 k17 n) o0 v2 v3 o4 v5 v6 h).trans hh)
    obtain ⟨hg, hh1⟩ := mv_gd_some hh
    obtain ⟨rfl, rfl⟩ := mv_z2 hg
    rcases mv_cond_some hh1 with ⟨hb, hh2⟩ | ⟨hb, hh3⟩
    · obtain rfl := Nat.eq_of_beq_eq_true hb
      obtain ⟨o0, m0, hh4⟩ := mv_gR_some hh2
      obtain ⟨v2, m1, hh5⟩ := mv_gI_some hh4
      obtain ⟨v3, m2, hh6⟩ := mv_gI_some hh5
      obtain ⟨o4, m3, hh7⟩ := mv_gR_some hh6
      obtain ⟨v5, m4, hh8⟩ := mv_gI_some hh7
      obtain ⟨rfl, hh9⟩ := mv_sE_some hh8
      exact (hk17 o0 v2 v3 o4 v5 h hh9).sub (List.forall_mem_cons.mpr ⟨m0, (List.forall_mem_cons.mpr ⟨m1, (List.forall_mem_cons.mpr ⟨m2, (List.forall_mem_cons.mpr ⟨m3, (List.forall_mem_cons.mpr ⟨m4, (fun q hq => by cases hq)⟩)⟩)⟩)⟩)⟩)
    rcases mv_cond_some hh3 with ⟨hb, hh10⟩ | ⟨hb, hh11⟩
    · obtain rfl := Nat.eq_of_beq_eq_true hb
      obtain ⟨o0, m0, hh12⟩ := mv_gR_some hh10
      obtain ⟨v2, m1, hh13⟩ := mv_gI_some hh12
      obtain ⟨v3, m2, hh14⟩ := mv_gI_some hh13
      obtain ⟨o4, m3, hh15⟩ := mv_gR_some hh14
      obtain ⟨v5, m4, hh16⟩ := mv_gI_some hh15
      obtain ⟨v6, m5, hh17⟩ := mv_gI_some hh16
      obtain ⟨rfl, hh18⟩ := mv_sE_some hh17
      exact (ih o0 v2 v3 o4 v5 v6 h hh18).sub (List.forall_mem_cons.mpr ⟨m0, (List.forall_mem_cons.mpr ⟨m1, (List.forall_mem_cons.mpr ⟨m2, (List.forall_mem_cons.mpr ⟨m3, (List.forall_mem_cons.mpr ⟨m4, (List.forall_mem_cons.mpr ⟨m5, (fun q hq => by cases hq)⟩)⟩)⟩)⟩)⟩)⟩)
    cases hh11

set_option maxRecDepth 20000 in
theorem xF_writeRows_b17 {g0 : mv_G} {res : List mv_V × H2} : ∀ (n : Nat) (o0 : Nat) (v2 : Int32) (v3 : Int32) (o4 : Nat) (v5 : Int32) (h : H2), fF_writeRows_b17 n o0 v2 v3 o4 v5 h = some res → mv_X vw2 mdF_writeRows 4 0 0 none g0 res 17 [(0, Sum.inr (1, o0)), (2, Sum.inl (Value.int v2)), (3, Sum.inl (Value.int v3)), (4, Sum.inr (3, o4)), (5, Sum.inl (Value.int v5))] [] h 0 0 := by
  intro n
  induction n with
  | zero => intro o0 v2 v3 o4 v5 h hh; cases hh
  | succ n ih =>
    intro o0 v2 v3 o4 v5 h hh
    refine mv_blkX ax2 (GF_writeRows) (by decide) kF_writeRows (fun pc lv st h ce sl hh => ?_) ((eF_writeRows_b17 (fF_writeRows_b33 (fF_writeRows_b17 n) 1000) o0 v2 v3 o4 v5 h).trans hh)
    obtain ⟨hg, hh1⟩ := mv_gd_some hh
    obtain ⟨rfl, rfl⟩ := mv_z2 hg
    rcases mv_cond_some hh1 with ⟨hb, hh2⟩ | ⟨hb, hh3⟩
    · obtain rfl := Nat.eq_of_beq_eq_true hb
      obtain ⟨o0, m0, hh4⟩ := mv_gR_some hh2
      obtain ⟨v2, m1, hh5⟩ := mv_gI_some hh4
      obtain ⟨v3, m2, hh6⟩ := mv_gI_some hh5
      obtain ⟨o4, m3, hh7⟩ := mv_gR_some hh6
      obtain ⟨v5, m4, hh8⟩ := mv_gI_some hh7
      obtain ⟨v6, m5, hh9⟩ := mv_gI_some hh8
      obtain ⟨rfl, hh10⟩ := mv_sE_some hh9
      exact (xF_writeRows_b33 ih 1000 o0 v2 v3 o4 v5 v6 h hh10).sub (List.forall_mem_cons.mpr ⟨m0, (List.forall_mem_cons.mpr ⟨m1, (List.forall_mem_cons.mpr ⟨m2, (List.forall_mem_cons.mpr ⟨m3, (List.forall_mem_cons.mpr ⟨m4, (List.forall_mem_cons.mpr ⟨m5, (fun q hq => by cases hq)⟩)⟩)⟩)⟩)⟩)⟩)
    cases hh3

set_option maxRecDepth 20000 in
theorem xF_writeRows {g0 : mv_G} {res : List mv_V × H2} (o0 : Nat) (o1 : Nat) (v2 : Int32) (v3 : Int32) (o4 : Nat) (h : H2) (hh : fF_writeRows o0 o1 v2 v3 o4 h = some res) : mv_X vw2 mdF_writeRows 4 0 0 none g0 res 0 [(0, Sum.inr (1, o0)), (1, Sum.inr (2, o1)), (2, Sum.inl (Value.int v2)), (3, Sum.inl (Value.int v3)), (4, Sum.inr (3, o4))] [] h 0 0 := by
  refine mv_blkX ax2 (GF_writeRows) (by decide) kF_writeRows (fun pc lv st h ce sl hh => ?_) ((eF_writeRows (fF_writeRows_b17 1000) o0 o1 v2 v3 o4 h).trans hh)
  obtain ⟨hg, hh1⟩ := mv_gd_some hh
  obtain ⟨rfl, rfl⟩ := mv_z2 hg
  rcases mv_cond_some hh1 with ⟨hb, hh2⟩ | ⟨hb, hh3⟩
  · obtain rfl := Nat.eq_of_beq_eq_true hb
    obtain ⟨o0, m0, hh4⟩ := mv_gR_some hh2
    obtain ⟨v2, m1, hh5⟩ := mv_gI_some hh4
    obtain ⟨v3, m2, hh6⟩ := mv_gI_some hh5
    obtain ⟨o4, m3, hh7⟩ := mv_gR_some hh6
    obtain ⟨v5, m4, hh8⟩ := mv_gI_some hh7
    obtain ⟨rfl, hh9⟩ := mv_sE_some hh8
    exact (xF_writeRows_b17 1000 o0 v2 v3 o4 v5 h hh9).sub (List.forall_mem_cons.mpr ⟨m0, (List.forall_mem_cons.mpr ⟨m1, (List.forall_mem_cons.mpr ⟨m2, (List.forall_mem_cons.mpr ⟨m3, (List.forall_mem_cons.mpr ⟨m4, (fun q hq => by cases hq)⟩)⟩)⟩)⟩)⟩)
  cases hh3

theorem mF_writeRows (o0 : Nat) (o1 : Nat) (v2 : Int32) (v3 : Int32) (o4 : Nat) (h : H2) (vs : List mv_V) (h' : H2) (hh : fF_writeRows o0 o1 v2 v3 o4 h = some (vs, h')) : mv_Met vw2 4 0 0 mdF_writeRows [Sum.inr (1, o0), Sum.inr (2, o1), Sum.inl (Value.int v2), Sum.inl (Value.int v3), Sum.inr (3, o4)] h vs h' :=
  mv_Met_of (by decide +kernel) (Nat.le_of_ble_eq_true rfl) (xF_writeRows o0 o1 v2 v3 o4 h hh)
theorem cF_writeRows_ok : mv_Cal vw2 4 (mdF_writeRows, true) ((0, 0), cF_writeRows) := by
  intro as h k res hh
  change cF_writeRows as h k = some res at hh
  unfold cF_writeRows at hh
  split at hh
  · obtain ⟨hg0, ha0⟩ := mv_gd_some hh
    obtain rfl := Nat.eq_of_beq_eq_true hg0
    obtain ⟨hg1, ha1⟩ := mv_gd_some ha0
    obtain rfl := Nat.eq_of_beq_eq_true hg1
    obtain ⟨hg4, ha4⟩ := mv_gd_some ha1
    obtain rfl := Nat.eq_of_beq_eq_true hg4
    obtain ⟨h', h1, h9⟩ := mv_rV_some ha4
    exact ⟨_, _, h9, (by first | decide | exact Nat.le_refl _ | exact Nat.zero_le _), fun _ => ⟨_, _, _, rfl, Or.inl ⟨by decide, rfl⟩⟩, (mF_writeRows _ _ _ _ _ h _ _ h1)⟩
  · cases hh

