set_option maxRecDepth 100000 in
theorem kF_spoiltBehind : mv_tok mdF_spoiltBehind nF_spoiltBehind tF_spoiltBehind = true := by decide +kernel
set_option maxRecDepth 100000 in
set_option maxHeartbeats 1000000 in
theorem eF_spoiltBehind (o0 : Nat) (o1 : Nat) (v2 : Int32) (h : H2) : mv_blk rI2 rR2 ln2 wI2 wR2 nw2 cp2 bod none tF_spoiltBehind gF_spoiltBehind 0 0 [] (fun _ _ _ _ _ _ => none) 400 (mv_seek 0 tF_spoiltBehind) [(0, Sum.inr (1, o0)), (1, Sum.inr (2, o1)), (2, Sum.inl (Value.int v2))] [] h 0 0 = (
  mv_rV (fM_copyFrom 3 o1 h) fun h1 =>
  mv_rI (fF_spoiltFromHere o0 o1 v2 h1) fun r3 h2 =>
  some ([Sum.inl (Value.int r3)], h2)) := rfl
theorem GF_spoiltBehind : ∀ (j : Nat) (C : mv_C H2) (md' : mv_MD × Bool), mv_nth j gF_spoiltBehind = some C → mv_nth j nF_spoiltBehind = some md' → ∃ n', n' + 1 ≤ 6 ∧ mv_Cal vw2 n' md' C := fun j C md' => match j with
  | 0 => fun h1 h2 => by
    obtain rfl := Option.some.inj h1
    obtain rfl := Option.some.inj h2
    exact ⟨1, by decide, cM_copyFrom_ok⟩
  | 1 => fun h1 h2 => by
    obtain rfl := Option.some.inj h1
    obtain rfl := Option.some.inj h2
    exact ⟨5, by decide, cF_spoiltFromHere_ok⟩
  | jj + 2 => fun h1 _ => by cases jj <;> cases h1

set_option maxRecDepth 20000 in
theorem xF_spoiltBehind {g0 : mv_G} {res : List mv_V × H2} (o0 : Nat) (o1 : Nat) (v2 : Int32) (h : H2) (hh : fF_spoiltBehind o0 o1 v2 h = some res) : mv_X vw2 mdF_spoiltBehind 6 0 0 none g0 res 0 [(0, Sum.inr (1, o0)), (1, Sum.inr (2, o1)), (2, Sum.inl (Value.int v2))] [] h 0 0 := by
  refine mv_blkX ax2 (GF_spoiltBehind) (by decide) kF_spoiltBehind (fun pc lv st h ce sl hh => ?_) ((eF_spoiltBehind  o0 o1 v2 h).trans hh)
  cases hh

theorem mF_spoiltBehind (o0 : Nat) (o1 : Nat) (v2 : Int32) (h : H2) (vs : List mv_V) (h' : H2) (hh : fF_spoiltBehind o0 o1 v2 h = some (vs, h')) : mv_Met vw2 6 0 0 mdF_spoiltBehind [Sum.inr (1, o0), Sum.inr (2, o1), Sum.inl (Value.int v2)] h vs h' :=
  mv_Met_of (by decide +kernel) (Nat.le_of_ble_eq_true rfl) (xF_spoiltBehind o0 o1 v2 h hh)
theorem cF_spoiltBehind_ok : mv_Cal vw2 6 (mdF_spoiltBehind, true) ((0, 0), cF_spoiltBehind) := by
  intro as h k res hh
  change cF_spoiltBehind as h k = some res at hh
  unfold cF_spoiltBehind at hh
  split at hh
  · obtain ⟨hg0, ha0⟩ := mv_gd_some hh
    obtain rfl := Nat.eq_of_beq_eq_true hg0
    obtain ⟨hg1, ha1⟩ := mv_gd_some ha0
    obtain rfl := Nat.eq_of_beq_eq_true hg1
    obtain ⟨x, h', h1, h9⟩ := mv_rI_some ha1
    exact ⟨_, _, h9, (by first | decide | exact Nat.le_refl _ | exact Nat.zero_le _), fun _ => ⟨_, _, _, rfl, Or.inl ⟨by decide, rfl⟩⟩, (mF_spoiltBehind _ _ _ h _ _ h1)⟩
  · cases hh

set_option maxRecDepth 100000 in
theorem kF_leadsTo : mv_tok mdF_leadsTo nF_leadsTo tF_leadsTo = true := by decide +kernel
set_option maxRecDepth 100000 in
set_option maxHeartbeats 1000000 in
theorem eF_leadsTo_b54 (q54 : Nat → Int32 → Int32 → Int32 → Int32 → H2 → O2) (o0 : Nat) (v2 : Int32) (v3 : Int32) (v5 : Int32) (v6 : Int32) (h : H2) : mv_blk rI2 rR2 ln2 wI2 wR2 nw2 cp2 bod none tF_leadsTo gF_leadsTo 0 0 [54] (fun pc lv st h ce sl => mv_gd (Nat.beq ce 0 && Nat.beq sl 0) (cond (Nat.beq pc 54) (mv_gR 0 1 lv fun o0 => mv_gI 2 lv fun v2 => mv_gI 3 lv fun v3 => mv_gI 5 lv fun v5 => mv_gI 6 lv fun v6 => mv_sE st (q54 o0 v2 v3 v5 v6 h)) (none))) 400 (mv_seek 54 tF_leadsTo) [(0, Sum.inr (1, o0)), (2, Sum.inl (Value.int v2)), (3, Sum.inl (Value.int v3)), (5, Sum.inl (Value.int v5)), (6, Sum.inl (Value.int v6))] [] h 0 0 = (
  if v6 < 0 then (
    mv_gd (mv_inb v2 8) <|
    if (rI2 h 305 3 v2.toNatClampNeg) = v3 then (
      mv_gd (decide (nI 1 = nI 0) || decide (nI 1 = nI 1)) <| some ([Sum.inl (Value.int (nI 1))], h))
    else
    mv_gd (decide (nI 0 = nI 0) || decide (nI 0 = nI 1)) <| some ([Sum.inl (Value.int (nI 0))], h))
  else
  mv_rV (fM_dipInto 3 v2 ((v5 >>> (((nI 3) * v6) &&& 31)) &&& (nI 7)) h) fun h1 =>
  mv_bi (v6 + (-(nI 1))) fun x2 =>
  q54 o0 v2 v3 v5 x2 h1) := rfl
set_option maxRecDepth 100000 in
set_option maxHeartbeats 1000000 in
theorem eF_leadsTo (q54 : Nat → Int32 → Int32 → Int32 → Int32 → H2 → O2) (o0 : Nat) (o1 : Nat) (v2 : Int32) (v3 : Int32) (v4 : Int32) (v5 : Int32) (h : H2) : mv_blk rI2 rR2 ln2 wI2 wR2 nw2 cp2 bod none tF_leadsTo gF_leadsTo 0 0 [54] (fun pc lv st h ce sl => mv_gd (Nat.beq ce 0 && Nat.beq sl 0) (cond (Nat.beq pc 54) (mv_gR 0 1 lv fun o0 => mv_gI 2 lv fun v2 => mv_gI 3 lv fun v3 => mv_gI 5 lv fun v5 => mv_gI 6 lv fun v6 => mv_sE st (q54 o0 v2 v3 v5 v6 h)) (none))) 400 (mv_seek 0 tF_leadsTo) [(0, Sum.inr (1, o0)), (1, Sum.inr (2, o1)), (2, Sum.inl (Value.int v2)), (3, Sum.inl (Value.int v3)), (4, Sum.inl (Value.int v4)), (5, Sum.inl (Value.int v5))] [] h 0 0 = (
  mv_gd (decide (nI 0 = nI 0) && (decide (nI 0 = nI 0) && (!decide ((nI 8) < 0) && (Nat.ble (nI 8).toNatClampNeg 8 && Nat.ble (nI 8).toNatClampNeg 8)))) <|
  mv_bh (cp2 h 302 o1 3 (nI 8).toNatClampNeg 0) fun h1 =>
  mv_gd (mv_inb v2 8) <|
  mv_gd (mv_inb v2 8) <|
  mv_bh (wI2 h1 305 3 v2.toNatClampNeg (rI2 h1 305 o1 v2.toNatClampNeg)) fun h2 =>
  mv_gd (mv_inb v2 8) <|
  mv_gd (mv_inb v2 8) <|
  mv_bh (wI2 h2 306 3 v2.toNatClampNeg (rI2 h2 306 o1 v2.toNatClampNeg)) fun h3 =>
  mv_bi (v4 - (nI 1)) fun x4 =>
  q54 o0 v2 v3 v5 x4 h3) := rfl
theorem GF_leadsTo : ∀ (j : Nat) (C : mv_C H2) (md' : mv_MD × Bool), mv_nth j gF_leadsTo = some C → mv_nth j nF_leadsTo = some md' → ∃ n', n' + 1 ≤ 3 ∧ mv_Cal vw2 n' md' C := fun j C md' => match j with
  | 0 => fun h1 h2 => by
    obtain rfl := Option.some.inj h1
    obtain rfl := Option.some.inj h2
    exact ⟨2, by decide, cM_dipInto_ok⟩
  | jj + 1 => fun h1 _ => by cases jj <;> cases h1

set_option maxRecDepth 20000 in
theorem xF_leadsTo_b54 {g0 : mv_G} {res : List mv_V × H2} : ∀ (n : Nat) (o0 : Nat) (v2 : Int32) (v3 : Int32) (v5 : Int32) (v6 : Int32) (h : H2), fF_leadsTo_b54 n o0 v2 v3 v5 v6 h = some res → mv_X vw2 mdF_leadsTo 3 0 0 none g0 res 54 [(0, Sum.inr (1, o0)), (2, Sum.inl (Value.int v2)), (3, Sum.inl (Value.int v3)), (5, Sum.inl (Value.int v5)), (6, Sum.inl (Value.int v6))] [] h 0 0 := by
  intro n
  induction n with
  | zero => intro o0 v2 v3 v5 v6 h hh; cases hh
  | succ n ih =>
    intro o0 v2 v3 v5 v6 h hh
    refine mv_blkX ax2 (GF_leadsTo) (by decide) kF_leadsTo (fun pc lv st h ce sl hh => ?_) ((eF_leadsTo_b54 (fF_leadsTo_b54 n) o0 v2 v3 v5 v6 h).trans hh)
    obtain ⟨hg, hh1⟩ := mv_gd_some hh
    obtain ⟨rfl, rfl⟩ := mv_z2 hg
    rcases mv_cond_some hh1 with ⟨hb, hh2⟩ | ⟨hb, hh3⟩
    · obtain rfl := Nat.eq_of_beq_eq_true hb
      obtain ⟨o0, m0, hh4⟩ := mv_gR_some hh2
      obtain ⟨v2, m1, hh5⟩ := mv_gI_some hh4
      obtain ⟨v3, m2, hh6⟩ := mv_gI_some hh5
      obtain ⟨v5, m3, hh7⟩ := mv_gI_some hh6
      obtain ⟨v6, m4, hh8⟩ := mv_gI_some hh7
      obtain ⟨rfl, hh9⟩ := mv_sE_some hh8
      exact (ih o0 v2 v3 v5 v6 h hh9).sub (List.forall_mem_cons.mpr ⟨m0, (List.forall_mem_cons.mpr ⟨m1, (List.forall_mem_cons.mpr ⟨m2, (List.forall_mem_cons.mpr ⟨m3, (List.forall_mem_cons.mpr ⟨m4, (fun q hq => by cases hq)⟩)⟩)⟩)⟩)⟩)
    cases hh3

set_option maxRecDepth 20000 in
theorem xF_leadsTo {g0 : mv_G} {res : List mv_V × H2} (o0 : Nat) (o1 : Nat) (v2 : Int32) (v3 : Int32) (v4 : Int32) (v5 : Int32) (h : H2) (hh : fF_leadsTo o0 o1 v2 v3 v4 v5 h = some res) : mv_X vw2 mdF_leadsTo 3 0 0 none g0 res 0 [(0, Sum.inr (1, o0)), (1, Sum.inr (2, o1)), (2, Sum.inl (Value.int v2)), (3, Sum.inl (Value.int v3)), (4, Sum.inl (Value.int v4)), (5, Sum.inl (Value.int v5))] [] h 0 0 := by
  refine mv_blkX ax2 (GF_leadsTo) (by decide) kF_leadsTo (fun pc lv st h ce sl hh => ?_) ((eF_leadsTo (fF_leadsTo_b54 1000) o0 o1 v2 v3 v4 v5 h).trans hh)
  obtain ⟨hg, hh1⟩ := mv_gd_some hh
  obtain ⟨rfl, rfl⟩ := mv_z2 hg
  rcases mv_cond_some hh1 with ⟨hb, hh2⟩ | ⟨hb, hh3⟩
  · obtain rfl := Nat.eq_of_beq_eq_true hb
    obtain ⟨o0, m0, hh4⟩ := mv_gR_some hh2
    obtain ⟨v2, m1, hh5⟩ := mv_gI_some hh4
    obtain ⟨v3, m2, hh6⟩ := mv_gI_some hh5
    obtain ⟨v5, m3, hh7⟩ := mv_gI_some hh6
    obtain ⟨v6, m4, hh8⟩ := mv_gI_some hh7
    obtain ⟨rfl, hh9⟩ := mv_sE_some hh8
    exact (xF_leadsTo_b54 1000 o0 v2 v3 v5 v6 h hh9).sub (List.forall_mem_cons.mpr ⟨m0, (List.forall_mem_cons.mpr ⟨m1, (List.forall_mem_cons.mpr ⟨m2, (List.forall_mem_cons.mpr ⟨m3, (List.forall_mem_cons.mpr ⟨m4, (fun q hq => by cases hq)⟩)⟩)⟩)⟩)⟩)
  cases hh3

theorem mF_leadsTo (o0 : Nat) (o1 : Nat) (v2 : Int32) (v3 : Int32) (v4 : Int32) (v5 : Int32) (h : H2) (vs : List mv_V) (h' : H2) (hh : fF_leadsTo o0 o1 v2 v3 v4 v5 h = some (vs, h')) : mv_Met vw2 3 0 0 mdF_leadsTo [Sum.inr (1, o0), Sum.inr (2, o1), Sum.inl (Value.int v2), Sum.inl (Value.int v3), Sum.inl (Value.int v4), Sum.inl (Value.int v5)] h vs h' :=
  mv_Met_of (by decide +kernel) (Nat.le_of_ble_eq_true rfl) (xF_leadsTo o0 o1 v2 v3 v4 v5 h hh)
theorem cF_leadsTo_ok : mv_Cal vw2 3 (mdF_leadsTo, true) ((0, 0), cF_leadsTo) := by
  intro as h k res hh
  change cF_leadsTo as h k = some res at hh
  unfold cF_leadsTo at hh
  split at hh
  · obtain ⟨hg0, ha0⟩ := mv_gd_some hh
    obtain rfl := Nat.eq_of_beq_eq_true hg0
    obtain ⟨hg1, ha1⟩ := mv_gd_some ha0
    obtain rfl := Nat.eq_of_beq_eq_true hg1
    obtain ⟨x, h', h1, h9⟩ := mv_rI_some ha1
    exact ⟨_, _, h9, (by first | decide | exact Nat.le_refl _ | exact Nat.zero_le _), fun _ => ⟨_, _, _, rfl, Or.inl ⟨by decide, rfl⟩⟩, (mF_leadsTo _ _ _ _ _ _ h _ _ h1)⟩
  · cases hh

set_option maxRecDepth 100000 in
theorem kF_vatsThrough : mv_tok mdF_vatsThrough nF_vatsThrough tF_vatsThrough = true := by decide +kernel
set_option maxRecDepth 100000 in
set_option maxHeartbeats 1000000 in
theorem eF_vatsThrough_b23 (q14 : Nat → Nat → Int32 → Int32 → Int32 → Int32 → H2 → O2) (q23 : Nat → Nat → Int32 → Int32 → Int32 → Int32 → Int32 → H2 → O2) (o0 : Nat) (o1 : Nat) (v2 : Int32) (v3 : Int32) (v4 : Int32) (v5 : Int32) (v6 : Int32) (h : H2) : mv_blk rI2 rR2 ln2 wI2 wR2 nw2 cp2 bod none tF_vatsThrough gF_vatsThrough 0 0 [14, 23] (fun pc lv st h ce sl => mv_gd (Nat.beq ce 0 && Nat.beq sl 0) (cond (Nat.beq pc 14) (mv_gR 0 1 lv fun o0 => mv_gR 1 2 lv fun o1 => mv_gI 2 lv fun v2 => mv_gI 3 lv fun v3 => mv_gI 4 lv fun v4 => mv_gI 5 lv fun v5 => mv_sE st (q14 o0 o1 v2 v3 v4 v5 h)) (cond (Nat.beq pc 23) (mv_gR 0 1 lv fun o0 => mv_gR 1 2 lv fun o1 => mv_gI 2 lv fun v2 => mv_gI 3 lv fun v3 => mv_gI 4 lv fun v4 => mv_gI 5 lv fun v5 => mv_gI 6 lv fun v6 => mv_sE st (q23 o0 o1 v2 v3 v4 v5 v6 h)) (none)))) 400 (mv_seek 23 tF_vatsThrough) [(0, Sum.inr (1, o0)), (1, Sum.inr (2, o1)), (2, Sum.inl (Value.int v2)), (3, Sum.inl (Value.int v3)), (4, Sum.inl (Value.int v4)), (5, Sum.inl (Value.int v5)), (6, Sum.inl (Value.int v6))] [] h 0 0 = (
  if v4 ≤ v6 then (
    mv_bi (v4 * (nI 8)) fun x1 =>
    mv_bi (v5 + (nI 1)) fun x2 =>
    q14 o0 o1 v2 v3 x1 x2 h)
  else
  mv_rI (fF_leadsTo o0 o1 v2 v3 v5 v6 h) fun r4 h3 =>
  if r4 = 0 then (
    mv_bi (v6 + (nI 1)) fun x5 =>
    q23 o0 o1 v2 v3 v4 v5 x5 h3)
  else
  some ([Sum.inl (Value.int (v4 + v6))], h3)) := rfl
set_option maxRecDepth 100000 in
set_option maxHeartbeats 1000000 in
theorem eF_vatsThrough_b14 (q23 : Nat → Nat → Int32 → Int32 → Int32 → Int32 → Int32 → H2 → O2) (o0 : Nat) (o1 : Nat) (v2 : Int32) (v3 : Int32) (v4 : Int32) (v5 : Int32) (h : H2) : mv_blk rI2 rR2 ln2 wI2 wR2 nw2 cp2 bod none tF_vatsThrough gF_vatsThrough 0 0 [23] (fun pc lv st h ce sl => mv_gd (Nat.beq ce 0 && Nat.beq sl 0) (cond (Nat.beq pc 23) (mv_gR 0 1 lv fun o0 => mv_gR 1 2 lv fun o1 => mv_gI 2 lv fun v2 => mv_gI 3 lv fun v3 => mv_gI 4 lv fun v4 => mv_gI 5 lv fun v5 => mv_gI 6 lv fun v6 => mv_sE st (q23 o0 o1 v2 v3 v4 v5 v6 h)) (none))) 400 (mv_seek 14 tF_vatsThrough) [(0, Sum.inr (1, o0)), (1, Sum.inr (2, o1)), (2, Sum.inl (Value.int v2)), (3, Sum.inl (Value.int v3)), (4, Sum.inl (Value.int v4)), (5, Sum.inl (Value.int v5))] [] h 0 0 = (
  if (nI 3) < v5 then (
    some ([Sum.inl (Value.int (-(nI 3)))], h))
  else
  mv_bi (nI 0) fun x1 =>
  q23 o0 o1 v2 v3 v4 v5 x1 h) := rfl
set_option maxRecDepth 100000 in
set_option maxHeartbeats 1000000 in
theorem eF_vatsThrough (q14 : Nat → Nat → Int32 → Int32 → Int32 → Int32 → H2 → O2) (o0 : Nat) (o1 : Nat) (v2 : Int32) (v3 : Int32) (h : H2) : mv_blk rI2 rR2 ln2 wI2 wR2 nw2 cp2 bod none tF_vatsThrough gF_vatsThrough 0 0 [14] (fun pc lv st h ce sl => mv_gd (Nat.beq ce 0 && Nat.beq sl 0) (cond (Nat.beq pc 14) (mv_gR 0 1 lv fun o0 => mv_gR 1 2 lv fun o1 => mv_gI 2 lv fun v2 => mv_gI 3 lv fun v3 => mv_gI 4 lv fun v4 => mv_gI 5 lv fun v5 => mv_sE st (q14 o0 o1 v2 v3 v4 v5 h)) (none))) 400 (mv_seek 0 tF_vatsThrough) [(0, Sum.inr (1, o0)), (1, Sum.inr (2, o1)), (2, Sum.inl (Value.int v2)), (3, Sum.inl (Value.int v3))] [] h 0 0 = (
  mv_rV (fM_copyFrom 3 o1 h) fun h1 =>
  mv_bi (nI 1) fun x2 =>
  mv_bi (nI 0) fun x3 =>
  q14 o0 o1 v2 v3 x2 x3 h1) := rfl
theorem GF_vatsThrough : ∀ (j : Nat) (C : mv_C H2) (md' : mv_MD × Bool), mv_nth j gF_vatsThrough = some C → mv_nth j nF_vatsThrough = some md' → ∃ n', n' + 1 ≤ 4 ∧ mv_Cal vw2 n' md' C := fun j C md' => match j with
  | 0 => fun h1 h2 => by
    obtain rfl := Option.some.inj h1
    obtain rfl := Option.some.inj h2
    exact ⟨1, by decide, cM_copyFrom_ok⟩
  | 1 => fun h1 h2 => by
    obtain rfl := Option.some.inj h1
    obtain rfl := Option.some.inj h2
    exact ⟨3, by decide, cF_leadsTo_ok⟩
  | jj + 2 => fun h1 _ => by cases jj <;> cases h1

set_option maxRecDepth 20000 in
theorem xF_vatsThrough_b23 {g0 : mv_G} {res : List mv_V × H2} {k14 : Nat → Nat → Int32 → Int32 → Int32 → Int32 → H2 → O2} (hk14 : ∀ (o0 : Nat) (o1 : Nat) (v2 : Int32) (v3 : Int32) (v4 : Int32) (v5 : Int32) h, k14 o0 o1 v2 v3 v4 v5 h = some res → mv_X vw2 mdF_vatsThrough 4 0 0 none g0 res 14 [(0, Sum.inr (1, o0)), (1, Sum.inr (2, o1)), (2, Sum.inl (Value.int v2)), (3, Sum.inl (Value.int v3)), (4, Sum.inl (Value.int v4)), (5, Sum.inl (Value.int v5))] [] h 0 0) : ∀ (n : Nat) (o0 : Nat) (o1 : Nat) (v2 : Int32) (v3 : Int32) (v4 : Int32) (v5 : Int32) (v6 : Int32) (h : H2), fF_vatsThrough_b23 k14 n o0 o1 v2 v3 v4 v5 v6 h = some res → mv_X vw2 mdF_vatsThrough 4 0 0 none g0 res 23 [(0, Sum.inr (1, o0)), (1, Sum.inr (2, o1)), (2, Sum.inl (Value.int v2)), (3, Sum.inl (Value.int v3)), (4, Sum.inl (Value.int v4)), (5, Sum.inl (Value.int v5)), (6, Sum.inl (Value.int v6))] [] h 0 0 := by
  intro n
  induction n with
  | zero => intro o0 o1 v2 v3 v4 v5 v6 h hh; cases hh
  | succ n ih =>
    intro o0 o1 v2 v3 v4 v5 v6 h hh
    refine mv_blkX ax2 (GF_vatsThrough) (by decide) kF_vatsThrough (fun pc lv st h ce sl hh => ?_) ((eF_vatsThrough_b23 (k14) (fF_vatsThrough_b23 k14 n) o0 o1 v2 v3 v4 v5 v6 h).trans hh)
    obtain ⟨hg, hh1⟩ := mv_gd_some hh
    obtain ⟨rfl, rfl⟩ := mv_z2 hg
    rcases mv_cond_some hh1 with ⟨hb, hh2⟩ | ⟨hb, hh3⟩
    · obtain rfl := Nat.eq_of_beq_eq_true hb
      obtain ⟨o0, m0, hh4⟩ := mv_gR_some hh2
      obtain ⟨o1, m1, hh5⟩ := mv_gR_some hh4
      obtain ⟨v2, m2, hh6⟩ := mv_gI_some hh5
      obtain ⟨v3, m3, hh7⟩ := mv_gI_some hh6
      obtain ⟨v4, m4, hh8⟩ := mv_gI_some hh7
      obtain ⟨v5, m5, hh9⟩ := mv_gI_some hh8
      obtain ⟨rfl, hh10⟩ := mv_sE_some hh9
      exact (hk14 o0 o1 v2 v3 v4 v5 h hh10).sub (List.forall_mem_cons.mpr ⟨m0, (List.forall_mem_cons.mpr ⟨m1, (List.forall_mem_cons.mpr ⟨m2, (List.forall_mem_cons.mpr ⟨m3, (List.forall_mem_cons.mpr ⟨m4, (List.forall_mem_cons.mpr ⟨m5, (fun q hq => by cases hq)⟩)⟩)⟩)⟩)⟩)⟩)
    rcases mv_cond_some hh3 with ⟨hb, hh11⟩ | ⟨hb, hh12⟩
    · obtain rfl := Nat.eq_of_beq_eq_true hb
      obtain ⟨o0, m0, hh13⟩ := mv_gR_some hh11
      obtain ⟨o1, m1, hh14⟩ := mv_gR_some hh13
      obtain ⟨v2, m2, hh15⟩ := mv_gI_some hh14
      obtain ⟨v3, m3, hh16⟩ := mv_gI_some hh15
      obtain ⟨v4, m4, hh17⟩ := mv_gI_some hh16
      obtain ⟨v5, m5, hh18⟩ := mv_gI_some hh17
      obtain ⟨v6, m6, hh19⟩ := mv_gI_some hh18
      obtain ⟨rfl, hh20⟩ := mv_sE_some hh19
      exact (ih o0 o1 v2 v3 v4 v5 v6 h hh20).sub (List.forall_mem_cons.mpr ⟨m0, (List.forall_mem_cons.mpr ⟨m1, (List.forall_mem_cons.mpr ⟨m2, (List.forall_mem_cons.mpr ⟨m3, (List.forall_mem_cons.mpr ⟨m4, (List.forall_mem_cons.mpr ⟨m5, (List.forall_mem_cons.mpr ⟨m6, (fun q hq => by cases hq)⟩)⟩)⟩)⟩)⟩)⟩)⟩)
    cases hh12

set_option maxRecDepth 20000 in
theorem xF_vatsThrough_b14 {g0 : mv_G} {res : List mv_V × H2} : ∀ (n : Nat) (o0 : Nat) (o1 : Nat) (v2 : Int32) (v3 : Int32) (v4 : Int32) (v5 : Int32) (h : H2), fF_vatsThrough_b14 n o0 o1 v2 v3 v4 v5 h = some res → mv_X vw2 mdF_vatsThrough 4 0 0 none g0 res 14 [(0, Sum.inr (1, o0)), (1, Sum.inr (2, o1)), (2, Sum.inl (Value.int v2)), (3, Sum.inl (Value.int v3)), (4, Sum.inl (Value.int v4)), (5, Sum.inl (Value.int v5))] [] h 0 0 := by
  intro n
  induction n with
  | zero => intro o0 o1 v2 v3 v4 v5 h hh; cases hh
  | succ n ih =>
    intro o0 o1 v2 v3 v4 v5 h hh
    refine mv_blkX ax2 (GF_vatsThrough) (by decide) kF_vatsThrough (fun pc lv st h ce sl hh => ?_) ((eF_vatsThrough_b14 (fF_vatsThrough_b23 (fF_vatsThrough_b14 n) 1000) o0 o1 v2 v3 v4 v5 h).trans hh)
    obtain ⟨hg, hh1⟩ := mv_gd_some hh
    obtain ⟨rfl, rfl⟩ := mv_z2 hg
    rcases mv_cond_some hh1 with ⟨hb, hh2⟩ | ⟨hb, hh3⟩
    · obtain rfl := Nat.eq_of_beq_eq_true hb
      obtain ⟨o0, m0, hh4⟩ := mv_gR_some hh2
      obtain ⟨o1, m1, hh5⟩ := mv_gR_some hh4
      obtain ⟨v2, m2, hh6⟩ := mv_gI_some hh5
      obtain ⟨v3, m3, hh7⟩ := mv_gI_some hh6
      obtain ⟨v4, m4, hh8⟩ := mv_gI_some hh7
      obtain ⟨v5, m5, hh9⟩ := mv_gI_some hh8
      obtain ⟨v6, m6, hh10⟩ := mv_gI_some hh9
      obtain ⟨rfl, hh11⟩ := mv_sE_some hh10
      exact (xF_vatsThrough_b23 ih 1000 o0 o1 v2 v3 v4 v5 v6 h hh11).sub (List.forall_mem_cons.mpr ⟨m0, (List.forall_mem_cons.mpr ⟨m1, (List.forall_mem_cons.mpr ⟨m2, (List.forall_mem_cons.mpr ⟨m3, (List.forall_mem_cons.mpr ⟨m4, (List.forall_mem_cons.mpr ⟨m5, (List.forall_mem_cons.mpr ⟨m6, (fun q hq => by cases hq)⟩)⟩)⟩)⟩)⟩)⟩)⟩)
    cases hh3

set_option maxRecDepth 20000 in
theorem xF_vatsThrough {g0 : mv_G} {res : List mv_V × H2} (o0 : Nat) (o1 : Nat) (v2 : Int32) (v3 : Int32) (h : H2) (hh : fF_vatsThrough o0 o1 v2 v3 h = some res) : mv_X vw2 mdF_vatsThrough 4 0 0 none g0 res 0 [(0, Sum.inr (1, o0)), (1, Sum.inr (2, o1)), (2, Sum.inl (Value.int v2)), (3, Sum.inl (Value.int v3))] [] h 0 0 := by
  refine mv_blkX ax2 (GF_vatsThrough) (by decide) kF_vatsThrough (fun pc lv st h ce sl hh => ?_) ((eF_vatsThrough (fF_vatsThrough_b14 1000) o0 o1 v2 v3 h).trans hh)
  obtain ⟨hg, hh1⟩ := mv_gd_some hh
  obtain ⟨rfl, rfl⟩ := mv_z2 hg
  rcases mv_cond_some hh1 with ⟨hb, hh2⟩ | ⟨hb, hh3⟩
  · obtain rfl := Nat.eq_of_beq_eq_true hb
    obtain ⟨o0, m0, hh4⟩ := mv_gR_some hh2
    obtain ⟨o1, m1, hh5⟩ := mv_gR_some hh4
    obtain ⟨v2, m2, hh6⟩ := mv_gI_some hh5
    obtain ⟨v3, m3, hh7⟩ := mv_gI_some hh6
    obtain ⟨v4, m4, hh8⟩ := mv_gI_some hh7
    obtain ⟨v5, m5, hh9⟩ := mv_gI_some hh8
    obtain ⟨rfl, hh10⟩ := mv_sE_some hh9
    exact (xF_vatsThrough_b14 1000 o0 o1 v2 v3 v4 v5 h hh10).sub (List.forall_mem_cons.mpr ⟨m0, (List.forall_mem_cons.mpr ⟨m1, (List.forall_mem_cons.mpr ⟨m2, (List.forall_mem_cons.mpr ⟨m3, (List.forall_mem_cons.mpr ⟨m4, (List.forall_mem_cons.mpr ⟨m5, (fun q hq => by cases hq)⟩)⟩)⟩)⟩)⟩)⟩)
  cases hh3

theorem mF_vatsThrough (o0 : Nat) (o1 : Nat) (v2 : Int32) (v3 : Int32) (h : H2) (vs : List mv_V) (h' : H2) (hh : fF_vatsThrough o0 o1 v2 v3 h = some (vs, h')) : mv_Met vw2 4 0 0 mdF_vatsThrough [Sum.inr (1, o0), Sum.inr (2, o1), Sum.inl (Value.int v2), Sum.inl (Value.int v3)] h vs h' :=
  mv_Met_of (by decide +kernel) (Nat.le_of_ble_eq_true rfl) (xF_vatsThrough o0 o1 v2 v3 h hh)
theorem cF_vatsThrough_ok : mv_Cal vw2 4 (mdF_vatsThrough, true) ((0, 0), cF_vatsThrough) := by
  intro as h k res hh
  change cF_vatsThrough as h k = some res at hh
  unfold cF_vatsThrough at hh
  split at hh
  · obtain ⟨hg0, ha0⟩ := mv_gd_some hh
    obtain rfl := Nat.eq_of_beq_eq_true hg0
    obtain ⟨hg1, ha1⟩ := mv_gd_some ha0
    obtain rfl := Nat.eq_of_beq_eq_true hg1
    obtain ⟨x, h', h1, h9⟩ := mv_rI_some ha1
    exact ⟨_, _, h9, (by first | decide | exact Nat.le_refl _ | exact Nat.zero_le _), fun _ => ⟨_, _, _, rfl, Or.inl ⟨by decide, rfl⟩⟩, (mF_vatsThrough _ _ _ _ h _ _ h1)⟩
  · cases hh

set_option maxRecDepth 100000 in
theorem kF_deepestVat : mv_tok mdF_deepestVat nF_deepestVat tF_deepestVat = true := by decide +kernel
set_option maxRecDepth 100000 in
set_option maxHeartbeats 1000000 in
theorem eF_deepestVat_b9 (q9 : Nat → Nat → Int32 → Int32 → Int32 → Int32 → Int32 → H2 → O2) (o0 : Nat) (o1 : Nat) (v2 : Int32) (v3 : Int32) (v4 : Int32) (v5 : Int32) (v6 : Int32) (h : H2) : mv_blk rI2 rR2 ln2 wI2 wR2 nw2 cp2 bod none tF_deepestVat gF_deepestVat 0 0 [9] (fun pc lv st h ce sl => mv_gd (Nat.beq ce 0 && Nat.beq sl 0) (cond (Nat.beq pc 9) (mv_gR 0 1 lv fun o0 => mv_gR 1 2 lv fun o1 => mv_gI 2 lv fun v2 => mv_gI 3 lv fun v3 => mv_gI 4 lv fun v4 => mv_gI 5 lv fun v5 => mv_gI 6 lv fun v6 => mv_sE st (q9 o0 o1 v2 v3 v4 v5 v6 h)) (none))) 400 (mv_seek 9 tF_deepestVat) [(0, Sum.inr (1, o0)), (1, Sum.inr (2, o1)), (2, Sum.inl (Value.int v2)), (3, Sum.inl (Value.int v3)), (4, Sum.inl (Value.int v4)), (5, Sum.inl (Value.int v5)), (6, Sum.inl (Value.int v6))] [] h 0 0 = (
  if (nI 8) ≤ v6 then (
    some ([Sum.inl (Value.int v4)], h))
  else
  mv_rV (fM_copyFrom 3 o1 h) fun h1 =>
  mv_gd (mv_inb v2 6) <|
  mv_bh (wI2 h1 303 3 v2.toNatClampNeg v6) fun h2 =>
  mv_rV (fM_passDays 3 v3 h2) fun h3 =>
  mv_rI (fM_allDepths 3 h3) fun r5 h4 =>
  mv_bi r5 fun x6 =>
  if x6 ≤ v5 then (
    mv_bi (v6 + (nI 1)) fun x7 =>
    q9 o0 o1 v2 v3 v4 v5 x7 h4)
  else
  mv_bi x6 fun x8 =>
  mv_bi v6 fun x9 =>
  mv_bi (v6 + (nI 1)) fun x10 =>
  q9 o0 o1 v2 v3 x9 x8 x10 h4) := rfl
set_option maxRecDepth 100000 in
set_option maxHeartbeats 1000000 in
theorem eF_deepestVat (q9 : Nat → Nat → Int32 → Int32 → Int32 → Int32 → Int32 → H2 → O2) (o0 : Nat) (o1 : Nat) (v2 : Int32) (v3 : Int32) (h : H2) : mv_blk rI2 rR2 ln2 wI2 wR2 nw2 cp2 bod none tF_deepestVat gF_deepestVat 0 0 [9] (fun pc lv st h ce sl => mv_gd (Nat.beq ce 0 && Nat.beq sl 0) (cond (Nat.beq pc 9) (mv_gR 0 1 lv fun o0 => mv_gR 1 2 lv fun o1 => mv_gI 2 lv fun v2 => mv_gI 3 lv fun v3 => mv_gI 4 lv fun v4 => mv_gI 5 lv fun v5 => mv_gI 6 lv fun v6 => mv_sE st (q9 o0 o1 v2 v3 v4 v5 v6 h)) (none))) 400 (mv_seek 0 tF_deepestVat) [(0, Sum.inr (1, o0)), (1, Sum.inr (2, o1)), (2, Sum.inl (Value.int v2)), (3, Sum.inl (Value.int v3))] [] h 0 0 = (
  mv_bi (nI 0) fun x1 =>
  mv_bi (-(nI 1)) fun x2 =>
  mv_bi (nI 0) fun x3 =>
  q9 o0 o1 v2 v3 x1 x2 x3 h) := rfl
theorem GF_deepestVat : ∀ (j : Nat) (C : mv_C H2) (md' : mv_MD × Bool), mv_nth j gF_deepestVat = some C → mv_nth j nF_deepestVat = some md' → ∃ n', n' + 1 ≤ 5 ∧ mv_Cal vw2 n' md' C := fun j C md' => match j with
  | 0 => fun h1 h2 => by
    obtain rfl := Option.some.inj h1
    obtain rfl := Option.some.inj h2
    exact ⟨1, by decide, cM_copyFrom_ok⟩
  | 1 => fun h1 h2 => by
    obtain rfl := Option.some.inj h1
    obtain rfl := Option.some.inj h2
    exact ⟨4, by decide, cM_passDays_ok⟩
  | 2 => fun h1 h2 => by
    obtain rfl := Option.some.inj h1
    obtain rfl := Option.some.inj h2
    exact ⟨1, by decide, cM_allDepths_ok⟩
  | jj + 3 => fun h1 _ => by cases jj <;> cases h1

set_option maxRecDepth 20000 in
theorem xF_deepestVat_b9 {g0 : mv_G} {res : List mv_V × H2} : ∀ (n : Nat) (o0 : Nat) (o1 : Nat) (v2 : Int32) (v3 : Int32) (v4 : Int32) (v5 : Int32) (v6 : Int32) (h : H2), fF_deepestVat_b9 n o0 o1 v2 v3 v4 v5 v6 h = some res → mv_X vw2 mdF_deepestVat 5 0 0 none g0 res 9 [(0, Sum.inr (1, o0)), (1, Sum.inr (2, o1)), (2, Sum.inl (Value.int v2)), (3, Sum.inl (Value.int v3)), (4, Sum.inl (Value.int v4)), (5, Sum.inl (Value.int v5)), (6, Sum.inl (Value.int v6))] [] h 0 0 := by
  intro n
  induction n with
  | zero => intro o0 o1 v2 v3 v4 v5 v6 h hh; cases hh
  | succ n ih =>
    intro o0 o1 v2 v3 v4 v5 v6 h hh
    refine mv_blkX ax2 (GF_deepestVat) (by decide) kF_deepestVat (fun pc lv st h ce sl hh => ?_) ((eF_deepestVat_b9 (fF_deepestVat_b9 n) o0 o1 v2 v3 v4 v5 v6 h).trans hh)
    obtain ⟨hg, hh1⟩ := mv_gd_some hh
    obtain ⟨rfl, rfl⟩ := mv_z2 hg
    rcases mv_cond_some hh1 with ⟨hb, hh2⟩ | ⟨hb, hh3⟩
    · obtain rfl := Nat.eq_of_beq_eq_true hb
      obtain ⟨o0, m0, hh4⟩ := mv_gR_some hh2
      obtain ⟨o1, m1, hh5⟩ := mv_gR_some hh4
      obtain ⟨v2, m2, hh6⟩ := mv_gI_some hh5
      obtain ⟨v3, m3, hh7⟩ := mv_gI_some hh6
      obtain ⟨v4, m4, hh8⟩ := mv_gI_some hh7
      obtain ⟨v5, m5, hh9⟩ := mv_gI_some hh8
      obtain ⟨v6, m6, hh10⟩ := mv_gI_some hh9
      obtain ⟨rfl, hh11⟩ := mv_sE_some hh10
      exact (ih o0 o1 v2 v3 v4 v5 v6 h hh11).sub (List.forall_mem_cons.mpr ⟨m0, (List.forall_mem_cons.mpr ⟨m1, (List.forall_mem_cons.mpr ⟨m2, (List.forall_mem_cons.mpr ⟨m3, (List.forall_mem_cons.mpr ⟨m4, (List.forall_mem_cons.mpr ⟨m5, (List.forall_mem_cons.mpr ⟨m6, (fun q hq => by cases hq)⟩)⟩)⟩)⟩)⟩)⟩)⟩)
    cases hh3

set_option maxRecDepth 20000 in
theorem xF_deepestVat {g0 : mv_G} {res : List mv_V × H2} (o0 : Nat) (o1 : Nat) (v2 : Int32) (v3 : Int32) (h : H2) (hh : fF_deepestVat o0 o1 v2 v3 h = some res) : mv_X vw2 mdF_deepestVat 5 0 0 none g0 res 0 [(0, Sum.inr (1, o0)), (1, Sum.inr (2, o1)), (2, Sum.inl (Value.int v2)), (3, Sum.inl (Value.int v3))] [] h 0 0 := by
  refine mv_blkX ax2 (GF_deepestVat) (by decide) kF_deepestVat (fun pc lv st h ce sl hh => ?_) ((eF_deepestVat (fF_deepestVat_b9 1000) o0 o1 v2 v3 h).trans hh)
  obtain ⟨hg, hh1⟩ := mv_gd_some hh
  obtain ⟨rfl, rfl⟩ := mv_z2 hg
  rcases mv_cond_some hh1 with ⟨hb, hh2⟩ | ⟨hb, hh3⟩
  · obtain rfl := Nat.eq_of_beq_eq_true hb
    obtain ⟨o0, m0, hh4⟩ := mv_gR_some hh2
    obtain ⟨o1, m1, hh5⟩ := mv_gR_some hh4
    obtain ⟨v2, m2, hh6⟩ := mv_gI_some hh5
    obtain ⟨v3, m3, hh7⟩ := mv_gI_some hh6
    obtain ⟨v4, m4, hh8⟩ := mv_gI_some hh7
    obtain ⟨v5, m5, hh9⟩ := mv_gI_some hh8
    obtain ⟨v6, m6, hh10⟩ := mv_gI_some hh9
    obtain ⟨rfl, hh11⟩ := mv_sE_some hh10
    exact (xF_deepestVat_b9 1000 o0 o1 v2 v3 v4 v5 v6 h hh11).sub (List.forall_mem_cons.mpr ⟨m0, (List.forall_mem_cons.mpr ⟨m1, (List.forall_mem_cons.mpr ⟨m2, (List.forall_mem_cons.mpr ⟨m3, (List.forall_mem_cons.mpr ⟨m4, (List.forall_mem_cons.mpr ⟨m5, (List.forall_mem_cons.mpr ⟨m6, (fun q hq => by cases hq)⟩)⟩)⟩)⟩)⟩)⟩)⟩)
  cases hh3

theorem mF_deepestVat (o0 : Nat) (o1 : Nat) (v2 : Int32) (v3 : Int32) (h : H2) (vs : List mv_V) (h' : H2) (hh : fF_deepestVat o0 o1 v2 v3 h = some (vs, h')) : mv_Met vw2 5 0 0 mdF_deepestVat [Sum.inr (1, o0), Sum.inr (2, o1), Sum.inl (Value.int v2), Sum.inl (Value.int v3)] h vs h' :=
  mv_Met_of (by decide +kernel) (Nat.le_of_ble_eq_true rfl) (xF_deepestVat o0 o1 v2 v3 h hh)
theorem cF_deepestVat_ok : mv_Cal vw2 5 (mdF_deepestVat, true) ((0, 0), cF_deepestVat) := by
  intro as h k res hh
  change cF_deepestVat as h k = some res at hh
  unfold cF_deepestVat at hh
  split at hh
  · obtain ⟨hg0, ha0⟩ := mv_gd_some hh
    obtain rfl := Nat.eq_of_beq_eq_true hg0
    obtain ⟨hg1, ha1⟩ := mv_gd_some ha0
    obtain rfl := Nat.eq_of_beq_eq_true hg1
    obtain ⟨x, h', h1, h9⟩ := mv_rI_some ha1
    exact ⟨_, _, h9, (by first | decide | exact Nat.le_refl _ | exact Nat.zero_le _), fun _ => ⟨_, _, _, rfl, Or.inl ⟨by decide, rfl⟩⟩, (mF_deepestVat _ _ _ _ h _ _ h1)⟩
  · cases hh

set_option maxRecDepth 100000 in
theorem kF_deepestKind : mv_tok mdF_deepestKind nF_deepestKind tF_deepestKind = true := by decide +kernel
set_option maxRecDepth 100000 in
set_option maxHeartbeats 1000000 in
theorem eF_deepestKind_b9 (q9 : Nat → Nat → Int32 → Int32 → Int32 → Int32 → Int32 → H2 → O2) (o0 : Nat) (o1 : Nat) (v2 : Int32) (v3 : Int32) (v4 : Int32) (v5 : Int32) (v6 : Int32) (h : H2) : mv_blk rI2 rR2 ln2 wI2 wR2 nw2 cp2 bod none tF_deepestKind gF_deepestKind 0 0 [9] (fun pc lv st h ce sl => mv_gd (Nat.beq ce 0 && Nat.beq sl 0) (cond (Nat.beq pc 9) (mv_gR 0 1 lv fun o0 => mv_gR 1 2 lv fun o1 => mv_gI 2 lv fun v2 => mv_gI 3 lv fun v3 => mv_gI 4 lv fun v4 => mv_gI 5 lv fun v5 => mv_gI 6 lv fun v6 => mv_sE st (q9 o0 o1 v2 v3 v4 v5 v6 h)) (none))) 400 (mv_seek 9 tF_deepestKind) [(0, Sum.inr (1, o0)), (1, Sum.inr (2, o1)), (2, Sum.inl (Value.int v2)), (3, Sum.inl (Value.int v3)), (4, Sum.inl (Value.int v4)), (5, Sum.inl (Value.int v5)), (6, Sum.inl (Value.int v6))] [] h 0 0 = (
  if (nI 6) ≤ v6 then (
    some ([Sum.inl (Value.int v4)], h))
  else
  mv_rV (fM_copyFrom 3 o1 h) fun h1 =>
  mv_gd (mv_inb v2 8) <|
  mv_bh (wI2 h1 304 3 v2.toNatClampNeg v6) fun h2 =>
  mv_rV (fM_passDays 3 v3 h2) fun h3 =>
  mv_gd (mv_inb v2 8) <|
  if (rI2 h3 306 3 v2.toNatClampNeg) ≤ v5 then (
    mv_bi (v6 + (nI 1)) fun x4 =>
    q9 o0 o1 v2 v3 v4 v5 x4 h3)
  else
  mv_gd (mv_inb v2 8) <|
  mv_bi (rI2 h3 306 3 v2.toNatClampNeg) fun x5 =>
  mv_bi v6 fun x6 =>
  mv_bi (v6 + (nI 1)) fun x7 =>
  q9 o0 o1 v2 v3 x6 x5 x7 h3) := rfl
set_option maxRecDepth 100000 in
set_option maxHeartbeats 1000000 in
theorem eF_deepestKind (q9 : Nat → Nat → Int32 → Int32 → Int32 → Int32 → Int32 → H2 → O2) (o0 : Nat) (o1 : Nat) (v2 : Int32) (v3 : Int32) (h : H2) : mv_blk rI2 rR2 ln2 wI2 wR2 nw2 cp2 bod none tF_deepestKind gF_deepestKind 0 0 [9] (fun pc lv st h ce sl => mv_gd (Nat.beq ce 0 && Nat.beq sl 0) (cond (Nat.beq pc 9) (mv_gR 0 1 lv fun o0 => mv_gR 1 2 lv fun o1 => mv_gI 2 lv fun v2 => mv_gI 3 lv fun v3 => mv_gI 4 lv fun v4 => mv_gI 5 lv fun v5 => mv_gI 6 lv fun v6 => mv_sE st (q9 o0 o1 v2 v3 v4 v5 v6 h)) (none))) 400 (mv_seek 0 tF_deepestKind) [(0, Sum.inr (1, o0)), (1, Sum.inr (2, o1)), (2, Sum.inl (Value.int v2)), (3, Sum.inl (Value.int v3))] [] h 0 0 = (
  mv_bi (nI 0) fun x1 =>
  mv_bi (-(nI 1)) fun x2 =>
  mv_bi (nI 0) fun x3 =>
  q9 o0 o1 v2 v3 x1 x2 x3 h) := rfl
theorem GF_deepestKind : ∀ (j : Nat) (C : mv_C H2) (md' : mv_MD × Bool), mv_nth j gF_deepestKind = some C → mv_nth j nF_deepestKind = some md' → ∃ n', n' + 1 ≤ 5 ∧ mv_Cal vw2 n' md' C := fun j C md' => match j with
  | 0 => fun h1 h2 => by
    obtain rfl := Option.some.inj h1
    obtain rfl := Option.some.inj h2
    exact ⟨1, by decide, cM_copyFrom_ok⟩
  | 1 => fun h1 h2 => by
    obtain rfl := Option.some.inj h1
    obtain rfl := Option.some.inj h2
    exact ⟨4, by decide, cM_passDays_ok⟩
  | jj + 2 => fun h1 _ => by cases jj <;> cases h1

set_option maxRecDepth 20000 in
theorem xF_deepestKind_b9 {g0 : mv_G} {res : List mv_V × H2} : ∀ (n : Nat) (o0 : Nat) (o1 : Nat) (v2 : Int32) (v3 : Int32) (v4 : Int32) (v5 : Int32) (v6 : Int32) (h : H2), fF_deepestKind_b9 n o0 o1 v2 v3 v4 v5 v6 h = some res → mv_X vw2 mdF_deepestKind 5 0 0 none g0 res 9 [(0, Sum.inr (1, o0)), (1, Sum.inr (2, o1)), (2, Sum.inl (Value.int v2)), (3, Sum.inl (Value.int v3)), (4, Sum.inl (Value.int v4)), (5, Sum.inl (Value.int v5)), (6, Sum.inl (Value.int v6))] [] h 0 0 := by
  intro n
  induction n with
  | zero => intro o0 o1 v2 v3 v4 v5 v6 h hh; cases hh
  | succ n ih =>
    intro o0 o1 v2 v3 v4 v5 v6 h hh
    refine mv_blkX ax2 (GF_deepestKind) (by decide) kF_deepestKind (fun pc lv st h ce sl hh => ?_) ((eF_deepestKind_b9 (fF_deepestKind_b9 n) o0 o1 v2 v3 v4 v5 v6 h).trans hh)
    obtain ⟨hg, hh1⟩ := mv_gd_some hh
    obtain ⟨rfl, rfl⟩ := mv_z2 hg
    rcases mv_cond_some hh1 with ⟨hb, hh2⟩ | ⟨hb, hh3⟩
    · obtain rfl := Nat.eq_of_beq_eq_true hb
      obtain ⟨o0, m0, hh4⟩ := mv_gR_some hh2
      obtain ⟨o1, m1, hh5⟩ := mv_gR_some hh4
      obtain ⟨v2, m2, hh6⟩ := mv_gI_some hh5
      obtain ⟨v3, m3, hh7⟩ := mv_gI_some hh6
      obtain ⟨v4, m4, hh8⟩ := mv_gI_some hh7
      obtain ⟨v5, m5, hh9⟩ := mv_gI_some hh8
      obtain ⟨v6, m6, hh10⟩ := mv_gI_some hh9
      obtain ⟨rfl, hh11⟩ := mv_sE_some hh10
      exact (ih o0 o1 v2 v3 v4 v5 v6 h hh11).sub (List.forall_mem_cons.mpr ⟨m0, (List.forall_mem_cons.mpr ⟨m1, (List.forall_mem_cons.mpr ⟨m2, (List.forall_mem_cons.mpr ⟨m3, (List.forall_mem_cons.mpr ⟨m4, (List.forall_mem_cons.mpr ⟨m5, (List.forall_mem_cons.mpr ⟨m6, (fun q hq => by cases hq)⟩)⟩)⟩)⟩)⟩)⟩)⟩)
    cases hh3

set_option maxRecDepth 20000 in
theorem xF_deepestKind {g0 : mv_G} {res : List mv_V × H2} (o0 : Nat) (o1 : Nat) (v2 : Int32) (v3 : Int32) (h : H2) (hh : fF_deepestKind o0 o1 v2 v3 h = some res) : mv_X vw2 mdF_deepestKind 5 0 0 none g0 res 0 [(0, Sum.inr (1, o0)), (1, Sum.inr (2, o1)), (2, Sum.inl (Value.int v2)), (3, Sum.inl (Value.int v3))] [] h 0 0 := by
  refine mv_blkX ax2 (GF_deepestKind) (by decide) kF_deepestKind (fun pc lv st h ce sl hh => ?_) ((eF_deepestKind (fF_deepestKind_b9 1000) o0 o1 v2 v3 h).trans hh)
  obtain ⟨hg, hh1⟩ := mv_gd_some hh
  obtain ⟨rfl, rfl⟩ := mv_z2 hg
  rcases mv_cond_some hh1 with ⟨hb, hh2⟩ | ⟨hb, hh3⟩
  · obtain rfl := Nat.eq_of_beq_eq_true hb
    obtain ⟨o0, m0, hh4⟩ := mv_gR_some hh2
    obtain ⟨o1, m1, hh5⟩ := mv_gR_some hh4
    obtain ⟨v2, m2, hh6⟩ := mv_gI_some hh5
    obtain ⟨v3, m3, hh7⟩ := mv_gI_some hh6
    obtain ⟨v4, m4, hh8⟩ := mv_gI_some hh7
    obtain ⟨v5, m5, hh9⟩ := mv_gI_some hh8
    obtain ⟨v6, m6, hh10⟩ := mv_gI_some hh9
    obtain ⟨rfl, hh11⟩ := mv_sE_some hh10
    exact (xF_deepestKind_b9 1000 o0 o1 v2 v3 v4 v5 v6 h hh11).sub (List.forall_mem_cons.mpr ⟨m0, (List.forall_mem_cons.mpr ⟨m1, (List.forall_mem_cons.mpr ⟨m2, (List.forall_mem_cons.mpr ⟨m3, (List.forall_mem_cons.mpr ⟨m4, (List.forall_mem_cons.mpr ⟨m5, (List.forall_mem_cons.mpr ⟨m6, (fun q hq => by cases hq)⟩)⟩)⟩)⟩)⟩)⟩)⟩)
  cases hh3

theorem mF_deepestKind (o0 : Nat) (o1 : Nat) (v2 : Int32) (v3 : Int32) (h : H2) (vs : List mv_V) (h' : H2) (hh : fF_deepestKind o0 o1 v2 v3 h = some (vs, h')) : mv_Met vw2 5 0 0 mdF_deepestKind [Sum.inr (1, o0), Sum.inr (2, o1), Sum.inl (Value.int v2), Sum.inl (Value.int v3)] h vs h' :=
  mv_Met_of (by decide +kernel) (Nat.le_of_ble_eq_true rfl) (xF_deepestKind o0 o1 v2 v3 h hh)
theorem cF_deepestKind_ok : mv_Cal vw2 5 (mdF_deepestKind, true) ((0, 0), cF_deepestKind) := by
  intro as h k res hh
  change cF_deepestKind as h k = some res at hh
  unfold cF_deepestKind at hh
  split at hh
  · obtain ⟨hg0, ha0⟩ := mv_gd_some hh
    obtain rfl := Nat.eq_of_beq_eq_true hg0
    obtain ⟨hg1, ha1⟩ := mv_gd_some ha0
    obtain rfl := Nat.eq_of_beq_eq_true hg1
    obtain ⟨x, h', h1, h9⟩ := mv_rI_some ha1
    exact ⟨_, _, h9, (by first | decide | exact Nat.le_refl _ | exact Nat.zero_le _), fun _ => ⟨_, _, _, rfl, Or.inl ⟨by decide, rfl⟩⟩, (mF_deepestKind _ _ _ _ h _ _ h1)⟩
  · cases hh

set_option maxRecDepth 100000 in
theorem kF_leastStrength : mv_tok mdF_leastStrength nF_leastStrength tF_leastStrength = true := by decide +kernel
set_option maxRecDepth 100000 in
set_option maxHeartbeats 1000000 in
theorem eF_leastStrength_b3 (q3 : Nat → Nat → Int32 → Int32 → Int32 → Int32 → Int32 → H2 → O2) (o0 : Nat) (o1 : Nat) (v2 : Int32) (v3 : Int32) (v4 : Int32) (v5 : Int32) (v6 : Int32) (h : H2) : mv_blk rI2 rR2 ln2 wI2 wR2 nw2 cp2 bod none tF_leastStrength gF_leastStrength 0 0 [3] (fun pc lv st h ce sl => mv_gd (Nat.beq ce 0 && Nat.beq sl 0) (cond (Nat.beq pc 3) (mv_gR 0 1 lv fun o0 => mv_gR 1 2 lv fun o1 => mv_gI 2 lv fun v2 => mv_gI 3 lv fun v3 => mv_gI 4 lv fun v4 => mv_gI 5 lv fun v5 => mv_gI 6 lv fun v6 => mv_sE st (q3 o0 o1 v2 v3 v4 v5 v6 h)) (none))) 400 (mv_seek 3 tF_leastStrength) [(0, Sum.inr (1, o0)), (1, Sum.inr (2, o1)), (2, Sum.inl (Value.int v2)), (3, Sum.inl (Value.int v3)), (4, Sum.inl (Value.int v4)), (5, Sum.inl (Value.int v5)), (6, Sum.inl (Value.int v6))] [] h 0 0 = (
  if (nI 9) < v6 then (
    some ([Sum.inl (Value.int (-(nI 3)))], h))
  else
  mv_rV (fM_copyFrom 3 o1 h) fun h1 =>
  mv_gd (mv_inb v2 8) <|
  mv_bh (wI2 h1 302 3 v2.toNatClampNeg v6) fun h2 =>
  mv_rV (fM_passDays 3 v5 h2) fun h3 =>
  mv_gd (mv_inb v3 8) <|
  if (rI2 h3 305 3 v3.toNatClampNeg) = v4 then (
    some ([Sum.inl (Value.int v6)], h3))
  else
  mv_bi (v6 + (nI 1)) fun x4 =>
  q3 o0 o1 v2 v3 v4 v5 x4 h3) := rfl
set_option maxRecDepth 100000 in
set_option maxHeartbeats 1000000 in
theorem eF_leastStrength (q3 : Nat → Nat → Int32 → Int32 → Int32 → Int32 → Int32 → H2 → O2) (o0 : Nat) (o1 : Nat) (v2 : Int32) (v3 : Int32) (v4 : Int32) (v5 : Int32) (h : H2) : mv_blk rI2 rR2 ln2 wI2 wR2 nw2 cp2 bod none tF_leastStrength gF_leastStrength 0 0 [3] (fun pc lv st h ce sl => mv_gd (Nat.beq ce 0 && Nat.beq sl 0) (cond (Nat.beq pc 3) (mv_gR 0 1 lv fun o0 => mv_gR 1 2 lv fun o1 => mv_gI 2 lv fun v2 => mv_gI 3 lv fun v3 => mv_gI 4 lv fun v4 => mv_gI 5 lv fun v5 => mv_gI 6 lv fun v6 => mv_sE st (q3 o0 o1 v2 v3 v4 v5 v6 h)) (none))) 400 (mv_seek 0 tF_leastStrength) [(0, Sum.inr (1, o0)), (1, Sum.inr (2, o1)), (2, Sum.inl (Value.int v2)), (3, Sum.inl (Value.int v3)), (4, Sum.inl (Value.int v4)), (5, Sum.inl (Value.int v5))] [] h 0 0 = (
  mv_bi (nI 0) fun x1 =>
  q3 o0 o1 v2 v3 v4 v5 x1 h) := rfl
theorem GF_leastStrength : ∀ (j : Nat) (C : mv_C H2) (md' : mv_MD × Bool), mv_nth j gF_leastStrength = some C → mv_nth j nF_leastStrength = some md' → ∃ n', n' + 1 ≤ 5 ∧ mv_Cal vw2 n' md' C := fun j C md' => match j with
  | 0 => fun h1 h2 => by
    obtain rfl := Option.some.inj h1
    obtain rfl := Option.some.inj h2
    exact ⟨1, by decide, cM_copyFrom_ok⟩
  | 1 => fun h1 h2 => by
    obtain rfl := Option.some.inj h1
    obtain rfl := Option.some.inj h2
    exact ⟨4, by decide, cM_passDays_ok⟩
  | jj + 2 => fun h1 _ => by cases jj <;> cases h1

set_option maxRecDepth 20000 in
theorem xF_leastStrength_b3 {g0 : mv_G} {res : List mv_V × H2} : ∀ (n : Nat) (o0 : Nat) (o1 : Nat) (v2 : Int32) (v3 : Int32) (v4 : Int32) (v5 : Int32) (v6 : Int32) (h : H2), fF_leastStrength_b3 n o0 o1 v2 v3 v4 v5 v6 h = some res → mv_X vw2 mdF_leastStrength 5 0 0 none g0 res 3 [(0, Sum.inr (1, o0)), (1, Sum.inr (2, o1)), (2, Sum.inl (Value.int v2)), (3, Sum.inl (Value.int v3)), (4, Sum.inl (Value.int v4)), (5, Sum.inl (Value.int v5)), (6, Sum.inl (Value.int v6))] [] h 0 0 := by
  intro n
  induction n with
  | zero => intro o0 o1 v2 v3 v4 v5 v6 h hh; cases hh
  | succ n ih =>
    intro o0 o1 v2 v3 v4 v5 v6 h hh
    refine mv_blkX ax2 (GF_leastStrength) (by decide) kF_leastStrength (fun pc lv st h ce sl hh => ?_) ((eF_leastStrength_b3 (fF_leastStrength_b3 n) o0 o1 v2 v3 v4 v5 v6 h).trans hh)
    obtain ⟨hg, hh1⟩ := mv_gd_some hh
    obtain ⟨rfl, rfl⟩ := mv_z2 hg
    rcases mv_cond_some hh1 with ⟨hb, hh2⟩ | ⟨hb, hh3⟩
    · obtain rfl := Nat.eq_of_beq_eq_true hb
      obtain ⟨o0, m0, hh4⟩ := mv_gR_some hh2
      obtain ⟨o1, m1, hh5⟩ := mv_gR_some hh4
      obtain ⟨v2, m2, hh6⟩ := mv_gI_some hh5
      obtain ⟨v3, m3, hh7⟩ := mv_gI_some hh6
      obtain ⟨v4, m4, hh8⟩ := mv_gI_some hh7
      obtain ⟨v5, m5, hh9⟩ := mv_gI_some hh8
      obtain ⟨v6, m6, hh10⟩ := mv_gI_some hh9
      obtain ⟨rfl, hh11⟩ := mv_sE_some hh10
      exact (ih o0 o1 v2 v3 v4 v5 v6 h hh11).sub (List.forall_mem_cons.mpr ⟨m0, (List.forall_mem_cons.mpr ⟨m1, (List.forall_mem_cons.mpr ⟨m2, (List.forall_mem_cons.mpr ⟨m3, (List.forall_mem_cons.mpr ⟨m4, (List.forall_mem_cons.mpr ⟨m5, (List.forall_mem_cons.mpr ⟨m6, (fun q hq => by cases hq)⟩)⟩)⟩)⟩)⟩)⟩)⟩)
    cases hh3

set_option maxRecDepth 20000 in
theorem xF_leastStrength {g0 : mv_G} {res : List mv_V × H2} (o0 : Nat) (o1 : Nat) (v2 : Int32) (v3 : Int32) (v4 : Int32) (v5 : Int32) (h : H2) (hh : fF_leastStrength o0 o1 v2 v3 v4 v5 h = some res) : mv_X vw2 mdF_leastStrength 5 0 0 none g0 res 0 [(0, Sum.inr (1, o0)), (1, Sum.inr (2, o1)), (2, Sum.inl (Value.int v2)), (3, Sum.inl (Value.int v3)), (4, Sum.inl (Value.int v4)), (5, Sum.inl (Value.int v5))] [] h 0 0 := by
  refine mv_blkX ax2 (GF_leastStrength) (by decide) kF_leastStrength (fun pc lv st h ce sl hh => ?_) ((eF_leastStrength (fF_leastStrength_b3 1000) o0 o1 v2 v3 v4 v5 h).trans hh)
  obtain ⟨hg, hh1⟩ := mv_gd_some hh
  obtain ⟨rfl, rfl⟩ := mv_z2 hg
  rcases mv_cond_some hh1 with ⟨hb, hh2⟩ | ⟨hb, hh3⟩
  · obtain rfl := Nat.eq_of_beq_eq_true hb
    obtain ⟨o0, m0, hh4⟩ := mv_gR_some hh2
    obtain ⟨o1, m1, hh5⟩ := mv_gR_some hh4
    obtain ⟨v2, m2, hh6⟩ := mv_gI_some hh5
    obtain ⟨v3, m3, hh7⟩ := mv_gI_some hh6
    obtain ⟨v4, m4, hh8⟩ := mv_gI_some hh7
    obtain ⟨v5, m5, hh9⟩ := mv_gI_some hh8
    obtain ⟨v6, m6, hh10⟩ := mv_gI_some hh9
    obtain ⟨rfl, hh11⟩ := mv_sE_some hh10
    exact (xF_leastStrength_b3 1000 o0 o1 v2 v3 v4 v5 v6 h hh11).sub (List.forall_mem_cons.mpr ⟨m0, (List.forall_mem_cons.mpr ⟨m1, (List.forall_mem_cons.mpr ⟨m2, (List.forall_mem_cons.mpr ⟨m3, (List.forall_mem_cons.mpr ⟨m4, (List.forall_mem_cons.mpr ⟨m5, (List.forall_mem_cons.mpr ⟨m6, (fun q hq => by cases hq)⟩)⟩)⟩)⟩)⟩)⟩)⟩)
  cases hh3

theorem mF_leastStrength (o0 : Nat) (o1 : Nat) (v2 : Int32) (v3 : Int32) (v4 : Int32) (v5 : Int32) (h : H2) (vs : List mv_V) (h' : H2) (hh : fF_leastStrength o0 o1 v2 v3 v4 v5 h = some (vs, h')) : mv_Met vw2 5 0 0 mdF_leastStrength [Sum.inr (1, o0), Sum.inr (2, o1), Sum.inl (Value.int v2), Sum.inl (Value.int v3), Sum.inl (Value.int v4), Sum.inl (Value.int v5)] h vs h' :=
  mv_Met_of (by decide +kernel) (Nat.le_of_ble_eq_true rfl) (xF_leastStrength o0 o1 v2 v3 v4 v5 h hh)
theorem cF_leastStrength_ok : mv_Cal vw2 5 (mdF_leastStrength, true) ((0, 0), cF_leastStrength) := by
  intro as h k res hh
  change cF_leastStrength as h k = some res at hh
  unfold cF_leastStrength at hh
  split at hh
  · obtain ⟨hg0, ha0⟩ := mv_gd_some hh
    obtain rfl := Nat.eq_of_beq_eq_true hg0
    obtain ⟨hg1, ha1⟩ := mv_gd_some ha0
    obtain rfl := Nat.eq_of_beq_eq_true hg1
    obtain ⟨x, h', h1, h9⟩ := mv_rI_some ha1
    exact ⟨_, _, h9, (by first | decide | exact Nat.le_refl _ | exact Nat.zero_le _), fun _ => ⟨_, _, _, rfl, Or.inl ⟨by decide, rfl⟩⟩, (mF_leastStrength _ _ _ _ _ _ h _ _ h1)⟩
  · cases hh

set_option maxRecDepth 100000 in
theorem kJ_bitCount_0f7a4 : mv_tok mdJ_bitCount_0f7a4 nJ_bitCount_0f7a4 tJ_bitCount_0f7a4 = true := by decide +kernel
set_option maxRecDepth 100000 in
set_option maxHeartbeats 1000000 in
theorem eJ_bitCount_0f7a4 (v0 : Int32) (h : H2) : mv_blk rI2 rR2 ln2 wI2 wR2 nw2 cp2 bod none tJ_bitCount_0f7a4 gJ_bitCount_0f7a4 0 0 [] (fun _ _ _ _ _ _ => none) 400 (mv_seek 0 tJ_bitCount_0f7a4) [(0, Sum.inl (Value.int v0))] [] h 0 0 = (
  mv_bi (v0 - (((v0.toUInt32 >>> ((nI 1).toUInt32 &&& Int32.toUInt32 31)).toInt32) &&& (nI 1431655765))) fun x1 =>
  mv_bi ((x1 &&& (nI 858993459)) + (((x1.toUInt32 >>> ((nI 2).toUInt32 &&& Int32.toUInt32 31)).toInt32) &&& (nI 858993459))) fun x2 =>
  mv_bi ((x2 + ((x2.toUInt32 >>> ((nI 4).toUInt32 &&& Int32.toUInt32 31)).toInt32)) &&& (nI 252645135)) fun x3 =>
  mv_bi (x3 + ((x3.toUInt32 >>> ((nI 8).toUInt32 &&& Int32.toUInt32 31)).toInt32)) fun x4 =>
  mv_bi (x4 + ((x4.toUInt32 >>> ((nI 16).toUInt32 &&& Int32.toUInt32 31)).toInt32)) fun x5 =>
  some ([Sum.inl (Value.int (x5 &&& (nI 63)))], h)) := rfl
theorem GJ_bitCount_0f7a4 : ∀ (j : Nat) (C : mv_C H2) (md' : mv_MD × Bool), mv_nth j gJ_bitCount_0f7a4 = some C → mv_nth j nJ_bitCount_0f7a4 = some md' → ∃ n', n' + 1 ≤ 1 ∧ mv_Cal vw2 n' md' C := fun j C md' h1 _ => by cases j <;> cases h1

set_option maxRecDepth 20000 in
theorem xJ_bitCount_0f7a4 {g0 : mv_G} {res : List mv_V × H2} (v0 : Int32) (h : H2) (hh : fJ_bitCount_0f7a4 v0 h = some res) : mv_X vw2 mdJ_bitCount_0f7a4 1 0 0 none g0 res 0 [(0, Sum.inl (Value.int v0))] [] h 0 0 := by
  refine mv_blkX ax2 (GJ_bitCount_0f7a4) (by decide) kJ_bitCount_0f7a4 (fun pc lv st h ce sl hh => ?_) ((eJ_bitCount_0f7a4  v0 h).trans hh)
  cases hh

theorem mJ_bitCount_0f7a4 (v0 : Int32) (h : H2) (vs : List mv_V) (h' : H2) (hh : fJ_bitCount_0f7a4 v0 h = some (vs, h')) : mv_Met vw2 1 0 0 mdJ_bitCount_0f7a4 [Sum.inl (Value.int v0)] h vs h' :=
  mv_Met_of (by decide +kernel) (Nat.le_of_ble_eq_true rfl) (xJ_bitCount_0f7a4 v0 h hh)
theorem cJ_bitCount_0f7a4_ok : mv_Cal vw2 1 (mdJ_bitCount_0f7a4, false) ((0, 0), cJ_bitCount_0f7a4) := by
  intro as h k res hh
  change cJ_bitCount_0f7a4 as h k = some res at hh
  unfold cJ_bitCount_0f7a4 at hh
  split at hh
  · obtain ⟨x, h', h1, h9⟩ := mv_rI_some hh
    exact ⟨_, _, h9, (by first | decide | exact Nat.le_refl _ | exact Nat.zero_le _), (fun h => by cases h), (mJ_bitCount_0f7a4 _ h _ _ h1)⟩
  · cases hh

