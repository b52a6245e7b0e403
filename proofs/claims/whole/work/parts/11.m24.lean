set_option maxRecDepth 100000 in
theorem kN_number : mv_tok mdN_number nN_number tN_number = true := by decide +kernel
def cN_figuresG_N_number (F1 : Nat → H2 → O2) : List mv_V → H2 → (List mv_V → H2 → O2) → O2 := fun as h k => match as with
  | [.inr (t0, o0)] => mv_gd (Nat.beq t0 8) <| mv_rI (F1 o0 h) fun x h => k [.inl (.int x)] h
  | _ => none
def cN_inG_N_number (F2 : Int64 → Int64 → Int64 → H2 → O2) : List mv_V → H2 → (List mv_V → H2 → O2) → O2 := fun as h k => match as with
  | [.inl (.long w0), .inl (.long w2), .inl (.long w4)] => mv_rI (F2 w0 w2 w4 h) fun x h => k [.inl (.int x)] h
  | _ => none
def cN_mustG_N_number (F3 : Nat → Int32 → H2 → O2) : List mv_V → H2 → (List mv_V → H2 → O2) → O2 := fun as h k => match as with
  | [.inr (t0, o0), .inl (.int v1)] => mv_gd (Nat.beq t0 8) <| mv_rV (F3 o0 v1 h) fun h => k [] h
  | _ => none
set_option maxRecDepth 100000 in
set_option maxHeartbeats 1000000 in
theorem eN_number_g (F1 : Nat → H2 → O2) (F2 : Int64 → Int64 → Int64 → H2 → O2) (F3 : Nat → Int32 → H2 → O2) (o0 : Nat) (v1 : Int32) (v2 : Int32) (h : H2) : mv_blk rI2 rR2 ln2 wI2 wR2 nw2 cp2 bod none tN_number [((0, 0), cN_figuresG_N_number F1), ((0, 0), cN_inG_N_number F2), ((0, 0), cN_mustG_N_number F3)] 0 0 [] (fun _ _ _ _ _ _ => none) 400 (mv_seek 0 tN_number) [(0, Sum.inr (8, o0)), (1, Sum.inl (Value.int v1)), (2, Sum.inl (Value.int v2))] [] h 0 0 = (
  mv_rI (F1 o0 h) fun r2 h1 =>
  mv_bi r2 fun x3 =>
  mv_rI (F2 x3.toInt64 v1.toInt64 v2.toInt64 h1) fun r5 h4 =>
  mv_rV (F3 o0 r5 h4) fun h6 =>
  some ([Sum.inl (Value.int x3)], h6)) := rfl
theorem eN_number (o0 : Nat) (v1 : Int32) (v2 : Int32) (h : H2) : mv_blk rI2 rR2 ln2 wI2 wR2 nw2 cp2 bod none tN_number gN_number 0 0 [] (fun _ _ _ _ _ _ => none) 400 (mv_seek 0 tN_number) [(0, Sum.inr (8, o0)), (1, Sum.inl (Value.int v1)), (2, Sum.inl (Value.int v2))] [] h 0 0 = (
  mv_rI (fN_figures o0 h) fun r2 h1 =>
  mv_bi r2 fun x3 =>
  mv_rI (fN_in x3.toInt64 v1.toInt64 v2.toInt64 h1) fun r5 h4 =>
  mv_rV (fN_must o0 r5 h4) fun h6 =>
  some ([Sum.inl (Value.int x3)], h6)) := eN_number_g fN_figures fN_in fN_must o0 v1 v2 h
theorem GN_number : ∀ (j : Nat) (C : mv_C H2) (md' : mv_MD × Bool), mv_nth j gN_number = some C → mv_nth j nN_number = some md' → ∃ n', n' + 1 ≤ 5 ∧ mv_Cal vw2 n' md' C := fun j C md' => match j with
  | 0 => fun h1 h2 => by
    obtain rfl := Option.some.inj h1
    obtain rfl := Option.some.inj h2
    exact ⟨3, by decide, cN_figures_ok⟩
  | 1 => fun h1 h2 => by
    obtain rfl := Option.some.inj h1
    obtain rfl := Option.some.inj h2
    exact ⟨1, by decide, cN_in_ok⟩
  | 2 => fun h1 h2 => by
    obtain rfl := Option.some.inj h1
    obtain rfl := Option.some.inj h2
    exact ⟨4, by decide, cN_must_ok⟩
  | jj + 3 => fun h1 _ => by cases jj <;> cases h1

set_option maxRecDepth 20000 in
theorem xN_number {g0 : mv_G} {res : List mv_V × H2} (o0 : Nat) (v1 : Int32) (v2 : Int32) (h : H2) (hh : fN_number o0 v1 v2 h = some res) : mv_X vw2 mdN_number 5 0 0 none g0 res 0 [(0, Sum.inr (8, o0)), (1, Sum.inl (Value.int v1)), (2, Sum.inl (Value.int v2))] [] h 0 0 := by
  refine mv_blkX ax2 (GN_number) (by decide) kN_number (fun pc lv st h ce sl hh => ?_) ((eN_number  o0 v1 v2 h).trans hh)
  cases hh

theorem mN_number (o0 : Nat) (v1 : Int32) (v2 : Int32) (h : H2) (vs : List mv_V) (h' : H2) (hh : fN_number o0 v1 v2 h = some (vs, h')) : mv_Met vw2 5 0 0 mdN_number [Sum.inr (8, o0), Sum.inl (Value.int v1), Sum.inl (Value.int v2)] h vs h' :=
  mv_Met_of (by decide +kernel) (Nat.le_of_ble_eq_true rfl) (xN_number o0 v1 v2 h hh)
theorem cN_number_ok : mv_Cal vw2 5 (mdN_number, true) ((0, 0), cN_number) := by
  intro as h k res hh
  change cN_number as h k = some res at hh
  unfold cN_number at hh
  split at hh
  · obtain ⟨hg0, ha0⟩ := mv_gd_some hh
    obtain rfl := Nat.eq_of_beq_eq_true hg0
    obtain ⟨x, h', h1, h9⟩ := mv_rI_some ha0
    exact ⟨_, _, h9, (by first | decide | exact Nat.le_refl _ | exact Nat.zero_le _), fun _ => ⟨_, _, _, rfl, Or.inl ⟨by decide, rfl⟩⟩, (mN_number _ _ _ h _ _ h1)⟩
  · cases hh

set_option maxRecDepth 100000 in
theorem kN_kindHere : mv_tok mdN_kindHere nN_kindHere tN_kindHere = true := by decide +kernel
def cN_isWordG_N_kindHere (F1 : Nat → Nat → H2 → O2) : List mv_V → H2 → (List mv_V → H2 → O2) → O2 := fun as h k => match as with
  | [.inr (t0, o0), .inr (t1, o1)] => mv_gd (Nat.beq t0 8) <| mv_gd (Nat.beq t1 11) <| mv_rI (F1 o0 o1 h) fun x h => k [.inl (.int x)] h
  | _ => none
set_option maxRecDepth 100000 in
set_option maxHeartbeats 1000000 in
theorem eN_kindHere_b43_g (F1 : Nat → Nat → H2 → O2) (o0 : Nat) (vs0 : Int32) (h : H2) : mv_blk rI2 rR2 ln2 wI2 wR2 nw2 cp2 bod none tN_kindHere [((0, 0), cN_isWordG_N_kindHere F1)] 0 0 [] (fun _ _ _ _ _ _ => none) 400 (mv_seek 43 tN_kindHere) [(0, Sum.inr (8, o0))] [Sum.inl (Value.int vs0)] h 0 0 = (
  mv_bi vs0 fun x1 =>
  if x1 < 0 then (
    mv_rI (F1 o0 20 h) fun r3 h2 =>
    if r3 = 0 then (
      mv_rI (F1 o0 21 h2) fun r5 h4 =>
      if r5 = 0 then (
        mv_rI (F1 o0 22 h4) fun r7 h6 =>
        if r7 = 0 then (
          some ([Sum.inl (Value.int (-(nI 1)))], h6))
        else
        some ([Sum.inl (Value.int (nI 5))], h6))
      else
      some ([Sum.inl (Value.int (nI 4))], h4))
    else
    some ([Sum.inl (Value.int (nI 3))], h2))
  else
  some ([Sum.inl (Value.int x1)], h)) := rfl
theorem eN_kindHere_b43 (o0 : Nat) (vs0 : Int32) (h : H2) : mv_blk rI2 rR2 ln2 wI2 wR2 nw2 cp2 bod none tN_kindHere gN_kindHere 0 0 [] (fun _ _ _ _ _ _ => none) 400 (mv_seek 43 tN_kindHere) [(0, Sum.inr (8, o0))] [Sum.inl (Value.int vs0)] h 0 0 = (
  mv_bi vs0 fun x1 =>
  if x1 < 0 then (
    mv_rI (fN_isWord o0 20 h) fun r3 h2 =>
    if r3 = 0 then (
      mv_rI (fN_isWord o0 21 h2) fun r5 h4 =>
      if r5 = 0 then (
        mv_rI (fN_isWord o0 22 h4) fun r7 h6 =>
        if r7 = 0 then (
          some ([Sum.inl (Value.int (-(nI 1)))], h6))
        else
        some ([Sum.inl (Value.int (nI 5))], h6))
      else
      some ([Sum.inl (Value.int (nI 4))], h4))
    else
    some ([Sum.inl (Value.int (nI 3))], h2))
  else
  some ([Sum.inl (Value.int x1)], h)) := eN_kindHere_b43_g fN_isWord o0 vs0 h
set_option maxRecDepth 100000 in
set_option maxHeartbeats 1000000 in
theorem eN_kindHere_g (F1 : Nat → Nat → H2 → O2) (q43 : Nat → Int32 → H2 → O2) (o0 : Nat) (h : H2) : mv_blk rI2 rR2 ln2 wI2 wR2 nw2 cp2 bod none tN_kindHere [((0, 0), cN_isWordG_N_kindHere F1)] 0 0 [43] (fun pc lv st h ce sl => mv_gd (Nat.beq ce 0 && Nat.beq sl 0) (cond (Nat.beq pc 43) (mv_gR 0 8 lv fun o0 => mv_sI st fun vs0 st => mv_sE st (q43 o0 vs0 h)) (none))) 400 (mv_seek 0 tN_kindHere) [(0, Sum.inr (8, o0))] [] h 0 0 = (
  mv_rI (F1 o0 17 h) fun r2 h1 =>
  if r2 = 0 then (
    mv_rI (F1 o0 18 h1) fun r4 h3 =>
    if r4 = 0 then (
      mv_rI (F1 o0 19 h3) fun r6 h5 =>
      if r6 = 0 then (
        q43 o0 (-(nI 1)) h5)
      else
      q43 o0 (nI 2) h5)
    else
    q43 o0 (nI 1) h3)
  else
  q43 o0 (nI 0) h1) := rfl
theorem eN_kindHere (q43 : Nat → Int32 → H2 → O2) (o0 : Nat) (h : H2) : mv_blk rI2 rR2 ln2 wI2 wR2 nw2 cp2 bod none tN_kindHere gN_kindHere 0 0 [43] (fun pc lv st h ce sl => mv_gd (Nat.beq ce 0 && Nat.beq sl 0) (cond (Nat.beq pc 43) (mv_gR 0 8 lv fun o0 => mv_sI st fun vs0 st => mv_sE st (q43 o0 vs0 h)) (none))) 400 (mv_seek 0 tN_kindHere) [(0, Sum.inr (8, o0))] [] h 0 0 = (
  mv_rI (fN_isWord o0 17 h) fun r2 h1 =>
  if r2 = 0 then (
    mv_rI (fN_isWord o0 18 h1) fun r4 h3 =>
    if r4 = 0 then (
      mv_rI (fN_isWord o0 19 h3) fun r6 h5 =>
      if r6 = 0 then (
        q43 o0 (-(nI 1)) h5)
      else
      q43 o0 (nI 2) h5)
    else
    q43 o0 (nI 1) h3)
  else
  q43 o0 (nI 0) h1) := eN_kindHere_g fN_isWord q43 o0 h
theorem GN_kindHere : ∀ (j : Nat) (C : mv_C H2) (md' : mv_MD × Bool), mv_nth j gN_kindHere = some C → mv_nth j nN_kindHere = some md' → ∃ n', n' + 1 ≤ 6 ∧ mv_Cal vw2 n' md' C := fun j C md' => match j with
  | 0 => fun h1 h2 => by
    obtain rfl := Option.some.inj h1
    obtain rfl := Option.some.inj h2
    exact ⟨5, by decide, cN_isWord_ok⟩
  | jj + 1 => fun h1 _ => by cases jj <;> cases h1

set_option maxRecDepth 20000 in
theorem xN_kindHere_b43 {g0 : mv_G} {res : List mv_V × H2} (o0 : Nat) (vs0 : Int32) (h : H2) (hh : fN_kindHere_b43 o0 vs0 h = some res) : mv_X vw2 mdN_kindHere 6 0 0 none g0 res 43 [(0, Sum.inr (8, o0))] [Sum.inl (Value.int vs0)] h 0 0 := by
  refine mv_blkX ax2 (GN_kindHere) (by decide) kN_kindHere (fun pc lv st h ce sl hh => ?_) ((eN_kindHere_b43  o0 vs0 h).trans hh)
  cases hh

set_option maxRecDepth 20000 in
theorem xN_kindHere {g0 : mv_G} {res : List mv_V × H2} (o0 : Nat) (h : H2) (hh : fN_kindHere o0 h = some res) : mv_X vw2 mdN_kindHere 6 0 0 none g0 res 0 [(0, Sum.inr (8, o0))] [] h 0 0 := by
  refine mv_blkX ax2 (GN_kindHere) (by decide) kN_kindHere (fun pc lv st h ce sl hh => ?_) ((eN_kindHere (fN_kindHere_b43) o0 h).trans hh)
  obtain ⟨hg, hh1⟩ := mv_gd_some hh
  obtain ⟨rfl, rfl⟩ := mv_z2 hg
  rcases mv_cond_some hh1 with ⟨hb, hh2⟩ | ⟨hb, hh3⟩
  · obtain rfl := Nat.eq_of_beq_eq_true hb
    obtain ⟨o0, m0, hh4⟩ := mv_gR_some hh2
    obtain ⟨vs0, sthh5, rfl, hh5⟩ := mv_sI_some hh4
    obtain ⟨rfl, hh6⟩ := mv_sE_some hh5
    exact (xN_kindHere_b43  o0 vs0 h hh6).sub (List.forall_mem_cons.mpr ⟨m0, (fun q hq => by cases hq)⟩)
  cases hh3

theorem mN_kindHere (o0 : Nat) (h : H2) (vs : List mv_V) (h' : H2) (hh : fN_kindHere o0 h = some (vs, h')) : mv_Met vw2 6 0 0 mdN_kindHere [Sum.inr (8, o0)] h vs h' :=
  mv_Met_of (by decide +kernel) (Nat.le_of_ble_eq_true rfl) (xN_kindHere o0 h hh)
theorem cN_kindHere_ok : mv_Cal vw2 6 (mdN_kindHere, true) ((0, 0), cN_kindHere) := by
  intro as h k res hh
  change cN_kindHere as h k = some res at hh
  unfold cN_kindHere at hh
  split at hh
  · obtain ⟨hg0, ha0⟩ := mv_gd_some hh
    obtain rfl := Nat.eq_of_beq_eq_true hg0
    obtain ⟨x, h', h1, h9⟩ := mv_rI_some ha0
    exact ⟨_, _, h9, (by first | decide | exact Nat.le_refl _ | exact Nat.zero_le _), fun _ => ⟨_, _, _, rfl, Or.inl ⟨by decide, rfl⟩⟩, (mN_kindHere _ h _ _ h1)⟩
  · cases hh

set_option maxRecDepth 100000 in
theorem kN_takes : mv_tok mdN_takes nN_takes tN_takes = true := by decide +kernel
def cN_isWordG_N_takes (F1 : Nat → Nat → H2 → O2) : List mv_V → H2 → (List mv_V → H2 → O2) → O2 := fun as h k => match as with
  | [.inr (t0, o0), .inr (t1, o1)] => mv_gd (Nat.beq t0 8) <| mv_gd (Nat.beq t1 11) <| mv_rI (F1 o0 o1 h) fun x h => k [.inl (.int x)] h
  | _ => none
def cN_mustG_N_takes (F2 : Nat → Int32 → H2 → O2) : List mv_V → H2 → (List mv_V → H2 → O2) → O2 := fun as h k => match as with
  | [.inr (t0, o0), .inl (.int v1)] => mv_gd (Nat.beq t0 8) <| mv_rV (F2 o0 v1 h) fun h => k [] h
  | _ => none
set_option maxRecDepth 100000 in
set_option maxHeartbeats 1000000 in
theorem eN_takes_g (F1 : Nat → Nat → H2 → O2) (F2 : Nat → Int32 → H2 → O2) (o0 : Nat) (o1 : Nat) (h : H2) : mv_blk rI2 rR2 ln2 wI2 wR2 nw2 cp2 bod none tN_takes [((0, 0), cN_isWordG_N_takes F1), ((0, 0), cN_mustG_N_takes F2)] 0 0 [] (fun _ _ _ _ _ _ => none) 400 (mv_seek 0 tN_takes) [(0, Sum.inr (8, o0)), (1, Sum.inr (11, o1))] [] h 0 0 = (
  mv_rI (F1 o0 o1 h) fun r2 h1 =>
  mv_bi r2 fun x3 =>
  if x3 = 0 then (
    mv_gd (decide (x3 = nI 0) || decide (x3 = nI 1)) <| some ([Sum.inl (Value.int x3)], h1))
  else
  mv_rV (F2 o0 (nI 1) h1) fun h4 =>
  mv_gd (decide (x3 = nI 0) || decide (x3 = nI 1)) <| some ([Sum.inl (Value.int x3)], h4)) := rfl
theorem eN_takes (o0 : Nat) (o1 : Nat) (h : H2) : mv_blk rI2 rR2 ln2 wI2 wR2 nw2 cp2 bod none tN_takes gN_takes 0 0 [] (fun _ _ _ _ _ _ => none) 400 (mv_seek 0 tN_takes) [(0, Sum.inr (8, o0)), (1, Sum.inr (11, o1))] [] h 0 0 = (
  mv_rI (fN_isWord o0 o1 h) fun r2 h1 =>
  mv_bi r2 fun x3 =>
  if x3 = 0 then (
    mv_gd (decide (x3 = nI 0) || decide (x3 = nI 1)) <| some ([Sum.inl (Value.int x3)], h1))
  else
  mv_rV (fN_must o0 (nI 1) h1) fun h4 =>
  mv_gd (decide (x3 = nI 0) || decide (x3 = nI 1)) <| some ([Sum.inl (Value.int x3)], h4)) := eN_takes_g fN_isWord fN_must o0 o1 h
theorem GN_takes : ∀ (j : Nat) (C : mv_C H2) (md' : mv_MD × Bool), mv_nth j gN_takes = some C → mv_nth j nN_takes = some md' → ∃ n', n' + 1 ≤ 6 ∧ mv_Cal vw2 n' md' C := fun j C md' => match j with
  | 0 => fun h1 h2 => by
    obtain rfl := Option.some.inj h1
    obtain rfl := Option.some.inj h2
    exact ⟨5, by decide, cN_isWord_ok⟩
  | 1 => fun h1 h2 => by
    obtain rfl := Option.some.inj h1
    obtain rfl := Option.some.inj h2
    exact ⟨4, by decide, cN_must_ok⟩
  | jj + 2 => fun h1 _ => by cases jj <;> cases h1

set_option maxRecDepth 20000 in
theorem xN_takes {g0 : mv_G} {res : List mv_V × H2} (o0 : Nat) (o1 : Nat) (h : H2) (hh : fN_takes o0 o1 h = some res) : mv_X vw2 mdN_takes 6 0 0 none g0 res 0 [(0, Sum.inr (8, o0)), (1, Sum.inr (11, o1))] [] h 0 0 := by
  refine mv_blkX ax2 (GN_takes) (by decide) kN_takes (fun pc lv st h ce sl hh => ?_) ((eN_takes  o0 o1 h).trans hh)
  cases hh

theorem mN_takes (o0 : Nat) (o1 : Nat) (h : H2) (vs : List mv_V) (h' : H2) (hh : fN_takes o0 o1 h = some (vs, h')) : mv_Met vw2 6 0 0 mdN_takes [Sum.inr (8, o0), Sum.inr (11, o1)] h vs h' :=
  mv_Met_of (by decide +kernel) (Nat.le_of_ble_eq_true rfl) (xN_takes o0 o1 h hh)
theorem cN_takes_ok : mv_Cal vw2 6 (mdN_takes, true) ((0, 0), cN_takes) := by
  intro as h k res hh
  change cN_takes as h k = some res at hh
  unfold cN_takes at hh
  split at hh
  · obtain ⟨hg0, ha0⟩ := mv_gd_some hh
    obtain rfl := Nat.eq_of_beq_eq_true hg0
    obtain ⟨hg1, ha1⟩ := mv_gd_some ha0
    obtain rfl := Nat.eq_of_beq_eq_true hg1
    obtain ⟨x, h', h1, h9⟩ := mv_rI_some ha1
    exact ⟨_, _, h9, (by first | decide | exact Nat.le_refl _ | exact Nat.zero_le _), fun _ => ⟨_, _, _, rfl, Or.inl ⟨by decide, rfl⟩⟩, (mN_takes _ _ h _ _ h1)⟩
  · cases hh

set_option maxRecDepth 100000 in
theorem kN_clothTold : mv_tok mdN_clothTold nN_clothTold tN_clothTold = true := by decide +kernel
def cN_addsG_N_clothTold (F1 : Nat → Int32 → H2 → O2) : List mv_V → H2 → (List mv_V → H2 → O2) → O2 := fun as h k => match as with
  | [.inr (t0, o0), .inl (.int v1)] => mv_gd (Nat.beq t0 8) <| mv_rV (F1 o0 v1 h) fun h => k [] h
  | _ => none
def cN_mustG_N_clothTold (F2 : Nat → Int32 → H2 → O2) : List mv_V → H2 → (List mv_V → H2 → O2) → O2 := fun as h k => match as with
  | [.inr (t0, o0), .inl (.int v1)] => mv_gd (Nat.beq t0 8) <| mv_rV (F2 o0 v1 h) fun h => k [] h
  | _ => none
def cN_numberG_N_clothTold (F3 : Nat → Int32 → Int32 → H2 → O2) : List mv_V → H2 → (List mv_V → H2 → O2) → O2 := fun as h k => match as with
  | [.inr (t0, o0), .inl (.int v1), .inl (.int v2)] => mv_gd (Nat.beq t0 8) <| mv_rI (F3 o0 v1 v2 h) fun x h => k [.inl (.int x)] h
  | _ => none
def cN_setsG_N_clothTold (F4 : Nat → Int32 → Int32 → Int32 → H2 → O2) : List mv_V → H2 → (List mv_V → H2 → O2) → O2 := fun as h k => match as with
  | [.inr (t0, o0), .inl (.int v1), .inl (.int v2), .inl (.int v3)] => mv_gd (Nat.beq t0 8) <| mv_rV (F4 o0 v1 v2 v3 h) fun h => k [] h
  | _ => none
def cN_takesG_N_clothTold (F5 : Nat → Nat → H2 → O2) : List mv_V → H2 → (List mv_V → H2 → O2) → O2 := fun as h k => match as with
  | [.inr (t0, o0), .inr (t1, o1)] => mv_gd (Nat.beq t0 8) <| mv_gd (Nat.beq t1 11) <| mv_rI (F5 o0 o1 h) fun x h => k [.inl (.int x)] h
  | _ => none
set_option maxRecDepth 100000 in
set_option maxHeartbeats 1000000 in
theorem eN_clothTold_b81_g (F1 : Nat → Int32 → H2 → O2) (F2 : Nat → Int32 → H2 → O2) (F3 : Nat → Int32 → Int32 → H2 → O2) (F4 : Nat → Int32 → Int32 → Int32 → H2 → O2) (F5 : Nat → Nat → H2 → O2) (o0 : Nat) (v1 : Int32) (v2 : Int32) (v3 : Int32) (vs0 : Int32) (h : H2) : mv_blk rI2 rR2 ln2 wI2 wR2 nw2 cp2 bod none tN_clothTold [((0, 0), cN_mustG_N_clothTold F2), ((0, 0), cN_takesG_N_clothTold F5), ((0, 0), cN_numberG_N_clothTold F3), ((0, 0), cN_addsG_N_clothTold F1), ((0, 0), cN_setsG_N_clothTold F4)] 0 0 [] (fun _ _ _ _ _ _ => none) 400 (mv_seek 81 tN_clothTold) [(0, Sum.inr (8, o0)), (1, Sum.inl (Value.int v1)), (2, Sum.inl (Value.int v2)), (3, Sum.inl (Value.int v3))] [Sum.inl (Value.int vs0)] h 0 0 = (
  mv_bi vs0 fun x1 =>
  if (rI2 h 8 o0 10) = 0 then (
    mv_rV (F1 o0 v1 h) fun h2 =>
    mv_gd (mv_inb (nI 6) 69) <|
    mv_rV (F4 o0 ((rI2 h2 902 o0 (nI 6).toNatClampNeg) - (nI 1)) (nI 1) v2 h2) fun h3 =>
    mv_gd (mv_inb (nI 6) 69) <|
    mv_rV (F4 o0 ((rI2 h3 902 o0 (nI 6).toNatClampNeg) - (nI 1)) (nI 2) v3 h3) fun h4 =>
    mv_gd (mv_inb (nI 6) 69) <|
    mv_rV (F4 o0 ((rI2 h4 902 o0 (nI 6).toNatClampNeg) - (nI 1)) (nI 3) x1 h4) fun h5 =>
    some ([], h5))
  else
  some ([], h)) := rfl
theorem eN_clothTold_b81 (o0 : Nat) (v1 : Int32) (v2 : Int32) (v3 : Int32) (vs0 : Int32) (h : H2) : mv_blk rI2 rR2 ln2 wI2 wR2 nw2 cp2 bod none tN_clothTold gN_clothTold 0 0 [] (fun _ _ _ _ _ _ => none) 400 (mv_seek 81 tN_clothTold) [(0, Sum.inr (8, o0)), (1, Sum.inl (Value.int v1)), (2, Sum.inl (Value.int v2)), (3, Sum.inl (Value.int v3))] [Sum.inl (Value.int vs0)] h 0 0 = (
  mv_bi vs0 fun x1 =>
  if (rI2 h 8 o0 10) = 0 then (
    mv_rV (fN_adds o0 v1 h) fun h2 =>
    mv_gd (mv_inb (nI 6) 69) <|
    mv_rV (fN_sets o0 ((rI2 h2 902 o0 (nI 6).toNatClampNeg) - (nI 1)) (nI 1) v2 h2) fun h3 =>
    mv_gd (mv_inb (nI 6) 69) <|
    mv_rV (fN_sets o0 ((rI2 h3 902 o0 (nI 6).toNatClampNeg) - (nI 1)) (nI 2) v3 h3) fun h4 =>
    mv_gd (mv_inb (nI 6) 69) <|
    mv_rV (fN_sets o0 ((rI2 h4 902 o0 (nI 6).toNatClampNeg) - (nI 1)) (nI 3) x1 h4) fun h5 =>
    some ([], h5))
  else
  some ([], h)) := eN_clothTold_b81_g fN_adds fN_must fN_number fN_sets fN_takes o0 v1 v2 v3 vs0 h
set_option maxRecDepth 100000 in
set_option maxHeartbeats 1000000 in
theorem eN_clothTold_b18_g (F1 : Nat → Int32 → H2 → O2) (F2 : Nat → Int32 → H2 → O2) (F3 : Nat → Int32 → Int32 → H2 → O2) (F4 : Nat → Int32 → Int32 → Int32 → H2 → O2) (F5 : Nat → Nat → H2 → O2) (q81 : Nat → Int32 → Int32 → Int32 → Int32 → H2 → O2) (o0 : Nat) (v1 : Int32) (os0 : Nat) (vs1 : Int32) (h : H2) : mv_blk rI2 rR2 ln2 wI2 wR2 nw2 cp2 bod none tN_clothTold [((0, 0), cN_mustG_N_clothTold F2), ((0, 0), cN_takesG_N_clothTold F5), ((0, 0), cN_numberG_N_clothTold F3), ((0, 0), cN_addsG_N_clothTold F1), ((0, 0), cN_setsG_N_clothTold F4)] 0 0 [81] (fun pc lv st h ce sl => mv_gd (Nat.beq ce 0 && Nat.beq sl 0) (cond (Nat.beq pc 81) (mv_gR 0 8 lv fun o0 => mv_gI 1 lv fun v1 => mv_gI 2 lv fun v2 => mv_gI 3 lv fun v3 => mv_sI st fun vs0 st => mv_sE st (q81 o0 v1 v2 v3 vs0 h)) (none))) 400 (mv_seek 18 tN_clothTold) [(0, Sum.inr (8, o0)), (1, Sum.inl (Value.int v1))] [Sum.inl (Value.int vs1), Sum.inr (8, os0)] h 0 0 = (
  mv_rV (F2 os0 vs1 h) fun h1 =>
  mv_bi (-(nI 1)) fun x2 =>
  mv_bi (nI 0) fun x3 =>
  mv_rI (F5 o0 23 h1) fun r5 h4 =>
  if r5 = 0 then (
    mv_rI (F5 o0 25 h4) fun r7 h6 =>
    if r7 = 0 then (
      q81 o0 v1 x2 x3 (nI 0) h6)
    else
    q81 o0 v1 x2 x3 (nI 1) h6)
  else
  mv_rI (F3 o0 (nI 0) (nI 9) h4) fun r9 h8 =>
  mv_bi r9 fun x10 =>
  mv_rI (F5 o0 24 h8) fun r12 h11 =>
  if r12 = 0 then (
    mv_bi (nI 20) fun x13 =>
    mv_rI (F5 o0 25 h11) fun r15 h14 =>
    if r15 = 0 then (
      q81 o0 v1 x10 x13 (nI 0) h14)
    else
    q81 o0 v1 x10 x13 (nI 1) h14)
  else
  mv_rI (F3 o0 (nI 1) (nI 99) h11) fun r17 h16 =>
  mv_bi r17 fun x18 =>
  mv_rI (F5 o0 25 h16) fun r20 h19 =>
  if r20 = 0 then (
    q81 o0 v1 x10 x18 (nI 0) h19)
  else
  q81 o0 v1 x10 x18 (nI 1) h19) := rfl
theorem eN_clothTold_b18 (q81 : Nat → Int32 → Int32 → Int32 → Int32 → H2 → O2) (o0 : Nat) (v1 : Int32) (os0 : Nat) (vs1 : Int32) (h : H2) : mv_blk rI2 rR2 ln2 wI2 wR2 nw2 cp2 bod none tN_clothTold gN_clothTold 0 0 [81] (fun pc lv st h ce sl => mv_gd (Nat.beq ce 0 && Nat.beq sl 0) (cond (Nat.beq pc 81) (mv_gR 0 8 lv fun o0 => mv_gI 1 lv fun v1 => mv_gI 2 lv fun v2 => mv_gI 3 lv fun v3 => mv_sI st fun vs0 st => mv_sE st (q81 o0 v1 v2 v3 vs0 h)) (none))) 400 (mv_seek 18 tN_clothTold) [(0, Sum.inr (8, o0)), (1, Sum.inl (Value.int v1))] [Sum.inl (Value.int vs1), Sum.inr (8, os0)] h 0 0 = (
  mv_rV (fN_must os0 vs1 h) fun h1 =>
  mv_bi (-(nI 1)) fun x2 =>
  mv_bi (nI 0) fun x3 =>
  mv_rI (fN_takes o0 23 h1) fun r5 h4 =>
  if r5 = 0 then (
    mv_rI (fN_takes o0 25 h4) fun r7 h6 =>
    if r7 = 0 then (
      q81 o0 v1 x2 x3 (nI 0) h6)
    else
    q81 o0 v1 x2 x3 (nI 1) h6)
  else
  mv_rI (fN_number o0 (nI 0) (nI 9) h4) fun r9 h8 =>
  mv_bi r9 fun x10 =>
  mv_rI (fN_takes o0 24 h8) fun r12 h11 =>
  if r12 = 0 then (
    mv_bi (nI 20) fun x13 =>
    mv_rI (fN_takes o0 25 h11) fun r15 h14 =>
    if r15 = 0 then (
      q81 o0 v1 x10 x13 (nI 0) h14)
    else
    q81 o0 v1 x10 x13 (nI 1) h14)
  else
  mv_rI (fN_number o0 (nI 1) (nI 99) h11) fun r17 h16 =>
  mv_bi r17 fun x18 =>
  mv_rI (fN_takes o0 25 h16) fun r20 h19 =>
  if r20 = 0 then (
    q81 o0 v1 x10 x18 (nI 0) h19)
  else
  q81 o0 v1 x10 x18 (nI 1) h19) := eN_clothTold_b18_g fN_adds fN_must fN_number fN_sets fN_takes q81 o0 v1 os0 vs1 h
set_option maxRecDepth 100000 in
set_option maxHeartbeats 1000000 in
theorem eN_clothTold_g (F1 : Nat → Int32 → H2 → O2) (F2 : Nat → Int32 → H2 → O2) (F3 : Nat → Int32 → Int32 → H2 → O2) (F4 : Nat → Int32 → Int32 → Int32 → H2 → O2) (F5 : Nat → Nat → H2 → O2) (q18 : Nat → Int32 → Nat → Int32 → H2 → O2) (o0 : Nat) (v1 : Int32) (h : H2) : mv_blk rI2 rR2 ln2 wI2 wR2 nw2 cp2 bod none tN_clothTold [((0, 0), cN_mustG_N_clothTold F2), ((0, 0), cN_takesG_N_clothTold F5), ((0, 0), cN_numberG_N_clothTold F3), ((0, 0), cN_addsG_N_clothTold F1), ((0, 0), cN_setsG_N_clothTold F4)] 0 0 [18] (fun pc lv st h ce sl => mv_gd (Nat.beq ce 0 && Nat.beq sl 0) (cond (Nat.beq pc 18) (mv_gR 0 8 lv fun o0 => mv_gI 1 lv fun v1 => mv_sI st fun vs1 st => mv_sR 8 st fun os0 st => mv_sE st (q18 o0 v1 os0 vs1 h)) (none))) 400 (mv_seek 0 tN_clothTold) [(0, Sum.inr (8, o0)), (1, Sum.inl (Value.int v1))] [] h 0 0 = (
  mv_gd (mv_inb (nI 6) 69) <|
  if (nI 8) ≤ (rI2 h 902 o0 (nI 6).toNatClampNeg) then (
    q18 o0 v1 o0 (nI 0) h)
  else
  q18 o0 v1 o0 (nI 1) h) := rfl
theorem eN_clothTold (q18 : Nat → Int32 → Nat → Int32 → H2 → O2) (o0 : Nat) (v1 : Int32) (h : H2) : mv_blk rI2 rR2 ln2 wI2 wR2 nw2 cp2 bod none tN_clothTold gN_clothTold 0 0 [18] (fun pc lv st h ce sl => mv_gd (Nat.beq ce 0 && Nat.beq sl 0) (cond (Nat.beq pc 18) (mv_gR 0 8 lv fun o0 => mv_gI 1 lv fun v1 => mv_sI st fun vs1 st => mv_sR 8 st fun os0 st => mv_sE st (q18 o0 v1 os0 vs1 h)) (none))) 400 (mv_seek 0 tN_clothTold) [(0, Sum.inr (8, o0)), (1, Sum.inl (Value.int v1))] [] h 0 0 = (
  mv_gd (mv_inb (nI 6) 69) <|
  if (nI 8) ≤ (rI2 h 902 o0 (nI 6).toNatClampNeg) then (
    q18 o0 v1 o0 (nI 0) h)
  else
  q18 o0 v1 o0 (nI 1) h) := eN_clothTold_g fN_adds fN_must fN_number fN_sets fN_takes q18 o0 v1 h
theorem GN_clothTold : ∀ (j : Nat) (C : mv_C H2) (md' : mv_MD × Bool), mv_nth j gN_clothTold = some C → mv_nth j nN_clothTold = some md' → ∃ n', n' + 1 ≤ 7 ∧ mv_Cal vw2 n' md' C := fun j C md' => match j with
  | 0 => fun h1 h2 => by
    obtain rfl := Option.some.inj h1
    obtain rfl := Option.some.inj h2
    exact ⟨4, by decide, cN_must_ok⟩
  | 1 => fun h1 h2 => by
    obtain rfl := Option.some.inj h1
    obtain rfl := Option.some.inj h2
    exact ⟨6, by decide, cN_takes_ok⟩
  | 2 => fun h1 h2 => by
    obtain rfl := Option.some.inj h1
    obtain rfl := Option.some.inj h2
    exact ⟨5, by decide, cN_number_ok⟩
  | 3 => fun h1 h2 => by
    obtain rfl := Option.some.inj h1
    obtain rfl := Option.some.inj h2
    exact ⟨2, by decide, cN_adds_ok⟩
  | 4 => fun h1 h2 => by
    obtain rfl := Option.some.inj h1
    obtain rfl := Option.some.inj h2
    exact ⟨1, by decide, cN_sets_ok⟩
  | jj + 5 => fun h1 _ => by cases jj <;> cases h1

set_option maxRecDepth 20000 in
theorem xN_clothTold_b81 {g0 : mv_G} {res : List mv_V × H2} (o0 : Nat) (v1 : Int32) (v2 : Int32) (v3 : Int32) (vs0 : Int32) (h : H2) (hh : fN_clothTold_b81 o0 v1 v2 v3 vs0 h = some res) : mv_X vw2 mdN_clothTold 7 0 0 none g0 res 81 [(0, Sum.inr (8, o0)), (1, Sum.inl (Value.int v1)), (2, Sum.inl (Value.int v2)), (3, Sum.inl (Value.int v3))] [Sum.inl (Value.int vs0)] h 0 0 := by
  refine mv_blkX ax2 (GN_clothTold) (by decide) kN_clothTold (fun pc lv st h ce sl hh => ?_) ((eN_clothTold_b81  o0 v1 v2 v3 vs0 h).trans hh)
  cases hh

set_option maxRecDepth 20000 in
theorem xN_clothTold_b18 {g0 : mv_G} {res : List mv_V × H2} (o0 : Nat) (v1 : Int32) (os0 : Nat) (vs1 : Int32) (h : H2) (hh : fN_clothTold_b18 o0 v1 os0 vs1 h = some res) : mv_X vw2 mdN_clothTold 7 0 0 none g0 res 18 [(0, Sum.inr (8, o0)), (1, Sum.inl (Value.int v1))] [Sum.inl (Value.int vs1), Sum.inr (8, os0)] h 0 0 := by
  refine mv_blkX ax2 (GN_clothTold) (by decide) kN_clothTold (fun pc lv st h ce sl hh => ?_) ((eN_clothTold_b18 (fN_clothTold_b81) o0 v1 os0 vs1 h).trans hh)
  obtain ⟨hg, hh1⟩ := mv_gd_some hh
  obtain ⟨rfl, rfl⟩ := mv_z2 hg
  rcases mv_cond_some hh1 with ⟨hb, hh2⟩ | ⟨hb, hh3⟩
  · obtain rfl := Nat.eq_of_beq_eq_true hb
    obtain ⟨o0, m0, hh4⟩ := mv_gR_some hh2
    obtain ⟨v1, m1, hh5⟩ := mv_gI_some hh4
    obtain ⟨v2, m2, hh6⟩ := mv_gI_some hh5
    obtain ⟨v3, m3, hh7⟩ := mv_gI_some hh6
    obtain ⟨vs0, sthh8, rfl, hh8⟩ := mv_sI_some hh7
    obtain ⟨rfl, hh9⟩ := mv_sE_some hh8
    exact (xN_clothTold_b81  o0 v1 v2 v3 vs0 h hh9).sub (List.forall_mem_cons.mpr ⟨m0, (List.forall_mem_cons.mpr ⟨m1, (List.forall_mem_cons.mpr ⟨m2, (List.forall_mem_cons.mpr ⟨m3, (fun q hq => by cases hq)⟩)⟩)⟩)⟩)
  cases hh3

set_option maxRecDepth 20000 in
theorem xN_clothTold {g0 : mv_G} {res : List mv_V × H2} (o0 : Nat) (v1 : Int32) (h : H2) (hh : fN_clothTold o0 v1 h = some res) : mv_X vw2 mdN_clothTold 7 0 0 none g0 res 0 [(0, Sum.inr (8, o0)), (1, Sum.inl (Value.int v1))] [] h 0 0 := by
  refine mv_blkX ax2 (GN_clothTold) (by decide) kN_clothTold (fun pc lv st h ce sl hh => ?_) ((eN_clothTold (fN_clothTold_b18) o0 v1 h).trans hh)
  obtain ⟨hg, hh1⟩ := mv_gd_some hh
  obtain ⟨rfl, rfl⟩ := mv_z2 hg
  rcases mv_cond_some hh1 with ⟨hb, hh2⟩ | ⟨hb, hh3⟩
  · obtain rfl := Nat.eq_of_beq_eq_true hb
    obtain ⟨o0, m0, hh4⟩ := mv_gR_some hh2
    obtain ⟨v1, m1, hh5⟩ := mv_gI_some hh4
    obtain ⟨vs1, sthh6, rfl, hh6⟩ := mv_sI_some hh5
    obtain ⟨os0, sthh7, rfl, hh7⟩ := mv_sR_some hh6
    obtain ⟨rfl, hh8⟩ := mv_sE_some hh7
    exact (xN_clothTold_b18  o0 v1 os0 vs1 h hh8).sub (List.forall_mem_cons.mpr ⟨m0, (List.forall_mem_cons.mpr ⟨m1, (fun q hq => by cases hq)⟩)⟩)
  cases hh3

theorem mN_clothTold (o0 : Nat) (v1 : Int32) (h : H2) (vs : List mv_V) (h' : H2) (hh : fN_clothTold o0 v1 h = some (vs, h')) : mv_Met vw2 7 0 0 mdN_clothTold [Sum.inr (8, o0), Sum.inl (Value.int v1)] h vs h' :=
  mv_Met_of (by decide +kernel) (Nat.le_of_ble_eq_true rfl) (xN_clothTold o0 v1 h hh)
theorem cN_clothTold_ok : mv_Cal vw2 7 (mdN_clothTold, true) ((0, 0), cN_clothTold) := by
  intro as h k res hh
  change cN_clothTold as h k = some res at hh
  unfold cN_clothTold at hh
  split at hh
  · obtain ⟨hg0, ha0⟩ := mv_gd_some hh
    obtain rfl := Nat.eq_of_beq_eq_true hg0
    obtain ⟨h', h1, h9⟩ := mv_rV_some ha0
    exact ⟨_, _, h9, (by first | decide | exact Nat.le_refl _ | exact Nat.zero_le _), fun _ => ⟨_, _, _, rfl, Or.inl ⟨by decide, rfl⟩⟩, (mN_clothTold _ _ h _ _ h1)⟩
  · cases hh

set_option maxRecDepth 100000 in
theorem kN_twoTold : mv_tok mdN_twoTold nN_twoTold tN_twoTold = true := by decide +kernel
def cK0_length_8abf5G_N_twoTold (F1 : Nat → H2 → O2) : List mv_V → H2 → (List mv_V → H2 → O2) → O2 := fun as h k => match as with
  | [.inr (t0, o0)] => mv_gd (Nat.beq t0 11) <| mv_rI (F1 o0 h) fun x h => k [.inl (.int x)] h
  | _ => none
def cN_isWordG_N_twoTold (F2 : Nat → Nat → H2 → O2) : List mv_V → H2 → (List mv_V → H2 → O2) → O2 := fun as h k => match as with
  | [.inr (t0, o0), .inr (t1, o1)] => mv_gd (Nat.beq t0 8) <| mv_gd (Nat.beq t1 11) <| mv_rI (F2 o0 o1 h) fun x h => k [.inl (.int x)] h
  | _ => none
def cN_mustG_N_twoTold (F3 : Nat → Int32 → H2 → O2) : List mv_V → H2 → (List mv_V → H2 → O2) → O2 := fun as h k => match as with
  | [.inr (t0, o0), .inl (.int v1)] => mv_gd (Nat.beq t0 8) <| mv_rV (F3 o0 v1 h) fun h => k [] h
  | _ => none
def cN_numberG_N_twoTold (F4 : Nat → Int32 → Int32 → H2 → O2) : List mv_V → H2 → (List mv_V → H2 → O2) → O2 := fun as h k => match as with
  | [.inr (t0, o0), .inl (.int v1), .inl (.int v2)] => mv_gd (Nat.beq t0 8) <| mv_rI (F4 o0 v1 v2 h) fun x h => k [.inl (.int x)] h
  | _ => none
set_option maxRecDepth 100000 in
set_option maxHeartbeats 1000000 in
theorem eN_twoTold_b29_g (F1 : Nat → H2 → O2) (F2 : Nat → Nat → H2 → O2) (F3 : Nat → Int32 → H2 → O2) (F4 : Nat → Int32 → Int32 → H2 → O2) (o0 : Nat) (v1 : Int32) (v4 : Int32) (v5 : Int32) (h : H2) : mv_blk rI2 rR2 ln2 wI2 wR2 nw2 cp2 bod none tN_twoTold [((0, 0), cN_mustG_N_twoTold F3), ((0, 0), cN_numberG_N_twoTold F4), ((0, 0), cK0_length_8abf5G_N_twoTold F1), ((0, 0), cN_isWordG_N_twoTold F2)] 0 0 [] (fun _ _ _ _ _ _ => none) 400 (mv_seek 29 tN_twoTold) [(0, Sum.inr (8, o0)), (1, Sum.inl (Value.int v1)), (4, Sum.inl (Value.int v4)), (5, Sum.inl (Value.int v5))] [] h 0 0 = (
  mv_rI (F4 o0 (nI 0) v4 h) fun r2 h1 =>
  mv_bi r2 fun x3 =>
  if (rI2 h1 8 o0 10) = 0 then (
    mv_gd (mv_inb (v1 + v5) 69) <|
    mv_bh (wI2 h1 902 o0 (v1 + v5).toNatClampNeg x3) fun h4 =>
    some ([], h4))
  else
  some ([], h1)) := rfl
theorem eN_twoTold_b29 (o0 : Nat) (v1 : Int32) (v4 : Int32) (v5 : Int32) (h : H2) : mv_blk rI2 rR2 ln2 wI2 wR2 nw2 cp2 bod none tN_twoTold gN_twoTold 0 0 [] (fun _ _ _ _ _ _ => none) 400 (mv_seek 29 tN_twoTold) [(0, Sum.inr (8, o0)), (1, Sum.inl (Value.int v1)), (4, Sum.inl (Value.int v4)), (5, Sum.inl (Value.int v5))] [] h 0 0 = (
  mv_rI (fN_number o0 (nI 0) v4 h) fun r2 h1 =>
  mv_bi r2 fun x3 =>
  if (rI2 h1 8 o0 10) = 0 then (
    mv_gd (mv_inb (v1 + v5) 69) <|
    mv_bh (wI2 h1 902 o0 (v1 + v5).toNatClampNeg x3) fun h4 =>
    some ([], h4))
  else
  some ([], h1)) := eN_twoTold_b29_g fK0_length_8abf5 fN_isWord fN_must fN_number o0 v1 v4 v5 h
set_option maxRecDepth 100000 in
set_option maxHeartbeats 1000000 in
theorem eN_twoTold_g (F1 : Nat → H2 → O2) (F2 : Nat → Nat → H2 → O2) (F3 : Nat → Int32 → H2 → O2) (F4 : Nat → Int32 → Int32 → H2 → O2) (q29 : Nat → Int32 → Int32 → Int32 → H2 → O2) (o0 : Nat) (v1 : Int32) (v2 : Int32) (o3 : Nat) (v4 : Int32) (h : H2) : mv_blk rI2 rR2 ln2 wI2 wR2 nw2 cp2 bod none tN_twoTold [((0, 0), cN_mustG_N_twoTold F3), ((0, 0), cN_numberG_N_twoTold F4), ((0, 0), cK0_length_8abf5G_N_twoTold F1), ((0, 0), cN_isWordG_N_twoTold F2)] 0 0 [29] (fun pc lv st h ce sl => mv_gd (Nat.beq ce 0 && Nat.beq sl 0) (cond (Nat.beq pc 29) (mv_gR 0 8 lv fun o0 => mv_gI 1 lv fun v1 => mv_gI 4 lv fun v4 => mv_gI 5 lv fun v5 => mv_sE st (q29 o0 v1 v4 v5 h)) (none))) 400 (mv_seek 0 tN_twoTold) [(0, Sum.inr (8, o0)), (1, Sum.inl (Value.int v1)), (2, Sum.inl (Value.int v2)), (3, Sum.inr (11, o3)), (4, Sum.inl (Value.int v4))] [] h 0 0 = (
  mv_rV (F3 o0 (nI 1) h) fun h1 =>
  mv_rI (F4 o0 (nI 0) v2 h1) fun r3 h2 =>
  mv_bi r3 fun x4 =>
  mv_rI (F1 o3 h2) fun r6 h5 =>
  if r6 ≤ 0 then (
    q29 o0 v1 v4 x4 h5)
  else
  mv_rI (F2 o0 o3 h5) fun r8 h7 =>
  mv_rV (F3 o0 r8 h7) fun h9 =>
  q29 o0 v1 v4 x4 h9) := rfl
theorem eN_twoTold (q29 : Nat → Int32 → Int32 → Int32 → H2 → O2) (o0 : Nat) (v1 : Int32) (v2 : Int32) (o3 : Nat) (v4 : Int32) (h : H2) : mv_blk rI2 rR2 ln2 wI2 wR2 nw2 cp2 bod none tN_twoTold gN_twoTold 0 0 [29] (fun pc lv st h ce sl => mv_gd (Nat.beq ce 0 && Nat.beq sl 0) (cond (Nat.beq pc 29) (mv_gR 0 8 lv fun o0 => mv_gI 1 lv fun v1 => mv_gI 4 lv fun v4 => mv_gI 5 lv fun v5 => mv_sE st (q29 o0 v1 v4 v5 h)) (none))) 400 (mv_seek 0 tN_twoTold) [(0, Sum.inr (8, o0)), (1, Sum.inl (Value.int v1)), (2, Sum.inl (Value.int v2)), (3, Sum.inr (11, o3)), (4, Sum.inl (Value.int v4))] [] h 0 0 = (
  mv_rV (fN_must o0 (nI 1) h) fun h1 =>
  mv_rI (fN_number o0 (nI 0) v2 h1) fun r3 h2 =>
  mv_bi r3 fun x4 =>
  mv_rI (fK0_length_8abf5 o3 h2) fun r6 h5 =>
  if r6 ≤ 0 then (
    q29 o0 v1 v4 x4 h5)
  else
  mv_rI (fN_isWord o0 o3 h5) fun r8 h7 =>
  mv_rV (fN_must o0 r8 h7) fun h9 =>
  q29 o0 v1 v4 x4 h9) := eN_twoTold_g fK0_length_8abf5 fN_isWord fN_must fN_number q29 o0 v1 v2 o3 v4 h
theorem GN_twoTold : ∀ (j : Nat) (C : mv_C H2) (md' : mv_MD × Bool), mv_nth j gN_twoTold = some C → mv_nth j nN_twoTold = some md' → ∃ n', n' + 1 ≤ 6 ∧ mv_Cal vw2 n' md' C := fun j C md' => match j with
  | 0 => fun h1 h2 => by
    obtain rfl := Option.some.inj h1
    obtain rfl := Option.some.inj h2
    exact ⟨4, by decide, cN_must_ok⟩
  | 1 => fun h1 h2 => by
    obtain rfl := Option.some.inj h1
    obtain rfl := Option.some.inj h2
    exact ⟨5, by decide, cN_number_ok⟩
  | 2 => fun h1 h2 => by
    obtain rfl := Option.some.inj h1
    obtain rfl := Option.some.inj h2
    exact ⟨2, by decide, cK0_length_8abf5_ok⟩
  | 3 => fun h1 h2 => by
    obtain rfl := Option.some.inj h1
    obtain rfl := Option.some.inj h2
    exact ⟨5, by decide, cN_isWord_ok⟩
  | jj + 4 => fun h1 _ => by cases jj <;> cases h1

set_option maxRecDepth 20000 in
theorem xN_twoTold_b29 {g0 : mv_G} {res : List mv_V × H2} (o0 : Nat) (v1 : Int32) (v4 : Int32) (v5 : Int32) (h : H2) (hh : fN_twoTold_b29 o0 v1 v4 v5 h = some res) : mv_X vw2 mdN_twoTold 6 0 0 none g0 res 29 [(0, Sum.inr (8, o0)), (1, Sum.inl (Value.int v1)), (4, Sum.inl (Value.int v4)), (5, Sum.inl (Value.int v5))] [] h 0 0 := by
  refine mv_blkX ax2 (GN_twoTold) (by decide) kN_twoTold (fun pc lv st h ce sl hh => ?_) ((eN_twoTold_b29  o0 v1 v4 v5 h).trans hh)
  cases hh

set_option maxRecDepth 20000 in
theorem xN_twoTold {g0 : mv_G} {res : List mv_V × H2} (o0 : Nat) (v1 : Int32) (v2 : Int32) (o3 : Nat) (v4 : Int32) (h : H2) (hh : fN_twoTold o0 v1 v2 o3 v4 h = some res) : mv_X vw2 mdN_twoTold 6 0 0 none g0 res 0 [(0, Sum.inr (8, o0)), (1, Sum.inl (Value.int v1)), (2, Sum.inl (Value.int v2)), (3, Sum.inr (11, o3)), (4, Sum.inl (Value.int v4))] [] h 0 0 := by
  refine mv_blkX ax2 (GN_twoTold) (by decide) kN_twoTold (fun pc lv st h ce sl hh => ?_) ((eN_twoTold (fN_twoTold_b29) o0 v1 v2 o3 v4 h).trans hh)
  obtain ⟨hg, hh1⟩ := mv_gd_some hh
  obtain ⟨rfl, rfl⟩ := mv_z2 hg
  rcases mv_cond_some hh1 with ⟨hb, hh2⟩ | ⟨hb, hh3⟩
  · obtain rfl := Nat.eq_of_beq_eq_true hb
    obtain ⟨o0, m0, hh4⟩ := mv_gR_some hh2
    obtain ⟨v1, m1, hh5⟩ := mv_gI_some hh4
    obtain ⟨v4, m2, hh6⟩ := mv_gI_some hh5
    obtain ⟨v5, m3, hh7⟩ := mv_gI_some hh6
    obtain ⟨rfl, hh8⟩ := mv_sE_some hh7
    exact (xN_twoTold_b29  o0 v1 v4 v5 h hh8).sub (List.forall_mem_cons.mpr ⟨m0, (List.forall_mem_cons.mpr ⟨m1, (List.forall_mem_cons.mpr ⟨m2, (List.forall_mem_cons.mpr ⟨m3, (fun q hq => by cases hq)⟩)⟩)⟩)⟩)
  cases hh3

theorem mN_twoTold (o0 : Nat) (v1 : Int32) (v2 : Int32) (o3 : Nat) (v4 : Int32) (h : H2) (vs : List mv_V) (h' : H2) (hh : fN_twoTold o0 v1 v2 o3 v4 h = some (vs, h')) : mv_Met vw2 6 0 0 mdN_twoTold [Sum.inr (8, o0), Sum.inl (Value.int v1), Sum.inl (Value.int v2), Sum.inr (11, o3), Sum.inl (Value.int v4)] h vs h' :=
  mv_Met_of (by decide +kernel) (Nat.le_of_ble_eq_true rfl) (xN_twoTold o0 v1 v2 o3 v4 h hh)
theorem cN_twoTold_ok : mv_Cal vw2 6 (mdN_twoTold, true) ((0, 0), cN_twoTold) := by
  intro as h k res hh
  change cN_twoTold as h k = some res at hh
  unfold cN_twoTold at hh
  split at hh
  · obtain ⟨hg0, ha0⟩ := mv_gd_some hh
    obtain rfl := Nat.eq_of_beq_eq_true hg0
    obtain ⟨hg3, ha3⟩ := mv_gd_some ha0
    obtain rfl := Nat.eq_of_beq_eq_true hg3
    obtain ⟨h', h1, h9⟩ := mv_rV_some ha3
    exact ⟨_, _, h9, (by first | decide | exact Nat.le_refl _ | exact Nat.zero_le _), fun _ => ⟨_, _, _, rfl, Or.inl ⟨by decide, rfl⟩⟩, (mN_twoTold _ _ _ _ _ h _ _ h1)⟩
  · cases hh

set_option maxRecDepth 100000 in
theorem kN_lawTold : mv_tok mdN_lawTold nN_lawTold tN_lawTold = true := by decide +kernel
def cN_numberG_N_lawTold (F1 : Nat → Int32 → Int32 → H2 → O2) : List mv_V → H2 → (List mv_V → H2 → O2) → O2 := fun as h k => match as with
  | [.inr (t0, o0), .inl (.int v1), .inl (.int v2)] => mv_gd (Nat.beq t0 8) <| mv_rI (F1 o0 v1 v2 h) fun x h => k [.inl (.int x)] h
  | _ => none
set_option maxRecDepth 100000 in
set_option maxHeartbeats 1000000 in
theorem eN_lawTold_g (F1 : Nat → Int32 → Int32 → H2 → O2) (o0 : Nat) (v1 : Int32) (h : H2) : mv_blk rI2 rR2 ln2 wI2 wR2 nw2 cp2 bod none tN_lawTold [((0, 0), cN_numberG_N_lawTold F1)] 0 0 [] (fun _ _ _ _ _ _ => none) 400 (mv_seek 0 tN_lawTold) [(0, Sum.inr (8, o0)), (1, Sum.inl (Value.int v1))] [] h 0 0 = (
  mv_gd (mv_inb v1 4) <|
  mv_rI (F1 o0 (nI 0) (rI2 h 900 o0 v1.toNatClampNeg) h) fun r2 h1 =>
  mv_bi r2 fun x3 =>
  if (rI2 h1 8 o0 10) = 0 then (
    mv_gd (mv_inb v1 69) <|
    mv_bh (wI2 h1 902 o0 v1.toNatClampNeg x3) fun h4 =>
    some ([], h4))
  else
  some ([], h1)) := rfl
theorem eN_lawTold (o0 : Nat) (v1 : Int32) (h : H2) : mv_blk rI2 rR2 ln2 wI2 wR2 nw2 cp2 bod none tN_lawTold gN_lawTold 0 0 [] (fun _ _ _ _ _ _ => none) 400 (mv_seek 0 tN_lawTold) [(0, Sum.inr (8, o0)), (1, Sum.inl (Value.int v1))] [] h 0 0 = (
  mv_gd (mv_inb v1 4) <|
  mv_rI (fN_number o0 (nI 0) (rI2 h 900 o0 v1.toNatClampNeg) h) fun r2 h1 =>
  mv_bi r2 fun x3 =>
  if (rI2 h1 8 o0 10) = 0 then (
    mv_gd (mv_inb v1 69) <|
    mv_bh (wI2 h1 902 o0 v1.toNatClampNeg x3) fun h4 =>
    some ([], h4))
  else
  some ([], h1)) := eN_lawTold_g fN_number o0 v1 h
theorem GN_lawTold : ∀ (j : Nat) (C : mv_C H2) (md' : mv_MD × Bool), mv_nth j gN_lawTold = some C → mv_nth j nN_lawTold = some md' → ∃ n', n' + 1 ≤ 6 ∧ mv_Cal vw2 n' md' C := fun j C md' => match j with
  | 0 => fun h1 h2 => by
    obtain rfl := Option.some.inj h1
    obtain rfl := Option.some.inj h2
    exact ⟨5, by decide, cN_number_ok⟩
  | jj + 1 => fun h1 _ => by cases jj <;> cases h1

set_option maxRecDepth 20000 in
theorem xN_lawTold {g0 : mv_G} {res : List mv_V × H2} (o0 : Nat) (v1 : Int32) (h : H2) (hh : fN_lawTold o0 v1 h = some res) : mv_X vw2 mdN_lawTold 6 0 0 none g0 res 0 [(0, Sum.inr (8, o0)), (1, Sum.inl (Value.int v1))] [] h 0 0 := by
  refine mv_blkX ax2 (GN_lawTold) (by decide) kN_lawTold (fun pc lv st h ce sl hh => ?_) ((eN_lawTold  o0 v1 h).trans hh)
  cases hh

theorem mN_lawTold (o0 : Nat) (v1 : Int32) (h : H2) (vs : List mv_V) (h' : H2) (hh : fN_lawTold o0 v1 h = some (vs, h')) : mv_Met vw2 6 0 0 mdN_lawTold [Sum.inr (8, o0), Sum.inl (Value.int v1)] h vs h' :=
  mv_Met_of (by decide +kernel) (Nat.le_of_ble_eq_true rfl) (xN_lawTold o0 v1 h hh)
theorem cN_lawTold_ok : mv_Cal vw2 6 (mdN_lawTold, true) ((0, 0), cN_lawTold) := by
  intro as h k res hh
  change cN_lawTold as h k = some res at hh
  unfold cN_lawTold at hh
  split at hh
  · obtain ⟨hg0, ha0⟩ := mv_gd_some hh
    obtain rfl := Nat.eq_of_beq_eq_true hg0
    obtain ⟨h', h1, h9⟩ := mv_rV_some ha0
    exact ⟨_, _, h9, (by first | decide | exact Nat.le_refl _ | exact Nat.zero_le _), fun _ => ⟨_, _, _, rfl, Or.inl ⟨by decide, rfl⟩⟩, (mN_lawTold _ _ h _ _ h1)⟩
  · cases hh

set_option maxRecDepth 100000 in
theorem kN_lawHere : mv_tok mdN_lawHere nN_lawHere tN_lawHere = true := by decide +kernel
def cN_isWordG_N_lawHere (F1 : Nat → Nat → H2 → O2) : List mv_V → H2 → (List mv_V → H2 → O2) → O2 := fun as h k => match as with
  | [.inr (t0, o0), .inr (t1, o1)] => mv_gd (Nat.beq t0 8) <| mv_gd (Nat.beq t1 11) <| mv_rI (F1 o0 o1 h) fun x h => k [.inl (.int x)] h
  | _ => none
set_option maxRecDepth 100000 in
set_option maxHeartbeats 1000000 in
theorem eN_lawHere_g (F1 : Nat → Nat → H2 → O2) (o0 : Nat) (h : H2) : mv_blk rI2 rR2 ln2 wI2 wR2 nw2 cp2 bod none tN_lawHere [((0, 0), cN_isWordG_N_lawHere F1)] 0 0 [] (fun _ _ _ _ _ _ => none) 400 (mv_seek 0 tN_lawHere) [(0, Sum.inr (8, o0))] [] h 0 0 = (
  mv_rI (F1 o0 26 h) fun r2 h1 =>
  if r2 = 0 then (
    mv_rI (F1 o0 27 h1) fun r4 h3 =>
    if r4 = 0 then (
      mv_rI (F1 o0 28 h3) fun r6 h5 =>
      if r6 = 0 then (
        mv_rI (F1 o0 29 h5) fun r8 h7 =>
        if r8 = 0 then (
          some ([Sum.inl (Value.int (-(nI 1)))], h7))
        else
        some ([Sum.inl (Value.int (nI 3))], h7))
      else
      some ([Sum.inl (Value.int (nI 2))], h5))
    else
    some ([Sum.inl (Value.int (nI 1))], h3))
  else
  some ([Sum.inl (Value.int (nI 0))], h1)) := rfl
theorem eN_lawHere (o0 : Nat) (h : H2) : mv_blk rI2 rR2 ln2 wI2 wR2 nw2 cp2 bod none tN_lawHere gN_lawHere 0 0 [] (fun _ _ _ _ _ _ => none) 400 (mv_seek 0 tN_lawHere) [(0, Sum.inr (8, o0))] [] h 0 0 = (
  mv_rI (fN_isWord o0 26 h) fun r2 h1 =>
  if r2 = 0 then (
    mv_rI (fN_isWord o0 27 h1) fun r4 h3 =>
    if r4 = 0 then (
      mv_rI (fN_isWord o0 28 h3) fun r6 h5 =>
      if r6 = 0 then (
        mv_rI (fN_isWord o0 29 h5) fun r8 h7 =>
        if r8 = 0 then (
          some ([Sum.inl (Value.int (-(nI 1)))], h7))
        else
        some ([Sum.inl (Value.int (nI 3))], h7))
      else
      some ([Sum.inl (Value.int (nI 2))], h5))
    else
    some ([Sum.inl (Value.int (nI 1))], h3))
  else
  some ([Sum.inl (Value.int (nI 0))], h1)) := eN_lawHere_g fN_isWord o0 h
theorem GN_lawHere : ∀ (j : Nat) (C : mv_C H2) (md' : mv_MD × Bool), mv_nth j gN_lawHere = some C → mv_nth j nN_lawHere = some md' → ∃ n', n' + 1 ≤ 6 ∧ mv_Cal vw2 n' md' C := fun j C md' => match j with
  | 0 => fun h1 h2 => by
    obtain rfl := Option.some.inj h1
    obtain rfl := Option.some.inj h2
    exact ⟨5, by decide, cN_isWord_ok⟩
  | jj + 1 => fun h1 _ => by cases jj <;> cases h1

set_option maxRecDepth 20000 in
theorem xN_lawHere {g0 : mv_G} {res : List mv_V × H2} (o0 : Nat) (h : H2) (hh : fN_lawHere o0 h = some res) : mv_X vw2 mdN_lawHere 6 0 0 none g0 res 0 [(0, Sum.inr (8, o0))] [] h 0 0 := by
  refine mv_blkX ax2 (GN_lawHere) (by decide) kN_lawHere (fun pc lv st h ce sl hh => ?_) ((eN_lawHere  o0 h).trans hh)
  cases hh

theorem mN_lawHere (o0 : Nat) (h : H2) (vs : List mv_V) (h' : H2) (hh : fN_lawHere o0 h = some (vs, h')) : mv_Met vw2 6 0 0 mdN_lawHere [Sum.inr (8, o0)] h vs h' :=
  mv_Met_of (by decide +kernel) (Nat.le_of_ble_eq_true rfl) (xN_lawHere o0 h hh)
theorem cN_lawHere_ok : mv_Cal vw2 6 (mdN_lawHere, true) ((0, 0), cN_lawHere) := by
  intro as h k res hh
  change cN_lawHere as h k = some res at hh
  unfold cN_lawHere at hh
  split at hh
  · obtain ⟨hg0, ha0⟩ := mv_gd_some hh
    obtain rfl := Nat.eq_of_beq_eq_true hg0
    obtain ⟨x, h', h1, h9⟩ := mv_rI_some ha0
    exact ⟨_, _, h9, (by first | decide | exact Nat.le_refl _ | exact Nat.zero_le _), fun _ => ⟨_, _, _, rfl, Or.inl ⟨by decide, rfl⟩⟩, (mN_lawHere _ h _ _ h1)⟩
  · cases hh

set_option maxRecDepth 100000 in
theorem kN_item : mv_tok mdN_item nN_item tN_item = true := by decide +kernel
def cN_clothToldG_N_item (F1 : Nat → Int32 → H2 → O2) : List mv_V → H2 → (List mv_V → H2 → O2) → O2 := fun as h k => match as with
  | [.inr (t0, o0), .inl (.int v1)] => mv_gd (Nat.beq t0 8) <| mv_rV (F1 o0 v1 h) fun h => k [] h
  | _ => none
def cN_isWordG_N_item (F2 : Nat → Nat → H2 → O2) : List mv_V → H2 → (List mv_V → H2 → O2) → O2 := fun as h k => match as with
  | [.inr (t0, o0), .inr (t1, o1)] => mv_gd (Nat.beq t0 8) <| mv_gd (Nat.beq t1 11) <| mv_rI (F2 o0 o1 h) fun x h => k [.inl (.int x)] h
  | _ => none
def cN_kindHereG_N_item (F3 : Nat → H2 → O2) : List mv_V → H2 → (List mv_V → H2 → O2) → O2 := fun as h k => match as with
  | [.inr (t0, o0)] => mv_gd (Nat.beq t0 8) <| mv_rI (F3 o0 h) fun x h => k [.inl (.int x)] h
  | _ => none
def cN_lawHereG_N_item (F4 : Nat → H2 → O2) : List mv_V → H2 → (List mv_V → H2 → O2) → O2 := fun as h k => match as with
  | [.inr (t0, o0)] => mv_gd (Nat.beq t0 8) <| mv_rI (F4 o0 h) fun x h => k [.inl (.int x)] h
  | _ => none
def cN_lawToldG_N_item (F5 : Nat → Int32 → H2 → O2) : List mv_V → H2 → (List mv_V → H2 → O2) → O2 := fun as h k => match as with
  | [.inr (t0, o0), .inl (.int v1)] => mv_gd (Nat.beq t0 8) <| mv_rV (F5 o0 v1 h) fun h => k [] h
  | _ => none
def cN_mustG_N_item (F6 : Nat → Int32 → H2 → O2) : List mv_V → H2 → (List mv_V → H2 → O2) → O2 := fun as h k => match as with
  | [.inr (t0, o0), .inl (.int v1)] => mv_gd (Nat.beq t0 8) <| mv_rV (F6 o0 v1 h) fun h => k [] h
  | _ => none
def cN_twoToldG_N_item (F7 : Nat → Int32 → Int32 → Nat → Int32 → H2 → O2) : List mv_V → H2 → (List mv_V → H2 → O2) → O2 := fun as h k => match as with
  | [.inr (t0, o0), .inl (.int v1), .inl (.int v2), .inr (t3, o3), .inl (.int v4)] => mv_gd (Nat.beq t0 8) <| mv_gd (Nat.beq t3 11) <| mv_rV (F7 o0 v1 v2 o3 v4 h) fun h => k [] h
  | _ => none
set_option maxRecDepth 100000 in
set_option maxHeartbeats 1000000 in
theorem eN_item_b109_g (F1 : Nat → Int32 → H2 → O2) (F2 : Nat → Nat → H2 → O2) (F3 : Nat → H2 → O2) (F4 : Nat → H2 → O2) (F5 : Nat → Int32 → H2 → O2) (F6 : Nat → Int32 → H2 → O2) (F7 : Nat → Int32 → Int32 → Nat → Int32 → H2 → O2) (o0 : Nat) (v2 : Int32) (os0 : Nat) (vs1 : Int32) (h : H2) : mv_blk rI2 rR2 ln2 wI2 wR2 nw2 cp2 bod none tN_item [((0, 0), cN_kindHereG_N_item F3), ((0, 0), cN_lawHereG_N_item F4), ((0, 0), cN_clothToldG_N_item F1), ((0, 0), cN_isWordG_N_item F2), ((0, 0), cN_twoToldG_N_item F7), ((0, 0), cN_mustG_N_item F6), ((0, 0), cN_lawToldG_N_item F5)] 0 0 [] (fun _ _ _ _ _ _ => none) 400 (mv_seek 109 tN_item) [(0, Sum.inr (8, o0)), (2, Sum.inl (Value.int v2))] [Sum.inl (Value.int vs1), Sum.inr (8, os0)] h 0 0 = (
  mv_rV (F6 os0 vs1 h) fun h1 =>
  mv_rV (F5 o0 (if (nI 0) < v2 then v2 else (nI 0)) h1) fun h2 =>
  mv_rI (F2 o0 35 h2) fun r4 h3 =>
  mv_rV (F6 o0 r4 h3) fun h5 =>
  some ([], h5)) := rfl
theorem eN_item_b109 (o0 : Nat) (v2 : Int32) (os0 : Nat) (vs1 : Int32) (h : H2) : mv_blk rI2 rR2 ln2 wI2 wR2 nw2 cp2 bod none tN_item gN_item 0 0 [] (fun _ _ _ _ _ _ => none) 400 (mv_seek 109 tN_item) [(0, Sum.inr (8, o0)), (2, Sum.inl (Value.int v2))] [Sum.inl (Value.int vs1), Sum.inr (8, os0)] h 0 0 = (
  mv_rV (fN_must os0 vs1 h) fun h1 =>
  mv_rV (fN_lawTold o0 (if (nI 0) < v2 then v2 else (nI 0)) h1) fun h2 =>
  mv_rI (fN_isWord o0 35 h2) fun r4 h3 =>
  mv_rV (fN_must o0 r4 h3) fun h5 =>
  some ([], h5)) := eN_item_b109_g fN_clothTold fN_isWord fN_kindHere fN_lawHere fN_lawTold fN_must fN_twoTold o0 v2 os0 vs1 h
set_option maxRecDepth 100000 in
set_option maxHeartbeats 1000000 in
theorem eN_item_g (F1 : Nat → Int32 → H2 → O2) (F2 : Nat → Nat → H2 → O2) (F3 : Nat → H2 → O2) (F4 : Nat → H2 → O2) (F5 : Nat → Int32 → H2 → O2) (F6 : Nat → Int32 → H2 → O2) (F7 : Nat → Int32 → Int32 → Nat → Int32 → H2 → O2) (q109 : Nat → Int32 → Nat → Int32 → H2 → O2) (o0 : Nat) (h : H2) : mv_blk rI2 rR2 ln2 wI2 wR2 nw2 cp2 bod none tN_item [((0, 0), cN_kindHereG_N_item F3), ((0, 0), cN_lawHereG_N_item F4), ((0, 0), cN_clothToldG_N_item F1), ((0, 0), cN_isWordG_N_item F2), ((0, 0), cN_twoToldG_N_item F7), ((0, 0), cN_mustG_N_item F6), ((0, 0), cN_lawToldG_N_item F5)] 0 0 [109] (fun pc lv st h ce sl => mv_gd (Nat.beq ce 0 && Nat.beq sl 0) (cond (Nat.beq pc 109) (mv_gR 0 8 lv fun o0 => mv_gI 2 lv fun v2 => mv_sI st fun vs1 st => mv_sR 8 st fun os0 st => mv_sE st (q109 o0 v2 os0 vs1 h)) (none))) 400 (mv_seek 0 tN_item) [(0, Sum.inr (8, o0))] [] h 0 0 = (
  mv_rI (F3 o0 h) fun r2 h1 =>
  mv_bi r2 fun x3 =>
  mv_rI (F4 o0 h1) fun r5 h4 =>
  mv_bi r5 fun x6 =>
  if x3 < 0 then (
    mv_rI (F2 o0 30 h4) fun r8 h7 =>
    if r8 = 0 then (
      mv_rI (F2 o0 32 h7) fun r10 h9 =>
      if r10 = 0 then (
        mv_rI (F2 o0 34 h9) fun r12 h11 =>
        if r12 = 0 then (
          if x6 < 0 then (
            q109 o0 x6 o0 (nI 0) h11)
          else
          q109 o0 x6 o0 (nI 1) h11)
        else
        mv_rV (F7 o0 (nI 23) (nI 5) 30 (nI 7) h11) fun h13 =>
        mv_rI (F2 o0 35 h13) fun r15 h14 =>
        mv_rV (F6 o0 r15 h14) fun h16 =>
        some ([], h16))
      else
      mv_rV (F7 o0 (nI 15) (nI 7) 33 (nI 9) h9) fun h17 =>
      mv_rI (F2 o0 35 h17) fun r19 h18 =>
      mv_rV (F6 o0 r19 h18) fun h20 =>
      some ([], h20))
    else
    mv_rV (F7 o0 (nI 7) (nI 7) 31 (nI 9) h7) fun h21 =>
    mv_rI (F2 o0 35 h21) fun r23 h22 =>
    mv_rV (F6 o0 r23 h22) fun h24 =>
    some ([], h24))
  else
  mv_rV (F1 o0 x3 h4) fun h25 =>
  mv_rI (F2 o0 35 h25) fun r27 h26 =>
  mv_rV (F6 o0 r27 h26) fun h28 =>
  some ([], h28)) := rfl
theorem eN_item (q109 : Nat → Int32 → Nat → Int32 → H2 → O2) (o0 : Nat) (h : H2) : mv_blk rI2 rR2 ln2 wI2 wR2 nw2 cp2 bod none tN_item gN_item 0 0 [109] (fun pc lv st h ce sl => mv_gd (Nat.beq ce 0 && Nat.beq sl 0) (cond (Nat.beq pc 109) (mv_gR 0 8 lv fun o0 => mv_gI 2 lv fun v2 => mv_sI st fun vs1 st => mv_sR 8 st fun os0 st => mv_sE st (q109 o0 v2 os0 vs1 h)) (none))) 400 (mv_seek 0 tN_item) [(0, Sum.inr (8, o0))] [] h 0 0 = (
  mv_rI (fN_kindHere o0 h) fun r2 h1 =>
  mv_bi r2 fun x3 =>
  mv_rI (fN_lawHere o0 h1) fun r5 h4 =>
  mv_bi r5 fun x6 =>
  if x3 < 0 then (
    mv_rI (fN_isWord o0 30 h4) fun r8 h7 =>
    if r8 = 0 then (
      mv_rI (fN_isWord o0 32 h7) fun r10 h9 =>
      if r10 = 0 then (
        mv_rI (fN_isWord o0 34 h9) fun r12 h11 =>
        if r12 = 0 then (
          if x6 < 0 then (
            q109 o0 x6 o0 (nI 0) h11)
          else
          q109 o0 x6 o0 (nI 1) h11)
        else
        mv_rV (fN_twoTold o0 (nI 23) (nI 5) 30 (nI 7) h11) fun h13 =>
        mv_rI (fN_isWord o0 35 h13) fun r15 h14 =>
        mv_rV (fN_must o0 r15 h14) fun h16 =>
        some ([], h16))
      else
      mv_rV (fN_twoTold o0 (nI 15) (nI 7) 33 (nI 9) h9) fun h17 =>
      mv_rI (fN_isWord o0 35 h17) fun r19 h18 =>
      mv_rV (fN_must o0 r19 h18) fun h20 =>
      some ([], h20))
    else
    mv_rV (fN_twoTold o0 (nI 7) (nI 7) 31 (nI 9) h7) fun h21 =>
    mv_rI (fN_isWord o0 35 h21) fun r23 h22 =>
    mv_rV (fN_must o0 r23 h22) fun h24 =>
    some ([], h24))
  else
  mv_rV (fN_clothTold o0 x3 h4) fun h25 =>
  mv_rI (fN_isWord o0 35 h25) fun r27 h26 =>
  mv_rV (fN_must o0 r27 h26) fun h28 =>
  some ([], h28)) := eN_item_g fN_clothTold fN_isWord fN_kindHere fN_lawHere fN_lawTold fN_must fN_twoTold q109 o0 h
theorem GN_item : ∀ (j : Nat) (C : mv_C H2) (md' : mv_MD × Bool), mv_nth j gN_item = some C → mv_nth j nN_item = some md' → ∃ n', n' + 1 ≤ 8 ∧ mv_Cal vw2 n' md' C := fun j C md' => match j with
  | 0 => fun h1 h2 => by
    obtain rfl := Option.some.inj h1
    obtain rfl := Option.some.inj h2
    exact ⟨6, by decide, cN_kindHere_ok⟩
  | 1 => fun h1 h2 => by
    obtain rfl := Option.some.inj h1
    obtain rfl := Option.some.inj h2
    exact ⟨6, by decide, cN_lawHere_ok⟩
  | 2 => fun h1 h2 => by
    obtain rfl := Option.some.inj h1
    obtain rfl := Option.some.inj h2
    exact ⟨7, by decide, cN_clothTold_ok⟩
  | 3 => fun h1 h2 => by
    obtain rfl := Option.some.inj h1
    obtain rfl := Option.some.inj h2
    exact ⟨5, by decide, cN_isWord_ok⟩
  | 4 => fun h1 h2 => by
    obtain rfl := Option.some.inj h1
    obtain rfl := Option.some.inj h2
    exact ⟨6, by decide, cN_twoTold_ok⟩
  | 5 => fun h1 h2 => by
    obtain rfl := Option.some.inj h1
    obtain rfl := Option.some.inj h2
    exact ⟨4, by decide, cN_must_ok⟩
  | 6 => fun h1 h2 => by
    obtain rfl := Option.some.inj h1
    obtain rfl := Option.some.inj h2
    exact ⟨6, by decide, cN_lawTold_ok⟩
  | jj + 7 => fun h1 _ => by cases jj <;> cases h1

set_option maxRecDepth 20000 in
theorem xN_item_b109 {g0 : mv_G} {res : List mv_V × H2} (o0 : Nat) (v2 : Int32) (os0 : Nat) (vs1 : Int32) (h : H2) (hh : fN_item_b109 o0 v2 os0 vs1 h = some res) : mv_X vw2 mdN_item 8 0 0 none g0 res 109 [(0, Sum.inr (8, o0)), (2, Sum.inl (Value.int v2))] [Sum.inl (Value.int vs1), Sum.inr (8, os0)] h 0 0 := by
  refine mv_blkX ax2 (GN_item) (by decide) kN_item (fun pc lv st h ce sl hh => ?_) ((eN_item_b109  o0 v2 os0 vs1 h).trans hh)
  cases hh

set_option maxRecDepth 20000 in
theorem xN_item {g0 : mv_G} {res : List mv_V × H2} (o0 : Nat) (h : H2) (hh : fN_item o0 h = some res) : mv_X vw2 mdN_item 8 0 0 none g0 res 0 [(0, Sum.inr (8, o0))] [] h 0 0 := by
  refine mv_blkX ax2 (GN_item) (by decide) kN_item (fun pc lv st h ce sl hh => ?_) ((eN_item (fN_item_b109) o0 h).trans hh)
  obtain ⟨hg, hh1⟩ := mv_gd_some hh
  obtain ⟨rfl, rfl⟩ := mv_z2 hg
  rcases mv_cond_some hh1 with ⟨hb, hh2⟩ | ⟨hb, hh3⟩
  · obtain rfl := Nat.eq_of_beq_eq_true hb
    obtain ⟨o0, m0, hh4⟩ := mv_gR_some hh2
    obtain ⟨v2, m1, hh5⟩ := mv_gI_some hh4
    obtain ⟨vs1, sthh6, rfl, hh6⟩ := mv_sI_some hh5
    obtain ⟨os0, sthh7, rfl, hh7⟩ := mv_sR_some hh6
    obtain ⟨rfl, hh8⟩ := mv_sE_some hh7
    exact (xN_item_b109  o0 v2 os0 vs1 h hh8).sub (List.forall_mem_cons.mpr ⟨m0, (List.forall_mem_cons.mpr ⟨m1, (fun q hq => by cases hq)⟩)⟩)
  cases hh3

theorem mN_item (o0 : Nat) (h : H2) (vs : List mv_V) (h' : H2) (hh : fN_item o0 h = some (vs, h')) : mv_Met vw2 8 0 0 mdN_item [Sum.inr (8, o0)] h vs h' :=
  mv_Met_of (by decide +kernel) (Nat.le_of_ble_eq_true rfl) (xN_item o0 h hh)
theorem cN_item_ok : mv_Cal vw2 8 (mdN_item, true) ((0, 0), cN_item) := by
  intro as h k res hh
  change cN_item as h k = some res at hh
  unfold cN_item at hh
  split at hh
  · obtain ⟨hg0, ha0⟩ := mv_gd_some hh
    obtain rfl := Nat.eq_of_beq_eq_true hg0
    obtain ⟨h', h1, h9⟩ := mv_rV_some ha0
    exact ⟨_, _, h9, (by first | decide | exact Nat.le_refl _ | exact Nat.zero_le _), fun _ => ⟨_, _, _, rfl, Or.inl ⟨by decide, rfl⟩⟩, (mN_item _ h _ _ h1)⟩
  · cases hh

