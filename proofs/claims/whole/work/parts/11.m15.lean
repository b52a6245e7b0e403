set_option maxRecDepth 100000 in
theorem kV_trace : mv_tok mdV_trace nV_trace tV_trace = true := by decide +kernel
set_option maxRecDepth 100000 in
set_option maxHeartbeats 1000000 in
theorem eV_trace (o0 : Nat) (v1 : Int32) (h : H2) : mv_blk rI2 rR2 ln2 wI2 wR2 nw2 cp2 bod none tV_trace gV_trace 0 0 [] (fun _ _ _ _ _ _ => none) 400 (mv_seek 0 tV_trace) [(0, Sum.inr (7, o0)), (1, Sum.inl (Value.int v1))] [] h 0 0 = (
  mv_rI (fV_isIn v1 (nI 0) ((rI2 h 0 0 1) - (nI 1)) h) fun r2 h1 =>
  if r2 = 0 then (
    some ([Sum.inl (Value.int (-(nI 3)))], h1))
  else
  mv_gd (mv_inb v1 30) <|
  some ([Sum.inl (Value.int (rI2 h1 100 0 v1.toNatClampNeg))], h1)) := rfl
theorem GV_trace : ∀ (j : Nat) (C : mv_C H2) (md' : mv_MD × Bool), mv_nth j gV_trace = some C → mv_nth j nV_trace = some md' → ∃ n', n' + 1 ≤ 2 ∧ mv_Cal vw2 n' md' C := fun j C md' => match j with
  | 0 => fun h1 h2 => by
    obtain rfl := Option.some.inj h1
    obtain rfl := Option.some.inj h2
    exact ⟨1, by decide, cV_isIn_ok⟩
  | jj + 1 => fun h1 _ => by cases jj <;> cases h1

set_option maxRecDepth 20000 in
theorem xV_trace {g0 : mv_G} {res : List mv_V × H2} (o0 : Nat) (v1 : Int32) (h : H2) (hh : fV_trace o0 v1 h = some res) : mv_X vw2 mdV_trace 2 0 0 none g0 res 0 [(0, Sum.inr (7, o0)), (1, Sum.inl (Value.int v1))] [] h 0 0 := by
  refine mv_blkX ax2 (GV_trace) (by decide) kV_trace (fun pc lv st h ce sl hh => ?_) ((eV_trace  o0 v1 h).trans hh)
  cases hh

theorem mV_trace (o0 : Nat) (v1 : Int32) (h : H2) (vs : List mv_V) (h' : H2) (hh : fV_trace o0 v1 h = some (vs, h')) : mv_Met vw2 2 0 0 mdV_trace [Sum.inr (7, o0), Sum.inl (Value.int v1)] h vs h' :=
  mv_Met_of (by decide +kernel) (Nat.le_of_ble_eq_true rfl) (xV_trace o0 v1 h hh)
set_option maxRecDepth 100000 in
theorem kV_many : mv_tok mdV_many nV_many tV_many = true := by decide +kernel
set_option maxRecDepth 100000 in
set_option maxHeartbeats 1000000 in
theorem eV_many (o0 : Nat) (v1 : Int32) (h : H2) : mv_blk rI2 rR2 ln2 wI2 wR2 nw2 cp2 bod none tV_many gV_many 0 0 [] (fun _ _ _ _ _ _ => none) 400 (mv_seek 0 tV_many) [(0, Sum.inr (7, o0)), (1, Sum.inl (Value.int v1))] [] h 0 0 = (
  if v1 = nI 0 then (
    some ([Sum.inl (Value.int (rI2 h 2 0 9))], h))
  else
  if v1 = nI 1 then (
    mv_rI (fM_hungSet 0 h) fun r2 h1 =>
    mv_rI (fJ_bitCount_0f7a4 r2 h1) fun r4 h3 =>
    some ([Sum.inl (Value.int r4)], h3))
  else
  if v1 = nI 2 then (
    mv_rI (fM_aboutSet 0 h) fun r6 h5 =>
    mv_rI (fJ_bitCount_0f7a4 r6 h5) fun r8 h7 =>
    some ([Sum.inl (Value.int r8)], h7))
  else
  if v1 = nI 3 then (
    mv_rI (fM_purposeSet 0 h) fun r10 h9 =>
    mv_rI (fJ_bitCount_0f7a4 r10 h9) fun r12 h11 =>
    some ([Sum.inl (Value.int r12)], h11))
  else
  if v1 = nI 4 then (
    some ([Sum.inl (Value.int (rI2 h 3 0 1))], h))
  else
  if v1 = nI 5 then (
    some ([Sum.inl (Value.int (rI2 h 6 0 1))], h))
  else
  if v1 = nI 6 then (
    some ([Sum.inl (Value.int (rI2 h 0 0 1))], h))
  else
  some ([Sum.inl (Value.int (-(nI 1)))], h)) := rfl
theorem GV_many : ∀ (j : Nat) (C : mv_C H2) (md' : mv_MD × Bool), mv_nth j gV_many = some C → mv_nth j nV_many = some md' → ∃ n', n' + 1 ≤ 2 ∧ mv_Cal vw2 n' md' C := fun j C md' => match j with
  | 0 => fun h1 h2 => by
    obtain rfl := Option.some.inj h1
    obtain rfl := Option.some.inj h2
    exact ⟨1, by decide, cM_hungSet_ok⟩
  | 1 => fun h1 h2 => by
    obtain rfl := Option.some.inj h1
    obtain rfl := Option.some.inj h2
    exact ⟨1, by decide, cJ_bitCount_0f7a4_ok⟩
  | 2 => fun h1 h2 => by
    obtain rfl := Option.some.inj h1
    obtain rfl := Option.some.inj h2
    exact ⟨1, by decide, cM_aboutSet_ok⟩
  | 3 => fun h1 h2 => by
    obtain rfl := Option.some.inj h1
    obtain rfl := Option.some.inj h2
    exact ⟨1, by decide, cM_purposeSet_ok⟩
  | jj + 4 => fun h1 _ => by cases jj <;> cases h1

set_option maxRecDepth 20000 in
theorem xV_many {g0 : mv_G} {res : List mv_V × H2} (o0 : Nat) (v1 : Int32) (h : H2) (hh : fV_many o0 v1 h = some res) : mv_X vw2 mdV_many 2 0 0 none g0 res 0 [(0, Sum.inr (7, o0)), (1, Sum.inl (Value.int v1))] [] h 0 0 := by
  refine mv_blkX ax2 (GV_many) (by decide) kV_many (fun pc lv st h ce sl hh => ?_) ((eV_many  o0 v1 h).trans hh)
  cases hh

theorem mV_many (o0 : Nat) (v1 : Int32) (h : H2) (vs : List mv_V) (h' : H2) (hh : fV_many o0 v1 h = some (vs, h')) : mv_Met vw2 2 0 0 mdV_many [Sum.inr (7, o0), Sum.inl (Value.int v1)] h vs h' :=
  mv_Met_of (by decide +kernel) (Nat.le_of_ble_eq_true rfl) (xV_many o0 v1 h hh)
set_option maxRecDepth 100000 in
theorem kV_keep : mv_tok mdV_keep nV_keep tV_keep = true := by decide +kernel
set_option maxRecDepth 100000 in
set_option maxHeartbeats 1000000 in
theorem eV_keep (o0 : Nat) (h : H2) : mv_blk rI2 rR2 ln2 wI2 wR2 nw2 cp2 bod none tV_keep gV_keep 0 0 [] (fun _ _ _ _ _ _ => none) 400 (mv_seek 0 tV_keep) [(0, Sum.inr (7, o0))] [] h 0 0 = (
  mv_rV (fM_copyFrom 2 0 h) fun h1 =>
  mv_gd (decide (nI 1 = nI 0) || decide (nI 1 = nI 1)) <|
  mv_bh (wI2 h1 7 o0 3 (nI 1)) fun h2 =>
  some ([Sum.inl (Value.int (nI 1))], h2)) := rfl
theorem GV_keep : ∀ (j : Nat) (C : mv_C H2) (md' : mv_MD × Bool), mv_nth j gV_keep = some C → mv_nth j nV_keep = some md' → ∃ n', n' + 1 ≤ 2 ∧ mv_Cal vw2 n' md' C := fun j C md' => match j with
  | 0 => fun h1 h2 => by
    obtain rfl := Option.some.inj h1
    obtain rfl := Option.some.inj h2
    exact ⟨1, by decide, cM_copyFrom_ok⟩
  | jj + 1 => fun h1 _ => by cases jj <;> cases h1

set_option maxRecDepth 20000 in
theorem xV_keep {g0 : mv_G} {res : List mv_V × H2} (o0 : Nat) (h : H2) (hh : fV_keep o0 h = some res) : mv_X vw2 mdV_keep 2 0 0 none g0 res 0 [(0, Sum.inr (7, o0))] [] h 0 0 := by
  refine mv_blkX ax2 (GV_keep) (by decide) kV_keep (fun pc lv st h ce sl hh => ?_) ((eV_keep  o0 h).trans hh)
  cases hh

theorem mV_keep (o0 : Nat) (h : H2) (vs : List mv_V) (h' : H2) (hh : fV_keep o0 h = some (vs, h')) : mv_Met vw2 2 0 0 mdV_keep [Sum.inr (7, o0)] h vs h' :=
  mv_Met_of (by decide +kernel) (Nat.le_of_ble_eq_true rfl) (xV_keep o0 h hh)
set_option maxRecDepth 100000 in
theorem kV_again : mv_tok mdV_again nV_again tV_again = true := by decide +kernel
set_option maxRecDepth 100000 in
set_option maxHeartbeats 1000000 in
theorem eV_again (o0 : Nat) (h : H2) : mv_blk rI2 rR2 ln2 wI2 wR2 nw2 cp2 bod none tV_again gV_again 0 0 [] (fun _ _ _ _ _ _ => none) 400 (mv_seek 0 tV_again) [(0, Sum.inr (7, o0))] [] h 0 0 = (
  if (rI2 h 7 o0 3) = 0 then (
    some ([Sum.inl (Value.int (-(nI 3)))], h))
  else
  mv_rV (fM_copyFrom 0 2 h) fun h1 =>
  some ([Sum.inl (Value.int (rI2 h1 2 0 9))], h1)) := rfl
theorem GV_again : ∀ (j : Nat) (C : mv_C H2) (md' : mv_MD × Bool), mv_nth j gV_again = some C → mv_nth j nV_again = some md' → ∃ n', n' + 1 ≤ 2 ∧ mv_Cal vw2 n' md' C := fun j C md' => match j with
  | 0 => fun h1 h2 => by
    obtain rfl := Option.some.inj h1
    obtain rfl := Option.some.inj h2
    exact ⟨1, by decide, cM_copyFrom_ok⟩
  | jj + 1 => fun h1 _ => by cases jj <;> cases h1

set_option maxRecDepth 20000 in
theorem xV_again {g0 : mv_G} {res : List mv_V × H2} (o0 : Nat) (h : H2) (hh : fV_again o0 h = some res) : mv_X vw2 mdV_again 2 0 0 none g0 res 0 [(0, Sum.inr (7, o0))] [] h 0 0 := by
  refine mv_blkX ax2 (GV_again) (by decide) kV_again (fun pc lv st h ce sl hh => ?_) ((eV_again  o0 h).trans hh)
  cases hh

theorem mV_again (o0 : Nat) (h : H2) (vs : List mv_V) (h' : H2) (hh : fV_again o0 h = some (vs, h')) : mv_Met vw2 2 0 0 mdV_again [Sum.inr (7, o0)] h vs h' :=
  mv_Met_of (by decide +kernel) (Nat.le_of_ble_eq_true rfl) (xV_again o0 h hh)
set_option maxRecDepth 100000 in
theorem kN_anew : mv_tok mdN_anew nN_anew tN_anew = true := by decide +kernel
set_option maxRecDepth 100000 in
set_option maxHeartbeats 1000000 in
theorem eN_anew_b89 (q89 : Nat → Int32 → Int32 → H2 → O2) (o0 : Nat) (v1 : Int32) (v2 : Int32) (h : H2) : mv_blk rI2 rR2 ln2 wI2 wR2 nw2 cp2 bod none tN_anew gN_anew 0 0 [89] (fun pc lv st h ce sl => mv_gd (Nat.beq ce 0 && Nat.beq sl 0) (cond (Nat.beq pc 89) (mv_gR 0 8 lv fun o0 => mv_gI 1 lv fun v1 => mv_gI 2 lv fun v2 => mv_sE st (q89 o0 v1 v2 h)) (none))) 400 (mv_seek 89 tN_anew) [(0, Sum.inr (8, o0)), (1, Sum.inl (Value.int v1)), (2, Sum.inl (Value.int v2))] [] h 0 0 = (
  if (nI 6) ≤ v2 then (
    mv_gd (mv_inb (nI 5) 69) <|
    mv_bh (wI2 h 902 o0 (nI 5).toNatClampNeg v1) fun h1 =>
    some ([], h1))
  else
  mv_gd (mv_inb ((nI 23) + v2) 69) <|
  mv_bh (wI2 h 902 o0 ((nI 23) + v2).toNatClampNeg v2) fun h2 =>
  mv_bi (v2 + (nI 1)) fun x3 =>
  q89 o0 v1 x3 h2) := rfl
set_option maxRecDepth 100000 in
set_option maxHeartbeats 1000000 in
theorem eN_anew_b55 (q55 : Nat → Int32 → Int32 → H2 → O2) (q89 : Nat → Int32 → Int32 → H2 → O2) (o0 : Nat) (v1 : Int32) (v2 : Int32) (h : H2) : mv_blk rI2 rR2 ln2 wI2 wR2 nw2 cp2 bod none tN_anew gN_anew 0 0 [55, 89] (fun pc lv st h ce sl => mv_gd (Nat.beq ce 0 && Nat.beq sl 0) (cond (Nat.beq pc 55) (mv_gR 0 8 lv fun o0 => mv_gI 1 lv fun v1 => mv_gI 2 lv fun v2 => mv_sE st (q55 o0 v1 v2 h)) (cond (Nat.beq pc 89) (mv_gR 0 8 lv fun o0 => mv_gI 1 lv fun v1 => mv_gI 2 lv fun v2 => mv_sE st (q89 o0 v1 v2 h)) (none)))) 400 (mv_seek 55 tN_anew) [(0, Sum.inr (8, o0)), (1, Sum.inl (Value.int v1)), (2, Sum.inl (Value.int v2))] [] h 0 0 = (
  if (nI 8) ≤ v2 then (
    mv_bi (nI 0) fun x1 =>
    q89 o0 v1 x1 h)
  else
  mv_gd (mv_inb ((nI 7) + v2) 69) <|
  mv_bh (wI2 h 902 o0 ((nI 7) + v2).toNatClampNeg v2) fun h2 =>
  mv_gd (mv_inb ((nI 15) + v2) 69) <|
  mv_bh (wI2 h2 902 o0 ((nI 15) + v2).toNatClampNeg (nI 5)) fun h3 =>
  mv_bi (v2 + (nI 1)) fun x4 =>
  q55 o0 v1 x4 h3) := rfl
set_option maxRecDepth 100000 in
set_option maxHeartbeats 1000000 in
theorem eN_anew_b30 (q30 : Nat → Int32 → Int32 → H2 → O2) (q55 : Nat → Int32 → Int32 → H2 → O2) (o0 : Nat) (v1 : Int32) (v2 : Int32) (h : H2) : mv_blk rI2 rR2 ln2 wI2 wR2 nw2 cp2 bod none tN_anew gN_anew 0 0 [30, 55] (fun pc lv st h ce sl => mv_gd (Nat.beq ce 0 && Nat.beq sl 0) (cond (Nat.beq pc 30) (mv_gR 0 8 lv fun o0 => mv_gI 1 lv fun v1 => mv_gI 2 lv fun v2 => mv_sE st (q30 o0 v1 v2 h)) (cond (Nat.beq pc 55) (mv_gR 0 8 lv fun o0 => mv_gI 1 lv fun v1 => mv_gI 2 lv fun v2 => mv_sE st (q55 o0 v1 v2 h)) (none)))) 400 (mv_seek 30 tN_anew) [(0, Sum.inr (8, o0)), (1, Sum.inl (Value.int v1)), (2, Sum.inl (Value.int v2))] [] h 0 0 = (
  if (nI 4) ≤ v2 then (
    mv_bi (nI 0) fun x1 =>
    q55 o0 v1 x1 h)
  else
  mv_gd (mv_inb v2 4) <|
  mv_gd (mv_inb v2 69) <|
  mv_bh (wI2 h 902 o0 v2.toNatClampNeg (rI2 h 901 o0 v2.toNatClampNeg)) fun h2 =>
  mv_bi (v2 + (nI 1)) fun x3 =>
  q30 o0 v1 x3 h2) := rfl
set_option maxRecDepth 100000 in
set_option maxHeartbeats 1000000 in
theorem eN_anew_b9 (q9 : Nat → Int32 → Int32 → H2 → O2) (q30 : Nat → Int32 → Int32 → H2 → O2) (o0 : Nat) (v1 : Int32) (v2 : Int32) (h : H2) : mv_blk rI2 rR2 ln2 wI2 wR2 nw2 cp2 bod none tN_anew gN_anew 0 0 [9, 30] (fun pc lv st h ce sl => mv_gd (Nat.beq ce 0 && Nat.beq sl 0) (cond (Nat.beq pc 9) (mv_gR 0 8 lv fun o0 => mv_gI 1 lv fun v1 => mv_gI 2 lv fun v2 => mv_sE st (q9 o0 v1 v2 h)) (cond (Nat.beq pc 30) (mv_gR 0 8 lv fun o0 => mv_gI 1 lv fun v1 => mv_gI 2 lv fun v2 => mv_sE st (q30 o0 v1 v2 h)) (none)))) 400 (mv_seek 9 tN_anew) [(0, Sum.inr (8, o0)), (1, Sum.inl (Value.int v1)), (2, Sum.inl (Value.int v2))] [] h 0 0 = (
  if (nI 69) ≤ v2 then (
    mv_bi (nI 0) fun x1 =>
    q30 o0 v1 x1 h)
  else
  mv_gd (mv_inb v2 69) <|
  mv_bh (wI2 h 902 o0 v2.toNatClampNeg (nI 0)) fun h2 =>
  mv_bi (v2 + (nI 1)) fun x3 =>
  q9 o0 v1 x3 h2) := rfl
set_option maxRecDepth 100000 in
set_option maxHeartbeats 1000000 in
theorem eN_anew (q9 : Nat → Int32 → Int32 → H2 → O2) (o0 : Nat) (h : H2) : mv_blk rI2 rR2 ln2 wI2 wR2 nw2 cp2 bod none tN_anew gN_anew 0 0 [9] (fun pc lv st h ce sl => mv_gd (Nat.beq ce 0 && Nat.beq sl 0) (cond (Nat.beq pc 9) (mv_gR 0 8 lv fun o0 => mv_gI 1 lv fun v1 => mv_gI 2 lv fun v2 => mv_sE st (q9 o0 v1 v2 h)) (none))) 400 (mv_seek 0 tN_anew) [(0, Sum.inr (8, o0))] [] h 0 0 = (
  mv_gd (mv_inb (nI 5) 69) <|
  mv_bi (rI2 h 902 o0 (nI 5).toNatClampNeg) fun x1 =>
  mv_bi (nI 0) fun x2 =>
  q9 o0 x1 x2 h) := rfl
theorem GN_anew : ∀ (j : Nat) (C : mv_C H2) (md' : mv_MD × Bool), mv_nth j gN_anew = some C → mv_nth j nN_anew = some md' → ∃ n', n' + 1 ≤ 1 ∧ mv_Cal vw2 n' md' C := fun j C md' h1 _ => by cases j <;> cases h1

set_option maxRecDepth 20000 in
theorem xN_anew_b89 {g0 : mv_G} {res : List mv_V × H2} : ∀ (n : Nat) (o0 : Nat) (v1 : Int32) (v2 : Int32) (h : H2), fN_anew_b89 n o0 v1 v2 h = some res → mv_X vw2 mdN_anew 1 0 0 none g0 res 89 [(0, Sum.inr (8, o0)), (1, Sum.inl (Value.int v1)), (2, Sum.inl (Value.int v2))] [] h 0 0 := by
  intro n
  induction n with
  | zero => intro o0 v1 v2 h hh; cases hh
  | succ n ih =>
    intro o0 v1 v2 h hh
    refine mv_blkX ax2 (GN_anew) (by decide) kN_anew (fun pc lv st h ce sl hh => ?_) ((eN_anew_b89 (fN_anew_b89 n) o0 v1 v2 h).trans hh)
    obtain ⟨hg, hh1⟩ := mv_gd_some hh
    obtain ⟨rfl, rfl⟩ := mv_z2 hg
    rcases mv_cond_some hh1 with ⟨hb, hh2⟩ | ⟨hb, hh3⟩
    · obtain rfl := Nat.eq_of_beq_eq_true hb
      obtain ⟨o0, m0, hh4⟩ := mv_gR_some hh2
      obtain ⟨v1, m1, hh5⟩ := mv_gI_some hh4
      obtain ⟨v2, m2, hh6⟩ := mv_gI_some hh5
      obtain ⟨rfl, hh7⟩ := mv_sE_some hh6
      exact (ih o0 v1 v2 h hh7).sub (List.forall_mem_cons.mpr ⟨m0, (List.forall_mem_cons.mpr ⟨m1, (List.forall_mem_cons.mpr ⟨m2, (fun q hq => by cases hq)⟩)⟩)⟩)
    cases hh3

set_option maxRecDepth 20000 in
theorem xN_anew_b55 {g0 : mv_G} {res : List mv_V × H2} : ∀ (n : Nat) (o0 : Nat) (v1 : Int32) (v2 : Int32) (h : H2), fN_anew_b55 n o0 v1 v2 h = some res → mv_X vw2 mdN_anew 1 0 0 none g0 res 55 [(0, Sum.inr (8, o0)), (1, Sum.inl (Value.int v1)), (2, Sum.inl (Value.int v2))] [] h 0 0 := by
  intro n
  induction n with
  | zero => intro o0 v1 v2 h hh; cases hh
  | succ n ih =>
    intro o0 v1 v2 h hh
    refine mv_blkX ax2 (GN_anew) (by decide) kN_anew (fun pc lv st h ce sl hh => ?_) ((eN_anew_b55 (fN_anew_b55 n) (fN_anew_b89 1000) o0 v1 v2 h).trans hh)
    obtain ⟨hg, hh1⟩ := mv_gd_some hh
    obtain ⟨rfl, rfl⟩ := mv_z2 hg
    rcases mv_cond_some hh1 with ⟨hb, hh2⟩ | ⟨hb, hh3⟩
    · obtain rfl := Nat.eq_of_beq_eq_true hb
      obtain ⟨o0, m0, hh4⟩ := mv_gR_some hh2
      obtain ⟨v1, m1, hh5⟩ := mv_gI_some hh4
      obtain ⟨v2, m2, hh6⟩ := mv_gI_some hh5
      obtain ⟨rfl, hh7⟩ := mv_sE_some hh6
      exact (ih o0 v1 v2 h hh7).sub (List.forall_mem_cons.mpr ⟨m0, (List.forall_mem_cons.mpr ⟨m1, (List.forall_mem_cons.mpr ⟨m2, (fun q hq => by cases hq)⟩)⟩)⟩)
    rcases mv_cond_some hh3 with ⟨hb, hh8⟩ | ⟨hb, hh9⟩
    · obtain rfl := Nat.eq_of_beq_eq_true hb
      obtain ⟨o0, m0, hh10⟩ := mv_gR_some hh8
      obtain ⟨v1, m1, hh11⟩ := mv_gI_some hh10
      obtain ⟨v2, m2, hh12⟩ := mv_gI_some hh11
      obtain ⟨rfl, hh13⟩ := mv_sE_some hh12
      exact (xN_anew_b89 1000 o0 v1 v2 h hh13).sub (List.forall_mem_cons.mpr ⟨m0, (List.forall_mem_cons.mpr ⟨m1, (List.forall_mem_cons.mpr ⟨m2, (fun q hq => by cases hq)⟩)⟩)⟩)
    cases hh9

set_option maxRecDepth 20000 in
theorem xN_anew_b30 {g0 : mv_G} {res : List mv_V × H2} : ∀ (n : Nat) (o0 : Nat) (v1 : Int32) (v2 : Int32) (h : H2), fN_anew_b30 n o0 v1 v2 h = some res → mv_X vw2 mdN_anew 1 0 0 none g0 res 30 [(0, Sum.inr (8, o0)), (1, Sum.inl (Value.int v1)), (2, Sum.inl (Value.int v2))] [] h 0 0 := by
  intro n
  induction n with
  | zero => intro o0 v1 v2 h hh; cases hh
  | succ n ih =>
    intro o0 v1 v2 h hh
    refine mv_blkX ax2 (GN_anew) (by decide) kN_anew (fun pc lv st h ce sl hh => ?_) ((eN_anew_b30 (fN_anew_b30 n) (fN_anew_b55 1000) o0 v1 v2 h).trans hh)
    obtain ⟨hg, hh1⟩ := mv_gd_some hh
    obtain ⟨rfl, rfl⟩ := mv_z2 hg
    rcases mv_cond_some hh1 with ⟨hb, hh2⟩ | ⟨hb, hh3⟩
    · obtain rfl := Nat.eq_of_beq_eq_true hb
      obtain ⟨o0, m0, hh4⟩ := mv_gR_some hh2
      obtain ⟨v1, m1, hh5⟩ := mv_gI_some hh4
      obtain ⟨v2, m2, hh6⟩ := mv_gI_some hh5
      obtain ⟨rfl, hh7⟩ := mv_sE_some hh6
      exact (ih o0 v1 v2 h hh7).sub (List.forall_mem_cons.mpr ⟨m0, (List.forall_mem_cons.mpr ⟨m1, (List.forall_mem_cons.mpr ⟨m2, (fun q hq => by cases hq)⟩)⟩)⟩)
    rcases mv_cond_some hh3 with ⟨hb, hh8⟩ | ⟨hb, hh9⟩
    · obtain rfl := Nat.eq_of_beq_eq_true hb
      obtain ⟨o0, m0, hh10⟩ := mv_gR_some hh8
      obtain ⟨v1, m1, hh11⟩ := mv_gI_some hh10
      obtain ⟨v2, m2, hh12⟩ := mv_gI_some hh11
      obtain ⟨rfl, hh13⟩ := mv_sE_some hh12
      exact (xN_anew_b55 1000 o0 v1 v2 h hh13).sub (List.forall_mem_cons.mpr ⟨m0, (List.forall_mem_cons.mpr ⟨m1, (List.forall_mem_cons.mpr ⟨m2, (fun q hq => by cases hq)⟩)⟩)⟩)
    cases hh9

set_option maxRecDepth 20000 in
theorem xN_anew_b9 {g0 : mv_G} {res : List mv_V × H2} : ∀ (n : Nat) (o0 : Nat) (v1 : Int32) (v2 : Int32) (h : H2), fN_anew_b9 n o0 v1 v2 h = some res → mv_X vw2 mdN_anew 1 0 0 none g0 res 9 [(0, Sum.inr (8, o0)), (1, Sum.inl (Value.int v1)), (2, Sum.inl (Value.int v2))] [] h 0 0 := by
  intro n
  induction n with
  | zero => intro o0 v1 v2 h hh; cases hh
  | succ n ih =>
    intro o0 v1 v2 h hh
    refine mv_blkX ax2 (GN_anew) (by decide) kN_anew (fun pc lv st h ce sl hh => ?_) ((eN_anew_b9 (fN_anew_b9 n) (fN_anew_b30 1000) o0 v1 v2 h).trans hh)
    obtain ⟨hg, hh1⟩ := mv_gd_some hh
    obtain ⟨rfl, rfl⟩ := mv_z2 hg
    rcases mv_cond_some hh1 with ⟨hb, hh2⟩ | ⟨hb, hh3⟩
    · obtain rfl := Nat.eq_of_beq_eq_true hb
      obtain ⟨o0, m0, hh4⟩ := mv_gR_some hh2
      obtain ⟨v1, m1, hh5⟩ := mv_gI_some hh4
      obtain ⟨v2, m2, hh6⟩ := mv_gI_some hh5
      obtain ⟨rfl, hh7⟩ := mv_sE_some hh6
      exact (ih o0 v1 v2 h hh7).sub (List.forall_mem_cons.mpr ⟨m0, (List.forall_mem_cons.mpr ⟨m1, (List.forall_mem_cons.mpr ⟨m2, (fun q hq => by cases hq)⟩)⟩)⟩)
    rcases mv_cond_some hh3 with ⟨hb, hh8⟩ | ⟨hb, hh9⟩
    · obtain rfl := Nat.eq_of_beq_eq_true hb
      obtain ⟨o0, m0, hh10⟩ := mv_gR_some hh8
      obtain ⟨v1, m1, hh11⟩ := mv_gI_some hh10
      obtain ⟨v2, m2, hh12⟩ := mv_gI_some hh11
      obtain ⟨rfl, hh13⟩ := mv_sE_some hh12
      exact (xN_anew_b30 1000 o0 v1 v2 h hh13).sub (List.forall_mem_cons.mpr ⟨m0, (List.forall_mem_cons.mpr ⟨m1, (List.forall_mem_cons.mpr ⟨m2, (fun q hq => by cases hq)⟩)⟩)⟩)
    cases hh9

set_option maxRecDepth 20000 in
theorem xN_anew {g0 : mv_G} {res : List mv_V × H2} (o0 : Nat) (h : H2) (hh : fN_anew o0 h = some res) : mv_X vw2 mdN_anew 1 0 0 none g0 res 0 [(0, Sum.inr (8, o0))] [] h 0 0 := by
  refine mv_blkX ax2 (GN_anew) (by decide) kN_anew (fun pc lv st h ce sl hh => ?_) ((eN_anew (fN_anew_b9 1000) o0 h).trans hh)
  obtain ⟨hg, hh1⟩ := mv_gd_some hh
  obtain ⟨rfl, rfl⟩ := mv_z2 hg
  rcases mv_cond_some hh1 with ⟨hb, hh2⟩ | ⟨hb, hh3⟩
  · obtain rfl := Nat.eq_of_beq_eq_true hb
    obtain ⟨o0, m0, hh4⟩ := mv_gR_some hh2
    obtain ⟨v1, m1, hh5⟩ := mv_gI_some hh4
    obtain ⟨v2, m2, hh6⟩ := mv_gI_some hh5
    obtain ⟨rfl, hh7⟩ := mv_sE_some hh6
    exact (xN_anew_b9 1000 o0 v1 v2 h hh7).sub (List.forall_mem_cons.mpr ⟨m0, (List.forall_mem_cons.mpr ⟨m1, (List.forall_mem_cons.mpr ⟨m2, (fun q hq => by cases hq)⟩)⟩)⟩)
  cases hh3

theorem mN_anew (o0 : Nat) (h : H2) (vs : List mv_V) (h' : H2) (hh : fN_anew o0 h = some (vs, h')) : mv_Met vw2 1 0 0 mdN_anew [Sum.inr (8, o0)] h vs h' :=
  mv_Met_of (by decide +kernel) (Nat.le_of_ble_eq_true rfl) (xN_anew o0 h hh)
theorem cN_anew_ok : mv_Cal vw2 1 (mdN_anew, true) ((0, 0), cN_anew) := by
  intro as h k res hh
  change cN_anew as h k = some res at hh
  unfold cN_anew at hh
  split at hh
  · obtain ⟨hg0, ha0⟩ := mv_gd_some hh
    obtain rfl := Nat.eq_of_beq_eq_true hg0
    obtain ⟨h', h1, h9⟩ := mv_rV_some ha0
    exact ⟨_, _, h9, (by first | decide | exact Nat.le_refl _ | exact Nat.zero_le _), fun _ => ⟨_, _, _, rfl, Or.inl ⟨by decide, rfl⟩⟩, (mN_anew _ h _ _ h1)⟩
  · cases hh

set_option maxRecDepth 100000 in
theorem kN_in : mv_tok mdN_in nN_in tN_in = true := by decide +kernel
set_option maxRecDepth 100000 in
set_option maxHeartbeats 1000000 in
theorem eN_in (w0 : Int64) (w2 : Int64) (w4 : Int64) (h : H2) : mv_blk rI2 rR2 ln2 wI2 wR2 nw2 cp2 bod none tN_in gN_in 0 0 [] (fun _ _ _ _ _ _ => none) 400 (mv_seek 0 tN_in) [(0, Sum.inl (Value.long w0)), (2, Sum.inl (Value.long w2)), (4, Sum.inl (Value.long w4))] [] h 0 0 = (
  if (lg_cmp w0 w2) < 0 then (
    mv_gd (decide (nI 0 = nI 0) || decide (nI 0 = nI 1)) <| some ([Sum.inl (Value.int (nI 0))], h))
  else
  if 0 < (lg_cmp w0 w4) then (
    mv_gd (decide (nI 0 = nI 0) || decide (nI 0 = nI 1)) <| some ([Sum.inl (Value.int (nI 0))], h))
  else
  mv_gd (decide (nI 1 = nI 0) || decide (nI 1 = nI 1)) <| some ([Sum.inl (Value.int (nI 1))], h)) := rfl
theorem GN_in : ∀ (j : Nat) (C : mv_C H2) (md' : mv_MD × Bool), mv_nth j gN_in = some C → mv_nth j nN_in = some md' → ∃ n', n' + 1 ≤ 1 ∧ mv_Cal vw2 n' md' C := fun j C md' h1 _ => by cases j <;> cases h1

set_option maxRecDepth 20000 in
theorem xN_in {g0 : mv_G} {res : List mv_V × H2} (w0 : Int64) (w2 : Int64) (w4 : Int64) (h : H2) (hh : fN_in w0 w2 w4 h = some res) : mv_X vw2 mdN_in 1 0 0 none g0 res 0 [(0, Sum.inl (Value.long w0)), (2, Sum.inl (Value.long w2)), (4, Sum.inl (Value.long w4))] [] h 0 0 := by
  refine mv_blkX ax2 (GN_in) (by decide) kN_in (fun pc lv st h ce sl hh => ?_) ((eN_in  w0 w2 w4 h).trans hh)
  cases hh

theorem mN_in (w0 : Int64) (w2 : Int64) (w4 : Int64) (h : H2) (vs : List mv_V) (h' : H2) (hh : fN_in w0 w2 w4 h = some (vs, h')) : mv_Met vw2 1 0 0 mdN_in [Sum.inl (Value.long w0), Sum.inl (Value.long w2), Sum.inl (Value.long w4)] h vs h' :=
  mv_Met_of (by decide +kernel) (Nat.le_of_ble_eq_true rfl) (xN_in w0 w2 w4 h hh)
theorem cN_in_ok : mv_Cal vw2 1 (mdN_in, false) ((0, 0), cN_in) := by
  intro as h k res hh
  change cN_in as h k = some res at hh
  unfold cN_in at hh
  split at hh
  · obtain ⟨x, h', h1, h9⟩ := mv_rI_some hh
    exact ⟨_, _, h9, (by first | decide | exact Nat.le_refl _ | exact Nat.zero_le _), (fun h => by cases h), (mN_in _ _ _ h _ _ h1)⟩
  · cases hh

set_option maxRecDepth 100000 in
theorem kN_become_902_904 : mv_tok mdN_become nN_become_902_904 tN_become_902_904 = true := by decide +kernel
set_option maxRecDepth 100000 in
set_option maxHeartbeats 1000000 in
theorem eN_become_902_904_b2 (q2 : Nat → Nat → Int32 → H2 → O2) (o0 : Nat) (o1 : Nat) (v2 : Int32) (h : H2) : mv_blk rI2 rR2 ln2 wI2 wR2 nw2 cp2 bod none tN_become_902_904 gN_become_902_904 0 0 [2] (fun pc lv st h ce sl => mv_gd (Nat.beq ce 0 && Nat.beq sl 0) (cond (Nat.beq pc 2) (mv_gR 0 902 lv fun o0 => mv_gR 1 904 lv fun o1 => mv_gI 2 lv fun v2 => mv_sE st (q2 o0 o1 v2 h)) (none))) 400 (mv_seek 2 tN_become_902_904) [(0, Sum.inr (902, o0)), (1, Sum.inr (904, o1)), (2, Sum.inl (Value.int v2))] [] h 0 0 = (
  if (nI 69) ≤ v2 then (
    some ([], h))
  else
  mv_gd (mv_inb v2 69) <|
  mv_gd (mv_inb v2 69) <|
  mv_bh (wI2 h 904 o1 v2.toNatClampNeg (rI2 h 902 o0 v2.toNatClampNeg)) fun h1 =>
  mv_bi (v2 + (nI 1)) fun x2 =>
  q2 o0 o1 x2 h1) := rfl
set_option maxRecDepth 100000 in
set_option maxHeartbeats 1000000 in
theorem eN_become_902_904 (q2 : Nat → Nat → Int32 → H2 → O2) (o0 : Nat) (o1 : Nat) (h : H2) : mv_blk rI2 rR2 ln2 wI2 wR2 nw2 cp2 bod none tN_become_902_904 gN_become_902_904 0 0 [2] (fun pc lv st h ce sl => mv_gd (Nat.beq ce 0 && Nat.beq sl 0) (cond (Nat.beq pc 2) (mv_gR 0 902 lv fun o0 => mv_gR 1 904 lv fun o1 => mv_gI 2 lv fun v2 => mv_sE st (q2 o0 o1 v2 h)) (none))) 400 (mv_seek 0 tN_become_902_904) [(0, Sum.inr (902, o0)), (1, Sum.inr (904, o1))] [] h 0 0 = (
  mv_bi (nI 0) fun x1 =>
  q2 o0 o1 x1 h) := rfl
theorem GN_become_902_904 : ∀ (j : Nat) (C : mv_C H2) (md' : mv_MD × Bool), mv_nth j gN_become_902_904 = some C → mv_nth j nN_become_902_904 = some md' → ∃ n', n' + 1 ≤ 1 ∧ mv_Cal vw2 n' md' C := fun j C md' h1 _ => by cases j <;> cases h1

set_option maxRecDepth 20000 in
theorem xN_become_902_904_b2 {g0 : mv_G} {res : List mv_V × H2} : ∀ (n : Nat) (o0 : Nat) (o1 : Nat) (v2 : Int32) (h : H2), fN_become_902_904_b2 n o0 o1 v2 h = some res → mv_X vw2 mdN_become 1 0 0 none g0 res 2 [(0, Sum.inr (902, o0)), (1, Sum.inr (904, o1)), (2, Sum.inl (Value.int v2))] [] h 0 0 := by
  intro n
  induction n with
  | zero => intro o0 o1 v2 h hh; cases hh
  | succ n ih =>
    intro o0 o1 v2 h hh
    refine mv_blkX ax2 (GN_become_902_904) (by decide) kN_become_902_904 (fun pc lv st h ce sl hh => ?_) ((eN_become_902_904_b2 (fN_become_902_904_b2 n) o0 o1 v2 h).trans hh)
    obtain ⟨hg, hh1⟩ := mv_gd_some hh
    obtain ⟨rfl, rfl⟩ := mv_z2 hg
    rcases mv_cond_some hh1 with ⟨hb, hh2⟩ | ⟨hb, hh3⟩
    · obtain rfl := Nat.eq_of_beq_eq_true hb
      obtain ⟨o0, m0, hh4⟩ := mv_gR_some hh2
      obtain ⟨o1, m1, hh5⟩ := mv_gR_some hh4
      obtain ⟨v2, m2, hh6⟩ := mv_gI_some hh5
      obtain ⟨rfl, hh7⟩ := mv_sE_some hh6
      exact (ih o0 o1 v2 h hh7).sub (List.forall_mem_cons.mpr ⟨m0, (List.forall_mem_cons.mpr ⟨m1, (List.forall_mem_cons.mpr ⟨m2, (fun q hq => by cases hq)⟩)⟩)⟩)
    cases hh3

set_option maxRecDepth 20000 in
theorem xN_become_902_904 {g0 : mv_G} {res : List mv_V × H2} (o0 : Nat) (o1 : Nat) (h : H2) (hh : fN_become_902_904 o0 o1 h = some res) : mv_X vw2 mdN_become 1 0 0 none g0 res 0 [(0, Sum.inr (902, o0)), (1, Sum.inr (904, o1))] [] h 0 0 := by
  refine mv_blkX ax2 (GN_become_902_904) (by decide) kN_become_902_904 (fun pc lv st h ce sl hh => ?_) ((eN_become_902_904 (fN_become_902_904_b2 1000) o0 o1 h).trans hh)
  obtain ⟨hg, hh1⟩ := mv_gd_some hh
  obtain ⟨rfl, rfl⟩ := mv_z2 hg
  rcases mv_cond_some hh1 with ⟨hb, hh2⟩ | ⟨hb, hh3⟩
  · obtain rfl := Nat.eq_of_beq_eq_true hb
    obtain ⟨o0, m0, hh4⟩ := mv_gR_some hh2
    obtain ⟨o1, m1, hh5⟩ := mv_gR_some hh4
    obtain ⟨v2, m2, hh6⟩ := mv_gI_some hh5
    obtain ⟨rfl, hh7⟩ := mv_sE_some hh6
    exact (xN_become_902_904_b2 1000 o0 o1 v2 h hh7).sub (List.forall_mem_cons.mpr ⟨m0, (List.forall_mem_cons.mpr ⟨m1, (List.forall_mem_cons.mpr ⟨m2, (fun q hq => by cases hq)⟩)⟩)⟩)
  cases hh3

theorem mN_become_902_904 (o0 : Nat) (o1 : Nat) (h : H2) (vs : List mv_V) (h' : H2) (hh : fN_become_902_904 o0 o1 h = some (vs, h')) : mv_Met vw2 1 0 0 mdN_become [Sum.inr (902, o0), Sum.inr (904, o1)] h vs h' :=
  mv_Met_of (by decide +kernel) (Nat.le_of_ble_eq_true rfl) (xN_become_902_904 o0 o1 h hh)
set_option maxRecDepth 100000 in
theorem kN_become_904_902 : mv_tok mdN_become nN_become_904_902 tN_become_904_902 = true := by decide +kernel
set_option maxRecDepth 100000 in
set_option maxHeartbeats 1000000 in
theorem eN_become_904_902_b2 (q2 : Nat → Nat → Int32 → H2 → O2) (o0 : Nat) (o1 : Nat) (v2 : Int32) (h : H2) : mv_blk rI2 rR2 ln2 wI2 wR2 nw2 cp2 bod none tN_become_904_902 gN_become_904_902 0 0 [2] (fun pc lv st h ce sl => mv_gd (Nat.beq ce 0 && Nat.beq sl 0) (cond (Nat.beq pc 2) (mv_gR 0 904 lv fun o0 => mv_gR 1 902 lv fun o1 => mv_gI 2 lv fun v2 => mv_sE st (q2 o0 o1 v2 h)) (none))) 400 (mv_seek 2 tN_become_904_902) [(0, Sum.inr (904, o0)), (1, Sum.inr (902, o1)), (2, Sum.inl (Value.int v2))] [] h 0 0 = (
  if (nI 69) ≤ v2 then (
    some ([], h))
  else
  mv_gd (mv_inb v2 69) <|
  mv_gd (mv_inb v2 69) <|
  mv_bh (wI2 h 902 o1 v2.toNatClampNeg (rI2 h 904 o0 v2.toNatClampNeg)) fun h1 =>
  mv_bi (v2 + (nI 1)) fun x2 =>
  q2 o0 o1 x2 h1) := rfl
set_option maxRecDepth 100000 in
set_option maxHeartbeats 1000000 in
theorem eN_become_904_902 (q2 : Nat → Nat → Int32 → H2 → O2) (o0 : Nat) (o1 : Nat) (h : H2) : mv_blk rI2 rR2 ln2 wI2 wR2 nw2 cp2 bod none tN_become_904_902 gN_become_904_902 0 0 [2] (fun pc lv st h ce sl => mv_gd (Nat.beq ce 0 && Nat.beq sl 0) (cond (Nat.beq pc 2) (mv_gR 0 904 lv fun o0 => mv_gR 1 902 lv fun o1 => mv_gI 2 lv fun v2 => mv_sE st (q2 o0 o1 v2 h)) (none))) 400 (mv_seek 0 tN_become_904_902) [(0, Sum.inr (904, o0)), (1, Sum.inr (902, o1))] [] h 0 0 = (
  mv_bi (nI 0) fun x1 =>
  q2 o0 o1 x1 h) := rfl
theorem GN_become_904_902 : ∀ (j : Nat) (C : mv_C H2) (md' : mv_MD × Bool), mv_nth j gN_become_904_902 = some C → mv_nth j nN_become_904_902 = some md' → ∃ n', n' + 1 ≤ 1 ∧ mv_Cal vw2 n' md' C := fun j C md' h1 _ => by cases j <;> cases h1

set_option maxRecDepth 20000 in
theorem xN_become_904_902_b2 {g0 : mv_G} {res : List mv_V × H2} : ∀ (n : Nat) (o0 : Nat) (o1 : Nat) (v2 : Int32) (h : H2), fN_become_904_902_b2 n o0 o1 v2 h = some res → mv_X vw2 mdN_become 1 0 0 none g0 res 2 [(0, Sum.inr (904, o0)), (1, Sum.inr (902, o1)), (2, Sum.inl (Value.int v2))] [] h 0 0 := by
  intro n
  induction n with
  | zero => intro o0 o1 v2 h hh; cases hh
  | succ n ih =>
    intro o0 o1 v2 h hh
    refine mv_blkX ax2 (GN_become_904_902) (by decide) kN_become_904_902 (fun pc lv st h ce sl hh => ?_) ((eN_become_904_902_b2 (fN_become_904_902_b2 n) o0 o1 v2 h).trans hh)
    obtain ⟨hg, hh1⟩ := mv_gd_some hh
    obtain ⟨rfl, rfl⟩ := mv_z2 hg
    rcases mv_cond_some hh1 with ⟨hb, hh2⟩ | ⟨hb, hh3⟩
    · obtain rfl := Nat.eq_of_beq_eq_true hb
      obtain ⟨o0, m0, hh4⟩ := mv_gR_some hh2
      obtain ⟨o1, m1, hh5⟩ := mv_gR_some hh4
      obtain ⟨v2, m2, hh6⟩ := mv_gI_some hh5
      obtain ⟨rfl, hh7⟩ := mv_sE_some hh6
      exact (ih o0 o1 v2 h hh7).sub (List.forall_mem_cons.mpr ⟨m0, (List.forall_mem_cons.mpr ⟨m1, (List.forall_mem_cons.mpr ⟨m2, (fun q hq => by cases hq)⟩)⟩)⟩)
    cases hh3

set_option maxRecDepth 20000 in
theorem xN_become_904_902 {g0 : mv_G} {res : List mv_V × H2} (o0 : Nat) (o1 : Nat) (h : H2) (hh : fN_become_904_902 o0 o1 h = some res) : mv_X vw2 mdN_become 1 0 0 none g0 res 0 [(0, Sum.inr (904, o0)), (1, Sum.inr (902, o1))] [] h 0 0 := by
  refine mv_blkX ax2 (GN_become_904_902) (by decide) kN_become_904_902 (fun pc lv st h ce sl hh => ?_) ((eN_become_904_902 (fN_become_904_902_b2 1000) o0 o1 h).trans hh)
  obtain ⟨hg, hh1⟩ := mv_gd_some hh
  obtain ⟨rfl, rfl⟩ := mv_z2 hg
  rcases mv_cond_some hh1 with ⟨hb, hh2⟩ | ⟨hb, hh3⟩
  · obtain rfl := Nat.eq_of_beq_eq_true hb
    obtain ⟨o0, m0, hh4⟩ := mv_gR_some hh2
    obtain ⟨o1, m1, hh5⟩ := mv_gR_some hh4
    obtain ⟨v2, m2, hh6⟩ := mv_gI_some hh5
    obtain ⟨rfl, hh7⟩ := mv_sE_some hh6
    exact (xN_become_904_902_b2 1000 o0 o1 v2 h hh7).sub (List.forall_mem_cons.mpr ⟨m0, (List.forall_mem_cons.mpr ⟨m1, (List.forall_mem_cons.mpr ⟨m2, (fun q hq => by cases hq)⟩)⟩)⟩)
  cases hh3

theorem mN_become_904_902 (o0 : Nat) (o1 : Nat) (h : H2) (vs : List mv_V) (h' : H2) (hh : fN_become_904_902 o0 o1 h = some (vs, h')) : mv_Met vw2 1 0 0 mdN_become [Sum.inr (904, o0), Sum.inr (902, o1)] h vs h' :=
  mv_Met_of (by decide +kernel) (Nat.le_of_ble_eq_true rfl) (xN_become_904_902 o0 o1 h hh)
set_option maxRecDepth 100000 in
theorem kN_become_902_903 : mv_tok mdN_become nN_become_902_903 tN_become_902_903 = true := by decide +kernel
set_option maxRecDepth 100000 in
set_option maxHeartbeats 1000000 in
theorem eN_become_902_903_b2 (q2 : Nat → Nat → Int32 → H2 → O2) (o0 : Nat) (o1 : Nat) (v2 : Int32) (h : H2) : mv_blk rI2 rR2 ln2 wI2 wR2 nw2 cp2 bod none tN_become_902_903 gN_become_902_903 0 0 [2] (fun pc lv st h ce sl => mv_gd (Nat.beq ce 0 && Nat.beq sl 0) (cond (Nat.beq pc 2) (mv_gR 0 902 lv fun o0 => mv_gR 1 903 lv fun o1 => mv_gI 2 lv fun v2 => mv_sE st (q2 o0 o1 v2 h)) (none))) 400 (mv_seek 2 tN_become_902_903) [(0, Sum.inr (902, o0)), (1, Sum.inr (903, o1)), (2, Sum.inl (Value.int v2))] [] h 0 0 = (
  if (nI 69) ≤ v2 then (
    some ([], h))
  else
  mv_gd (mv_inb v2 69) <|
  mv_gd (mv_inb v2 69) <|
  mv_bh (wI2 h 903 o1 v2.toNatClampNeg (rI2 h 902 o0 v2.toNatClampNeg)) fun h1 =>
  mv_bi (v2 + (nI 1)) fun x2 =>
  q2 o0 o1 x2 h1) := rfl
set_option maxRecDepth 100000 in
set_option maxHeartbeats 1000000 in
theorem eN_become_902_903 (q2 : Nat → Nat → Int32 → H2 → O2) (o0 : Nat) (o1 : Nat) (h : H2) : mv_blk rI2 rR2 ln2 wI2 wR2 nw2 cp2 bod none tN_become_902_903 gN_become_902_903 0 0 [2] (fun pc lv st h ce sl => mv_gd (Nat.beq ce 0 && Nat.beq sl 0) (cond (Nat.beq pc 2) (mv_gR 0 902 lv fun o0 => mv_gR 1 903 lv fun o1 => mv_gI 2 lv fun v2 => mv_sE st (q2 o0 o1 v2 h)) (none))) 400 (mv_seek 0 tN_become_902_903) [(0, Sum.inr (902, o0)), (1, Sum.inr (903, o1))] [] h 0 0 = (
  mv_bi (nI 0) fun x1 =>
  q2 o0 o1 x1 h) := rfl
theorem GN_become_902_903 : ∀ (j : Nat) (C : mv_C H2) (md' : mv_MD × Bool), mv_nth j gN_become_902_903 = some C → mv_nth j nN_become_902_903 = some md' → ∃ n', n' + 1 ≤ 1 ∧ mv_Cal vw2 n' md' C := fun j C md' h1 _ => by cases j <;> cases h1

set_option maxRecDepth 20000 in
theorem xN_become_902_903_b2 {g0 : mv_G} {res : List mv_V × H2} : ∀ (n : Nat) (o0 : Nat) (o1 : Nat) (v2 : Int32) (h : H2), fN_become_902_903_b2 n o0 o1 v2 h = some res → mv_X vw2 mdN_become 1 0 0 none g0 res 2 [(0, Sum.inr (902, o0)), (1, Sum.inr (903, o1)), (2, Sum.inl (Value.int v2))] [] h 0 0 := by
  intro n
  induction n with
  | zero => intro o0 o1 v2 h hh; cases hh
  | succ n ih =>
    intro o0 o1 v2 h hh
    refine mv_blkX ax2 (GN_become_902_903) (by decide) kN_become_902_903 (fun pc lv st h ce sl hh => ?_) ((eN_become_902_903_b2 (fN_become_902_903_b2 n) o0 o1 v2 h).trans hh)
    obtain ⟨hg, hh1⟩ := mv_gd_some hh
    obtain ⟨rfl, rfl⟩ := mv_z2 hg
    rcases mv_cond_some hh1 with ⟨hb, hh2⟩ | ⟨hb, hh3⟩
    · obtain rfl := Nat.eq_of_beq_eq_true hb
      obtain ⟨o0, m0, hh4⟩ := mv_gR_some hh2
      obtain ⟨o1, m1, hh5⟩ := mv_gR_some hh4
      obtain ⟨v2, m2, hh6⟩ := mv_gI_some hh5
      obtain ⟨rfl, hh7⟩ := mv_sE_some hh6
      exact (ih o0 o1 v2 h hh7).sub (List.forall_mem_cons.mpr ⟨m0, (List.forall_mem_cons.mpr ⟨m1, (List.forall_mem_cons.mpr ⟨m2, (fun q hq => by cases hq)⟩)⟩)⟩)
    cases hh3

set_option maxRecDepth 20000 in
theorem xN_become_902_903 {g0 : mv_G} {res : List mv_V × H2} (o0 : Nat) (o1 : Nat) (h : H2) (hh : fN_become_902_903 o0 o1 h = some res) : mv_X vw2 mdN_become 1 0 0 none g0 res 0 [(0, Sum.inr (902, o0)), (1, Sum.inr (903, o1))] [] h 0 0 := by
  refine mv_blkX ax2 (GN_become_902_903) (by decide) kN_become_902_903 (fun pc lv st h ce sl hh => ?_) ((eN_become_902_903 (fN_become_902_903_b2 1000) o0 o1 h).trans hh)
  obtain ⟨hg, hh1⟩ := mv_gd_some hh
  obtain ⟨rfl, rfl⟩ := mv_z2 hg
  rcases mv_cond_some hh1 with ⟨hb, hh2⟩ | ⟨hb, hh3⟩
  · obtain rfl := Nat.eq_of_beq_eq_true hb
    obtain ⟨o0, m0, hh4⟩ := mv_gR_some hh2
    obtain ⟨o1, m1, hh5⟩ := mv_gR_some hh4
    obtain ⟨v2, m2, hh6⟩ := mv_gI_some hh5
    obtain ⟨rfl, hh7⟩ := mv_sE_some hh6
    exact (xN_become_902_903_b2 1000 o0 o1 v2 h hh7).sub (List.forall_mem_cons.mpr ⟨m0, (List.forall_mem_cons.mpr ⟨m1, (List.forall_mem_cons.mpr ⟨m2, (fun q hq => by cases hq)⟩)⟩)⟩)
  cases hh3

theorem mN_become_902_903 (o0 : Nat) (o1 : Nat) (h : H2) (vs : List mv_V) (h' : H2) (hh : fN_become_902_903 o0 o1 h = some (vs, h')) : mv_Met vw2 1 0 0 mdN_become [Sum.inr (902, o0), Sum.inr (903, o1)] h vs h' :=
  mv_Met_of (by decide +kernel) (Nat.le_of_ble_eq_true rfl) (xN_become_902_903 o0 o1 h hh)
set_option maxRecDepth 100000 in
theorem kN_become_903_902 : mv_tok mdN_become nN_become_903_902 tN_become_903_902 = true := by decide +kernel
set_option maxRecDepth 100000 in
set_option maxHeartbeats 1000000 in
theorem eN_become_903_902_b2 (q2 : Nat → Nat → Int32 → H2 → O2) (o0 : Nat) (o1 : Nat) (v2 : Int32) (h : H2) : mv_blk rI2 rR2 ln2 wI2 wR2 nw2 cp2 bod none tN_become_903_902 gN_become_903_902 0 0 [2] (fun pc lv st h ce sl => mv_gd (Nat.beq ce 0 && Nat.beq sl 0) (cond (Nat.beq pc 2) (mv_gR 0 903 lv fun o0 => mv_gR 1 902 lv fun o1 => mv_gI 2 lv fun v2 => mv_sE st (q2 o0 o1 v2 h)) (none))) 400 (mv_seek 2 tN_become_903_902) [(0, Sum.inr (903, o0)), (1, Sum.inr (902, o1)), (2, Sum.inl (Value.int v2))] [] h 0 0 = (
  if (nI 69) ≤ v2 then (
    some ([], h))
  else
  mv_gd (mv_inb v2 69) <|
  mv_gd (mv_inb v2 69) <|
  mv_bh (wI2 h 902 o1 v2.toNatClampNeg (rI2 h 903 o0 v2.toNatClampNeg)) fun h1 =>
  mv_bi (v2 + (nI 1)) fun x2 =>
  q2 o0 o1 x2 h1) := rfl
set_option maxRecDepth 100000 in
set_option maxHeartbeats 1000000 in
theorem eN_become_903_902 (q2 : Nat → Nat → Int32 → H2 → O2) (o0 : Nat) (o1 : Nat) (h : H2) : mv_blk rI2 rR2 ln2 wI2 wR2 nw2 cp2 bod none tN_become_903_902 gN_become_903_902 0 0 [2] (fun pc lv st h ce sl => mv_gd (Nat.beq ce 0 && Nat.beq sl 0) (cond (Nat.beq pc 2) (mv_gR 0 903 lv fun o0 => mv_gR 1 902 lv fun o1 => mv_gI 2 lv fun v2 => mv_sE st (q2 o0 o1 v2 h)) (none))) 400 (mv_seek 0 tN_become_903_902) [(0, Sum.inr (903, o0)), (1, Sum.inr (902, o1))] [] h 0 0 = (
  mv_bi (nI 0) fun x1 =>
  q2 o0 o1 x1 h) := rfl
theorem GN_become_903_902 : ∀ (j : Nat) (C : mv_C H2) (md' : mv_MD × Bool), mv_nth j gN_become_903_902 = some C → mv_nth j nN_become_903_902 = some md' → ∃ n', n' + 1 ≤ 1 ∧ mv_Cal vw2 n' md' C := fun j C md' h1 _ => by cases j <;> cases h1

set_option maxRecDepth 20000 in
theorem xN_become_903_902_b2 {g0 : mv_G} {res : List mv_V × H2} : ∀ (n : Nat) (o0 : Nat) (o1 : Nat) (v2 : Int32) (h : H2), fN_become_903_902_b2 n o0 o1 v2 h = some res → mv_X vw2 mdN_become 1 0 0 none g0 res 2 [(0, Sum.inr (903, o0)), (1, Sum.inr (902, o1)), (2, Sum.inl (Value.int v2))] [] h 0 0 := by
  intro n
  induction n with
  | zero => intro o0 o1 v2 h hh; cases hh
  | succ n ih =>
    intro o0 o1 v2 h hh
    refine mv_blkX ax2 (GN_become_903_902) (by decide) kN_become_903_902 (fun pc lv st h ce sl hh => ?_) ((eN_become_903_902_b2 (fN_become_903_902_b2 n) o0 o1 v2 h).trans hh)
    obtain ⟨hg, hh1⟩ := mv_gd_some hh
    obtain ⟨rfl, rfl⟩ := mv_z2 hg
    rcases mv_cond_some hh1 with ⟨hb, hh2⟩ | ⟨hb, hh3⟩
    · obtain rfl := Nat.eq_of_beq_eq_true hb
      obtain ⟨o0, m0, hh4⟩ := mv_gR_some hh2
      obtain ⟨o1, m1, hh5⟩ := mv_gR_some hh4
      obtain ⟨v2, m2, hh6⟩ := mv_gI_some hh5
      obtain ⟨rfl, hh7⟩ := mv_sE_some hh6
      exact (ih o0 o1 v2 h hh7).sub (List.forall_mem_cons.mpr ⟨m0, (List.forall_mem_cons.mpr ⟨m1, (List.forall_mem_cons.mpr ⟨m2, (fun q hq => by cases hq)⟩)⟩)⟩)
    cases hh3

set_option maxRecDepth 20000 in
theorem xN_become_903_902 {g0 : mv_G} {res : List mv_V × H2} (o0 : Nat) (o1 : Nat) (h : H2) (hh : fN_become_903_902 o0 o1 h = some res) : mv_X vw2 mdN_become 1 0 0 none g0 res 0 [(0, Sum.inr (903, o0)), (1, Sum.inr (902, o1))] [] h 0 0 := by
  refine mv_blkX ax2 (GN_become_903_902) (by decide) kN_become_903_902 (fun pc lv st h ce sl hh => ?_) ((eN_become_903_902 (fN_become_903_902_b2 1000) o0 o1 h).trans hh)
  obtain ⟨hg, hh1⟩ := mv_gd_some hh
  obtain ⟨rfl, rfl⟩ := mv_z2 hg
  rcases mv_cond_some hh1 with ⟨hb, hh2⟩ | ⟨hb, hh3⟩
  · obtain rfl := Nat.eq_of_beq_eq_true hb
    obtain ⟨o0, m0, hh4⟩ := mv_gR_some hh2
    obtain ⟨o1, m1, hh5⟩ := mv_gR_some hh4
    obtain ⟨v2, m2, hh6⟩ := mv_gI_some hh5
    obtain ⟨rfl, hh7⟩ := mv_sE_some hh6
    exact (xN_become_903_902_b2 1000 o0 o1 v2 h hh7).sub (List.forall_mem_cons.mpr ⟨m0, (List.forall_mem_cons.mpr ⟨m1, (List.forall_mem_cons.mpr ⟨m2, (fun q hq => by cases hq)⟩)⟩)⟩)
  cases hh3

theorem mN_become_903_902 (o0 : Nat) (o1 : Nat) (h : H2) (vs : List mv_V) (h' : H2) (hh : fN_become_903_902 o0 o1 h = some (vs, h')) : mv_Met vw2 1 0 0 mdN_become [Sum.inr (903, o0), Sum.inr (902, o1)] h vs h' :=
  mv_Met_of (by decide +kernel) (Nat.le_of_ble_eq_true rfl) (xN_become_903_902 o0 o1 h hh)
theorem cN_become_ok : mv_Cal vw2 1 (mdN_become, false) ((0, 0), cN_become) := by
  intro as h k res hh
  change cN_become as h k = some res at hh
  unfold cN_become at hh
  split at hh
  · rcases mv_cond_some hh with ⟨hb, hp0⟩ | ⟨hb, hq0⟩
    · simp only [Bool.and_eq_true] at hb
      obtain ⟨e0, e1⟩ := hb
      obtain rfl := Nat.eq_of_beq_eq_true e0
      obtain rfl := Nat.eq_of_beq_eq_true e1
      obtain ⟨h', h1, h9⟩ := mv_rV_some hp0
      exact ⟨_, _, h9, (by first | decide | exact Nat.le_refl _ | exact Nat.zero_le _), (fun h => by cases h), (mN_become_902_904 _ _ h _ _ h1)⟩
    rcases mv_cond_some hq0 with ⟨hb, hp1⟩ | ⟨hb, hq1⟩
    · simp only [Bool.and_eq_true] at hb
      obtain ⟨e0, e1⟩ := hb
      obtain rfl := Nat.eq_of_beq_eq_true e0
      obtain rfl := Nat.eq_of_beq_eq_true e1
      obtain ⟨h', h1, h9⟩ := mv_rV_some hp1
      exact ⟨_, _, h9, (by first | decide | exact Nat.le_refl _ | exact Nat.zero_le _), (fun h => by cases h), (mN_become_904_902 _ _ h _ _ h1)⟩
    rcases mv_cond_some hq1 with ⟨hb, hp2⟩ | ⟨hb, hq2⟩
    · simp only [Bool.and_eq_true] at hb
      obtain ⟨e0, e1⟩ := hb
      obtain rfl := Nat.eq_of_beq_eq_true e0
      obtain rfl := Nat.eq_of_beq_eq_true e1
      obtain ⟨h', h1, h9⟩ := mv_rV_some hp2
      exact ⟨_, _, h9, (by first | decide | exact Nat.le_refl _ | exact Nat.zero_le _), (fun h => by cases h), (mN_become_902_903 _ _ h _ _ h1)⟩
    rcases mv_cond_some hq2 with ⟨hb, hp3⟩ | ⟨hb, hq3⟩
    · simp only [Bool.and_eq_true] at hb
      obtain ⟨e0, e1⟩ := hb
      obtain rfl := Nat.eq_of_beq_eq_true e0
      obtain rfl := Nat.eq_of_beq_eq_true e1
      obtain ⟨h', h1, h9⟩ := mv_rV_some hp3
      exact ⟨_, _, h9, (by first | decide | exact Nat.le_refl _ | exact Nat.zero_le _), (fun h => by cases h), (mN_become_903_902 _ _ h _ _ h1)⟩
    cases hq3
  · cases hh

set_option maxRecDepth 100000 in
theorem kN_lends : mv_tok mdN_lends nN_lends tN_lends = true := by decide +kernel
def cN_becomeG_N_lends (F1 : Nat → Nat → H2 → O2) (F2 : Nat → Nat → H2 → O2) (F3 : Nat → Nat → H2 → O2) (F4 : Nat → Nat → H2 → O2) : List mv_V → H2 → (List mv_V → H2 → O2) → O2 := fun as h k => match as with
  | [.inr (t0, o0), .inr (t1, o1)] => cond (Nat.beq t0 902 && Nat.beq t1 904) (mv_rV (F2 o0 o1 h) fun h => k [] h) (cond (Nat.beq t0 904 && Nat.beq t1 902) (mv_rV (F4 o0 o1 h) fun h => k [] h) (cond (Nat.beq t0 902 && Nat.beq t1 903) (mv_rV (F1 o0 o1 h) fun h => k [] h) (cond (Nat.beq t0 903 && Nat.beq t1 902) (mv_rV (F3 o0 o1 h) fun h => k [] h) (none))))
  | _ => none
set_option maxRecDepth 100000 in
set_option maxHeartbeats 1000000 in
theorem eN_lends_g (F1 : Nat → Nat → H2 → O2) (F2 : Nat → Nat → H2 → O2) (F3 : Nat → Nat → H2 → O2) (F4 : Nat → Nat → H2 → O2) (o0 : Nat) (h : H2) : mv_blk rI2 rR2 ln2 wI2 wR2 nw2 cp2 bod none tN_lends [((0, 0), cN_becomeG_N_lends F1 F2 F3 F4)] 0 0 [] (fun _ _ _ _ _ _ => none) 400 (mv_seek 0 tN_lends) [(0, Sum.inr (8, o0))] [] h 0 0 = (
  mv_rV (F2 o0 o0 h) fun h1 =>
  some ([], h1)) := rfl
theorem eN_lends (o0 : Nat) (h : H2) : mv_blk rI2 rR2 ln2 wI2 wR2 nw2 cp2 bod none tN_lends gN_lends 0 0 [] (fun _ _ _ _ _ _ => none) 400 (mv_seek 0 tN_lends) [(0, Sum.inr (8, o0))] [] h 0 0 = (
  mv_rV (fN_become_902_904 o0 o0 h) fun h1 =>
  some ([], h1)) := eN_lends_g fN_become_902_903 fN_become_902_904 fN_become_903_902 fN_become_904_902 o0 h
theorem GN_lends : ∀ (j : Nat) (C : mv_C H2) (md' : mv_MD × Bool), mv_nth j gN_lends = some C → mv_nth j nN_lends = some md' → ∃ n', n' + 1 ≤ 2 ∧ mv_Cal vw2 n' md' C := fun j C md' => match j with
  | 0 => fun h1 h2 => by
    obtain rfl := Option.some.inj h1
    obtain rfl := Option.some.inj h2
    exact ⟨1, by decide, cN_become_ok⟩
  | jj + 1 => fun h1 _ => by cases jj <;> cases h1

set_option maxRecDepth 20000 in
theorem xN_lends {g0 : mv_G} {res : List mv_V × H2} (o0 : Nat) (h : H2) (hh : fN_lends o0 h = some res) : mv_X vw2 mdN_lends 2 0 0 none g0 res 0 [(0, Sum.inr (8, o0))] [] h 0 0 := by
  refine mv_blkX ax2 (GN_lends) (by decide) kN_lends (fun pc lv st h ce sl hh => ?_) ((eN_lends  o0 h).trans hh)
  cases hh

theorem mN_lends (o0 : Nat) (h : H2) (vs : List mv_V) (h' : H2) (hh : fN_lends o0 h = some (vs, h')) : mv_Met vw2 2 0 0 mdN_lends [Sum.inr (8, o0)] h vs h' :=
  mv_Met_of (by decide +kernel) (Nat.le_of_ble_eq_true rfl) (xN_lends o0 h hh)
theorem cN_lends_ok : mv_Cal vw2 2 (mdN_lends, true) ((0, 0), cN_lends) := by
  intro as h k res hh
  change cN_lends as h k = some res at hh
  unfold cN_lends at hh
  split at hh
  · obtain ⟨hg0, ha0⟩ := mv_gd_some hh
    obtain rfl := Nat.eq_of_beq_eq_true hg0
    obtain ⟨h', h1, h9⟩ := mv_rV_some ha0
    exact ⟨_, _, h9, (by first | decide | exact Nat.le_refl _ | exact Nat.zero_le _), fun _ => ⟨_, _, _, rfl, Or.inl ⟨by decide, rfl⟩⟩, (mN_lends _ h _ _ h1)⟩
  · cases hh

set_option maxRecDepth 100000 in
theorem kN_laysBack : mv_tok mdN_laysBack nN_laysBack tN_laysBack = true := by decide +kernel
def cN_becomeG_N_laysBack (F1 : Nat → Nat → H2 → O2) (F2 : Nat → Nat → H2 → O2) (F3 : Nat → Nat → H2 → O2) (F4 : Nat → Nat → H2 → O2) : List mv_V → H2 → (List mv_V → H2 → O2) → O2 := fun as h k => match as with
  | [.inr (t0, o0), .inr (t1, o1)] => cond (Nat.beq t0 902 && Nat.beq t1 904) (mv_rV (F2 o0 o1 h) fun h => k [] h) (cond (Nat.beq t0 904 && Nat.beq t1 902) (mv_rV (F4 o0 o1 h) fun h => k [] h) (cond (Nat.beq t0 902 && Nat.beq t1 903) (mv_rV (F1 o0 o1 h) fun h => k [] h) (cond (Nat.beq t0 903 && Nat.beq t1 902) (mv_rV (F3 o0 o1 h) fun h => k [] h) (none))))
  | _ => none
set_option maxRecDepth 100000 in
set_option maxHeartbeats 1000000 in
theorem eN_laysBack_g (F1 : Nat → Nat → H2 → O2) (F2 : Nat → Nat → H2 → O2) (F3 : Nat → Nat → H2 → O2) (F4 : Nat → Nat → H2 → O2) (o0 : Nat) (h : H2) : mv_blk rI2 rR2 ln2 wI2 wR2 nw2 cp2 bod none tN_laysBack [((0, 0), cN_becomeG_N_laysBack F1 F2 F3 F4)] 0 0 [] (fun _ _ _ _ _ _ => none) 400 (mv_seek 0 tN_laysBack) [(0, Sum.inr (8, o0))] [] h 0 0 = (
  mv_rV (F4 o0 o0 h) fun h1 =>
  some ([], h1)) := rfl
theorem eN_laysBack (o0 : Nat) (h : H2) : mv_blk rI2 rR2 ln2 wI2 wR2 nw2 cp2 bod none tN_laysBack gN_laysBack 0 0 [] (fun _ _ _ _ _ _ => none) 400 (mv_seek 0 tN_laysBack) [(0, Sum.inr (8, o0))] [] h 0 0 = (
  mv_rV (fN_become_904_902 o0 o0 h) fun h1 =>
  some ([], h1)) := eN_laysBack_g fN_become_902_903 fN_become_902_904 fN_become_903_902 fN_become_904_902 o0 h
theorem GN_laysBack : ∀ (j : Nat) (C : mv_C H2) (md' : mv_MD × Bool), mv_nth j gN_laysBack = some C → mv_nth j nN_laysBack = some md' → ∃ n', n' + 1 ≤ 2 ∧ mv_Cal vw2 n' md' C := fun j C md' => match j with
  | 0 => fun h1 h2 => by
    obtain rfl := Option.some.inj h1
    obtain rfl := Option.some.inj h2
    exact ⟨1, by decide, cN_become_ok⟩
  | jj + 1 => fun h1 _ => by cases jj <;> cases h1

set_option maxRecDepth 20000 in
theorem xN_laysBack {g0 : mv_G} {res : List mv_V × H2} (o0 : Nat) (h : H2) (hh : fN_laysBack o0 h = some res) : mv_X vw2 mdN_laysBack 2 0 0 none g0 res 0 [(0, Sum.inr (8, o0))] [] h 0 0 := by
  refine mv_blkX ax2 (GN_laysBack) (by decide) kN_laysBack (fun pc lv st h ce sl hh => ?_) ((eN_laysBack  o0 h).trans hh)
  cases hh

theorem mN_laysBack (o0 : Nat) (h : H2) (vs : List mv_V) (h' : H2) (hh : fN_laysBack o0 h = some (vs, h')) : mv_Met vw2 2 0 0 mdN_laysBack [Sum.inr (8, o0)] h vs h' :=
  mv_Met_of (by decide +kernel) (Nat.le_of_ble_eq_true rfl) (xN_laysBack o0 h hh)
theorem cN_laysBack_ok : mv_Cal vw2 2 (mdN_laysBack, true) ((0, 0), cN_laysBack) := by
  intro as h k res hh
  change cN_laysBack as h k = some res at hh
  unfold cN_laysBack at hh
  split at hh
  · obtain ⟨hg0, ha0⟩ := mv_gd_some hh
    obtain rfl := Nat.eq_of_beq_eq_true hg0
    obtain ⟨h', h1, h9⟩ := mv_rV_some ha0
    exact ⟨_, _, h9, (by first | decide | exact Nat.le_refl _ | exact Nat.zero_le _), fun _ => ⟨_, _, _, rfl, Or.inl ⟨by decide, rfl⟩⟩, (mN_laysBack _ h _ _ h1)⟩
  · cases hh

set_option maxRecDepth 100000 in
theorem kN_isCloth : mv_tok mdN_isCloth nN_isCloth tN_isCloth = true := by decide +kernel
set_option maxRecDepth 100000 in
set_option maxHeartbeats 1000000 in
theorem eN_isCloth (o0 : Nat) (v1 : Int32) (h : H2) : mv_blk rI2 rR2 ln2 wI2 wR2 nw2 cp2 bod none tN_isCloth gN_isCloth 0 0 [] (fun _ _ _ _ _ _ => none) 400 (mv_seek 0 tN_isCloth) [(0, Sum.inr (8, o0)), (1, Sum.inl (Value.int v1))] [] h 0 0 = (
  mv_gd (mv_inb (nI 6) 69) <|
  mv_rI (fN_in v1.toInt64 (lN 0) (((rI2 h 902 o0 (nI 6).toNatClampNeg) - (nI 1)).toInt64) h) fun r2 h1 =>
  mv_gd (decide (r2 = nI 0) || decide (r2 = nI 1)) <| some ([Sum.inl (Value.int r2)], h1)) := rfl
theorem GN_isCloth : ∀ (j : Nat) (C : mv_C H2) (md' : mv_MD × Bool), mv_nth j gN_isCloth = some C → mv_nth j nN_isCloth = some md' → ∃ n', n' + 1 ≤ 2 ∧ mv_Cal vw2 n' md' C := fun j C md' => match j with
  | 0 => fun h1 h2 => by
    obtain rfl := Option.some.inj h1
    obtain rfl := Option.some.inj h2
    exact ⟨1, by decide, cN_in_ok⟩
  | jj + 1 => fun h1 _ => by cases jj <;> cases h1

set_option maxRecDepth 20000 in
theorem xN_isCloth {g0 : mv_G} {res : List mv_V × H2} (o0 : Nat) (v1 : Int32) (h : H2) (hh : fN_isCloth o0 v1 h = some res) : mv_X vw2 mdN_isCloth 2 0 0 none g0 res 0 [(0, Sum.inr (8, o0)), (1, Sum.inl (Value.int v1))] [] h 0 0 := by
  refine mv_blkX ax2 (GN_isCloth) (by decide) kN_isCloth (fun pc lv st h ce sl hh => ?_) ((eN_isCloth  o0 v1 h).trans hh)
  cases hh

theorem mN_isCloth (o0 : Nat) (v1 : Int32) (h : H2) (vs : List mv_V) (h' : H2) (hh : fN_isCloth o0 v1 h = some (vs, h')) : mv_Met vw2 2 0 0 mdN_isCloth [Sum.inr (8, o0), Sum.inl (Value.int v1)] h vs h' :=
  mv_Met_of (by decide +kernel) (Nat.le_of_ble_eq_true rfl) (xN_isCloth o0 v1 h hh)
theorem cN_isCloth_ok : mv_Cal vw2 2 (mdN_isCloth, true) ((0, 0), cN_isCloth) := by
  intro as h k res hh
  change cN_isCloth as h k = some res at hh
  unfold cN_isCloth at hh
  split at hh
  · obtain ⟨hg0, ha0⟩ := mv_gd_some hh
    obtain rfl := Nat.eq_of_beq_eq_true hg0
    obtain ⟨x, h', h1, h9⟩ := mv_rI_some ha0
    exact ⟨_, _, h9, (by first | decide | exact Nat.le_refl _ | exact Nat.zero_le _), fun _ => ⟨_, _, _, rfl, Or.inl ⟨by decide, rfl⟩⟩, (mN_isCloth _ _ h _ _ h1)⟩
  · cases hh

