theorem cA_body_ok {lv : Nat} {bd : Nat → Int32 → Int32 → Int32 → H2 → O2} (hbd : ∀ o0 v1 v2 v3 h vs h', bd o0 v1 v2 v3 h = some (vs, h') → mv_Met vw2 lv 0 0 mdA_body [.inr (0, o0), .inl (.int v1), .inl (.int v2), .inl (.int v3)] h vs h') : mv_Cal vw2 lv (mdA_body, true) ((0, 0), cA_body bd) := by
  intro as h k res hh
  change cA_body bd as h k = some res at hh
  unfold cA_body at hh
  split at hh
  · obtain ⟨hg0, ha0⟩ := mv_gd_some hh
    obtain rfl := Nat.eq_of_beq_eq_true hg0
    obtain ⟨x, h', h1, h9⟩ := mv_rI_some ha0
    exact ⟨_, _, h9, (by first | decide | exact Nat.le_refl _ | exact Nat.zero_le _), fun _ => ⟨_, _, _, rfl, Or.inl ⟨by decide, rfl⟩⟩, (hbd _ _ _ _ h _ _ h1)⟩
  · cases hh

theorem GA_own {lv : Nat} {bd : Nat → Int32 → Int32 → Int32 → H2 → O2} (hbd : ∀ o0 v1 v2 v3 h vs h', bd o0 v1 v2 v3 h = some (vs, h') → mv_Met vw2 lv 0 0 mdA_body [.inr (0, o0), .inl (.int v1), .inl (.int v2), .inl (.int v3)] h vs h') : ∀ (j : Nat) (C : mv_C H2) (md' : mv_MD × Bool), mv_nth j (gA_own bd) = some C → mv_nth j nA_own = some md' → ∃ n', n' + 1 ≤ (lv + 1) ∧ mv_Cal vw2 n' md' C := fun j C md' => match j with
  | 0 => fun h1 h2 => by
    obtain rfl := Option.some.inj h1
    obtain rfl := Option.some.inj h2
    exact ⟨lv, by omega, (cA_body_ok hbd)⟩
  | jj + 1 => fun h1 _ => by cases jj <;> cases h1

set_option maxRecDepth 20000 in
theorem xA_own {g0 : mv_G} {res : List mv_V × H2} {lv : Nat} {bd : Nat → Int32 → Int32 → Int32 → H2 → O2} (hbd : ∀ o0 v1 v2 v3 h vs h', bd o0 v1 v2 v3 h = some (vs, h') → mv_Met vw2 lv 0 0 mdA_body [.inr (0, o0), .inl (.int v1), .inl (.int v2), .inl (.int v3)] h vs h') (o0 : Nat) (v1 : Int32) (v2 : Int32) (v3 : Int32) (h : H2) (hh : fA_own bd o0 v1 v2 v3 h = some res) : mv_X vw2 mdA_own (lv + 1) 0 0 none g0 res 0 [(0, Sum.inr (0, o0)), (1, Sum.inl (Value.int v1)), (2, Sum.inl (Value.int v2)), (3, Sum.inl (Value.int v3))] [] h 0 0 := by
  refine mv_blkX ax2 (GA_own hbd) (by omega) kA_own (fun pc lv st h ce sl hh => ?_) ((eA_own bd  o0 v1 v2 v3 h).trans hh)
  cases hh

theorem mA_own {lv : Nat} {bd : Nat → Int32 → Int32 → Int32 → H2 → O2} (hbd : ∀ o0 v1 v2 v3 h vs h', bd o0 v1 v2 v3 h = some (vs, h') → mv_Met vw2 lv 0 0 mdA_body [.inr (0, o0), .inl (.int v1), .inl (.int v2), .inl (.int v3)] h vs h') (o0 : Nat) (v1 : Int32) (v2 : Int32) (v3 : Int32) (h : H2) (vs : List mv_V) (h' : H2) (hh : fA_own bd o0 v1 v2 v3 h = some (vs, h')) : mv_Met vw2 (lv + 1) 0 0 mdA_own [Sum.inr (0, o0), Sum.inl (Value.int v1), Sum.inl (Value.int v2), Sum.inl (Value.int v3)] h vs h' :=
  mv_Met_of (by decide +kernel) (Nat.le_of_ble_eq_true rfl) (xA_own hbd o0 v1 v2 v3 h hh)
theorem cA_own_ok {lv : Nat} {bd : Nat → Int32 → Int32 → Int32 → H2 → O2} (hbd : ∀ o0 v1 v2 v3 h vs h', bd o0 v1 v2 v3 h = some (vs, h') → mv_Met vw2 lv 0 0 mdA_body [.inr (0, o0), .inl (.int v1), .inl (.int v2), .inl (.int v3)] h vs h') : mv_Cal vw2 (lv + 1) (mdA_own, true) ((0, 0), cA_own bd) := by
  intro as h k res hh
  change cA_own bd as h k = some res at hh
  unfold cA_own at hh
  split at hh
  · obtain ⟨hg0, ha0⟩ := mv_gd_some hh
    obtain rfl := Nat.eq_of_beq_eq_true hg0
    obtain ⟨x, h', h1, h9⟩ := mv_rI_some ha0
    exact ⟨_, _, h9, (by first | decide | exact Nat.le_refl _ | exact Nat.zero_le _), fun _ => ⟨_, _, _, rfl, Or.inl ⟨by decide, rfl⟩⟩, (mA_own hbd _ _ _ _ h _ _ h1)⟩
  · cases hh

theorem GA_body {lv : Nat} {bd : Nat → Int32 → Int32 → Int32 → H2 → O2} (hbd : ∀ o0 v1 v2 v3 h vs h', bd o0 v1 v2 v3 h = some (vs, h') → mv_Met vw2 lv 0 0 mdA_body [.inr (0, o0), .inl (.int v1), .inl (.int v2), .inl (.int v3)] h vs h') : ∀ (j : Nat) (C : mv_C H2) (md' : mv_MD × Bool), mv_nth j (gA_body bd) = some C → mv_nth j nA_body = some md' → ∃ n', n' + 1 ≤ (lv + 2) ∧ mv_Cal vw2 n' md' C := fun j C md' => match j with
  | 0 => fun h1 h2 => by
    obtain rfl := Option.some.inj h1
    obtain rfl := Option.some.inj h2
    exact ⟨1, by omega, cA_note_ok⟩
  | 1 => fun h1 h2 => by
    obtain rfl := Option.some.inj h1
    obtain rfl := Option.some.inj h2
    exact ⟨(lv + 1), by omega, (cA_own_ok hbd)⟩
  | 2 => fun h1 h2 => by
    obtain rfl := Option.some.inj h1
    obtain rfl := Option.some.inj h2
    exact ⟨1, by omega, cA_parted_ok⟩
  | 3 => fun h1 h2 => by
    obtain rfl := Option.some.inj h1
    obtain rfl := Option.some.inj h2
    exact ⟨lv, by omega, (cA_body_ok hbd)⟩
  | jj + 4 => fun h1 _ => by cases jj <;> cases h1

set_option maxRecDepth 20000 in
theorem xA_body_b244 {g0 : mv_G} {res : List mv_V × H2} {lv : Nat} {bd : Nat → Int32 → Int32 → Int32 → H2 → O2} (hbd : ∀ o0 v1 v2 v3 h vs h', bd o0 v1 v2 v3 h = some (vs, h') → mv_Met vw2 lv 0 0 mdA_body [.inr (0, o0), .inl (.int v1), .inl (.int v2), .inl (.int v3)] h vs h') (o0 : Nat) (v2 : Int32) (h : H2) (hh : fA_bodyF_b244 bd o0 v2 h = some res) : mv_X vw2 mdA_body (lv + 2) 0 0 none g0 res 244 [(0, Sum.inr (0, o0)), (2, Sum.inl (Value.int v2))] [] h 0 0 := by
  refine mv_blkX ax2 (GA_body hbd) (by omega) kA_body (fun pc lv st h ce sl hh => ?_) ((eA_body_b244 bd  o0 v2 h).trans hh)
  cases hh

set_option maxRecDepth 20000 in
theorem xA_body_b253 {g0 : mv_G} {res : List mv_V × H2} {lv : Nat} {bd : Nat → Int32 → Int32 → Int32 → H2 → O2} (hbd : ∀ o0 v1 v2 v3 h vs h', bd o0 v1 v2 v3 h = some (vs, h') → mv_Met vw2 lv 0 0 mdA_body [.inr (0, o0), .inl (.int v1), .inl (.int v2), .inl (.int v3)] h vs h') (o0 : Nat) (v2 : Int32) (v3 : Int32) (h : H2) (hh : fA_bodyF_b253 bd o0 v2 v3 h = some res) : mv_X vw2 mdA_body (lv + 2) 0 0 none g0 res 253 [(0, Sum.inr (0, o0)), (2, Sum.inl (Value.int v2)), (3, Sum.inl (Value.int v3))] [] h 0 0 := by
  refine mv_blkX ax2 (GA_body hbd) (by omega) kA_body (fun pc lv st h ce sl hh => ?_) ((eA_body_b253 bd  o0 v2 v3 h).trans hh)
  cases hh

set_option maxRecDepth 20000 in
theorem xA_body_b269 {g0 : mv_G} {res : List mv_V × H2} {lv : Nat} {bd : Nat → Int32 → Int32 → Int32 → H2 → O2} (hbd : ∀ o0 v1 v2 v3 h vs h', bd o0 v1 v2 v3 h = some (vs, h') → mv_Met vw2 lv 0 0 mdA_body [.inr (0, o0), .inl (.int v1), .inl (.int v2), .inl (.int v3)] h vs h') (o0 : Nat) (v2 : Int32) (h : H2) (hh : fA_bodyF_b269 bd o0 v2 h = some res) : mv_X vw2 mdA_body (lv + 2) 0 0 none g0 res 269 [(0, Sum.inr (0, o0)), (2, Sum.inl (Value.int v2))] [] h 0 0 := by
  refine mv_blkX ax2 (GA_body hbd) (by omega) kA_body (fun pc lv st h ce sl hh => ?_) ((eA_body_b269 bd  o0 v2 h).trans hh)
  cases hh

set_option maxRecDepth 20000 in
theorem xA_body_b284 {g0 : mv_G} {res : List mv_V × H2} {lv : Nat} {bd : Nat → Int32 → Int32 → Int32 → H2 → O2} (hbd : ∀ o0 v1 v2 v3 h vs h', bd o0 v1 v2 v3 h = some (vs, h') → mv_Met vw2 lv 0 0 mdA_body [.inr (0, o0), .inl (.int v1), .inl (.int v2), .inl (.int v3)] h vs h') (o0 : Nat) (v2 : Int32) (v3 : Int32) (h : H2) (hh : fA_bodyF_b284 bd o0 v2 v3 h = some res) : mv_X vw2 mdA_body (lv + 2) 0 0 none g0 res 284 [(0, Sum.inr (0, o0)), (2, Sum.inl (Value.int v2)), (3, Sum.inl (Value.int v3))] [] h 0 0 := by
  refine mv_blkX ax2 (GA_body hbd) (by omega) kA_body (fun pc lv st h ce sl hh => ?_) ((eA_body_b284 bd  o0 v2 v3 h).trans hh)
  cases hh

set_option maxRecDepth 20000 in
theorem xA_body_b296 {g0 : mv_G} {res : List mv_V × H2} {lv : Nat} {bd : Nat → Int32 → Int32 → Int32 → H2 → O2} (hbd : ∀ o0 v1 v2 v3 h vs h', bd o0 v1 v2 v3 h = some (vs, h') → mv_Met vw2 lv 0 0 mdA_body [.inr (0, o0), .inl (.int v1), .inl (.int v2), .inl (.int v3)] h vs h') (o0 : Nat) (v2 : Int32) (v3 : Int32) (h : H2) (hh : fA_bodyF_b296 bd o0 v2 v3 h = some res) : mv_X vw2 mdA_body (lv + 2) 0 0 none g0 res 296 [(0, Sum.inr (0, o0)), (2, Sum.inl (Value.int v2)), (3, Sum.inl (Value.int v3))] [] h 0 0 := by
  refine mv_blkX ax2 (GA_body hbd) (by omega) kA_body (fun pc lv st h ce sl hh => ?_) ((eA_body_b296 bd  o0 v2 v3 h).trans hh)
  cases hh

set_option maxRecDepth 20000 in
theorem xA_body_b310 {g0 : mv_G} {res : List mv_V × H2} {lv : Nat} {bd : Nat → Int32 → Int32 → Int32 → H2 → O2} (hbd : ∀ o0 v1 v2 v3 h vs h', bd o0 v1 v2 v3 h = some (vs, h') → mv_Met vw2 lv 0 0 mdA_body [.inr (0, o0), .inl (.int v1), .inl (.int v2), .inl (.int v3)] h vs h') (o0 : Nat) (v2 : Int32) (v3 : Int32) (h : H2) (hh : fA_bodyF_b310 bd o0 v2 v3 h = some res) : mv_X vw2 mdA_body (lv + 2) 0 0 none g0 res 310 [(0, Sum.inr (0, o0)), (2, Sum.inl (Value.int v2)), (3, Sum.inl (Value.int v3))] [] h 0 0 := by
  refine mv_blkX ax2 (GA_body hbd) (by omega) kA_body (fun pc lv st h ce sl hh => ?_) ((eA_body_b310 bd  o0 v2 v3 h).trans hh)
  cases hh

set_option maxRecDepth 20000 in
theorem xA_body_b323 {g0 : mv_G} {res : List mv_V × H2} {lv : Nat} {bd : Nat → Int32 → Int32 → Int32 → H2 → O2} (hbd : ∀ o0 v1 v2 v3 h vs h', bd o0 v1 v2 v3 h = some (vs, h') → mv_Met vw2 lv 0 0 mdA_body [.inr (0, o0), .inl (.int v1), .inl (.int v2), .inl (.int v3)] h vs h') (o0 : Nat) (v2 : Int32) (v3 : Int32) (h : H2) (hh : fA_bodyF_b323 bd o0 v2 v3 h = some res) : mv_X vw2 mdA_body (lv + 2) 0 0 none g0 res 323 [(0, Sum.inr (0, o0)), (2, Sum.inl (Value.int v2)), (3, Sum.inl (Value.int v3))] [] h 0 0 := by
  refine mv_blkX ax2 (GA_body hbd) (by omega) kA_body (fun pc lv st h ce sl hh => ?_) ((eA_body_b323 bd  o0 v2 v3 h).trans hh)
  cases hh

set_option maxRecDepth 20000 in
theorem xA_body_b345 {g0 : mv_G} {res : List mv_V × H2} {lv : Nat} {bd : Nat → Int32 → Int32 → Int32 → H2 → O2} (hbd : ∀ o0 v1 v2 v3 h vs h', bd o0 v1 v2 v3 h = some (vs, h') → mv_Met vw2 lv 0 0 mdA_body [.inr (0, o0), .inl (.int v1), .inl (.int v2), .inl (.int v3)] h vs h') (o0 : Nat) (v2 : Int32) (v3 : Int32) (h : H2) (hh : fA_bodyF_b345 bd o0 v2 v3 h = some res) : mv_X vw2 mdA_body (lv + 2) 0 0 none g0 res 345 [(0, Sum.inr (0, o0)), (2, Sum.inl (Value.int v2)), (3, Sum.inl (Value.int v3))] [] h 0 0 := by
  refine mv_blkX ax2 (GA_body hbd) (by omega) kA_body (fun pc lv st h ce sl hh => ?_) ((eA_body_b345 bd  o0 v2 v3 h).trans hh)
  cases hh

set_option maxRecDepth 20000 in
theorem xA_body_b358 {g0 : mv_G} {res : List mv_V × H2} {lv : Nat} {bd : Nat → Int32 → Int32 → Int32 → H2 → O2} (hbd : ∀ o0 v1 v2 v3 h vs h', bd o0 v1 v2 v3 h = some (vs, h') → mv_Met vw2 lv 0 0 mdA_body [.inr (0, o0), .inl (.int v1), .inl (.int v2), .inl (.int v3)] h vs h') (o0 : Nat) (v2 : Int32) (v3 : Int32) (h : H2) (hh : fA_bodyF_b358 bd o0 v2 v3 h = some res) : mv_X vw2 mdA_body (lv + 2) 0 0 none g0 res 358 [(0, Sum.inr (0, o0)), (2, Sum.inl (Value.int v2)), (3, Sum.inl (Value.int v3))] [] h 0 0 := by
  refine mv_blkX ax2 (GA_body hbd) (by omega) kA_body (fun pc lv st h ce sl hh => ?_) ((eA_body_b358 bd  o0 v2 v3 h).trans hh)
  cases hh

set_option maxRecDepth 20000 in
theorem xA_body_b380 {g0 : mv_G} {res : List mv_V × H2} {lv : Nat} {bd : Nat → Int32 → Int32 → Int32 → H2 → O2} (hbd : ∀ o0 v1 v2 v3 h vs h', bd o0 v1 v2 v3 h = some (vs, h') → mv_Met vw2 lv 0 0 mdA_body [.inr (0, o0), .inl (.int v1), .inl (.int v2), .inl (.int v3)] h vs h') (o0 : Nat) (v2 : Int32) (v3 : Int32) (h : H2) (hh : fA_bodyF_b380 bd o0 v2 v3 h = some res) : mv_X vw2 mdA_body (lv + 2) 0 0 none g0 res 380 [(0, Sum.inr (0, o0)), (2, Sum.inl (Value.int v2)), (3, Sum.inl (Value.int v3))] [] h 0 0 := by
  refine mv_blkX ax2 (GA_body hbd) (by omega) kA_body (fun pc lv st h ce sl hh => ?_) ((eA_body_b380 bd  o0 v2 v3 h).trans hh)
  cases hh

set_option maxRecDepth 20000 in
theorem xA_body_b398 {g0 : mv_G} {res : List mv_V × H2} {lv : Nat} {bd : Nat → Int32 → Int32 → Int32 → H2 → O2} (hbd : ∀ o0 v1 v2 v3 h vs h', bd o0 v1 v2 v3 h = some (vs, h') → mv_Met vw2 lv 0 0 mdA_body [.inr (0, o0), .inl (.int v1), .inl (.int v2), .inl (.int v3)] h vs h') (o0 : Nat) (v2 : Int32) (v3 : Int32) (h : H2) (hh : fA_bodyF_b398 bd o0 v2 v3 h = some res) : mv_X vw2 mdA_body (lv + 2) 0 0 none g0 res 398 [(0, Sum.inr (0, o0)), (2, Sum.inl (Value.int v2)), (3, Sum.inl (Value.int v3))] [] h 0 0 := by
  refine mv_blkX ax2 (GA_body hbd) (by omega) kA_body (fun pc lv st h ce sl hh => ?_) ((eA_body_b398 bd  o0 v2 v3 h).trans hh)
  cases hh

set_option maxRecDepth 20000 in
theorem xA_body_b411 {g0 : mv_G} {res : List mv_V × H2} {lv : Nat} {bd : Nat → Int32 → Int32 → Int32 → H2 → O2} (hbd : ∀ o0 v1 v2 v3 h vs h', bd o0 v1 v2 v3 h = some (vs, h') → mv_Met vw2 lv 0 0 mdA_body [.inr (0, o0), .inl (.int v1), .inl (.int v2), .inl (.int v3)] h vs h') (o0 : Nat) (v2 : Int32) (v3 : Int32) (h : H2) (hh : fA_bodyF_b411 bd o0 v2 v3 h = some res) : mv_X vw2 mdA_body (lv + 2) 0 0 none g0 res 411 [(0, Sum.inr (0, o0)), (2, Sum.inl (Value.int v2)), (3, Sum.inl (Value.int v3))] [] h 0 0 := by
  refine mv_blkX ax2 (GA_body hbd) (by omega) kA_body (fun pc lv st h ce sl hh => ?_) ((eA_body_b411 bd  o0 v2 v3 h).trans hh)
  cases hh

set_option maxRecDepth 20000 in
theorem xA_body_b424 {g0 : mv_G} {res : List mv_V × H2} {lv : Nat} {bd : Nat → Int32 → Int32 → Int32 → H2 → O2} (hbd : ∀ o0 v1 v2 v3 h vs h', bd o0 v1 v2 v3 h = some (vs, h') → mv_Met vw2 lv 0 0 mdA_body [.inr (0, o0), .inl (.int v1), .inl (.int v2), .inl (.int v3)] h vs h') (o0 : Nat) (v2 : Int32) (v3 : Int32) (h : H2) (hh : fA_bodyF_b424 bd o0 v2 v3 h = some res) : mv_X vw2 mdA_body (lv + 2) 0 0 none g0 res 424 [(0, Sum.inr (0, o0)), (2, Sum.inl (Value.int v2)), (3, Sum.inl (Value.int v3))] [] h 0 0 := by
  refine mv_blkX ax2 (GA_body hbd) (by omega) kA_body (fun pc lv st h ce sl hh => ?_) ((eA_body_b424 bd  o0 v2 v3 h).trans hh)
  cases hh

set_option maxRecDepth 20000 in
theorem xA_body_b446 {g0 : mv_G} {res : List mv_V × H2} {lv : Nat} {bd : Nat → Int32 → Int32 → Int32 → H2 → O2} (hbd : ∀ o0 v1 v2 v3 h vs h', bd o0 v1 v2 v3 h = some (vs, h') → mv_Met vw2 lv 0 0 mdA_body [.inr (0, o0), .inl (.int v1), .inl (.int v2), .inl (.int v3)] h vs h') (h : H2) (hh : fA_bodyF_b446 bd  h = some res) : mv_X vw2 mdA_body (lv + 2) 0 0 none g0 res 446 [] [] h 0 0 := by
  refine mv_blkX ax2 (GA_body hbd) (by omega) kA_body (fun pc lv st h ce sl hh => ?_) ((eA_body_b446 bd   h).trans hh)
  cases hh

set_option maxRecDepth 20000 in
theorem xA_body {g0 : mv_G} {res : List mv_V × H2} {lv : Nat} {bd : Nat → Int32 → Int32 → Int32 → H2 → O2} (hbd : ∀ o0 v1 v2 v3 h vs h', bd o0 v1 v2 v3 h = some (vs, h') → mv_Met vw2 lv 0 0 mdA_body [.inr (0, o0), .inl (.int v1), .inl (.int v2), .inl (.int v3)] h vs h') (o0 : Nat) (v1 : Int32) (v2 : Int32) (v3 : Int32) (h : H2) (hh : fA_bodyF bd o0 v1 v2 v3 h = some res) : mv_X vw2 mdA_body (lv + 2) 0 0 none g0 res 0 [(0, Sum.inr (0, o0)), (1, Sum.inl (Value.int v1)), (2, Sum.inl (Value.int v2)), (3, Sum.inl (Value.int v3))] [] h 0 0 := by
  refine mv_blkX ax2 (GA_body hbd) (by omega) kA_body (fun pc lv st h ce sl hh => ?_) ((eA_body bd (fA_bodyF_b244 bd) (fA_bodyF_b253 bd) (fA_bodyF_b269 bd) (fA_bodyF_b284 bd) (fA_bodyF_b296 bd) (fA_bodyF_b310 bd) (fA_bodyF_b323 bd) (fA_bodyF_b345 bd) (fA_bodyF_b358 bd) (fA_bodyF_b380 bd) (fA_bodyF_b398 bd) (fA_bodyF_b411 bd) (fA_bodyF_b424 bd) (fA_bodyF_b446 bd) o0 v1 v2 v3 h).trans hh)
  obtain ⟨hg, hh1⟩ := mv_gd_some hh
  obtain ⟨rfl, rfl⟩ := mv_z2 hg
  rcases mv_cond_some hh1 with ⟨hb, hh2⟩ | ⟨hb, hh3⟩
  · obtain rfl := Nat.eq_of_beq_eq_true hb
    obtain ⟨o0, m0, hh4⟩ := mv_gR_some hh2
    obtain ⟨v2, m1, hh5⟩ := mv_gI_some hh4
    obtain ⟨rfl, hh6⟩ := mv_sE_some hh5
    exact (xA_body_b244 hbd  o0 v2 h hh6).sub (List.forall_mem_cons.mpr ⟨m0, (List.forall_mem_cons.mpr ⟨m1, (fun q hq => by cases hq)⟩)⟩)
  rcases mv_cond_some hh3 with ⟨hb, hh7⟩ | ⟨hb, hh8⟩
  · obtain rfl := Nat.eq_of_beq_eq_true hb
    obtain ⟨o0, m0, hh9⟩ := mv_gR_some hh7
    obtain ⟨v2, m1, hh10⟩ := mv_gI_some hh9
    obtain ⟨v3, m2, hh11⟩ := mv_gI_some hh10
    obtain ⟨rfl, hh12⟩ := mv_sE_some hh11
    exact (xA_body_b253 hbd  o0 v2 v3 h hh12).sub (List.forall_mem_cons.mpr ⟨m0, (List.forall_mem_cons.mpr ⟨m1, (List.forall_mem_cons.mpr ⟨m2, (fun q hq => by cases hq)⟩)⟩)⟩)
  rcases mv_cond_some hh8 with ⟨hb, hh13⟩ | ⟨hb, hh14⟩
  · obtain rfl := Nat.eq_of_beq_eq_true hb
    obtain ⟨o0, m0, hh15⟩ := mv_gR_some hh13
    obtain ⟨v2, m1, hh16⟩ := mv_gI_some hh15
    obtain ⟨rfl, hh17⟩ := mv_sE_some hh16
    exact (xA_body_b269 hbd  o0 v2 h hh17).sub (List.forall_mem_cons.mpr ⟨m0, (List.forall_mem_cons.mpr ⟨m1, (fun q hq => by cases hq)⟩)⟩)
  rcases mv_cond_some hh14 with ⟨hb, hh18⟩ | ⟨hb, hh19⟩
  · obtain rfl := Nat.eq_of_beq_eq_true hb
    obtain ⟨o0, m0, hh20⟩ := mv_gR_some hh18
    obtain ⟨v2, m1, hh21⟩ := mv_gI_some hh20
    obtain ⟨v3, m2, hh22⟩ := mv_gI_some hh21
    obtain ⟨rfl, hh23⟩ := mv_sE_some hh22
    exact (xA_body_b284 hbd  o0 v2 v3 h hh23).sub (List.forall_mem_cons.mpr ⟨m0, (List.forall_mem_cons.mpr ⟨m1, (List.forall_mem_cons.mpr ⟨m2, (fun q hq => by cases hq)⟩)⟩)⟩)
  rcases mv_cond_some hh19 with ⟨hb, hh24⟩ | ⟨hb, hh25⟩
  · obtain rfl := Nat.eq_of_beq_eq_true hb
    obtain ⟨o0, m0, hh26⟩ := mv_gR_some hh24
    obtain ⟨v2, m1, hh27⟩ := mv_gI_some hh26
    obtain ⟨v3, m2, hh28⟩ := mv_gI_some hh27
    obtain ⟨rfl, hh29⟩ := mv_sE_some hh28
    exact (xA_body_b296 hbd  o0 v2 v3 h hh29).sub (List.forall_mem_cons.mpr ⟨m0, (List.forall_mem_cons.mpr ⟨m1, (List.forall_mem_cons.mpr ⟨m2, (fun q hq => by cases hq)⟩)⟩)⟩)
  rcases mv_cond_some hh25 with ⟨hb, hh30⟩ | ⟨hb, hh31⟩
  · obtain rfl := Nat.eq_of_beq_eq_true hb
    obtain ⟨o0, m0, hh32⟩ := mv_gR_some hh30
    obtain ⟨v2, m1, hh33⟩ := mv_gI_some hh32
    obtain ⟨v3, m2, hh34⟩ := mv_gI_some hh33
    obtain ⟨rfl, hh35⟩ := mv_sE_some hh34
    exact (xA_body_b310 hbd  o0 v2 v3 h hh35).sub (List.forall_mem_cons.mpr ⟨m0, (List.forall_mem_cons.mpr ⟨m1, (List.forall_mem_cons.mpr ⟨m2, (fun q hq => by cases hq)⟩)⟩)⟩)
  rcases mv_cond_some hh31 with ⟨hb, hh36⟩ | ⟨hb, hh37⟩
  · obtain rfl := Nat.eq_of_beq_eq_true hb
    obtain ⟨o0, m0, hh38⟩ := mv_gR_some hh36
    obtain ⟨v2, m1, hh39⟩ := mv_gI_some hh38
    obtain ⟨v3, m2, hh40⟩ := mv_gI_some hh39
    obtain ⟨rfl, hh41⟩ := mv_sE_some hh40
    exact (xA_body_b323 hbd  o0 v2 v3 h hh41).sub (List.forall_mem_cons.mpr ⟨m0, (List.forall_mem_cons.mpr ⟨m1, (List.forall_mem_cons.mpr ⟨m2, (fun q hq => by cases hq)⟩)⟩)⟩)
  rcases mv_cond_some hh37 with ⟨hb, hh42⟩ | ⟨hb, hh43⟩
  · obtain rfl := Nat.eq_of_beq_eq_true hb
    obtain ⟨o0, m0, hh44⟩ := mv_gR_some hh42
    obtain ⟨v2, m1, hh45⟩ := mv_gI_some hh44
    obtain ⟨v3, m2, hh46⟩ := mv_gI_some hh45
    obtain ⟨rfl, hh47⟩ := mv_sE_some hh46
    exact (xA_body_b345 hbd  o0 v2 v3 h hh47).sub (List.forall_mem_cons.mpr ⟨m0, (List.forall_mem_cons.mpr ⟨m1, (List.forall_mem_cons.mpr ⟨m2, (fun q hq => by cases hq)⟩)⟩)⟩)
  rcases mv_cond_some hh43 with ⟨hb, hh48⟩ | ⟨hb, hh49⟩
  · obtain rfl := Nat.eq_of_beq_eq_true hb
    obtain ⟨o0, m0, hh50⟩ := mv_gR_some hh48
    obtain ⟨v2, m1, hh51⟩ := mv_gI_some hh50
    obtain ⟨v3, m2, hh52⟩ := mv_gI_some hh51
    obtain ⟨rfl, hh53⟩ := mv_sE_some hh52
    exact (xA_body_b358 hbd  o0 v2 v3 h hh53).sub (List.forall_mem_cons.mpr ⟨m0, (List.forall_mem_cons.mpr ⟨m1, (List.forall_mem_cons.mpr ⟨m2, (fun q hq => by cases hq)⟩)⟩)⟩)
  rcases mv_cond_some hh49 with ⟨hb, hh54⟩ | ⟨hb, hh55⟩
  · obtain rfl := Nat.eq_of_beq_eq_true hb
    obtain ⟨o0, m0, hh56⟩ := mv_gR_some hh54
    obtain ⟨v2, m1, hh57⟩ := mv_gI_some hh56
    obtain ⟨v3, m2, hh58⟩ := mv_gI_some hh57
    obtain ⟨rfl, hh59⟩ := mv_sE_some hh58
    exact (xA_body_b380 hbd  o0 v2 v3 h hh59).sub (List.forall_mem_cons.mpr ⟨m0, (List.forall_mem_cons.mpr ⟨m1, (List.forall_mem_cons.mpr ⟨m2, (fun q hq => by cases hq)⟩)⟩)⟩)
  rcases mv_cond_some hh55 with ⟨hb, hh60⟩ | ⟨hb, hh61⟩
  · obtain rfl := Nat.eq_of_beq_eq_true hb
    obtain ⟨o0, m0, hh62⟩ := mv_gR_some hh60
    obtain ⟨v2, m1, hh63⟩ := mv_gI_some hh62
    obtain ⟨v3, m2, hh64⟩ := mv_gI_some hh63
    obtain ⟨rfl, hh65⟩ := mv_sE_some hh64
    exact (xA_body_b398 hbd  o0 v2 v3 h hh65).sub (List.forall_mem_cons.mpr ⟨m0, (List.forall_mem_cons.mpr ⟨m1, (List.forall_mem_cons.mpr ⟨m2, (fun q hq => by cases hq)⟩)⟩)⟩)
  rcases mv_cond_some hh61 with ⟨hb, hh66⟩ | ⟨hb, hh67⟩
  · obtain rfl := Nat.eq_of_beq_eq_true hb
    obtain ⟨o0, m0, hh68⟩ := mv_gR_some hh66
    obtain ⟨v2, m1, hh69⟩ := mv_gI_some hh68
    obtain ⟨v3, m2, hh70⟩ := mv_gI_some hh69
    obtain ⟨rfl, hh71⟩ := mv_sE_some hh70
    exact (xA_body_b411 hbd  o0 v2 v3 h hh71).sub (List.forall_mem_cons.mpr ⟨m0, (List.forall_mem_cons.mpr ⟨m1, (List.forall_mem_cons.mpr ⟨m2, (fun q hq => by cases hq)⟩)⟩)⟩)
  rcases mv_cond_some hh67 with ⟨hb, hh72⟩ | ⟨hb, hh73⟩
  · obtain rfl := Nat.eq_of_beq_eq_true hb
    obtain ⟨o0, m0, hh74⟩ := mv_gR_some hh72
    obtain ⟨v2, m1, hh75⟩ := mv_gI_some hh74
    obtain ⟨v3, m2, hh76⟩ := mv_gI_some hh75
    obtain ⟨rfl, hh77⟩ := mv_sE_some hh76
    exact (xA_body_b424 hbd  o0 v2 v3 h hh77).sub (List.forall_mem_cons.mpr ⟨m0, (List.forall_mem_cons.mpr ⟨m1, (List.forall_mem_cons.mpr ⟨m2, (fun q hq => by cases hq)⟩)⟩)⟩)
  rcases mv_cond_some hh73 with ⟨hb, hh78⟩ | ⟨hb, hh79⟩
  · obtain rfl := Nat.eq_of_beq_eq_true hb
    obtain ⟨rfl, hh80⟩ := mv_sE_some hh78
    exact (xA_body_b446 hbd   h hh80).sub (fun q hq => by cases hq)
  cases hh79

theorem mA_body {lv : Nat} {bd : Nat → Int32 → Int32 → Int32 → H2 → O2} (hbd : ∀ o0 v1 v2 v3 h vs h', bd o0 v1 v2 v3 h = some (vs, h') → mv_Met vw2 lv 0 0 mdA_body [.inr (0, o0), .inl (.int v1), .inl (.int v2), .inl (.int v3)] h vs h') (o0 : Nat) (v1 : Int32) (v2 : Int32) (v3 : Int32) (h : H2) (vs : List mv_V) (h' : H2) (hh : fA_bodyF bd o0 v1 v2 v3 h = some (vs, h')) : mv_Met vw2 (lv + 2) 0 0 mdA_body [Sum.inr (0, o0), Sum.inl (Value.int v1), Sum.inl (Value.int v2), Sum.inl (Value.int v3)] h vs h' :=
  mv_Met_of (by decide +kernel) (Nat.le_of_ble_eq_true rfl) (xA_body hbd o0 v1 v2 v3 h hh)
theorem fA_body_met : ∀ (n : Nat) (o0 : Nat) (v1 v2 v3 : Int32) (h : H2) (vs : List mv_V) (h' : H2), fA_body n o0 v1 v2 v3 h = some (vs, h') → mv_Met vw2 (2 * n + 2) 0 0 mdA_body [.inr (0, o0), .inl (.int v1), .inl (.int v2), .inl (.int v3)] h vs h' := by
  intro n
  induction n with
  | zero => intro o0 v1 v2 v3 h vs h' hh; cases hh
  | succ n ih => intro o0 v1 v2 v3 h vs h' hh; exact mA_body ih o0 v1 v2 v3 h vs h' hh
theorem fA_body50_met (o0 : Nat) (v1 v2 v3 : Int32) (h : H2) (vs : List mv_V) (h' : H2) (hh : fA_body 50 o0 v1 v2 v3 h = some (vs, h')) : mv_Met vw2 102 0 0 mdA_body [.inr (0, o0), .inl (.int v1), .inl (.int v2), .inl (.int v3)] h vs h' := fA_body_met 50 o0 v1 v2 v3 h vs h' hh
set_option maxRecDepth 100000 in
theorem kA_perform : mv_tok mdA_perform nA_perform tA_perform = true := by decide +kernel
set_option maxRecDepth 100000 in
set_option maxHeartbeats 1000000 in
theorem eA_perform (o0 : Nat) (v1 : Int32) (v2 : Int32) (h : H2) : mv_blk rI2 rR2 ln2 wI2 wR2 nw2 cp2 bod none tA_perform gA_perform 0 0 [] (fun _ _ _ _ _ _ => none) 400 (mv_seek 0 tA_perform) [(0, Sum.inr (0, o0)), (1, Sum.inl (Value.int v1)), (2, Sum.inl (Value.int v2))] [] h 0 0 = (
  mv_gd (decide (nI 0 = nI 0) || decide (nI 0 = nI 1)) <|
  mv_bh (wI2 h 0 o0 5 (nI 0)) fun h1 =>
  mv_rI (fA_own (fA_body 50) o0 v1 v2 (nI 0) h1) fun r3 h2 =>
  mv_bi r3 fun x4 =>
  if (rI2 h2 0 o0 5) = 0 then (
    some ([Sum.inl (Value.int x4)], h2))
  else
  some ([Sum.inl (Value.int (-(nI 15)))], h2)) := rfl
theorem GA_perform : ∀ (j : Nat) (C : mv_C H2) (md' : mv_MD × Bool), mv_nth j gA_perform = some C → mv_nth j nA_perform = some md' → ∃ n', n' + 1 ≤ 104 ∧ mv_Cal vw2 n' md' C := fun j C md' => match j with
  | 0 => fun h1 h2 => by
    obtain rfl := Option.some.inj h1
    obtain rfl := Option.some.inj h2
    exact ⟨103, by decide, (cA_own_ok fA_body50_met)⟩
  | jj + 1 => fun h1 _ => by cases jj <;> cases h1

set_option maxRecDepth 20000 in
theorem xA_perform {g0 : mv_G} {res : List mv_V × H2} (o0 : Nat) (v1 : Int32) (v2 : Int32) (h : H2) (hh : fA_perform o0 v1 v2 h = some res) : mv_X vw2 mdA_perform 104 0 0 none g0 res 0 [(0, Sum.inr (0, o0)), (1, Sum.inl (Value.int v1)), (2, Sum.inl (Value.int v2))] [] h 0 0 := by
  refine mv_blkX ax2 (GA_perform) (by decide) kA_perform (fun pc lv st h ce sl hh => ?_) ((eA_perform  o0 v1 v2 h).trans hh)
  cases hh

theorem mA_perform (o0 : Nat) (v1 : Int32) (v2 : Int32) (h : H2) (vs : List mv_V) (h' : H2) (hh : fA_perform o0 v1 v2 h = some (vs, h')) : mv_Met vw2 104 0 0 mdA_perform [Sum.inr (0, o0), Sum.inl (Value.int v1), Sum.inl (Value.int v2)] h vs h' :=
  mv_Met_of (by decide +kernel) (Nat.le_of_ble_eq_true rfl) (xA_perform o0 v1 v2 h hh)
theorem cA_perform_ok : mv_Cal vw2 104 (mdA_perform, true) ((0, 0), cA_perform) := by
  intro as h k res hh
  change cA_perform as h k = some res at hh
  unfold cA_perform at hh
  split at hh
  · obtain ⟨hg0, ha0⟩ := mv_gd_some hh
    obtain rfl := Nat.eq_of_beq_eq_true hg0
    obtain ⟨x, h', h1, h9⟩ := mv_rI_some ha0
    exact ⟨_, _, h9, (by first | decide | exact Nat.le_refl _ | exact Nat.zero_le _), fun _ => ⟨_, _, _, rfl, Or.inl ⟨by decide, rfl⟩⟩, (mA_perform _ _ _ h _ _ h1)⟩
  · cases hh

set_option maxRecDepth 100000 in
theorem kC_choices : mv_tok mdC_choices nC_choices tC_choices = true := by decide +kernel
set_option maxRecDepth 100000 in
set_option maxHeartbeats 1000000 in
theorem eC_choices_b5 (q5 : Int32 → Int32 → Int64 → Int32 → H2 → O2) (v0 : Int32) (v1 : Int32) (w2 : Int64) (v4 : Int32) (h : H2) : mv_blk rI2 rR2 ln2 wI2 wR2 nw2 cp2 bod none tC_choices gC_choices 0 0 [5] (fun pc lv st h ce sl => mv_gd (Nat.beq ce 0 && Nat.beq sl 0) (cond (Nat.beq pc 5) (mv_gI 0 lv fun v0 => mv_gI 1 lv fun v1 => mv_gL 2 lv fun w2 => mv_gI 4 lv fun v4 => mv_sE st (q5 v0 v1 w2 v4 h)) (none))) 400 (mv_seek 5 tC_choices) [(0, Sum.inl (Value.int v0)), (1, Sum.inl (Value.int v1)), (2, Sum.inl (Value.long w2)), (4, Sum.inl (Value.int v4))] [] h 0 0 = (
  if v1 < v4 then (
    some ([Sum.inl (Value.long w2)], h))
  else
  mv_gd (!decide (v4.toInt64 = 0)) <|
  mv_bl ((w2 * (((v0 - v1) + v4).toInt64)) / v4.toInt64) fun y1 =>
  mv_bi (v4 + (nI 1)) fun x2 =>
  q5 v0 v1 y1 x2 h) := rfl
set_option maxRecDepth 100000 in
set_option maxHeartbeats 1000000 in
theorem eC_choices (q5 : Int32 → Int32 → Int64 → Int32 → H2 → O2) (v0 : Int32) (v1 : Int32) (h : H2) : mv_blk rI2 rR2 ln2 wI2 wR2 nw2 cp2 bod none tC_choices gC_choices 0 0 [5] (fun pc lv st h ce sl => mv_gd (Nat.beq ce 0 && Nat.beq sl 0) (cond (Nat.beq pc 5) (mv_gI 0 lv fun v0 => mv_gI 1 lv fun v1 => mv_gL 2 lv fun w2 => mv_gI 4 lv fun v4 => mv_sE st (q5 v0 v1 w2 v4 h)) (none))) 400 (mv_seek 0 tC_choices) [(0, Sum.inl (Value.int v0)), (1, Sum.inl (Value.int v1))] [] h 0 0 = (
  mv_bl (lN 1) fun y1 =>
  mv_bi (nI 1) fun x2 =>
  q5 v0 v1 y1 x2 h) := rfl
theorem GC_choices : ∀ (j : Nat) (C : mv_C H2) (md' : mv_MD × Bool), mv_nth j gC_choices = some C → mv_nth j nC_choices = some md' → ∃ n', n' + 1 ≤ 1 ∧ mv_Cal vw2 n' md' C := fun j C md' h1 _ => by cases j <;> cases h1

set_option maxRecDepth 20000 in
theorem xC_choices_b5 {g0 : mv_G} {res : List mv_V × H2} : ∀ (n : Nat) (v0 : Int32) (v1 : Int32) (w2 : Int64) (v4 : Int32) (h : H2), fC_choices_b5 n v0 v1 w2 v4 h = some res → mv_X vw2 mdC_choices 1 0 0 none g0 res 5 [(0, Sum.inl (Value.int v0)), (1, Sum.inl (Value.int v1)), (2, Sum.inl (Value.long w2)), (4, Sum.inl (Value.int v4))] [] h 0 0 := by
  intro n
  induction n with
  | zero => intro v0 v1 w2 v4 h hh; cases hh
  | succ n ih =>
    intro v0 v1 w2 v4 h hh
    refine mv_blkX ax2 (GC_choices) (by decide) kC_choices (fun pc lv st h ce sl hh => ?_) ((eC_choices_b5 (fC_choices_b5 n) v0 v1 w2 v4 h).trans hh)
    obtain ⟨hg, hh1⟩ := mv_gd_some hh
    obtain ⟨rfl, rfl⟩ := mv_z2 hg
    rcases mv_cond_some hh1 with ⟨hb, hh2⟩ | ⟨hb, hh3⟩
    · obtain rfl := Nat.eq_of_beq_eq_true hb
      obtain ⟨v0, m0, hh4⟩ := mv_gI_some hh2
      obtain ⟨v1, m1, hh5⟩ := mv_gI_some hh4
      obtain ⟨w2, m2, hh6⟩ := mv_gL_some hh5
      obtain ⟨v4, m3, hh7⟩ := mv_gI_some hh6
      obtain ⟨rfl, hh8⟩ := mv_sE_some hh7
      exact (ih v0 v1 w2 v4 h hh8).sub (List.forall_mem_cons.mpr ⟨m0, (List.forall_mem_cons.mpr ⟨m1, (List.forall_mem_cons.mpr ⟨m2, (List.forall_mem_cons.mpr ⟨m3, (fun q hq => by cases hq)⟩)⟩)⟩)⟩)
    cases hh3

set_option maxRecDepth 20000 in
theorem xC_choices {g0 : mv_G} {res : List mv_V × H2} (v0 : Int32) (v1 : Int32) (h : H2) (hh : fC_choices v0 v1 h = some res) : mv_X vw2 mdC_choices 1 0 0 none g0 res 0 [(0, Sum.inl (Value.int v0)), (1, Sum.inl (Value.int v1))] [] h 0 0 := by
  refine mv_blkX ax2 (GC_choices) (by decide) kC_choices (fun pc lv st h ce sl hh => ?_) ((eC_choices (fC_choices_b5 1000) v0 v1 h).trans hh)
  obtain ⟨hg, hh1⟩ := mv_gd_some hh
  obtain ⟨rfl, rfl⟩ := mv_z2 hg
  rcases mv_cond_some hh1 with ⟨hb, hh2⟩ | ⟨hb, hh3⟩
  · obtain rfl := Nat.eq_of_beq_eq_true hb
    obtain ⟨v0, m0, hh4⟩ := mv_gI_some hh2
    obtain ⟨v1, m1, hh5⟩ := mv_gI_some hh4
    obtain ⟨w2, m2, hh6⟩ := mv_gL_some hh5
    obtain ⟨v4, m3, hh7⟩ := mv_gI_some hh6
    obtain ⟨rfl, hh8⟩ := mv_sE_some hh7
    exact (xC_choices_b5 1000 v0 v1 w2 v4 h hh8).sub (List.forall_mem_cons.mpr ⟨m0, (List.forall_mem_cons.mpr ⟨m1, (List.forall_mem_cons.mpr ⟨m2, (List.forall_mem_cons.mpr ⟨m3, (fun q hq => by cases hq)⟩)⟩)⟩)⟩)
  cases hh3

theorem mC_choices (v0 : Int32) (v1 : Int32) (h : H2) (vs : List mv_V) (h' : H2) (hh : fC_choices v0 v1 h = some (vs, h')) : mv_Met vw2 1 0 0 mdC_choices [Sum.inl (Value.int v0), Sum.inl (Value.int v1)] h vs h' :=
  mv_Met_of (by decide +kernel) (Nat.le_of_ble_eq_true rfl) (xC_choices v0 v1 h hh)
theorem cC_choices_ok : mv_Cal vw2 1 (mdC_choices, false) ((0, 0), cC_choices) := by
  intro as h k res hh
  change cC_choices as h k = some res at hh
  unfold cC_choices at hh
  split at hh
  · obtain ⟨x, h', h1, h9⟩ := mv_rL_some hh
    exact ⟨_, _, h9, (by first | decide | exact Nat.le_refl _ | exact Nat.zero_le _), (fun h => by cases h), (mC_choices _ _ h _ _ h1)⟩
  · cases hh

set_option maxRecDepth 100000 in
theorem kC_commonDivisor : mv_tok mdC_commonDivisor nC_commonDivisor tC_commonDivisor = true := by decide +kernel
set_option maxRecDepth 100000 in
set_option maxHeartbeats 1000000 in
theorem eC_commonDivisor_b9 (q9 : Int64 → Int64 → Int32 → H2 → O2) (w4 : Int64) (w6 : Int64) (v8 : Int32) (h : H2) : mv_blk rI2 rR2 ln2 wI2 wR2 nw2 cp2 bod none tC_commonDivisor gC_commonDivisor 0 0 [9] (fun pc lv st h ce sl => mv_gd (Nat.beq ce 0 && Nat.beq sl 0) (cond (Nat.beq pc 9) (mv_gL 4 lv fun w4 => mv_gL 6 lv fun w6 => mv_gI 8 lv fun v8 => mv_sE st (q9 w4 w6 v8 h)) (none))) 400 (mv_seek 9 tC_commonDivisor) [(4, Sum.inl (Value.long w4)), (6, Sum.inl (Value.long w6)), (8, Sum.inl (Value.int v8))] [] h 0 0 = (
  if (nI 200) ≤ v8 then (
    some ([Sum.inl (Value.long w4)], h))
  else
  if (lg_cmp w6 (lN 0)) = 0 then (
    some ([Sum.inl (Value.long w4)], h))
  else
  mv_gd (!decide (w6 = 0)) <|
  mv_bl (w4 - w4 / w6 * w6) fun y1 =>
  mv_bl w6 fun y2 =>
  mv_bl y1 fun y3 =>
  mv_bi (v8 + (nI 1)) fun x4 =>
  q9 y2 y3 x4 h) := rfl
set_option maxRecDepth 100000 in
set_option maxHeartbeats 1000000 in
theorem eC_commonDivisor (q9 : Int64 → Int64 → Int32 → H2 → O2) (w0 : Int64) (w2 : Int64) (h : H2) : mv_blk rI2 rR2 ln2 wI2 wR2 nw2 cp2 bod none tC_commonDivisor gC_commonDivisor 0 0 [9] (fun pc lv st h ce sl => mv_gd (Nat.beq ce 0 && Nat.beq sl 0) (cond (Nat.beq pc 9) (mv_gL 4 lv fun w4 => mv_gL 6 lv fun w6 => mv_gI 8 lv fun v8 => mv_sE st (q9 w4 w6 v8 h)) (none))) 400 (mv_seek 0 tC_commonDivisor) [(0, Sum.inl (Value.long w0)), (2, Sum.inl (Value.long w2))] [] h 0 0 = (
  mv_bl w0 fun y1 =>
  mv_bl w2 fun y2 =>
  mv_bi (nI 0) fun x3 =>
  q9 y1 y2 x3 h) := rfl
theorem GC_commonDivisor : ∀ (j : Nat) (C : mv_C H2) (md' : mv_MD × Bool), mv_nth j gC_commonDivisor = some C → mv_nth j nC_commonDivisor = some md' → ∃ n', n' + 1 ≤ 1 ∧ mv_Cal vw2 n' md' C := fun j C md' h1 _ => by cases j <;> cases h1

set_option maxRecDepth 20000 in
theorem xC_commonDivisor_b9 {g0 : mv_G} {res : List mv_V × H2} : ∀ (n : Nat) (w4 : Int64) (w6 : Int64) (v8 : Int32) (h : H2), fC_commonDivisor_b9 n w4 w6 v8 h = some res → mv_X vw2 mdC_commonDivisor 1 0 0 none g0 res 9 [(4, Sum.inl (Value.long w4)), (6, Sum.inl (Value.long w6)), (8, Sum.inl (Value.int v8))] [] h 0 0 := by
  intro n
  induction n with
  | zero => intro w4 w6 v8 h hh; cases hh
  | succ n ih =>
    intro w4 w6 v8 h hh
    refine mv_blkX ax2 (GC_commonDivisor) (by decide) kC_commonDivisor (fun pc lv st h ce sl hh => ?_) ((eC_commonDivisor_b9 (fC_commonDivisor_b9 n) w4 w6 v8 h).trans hh)
    obtain ⟨hg, hh1⟩ := mv_gd_some hh
    obtain ⟨rfl, rfl⟩ := mv_z2 hg
    rcases mv_cond_some hh1 with ⟨hb, hh2⟩ | ⟨hb, hh3⟩
    · obtain rfl := Nat.eq_of_beq_eq_true hb
      obtain ⟨w4, m0, hh4⟩ := mv_gL_some hh2
      obtain ⟨w6, m1, hh5⟩ := mv_gL_some hh4
      obtain ⟨v8, m2, hh6⟩ := mv_gI_some hh5
      obtain ⟨rfl, hh7⟩ := mv_sE_some hh6
      exact (ih w4 w6 v8 h hh7).sub (List.forall_mem_cons.mpr ⟨m0, (List.forall_mem_cons.mpr ⟨m1, (List.forall_mem_cons.mpr ⟨m2, (fun q hq => by cases hq)⟩)⟩)⟩)
    cases hh3

set_option maxRecDepth 20000 in
theorem xC_commonDivisor {g0 : mv_G} {res : List mv_V × H2} (w0 : Int64) (w2 : Int64) (h : H2) (hh : fC_commonDivisor w0 w2 h = some res) : mv_X vw2 mdC_commonDivisor 1 0 0 none g0 res 0 [(0, Sum.inl (Value.long w0)), (2, Sum.inl (Value.long w2))] [] h 0 0 := by
  refine mv_blkX ax2 (GC_commonDivisor) (by decide) kC_commonDivisor (fun pc lv st h ce sl hh => ?_) ((eC_commonDivisor (fC_commonDivisor_b9 1000) w0 w2 h).trans hh)
  obtain ⟨hg, hh1⟩ := mv_gd_some hh
  obtain ⟨rfl, rfl⟩ := mv_z2 hg
  rcases mv_cond_some hh1 with ⟨hb, hh2⟩ | ⟨hb, hh3⟩
  · obtain rfl := Nat.eq_of_beq_eq_true hb
    obtain ⟨w4, m0, hh4⟩ := mv_gL_some hh2
    obtain ⟨w6, m1, hh5⟩ := mv_gL_some hh4
    obtain ⟨v8, m2, hh6⟩ := mv_gI_some hh5
    obtain ⟨rfl, hh7⟩ := mv_sE_some hh6
    exact (xC_commonDivisor_b9 1000 w4 w6 v8 h hh7).sub (List.forall_mem_cons.mpr ⟨m0, (List.forall_mem_cons.mpr ⟨m1, (List.forall_mem_cons.mpr ⟨m2, (fun q hq => by cases hq)⟩)⟩)⟩)
  cases hh3

theorem mC_commonDivisor (w0 : Int64) (w2 : Int64) (h : H2) (vs : List mv_V) (h' : H2) (hh : fC_commonDivisor w0 w2 h = some (vs, h')) : mv_Met vw2 1 0 0 mdC_commonDivisor [Sum.inl (Value.long w0), Sum.inl (Value.long w2)] h vs h' :=
  mv_Met_of (by decide +kernel) (Nat.le_of_ble_eq_true rfl) (xC_commonDivisor w0 w2 h hh)
theorem cC_commonDivisor_ok : mv_Cal vw2 1 (mdC_commonDivisor, false) ((0, 0), cC_commonDivisor) := by
  intro as h k res hh
  change cC_commonDivisor as h k = some res at hh
  unfold cC_commonDivisor at hh
  split at hh
  · obtain ⟨x, h', h1, h9⟩ := mv_rL_some hh
    exact ⟨_, _, h9, (by first | decide | exact Nat.le_refl _ | exact Nat.zero_le _), (fun h => by cases h), (mC_commonDivisor _ _ h _ _ h1)⟩
  · cases hh

set_option maxRecDepth 100000 in
theorem kC_partOf : mv_tok mdC_partOf nC_partOf tC_partOf = true := by decide +kernel
set_option maxRecDepth 100000 in
set_option maxHeartbeats 1000000 in
theorem eC_partOf (w0 : Int64) (w2 : Int64) (v4 : Int32) (h : H2) : mv_blk rI2 rR2 ln2 wI2 wR2 nw2 cp2 bod none tC_partOf gC_partOf 0 0 [] (fun _ _ _ _ _ _ => none) 400 (mv_seek 0 tC_partOf) [(0, Sum.inl (Value.long w0)), (2, Sum.inl (Value.long w2)), (4, Sum.inl (Value.int v4))] [] h 0 0 = (
  mv_rL (fC_commonDivisor w0 w2 h) fun r2 h1 =>
  mv_bl r2 fun y3 =>
  if (lg_cmp y3 (lN 0)) = 0 then (
    some ([Sum.inl (Value.long v4.toInt64)], h1))
  else
  if v4 = 0 then (
    mv_gd (!decide (y3 = 0)) <|
    some ([Sum.inl (Value.long (w0 / y3))], h1))
  else
  mv_gd (!decide (y3 = 0)) <|
  some ([Sum.inl (Value.long (w2 / y3))], h1)) := rfl
theorem GC_partOf : ∀ (j : Nat) (C : mv_C H2) (md' : mv_MD × Bool), mv_nth j gC_partOf = some C → mv_nth j nC_partOf = some md' → ∃ n', n' + 1 ≤ 2 ∧ mv_Cal vw2 n' md' C := fun j C md' => match j with
  | 0 => fun h1 h2 => by
    obtain rfl := Option.some.inj h1
    obtain rfl := Option.some.inj h2
    exact ⟨1, by decide, cC_commonDivisor_ok⟩
  | jj + 1 => fun h1 _ => by cases jj <;> cases h1

set_option maxRecDepth 20000 in
theorem xC_partOf {g0 : mv_G} {res : List mv_V × H2} (w0 : Int64) (w2 : Int64) (v4 : Int32) (h : H2) (hh : fC_partOf w0 w2 v4 h = some res) : mv_X vw2 mdC_partOf 2 0 0 none g0 res 0 [(0, Sum.inl (Value.long w0)), (2, Sum.inl (Value.long w2)), (4, Sum.inl (Value.int v4))] [] h 0 0 := by
  refine mv_blkX ax2 (GC_partOf) (by decide) kC_partOf (fun pc lv st h ce sl hh => ?_) ((eC_partOf  w0 w2 v4 h).trans hh)
  cases hh

theorem mC_partOf (w0 : Int64) (w2 : Int64) (v4 : Int32) (h : H2) (vs : List mv_V) (h' : H2) (hh : fC_partOf w0 w2 v4 h = some (vs, h')) : mv_Met vw2 2 0 0 mdC_partOf [Sum.inl (Value.long w0), Sum.inl (Value.long w2), Sum.inl (Value.int v4)] h vs h' :=
  mv_Met_of (by decide +kernel) (Nat.le_of_ble_eq_true rfl) (xC_partOf w0 w2 v4 h hh)
theorem cC_partOf_ok : mv_Cal vw2 2 (mdC_partOf, false) ((0, 0), cC_partOf) := by
  intro as h k res hh
  change cC_partOf as h k = some res at hh
  unfold cC_partOf at hh
  split at hh
  · obtain ⟨x, h', h1, h9⟩ := mv_rL_some hh
    exact ⟨_, _, h9, (by first | decide | exact Nat.le_refl _ | exact Nat.zero_le _), (fun h => by cases h), (mC_partOf _ _ _ h _ _ h1)⟩
  · cases hh

set_option maxRecDepth 100000 in
theorem kC_justSlip : mv_tok mdC_justSlip nC_justSlip tC_justSlip = true := by decide +kernel
set_option maxRecDepth 100000 in
set_option maxHeartbeats 1000000 in
theorem eC_justSlip_b13 (q13 : Int32 → Int32 → Int32 → Int32 → Int64 → Int64 → Int32 → H2 → O2) (v0 : Int32) (v1 : Int32) (v2 : Int32) (v3 : Int32) (w4 : Int64) (w6 : Int64) (v8 : Int32) (h : H2) : mv_blk rI2 rR2 ln2 wI2 wR2 nw2 cp2 bod none tC_justSlip gC_justSlip 0 0 [13] (fun pc lv st h ce sl => mv_gd (Nat.beq ce 0 && Nat.beq sl 0) (cond (Nat.beq pc 13) (mv_gI 0 lv fun v0 => mv_gI 1 lv fun v1 => mv_gI 2 lv fun v2 => mv_gI 3 lv fun v3 => mv_gL 4 lv fun w4 => mv_gL 6 lv fun w6 => mv_gI 8 lv fun v8 => mv_sE st (q13 v0 v1 v2 v3 w4 w6 v8 h)) (none))) 400 (mv_seek 13 tC_justSlip) [(0, Sum.inl (Value.int v0)), (1, Sum.inl (Value.int v1)), (2, Sum.inl (Value.int v2)), (3, Sum.inl (Value.int v3)), (4, Sum.inl (Value.long w4)), (6, Sum.inl (Value.long w6)), (8, Sum.inl (Value.int v8))] [] h 0 0 = (
  if v0 ≤ v8 then (
    mv_rL (fC_partOf w4 w6 v3 h) fun r2 h1 =>
    some ([Sum.inl (Value.long r2)], h1))
  else
  if v1 ≤ v8 then (
    mv_bl (w4 * (((nI 100) - v2).toInt64)) fun y3 =>
    mv_bl (w6 * (lN 100)) fun y4 =>
    mv_bi (v8 + (nI 1)) fun x5 =>
    q13 v0 v1 v2 v3 y3 y4 x5 h)
  else
  mv_bl (w4 * v2.toInt64) fun y6 =>
  mv_bl (w6 * (lN 100)) fun y7 =>
  mv_bi (v8 + (nI 1)) fun x8 =>
  q13 v0 v1 v2 v3 y6 y7 x8 h) := rfl
set_option maxRecDepth 100000 in
set_option maxHeartbeats 1000000 in
theorem eC_justSlip (q13 : Int32 → Int32 → Int32 → Int32 → Int64 → Int64 → Int32 → H2 → O2) (v0 : Int32) (v1 : Int32) (v2 : Int32) (v3 : Int32) (h : H2) : mv_blk rI2 rR2 ln2 wI2 wR2 nw2 cp2 bod none tC_justSlip gC_justSlip 0 0 [13] (fun pc lv st h ce sl => mv_gd (Nat.beq ce 0 && Nat.beq sl 0) (cond (Nat.beq pc 13) (mv_gI 0 lv fun v0 => mv_gI 1 lv fun v1 => mv_gI 2 lv fun v2 => mv_gI 3 lv fun v3 => mv_gL 4 lv fun w4 => mv_gL 6 lv fun w6 => mv_gI 8 lv fun v8 => mv_sE st (q13 v0 v1 v2 v3 w4 w6 v8 h)) (none))) 400 (mv_seek 0 tC_justSlip) [(0, Sum.inl (Value.int v0)), (1, Sum.inl (Value.int v1)), (2, Sum.inl (Value.int v2)), (3, Sum.inl (Value.int v3))] [] h 0 0 = (
  mv_rL (fC_choices v0 v1 h) fun r2 h1 =>
  mv_bl r2 fun y3 =>
  mv_bl (lN 1) fun y4 =>
  mv_bi (nI 0) fun x5 =>
  q13 v0 v1 v2 v3 y3 y4 x5 h1) := rfl
theorem GC_justSlip : ∀ (j : Nat) (C : mv_C H2) (md' : mv_MD × Bool), mv_nth j gC_justSlip = some C → mv_nth j nC_justSlip = some md' → ∃ n', n' + 1 ≤ 3 ∧ mv_Cal vw2 n' md' C := fun j C md' => match j with
  | 0 => fun h1 h2 => by
    obtain rfl := Option.some.inj h1
    obtain rfl := Option.some.inj h2
    exact ⟨1, by decide, cC_choices_ok⟩
  | 1 => fun h1 h2 => by
    obtain rfl := Option.some.inj h1
    obtain rfl := Option.some.inj h2
    exact ⟨2, by decide, cC_partOf_ok⟩
  | jj + 2 => fun h1 _ => by cases jj <;> cases h1

set_option maxRecDepth 20000 in
theorem xC_justSlip_b13 {g0 : mv_G} {res : List mv_V × H2} : ∀ (n : Nat) (v0 : Int32) (v1 : Int32) (v2 : Int32) (v3 : Int32) (w4 : Int64) (w6 : Int64) (v8 : Int32) (h : H2), fC_justSlip_b13 n v0 v1 v2 v3 w4 w6 v8 h = some res → mv_X vw2 mdC_justSlip 3 0 0 none g0 res 13 [(0, Sum.inl (Value.int v0)), (1, Sum.inl (Value.int v1)), (2, Sum.inl (Value.int v2)), (3, Sum.inl (Value.int v3)), (4, Sum.inl (Value.long w4)), (6, Sum.inl (Value.long w6)), (8, Sum.inl (Value.int v8))] [] h 0 0 := by
  intro n
  induction n with
  | zero => intro v0 v1 v2 v3 w4 w6 v8 h hh; cases hh
  | succ n ih =>
    intro v0 v1 v2 v3 w4 w6 v8 h hh
    refine mv_blkX ax2 (GC_justSlip) (by decide) kC_justSlip (fun pc lv st h ce sl hh => ?_) ((eC_justSlip_b13 (fC_justSlip_b13 n) v0 v1 v2 v3 w4 w6 v8 h).trans hh)
    obtain ⟨hg, hh1⟩ := mv_gd_some hh
    obtain ⟨rfl, rfl⟩ := mv_z2 hg
    rcases mv_cond_some hh1 with ⟨hb, hh2⟩ | ⟨hb, hh3⟩
    · obtain rfl := Nat.eq_of_beq_eq_true hb
      obtain ⟨v0, m0, hh4⟩ := mv_gI_some hh2
      obtain ⟨v1, m1, hh5⟩ := mv_gI_some hh4
      obtain ⟨v2, m2, hh6⟩ := mv_gI_some hh5
      obtain ⟨v3, m3, hh7⟩ := mv_gI_some hh6
      obtain ⟨w4, m4, hh8⟩ := mv_gL_some hh7
      obtain ⟨w6, m5, hh9⟩ := mv_gL_some hh8
      obtain ⟨v8, m6, hh10⟩ := mv_gI_some hh9
      obtain ⟨rfl, hh11⟩ := mv_sE_some hh10
      exact (ih v0 v1 v2 v3 w4 w6 v8 h hh11).sub (List.forall_mem_cons.mpr ⟨m0, (List.forall_mem_cons.mpr ⟨m1, (List.forall_mem_cons.mpr ⟨m2, (List.forall_mem_cons.mpr ⟨m3, (List.forall_mem_cons.mpr ⟨m4, (List.forall_mem_cons.mpr ⟨m5, (List.forall_mem_cons.mpr ⟨m6, (fun q hq => by cases hq)⟩)⟩)⟩)⟩)⟩)⟩)⟩)
    cases hh3

set_option maxRecDepth 20000 in
theorem xC_justSlip {g0 : mv_G} {res : List mv_V × H2} (v0 : Int32) (v1 : Int32) (v2 : Int32) (v3 : Int32) (h : H2) (hh : fC_justSlip v0 v1 v2 v3 h = some res) : mv_X vw2 mdC_justSlip 3 0 0 none g0 res 0 [(0, Sum.inl (Value.int v0)), (1, Sum.inl (Value.int v1)), (2, Sum.inl (Value.int v2)), (3, Sum.inl (Value.int v3))] [] h 0 0 := by
  refine mv_blkX ax2 (GC_justSlip) (by decide) kC_justSlip (fun pc lv st h ce sl hh => ?_) ((eC_justSlip (fC_justSlip_b13 1000) v0 v1 v2 v3 h).trans hh)
  obtain ⟨hg, hh1⟩ := mv_gd_some hh
  obtain ⟨rfl, rfl⟩ := mv_z2 hg
  rcases mv_cond_some hh1 with ⟨hb, hh2⟩ | ⟨hb, hh3⟩
  · obtain rfl := Nat.eq_of_beq_eq_true hb
    obtain ⟨v0, m0, hh4⟩ := mv_gI_some hh2
    obtain ⟨v1, m1, hh5⟩ := mv_gI_some hh4
    obtain ⟨v2, m2, hh6⟩ := mv_gI_some hh5
    obtain ⟨v3, m3, hh7⟩ := mv_gI_some hh6
    obtain ⟨w4, m4, hh8⟩ := mv_gL_some hh7
    obtain ⟨w6, m5, hh9⟩ := mv_gL_some hh8
    obtain ⟨v8, m6, hh10⟩ := mv_gI_some hh9
    obtain ⟨rfl, hh11⟩ := mv_sE_some hh10
    exact (xC_justSlip_b13 1000 v0 v1 v2 v3 w4 w6 v8 h hh11).sub (List.forall_mem_cons.mpr ⟨m0, (List.forall_mem_cons.mpr ⟨m1, (List.forall_mem_cons.mpr ⟨m2, (List.forall_mem_cons.mpr ⟨m3, (List.forall_mem_cons.mpr ⟨m4, (List.forall_mem_cons.mpr ⟨m5, (List.forall_mem_cons.mpr ⟨m6, (fun q hq => by cases hq)⟩)⟩)⟩)⟩)⟩)⟩)⟩)
  cases hh3

theorem mC_justSlip (v0 : Int32) (v1 : Int32) (v2 : Int32) (v3 : Int32) (h : H2) (vs : List mv_V) (h' : H2) (hh : fC_justSlip v0 v1 v2 v3 h = some (vs, h')) : mv_Met vw2 3 0 0 mdC_justSlip [Sum.inl (Value.int v0), Sum.inl (Value.int v1), Sum.inl (Value.int v2), Sum.inl (Value.int v3)] h vs h' :=
  mv_Met_of (by decide +kernel) (Nat.le_of_ble_eq_true rfl) (xC_justSlip v0 v1 v2 v3 h hh)
theorem cC_justSlip_ok : mv_Cal vw2 3 (mdC_justSlip, false) ((0, 0), cC_justSlip) := by
  intro as h k res hh
  change cC_justSlip as h k = some res at hh
  unfold cC_justSlip at hh
  split at hh
  · obtain ⟨x, h', h1, h9⟩ := mv_rL_some hh
    exact ⟨_, _, h9, (by first | decide | exact Nat.le_refl _ | exact Nat.zero_le _), (fun h => by cases h), (mC_justSlip _ _ _ _ h _ _ h1)⟩
  · cases hh

set_option maxRecDepth 100000 in
theorem kM_copyFrom : mv_tok mdM_copyFrom nM_copyFrom tM_copyFrom = true := by decide +kernel
set_option maxRecDepth 100000 in
set_option maxHeartbeats 1000000 in
theorem eM_copyFrom (o0 : Nat) (o1 : Nat) (h : H2) : mv_blk rI2 rR2 ln2 wI2 wR2 nw2 cp2 bod none tM_copyFrom gM_copyFrom 0 0 [] (fun _ _ _ _ _ _ => none) 400 (mv_seek 0 tM_copyFrom) [(0, Sum.inr (2, o0)), (1, Sum.inr (2, o1))] [] h 0 0 = (
  mv_gd (decide (nI 0 = nI 0) && (decide (nI 0 = nI 0) && (!decide ((nI 4) < 0) && (Nat.ble (nI 4).toNatClampNeg 4 && Nat.ble (nI 4).toNatClampNeg 4)))) <|
  mv_bh (cp2 h 300 o1 o0 (nI 4).toNatClampNeg 0) fun h1 =>
  mv_gd (decide (nI 0 = nI 0) && (decide (nI 0 = nI 0) && (!decide ((nI 8) < 0) && (Nat.ble (nI 8).toNatClampNeg 8 && Nat.ble (nI 8).toNatClampNeg 8)))) <|
  mv_bh (cp2 h1 301 o1 o0 (nI 8).toNatClampNeg 0) fun h2 =>
  mv_gd (decide (nI 0 = nI 0) && (decide (nI 0 = nI 0) && (!decide ((nI 8) < 0) && (Nat.ble (nI 8).toNatClampNeg 8 && Nat.ble (nI 8).toNatClampNeg 8)))) <|
  mv_bh (cp2 h2 302 o1 o0 (nI 8).toNatClampNeg 0) fun h3 =>
  mv_gd (decide (nI 0 = nI 0) && (decide (nI 0 = nI 0) && (!decide ((nI 6) < 0) && (Nat.ble (nI 6).toNatClampNeg 6 && Nat.ble (nI 6).toNatClampNeg 6)))) <|
  mv_bh (cp2 h3 303 o1 o0 (nI 6).toNatClampNeg 0) fun h4 =>
  mv_gd (decide (nI 0 = nI 0) && (decide (nI 0 = nI 0) && (!decide ((nI 8) < 0) && (Nat.ble (nI 8).toNatClampNeg 8 && Nat.ble (nI 8).toNatClampNeg 8)))) <|
  mv_bh (cp2 h4 304 o1 o0 (nI 8).toNatClampNeg 0) fun h5 =>
  mv_gd (decide (nI 0 = nI 0) && (decide (nI 0 = nI 0) && (!decide ((nI 8) < 0) && (Nat.ble (nI 8).toNatClampNeg 8 && Nat.ble (nI 8).toNatClampNeg 8)))) <|
  mv_bh (cp2 h5 305 o1 o0 (nI 8).toNatClampNeg 0) fun h6 =>
  mv_gd (decide (nI 0 = nI 0) && (decide (nI 0 = nI 0) && (!decide ((nI 8) < 0) && (Nat.ble (nI 8).toNatClampNeg 8 && Nat.ble (nI 8).toNatClampNeg 8)))) <|
  mv_bh (cp2 h6 306 o1 o0 (nI 8).toNatClampNeg 0) fun h7 =>
  mv_gd (decide (nI 0 = nI 0) && (decide (nI 0 = nI 0) && (!decide ((nI 8) < 0) && (Nat.ble (nI 8).toNatClampNeg 8 && Nat.ble (nI 8).toNatClampNeg 8)))) <|
  mv_bh (cp2 h7 307 o1 o0 (nI 8).toNatClampNeg 0) fun h8 =>
  mv_gd (decide (nI 0 = nI 0) && (decide (nI 0 = nI 0) && (!decide ((nI 8) < 0) && (Nat.ble (nI 8).toNatClampNeg 8 && Nat.ble (nI 8).toNatClampNeg 8)))) <|
  mv_bh (cp2 h8 308 o1 o0 (nI 8).toNatClampNeg 0) fun h9 =>
  mv_bh (wI2 h9 2 o0 9 (rI2 h9 2 o1 9)) fun h10 =>
  mv_bh (wI2 h10 2 o0 10 (rI2 h10 2 o1 10)) fun h11 =>
  mv_bh (wI2 h11 2 o0 11 (rI2 h11 2 o1 11)) fun h12 =>
  some ([], h12)) := rfl
theorem GM_copyFrom : ∀ (j : Nat) (C : mv_C H2) (md' : mv_MD × Bool), mv_nth j gM_copyFrom = some C → mv_nth j nM_copyFrom = some md' → ∃ n', n' + 1 ≤ 1 ∧ mv_Cal vw2 n' md' C := fun j C md' h1 _ => by cases j <;> cases h1

set_option maxRecDepth 20000 in
theorem xM_copyFrom {g0 : mv_G} {res : List mv_V × H2} (o0 : Nat) (o1 : Nat) (h : H2) (hh : fM_copyFrom o0 o1 h = some res) : mv_X vw2 mdM_copyFrom 1 0 0 none g0 res 0 [(0, Sum.inr (2, o0)), (1, Sum.inr (2, o1))] [] h 0 0 := by
  refine mv_blkX ax2 (GM_copyFrom) (by decide) kM_copyFrom (fun pc lv st h ce sl hh => ?_) ((eM_copyFrom  o0 o1 h).trans hh)
  cases hh

theorem mM_copyFrom (o0 : Nat) (o1 : Nat) (h : H2) (vs : List mv_V) (h' : H2) (hh : fM_copyFrom o0 o1 h = some (vs, h')) : mv_Met vw2 1 0 0 mdM_copyFrom [Sum.inr (2, o0), Sum.inr (2, o1)] h vs h' :=
  mv_Met_of (by decide +kernel) (Nat.le_of_ble_eq_true rfl) (xM_copyFrom o0 o1 h hh)
theorem cM_copyFrom_ok : mv_Cal vw2 1 (mdM_copyFrom, true) ((0, 0), cM_copyFrom) := by
  intro as h k res hh
  change cM_copyFrom as h k = some res at hh
  unfold cM_copyFrom at hh
  split at hh
  · obtain ⟨hg0, ha0⟩ := mv_gd_some hh
    obtain rfl := Nat.eq_of_beq_eq_true hg0
    obtain ⟨hg1, ha1⟩ := mv_gd_some ha0
    obtain rfl := Nat.eq_of_beq_eq_true hg1
    obtain ⟨h', h1, h9⟩ := mv_rV_some ha1
    exact ⟨_, _, h9, (by first | decide | exact Nat.le_refl _ | exact Nat.zero_le _), fun _ => ⟨_, _, _, rfl, Or.inl ⟨by decide, rfl⟩⟩, (mM_copyFrom _ _ h _ _ h1)⟩
  · cases hh

