/-! what the law calls, as call-forms -/
def lz_ci (F : List mv_V → H2 → O2) : List mv_V → H2 → (List mv_V → H2 → O2) → O2 := fun as h k => mv_rI (F as h) fun x h => k [.inl (.int x)] h
def lz_cl (F : List mv_V → H2 → O2) : List mv_V → H2 → (List mv_V → H2 → O2) → O2 := fun as h k => mv_rL (F as h) fun x h => k [.inl (.long x)] h
def lz_cz : List mv_V → H2 → (List mv_V → H2 → O2) → O2 := fun _ _ _ => none
theorem lz_cz_ok {n : Nat} {q : mv_MD × Bool} {m : Nat × Nat} : mv_Cal vw2 n q (m, lz_cz) := fun _ _ _ _ h => by cases h
theorem lz_ci_ok {n mc ms : Nat} {md : mv_MD} {F : List mv_V → H2 → O2} (hF : ∀ as h vs h', F as h = some (vs, h') → mv_rcv md as ∧ mv_Met vw2 n mc ms md as h vs h') : mv_Cal vw2 n (md, true) ((mc, ms), lz_ci F) := by
  intro as h k res hh
  obtain ⟨x, h', h1, h9⟩ := mv_rI_some hh
  exact ⟨_, _, h9, Nat.le_refl _, fun _ => (hF _ _ _ _ h1).1, (hF _ _ _ _ h1).2⟩
theorem lz_cl_ok {n mc ms : Nat} {md : mv_MD} {F : List mv_V → H2 → O2} (hF : ∀ as h vs h', F as h = some (vs, h') → mv_rcv md as ∧ mv_Met vw2 n mc ms md as h vs h') : mv_Cal vw2 n (md, true) ((mc, ms), lz_cl F) := by
  intro as h k res hh
  obtain ⟨x, h', h1, h9⟩ := mv_rL_some hh
  exact ⟨_, _, h9, Nat.le_refl _, fun _ => (hF _ _ _ _ h1).1, (hF _ _ _ _ h1).2⟩
def lz_all2 {α β : Type} (P : α → β → Prop) : List α → List β → Prop
  | a :: l, b :: m => P a b ∧ lz_all2 P l m
  | _, _ => True
theorem lz_all2_nth {α β : Type} {P : α → β → Prop} : ∀ {G : List α} {N : List β}, lz_all2 P G N → ∀ j C md', mv_nth j G = some C → mv_nth j N = some md' → P C md'
  | [], _, _, j, C, md', h, _ => by cases j <;> cases h
  | _ :: _, [], _, j, C, md', _, h => by cases j <;> cases h
  | a :: l, b :: m, h, j, C, md', h1, h2 => by
    cases j with
    | zero =>
      obtain rfl := Option.some.inj h1
      obtain rfl := Option.some.inj h2
      exact h.1
    | succ j => exact lz_all2_nth h.2 j C md' h1 h2
def lz_pV_feed : List mv_V → H2 → O2 := fun as h => match as with
  | [.inr (t0, o0), .inl (.long w1), .inl (.int v3)] => mv_gd (Nat.beq t0 7) (fV_feed o0 w1 v3 h)
  | _ => none
theorem lz_pV_feed_eq (w1 : Int64) (v3 : Int32) (h : H2) : lz_pV_feed [.inr (7, 0), .inl (.long w1), .inl (.int v3)] h = fV_feed 0 w1 v3 h := by
  show mv_gd (Nat.beq 7 7) (fV_feed 0 w1 v3 h) = _
  exact xgd
theorem lz_pV_feed_ok : ∀ as h vs h', lz_pV_feed as h = some (vs, h') → mv_rcv mdV_feed as ∧ mv_Met vw2 2 0 0 mdV_feed as h vs h' := by
  intro as h vs h' hh
  unfold lz_pV_feed at hh
  split at hh
  · obtain ⟨a, b⟩ := mv_gd_some hh
    obtain rfl := Nat.eq_of_beq_eq_true a
    exact ⟨⟨_, _, _, rfl, Or.inl ⟨by decide, rfl⟩⟩, mV_feed _ _ _ h vs h' b⟩
  · cases hh
def lz_pN_feed : List mv_V → H2 → O2 := fun as h => match as with
  | [.inr (t0, o0), .inl (.long w1), .inl (.int v3)] => mv_gd (Nat.beq t0 8) (fN_feed o0 w1 v3 h)
  | _ => none
theorem lz_pN_feed_eq (w1 : Int64) (v3 : Int32) (h : H2) : lz_pN_feed [.inr (8, 0), .inl (.long w1), .inl (.int v3)] h = fN_feed 0 w1 v3 h := by
  show mv_gd (Nat.beq 8 8) (fN_feed 0 w1 v3 h) = _
  exact xgd
theorem lz_pN_feed_ok : ∀ as h vs h', lz_pN_feed as h = some (vs, h') → mv_rcv mdN_feed as ∧ mv_Met vw2 2 0 0 mdN_feed as h vs h' := by
  intro as h vs h' hh
  unfold lz_pN_feed at hh
  split at hh
  · obtain ⟨a, b⟩ := mv_gd_some hh
    obtain rfl := Nat.eq_of_beq_eq_true a
    exact ⟨⟨_, _, _, rfl, Or.inl ⟨by decide, rfl⟩⟩, mN_feed _ _ _ h vs h' b⟩
  · cases hh
def lz_pV_mill : List mv_V → H2 → O2 := fun as h => match as with
  | [.inr (t0, o0)] => mv_gd (Nat.beq t0 7) (fV_mill o0 h)
  | _ => none
theorem lz_pV_mill_eq (h : H2) : lz_pV_mill [.inr (7, 0)] h = fV_mill 0  h := by
  show mv_gd (Nat.beq 7 7) (fV_mill 0  h) = _
  exact xgd
theorem lz_pV_mill_ok : ∀ as h vs h', lz_pV_mill as h = some (vs, h') → mv_rcv mdV_mill as ∧ mv_Met vw2 10 0 0 mdV_mill as h vs h' := by
  intro as h vs h' hh
  unfold lz_pV_mill at hh
  split at hh
  · obtain ⟨a, b⟩ := mv_gd_some hh
    obtain rfl := Nat.eq_of_beq_eq_true a
    exact ⟨⟨_, _, _, rfl, Or.inl ⟨by decide, rfl⟩⟩, mV_mill _ h vs h' b⟩
  · cases hh
def lz_pN_mill : List mv_V → H2 → O2 := fun as h => match as with
  | [.inr (t0, o0)] => mv_gd (Nat.beq t0 8) (fN_mill o0 h)
  | _ => none
theorem lz_pN_mill_eq (h : H2) : lz_pN_mill [.inr (8, 0)] h = fN_mill 0  h := by
  show mv_gd (Nat.beq 8 8) (fN_mill 0  h) = _
  exact xgd
theorem lz_pN_mill_ok : ∀ as h vs h', lz_pN_mill as h = some (vs, h') → mv_rcv mdN_mill as ∧ mv_Met vw2 9 0 0 mdN_mill as h vs h' := by
  intro as h vs h' hh
  unfold lz_pN_mill at hh
  split at hh
  · obtain ⟨a, b⟩ := mv_gd_some hh
    obtain rfl := Nat.eq_of_beq_eq_true a
    exact ⟨⟨_, _, _, rfl, Or.inl ⟨by decide, rfl⟩⟩, mN_mill _ h vs h' b⟩
  · cases hh
def lz_pV_set : List mv_V → H2 → O2 := fun as h => match as with
  | [.inr (t0, o0), .inl (.int v1), .inl (.int v2)] => mv_gd (Nat.beq t0 7) (fV_set o0 v1 v2 h)
  | _ => none
theorem lz_pV_set_eq (v1 : Int32) (v2 : Int32) (h : H2) : lz_pV_set [.inr (7, 0), .inl (.int v1), .inl (.int v2)] h = fV_set 0 v1 v2 h := by
  show mv_gd (Nat.beq 7 7) (fV_set 0 v1 v2 h) = _
  exact xgd
theorem lz_pV_set_ok : ∀ as h vs h', lz_pV_set as h = some (vs, h') → mv_rcv mdV_set as ∧ mv_Met vw2 2 0 0 mdV_set as h vs h' := by
  intro as h vs h' hh
  unfold lz_pV_set at hh
  split at hh
  · obtain ⟨a, b⟩ := mv_gd_some hh
    obtain rfl := Nat.eq_of_beq_eq_true a
    exact ⟨⟨_, _, _, rfl, Or.inl ⟨by decide, rfl⟩⟩, mV_set _ _ _ h vs h' b⟩
  · cases hh
def lz_pN_set : List mv_V → H2 → O2 := fun as h => match as with
  | [.inr (t0, o0), .inl (.int v1), .inl (.int v2)] => mv_gd (Nat.beq t0 8) (fN_set o0 v1 v2 h)
  | _ => none
theorem lz_pN_set_eq (v1 : Int32) (v2 : Int32) (h : H2) : lz_pN_set [.inr (8, 0), .inl (.int v1), .inl (.int v2)] h = fN_set 0 v1 v2 h := by
  show mv_gd (Nat.beq 8 8) (fN_set 0 v1 v2 h) = _
  exact xgd
theorem lz_pN_set_ok : ∀ as h vs h', lz_pN_set as h = some (vs, h') → mv_rcv mdN_set as ∧ mv_Met vw2 2 0 0 mdN_set as h vs h' := by
  intro as h vs h' hh
  unfold lz_pN_set at hh
  split at hh
  · obtain ⟨a, b⟩ := mv_gd_some hh
    obtain rfl := Nat.eq_of_beq_eq_true a
    exact ⟨⟨_, _, _, rfl, Or.inl ⟨by decide, rfl⟩⟩, mN_set _ _ _ h vs h' b⟩
  · cases hh
def lz_pV_lawOf : List mv_V → H2 → O2 := fun as h => match as with
  | [.inr (t0, o0), .inl (.int v1)] => mv_gd (Nat.beq t0 7) (fV_lawOf o0 v1 h)
  | _ => none
theorem lz_pV_lawOf_eq (v1 : Int32) (h : H2) : lz_pV_lawOf [.inr (7, 0), .inl (.int v1)] h = fV_lawOf 0 v1 h := by
  show mv_gd (Nat.beq 7 7) (fV_lawOf 0 v1 h) = _
  exact xgd
theorem lz_pV_lawOf_ok : ∀ as h vs h', lz_pV_lawOf as h = some (vs, h') → mv_rcv mdV_lawOf as ∧ mv_Met vw2 2 0 0 mdV_lawOf as h vs h' := by
  intro as h vs h' hh
  unfold lz_pV_lawOf at hh
  split at hh
  · obtain ⟨a, b⟩ := mv_gd_some hh
    obtain rfl := Nat.eq_of_beq_eq_true a
    exact ⟨⟨_, _, _, rfl, Or.inl ⟨by decide, rfl⟩⟩, mV_lawOf _ _ h vs h' b⟩
  · cases hh
def lz_pN_lawOf : List mv_V → H2 → O2 := fun as h => match as with
  | [.inr (t0, o0), .inl (.int v1)] => mv_gd (Nat.beq t0 8) (fN_lawOf o0 v1 h)
  | _ => none
theorem lz_pN_lawOf_eq (v1 : Int32) (h : H2) : lz_pN_lawOf [.inr (8, 0), .inl (.int v1)] h = fN_lawOf 0 v1 h := by
  show mv_gd (Nat.beq 8 8) (fN_lawOf 0 v1 h) = _
  exact xgd
theorem lz_pN_lawOf_ok : ∀ as h vs h', lz_pN_lawOf as h = some (vs, h') → mv_rcv mdN_lawOf as ∧ mv_Met vw2 2 0 0 mdN_lawOf as h vs h' := by
  intro as h vs h' hh
  unfold lz_pN_lawOf at hh
  split at hh
  · obtain ⟨a, b⟩ := mv_gd_some hh
    obtain rfl := Nat.eq_of_beq_eq_true a
    exact ⟨⟨_, _, _, rfl, Or.inl ⟨by decide, rfl⟩⟩, mN_lawOf _ _ h vs h' b⟩
  · cases hh
def lz_pV_fill : List mv_V → H2 → O2 := fun as h => match as with
  | [.inr (t0, o0), .inl (.int v1), .inl (.int v2), .inl (.int v3)] => mv_gd (Nat.beq t0 7) (fV_fill o0 v1 v2 v3 h)
  | _ => none
theorem lz_pV_fill_eq (v1 : Int32) (v2 : Int32) (v3 : Int32) (h : H2) : lz_pV_fill [.inr (7, 0), .inl (.int v1), .inl (.int v2), .inl (.int v3)] h = fV_fill 0 v1 v2 v3 h := by
  show mv_gd (Nat.beq 7 7) (fV_fill 0 v1 v2 v3 h) = _
  exact xgd
theorem lz_pV_fill_ok : ∀ as h vs h', lz_pV_fill as h = some (vs, h') → mv_rcv mdV_fill as ∧ mv_Met vw2 3 0 0 mdV_fill as h vs h' := by
  intro as h vs h' hh
  unfold lz_pV_fill at hh
  split at hh
  · obtain ⟨a, b⟩ := mv_gd_some hh
    obtain rfl := Nat.eq_of_beq_eq_true a
    exact ⟨⟨_, _, _, rfl, Or.inl ⟨by decide, rfl⟩⟩, mV_fill _ _ _ _ h vs h' b⟩
  · cases hh
def lz_pN_fill : List mv_V → H2 → O2 := fun as h => match as with
  | [.inr (t0, o0), .inl (.int v1), .inl (.int v2), .inl (.int v3)] => mv_gd (Nat.beq t0 8) (fN_fill o0 v1 v2 v3 h)
  | _ => none
theorem lz_pN_fill_eq (v1 : Int32) (v2 : Int32) (v3 : Int32) (h : H2) : lz_pN_fill [.inr (8, 0), .inl (.int v1), .inl (.int v2), .inl (.int v3)] h = fN_fill 0 v1 v2 v3 h := by
  show mv_gd (Nat.beq 8 8) (fN_fill 0 v1 v2 v3 h) = _
  exact xgd
theorem lz_pN_fill_ok : ∀ as h vs h', lz_pN_fill as h = some (vs, h') → mv_rcv mdN_fill as ∧ mv_Met vw2 3 0 0 mdN_fill as h vs h' := by
  intro as h vs h' hh
  unfold lz_pN_fill at hh
  split at hh
  · obtain ⟨a, b⟩ := mv_gd_some hh
    obtain rfl := Nat.eq_of_beq_eq_true a
    exact ⟨⟨_, _, _, rfl, Or.inl ⟨by decide, rfl⟩⟩, mN_fill _ _ _ _ h vs h' b⟩
  · cases hh
def lz_pV_vatOf : List mv_V → H2 → O2 := fun as h => match as with
  | [.inr (t0, o0), .inl (.int v1), .inl (.int v2)] => mv_gd (Nat.beq t0 7) (fV_vatOf o0 v1 v2 h)
  | _ => none
theorem lz_pV_vatOf_eq (v1 : Int32) (v2 : Int32) (h : H2) : lz_pV_vatOf [.inr (7, 0), .inl (.int v1), .inl (.int v2)] h = fV_vatOf 0 v1 v2 h := by
  show mv_gd (Nat.beq 7 7) (fV_vatOf 0 v1 v2 h) = _
  exact xgd
theorem lz_pV_vatOf_ok : ∀ as h vs h', lz_pV_vatOf as h = some (vs, h') → mv_rcv mdV_vatOf as ∧ mv_Met vw2 3 0 0 mdV_vatOf as h vs h' := by
  intro as h vs h' hh
  unfold lz_pV_vatOf at hh
  split at hh
  · obtain ⟨a, b⟩ := mv_gd_some hh
    obtain rfl := Nat.eq_of_beq_eq_true a
    exact ⟨⟨_, _, _, rfl, Or.inl ⟨by decide, rfl⟩⟩, mV_vatOf _ _ _ h vs h' b⟩
  · cases hh
def lz_pN_vatOf : List mv_V → H2 → O2 := fun as h => match as with
  | [.inr (t0, o0), .inl (.int v1), .inl (.int v2)] => mv_gd (Nat.beq t0 8) (fN_vatOf o0 v1 v2 h)
  | _ => none
theorem lz_pN_vatOf_eq (v1 : Int32) (v2 : Int32) (h : H2) : lz_pN_vatOf [.inr (8, 0), .inl (.int v1), .inl (.int v2)] h = fN_vatOf 0 v1 v2 h := by
  show mv_gd (Nat.beq 8 8) (fN_vatOf 0 v1 v2 h) = _
  exact xgd
theorem lz_pN_vatOf_ok : ∀ as h vs h', lz_pN_vatOf as h = some (vs, h') → mv_rcv mdN_vatOf as ∧ mv_Met vw2 3 0 0 mdN_vatOf as h vs h' := by
  intro as h vs h' hh
  unfold lz_pN_vatOf at hh
  split at hh
  · obtain ⟨a, b⟩ := mv_gd_some hh
    obtain rfl := Nat.eq_of_beq_eq_true a
    exact ⟨⟨_, _, _, rfl, Or.inl ⟨by decide, rfl⟩⟩, mN_vatOf _ _ _ h vs h' b⟩
  · cases hh
def lz_pV_roster : List mv_V → H2 → O2 := fun as h => match as with
  | [.inr (t0, o0), .inl (.int v1), .inl (.int v2)] => mv_gd (Nat.beq t0 7) (fV_roster o0 v1 v2 h)
  | _ => none
theorem lz_pV_roster_eq (v1 : Int32) (v2 : Int32) (h : H2) : lz_pV_roster [.inr (7, 0), .inl (.int v1), .inl (.int v2)] h = fV_roster 0 v1 v2 h := by
  show mv_gd (Nat.beq 7 7) (fV_roster 0 v1 v2 h) = _
  exact xgd
theorem lz_pV_roster_ok : ∀ as h vs h', lz_pV_roster as h = some (vs, h') → mv_rcv mdV_roster as ∧ mv_Met vw2 3 0 0 mdV_roster as h vs h' := by
  intro as h vs h' hh
  unfold lz_pV_roster at hh
  split at hh
  · obtain ⟨a, b⟩ := mv_gd_some hh
    obtain rfl := Nat.eq_of_beq_eq_true a
    exact ⟨⟨_, _, _, rfl, Or.inl ⟨by decide, rfl⟩⟩, mV_roster _ _ _ h vs h' b⟩
  · cases hh
def lz_pN_roster : List mv_V → H2 → O2 := fun as h => match as with
  | [.inr (t0, o0), .inl (.int v1), .inl (.int v2)] => mv_gd (Nat.beq t0 8) (fN_roster o0 v1 v2 h)
  | _ => none
theorem lz_pN_roster_eq (v1 : Int32) (v2 : Int32) (h : H2) : lz_pN_roster [.inr (8, 0), .inl (.int v1), .inl (.int v2)] h = fN_roster 0 v1 v2 h := by
  show mv_gd (Nat.beq 8 8) (fN_roster 0 v1 v2 h) = _
  exact xgd
theorem lz_pN_roster_ok : ∀ as h vs h', lz_pN_roster as h = some (vs, h') → mv_rcv mdN_roster as ∧ mv_Met vw2 3 0 0 mdN_roster as h vs h' := by
  intro as h vs h' hh
  unfold lz_pN_roster at hh
  split at hh
  · obtain ⟨a, b⟩ := mv_gd_some hh
    obtain rfl := Nat.eq_of_beq_eq_true a
    exact ⟨⟨_, _, _, rfl, Or.inl ⟨by decide, rfl⟩⟩, mN_roster _ _ _ h vs h' b⟩
  · cases hh
def lz_pV_rosterOf : List mv_V → H2 → O2 := fun as h => match as with
  | [.inr (t0, o0), .inl (.int v1)] => mv_gd (Nat.beq t0 7) (fV_rosterOf o0 v1 h)
  | _ => none
theorem lz_pV_rosterOf_eq (v1 : Int32) (h : H2) : lz_pV_rosterOf [.inr (7, 0), .inl (.int v1)] h = fV_rosterOf 0 v1 h := by
  show mv_gd (Nat.beq 7 7) (fV_rosterOf 0 v1 h) = _
  exact xgd
theorem lz_pV_rosterOf_ok : ∀ as h vs h', lz_pV_rosterOf as h = some (vs, h') → mv_rcv mdV_rosterOf as ∧ mv_Met vw2 3 0 0 mdV_rosterOf as h vs h' := by
  intro as h vs h' hh
  unfold lz_pV_rosterOf at hh
  split at hh
  · obtain ⟨a, b⟩ := mv_gd_some hh
    obtain rfl := Nat.eq_of_beq_eq_true a
    exact ⟨⟨_, _, _, rfl, Or.inl ⟨by decide, rfl⟩⟩, mV_rosterOf _ _ h vs h' b⟩
  · cases hh
def lz_pN_rosterOf : List mv_V → H2 → O2 := fun as h => match as with
  | [.inr (t0, o0), .inl (.int v1)] => mv_gd (Nat.beq t0 8) (fN_rosterOf o0 v1 h)
  | _ => none
theorem lz_pN_rosterOf_eq (v1 : Int32) (h : H2) : lz_pN_rosterOf [.inr (8, 0), .inl (.int v1)] h = fN_rosterOf 0 v1 h := by
  show mv_gd (Nat.beq 8 8) (fN_rosterOf 0 v1 h) = _
  exact xgd
theorem lz_pN_rosterOf_ok : ∀ as h vs h', lz_pN_rosterOf as h = some (vs, h') → mv_rcv mdN_rosterOf as ∧ mv_Met vw2 3 0 0 mdN_rosterOf as h vs h' := by
  intro as h vs h' hh
  unfold lz_pN_rosterOf at hh
  split at hh
  · obtain ⟨a, b⟩ := mv_gd_some hh
    obtain rfl := Nat.eq_of_beq_eq_true a
    exact ⟨⟨_, _, _, rfl, Or.inl ⟨by decide, rfl⟩⟩, mN_rosterOf _ _ h vs h' b⟩
  · cases hh
def lz_pV_cloth : List mv_V → H2 → O2 := fun as h => match as with
  | [.inr (t0, o0), .inl (.int v1)] => mv_gd (Nat.beq t0 7) (fV_cloth o0 v1 h)
  | _ => none
theorem lz_pV_cloth_eq (v1 : Int32) (h : H2) : lz_pV_cloth [.inr (7, 0), .inl (.int v1)] h = fV_cloth 0 v1 h := by
  show mv_gd (Nat.beq 7 7) (fV_cloth 0 v1 h) = _
  exact xgd
theorem lz_pV_cloth_ok : ∀ as h vs h', lz_pV_cloth as h = some (vs, h') → mv_rcv mdV_cloth as ∧ mv_Met vw2 3 0 0 mdV_cloth as h vs h' := by
  intro as h vs h' hh
  unfold lz_pV_cloth at hh
  split at hh
  · obtain ⟨a, b⟩ := mv_gd_some hh
    obtain rfl := Nat.eq_of_beq_eq_true a
    exact ⟨⟨_, _, _, rfl, Or.inl ⟨by decide, rfl⟩⟩, mV_cloth _ _ h vs h' b⟩
  · cases hh
def lz_pN_cloth : List mv_V → H2 → O2 := fun as h => match as with
  | [.inr (t0, o0), .inl (.int v1)] => mv_gd (Nat.beq t0 8) (fN_cloth o0 v1 h)
  | _ => none
theorem lz_pN_cloth_eq (v1 : Int32) (h : H2) : lz_pN_cloth [.inr (8, 0), .inl (.int v1)] h = fN_cloth 0 v1 h := by
  show mv_gd (Nat.beq 8 8) (fN_cloth 0 v1 h) = _
  exact xgd
theorem lz_pN_cloth_ok : ∀ as h vs h', lz_pN_cloth as h = some (vs, h') → mv_rcv mdN_cloth as ∧ mv_Met vw2 3 0 0 mdN_cloth as h vs h' := by
  intro as h vs h' hh
  unfold lz_pN_cloth at hh
  split at hh
  · obtain ⟨a, b⟩ := mv_gd_some hh
    obtain rfl := Nat.eq_of_beq_eq_true a
    exact ⟨⟨_, _, _, rfl, Or.inl ⟨by decide, rfl⟩⟩, mN_cloth _ _ h vs h' b⟩
  · cases hh
def lz_pV_of : List mv_V → H2 → O2 := fun as h => match as with
  | [.inr (t0, o0), .inl (.int v1), .inl (.int v2)] => mv_gd (Nat.beq t0 7) (fV_of o0 v1 v2 h)
  | _ => none
theorem lz_pV_of_eq (v1 : Int32) (v2 : Int32) (h : H2) : lz_pV_of [.inr (7, 0), .inl (.int v1), .inl (.int v2)] h = fV_of 0 v1 v2 h := by
  show mv_gd (Nat.beq 7 7) (fV_of 0 v1 v2 h) = _
  exact xgd
theorem lz_pV_of_ok : ∀ as h vs h', lz_pV_of as h = some (vs, h') → mv_rcv mdV_of as ∧ mv_Met vw2 3 0 0 mdV_of as h vs h' := by
  intro as h vs h' hh
  unfold lz_pV_of at hh
  split at hh
  · obtain ⟨a, b⟩ := mv_gd_some hh
    obtain rfl := Nat.eq_of_beq_eq_true a
    exact ⟨⟨_, _, _, rfl, Or.inl ⟨by decide, rfl⟩⟩, mV_of _ _ _ h vs h' b⟩
  · cases hh
def lz_pN_of : List mv_V → H2 → O2 := fun as h => match as with
  | [.inr (t0, o0), .inl (.int v1), .inl (.int v2)] => mv_gd (Nat.beq t0 8) (fN_of o0 v1 v2 h)
  | _ => none
theorem lz_pN_of_eq (v1 : Int32) (v2 : Int32) (h : H2) : lz_pN_of [.inr (8, 0), .inl (.int v1), .inl (.int v2)] h = fN_of 0 v1 v2 h := by
  show mv_gd (Nat.beq 8 8) (fN_of 0 v1 v2 h) = _
  exact xgd
theorem lz_pN_of_ok : ∀ as h vs h', lz_pN_of as h = some (vs, h') → mv_rcv mdN_of as ∧ mv_Met vw2 3 0 0 mdN_of as h vs h' := by
  intro as h vs h' hh
  unfold lz_pN_of at hh
  split at hh
  · obtain ⟨a, b⟩ := mv_gd_some hh
    obtain rfl := Nat.eq_of_beq_eq_true a
    exact ⟨⟨_, _, _, rfl, Or.inl ⟨by decide, rfl⟩⟩, mN_of _ _ _ h vs h' b⟩
  · cases hh
def lz_pV_does : List mv_V → H2 → O2 := fun as h => match as with
  | [.inr (t0, o0), .inl (.int v1), .inl (.int v2), .inl (.int v3)] => mv_gd (Nat.beq t0 7) (fV_does o0 v1 v2 v3 h)
  | _ => none
theorem lz_pV_does_eq (v1 : Int32) (v2 : Int32) (v3 : Int32) (h : H2) : lz_pV_does [.inr (7, 0), .inl (.int v1), .inl (.int v2), .inl (.int v3)] h = fV_does 0 v1 v2 v3 h := by
  show mv_gd (Nat.beq 7 7) (fV_does 0 v1 v2 v3 h) = _
  exact xgd
theorem lz_pV_does_ok : ∀ as h vs h', lz_pV_does as h = some (vs, h') → mv_rcv mdV_does as ∧ mv_Met vw2 3 0 0 mdV_does as h vs h' := by
  intro as h vs h' hh
  unfold lz_pV_does at hh
  split at hh
  · obtain ⟨a, b⟩ := mv_gd_some hh
    obtain rfl := Nat.eq_of_beq_eq_true a
    exact ⟨⟨_, _, _, rfl, Or.inl ⟨by decide, rfl⟩⟩, mV_does _ _ _ _ h vs h' b⟩
  · cases hh
def lz_pN_does : List mv_V → H2 → O2 := fun as h => match as with
  | [.inr (t0, o0), .inl (.int v1), .inl (.int v2), .inl (.int v3)] => mv_gd (Nat.beq t0 8) (fN_does o0 v1 v2 v3 h)
  | _ => none
theorem lz_pN_does_eq (v1 : Int32) (v2 : Int32) (v3 : Int32) (h : H2) : lz_pN_does [.inr (8, 0), .inl (.int v1), .inl (.int v2), .inl (.int v3)] h = fN_does 0 v1 v2 v3 h := by
  show mv_gd (Nat.beq 8 8) (fN_does 0 v1 v2 v3 h) = _
  exact xgd
theorem lz_pN_does_ok : ∀ as h vs h', lz_pN_does as h = some (vs, h') → mv_rcv mdN_does as ∧ mv_Met vw2 3 0 0 mdN_does as h vs h' := by
  intro as h vs h' hh
  unfold lz_pN_does at hh
  split at hh
  · obtain ⟨a, b⟩ := mv_gd_some hh
    obtain rfl := Nat.eq_of_beq_eq_true a
    exact ⟨⟨_, _, _, rfl, Or.inl ⟨by decide, rfl⟩⟩, mN_does _ _ _ _ h vs h' b⟩
  · cases hh
def lz_pV_mind : List mv_V → H2 → O2 := fun as h => match as with
  | [.inr (t0, o0), .inl (.int v1), .inl (.int v2)] => mv_gd (Nat.beq t0 7) (fV_mind o0 v1 v2 h)
  | _ => none
theorem lz_pV_mind_eq (v1 : Int32) (v2 : Int32) (h : H2) : lz_pV_mind [.inr (7, 0), .inl (.int v1), .inl (.int v2)] h = fV_mind 0 v1 v2 h := by
  show mv_gd (Nat.beq 7 7) (fV_mind 0 v1 v2 h) = _
  exact xgd
theorem lz_pV_mind_ok : ∀ as h vs h', lz_pV_mind as h = some (vs, h') → mv_rcv mdV_mind as ∧ mv_Met vw2 3 0 0 mdV_mind as h vs h' := by
  intro as h vs h' hh
  unfold lz_pV_mind at hh
  split at hh
  · obtain ⟨a, b⟩ := mv_gd_some hh
    obtain rfl := Nat.eq_of_beq_eq_true a
    exact ⟨⟨_, _, _, rfl, Or.inl ⟨by decide, rfl⟩⟩, mV_mind _ _ _ h vs h' b⟩
  · cases hh
def lz_pN_mind : List mv_V → H2 → O2 := fun as h => match as with
  | [.inr (t0, o0), .inl (.int v1), .inl (.int v2)] => mv_gd (Nat.beq t0 8) (fN_mind o0 v1 v2 h)
  | _ => none
theorem lz_pN_mind_eq (v1 : Int32) (v2 : Int32) (h : H2) : lz_pN_mind [.inr (8, 0), .inl (.int v1), .inl (.int v2)] h = fN_mind 0 v1 v2 h := by
  show mv_gd (Nat.beq 8 8) (fN_mind 0 v1 v2 h) = _
  exact xgd
theorem lz_pN_mind_ok : ∀ as h vs h', lz_pN_mind as h = some (vs, h') → mv_rcv mdN_mind as ∧ mv_Met vw2 3 0 0 mdN_mind as h vs h' := by
  intro as h vs h' hh
  unfold lz_pN_mind at hh
  split at hh
  · obtain ⟨a, b⟩ := mv_gd_some hh
    obtain rfl := Nat.eq_of_beq_eq_true a
    exact ⟨⟨_, _, _, rfl, Or.inl ⟨by decide, rfl⟩⟩, mN_mind _ _ _ h vs h' b⟩
  · cases hh
def lz_pV_steep : List mv_V → H2 → O2 := fun as h => match as with
  | [.inr (t0, o0), .inl (.int v1), .inl (.int v2), .inl (.int v3)] => mv_gd (Nat.beq t0 7) (fV_steep o0 v1 v2 v3 h)
  | _ => none
theorem lz_pV_steep_eq (v1 : Int32) (v2 : Int32) (v3 : Int32) (h : H2) : lz_pV_steep [.inr (7, 0), .inl (.int v1), .inl (.int v2), .inl (.int v3)] h = fV_steep 0 v1 v2 v3 h := by
  show mv_gd (Nat.beq 7 7) (fV_steep 0 v1 v2 v3 h) = _
  exact xgd
theorem lz_pV_steep_ok : ∀ as h vs h', lz_pV_steep as h = some (vs, h') → mv_rcv mdV_steep as ∧ mv_Met vw2 3 0 0 mdV_steep as h vs h' := by
  intro as h vs h' hh
  unfold lz_pV_steep at hh
  split at hh
  · obtain ⟨a, b⟩ := mv_gd_some hh
    obtain rfl := Nat.eq_of_beq_eq_true a
    exact ⟨⟨_, _, _, rfl, Or.inl ⟨by decide, rfl⟩⟩, mV_steep _ _ _ _ h vs h' b⟩
  · cases hh
def lz_pN_steep : List mv_V → H2 → O2 := fun as h => match as with
  | [.inr (t0, o0), .inl (.int v1), .inl (.int v2), .inl (.int v3)] => mv_gd (Nat.beq t0 8) (fN_steep o0 v1 v2 v3 h)
  | _ => none
theorem lz_pN_steep_eq (v1 : Int32) (v2 : Int32) (v3 : Int32) (h : H2) : lz_pN_steep [.inr (8, 0), .inl (.int v1), .inl (.int v2), .inl (.int v3)] h = fN_steep 0 v1 v2 v3 h := by
  show mv_gd (Nat.beq 8 8) (fN_steep 0 v1 v2 v3 h) = _
  exact xgd
theorem lz_pN_steep_ok : ∀ as h vs h', lz_pN_steep as h = some (vs, h') → mv_rcv mdN_steep as ∧ mv_Met vw2 3 0 0 mdN_steep as h vs h' := by
  intro as h vs h' hh
  unfold lz_pN_steep at hh
  split at hh
  · obtain ⟨a, b⟩ := mv_gd_some hh
    obtain rfl := Nat.eq_of_beq_eq_true a
    exact ⟨⟨_, _, _, rfl, Or.inl ⟨by decide, rfl⟩⟩, mN_steep _ _ _ _ h vs h' b⟩
  · cases hh
def lz_pV_hang : List mv_V → H2 → O2 := fun as h => match as with
  | [.inr (t0, o0), .inl (.int v1), .inl (.int v2)] => mv_gd (Nat.beq t0 7) (fV_hang o0 v1 v2 h)
  | _ => none
theorem lz_pV_hang_eq (v1 : Int32) (v2 : Int32) (h : H2) : lz_pV_hang [.inr (7, 0), .inl (.int v1), .inl (.int v2)] h = fV_hang 0 v1 v2 h := by
  show mv_gd (Nat.beq 7 7) (fV_hang 0 v1 v2 h) = _
  exact xgd
theorem lz_pV_hang_ok : ∀ as h vs h', lz_pV_hang as h = some (vs, h') → mv_rcv mdV_hang as ∧ mv_Met vw2 3 0 0 mdV_hang as h vs h' := by
  intro as h vs h' hh
  unfold lz_pV_hang at hh
  split at hh
  · obtain ⟨a, b⟩ := mv_gd_some hh
    obtain rfl := Nat.eq_of_beq_eq_true a
    exact ⟨⟨_, _, _, rfl, Or.inl ⟨by decide, rfl⟩⟩, mV_hang _ _ _ h vs h' b⟩
  · cases hh
def lz_pN_hang : List mv_V → H2 → O2 := fun as h => match as with
  | [.inr (t0, o0), .inl (.int v1), .inl (.int v2)] => mv_gd (Nat.beq t0 8) (fN_hang o0 v1 v2 h)
  | _ => none
theorem lz_pN_hang_eq (v1 : Int32) (v2 : Int32) (h : H2) : lz_pN_hang [.inr (8, 0), .inl (.int v1), .inl (.int v2)] h = fN_hang 0 v1 v2 h := by
  show mv_gd (Nat.beq 8 8) (fN_hang 0 v1 v2 h) = _
  exact xgd
theorem lz_pN_hang_ok : ∀ as h vs h', lz_pN_hang as h = some (vs, h') → mv_rcv mdN_hang as ∧ mv_Met vw2 3 0 0 mdN_hang as h vs h' := by
  intro as h vs h' hh
  unfold lz_pN_hang at hh
  split at hh
  · obtain ⟨a, b⟩ := mv_gd_some hh
    obtain rfl := Nat.eq_of_beq_eq_true a
    exact ⟨⟨_, _, _, rfl, Or.inl ⟨by decide, rfl⟩⟩, mN_hang _ _ _ h vs h' b⟩
  · cases hh
def lz_pV_dip : List mv_V → H2 → O2 := fun as h => match as with
  | [.inr (t0, o0), .inl (.int v1), .inl (.int v2)] => mv_gd (Nat.beq t0 7) (fV_dip o0 v1 v2 h)
  | _ => none
theorem lz_pV_dip_eq (v1 : Int32) (v2 : Int32) (h : H2) : lz_pV_dip [.inr (7, 0), .inl (.int v1), .inl (.int v2)] h = fV_dip 0 v1 v2 h := by
  show mv_gd (Nat.beq 7 7) (fV_dip 0 v1 v2 h) = _
  exact xgd
theorem lz_pV_dip_ok : ∀ as h vs h', lz_pV_dip as h = some (vs, h') → mv_rcv mdV_dip as ∧ mv_Met vw2 3 0 0 mdV_dip as h vs h' := by
  intro as h vs h' hh
  unfold lz_pV_dip at hh
  split at hh
  · obtain ⟨a, b⟩ := mv_gd_some hh
    obtain rfl := Nat.eq_of_beq_eq_true a
    exact ⟨⟨_, _, _, rfl, Or.inl ⟨by decide, rfl⟩⟩, mV_dip _ _ _ h vs h' b⟩
  · cases hh
def lz_pN_dip : List mv_V → H2 → O2 := fun as h => match as with
  | [.inr (t0, o0), .inl (.int v1), .inl (.int v2)] => mv_gd (Nat.beq t0 8) (fN_dip o0 v1 v2 h)
  | _ => none
theorem lz_pN_dip_eq (v1 : Int32) (v2 : Int32) (h : H2) : lz_pN_dip [.inr (8, 0), .inl (.int v1), .inl (.int v2)] h = fN_dip 0 v1 v2 h := by
  show mv_gd (Nat.beq 8 8) (fN_dip 0 v1 v2 h) = _
  exact xgd
theorem lz_pN_dip_ok : ∀ as h vs h', lz_pN_dip as h = some (vs, h') → mv_rcv mdN_dip as ∧ mv_Met vw2 4 0 0 mdN_dip as h vs h' := by
  intro as h vs h' hh
  unfold lz_pN_dip at hh
  split at hh
  · obtain ⟨a, b⟩ := mv_gd_some hh
    obtain rfl := Nat.eq_of_beq_eq_true a
    exact ⟨⟨_, _, _, rfl, Or.inl ⟨by decide, rfl⟩⟩, mN_dip _ _ _ h vs h' b⟩
  · cases hh
def lz_pV_days : List mv_V → H2 → O2 := fun as h => match as with
  | [.inr (t0, o0), .inl (.int v1)] => mv_gd (Nat.beq t0 7) (fV_days o0 v1 h)
  | _ => none
theorem lz_pV_days_eq (v1 : Int32) (h : H2) : lz_pV_days [.inr (7, 0), .inl (.int v1)] h = fV_days 0 v1 h := by
  show mv_gd (Nat.beq 7 7) (fV_days 0 v1 h) = _
  exact xgd
theorem lz_pV_days_ok : ∀ as h vs h', lz_pV_days as h = some (vs, h') → mv_rcv mdV_days as ∧ mv_Met vw2 5 0 0 mdV_days as h vs h' := by
  intro as h vs h' hh
  unfold lz_pV_days at hh
  split at hh
  · obtain ⟨a, b⟩ := mv_gd_some hh
    obtain rfl := Nat.eq_of_beq_eq_true a
    exact ⟨⟨_, _, _, rfl, Or.inl ⟨by decide, rfl⟩⟩, mV_days _ _ h vs h' b⟩
  · cases hh
def lz_pN_days : List mv_V → H2 → O2 := fun as h => match as with
  | [.inr (t0, o0), .inl (.int v1)] => mv_gd (Nat.beq t0 8) (fN_days o0 v1 h)
  | _ => none
theorem lz_pN_days_eq (v1 : Int32) (h : H2) : lz_pN_days [.inr (8, 0), .inl (.int v1)] h = fN_days 0 v1 h := by
  show mv_gd (Nat.beq 8 8) (fN_days 0 v1 h) = _
  exact xgd
theorem lz_pN_days_ok : ∀ as h vs h', lz_pN_days as h = some (vs, h') → mv_rcv mdN_days as ∧ mv_Met vw2 6 0 0 mdN_days as h vs h' := by
  intro as h vs h' hh
  unfold lz_pN_days at hh
  split at hh
  · obtain ⟨a, b⟩ := mv_gd_some hh
    obtain rfl := Nat.eq_of_beq_eq_true a
    exact ⟨⟨_, _, _, rfl, Or.inl ⟨by decide, rfl⟩⟩, mN_days _ _ h vs h' b⟩
  · cases hh
def lz_pV_seed : List mv_V → H2 → O2 := fun as h => match as with
  | [.inr (t0, o0), .inl (.int v1)] => mv_gd (Nat.beq t0 7) (fV_seed o0 v1 h)
  | _ => none
theorem lz_pV_seed_eq (v1 : Int32) (h : H2) : lz_pV_seed [.inr (7, 0), .inl (.int v1)] h = fV_seed 0 v1 h := by
  show mv_gd (Nat.beq 7 7) (fV_seed 0 v1 h) = _
  exact xgd
theorem lz_pV_seed_ok : ∀ as h vs h', lz_pV_seed as h = some (vs, h') → mv_rcv mdV_seed as ∧ mv_Met vw2 1 0 0 mdV_seed as h vs h' := by
  intro as h vs h' hh
  unfold lz_pV_seed at hh
  split at hh
  · obtain ⟨a, b⟩ := mv_gd_some hh
    obtain rfl := Nat.eq_of_beq_eq_true a
    exact ⟨⟨_, _, _, rfl, Or.inl ⟨by decide, rfl⟩⟩, mV_seed _ _ h vs h' b⟩
  · cases hh
def lz_pN_seed : List mv_V → H2 → O2 := fun as h => match as with
  | [.inr (t0, o0), .inl (.int v1)] => mv_gd (Nat.beq t0 8) (fN_seed o0 v1 h)
  | _ => none
theorem lz_pN_seed_eq (v1 : Int32) (h : H2) : lz_pN_seed [.inr (8, 0), .inl (.int v1)] h = fN_seed 0 v1 h := by
  show mv_gd (Nat.beq 8 8) (fN_seed 0 v1 h) = _
  exact xgd
theorem lz_pN_seed_ok : ∀ as h vs h', lz_pN_seed as h = some (vs, h') → mv_rcv mdN_seed as ∧ mv_Met vw2 2 0 0 mdN_seed as h vs h' := by
  intro as h vs h' hh
  unfold lz_pN_seed at hh
  split at hh
  · obtain ⟨a, b⟩ := mv_gd_some hh
    obtain rfl := Nat.eq_of_beq_eq_true a
    exact ⟨⟨_, _, _, rfl, Or.inl ⟨by decide, rfl⟩⟩, mN_seed _ _ h vs h' b⟩
  · cases hh
def lz_pV_day : List mv_V → H2 → O2 := fun as h => match as with
  | [.inr (t0, o0)] => mv_gd (Nat.beq t0 7) (fV_day o0 h)
  | _ => none
theorem lz_pV_day_eq (h : H2) : lz_pV_day [.inr (7, 0)] h = fV_day 0  h := by
  show mv_gd (Nat.beq 7 7) (fV_day 0  h) = _
  exact xgd
theorem lz_pV_day_ok : ∀ as h vs h', lz_pV_day as h = some (vs, h') → mv_rcv mdV_day as ∧ mv_Met vw2 5 0 0 mdV_day as h vs h' := by
  intro as h vs h' hh
  unfold lz_pV_day at hh
  split at hh
  · obtain ⟨a, b⟩ := mv_gd_some hh
    obtain rfl := Nat.eq_of_beq_eq_true a
    exact ⟨⟨_, _, _, rfl, Or.inl ⟨by decide, rfl⟩⟩, mV_day _ h vs h' b⟩
  · cases hh
def lz_pN_day : List mv_V → H2 → O2 := fun as h => match as with
  | [.inr (t0, o0)] => mv_gd (Nat.beq t0 8) (fN_day o0 h)
  | _ => none
theorem lz_pN_day_eq (h : H2) : lz_pN_day [.inr (8, 0)] h = fN_day 0  h := by
  show mv_gd (Nat.beq 8 8) (fN_day 0  h) = _
  exact xgd
theorem lz_pN_day_ok : ∀ as h vs h', lz_pN_day as h = some (vs, h') → mv_rcv mdN_day as ∧ mv_Met vw2 6 0 0 mdN_day as h vs h' := by
  intro as h vs h' hh
  unfold lz_pN_day at hh
  split at hh
  · obtain ⟨a, b⟩ := mv_gd_some hh
    obtain rfl := Nat.eq_of_beq_eq_true a
    exact ⟨⟨_, _, _, rfl, Or.inl ⟨by decide, rfl⟩⟩, mN_day _ h vs h' b⟩
  · cases hh
def lz_pV_luck : List mv_V → H2 → O2 := fun as h => match as with
  | [.inr (t0, o0), .inl (.int v1)] => mv_gd (Nat.beq t0 7) (fV_luck o0 v1 h)
  | _ => none
theorem lz_pV_luck_eq (v1 : Int32) (h : H2) : lz_pV_luck [.inr (7, 0), .inl (.int v1)] h = fV_luck 0 v1 h := by
  show mv_gd (Nat.beq 7 7) (fV_luck 0 v1 h) = _
  exact xgd
theorem lz_pV_luck_ok : ∀ as h vs h', lz_pV_luck as h = some (vs, h') → mv_rcv mdV_luck as ∧ mv_Met vw2 7 0 0 mdV_luck as h vs h' := by
  intro as h vs h' hh
  unfold lz_pV_luck at hh
  split at hh
  · obtain ⟨a, b⟩ := mv_gd_some hh
    obtain rfl := Nat.eq_of_beq_eq_true a
    exact ⟨⟨_, _, _, rfl, Or.inl ⟨by decide, rfl⟩⟩, mV_luck _ _ h vs h' b⟩
  · cases hh
def lz_pN_luck : List mv_V → H2 → O2 := fun as h => match as with
  | [.inr (t0, o0), .inl (.int v1)] => mv_gd (Nat.beq t0 8) (fN_luck o0 v1 h)
  | _ => none
theorem lz_pN_luck_eq (v1 : Int32) (h : H2) : lz_pN_luck [.inr (8, 0), .inl (.int v1)] h = fN_luck 0 v1 h := by
  show mv_gd (Nat.beq 8 8) (fN_luck 0 v1 h) = _
  exact xgd
theorem lz_pN_luck_ok : ∀ as h vs h', lz_pN_luck as h = some (vs, h') → mv_rcv mdN_luck as ∧ mv_Met vw2 6 0 0 mdN_luck as h vs h' := by
  intro as h vs h' hh
  unfold lz_pN_luck at hh
  split at hh
  · obtain ⟨a, b⟩ := mv_gd_some hh
    obtain rfl := Nat.eq_of_beq_eq_true a
    exact ⟨⟨_, _, _, rfl, Or.inl ⟨by decide, rfl⟩⟩, mN_luck _ _ h vs h' b⟩
  · cases hh
def lz_pV_state : List mv_V → H2 → O2 := fun as h => match as with
  | [.inr (t0, o0), .inl (.int v1)] => mv_gd (Nat.beq t0 7) (fV_state o0 v1 h)
  | _ => none
theorem lz_pV_state_eq (v1 : Int32) (h : H2) : lz_pV_state [.inr (7, 0), .inl (.int v1)] h = fV_state 0 v1 h := by
  show mv_gd (Nat.beq 7 7) (fV_state 0 v1 h) = _
  exact xgd
theorem lz_pV_state_ok : ∀ as h vs h', lz_pV_state as h = some (vs, h') → mv_rcv mdV_state as ∧ mv_Met vw2 3 0 0 mdV_state as h vs h' := by
  intro as h vs h' hh
  unfold lz_pV_state at hh
  split at hh
  · obtain ⟨a, b⟩ := mv_gd_some hh
    obtain rfl := Nat.eq_of_beq_eq_true a
    exact ⟨⟨_, _, _, rfl, Or.inl ⟨by decide, rfl⟩⟩, mV_state _ _ h vs h' b⟩
  · cases hh
def lz_pN_state : List mv_V → H2 → O2 := fun as h => match as with
  | [.inr (t0, o0), .inl (.int v1)] => mv_gd (Nat.beq t0 8) (fN_state o0 v1 h)
  | _ => none
theorem lz_pN_state_eq (v1 : Int32) (h : H2) : lz_pN_state [.inr (8, 0), .inl (.int v1)] h = fN_state 0 v1 h := by
  show mv_gd (Nat.beq 8 8) (fN_state 0 v1 h) = _
  exact xgd
theorem lz_pN_state_ok : ∀ as h vs h', lz_pN_state as h = some (vs, h') → mv_rcv mdN_state as ∧ mv_Met vw2 4 0 0 mdN_state as h vs h' := by
  intro as h vs h' hh
  unfold lz_pN_state at hh
  split at hh
  · obtain ⟨a, b⟩ := mv_gd_some hh
    obtain rfl := Nat.eq_of_beq_eq_true a
    exact ⟨⟨_, _, _, rfl, Or.inl ⟨by decide, rfl⟩⟩, mN_state _ _ h vs h' b⟩
  · cases hh
def lz_pV_gone : List mv_V → H2 → O2 := fun as h => match as with
  | [.inr (t0, o0), .inl (.int v1), .inl (.int v2)] => mv_gd (Nat.beq t0 7) (fV_gone o0 v1 v2 h)
  | _ => none
theorem lz_pV_gone_eq (v1 : Int32) (v2 : Int32) (h : H2) : lz_pV_gone [.inr (7, 0), .inl (.int v1), .inl (.int v2)] h = fV_gone 0 v1 v2 h := by
  show mv_gd (Nat.beq 7 7) (fV_gone 0 v1 v2 h) = _
  exact xgd
theorem lz_pV_gone_ok : ∀ as h vs h', lz_pV_gone as h = some (vs, h') → mv_rcv mdV_gone as ∧ mv_Met vw2 6 0 0 mdV_gone as h vs h' := by
  intro as h vs h' hh
  unfold lz_pV_gone at hh
  split at hh
  · obtain ⟨a, b⟩ := mv_gd_some hh
    obtain rfl := Nat.eq_of_beq_eq_true a
    exact ⟨⟨_, _, _, rfl, Or.inl ⟨by decide, rfl⟩⟩, mV_gone _ _ _ h vs h' b⟩
  · cases hh
def lz_pN_gone : List mv_V → H2 → O2 := fun as h => match as with
  | [.inr (t0, o0), .inl (.int v1), .inl (.int v2)] => mv_gd (Nat.beq t0 8) (fN_gone o0 v1 v2 h)
  | _ => none
theorem lz_pN_gone_eq (v1 : Int32) (v2 : Int32) (h : H2) : lz_pN_gone [.inr (8, 0), .inl (.int v1), .inl (.int v2)] h = fN_gone 0 v1 v2 h := by
  show mv_gd (Nat.beq 8 8) (fN_gone 0 v1 v2 h) = _
  exact xgd
theorem lz_pN_gone_ok : ∀ as h vs h', lz_pN_gone as h = some (vs, h') → mv_rcv mdN_gone as ∧ mv_Met vw2 7 0 0 mdN_gone as h vs h' := by
  intro as h vs h' hh
  unfold lz_pN_gone at hh
  split at hh
  · obtain ⟨a, b⟩ := mv_gd_some hh
    obtain rfl := Nat.eq_of_beq_eq_true a
    exact ⟨⟨_, _, _, rfl, Or.inl ⟨by decide, rfl⟩⟩, mN_gone _ _ _ h vs h' b⟩
  · cases hh
def lz_pV_depth : List mv_V → H2 → O2 := fun as h => match as with
  | [.inr (t0, o0), .inl (.int v1), .inl (.int v2)] => mv_gd (Nat.beq t0 7) (fV_depth o0 v1 v2 h)
  | _ => none
theorem lz_pV_depth_eq (v1 : Int32) (v2 : Int32) (h : H2) : lz_pV_depth [.inr (7, 0), .inl (.int v1), .inl (.int v2)] h = fV_depth 0 v1 v2 h := by
  show mv_gd (Nat.beq 7 7) (fV_depth 0 v1 v2 h) = _
  exact xgd
theorem lz_pV_depth_ok : ∀ as h vs h', lz_pV_depth as h = some (vs, h') → mv_rcv mdV_depth as ∧ mv_Met vw2 6 0 0 mdV_depth as h vs h' := by
  intro as h vs h' hh
  unfold lz_pV_depth at hh
  split at hh
  · obtain ⟨a, b⟩ := mv_gd_some hh
    obtain rfl := Nat.eq_of_beq_eq_true a
    exact ⟨⟨_, _, _, rfl, Or.inl ⟨by decide, rfl⟩⟩, mV_depth _ _ _ h vs h' b⟩
  · cases hh
def lz_pN_depth : List mv_V → H2 → O2 := fun as h => match as with
  | [.inr (t0, o0), .inl (.int v1), .inl (.int v2)] => mv_gd (Nat.beq t0 8) (fN_depth o0 v1 v2 h)
  | _ => none
theorem lz_pN_depth_eq (v1 : Int32) (v2 : Int32) (h : H2) : lz_pN_depth [.inr (8, 0), .inl (.int v1), .inl (.int v2)] h = fN_depth 0 v1 v2 h := by
  show mv_gd (Nat.beq 8 8) (fN_depth 0 v1 v2 h) = _
  exact xgd
theorem lz_pN_depth_ok : ∀ as h vs h', lz_pN_depth as h = some (vs, h') → mv_rcv mdN_depth as ∧ mv_Met vw2 7 0 0 mdN_depth as h vs h' := by
  intro as h vs h' hh
  unfold lz_pN_depth at hh
  split at hh
  · obtain ⟨a, b⟩ := mv_gd_some hh
    obtain rfl := Nat.eq_of_beq_eq_true a
    exact ⟨⟨_, _, _, rfl, Or.inl ⟨by decide, rfl⟩⟩, mN_depth _ _ _ h vs h' b⟩
  · cases hh
def lz_pV_comes : List mv_V → H2 → O2 := fun as h => match as with
  | [.inr (t0, o0), .inl (.int v1), .inl (.int v2)] => mv_gd (Nat.beq t0 7) (fV_comes o0 v1 v2 h)
  | _ => none
theorem lz_pV_comes_eq (v1 : Int32) (v2 : Int32) (h : H2) : lz_pV_comes [.inr (7, 0), .inl (.int v1), .inl (.int v2)] h = fV_comes 0 v1 v2 h := by
  show mv_gd (Nat.beq 7 7) (fV_comes 0 v1 v2 h) = _
  exact xgd
theorem lz_pV_comes_ok : ∀ as h vs h', lz_pV_comes as h = some (vs, h') → mv_rcv mdV_comes as ∧ mv_Met vw2 5 0 0 mdV_comes as h vs h' := by
  intro as h vs h' hh
  unfold lz_pV_comes at hh
  split at hh
  · obtain ⟨a, b⟩ := mv_gd_some hh
    obtain rfl := Nat.eq_of_beq_eq_true a
    exact ⟨⟨_, _, _, rfl, Or.inl ⟨by decide, rfl⟩⟩, mV_comes _ _ _ h vs h' b⟩
  · cases hh
def lz_pN_comes : List mv_V → H2 → O2 := fun as h => match as with
  | [.inr (t0, o0), .inl (.int v1), .inl (.int v2)] => mv_gd (Nat.beq t0 8) (fN_comes o0 v1 v2 h)
  | _ => none
theorem lz_pN_comes_eq (v1 : Int32) (v2 : Int32) (h : H2) : lz_pN_comes [.inr (8, 0), .inl (.int v1), .inl (.int v2)] h = fN_comes 0 v1 v2 h := by
  show mv_gd (Nat.beq 8 8) (fN_comes 0 v1 v2 h) = _
  exact xgd
theorem lz_pN_comes_ok : ∀ as h vs h', lz_pN_comes as h = some (vs, h') → mv_rcv mdN_comes as ∧ mv_Met vw2 6 0 0 mdN_comes as h vs h' := by
  intro as h vs h' hh
  unfold lz_pN_comes at hh
  split at hh
  · obtain ⟨a, b⟩ := mv_gd_some hh
    obtain rfl := Nat.eq_of_beq_eq_true a
    exact ⟨⟨_, _, _, rfl, Or.inl ⟨by decide, rfl⟩⟩, mN_comes _ _ _ h vs h' b⟩
  · cases hh
def lz_pV_bare : List mv_V → H2 → O2 := fun as h => match as with
  | [.inr (t0, o0), .inl (.int v1)] => mv_gd (Nat.beq t0 7) (fV_bare o0 v1 h)
  | _ => none
theorem lz_pV_bare_eq (v1 : Int32) (h : H2) : lz_pV_bare [.inr (7, 0), .inl (.int v1)] h = fV_bare 0 v1 h := by
  show mv_gd (Nat.beq 7 7) (fV_bare 0 v1 h) = _
  exact xgd
theorem lz_pV_bare_ok : ∀ as h vs h', lz_pV_bare as h = some (vs, h') → mv_rcv mdV_bare as ∧ mv_Met vw2 5 0 0 mdV_bare as h vs h' := by
  intro as h vs h' hh
  unfold lz_pV_bare at hh
  split at hh
  · obtain ⟨a, b⟩ := mv_gd_some hh
    obtain rfl := Nat.eq_of_beq_eq_true a
    exact ⟨⟨_, _, _, rfl, Or.inl ⟨by decide, rfl⟩⟩, mV_bare _ _ h vs h' b⟩
  · cases hh
def lz_pN_bare : List mv_V → H2 → O2 := fun as h => match as with
  | [.inr (t0, o0), .inl (.int v1)] => mv_gd (Nat.beq t0 8) (fN_bare o0 v1 h)
  | _ => none
theorem lz_pN_bare_eq (v1 : Int32) (h : H2) : lz_pN_bare [.inr (8, 0), .inl (.int v1)] h = fN_bare 0 v1 h := by
  show mv_gd (Nat.beq 8 8) (fN_bare 0 v1 h) = _
  exact xgd
theorem lz_pN_bare_ok : ∀ as h vs h', lz_pN_bare as h = some (vs, h') → mv_rcv mdN_bare as ∧ mv_Met vw2 6 0 0 mdN_bare as h vs h' := by
  intro as h vs h' hh
  unfold lz_pN_bare at hh
  split at hh
  · obtain ⟨a, b⟩ := mv_gd_some hh
    obtain rfl := Nat.eq_of_beq_eq_true a
    exact ⟨⟨_, _, _, rfl, Or.inl ⟨by decide, rfl⟩⟩, mN_bare _ _ h vs h' b⟩
  · cases hh
def lz_pV_spoilt : List mv_V → H2 → O2 := fun as h => match as with
  | [.inr (t0, o0), .inl (.int v1)] => mv_gd (Nat.beq t0 7) (fV_spoilt o0 v1 h)
  | _ => none
theorem lz_pV_spoilt_eq (v1 : Int32) (h : H2) : lz_pV_spoilt [.inr (7, 0), .inl (.int v1)] h = fV_spoilt 0 v1 h := by
  show mv_gd (Nat.beq 7 7) (fV_spoilt 0 v1 h) = _
  exact xgd
theorem lz_pV_spoilt_ok : ∀ as h vs h', lz_pV_spoilt as h = some (vs, h') → mv_rcv mdV_spoilt as ∧ mv_Met vw2 7 0 0 mdV_spoilt as h vs h' := by
  intro as h vs h' hh
  unfold lz_pV_spoilt at hh
  split at hh
  · obtain ⟨a, b⟩ := mv_gd_some hh
    obtain rfl := Nat.eq_of_beq_eq_true a
    exact ⟨⟨_, _, _, rfl, Or.inl ⟨by decide, rfl⟩⟩, mV_spoilt _ _ h vs h' b⟩
  · cases hh
def lz_pN_spoilt : List mv_V → H2 → O2 := fun as h => match as with
  | [.inr (t0, o0), .inl (.int v1)] => mv_gd (Nat.beq t0 8) (fN_spoilt o0 v1 h)
  | _ => none
theorem lz_pN_spoilt_eq (v1 : Int32) (h : H2) : lz_pN_spoilt [.inr (8, 0), .inl (.int v1)] h = fN_spoilt 0 v1 h := by
  show mv_gd (Nat.beq 8 8) (fN_spoilt 0 v1 h) = _
  exact xgd
theorem lz_pN_spoilt_ok : ∀ as h vs h', lz_pN_spoilt as h = some (vs, h') → mv_rcv mdN_spoilt as ∧ mv_Met vw2 7 0 0 mdN_spoilt as h vs h' := by
  intro as h vs h' hh
  unfold lz_pN_spoilt at hh
  split at hh
  · obtain ⟨a, b⟩ := mv_gd_some hh
    obtain rfl := Nat.eq_of_beq_eq_true a
    exact ⟨⟨_, _, _, rfl, Or.inl ⟨by decide, rfl⟩⟩, mN_spoilt _ _ h vs h' b⟩
  · cases hh
def lz_pV_through : List mv_V → H2 → O2 := fun as h => match as with
  | [.inr (t0, o0), .inl (.int v1), .inl (.int v2)] => mv_gd (Nat.beq t0 7) (fV_through o0 v1 v2 h)
  | _ => none
theorem lz_pV_through_eq (v1 : Int32) (v2 : Int32) (h : H2) : lz_pV_through [.inr (7, 0), .inl (.int v1), .inl (.int v2)] h = fV_through 0 v1 v2 h := by
  show mv_gd (Nat.beq 7 7) (fV_through 0 v1 v2 h) = _
  exact xgd
theorem lz_pV_through_ok : ∀ as h vs h', lz_pV_through as h = some (vs, h') → mv_rcv mdV_through as ∧ mv_Met vw2 5 0 0 mdV_through as h vs h' := by
  intro as h vs h' hh
  unfold lz_pV_through at hh
  split at hh
  · obtain ⟨a, b⟩ := mv_gd_some hh
    obtain rfl := Nat.eq_of_beq_eq_true a
    exact ⟨⟨_, _, _, rfl, Or.inl ⟨by decide, rfl⟩⟩, mV_through _ _ _ h vs h' b⟩
  · cases hh
def lz_pN_through : List mv_V → H2 → O2 := fun as h => match as with
  | [.inr (t0, o0), .inl (.int v1), .inl (.int v2)] => mv_gd (Nat.beq t0 8) (fN_through o0 v1 v2 h)
  | _ => none
theorem lz_pN_through_eq (v1 : Int32) (v2 : Int32) (h : H2) : lz_pN_through [.inr (8, 0), .inl (.int v1), .inl (.int v2)] h = fN_through 0 v1 v2 h := by
  show mv_gd (Nat.beq 8 8) (fN_through 0 v1 v2 h) = _
  exact xgd
theorem lz_pN_through_ok : ∀ as h vs h', lz_pN_through as h = some (vs, h') → mv_rcv mdN_through as ∧ mv_Met vw2 5 0 0 mdN_through as h vs h' := by
  intro as h vs h' hh
  unfold lz_pN_through at hh
  split at hh
  · obtain ⟨a, b⟩ := mv_gd_some hh
    obtain rfl := Nat.eq_of_beq_eq_true a
    exact ⟨⟨_, _, _, rfl, Or.inl ⟨by decide, rfl⟩⟩, mN_through _ _ _ h vs h' b⟩
  · cases hh
def lz_pV_vatFor : List mv_V → H2 → O2 := fun as h => match as with
  | [.inr (t0, o0), .inl (.int v1), .inl (.int v2)] => mv_gd (Nat.beq t0 7) (fV_vatFor o0 v1 v2 h)
  | _ => none
theorem lz_pV_vatFor_eq (v1 : Int32) (v2 : Int32) (h : H2) : lz_pV_vatFor [.inr (7, 0), .inl (.int v1), .inl (.int v2)] h = fV_vatFor 0 v1 v2 h := by
  show mv_gd (Nat.beq 7 7) (fV_vatFor 0 v1 v2 h) = _
  exact xgd
theorem lz_pV_vatFor_ok : ∀ as h vs h', lz_pV_vatFor as h = some (vs, h') → mv_rcv mdV_vatFor as ∧ mv_Met vw2 6 0 0 mdV_vatFor as h vs h' := by
  intro as h vs h' hh
  unfold lz_pV_vatFor at hh
  split at hh
  · obtain ⟨a, b⟩ := mv_gd_some hh
    obtain rfl := Nat.eq_of_beq_eq_true a
    exact ⟨⟨_, _, _, rfl, Or.inl ⟨by decide, rfl⟩⟩, mV_vatFor _ _ _ h vs h' b⟩
  · cases hh
def lz_pN_vatFor : List mv_V → H2 → O2 := fun as h => match as with
  | [.inr (t0, o0), .inl (.int v1), .inl (.int v2)] => mv_gd (Nat.beq t0 8) (fN_vatFor o0 v1 v2 h)
  | _ => none
theorem lz_pN_vatFor_eq (v1 : Int32) (v2 : Int32) (h : H2) : lz_pN_vatFor [.inr (8, 0), .inl (.int v1), .inl (.int v2)] h = fN_vatFor 0 v1 v2 h := by
  show mv_gd (Nat.beq 8 8) (fN_vatFor 0 v1 v2 h) = _
  exact xgd
theorem lz_pN_vatFor_ok : ∀ as h vs h', lz_pN_vatFor as h = some (vs, h') → mv_rcv mdN_vatFor as ∧ mv_Met vw2 6 0 0 mdN_vatFor as h vs h' := by
  intro as h vs h' hh
  unfold lz_pN_vatFor at hh
  split at hh
  · obtain ⟨a, b⟩ := mv_gd_some hh
    obtain rfl := Nat.eq_of_beq_eq_true a
    exact ⟨⟨_, _, _, rfl, Or.inl ⟨by decide, rfl⟩⟩, mN_vatFor _ _ _ h vs h' b⟩
  · cases hh
def lz_pV_kindFor : List mv_V → H2 → O2 := fun as h => match as with
  | [.inr (t0, o0), .inl (.int v1), .inl (.int v2)] => mv_gd (Nat.beq t0 7) (fV_kindFor o0 v1 v2 h)
  | _ => none
theorem lz_pV_kindFor_eq (v1 : Int32) (v2 : Int32) (h : H2) : lz_pV_kindFor [.inr (7, 0), .inl (.int v1), .inl (.int v2)] h = fV_kindFor 0 v1 v2 h := by
  show mv_gd (Nat.beq 7 7) (fV_kindFor 0 v1 v2 h) = _
  exact xgd
theorem lz_pV_kindFor_ok : ∀ as h vs h', lz_pV_kindFor as h = some (vs, h') → mv_rcv mdV_kindFor as ∧ mv_Met vw2 6 0 0 mdV_kindFor as h vs h' := by
  intro as h vs h' hh
  unfold lz_pV_kindFor at hh
  split at hh
  · obtain ⟨a, b⟩ := mv_gd_some hh
    obtain rfl := Nat.eq_of_beq_eq_true a
    exact ⟨⟨_, _, _, rfl, Or.inl ⟨by decide, rfl⟩⟩, mV_kindFor _ _ _ h vs h' b⟩
  · cases hh
def lz_pN_kindFor : List mv_V → H2 → O2 := fun as h => match as with
  | [.inr (t0, o0), .inl (.int v1), .inl (.int v2)] => mv_gd (Nat.beq t0 8) (fN_kindFor o0 v1 v2 h)
  | _ => none
theorem lz_pN_kindFor_eq (v1 : Int32) (v2 : Int32) (h : H2) : lz_pN_kindFor [.inr (8, 0), .inl (.int v1), .inl (.int v2)] h = fN_kindFor 0 v1 v2 h := by
  show mv_gd (Nat.beq 8 8) (fN_kindFor 0 v1 v2 h) = _
  exact xgd
theorem lz_pN_kindFor_ok : ∀ as h vs h', lz_pN_kindFor as h = some (vs, h') → mv_rcv mdN_kindFor as ∧ mv_Met vw2 7 0 0 mdN_kindFor as h vs h' := by
  intro as h vs h' hh
  unfold lz_pN_kindFor at hh
  split at hh
  · obtain ⟨a, b⟩ := mv_gd_some hh
    obtain rfl := Nat.eq_of_beq_eq_true a
    exact ⟨⟨_, _, _, rfl, Or.inl ⟨by decide, rfl⟩⟩, mN_kindFor _ _ _ h vs h' b⟩
  · cases hh
def lz_pV_strengthFor : List mv_V → H2 → O2 := fun as h => match as with
  | [.inr (t0, o0), .inl (.int v1), .inl (.int v2), .inl (.int v3), .inl (.int v4)] => mv_gd (Nat.beq t0 7) (fV_strengthFor o0 v1 v2 v3 v4 h)
  | _ => none
theorem lz_pV_strengthFor_eq (v1 : Int32) (v2 : Int32) (v3 : Int32) (v4 : Int32) (h : H2) : lz_pV_strengthFor [.inr (7, 0), .inl (.int v1), .inl (.int v2), .inl (.int v3), .inl (.int v4)] h = fV_strengthFor 0 v1 v2 v3 v4 h := by
  show mv_gd (Nat.beq 7 7) (fV_strengthFor 0 v1 v2 v3 v4 h) = _
  exact xgd
theorem lz_pV_strengthFor_ok : ∀ as h vs h', lz_pV_strengthFor as h = some (vs, h') → mv_rcv mdV_strengthFor as ∧ mv_Met vw2 6 0 0 mdV_strengthFor as h vs h' := by
  intro as h vs h' hh
  unfold lz_pV_strengthFor at hh
  split at hh
  · obtain ⟨a, b⟩ := mv_gd_some hh
    obtain rfl := Nat.eq_of_beq_eq_true a
    exact ⟨⟨_, _, _, rfl, Or.inl ⟨by decide, rfl⟩⟩, mV_strengthFor _ _ _ _ _ h vs h' b⟩
  · cases hh
def lz_pN_strengthFor : List mv_V → H2 → O2 := fun as h => match as with
  | [.inr (t0, o0), .inl (.int v1), .inl (.int v2), .inl (.int v3), .inl (.int v4)] => mv_gd (Nat.beq t0 8) (fN_strengthFor o0 v1 v2 v3 v4 h)
  | _ => none
theorem lz_pN_strengthFor_eq (v1 : Int32) (v2 : Int32) (v3 : Int32) (v4 : Int32) (h : H2) : lz_pN_strengthFor [.inr (8, 0), .inl (.int v1), .inl (.int v2), .inl (.int v3), .inl (.int v4)] h = fN_strengthFor 0 v1 v2 v3 v4 h := by
  show mv_gd (Nat.beq 8 8) (fN_strengthFor 0 v1 v2 v3 v4 h) = _
  exact xgd
theorem lz_pN_strengthFor_ok : ∀ as h vs h', lz_pN_strengthFor as h = some (vs, h') → mv_rcv mdN_strengthFor as ∧ mv_Met vw2 7 0 0 mdN_strengthFor as h vs h' := by
  intro as h vs h' hh
  unfold lz_pN_strengthFor at hh
  split at hh
  · obtain ⟨a, b⟩ := mv_gd_some hh
    obtain rfl := Nat.eq_of_beq_eq_true a
    exact ⟨⟨_, _, _, rfl, Or.inl ⟨by decide, rfl⟩⟩, mN_strengthFor _ _ _ _ _ h vs h' b⟩
  · cases hh
def lz_pV_hangFor : List mv_V → H2 → O2 := fun as h => match as with
  | [.inr (t0, o0), .inl (.int v1), .inl (.int v2)] => mv_gd (Nat.beq t0 7) (fV_hangFor o0 v1 v2 h)
  | _ => none
theorem lz_pV_hangFor_eq (v1 : Int32) (v2 : Int32) (h : H2) : lz_pV_hangFor [.inr (7, 0), .inl (.int v1), .inl (.int v2)] h = fV_hangFor 0 v1 v2 h := by
  show mv_gd (Nat.beq 7 7) (fV_hangFor 0 v1 v2 h) = _
  exact xgd
theorem lz_pV_hangFor_ok : ∀ as h vs h', lz_pV_hangFor as h = some (vs, h') → mv_rcv mdV_hangFor as ∧ mv_Met vw2 7 0 0 mdV_hangFor as h vs h' := by
  intro as h vs h' hh
  unfold lz_pV_hangFor at hh
  split at hh
  · obtain ⟨a, b⟩ := mv_gd_some hh
    obtain rfl := Nat.eq_of_beq_eq_true a
    exact ⟨⟨_, _, _, rfl, Or.inl ⟨by decide, rfl⟩⟩, mV_hangFor _ _ _ h vs h' b⟩
  · cases hh
def lz_pN_hangFor : List mv_V → H2 → O2 := fun as h => match as with
  | [.inr (t0, o0), .inl (.int v1), .inl (.int v2)] => mv_gd (Nat.beq t0 8) (fN_hangFor o0 v1 v2 h)
  | _ => none
theorem lz_pN_hangFor_eq (v1 : Int32) (v2 : Int32) (h : H2) : lz_pN_hangFor [.inr (8, 0), .inl (.int v1), .inl (.int v2)] h = fN_hangFor 0 v1 v2 h := by
  show mv_gd (Nat.beq 8 8) (fN_hangFor 0 v1 v2 h) = _
  exact xgd
theorem lz_pN_hangFor_ok : ∀ as h vs h', lz_pN_hangFor as h = some (vs, h') → mv_rcv mdN_hangFor as ∧ mv_Met vw2 7 0 0 mdN_hangFor as h vs h' := by
  intro as h vs h' hh
  unfold lz_pN_hangFor at hh
  split at hh
  · obtain ⟨a, b⟩ := mv_gd_some hh
    obtain rfl := Nat.eq_of_beq_eq_true a
    exact ⟨⟨_, _, _, rfl, Or.inl ⟨by decide, rfl⟩⟩, mN_hangFor _ _ _ h vs h' b⟩
  · cases hh
def lz_pV_fits : List mv_V → H2 → O2 := fun as h => match as with
  | [.inr (t0, o0), .inl (.int v1), .inl (.int v2), .inl (.int v3)] => mv_gd (Nat.beq t0 7) (fV_fits o0 v1 v2 v3 h)
  | _ => none
theorem lz_pV_fits_eq (v1 : Int32) (v2 : Int32) (v3 : Int32) (h : H2) : lz_pV_fits [.inr (7, 0), .inl (.int v1), .inl (.int v2), .inl (.int v3)] h = fV_fits 0 v1 v2 v3 h := by
  show mv_gd (Nat.beq 7 7) (fV_fits 0 v1 v2 v3 h) = _
  exact xgd
theorem lz_pV_fits_ok : ∀ as h vs h', lz_pV_fits as h = some (vs, h') → mv_rcv mdV_fits as ∧ mv_Met vw2 6 0 0 mdV_fits as h vs h' := by
  intro as h vs h' hh
  unfold lz_pV_fits at hh
  split at hh
  · obtain ⟨a, b⟩ := mv_gd_some hh
    obtain rfl := Nat.eq_of_beq_eq_true a
    exact ⟨⟨_, _, _, rfl, Or.inl ⟨by decide, rfl⟩⟩, mV_fits _ _ _ _ h vs h' b⟩
  · cases hh
def lz_pN_fits : List mv_V → H2 → O2 := fun as h => match as with
  | [.inr (t0, o0), .inl (.int v1), .inl (.int v2), .inl (.int v3)] => mv_gd (Nat.beq t0 8) (fN_fits o0 v1 v2 v3 h)
  | _ => none
theorem lz_pN_fits_eq (v1 : Int32) (v2 : Int32) (v3 : Int32) (h : H2) : lz_pN_fits [.inr (8, 0), .inl (.int v1), .inl (.int v2), .inl (.int v3)] h = fN_fits 0 v1 v2 v3 h := by
  show mv_gd (Nat.beq 8 8) (fN_fits 0 v1 v2 v3 h) = _
  exact xgd
theorem lz_pN_fits_ok : ∀ as h vs h', lz_pN_fits as h = some (vs, h') → mv_rcv mdN_fits as ∧ mv_Met vw2 6 0 0 mdN_fits as h vs h' := by
  intro as h vs h' hh
  unfold lz_pN_fits at hh
  split at hh
  · obtain ⟨a, b⟩ := mv_gd_some hh
    obtain rfl := Nat.eq_of_beq_eq_true a
    exact ⟨⟨_, _, _, rfl, Or.inl ⟨by decide, rfl⟩⟩, mN_fits _ _ _ _ h vs h' b⟩
  · cases hh
def lz_pV_odds : List mv_V → H2 → O2 := fun as h => match as with
  | [.inr (t0, o0), .inl (.int v1), .inl (.int v2), .inl (.int v3)] => mv_gd (Nat.beq t0 7) (fV_odds o0 v1 v2 v3 h)
  | _ => none
theorem lz_pV_odds_eq (v1 : Int32) (v2 : Int32) (v3 : Int32) (h : H2) : lz_pV_odds [.inr (7, 0), .inl (.int v1), .inl (.int v2), .inl (.int v3)] h = fV_odds 0 v1 v2 v3 h := by
  show mv_gd (Nat.beq 7 7) (fV_odds 0 v1 v2 v3 h) = _
  exact xgd
theorem lz_pV_odds_ok : ∀ as h vs h', lz_pV_odds as h = some (vs, h') → mv_rcv mdV_odds as ∧ mv_Met vw2 4 0 0 mdV_odds as h vs h' := by
  intro as h vs h' hh
  unfold lz_pV_odds at hh
  split at hh
  · obtain ⟨a, b⟩ := mv_gd_some hh
    obtain rfl := Nat.eq_of_beq_eq_true a
    exact ⟨⟨_, _, _, rfl, Or.inl ⟨by decide, rfl⟩⟩, mV_odds _ _ _ _ h vs h' b⟩
  · cases hh
def lz_pN_odds : List mv_V → H2 → O2 := fun as h => match as with
  | [.inr (t0, o0), .inl (.int v1), .inl (.int v2), .inl (.int v3)] => mv_gd (Nat.beq t0 8) (fN_odds o0 v1 v2 v3 h)
  | _ => none
theorem lz_pN_odds_eq (v1 : Int32) (v2 : Int32) (v3 : Int32) (h : H2) : lz_pN_odds [.inr (8, 0), .inl (.int v1), .inl (.int v2), .inl (.int v3)] h = fN_odds 0 v1 v2 v3 h := by
  show mv_gd (Nat.beq 8 8) (fN_odds 0 v1 v2 v3 h) = _
  exact xgd
theorem lz_pN_odds_ok : ∀ as h vs h', lz_pN_odds as h = some (vs, h') → mv_rcv mdN_odds as ∧ mv_Met vw2 2 0 0 mdN_odds as h vs h' := by
  intro as h vs h' hh
  unfold lz_pN_odds at hh
  split at hh
  · obtain ⟨a, b⟩ := mv_gd_some hh
    obtain rfl := Nat.eq_of_beq_eq_true a
    exact ⟨⟨_, _, _, rfl, Or.inl ⟨by decide, rfl⟩⟩, mN_odds _ _ _ _ h vs h' b⟩
  · cases hh
def lz_pV_hope : List mv_V → H2 → O2 := fun as h => match as with
  | [.inr (t0, o0), .inl (.int v1), .inl (.int v2)] => mv_gd (Nat.beq t0 7) (fV_hope o0 v1 v2 h)
  | _ => none
theorem lz_pV_hope_eq (v1 : Int32) (v2 : Int32) (h : H2) : lz_pV_hope [.inr (7, 0), .inl (.int v1), .inl (.int v2)] h = fV_hope 0 v1 v2 h := by
  show mv_gd (Nat.beq 7 7) (fV_hope 0 v1 v2 h) = _
  exact xgd
theorem lz_pV_hope_ok : ∀ as h vs h', lz_pV_hope as h = some (vs, h') → mv_rcv mdV_hope as ∧ mv_Met vw2 3 0 0 mdV_hope as h vs h' := by
  intro as h vs h' hh
  unfold lz_pV_hope at hh
  split at hh
  · obtain ⟨a, b⟩ := mv_gd_some hh
    obtain rfl := Nat.eq_of_beq_eq_true a
    exact ⟨⟨_, _, _, rfl, Or.inl ⟨by decide, rfl⟩⟩, mV_hope _ _ _ h vs h' b⟩
  · cases hh
def lz_pN_hope : List mv_V → H2 → O2 := fun as h => match as with
  | [.inr (t0, o0), .inl (.int v1), .inl (.int v2)] => mv_gd (Nat.beq t0 8) (fN_hope o0 v1 v2 h)
  | _ => none
theorem lz_pN_hope_eq (v1 : Int32) (v2 : Int32) (h : H2) : lz_pN_hope [.inr (8, 0), .inl (.int v1), .inl (.int v2)] h = fN_hope 0 v1 v2 h := by
  show mv_gd (Nat.beq 8 8) (fN_hope 0 v1 v2 h) = _
  exact xgd
theorem lz_pN_hope_ok : ∀ as h vs h', lz_pN_hope as h = some (vs, h') → mv_rcv mdN_hope as ∧ mv_Met vw2 2 0 0 mdN_hope as h vs h' := by
  intro as h vs h' hh
  unfold lz_pN_hope at hh
  split at hh
  · obtain ⟨a, b⟩ := mv_gd_some hh
    obtain rfl := Nat.eq_of_beq_eq_true a
    exact ⟨⟨_, _, _, rfl, Or.inl ⟨by decide, rfl⟩⟩, mN_hope _ _ _ h vs h' b⟩
  · cases hh
def lz_pV_prove : List mv_V → H2 → O2 := fun as h => match as with
  | [.inr (t0, o0), .inl (.int v1), .inl (.int v2)] => mv_gd (Nat.beq t0 7) (fV_prove o0 v1 v2 h)
  | _ => none
theorem lz_pV_prove_eq (v1 : Int32) (v2 : Int32) (h : H2) : lz_pV_prove [.inr (7, 0), .inl (.int v1), .inl (.int v2)] h = fV_prove 0 v1 v2 h := by
  show mv_gd (Nat.beq 7 7) (fV_prove 0 v1 v2 h) = _
  exact xgd
theorem lz_pV_prove_ok : ∀ as h vs h', lz_pV_prove as h = some (vs, h') → mv_rcv mdV_prove as ∧ mv_Met vw2 5 0 0 mdV_prove as h vs h' := by
  intro as h vs h' hh
  unfold lz_pV_prove at hh
  split at hh
  · obtain ⟨a, b⟩ := mv_gd_some hh
    obtain rfl := Nat.eq_of_beq_eq_true a
    exact ⟨⟨_, _, _, rfl, Or.inl ⟨by decide, rfl⟩⟩, mV_prove _ _ _ h vs h' b⟩
  · cases hh
def lz_pN_prove : List mv_V → H2 → O2 := fun as h => match as with
  | [.inr (t0, o0), .inl (.int v1), .inl (.int v2)] => mv_gd (Nat.beq t0 8) (fN_prove o0 v1 v2 h)
  | _ => none
theorem lz_pN_prove_eq (v1 : Int32) (v2 : Int32) (h : H2) : lz_pN_prove [.inr (8, 0), .inl (.int v1), .inl (.int v2)] h = fN_prove 0 v1 v2 h := by
  show mv_gd (Nat.beq 8 8) (fN_prove 0 v1 v2 h) = _
  exact xgd
theorem lz_pN_prove_ok : ∀ as h vs h', lz_pN_prove as h = some (vs, h') → mv_rcv mdN_prove as ∧ mv_Met vw2 6 0 0 mdN_prove as h vs h' := by
  intro as h vs h' hh
  unfold lz_pN_prove at hh
  split at hh
  · obtain ⟨a, b⟩ := mv_gd_some hh
    obtain rfl := Nat.eq_of_beq_eq_true a
    exact ⟨⟨_, _, _, rfl, Or.inl ⟨by decide, rfl⟩⟩, mN_prove _ _ _ h vs h' b⟩
  · cases hh
def lz_pV_row : List mv_V → H2 → O2 := fun as h => match as with
  | [.inr (t0, o0), .inl (.int v1), .inl (.int v2)] => mv_gd (Nat.beq t0 7) (fV_row o0 v1 v2 h)
  | _ => none
theorem lz_pV_row_eq (v1 : Int32) (v2 : Int32) (h : H2) : lz_pV_row [.inr (7, 0), .inl (.int v1), .inl (.int v2)] h = fV_row 0 v1 v2 h := by
  show mv_gd (Nat.beq 7 7) (fV_row 0 v1 v2 h) = _
  exact xgd
theorem lz_pV_row_ok : ∀ as h vs h', lz_pV_row as h = some (vs, h') → mv_rcv mdV_row as ∧ mv_Met vw2 3 0 0 mdV_row as h vs h' := by
  intro as h vs h' hh
  unfold lz_pV_row at hh
  split at hh
  · obtain ⟨a, b⟩ := mv_gd_some hh
    obtain rfl := Nat.eq_of_beq_eq_true a
    exact ⟨⟨_, _, _, rfl, Or.inl ⟨by decide, rfl⟩⟩, mV_row _ _ _ h vs h' b⟩
  · cases hh
def lz_pN_row : List mv_V → H2 → O2 := fun as h => match as with
  | [.inr (t0, o0), .inl (.int v1), .inl (.int v2)] => mv_gd (Nat.beq t0 8) (fN_row o0 v1 v2 h)
  | _ => none
theorem lz_pN_row_eq (v1 : Int32) (v2 : Int32) (h : H2) : lz_pN_row [.inr (8, 0), .inl (.int v1), .inl (.int v2)] h = fN_row 0 v1 v2 h := by
  show mv_gd (Nat.beq 8 8) (fN_row 0 v1 v2 h) = _
  exact xgd
theorem lz_pN_row_ok : ∀ as h vs h', lz_pN_row as h = some (vs, h') → mv_rcv mdN_row as ∧ mv_Met vw2 3 0 0 mdN_row as h vs h' := by
  intro as h vs h' hh
  unfold lz_pN_row at hh
  split at hh
  · obtain ⟨a, b⟩ := mv_gd_some hh
    obtain rfl := Nat.eq_of_beq_eq_true a
    exact ⟨⟨_, _, _, rfl, Or.inl ⟨by decide, rfl⟩⟩, mN_row _ _ _ h vs h' b⟩
  · cases hh
def lz_pV_alterRow : List mv_V → H2 → O2 := fun as h => match as with
  | [.inr (t0, o0), .inl (.int v1), .inl (.int v2), .inl (.int v3)] => mv_gd (Nat.beq t0 7) (fV_alterRow o0 v1 v2 v3 h)
  | _ => none
theorem lz_pV_alterRow_eq (v1 : Int32) (v2 : Int32) (v3 : Int32) (h : H2) : lz_pV_alterRow [.inr (7, 0), .inl (.int v1), .inl (.int v2), .inl (.int v3)] h = fV_alterRow 0 v1 v2 v3 h := by
  show mv_gd (Nat.beq 7 7) (fV_alterRow 0 v1 v2 v3 h) = _
  exact xgd
theorem lz_pV_alterRow_ok : ∀ as h vs h', lz_pV_alterRow as h = some (vs, h') → mv_rcv mdV_alterRow as ∧ mv_Met vw2 3 0 0 mdV_alterRow as h vs h' := by
  intro as h vs h' hh
  unfold lz_pV_alterRow at hh
  split at hh
  · obtain ⟨a, b⟩ := mv_gd_some hh
    obtain rfl := Nat.eq_of_beq_eq_true a
    exact ⟨⟨_, _, _, rfl, Or.inl ⟨by decide, rfl⟩⟩, mV_alterRow _ _ _ _ h vs h' b⟩
  · cases hh
def lz_pN_alterRow : List mv_V → H2 → O2 := fun as h => match as with
  | [.inr (t0, o0), .inl (.int v1), .inl (.int v2), .inl (.int v3)] => mv_gd (Nat.beq t0 8) (fN_alterRow o0 v1 v2 v3 h)
  | _ => none
theorem lz_pN_alterRow_eq (v1 : Int32) (v2 : Int32) (v3 : Int32) (h : H2) : lz_pN_alterRow [.inr (8, 0), .inl (.int v1), .inl (.int v2), .inl (.int v3)] h = fN_alterRow 0 v1 v2 v3 h := by
  show mv_gd (Nat.beq 8 8) (fN_alterRow 0 v1 v2 v3 h) = _
  exact xgd
theorem lz_pN_alterRow_ok : ∀ as h vs h', lz_pN_alterRow as h = some (vs, h') → mv_rcv mdN_alterRow as ∧ mv_Met vw2 3 0 0 mdN_alterRow as h vs h' := by
  intro as h vs h' hh
  unfold lz_pN_alterRow at hh
  split at hh
  · obtain ⟨a, b⟩ := mv_gd_some hh
    obtain rfl := Nat.eq_of_beq_eq_true a
    exact ⟨⟨_, _, _, rfl, Or.inl ⟨by decide, rfl⟩⟩, mN_alterRow _ _ _ _ h vs h' b⟩
  · cases hh
def lz_pV_judge : List mv_V → H2 → O2 := fun as h => match as with
  | [.inr (t0, o0), .inl (.int v1)] => mv_gd (Nat.beq t0 7) (fV_judge o0 v1 h)
  | _ => none
theorem lz_pV_judge_eq (v1 : Int32) (h : H2) : lz_pV_judge [.inr (7, 0), .inl (.int v1)] h = fV_judge 0 v1 h := by
  show mv_gd (Nat.beq 7 7) (fV_judge 0 v1 h) = _
  exact xgd
theorem lz_pV_judge_ok : ∀ as h vs h', lz_pV_judge as h = some (vs, h') → mv_rcv mdV_judge as ∧ mv_Met vw2 5 0 0 mdV_judge as h vs h' := by
  intro as h vs h' hh
  unfold lz_pV_judge at hh
  split at hh
  · obtain ⟨a, b⟩ := mv_gd_some hh
    obtain rfl := Nat.eq_of_beq_eq_true a
    exact ⟨⟨_, _, _, rfl, Or.inl ⟨by decide, rfl⟩⟩, mV_judge _ _ h vs h' b⟩
  · cases hh
def lz_pN_judge : List mv_V → H2 → O2 := fun as h => match as with
  | [.inr (t0, o0), .inl (.int v1)] => mv_gd (Nat.beq t0 8) (fN_judge o0 v1 h)
  | _ => none
theorem lz_pN_judge_eq (v1 : Int32) (h : H2) : lz_pN_judge [.inr (8, 0), .inl (.int v1)] h = fN_judge 0 v1 h := by
  show mv_gd (Nat.beq 8 8) (fN_judge 0 v1 h) = _
  exact xgd
theorem lz_pN_judge_ok : ∀ as h vs h', lz_pN_judge as h = some (vs, h') → mv_rcv mdN_judge as ∧ mv_Met vw2 7 0 0 mdN_judge as h vs h' := by
  intro as h vs h' hh
  unfold lz_pN_judge at hh
  split at hh
  · obtain ⟨a, b⟩ := mv_gd_some hh
    obtain rfl := Nat.eq_of_beq_eq_true a
    exact ⟨⟨_, _, _, rfl, Or.inl ⟨by decide, rfl⟩⟩, mN_judge _ _ h vs h' b⟩
  · cases hh
def lz_pV_minds : List mv_V → H2 → O2 := fun as h => match as with
  | [.inr (t0, o0), .inl (.int v1), .inl (.int v2), .inl (.int v3), .inl (.int v4)] => mv_gd (Nat.beq t0 7) (fV_minds o0 v1 v2 v3 v4 h)
  | _ => none
theorem lz_pV_minds_eq (v1 : Int32) (v2 : Int32) (v3 : Int32) (v4 : Int32) (h : H2) : lz_pV_minds [.inr (7, 0), .inl (.int v1), .inl (.int v2), .inl (.int v3), .inl (.int v4)] h = fV_minds 0 v1 v2 v3 v4 h := by
  show mv_gd (Nat.beq 7 7) (fV_minds 0 v1 v2 v3 v4 h) = _
  exact xgd
theorem lz_pV_minds_ok : ∀ as h vs h', lz_pV_minds as h = some (vs, h') → mv_rcv mdV_minds as ∧ mv_Met vw2 3 0 0 mdV_minds as h vs h' := by
  intro as h vs h' hh
  unfold lz_pV_minds at hh
  split at hh
  · obtain ⟨a, b⟩ := mv_gd_some hh
    obtain rfl := Nat.eq_of_beq_eq_true a
    exact ⟨⟨_, _, _, rfl, Or.inl ⟨by decide, rfl⟩⟩, mV_minds _ _ _ _ _ h vs h' b⟩
  · cases hh
def lz_pN_minds : List mv_V → H2 → O2 := fun as h => match as with
  | [.inr (t0, o0), .inl (.int v1), .inl (.int v2), .inl (.int v3), .inl (.int v4)] => mv_gd (Nat.beq t0 8) (fN_minds o0 v1 v2 v3 v4 h)
  | _ => none
theorem lz_pN_minds_eq (v1 : Int32) (v2 : Int32) (v3 : Int32) (v4 : Int32) (h : H2) : lz_pN_minds [.inr (8, 0), .inl (.int v1), .inl (.int v2), .inl (.int v3), .inl (.int v4)] h = fN_minds 0 v1 v2 v3 v4 h := by
  show mv_gd (Nat.beq 8 8) (fN_minds 0 v1 v2 v3 v4 h) = _
  exact xgd
theorem lz_pN_minds_ok : ∀ as h vs h', lz_pN_minds as h = some (vs, h') → mv_rcv mdN_minds as ∧ mv_Met vw2 3 0 0 mdN_minds as h vs h' := by
  intro as h vs h' hh
  unfold lz_pN_minds at hh
  split at hh
  · obtain ⟨a, b⟩ := mv_gd_some hh
    obtain rfl := Nat.eq_of_beq_eq_true a
    exact ⟨⟨_, _, _, rfl, Or.inl ⟨by decide, rfl⟩⟩, mN_minds _ _ _ _ _ h vs h' b⟩
  · cases hh
def lz_pV_sheet : List mv_V → H2 → O2 := fun as h => match as with
  | [.inr (t0, o0), .inl (.int v1), .inl (.int v2), .inl (.int v3)] => mv_gd (Nat.beq t0 7) (fV_sheet o0 v1 v2 v3 h)
  | _ => none
theorem lz_pV_sheet_eq (v1 : Int32) (v2 : Int32) (v3 : Int32) (h : H2) : lz_pV_sheet [.inr (7, 0), .inl (.int v1), .inl (.int v2), .inl (.int v3)] h = fV_sheet 0 v1 v2 v3 h := by
  show mv_gd (Nat.beq 7 7) (fV_sheet 0 v1 v2 v3 h) = _
  exact xgd
theorem lz_pV_sheet_ok : ∀ as h vs h', lz_pV_sheet as h = some (vs, h') → mv_rcv mdV_sheet as ∧ mv_Met vw2 3 2 42 mdV_sheet as h vs h' := by
  intro as h vs h' hh
  unfold lz_pV_sheet at hh
  split at hh
  · obtain ⟨a, b⟩ := mv_gd_some hh
    obtain rfl := Nat.eq_of_beq_eq_true a
    exact ⟨⟨_, _, _, rfl, Or.inl ⟨by decide, rfl⟩⟩, mV_sheet _ _ _ _ h vs h' b⟩
  · cases hh
def lz_pN_sheet : List mv_V → H2 → O2 := fun as h => match as with
  | [.inr (t0, o0), .inl (.int v1), .inl (.int v2), .inl (.int v3)] => mv_gd (Nat.beq t0 8) (fN_sheet o0 v1 v2 v3 h)
  | _ => none
theorem lz_pN_sheet_eq (v1 : Int32) (v2 : Int32) (v3 : Int32) (h : H2) : lz_pN_sheet [.inr (8, 0), .inl (.int v1), .inl (.int v2), .inl (.int v3)] h = fN_sheet 0 v1 v2 v3 h := by
  show mv_gd (Nat.beq 8 8) (fN_sheet 0 v1 v2 v3 h) = _
  exact xgd
theorem lz_pN_sheet_ok : ∀ as h vs h', lz_pN_sheet as h = some (vs, h') → mv_rcv mdN_sheet as ∧ mv_Met vw2 3 0 0 mdN_sheet as h vs h' := by
  intro as h vs h' hh
  unfold lz_pN_sheet at hh
  split at hh
  · obtain ⟨a, b⟩ := mv_gd_some hh
    obtain rfl := Nat.eq_of_beq_eq_true a
    exact ⟨⟨_, _, _, rfl, Or.inl ⟨by decide, rfl⟩⟩, mN_sheet _ _ _ _ h vs h' b⟩
  · cases hh
def lz_pV_put : List mv_V → H2 → O2 := fun as h => match as with
  | [.inr (t0, o0), .inl (.int v1), .inl (.int v2), .inl (.int v3)] => mv_gd (Nat.beq t0 7) (fV_put o0 v1 v2 v3 h)
  | _ => none
theorem lz_pV_put_eq (v1 : Int32) (v2 : Int32) (v3 : Int32) (h : H2) : lz_pV_put [.inr (7, 0), .inl (.int v1), .inl (.int v2), .inl (.int v3)] h = fV_put 0 v1 v2 v3 h := by
  show mv_gd (Nat.beq 7 7) (fV_put 0 v1 v2 v3 h) = _
  exact xgd
theorem lz_pV_put_ok : ∀ as h vs h', lz_pV_put as h = some (vs, h') → mv_rcv mdV_put as ∧ mv_Met vw2 3 0 0 mdV_put as h vs h' := by
  intro as h vs h' hh
  unfold lz_pV_put at hh
  split at hh
  · obtain ⟨a, b⟩ := mv_gd_some hh
    obtain rfl := Nat.eq_of_beq_eq_true a
    exact ⟨⟨_, _, _, rfl, Or.inl ⟨by decide, rfl⟩⟩, mV_put _ _ _ _ h vs h' b⟩
  · cases hh
def lz_pN_put : List mv_V → H2 → O2 := fun as h => match as with
  | [.inr (t0, o0), .inl (.int v1), .inl (.int v2), .inl (.int v3)] => mv_gd (Nat.beq t0 8) (fN_put o0 v1 v2 v3 h)
  | _ => none
theorem lz_pN_put_eq (v1 : Int32) (v2 : Int32) (v3 : Int32) (h : H2) : lz_pN_put [.inr (8, 0), .inl (.int v1), .inl (.int v2), .inl (.int v3)] h = fN_put 0 v1 v2 v3 h := by
  show mv_gd (Nat.beq 8 8) (fN_put 0 v1 v2 v3 h) = _
  exact xgd
theorem lz_pN_put_ok : ∀ as h vs h', lz_pN_put as h = some (vs, h') → mv_rcv mdN_put as ∧ mv_Met vw2 3 0 0 mdN_put as h vs h' := by
  intro as h vs h' hh
  unfold lz_pN_put at hh
  split at hh
  · obtain ⟨a, b⟩ := mv_gd_some hh
    obtain rfl := Nat.eq_of_beq_eq_true a
    exact ⟨⟨_, _, _, rfl, Or.inl ⟨by decide, rfl⟩⟩, mN_put _ _ _ _ h vs h' b⟩
  · cases hh
def lz_pV_item : List mv_V → H2 → O2 := fun as h => match as with
  | [.inr (t0, o0), .inl (.int v1), .inl (.int v2), .inl (.int v3)] => mv_gd (Nat.beq t0 7) (fV_item o0 v1 v2 v3 h)
  | _ => none
theorem lz_pV_item_eq (v1 : Int32) (v2 : Int32) (v3 : Int32) (h : H2) : lz_pV_item [.inr (7, 0), .inl (.int v1), .inl (.int v2), .inl (.int v3)] h = fV_item 0 v1 v2 v3 h := by
  show mv_gd (Nat.beq 7 7) (fV_item 0 v1 v2 v3 h) = _
  exact xgd
theorem lz_pV_item_ok : ∀ as h vs h', lz_pV_item as h = some (vs, h') → mv_rcv mdV_item as ∧ mv_Met vw2 3 0 0 mdV_item as h vs h' := by
  intro as h vs h' hh
  unfold lz_pV_item at hh
  split at hh
  · obtain ⟨a, b⟩ := mv_gd_some hh
    obtain rfl := Nat.eq_of_beq_eq_true a
    exact ⟨⟨_, _, _, rfl, Or.inl ⟨by decide, rfl⟩⟩, mV_item _ _ _ _ h vs h' b⟩
  · cases hh
def lz_pN_item_ : List mv_V → H2 → O2 := fun as h => match as with
  | [.inr (t0, o0), .inl (.int v1), .inl (.int v2), .inl (.int v3)] => mv_gd (Nat.beq t0 8) (fN_item_ o0 v1 v2 v3 h)
  | _ => none
theorem lz_pN_item__eq (v1 : Int32) (v2 : Int32) (v3 : Int32) (h : H2) : lz_pN_item_ [.inr (8, 0), .inl (.int v1), .inl (.int v2), .inl (.int v3)] h = fN_item_ 0 v1 v2 v3 h := by
  show mv_gd (Nat.beq 8 8) (fN_item_ 0 v1 v2 v3 h) = _
  exact xgd
theorem lz_pN_item__ok : ∀ as h vs h', lz_pN_item_ as h = some (vs, h') → mv_rcv mdN_item_ as ∧ mv_Met vw2 3 0 0 mdN_item_ as h vs h' := by
  intro as h vs h' hh
  unfold lz_pN_item_ at hh
  split at hh
  · obtain ⟨a, b⟩ := mv_gd_some hh
    obtain rfl := Nat.eq_of_beq_eq_true a
    exact ⟨⟨_, _, _, rfl, Or.inl ⟨by decide, rfl⟩⟩, mN_item_ _ _ _ _ h vs h' b⟩
  · cases hh
def lz_pV_shelf : List mv_V → H2 → O2 := fun as h => match as with
  | [.inr (t0, o0), .inl (.int v1), .inl (.int v2), .inl (.int v3)] => mv_gd (Nat.beq t0 7) (fV_shelf o0 v1 v2 v3 h)
  | _ => none
theorem lz_pV_shelf_eq (v1 : Int32) (v2 : Int32) (v3 : Int32) (h : H2) : lz_pV_shelf [.inr (7, 0), .inl (.int v1), .inl (.int v2), .inl (.int v3)] h = fV_shelf 0 v1 v2 v3 h := by
  show mv_gd (Nat.beq 7 7) (fV_shelf 0 v1 v2 v3 h) = _
  exact xgd
theorem lz_pV_shelf_ok : ∀ as h vs h', lz_pV_shelf as h = some (vs, h') → mv_rcv mdV_shelf as ∧ mv_Met vw2 3 0 0 mdV_shelf as h vs h' := by
  intro as h vs h' hh
  unfold lz_pV_shelf at hh
  split at hh
  · obtain ⟨a, b⟩ := mv_gd_some hh
    obtain rfl := Nat.eq_of_beq_eq_true a
    exact ⟨⟨_, _, _, rfl, Or.inl ⟨by decide, rfl⟩⟩, mV_shelf _ _ _ _ h vs h' b⟩
  · cases hh
def lz_pN_shelf : List mv_V → H2 → O2 := fun as h => match as with
  | [.inr (t0, o0), .inl (.int v1), .inl (.int v2), .inl (.int v3)] => mv_gd (Nat.beq t0 8) (fN_shelf o0 v1 v2 v3 h)
  | _ => none
theorem lz_pN_shelf_eq (v1 : Int32) (v2 : Int32) (v3 : Int32) (h : H2) : lz_pN_shelf [.inr (8, 0), .inl (.int v1), .inl (.int v2), .inl (.int v3)] h = fN_shelf 0 v1 v2 v3 h := by
  show mv_gd (Nat.beq 8 8) (fN_shelf 0 v1 v2 v3 h) = _
  exact xgd
theorem lz_pN_shelf_ok : ∀ as h vs h', lz_pN_shelf as h = some (vs, h') → mv_rcv mdN_shelf as ∧ mv_Met vw2 3 0 0 mdN_shelf as h vs h' := by
  intro as h vs h' hh
  unfold lz_pN_shelf at hh
  split at hh
  · obtain ⟨a, b⟩ := mv_gd_some hh
    obtain rfl := Nat.eq_of_beq_eq_true a
    exact ⟨⟨_, _, _, rfl, Or.inl ⟨by decide, rfl⟩⟩, mN_shelf _ _ _ _ h vs h' b⟩
  · cases hh
def lz_pV_taken : List mv_V → H2 → O2 := fun as h => match as with
  | [.inr (t0, o0), .inl (.int v1), .inl (.int v2)] => mv_gd (Nat.beq t0 7) (fV_taken o0 v1 v2 h)
  | _ => none
theorem lz_pV_taken_eq (v1 : Int32) (v2 : Int32) (h : H2) : lz_pV_taken [.inr (7, 0), .inl (.int v1), .inl (.int v2)] h = fV_taken 0 v1 v2 h := by
  show mv_gd (Nat.beq 7 7) (fV_taken 0 v1 v2 h) = _
  exact xgd
theorem lz_pV_taken_ok : ∀ as h vs h', lz_pV_taken as h = some (vs, h') → mv_rcv mdV_taken as ∧ mv_Met vw2 3 0 0 mdV_taken as h vs h' := by
  intro as h vs h' hh
  unfold lz_pV_taken at hh
  split at hh
  · obtain ⟨a, b⟩ := mv_gd_some hh
    obtain rfl := Nat.eq_of_beq_eq_true a
    exact ⟨⟨_, _, _, rfl, Or.inl ⟨by decide, rfl⟩⟩, mV_taken _ _ _ h vs h' b⟩
  · cases hh
def lz_pN_taken : List mv_V → H2 → O2 := fun as h => match as with
  | [.inr (t0, o0), .inl (.int v1), .inl (.int v2)] => mv_gd (Nat.beq t0 8) (fN_taken o0 v1 v2 h)
  | _ => none
theorem lz_pN_taken_eq (v1 : Int32) (v2 : Int32) (h : H2) : lz_pN_taken [.inr (8, 0), .inl (.int v1), .inl (.int v2)] h = fN_taken 0 v1 v2 h := by
  show mv_gd (Nat.beq 8 8) (fN_taken 0 v1 v2 h) = _
  exact xgd
theorem lz_pN_taken_ok : ∀ as h vs h', lz_pN_taken as h = some (vs, h') → mv_rcv mdN_taken as ∧ mv_Met vw2 4 0 0 mdN_taken as h vs h' := by
  intro as h vs h' hh
  unfold lz_pN_taken at hh
  split at hh
  · obtain ⟨a, b⟩ := mv_gd_some hh
    obtain rfl := Nat.eq_of_beq_eq_true a
    exact ⟨⟨_, _, _, rfl, Or.inl ⟨by decide, rfl⟩⟩, mN_taken _ _ _ h vs h' b⟩
  · cases hh
def lz_pV_act : List mv_V → H2 → O2 := fun as h => match as with
  | [.inr (t0, o0), .inl (.int v1), .inl (.int v2), .inl (.int v3)] => mv_gd (Nat.beq t0 7) (fV_act o0 v1 v2 v3 h)
  | _ => none
theorem lz_pV_act_eq (v1 : Int32) (v2 : Int32) (v3 : Int32) (h : H2) : lz_pV_act [.inr (7, 0), .inl (.int v1), .inl (.int v2), .inl (.int v3)] h = fV_act 0 v1 v2 v3 h := by
  show mv_gd (Nat.beq 7 7) (fV_act 0 v1 v2 v3 h) = _
  exact xgd
theorem lz_pV_act_ok : ∀ as h vs h', lz_pV_act as h = some (vs, h') → mv_rcv mdV_act as ∧ mv_Met vw2 105 0 0 mdV_act as h vs h' := by
  intro as h vs h' hh
  unfold lz_pV_act at hh
  split at hh
  · obtain ⟨a, b⟩ := mv_gd_some hh
    obtain rfl := Nat.eq_of_beq_eq_true a
    exact ⟨⟨_, _, _, rfl, Or.inl ⟨by decide, rfl⟩⟩, mV_act _ _ _ _ h vs h' b⟩
  · cases hh
def lz_pN_act : List mv_V → H2 → O2 := fun as h => match as with
  | [.inr (t0, o0), .inl (.int v1), .inl (.int v2), .inl (.int v3)] => mv_gd (Nat.beq t0 8) (fN_act o0 v1 v2 v3 h)
  | _ => none
theorem lz_pN_act_eq (v1 : Int32) (v2 : Int32) (v3 : Int32) (h : H2) : lz_pN_act [.inr (8, 0), .inl (.int v1), .inl (.int v2), .inl (.int v3)] h = fN_act 0 v1 v2 v3 h := by
  show mv_gd (Nat.beq 8 8) (fN_act 0 v1 v2 v3 h) = _
  exact xgd
theorem lz_pN_act_ok : ∀ as h vs h', lz_pN_act as h = some (vs, h') → mv_rcv mdN_act as ∧ mv_Met vw2 9 0 0 mdN_act as h vs h' := by
  intro as h vs h' hh
  unfold lz_pN_act at hh
  split at hh
  · obtain ⟨a, b⟩ := mv_gd_some hh
    obtain rfl := Nat.eq_of_beq_eq_true a
    exact ⟨⟨_, _, _, rfl, Or.inl ⟨by decide, rfl⟩⟩, mN_act _ _ _ _ h vs h' b⟩
  · cases hh
def lz_pV_trace : List mv_V → H2 → O2 := fun as h => match as with
  | [.inr (t0, o0), .inl (.int v1)] => mv_gd (Nat.beq t0 7) (fV_trace o0 v1 h)
  | _ => none
theorem lz_pV_trace_eq (v1 : Int32) (h : H2) : lz_pV_trace [.inr (7, 0), .inl (.int v1)] h = fV_trace 0 v1 h := by
  show mv_gd (Nat.beq 7 7) (fV_trace 0 v1 h) = _
  exact xgd
theorem lz_pV_trace_ok : ∀ as h vs h', lz_pV_trace as h = some (vs, h') → mv_rcv mdV_trace as ∧ mv_Met vw2 2 0 0 mdV_trace as h vs h' := by
  intro as h vs h' hh
  unfold lz_pV_trace at hh
  split at hh
  · obtain ⟨a, b⟩ := mv_gd_some hh
    obtain rfl := Nat.eq_of_beq_eq_true a
    exact ⟨⟨_, _, _, rfl, Or.inl ⟨by decide, rfl⟩⟩, mV_trace _ _ h vs h' b⟩
  · cases hh
def lz_pN_trace : List mv_V → H2 → O2 := fun as h => match as with
  | [.inr (t0, o0), .inl (.int v1)] => mv_gd (Nat.beq t0 8) (fN_trace o0 v1 h)
  | _ => none
theorem lz_pN_trace_eq (v1 : Int32) (h : H2) : lz_pN_trace [.inr (8, 0), .inl (.int v1)] h = fN_trace 0 v1 h := by
  show mv_gd (Nat.beq 8 8) (fN_trace 0 v1 h) = _
  exact xgd
theorem lz_pN_trace_ok : ∀ as h vs h', lz_pN_trace as h = some (vs, h') → mv_rcv mdN_trace as ∧ mv_Met vw2 2 0 0 mdN_trace as h vs h' := by
  intro as h vs h' hh
  unfold lz_pN_trace at hh
  split at hh
  · obtain ⟨a, b⟩ := mv_gd_some hh
    obtain rfl := Nat.eq_of_beq_eq_true a
    exact ⟨⟨_, _, _, rfl, Or.inl ⟨by decide, rfl⟩⟩, mN_trace _ _ h vs h' b⟩
  · cases hh
def lz_pV_many : List mv_V → H2 → O2 := fun as h => match as with
  | [.inr (t0, o0), .inl (.int v1)] => mv_gd (Nat.beq t0 7) (fV_many o0 v1 h)
  | _ => none
theorem lz_pV_many_eq (v1 : Int32) (h : H2) : lz_pV_many [.inr (7, 0), .inl (.int v1)] h = fV_many 0 v1 h := by
  show mv_gd (Nat.beq 7 7) (fV_many 0 v1 h) = _
  exact xgd
theorem lz_pV_many_ok : ∀ as h vs h', lz_pV_many as h = some (vs, h') → mv_rcv mdV_many as ∧ mv_Met vw2 2 0 0 mdV_many as h vs h' := by
  intro as h vs h' hh
  unfold lz_pV_many at hh
  split at hh
  · obtain ⟨a, b⟩ := mv_gd_some hh
    obtain rfl := Nat.eq_of_beq_eq_true a
    exact ⟨⟨_, _, _, rfl, Or.inl ⟨by decide, rfl⟩⟩, mV_many _ _ h vs h' b⟩
  · cases hh
def lz_pN_many : List mv_V → H2 → O2 := fun as h => match as with
  | [.inr (t0, o0), .inl (.int v1)] => mv_gd (Nat.beq t0 8) (fN_many o0 v1 h)
  | _ => none
theorem lz_pN_many_eq (v1 : Int32) (h : H2) : lz_pN_many [.inr (8, 0), .inl (.int v1)] h = fN_many 0 v1 h := by
  show mv_gd (Nat.beq 8 8) (fN_many 0 v1 h) = _
  exact xgd
theorem lz_pN_many_ok : ∀ as h vs h', lz_pN_many as h = some (vs, h') → mv_rcv mdN_many as ∧ mv_Met vw2 3 0 0 mdN_many as h vs h' := by
  intro as h vs h' hh
  unfold lz_pN_many at hh
  split at hh
  · obtain ⟨a, b⟩ := mv_gd_some hh
    obtain rfl := Nat.eq_of_beq_eq_true a
    exact ⟨⟨_, _, _, rfl, Or.inl ⟨by decide, rfl⟩⟩, mN_many _ _ h vs h' b⟩
  · cases hh
def lz_pV_keep : List mv_V → H2 → O2 := fun as h => match as with
  | [.inr (t0, o0)] => mv_gd (Nat.beq t0 7) (fV_keep o0 h)
  | _ => none
theorem lz_pV_keep_eq (h : H2) : lz_pV_keep [.inr (7, 0)] h = fV_keep 0  h := by
  show mv_gd (Nat.beq 7 7) (fV_keep 0  h) = _
  exact xgd
theorem lz_pV_keep_ok : ∀ as h vs h', lz_pV_keep as h = some (vs, h') → mv_rcv mdV_keep as ∧ mv_Met vw2 2 0 0 mdV_keep as h vs h' := by
  intro as h vs h' hh
  unfold lz_pV_keep at hh
  split at hh
  · obtain ⟨a, b⟩ := mv_gd_some hh
    obtain rfl := Nat.eq_of_beq_eq_true a
    exact ⟨⟨_, _, _, rfl, Or.inl ⟨by decide, rfl⟩⟩, mV_keep _ h vs h' b⟩
  · cases hh
def lz_pN_keep : List mv_V → H2 → O2 := fun as h => match as with
  | [.inr (t0, o0)] => mv_gd (Nat.beq t0 8) (fN_keep o0 h)
  | _ => none
theorem lz_pN_keep_eq (h : H2) : lz_pN_keep [.inr (8, 0)] h = fN_keep 0  h := by
  show mv_gd (Nat.beq 8 8) (fN_keep 0  h) = _
  exact xgd
theorem lz_pN_keep_ok : ∀ as h vs h', lz_pN_keep as h = some (vs, h') → mv_rcv mdN_keep as ∧ mv_Met vw2 2 0 0 mdN_keep as h vs h' := by
  intro as h vs h' hh
  unfold lz_pN_keep at hh
  split at hh
  · obtain ⟨a, b⟩ := mv_gd_some hh
    obtain rfl := Nat.eq_of_beq_eq_true a
    exact ⟨⟨_, _, _, rfl, Or.inl ⟨by decide, rfl⟩⟩, mN_keep _ h vs h' b⟩
  · cases hh
def lz_pV_again : List mv_V → H2 → O2 := fun as h => match as with
  | [.inr (t0, o0)] => mv_gd (Nat.beq t0 7) (fV_again o0 h)
  | _ => none
theorem lz_pV_again_eq (h : H2) : lz_pV_again [.inr (7, 0)] h = fV_again 0  h := by
  show mv_gd (Nat.beq 7 7) (fV_again 0  h) = _
  exact xgd
theorem lz_pV_again_ok : ∀ as h vs h', lz_pV_again as h = some (vs, h') → mv_rcv mdV_again as ∧ mv_Met vw2 2 0 0 mdV_again as h vs h' := by
  intro as h vs h' hh
  unfold lz_pV_again at hh
  split at hh
  · obtain ⟨a, b⟩ := mv_gd_some hh
    obtain rfl := Nat.eq_of_beq_eq_true a
    exact ⟨⟨_, _, _, rfl, Or.inl ⟨by decide, rfl⟩⟩, mV_again _ h vs h' b⟩
  · cases hh
def lz_pN_again : List mv_V → H2 → O2 := fun as h => match as with
  | [.inr (t0, o0)] => mv_gd (Nat.beq t0 8) (fN_again o0 h)
  | _ => none
theorem lz_pN_again_eq (h : H2) : lz_pN_again [.inr (8, 0)] h = fN_again 0  h := by
  show mv_gd (Nat.beq 8 8) (fN_again 0  h) = _
  exact xgd
theorem lz_pN_again_ok : ∀ as h vs h', lz_pN_again as h = some (vs, h') → mv_rcv mdN_again as ∧ mv_Met vw2 2 0 0 mdN_again as h vs h' := by
  intro as h vs h' hh
  unfold lz_pN_again at hh
  split at hh
  · obtain ⟨a, b⟩ := mv_gd_some hh
    obtain rfl := Nat.eq_of_beq_eq_true a
    exact ⟨⟨_, _, _, rfl, Or.inl ⟨by decide, rfl⟩⟩, mN_again _ h vs h' b⟩
  · cases hh
def lz_ps : List (List mv_V → H2 → O2) := [fun _ _ => none, fun _ _ => none, lz_pV_feed, lz_pN_feed, lz_pV_mill, lz_pN_mill, lz_pV_set, lz_pN_set, lz_pV_lawOf, lz_pN_lawOf, lz_pV_fill, lz_pN_fill, lz_pV_vatOf, lz_pN_vatOf, lz_pV_roster, lz_pN_roster, lz_pV_rosterOf, lz_pN_rosterOf, lz_pV_cloth, lz_pN_cloth, lz_pV_of, lz_pN_of, lz_pV_does, lz_pN_does, lz_pV_mind, lz_pN_mind, lz_pV_steep, lz_pN_steep, lz_pV_hang, lz_pN_hang, lz_pV_dip, lz_pN_dip, lz_pV_days, lz_pN_days, lz_pV_seed, lz_pN_seed, lz_pV_day, lz_pN_day, lz_pV_luck, lz_pN_luck, lz_pV_state, lz_pN_state, lz_pV_gone, lz_pN_gone, lz_pV_depth, lz_pN_depth, lz_pV_comes, lz_pN_comes, lz_pV_bare, lz_pN_bare, lz_pV_spoilt, lz_pN_spoilt, lz_pV_through, lz_pN_through, lz_pV_vatFor, lz_pN_vatFor, lz_pV_kindFor, lz_pN_kindFor, lz_pV_strengthFor, lz_pN_strengthFor, lz_pV_hangFor, lz_pN_hangFor, lz_pV_fits, lz_pN_fits, lz_pV_odds, lz_pN_odds, lz_pV_hope, lz_pN_hope, lz_pV_prove, lz_pN_prove, lz_pV_row, lz_pN_row, lz_pV_alterRow, lz_pN_alterRow, lz_pV_judge, lz_pN_judge, lz_pV_minds, lz_pN_minds, lz_pV_sheet, lz_pN_sheet, lz_pV_put, lz_pN_put, lz_pV_item, lz_pN_item_, lz_pV_shelf, lz_pN_shelf, lz_pV_taken, lz_pN_taken, lz_pV_act, lz_pN_act, lz_pV_trace, lz_pN_trace, lz_pV_many, lz_pN_many, lz_pV_keep, lz_pN_keep, lz_pV_again, lz_pN_again]
def lz_Ph (j : Nat) : List mv_V → H2 → O2 := mv_el (mv_nth j lz_ps) (fun _ _ => none) fun f => f
theorem lz_Ph_2 : lz_Ph 2 = lz_pV_feed := Eq.symm (Eq.symm rfl)
theorem lz_Ph_3 : lz_Ph 3 = lz_pN_feed := Eq.symm (Eq.symm rfl)
theorem lz_Ph_4 : lz_Ph 4 = lz_pV_mill := Eq.symm (Eq.symm rfl)
theorem lz_Ph_5 : lz_Ph 5 = lz_pN_mill := Eq.symm (Eq.symm rfl)
theorem lz_Ph_6 : lz_Ph 6 = lz_pV_set := Eq.symm (Eq.symm rfl)
theorem lz_Ph_7 : lz_Ph 7 = lz_pN_set := Eq.symm (Eq.symm rfl)
theorem lz_Ph_8 : lz_Ph 8 = lz_pV_lawOf := Eq.symm (Eq.symm rfl)
theorem lz_Ph_9 : lz_Ph 9 = lz_pN_lawOf := Eq.symm (Eq.symm rfl)
theorem lz_Ph_10 : lz_Ph 10 = lz_pV_fill := Eq.symm (Eq.symm rfl)
theorem lz_Ph_11 : lz_Ph 11 = lz_pN_fill := Eq.symm (Eq.symm rfl)
theorem lz_Ph_12 : lz_Ph 12 = lz_pV_vatOf := Eq.symm (Eq.symm rfl)
theorem lz_Ph_13 : lz_Ph 13 = lz_pN_vatOf := Eq.symm (Eq.symm rfl)
theorem lz_Ph_14 : lz_Ph 14 = lz_pV_roster := Eq.symm (Eq.symm rfl)
theorem lz_Ph_15 : lz_Ph 15 = lz_pN_roster := Eq.symm (Eq.symm rfl)
theorem lz_Ph_16 : lz_Ph 16 = lz_pV_rosterOf := Eq.symm (Eq.symm rfl)
theorem lz_Ph_17 : lz_Ph 17 = lz_pN_rosterOf := Eq.symm (Eq.symm rfl)
theorem lz_Ph_18 : lz_Ph 18 = lz_pV_cloth := Eq.symm (Eq.symm rfl)
theorem lz_Ph_19 : lz_Ph 19 = lz_pN_cloth := Eq.symm (Eq.symm rfl)
theorem lz_Ph_20 : lz_Ph 20 = lz_pV_of := Eq.symm (Eq.symm rfl)
theorem lz_Ph_21 : lz_Ph 21 = lz_pN_of := Eq.symm (Eq.symm rfl)
theorem lz_Ph_22 : lz_Ph 22 = lz_pV_does := Eq.symm (Eq.symm rfl)
theorem lz_Ph_23 : lz_Ph 23 = lz_pN_does := Eq.symm (Eq.symm rfl)
theorem lz_Ph_24 : lz_Ph 24 = lz_pV_mind := Eq.symm (Eq.symm rfl)
theorem lz_Ph_25 : lz_Ph 25 = lz_pN_mind := Eq.symm (Eq.symm rfl)
theorem lz_Ph_26 : lz_Ph 26 = lz_pV_steep := Eq.symm (Eq.symm rfl)
theorem lz_Ph_27 : lz_Ph 27 = lz_pN_steep := Eq.symm (Eq.symm rfl)
theorem lz_Ph_28 : lz_Ph 28 = lz_pV_hang := Eq.symm (Eq.symm rfl)
theorem lz_Ph_29 : lz_Ph 29 = lz_pN_hang := Eq.symm (Eq.symm rfl)
theorem lz_Ph_30 : lz_Ph 30 = lz_pV_dip := Eq.symm (Eq.symm rfl)
theorem lz_Ph_31 : lz_Ph 31 = lz_pN_dip := Eq.symm (Eq.symm rfl)
theorem lz_Ph_32 : lz_Ph 32 = lz_pV_days := Eq.symm (Eq.symm rfl)
theorem lz_Ph_33 : lz_Ph 33 = lz_pN_days := Eq.symm (Eq.symm rfl)
theorem lz_Ph_34 : lz_Ph 34 = lz_pV_seed := Eq.symm (Eq.symm rfl)
theorem lz_Ph_35 : lz_Ph 35 = lz_pN_seed := Eq.symm (Eq.symm rfl)
theorem lz_Ph_36 : lz_Ph 36 = lz_pV_day := Eq.symm (Eq.symm rfl)
theorem lz_Ph_37 : lz_Ph 37 = lz_pN_day := Eq.symm (Eq.symm rfl)
theorem lz_Ph_38 : lz_Ph 38 = lz_pV_luck := Eq.symm (Eq.symm rfl)
theorem lz_Ph_39 : lz_Ph 39 = lz_pN_luck := Eq.symm (Eq.symm rfl)
theorem lz_Ph_40 : lz_Ph 40 = lz_pV_state := Eq.symm (Eq.symm rfl)
theorem lz_Ph_41 : lz_Ph 41 = lz_pN_state := Eq.symm (Eq.symm rfl)
theorem lz_Ph_42 : lz_Ph 42 = lz_pV_gone := Eq.symm (Eq.symm rfl)
theorem lz_Ph_43 : lz_Ph 43 = lz_pN_gone := Eq.symm (Eq.symm rfl)
theorem lz_Ph_44 : lz_Ph 44 = lz_pV_depth := Eq.symm (Eq.symm rfl)
theorem lz_Ph_45 : lz_Ph 45 = lz_pN_depth := Eq.symm (Eq.symm rfl)
theorem lz_Ph_46 : lz_Ph 46 = lz_pV_comes := Eq.symm (Eq.symm rfl)
theorem lz_Ph_47 : lz_Ph 47 = lz_pN_comes := Eq.symm (Eq.symm rfl)
theorem lz_Ph_48 : lz_Ph 48 = lz_pV_bare := Eq.symm (Eq.symm rfl)
theorem lz_Ph_49 : lz_Ph 49 = lz_pN_bare := Eq.symm (Eq.symm rfl)
theorem lz_Ph_50 : lz_Ph 50 = lz_pV_spoilt := Eq.symm (Eq.symm rfl)
theorem lz_Ph_51 : lz_Ph 51 = lz_pN_spoilt := Eq.symm (Eq.symm rfl)
theorem lz_Ph_52 : lz_Ph 52 = lz_pV_through := Eq.symm (Eq.symm rfl)
theorem lz_Ph_53 : lz_Ph 53 = lz_pN_through := Eq.symm (Eq.symm rfl)
theorem lz_Ph_54 : lz_Ph 54 = lz_pV_vatFor := Eq.symm (Eq.symm rfl)
theorem lz_Ph_55 : lz_Ph 55 = lz_pN_vatFor := Eq.symm (Eq.symm rfl)
theorem lz_Ph_56 : lz_Ph 56 = lz_pV_kindFor := Eq.symm (Eq.symm rfl)
theorem lz_Ph_57 : lz_Ph 57 = lz_pN_kindFor := Eq.symm (Eq.symm rfl)
theorem lz_Ph_58 : lz_Ph 58 = lz_pV_strengthFor := Eq.symm (Eq.symm rfl)
theorem lz_Ph_59 : lz_Ph 59 = lz_pN_strengthFor := Eq.symm (Eq.symm rfl)
theorem lz_Ph_60 : lz_Ph 60 = lz_pV_hangFor := Eq.symm (Eq.symm rfl)
theorem lz_Ph_61 : lz_Ph 61 = lz_pN_hangFor := Eq.symm (Eq.symm rfl)
theorem lz_Ph_62 : lz_Ph 62 = lz_pV_fits := Eq.symm (Eq.symm rfl)
theorem lz_Ph_63 : lz_Ph 63 = lz_pN_fits := Eq.symm (Eq.symm rfl)
theorem lz_Ph_64 : lz_Ph 64 = lz_pV_odds := Eq.symm (Eq.symm rfl)
theorem lz_Ph_65 : lz_Ph 65 = lz_pN_odds := Eq.symm (Eq.symm rfl)
theorem lz_Ph_66 : lz_Ph 66 = lz_pV_hope := Eq.symm (Eq.symm rfl)
theorem lz_Ph_67 : lz_Ph 67 = lz_pN_hope := Eq.symm (Eq.symm rfl)
theorem lz_Ph_68 : lz_Ph 68 = lz_pV_prove := Eq.symm (Eq.symm rfl)
theorem lz_Ph_69 : lz_Ph 69 = lz_pN_prove := Eq.symm (Eq.symm rfl)
theorem lz_Ph_70 : lz_Ph 70 = lz_pV_row := Eq.symm (Eq.symm rfl)
theorem lz_Ph_71 : lz_Ph 71 = lz_pN_row := Eq.symm (Eq.symm rfl)
theorem lz_Ph_72 : lz_Ph 72 = lz_pV_alterRow := Eq.symm (Eq.symm rfl)
theorem lz_Ph_73 : lz_Ph 73 = lz_pN_alterRow := Eq.symm (Eq.symm rfl)
theorem lz_Ph_74 : lz_Ph 74 = lz_pV_judge := Eq.symm (Eq.symm rfl)
theorem lz_Ph_75 : lz_Ph 75 = lz_pN_judge := Eq.symm (Eq.symm rfl)
theorem lz_Ph_76 : lz_Ph 76 = lz_pV_minds := Eq.symm (Eq.symm rfl)
theorem lz_Ph_77 : lz_Ph 77 = lz_pN_minds := Eq.symm (Eq.symm rfl)
theorem lz_Ph_78 : lz_Ph 78 = lz_pV_sheet := Eq.symm (Eq.symm rfl)
theorem lz_Ph_79 : lz_Ph 79 = lz_pN_sheet := Eq.symm (Eq.symm rfl)
theorem lz_Ph_80 : lz_Ph 80 = lz_pV_put := Eq.symm (Eq.symm rfl)
theorem lz_Ph_81 : lz_Ph 81 = lz_pN_put := Eq.symm (Eq.symm rfl)
theorem lz_Ph_82 : lz_Ph 82 = lz_pV_item := Eq.symm (Eq.symm rfl)
theorem lz_Ph_83 : lz_Ph 83 = lz_pN_item_ := Eq.symm (Eq.symm rfl)
theorem lz_Ph_84 : lz_Ph 84 = lz_pV_shelf := Eq.symm (Eq.symm rfl)
theorem lz_Ph_85 : lz_Ph 85 = lz_pN_shelf := Eq.symm (Eq.symm rfl)
theorem lz_Ph_86 : lz_Ph 86 = lz_pV_taken := Eq.symm (Eq.symm rfl)
theorem lz_Ph_87 : lz_Ph 87 = lz_pN_taken := Eq.symm (Eq.symm rfl)
theorem lz_Ph_88 : lz_Ph 88 = lz_pV_act := Eq.symm (Eq.symm rfl)
theorem lz_Ph_89 : lz_Ph 89 = lz_pN_act := Eq.symm (Eq.symm rfl)
theorem lz_Ph_90 : lz_Ph 90 = lz_pV_trace := Eq.symm (Eq.symm rfl)
theorem lz_Ph_91 : lz_Ph 91 = lz_pN_trace := Eq.symm (Eq.symm rfl)
theorem lz_Ph_92 : lz_Ph 92 = lz_pV_many := Eq.symm (Eq.symm rfl)
theorem lz_Ph_93 : lz_Ph 93 = lz_pN_many := Eq.symm (Eq.symm rfl)
theorem lz_Ph_94 : lz_Ph 94 = lz_pV_keep := Eq.symm (Eq.symm rfl)
theorem lz_Ph_95 : lz_Ph 95 = lz_pN_keep := Eq.symm (Eq.symm rfl)
theorem lz_Ph_96 : lz_Ph 96 = lz_pV_again := Eq.symm (Eq.symm rfl)
theorem lz_Ph_97 : lz_Ph 97 = lz_pN_again := Eq.symm (Eq.symm rfl)
def lz_g (Φ : Nat → List mv_V → H2 → O2) : List (mv_C H2) := [((0, 0), lz_cz), ((0, 0), lz_cz), ((0, 0), lz_ci (Φ 2)), ((0, 0), lz_ci (Φ 3)), ((0, 0), lz_ci (Φ 4)), ((0, 0), lz_ci (Φ 5)), ((0, 0), lz_ci (Φ 6)), ((0, 0), lz_ci (Φ 7)), ((0, 0), lz_ci (Φ 8)), ((0, 0), lz_ci (Φ 9)), ((0, 0), lz_ci (Φ 10)), ((0, 0), lz_ci (Φ 11)), ((0, 0), lz_ci (Φ 12)), ((0, 0), lz_ci (Φ 13)), ((0, 0), lz_ci (Φ 14)), ((0, 0), lz_ci (Φ 15)), ((0, 0), lz_ci (Φ 16)), ((0, 0), lz_ci (Φ 17)), ((0, 0), lz_ci (Φ 18)), ((0, 0), lz_ci (Φ 19)), ((0, 0), lz_ci (Φ 20)), ((0, 0), lz_ci (Φ 21)), ((0, 0), lz_ci (Φ 22)), ((0, 0), lz_ci (Φ 23)), ((0, 0), lz_ci (Φ 24)), ((0, 0), lz_ci (Φ 25)), ((0, 0), lz_ci (Φ 26)), ((0, 0), lz_ci (Φ 27)), ((0, 0), lz_ci (Φ 28)), ((0, 0), lz_ci (Φ 29)), ((0, 0), lz_ci (Φ 30)), ((0, 0), lz_ci (Φ 31)), ((0, 0), lz_ci (Φ 32)), ((0, 0), lz_ci (Φ 33)), ((0, 0), lz_ci (Φ 34)), ((0, 0), lz_ci (Φ 35)), ((0, 0), lz_ci (Φ 36)), ((0, 0), lz_ci (Φ 37)), ((0, 0), lz_ci (Φ 38)), ((0, 0), lz_ci (Φ 39)), ((0, 0), lz_ci (Φ 40)), ((0, 0), lz_ci (Φ 41)), ((0, 0), lz_ci (Φ 42)), ((0, 0), lz_ci (Φ 43)), ((0, 0), lz_ci (Φ 44)), ((0, 0), lz_ci (Φ 45)), ((0, 0), lz_ci (Φ 46)), ((0, 0), lz_ci (Φ 47)), ((0, 0), lz_ci (Φ 48)), ((0, 0), lz_ci (Φ 49)), ((0, 0), lz_ci (Φ 50)), ((0, 0), lz_ci (Φ 51)), ((0, 0), lz_ci (Φ 52)), ((0, 0), lz_ci (Φ 53)), ((0, 0), lz_ci (Φ 54)), ((0, 0), lz_ci (Φ 55)), ((0, 0), lz_ci (Φ 56)), ((0, 0), lz_ci (Φ 57)), ((0, 0), lz_ci (Φ 58)), ((0, 0), lz_ci (Φ 59)), ((0, 0), lz_ci (Φ 60)), ((0, 0), lz_ci (Φ 61)), ((0, 0), lz_ci (Φ 62)), ((0, 0), lz_ci (Φ 63)), ((0, 0), lz_cl (Φ 64)), ((0, 0), lz_cl (Φ 65)), ((0, 0), lz_cl (Φ 66)), ((0, 0), lz_cl (Φ 67)), ((0, 0), lz_ci (Φ 68)), ((0, 0), lz_ci (Φ 69)), ((0, 0), lz_ci (Φ 70)), ((0, 0), lz_ci (Φ 71)), ((0, 0), lz_ci (Φ 72)), ((0, 0), lz_ci (Φ 73)), ((0, 0), lz_ci (Φ 74)), ((0, 0), lz_ci (Φ 75)), ((0, 0), lz_ci (Φ 76)), ((0, 0), lz_ci (Φ 77)), ((2, 42), lz_ci (Φ 78)), ((0, 0), lz_ci (Φ 79)), ((0, 0), lz_ci (Φ 80)), ((0, 0), lz_ci (Φ 81)), ((0, 0), lz_ci (Φ 82)), ((0, 0), lz_ci (Φ 83)), ((0, 0), lz_ci (Φ 84)), ((0, 0), lz_ci (Φ 85)), ((0, 0), lz_ci (Φ 86)), ((0, 0), lz_ci (Φ 87)), ((0, 0), lz_ci (Φ 88)), ((0, 0), lz_ci (Φ 89)), ((0, 0), lz_ci (Φ 90)), ((0, 0), lz_ci (Φ 91)), ((0, 0), lz_ci (Φ 92)), ((0, 0), lz_ci (Φ 93)), ((0, 0), lz_ci (Φ 94)), ((0, 0), lz_ci (Φ 95)), ((0, 0), lz_ci (Φ 96)), ((0, 0), lz_ci (Φ 97))]
set_option maxRecDepth 20000 in
theorem lz_gall : lz_all2 (fun (C : mv_C H2) (md' : mv_MD × Bool) => ∃ n', n' + 1 ≤ 1000 ∧ mv_Cal vw2 n' md' C) (lz_g lz_Ph) lz_n := ⟨⟨0, by decide, lz_cz_ok⟩, ⟨⟨0, by decide, lz_cz_ok⟩, ⟨⟨2, by decide, lz_ci_ok lz_pV_feed_ok⟩, ⟨⟨2, by decide, lz_ci_ok lz_pN_feed_ok⟩, ⟨⟨10, by decide, lz_ci_ok lz_pV_mill_ok⟩, ⟨⟨9, by decide, lz_ci_ok lz_pN_mill_ok⟩, ⟨⟨2, by decide, lz_ci_ok lz_pV_set_ok⟩, ⟨⟨2, by decide, lz_ci_ok lz_pN_set_ok⟩, ⟨⟨2, by decide, lz_ci_ok lz_pV_lawOf_ok⟩, ⟨⟨2, by decide, lz_ci_ok lz_pN_lawOf_ok⟩, ⟨⟨3, by decide, lz_ci_ok lz_pV_fill_ok⟩, ⟨⟨3, by decide, lz_ci_ok lz_pN_fill_ok⟩, ⟨⟨3, by decide, lz_ci_ok lz_pV_vatOf_ok⟩, ⟨⟨3, by decide, lz_ci_ok lz_pN_vatOf_ok⟩, ⟨⟨3, by decide, lz_ci_ok lz_pV_roster_ok⟩, ⟨⟨3, by decide, lz_ci_ok lz_pN_roster_ok⟩, ⟨⟨3, by decide, lz_ci_ok lz_pV_rosterOf_ok⟩, ⟨⟨3, by decide, lz_ci_ok lz_pN_rosterOf_ok⟩, ⟨⟨3, by decide, lz_ci_ok lz_pV_cloth_ok⟩, ⟨⟨3, by decide, lz_ci_ok lz_pN_cloth_ok⟩, ⟨⟨3, by decide, lz_ci_ok lz_pV_of_ok⟩, ⟨⟨3, by decide, lz_ci_ok lz_pN_of_ok⟩, ⟨⟨3, by decide, lz_ci_ok lz_pV_does_ok⟩, ⟨⟨3, by decide, lz_ci_ok lz_pN_does_ok⟩, ⟨⟨3, by decide, lz_ci_ok lz_pV_mind_ok⟩, ⟨⟨3, by decide, lz_ci_ok lz_pN_mind_ok⟩, ⟨⟨3, by decide, lz_ci_ok lz_pV_steep_ok⟩, ⟨⟨3, by decide, lz_ci_ok lz_pN_steep_ok⟩, ⟨⟨3, by decide, lz_ci_ok lz_pV_hang_ok⟩, ⟨⟨3, by decide, lz_ci_ok lz_pN_hang_ok⟩, ⟨⟨3, by decide, lz_ci_ok lz_pV_dip_ok⟩, ⟨⟨4, by decide, lz_ci_ok lz_pN_dip_ok⟩, ⟨⟨5, by decide, lz_ci_ok lz_pV_days_ok⟩, ⟨⟨6, by decide, lz_ci_ok lz_pN_days_ok⟩, ⟨⟨1, by decide, lz_ci_ok lz_pV_seed_ok⟩, ⟨⟨2, by decide, lz_ci_ok lz_pN_seed_ok⟩, ⟨⟨5, by decide, lz_ci_ok lz_pV_day_ok⟩, ⟨⟨6, by decide, lz_ci_ok lz_pN_day_ok⟩, ⟨⟨7, by decide, lz_ci_ok lz_pV_luck_ok⟩, ⟨⟨6, by decide, lz_ci_ok lz_pN_luck_ok⟩, ⟨⟨3, by decide, lz_ci_ok lz_pV_state_ok⟩, ⟨⟨4, by decide, lz_ci_ok lz_pN_state_ok⟩, ⟨⟨6, by decide, lz_ci_ok lz_pV_gone_ok⟩, ⟨⟨7, by decide, lz_ci_ok lz_pN_gone_ok⟩, ⟨⟨6, by decide, lz_ci_ok lz_pV_depth_ok⟩, ⟨⟨7, by decide, lz_ci_ok lz_pN_depth_ok⟩, ⟨⟨5, by decide, lz_ci_ok lz_pV_comes_ok⟩, ⟨⟨6, by decide, lz_ci_ok lz_pN_comes_ok⟩, ⟨⟨5, by decide, lz_ci_ok lz_pV_bare_ok⟩, ⟨⟨6, by decide, lz_ci_ok lz_pN_bare_ok⟩, ⟨⟨7, by decide, lz_ci_ok lz_pV_spoilt_ok⟩, ⟨⟨7, by decide, lz_ci_ok lz_pN_spoilt_ok⟩, ⟨⟨5, by decide, lz_ci_ok lz_pV_through_ok⟩, ⟨⟨5, by decide, lz_ci_ok lz_pN_through_ok⟩, ⟨⟨6, by decide, lz_ci_ok lz_pV_vatFor_ok⟩, ⟨⟨6, by decide, lz_ci_ok lz_pN_vatFor_ok⟩, ⟨⟨6, by decide, lz_ci_ok lz_pV_kindFor_ok⟩, ⟨⟨7, by decide, lz_ci_ok lz_pN_kindFor_ok⟩, ⟨⟨6, by decide, lz_ci_ok lz_pV_strengthFor_ok⟩, ⟨⟨7, by decide, lz_ci_ok lz_pN_strengthFor_ok⟩, ⟨⟨7, by decide, lz_ci_ok lz_pV_hangFor_ok⟩, ⟨⟨7, by decide, lz_ci_ok lz_pN_hangFor_ok⟩, ⟨⟨6, by decide, lz_ci_ok lz_pV_fits_ok⟩, ⟨⟨6, by decide, lz_ci_ok lz_pN_fits_ok⟩, ⟨⟨4, by decide, lz_cl_ok lz_pV_odds_ok⟩, ⟨⟨2, by decide, lz_cl_ok lz_pN_odds_ok⟩, ⟨⟨3, by decide, lz_cl_ok lz_pV_hope_ok⟩, ⟨⟨2, by decide, lz_cl_ok lz_pN_hope_ok⟩, ⟨⟨5, by decide, lz_ci_ok lz_pV_prove_ok⟩, ⟨⟨6, by decide, lz_ci_ok lz_pN_prove_ok⟩, ⟨⟨3, by decide, lz_ci_ok lz_pV_row_ok⟩, ⟨⟨3, by decide, lz_ci_ok lz_pN_row_ok⟩, ⟨⟨3, by decide, lz_ci_ok lz_pV_alterRow_ok⟩, ⟨⟨3, by decide, lz_ci_ok lz_pN_alterRow_ok⟩, ⟨⟨5, by decide, lz_ci_ok lz_pV_judge_ok⟩, ⟨⟨7, by decide, lz_ci_ok lz_pN_judge_ok⟩, ⟨⟨3, by decide, lz_ci_ok lz_pV_minds_ok⟩, ⟨⟨3, by decide, lz_ci_ok lz_pN_minds_ok⟩, ⟨⟨3, by decide, lz_ci_ok lz_pV_sheet_ok⟩, ⟨⟨3, by decide, lz_ci_ok lz_pN_sheet_ok⟩, ⟨⟨3, by decide, lz_ci_ok lz_pV_put_ok⟩, ⟨⟨3, by decide, lz_ci_ok lz_pN_put_ok⟩, ⟨⟨3, by decide, lz_ci_ok lz_pV_item_ok⟩, ⟨⟨3, by decide, lz_ci_ok lz_pN_item__ok⟩, ⟨⟨3, by decide, lz_ci_ok lz_pV_shelf_ok⟩, ⟨⟨3, by decide, lz_ci_ok lz_pN_shelf_ok⟩, ⟨⟨3, by decide, lz_ci_ok lz_pV_taken_ok⟩, ⟨⟨4, by decide, lz_ci_ok lz_pN_taken_ok⟩, ⟨⟨105, by decide, lz_ci_ok lz_pV_act_ok⟩, ⟨⟨9, by decide, lz_ci_ok lz_pN_act_ok⟩, ⟨⟨2, by decide, lz_ci_ok lz_pV_trace_ok⟩, ⟨⟨2, by decide, lz_ci_ok lz_pN_trace_ok⟩, ⟨⟨2, by decide, lz_ci_ok lz_pV_many_ok⟩, ⟨⟨3, by decide, lz_ci_ok lz_pN_many_ok⟩, ⟨⟨2, by decide, lz_ci_ok lz_pV_keep_ok⟩, ⟨⟨2, by decide, lz_ci_ok lz_pN_keep_ok⟩, ⟨⟨2, by decide, lz_ci_ok lz_pV_again_ok⟩, ⟨⟨2, by decide, lz_ci_ok lz_pN_again_ok⟩, trivial⟩⟩⟩⟩⟩⟩⟩⟩⟩⟩⟩⟩⟩⟩⟩⟩⟩⟩⟩⟩⟩⟩⟩⟩⟩⟩⟩⟩⟩⟩⟩⟩⟩⟩⟩⟩⟩⟩⟩⟩⟩⟩⟩⟩⟩⟩⟩⟩⟩⟩⟩⟩⟩⟩⟩⟩⟩⟩⟩⟩⟩⟩⟩⟩⟩⟩⟩⟩⟩⟩⟩⟩⟩⟩⟩⟩⟩⟩⟩⟩⟩⟩⟩⟩⟩⟩⟩⟩⟩⟩⟩⟩⟩⟩⟩⟩⟩⟩
theorem lz_G : ∀ (j : Nat) (C : mv_C H2) (md' : mv_MD × Bool), mv_nth j (lz_g lz_Ph) = some C → mv_nth j lz_n = some md' → ∃ n', n' + 1 ≤ 1000 ∧ mv_Cal vw2 n' md' C := lz_all2_nth lz_gall
