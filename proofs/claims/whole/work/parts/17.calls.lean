/-! what the law calls, as call-forms -/
def mv_ci (F : List mv_V → H2 → O2) : List mv_V → H2 → (List mv_V → H2 → O2) → O2 := fun as h k => mv_rI (F as h) fun x h => k [.inl (.int x)] h
def mv_cl (F : List mv_V → H2 → O2) : List mv_V → H2 → (List mv_V → H2 → O2) → O2 := fun as h k => mv_rL (F as h) fun x h => k [.inl (.long x)] h
def mv_cz : List mv_V → H2 → (List mv_V → H2 → O2) → O2 := fun _ _ _ => none
theorem mv_cz_ok {n : Nat} {q : mv_MD × Bool} {m : Nat × Nat} : mv_Cal vw2 n q (m, mv_cz) := fun _ _ _ _ h => by cases h
theorem mv_ci_ok {n mc ms : Nat} {md : mv_MD} {F : List mv_V → H2 → O2} (hF : ∀ as h vs h', F as h = some (vs, h') → mv_rcv md as ∧ mv_Met vw2 n mc ms md as h vs h') : mv_Cal vw2 n (md, true) ((mc, ms), mv_ci F) := by
  intro as h k res hh
  obtain ⟨x, h', h1, h9⟩ := mv_rI_some hh
  exact ⟨_, _, h9, Nat.le_refl _, fun _ => (hF _ _ _ _ h1).1, (hF _ _ _ _ h1).2⟩
theorem mv_cl_ok {n mc ms : Nat} {md : mv_MD} {F : List mv_V → H2 → O2} (hF : ∀ as h vs h', F as h = some (vs, h') → mv_rcv md as ∧ mv_Met vw2 n mc ms md as h vs h') : mv_Cal vw2 n (md, true) ((mc, ms), mv_cl F) := by
  intro as h k res hh
  obtain ⟨x, h', h1, h9⟩ := mv_rL_some hh
  exact ⟨_, _, h9, Nat.le_refl _, fun _ => (hF _ _ _ _ h1).1, (hF _ _ _ _ h1).2⟩
def mv_all2 {α β : Type} (P : α → β → Prop) : List α → List β → Prop
  | a :: l, b :: m => P a b ∧ mv_all2 P l m
  | _, _ => True
theorem mv_all2_nth {α β : Type} {P : α → β → Prop} : ∀ {G : List α} {N : List β}, mv_all2 P G N → ∀ j C md', mv_nth j G = some C → mv_nth j N = some md' → P C md'
  | [], _, _, j, C, md', h, _ => by cases j <;> cases h
  | _ :: _, [], _, j, C, md', _, h => by cases j <;> cases h
  | a :: l, b :: m, h, j, C, md', h1, h2 => by
    cases j with
    | zero =>
      obtain rfl := Option.some.inj h1
      obtain rfl := Option.some.inj h2
      exact h.1
    | succ j => exact mv_all2_nth h.2 j C md' h1 h2
def pV_feed : List mv_V → H2 → O2 := fun as h => match as with
  | [.inr (t0, o0), .inl (.long w1), .inl (.int v3)] => mv_gd (Nat.beq t0 7) (fV_feed o0 w1 v3 h)
  | _ => none
theorem pV_feed_eq (w1 : Int64) (v3 : Int32) (h : H2) : pV_feed [.inr (7, 0), .inl (.long w1), .inl (.int v3)] h = fV_feed 0 w1 v3 h := by
  show mv_gd (Nat.beq 7 7) (fV_feed 0 w1 v3 h) = _
  exact xgd
theorem pV_feed_ok : ∀ as h vs h', pV_feed as h = some (vs, h') → mv_rcv mdV_feed as ∧ mv_Met vw2 2 0 0 mdV_feed as h vs h' := by
  intro as h vs h' hh
  unfold pV_feed at hh
  split at hh
  · obtain ⟨a, b⟩ := mv_gd_some hh
    obtain rfl := Nat.eq_of_beq_eq_true a
    exact ⟨⟨_, _, _, rfl, Or.inl ⟨by decide, rfl⟩⟩, mV_feed _ _ _ h vs h' b⟩
  · cases hh
def pN_feed : List mv_V → H2 → O2 := fun as h => match as with
  | [.inr (t0, o0), .inl (.long w1), .inl (.int v3)] => mv_gd (Nat.beq t0 8) (fN_feed o0 w1 v3 h)
  | _ => none
theorem pN_feed_eq (w1 : Int64) (v3 : Int32) (h : H2) : pN_feed [.inr (8, 0), .inl (.long w1), .inl (.int v3)] h = fN_feed 0 w1 v3 h := by
  show mv_gd (Nat.beq 8 8) (fN_feed 0 w1 v3 h) = _
  exact xgd
theorem pN_feed_ok : ∀ as h vs h', pN_feed as h = some (vs, h') → mv_rcv mdN_feed as ∧ mv_Met vw2 2 0 0 mdN_feed as h vs h' := by
  intro as h vs h' hh
  unfold pN_feed at hh
  split at hh
  · obtain ⟨a, b⟩ := mv_gd_some hh
    obtain rfl := Nat.eq_of_beq_eq_true a
    exact ⟨⟨_, _, _, rfl, Or.inl ⟨by decide, rfl⟩⟩, mN_feed _ _ _ h vs h' b⟩
  · cases hh
def pV_mill : List mv_V → H2 → O2 := fun as h => match as with
  | [.inr (t0, o0)] => mv_gd (Nat.beq t0 7) (fV_mill o0 h)
  | _ => none
theorem pV_mill_eq (h : H2) : pV_mill [.inr (7, 0)] h = fV_mill 0  h := by
  show mv_gd (Nat.beq 7 7) (fV_mill 0  h) = _
  exact xgd
theorem pV_mill_ok : ∀ as h vs h', pV_mill as h = some (vs, h') → mv_rcv mdV_mill as ∧ mv_Met vw2 10 0 0 mdV_mill as h vs h' := by
  intro as h vs h' hh
  unfold pV_mill at hh
  split at hh
  · obtain ⟨a, b⟩ := mv_gd_some hh
    obtain rfl := Nat.eq_of_beq_eq_true a
    exact ⟨⟨_, _, _, rfl, Or.inl ⟨by decide, rfl⟩⟩, mV_mill _ h vs h' b⟩
  · cases hh
def pN_mill : List mv_V → H2 → O2 := fun as h => match as with
  | [.inr (t0, o0)] => mv_gd (Nat.beq t0 8) (fN_mill o0 h)
  | _ => none
theorem pN_mill_eq (h : H2) : pN_mill [.inr (8, 0)] h = fN_mill 0  h := by
  show mv_gd (Nat.beq 8 8) (fN_mill 0  h) = _
  exact xgd
theorem pN_mill_ok : ∀ as h vs h', pN_mill as h = some (vs, h') → mv_rcv mdN_mill as ∧ mv_Met vw2 9 0 0 mdN_mill as h vs h' := by
  intro as h vs h' hh
  unfold pN_mill at hh
  split at hh
  · obtain ⟨a, b⟩ := mv_gd_some hh
    obtain rfl := Nat.eq_of_beq_eq_true a
    exact ⟨⟨_, _, _, rfl, Or.inl ⟨by decide, rfl⟩⟩, mN_mill _ h vs h' b⟩
  · cases hh
def pV_set : List mv_V → H2 → O2 := fun as h => match as with
  | [.inr (t0, o0), .inl (.int v1), .inl (.int v2)] => mv_gd (Nat.beq t0 7) (fV_set o0 v1 v2 h)
  | _ => none
theorem pV_set_eq (v1 : Int32) (v2 : Int32) (h : H2) : pV_set [.inr (7, 0), .inl (.int v1), .inl (.int v2)] h = fV_set 0 v1 v2 h := by
  show mv_gd (Nat.beq 7 7) (fV_set 0 v1 v2 h) = _
  exact xgd
theorem pV_set_ok : ∀ as h vs h', pV_set as h = some (vs, h') → mv_rcv mdV_set as ∧ mv_Met vw2 2 0 0 mdV_set as h vs h' := by
  intro as h vs h' hh
  unfold pV_set at hh
  split at hh
  · obtain ⟨a, b⟩ := mv_gd_some hh
    obtain rfl := Nat.eq_of_beq_eq_true a
    exact ⟨⟨_, _, _, rfl, Or.inl ⟨by decide, rfl⟩⟩, mV_set _ _ _ h vs h' b⟩
  · cases hh
def pN_set : List mv_V → H2 → O2 := fun as h => match as with
  | [.inr (t0, o0), .inl (.int v1), .inl (.int v2)] => mv_gd (Nat.beq t0 8) (fN_set o0 v1 v2 h)
  | _ => none
theorem pN_set_eq (v1 : Int32) (v2 : Int32) (h : H2) : pN_set [.inr (8, 0), .inl (.int v1), .inl (.int v2)] h = fN_set 0 v1 v2 h := by
  show mv_gd (Nat.beq 8 8) (fN_set 0 v1 v2 h) = _
  exact xgd
theorem pN_set_ok : ∀ as h vs h', pN_set as h = some (vs, h') → mv_rcv mdN_set as ∧ mv_Met vw2 2 0 0 mdN_set as h vs h' := by
  intro as h vs h' hh
  unfold pN_set at hh
  split at hh
  · obtain ⟨a, b⟩ := mv_gd_some hh
    obtain rfl := Nat.eq_of_beq_eq_true a
    exact ⟨⟨_, _, _, rfl, Or.inl ⟨by decide, rfl⟩⟩, mN_set _ _ _ h vs h' b⟩
  · cases hh
def pV_lawOf : List mv_V → H2 → O2 := fun as h => match as with
  | [.inr (t0, o0), .inl (.int v1)] => mv_gd (Nat.beq t0 7) (fV_lawOf o0 v1 h)
  | _ => none
theorem pV_lawOf_eq (v1 : Int32) (h : H2) : pV_lawOf [.inr (7, 0), .inl (.int v1)] h = fV_lawOf 0 v1 h := by
  show mv_gd (Nat.beq 7 7) (fV_lawOf 0 v1 h) = _
  exact xgd
theorem pV_lawOf_ok : ∀ as h vs h', pV_lawOf as h = some (vs, h') → mv_rcv mdV_lawOf as ∧ mv_Met vw2 2 0 0 mdV_lawOf as h vs h' := by
  intro as h vs h' hh
  unfold pV_lawOf at hh
  split at hh
  · obtain ⟨a, b⟩ := mv_gd_some hh
    obtain rfl := Nat.eq_of_beq_eq_true a
    exact ⟨⟨_, _, _, rfl, Or.inl ⟨by decide, rfl⟩⟩, mV_lawOf _ _ h vs h' b⟩
  · cases hh
def pN_lawOf : List mv_V → H2 → O2 := fun as h => match as with
  | [.inr (t0, o0), .inl (.int v1)] => mv_gd (Nat.beq t0 8) (fN_lawOf o0 v1 h)
  | _ => none
theorem pN_lawOf_eq (v1 : Int32) (h : H2) : pN_lawOf [.inr (8, 0), .inl (.int v1)] h = fN_lawOf 0 v1 h := by
  show mv_gd (Nat.beq 8 8) (fN_lawOf 0 v1 h) = _
  exact xgd
theorem pN_lawOf_ok : ∀ as h vs h', pN_lawOf as h = some (vs, h') → mv_rcv mdN_lawOf as ∧ mv_Met vw2 2 0 0 mdN_lawOf as h vs h' := by
  intro as h vs h' hh
  unfold pN_lawOf at hh
  split at hh
  · obtain ⟨a, b⟩ := mv_gd_some hh
    obtain rfl := Nat.eq_of_beq_eq_true a
    exact ⟨⟨_, _, _, rfl, Or.inl ⟨by decide, rfl⟩⟩, mN_lawOf _ _ h vs h' b⟩
  · cases hh
def pV_fill : List mv_V → H2 → O2 := fun as h => match as with
  | [.inr (t0, o0), .inl (.int v1), .inl (.int v2), .inl (.int v3)] => mv_gd (Nat.beq t0 7) (fV_fill o0 v1 v2 v3 h)
  | _ => none
theorem pV_fill_eq (v1 : Int32) (v2 : Int32) (v3 : Int32) (h : H2) : pV_fill [.inr (7, 0), .inl (.int v1), .inl (.int v2), .inl (.int v3)] h = fV_fill 0 v1 v2 v3 h := by
  show mv_gd (Nat.beq 7 7) (fV_fill 0 v1 v2 v3 h) = _
  exact xgd
theorem pV_fill_ok : ∀ as h vs h', pV_fill as h = some (vs, h') → mv_rcv mdV_fill as ∧ mv_Met vw2 3 0 0 mdV_fill as h vs h' := by
  intro as h vs h' hh
  unfold pV_fill at hh
  split at hh
  · obtain ⟨a, b⟩ := mv_gd_some hh
    obtain rfl := Nat.eq_of_beq_eq_true a
    exact ⟨⟨_, _, _, rfl, Or.inl ⟨by decide, rfl⟩⟩, mV_fill _ _ _ _ h vs h' b⟩
  · cases hh
def pN_fill : List mv_V → H2 → O2 := fun as h => match as with
  | [.inr (t0, o0), .inl (.int v1), .inl (.int v2), .inl (.int v3)] => mv_gd (Nat.beq t0 8) (fN_fill o0 v1 v2 v3 h)
  | _ => none
theorem pN_fill_eq (v1 : Int32) (v2 : Int32) (v3 : Int32) (h : H2) : pN_fill [.inr (8, 0), .inl (.int v1), .inl (.int v2), .inl (.int v3)] h = fN_fill 0 v1 v2 v3 h := by
  show mv_gd (Nat.beq 8 8) (fN_fill 0 v1 v2 v3 h) = _
  exact xgd
theorem pN_fill_ok : ∀ as h vs h', pN_fill as h = some (vs, h') → mv_rcv mdN_fill as ∧ mv_Met vw2 3 0 0 mdN_fill as h vs h' := by
  intro as h vs h' hh
  unfold pN_fill at hh
  split at hh
  · obtain ⟨a, b⟩ := mv_gd_some hh
    obtain rfl := Nat.eq_of_beq_eq_true a
    exact ⟨⟨_, _, _, rfl, Or.inl ⟨by decide, rfl⟩⟩, mN_fill _ _ _ _ h vs h' b⟩
  · cases hh
def pV_vatOf : List mv_V → H2 → O2 := fun as h => match as with
  | [.inr (t0, o0), .inl (.int v1), .inl (.int v2)] => mv_gd (Nat.beq t0 7) (fV_vatOf o0 v1 v2 h)
  | _ => none
theorem pV_vatOf_eq (v1 : Int32) (v2 : Int32) (h : H2) : pV_vatOf [.inr (7, 0), .inl (.int v1), .inl (.int v2)] h = fV_vatOf 0 v1 v2 h := by
  show mv_gd (Nat.beq 7 7) (fV_vatOf 0 v1 v2 h) = _
  exact xgd
theorem pV_vatOf_ok : ∀ as h vs h', pV_vatOf as h = some (vs, h') → mv_rcv mdV_vatOf as ∧ mv_Met vw2 3 0 0 mdV_vatOf as h vs h' := by
  intro as h vs h' hh
  unfold pV_vatOf at hh
  split at hh
  · obtain ⟨a, b⟩ := mv_gd_some hh
    obtain rfl := Nat.eq_of_beq_eq_true a
    exact ⟨⟨_, _, _, rfl, Or.inl ⟨by decide, rfl⟩⟩, mV_vatOf _ _ _ h vs h' b⟩
  · cases hh
def pN_vatOf : List mv_V → H2 → O2 := fun as h => match as with
  | [.inr (t0, o0), .inl (.int v1), .inl (.int v2)] => mv_gd (Nat.beq t0 8) (fN_vatOf o0 v1 v2 h)
  | _ => none
theorem pN_vatOf_eq (v1 : Int32) (v2 : Int32) (h : H2) : pN_vatOf [.inr (8, 0), .inl (.int v1), .inl (.int v2)] h = fN_vatOf 0 v1 v2 h := by
  show mv_gd (Nat.beq 8 8) (fN_vatOf 0 v1 v2 h) = _
  exact xgd
theorem pN_vatOf_ok : ∀ as h vs h', pN_vatOf as h = some (vs, h') → mv_rcv mdN_vatOf as ∧ mv_Met vw2 3 0 0 mdN_vatOf as h vs h' := by
  intro as h vs h' hh
  unfold pN_vatOf at hh
  split at hh
  · obtain ⟨a, b⟩ := mv_gd_some hh
    obtain rfl := Nat.eq_of_beq_eq_true a
    exact ⟨⟨_, _, _, rfl, Or.inl ⟨by decide, rfl⟩⟩, mN_vatOf _ _ _ h vs h' b⟩
  · cases hh
def pV_roster : List mv_V → H2 → O2 := fun as h => match as with
  | [.inr (t0, o0), .inl (.int v1), .inl (.int v2)] => mv_gd (Nat.beq t0 7) (fV_roster o0 v1 v2 h)
  | _ => none
theorem pV_roster_eq (v1 : Int32) (v2 : Int32) (h : H2) : pV_roster [.inr (7, 0), .inl (.int v1), .inl (.int v2)] h = fV_roster 0 v1 v2 h := by
  show mv_gd (Nat.beq 7 7) (fV_roster 0 v1 v2 h) = _
  exact xgd
theorem pV_roster_ok : ∀ as h vs h', pV_roster as h = some (vs, h') → mv_rcv mdV_roster as ∧ mv_Met vw2 3 0 0 mdV_roster as h vs h' := by
  intro as h vs h' hh
  unfold pV_roster at hh
  split at hh
  · obtain ⟨a, b⟩ := mv_gd_some hh
    obtain rfl := Nat.eq_of_beq_eq_true a
    exact ⟨⟨_, _, _, rfl, Or.inl ⟨by decide, rfl⟩⟩, mV_roster _ _ _ h vs h' b⟩
  · cases hh
def pN_roster : List mv_V → H2 → O2 := fun as h => match as with
  | [.inr (t0, o0), .inl (.int v1), .inl (.int v2)] => mv_gd (Nat.beq t0 8) (fN_roster o0 v1 v2 h)
  | _ => none
theorem pN_roster_eq (v1 : Int32) (v2 : Int32) (h : H2) : pN_roster [.inr (8, 0), .inl (.int v1), .inl (.int v2)] h = fN_roster 0 v1 v2 h := by
  show mv_gd (Nat.beq 8 8) (fN_roster 0 v1 v2 h) = _
  exact xgd
theorem pN_roster_ok : ∀ as h vs h', pN_roster as h = some (vs, h') → mv_rcv mdN_roster as ∧ mv_Met vw2 3 0 0 mdN_roster as h vs h' := by
  intro as h vs h' hh
  unfold pN_roster at hh
  split at hh
  · obtain ⟨a, b⟩ := mv_gd_some hh
    obtain rfl := Nat.eq_of_beq_eq_true a
    exact ⟨⟨_, _, _, rfl, Or.inl ⟨by decide, rfl⟩⟩, mN_roster _ _ _ h vs h' b⟩
  · cases hh
def pV_rosterOf : List mv_V → H2 → O2 := fun as h => match as with
  | [.inr (t0, o0), .inl (.int v1)] => mv_gd (Nat.beq t0 7) (fV_rosterOf o0 v1 h)
  | _ => none
theorem pV_rosterOf_eq (v1 : Int32) (h : H2) : pV_rosterOf [.inr (7, 0), .inl (.int v1)] h = fV_rosterOf 0 v1 h := by
  show mv_gd (Nat.beq 7 7) (fV_rosterOf 0 v1 h) = _
  exact xgd
theorem pV_rosterOf_ok : ∀ as h vs h', pV_rosterOf as h = some (vs, h') → mv_rcv mdV_rosterOf as ∧ mv_Met vw2 3 0 0 mdV_rosterOf as h vs h' := by
  intro as h vs h' hh
  unfold pV_rosterOf at hh
  split at hh
  · obtain ⟨a, b⟩ := mv_gd_some hh
    obtain rfl := Nat.eq_of_beq_eq_true a
    exact ⟨⟨_, _, _, rfl, Or.inl ⟨by decide, rfl⟩⟩, mV_rosterOf _ _ h vs h' b⟩
  · cases hh
def pN_rosterOf : List mv_V → H2 → O2 := fun as h => match as with
  | [.inr (t0, o0), .inl (.int v1)] => mv_gd (Nat.beq t0 8) (fN_rosterOf o0 v1 h)
  | _ => none
theorem pN_rosterOf_eq (v1 : Int32) (h : H2) : pN_rosterOf [.inr (8, 0), .inl (.int v1)] h = fN_rosterOf 0 v1 h := by
  show mv_gd (Nat.beq 8 8) (fN_rosterOf 0 v1 h) = _
  exact xgd
theorem pN_rosterOf_ok : ∀ as h vs h', pN_rosterOf as h = some (vs, h') → mv_rcv mdN_rosterOf as ∧ mv_Met vw2 3 0 0 mdN_rosterOf as h vs h' := by
  intro as h vs h' hh
  unfold pN_rosterOf at hh
  split at hh
  · obtain ⟨a, b⟩ := mv_gd_some hh
    obtain rfl := Nat.eq_of_beq_eq_true a
    exact ⟨⟨_, _, _, rfl, Or.inl ⟨by decide, rfl⟩⟩, mN_rosterOf _ _ h vs h' b⟩
  · cases hh
def pV_cloth : List mv_V → H2 → O2 := fun as h => match as with
  | [.inr (t0, o0), .inl (.int v1)] => mv_gd (Nat.beq t0 7) (fV_cloth o0 v1 h)
  | _ => none
theorem pV_cloth_eq (v1 : Int32) (h : H2) : pV_cloth [.inr (7, 0), .inl (.int v1)] h = fV_cloth 0 v1 h := by
  show mv_gd (Nat.beq 7 7) (fV_cloth 0 v1 h) = _
  exact xgd
theorem pV_cloth_ok : ∀ as h vs h', pV_cloth as h = some (vs, h') → mv_rcv mdV_cloth as ∧ mv_Met vw2 3 0 0 mdV_cloth as h vs h' := by
  intro as h vs h' hh
  unfold pV_cloth at hh
  split at hh
  · obtain ⟨a, b⟩ := mv_gd_some hh
    obtain rfl := Nat.eq_of_beq_eq_true a
    exact ⟨⟨_, _, _, rfl, Or.inl ⟨by decide, rfl⟩⟩, mV_cloth _ _ h vs h' b⟩
  · cases hh
def pN_cloth : List mv_V → H2 → O2 := fun as h => match as with
  | [.inr (t0, o0), .inl (.int v1)] => mv_gd (Nat.beq t0 8) (fN_cloth o0 v1 h)
  | _ => none
theorem pN_cloth_eq (v1 : Int32) (h : H2) : pN_cloth [.inr (8, 0), .inl (.int v1)] h = fN_cloth 0 v1 h := by
  show mv_gd (Nat.beq 8 8) (fN_cloth 0 v1 h) = _
  exact xgd
theorem pN_cloth_ok : ∀ as h vs h', pN_cloth as h = some (vs, h') → mv_rcv mdN_cloth as ∧ mv_Met vw2 3 0 0 mdN_cloth as h vs h' := by
  intro as h vs h' hh
  unfold pN_cloth at hh
  split at hh
  · obtain ⟨a, b⟩ := mv_gd_some hh
    obtain rfl := Nat.eq_of_beq_eq_true a
    exact ⟨⟨_, _, _, rfl, Or.inl ⟨by decide, rfl⟩⟩, mN_cloth _ _ h vs h' b⟩
  · cases hh
def pV_of : List mv_V → H2 → O2 := fun as h => match as with
  | [.inr (t0, o0), .inl (.int v1), .inl (.int v2)] => mv_gd (Nat.beq t0 7) (fV_of o0 v1 v2 h)
  | _ => none
theorem pV_of_eq (v1 : Int32) (v2 : Int32) (h : H2) : pV_of [.inr (7, 0), .inl (.int v1), .inl (.int v2)] h = fV_of 0 v1 v2 h := by
  show mv_gd (Nat.beq 7 7) (fV_of 0 v1 v2 h) = _
  exact xgd
theorem pV_of_ok : ∀ as h vs h', pV_of as h = some (vs, h') → mv_rcv mdV_of as ∧ mv_Met vw2 3 0 0 mdV_of as h vs h' := by
  intro as h vs h' hh
  unfold pV_of at hh
  split at hh
  · obtain ⟨a, b⟩ := mv_gd_some hh
    obtain rfl := Nat.eq_of_beq_eq_true a
    exact ⟨⟨_, _, _, rfl, Or.inl ⟨by decide, rfl⟩⟩, mV_of _ _ _ h vs h' b⟩
  · cases hh
def pN_of : List mv_V → H2 → O2 := fun as h => match as with
  | [.inr (t0, o0), .inl (.int v1), .inl (.int v2)] => mv_gd (Nat.beq t0 8) (fN_of o0 v1 v2 h)
  | _ => none
theorem pN_of_eq (v1 : Int32) (v2 : Int32) (h : H2) : pN_of [.inr (8, 0), .inl (.int v1), .inl (.int v2)] h = fN_of 0 v1 v2 h := by
  show mv_gd (Nat.beq 8 8) (fN_of 0 v1 v2 h) = _
  exact xgd
theorem pN_of_ok : ∀ as h vs h', pN_of as h = some (vs, h') → mv_rcv mdN_of as ∧ mv_Met vw2 3 0 0 mdN_of as h vs h' := by
  intro as h vs h' hh
  unfold pN_of at hh
  split at hh
  · obtain ⟨a, b⟩ := mv_gd_some hh
    obtain rfl := Nat.eq_of_beq_eq_true a
    exact ⟨⟨_, _, _, rfl, Or.inl ⟨by decide, rfl⟩⟩, mN_of _ _ _ h vs h' b⟩
  · cases hh
def pV_does : List mv_V → H2 → O2 := fun as h => match as with
  | [.inr (t0, o0), .inl (.int v1), .inl (.int v2), .inl (.int v3)] => mv_gd (Nat.beq t0 7) (fV_does o0 v1 v2 v3 h)
  | _ => none
theorem pV_does_eq (v1 : Int32) (v2 : Int32) (v3 : Int32) (h : H2) : pV_does [.inr (7, 0), .inl (.int v1), .inl (.int v2), .inl (.int v3)] h = fV_does 0 v1 v2 v3 h := by
  show mv_gd (Nat.beq 7 7) (fV_does 0 v1 v2 v3 h) = _
  exact xgd
theorem pV_does_ok : ∀ as h vs h', pV_does as h = some (vs, h') → mv_rcv mdV_does as ∧ mv_Met vw2 3 0 0 mdV_does as h vs h' := by
  intro as h vs h' hh
  unfold pV_does at hh
  split at hh
  · obtain ⟨a, b⟩ := mv_gd_some hh
    obtain rfl := Nat.eq_of_beq_eq_true a
    exact ⟨⟨_, _, _, rfl, Or.inl ⟨by decide, rfl⟩⟩, mV_does _ _ _ _ h vs h' b⟩
  · cases hh
def pN_does : List mv_V → H2 → O2 := fun as h => match as with
  | [.inr (t0, o0), .inl (.int v1), .inl (.int v2), .inl (.int v3)] => mv_gd (Nat.beq t0 8) (fN_does o0 v1 v2 v3 h)
  | _ => none
theorem pN_does_eq (v1 : Int32) (v2 : Int32) (v3 : Int32) (h : H2) : pN_does [.inr (8, 0), .inl (.int v1), .inl (.int v2), .inl (.int v3)] h = fN_does 0 v1 v2 v3 h := by
  show mv_gd (Nat.beq 8 8) (fN_does 0 v1 v2 v3 h) = _
  exact xgd
theorem pN_does_ok : ∀ as h vs h', pN_does as h = some (vs, h') → mv_rcv mdN_does as ∧ mv_Met vw2 3 0 0 mdN_does as h vs h' := by
  intro as h vs h' hh
  unfold pN_does at hh
  split at hh
  · obtain ⟨a, b⟩ := mv_gd_some hh
    obtain rfl := Nat.eq_of_beq_eq_true a
    exact ⟨⟨_, _, _, rfl, Or.inl ⟨by decide, rfl⟩⟩, mN_does _ _ _ _ h vs h' b⟩
  · cases hh
def pV_mind : List mv_V → H2 → O2 := fun as h => match as with
  | [.inr (t0, o0), .inl (.int v1), .inl (.int v2)] => mv_gd (Nat.beq t0 7) (fV_mind o0 v1 v2 h)
  | _ => none
theorem pV_mind_eq (v1 : Int32) (v2 : Int32) (h : H2) : pV_mind [.inr (7, 0), .inl (.int v1), .inl (.int v2)] h = fV_mind 0 v1 v2 h := by
  show mv_gd (Nat.beq 7 7) (fV_mind 0 v1 v2 h) = _
  exact xgd
theorem pV_mind_ok : ∀ as h vs h', pV_mind as h = some (vs, h') → mv_rcv mdV_mind as ∧ mv_Met vw2 3 0 0 mdV_mind as h vs h' := by
  intro as h vs h' hh
  unfold pV_mind at hh
  split at hh
  · obtain ⟨a, b⟩ := mv_gd_some hh
    obtain rfl := Nat.eq_of_beq_eq_true a
    exact ⟨⟨_, _, _, rfl, Or.inl ⟨by decide, rfl⟩⟩, mV_mind _ _ _ h vs h' b⟩
  · cases hh
def pN_mind : List mv_V → H2 → O2 := fun as h => match as with
  | [.inr (t0, o0), .inl (.int v1), .inl (.int v2)] => mv_gd (Nat.beq t0 8) (fN_mind o0 v1 v2 h)
  | _ => none
theorem pN_mind_eq (v1 : Int32) (v2 : Int32) (h : H2) : pN_mind [.inr (8, 0), .inl (.int v1), .inl (.int v2)] h = fN_mind 0 v1 v2 h := by
  show mv_gd (Nat.beq 8 8) (fN_mind 0 v1 v2 h) = _
  exact xgd
theorem pN_mind_ok : ∀ as h vs h', pN_mind as h = some (vs, h') → mv_rcv mdN_mind as ∧ mv_Met vw2 3 0 0 mdN_mind as h vs h' := by
  intro as h vs h' hh
  unfold pN_mind at hh
  split at hh
  · obtain ⟨a, b⟩ := mv_gd_some hh
    obtain rfl := Nat.eq_of_beq_eq_true a
    exact ⟨⟨_, _, _, rfl, Or.inl ⟨by decide, rfl⟩⟩, mN_mind _ _ _ h vs h' b⟩
  · cases hh
def pV_steep : List mv_V → H2 → O2 := fun as h => match as with
  | [.inr (t0, o0), .inl (.int v1), .inl (.int v2), .inl (.int v3)] => mv_gd (Nat.beq t0 7) (fV_steep o0 v1 v2 v3 h)
  | _ => none
theorem pV_steep_eq (v1 : Int32) (v2 : Int32) (v3 : Int32) (h : H2) : pV_steep [.inr (7, 0), .inl (.int v1), .inl (.int v2), .inl (.int v3)] h = fV_steep 0 v1 v2 v3 h := by
  show mv_gd (Nat.beq 7 7) (fV_steep 0 v1 v2 v3 h) = _
  exact xgd
theorem pV_steep_ok : ∀ as h vs h', pV_steep as h = some (vs, h') → mv_rcv mdV_steep as ∧ mv_Met vw2 3 0 0 mdV_steep as h vs h' := by
  intro as h vs h' hh
  unfold pV_steep at hh
  split at hh
  · obtain ⟨a, b⟩ := mv_gd_some hh
    obtain rfl := Nat.eq_of_beq_eq_true a
    exact ⟨⟨_, _, _, rfl, Or.inl ⟨by decide, rfl⟩⟩, mV_steep _ _ _ _ h vs h' b⟩
  · cases hh
def pN_steep : List mv_V → H2 → O2 := fun as h => match as with
  | [.inr (t0, o0), .inl (.int v1), .inl (.int v2), .inl (.int v3)] => mv_gd (Nat.beq t0 8) (fN_steep o0 v1 v2 v3 h)
  | _ => none
theorem pN_steep_eq (v1 : Int32) (v2 : Int32) (v3 : Int32) (h : H2) : pN_steep [.inr (8, 0), .inl (.int v1), .inl (.int v2), .inl (.int v3)] h = fN_steep 0 v1 v2 v3 h := by
  show mv_gd (Nat.beq 8 8) (fN_steep 0 v1 v2 v3 h) = _
  exact xgd
theorem pN_steep_ok : ∀ as h vs h', pN_steep as h = some (vs, h') → mv_rcv mdN_steep as ∧ mv_Met vw2 3 0 0 mdN_steep as h vs h' := by
  intro as h vs h' hh
  unfold pN_steep at hh
  split at hh
  · obtain ⟨a, b⟩ := mv_gd_some hh
    obtain rfl := Nat.eq_of_beq_eq_true a
    exact ⟨⟨_, _, _, rfl, Or.inl ⟨by decide, rfl⟩⟩, mN_steep _ _ _ _ h vs h' b⟩
  · cases hh
def pV_hang : List mv_V → H2 → O2 := fun as h => match as with
  | [.inr (t0, o0), .inl (.int v1), .inl (.int v2)] => mv_gd (Nat.beq t0 7) (fV_hang o0 v1 v2 h)
  | _ => none
theorem pV_hang_eq (v1 : Int32) (v2 : Int32) (h : H2) : pV_hang [.inr (7, 0), .inl (.int v1), .inl (.int v2)] h = fV_hang 0 v1 v2 h := by
  show mv_gd (Nat.beq 7 7) (fV_hang 0 v1 v2 h) = _
  exact xgd
theorem pV_hang_ok : ∀ as h vs h', pV_hang as h = some (vs, h') → mv_rcv mdV_hang as ∧ mv_Met vw2 3 0 0 mdV_hang as h vs h' := by
  intro as h vs h' hh
  unfold pV_hang at hh
  split at hh
  · obtain ⟨a, b⟩ := mv_gd_some hh
    obtain rfl := Nat.eq_of_beq_eq_true a
    exact ⟨⟨_, _, _, rfl, Or.inl ⟨by decide, rfl⟩⟩, mV_hang _ _ _ h vs h' b⟩
  · cases hh
def pN_hang : List mv_V → H2 → O2 := fun as h => match as with
  | [.inr (t0, o0), .inl (.int v1), .inl (.int v2)] => mv_gd (Nat.beq t0 8) (fN_hang o0 v1 v2 h)
  | _ => none
theorem pN_hang_eq (v1 : Int32) (v2 : Int32) (h : H2) : pN_hang [.inr (8, 0), .inl (.int v1), .inl (.int v2)] h = fN_hang 0 v1 v2 h := by
  show mv_gd (Nat.beq 8 8) (fN_hang 0 v1 v2 h) = _
  exact xgd
theorem pN_hang_ok : ∀ as h vs h', pN_hang as h = some (vs, h') → mv_rcv mdN_hang as ∧ mv_Met vw2 3 0 0 mdN_hang as h vs h' := by
  intro as h vs h' hh
  unfold pN_hang at hh
  split at hh
  · obtain ⟨a, b⟩ := mv_gd_some hh
    obtain rfl := Nat.eq_of_beq_eq_true a
    exact ⟨⟨_, _, _, rfl, Or.inl ⟨by decide, rfl⟩⟩, mN_hang _ _ _ h vs h' b⟩
  · cases hh
def pV_dip : List mv_V → H2 → O2 := fun as h => match as with
  | [.inr (t0, o0), .inl (.int v1), .inl (.int v2)] => mv_gd (Nat.beq t0 7) (fV_dip o0 v1 v2 h)
  | _ => none
theorem pV_dip_eq (v1 : Int32) (v2 : Int32) (h : H2) : pV_dip [.inr (7, 0), .inl (.int v1), .inl (.int v2)] h = fV_dip 0 v1 v2 h := by
  show mv_gd (Nat.beq 7 7) (fV_dip 0 v1 v2 h) = _
  exact xgd
theorem pV_dip_ok : ∀ as h vs h', pV_dip as h = some (vs, h') → mv_rcv mdV_dip as ∧ mv_Met vw2 3 0 0 mdV_dip as h vs h' := by
  intro as h vs h' hh
  unfold pV_dip at hh
  split at hh
  · obtain ⟨a, b⟩ := mv_gd_some hh
    obtain rfl := Nat.eq_of_beq_eq_true a
    exact ⟨⟨_, _, _, rfl, Or.inl ⟨by decide, rfl⟩⟩, mV_dip _ _ _ h vs h' b⟩
  · cases hh
def pN_dip : List mv_V → H2 → O2 := fun as h => match as with
  | [.inr (t0, o0), .inl (.int v1), .inl (.int v2)] => mv_gd (Nat.beq t0 8) (fN_dip o0 v1 v2 h)
  | _ => none
theorem pN_dip_eq (v1 : Int32) (v2 : Int32) (h : H2) : pN_dip [.inr (8, 0), .inl (.int v1), .inl (.int v2)] h = fN_dip 0 v1 v2 h := by
  show mv_gd (Nat.beq 8 8) (fN_dip 0 v1 v2 h) = _
  exact xgd
theorem pN_dip_ok : ∀ as h vs h', pN_dip as h = some (vs, h') → mv_rcv mdN_dip as ∧ mv_Met vw2 4 0 0 mdN_dip as h vs h' := by
  intro as h vs h' hh
  unfold pN_dip at hh
  split at hh
  · obtain ⟨a, b⟩ := mv_gd_some hh
    obtain rfl := Nat.eq_of_beq_eq_true a
    exact ⟨⟨_, _, _, rfl, Or.inl ⟨by decide, rfl⟩⟩, mN_dip _ _ _ h vs h' b⟩
  · cases hh
def pV_days : List mv_V → H2 → O2 := fun as h => match as with
  | [.inr (t0, o0), .inl (.int v1)] => mv_gd (Nat.beq t0 7) (fV_days o0 v1 h)
  | _ => none
theorem pV_days_eq (v1 : Int32) (h : H2) : pV_days [.inr (7, 0), .inl (.int v1)] h = fV_days 0 v1 h := by
  show mv_gd (Nat.beq 7 7) (fV_days 0 v1 h) = _
  exact xgd
theorem pV_days_ok : ∀ as h vs h', pV_days as h = some (vs, h') → mv_rcv mdV_days as ∧ mv_Met vw2 5 0 0 mdV_days as h vs h' := by
  intro as h vs h' hh
  unfold pV_days at hh
  split at hh
  · obtain ⟨a, b⟩ := mv_gd_some hh
    obtain rfl := Nat.eq_of_beq_eq_true a
    exact ⟨⟨_, _, _, rfl, Or.inl ⟨by decide, rfl⟩⟩, mV_days _ _ h vs h' b⟩
  · cases hh
def pN_days : List mv_V → H2 → O2 := fun as h => match as with
  | [.inr (t0, o0), .inl (.int v1)] => mv_gd (Nat.beq t0 8) (fN_days o0 v1 h)
  | _ => none
theorem pN_days_eq (v1 : Int32) (h : H2) : pN_days [.inr (8, 0), .inl (.int v1)] h = fN_days 0 v1 h := by
  show mv_gd (Nat.beq 8 8) (fN_days 0 v1 h) = _
  exact xgd
theorem pN_days_ok : ∀ as h vs h', pN_days as h = some (vs, h') → mv_rcv mdN_days as ∧ mv_Met vw2 6 0 0 mdN_days as h vs h' := by
  intro as h vs h' hh
  unfold pN_days at hh
  split at hh
  · obtain ⟨a, b⟩ := mv_gd_some hh
    obtain rfl := Nat.eq_of_beq_eq_true a
    exact ⟨⟨_, _, _, rfl, Or.inl ⟨by decide, rfl⟩⟩, mN_days _ _ h vs h' b⟩
  · cases hh
def pV_seed : List mv_V → H2 → O2 := fun as h => match as with
  | [.inr (t0, o0), .inl (.int v1)] => mv_gd (Nat.beq t0 7) (fV_seed o0 v1 h)
  | _ => none
theorem pV_seed_eq (v1 : Int32) (h : H2) : pV_seed [.inr (7, 0), .inl (.int v1)] h = fV_seed 0 v1 h := by
  show mv_gd (Nat.beq 7 7) (fV_seed 0 v1 h) = _
  exact xgd
theorem pV_seed_ok : ∀ as h vs h', pV_seed as h = some (vs, h') → mv_rcv mdV_seed as ∧ mv_Met vw2 1 0 0 mdV_seed as h vs h' := by
  intro as h vs h' hh
  unfold pV_seed at hh
  split at hh
  · obtain ⟨a, b⟩ := mv_gd_some hh
    obtain rfl := Nat.eq_of_beq_eq_true a
    exact ⟨⟨_, _, _, rfl, Or.inl ⟨by decide, rfl⟩⟩, mV_seed _ _ h vs h' b⟩
  · cases hh
def pN_seed : List mv_V → H2 → O2 := fun as h => match as with
  | [.inr (t0, o0), .inl (.int v1)] => mv_gd (Nat.beq t0 8) (fN_seed o0 v1 h)
  | _ => none
theorem pN_seed_eq (v1 : Int32) (h : H2) : pN_seed [.inr (8, 0), .inl (.int v1)] h = fN_seed 0 v1 h := by
  show mv_gd (Nat.beq 8 8) (fN_seed 0 v1 h) = _
  exact xgd
theorem pN_seed_ok : ∀ as h vs h', pN_seed as h = some (vs, h') → mv_rcv mdN_seed as ∧ mv_Met vw2 2 0 0 mdN_seed as h vs h' := by
  intro as h vs h' hh
  unfold pN_seed at hh
  split at hh
  · obtain ⟨a, b⟩ := mv_gd_some hh
    obtain rfl := Nat.eq_of_beq_eq_true a
    exact ⟨⟨_, _, _, rfl, Or.inl ⟨by decide, rfl⟩⟩, mN_seed _ _ h vs h' b⟩
  · cases hh
def pV_day : List mv_V → H2 → O2 := fun as h => match as with
  | [.inr (t0, o0)] => mv_gd (Nat.beq t0 7) (fV_day o0 h)
  | _ => none
theorem pV_day_eq (h : H2) : pV_day [.inr (7, 0)] h = fV_day 0  h := by
  show mv_gd (Nat.beq 7 7) (fV_day 0  h) = _
  exact xgd
theorem pV_day_ok : ∀ as h vs h', pV_day as h = some (vs, h') → mv_rcv mdV_day as ∧ mv_Met vw2 5 0 0 mdV_day as h vs h' := by
  intro as h vs h' hh
  unfold pV_day at hh
  split at hh
  · obtain ⟨a, b⟩ := mv_gd_some hh
    obtain rfl := Nat.eq_of_beq_eq_true a
    exact ⟨⟨_, _, _, rfl, Or.inl ⟨by decide, rfl⟩⟩, mV_day _ h vs h' b⟩
  · cases hh
def pN_day : List mv_V → H2 → O2 := fun as h => match as with
  | [.inr (t0, o0)] => mv_gd (Nat.beq t0 8) (fN_day o0 h)
  | _ => none
theorem pN_day_eq (h : H2) : pN_day [.inr (8, 0)] h = fN_day 0  h := by
  show mv_gd (Nat.beq 8 8) (fN_day 0  h) = _
  exact xgd
theorem pN_day_ok : ∀ as h vs h', pN_day as h = some (vs, h') → mv_rcv mdN_day as ∧ mv_Met vw2 6 0 0 mdN_day as h vs h' := by
  intro as h vs h' hh
  unfold pN_day at hh
  split at hh
  · obtain ⟨a, b⟩ := mv_gd_some hh
    obtain rfl := Nat.eq_of_beq_eq_true a
    exact ⟨⟨_, _, _, rfl, Or.inl ⟨by decide, rfl⟩⟩, mN_day _ h vs h' b⟩
  · cases hh
def pV_luck : List mv_V → H2 → O2 := fun as h => match as with
  | [.inr (t0, o0), .inl (.int v1)] => mv_gd (Nat.beq t0 7) (fV_luck o0 v1 h)
  | _ => none
theorem pV_luck_eq (v1 : Int32) (h : H2) : pV_luck [.inr (7, 0), .inl (.int v1)] h = fV_luck 0 v1 h := by
  show mv_gd (Nat.beq 7 7) (fV_luck 0 v1 h) = _
  exact xgd
theorem pV_luck_ok : ∀ as h vs h', pV_luck as h = some (vs, h') → mv_rcv mdV_luck as ∧ mv_Met vw2 7 0 0 mdV_luck as h vs h' := by
  intro as h vs h' hh
  unfold pV_luck at hh
  split at hh
  · obtain ⟨a, b⟩ := mv_gd_some hh
    obtain rfl := Nat.eq_of_beq_eq_true a
    exact ⟨⟨_, _, _, rfl, Or.inl ⟨by decide, rfl⟩⟩, mV_luck _ _ h vs h' b⟩
  · cases hh
def pN_luck : List mv_V → H2 → O2 := fun as h => match as with
  | [.inr (t0, o0), .inl (.int v1)] => mv_gd (Nat.beq t0 8) (fN_luck o0 v1 h)
  | _ => none
theorem pN_luck_eq (v1 : Int32) (h : H2) : pN_luck [.inr (8, 0), .inl (.int v1)] h = fN_luck 0 v1 h := by
  show mv_gd (Nat.beq 8 8) (fN_luck 0 v1 h) = _
  exact xgd
theorem pN_luck_ok : ∀ as h vs h', pN_luck as h = some (vs, h') → mv_rcv mdN_luck as ∧ mv_Met vw2 6 0 0 mdN_luck as h vs h' := by
  intro as h vs h' hh
  unfold pN_luck at hh
  split at hh
  · obtain ⟨a, b⟩ := mv_gd_some hh
    obtain rfl := Nat.eq_of_beq_eq_true a
    exact ⟨⟨_, _, _, rfl, Or.inl ⟨by decide, rfl⟩⟩, mN_luck _ _ h vs h' b⟩
  · cases hh
def pV_state : List mv_V → H2 → O2 := fun as h => match as with
  | [.inr (t0, o0), .inl (.int v1)] => mv_gd (Nat.beq t0 7) (fV_state o0 v1 h)
  | _ => none
theorem pV_state_eq (v1 : Int32) (h : H2) : pV_state [.inr (7, 0), .inl (.int v1)] h = fV_state 0 v1 h := by
  show mv_gd (Nat.beq 7 7) (fV_state 0 v1 h) = _
  exact xgd
theorem pV_state_ok : ∀ as h vs h', pV_state as h = some (vs, h') → mv_rcv mdV_state as ∧ mv_Met vw2 3 0 0 mdV_state as h vs h' := by
  intro as h vs h' hh
  unfold pV_state at hh
  split at hh
  · obtain ⟨a, b⟩ := mv_gd_some hh
    obtain rfl := Nat.eq_of_beq_eq_true a
    exact ⟨⟨_, _, _, rfl, Or.inl ⟨by decide, rfl⟩⟩, mV_state _ _ h vs h' b⟩
  · cases hh
def pN_state : List mv_V → H2 → O2 := fun as h => match as with
  | [.inr (t0, o0), .inl (.int v1)] => mv_gd (Nat.beq t0 8) (fN_state o0 v1 h)
  | _ => none
theorem pN_state_eq (v1 : Int32) (h : H2) : pN_state [.inr (8, 0), .inl (.int v1)] h = fN_state 0 v1 h := by
  show mv_gd (Nat.beq 8 8) (fN_state 0 v1 h) = _
  exact xgd
theorem pN_state_ok : ∀ as h vs h', pN_state as h = some (vs, h') → mv_rcv mdN_state as ∧ mv_Met vw2 4 0 0 mdN_state as h vs h' := by
  intro as h vs h' hh
  unfold pN_state at hh
  split at hh
  · obtain ⟨a, b⟩ := mv_gd_some hh
    obtain rfl := Nat.eq_of_beq_eq_true a
    exact ⟨⟨_, _, _, rfl, Or.inl ⟨by decide, rfl⟩⟩, mN_state _ _ h vs h' b⟩
  · cases hh
def pV_gone : List mv_V → H2 → O2 := fun as h => match as with
  | [.inr (t0, o0), .inl (.int v1), .inl (.int v2)] => mv_gd (Nat.beq t0 7) (fV_gone o0 v1 v2 h)
  | _ => none
theorem pV_gone_eq (v1 : Int32) (v2 : Int32) (h : H2) : pV_gone [.inr (7, 0), .inl (.int v1), .inl (.int v2)] h = fV_gone 0 v1 v2 h := by
  show mv_gd (Nat.beq 7 7) (fV_gone 0 v1 v2 h) = _
  exact xgd
theorem pV_gone_ok : ∀ as h vs h', pV_gone as h = some (vs, h') → mv_rcv mdV_gone as ∧ mv_Met vw2 6 0 0 mdV_gone as h vs h' := by
  intro as h vs h' hh
  unfold pV_gone at hh
  split at hh
  · obtain ⟨a, b⟩ := mv_gd_some hh
    obtain rfl := Nat.eq_of_beq_eq_true a
    exact ⟨⟨_, _, _, rfl, Or.inl ⟨by decide, rfl⟩⟩, mV_gone _ _ _ h vs h' b⟩
  · cases hh
def pN_gone : List mv_V → H2 → O2 := fun as h => match as with
  | [.inr (t0, o0), .inl (.int v1), .inl (.int v2)] => mv_gd (Nat.beq t0 8) (fN_gone o0 v1 v2 h)
  | _ => none
theorem pN_gone_eq (v1 : Int32) (v2 : Int32) (h : H2) : pN_gone [.inr (8, 0), .inl (.int v1), .inl (.int v2)] h = fN_gone 0 v1 v2 h := by
  show mv_gd (Nat.beq 8 8) (fN_gone 0 v1 v2 h) = _
  exact xgd
theorem pN_gone_ok : ∀ as h vs h', pN_gone as h = some (vs, h') → mv_rcv mdN_gone as ∧ mv_Met vw2 7 0 0 mdN_gone as h vs h' := by
  intro as h vs h' hh
  unfold pN_gone at hh
  split at hh
  · obtain ⟨a, b⟩ := mv_gd_some hh
    obtain rfl := Nat.eq_of_beq_eq_true a
    exact ⟨⟨_, _, _, rfl, Or.inl ⟨by decide, rfl⟩⟩, mN_gone _ _ _ h vs h' b⟩
  · cases hh
def pV_depth : List mv_V → H2 → O2 := fun as h => match as with
  | [.inr (t0, o0), .inl (.int v1), .inl (.int v2)] => mv_gd (Nat.beq t0 7) (fV_depth o0 v1 v2 h)
  | _ => none
theorem pV_depth_eq (v1 : Int32) (v2 : Int32) (h : H2) : pV_depth [.inr (7, 0), .inl (.int v1), .inl (.int v2)] h = fV_depth 0 v1 v2 h := by
  show mv_gd (Nat.beq 7 7) (fV_depth 0 v1 v2 h) = _
  exact xgd
theorem pV_depth_ok : ∀ as h vs h', pV_depth as h = some (vs, h') → mv_rcv mdV_depth as ∧ mv_Met vw2 6 0 0 mdV_depth as h vs h' := by
  intro as h vs h' hh
  unfold pV_depth at hh
  split at hh
  · obtain ⟨a, b⟩ := mv_gd_some hh
    obtain rfl := Nat.eq_of_beq_eq_true a
    exact ⟨⟨_, _, _, rfl, Or.inl ⟨by decide, rfl⟩⟩, mV_depth _ _ _ h vs h' b⟩
  · cases hh
def pN_depth : List mv_V → H2 → O2 := fun as h => match as with
  | [.inr (t0, o0), .inl (.int v1), .inl (.int v2)] => mv_gd (Nat.beq t0 8) (fN_depth o0 v1 v2 h)
  | _ => none
theorem pN_depth_eq (v1 : Int32) (v2 : Int32) (h : H2) : pN_depth [.inr (8, 0), .inl (.int v1), .inl (.int v2)] h = fN_depth 0 v1 v2 h := by
  show mv_gd (Nat.beq 8 8) (fN_depth 0 v1 v2 h) = _
  exact xgd
theorem pN_depth_ok : ∀ as h vs h', pN_depth as h = some (vs, h') → mv_rcv mdN_depth as ∧ mv_Met vw2 7 0 0 mdN_depth as h vs h' := by
  intro as h vs h' hh
  unfold pN_depth at hh
  split at hh
  · obtain ⟨a, b⟩ := mv_gd_some hh
    obtain rfl := Nat.eq_of_beq_eq_true a
    exact ⟨⟨_, _, _, rfl, Or.inl ⟨by decide, rfl⟩⟩, mN_depth _ _ _ h vs h' b⟩
  · cases hh
def pV_comes : List mv_V → H2 → O2 := fun as h => match as with
  | [.inr (t0, o0), .inl (.int v1), .inl (.int v2)] => mv_gd (Nat.beq t0 7) (fV_comes o0 v1 v2 h)
  | _ => none
theorem pV_comes_eq (v1 : Int32) (v2 : Int32) (h : H2) : pV_comes [.inr (7, 0), .inl (.int v1), .inl (.int v2)] h = fV_comes 0 v1 v2 h := by
  show mv_gd (Nat.beq 7 7) (fV_comes 0 v1 v2 h) = _
  exact xgd
theorem pV_comes_ok : ∀ as h vs h', pV_comes as h = some (vs, h') → mv_rcv mdV_comes as ∧ mv_Met vw2 5 0 0 mdV_comes as h vs h' := by
  intro as h vs h' hh
  unfold pV_comes at hh
  split at hh
  · obtain ⟨a, b⟩ := mv_gd_some hh
    obtain rfl := Nat.eq_of_beq_eq_true a
    exact ⟨⟨_, _, _, rfl, Or.inl ⟨by decide, rfl⟩⟩, mV_comes _ _ _ h vs h' b⟩
  · cases hh
def pN_comes : List mv_V → H2 → O2 := fun as h => match as with
  | [.inr (t0, o0), .inl (.int v1), .inl (.int v2)] => mv_gd (Nat.beq t0 8) (fN_comes o0 v1 v2 h)
  | _ => none
theorem pN_comes_eq (v1 : Int32) (v2 : Int32) (h : H2) : pN_comes [.inr (8, 0), .inl (.int v1), .inl (.int v2)] h = fN_comes 0 v1 v2 h := by
  show mv_gd (Nat.beq 8 8) (fN_comes 0 v1 v2 h) = _
  exact xgd
theorem pN_comes_ok : ∀ as h vs h', pN_comes as h = some (vs, h') → mv_rcv mdN_comes as ∧ mv_Met vw2 6 0 0 mdN_comes as h vs h' := by
  intro as h vs h' hh
  unfold pN_comes at hh
  split at hh
  · obtain ⟨a, b⟩ := mv_gd_some hh
    obtain rfl := Nat.eq_of_beq_eq_true a
    exact ⟨⟨_, _, _, rfl, Or.inl ⟨by decide, rfl⟩⟩, mN_comes _ _ _ h vs h' b⟩
  · cases hh
def pV_bare : List mv_V → H2 → O2 := fun as h => match as with
  | [.inr (t0, o0), .inl (.int v1)] => mv_gd (Nat.beq t0 7) (fV_bare o0 v1 h)
  | _ => none
theorem pV_bare_eq (v1 : Int32) (h : H2) : pV_bare [.inr (7, 0), .inl (.int v1)] h = fV_bare 0 v1 h := by
  show mv_gd (Nat.beq 7 7) (fV_bare 0 v1 h) = _
  exact xgd
theorem pV_bare_ok : ∀ as h vs h', pV_bare as h = some (vs, h') → mv_rcv mdV_bare as ∧ mv_Met vw2 5 0 0 mdV_bare as h vs h' := by
  intro as h vs h' hh
  unfold pV_bare at hh
  split at hh
  · obtain ⟨a, b⟩ := mv_gd_some hh
    obtain rfl := Nat.eq_of_beq_eq_true a
    exact ⟨⟨_, _, _, rfl, Or.inl ⟨by decide, rfl⟩⟩, mV_bare _ _ h vs h' b⟩
  · cases hh
def pN_bare : List mv_V → H2 → O2 := fun as h => match as with
  | [.inr (t0, o0), .inl (.int v1)] => mv_gd (Nat.beq t0 8) (fN_bare o0 v1 h)
  | _ => none
theorem pN_bare_eq (v1 : Int32) (h : H2) : pN_bare [.inr (8, 0), .inl (.int v1)] h = fN_bare 0 v1 h := by
  show mv_gd (Nat.beq 8 8) (fN_bare 0 v1 h) = _
  exact xgd
theorem pN_bare_ok : ∀ as h vs h', pN_bare as h = some (vs, h') → mv_rcv mdN_bare as ∧ mv_Met vw2 6 0 0 mdN_bare as h vs h' := by
  intro as h vs h' hh
  unfold pN_bare at hh
  split at hh
  · obtain ⟨a, b⟩ := mv_gd_some hh
    obtain rfl := Nat.eq_of_beq_eq_true a
    exact ⟨⟨_, _, _, rfl, Or.inl ⟨by decide, rfl⟩⟩, mN_bare _ _ h vs h' b⟩
  · cases hh
def pV_spoilt : List mv_V → H2 → O2 := fun as h => match as with
  | [.inr (t0, o0), .inl (.int v1)] => mv_gd (Nat.beq t0 7) (fV_spoilt o0 v1 h)
  | _ => none
theorem pV_spoilt_eq (v1 : Int32) (h : H2) : pV_spoilt [.inr (7, 0), .inl (.int v1)] h = fV_spoilt 0 v1 h := by
  show mv_gd (Nat.beq 7 7) (fV_spoilt 0 v1 h) = _
  exact xgd
theorem pV_spoilt_ok : ∀ as h vs h', pV_spoilt as h = some (vs, h') → mv_rcv mdV_spoilt as ∧ mv_Met vw2 7 0 0 mdV_spoilt as h vs h' := by
  intro as h vs h' hh
  unfold pV_spoilt at hh
  split at hh
  · obtain ⟨a, b⟩ := mv_gd_some hh
    obtain rfl := Nat.eq_of_beq_eq_true a
    exact ⟨⟨_, _, _, rfl, Or.inl ⟨by decide, rfl⟩⟩, mV_spoilt _ _ h vs h' b⟩
  · cases hh
def pN_spoilt : List mv_V → H2 → O2 := fun as h => match as with
  | [.inr (t0, o0), .inl (.int v1)] => mv_gd (Nat.beq t0 8) (fN_spoilt o0 v1 h)
  | _ => none
theorem pN_spoilt_eq (v1 : Int32) (h : H2) : pN_spoilt [.inr (8, 0), .inl (.int v1)] h = fN_spoilt 0 v1 h := by
  show mv_gd (Nat.beq 8 8) (fN_spoilt 0 v1 h) = _
  exact xgd
theorem pN_spoilt_ok : ∀ as h vs h', pN_spoilt as h = some (vs, h') → mv_rcv mdN_spoilt as ∧ mv_Met vw2 7 0 0 mdN_spoilt as h vs h' := by
  intro as h vs h' hh
  unfold pN_spoilt at hh
  split at hh
  · obtain ⟨a, b⟩ := mv_gd_some hh
    obtain rfl := Nat.eq_of_beq_eq_true a
    exact ⟨⟨_, _, _, rfl, Or.inl ⟨by decide, rfl⟩⟩, mN_spoilt _ _ h vs h' b⟩
  · cases hh
def pV_through : List mv_V → H2 → O2 := fun as h => match as with
  | [.inr (t0, o0), .inl (.int v1), .inl (.int v2)] => mv_gd (Nat.beq t0 7) (fV_through o0 v1 v2 h)
  | _ => none
theorem pV_through_eq (v1 : Int32) (v2 : Int32) (h : H2) : pV_through [.inr (7, 0), .inl (.int v1), .inl (.int v2)] h = fV_through 0 v1 v2 h := by
  show mv_gd (Nat.beq 7 7) (fV_through 0 v1 v2 h) = _
  exact xgd
theorem pV_through_ok : ∀ as h vs h', pV_through as h = some (vs, h') → mv_rcv mdV_through as ∧ mv_Met vw2 5 0 0 mdV_through as h vs h' := by
  intro as h vs h' hh
  unfold pV_through at hh
  split at hh
  · obtain ⟨a, b⟩ := mv_gd_some hh
    obtain rfl := Nat.eq_of_beq_eq_true a
    exact ⟨⟨_, _, _, rfl, Or.inl ⟨by decide, rfl⟩⟩, mV_through _ _ _ h vs h' b⟩
  · cases hh
def pN_through : List mv_V → H2 → O2 := fun as h => match as with
  | [.inr (t0, o0), .inl (.int v1), .inl (.int v2)] => mv_gd (Nat.beq t0 8) (fN_through o0 v1 v2 h)
  | _ => none
theorem pN_through_eq (v1 : Int32) (v2 : Int32) (h : H2) : pN_through [.inr (8, 0), .inl (.int v1), .inl (.int v2)] h = fN_through 0 v1 v2 h := by
  show mv_gd (Nat.beq 8 8) (fN_through 0 v1 v2 h) = _
  exact xgd
theorem pN_through_ok : ∀ as h vs h', pN_through as h = some (vs, h') → mv_rcv mdN_through as ∧ mv_Met vw2 5 0 0 mdN_through as h vs h' := by
  intro as h vs h' hh
  unfold pN_through at hh
  split at hh
  · obtain ⟨a, b⟩ := mv_gd_some hh
    obtain rfl := Nat.eq_of_beq_eq_true a
    exact ⟨⟨_, _, _, rfl, Or.inl ⟨by decide, rfl⟩⟩, mN_through _ _ _ h vs h' b⟩
  · cases hh
def pV_vatFor : List mv_V → H2 → O2 := fun as h => match as with
  | [.inr (t0, o0), .inl (.int v1), .inl (.int v2)] => mv_gd (Nat.beq t0 7) (fV_vatFor o0 v1 v2 h)
  | _ => none
theorem pV_vatFor_eq (v1 : Int32) (v2 : Int32) (h : H2) : pV_vatFor [.inr (7, 0), .inl (.int v1), .inl (.int v2)] h = fV_vatFor 0 v1 v2 h := by
  show mv_gd (Nat.beq 7 7) (fV_vatFor 0 v1 v2 h) = _
  exact xgd
theorem pV_vatFor_ok : ∀ as h vs h', pV_vatFor as h = some (vs, h') → mv_rcv mdV_vatFor as ∧ mv_Met vw2 6 0 0 mdV_vatFor as h vs h' := by
  intro as h vs h' hh
  unfold pV_vatFor at hh
  split at hh
  · obtain ⟨a, b⟩ := mv_gd_some hh
    obtain rfl := Nat.eq_of_beq_eq_true a
    exact ⟨⟨_, _, _, rfl, Or.inl ⟨by decide, rfl⟩⟩, mV_vatFor _ _ _ h vs h' b⟩
  · cases hh
def pN_vatFor : List mv_V → H2 → O2 := fun as h => match as with
  | [.inr (t0, o0), .inl (.int v1), .inl (.int v2)] => mv_gd (Nat.beq t0 8) (fN_vatFor o0 v1 v2 h)
  | _ => none
theorem pN_vatFor_eq (v1 : Int32) (v2 : Int32) (h : H2) : pN_vatFor [.inr (8, 0), .inl (.int v1), .inl (.int v2)] h = fN_vatFor 0 v1 v2 h := by
  show mv_gd (Nat.beq 8 8) (fN_vatFor 0 v1 v2 h) = _
  exact xgd
theorem pN_vatFor_ok : ∀ as h vs h', pN_vatFor as h = some (vs, h') → mv_rcv mdN_vatFor as ∧ mv_Met vw2 6 0 0 mdN_vatFor as h vs h' := by
  intro as h vs h' hh
  unfold pN_vatFor at hh
  split at hh
  · obtain ⟨a, b⟩ := mv_gd_some hh
    obtain rfl := Nat.eq_of_beq_eq_true a
    exact ⟨⟨_, _, _, rfl, Or.inl ⟨by decide, rfl⟩⟩, mN_vatFor _ _ _ h vs h' b⟩
  · cases hh
def pV_kindFor : List mv_V → H2 → O2 := fun as h => match as with
  | [.inr (t0, o0), .inl (.int v1), .inl (.int v2)] => mv_gd (Nat.beq t0 7) (fV_kindFor o0 v1 v2 h)
  | _ => none
theorem pV_kindFor_eq (v1 : Int32) (v2 : Int32) (h : H2) : pV_kindFor [.inr (7, 0), .inl (.int v1), .inl (.int v2)] h = fV_kindFor 0 v1 v2 h := by
  show mv_gd (Nat.beq 7 7) (fV_kindFor 0 v1 v2 h) = _
  exact xgd
theorem pV_kindFor_ok : ∀ as h vs h', pV_kindFor as h = some (vs, h') → mv_rcv mdV_kindFor as ∧ mv_Met vw2 6 0 0 mdV_kindFor as h vs h' := by
  intro as h vs h' hh
  unfold pV_kindFor at hh
  split at hh
  · obtain ⟨a, b⟩ := mv_gd_some hh
    obtain rfl := Nat.eq_of_beq_eq_true a
    exact ⟨⟨_, _, _, rfl, Or.inl ⟨by decide, rfl⟩⟩, mV_kindFor _ _ _ h vs h' b⟩
  · cases hh
def pN_kindFor : List mv_V → H2 → O2 := fun as h => match as with
  | [.inr (t0, o0), .inl (.int v1), .inl (.int v2)] => mv_gd (Nat.beq t0 8) (fN_kindFor o0 v1 v2 h)
  | _ => none
theorem pN_kindFor_eq (v1 : Int32) (v2 : Int32) (h : H2) : pN_kindFor [.inr (8, 0), .inl (.int v1), .inl (.int v2)] h = fN_kindFor 0 v1 v2 h := by
  show mv_gd (Nat.beq 8 8) (fN_kindFor 0 v1 v2 h) = _
  exact xgd
theorem pN_kindFor_ok : ∀ as h vs h', pN_kindFor as h = some (vs, h') → mv_rcv mdN_kindFor as ∧ mv_Met vw2 7 0 0 mdN_kindFor as h vs h' := by
  intro as h vs h' hh
  unfold pN_kindFor at hh
  split at hh
  · obtain ⟨a, b⟩ := mv_gd_some hh
    obtain rfl := Nat.eq_of_beq_eq_true a
    exact ⟨⟨_, _, _, rfl, Or.inl ⟨by decide, rfl⟩⟩, mN_kindFor _ _ _ h vs h' b⟩
  · cases hh
def pV_strengthFor : List mv_V → H2 → O2 := fun as h => match as with
  | [.inr (t0, o0), .inl (.int v1), .inl (.int v2), .inl (.int v3), .inl (.int v4)] => mv_gd (Nat.beq t0 7) (fV_strengthFor o0 v1 v2 v3 v4 h)
  | _ => none
theorem pV_strengthFor_eq (v1 : Int32) (v2 : Int32) (v3 : Int32) (v4 : Int32) (h : H2) : pV_strengthFor [.inr (7, 0), .inl (.int v1), .inl (.int v2), .inl (.int v3), .inl (.int v4)] h = fV_strengthFor 0 v1 v2 v3 v4 h := by
  show mv_gd (Nat.beq 7 7) (fV_strengthFor 0 v1 v2 v3 v4 h) = _
  exact xgd
theorem pV_strengthFor_ok : ∀ as h vs h', pV_strengthFor as h = some (vs, h') → mv_rcv mdV_strengthFor as ∧ mv_Met vw2 6 0 0 mdV_strengthFor as h vs h' := by
  intro as h vs h' hh
  unfold pV_strengthFor at hh
  split at hh
  · obtain ⟨a, b⟩ := mv_gd_some hh
    obtain rfl := Nat.eq_of_beq_eq_true a
    exact ⟨⟨_, _, _, rfl, Or.inl ⟨by decide, rfl⟩⟩, mV_strengthFor _ _ _ _ _ h vs h' b⟩
  · cases hh
def pN_strengthFor : List mv_V → H2 → O2 := fun as h => match as with
  | [.inr (t0, o0), .inl (.int v1), .inl (.int v2), .inl (.int v3), .inl (.int v4)] => mv_gd (Nat.beq t0 8) (fN_strengthFor o0 v1 v2 v3 v4 h)
  | _ => none
theorem pN_strengthFor_eq (v1 : Int32) (v2 : Int32) (v3 : Int32) (v4 : Int32) (h : H2) : pN_strengthFor [.inr (8, 0), .inl (.int v1), .inl (.int v2), .inl (.int v3), .inl (.int v4)] h = fN_strengthFor 0 v1 v2 v3 v4 h := by
  show mv_gd (Nat.beq 8 8) (fN_strengthFor 0 v1 v2 v3 v4 h) = _
  exact xgd
theorem pN_strengthFor_ok : ∀ as h vs h', pN_strengthFor as h = some (vs, h') → mv_rcv mdN_strengthFor as ∧ mv_Met vw2 7 0 0 mdN_strengthFor as h vs h' := by
  intro as h vs h' hh
  unfold pN_strengthFor at hh
  split at hh
  · obtain ⟨a, b⟩ := mv_gd_some hh
    obtain rfl := Nat.eq_of_beq_eq_true a
    exact ⟨⟨_, _, _, rfl, Or.inl ⟨by decide, rfl⟩⟩, mN_strengthFor _ _ _ _ _ h vs h' b⟩
  · cases hh
def pV_hangFor : List mv_V → H2 → O2 := fun as h => match as with
  | [.inr (t0, o0), .inl (.int v1), .inl (.int v2)] => mv_gd (Nat.beq t0 7) (fV_hangFor o0 v1 v2 h)
  | _ => none
theorem pV_hangFor_eq (v1 : Int32) (v2 : Int32) (h : H2) : pV_hangFor [.inr (7, 0), .inl (.int v1), .inl (.int v2)] h = fV_hangFor 0 v1 v2 h := by
  show mv_gd (Nat.beq 7 7) (fV_hangFor 0 v1 v2 h) = _
  exact xgd
theorem pV_hangFor_ok : ∀ as h vs h', pV_hangFor as h = some (vs, h') → mv_rcv mdV_hangFor as ∧ mv_Met vw2 7 0 0 mdV_hangFor as h vs h' := by
  intro as h vs h' hh
  unfold pV_hangFor at hh
  split at hh
  · obtain ⟨a, b⟩ := mv_gd_some hh
    obtain rfl := Nat.eq_of_beq_eq_true a
    exact ⟨⟨_, _, _, rfl, Or.inl ⟨by decide, rfl⟩⟩, mV_hangFor _ _ _ h vs h' b⟩
  · cases hh
def pN_hangFor : List mv_V → H2 → O2 := fun as h => match as with
  | [.inr (t0, o0), .inl (.int v1), .inl (.int v2)] => mv_gd (Nat.beq t0 8) (fN_hangFor o0 v1 v2 h)
  | _ => none
theorem pN_hangFor_eq (v1 : Int32) (v2 : Int32) (h : H2) : pN_hangFor [.inr (8, 0), .inl (.int v1), .inl (.int v2)] h = fN_hangFor 0 v1 v2 h := by
  show mv_gd (Nat.beq 8 8) (fN_hangFor 0 v1 v2 h) = _
  exact xgd
theorem pN_hangFor_ok : ∀ as h vs h', pN_hangFor as h = some (vs, h') → mv_rcv mdN_hangFor as ∧ mv_Met vw2 7 0 0 mdN_hangFor as h vs h' := by
  intro as h vs h' hh
  unfold pN_hangFor at hh
  split at hh
  · obtain ⟨a, b⟩ := mv_gd_some hh
    obtain rfl := Nat.eq_of_beq_eq_true a
    exact ⟨⟨_, _, _, rfl, Or.inl ⟨by decide, rfl⟩⟩, mN_hangFor _ _ _ h vs h' b⟩
  · cases hh
def pV_fits : List mv_V → H2 → O2 := fun as h => match as with
  | [.inr (t0, o0), .inl (.int v1), .inl (.int v2), .inl (.int v3)] => mv_gd (Nat.beq t0 7) (fV_fits o0 v1 v2 v3 h)
  | _ => none
theorem pV_fits_eq (v1 : Int32) (v2 : Int32) (v3 : Int32) (h : H2) : pV_fits [.inr (7, 0), .inl (.int v1), .inl (.int v2), .inl (.int v3)] h = fV_fits 0 v1 v2 v3 h := by
  show mv_gd (Nat.beq 7 7) (fV_fits 0 v1 v2 v3 h) = _
  exact xgd
theorem pV_fits_ok : ∀ as h vs h', pV_fits as h = some (vs, h') → mv_rcv mdV_fits as ∧ mv_Met vw2 6 0 0 mdV_fits as h vs h' := by
  intro as h vs h' hh
  unfold pV_fits at hh
  split at hh
  · obtain ⟨a, b⟩ := mv_gd_some hh
    obtain rfl := Nat.eq_of_beq_eq_true a
    exact ⟨⟨_, _, _, rfl, Or.inl ⟨by decide, rfl⟩⟩, mV_fits _ _ _ _ h vs h' b⟩
  · cases hh
def pN_fits : List mv_V → H2 → O2 := fun as h => match as with
  | [.inr (t0, o0), .inl (.int v1), .inl (.int v2), .inl (.int v3)] => mv_gd (Nat.beq t0 8) (fN_fits o0 v1 v2 v3 h)
  | _ => none
theorem pN_fits_eq (v1 : Int32) (v2 : Int32) (v3 : Int32) (h : H2) : pN_fits [.inr (8, 0), .inl (.int v1), .inl (.int v2), .inl (.int v3)] h = fN_fits 0 v1 v2 v3 h := by
  show mv_gd (Nat.beq 8 8) (fN_fits 0 v1 v2 v3 h) = _
  exact xgd
theorem pN_fits_ok : ∀ as h vs h', pN_fits as h = some (vs, h') → mv_rcv mdN_fits as ∧ mv_Met vw2 6 0 0 mdN_fits as h vs h' := by
  intro as h vs h' hh
  unfold pN_fits at hh
  split at hh
  · obtain ⟨a, b⟩ := mv_gd_some hh
    obtain rfl := Nat.eq_of_beq_eq_true a
    exact ⟨⟨_, _, _, rfl, Or.inl ⟨by decide, rfl⟩⟩, mN_fits _ _ _ _ h vs h' b⟩
  · cases hh
def pV_odds : List mv_V → H2 → O2 := fun as h => match as with
  | [.inr (t0, o0), .inl (.int v1), .inl (.int v2), .inl (.int v3)] => mv_gd (Nat.beq t0 7) (fV_odds o0 v1 v2 v3 h)
  | _ => none
theorem pV_odds_eq (v1 : Int32) (v2 : Int32) (v3 : Int32) (h : H2) : pV_odds [.inr (7, 0), .inl (.int v1), .inl (.int v2), .inl (.int v3)] h = fV_odds 0 v1 v2 v3 h := by
  show mv_gd (Nat.beq 7 7) (fV_odds 0 v1 v2 v3 h) = _
  exact xgd
theorem pV_odds_ok : ∀ as h vs h', pV_odds as h = some (vs, h') → mv_rcv mdV_odds as ∧ mv_Met vw2 4 0 0 mdV_odds as h vs h' := by
  intro as h vs h' hh
  unfold pV_odds at hh
  split at hh
  · obtain ⟨a, b⟩ := mv_gd_some hh
    obtain rfl := Nat.eq_of_beq_eq_true a
    exact ⟨⟨_, _, _, rfl, Or.inl ⟨by decide, rfl⟩⟩, mV_odds _ _ _ _ h vs h' b⟩
  · cases hh
def pN_odds : List mv_V → H2 → O2 := fun as h => match as with
  | [.inr (t0, o0), .inl (.int v1), .inl (.int v2), .inl (.int v3)] => mv_gd (Nat.beq t0 8) (fN_odds o0 v1 v2 v3 h)
  | _ => none
theorem pN_odds_eq (v1 : Int32) (v2 : Int32) (v3 : Int32) (h : H2) : pN_odds [.inr (8, 0), .inl (.int v1), .inl (.int v2), .inl (.int v3)] h = fN_odds 0 v1 v2 v3 h := by
  show mv_gd (Nat.beq 8 8) (fN_odds 0 v1 v2 v3 h) = _
  exact xgd
theorem pN_odds_ok : ∀ as h vs h', pN_odds as h = some (vs, h') → mv_rcv mdN_odds as ∧ mv_Met vw2 2 0 0 mdN_odds as h vs h' := by
  intro as h vs h' hh
  unfold pN_odds at hh
  split at hh
  · obtain ⟨a, b⟩ := mv_gd_some hh
    obtain rfl := Nat.eq_of_beq_eq_true a
    exact ⟨⟨_, _, _, rfl, Or.inl ⟨by decide, rfl⟩⟩, mN_odds _ _ _ _ h vs h' b⟩
  · cases hh
def pV_hope : List mv_V → H2 → O2 := fun as h => match as with
  | [.inr (t0, o0), .inl (.int v1), .inl (.int v2)] => mv_gd (Nat.beq t0 7) (fV_hope o0 v1 v2 h)
  | _ => none
theorem pV_hope_eq (v1 : Int32) (v2 : Int32) (h : H2) : pV_hope [.inr (7, 0), .inl (.int v1), .inl (.int v2)] h = fV_hope 0 v1 v2 h := by
  show mv_gd (Nat.beq 7 7) (fV_hope 0 v1 v2 h) = _
  exact xgd
theorem pV_hope_ok : ∀ as h vs h', pV_hope as h = some (vs, h') → mv_rcv mdV_hope as ∧ mv_Met vw2 3 0 0 mdV_hope as h vs h' := by
  intro as h vs h' hh
  unfold pV_hope at hh
  split at hh
  · obtain ⟨a, b⟩ := mv_gd_some hh
    obtain rfl := Nat.eq_of_beq_eq_true a
    exact ⟨⟨_, _, _, rfl, Or.inl ⟨by decide, rfl⟩⟩, mV_hope _ _ _ h vs h' b⟩
  · cases hh
def pN_hope : List mv_V → H2 → O2 := fun as h => match as with
  | [.inr (t0, o0), .inl (.int v1), .inl (.int v2)] => mv_gd (Nat.beq t0 8) (fN_hope o0 v1 v2 h)
  | _ => none
theorem pN_hope_eq (v1 : Int32) (v2 : Int32) (h : H2) : pN_hope [.inr (8, 0), .inl (.int v1), .inl (.int v2)] h = fN_hope 0 v1 v2 h := by
  show mv_gd (Nat.beq 8 8) (fN_hope 0 v1 v2 h) = _
  exact xgd
theorem pN_hope_ok : ∀ as h vs h', pN_hope as h = some (vs, h') → mv_rcv mdN_hope as ∧ mv_Met vw2 2 0 0 mdN_hope as h vs h' := by
  intro as h vs h' hh
  unfold pN_hope at hh
  split at hh
  · obtain ⟨a, b⟩ := mv_gd_some hh
    obtain rfl := Nat.eq_of_beq_eq_true a
    exact ⟨⟨_, _, _, rfl, Or.inl ⟨by decide, rfl⟩⟩, mN_hope _ _ _ h vs h' b⟩
  · cases hh
def pV_prove : List mv_V → H2 → O2 := fun as h => match as with
  | [.inr (t0, o0), .inl (.int v1), .inl (.int v2)] => mv_gd (Nat.beq t0 7) (fV_prove o0 v1 v2 h)
  | _ => none
theorem pV_prove_eq (v1 : Int32) (v2 : Int32) (h : H2) : pV_prove [.inr (7, 0), .inl (.int v1), .inl (.int v2)] h = fV_prove 0 v1 v2 h := by
  show mv_gd (Nat.beq 7 7) (fV_prove 0 v1 v2 h) = _
  exact xgd
theorem pV_prove_ok : ∀ as h vs h', pV_prove as h = some (vs, h') → mv_rcv mdV_prove as ∧ mv_Met vw2 5 0 0 mdV_prove as h vs h' := by
  intro as h vs h' hh
  unfold pV_prove at hh
  split at hh
  · obtain ⟨a, b⟩ := mv_gd_some hh
    obtain rfl := Nat.eq_of_beq_eq_true a
    exact ⟨⟨_, _, _, rfl, Or.inl ⟨by decide, rfl⟩⟩, mV_prove _ _ _ h vs h' b⟩
  · cases hh
def pN_prove : List mv_V → H2 → O2 := fun as h => match as with
  | [.inr (t0, o0), .inl (.int v1), .inl (.int v2)] => mv_gd (Nat.beq t0 8) (fN_prove o0 v1 v2 h)
  | _ => none
theorem pN_prove_eq (v1 : Int32) (v2 : Int32) (h : H2) : pN_prove [.inr (8, 0), .inl (.int v1), .inl (.int v2)] h = fN_prove 0 v1 v2 h := by
  show mv_gd (Nat.beq 8 8) (fN_prove 0 v1 v2 h) = _
  exact xgd
theorem pN_prove_ok : ∀ as h vs h', pN_prove as h = some (vs, h') → mv_rcv mdN_prove as ∧ mv_Met vw2 6 0 0 mdN_prove as h vs h' := by
  intro as h vs h' hh
  unfold pN_prove at hh
  split at hh
  · obtain ⟨a, b⟩ := mv_gd_some hh
    obtain rfl := Nat.eq_of_beq_eq_true a
    exact ⟨⟨_, _, _, rfl, Or.inl ⟨by decide, rfl⟩⟩, mN_prove _ _ _ h vs h' b⟩
  · cases hh
def pV_row : List mv_V → H2 → O2 := fun as h => match as with
  | [.inr (t0, o0), .inl (.int v1), .inl (.int v2)] => mv_gd (Nat.beq t0 7) (fV_row o0 v1 v2 h)
  | _ => none
theorem pV_row_eq (v1 : Int32) (v2 : Int32) (h : H2) : pV_row [.inr (7, 0), .inl (.int v1), .inl (.int v2)] h = fV_row 0 v1 v2 h := by
  show mv_gd (Nat.beq 7 7) (fV_row 0 v1 v2 h) = _
  exact xgd
theorem pV_row_ok : ∀ as h vs h', pV_row as h = some (vs, h') → mv_rcv mdV_row as ∧ mv_Met vw2 3 0 0 mdV_row as h vs h' := by
  intro as h vs h' hh
  unfold pV_row at hh
  split at hh
  · obtain ⟨a, b⟩ := mv_gd_some hh
    obtain rfl := Nat.eq_of_beq_eq_true a
    exact ⟨⟨_, _, _, rfl, Or.inl ⟨by decide, rfl⟩⟩, mV_row _ _ _ h vs h' b⟩
  · cases hh
def pN_row : List mv_V → H2 → O2 := fun as h => match as with
  | [.inr (t0, o0), .inl (.int v1), .inl (.int v2)] => mv_gd (Nat.beq t0 8) (fN_row o0 v1 v2 h)
  | _ => none
theorem pN_row_eq (v1 : Int32) (v2 : Int32) (h : H2) : pN_row [.inr (8, 0), .inl (.int v1), .inl (.int v2)] h = fN_row 0 v1 v2 h := by
  show mv_gd (Nat.beq 8 8) (fN_row 0 v1 v2 h) = _
  exact xgd
theorem pN_row_ok : ∀ as h vs h', pN_row as h = some (vs, h') → mv_rcv mdN_row as ∧ mv_Met vw2 3 0 0 mdN_row as h vs h' := by
  intro as h vs h' hh
  unfold pN_row at hh
  split at hh
  · obtain ⟨a, b⟩ := mv_gd_some hh
    obtain rfl := Nat.eq_of_beq_eq_true a
    exact ⟨⟨_, _, _, rfl, Or.inl ⟨by decide, rfl⟩⟩, mN_row _ _ _ h vs h' b⟩
  · cases hh
def pV_alterRow : List mv_V → H2 → O2 := fun as h => match as with
  | [.inr (t0, o0), .inl (.int v1), .inl (.int v2), .inl (.int v3)] => mv_gd (Nat.beq t0 7) (fV_alterRow o0 v1 v2 v3 h)
  | _ => none
theorem pV_alterRow_eq (v1 : Int32) (v2 : Int32) (v3 : Int32) (h : H2) : pV_alterRow [.inr (7, 0), .inl (.int v1), .inl (.int v2), .inl (.int v3)] h = fV_alterRow 0 v1 v2 v3 h := by
  show mv_gd (Nat.beq 7 7) (fV_alterRow 0 v1 v2 v3 h) = _
  exact xgd
theorem pV_alterRow_ok : ∀ as h vs h', pV_alterRow as h = some (vs, h') → mv_rcv mdV_alterRow as ∧ mv_Met vw2 3 0 0 mdV_alterRow as h vs h' := by
  intro as h vs h' hh
  unfold pV_alterRow at hh
  split at hh
  · obtain ⟨a, b⟩ := mv_gd_some hh
    obtain rfl := Nat.eq_of_beq_eq_true a
    exact ⟨⟨_, _, _, rfl, Or.inl ⟨by decide, rfl⟩⟩, mV_alterRow _ _ _ _ h vs h' b⟩
  · cases hh
def pN_alterRow : List mv_V → H2 → O2 := fun as h => match as with
  | [.inr (t0, o0), .inl (.int v1), .inl (.int v2), .inl (.int v3)] => mv_gd (Nat.beq t0 8) (fN_alterRow o0 v1 v2 v3 h)
  | _ => none
theorem pN_alterRow_eq (v1 : Int32) (v2 : Int32) (v3 : Int32) (h : H2) : pN_alterRow [.inr (8, 0), .inl (.int v1), .inl (.int v2), .inl (.int v3)] h = fN_alterRow 0 v1 v2 v3 h := by
  show mv_gd (Nat.beq 8 8) (fN_alterRow 0 v1 v2 v3 h) = _
  exact xgd
theorem pN_alterRow_ok : ∀ as h vs h', pN_alterRow as h = some (vs, h') → mv_rcv mdN_alterRow as ∧ mv_Met vw2 3 0 0 mdN_alterRow as h vs h' := by
  intro as h vs h' hh
  unfold pN_alterRow at hh
  split at hh
  · obtain ⟨a, b⟩ := mv_gd_some hh
    obtain rfl := Nat.eq_of_beq_eq_true a
    exact ⟨⟨_, _, _, rfl, Or.inl ⟨by decide, rfl⟩⟩, mN_alterRow _ _ _ _ h vs h' b⟩
  · cases hh
def pV_judge : List mv_V → H2 → O2 := fun as h => match as with
  | [.inr (t0, o0), .inl (.int v1)] => mv_gd (Nat.beq t0 7) (fV_judge o0 v1 h)
  | _ => none
theorem pV_judge_eq (v1 : Int32) (h : H2) : pV_judge [.inr (7, 0), .inl (.int v1)] h = fV_judge 0 v1 h := by
  show mv_gd (Nat.beq 7 7) (fV_judge 0 v1 h) = _
  exact xgd
theorem pV_judge_ok : ∀ as h vs h', pV_judge as h = some (vs, h') → mv_rcv mdV_judge as ∧ mv_Met vw2 5 0 0 mdV_judge as h vs h' := by
  intro as h vs h' hh
  unfold pV_judge at hh
  split at hh
  · obtain ⟨a, b⟩ := mv_gd_some hh
    obtain rfl := Nat.eq_of_beq_eq_true a
    exact ⟨⟨_, _, _, rfl, Or.inl ⟨by decide, rfl⟩⟩, mV_judge _ _ h vs h' b⟩
  · cases hh
def pN_judge : List mv_V → H2 → O2 := fun as h => match as with
  | [.inr (t0, o0), .inl (.int v1)] => mv_gd (Nat.beq t0 8) (fN_judge o0 v1 h)
  | _ => none
theorem pN_judge_eq (v1 : Int32) (h : H2) : pN_judge [.inr (8, 0), .inl (.int v1)] h = fN_judge 0 v1 h := by
  show mv_gd (Nat.beq 8 8) (fN_judge 0 v1 h) = _
  exact xgd
theorem pN_judge_ok : ∀ as h vs h', pN_judge as h = some (vs, h') → mv_rcv mdN_judge as ∧ mv_Met vw2 7 0 0 mdN_judge as h vs h' := by
  intro as h vs h' hh
  unfold pN_judge at hh
  split at hh
  · obtain ⟨a, b⟩ := mv_gd_some hh
    obtain rfl := Nat.eq_of_beq_eq_true a
    exact ⟨⟨_, _, _, rfl, Or.inl ⟨by decide, rfl⟩⟩, mN_judge _ _ h vs h' b⟩
  · cases hh
def pV_minds : List mv_V → H2 → O2 := fun as h => match as with
  | [.inr (t0, o0), .inl (.int v1), .inl (.int v2), .inl (.int v3), .inl (.int v4)] => mv_gd (Nat.beq t0 7) (fV_minds o0 v1 v2 v3 v4 h)
  | _ => none
theorem pV_minds_eq (v1 : Int32) (v2 : Int32) (v3 : Int32) (v4 : Int32) (h : H2) : pV_minds [.inr (7, 0), .inl (.int v1), .inl (.int v2), .inl (.int v3), .inl (.int v4)] h = fV_minds 0 v1 v2 v3 v4 h := by
  show mv_gd (Nat.beq 7 7) (fV_minds 0 v1 v2 v3 v4 h) = _
  exact xgd
theorem pV_minds_ok : ∀ as h vs h', pV_minds as h = some (vs, h') → mv_rcv mdV_minds as ∧ mv_Met vw2 3 0 0 mdV_minds as h vs h' := by
  intro as h vs h' hh
  unfold pV_minds at hh
  split at hh
  · obtain ⟨a, b⟩ := mv_gd_some hh
    obtain rfl := Nat.eq_of_beq_eq_true a
    exact ⟨⟨_, _, _, rfl, Or.inl ⟨by decide, rfl⟩⟩, mV_minds _ _ _ _ _ h vs h' b⟩
  · cases hh
def pN_minds : List mv_V → H2 → O2 := fun as h => match as with
  | [.inr (t0, o0), .inl (.int v1), .inl (.int v2), .inl (.int v3), .inl (.int v4)] => mv_gd (Nat.beq t0 8) (fN_minds o0 v1 v2 v3 v4 h)
  | _ => none
theorem pN_minds_eq (v1 : Int32) (v2 : Int32) (v3 : Int32) (v4 : Int32) (h : H2) : pN_minds [.inr (8, 0), .inl (.int v1), .inl (.int v2), .inl (.int v3), .inl (.int v4)] h = fN_minds 0 v1 v2 v3 v4 h := by
  show mv_gd (Nat.beq 8 8) (fN_minds 0 v1 v2 v3 v4 h) = _
  exact xgd
theorem pN_minds_ok : ∀ as h vs h', pN_minds as h = some (vs, h') → mv_rcv mdN_minds as ∧ mv_Met vw2 3 0 0 mdN_minds as h vs h' := by
  intro as h vs h' hh
  unfold pN_minds at hh
  split at hh
  · obtain ⟨a, b⟩ := mv_gd_some hh
    obtain rfl := Nat.eq_of_beq_eq_true a
    exact ⟨⟨_, _, _, rfl, Or.inl ⟨by decide, rfl⟩⟩, mN_minds _ _ _ _ _ h vs h' b⟩
  · cases hh
def pV_sheet : List mv_V → H2 → O2 := fun as h => match as with
  | [.inr (t0, o0), .inl (.int v1), .inl (.int v2), .inl (.int v3)] => mv_gd (Nat.beq t0 7) (fV_sheet o0 v1 v2 v3 h)
  | _ => none
theorem pV_sheet_eq (v1 : Int32) (v2 : Int32) (v3 : Int32) (h : H2) : pV_sheet [.inr (7, 0), .inl (.int v1), .inl (.int v2), .inl (.int v3)] h = fV_sheet 0 v1 v2 v3 h := by
  show mv_gd (Nat.beq 7 7) (fV_sheet 0 v1 v2 v3 h) = _
  exact xgd
theorem pV_sheet_ok : ∀ as h vs h', pV_sheet as h = some (vs, h') → mv_rcv mdV_sheet as ∧ mv_Met vw2 3 2 42 mdV_sheet as h vs h' := by
  intro as h vs h' hh
  unfold pV_sheet at hh
  split at hh
  · obtain ⟨a, b⟩ := mv_gd_some hh
    obtain rfl := Nat.eq_of_beq_eq_true a
    exact ⟨⟨_, _, _, rfl, Or.inl ⟨by decide, rfl⟩⟩, mV_sheet _ _ _ _ h vs h' b⟩
  · cases hh
def pN_sheet : List mv_V → H2 → O2 := fun as h => match as with
  | [.inr (t0, o0), .inl (.int v1), .inl (.int v2), .inl (.int v3)] => mv_gd (Nat.beq t0 8) (fN_sheet o0 v1 v2 v3 h)
  | _ => none
theorem pN_sheet_eq (v1 : Int32) (v2 : Int32) (v3 : Int32) (h : H2) : pN_sheet [.inr (8, 0), .inl (.int v1), .inl (.int v2), .inl (.int v3)] h = fN_sheet 0 v1 v2 v3 h := by
  show mv_gd (Nat.beq 8 8) (fN_sheet 0 v1 v2 v3 h) = _
  exact xgd
theorem pN_sheet_ok : ∀ as h vs h', pN_sheet as h = some (vs, h') → mv_rcv mdN_sheet as ∧ mv_Met vw2 3 0 0 mdN_sheet as h vs h' := by
  intro as h vs h' hh
  unfold pN_sheet at hh
  split at hh
  · obtain ⟨a, b⟩ := mv_gd_some hh
    obtain rfl := Nat.eq_of_beq_eq_true a
    exact ⟨⟨_, _, _, rfl, Or.inl ⟨by decide, rfl⟩⟩, mN_sheet _ _ _ _ h vs h' b⟩
  · cases hh
def pV_put : List mv_V → H2 → O2 := fun as h => match as with
  | [.inr (t0, o0), .inl (.int v1), .inl (.int v2), .inl (.int v3)] => mv_gd (Nat.beq t0 7) (fV_put o0 v1 v2 v3 h)
  | _ => none
theorem pV_put_eq (v1 : Int32) (v2 : Int32) (v3 : Int32) (h : H2) : pV_put [.inr (7, 0), .inl (.int v1), .inl (.int v2), .inl (.int v3)] h = fV_put 0 v1 v2 v3 h := by
  show mv_gd (Nat.beq 7 7) (fV_put 0 v1 v2 v3 h) = _
  exact xgd
theorem pV_put_ok : ∀ as h vs h', pV_put as h = some (vs, h') → mv_rcv mdV_put as ∧ mv_Met vw2 3 0 0 mdV_put as h vs h' := by
  intro as h vs h' hh
  unfold pV_put at hh
  split at hh
  · obtain ⟨a, b⟩ := mv_gd_some hh
    obtain rfl := Nat.eq_of_beq_eq_true a
    exact ⟨⟨_, _, _, rfl, Or.inl ⟨by decide, rfl⟩⟩, mV_put _ _ _ _ h vs h' b⟩
  · cases hh
def pN_put : List mv_V → H2 → O2 := fun as h => match as with
  | [.inr (t0, o0), .inl (.int v1), .inl (.int v2), .inl (.int v3)] => mv_gd (Nat.beq t0 8) (fN_put o0 v1 v2 v3 h)
  | _ => none
theorem pN_put_eq (v1 : Int32) (v2 : Int32) (v3 : Int32) (h : H2) : pN_put [.inr (8, 0), .inl (.int v1), .inl (.int v2), .inl (.int v3)] h = fN_put 0 v1 v2 v3 h := by
  show mv_gd (Nat.beq 8 8) (fN_put 0 v1 v2 v3 h) = _
  exact xgd
theorem pN_put_ok : ∀ as h vs h', pN_put as h = some (vs, h') → mv_rcv mdN_put as ∧ mv_Met vw2 3 0 0 mdN_put as h vs h' := by
  intro as h vs h' hh
  unfold pN_put at hh
  split at hh
  · obtain ⟨a, b⟩ := mv_gd_some hh
    obtain rfl := Nat.eq_of_beq_eq_true a
    exact ⟨⟨_, _, _, rfl, Or.inl ⟨by decide, rfl⟩⟩, mN_put _ _ _ _ h vs h' b⟩
  · cases hh
def pV_item : List mv_V → H2 → O2 := fun as h => match as with
  | [.inr (t0, o0), .inl (.int v1), .inl (.int v2), .inl (.int v3)] => mv_gd (Nat.beq t0 7) (fV_item o0 v1 v2 v3 h)
  | _ => none
theorem pV_item_eq (v1 : Int32) (v2 : Int32) (v3 : Int32) (h : H2) : pV_item [.inr (7, 0), .inl (.int v1), .inl (.int v2), .inl (.int v3)] h = fV_item 0 v1 v2 v3 h := by
  show mv_gd (Nat.beq 7 7) (fV_item 0 v1 v2 v3 h) = _
  exact xgd
theorem pV_item_ok : ∀ as h vs h', pV_item as h = some (vs, h') → mv_rcv mdV_item as ∧ mv_Met vw2 3 0 0 mdV_item as h vs h' := by
  intro as h vs h' hh
  unfold pV_item at hh
  split at hh
  · obtain ⟨a, b⟩ := mv_gd_some hh
    obtain rfl := Nat.eq_of_beq_eq_true a
    exact ⟨⟨_, _, _, rfl, Or.inl ⟨by decide, rfl⟩⟩, mV_item _ _ _ _ h vs h' b⟩
  · cases hh
def pN_item_ : List mv_V → H2 → O2 := fun as h => match as with
  | [.inr (t0, o0), .inl (.int v1), .inl (.int v2), .inl (.int v3)] => mv_gd (Nat.beq t0 8) (fN_item_ o0 v1 v2 v3 h)
  | _ => none
theorem pN_item__eq (v1 : Int32) (v2 : Int32) (v3 : Int32) (h : H2) : pN_item_ [.inr (8, 0), .inl (.int v1), .inl (.int v2), .inl (.int v3)] h = fN_item_ 0 v1 v2 v3 h := by
  show mv_gd (Nat.beq 8 8) (fN_item_ 0 v1 v2 v3 h) = _
  exact xgd
theorem pN_item__ok : ∀ as h vs h', pN_item_ as h = some (vs, h') → mv_rcv mdN_item_ as ∧ mv_Met vw2 3 0 0 mdN_item_ as h vs h' := by
  intro as h vs h' hh
  unfold pN_item_ at hh
  split at hh
  · obtain ⟨a, b⟩ := mv_gd_some hh
    obtain rfl := Nat.eq_of_beq_eq_true a
    exact ⟨⟨_, _, _, rfl, Or.inl ⟨by decide, rfl⟩⟩, mN_item_ _ _ _ _ h vs h' b⟩
  · cases hh
def pV_shelf : List mv_V → H2 → O2 := fun as h => match as with
  | [.inr (t0, o0), .inl (.int v1), .inl (.int v2), .inl (.int v3)] => mv_gd (Nat.beq t0 7) (fV_shelf o0 v1 v2 v3 h)
  | _ => none
theorem pV_shelf_eq (v1 : Int32) (v2 : Int32) (v3 : Int32) (h : H2) : pV_shelf [.inr (7, 0), .inl (.int v1), .inl (.int v2), .inl (.int v3)] h = fV_shelf 0 v1 v2 v3 h := by
  show mv_gd (Nat.beq 7 7) (fV_shelf 0 v1 v2 v3 h) = _
  exact xgd
theorem pV_shelf_ok : ∀ as h vs h', pV_shelf as h = some (vs, h') → mv_rcv mdV_shelf as ∧ mv_Met vw2 3 0 0 mdV_shelf as h vs h' := by
  intro as h vs h' hh
  unfold pV_shelf at hh
  split at hh
  · obtain ⟨a, b⟩ := mv_gd_some hh
    obtain rfl := Nat.eq_of_beq_eq_true a
    exact ⟨⟨_, _, _, rfl, Or.inl ⟨by decide, rfl⟩⟩, mV_shelf _ _ _ _ h vs h' b⟩
  · cases hh
def pN_shelf : List mv_V → H2 → O2 := fun as h => match as with
  | [.inr (t0, o0), .inl (.int v1), .inl (.int v2), .inl (.int v3)] => mv_gd (Nat.beq t0 8) (fN_shelf o0 v1 v2 v3 h)
  | _ => none
theorem pN_shelf_eq (v1 : Int32) (v2 : Int32) (v3 : Int32) (h : H2) : pN_shelf [.inr (8, 0), .inl (.int v1), .inl (.int v2), .inl (.int v3)] h = fN_shelf 0 v1 v2 v3 h := by
  show mv_gd (Nat.beq 8 8) (fN_shelf 0 v1 v2 v3 h) = _
  exact xgd
theorem pN_shelf_ok : ∀ as h vs h', pN_shelf as h = some (vs, h') → mv_rcv mdN_shelf as ∧ mv_Met vw2 3 0 0 mdN_shelf as h vs h' := by
  intro as h vs h' hh
  unfold pN_shelf at hh
  split at hh
  · obtain ⟨a, b⟩ := mv_gd_some hh
    obtain rfl := Nat.eq_of_beq_eq_true a
    exact ⟨⟨_, _, _, rfl, Or.inl ⟨by decide, rfl⟩⟩, mN_shelf _ _ _ _ h vs h' b⟩
  · cases hh
def pV_taken : List mv_V → H2 → O2 := fun as h => match as with
  | [.inr (t0, o0), .inl (.int v1), .inl (.int v2)] => mv_gd (Nat.beq t0 7) (fV_taken o0 v1 v2 h)
  | _ => none
theorem pV_taken_eq (v1 : Int32) (v2 : Int32) (h : H2) : pV_taken [.inr (7, 0), .inl (.int v1), .inl (.int v2)] h = fV_taken 0 v1 v2 h := by
  show mv_gd (Nat.beq 7 7) (fV_taken 0 v1 v2 h) = _
  exact xgd
theorem pV_taken_ok : ∀ as h vs h', pV_taken as h = some (vs, h') → mv_rcv mdV_taken as ∧ mv_Met vw2 3 0 0 mdV_taken as h vs h' := by
  intro as h vs h' hh
  unfold pV_taken at hh
  split at hh
  · obtain ⟨a, b⟩ := mv_gd_some hh
    obtain rfl := Nat.eq_of_beq_eq_true a
    exact ⟨⟨_, _, _, rfl, Or.inl ⟨by decide, rfl⟩⟩, mV_taken _ _ _ h vs h' b⟩
  · cases hh
def pN_taken : List mv_V → H2 → O2 := fun as h => match as with
  | [.inr (t0, o0), .inl (.int v1), .inl (.int v2)] => mv_gd (Nat.beq t0 8) (fN_taken o0 v1 v2 h)
  | _ => none
theorem pN_taken_eq (v1 : Int32) (v2 : Int32) (h : H2) : pN_taken [.inr (8, 0), .inl (.int v1), .inl (.int v2)] h = fN_taken 0 v1 v2 h := by
  show mv_gd (Nat.beq 8 8) (fN_taken 0 v1 v2 h) = _
  exact xgd
theorem pN_taken_ok : ∀ as h vs h', pN_taken as h = some (vs, h') → mv_rcv mdN_taken as ∧ mv_Met vw2 4 0 0 mdN_taken as h vs h' := by
  intro as h vs h' hh
  unfold pN_taken at hh
  split at hh
  · obtain ⟨a, b⟩ := mv_gd_some hh
    obtain rfl := Nat.eq_of_beq_eq_true a
    exact ⟨⟨_, _, _, rfl, Or.inl ⟨by decide, rfl⟩⟩, mN_taken _ _ _ h vs h' b⟩
  · cases hh
def pV_act : List mv_V → H2 → O2 := fun as h => match as with
  | [.inr (t0, o0), .inl (.int v1), .inl (.int v2), .inl (.int v3)] => mv_gd (Nat.beq t0 7) (fV_act o0 v1 v2 v3 h)
  | _ => none
theorem pV_act_eq (v1 : Int32) (v2 : Int32) (v3 : Int32) (h : H2) : pV_act [.inr (7, 0), .inl (.int v1), .inl (.int v2), .inl (.int v3)] h = fV_act 0 v1 v2 v3 h := by
  show mv_gd (Nat.beq 7 7) (fV_act 0 v1 v2 v3 h) = _
  exact xgd
theorem pV_act_ok : ∀ as h vs h', pV_act as h = some (vs, h') → mv_rcv mdV_act as ∧ mv_Met vw2 105 0 0 mdV_act as h vs h' := by
  intro as h vs h' hh
  unfold pV_act at hh
  split at hh
  · obtain ⟨a, b⟩ := mv_gd_some hh
    obtain rfl := Nat.eq_of_beq_eq_true a
    exact ⟨⟨_, _, _, rfl, Or.inl ⟨by decide, rfl⟩⟩, mV_act _ _ _ _ h vs h' b⟩
  · cases hh
def pN_act : List mv_V → H2 → O2 := fun as h => match as with
  | [.inr (t0, o0), .inl (.int v1), .inl (.int v2), .inl (.int v3)] => mv_gd (Nat.beq t0 8) (fN_act o0 v1 v2 v3 h)
  | _ => none
theorem pN_act_eq (v1 : Int32) (v2 : Int32) (v3 : Int32) (h : H2) : pN_act [.inr (8, 0), .inl (.int v1), .inl (.int v2), .inl (.int v3)] h = fN_act 0 v1 v2 v3 h := by
  show mv_gd (Nat.beq 8 8) (fN_act 0 v1 v2 v3 h) = _
  exact xgd
theorem pN_act_ok : ∀ as h vs h', pN_act as h = some (vs, h') → mv_rcv mdN_act as ∧ mv_Met vw2 9 0 0 mdN_act as h vs h' := by
  intro as h vs h' hh
  unfold pN_act at hh
  split at hh
  · obtain ⟨a, b⟩ := mv_gd_some hh
    obtain rfl := Nat.eq_of_beq_eq_true a
    exact ⟨⟨_, _, _, rfl, Or.inl ⟨by decide, rfl⟩⟩, mN_act _ _ _ _ h vs h' b⟩
  · cases hh
def pV_trace : List mv_V → H2 → O2 := fun as h => match as with
  | [.inr (t0, o0), .inl (.int v1)] => mv_gd (Nat.beq t0 7) (fV_trace o0 v1 h)
  | _ => none
theorem pV_trace_eq (v1 : Int32) (h : H2) : pV_trace [.inr (7, 0), .inl (.int v1)] h = fV_trace 0 v1 h := by
  show mv_gd (Nat.beq 7 7) (fV_trace 0 v1 h) = _
  exact xgd
theorem pV_trace_ok : ∀ as h vs h', pV_trace as h = some (vs, h') → mv_rcv mdV_trace as ∧ mv_Met vw2 2 0 0 mdV_trace as h vs h' := by
  intro as h vs h' hh
  unfold pV_trace at hh
  split at hh
  · obtain ⟨a, b⟩ := mv_gd_some hh
    obtain rfl := Nat.eq_of_beq_eq_true a
    exact ⟨⟨_, _, _, rfl, Or.inl ⟨by decide, rfl⟩⟩, mV_trace _ _ h vs h' b⟩
  · cases hh
def pN_trace : List mv_V → H2 → O2 := fun as h => match as with
  | [.inr (t0, o0), .inl (.int v1)] => mv_gd (Nat.beq t0 8) (fN_trace o0 v1 h)
  | _ => none
theorem pN_trace_eq (v1 : Int32) (h : H2) : pN_trace [.inr (8, 0), .inl (.int v1)] h = fN_trace 0 v1 h := by
  show mv_gd (Nat.beq 8 8) (fN_trace 0 v1 h) = _
  exact xgd
theorem pN_trace_ok : ∀ as h vs h', pN_trace as h = some (vs, h') → mv_rcv mdN_trace as ∧ mv_Met vw2 2 0 0 mdN_trace as h vs h' := by
  intro as h vs h' hh
  unfold pN_trace at hh
  split at hh
  · obtain ⟨a, b⟩ := mv_gd_some hh
    obtain rfl := Nat.eq_of_beq_eq_true a
    exact ⟨⟨_, _, _, rfl, Or.inl ⟨by decide, rfl⟩⟩, mN_trace _ _ h vs h' b⟩
  · cases hh
def pV_many : List mv_V → H2 → O2 := fun as h => match as with
  | [.inr (t0, o0), .inl (.int v1)] => mv_gd (Nat.beq t0 7) (fV_many o0 v1 h)
  | _ => none
theorem pV_many_eq (v1 : Int32) (h : H2) : pV_many [.inr (7, 0), .inl (.int v1)] h = fV_many 0 v1 h := by
  show mv_gd (Nat.beq 7 7) (fV_many 0 v1 h) = _
  exact xgd
theorem pV_many_ok : ∀ as h vs h', pV_many as h = some (vs, h') → mv_rcv mdV_many as ∧ mv_Met vw2 2 0 0 mdV_many as h vs h' := by
  intro as h vs h' hh
  unfold pV_many at hh
  split at hh
  · obtain ⟨a, b⟩ := mv_gd_some hh
    obtain rfl := Nat.eq_of_beq_eq_true a
    exact ⟨⟨_, _, _, rfl, Or.inl ⟨by decide, rfl⟩⟩, mV_many _ _ h vs h' b⟩
  · cases hh
def pN_many : List mv_V → H2 → O2 := fun as h => match as with
  | [.inr (t0, o0), .inl (.int v1)] => mv_gd (Nat.beq t0 8) (fN_many o0 v1 h)
  | _ => none
theorem pN_many_eq (v1 : Int32) (h : H2) : pN_many [.inr (8, 0), .inl (.int v1)] h = fN_many 0 v1 h := by
  show mv_gd (Nat.beq 8 8) (fN_many 0 v1 h) = _
  exact xgd
theorem pN_many_ok : ∀ as h vs h', pN_many as h = some (vs, h') → mv_rcv mdN_many as ∧ mv_Met vw2 3 0 0 mdN_many as h vs h' := by
  intro as h vs h' hh
  unfold pN_many at hh
  split at hh
  · obtain ⟨a, b⟩ := mv_gd_some hh
    obtain rfl := Nat.eq_of_beq_eq_true a
    exact ⟨⟨_, _, _, rfl, Or.inl ⟨by decide, rfl⟩⟩, mN_many _ _ h vs h' b⟩
  · cases hh
def pV_keep : List mv_V → H2 → O2 := fun as h => match as with
  | [.inr (t0, o0)] => mv_gd (Nat.beq t0 7) (fV_keep o0 h)
  | _ => none
theorem pV_keep_eq (h : H2) : pV_keep [.inr (7, 0)] h = fV_keep 0  h := by
  show mv_gd (Nat.beq 7 7) (fV_keep 0  h) = _
  exact xgd
theorem pV_keep_ok : ∀ as h vs h', pV_keep as h = some (vs, h') → mv_rcv mdV_keep as ∧ mv_Met vw2 2 0 0 mdV_keep as h vs h' := by
  intro as h vs h' hh
  unfold pV_keep at hh
  split at hh
  · obtain ⟨a, b⟩ := mv_gd_some hh
    obtain rfl := Nat.eq_of_beq_eq_true a
    exact ⟨⟨_, _, _, rfl, Or.inl ⟨by decide, rfl⟩⟩, mV_keep _ h vs h' b⟩
  · cases hh
def pN_keep : List mv_V → H2 → O2 := fun as h => match as with
  | [.inr (t0, o0)] => mv_gd (Nat.beq t0 8) (fN_keep o0 h)
  | _ => none
theorem pN_keep_eq (h : H2) : pN_keep [.inr (8, 0)] h = fN_keep 0  h := by
  show mv_gd (Nat.beq 8 8) (fN_keep 0  h) = _
  exact xgd
theorem pN_keep_ok : ∀ as h vs h', pN_keep as h = some (vs, h') → mv_rcv mdN_keep as ∧ mv_Met vw2 2 0 0 mdN_keep as h vs h' := by
  intro as h vs h' hh
  unfold pN_keep at hh
  split at hh
  · obtain ⟨a, b⟩ := mv_gd_some hh
    obtain rfl := Nat.eq_of_beq_eq_true a
    exact ⟨⟨_, _, _, rfl, Or.inl ⟨by decide, rfl⟩⟩, mN_keep _ h vs h' b⟩
  · cases hh
def pV_again : List mv_V → H2 → O2 := fun as h => match as with
  | [.inr (t0, o0)] => mv_gd (Nat.beq t0 7) (fV_again o0 h)
  | _ => none
theorem pV_again_eq (h : H2) : pV_again [.inr (7, 0)] h = fV_again 0  h := by
  show mv_gd (Nat.beq 7 7) (fV_again 0  h) = _
  exact xgd
theorem pV_again_ok : ∀ as h vs h', pV_again as h = some (vs, h') → mv_rcv mdV_again as ∧ mv_Met vw2 2 0 0 mdV_again as h vs h' := by
  intro as h vs h' hh
  unfold pV_again at hh
  split at hh
  · obtain ⟨a, b⟩ := mv_gd_some hh
    obtain rfl := Nat.eq_of_beq_eq_true a
    exact ⟨⟨_, _, _, rfl, Or.inl ⟨by decide, rfl⟩⟩, mV_again _ h vs h' b⟩
  · cases hh
def pN_again : List mv_V → H2 → O2 := fun as h => match as with
  | [.inr (t0, o0)] => mv_gd (Nat.beq t0 8) (fN_again o0 h)
  | _ => none
theorem pN_again_eq (h : H2) : pN_again [.inr (8, 0)] h = fN_again 0  h := by
  show mv_gd (Nat.beq 8 8) (fN_again 0  h) = _
  exact xgd
theorem pN_again_ok : ∀ as h vs h', pN_again as h = some (vs, h') → mv_rcv mdN_again as ∧ mv_Met vw2 2 0 0 mdN_again as h vs h' := by
  intro as h vs h' hh
  unfold pN_again at hh
  split at hh
  · obtain ⟨a, b⟩ := mv_gd_some hh
    obtain rfl := Nat.eq_of_beq_eq_true a
    exact ⟨⟨_, _, _, rfl, Or.inl ⟨by decide, rfl⟩⟩, mN_again _ h vs h' b⟩
  · cases hh
def mv_ps : List (List mv_V → H2 → O2) := [fun _ _ => none, fun _ _ => none, pV_feed, pN_feed, pV_mill, pN_mill, pV_set, pN_set, pV_lawOf, pN_lawOf, pV_fill, pN_fill, pV_vatOf, pN_vatOf, pV_roster, pN_roster, pV_rosterOf, pN_rosterOf, pV_cloth, pN_cloth, pV_of, pN_of, pV_does, pN_does, pV_mind, pN_mind, pV_steep, pN_steep, pV_hang, pN_hang, pV_dip, pN_dip, pV_days, pN_days, pV_seed, pN_seed, pV_day, pN_day, pV_luck, pN_luck, pV_state, pN_state, pV_gone, pN_gone, pV_depth, pN_depth, pV_comes, pN_comes, pV_bare, pN_bare, pV_spoilt, pN_spoilt, pV_through, pN_through, pV_vatFor, pN_vatFor, pV_kindFor, pN_kindFor, pV_strengthFor, pN_strengthFor, pV_hangFor, pN_hangFor, pV_fits, pN_fits, pV_odds, pN_odds, pV_hope, pN_hope, pV_prove, pN_prove, pV_row, pN_row, pV_alterRow, pN_alterRow, pV_judge, pN_judge, pV_minds, pN_minds, pV_sheet, pN_sheet, pV_put, pN_put, pV_item, pN_item_, pV_shelf, pN_shelf, pV_taken, pN_taken, pV_act, pN_act, pV_trace, pN_trace, pV_many, pN_many, pV_keep, pN_keep, pV_again, pN_again]
def mv_Ph (j : Nat) : List mv_V → H2 → O2 := mv_el (mv_nth j mv_ps) (fun _ _ => none) fun f => f
theorem mv_Ph_2 : mv_Ph 2 = pV_feed := rfl
theorem mv_Ph_3 : mv_Ph 3 = pN_feed := rfl
theorem mv_Ph_4 : mv_Ph 4 = pV_mill := rfl
theorem mv_Ph_5 : mv_Ph 5 = pN_mill := rfl
theorem mv_Ph_6 : mv_Ph 6 = pV_set := rfl
theorem mv_Ph_7 : mv_Ph 7 = pN_set := rfl
theorem mv_Ph_8 : mv_Ph 8 = pV_lawOf := rfl
theorem mv_Ph_9 : mv_Ph 9 = pN_lawOf := rfl
theorem mv_Ph_10 : mv_Ph 10 = pV_fill := rfl
theorem mv_Ph_11 : mv_Ph 11 = pN_fill := rfl
theorem mv_Ph_12 : mv_Ph 12 = pV_vatOf := rfl
theorem mv_Ph_13 : mv_Ph 13 = pN_vatOf := rfl
theorem mv_Ph_14 : mv_Ph 14 = pV_roster := rfl
theorem mv_Ph_15 : mv_Ph 15 = pN_roster := rfl
theorem mv_Ph_16 : mv_Ph 16 = pV_rosterOf := rfl
theorem mv_Ph_17 : mv_Ph 17 = pN_rosterOf := rfl
theorem mv_Ph_18 : mv_Ph 18 = pV_cloth := rfl
theorem mv_Ph_19 : mv_Ph 19 = pN_cloth := rfl
theorem mv_Ph_20 : mv_Ph 20 = pV_of := rfl
theorem mv_Ph_21 : mv_Ph 21 = pN_of := rfl
theorem mv_Ph_22 : mv_Ph 22 = pV_does := rfl
theorem mv_Ph_23 : mv_Ph 23 = pN_does := rfl
theorem mv_Ph_24 : mv_Ph 24 = pV_mind := rfl
theorem mv_Ph_25 : mv_Ph 25 = pN_mind := rfl
theorem mv_Ph_26 : mv_Ph 26 = pV_steep := rfl
theorem mv_Ph_27 : mv_Ph 27 = pN_steep := rfl
theorem mv_Ph_28 : mv_Ph 28 = pV_hang := rfl
theorem mv_Ph_29 : mv_Ph 29 = pN_hang := rfl
theorem mv_Ph_30 : mv_Ph 30 = pV_dip := rfl
theorem mv_Ph_31 : mv_Ph 31 = pN_dip := rfl
theorem mv_Ph_32 : mv_Ph 32 = pV_days := rfl
theorem mv_Ph_33 : mv_Ph 33 = pN_days := rfl
theorem mv_Ph_34 : mv_Ph 34 = pV_seed := rfl
theorem mv_Ph_35 : mv_Ph 35 = pN_seed := rfl
theorem mv_Ph_36 : mv_Ph 36 = pV_day := rfl
theorem mv_Ph_37 : mv_Ph 37 = pN_day := rfl
theorem mv_Ph_38 : mv_Ph 38 = pV_luck := rfl
theorem mv_Ph_39 : mv_Ph 39 = pN_luck := rfl
theorem mv_Ph_40 : mv_Ph 40 = pV_state := rfl
theorem mv_Ph_41 : mv_Ph 41 = pN_state := rfl
theorem mv_Ph_42 : mv_Ph 42 = pV_gone := rfl
theorem mv_Ph_43 : mv_Ph 43 = pN_gone := rfl
theorem mv_Ph_44 : mv_Ph 44 = pV_depth := rfl
theorem mv_Ph_45 : mv_Ph 45 = pN_depth := rfl
theorem mv_Ph_46 : mv_Ph 46 = pV_comes := rfl
theorem mv_Ph_47 : mv_Ph 47 = pN_comes := rfl
theorem mv_Ph_48 : mv_Ph 48 = pV_bare := rfl
theorem mv_Ph_49 : mv_Ph 49 = pN_bare := rfl
theorem mv_Ph_50 : mv_Ph 50 = pV_spoilt := rfl
theorem mv_Ph_51 : mv_Ph 51 = pN_spoilt := rfl
theorem mv_Ph_52 : mv_Ph 52 = pV_through := rfl
theorem mv_Ph_53 : mv_Ph 53 = pN_through := rfl
theorem mv_Ph_54 : mv_Ph 54 = pV_vatFor := rfl
theorem mv_Ph_55 : mv_Ph 55 = pN_vatFor := rfl
theorem mv_Ph_56 : mv_Ph 56 = pV_kindFor := rfl
theorem mv_Ph_57 : mv_Ph 57 = pN_kindFor := rfl
theorem mv_Ph_58 : mv_Ph 58 = pV_strengthFor := rfl
theorem mv_Ph_59 : mv_Ph 59 = pN_strengthFor := rfl
theorem mv_Ph_60 : mv_Ph 60 = pV_hangFor := rfl
theorem mv_Ph_61 : mv_Ph 61 = pN_hangFor := rfl
theorem mv_Ph_62 : mv_Ph 62 = pV_fits := rfl
theorem mv_Ph_63 : mv_Ph 63 = pN_fits := rfl
theorem mv_Ph_64 : mv_Ph 64 = pV_odds := rfl
theorem mv_Ph_65 : mv_Ph 65 = pN_odds := rfl
theorem mv_Ph_66 : mv_Ph 66 = pV_hope := rfl
theorem mv_Ph_67 : mv_Ph 67 = pN_hope := rfl
theorem mv_Ph_68 : mv_Ph 68 = pV_prove := rfl
theorem mv_Ph_69 : mv_Ph 69 = pN_prove := rfl
theorem mv_Ph_70 : mv_Ph 70 = pV_row := rfl
theorem mv_Ph_71 : mv_Ph 71 = pN_row := rfl
theorem mv_Ph_72 : mv_Ph 72 = pV_alterRow := rfl
theorem mv_Ph_73 : mv_Ph 73 = pN_alterRow := rfl
theorem mv_Ph_74 : mv_Ph 74 = pV_judge := rfl
theorem mv_Ph_75 : mv_Ph 75 = pN_judge := rfl
theorem mv_Ph_76 : mv_Ph 76 = pV_minds := rfl
theorem mv_Ph_77 : mv_Ph 77 = pN_minds := rfl
theorem mv_Ph_78 : mv_Ph 78 = pV_sheet := rfl
theorem mv_Ph_79 : mv_Ph 79 = pN_sheet := rfl
theorem mv_Ph_80 : mv_Ph 80 = pV_put := rfl
theorem mv_Ph_81 : mv_Ph 81 = pN_put := rfl
theorem mv_Ph_82 : mv_Ph 82 = pV_item := rfl
theorem mv_Ph_83 : mv_Ph 83 = pN_item_ := rfl
theorem mv_Ph_84 : mv_Ph 84 = pV_shelf := rfl
theorem mv_Ph_85 : mv_Ph 85 = pN_shelf := rfl
theorem mv_Ph_86 : mv_Ph 86 = pV_taken := rfl
theorem mv_Ph_87 : mv_Ph 87 = pN_taken := rfl
theorem mv_Ph_88 : mv_Ph 88 = pV_act := rfl
theorem mv_Ph_89 : mv_Ph 89 = pN_act := rfl
theorem mv_Ph_90 : mv_Ph 90 = pV_trace := rfl
theorem mv_Ph_91 : mv_Ph 91 = pN_trace := rfl
theorem mv_Ph_92 : mv_Ph 92 = pV_many := rfl
theorem mv_Ph_93 : mv_Ph 93 = pN_many := rfl
theorem mv_Ph_94 : mv_Ph 94 = pV_keep := rfl
theorem mv_Ph_95 : mv_Ph 95 = pN_keep := rfl
theorem mv_Ph_96 : mv_Ph 96 = pV_again := rfl
theorem mv_Ph_97 : mv_Ph 97 = pN_again := rfl
def gL (Φ : Nat → List mv_V → H2 → O2) : List (mv_C H2) := [((0, 0), mv_cz), ((0, 0), mv_cz), ((0, 0), mv_ci (Φ 2)), ((0, 0), mv_ci (Φ 3)), ((0, 0), mv_ci (Φ 4)), ((0, 0), mv_ci (Φ 5)), ((0, 0), mv_ci (Φ 6)), ((0, 0), mv_ci (Φ 7)), ((0, 0), mv_ci (Φ 8)), ((0, 0), mv_ci (Φ 9)), ((0, 0), mv_ci (Φ 10)), ((0, 0), mv_ci (Φ 11)), ((0, 0), mv_ci (Φ 12)), ((0, 0), mv_ci (Φ 13)), ((0, 0), mv_ci (Φ 14)), ((0, 0), mv_ci (Φ 15)), ((0, 0), mv_ci (Φ 16)), ((0, 0), mv_ci (Φ 17)), ((0, 0), mv_ci (Φ 18)), ((0, 0), mv_ci (Φ 19)), ((0, 0), mv_ci (Φ 20)), ((0, 0), mv_ci (Φ 21)), ((0, 0), mv_ci (Φ 22)), ((0, 0), mv_ci (Φ 23)), ((0, 0), mv_ci (Φ 24)), ((0, 0), mv_ci (Φ 25)), ((0, 0), mv_ci (Φ 26)), ((0, 0), mv_ci (Φ 27)), ((0, 0), mv_ci (Φ 28)), ((0, 0), mv_ci (Φ 29)), ((0, 0), mv_ci (Φ 30)), ((0, 0), mv_ci (Φ 31)), ((0, 0), mv_ci (Φ 32)), ((0, 0), mv_ci (Φ 33)), ((0, 0), mv_ci (Φ 34)), ((0, 0), mv_ci (Φ 35)), ((0, 0), mv_ci (Φ 36)), ((0, 0), mv_ci (Φ 37)), ((0, 0), mv_ci (Φ 38)), ((0, 0), mv_ci (Φ 39)), ((0, 0), mv_ci (Φ 40)), ((0, 0), mv_ci (Φ 41)), ((0, 0), mv_ci (Φ 42)), ((0, 0), mv_ci (Φ 43)), ((0, 0), mv_ci (Φ 44)), ((0, 0), mv_ci (Φ 45)), ((0, 0), mv_ci (Φ 46)), ((0, 0), mv_ci (Φ 47)), ((0, 0), mv_ci (Φ 48)), ((0, 0), mv_ci (Φ 49)), ((0, 0), mv_ci (Φ 50)), ((0, 0), mv_ci (Φ 51)), ((0, 0), mv_ci (Φ 52)), ((0, 0), mv_ci (Φ 53)), ((0, 0), mv_ci (Φ 54)), ((0, 0), mv_ci (Φ 55)), ((0, 0), mv_ci (Φ 56)), ((0, 0), mv_ci (Φ 57)), ((0, 0), mv_ci (Φ 58)), ((0, 0), mv_ci (Φ 59)), ((0, 0), mv_ci (Φ 60)), ((0, 0), mv_ci (Φ 61)), ((0, 0), mv_ci (Φ 62)), ((0, 0), mv_ci (Φ 63)), ((0, 0), mv_cl (Φ 64)), ((0, 0), mv_cl (Φ 65)), ((0, 0), mv_cl (Φ 66)), ((0, 0), mv_cl (Φ 67)), ((0, 0), mv_ci (Φ 68)), ((0, 0), mv_ci (Φ 69)), ((0, 0), mv_ci (Φ 70)), ((0, 0), mv_ci (Φ 71)), ((0, 0), mv_ci (Φ 72)), ((0, 0), mv_ci (Φ 73)), ((0, 0), mv_ci (Φ 74)), ((0, 0), mv_ci (Φ 75)), ((0, 0), mv_ci (Φ 76)), ((0, 0), mv_ci (Φ 77)), ((2, 42), mv_ci (Φ 78)), ((0, 0), mv_ci (Φ 79)), ((0, 0), mv_ci (Φ 80)), ((0, 0), mv_ci (Φ 81)), ((0, 0), mv_ci (Φ 82)), ((0, 0), mv_ci (Φ 83)), ((0, 0), mv_ci (Φ 84)), ((0, 0), mv_ci (Φ 85)), ((0, 0), mv_ci (Φ 86)), ((0, 0), mv_ci (Φ 87)), ((0, 0), mv_ci (Φ 88)), ((0, 0), mv_ci (Φ 89)), ((0, 0), mv_ci (Φ 90)), ((0, 0), mv_ci (Φ 91)), ((0, 0), mv_ci (Φ 92)), ((0, 0), mv_ci (Φ 93)), ((0, 0), mv_ci (Φ 94)), ((0, 0), mv_ci (Φ 95)), ((0, 0), mv_ci (Φ 96)), ((0, 0), mv_ci (Φ 97))]
set_option maxRecDepth 20000 in
theorem gL_all : mv_all2 (fun (C : mv_C H2) (md' : mv_MD × Bool) => ∃ n', n' + 1 ≤ 1000 ∧ mv_Cal vw2 n' md' C) (gL mv_Ph) nL := ⟨⟨0, by decide, mv_cz_ok⟩, ⟨⟨0, by decide, mv_cz_ok⟩, ⟨⟨2, by decide, mv_ci_ok pV_feed_ok⟩, ⟨⟨2, by decide, mv_ci_ok pN_feed_ok⟩, ⟨⟨10, by decide, mv_ci_ok pV_mill_ok⟩, ⟨⟨9, by decide, mv_ci_ok pN_mill_ok⟩, ⟨⟨2, by decide, mv_ci_ok pV_set_ok⟩, ⟨⟨2, by decide, mv_ci_ok pN_set_ok⟩, ⟨⟨2, by decide, mv_ci_ok pV_lawOf_ok⟩, ⟨⟨2, by decide, mv_ci_ok pN_lawOf_ok⟩, ⟨⟨3, by decide, mv_ci_ok pV_fill_ok⟩, ⟨⟨3, by decide, mv_ci_ok pN_fill_ok⟩, ⟨⟨3, by decide, mv_ci_ok pV_vatOf_ok⟩, ⟨⟨3, by decide, mv_ci_ok pN_vatOf_ok⟩, ⟨⟨3, by decide, mv_ci_ok pV_roster_ok⟩, ⟨⟨3, by decide, mv_ci_ok pN_roster_ok⟩, ⟨⟨3, by decide, mv_ci_ok pV_rosterOf_ok⟩, ⟨⟨3, by decide, mv_ci_ok pN_rosterOf_ok⟩, ⟨⟨3, by decide, mv_ci_ok pV_cloth_ok⟩, ⟨⟨3, by decide, mv_ci_ok pN_cloth_ok⟩, ⟨⟨3, by decide, mv_ci_ok pV_of_ok⟩, ⟨⟨3, by decide, mv_ci_ok pN_of_ok⟩, ⟨⟨3, by decide, mv_ci_ok pV_does_ok⟩, ⟨⟨3, by decide, mv_ci_ok pN_does_ok⟩, ⟨⟨3, by decide, mv_ci_ok pV_mind_ok⟩, ⟨⟨3, by decide, mv_ci_ok pN_mind_ok⟩, ⟨⟨3, by decide, mv_ci_ok pV_steep_ok⟩, ⟨⟨3, by decide, mv_ci_ok pN_steep_ok⟩, ⟨⟨3, by decide, mv_ci_ok pV_hang_ok⟩, ⟨⟨3, by decide, mv_ci_ok pN_hang_ok⟩, ⟨⟨3, by decide, mv_ci_ok pV_dip_ok⟩, ⟨⟨4, by decide, mv_ci_ok pN_dip_ok⟩, ⟨⟨5, by decide, mv_ci_ok pV_days_ok⟩, ⟨⟨6, by decide, mv_ci_ok pN_days_ok⟩, ⟨⟨1, by decide, mv_ci_ok pV_seed_ok⟩, ⟨⟨2, by decide, mv_ci_ok pN_seed_ok⟩, ⟨⟨5, by decide, mv_ci_ok pV_day_ok⟩, ⟨⟨6, by decide, mv_ci_ok pN_day_ok⟩, ⟨⟨7, by decide, mv_ci_ok pV_luck_ok⟩, ⟨⟨6, by decide, mv_ci_ok pN_luck_ok⟩, ⟨⟨3, by decide, mv_ci_ok pV_state_ok⟩, ⟨⟨4, by decide, mv_ci_ok pN_state_ok⟩, ⟨⟨6, by decide, mv_ci_ok pV_gone_ok⟩, ⟨⟨7, by decide, mv_ci_ok pN_gone_ok⟩, ⟨⟨6, by decide, mv_ci_ok pV_depth_ok⟩, ⟨⟨7, by decide, mv_ci_ok pN_depth_ok⟩, ⟨⟨5, by decide, mv_ci_ok pV_comes_ok⟩, ⟨⟨6, by decide, mv_ci_ok pN_comes_ok⟩, ⟨⟨5, by decide, mv_ci_ok pV_bare_ok⟩, ⟨⟨6, by decide, mv_ci_ok pN_bare_ok⟩, ⟨⟨7, by decide, mv_ci_ok pV_spoilt_ok⟩, ⟨⟨7, by decide, mv_ci_ok pN_spoilt_ok⟩, ⟨⟨5, by decide, mv_ci_ok pV_through_ok⟩, ⟨⟨5, by decide, mv_ci_ok pN_through_ok⟩, ⟨⟨6, by decide, mv_ci_ok pV_vatFor_ok⟩, ⟨⟨6, by decide, mv_ci_ok pN_vatFor_ok⟩, ⟨⟨6, by decide, mv_ci_ok pV_kindFor_ok⟩, ⟨⟨7, by decide, mv_ci_ok pN_kindFor_ok⟩, ⟨⟨6, by decide, mv_ci_ok pV_strengthFor_ok⟩, ⟨⟨7, by decide, mv_ci_ok pN_strengthFor_ok⟩, ⟨⟨7, by decide, mv_ci_ok pV_hangFor_ok⟩, ⟨⟨7, by decide, mv_ci_ok pN_hangFor_ok⟩, ⟨⟨6, by decide, mv_ci_ok pV_fits_ok⟩, ⟨⟨6, by decide, mv_ci_ok pN_fits_ok⟩, ⟨⟨4, by decide, mv_cl_ok pV_odds_ok⟩, ⟨⟨2, by decide, mv_cl_ok pN_odds_ok⟩, ⟨⟨3, by decide, mv_cl_ok pV_hope_ok⟩, ⟨⟨2, by decide, mv_cl_ok pN_hope_ok⟩, ⟨⟨5, by decide, mv_ci_ok pV_prove_ok⟩, ⟨⟨6, by decide, mv_ci_ok pN_prove_ok⟩, ⟨⟨3, by decide, mv_ci_ok pV_row_ok⟩, ⟨⟨3, by decide, mv_ci_ok pN_row_ok⟩, ⟨⟨3, by decide, mv_ci_ok pV_alterRow_ok⟩, ⟨⟨3, by decide, mv_ci_ok pN_alterRow_ok⟩, ⟨⟨5, by decide, mv_ci_ok pV_judge_ok⟩, ⟨⟨7, by decide, mv_ci_ok pN_judge_ok⟩, ⟨⟨3, by decide, mv_ci_ok pV_minds_ok⟩, ⟨⟨3, by decide, mv_ci_ok pN_minds_ok⟩, ⟨⟨3, by decide, mv_ci_ok pV_sheet_ok⟩, ⟨⟨3, by decide, mv_ci_ok pN_sheet_ok⟩, ⟨⟨3, by decide, mv_ci_ok pV_put_ok⟩, ⟨⟨3, by decide, mv_ci_ok pN_put_ok⟩, ⟨⟨3, by decide, mv_ci_ok pV_item_ok⟩, ⟨⟨3, by decide, mv_ci_ok pN_item__ok⟩, ⟨⟨3, by decide, mv_ci_ok pV_shelf_ok⟩, ⟨⟨3, by decide, mv_ci_ok pN_shelf_ok⟩, ⟨⟨3, by decide, mv_ci_ok pV_taken_ok⟩, ⟨⟨4, by decide, mv_ci_ok pN_taken_ok⟩, ⟨⟨105, by decide, mv_ci_ok pV_act_ok⟩, ⟨⟨9, by decide, mv_ci_ok pN_act_ok⟩, ⟨⟨2, by decide, mv_ci_ok pV_trace_ok⟩, ⟨⟨2, by decide, mv_ci_ok pN_trace_ok⟩, ⟨⟨2, by decide, mv_ci_ok pV_many_ok⟩, ⟨⟨3, by decide, mv_ci_ok pN_many_ok⟩, ⟨⟨2, by decide, mv_ci_ok pV_keep_ok⟩, ⟨⟨2, by decide, mv_ci_ok pN_keep_ok⟩, ⟨⟨2, by decide, mv_ci_ok pV_again_ok⟩, ⟨⟨2, by decide, mv_ci_ok pN_again_ok⟩, trivial⟩⟩⟩⟩⟩⟩⟩⟩⟩⟩⟩⟩⟩⟩⟩⟩⟩⟩⟩⟩⟩⟩⟩⟩⟩⟩⟩⟩⟩⟩⟩⟩⟩⟩⟩⟩⟩⟩⟩⟩⟩⟩⟩⟩⟩⟩⟩⟩⟩⟩⟩⟩⟩⟩⟩⟩⟩⟩⟩⟩⟩⟩⟩⟩⟩⟩⟩⟩⟩⟩⟩⟩⟩⟩⟩⟩⟩⟩⟩⟩⟩⟩⟩⟩⟩⟩⟩⟩⟩⟩⟩⟩⟩⟩⟩⟩⟩⟩
theorem GL : ∀ (j : Nat) (C : mv_C H2) (md' : mv_MD × Bool), mv_nth j (gL mv_Ph) = some C → mv_nth j nL = some md' → ∃ n', n' + 1 ≤ 1000 ∧ mv_Cal vw2 n' md' C := mv_all2_nth gL_all
