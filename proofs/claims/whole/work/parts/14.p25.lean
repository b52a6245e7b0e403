-- p25: statements of a text
theorem mup_mup {A t k v v'} : mup (mup A t k v) t k v' = mup A t k v' := by
  funext a c
  unfold mup
  split <;> rfl
def stt (m : Nat) (b : Nat → Nat) (s : Nat) : Bool := decide (s < m) && decide (b s = 59)
abbrev TR : Type := Nat ⊕ ((Nat → Nat → Int32) × Nat × Nat)
def stopP (m : Nat) (b : Nat → Nat) (s : Nat) (U : Nat → Nat → Int32) (n : Nat) : TR := if stt m b s = true then Sum.inr (U, n, nx m b s) else Sum.inl s
def vatP (m : Nat) (b : Nat → Nat) (s : Nat) (U : Nat → Nat → Int32) (n : Nat) : TR := match irs m b (nx m b s) 0 7 with
  | none => Sum.inl (nx m b s)
  | some v => if wd m b (nx m b (nx m b s)) 6 = true then (match irs m b (nx m b (nx m b (nx m b s))) 0 9 with
    | none => Sum.inl (nx m b (nx m b (nx m b s)))
    | some p => stopP m b (nx m b (nx m b (nx m b (nx m b s)))) (mup U 1 v (nI p)) n) else Sum.inl (nx m b (nx m b s))
def dayP (m : Nat) (b : Nat → Nat) (s : Nat) (U : Nat → Nat → Int32) (n : Nat) : TR := match irs m b (nx m b s) 0 5 with
  | none => Sum.inl (nx m b s)
  | some v => if wd m b (nx m b (nx m b s)) 0 = true then (match irs m b (nx m b (nx m b (nx m b s))) 0 7 with
    | none => Sum.inl (nx m b (nx m b (nx m b s)))
    | some p => stopP m b (nx m b (nx m b (nx m b (nx m b s)))) (mup U 3 v (nI p)) n) else Sum.inl (nx m b (nx m b s))
def strongP (m : Nat) (b : Nat → Nat) (s : Nat) (U : Nat → Nat → Int32) (n : Nat) : TR := match irs m b (nx m b s) 0 7 with
  | none => Sum.inl (nx m b s)
  | some v => match irs m b (nx m b (nx m b s)) 0 9 with
    | none => Sum.inl (nx m b (nx m b s))
    | some p => stopP m b (nx m b (nx m b (nx m b s))) (mup U 2 v (nI p)) n
def lawP (m : Nat) (b : Nat → Nat) (s l : Nat) (U : Nat → Nat → Int32) (n : Nat) : TR := match irs m b (nx m b s) 0 (if l = 3 then 99 else 9) with
  | none => Sum.inl (nx m b s)
  | some v => stopP m b (nx m b (nx m b s)) (mup U 0 l (nI v)) n
def hungP (m : Nat) (b : Nat → Nat) (s : Nat) (U : Nat → Nat → Int32) (n : Nat) : TR := if wd m b s 5 = true then stopP m b (nx m b s) (mup U 7 n (nI 1)) (n + 1) else stopP m b s U (n + 1)
def clothP (m : Nat) (b : Nat → Nat) (s kd : Nat) (U : Nat → Nat → Int32) (n : Nat) : TR :=
  if n < 8 then (if wd m b (nx m b s) 3 = true then (match irs m b (nx m b (nx m b s)) 0 9 with
      | none => Sum.inl (nx m b (nx m b s))
      | some p => if wd m b (nx m b (nx m b (nx m b s))) 4 = true then (match irs m b (nx m b (nx m b (nx m b (nx m b s)))) 1 99 with
          | none => Sum.inl (nx m b (nx m b (nx m b (nx m b s))))
          | some q => hungP m b (nx m b (nx m b (nx m b (nx m b (nx m b s))))) (mup (mup (newA U n (nI kd)) 5 n (nI p)) 6 n (nI q)) n)
        else hungP m b (nx m b (nx m b (nx m b s))) (mup (mup (newA U n (nI kd)) 5 n (nI p)) 6 n (nI 20)) n)
    else hungP m b (nx m b s) (newA U n (nI kd)) n) else Sum.inl s
def kindP (m : Nat) (b : Nat → Nat) (s : Nat) : Option Nat := if wd m b s 7 = true then some 0 else if wd m b s 8 = true then some 1 else if wd m b s 9 = true then some 2 else if wd m b s 10 = true then some 3 else if wd m b s 11 = true then some 4 else if wd m b s 12 = true then some 5 else none
def lawK (m : Nat) (b : Nat → Nat) (s : Nat) : Option Nat := if wd m b s 13 = true then some 0 else if wd m b s 14 = true then some 1 else if wd m b s 15 = true then some 2 else if wd m b s 16 = true then some 3 else none
def stmtP (m : Nat) (b : Nat → Nat) (s : Nat) (U : Nat → Nat → Int32) (n : Nat) : TR := match kindP m b s with
  | some kd => clothP m b s kd U n
  | none => if wd m b s 0 = true then vatP m b s U n else if wd m b s 1 = true then strongP m b s U n else if wd m b s 2 = true then dayP m b s U n else match lawK m b s with
    | some l => lawP m b s l U n
    | none => Sum.inl s
theorem nx_le {m b s} (h : s ≤ m) : te m b s ≤ nx m b s ∧ nx m b s ≤ m := skp_le (te_le h).2
-- the class
def CR (m : Nat) (b : Nat → Nat) (d : Nat) (z : Int32) (X : H2) (r : TR) (o : O2) : Prop := match r with
  | Sum.inl f => ∃ U n a so nu, o = some ([Sum.inl (Value.int (nI 0))], KC U n d z a f so nu X)
  | Sum.inr (U, n, s') => ∃ a st so nu, a ≤ m ∧ skp m b a = s' ∧ o = some ([Sum.inl (Value.int (nI 1))], KC U n d z a st so nu X)
theorem tso3 {m b s} : (tso m b s = 3 ∧ b s = 59) ↔ (s < m ∧ b s = 59) := by
  unfold tso
  constructor
  · intro h
    by_cases h1 : m ≤ s
    · rw [if_pos h1] at h; omega
    · exact ⟨by omega, h.2⟩
  · intro h
    have l : isLe (b s) = false := by rw [h.2]; decide
    have dd : isDi (b s) = false := by rw [h.2]; decide
    rw [if_neg (by omega), l, dd]
    exact ⟨rfl, h.2⟩
theorem tso_lt {m b s} : tso m b s < 4 := by
  unfold tso
  (repeat' split) <;> omega
theorem c_isStop {m b U n d z s nu X} (H : TX m b X) (hs : s ≤ m) : fT_isStop 0 (KC U n d z (te m b s) s (tso m b s) nu X) = some ([Sum.inl (Value.int (bI (stt m b s)))], KC U n d z (te m b s) s (tso m b s) nu X) := by
  have hm := H.1
  have h4 := tso_lt (m := m) (b := b) (s := s)
  unfold fT_isStop
  rw [kc_4]
  by_cases h3 : tso m b s = 3
  · have hlt : s < m := by
      by_cases q : s < m
      · exact q
      · unfold tso at h3; rw [if_pos (by omega)] at h3; omega
    have hb := (H.2.2 s (by omega)).2
    rw [if_pos (by rw [h3]), kc_3, mp_inb (by omega) (by omega), xgd, mp_tn (by omega), kc_b H (by omega)]
    unfold stt
    rw [decide_eq_true hlt, Bool.true_and]
    by_cases h5 : b s = 59
    · rw [if_pos (by rw [h5]), xb1, xgd, decide_eq_true h5]; rfl
    · rw [if_neg (by rw [mp_eq (by omega) (by omega)]; exact h5), xb0, xgd, decide_eq_false h5]; rfl
  · rw [if_neg (by rw [mp_eq (by omega) (by omega)]; exact h3), xb0, xgd]
    have e : stt m b s = false := by
      unfold stt
      by_cases h5 : s < m
      · rw [decide_eq_true h5, Bool.true_and]
        exact decide_eq_false (fun h6 => h3 (tso3.mpr ⟨h5, h6⟩).1)
      · rw [decide_eq_false h5, Bool.false_and]
    rw [e]; rfl
theorem xbb {x : Bool} : (decide (bI x = nI 0) || decide (bI x = nI 1)) = true := by cases x <;> decide +kernel
theorem CR_stop {m b U n d z s nu X} (H : TX m b X) (hs : s ≤ m) : CR m b d z X (stopP m b s U n) (fT_isStop 0 (KC U n d z (te m b s) s (tso m b s) nu X)) := by
  rw [c_isStop H hs]
  unfold stopP
  by_cases h : stt m b s = true
  · rw [if_pos h, h]
    exact ⟨_, _, _, _, (te_le hs).2, rfl, rfl⟩
  · rw [if_neg h, Bool.eq_false_iff.mpr h]
    exact ⟨_, _, _, _, _, rfl⟩
theorem CR_rstop {m b U n d z a s st so nu X} (H : TX m b X) (ha : a ≤ m) (hs : skp m b a = s) : CR m b d z X (stopP m b s U n) (fT_readStop 0 (KC U n d z a st so nu X)) := by
  have hq := (skp_le (b := b) ha).2
  rw [hs] at hq
  unfold fT_readStop
  rw [c_word H ha, xrV, hs, c_isStop H hq, xrI, xbb, xgd]
  have := CR_stop (U := U) (n := n) (d := d) (z := z) (nu := cnu m b s nu) H hq
  rw [c_isStop H hq] at this
  exact this
theorem c_num {m b U n d z a s st so nu X lo hi} (H : TX m b X) (ha : a ≤ m) (hs : skp m b a = s) (hl : lo < 1000) (hh : hi < 1000) : fT_readNumber 0 (nI lo) (nI hi) (KC U n d z a st so nu X) = some ([Sum.inl (Value.int (bI (irs m b s lo hi).isSome))], KC U n d z (te m b s) s (tso m b s) (cnu m b s nu) X) ∧ ∀ v, irs m b s lo hi = some v → cnu m b s nu = nI v ∧ lo ≤ v ∧ v ≤ hi := by
  have hq := (skp_le (b := b) ha).2
  have h4 := tso_lt (m := m) (b := b) (s := s)
  constructor
  · unfold fT_readNumber
    rw [c_word H ha, xrV, hs, kc_4, kc_5]
    unfold irs
    by_cases h2 : tso m b s = 2
    · rw [if_pos (by rw [h2])]
      unfold cnu
      rw [if_pos h2]
      unfold cnum
      by_cases h3 : te m b s - s ≤ 3
      · have hv := vs_1000 h2 h3
        rw [if_pos h3, isIn_b (by omega) (by omega) (by omega), xrI]
        by_cases h5 : lo ≤ vs b s (te m b s - s) ∧ vs b s (te m b s - s) ≤ hi
        · rw [if_pos (show (tso m b s = 2 ∧ te m b s - s ≤ 3 ∧ lo ≤ vs b s (te m b s - s) ∧ vs b s (te m b s - s) ≤ hi) from ⟨h2, h3, h5.1, h5.2⟩), decide_eq_true h5.1, decide_eq_true h5.2, if_neg (show ¬ bI (true && true) = 0 by rw [bI0]; decide), xb1, xgd]
          rfl
        · rw [if_neg (show ¬ (tso m b s = 2 ∧ te m b s - s ≤ 3 ∧ lo ≤ vs b s (te m b s - s) ∧ vs b s (te m b s - s) ≤ hi) from fun hh => h5 hh.2.2), show (decide (lo ≤ vs b s (te m b s - s)) && decide (vs b s (te m b s - s) ≤ hi)) = false from by
            rw [Bool.and_eq_false_iff]
            by_cases h6 : lo ≤ vs b s (te m b s - s)
            · exact Or.inr (decide_eq_false (fun h7 => h5 ⟨h6, h7⟩))
            · exact Or.inl (decide_eq_false h6), if_pos (show bI false = 0 by rw [bI0]), xb0, xgd]
          rfl
      · rw [if_neg h3, if_neg (show ¬ (tso m b s = 2 ∧ te m b s - s ≤ 3 ∧ lo ≤ vs b s (te m b s - s) ∧ vs b s (te m b s - s) ≤ hi) from fun hh => h3 hh.2.1)]
        have e : fV_isIn (nI 1000) (nI lo) (nI hi) (KC U n d z (te m b s) s (tso m b s) (nI 1000) X) = some ([Sum.inl (Value.int (nI 0))], KC U n d z (te m b s) s (tso m b s) (nI 1000) X) := by
          unfold fV_isIn
          rw [if_neg (by rw [mp_lt (by omega) (by omega)]; omega), if_pos (by rw [mp_lt (by omega) (by omega)]; omega), xb0, xgd]
        rw [e, xrI, if_pos nI_0, xb0, xgd]
        rfl
    · rw [if_neg (by rw [mp_eq (by omega) (by omega)]; exact h2), if_neg (show ¬ (tso m b s = 2 ∧ te m b s - s ≤ 3 ∧ lo ≤ vs b s (te m b s - s) ∧ vs b s (te m b s - s) ≤ hi) from fun hh => h2 hh.1), xb0, xgd]
      rfl
  · intro v hv
    unfold irs at hv
    by_cases h5 : tso m b s = 2 ∧ te m b s - s ≤ 3 ∧ lo ≤ vs b s (te m b s - s) ∧ vs b s (te m b s - s) ≤ hi
    · rw [if_pos h5] at hv
      obtain rfl := Option.some.inj hv
      unfold cnu cnum
      rw [if_pos h5.1, if_pos h5.2.1]
      exact ⟨rfl, h5.2.2.1, h5.2.2.2⟩
    · rw [if_neg h5] at hv; cases hv
theorem c_rname {m b U n d z a s st so nu X o} (H : TX m b X) (ha : a ≤ m) (hs : skp m b a = s) (ho : o < 17) : fT_readName 0 o (KC U n d z a st so nu X) = some ([Sum.inl (Value.int (bI (wd m b s o)))], KC U n d z (te m b s) s (tso m b s) (cnu m b s nu) X) := by
  have hq := (skp_le (b := b) ha).2
  rw [hs] at hq
  unfold fT_readName
  rw [c_word H ha, xrV, hs, c_wd H hq ho, xrI, xbb, xgd]
theorem bI_ne : ¬ bI true = 0 := by rw [bI0]; decide
theorem bI_eq : bI false = 0 := by rw [bI0]
theorem kc_m {U n d z a s so nu X t k v} (ht : t ≤ 8) (hk : k < mp_len t) : wI2 (KC U n d z a s so nu X) (300 + t) 1 k v = KC (mup U t k v) n d z a s so nu X := mp_wA ht hk
theorem CR_gd {m b d z X r o} (h : CR m b d z X r o) : CR m b d z X r (mv_rI o fun r3 h2 => mv_gd (decide (r3 = nI 0) || decide (r3 = nI 1)) <| some ([Sum.inl (Value.int r3)], h2)) := by
  cases r with
  | inl f =>
    obtain ⟨U, n, a, so, nu, e⟩ := h
    exact ⟨U, n, a, so, nu, by rw [e, xrI, xb0, xgd]⟩
  | inr p =>
    obtain ⟨U, n, s'⟩ := p
    obtain ⟨a, st, so, nu, h1, h2, e⟩ := h
    exact ⟨a, st, so, nu, h1, h2, by rw [e, xrI, xb1, xgd]⟩
theorem CR_vat {m b U n d z s so st nu X} (H : TX m b X) (hs : s ≤ m) : CR m b d z X (vatP m b s U n) (fT_readVat 0 1 (KC U n d z (te m b s) st so nu X)) := by
  have l1 := nx_le (b := b) hs
  have l2 := nx_le (b := b) l1.2
  have l3 := nx_le (b := b) l2.2
  obtain ⟨e1, v1⟩ := c_num (U := U) (n := n) (d := d) (z := z) (st := st) (so := so) (nu := nu) (lo := 0) (hi := 7) H (te_le (b := b) hs).2 (show _ = nx m b s from rfl) (by omega) (by omega)
  unfold fT_readVat vatP
  rw [e1, xrI]
  cases h1 : irs m b (nx m b s) 0 7 with
  | none =>
    rw [if_pos (show bI (none : Option Nat).isSome = 0 from bI_eq), xb0, xgd]
    exact ⟨_, _, _, _, _, rfl⟩
  | some v =>
    obtain ⟨q1, _, q3⟩ := v1 v h1
    rw [if_neg (show ¬ bI (some v).isSome = 0 from bI_ne), kc_5, q1, xbi, c_rname H (te_le (b := b) l1.2).2 (show _ = nx m b (nx m b s) from rfl) (by omega), xrI]
    by_cases h2 : wd m b (nx m b (nx m b s)) 6 = true
    · rw [if_neg (by rw [h2]; exact bI_ne)]
      obtain ⟨e3, v3⟩ := c_num (U := U) (n := n) (d := d) (z := z) (st := nx m b (nx m b s)) (so := tso m b (nx m b (nx m b s))) (nu := cnu m b (nx m b (nx m b s)) (nI v)) (lo := 0) (hi := 9) H (te_le (b := b) l2.2).2 (show _ = nx m b (nx m b (nx m b s)) from rfl) (by omega) (by omega)
      rw [e3, xrI]
      show CR m b d z X (if wd m b (nx m b (nx m b s)) 6 = true then _ else _) _
      rw [if_pos h2]
      cases h3 : irs m b (nx m b (nx m b (nx m b s))) 0 9 with
      | none =>
        rw [if_pos (show bI (none : Option Nat).isSome = 0 from bI_eq), xb0, xgd]
        exact ⟨_, _, _, _, _, rfl⟩
      | some p =>
        obtain ⟨q4, _, _⟩ := v3 p h3
        rw [if_neg (show ¬ bI (some p).isSome = 0 from bI_ne), mp_inb (by omega) (by omega), xgd, xbh, mp_tn (by omega), kc_5, q4, show (301 : Nat) = 300 + 1 from rfl, kc_m (by omega) (show v < 8 by omega)]
        exact CR_gd (CR_rstop H (te_le (b := b) l3.2).2 rfl)
    · rw [if_pos (by rw [Bool.eq_false_iff.mpr h2]; exact bI_eq), xb0, xgd]
      show CR m b d z X (if wd m b (nx m b (nx m b s)) 6 = true then _ else _) _
      rw [if_neg h2]
      exact ⟨_, _, _, _, _, rfl⟩
theorem CR_day {m b U n d z s so st nu X} (H : TX m b X) (hs : s ≤ m) : CR m b d z X (dayP m b s U n) (fT_readDay 0 1 (KC U n d z (te m b s) st so nu X)) := by
  have l1 := nx_le (b := b) hs
  have l2 := nx_le (b := b) l1.2
  have l3 := nx_le (b := b) l2.2
  obtain ⟨e1, v1⟩ := c_num (U := U) (n := n) (d := d) (z := z) (st := st) (so := so) (nu := nu) (lo := 0) (hi := 5) H (te_le (b := b) hs).2 (show _ = nx m b s from rfl) (by omega) (by omega)
  unfold fT_readDay dayP
  rw [e1, xrI]
  cases h1 : irs m b (nx m b s) 0 5 with
  | none =>
    rw [if_pos (show bI (none : Option Nat).isSome = 0 from bI_eq), xb0, xgd]
    exact ⟨_, _, _, _, _, rfl⟩
  | some v =>
    obtain ⟨q1, _, q3⟩ := v1 v h1
    rw [if_neg (show ¬ bI (some v).isSome = 0 from bI_ne), kc_5, q1, xbi, c_rname H (te_le (b := b) l1.2).2 (show _ = nx m b (nx m b s) from rfl) (by omega), xrI]
    by_cases h2 : wd m b (nx m b (nx m b s)) 0 = true
    · rw [if_neg (by rw [h2]; exact bI_ne)]
      obtain ⟨e3, v3⟩ := c_num (U := U) (n := n) (d := d) (z := z) (st := nx m b (nx m b s)) (so := tso m b (nx m b (nx m b s))) (nu := cnu m b (nx m b (nx m b s)) (nI v)) (lo := 0) (hi := 7) H (te_le (b := b) l2.2).2 (show _ = nx m b (nx m b (nx m b s)) from rfl) (by omega) (by omega)
      rw [e3, xrI]
      show CR m b d z X (if wd m b (nx m b (nx m b s)) 0 = true then _ else _) _
      rw [if_pos h2]
      cases h3 : irs m b (nx m b (nx m b (nx m b s))) 0 7 with
      | none =>
        rw [if_pos (show bI (none : Option Nat).isSome = 0 from bI_eq), xb0, xgd]
        exact ⟨_, _, _, _, _, rfl⟩
      | some p =>
        obtain ⟨q4, _, _⟩ := v3 p h3
        rw [if_neg (show ¬ bI (some p).isSome = 0 from bI_ne), mp_inb (by omega) (by omega), xgd, xbh, mp_tn (by omega), kc_5, q4, show (303 : Nat) = 300 + 3 from rfl, kc_m (by omega) (show v < 6 by omega)]
        exact CR_gd (CR_rstop H (te_le (b := b) l3.2).2 rfl)
    · rw [if_pos (by rw [Bool.eq_false_iff.mpr h2]; exact bI_eq), xb0, xgd]
      show CR m b d z X (if wd m b (nx m b (nx m b s)) 0 = true then _ else _) _
      rw [if_neg h2]
      exact ⟨_, _, _, _, _, rfl⟩
theorem CR_strong {m b U n d z s so st nu X} (H : TX m b X) (hs : s ≤ m) : CR m b d z X (strongP m b s U n) (fT_readStrong 0 1 (KC U n d z (te m b s) st so nu X)) := by
  have l1 := nx_le (b := b) hs
  have l2 := nx_le (b := b) l1.2
  obtain ⟨e1, v1⟩ := c_num (U := U) (n := n) (d := d) (z := z) (st := st) (so := so) (nu := nu) (lo := 0) (hi := 7) H (te_le (b := b) hs).2 (show _ = nx m b s from rfl) (by omega) (by omega)
  unfold fT_readStrong strongP
  rw [e1, xrI]
  cases h1 : irs m b (nx m b s) 0 7 with
  | none =>
    rw [if_pos (show bI (none : Option Nat).isSome = 0 from bI_eq), xb0, xgd]
    exact ⟨_, _, _, _, _, rfl⟩
  | some v =>
    obtain ⟨q1, _, q3⟩ := v1 v h1
    rw [if_neg (show ¬ bI (some v).isSome = 0 from bI_ne), kc_5, q1, xbi]
    obtain ⟨e3, v3⟩ := c_num (U := U) (n := n) (d := d) (z := z) (st := nx m b s) (so := tso m b (nx m b s)) (nu := nI v) (lo := 0) (hi := 9) H (te_le (b := b) l1.2).2 (show _ = nx m b (nx m b s) from rfl) (by omega) (by omega)
    rw [e3, xrI]
    show CR m b d z X (match irs m b (nx m b (nx m b s)) 0 9 with
      | none => Sum.inl (nx m b (nx m b s))
      | some p => stopP m b (nx m b (nx m b (nx m b s))) (mup U 2 v (nI p)) n) _
    cases h3 : irs m b (nx m b (nx m b s)) 0 9 with
    | none =>
      rw [if_pos (show bI (none : Option Nat).isSome = 0 from bI_eq), xb0, xgd]
      exact ⟨_, _, _, _, _, rfl⟩
    | some p =>
      obtain ⟨q4, _, _⟩ := v3 p h3
      rw [if_neg (show ¬ bI (some p).isSome = 0 from bI_ne), mp_inb (by omega) (by omega), xgd, xbh, mp_tn (by omega), kc_5, q4, show (302 : Nat) = 300 + 2 from rfl, kc_m (by omega) (show v < 8 by omega)]
      exact CR_gd (CR_rstop H (te_le (b := b) l2.2).2 rfl)
theorem k_most {l : Nat} {h : H2} (hl : l < 4) : fV_mostOfLaw (nI l) h = some ([Sum.inl (Value.int (nI (if l = 3 then 99 else 9)))], h) := by
  unfold fV_mostOfLaw
  by_cases h3 : l = 3
  · rw [if_pos h3, if_pos ((mp_eq (by omega) (by omega)).mpr h3)]
  · rw [if_neg h3, if_neg (fun hh => h3 ((mp_eq (by omega) (by omega)).mp hh))]
theorem CR_law {m b U n d z s so st nu X l} (H : TX m b X) (hs : s ≤ m) (hl : l < 4) : CR m b d z X (lawP m b s l U n) (fT_readLaw 0 1 (nI l) (KC U n d z (te m b s) st so nu X)) := by
  have l1 := nx_le (b := b) hs
  have h99 : (if l = 3 then 99 else 9) < 1000 := by split <;> omega
  obtain ⟨e1, v1⟩ := c_num (U := U) (n := n) (d := d) (z := z) (st := st) (so := so) (nu := nu) (lo := 0) (hi := if l = 3 then 99 else 9) H (te_le (b := b) hs).2 (show _ = nx m b s from rfl) (by omega) h99
  unfold fT_readLaw lawP
  rw [k_most hl, xrI, e1, xrI]
  cases h1 : irs m b (nx m b s) 0 (if l = 3 then 99 else 9) with
  | none =>
    rw [if_pos (show bI (none : Option Nat).isSome = 0 from bI_eq), xb0, xgd]
    exact ⟨_, _, _, _, _, rfl⟩
  | some v =>
    obtain ⟨q1, _, q3⟩ := v1 v h1
    rw [if_neg (show ¬ bI (some v).isSome = 0 from bI_ne), mp_inb hl (by omega), xgd, xbh, mp_tn (by omega), kc_5, q1, show (300 : Nat) = 300 + 0 from rfl, kc_m (by omega) (show l < 4 from hl)]
    exact CR_gd (CR_rstop H (te_le (b := b) l1.2).2 rfl)
