-- p23: words of a text, for both systems
def rn (P : Nat → Bool) (b : Nat → Nat) : Nat → Nat → Nat
  | 0, p => p
  | j + 1, p => if P (b p) = true then rn P b j (p + 1) else p
def isSp (x : Nat) : Bool := decide (x = 32)
def isLe (x : Nat) : Bool := decide (97 ≤ x) && decide (x ≤ 122)
def isDi (x : Nat) : Bool := decide (48 ≤ x) && decide (x ≤ 57)
def skp (m : Nat) (b : Nat → Nat) (p : Nat) : Nat := rn isSp b (m - p) p
def te (m : Nat) (b : Nat → Nat) (s : Nat) : Nat := if m ≤ s then s else if isLe (b s) = true then rn isLe b (m - s) s else if isDi (b s) = true then rn isDi b (m - s) s else s + 1
def tso (m : Nat) (b : Nat → Nat) (s : Nat) : Nat := if m ≤ s then 0 else if isLe (b s) = true then 1 else if isDi (b s) = true then 2 else 3
def nx (m : Nat) (b : Nat → Nat) (s : Nat) : Nat := skp m b (te m b s)
def vs (b : Nat → Nat) (s : Nat) : Nat → Nat
  | 0 => 0
  | j + 1 => vs b s j * 10 + b (s + j) - 48
theorem rn_ge {P b} : ∀ j p, p ≤ rn P b j p ∧ rn P b j p ≤ p + j
  | 0, p => ⟨Nat.le_refl _, Nat.le_refl _⟩
  | j + 1, p => by
    have := rn_ge (P := P) (b := b) j (p + 1)
    unfold rn
    split <;> omega
theorem rn_all {P b} : ∀ j p k, p ≤ k → k < rn P b j p → P (b k) = true
  | 0, p, k, h1, h2 => by
    have : k < p := h2
    omega
  | j + 1, p, k, h1, h2 => by
    unfold rn at h2
    by_cases hp : P (b p) = true
    · rw [if_pos hp] at h2
      by_cases e : k = p
      · rw [e]; exact hp
      · exact rn_all j (p + 1) k (by omega) h2
    · rw [if_neg hp] at h2
      omega
theorem skp_le {m b p} (h : p ≤ m) : p ≤ skp m b p ∧ skp m b p ≤ m := by
  have := rn_ge (P := isSp) (b := b) (m - p) p
  unfold skp
  omega
theorem te_le {m b s} (h : s ≤ m) : s ≤ te m b s ∧ te m b s ≤ m := by
  have h1 := rn_ge (P := isLe) (b := b) (m - s) s
  have h2 := rn_ge (P := isDi) (b := b) (m - s) s
  unfold te
  repeat' split
  all_goals omega
theorem te_lt {m b s} (h : s < m) : s < te m b s := by
  unfold te
  rw [if_neg (by omega)]
  obtain ⟨j, e⟩ : ∃ j, m - s = j + 1 := ⟨m - s - 1, by omega⟩
  rw [e]
  by_cases h1 : isLe (b s) = true
  · rw [if_pos h1]
    unfold rn
    rw [if_pos h1]
    have := rn_ge (P := isLe) (b := b) j (s + 1)
    omega
  · rw [if_neg h1]
    by_cases h2 : isDi (b s) = true
    · rw [if_pos h2]
      unfold rn
      rw [if_pos h2]
      have := rn_ge (P := isDi) (b := b) j (s + 1)
      omega
    · rw [if_neg h2]; omega
-- the class's tape
def tsC (a s so : Nat) (nu : Int32) (X : H2) : H2 := wI2 (wI2 (wI2 (wI2 X 6 0 2 (nI a)) 6 0 3 (nI s)) 6 0 4 (nI so)) 6 0 5 nu
def KC (U : Nat → Nat → Int32) (n d : Nat) (z : Int32) (a s so : Nat) (nu : Int32) (X : H2) : H2 := putM 1 U n d z (tsC a s so nu X)
def TX (m : Nat) (b : Nat → Nat) (X : H2) : Prop := m ≤ 200 ∧ X.1 6 0 1 = nI m ∧ ∀ k, k < 200 → X.1 700 0 k = nI (b k) ∧ b k < 256
theorem kc_1 {m b U n d z a s so nu X} (H : TX m b X) : rI2 (KC U n d z a s so nu X) 6 0 1 = nI m := by
  unfold KC
  rw [mp_rt (by omega)]
  exact H.2.1
theorem kc_2 {U n d z a s so nu X} : rI2 (KC U n d z a s so nu X) 6 0 2 = nI a := by
  unfold KC
  rw [mp_rt (by omega)]
  exact Eq.symm (Eq.symm rfl)
theorem kc_3 {U n d z a s so nu X} : rI2 (KC U n d z a s so nu X) 6 0 3 = nI s := by
  unfold KC
  rw [mp_rt (by omega)]
  exact Eq.symm (Eq.symm rfl)
theorem kc_4 {U n d z a s so nu X} : rI2 (KC U n d z a s so nu X) 6 0 4 = nI so := by
  unfold KC
  rw [mp_rt (by omega)]
  exact Eq.symm (Eq.symm rfl)
theorem kc_5 {U n d z a s so nu X} : rI2 (KC U n d z a s so nu X) 6 0 5 = nu := by
  unfold KC
  rw [mp_rt (by omega)]
  exact Eq.symm (Eq.symm rfl)
theorem kc_b {m b U n d z a s so nu X k} (H : TX m b X) (hk : k < 200) : rI2 (KC U n d z a s so nu X) 700 0 k = nI (b k) := by
  unfold KC
  rw [mp_rt (by omega)]
  exact (H.2.2 k hk).1
theorem kc_w2 {U n d z a s so nu X a'} : wI2 (KC U n d z a s so nu X) 6 0 2 (nI a') = KC U n d z a' s so nu X := by
  unfold KC tsC
  rw [mp_wt (by omega), w_commk (show 5 ≠ 2 by omega), w_commk (show 4 ≠ 2 by omega), w_commk (show 3 ≠ 2 by omega), w_same]
theorem kc_w3 {U n d z a s so nu X s'} : wI2 (KC U n d z a s so nu X) 6 0 3 (nI s') = KC U n d z a s' so nu X := by
  unfold KC tsC
  rw [mp_wt (by omega), w_commk (show 5 ≠ 3 by omega), w_commk (show 4 ≠ 3 by omega), w_same]
theorem kc_w4 {U n d z a s so nu X so'} : wI2 (KC U n d z a s so nu X) 6 0 4 (nI so') = KC U n d z a s so' nu X := by
  unfold KC tsC
  rw [mp_wt (by omega), w_commk (show 5 ≠ 4 by omega), w_same]
theorem kc_w5 {U n d z a s so nu X nu'} : wI2 (KC U n d z a s so nu X) 6 0 5 nu' = KC U n d z a s so nu' X := by
  unfold KC tsC
  rw [mp_wt (by omega), w_same]
theorem cw_skip {m b U n d z s so nu X} (H : TX m b X) : ∀ j a f, a + j = m → j < f → fT_readWord_b0 f 0 (KC U n d z a s so nu X) = fT_readWord_b38 0 (KC U n d z (rn isSp b j a) s so nu X)
  | _, _, 0, _, hf => by omega
  | 0, a, f + 1, ha, _ => by
    have := H.1
    unfold fT_readWord_b0 rn
    rw [kc_1 H, kc_2, if_pos (by rw [mp_le (by omega) (by omega)]; omega)]
  | j + 1, a, f + 1, ha, hf => by
    have hm := H.1
    have hb := (H.2.2 a (by omega)).2
    unfold fT_readWord_b0 rn
    rw [kc_1 H, kc_2, if_neg (by rw [mp_le (by omega) (by omega)]; omega), mp_inb (by omega) (by omega), xgd, mp_tn (by omega), kc_b H (by omega)]
    by_cases h : b a = 32
    · rw [if_pos (by rw [h]), if_pos (show isSp (b a) = true from decide_eq_true h), xbh, nI_add, kc_w2]
      exact cw_skip H j (a + 1) f (by omega) (by omega)
    · rw [if_neg (by rw [mp_eq (by omega) (by omega)]; exact h), if_neg (show ¬ isSp (b a) = true from fun hh => h (of_decide_eq_true hh))]
theorem isIn_b {h : H2} {x lo hi : Nat} (hx : x < 1000) (hl : lo < 1000) (hh : hi < 1000) : fV_isIn (nI x) (nI lo) (nI hi) h = some ([Sum.inl (Value.int (bI (decide (lo ≤ x) && decide (x ≤ hi))))], h) := by
  unfold fV_isIn
  by_cases h1 : lo ≤ x
  · by_cases h2 : x ≤ hi
    · rw [if_neg (by rw [mp_lt (by omega) (by omega)]; omega), if_neg (by rw [mp_lt (by omega) (by omega)]; omega), xb1, xgd, decide_eq_true h1, decide_eq_true h2]; rfl
    · rw [if_neg (by rw [mp_lt (by omega) (by omega)]; omega), if_pos (by rw [mp_lt (by omega) (by omega)]; omega), xb0, xgd, decide_eq_false h2, Bool.and_false]; rfl
  · rw [if_pos (by rw [mp_lt (by omega) (by omega)]; omega), xb0, xgd, decide_eq_false h1, Bool.false_and]; rfl
theorem cw_let {m b U n d z s so nu X} (H : TX m b X) : ∀ j a f, a + j = m → j < f → fT_readWord_b89 f 0 (KC U n d z a s so nu X) = some ([], KC U n d z (rn isLe b j a) s so nu X)
  | _, _, 0, _, hf => by omega
  | 0, a, f + 1, ha, _ => by
    have := H.1
    unfold fT_readWord_b89 rn
    rw [kc_1 H, kc_2, if_pos (by rw [mp_le (by omega) (by omega)]; omega)]
  | j + 1, a, f + 1, ha, hf => by
    have hm := H.1
    have hb := (H.2.2 a (by omega)).2
    unfold fT_readWord_b89 rn
    rw [kc_1 H, kc_2, if_neg (by rw [mp_le (by omega) (by omega)]; omega), mp_inb (by omega) (by omega), xgd, mp_tn (by omega), kc_b H (by omega), isIn_b (by omega) (by omega) (by omega), xrI, kc_2, nI_add, kc_w2, xbh]
    by_cases h : isLe (b a) = true
    · rw [if_neg (by rw [show (decide (97 ≤ b a) && decide (b a ≤ 122)) = isLe (b a) from rfl, bI0, h]; decide), if_pos h]
      exact cw_let H j (a + 1) f (by omega) (by omega)
    · rw [if_pos (by rw [show (decide (97 ≤ b a) && decide (b a ≤ 122)) = isLe (b a) from rfl, bI0]; exact Bool.eq_false_iff.mpr h), if_neg h]
def cnum (m : Nat) (b : Nat → Nat) (s e : Nat) : Nat := if e - s ≤ 3 then vs b s (e - s) else 1000
theorem cw_dig {m b U n d z s so X} (H : TX m b X) : ∀ j a f, s ≤ a → a + j = m → j < f → fT_readDigits_b5 f 0 (KC U n d z a s so (nI (vs b s (min (a - s) 3))) X) = some ([], KC U n d z (rn isDi b j a) s so (nI (cnum m b s (rn isDi b j a))) X)
  | _, _, 0, _, _, hf => by omega
  | 0, a, f + 1, hs, ha, _ => by
    have := H.1
    unfold fT_readDigits_b5 rn cnum
    rw [kc_1 H, kc_2, kc_3, mp_sub hs, if_pos (by rw [mp_le (by omega) (by omega)]; omega)]
    by_cases h3 : a - s ≤ 3
    · rw [if_pos (by rw [mp_le (by omega) (by omega)]; exact h3), if_pos h3, Nat.min_eq_left h3]
    · rw [if_neg (by rw [mp_le (by omega) (by omega)]; exact h3), if_neg h3, xbh, kc_w5]
  | j + 1, a, f + 1, hs, ha, hf => by
    have hm := H.1
    have hb := (H.2.2 a (by omega)).2
    have fin : (if nI (a - s) ≤ nI 3 then some ([], KC U n d z a s so (nI (vs b s (min (a - s) 3))) X) else mv_bh (wI2 (KC U n d z a s so (nI (vs b s (min (a - s) 3))) X) 6 0 5 (nI 1000)) fun h2 => some ([], h2) : O2) = some ([], KC U n d z a s so (nI (cnum m b s a)) X) := by
      unfold cnum
      by_cases h3 : a - s ≤ 3
      · rw [if_pos (by rw [mp_le (by omega) (by omega)]; exact h3), if_pos h3, Nat.min_eq_left h3]
      · rw [if_neg (by rw [mp_le (by omega) (by omega)]; exact h3), if_neg h3, xbh, kc_w5]
    unfold fT_readDigits_b5 rn
    rw [kc_1 H, kc_2, kc_3, mp_sub hs, if_neg (by rw [mp_le (by omega) (by omega)]; omega), mp_inb (by omega) (by omega), xgd, mp_tn (by omega), kc_b H (by omega), fin]
    by_cases h1 : b a < 48
    · rw [if_pos (by rw [mp_lt (by omega) (by omega)]; exact h1), if_neg (show ¬ isDi (b a) = true from fun hh => by unfold isDi at hh; rw [Bool.and_eq_true] at hh; have := of_decide_eq_true hh.1; omega)]
    · rw [if_neg (by rw [mp_lt (by omega) (by omega)]; exact h1), xgd]
      by_cases h2 : 57 < b a
      · rw [if_pos (by rw [mp_lt (by omega) (by omega)]; exact h2), if_neg (show ¬ isDi (b a) = true from fun hh => by unfold isDi at hh; rw [Bool.and_eq_true] at hh; have := of_decide_eq_true hh.2; omega)]
      · have hd : isDi (b a) = true := by unfold isDi; rw [decide_eq_true (show 48 ≤ b a by omega), decide_eq_true (show b a ≤ 57 by omega)]; rfl
        rw [if_neg (by rw [mp_lt (by omega) (by omega)]; exact h2), if_pos hd]
        by_cases h3 : 3 ≤ a - s
        · rw [if_pos (by rw [mp_le (by omega) (by omega)]; exact h3), xbh, nI_add, kc_w2]
          have e := cw_dig (U := U) (n := n) (d := d) (z := z) (s := s) (so := so) H j (a + 1) f (by omega) (by omega) (by omega)
          rw [Nat.min_eq_right (show 3 ≤ a + 1 - s by omega)] at e
          rw [Nat.min_eq_right h3]
          exact e
        · rw [if_neg (by rw [mp_le (by omega) (by omega)]; exact h3), xgd, kc_5, mp_mul, nI_add, mp_sub (by omega), xbh, kc_w5, kc_2, nI_add, xbh, kc_w2]
          have e := cw_dig (U := U) (n := n) (d := d) (z := z) (s := s) (so := so) H j (a + 1) f (by omega) (by omega) (by omega)
          rw [Nat.min_eq_left (show a + 1 - s ≤ 3 by omega), show a + 1 - s = (a - s) + 1 by omega] at e
          unfold vs at e
          rw [show s + (a - s) = a by omega] at e
          rw [Nat.min_eq_left (show a - s ≤ 3 by omega)]
          exact e
def cnu (m : Nat) (b : Nat → Nat) (s : Nat) (nu : Int32) : Int32 := if tso m b s = 2 then nI (cnum m b s (te m b s)) else nu
theorem c_word {m b U n d z a s so nu X} (H : TX m b X) (ha : a ≤ m) : fT_readWord 0 (KC U n d z a s so nu X) = some ([], KC U n d z (te m b (skp m b a)) (skp m b a) (tso m b (skp m b a)) (cnu m b (skp m b a) nu) X) := by
  have hm := H.1
  have hq := (skp_le (b := b) ha).2
  unfold fT_readWord
  rw [cw_skip H (m - a) a 1000 (by omega) (by omega), show rn isSp b (m - a) a = skp m b a from rfl]
  generalize skp m b a = q at hq ⊢
  unfold fT_readWord_b38
  rw [kc_2, xbh, kc_w3, kc_2, kc_1 H]
  unfold cnu te tso
  by_cases h1 : m ≤ q
  · rw [if_neg (by rw [mp_lt (by omega) (by omega)]; omega), xbh, kc_w4, if_pos h1, if_pos h1, if_neg (by omega)]
  · have hb := (H.2.2 q (by omega)).2
    rw [if_pos (by rw [mp_lt (by omega) (by omega)]; omega), if_neg h1, if_neg h1, mp_inb (by omega) (by omega), xgd, mp_tn (by omega), kc_b H (by omega), isIn_b (by omega) (by omega) (by omega), xrI, show (decide (97 ≤ b q) && decide (b q ≤ 122)) = isLe (b q) from rfl]
    by_cases h2 : isLe (b q) = true
    · rw [if_neg (by rw [bI0, h2]; decide), if_pos h2, if_pos h2, xbh, kc_w4, if_neg (by omega)]
      exact cw_let H (m - q) q 1000 (by omega) (by omega)
    · rw [if_pos (by rw [bI0]; exact Bool.eq_false_iff.mpr h2), if_neg h2, if_neg h2, kc_2, mp_inb (by omega) (by omega), xgd, mp_tn (by omega), kc_b H (by omega), isIn_b (by omega) (by omega) (by omega), xrI, show (decide (48 ≤ b q) && decide (b q ≤ 57)) = isDi (b q) from rfl]
      by_cases h3 : isDi (b q) = true
      · rw [if_neg (by rw [bI0, h3]; decide), if_pos h3, if_pos h3, if_pos rfl, xbh, kc_w4]
        unfold fT_readDigits
        rw [xbh, kc_w5]
        have e := cw_dig (U := U) (n := n) (d := d) (z := z) (so := 2) (s := q) H (m - q) q 1000 (Nat.le_refl _) (by omega) (by omega)
        rw [Nat.sub_self, show vs b q (min 0 3) = 0 from rfl] at e
        rw [e, xrV]
      · rw [if_pos (by rw [bI0]; exact Bool.eq_false_iff.mpr h3), if_neg h3, if_neg h3, if_neg (by omega), xbh, kc_w4, kc_2, nI_add, xbh, kc_w2]
