-- p14: odds and hope
theorem ln_toInt {n : Nat} (h : n < 2 ^ 63) : (lN n).toInt = (n : Int) := lg_ofNat_toInt h
theorem ln_sub {a b : Nat} (h : b ≤ a) : lN a - lN b = lN (a - b) := lN_sub h
theorem ln_div {a b : Nat} (ha : a < 2 ^ 63) (hb : b < 2 ^ 63) : lN a / lN b = lN (a / b) := by
  apply Int64.toInt_inj.mp
  have h2 : a / b ≤ a := Nat.div_le_self a b
  rw [Int64.toInt_div, ln_toInt ha, ln_toInt hb, ln_toInt (show a / b < 2 ^ 63 by omega)]
  rw [← Int.ofNat_tdiv]
  generalize a / b = q at h2 ⊢
  rw [Int.bmod_eq_of_le (by omega) (by omega)]
theorem ln_mod {a b : Nat} (ha : a < 2 ^ 63) (hb : b < 2 ^ 63) : lN a - lN a / lN b * lN b = lN (a % b) := by
  rw [ln_div ha hb, lN_mul, ln_sub (Nat.div_mul_le_self a b)]
  congr 1
  have := Nat.div_add_mod a b
  rw [Nat.mul_comm] at this
  omega
theorem ln_eq0 {a : Nat} (ha : a < 2 ^ 63) : (lN a = 0) = (a = 0) := by
  apply propext
  rw [← Int64.toInt_inj, ln_toInt ha]
  have : (0 : Int64).toInt = 0 := by decide
  omega
theorem ln_cmp0 {a : Nat} (ha : a < 2 ^ 63) : (lg_cmp (lN a) (lN 0) = 0) = (a = 0) := by
  rw [propext (lg_cmp_eq _ _), show lN 0 = 0 from by decide +kernel, ln_eq0 ha]
theorem ln_nz {a : Nat} (h0 : 0 < a) (ha : a < 2 ^ 63) : (!decide (lN a = 0)) = true := by
  rw [decide_eq_false (by rw [ln_eq0 ha]; omega)]; rfl
def euL : Nat → Nat → Nat → Nat
  | 0, a, _ => a
  | k + 1, a, b => if b = 0 then a else euL k b (a % b)
def hlt : Nat → Nat → Nat → Prop
  | 0, _, b => b = 0
  | k + 1, a, b => b = 0 ∨ hlt k b (a % b)
theorem hlt_mono : ∀ k m a b, hlt k a b → k ≤ m → hlt m a b
  | 0, 0, _, _, h, _ => h
  | 0, m + 1, _, _, h, _ => Or.inl h
  | k + 1, 0, _, _, _, hm => by omega
  | k + 1, m + 1, a, b, h, hm => by
    rcases h with h | h
    · exact Or.inl h
    · exact Or.inr (hlt_mono k m _ _ h (by omega))
theorem hlt_half : ∀ j a b, b ≤ a → a < 2 ^ j → hlt (2 * j) a b
  | 0, a, b, h1, h2 => by
    show b = 0
    have : a < 1 := h2
    omega
  | j + 1, a, b, h1, h2 => by
    show hlt (2 * j + 1 + 1) a b
    by_cases hb : b = 0
    · exact Or.inl hb
    · refine Or.inr ?_
      by_cases hr : a % b = 0
      · exact Or.inl hr
      · refine Or.inr ?_
        have e1 : a % b < b := Nat.mod_lt _ (by omega)
        have e2 : a % b ≤ a - b := by
          rw [Nat.mod_eq_sub_mod h1]
          exact Nat.mod_le _ _
        have e3 : b % (a % b) < a % b := Nat.mod_lt _ (by omega)
        have e4 : 2 ^ (j + 1) = 2 * 2 ^ j := by rw [Nat.pow_succ]; omega
        exact hlt_half j _ _ (by omega) (by omega)
theorem hlt_all {a b : Nat} (ha : a < 2 ^ 60) (hb : b < 2 ^ 60) : hlt 121 a b := by
  by_cases h : b ≤ a
  · exact hlt_mono (2 * 60) 121 a b (hlt_half 60 a b h ha) (by omega)
  · refine Or.inr ?_
    have e : a % b = a := Nat.mod_eq_of_lt (by omega)
    rw [e]
    exact hlt_half 60 b a (by omega) hb
theorem euL_pos : ∀ k a b, 0 < a ∨ 0 < b → hlt k a b → 0 < euL k a b
  | 0, a, b, h, hh => by
    have : b = 0 := hh
    show 0 < a
    omega
  | k + 1, a, b, h, hh => by
    unfold euL
    by_cases hb : b = 0
    · rw [if_pos hb]; omega
    · rw [if_neg hb]
      rcases hh with hh | hh
      · exact absurd hh hb
      · exact euL_pos k b (a % b) (Or.inl (by omega)) hh
theorem euL_le : ∀ k a b, a < 2 ^ 60 → b < 2 ^ 60 → euL k a b < 2 ^ 60
  | 0, _, _, ha, _ => ha
  | k + 1, a, b, ha, hb => by
    unfold euL
    by_cases h0 : b = 0
    · rw [if_pos h0]; exact ha
    · rw [if_neg h0]
      have : a % b < b := Nat.mod_lt _ (by omega)
      exact euL_le k b (a % b) hb (by omega)
theorem euL_mono : ∀ k m a b, hlt k a b → k ≤ m → euL m a b = euL k a b
  | 0, 0, _, _, _, _ => rfl
  | 0, m + 1, a, b, h, _ => by
    have : b = 0 := h
    unfold euL
    rw [if_pos this]
  | k + 1, 0, _, _, _, hm => by omega
  | k + 1, m + 1, a, b, h, hm => by
    unfold euL
    by_cases hb : b = 0
    · rw [if_pos hb, if_pos hb]
    · rw [if_neg hb, if_neg hb]
      rcases h with h | h
      · exact absurd h hb
      · exact euL_mono k m _ _ h (by omega)
theorem cc_eu : ∀ k i f a b (h : H2), i + k = 200 → k < f → a < 2 ^ 60 → b < 2 ^ 60 → fC_commonDivisor_b9 f (lN a) (lN b) (nI i) h = some ([Sum.inl (Value.long (lN (euL k a b)))], h)
  | _, _, 0, _, _, _, _, hf, _, _ => by omega
  | 0, i, f + 1, a, b, h, hi, _, ha, hb => by
    unfold fC_commonDivisor_b9 euL
    rw [if_pos (by rw [mp_le (by omega) (by omega)]; omega)]
  | k + 1, i, f + 1, a, b, h, hi, hf, ha, hb => by
    unfold fC_commonDivisor_b9 euL
    rw [if_neg (by rw [mp_le (by omega) (by omega)]; omega)]
    by_cases h0 : b = 0
    · rw [if_pos (by rw [ln_cmp0 (by omega)]; exact h0), if_pos h0]
    · have : a % b < b := Nat.mod_lt _ (by omega)
      rw [if_neg (by rw [ln_cmp0 (by omega)]; exact h0), if_neg h0, ln_nz (by omega) (by omega), xgd, xbl, xbl, xbl, xbi, ln_mod (by omega) (by omega), nI_add]
      exact cc_eu k (i + 1) f _ _ h (by omega) (by omega) hb (by omega)
theorem nn_eu {w0 w2 : Int64} {v4 : Int32} {h : H2} : ∀ k f a b, k < f → a < 2 ^ 60 → b < 2 ^ 60 → (0 < a ∨ 0 < b) → hlt k a b → fN_lowest_b6 f w0 w2 v4 (lN a) (lN b) h = some ([Sum.inl (Value.long (if v4 = 0 then w0 / lN (euL k a b) else w2 / lN (euL k a b)))], h)
  | _, 0, _, _, hf, _, _, _, _ => by omega
  | 0, f + 1, a, b, _, ha, hb, hp, hh => by
    have h0 : b = 0 := hh
    unfold fN_lowest_b6 euL
    rw [if_pos (by rw [ln_cmp0 (by omega)]; exact h0), ln_nz (by omega) (by omega), xgd, xgd]
    split <;> rfl
  | k + 1, f + 1, a, b, hf, ha, hb, hp, hh => by
    unfold fN_lowest_b6 euL
    by_cases h0 : b = 0
    · rw [if_pos (by rw [ln_cmp0 (by omega)]; exact h0), if_pos h0, ln_nz (by omega) (by omega), xgd, xgd]
      split <;> rfl
    · have : a % b < b := Nat.mod_lt _ (by omega)
      rw [if_neg (by rw [ln_cmp0 (by omega)]; exact h0), if_neg h0, ln_nz (by omega) (by omega), xgd, xbl, xbl, xbl, ln_mod (by omega) (by omega)]
      rcases hh with hh | hh
      · exact absurd hh h0
      · exact nn_eu k f _ _ (by omega) hb (by omega) (Or.inl (by omega)) hh
theorem c_part {a b : Nat} {v4 : Int32} {h : H2} (ha : a < 2 ^ 60) (hb : b < 2 ^ 60) (hp : 0 < a ∨ 0 < b) : fC_partOf (lN a) (lN b) v4 h = some ([Sum.inl (Value.long (if v4 = 0 then lN a / lN (euL 121 a b) else lN b / lN (euL 121 a b)))], h) := by
  have hh := hlt_all ha hb
  have h1 := euL_pos 121 a b hp hh
  have h2 := euL_le 121 a b ha hb
  unfold fC_partOf fC_commonDivisor
  rw [xbl, xbl, xbi, cc_eu 200 0 1000 a b h (by omega) (by omega) ha hb, xrL, xbl, euL_mono 121 200 a b hh (by omega)]
  rw [if_neg (by rw [ln_cmp0 (by omega)]; omega), ln_nz h1 (by omega), xgd, xgd]
  split <;> rfl
theorem n_low {a b : Nat} {v4 : Int32} {h : H2} (ha : a < 2 ^ 60) (hb : b < 2 ^ 60) (hp : 0 < a ∨ 0 < b) : fN_lowest (lN a) (lN b) v4 h = some ([Sum.inl (Value.long (if v4 = 0 then lN a / lN (euL 121 a b) else lN b / lN (euL 121 a b)))], h) := by
  unfold fN_lowest
  rw [xbl, xbl]
  exact nn_eu 121 1000 a b (by omega) ha hb hp (hlt_all ha hb)
-- choices
def chC (n k : Nat) : Nat → Nat → Nat → Nat
  | 0, _, w => w
  | j + 1, i, w => chC n k j (i + 1) (w * (n - k + i) / i)
def chN (n : Nat) : Nat → Nat → Nat → Nat
  | 0, _, w => w
  | j + 1, i, w => chN n j (i + 1) (w * (n - i) / (i + 1))
theorem ch_eq : ∀ n, n ≤ 8 → ∀ k, k ≤ n → chC n k k 1 1 = chN n k 0 1 ∧ chN n k 0 1 ≤ 70 := by decide +kernel
def chB (n k : Nat) : Nat → Nat → Nat → Bool
  | 0, _, w => Nat.ble w 1000000
  | j + 1, i, w => Nat.ble w 1000000 && chB n k j (i + 1) (w * (n - k + i) / i)
def chD (n : Nat) : Nat → Nat → Nat → Bool
  | 0, _, w => Nat.ble w 1000000
  | j + 1, i, w => Nat.ble w 1000000 && chD n j (i + 1) (w * (n - i) / (i + 1))
theorem ch_bd : ∀ n, n ≤ 8 → ∀ k, k ≤ n → chB n k k 1 1 = true ∧ chD n k 0 1 = true := by decide +kernel
theorem cc_ch {n k : Nat} {h : H2} (hn : n ≤ 8) (hk : k ≤ n) : ∀ j i f w, i + j = k + 1 → 0 < i → j < f → chB n k j i w = true → fC_choices_b5 f (nI n) (nI k) (lN w) (nI i) h = some ([Sum.inl (Value.long (lN (chC n k j i w)))], h)
  | _, _, 0, _, _, _, hf, _ => by omega
  | 0, i, f + 1, w, hi, _, _, _ => by
    unfold fC_choices_b5 chC
    rw [if_pos (by rw [mp_lt (by omega) (by omega)]; omega)]
  | j + 1, i, f + 1, w, hi, h0, hf, hb => by
    unfold chB at hb
    rw [Bool.and_eq_true] at hb
    have hw : w ≤ 1000000 := Nat.le_of_ble_eq_true hb.1
    have hm : w * (n - k + i) ≤ 1000000 * 20 := Nat.mul_le_mul hw (by omega)
    unfold fC_choices_b5 chC
    rw [if_neg (by rw [mp_lt (by omega) (by omega)]; omega), mp_sub hk, nI_add, nI_l (by omega), nI_l (by omega), ln_nz h0 (by omega), xgd, xbl, xbi, lN_mul, ln_div (by omega) (by omega), nI_add]
    exact cc_ch hn hk j (i + 1) f _ (by omega) (by omega) (by omega) hb.2
def pcP (k m : Nat) : Nat → Nat → Nat → Nat
  | 0, _, x => x
  | j + 1, i, x => pcP k m j (i + 1) (x * (if i < k then m else 100 - m))
theorem pcP_mul {k m} : ∀ j i x y, pcP k m j i (x * y) = pcP k m j i x * y
  | 0, _, _, _ => rfl
  | j + 1, i, x, y => by
    unfold pcP
    rw [Nat.mul_right_comm, pcP_mul j (i + 1)]
theorem pcP_le {k m} (hm : m < 100) : ∀ j i x, pcP k m j i x ≤ x * 100 ^ j
  | 0, _, x => by show x ≤ x * 1; omega
  | j + 1, i, x => by
    unfold pcP
    have h1 := pcP_le (k := k) hm j (i + 1) (x * (if i < k then m else 100 - m))
    have h2 : x * (if i < k then m else 100 - m) ≤ x * 100 := Nat.mul_le_mul_left x (by split <;> omega)
    have h3 := Nat.mul_le_mul_right (100 ^ j) h2
    rw [Nat.pow_succ]
    calc pcP k m j (i + 1) (x * (if i < k then m else 100 - m)) ≤ x * (if i < k then m else 100 - m) * 100 ^ j := h1
      _ ≤ x * 100 * 100 ^ j := h3
      _ = x * (100 ^ j * 100) := by rw [Nat.mul_assoc, Nat.mul_comm 100 (100 ^ j)]
theorem p100 : ∀ n, n ≤ 8 → 100 ^ n ≤ 10000000000000000 := by decide +kernel
theorem p100p (n : Nat) : 0 < 100 ^ n := Nat.pow_pos (by omega)
theorem cc_js {n k m : Nat} {v3 : Int32} {h : H2} (hn : n ≤ 8) (hk : k ≤ n) (hm : m < 100) : ∀ j i f x, i + j = n → j < f → pcP k m j i x < 2 ^ 60 → fC_justSlip_b13 f (nI n) (nI k) (nI m) v3 (lN x) (lN (100 ^ i)) (nI i) h = some ([Sum.inl (Value.long (if v3 = 0 then lN (pcP k m j i x) / lN (euL 121 (pcP k m j i x) (100 ^ n)) else lN (100 ^ n) / lN (euL 121 (pcP k m j i x) (100 ^ n))))], h)
  | _, _, 0, _, _, hf, _ => by omega
  | 0, i, f + 1, x, hi, _, hx => by
    have h1 := p100 n hn
    have h2 := p100p n
    have : i = n := by omega
    subst this
    unfold fC_justSlip_b13
    unfold pcP at hx ⊢
    rw [if_pos (by rw [mp_le (by omega) (by omega)]; omega), c_part hx (by omega) (Or.inr h2), xrL]
  | j + 1, i, f + 1, x, hi, hf, hx => by
    unfold fC_justSlip_b13
    unfold pcP at hx ⊢
    rw [if_neg (by rw [mp_le (by omega) (by omega)]; omega)]
    by_cases hik : i < k
    · rw [if_pos hik] at hx ⊢
      rw [if_neg (by rw [mp_le (by omega) (by omega)]; omega), nI_l (by omega), lN_mul, xbl, lN_mul, xbl, xbi, nI_add, ← Nat.pow_succ]
      exact cc_js hn hk hm j (i + 1) f _ (by omega) (by omega) hx
    · rw [if_neg hik] at hx ⊢
      rw [if_pos (by rw [mp_le (by omega) (by omega)]; omega), mp_sub (by omega), nI_l (by omega), lN_mul, xbl, lN_mul, xbl, xbi, nI_add, ← Nat.pow_succ]
      exact cc_js hn hk hm j (i + 1) f _ (by omega) (by omega) hx
theorem c_odds {n k m : Nat} {v3 : Int32} {h : H2} (hn : n ≤ 8) (hk : k ≤ n) (hm : m < 100) : fC_justSlip (nI n) (nI k) (nI m) v3 h = some ([Sum.inl (Value.long (if v3 = 0 then lN (pcP k m n 0 (chN n k 0 1)) / lN (euL 121 (pcP k m n 0 (chN n k 0 1)) (100 ^ n)) else lN (100 ^ n) / lN (euL 121 (pcP k m n 0 (chN n k 0 1)) (100 ^ n))))], h) := by
  have h1 := p100 n hn
  have h2 := pcP_le (k := k) hm n 0 (chN n k 0 1)
  have h3 := Nat.mul_le_mul (ch_eq n hn k hk).2 h1
  unfold fC_justSlip fC_choices
  rw [xbl, xbi, cc_ch hn hk k 1 1000 1 (by omega) (by omega) (by omega) (ch_bd n hn k hk).1, xrL, (ch_eq n hn k hk).1, xbl, xbl, xbi]
  exact cc_js hn hk hm n 0 1000 _ (by omega) (by omega) (by omega)
theorem nn_ch {n k m x : Nat} {v3 : Int32} {h : H2} (hn : n ≤ 8) (hk : k ≤ n) : ∀ j i f w, i + j = k → j < f → chD n j i w = true → fN_odds_b103 f (nI n) (nI k) v3 (lN x) (lN m) (lN w) (nI i) h = mv_rL (fN_lowest (lN x * lN (chN n j i w)) (lN m) v3 h) fun r2 h1 => some ([Sum.inl (Value.long r2)], h1)
  | _, _, 0, _, _, hf, _ => by omega
  | 0, i, f + 1, w, hi, _, _ => by
    unfold fN_odds_b103 chN
    rw [if_pos (by rw [mp_le (by omega) (by omega)]; omega)]
  | j + 1, i, f + 1, w, hi, hf, hb => by
    unfold chD at hb
    rw [Bool.and_eq_true] at hb
    have hw : w ≤ 1000000 := Nat.le_of_ble_eq_true hb.1
    have hm : w * (n - i) ≤ 1000000 * 20 := Nat.mul_le_mul hw (by omega)
    unfold fN_odds_b103 chN
    rw [if_neg (by rw [mp_le (by omega) (by omega)]; omega), nI_add, nI_l (by omega), mp_sub (by omega), nI_l (by omega), ln_nz (by omega) (by omega), xgd, xbl, xbi, lN_mul, ln_div (by omega) (by omega)]
    exact nn_ch hn hk j (i + 1) f _ (by omega) (by omega) hb.2
theorem nn_js {A0 n0 d0 z0 A N d z J T tn td tz R4 h} {n k m : Nat} {v3 : Int32} (hn : n ≤ 8) (hk : k ≤ n) (hm : m < 100) (hA : A 0 3 = nI m) : ∀ j i f x, i + j = n → j < f → pcP k m j i x * chN n k 0 1 < 2 ^ 60 → fN_odds_b46 f 0 (nI n) (nI k) v3 (lN x) (lN (100 ^ i)) (nI i) (mk A0 n0 d0 z0 (rowOf A N d z J) T tn td tz R4 h) = some ([Sum.inl (Value.long (if v3 = 0 then lN (pcP k m j i x * chN n k 0 1) / lN (euL 121 (pcP k m j i x * chN n k 0 1) (100 ^ n)) else lN (100 ^ n) / lN (euL 121 (pcP k m j i x * chN n k 0 1) (100 ^ n))))], mk A0 n0 d0 z0 (rowOf A N d z J) T tn td tz R4 h)
  | _, _, 0, _, _, hf, _ => by omega
  | 0, i, f + 1, x, hi, _, hx => by
    have h1 := p100 n hn
    have h2 := p100p n
    have : i = n := by omega
    subst this
    unfold fN_odds_b46
    unfold pcP at hx ⊢
    rw [if_pos (by rw [mp_le (by omega) (by omega)]; omega), xbl, xbi, nn_ch hn hk k 0 1000 1 (by omega) (by omega) (ch_bd i hn k hk).2, lN_mul, n_low hx (by omega) (Or.inr h2), xrL]
  | j + 1, i, f + 1, x, hi, hf, hx => by
    unfold fN_odds_b46
    unfold pcP at hx ⊢
    rw [if_neg (by rw [mp_le (by omega) (by omega)]; omega), mp_tn (show 3 < 1000000 by omega), mk_rR, mr_law (show 3 < 4 by omega), hA, mp_inb (show 3 < 69 by omega) (by omega), xgd, xgd]
    by_cases hik : i < k
    · rw [if_pos hik] at hx ⊢
      rw [if_neg (by rw [mp_le (by omega) (by omega)]; omega), nI_l (by omega), lN_mul, xbl, lN_mul, xbl, xbi, nI_add, ← Nat.pow_succ]
      exact nn_js hn hk hm hA j (i + 1) f _ (by omega) (by omega) hx
    · rw [if_neg hik] at hx ⊢
      rw [if_pos (by rw [mp_le (by omega) (by omega)]; omega), mp_sub (by omega), nI_l (by omega), lN_mul, xbl, lN_mul, xbl, xbi, nI_add, ← Nat.pow_succ]
      exact nn_js hn hk hm hA j (i + 1) f _ (by omega) (by omega) hx
theorem n_odds {A0 n0 d0 z0 A N d z J T tn td tz R4 h} {n k m : Nat} {v3 : Int32} (hn : n ≤ 8) (hk : k ≤ n) (hm : m < 100) (hA : A 0 3 = nI m) : fN_odds_b46 1000 0 (nI n) (nI k) v3 (lN 1) (lN 1) (nI 0) (mk A0 n0 d0 z0 (rowOf A N d z J) T tn td tz R4 h) = some ([Sum.inl (Value.long (if v3 = 0 then lN (pcP k m n 0 (chN n k 0 1)) / lN (euL 121 (pcP k m n 0 (chN n k 0 1)) (100 ^ n)) else lN (100 ^ n) / lN (euL 121 (pcP k m n 0 (chN n k 0 1)) (100 ^ n))))], mk A0 n0 d0 z0 (rowOf A N d z J) T tn td tz R4 h) := by
  have h1 := p100 n hn
  have h2 := pcP_le (k := k) hm n 0 (chN n k 0 1)
  have h3 := Nat.mul_le_mul (ch_eq n hn k hk).2 h1
  have e : pcP k m n 0 1 * chN n k 0 1 = pcP k m n 0 (chN n k 0 1) := by rw [← pcP_mul, Nat.one_mul]
  have := nn_js (A0 := A0) (n0 := n0) (d0 := d0) (z0 := z0) (A := A) (N := N) (d := d) (z := z) (J := J) (T := T) (tn := tn) (td := td) (tz := tz) (R4 := R4) (h := h) (v3 := v3) hn hk hm hA n 0 1000 1 (by omega) (by omega) (by rw [e]; omega)
  rw [e] at this
  exact this
theorem g_odds (v1 v2 v3 : Int32) : GoodL (fV_odds 0 v1 v2 v3) (fN_odds 0 v1 v2 v3) := by
  intro k h hk hI
  obtain ⟨A, n, d, z, J, T, tn, td, tz, R4, h0, rfl, hn, hd, hR, hO⟩ := hI
  rcases in_case v1 0 8 (by omega) (by omega) with ⟨_, e1, e2⟩ | ⟨b, _, hb, rfl, e1, e2⟩
  · exact finL (h1 := (mk A n d z (rowOf A n d z J) T tn td tz R4 h0)) (A := A) (n := n) (d := d) (z := z) (J := J) (T := T) (tn := tn) (td := td) (tz := tz) (R4 := R4) (h' := h0) (Value.long (-(lN 1))) (by simp (disch := first | omega | assumption) only [fV_odds, e1, decide_true, decide_false, Bool.not_false, Bool.not_true, Bool.true_or, Bool.or_true, Nat.reduceAdd, xgd, xbi, xbh, xbl, xrI, xrV, xrL, xrR, x00, x10, xb0, xb1, if_true, if_false, mp_inb, mp_tn, mp_nn, mp_mul, nI_add, mr_law, mr_dd, mr_zz, mr_nn, mr_pur, mr_str, mr_ros, mr_clo, mr_wlaw, mr_wday, mr_wz, mr_wpur, mr_wstr, mr_wros, mr_wclo, mk_a0, mk_b0, mk_a1, mk_b1, mk_a2, mk_b2, mk_a3, mk_b3, mk_a4, mk_b4, mk_a5, mk_b5, mk_a6, mk_b6, mk_a7, mk_b7, mk_a8, mk_b8, mk_an, mk_bn, mk_ad, mk_bd, mk_az, mk_bz, mk_rR, mk_rR4, mk_ro, mk_rm, mk_wa0, mk_wb0, mk_wa1, mk_wb1, mk_wa2, mk_wb2, mk_wa3, mk_wb3, mk_wa4, mk_wb4, mk_wa5, mk_wb5, mk_wa6, mk_wb6, mk_wa7, mk_wb7, mk_wa8, mk_wb8, mk_wan, mk_wbn, mk_wad, mk_wbd, mk_waz, mk_wbz, mk_wR, mk_wR4, mk_wo, k0_takes, k0_fights, k0_fades, k0_settle, k0_deepen, k0_dip, k0_vat, k0_day, k0_pass, k0_sum, k0_drawn, k3_takes, k3_fights, k3_fades, k3_settle, k3_deepen, k3_dip, k3_vat, k3_day, k3_pass, k3_sum, k3_drawn, kn_its, kn_sets, kn_deep, kn_takes, kn_fights, kn_fades, kn_dip, kn_day, kn_goes, kn_sum, kn_drawn, mk_cp3]) (by simp (disch := first | omega | assumption) only [fN_odds, e2, decide_true, decide_false, Bool.not_false, Bool.not_true, Bool.true_or, Bool.or_true, Nat.reduceAdd, xgd, xbi, xbh, xbl, xrI, xrV, xrL, xrR, x00, x10, xb0, xb1, if_true, if_false, mp_inb, mp_tn, mp_nn, mp_mul, nI_add, mr_law, mr_dd, mr_zz, mr_nn, mr_pur, mr_str, mr_ros, mr_clo, mr_wlaw, mr_wday, mr_wz, mr_wpur, mr_wstr, mr_wros, mr_wclo, mk_a0, mk_b0, mk_a1, mk_b1, mk_a2, mk_b2, mk_a3, mk_b3, mk_a4, mk_b4, mk_a5, mk_b5, mk_a6, mk_b6, mk_a7, mk_b7, mk_a8, mk_b8, mk_an, mk_bn, mk_ad, mk_bd, mk_az, mk_bz, mk_rR, mk_rR4, mk_ro, mk_rm, mk_wa0, mk_wb0, mk_wa1, mk_wb1, mk_wa2, mk_wb2, mk_wa3, mk_wb3, mk_wa4, mk_wb4, mk_wa5, mk_wb5, mk_wa6, mk_wb6, mk_wa7, mk_wb7, mk_wa8, mk_wb8, mk_wan, mk_wbn, mk_wad, mk_wbd, mk_waz, mk_wbz, mk_wR, mk_wR4, mk_wo, k0_takes, k0_fights, k0_fades, k0_settle, k0_deepen, k0_dip, k0_vat, k0_day, k0_pass, k0_sum, k0_drawn, k3_takes, k3_fights, k3_fades, k3_settle, k3_deepen, k3_dip, k3_vat, k3_day, k3_pass, k3_sum, k3_drawn, kn_its, kn_sets, kn_deep, kn_takes, kn_fights, kn_fades, kn_dip, kn_day, kn_goes, kn_sum, kn_drawn, mk_cp3]) hn (by omega) hR (Oth_succ hO) ⟨_, rfl⟩
  · have hl : (nI b).toInt64 = lN b := nI_l (by omega)
    rw [hl] at e2
    rcases in_case v2 0 b (by omega) (by omega) with ⟨_, f1, f2⟩ | ⟨c, _, hc, rfl, f1, f2⟩
    · exact finL (h1 := (mk A n d z (rowOf A n d z J) T tn td tz R4 h0)) (A := A) (n := n) (d := d) (z := z) (J := J) (T := T) (tn := tn) (td := td) (tz := tz) (R4 := R4) (h' := h0) (Value.long (-(lN 1))) (by simp (disch := first | omega | assumption) only [fV_odds, e1, f1, decide_true, decide_false, Bool.not_false, Bool.not_true, Bool.true_or, Bool.or_true, Nat.reduceAdd, xgd, xbi, xbh, xbl, xrI, xrV, xrL, xrR, x00, x10, xb0, xb1, if_true, if_false, mp_inb, mp_tn, mp_nn, mp_mul, nI_add, mr_law, mr_dd, mr_zz, mr_nn, mr_pur, mr_str, mr_ros, mr_clo, mr_wlaw, mr_wday, mr_wz, mr_wpur, mr_wstr, mr_wros, mr_wclo, mk_a0, mk_b0, mk_a1, mk_b1, mk_a2, mk_b2, mk_a3, mk_b3, mk_a4, mk_b4, mk_a5, mk_b5, mk_a6, mk_b6, mk_a7, mk_b7, mk_a8, mk_b8, mk_an, mk_bn, mk_ad, mk_bd, mk_az, mk_bz, mk_rR, mk_rR4, mk_ro, mk_rm, mk_wa0, mk_wb0, mk_wa1, mk_wb1, mk_wa2, mk_wb2, mk_wa3, mk_wb3, mk_wa4, mk_wb4, mk_wa5, mk_wb5, mk_wa6, mk_wb6, mk_wa7, mk_wb7, mk_wa8, mk_wb8, mk_wan, mk_wbn, mk_wad, mk_wbd, mk_waz, mk_wbz, mk_wR, mk_wR4, mk_wo, k0_takes, k0_fights, k0_fades, k0_settle, k0_deepen, k0_dip, k0_vat, k0_day, k0_pass, k0_sum, k0_drawn, k3_takes, k3_fights, k3_fades, k3_settle, k3_deepen, k3_dip, k3_vat, k3_day, k3_pass, k3_sum, k3_drawn, kn_its, kn_sets, kn_deep, kn_takes, kn_fights, kn_fades, kn_dip, kn_day, kn_goes, kn_sum, kn_drawn, mk_cp3]) (by simp (disch := first | omega | assumption) only [fN_odds, e2, hl, f2, decide_true, decide_false, Bool.not_false, Bool.not_true, Bool.true_or, Bool.or_true, Nat.reduceAdd, xgd, xbi, xbh, xbl, xrI, xrV, xrL, xrR, x00, x10, xb0, xb1, if_true, if_false, mp_inb, mp_tn, mp_nn, mp_mul, nI_add, mr_law, mr_dd, mr_zz, mr_nn, mr_pur, mr_str, mr_ros, mr_clo, mr_wlaw, mr_wday, mr_wz, mr_wpur, mr_wstr, mr_wros, mr_wclo, mk_a0, mk_b0, mk_a1, mk_b1, mk_a2, mk_b2, mk_a3, mk_b3, mk_a4, mk_b4, mk_a5, mk_b5, mk_a6, mk_b6, mk_a7, mk_b7, mk_a8, mk_b8, mk_an, mk_bn, mk_ad, mk_bd, mk_az, mk_bz, mk_rR, mk_rR4, mk_ro, mk_rm, mk_wa0, mk_wb0, mk_wa1, mk_wb1, mk_wa2, mk_wb2, mk_wa3, mk_wb3, mk_wa4, mk_wb4, mk_wa5, mk_wb5, mk_wa6, mk_wb6, mk_wa7, mk_wb7, mk_wa8, mk_wb8, mk_wan, mk_wbn, mk_wad, mk_wbd, mk_waz, mk_wbz, mk_wR, mk_wR4, mk_wo, k0_takes, k0_fights, k0_fades, k0_settle, k0_deepen, k0_dip, k0_vat, k0_day, k0_pass, k0_sum, k0_drawn, k3_takes, k3_fights, k3_fades, k3_settle, k3_deepen, k3_dip, k3_vat, k3_day, k3_pass, k3_sum, k3_drawn, kn_its, kn_sets, kn_deep, kn_takes, kn_fights, kn_fades, kn_dip, kn_day, kn_goes, kn_sum, kn_drawn, mk_cp3]) hn (by omega) hR (Oth_succ hO) ⟨_, rfl⟩
    · rcases in_case v3 0 1 (by omega) (by omega) with ⟨_, g1, g2⟩ | ⟨p, _, hp, rfl, g1, g2⟩
      · exact finL (h1 := (mk A n d z (rowOf A n d z J) T tn td tz R4 h0)) (A := A) (n := n) (d := d) (z := z) (J := J) (T := T) (tn := tn) (td := td) (tz := tz) (R4 := R4) (h' := h0) (Value.long (-(lN 1))) (by simp (disch := first | omega | assumption) only [fV_odds, e1, f1, g1, decide_true, decide_false, Bool.not_false, Bool.not_true, Bool.true_or, Bool.or_true, Nat.reduceAdd, xgd, xbi, xbh, xbl, xrI, xrV, xrL, xrR, x00, x10, xb0, xb1, if_true, if_false, mp_inb, mp_tn, mp_nn, mp_mul, nI_add, mr_law, mr_dd, mr_zz, mr_nn, mr_pur, mr_str, mr_ros, mr_clo, mr_wlaw, mr_wday, mr_wz, mr_wpur, mr_wstr, mr_wros, mr_wclo, mk_a0, mk_b0, mk_a1, mk_b1, mk_a2, mk_b2, mk_a3, mk_b3, mk_a4, mk_b4, mk_a5, mk_b5, mk_a6, mk_b6, mk_a7, mk_b7, mk_a8, mk_b8, mk_an, mk_bn, mk_ad, mk_bd, mk_az, mk_bz, mk_rR, mk_rR4, mk_ro, mk_rm, mk_wa0, mk_wb0, mk_wa1, mk_wb1, mk_wa2, mk_wb2, mk_wa3, mk_wb3, mk_wa4, mk_wb4, mk_wa5, mk_wb5, mk_wa6, mk_wb6, mk_wa7, mk_wb7, mk_wa8, mk_wb8, mk_wan, mk_wbn, mk_wad, mk_wbd, mk_waz, mk_wbz, mk_wR, mk_wR4, mk_wo, k0_takes, k0_fights, k0_fades, k0_settle, k0_deepen, k0_dip, k0_vat, k0_day, k0_pass, k0_sum, k0_drawn, k3_takes, k3_fights, k3_fades, k3_settle, k3_deepen, k3_dip, k3_vat, k3_day, k3_pass, k3_sum, k3_drawn, kn_its, kn_sets, kn_deep, kn_takes, kn_fights, kn_fades, kn_dip, kn_day, kn_goes, kn_sum, kn_drawn, mk_cp3]) (by simp (disch := first | omega | assumption) only [fN_odds, e2, hl, f2, g2, decide_true, decide_false, Bool.not_false, Bool.not_true, Bool.true_or, Bool.or_true, Nat.reduceAdd, xgd, xbi, xbh, xbl, xrI, xrV, xrL, xrR, x00, x10, xb0, xb1, if_true, if_false, mp_inb, mp_tn, mp_nn, mp_mul, nI_add, mr_law, mr_dd, mr_zz, mr_nn, mr_pur, mr_str, mr_ros, mr_clo, mr_wlaw, mr_wday, mr_wz, mr_wpur, mr_wstr, mr_wros, mr_wclo, mk_a0, mk_b0, mk_a1, mk_b1, mk_a2, mk_b2, mk_a3, mk_b3, mk_a4, mk_b4, mk_a5, mk_b5, mk_a6, mk_b6, mk_a7, mk_b7, mk_a8, mk_b8, mk_an, mk_bn, mk_ad, mk_bd, mk_az, mk_bz, mk_rR, mk_rR4, mk_ro, mk_rm, mk_wa0, mk_wb0, mk_wa1, mk_wb1, mk_wa2, mk_wb2, mk_wa3, mk_wb3, mk_wa4, mk_wb4, mk_wa5, mk_wb5, mk_wa6, mk_wb6, mk_wa7, mk_wb7, mk_wa8, mk_wb8, mk_wan, mk_wbn, mk_wad, mk_wbd, mk_waz, mk_wbz, mk_wR, mk_wR4, mk_wo, k0_takes, k0_fights, k0_fades, k0_settle, k0_deepen, k0_dip, k0_vat, k0_day, k0_pass, k0_sum, k0_drawn, k3_takes, k3_fights, k3_fades, k3_settle, k3_deepen, k3_dip, k3_vat, k3_day, k3_pass, k3_sum, k3_drawn, kn_its, kn_sets, kn_deep, kn_takes, kn_fights, kn_fades, kn_dip, kn_day, kn_goes, kn_sum, kn_drawn, mk_cp3]) hn (by omega) hR (Oth_succ hO) ⟨_, rfl⟩
      · obtain ⟨m, hm, e⟩ := hR 0 3 (by omega) (show 3 < 4 by omega)
        exact finL (h1 := (mk A n d z (rowOf A n d z J) T tn td tz R4 h0)) (A := A) (n := n) (d := d) (z := z) (J := J) (T := T) (tn := tn) (td := td) (tz := tz) (R4 := R4) (h' := h0) (Value.long (if nI p = 0 then lN (pcP c m b 0 (chN b c 0 1)) / lN (euL 121 (pcP c m b 0 (chN b c 0 1)) (100 ^ b)) else lN (100 ^ b) / lN (euL 121 (pcP c m b 0 (chN b c 0 1)) (100 ^ b)))) (by simp (disch := first | omega | assumption) only [fV_odds, e1, f1, g1, e, c_odds hb hc hm, decide_true, decide_false, Bool.not_false, Bool.not_true, Bool.true_or, Bool.or_true, Nat.reduceAdd, xgd, xbi, xbh, xbl, xrI, xrV, xrL, xrR, x00, x10, xb0, xb1, if_true, if_false, mp_inb, mp_tn, mp_nn, mp_mul, nI_add, mr_law, mr_dd, mr_zz, mr_nn, mr_pur, mr_str, mr_ros, mr_clo, mr_wlaw, mr_wday, mr_wz, mr_wpur, mr_wstr, mr_wros, mr_wclo, mk_a0, mk_b0, mk_a1, mk_b1, mk_a2, mk_b2, mk_a3, mk_b3, mk_a4, mk_b4, mk_a5, mk_b5, mk_a6, mk_b6, mk_a7, mk_b7, mk_a8, mk_b8, mk_an, mk_bn, mk_ad, mk_bd, mk_az, mk_bz, mk_rR, mk_rR4, mk_ro, mk_rm, mk_wa0, mk_wb0, mk_wa1, mk_wb1, mk_wa2, mk_wb2, mk_wa3, mk_wb3, mk_wa4, mk_wb4, mk_wa5, mk_wb5, mk_wa6, mk_wb6, mk_wa7, mk_wb7, mk_wa8, mk_wb8, mk_wan, mk_wbn, mk_wad, mk_wbd, mk_waz, mk_wbz, mk_wR, mk_wR4, mk_wo, k0_takes, k0_fights, k0_fades, k0_settle, k0_deepen, k0_dip, k0_vat, k0_day, k0_pass, k0_sum, k0_drawn, k3_takes, k3_fights, k3_fades, k3_settle, k3_deepen, k3_dip, k3_vat, k3_day, k3_pass, k3_sum, k3_drawn, kn_its, kn_sets, kn_deep, kn_takes, kn_fights, kn_fades, kn_dip, kn_day, kn_goes, kn_sum, kn_drawn, mk_cp3]) (by simp (disch := first | omega | assumption) only [fN_odds, e2, hl, f2, g2, n_odds hb hc hm e, decide_true, decide_false, Bool.not_false, Bool.not_true, Bool.true_or, Bool.or_true, Nat.reduceAdd, xgd, xbi, xbh, xbl, xrI, xrV, xrL, xrR, x00, x10, xb0, xb1, if_true, if_false, mp_inb, mp_tn, mp_nn, mp_mul, nI_add, mr_law, mr_dd, mr_zz, mr_nn, mr_pur, mr_str, mr_ros, mr_clo, mr_wlaw, mr_wday, mr_wz, mr_wpur, mr_wstr, mr_wros, mr_wclo, mk_a0, mk_b0, mk_a1, mk_b1, mk_a2, mk_b2, mk_a3, mk_b3, mk_a4, mk_b4, mk_a5, mk_b5, mk_a6, mk_b6, mk_a7, mk_b7, mk_a8, mk_b8, mk_an, mk_bn, mk_ad, mk_bd, mk_az, mk_bz, mk_rR, mk_rR4, mk_ro, mk_rm, mk_wa0, mk_wb0, mk_wa1, mk_wb1, mk_wa2, mk_wb2, mk_wa3, mk_wb3, mk_wa4, mk_wb4, mk_wa5, mk_wb5, mk_wa6, mk_wb6, mk_wa7, mk_wb7, mk_wa8, mk_wb8, mk_wan, mk_wbn, mk_wad, mk_wbd, mk_waz, mk_wbz, mk_wR, mk_wR4, mk_wo, k0_takes, k0_fights, k0_fades, k0_settle, k0_deepen, k0_dip, k0_vat, k0_day, k0_pass, k0_sum, k0_drawn, k3_takes, k3_fights, k3_fades, k3_settle, k3_deepen, k3_dip, k3_vat, k3_day, k3_pass, k3_sum, k3_drawn, kn_its, kn_sets, kn_deep, kn_takes, kn_fights, kn_fades, kn_dip, kn_day, kn_goes, kn_sum, kn_drawn, mk_cp3]) hn (by omega) hR (Oth_succ hO) ⟨_, rfl⟩

theorem g_hope (v1 v2 : Int32) : GoodL (fV_hope 0 v1 v2) (fN_hope 0 v1 v2) := by
  intro k h hk hI
  obtain ⟨A, n, d, z, J, T, tn, td, tz, R4, h0, rfl, hn, hd, hR, hO⟩ := hI
  rcases in_case v1 0 99 (by omega) (by omega) with ⟨_, e1, e2⟩ | ⟨b, _, hb, rfl, e1, e2⟩
  · exact finL (h1 := (mk A n d z (rowOf A n d z J) T tn td tz R4 h0)) (A := A) (n := n) (d := d) (z := z) (J := J) (T := T) (tn := tn) (td := td) (tz := tz) (R4 := R4) (h' := h0) (Value.long (-(lN 1))) (by simp (disch := first | omega | assumption) only [fV_hope, e1, decide_true, decide_false, Bool.not_false, Bool.not_true, Bool.true_or, Bool.or_true, Nat.reduceAdd, xgd, xbi, xbh, xbl, xrI, xrV, xrL, xrR, x00, x10, xb0, xb1, if_true, if_false, mp_inb, mp_tn, mp_nn, mp_mul, nI_add, mr_law, mr_dd, mr_zz, mr_nn, mr_pur, mr_str, mr_ros, mr_clo, mr_wlaw, mr_wday, mr_wz, mr_wpur, mr_wstr, mr_wros, mr_wclo, mk_a0, mk_b0, mk_a1, mk_b1, mk_a2, mk_b2, mk_a3, mk_b3, mk_a4, mk_b4, mk_a5, mk_b5, mk_a6, mk_b6, mk_a7, mk_b7, mk_a8, mk_b8, mk_an, mk_bn, mk_ad, mk_bd, mk_az, mk_bz, mk_rR, mk_rR4, mk_ro, mk_rm, mk_wa0, mk_wb0, mk_wa1, mk_wb1, mk_wa2, mk_wb2, mk_wa3, mk_wb3, mk_wa4, mk_wb4, mk_wa5, mk_wb5, mk_wa6, mk_wb6, mk_wa7, mk_wb7, mk_wa8, mk_wb8, mk_wan, mk_wbn, mk_wad, mk_wbd, mk_waz, mk_wbz, mk_wR, mk_wR4, mk_wo, k0_takes, k0_fights, k0_fades, k0_settle, k0_deepen, k0_dip, k0_vat, k0_day, k0_pass, k0_sum, k0_drawn, k3_takes, k3_fights, k3_fades, k3_settle, k3_deepen, k3_dip, k3_vat, k3_day, k3_pass, k3_sum, k3_drawn, kn_its, kn_sets, kn_deep, kn_takes, kn_fights, kn_fades, kn_dip, kn_day, kn_goes, kn_sum, kn_drawn, mk_cp3]) (by simp (disch := first | omega | assumption) only [fN_hope, e2, decide_true, decide_false, Bool.not_false, Bool.not_true, Bool.true_or, Bool.or_true, Nat.reduceAdd, xgd, xbi, xbh, xbl, xrI, xrV, xrL, xrR, x00, x10, xb0, xb1, if_true, if_false, mp_inb, mp_tn, mp_nn, mp_mul, nI_add, mr_law, mr_dd, mr_zz, mr_nn, mr_pur, mr_str, mr_ros, mr_clo, mr_wlaw, mr_wday, mr_wz, mr_wpur, mr_wstr, mr_wros, mr_wclo, mk_a0, mk_b0, mk_a1, mk_b1, mk_a2, mk_b2, mk_a3, mk_b3, mk_a4, mk_b4, mk_a5, mk_b5, mk_a6, mk_b6, mk_a7, mk_b7, mk_a8, mk_b8, mk_an, mk_bn, mk_ad, mk_bd, mk_az, mk_bz, mk_rR, mk_rR4, mk_ro, mk_rm, mk_wa0, mk_wb0, mk_wa1, mk_wb1, mk_wa2, mk_wb2, mk_wa3, mk_wb3, mk_wa4, mk_wb4, mk_wa5, mk_wb5, mk_wa6, mk_wb6, mk_wa7, mk_wb7, mk_wa8, mk_wb8, mk_wan, mk_wbn, mk_wad, mk_wbd, mk_waz, mk_wbz, mk_wR, mk_wR4, mk_wo, k0_takes, k0_fights, k0_fades, k0_settle, k0_deepen, k0_dip, k0_vat, k0_day, k0_pass, k0_sum, k0_drawn, k3_takes, k3_fights, k3_fades, k3_settle, k3_deepen, k3_dip, k3_vat, k3_day, k3_pass, k3_sum, k3_drawn, kn_its, kn_sets, kn_deep, kn_takes, kn_fights, kn_fades, kn_dip, kn_day, kn_goes, kn_sum, kn_drawn, mk_cp3]) hn (by omega) hR (Oth_succ hO) ⟨_, rfl⟩
  · have hl : (nI b).toInt64 = lN b := nI_l (by omega)
    rw [hl] at e2
    rcases in_case v2 0 1 (by omega) (by omega) with ⟨_, f1, f2⟩ | ⟨p, _, hp, rfl, f1, f2⟩
    · exact finL (h1 := (mk A n d z (rowOf A n d z J) T tn td tz R4 h0)) (A := A) (n := n) (d := d) (z := z) (J := J) (T := T) (tn := tn) (td := td) (tz := tz) (R4 := R4) (h' := h0) (Value.long (-(lN 1))) (by simp (disch := first | omega | assumption) only [fV_hope, e1, f1, decide_true, decide_false, Bool.not_false, Bool.not_true, Bool.true_or, Bool.or_true, Nat.reduceAdd, xgd, xbi, xbh, xbl, xrI, xrV, xrL, xrR, x00, x10, xb0, xb1, if_true, if_false, mp_inb, mp_tn, mp_nn, mp_mul, nI_add, mr_law, mr_dd, mr_zz, mr_nn, mr_pur, mr_str, mr_ros, mr_clo, mr_wlaw, mr_wday, mr_wz, mr_wpur, mr_wstr, mr_wros, mr_wclo, mk_a0, mk_b0, mk_a1, mk_b1, mk_a2, mk_b2, mk_a3, mk_b3, mk_a4, mk_b4, mk_a5, mk_b5, mk_a6, mk_b6, mk_a7, mk_b7, mk_a8, mk_b8, mk_an, mk_bn, mk_ad, mk_bd, mk_az, mk_bz, mk_rR, mk_rR4, mk_ro, mk_rm, mk_wa0, mk_wb0, mk_wa1, mk_wb1, mk_wa2, mk_wb2, mk_wa3, mk_wb3, mk_wa4, mk_wb4, mk_wa5, mk_wb5, mk_wa6, mk_wb6, mk_wa7, mk_wb7, mk_wa8, mk_wb8, mk_wan, mk_wbn, mk_wad, mk_wbd, mk_waz, mk_wbz, mk_wR, mk_wR4, mk_wo, k0_takes, k0_fights, k0_fades, k0_settle, k0_deepen, k0_dip, k0_vat, k0_day, k0_pass, k0_sum, k0_drawn, k3_takes, k3_fights, k3_fades, k3_settle, k3_deepen, k3_dip, k3_vat, k3_day, k3_pass, k3_sum, k3_drawn, kn_its, kn_sets, kn_deep, kn_takes, kn_fights, kn_fades, kn_dip, kn_day, kn_goes, kn_sum, kn_drawn, mk_cp3]) (by simp (disch := first | omega | assumption) only [fN_hope, hl, e2, f2, decide_true, decide_false, Bool.not_false, Bool.not_true, Bool.true_or, Bool.or_true, Nat.reduceAdd, xgd, xbi, xbh, xbl, xrI, xrV, xrL, xrR, x00, x10, xb0, xb1, if_true, if_false, mp_inb, mp_tn, mp_nn, mp_mul, nI_add, mr_law, mr_dd, mr_zz, mr_nn, mr_pur, mr_str, mr_ros, mr_clo, mr_wlaw, mr_wday, mr_wz, mr_wpur, mr_wstr, mr_wros, mr_wclo, mk_a0, mk_b0, mk_a1, mk_b1, mk_a2, mk_b2, mk_a3, mk_b3, mk_a4, mk_b4, mk_a5, mk_b5, mk_a6, mk_b6, mk_a7, mk_b7, mk_a8, mk_b8, mk_an, mk_bn, mk_ad, mk_bd, mk_az, mk_bz, mk_rR, mk_rR4, mk_ro, mk_rm, mk_wa0, mk_wb0, mk_wa1, mk_wb1, mk_wa2, mk_wb2, mk_wa3, mk_wb3, mk_wa4, mk_wb4, mk_wa5, mk_wb5, mk_wa6, mk_wb6, mk_wa7, mk_wb7, mk_wa8, mk_wb8, mk_wan, mk_wbn, mk_wad, mk_wbd, mk_waz, mk_wbz, mk_wR, mk_wR4, mk_wo, k0_takes, k0_fights, k0_fades, k0_settle, k0_deepen, k0_dip, k0_vat, k0_day, k0_pass, k0_sum, k0_drawn, k3_takes, k3_fights, k3_fades, k3_settle, k3_deepen, k3_dip, k3_vat, k3_day, k3_pass, k3_sum, k3_drawn, kn_its, kn_sets, kn_deep, kn_takes, kn_fights, kn_fades, kn_dip, kn_day, kn_goes, kn_sum, kn_drawn, mk_cp3]) hn (by omega) hR (Oth_succ hO) ⟨_, rfl⟩
    · obtain ⟨m, hm, e⟩ := hR 0 3 (by omega) (show 3 < 4 by omega)
      have hlm : (nI m).toInt64 = lN m := nI_l (by omega)
      have hbm : b * m ≤ 99 * 99 := Nat.mul_le_mul (by omega) (by omega)
      have q1 : ∀ h, fC_partOf (lN (b * m)) (lN 100) (nI p) h = _ := fun h => c_part (h := h) (by omega) (by omega) (Or.inr (by omega))
      have q2 : ∀ h, fN_lowest (lN (b * m)) (lN 100) (nI p) h = _ := fun h => n_low (h := h) (by omega) (by omega) (Or.inr (by omega))
      exact finL (h1 := (mk A n d z (rowOf A n d z J) T tn td tz R4 h0)) (A := A) (n := n) (d := d) (z := z) (J := J) (T := T) (tn := tn) (td := td) (tz := tz) (R4 := R4) (h' := h0) (Value.long (if nI p = 0 then lN (b * m) / lN (euL 121 (b * m) 100) else lN 100 / lN (euL 121 (b * m) 100))) (by simp (disch := first | omega | assumption) only [fV_hope, e1, f1, e, hl, hlm, lN_mul, q1, decide_true, decide_false, Bool.not_false, Bool.not_true, Bool.true_or, Bool.or_true, Nat.reduceAdd, xgd, xbi, xbh, xbl, xrI, xrV, xrL, xrR, x00, x10, xb0, xb1, if_true, if_false, mp_inb, mp_tn, mp_nn, mp_mul, nI_add, mr_law, mr_dd, mr_zz, mr_nn, mr_pur, mr_str, mr_ros, mr_clo, mr_wlaw, mr_wday, mr_wz, mr_wpur, mr_wstr, mr_wros, mr_wclo, mk_a0, mk_b0, mk_a1, mk_b1, mk_a2, mk_b2, mk_a3, mk_b3, mk_a4, mk_b4, mk_a5, mk_b5, mk_a6, mk_b6, mk_a7, mk_b7, mk_a8, mk_b8, mk_an, mk_bn, mk_ad, mk_bd, mk_az, mk_bz, mk_rR, mk_rR4, mk_ro, mk_rm, mk_wa0, mk_wb0, mk_wa1, mk_wb1, mk_wa2, mk_wb2, mk_wa3, mk_wb3, mk_wa4, mk_wb4, mk_wa5, mk_wb5, mk_wa6, mk_wb6, mk_wa7, mk_wb7, mk_wa8, mk_wb8, mk_wan, mk_wbn, mk_wad, mk_wbd, mk_waz, mk_wbz, mk_wR, mk_wR4, mk_wo, k0_takes, k0_fights, k0_fades, k0_settle, k0_deepen, k0_dip, k0_vat, k0_day, k0_pass, k0_sum, k0_drawn, k3_takes, k3_fights, k3_fades, k3_settle, k3_deepen, k3_dip, k3_vat, k3_day, k3_pass, k3_sum, k3_drawn, kn_its, kn_sets, kn_deep, kn_takes, kn_fights, kn_fades, kn_dip, kn_day, kn_goes, kn_sum, kn_drawn, mk_cp3]) (by simp (disch := first | omega | assumption) only [fN_hope, e2, f2, e, hl, hlm, lN_mul, q2, decide_true, decide_false, Bool.not_false, Bool.not_true, Bool.true_or, Bool.or_true, Nat.reduceAdd, xgd, xbi, xbh, xbl, xrI, xrV, xrL, xrR, x00, x10, xb0, xb1, if_true, if_false, mp_inb, mp_tn, mp_nn, mp_mul, nI_add, mr_law, mr_dd, mr_zz, mr_nn, mr_pur, mr_str, mr_ros, mr_clo, mr_wlaw, mr_wday, mr_wz, mr_wpur, mr_wstr, mr_wros, mr_wclo, mk_a0, mk_b0, mk_a1, mk_b1, mk_a2, mk_b2, mk_a3, mk_b3, mk_a4, mk_b4, mk_a5, mk_b5, mk_a6, mk_b6, mk_a7, mk_b7, mk_a8, mk_b8, mk_an, mk_bn, mk_ad, mk_bd, mk_az, mk_bz, mk_rR, mk_rR4, mk_ro, mk_rm, mk_wa0, mk_wb0, mk_wa1, mk_wb1, mk_wa2, mk_wb2, mk_wa3, mk_wb3, mk_wa4, mk_wb4, mk_wa5, mk_wb5, mk_wa6, mk_wb6, mk_wa7, mk_wb7, mk_wa8, mk_wb8, mk_wan, mk_wbn, mk_wad, mk_wbd, mk_waz, mk_wbz, mk_wR, mk_wR4, mk_wo, k0_takes, k0_fights, k0_fades, k0_settle, k0_deepen, k0_dip, k0_vat, k0_day, k0_pass, k0_sum, k0_drawn, k3_takes, k3_fights, k3_fades, k3_settle, k3_deepen, k3_dip, k3_vat, k3_day, k3_pass, k3_sum, k3_drawn, kn_its, kn_sets, kn_deep, kn_takes, kn_fights, kn_fades, kn_dip, kn_day, kn_goes, kn_sum, kn_drawn, mk_cp3]) hn (by omega) hR (Oth_succ hO) ⟨_, rfl⟩
