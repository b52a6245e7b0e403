-- p24: words of a text: the model's; names
def tsN (f t : Nat) (w : Int32) (X : H2) : H2 := wI2 (wI2 (wI2 X 8 0 8 (nI f)) 8 0 9 (nI t)) 8 0 10 w
def KN (U : Nat → Nat → Int32) (n d : Nat) (z : Int32) (J : Nat → Int32) (f t : Nat) (w : Int32) (X : H2) : H2 := putR 902 (rowOf U n d z J) (tsN f t w X)
def TN (m : Nat) (b : Nat → Nat) (X : H2) : Prop := m ≤ 200 ∧ X.1 8 0 7 = nI m ∧ ∀ k, k < 200 → X.1 906 0 k = nI (b k) ∧ b k < 256
theorem kv_7 {m b U n d z J f t w X} (H : TN m b X) : rI2 (KN U n d z J f t w X) 8 0 7 = nI m := by
  unfold KN
  rw [mr_rt (by omega)]
  exact H.2.1
theorem kv_8 {U n d z J f t w X} : rI2 (KN U n d z J f t w X) 8 0 8 = nI f := by
  unfold KN
  rw [mr_rt (by omega)]
  exact Eq.symm (Eq.symm rfl)
theorem kv_9 {U n d z J f t w X} : rI2 (KN U n d z J f t w X) 8 0 9 = nI t := by
  unfold KN
  rw [mr_rt (by omega)]
  exact Eq.symm (Eq.symm rfl)
theorem kv_10 {U n d z J f t w X} : rI2 (KN U n d z J f t w X) 8 0 10 = w := by
  unfold KN
  rw [mr_rt (by omega)]
  exact Eq.symm (Eq.symm rfl)
theorem kv_b {m b U n d z J f t w X k} (H : TN m b X) (hk : k < 200) : rI2 (KN U n d z J f t w X) 906 0 k = nI (b k) := by
  unfold KN
  rw [mr_rt (by omega)]
  exact (H.2.2 k hk).1
theorem kv_w8 {U n d z J f t w X f'} : wI2 (KN U n d z J f t w X) 8 0 8 (nI f') = KN U n d z J f' t w X := by
  unfold KN tsN
  rw [mr_wt (by omega), w_commk (show 10 ≠ 8 by omega), w_commk (show 9 ≠ 8 by omega), w_same]
theorem kv_w9 {U n d z J f t w X t'} : wI2 (KN U n d z J f t w X) 8 0 9 (nI t') = KN U n d z J f t' w X := by
  unfold KN tsN
  rw [mr_wt (by omega), w_commk (show 10 ≠ 9 by omega), w_same]
theorem kv_w10 {U n d z J f t w X w'} : wI2 (KN U n d z J f t w X) 8 0 10 w' = KN U n d z J f t w' X := by
  unfold KN tsN
  rw [mr_wt (by omega), w_same]
theorem nin_b {h : H2} {x lo hi : Nat} (hx : x < 100000) (hl : lo < 100000) (hh : hi < 100000) : fN_in (nI x).toInt64 (nI lo).toInt64 (nI hi).toInt64 h = some ([Sum.inl (Value.int (bI (decide (lo ≤ x) && decide (x ≤ hi))))], h) := by
  rw [nI_l (by omega), nI_l (by omega), nI_l (by omega)]
  have b1 : (lg_cmp (lN x) (lN lo) < 0) = (x < lo) := by rw [propext (lg_cmp_lt _ _), propext (lN_lt (by omega) (by omega))]
  have b2 : (0 < lg_cmp (lN x) (lN hi)) = (hi < x) := by rw [propext (lg_cmp_gt _ _), propext (lN_lt (by omega) (by omega))]
  unfold fN_in
  by_cases h1 : lo ≤ x
  · by_cases h2 : x ≤ hi
    · rw [if_neg (by rw [b1]; omega), if_neg (by rw [b2]; omega), xb1, xgd, decide_eq_true h1, decide_eq_true h2]; rfl
    · rw [if_neg (by rw [b1]; omega), if_pos (by rw [b2]; omega), xb0, xgd, decide_eq_false h2, Bool.and_false]; rfl
  · rw [if_pos (by rw [b1]; omega), xb0, xgd, decide_eq_false h1, Bool.false_and]; rfl
theorem nin_m {h : H2} {lo hi : Nat} (hl : lo < 100000) : fN_in (-(nI 1)).toInt64 (nI lo).toInt64 (nI hi).toInt64 h = some ([Sum.inl (Value.int (nI 0))], h) := by
  have a1 : (-(nI 1)).toInt64.toInt = -1 := by decide +kernel
  have a2 : (lN lo).toInt = lo := lN_toInt (by omega)
  unfold fN_in
  rw [if_pos ?_, xb0, xgd]
  rw [nI_l (show lo < 2 ^ 31 by omega), lg_cmp_lt, Int64.lt_iff_toInt_lt]
  omega
theorem n_isB {m b U n d z J f t w X p lo hi} (H : TN m b X) (hp : p ≤ 200) (hl : lo < 1000) (hh : hi < 1000) : fN_isByte 0 (nI p) (nI lo) (nI hi) (KN U n d z J f t w X) = some ([Sum.inl (Value.int (bI (decide (p < m) && (decide (lo ≤ b p) && decide (b p ≤ hi)))))], KN U n d z J f t w X) := by
  have hm := H.1
  unfold fN_isByte
  rw [kv_7 H]
  by_cases h1 : p < m
  · have hb := (H.2.2 p (by omega)).2
    rw [if_neg (by rw [mp_le (by omega) (by omega)]; omega), mp_inb (by omega) (by omega), xgd, mp_tn (by omega), kv_b H (by omega), nin_b (by omega) (by omega) (by omega), xrI, decide_eq_true h1, Bool.true_and]
    cases (decide (lo ≤ b p) && decide (b p ≤ hi)) with
    | true => rw [if_neg (by rw [bI0]; decide), xb1, xgd]; rfl
    | false => rw [if_pos (by rw [bI0]), xb0, xgd]; rfl
  · rw [if_pos (by rw [mp_le (by omega) (by omega)]; omega), xb0, xgd, decide_eq_false h1, Bool.false_and]; rfl
theorem n_121 {m b U n d z J s t w X v1 v2} (H : TN m b X) (hv : ¬ (v1 = 0 ∧ v2 = 0)) : fN_next_b121 0 v1 v2 (KN U n d z J s t w X) = some ([], KN U n d z J s t w X) := by
  unfold fN_next_b121
  simp only [kv_9, xadd0, kv_w9, xbh]
  by_cases h1 : v1 = 0
  · rw [if_pos h1, if_neg (fun h2 => hv ⟨h1, h2⟩)]
  · rw [if_neg h1]
theorem n_let {m b U n d z J s w X} (H : TN m b X) : ∀ j t f, t + j = m → j < f → fN_next_b70 f 0 (nI 1) (nI 0) (KN U n d z J s t w X) = some ([], KN U n d z J s (rn isLe b j t) w X)
  | _, _, 0, _, hf => by omega
  | 0, t, f + 1, ht, _ => by
    have hm := H.1
    unfold fN_next_b70 rn
    rw [if_neg (by rw [x10]; exact fun hh => hh), kv_9, n_isB H (by omega) (by omega) (by omega), xrI, decide_eq_false (show ¬ t < m by omega), Bool.false_and, if_pos (show bI false = 0 by rw [bI0])]
    unfold fN_next_b89
    rw [if_pos nI_0]
    exact n_121 H (fun hh => by rw [x10] at hh; exact hh.1)
  | j + 1, t, f + 1, ht, hf => by
    have hm := H.1
    unfold fN_next_b70 rn
    rw [if_neg (by rw [x10]; exact fun hh => hh), kv_9, n_isB H (by omega) (by omega) (by omega), xrI, decide_eq_true (show t < m by omega), Bool.true_and, show (decide (97 ≤ b t) && decide (b t ≤ 122)) = isLe (b t) from rfl]
    by_cases h : isLe (b t) = true
    · rw [if_pos h, if_neg (by rw [bI0, h]; decide), kv_9, nI_add, kv_w9, xbh]
      exact n_let H j (t + 1) f (by omega) (by omega)
    · rw [if_neg h, if_pos (by rw [bI0]; exact Bool.eq_false_iff.mpr h)]
      unfold fN_next_b89
      rw [if_pos nI_0]
      exact n_121 H (fun hh => by rw [x10] at hh; exact hh.1)
theorem n_dig {m b U n d z J s w X} (H : TN m b X) : ∀ j t f, t + j = m → j < f → fN_next_b70 f 0 (nI 0) (nI 1) (KN U n d z J s t w X) = some ([], KN U n d z J s (rn isDi b j t) w X)
  | _, _, 0, _, hf => by omega
  | 0, t, f + 1, ht, _ => by
    have hm := H.1
    unfold fN_next_b70 rn
    rw [if_pos nI_0]
    unfold fN_next_b89
    rw [if_neg (by rw [x10]; exact fun hh => hh), kv_9, n_isB H (by omega) (by omega) (by omega), xrI, decide_eq_false (show ¬ t < m by omega), Bool.false_and, if_pos (show bI false = 0 by rw [bI0])]
    exact n_121 H (fun hh => by rw [x10] at hh; exact hh.2)
  | j + 1, t, f + 1, ht, hf => by
    have hm := H.1
    unfold fN_next_b70 rn
    rw [if_pos nI_0]
    unfold fN_next_b89
    rw [if_neg (by rw [x10]; exact fun hh => hh), kv_9, n_isB H (by omega) (by omega) (by omega), xrI, decide_eq_true (show t < m by omega), Bool.true_and, show (decide (48 ≤ b t) && decide (b t ≤ 57)) = isDi (b t) from rfl]
    by_cases h : isDi (b t) = true
    · rw [if_pos h, if_neg (by rw [bI0, h]; decide), kv_9, nI_add, kv_w9, xbh]
      exact n_dig H j (t + 1) f (by omega) (by omega)
    · rw [if_neg h, if_pos (by rw [bI0]; exact Bool.eq_false_iff.mpr h)]
      exact n_121 H (fun hh => by rw [x10] at hh; exact hh.2)
theorem le_di {x : Nat} (h : isLe x = true) : isDi x = false := by
  unfold isLe at h
  rw [Bool.and_eq_true] at h
  have := of_decide_eq_true h.1
  unfold isDi
  rw [decide_eq_false (show ¬ x ≤ 57 by omega), Bool.and_false]
theorem n_rest {m b U n d z J s t w X} (H : TN m b X) (hs : s ≤ m) : (mv_bh (wI2 (KN U n d z J s t w X) 8 0 9 (rI2 (KN U n d z J s t w X) 8 0 8)) fun h3 => mv_rI (fN_isByte 0 (rI2 h3 8 0 8) (nI 97) (nI 122) h3) fun r5 h4 => mv_bi r5 fun x6 => mv_rI (fN_isByte 0 (rI2 h4 8 0 8) (nI 48) (nI 57) h4) fun r8 h7 => mv_bi r8 fun x9 => fN_next_b70 1000 0 x6 x9 h7) = some ([], KN U n d z J s (te m b s) w X) := by
  have hm := H.1
  rw [kv_8, kv_w9, xbh, kv_8, n_isB H (by omega) (by omega) (by omega), xrI, xbi, kv_8, n_isB H (by omega) (by omega) (by omega), xrI, xbi, show (decide (97 ≤ b s) && decide (b s ≤ 122)) = isLe (b s) from rfl, show (decide (48 ≤ b s) && decide (b s ≤ 57)) = isDi (b s) from rfl]
  unfold te
  by_cases h1 : m ≤ s
  · rw [if_pos h1, decide_eq_false (show ¬ s < m by omega), Bool.false_and, Bool.false_and, show bI false = nI 0 from rfl]
    unfold fN_next_b70
    rw [if_pos nI_0]
    unfold fN_next_b89
    rw [if_pos nI_0]
    unfold fN_next_b121
    rw [if_pos nI_0, if_pos nI_0, kv_7 H, kv_8, if_pos (by rw [mp_le (by omega) (by omega)]; exact h1), kv_9, xadd0, kv_w9, xbh]
  · rw [if_neg h1, decide_eq_true (show s < m by omega), Bool.true_and, Bool.true_and]
    by_cases h2 : isLe (b s) = true
    · rw [if_pos h2, h2, le_di h2, show bI true = nI 1 from rfl, show bI false = nI 0 from rfl]
      exact n_let H (m - s) s 1000 (by omega) (by omega)
    · rw [if_neg h2, Bool.eq_false_iff.mpr h2, show bI false = nI 0 from rfl]
      by_cases h3 : isDi (b s) = true
      · rw [if_pos h3, h3, show bI true = nI 1 from rfl]
        exact n_dig H (m - s) s 1000 (by omega) (by omega)
      · rw [if_neg h3, Bool.eq_false_iff.mpr h3, show bI false = nI 0 from rfl]
        unfold fN_next_b70
        rw [if_pos nI_0]
        unfold fN_next_b89
        rw [if_pos nI_0]
        unfold fN_next_b121
        rw [if_pos nI_0, if_pos nI_0, kv_7 H, kv_8, if_neg (by rw [mp_le (by omega) (by omega)]; exact h1), kv_9, nI_add, kv_w9, xbh]
theorem n_sk {m b U n d z J t w X} (H : TN m b X) : ∀ j p f, p + j = m → j < f → fN_next_b8 f 0 (KN U n d z J p t w X) = some ([], KN U n d z J (rn isSp b j p) (te m b (rn isSp b j p)) w X)
  | _, _, 0, _, hf => by omega
  | 0, p, f + 1, hp, _ => by
    have hm := H.1
    unfold fN_next_b8 rn
    rw [kv_8, n_isB H (by omega) (by omega) (by omega), xrI, decide_eq_false (show ¬ p < m by omega), Bool.false_and, if_pos (show bI false = 0 by rw [bI0])]
    exact n_rest H (by omega)
  | j + 1, p, f + 1, hp, hf => by
    have hm := H.1
    have e0 : (decide (32 ≤ b p) && decide (b p ≤ 32)) = isSp (b p) := by
      unfold isSp
      by_cases h : b p = 32
      · rw [decide_eq_true h, decide_eq_true (show 32 ≤ b p by omega), decide_eq_true (show b p ≤ 32 by omega)]; rfl
      · rw [decide_eq_false h]
        by_cases h2 : 32 ≤ b p
        · rw [decide_eq_false (show ¬ b p ≤ 32 by omega), Bool.and_false]
        · rw [decide_eq_false h2, Bool.false_and]
    unfold fN_next_b8 rn
    rw [kv_8, n_isB H (by omega) (by omega) (by omega), xrI, decide_eq_true (show p < m by omega), Bool.true_and, e0]
    by_cases h : isSp (b p) = true
    · rw [if_pos h, if_neg (by rw [bI0, h]; decide), kv_8, nI_add, kv_w8, xbh]
      exact n_sk H j (p + 1) f (by omega) (by omega)
    · rw [if_neg h, if_pos (by rw [bI0]; exact Bool.eq_false_iff.mpr h)]
      exact n_rest H (by omega)
theorem n_next {m b U n d z J f t w X} (H : TN m b X) (ht : t ≤ m) : fN_next 0 (KN U n d z J f t w X) = some ([], KN U n d z J (skp m b t) (te m b (skp m b t)) w X) := by
  have hm := H.1
  unfold fN_next
  rw [kv_9, kv_w8, xbh]
  exact n_sk H (m - t) t 1000 (by omega) (by omega)
theorem n_must0 {U n d z J s e w X} : fN_must 0 (nI 0) (KN U n d z J s e w X) = some ([], KN U n d z J s e (nI 1) X) := by
  unfold fN_must
  simp only [x00, x10, decide_true, Bool.or_true, Bool.true_or, xgd, xbh, kv_w10, kv_10, if_true, if_false, ite_self]
theorem n_must1 {m b U n d z J s e X} (H : TN m b X) (he : e ≤ m) : fN_must 0 (nI 1) (KN U n d z J s e (nI 0) X) = some ([], KN U n d z J (skp m b e) (te m b (skp m b e)) (nI 0) X) := by
  unfold fN_must
  rw [kv_10, if_pos nI_0, if_neg (show ¬ nI 1 = 0 from fun hh => by rw [x10] at hh; exact hh), xb0, xgd, kv_w10, xbh, kv_10, if_pos nI_0, n_next H he, xrV]
theorem n_mustw {U n d z J s e v X} : fN_must 0 v (KN U n d z J s e (nI 1) X) = some ([], KN U n d z J s e (nI 1) X) := by
  unfold fN_must
  rw [kv_10, if_neg (show ¬ nI 1 = 0 from fun hh => by rw [x10] at hh; exact hh), xb1, xgd, kv_w10, xbh, kv_10, if_neg (show ¬ nI 1 = 0 from fun hh => by rw [x10] at hh; exact hh)]
-- numbers
def irs (m : Nat) (b : Nat → Nat) (s lo hi : Nat) : Option Nat := if tso m b s = 2 ∧ te m b s - s ≤ 3 ∧ lo ≤ vs b s (te m b s - s) ∧ vs b s (te m b s - s) ≤ hi then some (vs b s (te m b s - s)) else none
def fgv (m : Nat) (b : Nat → Nat) (s : Nat) : Int32 := if tso m b s = 2 ∧ te m b s - s ≤ 3 then nI (vs b s (te m b s - s)) else -(nI 1)
theorem vs_le {b : Nat → Nat} {s} : ∀ j, (∀ k, s ≤ k → k < s + j → b k ≤ 57) → vs b s j < 10 ^ j
  | 0, _ => by show 0 < 1; omega
  | j + 1, h => by
    have h1 := vs_le (s := s) j (fun k a c => h k a (by omega))
    have h2 := h (s + j) (by omega) (by omega)
    show vs b s j * 10 + b (s + j) - 48 < 10 ^ (j + 1)
    rw [Nat.pow_succ]
    omega
theorem tso2 {m b s} (h : tso m b s = 2) : s < m ∧ isLe (b s) = false ∧ isDi (b s) = true ∧ te m b s = rn isDi b (m - s) s := by
  unfold tso at h
  by_cases h1 : m ≤ s
  · rw [if_pos h1] at h; omega
  · rw [if_neg h1] at h
    by_cases h2 : isLe (b s) = true
    · rw [if_pos h2] at h; omega
    · rw [if_neg h2] at h
      by_cases h3 : isDi (b s) = true
      · refine ⟨by omega, Bool.eq_false_iff.mpr h2, h3, ?_⟩
        unfold te
        rw [if_neg h1, if_neg h2, if_pos h3]
      · rw [if_neg h3] at h; omega
theorem isDi_b {x} (h : isDi x = true) : 48 ≤ x ∧ x ≤ 57 := by
  unfold isDi at h
  rw [Bool.and_eq_true] at h
  exact ⟨of_decide_eq_true h.1, of_decide_eq_true h.2⟩
theorem vs_1000 {m b s} (h : tso m b s = 2) (h3 : te m b s - s ≤ 3) : vs b s (te m b s - s) < 1000 := by
  obtain ⟨_, _, _, e⟩ := tso2 h
  have h1 := vs_le (b := b) (s := s) (te m b s - s) (fun k a c => (isDi_b (rn_all (P := isDi) (b := b) (m - s) s k a (by rw [← e]; omega))).2)
  have h2 : 10 ^ (te m b s - s) ≤ 10 ^ 3 := Nat.pow_le_pow_right (by omega) h3
  omega
theorem vs_s {b s j} : vs b s (j + 1) = vs b s j * 10 + b (s + j) - 48 := Eq.symm (Eq.symm rfl)
theorem n_fgL {m b U n d z J f e w X s} (H : TN m b X) (he : e ≤ m) (he3 : e - s ≤ 3) (hd : ∀ k, s ≤ k → k < e → isDi (b k) = true) : ∀ j k fu, s ≤ k → k + j = e → j < fu → fN_figures_b39 fu 0 (nI (vs b s (k - s))) (nI k) (KN U n d z J f e w X) = some ([Sum.inl (Value.int (nI (vs b s (e - s))))], KN U n d z J f e w X)
  | _, _, 0, _, _, hf => by omega
  | 0, k, fu + 1, hs, hk, _ => by
    have hm := H.1
    have : k = e := by omega
    subst this
    unfold fN_figures_b39
    rw [kv_9, if_pos (by rw [mp_le (by omega) (by omega)]; omega)]
  | j + 1, k, fu + 1, hs, hk, hf => by
    have hm := H.1
    have h48 := (isDi_b (hd k hs (by omega))).1
    have hnn : ¬ nI (vs b s (k - s)) < 0 := nI_pos (by
      have h1 := vs_le (b := b) (s := s) (k - s) (fun q a c => (isDi_b (hd q a (by omega))).2)
      have h2 : 10 ^ (k - s) ≤ 10 ^ 3 := Nat.pow_le_pow_right (by omega) (by omega)
      omega)
    unfold fN_figures_b39
    rw [kv_9, if_neg (by rw [mp_le (by omega) (by omega)]; omega), if_neg hnn, mp_inb (by omega) (by omega), xgd, mp_tn (by omega), kv_b H (by omega), mp_mul, nI_add, mp_sub (by omega), xbi, xbi, nI_add]
    have e1 := n_fgL (U := U) (n := n) (d := d) (z := z) (J := J) (f := f) (w := w) (s := s) H he he3 hd j (k + 1) fu (by omega) (by omega) (by omega)
    rw [show k + 1 - s = (k - s) + 1 by omega] at e1
    rw [vs_s, show s + (k - s) = k by omega, Nat.mul_comm (vs b s (k - s)) 10] at e1
    exact e1
theorem n_fgM {U n d z J f e w X} : ∀ k fu, 0 < fu → fN_figures_b39 fu 0 (-(nI 1)) k (KN U n d z J f e w X) = some ([Sum.inl (Value.int (-(nI 1)))], KN U n d z J f e w X)
  | _, 0, hf => by omega
  | k, fu + 1, _ => by
    unfold fN_figures_b39
    rw [if_pos (show -(nI 1) < 0 from mp_neg1)]
    split <;> rfl
theorem tso_di {m b s} : (decide (s < m) && (decide (48 ≤ b s) && decide (b s ≤ 57))) = decide (tso m b s = 2) := by
  rw [show (decide (48 ≤ b s) && decide (b s ≤ 57)) = isDi (b s) from rfl]
  unfold tso
  by_cases h1 : m ≤ s
  · rw [if_pos h1, decide_eq_false (show ¬ s < m by omega), Bool.false_and]; rfl
  · rw [if_neg h1, decide_eq_true (show s < m by omega), Bool.true_and]
    by_cases h2 : isLe (b s) = true
    · rw [if_pos h2, le_di h2]; rfl
    · rw [if_neg h2]
      by_cases h3 : isDi (b s) = true
      · rw [if_pos h3, h3]; rfl
      · rw [if_neg h3, Bool.eq_false_iff.mpr h3]; rfl
theorem n_fig {m b U n d z J s w X} (H : TN m b X) (hs : s ≤ m) : fN_figures 0 (KN U n d z J s (te m b s) w X) = some ([Sum.inl (Value.int (fgv m b s))], KN U n d z J s (te m b s) w X) := by
  have hm := H.1
  have hte := te_le (b := b) hs
  unfold fN_figures fgv
  rw [kv_8, n_isB H (by omega) (by omega) (by omega), xrI, tso_di]
  by_cases h1 : tso m b s = 2
  · obtain ⟨a1, a2, a3, a4⟩ := tso2 h1
    rw [decide_eq_true h1, if_neg (show ¬ bI true = 0 by rw [bI0]; decide), kv_9, kv_8, mp_sub hte.1]
    by_cases h3 : te m b s - s ≤ 3
    · rw [if_neg (by rw [mp_lt (by omega) (by omega)]; omega), if_pos ⟨h1, h3⟩, xbi, xbi]
      have e := n_fgL (U := U) (n := n) (d := d) (z := z) (J := J) (f := s) (w := w) (s := s) H hte.2 h3 (fun k c1 c2 => rn_all (P := isDi) (b := b) (m - s) s k c1 (by rw [← a4]; exact c2)) (te m b s - s) s 1000 (Nat.le_refl _) (by omega) (by omega)
      rw [Nat.sub_self, show vs b s 0 = 0 from rfl] at e
      exact e
    · rw [if_pos (by rw [mp_lt (by omega) (by omega)]; omega), if_neg (fun hh => h3 hh.2), xbi, xbi]
      exact n_fgM _ 1000 (by omega)
  · rw [decide_eq_false h1, if_pos (show bI false = 0 by rw [bI0]), if_neg (fun hh => h1 hh.1), xbi, xbi]
    exact n_fgM _ 1000 (by omega)
theorem n_num {m b U n d z J s X lo hi} (H : TN m b X) (hs : s ≤ m) (hl : lo < 1000) (hh : hi < 1000) : fN_number 0 (nI lo) (nI hi) (KN U n d z J s (te m b s) (nI 0) X) = match irs m b s lo hi with
    | some v => some ([Sum.inl (Value.int (nI v))], KN U n d z J (nx m b s) (te m b (nx m b s)) (nI 0) X)
    | none => some ([Sum.inl (Value.int (fgv m b s))], KN U n d z J s (te m b s) (nI 1) X) := by
  unfold fN_number
  rw [n_fig H hs, xrI, xbi]
  unfold irs fgv
  by_cases h1 : tso m b s = 2 ∧ te m b s - s ≤ 3
  · have hv := vs_1000 h1.1 h1.2
    rw [if_pos h1, nin_b (by omega) (by omega) (by omega), xrI]
    by_cases h2 : lo ≤ vs b s (te m b s - s) ∧ vs b s (te m b s - s) ≤ hi
    · rw [if_pos ⟨h1.1, h1.2, h2.1, h2.2⟩, decide_eq_true h2.1, decide_eq_true h2.2, show bI (true && true) = nI 1 from rfl, n_must1 H (te_le hs).2, xrV]
      rfl
    · rw [if_neg (fun hh => h2 hh.2.2), show (decide (lo ≤ vs b s (te m b s - s)) && decide (vs b s (te m b s - s) ≤ hi)) = false from by
        rw [Bool.and_eq_false_iff]
        by_cases h3 : lo ≤ vs b s (te m b s - s)
        · exact Or.inr (decide_eq_false (fun h4 => h2 ⟨h3, h4⟩))
        · exact Or.inl (decide_eq_false h3), show bI false = nI 0 from rfl, n_must0, xrV]
  · rw [if_neg h1, nin_m (by omega), xrI, n_must0, xrV, if_neg (fun hh => h1 ⟨hh.1, hh.2.1⟩)]
theorem n_numw {m b U n d z J s X lo hi} (H : TN m b X) (hs : s ≤ m) (hl : lo < 1000) (hh : hi < 1000) : fN_number 0 (nI lo) (nI hi) (KN U n d z J s (te m b s) (nI 1) X) = some ([Sum.inl (Value.int (fgv m b s))], KN U n d z J s (te m b s) (nI 1) X) := by
  unfold fN_number
  rw [n_fig H hs, xrI, xbi]
  unfold fgv
  by_cases h1 : tso m b s = 2 ∧ te m b s - s ≤ 3
  · have hv := vs_1000 h1.1 h1.2
    rw [if_pos h1, nin_b (by omega) (by omega) (by omega), xrI, n_mustw, xrV]
  · rw [if_neg h1, nin_m (by omega), xrI, n_mustw, xrV]
-- names
def chn (o i : Nat) : Nat := (((stc o i) &&& (nI 255)).toUInt32.toUInt16.toUInt32.toInt32).toNatClampNeg
theorem chn_ok : ∀ o, o < 36 → ∀ i, i < 8 → i < stl o → (((stc o i) &&& (nI 255)).toUInt32.toUInt16.toUInt32.toInt32) = nI (chn o i) ∧ chn o i < 128 := by decide +kernel
theorem stl_ok : ∀ o, o < 36 → stl o < 8 ∧ ((nI (stl o)) >>> (nI 0 &&& 31)) = nI (stl o) := by decide +kernel
theorem k_len {o h} (ho : o < 36) : fK0_length_8abf5 o h = some ([Sum.inl (Value.int (nI (stl o)))], h) := by
  unfold fK0_length_8abf5 fK0_coder_7d493
  rw [if_neg (show ¬ nI 1 = 0 from fun hh => by rw [x10] at hh; exact hh), show (decide (0 ≤ (nI 0)) && decide ((nI 0) ≤ 127)) = true from by decide +kernel, xgd, xrI, (stl_ok o ho).2]
theorem k_chr {o h i} (ho : o < 36) (hi : i < stl o) : fK0_charAt_5068e o (nI i) h = some ([Sum.inl (Value.int (nI (chn o i)))], h) := by
  have h8 := (stl_ok o ho).1
  obtain ⟨c1, c2⟩ := chn_ok o ho i (by omega) hi
  have g : (decide (0 ≤ nI (chn o i)) && decide (nI (chn o i) ≤ 127)) = true := by
    rw [decide_eq_true (show 0 ≤ nI (chn o i) from by rw [mp_0le (by omega)]; trivial), decide_eq_true (show nI (chn o i) ≤ 127 from by
      rw [show (127 : Int32) = nI 127 from by decide +kernel, mp_le (by omega) (by omega)]; omega)]
    rfl
  unfold fK0_charAt_5068e fK0_isLatin1_aae02
  rw [if_neg (show ¬ nI 1 = 0 from fun hh => by rw [x10] at hh; exact hh), if_pos nI_0, xb1, xgd, xrI, if_neg (show ¬ nI 1 = 0 from fun hh => by rw [x10] at hh; exact hh)]
  unfold fK1_charAt_3b067 fK0_checkIndex_df160 fK3_checkIndex_8e157
  rw [if_neg (show ¬ nI i < 0 from nI_pos (by omega)), if_pos (by rw [mp_lt (by omega) (by omega)]; exact hi), xrI, xrV, mp_inb hi (by omega), xgd, mp_tn (by omega), c1, g, xgd, xrI, g, xgd]
def wdL (b : Nat → Nat) (o s : Nat) : Nat → Nat → Bool
  | 0, _ => true
  | j + 1, i => if b (s + i) = chn o i then wdL b o s j (i + 1) else false
def wd (m : Nat) (b : Nat → Nat) (s o : Nat) : Bool := if te m b s - s = stl o then wdL b o s (stl o) 0 else false
theorem n_wdL {m b U n d z J s e X o} (H : TN m b X) (ho : o < 36) (he : s + stl o ≤ m) : ∀ j i f, i + j = stl o → j + 1 < f → fN_isWord_b31 f 0 o (nI 1) (nI i) (KN U n d z J s e (nI 0) X) = some ([Sum.inl (Value.int (bI (wdL b o s j i)))], KN U n d z J s e (nI 0) X)
  | _, _, 0, _, hf => by omega
  | 0, i, f + 1, hi, _ => by
    have h8 := (stl_ok o ho).1
    unfold fN_isWord_b31 wdL
    rw [if_neg (show ¬ nI 1 = 0 from fun hh => by rw [x10] at hh; exact hh), k_len ho, xrI, if_pos (by rw [mp_le (by omega) (by omega)]; omega), xb1, xgd]
    rfl
  | j + 1, i, f + 1, hi, hf => by
    have hm := H.1
    have h8 := (stl_ok o ho).1
    have hb := (H.2.2 (s + i) (by omega)).2
    have hc := (chn_ok o ho i (by omega) (by omega)).2
    unfold fN_isWord_b31 wdL
    rw [if_neg (show ¬ nI 1 = 0 from fun hh => by rw [x10] at hh; exact hh), k_len ho, xrI, if_neg (by rw [mp_le (by omega) (by omega)]; omega), kv_8, nI_add, mp_inb (by omega) (by omega), xgd, k_chr ho (by omega), xrI, mp_tn (by omega), kv_b H (by omega)]
    by_cases h1 : b (s + i) = chn o i
    · rw [if_pos (by rw [h1]), if_pos h1, xbi, xbi, nI_add]
      exact n_wdL H ho he j (i + 1) f (by omega) (by omega)
    · rw [if_neg (by rw [mp_eq (by omega) (by omega)]; exact h1), if_neg h1, xbi, xbi]
      obtain ⟨f', rfl⟩ : ∃ f', f = f' + 1 := ⟨f - 1, by omega⟩
      unfold fN_isWord_b31
      rw [if_pos nI_0, xb0, xgd]
      rfl
theorem n_wd0 {U n d z J s e w X o i} : fN_isWord_b31 1000 0 o (nI 0) i (KN U n d z J s e w X) = some ([Sum.inl (Value.int (nI 0))], KN U n d z J s e w X) := by
  unfold fN_isWord_b31
  rw [if_pos nI_0, xb0, xgd]
theorem n_wd {m b U n d z J s X o} (H : TN m b X) (hs : s ≤ m) (ho : o < 36) : fN_isWord 0 o (KN U n d z J s (te m b s) (nI 0) X) = some ([Sum.inl (Value.int (bI (wd m b s o)))], KN U n d z J s (te m b s) (nI 0) X) := by
  have hm := H.1
  have h8 := (stl_ok o ho).1
  have hte := te_le (b := b) hs
  unfold fN_isWord wd
  rw [kv_10, if_pos nI_0, k_len ho, xrI, kv_9, kv_8, mp_sub hte.1]
  by_cases h1 : te m b s - s = stl o
  · rw [if_pos (by rw [h1]), if_pos h1, xbi, xbi]
    exact n_wdL H ho (by omega) (stl o) 0 1000 (by omega) (by omega)
  · rw [if_neg (by rw [mp_eq (by omega) (by omega)]; exact h1), if_neg h1, xbi, xbi, n_wd0]
    rfl
theorem n_wdw {U n d z J s e X o} : fN_isWord 0 o (KN U n d z J s e (nI 1) X) = some ([Sum.inl (Value.int (nI 0))], KN U n d z J s e (nI 1) X) := by
  unfold fN_isWord
  rw [kv_10, if_neg (show ¬ nI 1 = 0 from fun hh => by rw [x10] at hh; exact hh), xbi, xbi, n_wd0]
theorem c_wdL {m b U n d z a s so nu X o} (H : TX m b X) (ho : o < 36) (he : s + stl o ≤ m) : ∀ j i f, i + j = stl o → j < f → fT_isName_b28 f 0 o (nI i) (KC U n d z a s so nu X) = some ([Sum.inl (Value.int (bI (wdL b o s j i)))], KC U n d z a s so nu X)
  | _, _, 0, _, hf => by omega
  | 0, i, f + 1, hi, _ => by
    have h8 := (stl_ok o ho).1
    unfold fT_isName_b28 wdL
    rw [k_len ho, xrI, if_pos (by rw [mp_le (by omega) (by omega)]; omega), xb1, xgd]
    rfl
  | j + 1, i, f + 1, hi, hf => by
    have hm := H.1
    have h8 := (stl_ok o ho).1
    have hb := (H.2.2 (s + i) (by omega)).2
    have hc := (chn_ok o ho i (by omega) (by omega)).2
    unfold fT_isName_b28 wdL
    rw [k_len ho, xrI, if_neg (by rw [mp_le (by omega) (by omega)]; omega), kc_3, nI_add, mp_inb (by omega) (by omega), xgd, k_chr ho (by omega), xrI, mp_tn (by omega), kc_b H (by omega)]
    by_cases h1 : b (s + i) = chn o i
    · rw [if_pos (by rw [h1]), if_pos h1, xbi, nI_add]
      exact c_wdL H ho he j (i + 1) f (by omega) (by omega)
    · rw [if_neg (by rw [mp_eq (by omega) (by omega)]; exact h1), if_neg h1, xb0, xgd]
      rfl
theorem chn_0 : ∀ o, o < 17 → 0 < stl o ∧ isLe (chn o 0) = true := by decide +kernel
theorem wd_tso {m b s o} (hs : s ≤ m) (ho : o < 17) (h : ¬ tso m b s = 1) : wd m b s o = false := by
  unfold wd
  by_cases h1 : te m b s - s = stl o
  · rw [if_pos h1]
    obtain ⟨p1, p2⟩ := chn_0 o ho
    obtain ⟨j, e⟩ : ∃ j, stl o = j + 1 := ⟨stl o - 1, by omega⟩
    rw [e]
    unfold wdL
    rw [if_neg]
    intro hb
    apply h
    have hlt : s < m := by
      by_cases hq : s < m
      · exact hq
      · have : te m b s = s := by unfold te; rw [if_pos (by omega)]
        omega
    unfold tso
    rw [if_neg (by omega), if_pos (by rw [show b s = chn o 0 from hb]; exact p2)]
  · rw [if_neg h1]
theorem c_wd {m b U n d z s nu X o} (H : TX m b X) (hs : s ≤ m) (ho : o < 17) : fT_isName 0 o (KC U n d z (te m b s) s (tso m b s) nu X) = some ([Sum.inl (Value.int (bI (wd m b s o)))], KC U n d z (te m b s) s (tso m b s) nu X) := by
  have hm := H.1
  have h8 := (stl_ok o (by omega)).1
  have hte := te_le (b := b) hs
  have h4 : tso m b s < 4 := by
    unfold tso
    (repeat' split) <;> omega
  unfold fT_isName
  rw [kc_4]
  by_cases h0 : tso m b s = 1
  · rw [if_pos (by rw [h0]), k_len (by omega), xrI, kc_2, kc_3, mp_sub hte.1]
    unfold wd
    by_cases h1 : te m b s - s = stl o
    · rw [if_pos (by rw [h1]), if_pos h1, xbi]
      exact c_wdL H (by omega) (by omega) (stl o) 0 1000 (by omega) (by omega)
    · rw [if_neg (by rw [mp_eq (by omega) (by omega)]; exact h1), if_neg h1, xb0, xgd]
      rfl
  · rw [if_neg (by rw [mp_eq (by omega) (by omega)]; exact h0), wd_tso hs ho h0, xb0, xgd]
    rfl
