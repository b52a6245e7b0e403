-- p12: through
def E8 (T A : Nat → Nat → Int32) : Prop := ∀ t k, t ≤ 7 → k < mp_len t → T t k = A t k
theorem E8_mup {T A t k v} (h : E8 T A) : E8 (mup T t k v) (mup A t k v) := fun t' k' ht hk => by
  unfold mup
  split
  · rfl
  · exact h t' k' ht hk
theorem E8_settle {T A c x} (h : E8 T A) : E8 (settleA T c x) (settleA A c x) := by
  unfold settleA
  split
  · exact E8_mup h
  · exact E8_mup (E8_mup h)
theorem E8_8 {T A k v w} (h : E8 T A) : E8 (mup T 8 k v) (mup A 8 k w) := fun t' k' ht hk => by
  rw [mup_ne_t (by omega), mup_ne_t (by omega)]
  exact h t' k' ht hk
theorem E8_tail {T A c v} (h : E8 T A) (hv : v < 8) : E8 (tailA T c v) (tailA A c v) := by
  unfold tailA
  rw [h 2 v (by omega) hv]
  exact E8_mup (E8_8 h)
theorem E8_takes {T A c s} (h : E8 T A) (hc : c < 8) : takesS T c s = takesS A c s := by
  unfold takesS
  rw [h 4 c (by omega) hc, h 0 0 (by omega) (by decide), h 0 1 (by omega) (by decide), h 0 2 (by omega) (by decide)]
theorem E8_fights {T A c s} (h : E8 T A) (hc : c < 8) : fightsS T c s = fightsS A c s := by
  unfold fightsS
  rw [h 4 c (by omega) hc, h 0 0 (by omega) (by decide), h 0 2 (by omega) (by decide)]
theorem E8_dip {T A c v} (h : E8 T A) (hc : c < 8) (hv : v < 8) : E8 (dipA T c v) (dipA A c v) := by
  unfold dipA
  rw [E8_takes h hc, E8_fights h hc, h 5 c (by omega) hc, h 1 v (by omega) hv, h 6 c (by omega) hc, h 2 v (by omega) hv]
  split
  · exact E8_tail (E8_settle (E8_mup h)) hv
  · split
    · exact E8_tail (E8_settle h) hv
    · exact E8_tail (E8_settle (E8_mup h)) hv
def thL (c w : Nat) : Nat → (Nat → Nat → Int32) → Nat → Nat → Int32
  | 0, A => A
  | i + 1, A => thL c w i (dipA A c (w / 8 ^ i % 8))
theorem E8_th {c w} (hc : c < 8) : ∀ i T A, E8 T A → E8 (thL c w i T) (thL c w i A)
  | 0, _, _, h => h
  | i + 1, _, _, h => E8_th hc i _ _ (E8_dip h hc (Nat.mod_lt _ (by omega)))
-- what dips leave
def OF (c : Nat) (T A : Nat → Nat → Int32) : Prop := ∀ t k, t ≤ 7 → k < mp_len t → t ≠ 2 → ¬ (t = 5 ∧ k = c) → ¬ (t = 6 ∧ k = c) → T t k = A t k
theorem OF_mup {c T A t k v} (h : OF c T A) (ht : t = 2 ∨ t = 8 ∨ ((t = 5 ∨ t = 6) ∧ k = c)) : OF c (mup T t k v) A := fun t' k' h1 h2 h3 h4 h5 => by
  unfold mup
  rw [if_neg (by omega)]
  exact h t' k' h1 h2 h3 h4 h5
theorem OF_settle {c T A x} (h : OF c T A) : OF c (settleA T c x) A := by
  unfold settleA
  split
  · exact OF_mup h (by omega)
  · exact OF_mup (OF_mup h (by omega)) (by omega)
theorem OF_dip {c T A v} (h : OF c T A) : OF c (dipA T c v) A := by
  unfold dipA tailA
  repeat' split
  all_goals
    refine OF_mup (OF_mup (OF_settle ?_) (by omega)) (by omega)
    first | exact h | exact OF_mup h (by omega)
theorem OF_th {c w A} : ∀ i T, OF c T A → OF c (thL c w i T) A
  | 0, _, h => h
  | i + 1, _, h => OF_th i _ (OF_dip h)
def rsA (A T : Nat → Nat → Int32) (c : Nat) : Nat → Nat → Int32 := mup (mup (fun t k => if t = 2 then A t k else T t k) 5 c (A 5 c)) 6 c (A 6 c)
theorem rs_E8 {A T c} (h : OF c T A) : E8 (rsA A T c) A := fun t k ht hk => by
  unfold rsA mup
  by_cases h6 : t = 6 ∧ k = c
  · rw [if_pos h6, h6.1, h6.2]
  · rw [if_neg h6]
    by_cases h5 : t = 5 ∧ k = c
    · rw [if_pos h5, h5.1, h5.2]
    · rw [if_neg h5]
      show (if t = 2 then A t k else T t k) = A t k
      by_cases h2 : t = 2
      · rw [if_pos h2]
      · rw [if_neg h2]
        exact h t k ht hk h2 h5 h6
theorem dg : ∀ i, i < 3 → ∀ w, w < 512 → (nI w >>> ((nI 3 * nI i) &&& 31)) &&& nI 7 = nI (w / 8 ^ i % 8) := by decide +kernel
theorem pw8 : ∀ i, i ≤ 3 → nI 1 <<< ((nI 3 * nI i) &&& 31) = nI (8 ^ i) := by decide +kernel
theorem vd1 (m : Nat) : nI m - nI 1 = vdown m := by rw [Int32.sub_eq_add_neg, vdown_step]
theorem cl_th {A n d z R R4 h tn td tz c p w} (hc : c < 8) (hw : w < 512) : ∀ i f T, i ≤ 3 → i < f → fF_leadsTo_b54 f 0 (nI c) p (nI w) (vdown i) (mk A n d z R T tn td tz R4 h) = some ([Sum.inl (Value.int (if thL c w i T 5 c = p then nI 1 else nI 0))], mk A n d z R (thL c w i T) tn td tz R4 h)
  | _, 0, _, _, hf => by omega
  | 0, f + 1, T, _, _ => by
    unfold fF_leadsTo_b54 thL
    rw [if_pos (by rw [vdown_neg]; trivial)]
    simp (disch := first | omega | assumption) only [decide_true, decide_false, Bool.not_false, Bool.not_true, Bool.true_or, Bool.or_true, Nat.reduceAdd, xgd, xbi, xbh, xbl, xrI, xrV, xrL, xrR, x00, x10, xb0, xb1, if_true, if_false, mp_inb, mp_tn, mp_nn, mp_mul, nI_add, mr_law, mr_dd, mr_zz, mr_nn, mr_pur, mr_str, mr_ros, mr_clo, mr_wlaw, mr_wday, mr_wz, mr_wpur, mr_wstr, mr_wros, mr_wclo, mk_a0, mk_b0, mk_a1, mk_b1, mk_a2, mk_b2, mk_a3, mk_b3, mk_a4, mk_b4, mk_a5, mk_b5, mk_a6, mk_b6, mk_a7, mk_b7, mk_a8, mk_b8, mk_an, mk_bn, mk_ad, mk_bd, mk_az, mk_bz, mk_rR, mk_rR4, mk_ro, mk_rm, mk_wa0, mk_wb0, mk_wa1, mk_wb1, mk_wa2, mk_wb2, mk_wa3, mk_wb3, mk_wa4, mk_wb4, mk_wa5, mk_wb5, mk_wa6, mk_wb6, mk_wa7, mk_wb7, mk_wa8, mk_wb8, mk_wan, mk_wbn, mk_wad, mk_wbd, mk_waz, mk_wbz, mk_wR, mk_wR4, mk_wo, k0_takes, k0_fights, k0_fades, k0_settle, k0_deepen, k0_dip, k0_vat, k0_day, k0_pass, k0_sum, k0_drawn, k3_takes, k3_fights, k3_fades, k3_settle, k3_deepen, k3_dip, k3_vat, k3_day, k3_pass, k3_sum, k3_drawn, kn_its, kn_sets, kn_deep, kn_takes, kn_fights, kn_fades, kn_dip, kn_day, kn_goes, kn_sum, kn_drawn, mk_cp3]
    by_cases h1 : T 5 c = p
    · rw [if_pos h1, if_pos h1]
    · rw [if_neg h1, if_neg h1]
  | i + 1, f + 1, T, hi, hf => by
    have h8 : w / 8 ^ i % 8 < 8 := Nat.mod_lt _ (by omega)
    unfold fF_leadsTo_b54 thL
    rw [show vdown (i + 1) = nI i from rfl, if_neg (by rw [mp_lt0 (by omega)]; exact fun hh => hh), dg i (by omega) w hw, k3_dip hc h8, xrV, xbi, vdown_step]
    exact cl_th hc hw i f _ (by omega) (by omega)
theorem cp_2 {A n d z R R4 h T tn td tz} : cp2 (mk A n d z R T tn td tz R4 h) 302 0 3 8 0 = mk A n d z R (fun t k => if t = 2 then A t k else T t k) tn td tz R4 h := by
  unfold mk
  exact cp_A (t := 2) (o := 3) (o1 := 0) (by omega) (by omega) IsM_put
theorem k_leads {A n d z R R4 h T tn td tz c p w i} (hc : c < 8) (hw : w < 512) (hi : i ≤ 3) : fF_leadsTo 0 0 (nI c) p (nI i) (nI w) (mk A n d z R T tn td tz R4 h) = some ([Sum.inl (Value.int (if thL c w i (rsA A T c) 5 c = p then nI 1 else nI 0))], mk A n d z R (thL c w i (rsA A T c)) tn td tz R4 h) := by
  have g8 : (decide (nI 0 = nI 0) && (decide (nI 0 = nI 0) && (!decide ((nI 8) < 0) && (Nat.ble (nI 8).toNatClampNeg 8 && Nat.ble (nI 8).toNatClampNeg 8)))) = true := by decide +kernel
  unfold fF_leadsTo
  rw [g8, xgd, xbh, mp_tn (show 8 < 1000000 by omega), cp_2]
  simp (disch := first | omega | assumption) only [vd1, decide_true, decide_false, Bool.not_false, Bool.not_true, Bool.true_or, Bool.or_true, Nat.reduceAdd, xgd, xbi, xbh, xbl, xrI, xrV, xrL, xrR, x00, x10, xb0, xb1, if_true, if_false, mp_inb, mp_tn, mp_nn, mp_mul, nI_add, mr_law, mr_dd, mr_zz, mr_nn, mr_pur, mr_str, mr_ros, mr_clo, mr_wlaw, mr_wday, mr_wz, mr_wpur, mr_wstr, mr_wros, mr_wclo, mk_a0, mk_b0, mk_a1, mk_b1, mk_a2, mk_b2, mk_a3, mk_b3, mk_a4, mk_b4, mk_a5, mk_b5, mk_a6, mk_b6, mk_a7, mk_b7, mk_a8, mk_b8, mk_an, mk_bn, mk_ad, mk_bd, mk_az, mk_bz, mk_rR, mk_rR4, mk_ro, mk_rm, mk_wa0, mk_wb0, mk_wa1, mk_wb1, mk_wa2, mk_wb2, mk_wa3, mk_wb3, mk_wa4, mk_wb4, mk_wa5, mk_wb5, mk_wa6, mk_wb6, mk_wa7, mk_wb7, mk_wa8, mk_wb8, mk_wan, mk_wbn, mk_wad, mk_wbd, mk_waz, mk_wbz, mk_wR, mk_wR4, mk_wo, k0_takes, k0_fights, k0_fades, k0_settle, k0_deepen, k0_dip, k0_vat, k0_day, k0_pass, k0_sum, k0_drawn, k3_takes, k3_fights, k3_fades, k3_settle, k3_deepen, k3_dip, k3_vat, k3_day, k3_pass, k3_sum, k3_drawn, kn_its, kn_sets, kn_deep, kn_takes, kn_fights, kn_fades, kn_dip, kn_day, kn_goes, kn_sum, kn_drawn, mk_cp3]
  exact cl_th hc hw i 1000 _ hi (by omega)
theorem nl_th {A0 n0 d0 z0 A n d z J T tn td tz R4 h c p w Z} (hn : n ≤ 8) (hc : c < n) (hw : w < 512) : ∀ i f B D, i ≤ 3 → i < f → Rng B n → fN_isThrough_b5 f 0 (nI c) p (nI w) (vdown i) (mk A0 n0 d0 z0 (rowOf B n D Z J) T tn td tz (lend (rowOf A n d z J) R4) h) = some ([Sum.inl (Value.int (if thL c w i B 5 c = p then nI 1 else nI 0))], mk A0 n0 d0 z0 (rowOf A n d z J) T tn td tz (lend (rowOf A n d z J) R4) h)
  | _, 0, _, _, _, hf, _ => by omega
  | 0, f + 1, B, D, _, _, _ => by
    unfold fN_isThrough_b5 thL
    rw [if_pos (by rw [vdown_neg]; trivial)]
    simp (disch := first | omega | assumption) only [kn_lends, kn_lays, lend_clo, decide_true, decide_false, Bool.not_false, Bool.not_true, Bool.true_or, Bool.or_true, Nat.reduceAdd, xgd, xbi, xbh, xbl, xrI, xrV, xrL, xrR, x00, x10, xb0, xb1, if_true, if_false, mp_inb, mp_tn, mp_nn, mp_mul, nI_add, mr_law, mr_dd, mr_zz, mr_nn, mr_pur, mr_str, mr_ros, mr_clo, mr_wlaw, mr_wday, mr_wz, mr_wpur, mr_wstr, mr_wros, mr_wclo, mk_a0, mk_b0, mk_a1, mk_b1, mk_a2, mk_b2, mk_a3, mk_b3, mk_a4, mk_b4, mk_a5, mk_b5, mk_a6, mk_b6, mk_a7, mk_b7, mk_a8, mk_b8, mk_an, mk_bn, mk_ad, mk_bd, mk_az, mk_bz, mk_rR, mk_rR4, mk_ro, mk_rm, mk_wa0, mk_wb0, mk_wa1, mk_wb1, mk_wa2, mk_wb2, mk_wa3, mk_wb3, mk_wa4, mk_wb4, mk_wa5, mk_wb5, mk_wa6, mk_wb6, mk_wa7, mk_wb7, mk_wa8, mk_wb8, mk_wan, mk_wbn, mk_wad, mk_wbd, mk_waz, mk_wbz, mk_wR, mk_wR4, mk_wo, k0_takes, k0_fights, k0_fades, k0_settle, k0_deepen, k0_dip, k0_vat, k0_day, k0_pass, k0_sum, k0_drawn, k3_takes, k3_fights, k3_fades, k3_settle, k3_deepen, k3_dip, k3_vat, k3_day, k3_pass, k3_sum, k3_drawn, kn_its, kn_sets, kn_deep, kn_takes, kn_fights, kn_fades, kn_dip, kn_day, kn_goes, kn_sum, kn_drawn, mk_cp3]
    by_cases h1 : B 5 c = p
    · rw [if_pos (show B (4 + 1) c = p from h1), if_pos h1]
    · rw [if_neg (show ¬ B (4 + 1) c = p from h1), if_neg h1]
  | i + 1, f + 1, B, D, hi, hf, hR => by
    have h8 : w / 8 ^ i % 8 < 8 := Nat.mod_lt _ (by omega)
    unfold fN_isThrough_b5 thL
    rw [show vdown (i + 1) = nI i from rfl, if_neg (by rw [mp_lt0 (by omega)]; exact fun hh => hh), dg i (by omega) w hw, kn_dip hc hn h8 hR, xrV, xbi, vdown_step]
    exact nl_th hn hc hw i f _ _ (by omega) (by omega) (Rng_dip hR hc h8)
def twL (A : Nat → Nat → Int32) (c : Nat) (p : Int32) (i : Nat) : Nat → Nat → Option Nat
  | 0, _ => none
  | j + 1, w => if thL c w i A 5 c = p then some w else twL A c p i j (w + 1)
def ttL (A : Nat → Nat → Int32) (c : Nat) (p : Int32) : Nat → Nat → Int32
  | 0, _ => -(nI 3)
  | j + 1, i => match twL A c p i (8 ^ i) 0 with
    | some w => nI (8 ^ i + w)
    | none => ttL A c p j (i + 1)
theorem pl8 {i : Nat} (hi : i ≤ 3) : 8 ^ i ≤ 512 := by
  rcases (show i = 0 ∨ i = 1 ∨ i = 2 ∨ i = 3 by omega) with rfl | rfl | rfl | rfl <;> decide
theorem cl_tw {A n d z R R4 h c p i tn td tz} {k14 : Nat → Nat → Int32 → Int32 → Int32 → Int32 → H2 → O2} (hc : c < 8) (hi : i ≤ 3) : ∀ j w f T, w + j = 8 ^ i → j < f → OF c T A → ∃ T', OF c T' A ∧
    fF_vatsThrough_b23 k14 f 0 0 (nI c) p (nI (8 ^ i)) (nI i) (nI w) (mk A n d z R T tn td tz R4 h) = match twL A c p i j w with
      | some w' => some ([Sum.inl (Value.int (nI (8 ^ i + w')))], mk A n d z R T' tn td tz R4 h)
      | none => k14 0 0 (nI c) p (nI (8 ^ (i + 1))) (nI (i + 1)) (mk A n d z R T' tn td tz R4 h)
  | _, _, 0, _, _, hf, _ => by omega
  | 0, w, f + 1, T, hv, _, hT => by
    have hp := pl8 hi
    have : w = 8 ^ i := by omega
    subst this
    refine ⟨T, hT, ?_⟩
    unfold fF_vatsThrough_b23 twL
    rw [if_pos (by rw [mp_le (by omega) (by omega)]; omega), xbi, xbi, mp_mul, nI_add]
    rfl
  | j + 1, w, f + 1, T, hv, hf, hT => by
    have hp := pl8 hi
    have hE : thL c w i (rsA A T c) 5 c = thL c w i A 5 c := E8_th hc i _ _ (rs_E8 hT) 5 c (by omega) hc
    have hO2 : OF c (thL c w i (rsA A T c)) A := OF_th i _ (fun t k h1 h2 h3 h4 h5 => rs_E8 hT t k h1 h2)
    unfold fF_vatsThrough_b23 twL
    rw [if_neg (by rw [mp_le (by omega) (by omega)]; omega), k_leads hc (by omega) hi, xrI, hE]
    by_cases h1 : thL c w i A 5 c = p
    · refine ⟨_, hO2, ?_⟩
      rw [if_pos h1, if_pos h1, if_neg (by rw [x10]; exact fun hh => hh), nI_add]
    · rw [if_neg h1, if_neg h1, if_pos (by rw [x00]; trivial), xbi, nI_add]
      exact cl_tw hc hi j (w + 1) f _ (by omega) (by omega) hO2
theorem cl_tt {A n d z R R4 h c p tn td tz} (hc : c < 8) : ∀ j i f T, i + j = 4 → j < f → OF c T A → ∃ T', fF_vatsThrough_b14 f 0 0 (nI c) p (nI (8 ^ i)) (nI i) (mk A n d z R T tn td tz R4 h) = some ([Sum.inl (Value.int (ttL A c p j i))], mk A n d z R T' tn td tz R4 h)
  | _, _, 0, _, _, hf, _ => by omega
  | 0, i, f + 1, T, hv, _, _ => by
    have : i = 4 := by omega
    subst this
    refine ⟨T, ?_⟩
    unfold fF_vatsThrough_b14 ttL
    rw [if_pos (by rw [mp_lt (by omega) (by omega)]; omega)]
  | j + 1, i, f + 1, T, hv, hf, hT => by
    have hp := pl8 (show i ≤ 3 by omega)
    obtain ⟨T', hT', e⟩ := cl_tw (n := n) (d := d) (z := z) (R := R) (R4 := R4) (h := h) (c := c) (p := p) (i := i) (tn := tn) (td := td) (tz := tz) (k14 := fF_vatsThrough_b14 f) hc (by omega) (8 ^ i) 0 1000 T (by omega) (by omega) hT
    unfold fF_vatsThrough_b14 ttL
    rw [if_neg (by rw [mp_lt (by omega) (by omega)]; omega), xbi, e]
    cases hx : twL A c p i (8 ^ i) 0 with
    | some w => exact ⟨T', rfl⟩
    | none => exact cl_tt hc j (i + 1) f T' (by omega) (by omega) hT'
theorem nl_tw {A0 n0 d0 z0 A n d z J T tn td tz R4 h c p i} {k23 : Nat → Int32 → Int32 → Int32 → H2 → O2} (hn : n ≤ 8) (hc : c < n) (hR : Rng A n) (hi : i ≤ 3) : ∀ j w f, w + j = 8 ^ i → j < f →
    fN_through_b31 k23 f 0 (nI c) p (nI i) (nI w) (mk A0 n0 d0 z0 (rowOf A n d z J) T tn td tz (lend (rowOf A n d z J) R4) h) = match twL A c p i j w with
      | some w' => some ([Sum.inl (Value.int (nI (8 ^ i + w')))], mk A0 n0 d0 z0 (rowOf A n d z J) T tn td tz (lend (rowOf A n d z J) R4) h)
      | none => k23 0 (nI c) p (nI (i + 1)) (mk A0 n0 d0 z0 (rowOf A n d z J) T tn td tz (lend (rowOf A n d z J) R4) h)
  | _, _, 0, _, hf => by omega
  | 0, w, f + 1, hv, _ => by
    have hp := pl8 hi
    have : w = 8 ^ i := by omega
    subst this
    unfold fN_through_b31 twL
    rw [pw8 i hi, if_pos (by rw [mp_le (by omega) (by omega)]; omega), xbi, nI_add]
  | j + 1, w, f + 1, hv, hf => by
    have hp := pl8 hi
    unfold fN_through_b31 twL fN_isThrough
    rw [pw8 i hi, if_neg (by rw [mp_le (by omega) (by omega)]; omega), xbi, vd1, nl_th hn hc (by omega) i 1000 A d hi (by omega) hR, xrI]
    by_cases h1 : thL c w i A 5 c = p
    · rw [if_pos h1, if_pos h1, if_neg (by rw [x10]; exact fun hh => hh), nI_add]
    · rw [if_neg h1, if_neg h1, if_pos (by rw [x00]; trivial), xbi, nI_add]
      exact nl_tw hn hc hR hi j (w + 1) f (by omega) (by omega)
theorem nl_tt {A0 n0 d0 z0 A n d z J T tn td tz R4 h c p} (hn : n ≤ 8) (hc : c < n) (hR : Rng A n) : ∀ j i f, i + j = 4 → j < f → fN_through_b23 f 0 (nI c) p (nI i) (mk A0 n0 d0 z0 (rowOf A n d z J) T tn td tz (lend (rowOf A n d z J) R4) h) = some ([Sum.inl (Value.int (ttL A c p j i))], mk A0 n0 d0 z0 (rowOf A n d z J) T tn td tz (lend (rowOf A n d z J) R4) h)
  | _, _, 0, _, hf => by omega
  | 0, i, f + 1, hv, _ => by
    have : i = 4 := by omega
    subst this
    unfold fN_through_b23 ttL
    rw [if_pos (by rw [mp_lt (by omega) (by omega)]; omega)]
  | j + 1, i, f + 1, hv, hf => by
    have hp := pl8 (show i ≤ 3 by omega)
    unfold fN_through_b23 ttL
    rw [if_neg (by rw [mp_lt (by omega) (by omega)]; omega), xbi, nl_tw hn hc hR (by omega) (8 ^ i) 0 1000 (by omega) (by omega)]
    cases hx : twL A c p i (8 ^ i) 0 with
    | some w => rfl
    | none => exact nl_tt hn hc hR j (i + 1) f (by omega) (by omega)
theorem g_through (v1 v2 : Int32) : Good (fV_through 0 v1 v2) (fN_through 0 v1 v2) := by
  intro k h hk hI
  obtain ⟨A, n, d, z, J, T, tn, td, tz, R4, h0, rfl, hn, hd, hR, hO⟩ := hI
  rcases has_case v1 hn with ⟨_, e1, e2⟩ | ⟨c, hc, rfl, e1, e2⟩
  · exact fin (h1 := (mk A n d z (rowOf A n d z J) T tn td tz R4 h0)) (A := A) (n := n) (d := d) (z := z) (J := J) (T := T) (tn := tn) (td := td) (tz := tz) (R4 := R4) (h' := h0) (Value.int (-(nI 1))) (by simp (disch := first | omega | assumption) only [fV_through, e1, decide_true, decide_false, Bool.not_false, Bool.not_true, Bool.true_or, Bool.or_true, Nat.reduceAdd, xgd, xbi, xbh, xbl, xrI, xrV, xrL, xrR, x00, x10, xb0, xb1, if_true, if_false, mp_inb, mp_tn, mp_nn, mp_mul, nI_add, mr_law, mr_dd, mr_zz, mr_nn, mr_pur, mr_str, mr_ros, mr_clo, mr_wlaw, mr_wday, mr_wz, mr_wpur, mr_wstr, mr_wros, mr_wclo, mk_a0, mk_b0, mk_a1, mk_b1, mk_a2, mk_b2, mk_a3, mk_b3, mk_a4, mk_b4, mk_a5, mk_b5, mk_a6, mk_b6, mk_a7, mk_b7, mk_a8, mk_b8, mk_an, mk_bn, mk_ad, mk_bd, mk_az, mk_bz, mk_rR, mk_rR4, mk_ro, mk_rm, mk_wa0, mk_wb0, mk_wa1, mk_wb1, mk_wa2, mk_wb2, mk_wa3, mk_wb3, mk_wa4, mk_wb4, mk_wa5, mk_wb5, mk_wa6, mk_wb6, mk_wa7, mk_wb7, mk_wa8, mk_wb8, mk_wan, mk_wbn, mk_wad, mk_wbd, mk_waz, mk_wbz, mk_wR, mk_wR4, mk_wo, k0_takes, k0_fights, k0_fades, k0_settle, k0_deepen, k0_dip, k0_vat, k0_day, k0_pass, k0_sum, k0_drawn, k3_takes, k3_fights, k3_fades, k3_settle, k3_deepen, k3_dip, k3_vat, k3_day, k3_pass, k3_sum, k3_drawn, kn_its, kn_sets, kn_deep, kn_takes, kn_fights, kn_fades, kn_dip, kn_day, kn_goes, kn_sum, kn_drawn, mk_cp3]) (by simp (disch := first | omega | assumption) only [fN_through, e2, decide_true, decide_false, Bool.not_false, Bool.not_true, Bool.true_or, Bool.or_true, Nat.reduceAdd, xgd, xbi, xbh, xbl, xrI, xrV, xrL, xrR, x00, x10, xb0, xb1, if_true, if_false, mp_inb, mp_tn, mp_nn, mp_mul, nI_add, mr_law, mr_dd, mr_zz, mr_nn, mr_pur, mr_str, mr_ros, mr_clo, mr_wlaw, mr_wday, mr_wz, mr_wpur, mr_wstr, mr_wros, mr_wclo, mk_a0, mk_b0, mk_a1, mk_b1, mk_a2, mk_b2, mk_a3, mk_b3, mk_a4, mk_b4, mk_a5, mk_b5, mk_a6, mk_b6, mk_a7, mk_b7, mk_a8, mk_b8, mk_an, mk_bn, mk_ad, mk_bd, mk_az, mk_bz, mk_rR, mk_rR4, mk_ro, mk_rm, mk_wa0, mk_wb0, mk_wa1, mk_wb1, mk_wa2, mk_wb2, mk_wa3, mk_wb3, mk_wa4, mk_wb4, mk_wa5, mk_wb5, mk_wa6, mk_wb6, mk_wa7, mk_wb7, mk_wa8, mk_wb8, mk_wan, mk_wbn, mk_wad, mk_wbd, mk_waz, mk_wbz, mk_wR, mk_wR4, mk_wo, k0_takes, k0_fights, k0_fades, k0_settle, k0_deepen, k0_dip, k0_vat, k0_day, k0_pass, k0_sum, k0_drawn, k3_takes, k3_fights, k3_fades, k3_settle, k3_deepen, k3_dip, k3_vat, k3_day, k3_pass, k3_sum, k3_drawn, kn_its, kn_sets, kn_deep, kn_takes, kn_fights, kn_fades, kn_dip, kn_day, kn_goes, kn_sum, kn_drawn, mk_cp3]) hn (by omega) hR (Oth_succ hO) ⟨_, rfl⟩
  · rcases purpose_case v2 with ⟨_, f1, f2⟩ | ⟨m, hm, rfl, f1, f2⟩
    · exact fin (h1 := (mk A n d z (rowOf A n d z J) T tn td tz R4 h0)) (A := A) (n := n) (d := d) (z := z) (J := J) (T := T) (tn := tn) (td := td) (tz := tz) (R4 := R4) (h' := h0) (Value.int (-(nI 1))) (by simp (disch := first | omega | assumption) only [fV_through, e1, f1, decide_true, decide_false, Bool.not_false, Bool.not_true, Bool.true_or, Bool.or_true, Nat.reduceAdd, xgd, xbi, xbh, xbl, xrI, xrV, xrL, xrR, x00, x10, xb0, xb1, if_true, if_false, mp_inb, mp_tn, mp_nn, mp_mul, nI_add, mr_law, mr_dd, mr_zz, mr_nn, mr_pur, mr_str, mr_ros, mr_clo, mr_wlaw, mr_wday, mr_wz, mr_wpur, mr_wstr, mr_wros, mr_wclo, mk_a0, mk_b0, mk_a1, mk_b1, mk_a2, mk_b2, mk_a3, mk_b3, mk_a4, mk_b4, mk_a5, mk_b5, mk_a6, mk_b6, mk_a7, mk_b7, mk_a8, mk_b8, mk_an, mk_bn, mk_ad, mk_bd, mk_az, mk_bz, mk_rR, mk_rR4, mk_ro, mk_rm, mk_wa0, mk_wb0, mk_wa1, mk_wb1, mk_wa2, mk_wb2, mk_wa3, mk_wb3, mk_wa4, mk_wb4, mk_wa5, mk_wb5, mk_wa6, mk_wb6, mk_wa7, mk_wb7, mk_wa8, mk_wb8, mk_wan, mk_wbn, mk_wad, mk_wbd, mk_waz, mk_wbz, mk_wR, mk_wR4, mk_wo, k0_takes, k0_fights, k0_fades, k0_settle, k0_deepen, k0_dip, k0_vat, k0_day, k0_pass, k0_sum, k0_drawn, k3_takes, k3_fights, k3_fades, k3_settle, k3_deepen, k3_dip, k3_vat, k3_day, k3_pass, k3_sum, k3_drawn, kn_its, kn_sets, kn_deep, kn_takes, kn_fights, kn_fades, kn_dip, kn_day, kn_goes, kn_sum, kn_drawn, mk_cp3]) (by simp (disch := first | omega | assumption) only [fN_through, e2, f2, decide_true, decide_false, Bool.not_false, Bool.not_true, Bool.true_or, Bool.or_true, Nat.reduceAdd, xgd, xbi, xbh, xbl, xrI, xrV, xrL, xrR, x00, x10, xb0, xb1, if_true, if_false, mp_inb, mp_tn, mp_nn, mp_mul, nI_add, mr_law, mr_dd, mr_zz, mr_nn, mr_pur, mr_str, mr_ros, mr_clo, mr_wlaw, mr_wday, mr_wz, mr_wpur, mr_wstr, mr_wros, mr_wclo, mk_a0, mk_b0, mk_a1, mk_b1, mk_a2, mk_b2, mk_a3, mk_b3, mk_a4, mk_b4, mk_a5, mk_b5, mk_a6, mk_b6, mk_a7, mk_b7, mk_a8, mk_b8, mk_an, mk_bn, mk_ad, mk_bd, mk_az, mk_bz, mk_rR, mk_rR4, mk_ro, mk_rm, mk_wa0, mk_wb0, mk_wa1, mk_wb1, mk_wa2, mk_wb2, mk_wa3, mk_wb3, mk_wa4, mk_wb4, mk_wa5, mk_wb5, mk_wa6, mk_wb6, mk_wa7, mk_wb7, mk_wa8, mk_wb8, mk_wan, mk_wbn, mk_wad, mk_wbd, mk_waz, mk_wbz, mk_wR, mk_wR4, mk_wo, k0_takes, k0_fights, k0_fades, k0_settle, k0_deepen, k0_dip, k0_vat, k0_day, k0_pass, k0_sum, k0_drawn, k3_takes, k3_fights, k3_fades, k3_settle, k3_deepen, k3_dip, k3_vat, k3_day, k3_pass, k3_sum, k3_drawn, kn_its, kn_sets, kn_deep, kn_takes, kn_fights, kn_fades, kn_dip, kn_day, kn_goes, kn_sum, kn_drawn, mk_cp3]) hn (by omega) hR (Oth_succ hO) ⟨_, rfl⟩
    · obtain ⟨T', hT⟩ := cl_tt (n := n) (d := d) (z := z) (R := rowOf A n d z J) (R4 := R4) (h := h0) (c := c) (p := nI m) (tn := n) (td := d) (tz := z) (show c < 8 by omega) 4 0 1000 A (by omega) (by omega) (fun _ _ _ _ _ _ _ => rfl)
      rw [show 8 ^ 0 = 1 from rfl] at hT
      have hN := nl_tt (A0 := A) (n0 := n) (d0 := d) (z0 := z) (d := d) (z := z) (J := J) (T := T') (tn := n) (td := d) (tz := z) (R4 := R4) (h := h0) (p := nI m) hn hc hR 4 0 1000 (by omega) (by omega)
      exact fin (h1 := (mk A n d z (rowOf A n d z J) T' n d z R4 h0)) (A := A) (n := n) (d := d) (z := z) (J := J) (T := T') (tn := n) (td := d) (tz := z) (R4 := (lend (rowOf A n d z J) R4)) (h' := h0) (Value.int (ttL A c (nI m) 4 0)) (by simp (disch := first | omega | assumption) only [fV_through, fF_vatsThrough, e1, f1, hT, decide_true, decide_false, Bool.not_false, Bool.not_true, Bool.true_or, Bool.or_true, Nat.reduceAdd, xgd, xbi, xbh, xbl, xrI, xrV, xrL, xrR, x00, x10, xb0, xb1, if_true, if_false, mp_inb, mp_tn, mp_nn, mp_mul, nI_add, mr_law, mr_dd, mr_zz, mr_nn, mr_pur, mr_str, mr_ros, mr_clo, mr_wlaw, mr_wday, mr_wz, mr_wpur, mr_wstr, mr_wros, mr_wclo, mk_a0, mk_b0, mk_a1, mk_b1, mk_a2, mk_b2, mk_a3, mk_b3, mk_a4, mk_b4, mk_a5, mk_b5, mk_a6, mk_b6, mk_a7, mk_b7, mk_a8, mk_b8, mk_an, mk_bn, mk_ad, mk_bd, mk_az, mk_bz, mk_rR, mk_rR4, mk_ro, mk_rm, mk_wa0, mk_wb0, mk_wa1, mk_wb1, mk_wa2, mk_wb2, mk_wa3, mk_wb3, mk_wa4, mk_wb4, mk_wa5, mk_wb5, mk_wa6, mk_wb6, mk_wa7, mk_wb7, mk_wa8, mk_wb8, mk_wan, mk_wbn, mk_wad, mk_wbd, mk_waz, mk_wbz, mk_wR, mk_wR4, mk_wo, k0_takes, k0_fights, k0_fades, k0_settle, k0_deepen, k0_dip, k0_vat, k0_day, k0_pass, k0_sum, k0_drawn, k3_takes, k3_fights, k3_fades, k3_settle, k3_deepen, k3_dip, k3_vat, k3_day, k3_pass, k3_sum, k3_drawn, kn_its, kn_sets, kn_deep, kn_takes, kn_fights, kn_fades, kn_dip, kn_day, kn_goes, kn_sum, kn_drawn, mk_cp3]) (by simp (disch := first | omega | assumption) only [fN_through, e2, f2, kn_lends, hN, decide_true, decide_false, Bool.not_false, Bool.not_true, Bool.true_or, Bool.or_true, Nat.reduceAdd, xgd, xbi, xbh, xbl, xrI, xrV, xrL, xrR, x00, x10, xb0, xb1, if_true, if_false, mp_inb, mp_tn, mp_nn, mp_mul, nI_add, mr_law, mr_dd, mr_zz, mr_nn, mr_pur, mr_str, mr_ros, mr_clo, mr_wlaw, mr_wday, mr_wz, mr_wpur, mr_wstr, mr_wros, mr_wclo, mk_a0, mk_b0, mk_a1, mk_b1, mk_a2, mk_b2, mk_a3, mk_b3, mk_a4, mk_b4, mk_a5, mk_b5, mk_a6, mk_b6, mk_a7, mk_b7, mk_a8, mk_b8, mk_an, mk_bn, mk_ad, mk_bd, mk_az, mk_bz, mk_rR, mk_rR4, mk_ro, mk_rm, mk_wa0, mk_wb0, mk_wa1, mk_wb1, mk_wa2, mk_wb2, mk_wa3, mk_wb3, mk_wa4, mk_wb4, mk_wa5, mk_wb5, mk_wa6, mk_wb6, mk_wa7, mk_wb7, mk_wa8, mk_wb8, mk_wan, mk_wbn, mk_wad, mk_wbd, mk_waz, mk_wbz, mk_wR, mk_wR4, mk_wo, k0_takes, k0_fights, k0_fades, k0_settle, k0_deepen, k0_dip, k0_vat, k0_day, k0_pass, k0_sum, k0_drawn, k3_takes, k3_fights, k3_fades, k3_settle, k3_deepen, k3_dip, k3_vat, k3_day, k3_pass, k3_sum, k3_drawn, kn_its, kn_sets, kn_deep, kn_takes, kn_fights, kn_fades, kn_dip, kn_day, kn_goes, kn_sum, kn_drawn, mk_cp3]) hn (by omega) hR (Oth_succ hO) ⟨_, rfl⟩
