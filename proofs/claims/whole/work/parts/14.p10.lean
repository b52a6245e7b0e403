-- p10: what is tried: lending and laying back; luck, gone, depth, comes, bare, spoilt
theorem mr_dd {A n d z J} : rowOf A n d z J 4 = nI d := Eq.symm (Eq.symm rfl)
theorem mr_zz {A n d z J} : rowOf A n d z J 5 = z := Eq.symm (Eq.symm rfl)
theorem mr_nn {A n d z J} : rowOf A n d z J 6 = nI n := Eq.symm (Eq.symm rfl)
theorem putR_w {t R h k v} : putR t R (wI2 h t 0 k v) = putR t R h := by
  apply mp_ext
  · intro t' q k'
    show (if t' = t ∧ q = 0 then R k' else mv_up3 h.1 t 0 k v t' q k') = (if t' = t ∧ q = 0 then R k' else h.1 t' q k')
    by_cases h1 : t' = t ∧ q = 0
    · rw [if_pos h1, if_pos h1]
    · rw [if_neg h1, if_neg h1]
      unfold mv_up3
      simp only [mp_beq]
      by_cases h2 : t' = t
      · have h3 : ¬ q = 0 := fun e => h1 ⟨h2, e⟩
        rw [decide_eq_false h3, Bool.false_and, Bool.and_false, cond_false]
      · rw [decide_eq_false h2, Bool.false_and, cond_false]
  · rfl
theorem be_902_904 : ∀ j c f (h : H2), c + j = 69 → j < f → fN_become_902_904_b2 f 0 0 (nI c) h = some ([], putR 904 (fun k => if c ≤ k ∧ k < 69 then h.1 902 0 k else h.1 904 0 k) h)
  | _, _, 0, _, _, hf => by omega
  | 0, c, f + 1, h, hv, _ => by
    have : c = 69 := by omega
    subst this
    unfold fN_become_902_904_b2
    simp (disch := omega) only [mp_le]
    rw [if_pos (Nat.le_refl _), putR_eq (fun k => ?_)]
    rw [if_neg (by omega)]
  | j + 1, c, f + 1, h, hv, hf => by
    unfold fN_become_902_904_b2
    simp (disch := omega) only [mp_le, mp_inb, mp_tn, xgd, xbh, xbi, nI_add]
    rw [if_neg (by omega), be_902_904 j (c + 1) f _ (by omega) (by omega), putR_w]
    refine congrArg (fun F => some (([] : List mv_V), putR 904 F h)) ?_
    funext k
    have e1 : (wI2 h 904 0 c (rI2 h 902 0 c)).1 902 0 k = h.1 902 0 k := rfl
    have e2 : (wI2 h 904 0 c (rI2 h 902 0 c)).1 904 0 k = if k = c then h.1 902 0 c else h.1 904 0 k := by
      show mv_up3 h.1 904 0 c (h.1 902 0 c) 904 0 k = _
      unfold mv_up3
      simp only [mp_beq, decide_true, Bool.true_and]
      by_cases h1 : k = c
      · rw [decide_eq_true h1, if_pos h1]; rfl
      · rw [decide_eq_false h1, if_neg h1]; rfl
    show (if c + 1 ≤ k ∧ k < 69 then (wI2 h 904 0 c (rI2 h 902 0 c)).1 902 0 k else (wI2 h 904 0 c (rI2 h 902 0 c)).1 904 0 k) = _
    rw [e1, e2]
    by_cases h1 : k = c
    · rw [if_neg (by omega), if_pos h1, if_pos (by omega), h1]
    · by_cases h2 : c + 1 ≤ k ∧ k < 69
      · rw [if_pos h2, if_pos (by omega)]
      · rw [if_neg h2, if_neg h1, if_neg (by omega)]
theorem be_904_902 : ∀ j c f (h : H2), c + j = 69 → j < f → fN_become_904_902_b2 f 0 0 (nI c) h = some ([], putR 902 (fun k => if c ≤ k ∧ k < 69 then h.1 904 0 k else h.1 902 0 k) h)
  | _, _, 0, _, _, hf => by omega
  | 0, c, f + 1, h, hv, _ => by
    have : c = 69 := by omega
    subst this
    unfold fN_become_904_902_b2
    simp (disch := omega) only [mp_le]
    rw [if_pos (Nat.le_refl _), putR_eq (fun k => ?_)]
    rw [if_neg (by omega)]
  | j + 1, c, f + 1, h, hv, hf => by
    unfold fN_become_904_902_b2
    simp (disch := omega) only [mp_le, mp_inb, mp_tn, xgd, xbh, xbi, nI_add]
    rw [if_neg (by omega), be_904_902 j (c + 1) f _ (by omega) (by omega), putR_w]
    refine congrArg (fun F => some (([] : List mv_V), putR 902 F h)) ?_
    funext k
    have e1 : (wI2 h 902 0 c (rI2 h 904 0 c)).1 904 0 k = h.1 904 0 k := rfl
    have e2 : (wI2 h 902 0 c (rI2 h 904 0 c)).1 902 0 k = if k = c then h.1 904 0 c else h.1 902 0 k := by
      show mv_up3 h.1 902 0 c (h.1 904 0 c) 902 0 k = _
      unfold mv_up3
      simp only [mp_beq, decide_true, Bool.true_and]
      by_cases h1 : k = c
      · rw [decide_eq_true h1, if_pos h1]; rfl
      · rw [decide_eq_false h1, if_neg h1]; rfl
    show (if c + 1 ≤ k ∧ k < 69 then (wI2 h 902 0 c (rI2 h 904 0 c)).1 904 0 k else (wI2 h 902 0 c (rI2 h 904 0 c)).1 902 0 k) = _
    rw [e1, e2]
    by_cases h1 : k = c
    · rw [if_neg (by omega), if_pos h1, if_pos (by omega), h1]
    · by_cases h2 : c + 1 ≤ k ∧ k < 69
      · rw [if_pos h2, if_pos (by omega)]
      · rw [if_neg h2, if_neg h1, if_neg (by omega)]
theorem be_902_903 : ∀ j c f (h : H2), c + j = 69 → j < f → fN_become_902_903_b2 f 0 0 (nI c) h = some ([], putR 903 (fun k => if c ≤ k ∧ k < 69 then h.1 902 0 k else h.1 903 0 k) h)
  | _, _, 0, _, _, hf => by omega
  | 0, c, f + 1, h, hv, _ => by
    have : c = 69 := by omega
    subst this
    unfold fN_become_902_903_b2
    simp (disch := omega) only [mp_le]
    rw [if_pos (Nat.le_refl _), putR_eq (fun k => ?_)]
    rw [if_neg (by omega)]
  | j + 1, c, f + 1, h, hv, hf => by
    unfold fN_become_902_903_b2
    simp (disch := omega) only [mp_le, mp_inb, mp_tn, xgd, xbh, xbi, nI_add]
    rw [if_neg (by omega), be_902_903 j (c + 1) f _ (by omega) (by omega), putR_w]
    refine congrArg (fun F => some (([] : List mv_V), putR 903 F h)) ?_
    funext k
    have e1 : (wI2 h 903 0 c (rI2 h 902 0 c)).1 902 0 k = h.1 902 0 k := rfl
    have e2 : (wI2 h 903 0 c (rI2 h 902 0 c)).1 903 0 k = if k = c then h.1 902 0 c else h.1 903 0 k := by
      show mv_up3 h.1 903 0 c (h.1 902 0 c) 903 0 k = _
      unfold mv_up3
      simp only [mp_beq, decide_true, Bool.true_and]
      by_cases h1 : k = c
      · rw [decide_eq_true h1, if_pos h1]; rfl
      · rw [decide_eq_false h1, if_neg h1]; rfl
    show (if c + 1 ≤ k ∧ k < 69 then (wI2 h 903 0 c (rI2 h 902 0 c)).1 902 0 k else (wI2 h 903 0 c (rI2 h 902 0 c)).1 903 0 k) = _
    rw [e1, e2]
    by_cases h1 : k = c
    · rw [if_neg (by omega), if_pos h1, if_pos (by omega), h1]
    · by_cases h2 : c + 1 ≤ k ∧ k < 69
      · rw [if_pos h2, if_pos (by omega)]
      · rw [if_neg h2, if_neg h1, if_neg (by omega)]
theorem be_903_902 : ∀ j c f (h : H2), c + j = 69 → j < f → fN_become_903_902_b2 f 0 0 (nI c) h = some ([], putR 902 (fun k => if c ≤ k ∧ k < 69 then h.1 903 0 k else h.1 902 0 k) h)
  | _, _, 0, _, _, hf => by omega
  | 0, c, f + 1, h, hv, _ => by
    have : c = 69 := by omega
    subst this
    unfold fN_become_903_902_b2
    simp (disch := omega) only [mp_le]
    rw [if_pos (Nat.le_refl _), putR_eq (fun k => ?_)]
    rw [if_neg (by omega)]
  | j + 1, c, f + 1, h, hv, hf => by
    unfold fN_become_903_902_b2
    simp (disch := omega) only [mp_le, mp_inb, mp_tn, xgd, xbh, xbi, nI_add]
    rw [if_neg (by omega), be_903_902 j (c + 1) f _ (by omega) (by omega), putR_w]
    refine congrArg (fun F => some (([] : List mv_V), putR 902 F h)) ?_
    funext k
    have e1 : (wI2 h 902 0 c (rI2 h 903 0 c)).1 903 0 k = h.1 903 0 k := rfl
    have e2 : (wI2 h 902 0 c (rI2 h 903 0 c)).1 902 0 k = if k = c then h.1 903 0 c else h.1 902 0 k := by
      show mv_up3 h.1 902 0 c (h.1 903 0 c) 902 0 k = _
      unfold mv_up3
      simp only [mp_beq, decide_true, Bool.true_and]
      by_cases h1 : k = c
      · rw [decide_eq_true h1, if_pos h1]; rfl
      · rw [decide_eq_false h1, if_neg h1]; rfl
    show (if c + 1 ≤ k ∧ k < 69 then (wI2 h 902 0 c (rI2 h 903 0 c)).1 903 0 k else (wI2 h 902 0 c (rI2 h 903 0 c)).1 902 0 k) = _
    rw [e1, e2]
    by_cases h1 : k = c
    · rw [if_neg (by omega), if_pos h1, if_pos (by omega), h1]
    · by_cases h2 : c + 1 ≤ k ∧ k < 69
      · rw [if_pos h2, if_pos (by omega)]
      · rw [if_neg h2, if_neg h1, if_neg (by omega)]
def lend (R R4 : Nat → Int32) : Nat → Int32 := fun k => if k < 69 then R k else R4 k
theorem mk_p904 {A n d z R T tn td tz R4 h S} : putR 904 S (mk A n d z R T tn td tz R4 h) = mk A n d z R T tn td tz S h := by
  unfold mk
  rw [← putM_putR (show (904 < 300 ∧ 904 ≠ 2) ∨ 308 < 904 by omega), ← putM_putR (show (904 < 300 ∧ 904 ≠ 2) ∨ 308 < 904 by omega), putR_comm (show 904 ≠ 902 by omega), putR_put]
theorem mk_p902 {A n d z R T tn td tz R4 h S} : putR 902 S (mk A n d z R T tn td tz R4 h) = mk A n d z S T tn td tz R4 h := by
  unfold mk
  rw [← putM_putR (show (902 < 300 ∧ 902 ≠ 2) ∨ 308 < 902 by omega), ← putM_putR (show (902 < 300 ∧ 902 ≠ 2) ∨ 308 < 902 by omega), putR_put]
theorem kn_lends {A n d z R T tn td tz R4 h} : fN_lends 0 (mk A n d z R T tn td tz R4 h) = some ([], mk A n d z R T tn td tz (lend R R4) h) := by
  unfold fN_lends fN_become_902_904
  rw [xbi, be_902_904 69 0 1000 _ (by omega) (by omega), xrV, mk_p904]
  refine congrArg (fun F => some (([] : List mv_V), mk A n d z R T tn td tz F h)) ?_
  funext k
  unfold lend
  rw [show (mk A n d z R T tn td tz R4 h).1 902 0 k = R k from mk_rR, show (mk A n d z R T tn td tz R4 h).1 904 0 k = R4 k from mk_rR4]
  by_cases h1 : k < 69
  · rw [if_pos ⟨Nat.zero_le _, h1⟩, if_pos h1]
  · rw [if_neg (fun hh => h1 hh.2), if_neg h1]
theorem row_out {A n d z J k} (hn : n ≤ 8) (hk : ¬ k < 69) : rowOf A n d z J k = J k := by
  unfold rowOf
  rw [if_neg (by omega), if_neg (by omega), if_neg (by omega), if_neg (by omega), if_neg (by omega), if_neg (by omega), if_neg (by omega), if_neg (by omega)]
theorem lend_back {A n d z J B N D Z R4} (hn : n ≤ 8) (hN : N ≤ 8) : (fun k => if 0 ≤ k ∧ k < 69 then lend (rowOf A n d z J) R4 k else rowOf B N D Z J k) = rowOf A n d z J := by
  funext k
  unfold lend
  by_cases h1 : k < 69
  · rw [if_pos ⟨Nat.zero_le _, h1⟩, if_pos h1]
  · rw [if_neg (fun hh => h1 hh.2), row_out hN h1, row_out hn h1]
theorem kn_lays {A n d z B N D Z B' N' D' Z' J T tn td tz R4 h} (hN : N ≤ 8) (hN' : N' ≤ 8) : fN_laysBack 0 (mk A n d z (rowOf B N D Z J) T tn td tz (lend (rowOf B' N' D' Z' J) R4) h) = some ([], mk A n d z (rowOf B' N' D' Z' J) T tn td tz (lend (rowOf B' N' D' Z' J) R4) h) := by
  unfold fN_laysBack fN_become_904_902
  rw [xbi, be_904_902 69 0 1000 _ (by omega) (by omega), xrV, mk_p902]
  refine congrArg (fun F => some (([] : List mv_V), mk A n d z F T tn td tz (lend (rowOf B' N' D' Z' J) R4) h)) (Eq.trans ?_ (lend_back (A := B') (n := N') (d := D') (z := Z') (J := J) (B := B) (N := N) (D := D) (Z := Z) (R4 := R4) hN' hN))
  funext k
  rw [show (mk A n d z (rowOf B N D Z J) T tn td tz (lend (rowOf B' N' D' Z' J) R4) h).1 902 0 k = rowOf B N D Z J k from mk_rR, show (mk A n d z (rowOf B N D Z J) T tn td tz (lend (rowOf B' N' D' Z' J) R4) h).1 904 0 k = lend (rowOf B' N' D' Z' J) R4 k from mk_rR4]
theorem lend_clo {A n d z J R4 c w} (hc : c < n) (hn : n ≤ 8) (hw : w < 5) : lend (rowOf A n d z J) R4 (29 + 5 * c + w) = A (4 + w) c := by
  unfold lend
  rw [if_pos (by omega), mr_clo hc hw]

theorem g_gone (v1 v2 : Int32) : Good (fV_gone 0 v1 v2) (fN_gone 0 v1 v2) := by
  intro k h hk hI
  obtain ⟨A, n, d, z, J, T, tn, td, tz, R4, h0, rfl, hn, hd, hR, hO⟩ := hI
  rcases has_case v1 hn with ⟨_, e1, e2⟩ | ⟨c, hc, rfl, e1, e2⟩
  · exact fin (h1 := (mk A n d z (rowOf A n d z J) T tn td tz R4 h0)) (A := A) (n := n) (d := d) (z := z) (J := J) (T := T) (tn := tn) (td := td) (tz := tz) (R4 := R4) (h' := h0) (Value.int (-(nI 1))) (by simp (disch := first | omega | assumption) only [fV_gone, e1, decide_true, decide_false, Bool.not_false, Bool.not_true, Bool.true_or, Bool.or_true, Nat.reduceAdd, xgd, xbi, xbh, xbl, xrI, xrV, xrL, xrR, x00, x10, xb0, xb1, if_true, if_false, mp_inb, mp_tn, mp_nn, mp_mul, nI_add, mr_law, mr_dd, mr_zz, mr_nn, mr_pur, mr_str, mr_ros, mr_clo, mr_wlaw, mr_wday, mr_wz, mr_wpur, mr_wstr, mr_wros, mr_wclo, mk_a0, mk_b0, mk_a1, mk_b1, mk_a2, mk_b2, mk_a3, mk_b3, mk_a4, mk_b4, mk_a5, mk_b5, mk_a6, mk_b6, mk_a7, mk_b7, mk_a8, mk_b8, mk_an, mk_bn, mk_ad, mk_bd, mk_az, mk_bz, mk_rR, mk_rR4, mk_ro, mk_rm, mk_wa0, mk_wb0, mk_wa1, mk_wb1, mk_wa2, mk_wb2, mk_wa3, mk_wb3, mk_wa4, mk_wb4, mk_wa5, mk_wb5, mk_wa6, mk_wb6, mk_wa7, mk_wb7, mk_wa8, mk_wb8, mk_wan, mk_wbn, mk_wad, mk_wbd, mk_waz, mk_wbz, mk_wR, mk_wR4, mk_wo, k0_takes, k0_fights, k0_fades, k0_settle, k0_deepen, k0_dip, k0_vat, k0_day, k0_pass, k0_sum, k0_drawn, k3_takes, k3_fights, k3_fades, k3_settle, k3_deepen, k3_dip, k3_vat, k3_day, k3_pass, k3_sum, k3_drawn, kn_its, kn_sets, kn_deep, kn_takes, kn_fights, kn_fades, kn_dip, kn_day, kn_goes, kn_sum, kn_drawn, mk_cp3]) (by simp (disch := first | omega | assumption) only [fN_gone, e2, decide_true, decide_false, Bool.not_false, Bool.not_true, Bool.true_or, Bool.or_true, Nat.reduceAdd, xgd, xbi, xbh, xbl, xrI, xrV, xrL, xrR, x00, x10, xb0, xb1, if_true, if_false, mp_inb, mp_tn, mp_nn, mp_mul, nI_add, mr_law, mr_dd, mr_zz, mr_nn, mr_pur, mr_str, mr_ros, mr_clo, mr_wlaw, mr_wday, mr_wz, mr_wpur, mr_wstr, mr_wros, mr_wclo, mk_a0, mk_b0, mk_a1, mk_b1, mk_a2, mk_b2, mk_a3, mk_b3, mk_a4, mk_b4, mk_a5, mk_b5, mk_a6, mk_b6, mk_a7, mk_b7, mk_a8, mk_b8, mk_an, mk_bn, mk_ad, mk_bd, mk_az, mk_bz, mk_rR, mk_rR4, mk_ro, mk_rm, mk_wa0, mk_wb0, mk_wa1, mk_wb1, mk_wa2, mk_wb2, mk_wa3, mk_wb3, mk_wa4, mk_wb4, mk_wa5, mk_wb5, mk_wa6, mk_wb6, mk_wa7, mk_wb7, mk_wa8, mk_wb8, mk_wan, mk_wbn, mk_wad, mk_wbd, mk_waz, mk_wbz, mk_wR, mk_wR4, mk_wo, k0_takes, k0_fights, k0_fades, k0_settle, k0_deepen, k0_dip, k0_vat, k0_day, k0_pass, k0_sum, k0_drawn, k3_takes, k3_fights, k3_fades, k3_settle, k3_deepen, k3_dip, k3_vat, k3_day, k3_pass, k3_sum, k3_drawn, kn_its, kn_sets, kn_deep, kn_takes, kn_fights, kn_fades, kn_dip, kn_day, kn_goes, kn_sum, kn_drawn, mk_cp3]) hn (by omega) hR (Oth_succ hO) ⟨_, rfl⟩
  · rcases days_case v2 with ⟨_, f1, f2⟩ | ⟨m, hm, rfl, f1, f2⟩
    · exact fin (h1 := (mk A n d z (rowOf A n d z J) T tn td tz R4 h0)) (A := A) (n := n) (d := d) (z := z) (J := J) (T := T) (tn := tn) (td := td) (tz := tz) (R4 := R4) (h' := h0) (Value.int (-(nI 1))) (by simp (disch := first | omega | assumption) only [fV_gone, e1, f1, decide_true, decide_false, Bool.not_false, Bool.not_true, Bool.true_or, Bool.or_true, Nat.reduceAdd, xgd, xbi, xbh, xbl, xrI, xrV, xrL, xrR, x00, x10, xb0, xb1, if_true, if_false, mp_inb, mp_tn, mp_nn, mp_mul, nI_add, mr_law, mr_dd, mr_zz, mr_nn, mr_pur, mr_str, mr_ros, mr_clo, mr_wlaw, mr_wday, mr_wz, mr_wpur, mr_wstr, mr_wros, mr_wclo, mk_a0, mk_b0, mk_a1, mk_b1, mk_a2, mk_b2, mk_a3, mk_b3, mk_a4, mk_b4, mk_a5, mk_b5, mk_a6, mk_b6, mk_a7, mk_b7, mk_a8, mk_b8, mk_an, mk_bn, mk_ad, mk_bd, mk_az, mk_bz, mk_rR, mk_rR4, mk_ro, mk_rm, mk_wa0, mk_wb0, mk_wa1, mk_wb1, mk_wa2, mk_wb2, mk_wa3, mk_wb3, mk_wa4, mk_wb4, mk_wa5, mk_wb5, mk_wa6, mk_wb6, mk_wa7, mk_wb7, mk_wa8, mk_wb8, mk_wan, mk_wbn, mk_wad, mk_wbd, mk_waz, mk_wbz, mk_wR, mk_wR4, mk_wo, k0_takes, k0_fights, k0_fades, k0_settle, k0_deepen, k0_dip, k0_vat, k0_day, k0_pass, k0_sum, k0_drawn, k3_takes, k3_fights, k3_fades, k3_settle, k3_deepen, k3_dip, k3_vat, k3_day, k3_pass, k3_sum, k3_drawn, kn_its, kn_sets, kn_deep, kn_takes, kn_fights, kn_fades, kn_dip, kn_day, kn_goes, kn_sum, kn_drawn, mk_cp3]) (by simp (disch := first | omega | assumption) only [fN_gone, e2, f2, decide_true, decide_false, Bool.not_false, Bool.not_true, Bool.true_or, Bool.or_true, Nat.reduceAdd, xgd, xbi, xbh, xbl, xrI, xrV, xrL, xrR, x00, x10, xb0, xb1, if_true, if_false, mp_inb, mp_tn, mp_nn, mp_mul, nI_add, mr_law, mr_dd, mr_zz, mr_nn, mr_pur, mr_str, mr_ros, mr_clo, mr_wlaw, mr_wday, mr_wz, mr_wpur, mr_wstr, mr_wros, mr_wclo, mk_a0, mk_b0, mk_a1, mk_b1, mk_a2, mk_b2, mk_a3, mk_b3, mk_a4, mk_b4, mk_a5, mk_b5, mk_a6, mk_b6, mk_a7, mk_b7, mk_a8, mk_b8, mk_an, mk_bn, mk_ad, mk_bd, mk_az, mk_bz, mk_rR, mk_rR4, mk_ro, mk_rm, mk_wa0, mk_wb0, mk_wa1, mk_wb1, mk_wa2, mk_wb2, mk_wa3, mk_wb3, mk_wa4, mk_wb4, mk_wa5, mk_wb5, mk_wa6, mk_wb6, mk_wa7, mk_wb7, mk_wa8, mk_wb8, mk_wan, mk_wbn, mk_wad, mk_wbd, mk_waz, mk_wbz, mk_wR, mk_wR4, mk_wo, k0_takes, k0_fights, k0_fades, k0_settle, k0_deepen, k0_dip, k0_vat, k0_day, k0_pass, k0_sum, k0_drawn, k3_takes, k3_fights, k3_fades, k3_settle, k3_deepen, k3_dip, k3_vat, k3_day, k3_pass, k3_sum, k3_drawn, kn_its, kn_sets, kn_deep, kn_takes, kn_fights, kn_fades, kn_dip, kn_day, kn_goes, kn_sum, kn_drawn, mk_cp3]) hn (by omega) hR (Oth_succ hO) ⟨_, rfl⟩
    · exact fin (h1 := (mk A n d z (rowOf A n d z J) (passA n m d A) n (d + m) z R4 h0)) (A := A) (n := n) (d := d) (z := z) (J := J) (T := passA n m d A) (tn := n) (td := d + m) (tz := z) (R4 := lend (rowOf A n d z J) R4) (h' := h0) (Value.int (nI 1 + passA n m d A 5 c)) (by simp (disch := first | omega | assumption) only [fV_gone, fF_behind, e1, f1, decide_true, decide_false, Bool.not_false, Bool.not_true, Bool.true_or, Bool.or_true, Nat.reduceAdd, xgd, xbi, xbh, xbl, xrI, xrV, xrL, xrR, x00, x10, xb0, xb1, if_true, if_false, mp_inb, mp_tn, mp_nn, mp_mul, nI_add, mr_law, mr_dd, mr_zz, mr_nn, mr_pur, mr_str, mr_ros, mr_clo, mr_wlaw, mr_wday, mr_wz, mr_wpur, mr_wstr, mr_wros, mr_wclo, mk_a0, mk_b0, mk_a1, mk_b1, mk_a2, mk_b2, mk_a3, mk_b3, mk_a4, mk_b4, mk_a5, mk_b5, mk_a6, mk_b6, mk_a7, mk_b7, mk_a8, mk_b8, mk_an, mk_bn, mk_ad, mk_bd, mk_az, mk_bz, mk_rR, mk_rR4, mk_ro, mk_rm, mk_wa0, mk_wb0, mk_wa1, mk_wb1, mk_wa2, mk_wb2, mk_wa3, mk_wb3, mk_wa4, mk_wb4, mk_wa5, mk_wb5, mk_wa6, mk_wb6, mk_wa7, mk_wb7, mk_wa8, mk_wb8, mk_wan, mk_wbn, mk_wad, mk_wbd, mk_waz, mk_wbz, mk_wR, mk_wR4, mk_wo, k0_takes, k0_fights, k0_fades, k0_settle, k0_deepen, k0_dip, k0_vat, k0_day, k0_pass, k0_sum, k0_drawn, k3_takes, k3_fights, k3_fades, k3_settle, k3_deepen, k3_dip, k3_vat, k3_day, k3_pass, k3_sum, k3_drawn, kn_its, kn_sets, kn_deep, kn_takes, kn_fights, kn_fades, kn_dip, kn_day, kn_goes, kn_sum, kn_drawn, mk_cp3]) (by simp (disch := first | omega | assumption) only [fN_gone, fN_behind, e2, f2, kn_lends, kn_lays, lend_clo, decide_true, decide_false, Bool.not_false, Bool.not_true, Bool.true_or, Bool.or_true, Nat.reduceAdd, xgd, xbi, xbh, xbl, xrI, xrV, xrL, xrR, x00, x10, xb0, xb1, if_true, if_false, mp_inb, mp_tn, mp_nn, mp_mul, nI_add, mr_law, mr_dd, mr_zz, mr_nn, mr_pur, mr_str, mr_ros, mr_clo, mr_wlaw, mr_wday, mr_wz, mr_wpur, mr_wstr, mr_wros, mr_wclo, mk_a0, mk_b0, mk_a1, mk_b1, mk_a2, mk_b2, mk_a3, mk_b3, mk_a4, mk_b4, mk_a5, mk_b5, mk_a6, mk_b6, mk_a7, mk_b7, mk_a8, mk_b8, mk_an, mk_bn, mk_ad, mk_bd, mk_az, mk_bz, mk_rR, mk_rR4, mk_ro, mk_rm, mk_wa0, mk_wb0, mk_wa1, mk_wb1, mk_wa2, mk_wb2, mk_wa3, mk_wb3, mk_wa4, mk_wb4, mk_wa5, mk_wb5, mk_wa6, mk_wb6, mk_wa7, mk_wb7, mk_wa8, mk_wb8, mk_wan, mk_wbn, mk_wad, mk_wbd, mk_waz, mk_wbz, mk_wR, mk_wR4, mk_wo, k0_takes, k0_fights, k0_fades, k0_settle, k0_deepen, k0_dip, k0_vat, k0_day, k0_pass, k0_sum, k0_drawn, k3_takes, k3_fights, k3_fades, k3_settle, k3_deepen, k3_dip, k3_vat, k3_day, k3_pass, k3_sum, k3_drawn, kn_its, kn_sets, kn_deep, kn_takes, kn_fights, kn_fades, kn_dip, kn_day, kn_goes, kn_sum, kn_drawn, mk_cp3]) hn (by omega) hR (Oth_succ hO) ⟨_, rfl⟩

theorem g_depth (v1 v2 : Int32) : Good (fV_depth 0 v1 v2) (fN_depth 0 v1 v2) := by
  intro k h hk hI
  obtain ⟨A, n, d, z, J, T, tn, td, tz, R4, h0, rfl, hn, hd, hR, hO⟩ := hI
  rcases has_case v1 hn with ⟨_, e1, e2⟩ | ⟨c, hc, rfl, e1, e2⟩
  · exact fin (h1 := (mk A n d z (rowOf A n d z J) T tn td tz R4 h0)) (A := A) (n := n) (d := d) (z := z) (J := J) (T := T) (tn := tn) (td := td) (tz := tz) (R4 := R4) (h' := h0) (Value.int (-(nI 1))) (by simp (disch := first | omega | assumption) only [fV_depth, e1, decide_true, decide_false, Bool.not_false, Bool.not_true, Bool.true_or, Bool.or_true, Nat.reduceAdd, xgd, xbi, xbh, xbl, xrI, xrV, xrL, xrR, x00, x10, xb0, xb1, if_true, if_false, mp_inb, mp_tn, mp_nn, mp_mul, nI_add, mr_law, mr_dd, mr_zz, mr_nn, mr_pur, mr_str, mr_ros, mr_clo, mr_wlaw, mr_wday, mr_wz, mr_wpur, mr_wstr, mr_wros, mr_wclo, mk_a0, mk_b0, mk_a1, mk_b1, mk_a2, mk_b2, mk_a3, mk_b3, mk_a4, mk_b4, mk_a5, mk_b5, mk_a6, mk_b6, mk_a7, mk_b7, mk_a8, mk_b8, mk_an, mk_bn, mk_ad, mk_bd, mk_az, mk_bz, mk_rR, mk_rR4, mk_ro, mk_rm, mk_wa0, mk_wb0, mk_wa1, mk_wb1, mk_wa2, mk_wb2, mk_wa3, mk_wb3, mk_wa4, mk_wb4, mk_wa5, mk_wb5, mk_wa6, mk_wb6, mk_wa7, mk_wb7, mk_wa8, mk_wb8, mk_wan, mk_wbn, mk_wad, mk_wbd, mk_waz, mk_wbz, mk_wR, mk_wR4, mk_wo, k0_takes, k0_fights, k0_fades, k0_settle, k0_deepen, k0_dip, k0_vat, k0_day, k0_pass, k0_sum, k0_drawn, k3_takes, k3_fights, k3_fades, k3_settle, k3_deepen, k3_dip, k3_vat, k3_day, k3_pass, k3_sum, k3_drawn, kn_its, kn_sets, kn_deep, kn_takes, kn_fights, kn_fades, kn_dip, kn_day, kn_goes, kn_sum, kn_drawn, mk_cp3]) (by simp (disch := first | omega | assumption) only [fN_depth, e2, decide_true, decide_false, Bool.not_false, Bool.not_true, Bool.true_or, Bool.or_true, Nat.reduceAdd, xgd, xbi, xbh, xbl, xrI, xrV, xrL, xrR, x00, x10, xb0, xb1, if_true, if_false, mp_inb, mp_tn, mp_nn, mp_mul, nI_add, mr_law, mr_dd, mr_zz, mr_nn, mr_pur, mr_str, mr_ros, mr_clo, mr_wlaw, mr_wday, mr_wz, mr_wpur, mr_wstr, mr_wros, mr_wclo, mk_a0, mk_b0, mk_a1, mk_b1, mk_a2, mk_b2, mk_a3, mk_b3, mk_a4, mk_b4, mk_a5, mk_b5, mk_a6, mk_b6, mk_a7, mk_b7, mk_a8, mk_b8, mk_an, mk_bn, mk_ad, mk_bd, mk_az, mk_bz, mk_rR, mk_rR4, mk_ro, mk_rm, mk_wa0, mk_wb0, mk_wa1, mk_wb1, mk_wa2, mk_wb2, mk_wa3, mk_wb3, mk_wa4, mk_wb4, mk_wa5, mk_wb5, mk_wa6, mk_wb6, mk_wa7, mk_wb7, mk_wa8, mk_wb8, mk_wan, mk_wbn, mk_wad, mk_wbd, mk_waz, mk_wbz, mk_wR, mk_wR4, mk_wo, k0_takes, k0_fights, k0_fades, k0_settle, k0_deepen, k0_dip, k0_vat, k0_day, k0_pass, k0_sum, k0_drawn, k3_takes, k3_fights, k3_fades, k3_settle, k3_deepen, k3_dip, k3_vat, k3_day, k3_pass, k3_sum, k3_drawn, kn_its, kn_sets, kn_deep, kn_takes, kn_fights, kn_fades, kn_dip, kn_day, kn_goes, kn_sum, kn_drawn, mk_cp3]) hn (by omega) hR (Oth_succ hO) ⟨_, rfl⟩
  · rcases days_case v2 with ⟨_, f1, f2⟩ | ⟨m, hm, rfl, f1, f2⟩
    · exact fin (h1 := (mk A n d z (rowOf A n d z J) T tn td tz R4 h0)) (A := A) (n := n) (d := d) (z := z) (J := J) (T := T) (tn := tn) (td := td) (tz := tz) (R4 := R4) (h' := h0) (Value.int (-(nI 1))) (by simp (disch := first | omega | assumption) only [fV_depth, e1, f1, decide_true, decide_false, Bool.not_false, Bool.not_true, Bool.true_or, Bool.or_true, Nat.reduceAdd, xgd, xbi, xbh, xbl, xrI, xrV, xrL, xrR, x00, x10, xb0, xb1, if_true, if_false, mp_inb, mp_tn, mp_nn, mp_mul, nI_add, mr_law, mr_dd, mr_zz, mr_nn, mr_pur, mr_str, mr_ros, mr_clo, mr_wlaw, mr_wday, mr_wz, mr_wpur, mr_wstr, mr_wros, mr_wclo, mk_a0, mk_b0, mk_a1, mk_b1, mk_a2, mk_b2, mk_a3, mk_b3, mk_a4, mk_b4, mk_a5, mk_b5, mk_a6, mk_b6, mk_a7, mk_b7, mk_a8, mk_b8, mk_an, mk_bn, mk_ad, mk_bd, mk_az, mk_bz, mk_rR, mk_rR4, mk_ro, mk_rm, mk_wa0, mk_wb0, mk_wa1, mk_wb1, mk_wa2, mk_wb2, mk_wa3, mk_wb3, mk_wa4, mk_wb4, mk_wa5, mk_wb5, mk_wa6, mk_wb6, mk_wa7, mk_wb7, mk_wa8, mk_wb8, mk_wan, mk_wbn, mk_wad, mk_wbd, mk_waz, mk_wbz, mk_wR, mk_wR4, mk_wo, k0_takes, k0_fights, k0_fades, k0_settle, k0_deepen, k0_dip, k0_vat, k0_day, k0_pass, k0_sum, k0_drawn, k3_takes, k3_fights, k3_fades, k3_settle, k3_deepen, k3_dip, k3_vat, k3_day, k3_pass, k3_sum, k3_drawn, kn_its, kn_sets, kn_deep, kn_takes, kn_fights, kn_fades, kn_dip, kn_day, kn_goes, kn_sum, kn_drawn, mk_cp3]) (by simp (disch := first | omega | assumption) only [fN_depth, e2, f2, decide_true, decide_false, Bool.not_false, Bool.not_true, Bool.true_or, Bool.or_true, Nat.reduceAdd, xgd, xbi, xbh, xbl, xrI, xrV, xrL, xrR, x00, x10, xb0, xb1, if_true, if_false, mp_inb, mp_tn, mp_nn, mp_mul, nI_add, mr_law, mr_dd, mr_zz, mr_nn, mr_pur, mr_str, mr_ros, mr_clo, mr_wlaw, mr_wday, mr_wz, mr_wpur, mr_wstr, mr_wros, mr_wclo, mk_a0, mk_b0, mk_a1, mk_b1, mk_a2, mk_b2, mk_a3, mk_b3, mk_a4, mk_b4, mk_a5, mk_b5, mk_a6, mk_b6, mk_a7, mk_b7, mk_a8, mk_b8, mk_an, mk_bn, mk_ad, mk_bd, mk_az, mk_bz, mk_rR, mk_rR4, mk_ro, mk_rm, mk_wa0, mk_wb0, mk_wa1, mk_wb1, mk_wa2, mk_wb2, mk_wa3, mk_wb3, mk_wa4, mk_wb4, mk_wa5, mk_wb5, mk_wa6, mk_wb6, mk_wa7, mk_wb7, mk_wa8, mk_wb8, mk_wan, mk_wbn, mk_wad, mk_wbd, mk_waz, mk_wbz, mk_wR, mk_wR4, mk_wo, k0_takes, k0_fights, k0_fades, k0_settle, k0_deepen, k0_dip, k0_vat, k0_day, k0_pass, k0_sum, k0_drawn, k3_takes, k3_fights, k3_fades, k3_settle, k3_deepen, k3_dip, k3_vat, k3_day, k3_pass, k3_sum, k3_drawn, kn_its, kn_sets, kn_deep, kn_takes, kn_fights, kn_fades, kn_dip, kn_day, kn_goes, kn_sum, kn_drawn, mk_cp3]) hn (by omega) hR (Oth_succ hO) ⟨_, rfl⟩
    · exact fin (h1 := (mk A n d z (rowOf A n d z J) (passA n m d A) n (d + m) z R4 h0)) (A := A) (n := n) (d := d) (z := z) (J := J) (T := passA n m d A) (tn := n) (td := d + m) (tz := z) (R4 := lend (rowOf A n d z J) R4) (h' := h0) (Value.int (passA n m d A 6 c)) (by simp (disch := first | omega | assumption) only [fV_depth, fF_behind, e1, f1, decide_true, decide_false, Bool.not_false, Bool.not_true, Bool.true_or, Bool.or_true, Nat.reduceAdd, xgd, xbi, xbh, xbl, xrI, xrV, xrL, xrR, x00, x10, xb0, xb1, if_true, if_false, mp_inb, mp_tn, mp_nn, mp_mul, nI_add, mr_law, mr_dd, mr_zz, mr_nn, mr_pur, mr_str, mr_ros, mr_clo, mr_wlaw, mr_wday, mr_wz, mr_wpur, mr_wstr, mr_wros, mr_wclo, mk_a0, mk_b0, mk_a1, mk_b1, mk_a2, mk_b2, mk_a3, mk_b3, mk_a4, mk_b4, mk_a5, mk_b5, mk_a6, mk_b6, mk_a7, mk_b7, mk_a8, mk_b8, mk_an, mk_bn, mk_ad, mk_bd, mk_az, mk_bz, mk_rR, mk_rR4, mk_ro, mk_rm, mk_wa0, mk_wb0, mk_wa1, mk_wb1, mk_wa2, mk_wb2, mk_wa3, mk_wb3, mk_wa4, mk_wb4, mk_wa5, mk_wb5, mk_wa6, mk_wb6, mk_wa7, mk_wb7, mk_wa8, mk_wb8, mk_wan, mk_wbn, mk_wad, mk_wbd, mk_waz, mk_wbz, mk_wR, mk_wR4, mk_wo, k0_takes, k0_fights, k0_fades, k0_settle, k0_deepen, k0_dip, k0_vat, k0_day, k0_pass, k0_sum, k0_drawn, k3_takes, k3_fights, k3_fades, k3_settle, k3_deepen, k3_dip, k3_vat, k3_day, k3_pass, k3_sum, k3_drawn, kn_its, kn_sets, kn_deep, kn_takes, kn_fights, kn_fades, kn_dip, kn_day, kn_goes, kn_sum, kn_drawn, mk_cp3]) (by simp (disch := first | omega | assumption) only [fN_depth, fN_behind, e2, f2, kn_lends, kn_lays, lend_clo, decide_true, decide_false, Bool.not_false, Bool.not_true, Bool.true_or, Bool.or_true, Nat.reduceAdd, xgd, xbi, xbh, xbl, xrI, xrV, xrL, xrR, x00, x10, xb0, xb1, if_true, if_false, mp_inb, mp_tn, mp_nn, mp_mul, nI_add, mr_law, mr_dd, mr_zz, mr_nn, mr_pur, mr_str, mr_ros, mr_clo, mr_wlaw, mr_wday, mr_wz, mr_wpur, mr_wstr, mr_wros, mr_wclo, mk_a0, mk_b0, mk_a1, mk_b1, mk_a2, mk_b2, mk_a3, mk_b3, mk_a4, mk_b4, mk_a5, mk_b5, mk_a6, mk_b6, mk_a7, mk_b7, mk_a8, mk_b8, mk_an, mk_bn, mk_ad, mk_bd, mk_az, mk_bz, mk_rR, mk_rR4, mk_ro, mk_rm, mk_wa0, mk_wb0, mk_wa1, mk_wb1, mk_wa2, mk_wb2, mk_wa3, mk_wb3, mk_wa4, mk_wb4, mk_wa5, mk_wb5, mk_wa6, mk_wb6, mk_wa7, mk_wb7, mk_wa8, mk_wb8, mk_wan, mk_wbn, mk_wad, mk_wbd, mk_waz, mk_wbz, mk_wR, mk_wR4, mk_wo, k0_takes, k0_fights, k0_fades, k0_settle, k0_deepen, k0_dip, k0_vat, k0_day, k0_pass, k0_sum, k0_drawn, k3_takes, k3_fights, k3_fades, k3_settle, k3_deepen, k3_dip, k3_vat, k3_day, k3_pass, k3_sum, k3_drawn, kn_its, kn_sets, kn_deep, kn_takes, kn_fights, kn_fades, kn_dip, kn_day, kn_goes, kn_sum, kn_drawn, mk_cp3]) hn (by omega) hR (Oth_succ hO) ⟨_, rfl⟩

theorem passA1 {n d A} : passA n 1 d A = dayA A n d := Eq.symm (Eq.symm rfl)
def luckL (A : Nat → Nat → Int32) (n d : Nat) (p : Int32) : Nat → Int32 → Int32 → Int32
  | 0, _, s => s
  | j + 1, z, s => luckL A n d p j (drawZ A n z) (if sumD (drawA A n d z) n 0 (nI 0) ≤ p then s else s + nI 1)
theorem cl_luck {A n d z R R4 h q p} (hn : n ≤ 8) (hd : d < 100000) (hR : Rng A n) (hq : q < 1000) : ∀ j i f y s T tn td tz, i + j = q → j < f → ∃ T' tn' td' tz', fF_luckyDays_b22 f 0 0 (nI q) p y s (nI i) (mk A n d z R T tn td tz R4 h) = some ([Sum.inl (Value.int (luckL A n d p j y s))], mk A n d z R T' tn' td' tz' R4 h)
  | _, _, 0, _, _, _, _, _, _, _, hf => by omega
  | 0, i, f + 1, y, s, T, tn, td, tz, hv, _ => by
    have : i = q := by omega
    subst this
    refine ⟨T, tn, td, tz, ?_⟩
    unfold fF_luckyDays_b22 luckL
    simp (disch := omega) only [mp_le]
    rw [if_pos (Nat.le_refl _)]
  | j + 1, i, f + 1, y, s, T, tn, td, tz, hv, hf => by
    unfold fF_luckyDays_b22 luckL
    simp (disch := first | omega | assumption) only [mp_le, decide_true, decide_false, Bool.not_false, Bool.not_true, Bool.true_or, Bool.or_true, Nat.reduceAdd, xgd, xbi, xbh, xbl, xrI, xrV, xrL, xrR, x00, x10, xb0, xb1, if_true, if_false, mp_inb, mp_tn, mp_nn, mp_mul, nI_add, mr_law, mr_dd, mr_zz, mr_nn, mr_pur, mr_str, mr_ros, mr_clo, mr_wlaw, mr_wday, mr_wz, mr_wpur, mr_wstr, mr_wros, mr_wclo, mk_a0, mk_b0, mk_a1, mk_b1, mk_a2, mk_b2, mk_a3, mk_b3, mk_a4, mk_b4, mk_a5, mk_b5, mk_a6, mk_b6, mk_a7, mk_b7, mk_a8, mk_b8, mk_an, mk_bn, mk_ad, mk_bd, mk_az, mk_bz, mk_rR, mk_rR4, mk_ro, mk_rm, mk_wa0, mk_wb0, mk_wa1, mk_wb1, mk_wa2, mk_wb2, mk_wa3, mk_wb3, mk_wa4, mk_wb4, mk_wa5, mk_wb5, mk_wa6, mk_wb6, mk_wa7, mk_wb7, mk_wa8, mk_wb8, mk_wan, mk_wbn, mk_wad, mk_wbd, mk_waz, mk_wbz, mk_wR, mk_wR4, mk_wo, k0_takes, k0_fights, k0_fades, k0_settle, k0_deepen, k0_dip, k0_vat, k0_day, k0_pass, k0_sum, k0_drawn, k3_takes, k3_fights, k3_fades, k3_settle, k3_deepen, k3_dip, k3_vat, k3_day, k3_pass, k3_sum, k3_drawn, kn_its, kn_sets, kn_deep, kn_takes, kn_fights, kn_fades, kn_dip, kn_day, kn_goes, kn_sum, kn_drawn, mk_cp3]
    rw [if_neg (by omega)]
    by_cases h1 : sumD (drawA A n d y) n 0 (nI 0) ≤ p
    · rw [if_pos h1, if_pos h1]
      exact cl_luck hn hd hR hq j (i + 1) f _ _ _ _ _ _ (by omega) (by omega)
    · rw [if_neg h1, if_neg h1]
      exact cl_luck hn hd hR hq j (i + 1) f _ _ _ _ _ _ (by omega) (by omega)
theorem nl_luck {A0 n0 d0 z0 A n d z J T tn td tz R4 h q p} (hn : n ≤ 8) (hd : d < 100000) (hR : Rng A n) (hq : q < 1000) : ∀ j i f y s, i + j = q → j < f → fN_luck_b44 f 0 (nI q) p y s (nI i) (mk A0 n0 d0 z0 (rowOf A n d z J) T tn td tz (lend (rowOf A n d z J) R4) h) = some ([Sum.inl (Value.int (luckL A n d p j y s))], mk A0 n0 d0 z0 (rowOf A n d z J) T tn td tz (lend (rowOf A n d z J) R4) h)
  | _, _, 0, _, _, _, hf => by omega
  | 0, i, f + 1, y, s, hv, _ => by
    have : i = q := by omega
    subst this
    unfold fN_luck_b44 luckL
    simp (disch := omega) only [mp_le]
    rw [if_pos (Nat.le_refl _)]
  | j + 1, i, f + 1, y, s, hv, hf => by
    unfold fN_luck_b44 luckL
    simp (disch := first | omega | assumption) only [mp_le, xadd0, kn_lends, kn_lays, lend_clo, decide_true, decide_false, Bool.not_false, Bool.not_true, Bool.true_or, Bool.or_true, Nat.reduceAdd, xgd, xbi, xbh, xbl, xrI, xrV, xrL, xrR, x00, x10, xb0, xb1, if_true, if_false, mp_inb, mp_tn, mp_nn, mp_mul, nI_add, mr_law, mr_dd, mr_zz, mr_nn, mr_pur, mr_str, mr_ros, mr_clo, mr_wlaw, mr_wday, mr_wz, mr_wpur, mr_wstr, mr_wros, mr_wclo, mk_a0, mk_b0, mk_a1, mk_b1, mk_a2, mk_b2, mk_a3, mk_b3, mk_a4, mk_b4, mk_a5, mk_b5, mk_a6, mk_b6, mk_a7, mk_b7, mk_a8, mk_b8, mk_an, mk_bn, mk_ad, mk_bd, mk_az, mk_bz, mk_rR, mk_rR4, mk_ro, mk_rm, mk_wa0, mk_wb0, mk_wa1, mk_wb1, mk_wa2, mk_wb2, mk_wa3, mk_wb3, mk_wa4, mk_wb4, mk_wa5, mk_wb5, mk_wa6, mk_wb6, mk_wa7, mk_wb7, mk_wa8, mk_wb8, mk_wan, mk_wbn, mk_wad, mk_wbd, mk_waz, mk_wbz, mk_wR, mk_wR4, mk_wo, k0_takes, k0_fights, k0_fades, k0_settle, k0_deepen, k0_dip, k0_vat, k0_day, k0_pass, k0_sum, k0_drawn, k3_takes, k3_fights, k3_fades, k3_settle, k3_deepen, k3_dip, k3_vat, k3_day, k3_pass, k3_sum, k3_drawn, kn_its, kn_sets, kn_deep, kn_takes, kn_fights, kn_fades, kn_dip, kn_day, kn_goes, kn_sum, kn_drawn, mk_cp3]
    rw [if_neg (by omega)]
    by_cases h1 : sumD (drawA A n d y) n 0 (nI 0) ≤ p
    · rw [if_pos h1, if_pos h1]
      exact nl_luck hn hd hR hq j (i + 1) f _ _ (by omega) (by omega)
    · rw [if_neg h1, if_neg h1]
      exact nl_luck hn hd hR hq j (i + 1) f _ _ (by omega) (by omega)
theorem g_luck (v1 : Int32) : Good (fV_luck 0 v1) (fN_luck 0 v1) := by
  intro k h hk hI
  obtain ⟨A, n, d, z, J, T, tn, td, tz, R4, h0, rfl, hn, hd, hR, hO⟩ := hI
  rcases in_case v1 1 30 (by omega) (by omega) with ⟨_, e1, e2⟩ | ⟨c, hc1, hc, rfl, e1, e2⟩
  · exact fin (h1 := (mk A n d z (rowOf A n d z J) T tn td tz R4 h0)) (A := A) (n := n) (d := d) (z := z) (J := J) (T := T) (tn := tn) (td := td) (tz := tz) (R4 := R4) (h' := h0) (Value.int (-(nI 1))) (by simp (disch := first | omega | assumption) only [fV_luck, e1, decide_true, decide_false, Bool.not_false, Bool.not_true, Bool.true_or, Bool.or_true, Nat.reduceAdd, xgd, xbi, xbh, xbl, xrI, xrV, xrL, xrR, x00, x10, xb0, xb1, if_true, if_false, mp_inb, mp_tn, mp_nn, mp_mul, nI_add, mr_law, mr_dd, mr_zz, mr_nn, mr_pur, mr_str, mr_ros, mr_clo, mr_wlaw, mr_wday, mr_wz, mr_wpur, mr_wstr, mr_wros, mr_wclo, mk_a0, mk_b0, mk_a1, mk_b1, mk_a2, mk_b2, mk_a3, mk_b3, mk_a4, mk_b4, mk_a5, mk_b5, mk_a6, mk_b6, mk_a7, mk_b7, mk_a8, mk_b8, mk_an, mk_bn, mk_ad, mk_bd, mk_az, mk_bz, mk_rR, mk_rR4, mk_ro, mk_rm, mk_wa0, mk_wb0, mk_wa1, mk_wb1, mk_wa2, mk_wb2, mk_wa3, mk_wb3, mk_wa4, mk_wb4, mk_wa5, mk_wb5, mk_wa6, mk_wb6, mk_wa7, mk_wb7, mk_wa8, mk_wb8, mk_wan, mk_wbn, mk_wad, mk_wbd, mk_waz, mk_wbz, mk_wR, mk_wR4, mk_wo, k0_takes, k0_fights, k0_fades, k0_settle, k0_deepen, k0_dip, k0_vat, k0_day, k0_pass, k0_sum, k0_drawn, k3_takes, k3_fights, k3_fades, k3_settle, k3_deepen, k3_dip, k3_vat, k3_day, k3_pass, k3_sum, k3_drawn, kn_its, kn_sets, kn_deep, kn_takes, kn_fights, kn_fades, kn_dip, kn_day, kn_goes, kn_sum, kn_drawn, mk_cp3]) (by simp (disch := first | omega | assumption) only [fN_luck, e2, decide_true, decide_false, Bool.not_false, Bool.not_true, Bool.true_or, Bool.or_true, Nat.reduceAdd, xgd, xbi, xbh, xbl, xrI, xrV, xrL, xrR, x00, x10, xb0, xb1, if_true, if_false, mp_inb, mp_tn, mp_nn, mp_mul, nI_add, mr_law, mr_dd, mr_zz, mr_nn, mr_pur, mr_str, mr_ros, mr_clo, mr_wlaw, mr_wday, mr_wz, mr_wpur, mr_wstr, mr_wros, mr_wclo, mk_a0, mk_b0, mk_a1, mk_b1, mk_a2, mk_b2, mk_a3, mk_b3, mk_a4, mk_b4, mk_a5, mk_b5, mk_a6, mk_b6, mk_a7, mk_b7, mk_a8, mk_b8, mk_an, mk_bn, mk_ad, mk_bd, mk_az, mk_bz, mk_rR, mk_rR4, mk_ro, mk_rm, mk_wa0, mk_wb0, mk_wa1, mk_wb1, mk_wa2, mk_wb2, mk_wa3, mk_wb3, mk_wa4, mk_wb4, mk_wa5, mk_wb5, mk_wa6, mk_wb6, mk_wa7, mk_wb7, mk_wa8, mk_wb8, mk_wan, mk_wbn, mk_wad, mk_wbd, mk_waz, mk_wbz, mk_wR, mk_wR4, mk_wo, k0_takes, k0_fights, k0_fades, k0_settle, k0_deepen, k0_dip, k0_vat, k0_day, k0_pass, k0_sum, k0_drawn, k3_takes, k3_fights, k3_fades, k3_settle, k3_deepen, k3_dip, k3_vat, k3_day, k3_pass, k3_sum, k3_drawn, kn_its, kn_sets, kn_deep, kn_takes, kn_fights, kn_fades, kn_dip, kn_day, kn_goes, kn_sum, kn_drawn, mk_cp3]) hn (by omega) hR (Oth_succ hO) ⟨_, rfl⟩
  · have hd9 : d < 100000 := by omega
    have hR1 : Rng (dayA A n d) n := Rng_day hR
    obtain ⟨T', tn', td', tz', hT⟩ := cl_luck (R := rowOf A n d z J) (R4 := R4) (h := h0) (z := z) (p := sumD (dayA A n d) n 0 (nI 0)) hn hd9 hR (show c < 1000 by omega) c 0 1000 z (nI 0) (dayA A n d) n (d + 1) z (by omega) (by omega)
    exact fin (h1 := (mk A n d z (rowOf A n d z J) T' tn' td' tz' R4 h0)) (A := A) (n := n) (d := d) (z := z) (J := J) (T := T') (tn := tn') (td := td') (tz := tz') (R4 := lend (rowOf A n d z J) R4) (h' := h0) (Value.int (luckL A n d (sumD (dayA A n d) n 0 (nI 0)) c z (nI 0))) (by simp (disch := first | omega | assumption) only [fV_luck, fF_luckyDays, fF_behind, e1, passA1, hT, decide_true, decide_false, Bool.not_false, Bool.not_true, Bool.true_or, Bool.or_true, Nat.reduceAdd, xgd, xbi, xbh, xbl, xrI, xrV, xrL, xrR, x00, x10, xb0, xb1, if_true, if_false, mp_inb, mp_tn, mp_nn, mp_mul, nI_add, mr_law, mr_dd, mr_zz, mr_nn, mr_pur, mr_str, mr_ros, mr_clo, mr_wlaw, mr_wday, mr_wz, mr_wpur, mr_wstr, mr_wros, mr_wclo, mk_a0, mk_b0, mk_a1, mk_b1, mk_a2, mk_b2, mk_a3, mk_b3, mk_a4, mk_b4, mk_a5, mk_b5, mk_a6, mk_b6, mk_a7, mk_b7, mk_a8, mk_b8, mk_an, mk_bn, mk_ad, mk_bd, mk_az, mk_bz, mk_rR, mk_rR4, mk_ro, mk_rm, mk_wa0, mk_wb0, mk_wa1, mk_wb1, mk_wa2, mk_wb2, mk_wa3, mk_wb3, mk_wa4, mk_wb4, mk_wa5, mk_wb5, mk_wa6, mk_wb6, mk_wa7, mk_wb7, mk_wa8, mk_wb8, mk_wan, mk_wbn, mk_wad, mk_wbd, mk_waz, mk_wbz, mk_wR, mk_wR4, mk_wo, k0_takes, k0_fights, k0_fades, k0_settle, k0_deepen, k0_dip, k0_vat, k0_day, k0_pass, k0_sum, k0_drawn, k3_takes, k3_fights, k3_fades, k3_settle, k3_deepen, k3_dip, k3_vat, k3_day, k3_pass, k3_sum, k3_drawn, kn_its, kn_sets, kn_deep, kn_takes, kn_fights, kn_fades, kn_dip, kn_day, kn_goes, kn_sum, kn_drawn, mk_cp3]) (by have hN := nl_luck (A0 := A) (n0 := n) (d0 := d) (z0 := z) (z := z) (J := J) (T := T') (tn := tn') (td := td') (tz := tz') (R4 := R4) (h := h0) (p := sumD (dayA A n d) n 0 (nI 0)) hn hd9 hR (show c < 1000 by omega) c 0 1000 z (nI 0) (by omega) (by omega); simp (disch := first | omega | assumption) only [fN_luck, e2, hN, kn_lends, kn_lays, lend_clo, decide_true, decide_false, Bool.not_false, Bool.not_true, Bool.true_or, Bool.or_true, Nat.reduceAdd, xgd, xbi, xbh, xbl, xrI, xrV, xrL, xrR, x00, x10, xb0, xb1, if_true, if_false, mp_inb, mp_tn, mp_nn, mp_mul, nI_add, mr_law, mr_dd, mr_zz, mr_nn, mr_pur, mr_str, mr_ros, mr_clo, mr_wlaw, mr_wday, mr_wz, mr_wpur, mr_wstr, mr_wros, mr_wclo, mk_a0, mk_b0, mk_a1, mk_b1, mk_a2, mk_b2, mk_a3, mk_b3, mk_a4, mk_b4, mk_a5, mk_b5, mk_a6, mk_b6, mk_a7, mk_b7, mk_a8, mk_b8, mk_an, mk_bn, mk_ad, mk_bd, mk_az, mk_bz, mk_rR, mk_rR4, mk_ro, mk_rm, mk_wa0, mk_wb0, mk_wa1, mk_wb1, mk_wa2, mk_wb2, mk_wa3, mk_wb3, mk_wa4, mk_wb4, mk_wa5, mk_wb5, mk_wa6, mk_wb6, mk_wa7, mk_wb7, mk_wa8, mk_wb8, mk_wan, mk_wbn, mk_wad, mk_wbd, mk_waz, mk_wbz, mk_wR, mk_wR4, mk_wo, k0_takes, k0_fights, k0_fades, k0_settle, k0_deepen, k0_dip, k0_vat, k0_day, k0_pass, k0_sum, k0_drawn, k3_takes, k3_fights, k3_fades, k3_settle, k3_deepen, k3_dip, k3_vat, k3_day, k3_pass, k3_sum, k3_drawn, kn_its, kn_sets, kn_deep, kn_takes, kn_fights, kn_fades, kn_dip, kn_day, kn_goes, kn_sum, kn_drawn, mk_cp3]) hn (by omega) hR (Oth_succ hO) ⟨_, rfl⟩

def faL (n c : Nat) (p : Int32) : Nat → Nat → Nat → (Nat → Nat → Int32) → Int32
  | 0, _, _, _ => -(nI 3)
  | j + 1, i, d, A => if A 5 c = p then nI i else faL n c p j (i + 1) (d + 1) (dayA A n d)
theorem cl_fa {A n d z R R4 h c p} (hn : n ≤ 8) (hc : c < n) : ∀ j i f T td tz, i + j = 61 → j < f → td + j < 100000 → Rng T n → ∃ T' tn' td' tz', fF_daysUntilAbout_b11 f 0 (nI c) p (nI i) (mk A n d z R T n td tz R4 h) = some ([Sum.inl (Value.int (faL n c p j i td T))], mk A n d z R T' tn' td' tz' R4 h)
  | _, _, 0, _, _, _, _, hf, _, _ => by omega
  | 0, i, f + 1, T, td, tz, hv, _, _, _ => by
    have : i = 61 := by omega
    subst this
    refine ⟨T, n, td, tz, ?_⟩
    unfold fF_daysUntilAbout_b11 faL
    simp (disch := omega) only [mp_lt]
    rw [if_pos (by omega)]
  | j + 1, i, f + 1, T, td, tz, hv, hf, htd, hR => by
    unfold fF_daysUntilAbout_b11 faL
    simp (disch := first | omega | assumption) only [mp_lt, decide_true, decide_false, Bool.not_false, Bool.not_true, Bool.true_or, Bool.or_true, Nat.reduceAdd, xgd, xbi, xbh, xbl, xrI, xrV, xrL, xrR, x00, x10, xb0, xb1, if_true, if_false, mp_inb, mp_tn, mp_nn, mp_mul, nI_add, mr_law, mr_dd, mr_zz, mr_nn, mr_pur, mr_str, mr_ros, mr_clo, mr_wlaw, mr_wday, mr_wz, mr_wpur, mr_wstr, mr_wros, mr_wclo, mk_a0, mk_b0, mk_a1, mk_b1, mk_a2, mk_b2, mk_a3, mk_b3, mk_a4, mk_b4, mk_a5, mk_b5, mk_a6, mk_b6, mk_a7, mk_b7, mk_a8, mk_b8, mk_an, mk_bn, mk_ad, mk_bd, mk_az, mk_bz, mk_rR, mk_rR4, mk_ro, mk_rm, mk_wa0, mk_wb0, mk_wa1, mk_wb1, mk_wa2, mk_wb2, mk_wa3, mk_wb3, mk_wa4, mk_wb4, mk_wa5, mk_wb5, mk_wa6, mk_wb6, mk_wa7, mk_wb7, mk_wa8, mk_wb8, mk_wan, mk_wbn, mk_wad, mk_wbd, mk_waz, mk_wbz, mk_wR, mk_wR4, mk_wo, k0_takes, k0_fights, k0_fades, k0_settle, k0_deepen, k0_dip, k0_vat, k0_day, k0_pass, k0_sum, k0_drawn, k3_takes, k3_fights, k3_fades, k3_settle, k3_deepen, k3_dip, k3_vat, k3_day, k3_pass, k3_sum, k3_drawn, kn_its, kn_sets, kn_deep, kn_takes, kn_fights, kn_fades, kn_dip, kn_day, kn_goes, kn_sum, kn_drawn, mk_cp3]
    rw [if_neg (by omega)]
    by_cases h1 : T 5 c = p
    · refine ⟨T, n, td, tz, ?_⟩
      rw [if_pos h1, if_pos h1]
    · rw [if_neg h1, if_neg h1]
      exact cl_fa hn hc j (i + 1) f _ _ _ (by omega) (by omega) (by omega) (Rng_day hR)
theorem nl_fa {A0 n0 d0 z0 A n d z J T tn td tz R4 h c p Z} (hn : n ≤ 8) (hc : c < n) : ∀ j i f B D, i + j = 61 → j < f → D + j < 100000 → Rng B n → fN_firstAbout_b6 f 0 (nI c) p (nI i) (mk A0 n0 d0 z0 (rowOf B n D Z J) T tn td tz (lend (rowOf A n d z J) R4) h) = some ([Sum.inl (Value.int (faL n c p j i D B))], mk A0 n0 d0 z0 (rowOf A n d z J) T tn td tz (lend (rowOf A n d z J) R4) h)
  | _, _, 0, _, _, _, hf, _, _ => by omega
  | 0, i, f + 1, B, D, hv, _, _, _ => by
    have : i = 61 := by omega
    subst this
    unfold fN_firstAbout_b6 faL
    simp (disch := omega) only [mp_lt, kn_lends, kn_lays, lend_clo, xrV]
    rw [if_pos (by omega), if_pos (by omega)]
  | j + 1, i, f + 1, B, D, hv, hf, htd, hR => by
    unfold fN_firstAbout_b6 faL
    simp (disch := first | omega | assumption) only [mp_lt, kn_lends, kn_lays, lend_clo, decide_true, decide_false, Bool.not_false, Bool.not_true, Bool.true_or, Bool.or_true, Nat.reduceAdd, xgd, xbi, xbh, xbl, xrI, xrV, xrL, xrR, x00, x10, xb0, xb1, if_true, if_false, mp_inb, mp_tn, mp_nn, mp_mul, nI_add, mr_law, mr_dd, mr_zz, mr_nn, mr_pur, mr_str, mr_ros, mr_clo, mr_wlaw, mr_wday, mr_wz, mr_wpur, mr_wstr, mr_wros, mr_wclo, mk_a0, mk_b0, mk_a1, mk_b1, mk_a2, mk_b2, mk_a3, mk_b3, mk_a4, mk_b4, mk_a5, mk_b5, mk_a6, mk_b6, mk_a7, mk_b7, mk_a8, mk_b8, mk_an, mk_bn, mk_ad, mk_bd, mk_az, mk_bz, mk_rR, mk_rR4, mk_ro, mk_rm, mk_wa0, mk_wb0, mk_wa1, mk_wb1, mk_wa2, mk_wb2, mk_wa3, mk_wb3, mk_wa4, mk_wb4, mk_wa5, mk_wb5, mk_wa6, mk_wb6, mk_wa7, mk_wb7, mk_wa8, mk_wb8, mk_wan, mk_wbn, mk_wad, mk_wbd, mk_waz, mk_wbz, mk_wR, mk_wR4, mk_wo, k0_takes, k0_fights, k0_fades, k0_settle, k0_deepen, k0_dip, k0_vat, k0_day, k0_pass, k0_sum, k0_drawn, k3_takes, k3_fights, k3_fades, k3_settle, k3_deepen, k3_dip, k3_vat, k3_day, k3_pass, k3_sum, k3_drawn, kn_its, kn_sets, kn_deep, kn_takes, kn_fights, kn_fades, kn_dip, kn_day, kn_goes, kn_sum, kn_drawn, mk_cp3]
    rw [if_neg (by omega)]
    by_cases h1 : B 5 c = p
    · rw [if_pos (show B (4 + 1) c = p from h1), if_pos h1, if_neg (by omega)]
    · rw [if_neg (show ¬ B (4 + 1) c = p from h1), if_neg h1]
      exact nl_fa hn hc j (i + 1) f _ _ (by omega) (by omega) (by omega) (Rng_day hR)
theorem g_bare (v1 : Int32) : Good (fV_bare 0 v1) (fN_bare 0 v1) := by
  intro k h hk hI
  obtain ⟨A, n, d, z, J, T, tn, td, tz, R4, h0, rfl, hn, hd, hR, hO⟩ := hI
  rcases has_case v1 hn with ⟨_, e1, e2⟩ | ⟨c, hc, rfl, e1, e2⟩
  · exact fin (h1 := (mk A n d z (rowOf A n d z J) T tn td tz R4 h0)) (A := A) (n := n) (d := d) (z := z) (J := J) (T := T) (tn := tn) (td := td) (tz := tz) (R4 := R4) (h' := h0) (Value.int (-(nI 1))) (by simp (disch := first | omega | assumption) only [fV_bare, e1, decide_true, decide_false, Bool.not_false, Bool.not_true, Bool.true_or, Bool.or_true, Nat.reduceAdd, xgd, xbi, xbh, xbl, xrI, xrV, xrL, xrR, x00, x10, xb0, xb1, if_true, if_false, mp_inb, mp_tn, mp_nn, mp_mul, nI_add, mr_law, mr_dd, mr_zz, mr_nn, mr_pur, mr_str, mr_ros, mr_clo, mr_wlaw, mr_wday, mr_wz, mr_wpur, mr_wstr, mr_wros, mr_wclo, mk_a0, mk_b0, mk_a1, mk_b1, mk_a2, mk_b2, mk_a3, mk_b3, mk_a4, mk_b4, mk_a5, mk_b5, mk_a6, mk_b6, mk_a7, mk_b7, mk_a8, mk_b8, mk_an, mk_bn, mk_ad, mk_bd, mk_az, mk_bz, mk_rR, mk_rR4, mk_ro, mk_rm, mk_wa0, mk_wb0, mk_wa1, mk_wb1, mk_wa2, mk_wb2, mk_wa3, mk_wb3, mk_wa4, mk_wb4, mk_wa5, mk_wb5, mk_wa6, mk_wb6, mk_wa7, mk_wb7, mk_wa8, mk_wb8, mk_wan, mk_wbn, mk_wad, mk_wbd, mk_waz, mk_wbz, mk_wR, mk_wR4, mk_wo, k0_takes, k0_fights, k0_fades, k0_settle, k0_deepen, k0_dip, k0_vat, k0_day, k0_pass, k0_sum, k0_drawn, k3_takes, k3_fights, k3_fades, k3_settle, k3_deepen, k3_dip, k3_vat, k3_day, k3_pass, k3_sum, k3_drawn, kn_its, kn_sets, kn_deep, kn_takes, kn_fights, kn_fades, kn_dip, kn_day, kn_goes, kn_sum, kn_drawn, mk_cp3]) (by simp (disch := first | omega | assumption) only [fN_bare, e2, decide_true, decide_false, Bool.not_false, Bool.not_true, Bool.true_or, Bool.or_true, Nat.reduceAdd, xgd, xbi, xbh, xbl, xrI, xrV, xrL, xrR, x00, x10, xb0, xb1, if_true, if_false, mp_inb, mp_tn, mp_nn, mp_mul, nI_add, mr_law, mr_dd, mr_zz, mr_nn, mr_pur, mr_str, mr_ros, mr_clo, mr_wlaw, mr_wday, mr_wz, mr_wpur, mr_wstr, mr_wros, mr_wclo, mk_a0, mk_b0, mk_a1, mk_b1, mk_a2, mk_b2, mk_a3, mk_b3, mk_a4, mk_b4, mk_a5, mk_b5, mk_a6, mk_b6, mk_a7, mk_b7, mk_a8, mk_b8, mk_an, mk_bn, mk_ad, mk_bd, mk_az, mk_bz, mk_rR, mk_rR4, mk_ro, mk_rm, mk_wa0, mk_wb0, mk_wa1, mk_wb1, mk_wa2, mk_wb2, mk_wa3, mk_wb3, mk_wa4, mk_wb4, mk_wa5, mk_wb5, mk_wa6, mk_wb6, mk_wa7, mk_wb7, mk_wa8, mk_wb8, mk_wan, mk_wbn, mk_wad, mk_wbd, mk_waz, mk_wbz, mk_wR, mk_wR4, mk_wo, k0_takes, k0_fights, k0_fades, k0_settle, k0_deepen, k0_dip, k0_vat, k0_day, k0_pass, k0_sum, k0_drawn, k3_takes, k3_fights, k3_fades, k3_settle, k3_deepen, k3_dip, k3_vat, k3_day, k3_pass, k3_sum, k3_drawn, kn_its, kn_sets, kn_deep, kn_takes, kn_fights, kn_fades, kn_dip, kn_day, kn_goes, kn_sum, kn_drawn, mk_cp3]) hn (by omega) hR (Oth_succ hO) ⟨_, rfl⟩
  · obtain ⟨T', tn', td', tz', hT⟩ := cl_fa (A := A) (d := d) (z := z) (R := rowOf A n d z J) (R4 := R4) (h := h0) (c := c) (p := -(nI 1)) hn hc 61 0 1000 A d z (by omega) (by omega) (by omega) hR
    exact fin (h1 := (mk A n d z (rowOf A n d z J) T' tn' td' tz' R4 h0)) (A := A) (n := n) (d := d) (z := z) (J := J) (T := T') (tn := tn') (td := td') (tz := tz') (R4 := lend (rowOf A n d z J) R4) (h' := h0) (Value.int (faL n c (-(nI 1)) 61 0 d A)) (by simp (disch := first | omega | assumption) only [fV_bare, fF_daysUntilAbout, e1, hT, decide_true, decide_false, Bool.not_false, Bool.not_true, Bool.true_or, Bool.or_true, Nat.reduceAdd, xgd, xbi, xbh, xbl, xrI, xrV, xrL, xrR, x00, x10, xb0, xb1, if_true, if_false, mp_inb, mp_tn, mp_nn, mp_mul, nI_add, mr_law, mr_dd, mr_zz, mr_nn, mr_pur, mr_str, mr_ros, mr_clo, mr_wlaw, mr_wday, mr_wz, mr_wpur, mr_wstr, mr_wros, mr_wclo, mk_a0, mk_b0, mk_a1, mk_b1, mk_a2, mk_b2, mk_a3, mk_b3, mk_a4, mk_b4, mk_a5, mk_b5, mk_a6, mk_b6, mk_a7, mk_b7, mk_a8, mk_b8, mk_an, mk_bn, mk_ad, mk_bd, mk_az, mk_bz, mk_rR, mk_rR4, mk_ro, mk_rm, mk_wa0, mk_wb0, mk_wa1, mk_wb1, mk_wa2, mk_wb2, mk_wa3, mk_wb3, mk_wa4, mk_wb4, mk_wa5, mk_wb5, mk_wa6, mk_wb6, mk_wa7, mk_wb7, mk_wa8, mk_wb8, mk_wan, mk_wbn, mk_wad, mk_wbd, mk_waz, mk_wbz, mk_wR, mk_wR4, mk_wo, k0_takes, k0_fights, k0_fades, k0_settle, k0_deepen, k0_dip, k0_vat, k0_day, k0_pass, k0_sum, k0_drawn, k3_takes, k3_fights, k3_fades, k3_settle, k3_deepen, k3_dip, k3_vat, k3_day, k3_pass, k3_sum, k3_drawn, kn_its, kn_sets, kn_deep, kn_takes, kn_fights, kn_fades, kn_dip, kn_day, kn_goes, kn_sum, kn_drawn, mk_cp3]) (by have hN := nl_fa (A0 := A) (n0 := n) (d0 := d) (z0 := z) (A := A) (d := d) (z := z) (J := J) (T := T') (tn := tn') (td := td') (tz := tz') (R4 := R4) (h := h0) (c := c) (p := -(nI 1)) (Z := z) hn hc 61 0 1000 A d (by omega) (by omega) (by omega) hR; simp (disch := first | omega | assumption) only [fN_bare, fN_firstAbout, kn_lends, e2, hN, decide_true, decide_false, Bool.not_false, Bool.not_true, Bool.true_or, Bool.or_true, Nat.reduceAdd, xgd, xbi, xbh, xbl, xrI, xrV, xrL, xrR, x00, x10, xb0, xb1, if_true, if_false, mp_inb, mp_tn, mp_nn, mp_mul, nI_add, mr_law, mr_dd, mr_zz, mr_nn, mr_pur, mr_str, mr_ros, mr_clo, mr_wlaw, mr_wday, mr_wz, mr_wpur, mr_wstr, mr_wros, mr_wclo, mk_a0, mk_b0, mk_a1, mk_b1, mk_a2, mk_b2, mk_a3, mk_b3, mk_a4, mk_b4, mk_a5, mk_b5, mk_a6, mk_b6, mk_a7, mk_b7, mk_a8, mk_b8, mk_an, mk_bn, mk_ad, mk_bd, mk_az, mk_bz, mk_rR, mk_rR4, mk_ro, mk_rm, mk_wa0, mk_wb0, mk_wa1, mk_wb1, mk_wa2, mk_wb2, mk_wa3, mk_wb3, mk_wa4, mk_wb4, mk_wa5, mk_wb5, mk_wa6, mk_wb6, mk_wa7, mk_wb7, mk_wa8, mk_wb8, mk_wan, mk_wbn, mk_wad, mk_wbd, mk_waz, mk_wbz, mk_wR, mk_wR4, mk_wo, k0_takes, k0_fights, k0_fades, k0_settle, k0_deepen, k0_dip, k0_vat, k0_day, k0_pass, k0_sum, k0_drawn, k3_takes, k3_fights, k3_fades, k3_settle, k3_deepen, k3_dip, k3_vat, k3_day, k3_pass, k3_sum, k3_drawn, kn_its, kn_sets, kn_deep, kn_takes, kn_fights, kn_fades, kn_dip, kn_day, kn_goes, kn_sum, kn_drawn, mk_cp3]) hn (by omega) hR (Oth_succ hO) ⟨_, rfl⟩

theorem g_comes (v1 v2 : Int32) : Good (fV_comes 0 v1 v2) (fN_comes 0 v1 v2) := by
  intro k h hk hI
  obtain ⟨A, n, d, z, J, T, tn, td, tz, R4, h0, rfl, hn, hd, hR, hO⟩ := hI
  rcases has_case v1 hn with ⟨_, e1, e2⟩ | ⟨c, hc, rfl, e1, e2⟩
  · exact fin (h1 := (mk A n d z (rowOf A n d z J) T tn td tz R4 h0)) (A := A) (n := n) (d := d) (z := z) (J := J) (T := T) (tn := tn) (td := td) (tz := tz) (R4 := R4) (h' := h0) (Value.int (-(nI 1))) (by simp (disch := first | omega | assumption) only [fV_comes, e1, decide_true, decide_false, Bool.not_false, Bool.not_true, Bool.true_or, Bool.or_true, Nat.reduceAdd, xgd, xbi, xbh, xbl, xrI, xrV, xrL, xrR, x00, x10, xb0, xb1, if_true, if_false, mp_inb, mp_tn, mp_nn, mp_mul, nI_add, mr_law, mr_dd, mr_zz, mr_nn, mr_pur, mr_str, mr_ros, mr_clo, mr_wlaw, mr_wday, mr_wz, mr_wpur, mr_wstr, mr_wros, mr_wclo, mk_a0, mk_b0, mk_a1, mk_b1, mk_a2, mk_b2, mk_a3, mk_b3, mk_a4, mk_b4, mk_a5, mk_b5, mk_a6, mk_b6, mk_a7, mk_b7, mk_a8, mk_b8, mk_an, mk_bn, mk_ad, mk_bd, mk_az, mk_bz, mk_rR, mk_rR4, mk_ro, mk_rm, mk_wa0, mk_wb0, mk_wa1, mk_wb1, mk_wa2, mk_wb2, mk_wa3, mk_wb3, mk_wa4, mk_wb4, mk_wa5, mk_wb5, mk_wa6, mk_wb6, mk_wa7, mk_wb7, mk_wa8, mk_wb8, mk_wan, mk_wbn, mk_wad, mk_wbd, mk_waz, mk_wbz, mk_wR, mk_wR4, mk_wo, k0_takes, k0_fights, k0_fades, k0_settle, k0_deepen, k0_dip, k0_vat, k0_day, k0_pass, k0_sum, k0_drawn, k3_takes, k3_fights, k3_fades, k3_settle, k3_deepen, k3_dip, k3_vat, k3_day, k3_pass, k3_sum, k3_drawn, kn_its, kn_sets, kn_deep, kn_takes, kn_fights, kn_fades, kn_dip, kn_day, kn_goes, kn_sum, kn_drawn, mk_cp3]) (by simp (disch := first | omega | assumption) only [fN_comes, e2, decide_true, decide_false, Bool.not_false, Bool.not_true, Bool.true_or, Bool.or_true, Nat.reduceAdd, xgd, xbi, xbh, xbl, xrI, xrV, xrL, xrR, x00, x10, xb0, xb1, if_true, if_false, mp_inb, mp_tn, mp_nn, mp_mul, nI_add, mr_law, mr_dd, mr_zz, mr_nn, mr_pur, mr_str, mr_ros, mr_clo, mr_wlaw, mr_wday, mr_wz, mr_wpur, mr_wstr, mr_wros, mr_wclo, mk_a0, mk_b0, mk_a1, mk_b1, mk_a2, mk_b2, mk_a3, mk_b3, mk_a4, mk_b4, mk_a5, mk_b5, mk_a6, mk_b6, mk_a7, mk_b7, mk_a8, mk_b8, mk_an, mk_bn, mk_ad, mk_bd, mk_az, mk_bz, mk_rR, mk_rR4, mk_ro, mk_rm, mk_wa0, mk_wb0, mk_wa1, mk_wb1, mk_wa2, mk_wb2, mk_wa3, mk_wb3, mk_wa4, mk_wb4, mk_wa5, mk_wb5, mk_wa6, mk_wb6, mk_wa7, mk_wb7, mk_wa8, mk_wb8, mk_wan, mk_wbn, mk_wad, mk_wbd, mk_waz, mk_wbz, mk_wR, mk_wR4, mk_wo, k0_takes, k0_fights, k0_fades, k0_settle, k0_deepen, k0_dip, k0_vat, k0_day, k0_pass, k0_sum, k0_drawn, k3_takes, k3_fights, k3_fades, k3_settle, k3_deepen, k3_dip, k3_vat, k3_day, k3_pass, k3_sum, k3_drawn, kn_its, kn_sets, kn_deep, kn_takes, kn_fights, kn_fades, kn_dip, kn_day, kn_goes, kn_sum, kn_drawn, mk_cp3]) hn (by omega) hR (Oth_succ hO) ⟨_, rfl⟩
  · rcases purpose_case v2 with ⟨_, f1, f2⟩ | ⟨m, hm, rfl, f1, f2⟩
    · exact fin (h1 := (mk A n d z (rowOf A n d z J) T tn td tz R4 h0)) (A := A) (n := n) (d := d) (z := z) (J := J) (T := T) (tn := tn) (td := td) (tz := tz) (R4 := R4) (h' := h0) (Value.int (-(nI 1))) (by simp (disch := first | omega | assumption) only [fV_comes, e1, f1, decide_true, decide_false, Bool.not_false, Bool.not_true, Bool.true_or, Bool.or_true, Nat.reduceAdd, xgd, xbi, xbh, xbl, xrI, xrV, xrL, xrR, x00, x10, xb0, xb1, if_true, if_false, mp_inb, mp_tn, mp_nn, mp_mul, nI_add, mr_law, mr_dd, mr_zz, mr_nn, mr_pur, mr_str, mr_ros, mr_clo, mr_wlaw, mr_wday, mr_wz, mr_wpur, mr_wstr, mr_wros, mr_wclo, mk_a0, mk_b0, mk_a1, mk_b1, mk_a2, mk_b2, mk_a3, mk_b3, mk_a4, mk_b4, mk_a5, mk_b5, mk_a6, mk_b6, mk_a7, mk_b7, mk_a8, mk_b8, mk_an, mk_bn, mk_ad, mk_bd, mk_az, mk_bz, mk_rR, mk_rR4, mk_ro, mk_rm, mk_wa0, mk_wb0, mk_wa1, mk_wb1, mk_wa2, mk_wb2, mk_wa3, mk_wb3, mk_wa4, mk_wb4, mk_wa5, mk_wb5, mk_wa6, mk_wb6, mk_wa7, mk_wb7, mk_wa8, mk_wb8, mk_wan, mk_wbn, mk_wad, mk_wbd, mk_waz, mk_wbz, mk_wR, mk_wR4, mk_wo, k0_takes, k0_fights, k0_fades, k0_settle, k0_deepen, k0_dip, k0_vat, k0_day, k0_pass, k0_sum, k0_drawn, k3_takes, k3_fights, k3_fades, k3_settle, k3_deepen, k3_dip, k3_vat, k3_day, k3_pass, k3_sum, k3_drawn, kn_its, kn_sets, kn_deep, kn_takes, kn_fights, kn_fades, kn_dip, kn_day, kn_goes, kn_sum, kn_drawn, mk_cp3]) (by simp (disch := first | omega | assumption) only [fN_comes, e2, f2, decide_true, decide_false, Bool.not_false, Bool.not_true, Bool.true_or, Bool.or_true, Nat.reduceAdd, xgd, xbi, xbh, xbl, xrI, xrV, xrL, xrR, x00, x10, xb0, xb1, if_true, if_false, mp_inb, mp_tn, mp_nn, mp_mul, nI_add, mr_law, mr_dd, mr_zz, mr_nn, mr_pur, mr_str, mr_ros, mr_clo, mr_wlaw, mr_wday, mr_wz, mr_wpur, mr_wstr, mr_wros, mr_wclo, mk_a0, mk_b0, mk_a1, mk_b1, mk_a2, mk_b2, mk_a3, mk_b3, mk_a4, mk_b4, mk_a5, mk_b5, mk_a6, mk_b6, mk_a7, mk_b7, mk_a8, mk_b8, mk_an, mk_bn, mk_ad, mk_bd, mk_az, mk_bz, mk_rR, mk_rR4, mk_ro, mk_rm, mk_wa0, mk_wb0, mk_wa1, mk_wb1, mk_wa2, mk_wb2, mk_wa3, mk_wb3, mk_wa4, mk_wb4, mk_wa5, mk_wb5, mk_wa6, mk_wb6, mk_wa7, mk_wb7, mk_wa8, mk_wb8, mk_wan, mk_wbn, mk_wad, mk_wbd, mk_waz, mk_wbz, mk_wR, mk_wR4, mk_wo, k0_takes, k0_fights, k0_fades, k0_settle, k0_deepen, k0_dip, k0_vat, k0_day, k0_pass, k0_sum, k0_drawn, k3_takes, k3_fights, k3_fades, k3_settle, k3_deepen, k3_dip, k3_vat, k3_day, k3_pass, k3_sum, k3_drawn, kn_its, kn_sets, kn_deep, kn_takes, kn_fights, kn_fades, kn_dip, kn_day, kn_goes, kn_sum, kn_drawn, mk_cp3]) hn (by omega) hR (Oth_succ hO) ⟨_, rfl⟩
    · obtain ⟨T', tn', td', tz', hT⟩ := cl_fa (A := A) (d := d) (z := z) (R := rowOf A n d z J) (R4 := R4) (h := h0) (c := c) (p := nI m) hn hc 61 0 1000 A d z (by omega) (by omega) (by omega) hR
      exact fin (h1 := (mk A n d z (rowOf A n d z J) T' tn' td' tz' R4 h0)) (A := A) (n := n) (d := d) (z := z) (J := J) (T := T') (tn := tn') (td := td') (tz := tz') (R4 := lend (rowOf A n d z J) R4) (h' := h0) (Value.int (faL n c (nI m) 61 0 d A)) (by simp (disch := first | omega | assumption) only [fV_comes, fF_daysUntilAbout, e1, f1, hT, decide_true, decide_false, Bool.not_false, Bool.not_true, Bool.true_or, Bool.or_true, Nat.reduceAdd, xgd, xbi, xbh, xbl, xrI, xrV, xrL, xrR, x00, x10, xb0, xb1, if_true, if_false, mp_inb, mp_tn, mp_nn, mp_mul, nI_add, mr_law, mr_dd, mr_zz, mr_nn, mr_pur, mr_str, mr_ros, mr_clo, mr_wlaw, mr_wday, mr_wz, mr_wpur, mr_wstr, mr_wros, mr_wclo, mk_a0, mk_b0, mk_a1, mk_b1, mk_a2, mk_b2, mk_a3, mk_b3, mk_a4, mk_b4, mk_a5, mk_b5, mk_a6, mk_b6, mk_a7, mk_b7, mk_a8, mk_b8, mk_an, mk_bn, mk_ad, mk_bd, mk_az, mk_bz, mk_rR, mk_rR4, mk_ro, mk_rm, mk_wa0, mk_wb0, mk_wa1, mk_wb1, mk_wa2, mk_wb2, mk_wa3, mk_wb3, mk_wa4, mk_wb4, mk_wa5, mk_wb5, mk_wa6, mk_wb6, mk_wa7, mk_wb7, mk_wa8, mk_wb8, mk_wan, mk_wbn, mk_wad, mk_wbd, mk_waz, mk_wbz, mk_wR, mk_wR4, mk_wo, k0_takes, k0_fights, k0_fades, k0_settle, k0_deepen, k0_dip, k0_vat, k0_day, k0_pass, k0_sum, k0_drawn, k3_takes, k3_fights, k3_fades, k3_settle, k3_deepen, k3_dip, k3_vat, k3_day, k3_pass, k3_sum, k3_drawn, kn_its, kn_sets, kn_deep, kn_takes, kn_fights, kn_fades, kn_dip, kn_day, kn_goes, kn_sum, kn_drawn, mk_cp3]) (by have hN := nl_fa (A0 := A) (n0 := n) (d0 := d) (z0 := z) (A := A) (d := d) (z := z) (J := J) (T := T') (tn := tn') (td := td') (tz := tz') (R4 := R4) (h := h0) (c := c) (p := nI m) (Z := z) hn hc 61 0 1000 A d (by omega) (by omega) (by omega) hR; simp (disch := first | omega | assumption) only [fN_comes, fN_firstAbout, kn_lends, e2, f2, hN, decide_true, decide_false, Bool.not_false, Bool.not_true, Bool.true_or, Bool.or_true, Nat.reduceAdd, xgd, xbi, xbh, xbl, xrI, xrV, xrL, xrR, x00, x10, xb0, xb1, if_true, if_false, mp_inb, mp_tn, mp_nn, mp_mul, nI_add, mr_law, mr_dd, mr_zz, mr_nn, mr_pur, mr_str, mr_ros, mr_clo, mr_wlaw, mr_wday, mr_wz, mr_wpur, mr_wstr, mr_wros, mr_wclo, mk_a0, mk_b0, mk_a1, mk_b1, mk_a2, mk_b2, mk_a3, mk_b3, mk_a4, mk_b4, mk_a5, mk_b5, mk_a6, mk_b6, mk_a7, mk_b7, mk_a8, mk_b8, mk_an, mk_bn, mk_ad, mk_bd, mk_az, mk_bz, mk_rR, mk_rR4, mk_ro, mk_rm, mk_wa0, mk_wb0, mk_wa1, mk_wb1, mk_wa2, mk_wb2, mk_wa3, mk_wb3, mk_wa4, mk_wb4, mk_wa5, mk_wb5, mk_wa6, mk_wb6, mk_wa7, mk_wb7, mk_wa8, mk_wb8, mk_wan, mk_wbn, mk_wad, mk_wbd, mk_waz, mk_wbz, mk_wR, mk_wR4, mk_wo, k0_takes, k0_fights, k0_fades, k0_settle, k0_deepen, k0_dip, k0_vat, k0_day, k0_pass, k0_sum, k0_drawn, k3_takes, k3_fights, k3_fades, k3_settle, k3_deepen, k3_dip, k3_vat, k3_day, k3_pass, k3_sum, k3_drawn, kn_its, kn_sets, kn_deep, kn_takes, kn_fights, kn_fades, kn_dip, kn_day, kn_goes, kn_sum, kn_drawn, mk_cp3]) hn (by omega) hR (Oth_succ hO) ⟨_, rfl⟩

def spL (A B : Nat → Nat → Int32) : Nat → Nat → Nat → Nat
  | 0, _, s => s
  | k + 1, c, s => spL A B k (c + 1) (if B 5 c = A 5 c then s else s + 1)
theorem cl_sp {A n d z R R4 h T td tz} (hn : n ≤ 8) : ∀ j c f s, c + j = n → j < f → fF_spoiltFromHere_b13 f 0 0 (nI s) (nI c) (mk A n d z R T n td tz R4 h) = some ([Sum.inl (Value.int (nI (spL A T j c s)))], mk A n d z R T n td tz R4 h)
  | _, _, 0, _, _, hf => by omega
  | 0, c, f + 1, s, hv, _ => by
    have : c = n := by omega
    subst this
    unfold fF_spoiltFromHere_b13 spL
    simp (disch := omega) only [mp_le, mk_an]
    rw [if_pos (Nat.le_refl _)]
  | j + 1, c, f + 1, s, hv, hf => by
    unfold fF_spoiltFromHere_b13 spL
    simp (disch := first | omega | assumption) only [mp_le, decide_true, decide_false, Bool.not_false, Bool.not_true, Bool.true_or, Bool.or_true, Nat.reduceAdd, xgd, xbi, xbh, xbl, xrI, xrV, xrL, xrR, x00, x10, xb0, xb1, if_true, if_false, mp_inb, mp_tn, mp_nn, mp_mul, nI_add, mr_law, mr_dd, mr_zz, mr_nn, mr_pur, mr_str, mr_ros, mr_clo, mr_wlaw, mr_wday, mr_wz, mr_wpur, mr_wstr, mr_wros, mr_wclo, mk_a0, mk_b0, mk_a1, mk_b1, mk_a2, mk_b2, mk_a3, mk_b3, mk_a4, mk_b4, mk_a5, mk_b5, mk_a6, mk_b6, mk_a7, mk_b7, mk_a8, mk_b8, mk_an, mk_bn, mk_ad, mk_bd, mk_az, mk_bz, mk_rR, mk_rR4, mk_ro, mk_rm, mk_wa0, mk_wb0, mk_wa1, mk_wb1, mk_wa2, mk_wb2, mk_wa3, mk_wb3, mk_wa4, mk_wb4, mk_wa5, mk_wb5, mk_wa6, mk_wb6, mk_wa7, mk_wb7, mk_wa8, mk_wb8, mk_wan, mk_wbn, mk_wad, mk_wbd, mk_waz, mk_wbz, mk_wR, mk_wR4, mk_wo, k0_takes, k0_fights, k0_fades, k0_settle, k0_deepen, k0_dip, k0_vat, k0_day, k0_pass, k0_sum, k0_drawn, k3_takes, k3_fights, k3_fades, k3_settle, k3_deepen, k3_dip, k3_vat, k3_day, k3_pass, k3_sum, k3_drawn, kn_its, kn_sets, kn_deep, kn_takes, kn_fights, kn_fades, kn_dip, kn_day, kn_goes, kn_sum, kn_drawn, mk_cp3]
    rw [if_neg (by omega)]
    by_cases h1 : T 5 c = A 5 c
    · rw [if_pos h1, if_pos h1]
      exact cl_sp hn j (c + 1) f s (by omega) (by omega)
    · rw [if_neg h1, if_neg h1]
      exact cl_sp hn j (c + 1) f _ (by omega) (by omega)
theorem k_sp {A n d z R R4 h T td tz q} (hn : n ≤ 8) (hq : q < 1000) (htd : td + q < 100000) (hR : Rng T n) : fF_spoiltFromHere 0 0 (nI q) (mk A n d z R T n td tz R4 h) = some ([Sum.inl (Value.int (nI (spL A (passA n q td T) n 0 0)))], mk A n d z R (passA n q td T) n (td + q) tz R4 h) := by
  unfold fF_spoiltFromHere
  rw [k3_pass hn hq htd hR, xrV, xbi, xbi]
  exact cl_sp hn n 0 1000 0 (by omega) (by omega)
theorem nl_sp {A0 n0 d0 z0 A n d z J T tn td tz R4 h B D Z} (hn : n ≤ 8) : ∀ j c f s, c + j = n → j < f → fN_spoiltIn_b9 f 0 (nI s) (nI c) (mk A0 n0 d0 z0 (rowOf B n D Z J) T tn td tz (lend (rowOf A n d z J) R4) h) = some ([Sum.inl (Value.int (nI (spL A B j c s)))], mk A0 n0 d0 z0 (rowOf A n d z J) T tn td tz (lend (rowOf A n d z J) R4) h)
  | _, _, 0, _, _, hf => by omega
  | 0, c, f + 1, s, hv, _ => by
    have : c = n := by omega
    subst this
    unfold fN_spoiltIn_b9 spL
    simp (disch := first | omega | assumption) only [mp_le, kn_lends, kn_lays, lend_clo, decide_true, decide_false, Bool.not_false, Bool.not_true, Bool.true_or, Bool.or_true, Nat.reduceAdd, xgd, xbi, xbh, xbl, xrI, xrV, xrL, xrR, x00, x10, xb0, xb1, if_true, if_false, mp_inb, mp_tn, mp_nn, mp_mul, nI_add, mr_law, mr_dd, mr_zz, mr_nn, mr_pur, mr_str, mr_ros, mr_clo, mr_wlaw, mr_wday, mr_wz, mr_wpur, mr_wstr, mr_wros, mr_wclo, mk_a0, mk_b0, mk_a1, mk_b1, mk_a2, mk_b2, mk_a3, mk_b3, mk_a4, mk_b4, mk_a5, mk_b5, mk_a6, mk_b6, mk_a7, mk_b7, mk_a8, mk_b8, mk_an, mk_bn, mk_ad, mk_bd, mk_az, mk_bz, mk_rR, mk_rR4, mk_ro, mk_rm, mk_wa0, mk_wb0, mk_wa1, mk_wb1, mk_wa2, mk_wb2, mk_wa3, mk_wb3, mk_wa4, mk_wb4, mk_wa5, mk_wb5, mk_wa6, mk_wb6, mk_wa7, mk_wb7, mk_wa8, mk_wb8, mk_wan, mk_wbn, mk_wad, mk_wbd, mk_waz, mk_wbz, mk_wR, mk_wR4, mk_wo, k0_takes, k0_fights, k0_fades, k0_settle, k0_deepen, k0_dip, k0_vat, k0_day, k0_pass, k0_sum, k0_drawn, k3_takes, k3_fights, k3_fades, k3_settle, k3_deepen, k3_dip, k3_vat, k3_day, k3_pass, k3_sum, k3_drawn, kn_its, kn_sets, kn_deep, kn_takes, kn_fights, kn_fades, kn_dip, kn_day, kn_goes, kn_sum, kn_drawn, mk_cp3]
    rw [if_pos (Nat.le_refl _)]
  | j + 1, c, f + 1, s, hv, hf => by
    unfold fN_spoiltIn_b9 spL
    simp (disch := first | omega | assumption) only [mp_le, kn_lends, kn_lays, lend_clo, decide_true, decide_false, Bool.not_false, Bool.not_true, Bool.true_or, Bool.or_true, Nat.reduceAdd, xgd, xbi, xbh, xbl, xrI, xrV, xrL, xrR, x00, x10, xb0, xb1, if_true, if_false, mp_inb, mp_tn, mp_nn, mp_mul, nI_add, mr_law, mr_dd, mr_zz, mr_nn, mr_pur, mr_str, mr_ros, mr_clo, mr_wlaw, mr_wday, mr_wz, mr_wpur, mr_wstr, mr_wros, mr_wclo, mk_a0, mk_b0, mk_a1, mk_b1, mk_a2, mk_b2, mk_a3, mk_b3, mk_a4, mk_b4, mk_a5, mk_b5, mk_a6, mk_b6, mk_a7, mk_b7, mk_a8, mk_b8, mk_an, mk_bn, mk_ad, mk_bd, mk_az, mk_bz, mk_rR, mk_rR4, mk_ro, mk_rm, mk_wa0, mk_wb0, mk_wa1, mk_wb1, mk_wa2, mk_wb2, mk_wa3, mk_wb3, mk_wa4, mk_wb4, mk_wa5, mk_wb5, mk_wa6, mk_wb6, mk_wa7, mk_wb7, mk_wa8, mk_wb8, mk_wan, mk_wbn, mk_wad, mk_wbd, mk_waz, mk_wbz, mk_wR, mk_wR4, mk_wo, k0_takes, k0_fights, k0_fades, k0_settle, k0_deepen, k0_dip, k0_vat, k0_day, k0_pass, k0_sum, k0_drawn, k3_takes, k3_fights, k3_fades, k3_settle, k3_deepen, k3_dip, k3_vat, k3_day, k3_pass, k3_sum, k3_drawn, kn_its, kn_sets, kn_deep, kn_takes, kn_fights, kn_fades, kn_dip, kn_day, kn_goes, kn_sum, kn_drawn, mk_cp3]
    rw [if_neg (by omega)]
    by_cases h1 : B 5 c = A 5 c
    · rw [if_pos (show B (4 + 1) c = A (4 + 1) c from h1), if_pos h1]
      exact nl_sp hn j (c + 1) f s (by omega) (by omega)
    · rw [if_neg (show ¬ B (4 + 1) c = A (4 + 1) c from h1), if_neg h1]
      exact nl_sp hn j (c + 1) f _ (by omega) (by omega)
theorem kn_sp {A0 n0 d0 z0 A n d z J T tn td tz R4 h B D Z q} (hn : n ≤ 8) (hq : q < 1000) (hD : D + q < 100000) (hR : Rng B n) : fN_spoiltIn 0 (nI q) (mk A0 n0 d0 z0 (rowOf B n D Z J) T tn td tz (lend (rowOf A n d z J) R4) h) = some ([Sum.inl (Value.int (nI (spL A (passA n q D B) n 0 0)))], mk A0 n0 d0 z0 (rowOf A n d z J) T tn td tz (lend (rowOf A n d z J) R4) h) := by
  unfold fN_spoiltIn
  rw [kn_goes hn hq hD hR, xrV, xbi, xbi]
  exact nl_sp hn n 0 1000 0 (by omega) (by omega)
theorem g_spoilt (v1 : Int32) : Good (fV_spoilt 0 v1) (fN_spoilt 0 v1) := by
  intro k h hk hI
  obtain ⟨A, n, d, z, J, T, tn, td, tz, R4, h0, rfl, hn, hd, hR, hO⟩ := hI
  rcases days_case v1 with ⟨_, e1, e2⟩ | ⟨m, hm, rfl, e1, e2⟩
  · exact fin (h1 := (mk A n d z (rowOf A n d z J) T tn td tz R4 h0)) (A := A) (n := n) (d := d) (z := z) (J := J) (T := T) (tn := tn) (td := td) (tz := tz) (R4 := R4) (h' := h0) (Value.int (-(nI 1))) (by simp (disch := first | omega | assumption) only [fV_spoilt, e1, decide_true, decide_false, Bool.not_false, Bool.not_true, Bool.true_or, Bool.or_true, Nat.reduceAdd, xgd, xbi, xbh, xbl, xrI, xrV, xrL, xrR, x00, x10, xb0, xb1, if_true, if_false, mp_inb, mp_tn, mp_nn, mp_mul, nI_add, mr_law, mr_dd, mr_zz, mr_nn, mr_pur, mr_str, mr_ros, mr_clo, mr_wlaw, mr_wday, mr_wz, mr_wpur, mr_wstr, mr_wros, mr_wclo, mk_a0, mk_b0, mk_a1, mk_b1, mk_a2, mk_b2, mk_a3, mk_b3, mk_a4, mk_b4, mk_a5, mk_b5, mk_a6, mk_b6, mk_a7, mk_b7, mk_a8, mk_b8, mk_an, mk_bn, mk_ad, mk_bd, mk_az, mk_bz, mk_rR, mk_rR4, mk_ro, mk_rm, mk_wa0, mk_wb0, mk_wa1, mk_wb1, mk_wa2, mk_wb2, mk_wa3, mk_wb3, mk_wa4, mk_wb4, mk_wa5, mk_wb5, mk_wa6, mk_wb6, mk_wa7, mk_wb7, mk_wa8, mk_wb8, mk_wan, mk_wbn, mk_wad, mk_wbd, mk_waz, mk_wbz, mk_wR, mk_wR4, mk_wo, k0_takes, k0_fights, k0_fades, k0_settle, k0_deepen, k0_dip, k0_vat, k0_day, k0_pass, k0_sum, k0_drawn, k3_takes, k3_fights, k3_fades, k3_settle, k3_deepen, k3_dip, k3_vat, k3_day, k3_pass, k3_sum, k3_drawn, kn_its, kn_sets, kn_deep, kn_takes, kn_fights, kn_fades, kn_dip, kn_day, kn_goes, kn_sum, kn_drawn, mk_cp3]) (by simp (disch := first | omega | assumption) only [fN_spoilt, e2, decide_true, decide_false, Bool.not_false, Bool.not_true, Bool.true_or, Bool.or_true, Nat.reduceAdd, xgd, xbi, xbh, xbl, xrI, xrV, xrL, xrR, x00, x10, xb0, xb1, if_true, if_false, mp_inb, mp_tn, mp_nn, mp_mul, nI_add, mr_law, mr_dd, mr_zz, mr_nn, mr_pur, mr_str, mr_ros, mr_clo, mr_wlaw, mr_wday, mr_wz, mr_wpur, mr_wstr, mr_wros, mr_wclo, mk_a0, mk_b0, mk_a1, mk_b1, mk_a2, mk_b2, mk_a3, mk_b3, mk_a4, mk_b4, mk_a5, mk_b5, mk_a6, mk_b6, mk_a7, mk_b7, mk_a8, mk_b8, mk_an, mk_bn, mk_ad, mk_bd, mk_az, mk_bz, mk_rR, mk_rR4, mk_ro, mk_rm, mk_wa0, mk_wb0, mk_wa1, mk_wb1, mk_wa2, mk_wb2, mk_wa3, mk_wb3, mk_wa4, mk_wb4, mk_wa5, mk_wb5, mk_wa6, mk_wb6, mk_wa7, mk_wb7, mk_wa8, mk_wb8, mk_wan, mk_wbn, mk_wad, mk_wbd, mk_waz, mk_wbz, mk_wR, mk_wR4, mk_wo, k0_takes, k0_fights, k0_fades, k0_settle, k0_deepen, k0_dip, k0_vat, k0_day, k0_pass, k0_sum, k0_drawn, k3_takes, k3_fights, k3_fades, k3_settle, k3_deepen, k3_dip, k3_vat, k3_day, k3_pass, k3_sum, k3_drawn, kn_its, kn_sets, kn_deep, kn_takes, kn_fights, kn_fades, kn_dip, kn_day, kn_goes, kn_sum, kn_drawn, mk_cp3]) hn (by omega) hR (Oth_succ hO) ⟨_, rfl⟩
  · exact fin (h1 := (mk A n d z (rowOf A n d z J) (passA n m d A) n (d + m) z R4 h0)) (A := A) (n := n) (d := d) (z := z) (J := J) (T := passA n m d A) (tn := n) (td := d + m) (tz := z) (R4 := lend (rowOf A n d z J) R4) (h' := h0) (Value.int (nI (spL A (passA n m d A) n 0 0))) (by simp (disch := first | omega | assumption) only [fV_spoilt, fF_spoiltBehind, e1, k_sp, decide_true, decide_false, Bool.not_false, Bool.not_true, Bool.true_or, Bool.or_true, Nat.reduceAdd, xgd, xbi, xbh, xbl, xrI, xrV, xrL, xrR, x00, x10, xb0, xb1, if_true, if_false, mp_inb, mp_tn, mp_nn, mp_mul, nI_add, mr_law, mr_dd, mr_zz, mr_nn, mr_pur, mr_str, mr_ros, mr_clo, mr_wlaw, mr_wday, mr_wz, mr_wpur, mr_wstr, mr_wros, mr_wclo, mk_a0, mk_b0, mk_a1, mk_b1, mk_a2, mk_b2, mk_a3, mk_b3, mk_a4, mk_b4, mk_a5, mk_b5, mk_a6, mk_b6, mk_a7, mk_b7, mk_a8, mk_b8, mk_an, mk_bn, mk_ad, mk_bd, mk_az, mk_bz, mk_rR, mk_rR4, mk_ro, mk_rm, mk_wa0, mk_wb0, mk_wa1, mk_wb1, mk_wa2, mk_wb2, mk_wa3, mk_wb3, mk_wa4, mk_wb4, mk_wa5, mk_wb5, mk_wa6, mk_wb6, mk_wa7, mk_wb7, mk_wa8, mk_wb8, mk_wan, mk_wbn, mk_wad, mk_wbd, mk_waz, mk_wbz, mk_wR, mk_wR4, mk_wo, k0_takes, k0_fights, k0_fades, k0_settle, k0_deepen, k0_dip, k0_vat, k0_day, k0_pass, k0_sum, k0_drawn, k3_takes, k3_fights, k3_fades, k3_settle, k3_deepen, k3_dip, k3_vat, k3_day, k3_pass, k3_sum, k3_drawn, kn_its, kn_sets, kn_deep, kn_takes, kn_fights, kn_fades, kn_dip, kn_day, kn_goes, kn_sum, kn_drawn, mk_cp3]) (by simp (disch := first | omega | assumption) only [fN_spoilt, e2, kn_lends, kn_sp, decide_true, decide_false, Bool.not_false, Bool.not_true, Bool.true_or, Bool.or_true, Nat.reduceAdd, xgd, xbi, xbh, xbl, xrI, xrV, xrL, xrR, x00, x10, xb0, xb1, if_true, if_false, mp_inb, mp_tn, mp_nn, mp_mul, nI_add, mr_law, mr_dd, mr_zz, mr_nn, mr_pur, mr_str, mr_ros, mr_clo, mr_wlaw, mr_wday, mr_wz, mr_wpur, mr_wstr, mr_wros, mr_wclo, mk_a0, mk_b0, mk_a1, mk_b1, mk_a2, mk_b2, mk_a3, mk_b3, mk_a4, mk_b4, mk_a5, mk_b5, mk_a6, mk_b6, mk_a7, mk_b7, mk_a8, mk_b8, mk_an, mk_bn, mk_ad, mk_bd, mk_az, mk_bz, mk_rR, mk_rR4, mk_ro, mk_rm, mk_wa0, mk_wb0, mk_wa1, mk_wb1, mk_wa2, mk_wb2, mk_wa3, mk_wb3, mk_wa4, mk_wb4, mk_wa5, mk_wb5, mk_wa6, mk_wb6, mk_wa7, mk_wb7, mk_wa8, mk_wb8, mk_wan, mk_wbn, mk_wad, mk_wbd, mk_waz, mk_wbz, mk_wR, mk_wR4, mk_wo, k0_takes, k0_fights, k0_fades, k0_settle, k0_deepen, k0_dip, k0_vat, k0_day, k0_pass, k0_sum, k0_drawn, k3_takes, k3_fights, k3_fades, k3_settle, k3_deepen, k3_dip, k3_vat, k3_day, k3_pass, k3_sum, k3_drawn, kn_its, kn_sets, kn_deep, kn_takes, kn_fights, kn_fades, kn_dip, kn_day, kn_goes, kn_sum, kn_drawn, mk_cp3]) hn (by omega) hR (Oth_succ hO) ⟨_, rfl⟩
