-- p17: keep, again, feed
theorem pm_ne {h : H2} {o A n d z t o' k} (ht : (t < 300 ∧ t ≠ 2) ∨ 308 < t) : (putM o A n d z h).1 t o' k = h.1 t o' k := mp_rt ht
theorem pm_no {h : H2} {o A n d z t o' k} (ho : o' ≠ o) : (putM o A n d z h).1 t o' k = h.1 t o' k := mp_ro ho
theorem mk_pM {A n d z R T tn td tz R4 h o B N D Z} (h0 : o ≠ 0) (h3 : o ≠ 3) : putM o B N D Z (mk A n d z R T tn td tz R4 h) = mk A n d z R T tn td tz R4 (putM o B N D Z h) := by
  unfold mk
  rw [putM_comm h3, putM_comm h0, putM_putR (show (902 < 300 ∧ 902 ≠ 2) ∨ 308 < 902 by omega), putM_putR (show (904 < 300 ∧ 904 ≠ 2) ∨ 308 < 904 by omega)]
theorem mk_pR {A n d z R T tn td tz R4 h t F} (ht : (t < 300 ∧ t ≠ 2) ∨ 308 < t) (h2 : t ≠ 902) (h4 : t ≠ 904) : putR t F (mk A n d z R T tn td tz R4 h) = mk A n d z R T tn td tz R4 (putR t F h) := by
  unfold mk
  rw [← putM_putR ht, ← putM_putR ht, putR_comm h2, putR_comm h4]
theorem mk_s0 {A n d z R T tn td tz R4 h B N D Z} : putM 0 B N D Z (mk A n d z R T tn td tz R4 h) = mk B N D Z R T tn td tz R4 h := by
  unfold mk
  rw [putM_comm (show 0 ≠ 3 by omega), putM_put]
theorem mk_IsMo {A n d z R T tn td tz R4 h o B N D Z} (h0 : o ≠ 0) (h3 : o ≠ 3) (H : IsM o B N D Z h) : IsM o B N D Z (mk A n d z R T tn td tz R4 h) := by
  unfold mk
  refine IsM_ro (Ne.symm h3) (IsM_ro (Ne.symm h0) ⟨fun t k ht hk => ?_, ?_, ?_, ?_⟩)
  · rw [p_ne (by omega), p_ne (by omega)]; exact H.1 t k ht hk
  · rw [p_ne (by omega), p_ne (by omega)]; exact H.2.1
  · rw [p_ne (by omega), p_ne (by omega)]; exact H.2.2.1
  · rw [p_ne (by omega), p_ne (by omega)]; exact H.2.2.2
theorem row_mix {A n d z J B N D Z K} (hn : n ≤ 8) (hN : N ≤ 8) : (fun k => if 0 ≤ k ∧ k < 69 then rowOf B N D Z K k else rowOf A n d z J k) = rowOf B N D Z (fun k => if k < 69 then K k else J k) := by
  funext k
  by_cases h1 : k < 69
  · rw [if_pos ⟨Nat.zero_le _, h1⟩]
    unfold rowOf
    simp only [h1, if_true]
  · rw [if_neg (fun hh => h1 hh.2), row_out hn h1, row_out hN h1, if_neg h1]
theorem g_keep  : Good (fV_keep 0) (fN_keep 0) := by
  intro k h hk hI
  obtain ⟨A, n, d, z, J, T, tn, td, tz, R4, h0, rfl, hn, hd, hR, hO⟩ := hI
  obtain ⟨hC, hK, hRR, hT9, hS, hH, hA9⟩ := hO
  have hO' : Oth (k + 1) (wI2 (putR 903 (fun k => if 0 ≤ k ∧ k < 69 then rowOf A n d z J k else h0.1 903 0 k) (wI2 (putM 2 A n d z h0) 7 0 3 (nI 1))) 8 0 5 (nI 1)) := by
    refine ⟨OthC_fr (h := h0) (fun _ => by rw [w_ne (by omega), p_ne (by omega), w_ne (by omega), pm_ne (by omega)]) (fun _ => by rw [w_ne (by omega), p_ne (by omega), w_ne (by omega), pm_ne (by omega)]) hC, ?_, OthR_fr (h := h0) (by rw [w_ne (by omega), p_ne (by omega), w_ne (by omega), pm_ne (by omega)]) (by rw [w_at, if_neg (by omega), p_ne (by omega), w_ne (by omega), pm_ne (by omega)]) (fun _ => by rw [w_ne (by omega), p_ne (by omega), w_ne (by omega), pm_ne (by omega)]) (fun _ => by rw [w_ne (by omega), p_ne (by omega), w_ne (by omega), pm_ne (by omega)]) hRR, OthT_fr (h := h0) (by rw [w_ne (by omega), p_ne (by omega), w_ne (by omega), pm_ne (by omega)]) (by rw [w_at, if_neg (by omega), p_ne (by omega), w_ne (by omega), pm_ne (by omega)]) (fun _ => by rw [w_ne (by omega), p_ne (by omega), w_ne (by omega), pm_ne (by omega)]) (fun _ => by rw [w_ne (by omega), p_ne (by omega), w_ne (by omega), pm_ne (by omega)]) hT9, OthS_fr (h := h0) rfl (fun _ _ => by rw [w_ne (by omega), p_ne (by omega), w_ne (by omega), pm_ne (by omega)]) (fun _ _ => by rw [w_ne (by omega), p_ne (by omega), w_ne (by omega), pm_ne (by omega)]) (fun _ => by rw [w_ne (by omega), p_ne (by omega), w_ne (by omega), pm_ne (by omega)]) (fun _ => by rw [w_ne (by omega), p_ne (by omega), w_ne (by omega), pm_ne (by omega)]) (fun _ => by rw [w_ne (by omega), p_ne (by omega), w_ne (by omega), pm_ne (by omega)]) hS, OthH_fr (h := h0) rfl (fun _ _ => by rw [w_ne (by omega), p_ne (by omega), w_ne (by omega), pm_ne (by omega)]) (fun _ => by rw [w_ne (by omega), p_ne (by omega), w_ne (by omega), pm_ne (by omega)]) (fun _ => by rw [w_ne (by omega), p_ne (by omega), w_ne (by omega), pm_ne (by omega)]) (fun _ => by rw [w_ne (by omega), p_ne (by omega), w_ne (by omega), pm_ne (by omega)]) (fun _ => by rw [w_ne (by omega), p_ne (by omega), w_ne (by omega), pm_ne (by omega)]) hH, OthA_fr (h := h0) (by rw [w_ne (by omega), p_ne (by omega), w_ne (by omega), pm_ne (by omega)]) (by rw [w_at, if_neg (by omega), p_ne (by omega), w_ne (by omega), pm_ne (by omega)]) (fun _ => by rw [w_ne (by omega), p_ne (by omega), w_ne (by omega), pm_ne (by omega)]) (fun _ => by rw [w_ne (by omega), p_ne (by omega), w_ne (by omega), pm_ne (by omega)]) hA9⟩
    refine Or.inr ⟨?_, ?_, A, n, d, z, fun k => if k < 69 then J k else h0.1 903 0 k, ⟨fun t k ht hk => ?_, ?_, ?_, ?_⟩, fun k => ?_, hn, by omega, hR⟩
    · rw [w_ne (by omega), p_ne (by omega), w_at, if_pos rfl]
    · rw [w_at, if_pos rfl]
    · rw [w_ne (by omega), p_ne (by omega), w_ne (by omega)]; exact mp_at ht hk
    · rw [w_ne (by omega), p_ne (by omega), w_ne (by omega)]; exact mp_rn
    · rw [w_ne (by omega), p_ne (by omega), w_ne (by omega)]; exact mp_rd
    · rw [w_ne (by omega), p_ne (by omega), w_ne (by omega)]; exact mp_rz
    · rw [w_ne (by omega), p_at]
      by_cases h1 : k < 69
      · rw [if_pos ⟨Nat.zero_le _, h1⟩]
        unfold rowOf
        simp only [h1, if_true]
      · rw [if_neg (fun hh => h1 hh.2), row_out hn h1, if_neg h1]
  have c1 : fM_copyFrom 2 0 (mk A n d z (rowOf A n d z J) T tn td tz R4 h0) = some ([], mk A n d z (rowOf A n d z J) T tn td tz R4 (putM 2 A n d z h0)) := by
    rw [cm_copy (by omega) mk_IsM, mk_pM (by omega) (by omega)]
  have c2 : fN_become_902_903 0 0 (mk A n d z (rowOf A n d z J) T tn td tz R4 (wI2 (putM 2 A n d z h0) 7 0 3 (nI 1))) = some ([], mk A n d z (rowOf A n d z J) T tn td tz R4 (putR 903 (fun k => if 0 ≤ k ∧ k < 69 then rowOf A n d z J k else h0.1 903 0 k) (wI2 (putM 2 A n d z h0) 7 0 3 (nI 1)))) := by
    unfold fN_become_902_903
    rw [xbi, be_902_903 69 0 1000 _ (by omega) (by omega), mk_pR (by omega) (by omega) (by omega)]
    refine congrArg (fun F => some (([] : List mv_V), mk A n d z (rowOf A n d z J) T tn td tz R4 (putR 903 F (wI2 (putM 2 A n d z h0) 7 0 3 (nI 1))))) ?_
    funext k
    rw [show (mk A n d z (rowOf A n d z J) T tn td tz R4 (wI2 (putM 2 A n d z h0) 7 0 3 (nI 1))).1 902 0 k = rowOf A n d z J k from mk_rR, show (mk A n d z (rowOf A n d z J) T tn td tz R4 (wI2 (putM 2 A n d z h0) 7 0 3 (nI 1))).1 903 0 k = h0.1 903 0 k from (mk_ro (by omega) (by omega) (by omega)).trans ((w_ne (by omega)).trans (pm_ne (by omega)))]
  exact fin (h1 := (mk A n d z (rowOf A n d z J) T tn td tz R4 ((wI2 (putM 2 A n d z h0) 7 0 3 (nI 1))))) (A := A) (n := n) (d := d) (z := z) (J := J) (T := T) (tn := tn) (td := td) (tz := tz) (R4 := R4) (h' := (wI2 (putR 903 (fun k => if 0 ≤ k ∧ k < 69 then rowOf A n d z J k else h0.1 903 0 k) (wI2 (putM 2 A n d z h0) 7 0 3 (nI 1))) 8 0 5 (nI 1))) (Value.int (nI 1)) (by simp (disch := first | omega | assumption) only [fV_keep, c1, decide_true, decide_false, Bool.not_false, Bool.not_true, Bool.true_or, Bool.or_true, Nat.reduceAdd, xgd, xbi, xbh, xbl, xrI, xrV, xrL, xrR, x00, x10, xb0, xb1, if_true, if_false, mp_inb, mp_tn, mp_nn, mp_mul, nI_add, mr_law, mr_dd, mr_zz, mr_nn, mr_pur, mr_str, mr_ros, mr_clo, mr_wlaw, mr_wday, mr_wz, mr_wpur, mr_wstr, mr_wros, mr_wclo, mk_a0, mk_b0, mk_a1, mk_b1, mk_a2, mk_b2, mk_a3, mk_b3, mk_a4, mk_b4, mk_a5, mk_b5, mk_a6, mk_b6, mk_a7, mk_b7, mk_a8, mk_b8, mk_an, mk_bn, mk_ad, mk_bd, mk_az, mk_bz, mk_rR, mk_rR4, mk_ro, mk_rm, mk_wa0, mk_wb0, mk_wa1, mk_wb1, mk_wa2, mk_wb2, mk_wa3, mk_wb3, mk_wa4, mk_wb4, mk_wa5, mk_wb5, mk_wa6, mk_wb6, mk_wa7, mk_wb7, mk_wa8, mk_wb8, mk_wan, mk_wbn, mk_wad, mk_wbd, mk_waz, mk_wbz, mk_wR, mk_wR4, mk_wo, k0_takes, k0_fights, k0_fades, k0_settle, k0_deepen, k0_dip, k0_vat, k0_day, k0_pass, k0_sum, k0_drawn, k3_takes, k3_fights, k3_fades, k3_settle, k3_deepen, k3_dip, k3_vat, k3_day, k3_pass, k3_sum, k3_drawn, kn_its, kn_sets, kn_deep, kn_takes, kn_fights, kn_fades, kn_dip, kn_day, kn_goes, kn_sum, kn_drawn, mk_cp3]) (by simp (disch := first | omega | assumption) only [fN_keep, c2, decide_true, decide_false, Bool.not_false, Bool.not_true, Bool.true_or, Bool.or_true, Nat.reduceAdd, xgd, xbi, xbh, xbl, xrI, xrV, xrL, xrR, x00, x10, xb0, xb1, if_true, if_false, mp_inb, mp_tn, mp_nn, mp_mul, nI_add, mr_law, mr_dd, mr_zz, mr_nn, mr_pur, mr_str, mr_ros, mr_clo, mr_wlaw, mr_wday, mr_wz, mr_wpur, mr_wstr, mr_wros, mr_wclo, mk_a0, mk_b0, mk_a1, mk_b1, mk_a2, mk_b2, mk_a3, mk_b3, mk_a4, mk_b4, mk_a5, mk_b5, mk_a6, mk_b6, mk_a7, mk_b7, mk_a8, mk_b8, mk_an, mk_bn, mk_ad, mk_bd, mk_az, mk_bz, mk_rR, mk_rR4, mk_ro, mk_rm, mk_wa0, mk_wb0, mk_wa1, mk_wb1, mk_wa2, mk_wb2, mk_wa3, mk_wb3, mk_wa4, mk_wb4, mk_wa5, mk_wb5, mk_wa6, mk_wb6, mk_wa7, mk_wb7, mk_wa8, mk_wb8, mk_wan, mk_wbn, mk_wad, mk_wbd, mk_waz, mk_wbz, mk_wR, mk_wR4, mk_wo, k0_takes, k0_fights, k0_fades, k0_settle, k0_deepen, k0_dip, k0_vat, k0_day, k0_pass, k0_sum, k0_drawn, k3_takes, k3_fights, k3_fades, k3_settle, k3_deepen, k3_dip, k3_vat, k3_day, k3_pass, k3_sum, k3_drawn, kn_its, kn_sets, kn_deep, kn_takes, kn_fights, kn_fades, kn_dip, kn_day, kn_goes, kn_sum, kn_drawn, mk_cp3]) hn (by omega) hR hO' ⟨_, rfl⟩

theorem nI1_ne : (nI 1 = 0) = False := x10
theorem g_again  : Good (fV_again 0) (fN_again 0) := by
  intro k h hk hI
  obtain ⟨A, n, d, z, J, T, tn, td, tz, R4, h0, rfl, hn, hd, hR, hO⟩ := hI
  have hK := hO.2.1
  rcases hK with ⟨a, b⟩ | ⟨a, b, Ak, nk, dk, zk, Jk, hM, hr, hnk, hdk, hRk⟩
  · have a' : rI2 h0 7 0 3 = 0 := a
    have b' : rI2 h0 8 0 5 = 0 := b
    have z0 : ((0 : Int32) = 0) = True := eq_self 0
    exact fin (h1 := (mk A n d z (rowOf A n d z J) T tn td tz R4 h0)) (A := A) (n := n) (d := d) (z := z) (J := J) (T := T) (tn := tn) (td := td) (tz := tz) (R4 := R4) (h' := h0) (Value.int (-(nI 3))) (by simp (disch := first | omega | assumption) only [fV_again, a', z0, decide_true, decide_false, Bool.not_false, Bool.not_true, Bool.true_or, Bool.or_true, Nat.reduceAdd, xgd, xbi, xbh, xbl, xrI, xrV, xrL, xrR, x00, x10, xb0, xb1, if_true, if_false, mp_inb, mp_tn, mp_nn, mp_mul, nI_add, mr_law, mr_dd, mr_zz, mr_nn, mr_pur, mr_str, mr_ros, mr_clo, mr_wlaw, mr_wday, mr_wz, mr_wpur, mr_wstr, mr_wros, mr_wclo, mk_a0, mk_b0, mk_a1, mk_b1, mk_a2, mk_b2, mk_a3, mk_b3, mk_a4, mk_b4, mk_a5, mk_b5, mk_a6, mk_b6, mk_a7, mk_b7, mk_a8, mk_b8, mk_an, mk_bn, mk_ad, mk_bd, mk_az, mk_bz, mk_rR, mk_rR4, mk_ro, mk_rm, mk_wa0, mk_wb0, mk_wa1, mk_wb1, mk_wa2, mk_wb2, mk_wa3, mk_wb3, mk_wa4, mk_wb4, mk_wa5, mk_wb5, mk_wa6, mk_wb6, mk_wa7, mk_wb7, mk_wa8, mk_wb8, mk_wan, mk_wbn, mk_wad, mk_wbd, mk_waz, mk_wbz, mk_wR, mk_wR4, mk_wo, k0_takes, k0_fights, k0_fades, k0_settle, k0_deepen, k0_dip, k0_vat, k0_day, k0_pass, k0_sum, k0_drawn, k3_takes, k3_fights, k3_fades, k3_settle, k3_deepen, k3_dip, k3_vat, k3_day, k3_pass, k3_sum, k3_drawn, kn_its, kn_sets, kn_deep, kn_takes, kn_fights, kn_fades, kn_dip, kn_day, kn_goes, kn_sum, kn_drawn, mk_cp3]) (by simp (disch := first | omega | assumption) only [fN_again, b', z0, decide_true, decide_false, Bool.not_false, Bool.not_true, Bool.true_or, Bool.or_true, Nat.reduceAdd, xgd, xbi, xbh, xbl, xrI, xrV, xrL, xrR, x00, x10, xb0, xb1, if_true, if_false, mp_inb, mp_tn, mp_nn, mp_mul, nI_add, mr_law, mr_dd, mr_zz, mr_nn, mr_pur, mr_str, mr_ros, mr_clo, mr_wlaw, mr_wday, mr_wz, mr_wpur, mr_wstr, mr_wros, mr_wclo, mk_a0, mk_b0, mk_a1, mk_b1, mk_a2, mk_b2, mk_a3, mk_b3, mk_a4, mk_b4, mk_a5, mk_b5, mk_a6, mk_b6, mk_a7, mk_b7, mk_a8, mk_b8, mk_an, mk_bn, mk_ad, mk_bd, mk_az, mk_bz, mk_rR, mk_rR4, mk_ro, mk_rm, mk_wa0, mk_wb0, mk_wa1, mk_wb1, mk_wa2, mk_wb2, mk_wa3, mk_wb3, mk_wa4, mk_wb4, mk_wa5, mk_wb5, mk_wa6, mk_wb6, mk_wa7, mk_wb7, mk_wa8, mk_wb8, mk_wan, mk_wbn, mk_wad, mk_wbd, mk_waz, mk_wbz, mk_wR, mk_wR4, mk_wo, k0_takes, k0_fights, k0_fades, k0_settle, k0_deepen, k0_dip, k0_vat, k0_day, k0_pass, k0_sum, k0_drawn, k3_takes, k3_fights, k3_fades, k3_settle, k3_deepen, k3_dip, k3_vat, k3_day, k3_pass, k3_sum, k3_drawn, kn_its, kn_sets, kn_deep, kn_takes, kn_fights, kn_fades, kn_dip, kn_day, kn_goes, kn_sum, kn_drawn, mk_cp3]) hn (by omega) hR (Oth_succ hO) ⟨_, rfl⟩
  · have a' : rI2 h0 7 0 3 = nI 1 := a
    have b' : rI2 h0 8 0 5 = nI 1 := b
    have c1 : fM_copyFrom 0 2 (mk A n d z (rowOf A n d z J) T tn td tz R4 h0) = some ([], mk Ak nk dk zk (rowOf A n d z J) T tn td tz R4 h0) := by
      rw [cm_copy (by omega) (mk_IsMo (by omega) (by omega) hM), mk_s0]
    have c2 : fN_become_903_902 0 0 (mk Ak nk dk zk (rowOf A n d z J) T tn td tz R4 h0) = some ([], mk Ak nk dk zk (rowOf Ak nk dk zk (fun k => if k < 69 then Jk k else J k)) T tn td tz R4 h0) := by
      unfold fN_become_903_902
      rw [xbi, be_903_902 69 0 1000 _ (by omega) (by omega), mk_p902, ← row_mix (A := A) (n := n) (d := d) (z := z) hn hnk]
      refine congrArg (fun F => some (([] : List mv_V), mk Ak nk dk zk F T tn td tz R4 h0)) ?_
      funext k
      rw [show (mk Ak nk dk zk (rowOf A n d z J) T tn td tz R4 h0).1 902 0 k = rowOf A n d z J k from mk_rR, show (mk Ak nk dk zk (rowOf A n d z J) T tn td tz R4 h0).1 903 0 k = rowOf Ak nk dk zk Jk k from (mk_ro (by omega) (by omega) (by omega)).trans (hr k)]
    exact fin (h1 := (mk Ak nk dk zk (rowOf A n d z J) T tn td tz R4 h0)) (A := Ak) (n := nk) (d := dk) (z := zk) (J := (fun k => if k < 69 then Jk k else J k)) (T := T) (tn := tn) (td := td) (tz := tz) (R4 := R4) (h' := h0) (Value.int (nI nk)) (by simp (disch := first | omega | assumption) only [fV_again, a', c1, decide_true, decide_false, Bool.not_false, Bool.not_true, Bool.true_or, Bool.or_true, Nat.reduceAdd, xgd, xbi, xbh, xbl, xrI, xrV, xrL, xrR, x00, x10, xb0, xb1, if_true, if_false, mp_inb, mp_tn, mp_nn, mp_mul, nI_add, mr_law, mr_dd, mr_zz, mr_nn, mr_pur, mr_str, mr_ros, mr_clo, mr_wlaw, mr_wday, mr_wz, mr_wpur, mr_wstr, mr_wros, mr_wclo, mk_a0, mk_b0, mk_a1, mk_b1, mk_a2, mk_b2, mk_a3, mk_b3, mk_a4, mk_b4, mk_a5, mk_b5, mk_a6, mk_b6, mk_a7, mk_b7, mk_a8, mk_b8, mk_an, mk_bn, mk_ad, mk_bd, mk_az, mk_bz, mk_rR, mk_rR4, mk_ro, mk_rm, mk_wa0, mk_wb0, mk_wa1, mk_wb1, mk_wa2, mk_wb2, mk_wa3, mk_wb3, mk_wa4, mk_wb4, mk_wa5, mk_wb5, mk_wa6, mk_wb6, mk_wa7, mk_wb7, mk_wa8, mk_wb8, mk_wan, mk_wbn, mk_wad, mk_wbd, mk_waz, mk_wbz, mk_wR, mk_wR4, mk_wo, k0_takes, k0_fights, k0_fades, k0_settle, k0_deepen, k0_dip, k0_vat, k0_day, k0_pass, k0_sum, k0_drawn, k3_takes, k3_fights, k3_fades, k3_settle, k3_deepen, k3_dip, k3_vat, k3_day, k3_pass, k3_sum, k3_drawn, kn_its, kn_sets, kn_deep, kn_takes, kn_fights, kn_fades, kn_dip, kn_day, kn_goes, kn_sum, kn_drawn, mk_cp3]) (by simp (disch := first | omega | assumption) only [fN_again, b', c2, decide_true, decide_false, Bool.not_false, Bool.not_true, Bool.true_or, Bool.or_true, Nat.reduceAdd, xgd, xbi, xbh, xbl, xrI, xrV, xrL, xrR, x00, x10, xb0, xb1, if_true, if_false, mp_inb, mp_tn, mp_nn, mp_mul, nI_add, mr_law, mr_dd, mr_zz, mr_nn, mr_pur, mr_str, mr_ros, mr_clo, mr_wlaw, mr_wday, mr_wz, mr_wpur, mr_wstr, mr_wros, mr_wclo, mk_a0, mk_b0, mk_a1, mk_b1, mk_a2, mk_b2, mk_a3, mk_b3, mk_a4, mk_b4, mk_a5, mk_b5, mk_a6, mk_b6, mk_a7, mk_b7, mk_a8, mk_b8, mk_an, mk_bn, mk_ad, mk_bd, mk_az, mk_bz, mk_rR, mk_rR4, mk_ro, mk_rm, mk_wa0, mk_wb0, mk_wa1, mk_wb1, mk_wa2, mk_wb2, mk_wa3, mk_wb3, mk_wa4, mk_wb4, mk_wa5, mk_wb5, mk_wa6, mk_wb6, mk_wa7, mk_wb7, mk_wa8, mk_wb8, mk_wan, mk_wbn, mk_wad, mk_wbd, mk_waz, mk_wbz, mk_wR, mk_wR4, mk_wo, k0_takes, k0_fights, k0_fades, k0_settle, k0_deepen, k0_dip, k0_vat, k0_day, k0_pass, k0_sum, k0_drawn, k3_takes, k3_fights, k3_fades, k3_settle, k3_deepen, k3_dip, k3_vat, k3_day, k3_pass, k3_sum, k3_drawn, kn_its, kn_sets, kn_deep, kn_takes, kn_fights, kn_fades, kn_dip, kn_day, kn_goes, kn_sum, kn_drawn, mk_cp3]) hnk (by omega) hRk (Oth_succ hO) ⟨_, rfl⟩

theorem w_comm {h : H2} {t o k v t' o' k' v'} (ht : t ≠ t') : wI2 (wI2 h t o k v) t' o' k' v' = wI2 (wI2 h t' o' k' v') t o k v := by
  apply mp_ext
  · intro u q j
    show mv_up3 (mv_up3 h.1 t o k v) t' o' k' v' u q j = mv_up3 (mv_up3 h.1 t' o' k' v') t o k v u q j
    unfold mv_up3
    simp only [mp_beq]
    by_cases h1 : u = t
    · rw [decide_eq_false (show ¬ u = t' from fun e => ht (h1 ▸ e)), Bool.false_and, cond_false, cond_false]
    · rw [decide_eq_false h1, Bool.false_and, cond_false, cond_false]
  · rfl
theorem w_same {h : H2} {t o k v v'} : wI2 (wI2 h t o k v) t o k v' = wI2 h t o k v' := by
  apply mp_ext
  · intro u q j
    show mv_up3 (mv_up3 h.1 t o k v) t o k v' u q j = mv_up3 h.1 t o k v' u q j
    unfold mv_up3
    cases (Nat.beq u t && (Nat.beq q o && Nat.beq j k)) <;> rfl
  · rfl
def byt (w : Int64) (i : Nat) : Int32 := ((w >>> ((nI 8 * nI i).toInt64 &&& 63)) &&& lN 255).toInt32
theorem ln_any (x : Int64) : x = lN x.toBitVec.toNat := by
  apply Int64.toBitVec_inj.mp
  unfold lN
  rw [Int64.toBitVec_ofNat']
  exact (BitVec.ofNat_toNat 64 x.toBitVec).symm ▸ (by rw [BitVec.setWidth_eq])
theorem byt_rng (w : Int64) (i : Nat) : ∃ b : Nat, b < 256 ∧ byt w i = nI b := by
  unfold byt
  generalize (w >>> ((nI 8 * nI i).toInt64 &&& 63)) = x
  refine ⟨(x &&& lN 255).toBitVec.toNat, ?_, ?_⟩
  · rw [Int64.toBitVec_and, BitVec.toNat_and]
    have h1 : (lN 255).toBitVec.toNat = 255 := by decide +kernel
    have h2 := Nat.and_le_right (n := x.toBitVec.toNat) (m := (lN 255).toBitVec.toNat)
    omega
  · rw [ln_any (x &&& lN 255), lN_i, ← ln_any]
def fdL (w : Int64) (m : Nat) : Nat → Nat → (Nat → Int32) → Nat → Int32
  | 0, _, F => F
  | j + 1, i, F => fdL w m j (i + 1) (rup F (m + i) (byt w i))
theorem fd_agree {w m} : ∀ j i F G, (∀ k, k < 200 → F k = G k) → ∀ k, k < 200 → fdL w m j i F k = fdL w m j i G k
  | 0, _, _, _, h => h
  | j + 1, i, F, G, h => fd_agree j (i + 1) _ _ (rup_agree h)
theorem fd_rng {w m} : ∀ j i F, (∀ k, k < 200 → ∃ b : Nat, b < 256 ∧ F k = nI b) → ∀ k, k < 200 → ∃ b : Nat, b < 256 ∧ fdL w m j i F k = nI b
  | 0, _, _, h => h
  | j + 1, i, F, h => fd_rng j (i + 1) _ (fun k hk => by
    unfold rup
    split
    · exact byt_rng w i
    · exact h k hk)
theorem cl_fd {A n d z R T tn td tz R4 h w m c} (hm : m + c ≤ 200) (hc : c ≤ 8) (hl : h.1 6 0 1 = nI m) : ∀ j i f F, i + j = c → j < f → fT_take_b3 f 0 w (nI c) (nI i) (mk A n d z R T tn td tz R4 (putR 700 F h)) = some ([], mk A n d z R T tn td tz R4 (wI2 (putR 700 (fdL w m j i F) h) 6 0 1 (nI (m + c))))
  | _, _, 0, _, _, hf => by omega
  | 0, i, f + 1, F, hi, _ => by
    have e : rI2 (putR 700 F h) 6 0 1 = nI m := hl
    unfold fT_take_b3 fdL
    rw [if_pos (by rw [mp_le (by omega) (by omega)]; omega), xbh, mk_ro (by omega) (by omega) (by omega), e, nI_add, mk_wo (by omega) (by omega) (by omega)]
  | j + 1, i, f + 1, F, hi, hf => by
    have e : rI2 (putR 700 F h) 6 0 1 = nI m := hl
    unfold fT_take_b3 fdL
    rw [if_neg (by rw [mp_le (by omega) (by omega)]; omega), mk_ro (by omega) (by omega) (by omega), e, nI_add, mp_inb (by omega) (by omega), xgd, mp_tn (by omega), xbh, mk_wo (by omega) (by omega) (by omega), mr_w, xbi, nI_add]
    exact cl_fd hm hc hl j (i + 1) f _ (by omega) (by omega)
theorem nl_fd {A n d z R T tn td tz R4 h w m c} (hm : m + c ≤ 200) (hc : c ≤ 8) : ∀ j i f G, i + j = c → j < f → fN_feed_b32 f 0 w (nI c) (nI i) (mk A n d z R T tn td tz R4 (wI2 (putR 906 G h) 8 0 7 (nI (m + i)))) = some ([Sum.inl (Value.int (nI (m + c)))], mk A n d z R T tn td tz R4 (wI2 (putR 906 (fdL w m j i G) h) 8 0 7 (nI (m + c))))
  | _, _, 0, _, _, hf => by omega
  | 0, i, f + 1, G, hi, _ => by
    have : i = c := by omega
    subst this
    unfold fN_feed_b32 fdL
    rw [if_pos (by rw [mp_le (by omega) (by omega)]; omega), mk_ro (by omega) (by omega) (by omega), show rI2 (wI2 (putR 906 G h) 8 0 7 (nI (m + i))) 8 0 7 = nI (m + i) from w_at.trans (if_pos rfl)]
  | j + 1, i, f + 1, G, hi, hf => by
    have e : rI2 (wI2 (putR 906 G h) 8 0 7 (nI (m + i))) 8 0 7 = nI (m + i) := w_at.trans (if_pos rfl)
    have e2 : rI2 (wI2 (wI2 (putR 906 G h) 8 0 7 (nI (m + i))) 906 0 (m + i) (byt w i)) 8 0 7 = nI (m + i) := (w_ne (by omega)).trans e
    unfold fN_feed_b32 fdL
    rw [if_neg (by rw [mp_le (by omega) (by omega)]; omega), mk_ro (by omega) (by omega) (by omega), e, mp_inb (by omega) (by omega), xgd, mp_tn (by omega), xbh, mk_wo (by omega) (by omega) (by omega), xbh]
    rw [show ((w >>> ((nI 8 * nI i).toInt64 &&& 63)) &&& lN 255).toInt32 = byt w i from rfl, mk_ro (by omega) (by omega) (by omega), e2, mk_wo (by omega) (by omega) (by omega), xbi, nI_add, nI_add]
    rw [w_comm (show 8 ≠ 906 by omega), w_same, mr_w]
    exact nl_fd hm hc j (i + 1) f _ (by omega) (by omega)
theorem g_feed (w : Int64) (v3 : Int32) : Good (fV_feed 0 w v3) (fN_feed 0 w v3) := by
  intro k h hk hI
  obtain ⟨A, n, d, z, J, T, tn, td, tz, R4, h0, rfl, hn, hd, hR, hO⟩ := hI
  obtain ⟨hC, hK, hRR, ⟨m, hm, ht1, ht2, ht3⟩, hS, hH, hA9⟩ := hO
  have hO : Oth k h0 := ⟨hC, hK, hRR, ⟨m, hm, ht1, ht2, ht3⟩, hS, hH, hA9⟩
  have q1 : rI2 h0 6 0 1 = nI m := ht1
  have q2 : rI2 h0 8 0 7 = nI m := ht2
  have q3 : nI 200 - nI m = nI (200 - m) := mp_sub hm
  rcases in_case v3 1 8 (by omega) (by omega) with ⟨_, e1, e2⟩ | ⟨c, hc1, hc, rfl, e1, e2⟩
  · exact fin (h1 := (mk A n d z (rowOf A n d z J) T tn td tz R4 h0)) (A := A) (n := n) (d := d) (z := z) (J := J) (T := T) (tn := tn) (td := td) (tz := tz) (R4 := R4) (h' := h0) (Value.int (-(nI 1))) (by simp (disch := first | omega | assumption) only [fV_feed, e1, decide_true, decide_false, Bool.not_false, Bool.not_true, Bool.true_or, Bool.or_true, Nat.reduceAdd, xgd, xbi, xbh, xbl, xrI, xrV, xrL, xrR, x00, x10, xb0, xb1, if_true, if_false, mp_inb, mp_tn, mp_nn, mp_mul, nI_add, mr_law, mr_dd, mr_zz, mr_nn, mr_pur, mr_str, mr_ros, mr_clo, mr_wlaw, mr_wday, mr_wz, mr_wpur, mr_wstr, mr_wros, mr_wclo, mk_a0, mk_b0, mk_a1, mk_b1, mk_a2, mk_b2, mk_a3, mk_b3, mk_a4, mk_b4, mk_a5, mk_b5, mk_a6, mk_b6, mk_a7, mk_b7, mk_a8, mk_b8, mk_an, mk_bn, mk_ad, mk_bd, mk_az, mk_bz, mk_rR, mk_rR4, mk_ro, mk_rm, mk_wa0, mk_wb0, mk_wa1, mk_wb1, mk_wa2, mk_wb2, mk_wa3, mk_wb3, mk_wa4, mk_wb4, mk_wa5, mk_wb5, mk_wa6, mk_wb6, mk_wa7, mk_wb7, mk_wa8, mk_wb8, mk_wan, mk_wbn, mk_wad, mk_wbd, mk_waz, mk_wbz, mk_wR, mk_wR4, mk_wo, k0_takes, k0_fights, k0_fades, k0_settle, k0_deepen, k0_dip, k0_vat, k0_day, k0_pass, k0_sum, k0_drawn, k3_takes, k3_fights, k3_fades, k3_settle, k3_deepen, k3_dip, k3_vat, k3_day, k3_pass, k3_sum, k3_drawn, kn_its, kn_sets, kn_deep, kn_takes, kn_fights, kn_fades, kn_dip, kn_day, kn_goes, kn_sum, kn_drawn, mk_cp3]) (by simp (disch := first | omega | assumption) only [fN_feed, e2, decide_true, decide_false, Bool.not_false, Bool.not_true, Bool.true_or, Bool.or_true, Nat.reduceAdd, xgd, xbi, xbh, xbl, xrI, xrV, xrL, xrR, x00, x10, xb0, xb1, if_true, if_false, mp_inb, mp_tn, mp_nn, mp_mul, nI_add, mr_law, mr_dd, mr_zz, mr_nn, mr_pur, mr_str, mr_ros, mr_clo, mr_wlaw, mr_wday, mr_wz, mr_wpur, mr_wstr, mr_wros, mr_wclo, mk_a0, mk_b0, mk_a1, mk_b1, mk_a2, mk_b2, mk_a3, mk_b3, mk_a4, mk_b4, mk_a5, mk_b5, mk_a6, mk_b6, mk_a7, mk_b7, mk_a8, mk_b8, mk_an, mk_bn, mk_ad, mk_bd, mk_az, mk_bz, mk_rR, mk_rR4, mk_ro, mk_rm, mk_wa0, mk_wb0, mk_wa1, mk_wb1, mk_wa2, mk_wb2, mk_wa3, mk_wb3, mk_wa4, mk_wb4, mk_wa5, mk_wb5, mk_wa6, mk_wb6, mk_wa7, mk_wb7, mk_wa8, mk_wb8, mk_wan, mk_wbn, mk_wad, mk_wbd, mk_waz, mk_wbz, mk_wR, mk_wR4, mk_wo, k0_takes, k0_fights, k0_fades, k0_settle, k0_deepen, k0_dip, k0_vat, k0_day, k0_pass, k0_sum, k0_drawn, k3_takes, k3_fights, k3_fades, k3_settle, k3_deepen, k3_dip, k3_vat, k3_day, k3_pass, k3_sum, k3_drawn, kn_its, kn_sets, kn_deep, kn_takes, kn_fights, kn_fades, kn_dip, kn_day, kn_goes, kn_sum, kn_drawn, mk_cp3]) hn (by omega) hR (Oth_succ hO) ⟨_, rfl⟩
  · by_cases hf : m + c ≤ 200
    · have l1 : (c ≤ 200 - m) = True := eq_true (by omega)
      have l2 : (m + c ≤ 200) = True := eq_true hf
      have hO' : Oth (k + 1) (wI2 (putR 906 (fdL w m c 0 (fun j => h0.1 906 0 j)) (wI2 (putR 700 (fdL w m c 0 (fun j => h0.1 700 0 j)) h0) 6 0 1 (nI (m + c)))) 8 0 7 (nI (m + c))) := by
        refine ⟨OthC_fr (h := h0) (fun _ => by rw [w_ne (by omega), p_ne (by omega), w_ne (by omega), p_ne (by omega)]) (fun _ => by rw [w_ne (by omega), p_ne (by omega), w_ne (by omega), p_ne (by omega)]) hC, OthK_succ (OthK_fr (h := h0) (by rw [w_ne (by omega), p_ne (by omega), w_ne (by omega), p_ne (by omega)]) (by rw [w_at, if_neg (by omega), p_ne (by omega), w_ne (by omega), p_ne (by omega)]) (fun _ => by rw [w_ne (by omega), p_ne (by omega), w_ne (by omega), p_ne (by omega)]) (fun _ _ _ => by rw [w_ne (by omega), p_ne (by omega), w_ne (by omega), p_ne (by omega)]) (fun _ => by rw [w_ne (by omega), p_ne (by omega), w_ne (by omega), p_ne (by omega)]) hK), OthR_fr (h := h0) (by rw [w_ne (by omega), p_ne (by omega), w_ne (by omega), p_ne (by omega)]) (by rw [w_at, if_neg (by omega), p_ne (by omega), w_ne (by omega), p_ne (by omega)]) (fun _ => by rw [w_ne (by omega), p_ne (by omega), w_ne (by omega), p_ne (by omega)]) (fun _ => by rw [w_ne (by omega), p_ne (by omega), w_ne (by omega), p_ne (by omega)]) hRR, ?_, OthS_fr (h := h0) rfl (fun _ _ => by rw [w_ne (by omega), p_ne (by omega), w_ne (by omega), p_ne (by omega)]) (fun _ _ => by rw [w_ne (by omega), p_ne (by omega), w_ne (by omega), p_ne (by omega)]) (fun _ => by rw [w_ne (by omega), p_ne (by omega), w_ne (by omega), p_ne (by omega)]) (fun _ => by rw [w_ne (by omega), p_ne (by omega), w_ne (by omega), p_ne (by omega)]) (fun _ => by rw [w_ne (by omega), p_ne (by omega), w_ne (by omega), p_ne (by omega)]) hS, OthH_fr (h := h0) rfl (fun _ _ => by rw [w_ne (by omega), p_ne (by omega), w_ne (by omega), p_ne (by omega)]) (fun _ => by rw [w_ne (by omega), p_ne (by omega), w_ne (by omega), p_ne (by omega)]) (fun _ => by rw [w_ne (by omega), p_ne (by omega), w_ne (by omega), p_ne (by omega)]) (fun _ => by rw [w_ne (by omega), p_ne (by omega), w_ne (by omega), p_ne (by omega)]) (fun _ => by rw [w_ne (by omega), p_ne (by omega), w_ne (by omega), p_ne (by omega)]) hH, OthA_fr (h := h0) (by rw [w_ne (by omega), p_ne (by omega), w_ne (by omega), p_ne (by omega)]) (by rw [w_at, if_neg (by omega), p_ne (by omega), w_ne (by omega), p_ne (by omega)]) (fun _ => by rw [w_ne (by omega), p_ne (by omega), w_ne (by omega), p_ne (by omega)]) (fun _ => by rw [w_ne (by omega), p_ne (by omega), w_ne (by omega), p_ne (by omega)]) hA9⟩
        refine ⟨m + c, hf, ?_, ?_, fun j hj => ⟨?_, ?_⟩⟩
        · rw [w_ne (by omega), p_ne (by omega), w_at, if_pos rfl]
        · rw [w_at, if_pos rfl]
        · rw [w_ne (by omega), w_ne (by omega), p_ne (by omega), w_ne (by omega), p_at, p_at]
          exact fd_agree c 0 _ _ (fun k hk => (ht3 k hk).1) j hj
        · rw [w_ne (by omega), p_at]
          exact fd_rng c 0 _ (fun k hk => (ht3 k hk).2) j hj
      have hT := cl_fd (A := A) (n := n) (d := d) (z := z) (R := rowOf A n d z J) (T := T) (tn := tn) (td := td) (tz := tz) (R4 := R4) (w := w) hf hc ht1 c 0 1000 (fun j => h0.1 700 0 j) (by omega) (by omega)
      rw [putR_eq (h := h0) (fun _ => rfl)] at hT
      have hN := nl_fd (A := A) (n := n) (d := d) (z := z) (R := rowOf A n d z J) (T := T) (tn := tn) (td := td) (tz := tz) (R4 := R4) (h := (wI2 (putR 700 (fdL w m c 0 (fun j => h0.1 700 0 j)) h0) 6 0 1 (nI (m + c)))) (w := w) hf hc c 0 1000 (fun j => h0.1 906 0 j) (by omega) (by omega)
      rw [show wI2 (putR 906 (fun j => h0.1 906 0 j) (wI2 (putR 700 (fdL w m c 0 (fun j => h0.1 700 0 j)) h0) 6 0 1 (nI (m + c)))) 8 0 7 (nI (m + 0)) = (wI2 (putR 700 (fdL w m c 0 (fun j => h0.1 700 0 j)) h0) 6 0 1 (nI (m + c))) from by
        rw [putR_eq (fun _ => (w_ne (by omega)).trans (p_ne (by omega)))]
        apply mp_ext
        · intro u q j
          show mv_up3 (wI2 (putR 700 (fdL w m c 0 (fun j => h0.1 700 0 j)) h0) 6 0 1 (nI (m + c))).1 8 0 7 (nI (m + 0)) u q j = _
          unfold mv_up3
          cases hb : (Nat.beq u 8 && (Nat.beq q 0 && Nat.beq j 7)) with
          | false => rfl
          | true =>
            simp only [mp_beq, Bool.and_eq_true, decide_eq_true_eq] at hb
            rw [hb.1, hb.2.1, hb.2.2, cond_true]
            exact ht2.symm
        · rfl] at hN
      have q4 : rI2 (wI2 (putR 700 (fdL w m c 0 (fun j => h0.1 700 0 j)) h0) 6 0 1 (nI (m + c))) 6 0 1 = nI (m + c) := w_at.trans (if_pos rfl)
      have q5 : rI2 (wI2 (putR 700 (fdL w m c 0 (fun j => h0.1 700 0 j)) h0) 6 0 1 (nI (m + c))) 8 0 7 = nI m := ht2
      exact fin (h1 := (mk A n d z (rowOf A n d z J) T tn td tz R4 ((wI2 (putR 700 (fdL w m c 0 (fun j => h0.1 700 0 j)) h0) 6 0 1 (nI (m + c)))))) (A := A) (n := n) (d := d) (z := z) (J := J) (T := T) (tn := tn) (td := td) (tz := tz) (R4 := R4) (h' := (wI2 (putR 906 (fdL w m c 0 (fun j => h0.1 906 0 j)) (wI2 (putR 700 (fdL w m c 0 (fun j => h0.1 700 0 j)) h0) 6 0 1 (nI (m + c)))) 8 0 7 (nI (m + c)))) (Value.int (nI (m + c))) (by simp (disch := first | omega | assumption) only [fV_feed, fT_room, fT_take, e1, q1, q3, mp_le, l1, hT, q4, decide_true, decide_false, Bool.not_false, Bool.not_true, Bool.true_or, Bool.or_true, Nat.reduceAdd, xgd, xbi, xbh, xbl, xrI, xrV, xrL, xrR, x00, x10, xb0, xb1, if_true, if_false, mp_inb, mp_tn, mp_nn, mp_mul, nI_add, mr_law, mr_dd, mr_zz, mr_nn, mr_pur, mr_str, mr_ros, mr_clo, mr_wlaw, mr_wday, mr_wz, mr_wpur, mr_wstr, mr_wros, mr_wclo, mk_a0, mk_b0, mk_a1, mk_b1, mk_a2, mk_b2, mk_a3, mk_b3, mk_a4, mk_b4, mk_a5, mk_b5, mk_a6, mk_b6, mk_a7, mk_b7, mk_a8, mk_b8, mk_an, mk_bn, mk_ad, mk_bd, mk_az, mk_bz, mk_rR, mk_rR4, mk_ro, mk_rm, mk_wa0, mk_wb0, mk_wa1, mk_wb1, mk_wa2, mk_wb2, mk_wa3, mk_wb3, mk_wa4, mk_wb4, mk_wa5, mk_wb5, mk_wa6, mk_wb6, mk_wa7, mk_wb7, mk_wa8, mk_wb8, mk_wan, mk_wbn, mk_wad, mk_wbd, mk_waz, mk_wbz, mk_wR, mk_wR4, mk_wo, k0_takes, k0_fights, k0_fades, k0_settle, k0_deepen, k0_dip, k0_vat, k0_day, k0_pass, k0_sum, k0_drawn, k3_takes, k3_fights, k3_fades, k3_settle, k3_deepen, k3_dip, k3_vat, k3_day, k3_pass, k3_sum, k3_drawn, kn_its, kn_sets, kn_deep, kn_takes, kn_fights, kn_fades, kn_dip, kn_day, kn_goes, kn_sum, kn_drawn, mk_cp3]) (by simp (disch := first | omega | assumption) only [fN_feed, e2, q5, mp_le, l2, hN, decide_true, decide_false, Bool.not_false, Bool.not_true, Bool.true_or, Bool.or_true, Nat.reduceAdd, xgd, xbi, xbh, xbl, xrI, xrV, xrL, xrR, x00, x10, xb0, xb1, if_true, if_false, mp_inb, mp_tn, mp_nn, mp_mul, nI_add, mr_law, mr_dd, mr_zz, mr_nn, mr_pur, mr_str, mr_ros, mr_clo, mr_wlaw, mr_wday, mr_wz, mr_wpur, mr_wstr, mr_wros, mr_wclo, mk_a0, mk_b0, mk_a1, mk_b1, mk_a2, mk_b2, mk_a3, mk_b3, mk_a4, mk_b4, mk_a5, mk_b5, mk_a6, mk_b6, mk_a7, mk_b7, mk_a8, mk_b8, mk_an, mk_bn, mk_ad, mk_bd, mk_az, mk_bz, mk_rR, mk_rR4, mk_ro, mk_rm, mk_wa0, mk_wb0, mk_wa1, mk_wb1, mk_wa2, mk_wb2, mk_wa3, mk_wb3, mk_wa4, mk_wb4, mk_wa5, mk_wb5, mk_wa6, mk_wb6, mk_wa7, mk_wb7, mk_wa8, mk_wb8, mk_wan, mk_wbn, mk_wad, mk_wbd, mk_waz, mk_wbz, mk_wR, mk_wR4, mk_wo, k0_takes, k0_fights, k0_fades, k0_settle, k0_deepen, k0_dip, k0_vat, k0_day, k0_pass, k0_sum, k0_drawn, k3_takes, k3_fights, k3_fades, k3_settle, k3_deepen, k3_dip, k3_vat, k3_day, k3_pass, k3_sum, k3_drawn, kn_its, kn_sets, kn_deep, kn_takes, kn_fights, kn_fades, kn_dip, kn_day, kn_goes, kn_sum, kn_drawn, mk_cp3]) hn (by omega) hR hO' ⟨_, rfl⟩
    · have l1 : (c ≤ 200 - m) = False := eq_false (by omega)
      have l2 : (m + c ≤ 200) = False := eq_false hf
      exact fin (h1 := (mk A n d z (rowOf A n d z J) T tn td tz R4 h0)) (A := A) (n := n) (d := d) (z := z) (J := J) (T := T) (tn := tn) (td := td) (tz := tz) (R4 := R4) (h' := h0) (Value.int (-(nI 2))) (by simp (disch := first | omega | assumption) only [fV_feed, fT_room, e1, q1, q3, mp_le, l1, decide_true, decide_false, Bool.not_false, Bool.not_true, Bool.true_or, Bool.or_true, Nat.reduceAdd, xgd, xbi, xbh, xbl, xrI, xrV, xrL, xrR, x00, x10, xb0, xb1, if_true, if_false, mp_inb, mp_tn, mp_nn, mp_mul, nI_add, mr_law, mr_dd, mr_zz, mr_nn, mr_pur, mr_str, mr_ros, mr_clo, mr_wlaw, mr_wday, mr_wz, mr_wpur, mr_wstr, mr_wros, mr_wclo, mk_a0, mk_b0, mk_a1, mk_b1, mk_a2, mk_b2, mk_a3, mk_b3, mk_a4, mk_b4, mk_a5, mk_b5, mk_a6, mk_b6, mk_a7, mk_b7, mk_a8, mk_b8, mk_an, mk_bn, mk_ad, mk_bd, mk_az, mk_bz, mk_rR, mk_rR4, mk_ro, mk_rm, mk_wa0, mk_wb0, mk_wa1, mk_wb1, mk_wa2, mk_wb2, mk_wa3, mk_wb3, mk_wa4, mk_wb4, mk_wa5, mk_wb5, mk_wa6, mk_wb6, mk_wa7, mk_wb7, mk_wa8, mk_wb8, mk_wan, mk_wbn, mk_wad, mk_wbd, mk_waz, mk_wbz, mk_wR, mk_wR4, mk_wo, k0_takes, k0_fights, k0_fades, k0_settle, k0_deepen, k0_dip, k0_vat, k0_day, k0_pass, k0_sum, k0_drawn, k3_takes, k3_fights, k3_fades, k3_settle, k3_deepen, k3_dip, k3_vat, k3_day, k3_pass, k3_sum, k3_drawn, kn_its, kn_sets, kn_deep, kn_takes, kn_fights, kn_fades, kn_dip, kn_day, kn_goes, kn_sum, kn_drawn, mk_cp3]) (by simp (disch := first | omega | assumption) only [fN_feed, e2, q2, mp_le, l2, decide_true, decide_false, Bool.not_false, Bool.not_true, Bool.true_or, Bool.or_true, Nat.reduceAdd, xgd, xbi, xbh, xbl, xrI, xrV, xrL, xrR, x00, x10, xb0, xb1, if_true, if_false, mp_inb, mp_tn, mp_nn, mp_mul, nI_add, mr_law, mr_dd, mr_zz, mr_nn, mr_pur, mr_str, mr_ros, mr_clo, mr_wlaw, mr_wday, mr_wz, mr_wpur, mr_wstr, mr_wros, mr_wclo, mk_a0, mk_b0, mk_a1, mk_b1, mk_a2, mk_b2, mk_a3, mk_b3, mk_a4, mk_b4, mk_a5, mk_b5, mk_a6, mk_b6, mk_a7, mk_b7, mk_a8, mk_b8, mk_an, mk_bn, mk_ad, mk_bd, mk_az, mk_bz, mk_rR, mk_rR4, mk_ro, mk_rm, mk_wa0, mk_wb0, mk_wa1, mk_wb1, mk_wa2, mk_wb2, mk_wa3, mk_wb3, mk_wa4, mk_wb4, mk_wa5, mk_wb5, mk_wa6, mk_wb6, mk_wa7, mk_wb7, mk_wa8, mk_wb8, mk_wan, mk_wbn, mk_wad, mk_wbd, mk_waz, mk_wbz, mk_wR, mk_wR4, mk_wo, k0_takes, k0_fights, k0_fades, k0_settle, k0_deepen, k0_dip, k0_vat, k0_day, k0_pass, k0_sum, k0_drawn, k3_takes, k3_fights, k3_fades, k3_settle, k3_deepen, k3_dip, k3_vat, k3_day, k3_pass, k3_sum, k3_drawn, kn_its, kn_sets, kn_deep, kn_takes, kn_fights, kn_fades, kn_dip, kn_day, kn_goes, kn_sum, kn_drawn, mk_cp3]) hn (by omega) hR (Oth_succ hO) ⟨_, rfl⟩
