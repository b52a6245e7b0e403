-- p03: the model's days
theorem mp_min9 {x : Int32} (hx : okv 2 x) : (if x + nI 1 < nI 9 then x + nI 1 else nI 9) = if nI 9 ≤ x then x else x + nI 1 := by
  obtain ⟨m, hm, e⟩ := hx
  subst e
  simp (disch := omega) only [nI_add, mp_lt, mp_le]
  by_cases h1 : m + 1 < 9
  · rw [if_pos h1, if_neg (by omega)]
  · rw [if_neg h1]
    by_cases h2 : 9 ≤ m
    · rw [if_pos h2, show m = 9 by omega]
    · rw [if_neg h2, show m + 1 = 9 by omega]
theorem mn_up {n d z J h} (hn : n ≤ 8) (hd : d < 100000) : ∀ k v f A, v + k = 8 → k < f → Rng A n → fN_aDay_b113 f 0 (nI v) (putR 902 (rowOf A n d z J) h) = some ([], putR 902 (rowOf (upL k v A) n (d + 1) z J) h)
  | _, _, 0, _, _, hf, _ => by omega
  | 0, v, f + 1, A, hv, _, _ => by
    have : v = 8 := by omega
    subst this
    unfold fN_aDay_b113 upL
    simp (disch := omega) only [xgd, xbi, xbh, xbl, xrI, xrV, xrL, xrR, mp_inb, mp_tn, mp_eq, mp_eq0, xnz, mp_le, mp_lt, mp_le0, mp_lt0, mp_0le, mp_0lt, mp_nn, mp_mul, nI_add, mp_mod, mp_iteI, mp_r0, mp_r1, mp_r2, mp_r3, mp_r4, mp_r5, mp_r6, mp_r7, mp_r8, mp_rn, mp_rd, mp_rz, mp_w0, mp_w1, mp_w2, mp_w3, mp_w4, mp_w5, mp_w6, mp_w7, mp_w8, mp_wn, mp_wd, mp_wz, mr_r, mr_w, mr_law, mr_day, mr_z, mr_n, mr_pur, mr_str, mr_ros, mr_clo, mr_wlaw, mr_wday, mr_wz, mr_wpur, mr_wstr, mr_wros, mr_wclo, mup_same, mup_ne_t]
    rw [if_pos (Nat.le_refl _)]
  | k + 1, v, f + 1, A, hv, hf, hR => by
    unfold fN_aDay_b113 upL
    simp (disch := omega) only [xgd, xbi, xbh, xbl, xrI, xrV, xrL, xrR, mp_inb, mp_tn, mp_eq, mp_eq0, xnz, mp_le, mp_lt, mp_le0, mp_lt0, mp_0le, mp_0lt, mp_nn, mp_mul, nI_add, mp_mod, mp_iteI, mp_r0, mp_r1, mp_r2, mp_r3, mp_r4, mp_r5, mp_r6, mp_r7, mp_r8, mp_rn, mp_rd, mp_rz, mp_w0, mp_w1, mp_w2, mp_w3, mp_w4, mp_w5, mp_w6, mp_w7, mp_w8, mp_wn, mp_wd, mp_wz, mr_r, mr_w, mr_law, mr_day, mr_z, mr_n, mr_pur, mr_str, mr_ros, mr_clo, mr_wlaw, mr_wday, mr_wz, mr_wpur, mr_wstr, mr_wros, mr_wclo, mup_same, mup_ne_t]
    rw [if_neg (by omega), mp_min9 (hR 2 v (by omega) (show v < 8 by omega))]
    have hR2 : Rng (if nI 9 ≤ A 2 v then A else mup A 2 v (A 2 v + nI 1)) n := by
      split
      · exact hR
      · rename_i h1
        apply Rng_mup hR
        obtain ⟨m, hm, e⟩ := hR 2 v (by omega) (show v < 8 by omega)
        rw [e, mp_le (by omega) (by omega)] at h1
        rw [e, nI_add]
        exact ⟨m + 1, by omega, rfl⟩
    have h2 : mup A 2 v (if nI 9 ≤ A 2 v then A 2 v else A 2 v + nI 1) = if nI 9 ≤ A 2 v then A else mup A 2 v (A 2 v + nI 1) := by
      split
      · exact mup_self rfl
      · rfl
    rw [h2]
    exact mn_up hn hd k (v + 1) f _ (by omega) (by omega) hR2
theorem mp_ge0 {x : Int32} (hx : okv 5 x) : (x < 0) = (x = -(nI 1)) := by
  rcases hx with h | ⟨m, hm, e⟩
  · rw [h]; exact propext ⟨fun _ => rfl, fun _ => mp_neg1⟩
  · subst e; rw [mp_lt0 (by omega), mp_nn (by omega)]
theorem mn_fadeL {n d z J h} (hn : n ≤ 8) (hd : d < 100000) : ∀ k c f A, c + k = n → k < f → Rng A n → fN_aDay_b58 f 0 (nI c) (putR 902 (rowOf A n d z J) h) = some ([], putR 902 (rowOf (upL 8 0 (fadeL k c A)) n (d + 1) z J) h)
  | _, _, 0, _, _, hf, _ => by omega
  | 0, c, f + 1, A, hv, _, hR => by
    have : c = n := by omega
    subst this
    unfold fN_aDay_b58 fadeL
    simp (disch := omega) only [xgd, xbi, xbh, xbl, xrI, xrV, xrL, xrR, mp_inb, mp_tn, mp_eq, mp_eq0, xnz, mp_le, mp_lt, mp_le0, mp_lt0, mp_0le, mp_0lt, mp_nn, mp_mul, nI_add, mp_mod, mp_iteI, mp_r0, mp_r1, mp_r2, mp_r3, mp_r4, mp_r5, mp_r6, mp_r7, mp_r8, mp_rn, mp_rd, mp_rz, mp_w0, mp_w1, mp_w2, mp_w3, mp_w4, mp_w5, mp_w6, mp_w7, mp_w8, mp_wn, mp_wd, mp_wz, mr_r, mr_w, mr_law, mr_day, mr_z, mr_n, mr_pur, mr_str, mr_ros, mr_clo, mr_wlaw, mr_wday, mr_wz, mr_wpur, mr_wstr, mr_wros, mr_wclo, mup_same, mup_ne_t]
    rw [if_pos (Nat.le_refl _)]
    exact mn_up hn hd 8 0 1000 A (by omega) (by omega) hR
  | k + 1, c, f + 1, A, hv, hf, hR => by
    have hR2 : Rng (if A 7 c = nI 1 then deepenA A c (A 6 c - fadesS A c) else A) n := by
      split
      · exact Rng_deepen hR
      · exact hR
    unfold fN_aDay_b58 fadeL
    simp (disch := omega) only [mn_its, mn_fades, mn_deep, xgd, xbi, xbh, xbl, xrI, xrV, xrL, xrR, mp_inb, mp_tn, mp_eq, mp_eq0, xnz, mp_le, mp_lt, mp_le0, mp_lt0, mp_0le, mp_0lt, mp_nn, mp_mul, nI_add, mp_mod, mp_iteI, mp_r0, mp_r1, mp_r2, mp_r3, mp_r4, mp_r5, mp_r6, mp_r7, mp_r8, mp_rn, mp_rd, mp_rz, mp_w0, mp_w1, mp_w2, mp_w3, mp_w4, mp_w5, mp_w6, mp_w7, mp_w8, mp_wn, mp_wd, mp_wz, mr_r, mr_w, mr_law, mr_day, mr_z, mr_n, mr_pur, mr_str, mr_ros, mr_clo, mr_wlaw, mr_wday, mr_wz, mr_wpur, mr_wstr, mr_wros, mr_wclo, mup_same, mup_ne_t]
    rw [if_neg (by omega)]
    by_cases h1 : A 7 c = nI 1
    · rw [if_pos h1] at hR2
      rw [if_pos h1, if_pos h1]
      have hx := mp_ge0 (hR 5 c (by omega) (show c < n by omega))
      unfold deepenA at hR2 ⊢
      by_cases h2 : A 5 c = -(nI 1)
      · rw [if_pos h2] at hR2
        rw [if_pos (show A (4 + 1) c < 0 from hx.mpr h2), if_pos h2]
        exact mn_fadeL hn hd k (c + 1) f _ (by omega) (by omega) hR2
      · rw [if_neg h2] at hR2
        rw [if_neg (show ¬ A (4 + 1) c < 0 from fun hh => h2 (hx.mp hh)), if_neg h2]
        exact mn_fadeL hn hd k (c + 1) f _ (by omega) (by omega) hR2
    · rw [if_neg h1, if_neg h1]
      exact mn_fadeL hn hd k (c + 1) f _ (by omega) (by omega) hR
theorem mn_dipsL {n d z J h v} (hn : n ≤ 8) (hv8 : v < 8) : ∀ k c f A, c + k = n → k < f → Rng A n → fN_aDay_b20 f 0 (nI v) (nI c) (putR 902 (rowOf A n d z J) h) = fN_aDay_b58 1000 0 (nI 0) (putR 902 (rowOf (dipsL v k c A) n d z J) h)
  | _, _, 0, _, _, hf, _ => by omega
  | 0, c, f + 1, A, hv, _, hR => by
    have : c = n := by omega
    subst this
    unfold fN_aDay_b20 dipsL
    simp (disch := omega) only [xgd, xbi, xbh, xbl, xrI, xrV, xrL, xrR, mp_inb, mp_tn, mp_eq, mp_eq0, xnz, mp_le, mp_lt, mp_le0, mp_lt0, mp_0le, mp_0lt, mp_nn, mp_mul, nI_add, mp_mod, mp_iteI, mp_r0, mp_r1, mp_r2, mp_r3, mp_r4, mp_r5, mp_r6, mp_r7, mp_r8, mp_rn, mp_rd, mp_rz, mp_w0, mp_w1, mp_w2, mp_w3, mp_w4, mp_w5, mp_w6, mp_w7, mp_w8, mp_wn, mp_wd, mp_wz, mr_r, mr_w, mr_law, mr_day, mr_z, mr_n, mr_pur, mr_str, mr_ros, mr_clo, mr_wlaw, mr_wday, mr_wz, mr_wpur, mr_wstr, mr_wros, mr_wclo, mup_same, mup_ne_t]
    rw [if_neg (fun hh => hh), if_pos (Nat.le_refl _)]
  | k + 1, c, f + 1, A, hv, hf, hR => by
    unfold fN_aDay_b20 dipsL
    simp (disch := omega) only [mn_its, xgd, xbi, xbh, xbl, xrI, xrV, xrL, xrR, mp_inb, mp_tn, mp_eq, mp_eq0, xnz, mp_le, mp_lt, mp_le0, mp_lt0, mp_0le, mp_0lt, mp_nn, mp_mul, nI_add, mp_mod, mp_iteI, mp_r0, mp_r1, mp_r2, mp_r3, mp_r4, mp_r5, mp_r6, mp_r7, mp_r8, mp_rn, mp_rd, mp_rz, mp_w0, mp_w1, mp_w2, mp_w3, mp_w4, mp_w5, mp_w6, mp_w7, mp_w8, mp_wn, mp_wd, mp_wz, mr_r, mr_w, mr_law, mr_day, mr_z, mr_n, mr_pur, mr_str, mr_ros, mr_clo, mr_wlaw, mr_wday, mr_wz, mr_wpur, mr_wstr, mr_wros, mr_wclo, mup_same, mup_ne_t]
    rw [if_neg (fun hh => hh), if_neg (by omega)]
    by_cases h1 : A 7 c = 0
    · rw [if_pos h1, if_pos h1, mn_dip (by omega) hn hv8 (Rng_le8 hR (by omega)) (Rng_ge2 hR hv8)]
      exact mn_dipsL hn hv8 k (c + 1) f _ (by omega) (by omega) (Rng_dip hR (by omega) hv8)
    · rw [if_neg h1, if_neg h1]
      exact mn_dipsL hn hv8 k (c + 1) f _ (by omega) (by omega) hR
theorem mn_day {A n d z J h} (hn : n ≤ 8) (hd : d < 100000) (hR : Rng A n) : fN_aDay 0 (putR 902 (rowOf A n d z J) h) = some ([], putR 902 (rowOf (dayA A n d) n (d + 1) z J) h) := by
  have h6 : d % 6 < 6 := by omega
  unfold fN_aDay dayA vatA
  simp (disch := omega) only [mp_inb, mp_tn, mr_r, mr_day, mp_mod, nI_add, mr_ros, xgd, xbi, mp_eq0, xnz]
  rcases Rng_ros hR d with h2 | ⟨m, hm, e⟩
  · rw [h2, if_pos mp_neg1]
    have h3 : fN_aDay_b20 1000 0 (-(nI 1)) (nI 0) (putR 902 (rowOf A n d z J) h) = fN_aDay_b58 1000 0 (nI 0) (putR 902 (rowOf A n d z J) h) := by
      unfold fN_aDay_b20
      rw [if_pos mp_neg1]
      rfl
    rw [h3]
    exact mn_fadeL hn hd n 0 1000 A (by omega) (by omega) hR
  · rw [e, mn_dipsL hn hm n 0 1000 A (by omega) (by omega) hR, if_neg (by rw [mp_lt0 (by omega)]; exact fun hh => hh), mp_tn (by omega)]
    exact mn_fadeL hn hd n 0 1000 _ (by omega) (by omega) (Rng_dips hm n 0 A (by omega) hR)
theorem mn_goesL {n z J h q} (hn : n ≤ 8) (hq : q < 1000) : ∀ k i f d A, i + k = q → k < f → d + k < 100000 → Rng A n → fN_goes_b2 f 0 (nI q) (nI i) (putR 902 (rowOf A n d z J) h) = some ([], putR 902 (rowOf (passA n k d A) n (d + k) z J) h)
  | _, _, 0, _, _, _, hf, _, _ => by omega
  | 0, i, f + 1, d, A, hi, _, _, _ => by
    have : i = q := by omega
    subst this
    unfold fN_goes_b2 passA
    simp (disch := omega) only [xgd, xbi, xbh, xbl, xrI, xrV, xrL, xrR, mp_inb, mp_tn, mp_eq, mp_eq0, xnz, mp_le, mp_lt, mp_le0, mp_lt0, mp_0le, mp_0lt, mp_nn, mp_mul, nI_add, mp_mod, mp_iteI, mp_r0, mp_r1, mp_r2, mp_r3, mp_r4, mp_r5, mp_r6, mp_r7, mp_r8, mp_rn, mp_rd, mp_rz, mp_w0, mp_w1, mp_w2, mp_w3, mp_w4, mp_w5, mp_w6, mp_w7, mp_w8, mp_wn, mp_wd, mp_wz, mr_r, mr_w, mr_law, mr_day, mr_z, mr_n, mr_pur, mr_str, mr_ros, mr_clo, mr_wlaw, mr_wday, mr_wz, mr_wpur, mr_wstr, mr_wros, mr_wclo, mup_same, mup_ne_t]
    rw [if_pos (Nat.le_refl _)]
    rfl
  | k + 1, i, f + 1, d, A, hi, hf, hd, hR => by
    unfold fN_goes_b2 passA
    simp (disch := omega) only [xgd, xbi, xbh, xbl, xrI, xrV, xrL, xrR, mp_inb, mp_tn, mp_eq, mp_eq0, xnz, mp_le, mp_lt, mp_le0, mp_lt0, mp_0le, mp_0lt, mp_nn, mp_mul, nI_add, mp_mod, mp_iteI, mp_r0, mp_r1, mp_r2, mp_r3, mp_r4, mp_r5, mp_r6, mp_r7, mp_r8, mp_rn, mp_rd, mp_rz, mp_w0, mp_w1, mp_w2, mp_w3, mp_w4, mp_w5, mp_w6, mp_w7, mp_w8, mp_wn, mp_wd, mp_wz, mr_r, mr_w, mr_law, mr_day, mr_z, mr_n, mr_pur, mr_str, mr_ros, mr_clo, mr_wlaw, mr_wday, mr_wz, mr_wpur, mr_wstr, mr_wros, mr_wclo, mup_same, mup_ne_t]
    rw [if_neg (by omega), mn_day hn (by omega) hR]
    simp (disch := omega) only [xgd, xbi, xbh, xbl, xrI, xrV, xrL, xrR, mp_inb, mp_tn, mp_eq, mp_eq0, xnz, mp_le, mp_lt, mp_le0, mp_lt0, mp_0le, mp_0lt, mp_nn, mp_mul, nI_add, mp_mod, mp_iteI, mp_r0, mp_r1, mp_r2, mp_r3, mp_r4, mp_r5, mp_r6, mp_r7, mp_r8, mp_rn, mp_rd, mp_rz, mp_w0, mp_w1, mp_w2, mp_w3, mp_w4, mp_w5, mp_w6, mp_w7, mp_w8, mp_wn, mp_wd, mp_wz, mr_r, mr_w, mr_law, mr_day, mr_z, mr_n, mr_pur, mr_str, mr_ros, mr_clo, mr_wlaw, mr_wday, mr_wz, mr_wpur, mr_wstr, mr_wros, mr_wclo, mup_same, mup_ne_t]
    rw [mn_goesL hn hq k (i + 1) f (d + 1) _ (by omega) (by omega) (by omega) (Rng_day hR)]
    rw [show d + 1 + k = d + (k + 1) by omega]
theorem mn_goes {A n d z J h q} (hn : n ≤ 8) (hq : q < 1000) (hd : d + q < 100000) (hR : Rng A n) : fN_goes 0 (nI q) (putR 902 (rowOf A n d z J) h) = some ([], putR 902 (rowOf (passA n q d A) n (d + q) z J) h) :=
  mn_goesL hn hq q 0 1000 d A (by omega) (by omega) hd hR
theorem mn_sumL {A n d z J h} (hn : n ≤ 8) : ∀ k c f s, c + k = n → k < f → fN_depths_b4 f 0 s (nI c) (putR 902 (rowOf A n d z J) h) = some ([Sum.inl (Value.int (sumD A k c s))], putR 902 (rowOf A n d z J) h)
  | _, _, 0, _, _, hf => by omega
  | 0, c, f + 1, s, hv, _ => by
    have : c = n := by omega
    subst this
    unfold fN_depths_b4 sumD
    simp (disch := omega) only [xgd, xbi, xbh, xbl, xrI, xrV, xrL, xrR, mp_inb, mp_tn, mp_eq, mp_eq0, xnz, mp_le, mp_lt, mp_le0, mp_lt0, mp_0le, mp_0lt, mp_nn, mp_mul, nI_add, mp_mod, mp_iteI, mp_r0, mp_r1, mp_r2, mp_r3, mp_r4, mp_r5, mp_r6, mp_r7, mp_r8, mp_rn, mp_rd, mp_rz, mp_w0, mp_w1, mp_w2, mp_w3, mp_w4, mp_w5, mp_w6, mp_w7, mp_w8, mp_wn, mp_wd, mp_wz, mr_r, mr_w, mr_law, mr_day, mr_z, mr_n, mr_pur, mr_str, mr_ros, mr_clo, mr_wlaw, mr_wday, mr_wz, mr_wpur, mr_wstr, mr_wros, mr_wclo, mup_same, mup_ne_t]
    rw [if_pos (Nat.le_refl _)]
  | k + 1, c, f + 1, s, hv, hf => by
    unfold fN_depths_b4 sumD
    simp (disch := omega) only [mn_its, xgd, xbi, xbh, xbl, xrI, xrV, xrL, xrR, mp_inb, mp_tn, mp_eq, mp_eq0, xnz, mp_le, mp_lt, mp_le0, mp_lt0, mp_0le, mp_0lt, mp_nn, mp_mul, nI_add, mp_mod, mp_iteI, mp_r0, mp_r1, mp_r2, mp_r3, mp_r4, mp_r5, mp_r6, mp_r7, mp_r8, mp_rn, mp_rd, mp_rz, mp_w0, mp_w1, mp_w2, mp_w3, mp_w4, mp_w5, mp_w6, mp_w7, mp_w8, mp_wn, mp_wd, mp_wz, mr_r, mr_w, mr_law, mr_day, mr_z, mr_n, mr_pur, mr_str, mr_ros, mr_clo, mr_wlaw, mr_wday, mr_wz, mr_wpur, mr_wstr, mr_wros, mr_wclo, mup_same, mup_ne_t]
    rw [if_neg (by omega)]
    exact mn_sumL hn k (c + 1) f _ (by omega) (by omega)
theorem mn_sum {A n d z J h} (hn : n ≤ 8) : fN_depths 0 (putR 902 (rowOf A n d z J) h) = some ([Sum.inl (Value.int (sumD A n 0 (nI 0)))], putR 902 (rowOf A n d z J) h) :=
  mn_sumL hn n 0 1000 (nI 0) (by omega) (by omega)
theorem mn_draw {A n d z J h} : fN_draw 0 (putR 902 (rowOf A n d z J) h) = some ([Sum.inl (Value.int (nI (drn z)))], putR 902 (rowOf A n d (zn z) J) h) := by
  rw [← (dr_n z).2]
  unfold fN_draw
  simp (disch := omega) only [mp_inb, mp_tn, mr_r, mr_w, mr_z, mr_wz, xgd, xbh]
  rfl
theorem mn_drawn {A n d z J h} (hn : n ≤ 8) (hd : d < 100000) (hR : Rng A n) : fN_byDraws 0 (putR 902 (rowOf A n d z J) h) = some ([], putR 902 (rowOf (drawA A n d z) n (d + 1) (drawZ A n z) J) h) := by
  have a1 := (dr_n z).1
  have a2 := (dr_n (zn z)).1
  have a3 := (dr_n (zn (zn z))).1
  unfold fN_byDraws drawA drawZ
  simp (disch := omega) only [mp_inb, mp_tn, mr_r, mr_n, mp_le0, xgd]
  by_cases h0 : n = 0
  · rw [if_pos h0, if_pos h0, if_pos h0, mn_day hn hd hR]
    rfl
  · have b1 : drn z % n < n := Nat.mod_lt _ (by omega)
    have b3 : drn (zn (zn z)) % 8 < 8 := Nat.mod_lt _ (by omega)
    rw [if_neg h0, if_neg h0, if_neg h0]
    simp (disch := omega) only [mn_draw, mr_r, mr_n, mp_eq0, mp_mod, xrI, xbi, xnz, xgd, mp_inb, mp_tn, mr_law]
    by_cases h1 : A 0 3 ≤ nI (drn (zn z) % 100)
    · rw [if_pos h1, if_pos h1, if_pos h1, mn_day hn hd hR]
      rfl
    · rw [if_neg h1, if_neg h1, if_neg h1, mn_dip b1 hn b3 (Rng_le8 hR b1) (Rng_ge2 hR b3)]
      simp only [xrV]
      rw [mn_day hn hd (Rng_dip hR b1 b3), xrV]
