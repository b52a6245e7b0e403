-- p30: mill
theorem rup_in {R S : Nat → Int32} (h : ∀ k, R k = S k) : R = S := funext h
theorem an_9 {zz h} : ∀ j c f R, c + j = 69 → j < f → fN_anew_b9 f 0 zz (nI c) (putR 902 R h) = fN_anew_b30 1000 0 zz (nI 0) (putR 902 (fun k => if c ≤ k ∧ k < 69 then nI 0 else R k) h)
  | _, _, 0, _, _, hf => by omega
  | 0, c, f + 1, R, hc, _ => by
    have : c = 69 := by omega
    subst this
    unfold fN_anew_b9
    rw [if_pos (by rw [mp_le (by omega) (by omega)]; omega), xbi]
    refine congrArg (fun F => fN_anew_b30 1000 0 zz (nI 0) (putR 902 F h)) (funext fun k => ?_)
    rw [if_neg (by omega)]
  | j + 1, c, f + 1, R, hc, hf => by
    unfold fN_anew_b9
    rw [if_neg (by rw [mp_le (by omega) (by omega)]; omega), mp_inb (by omega) (by omega), xgd, xbh, mp_tn (by omega), mr_w, xbi, nI_add, an_9 j (c + 1) f _ (by omega) (by omega)]
    refine congrArg (fun F => fN_anew_b30 1000 0 zz (nI 0) (putR 902 F h)) (funext fun k => ?_)
    unfold rup
    by_cases h1 : c + 1 ≤ k ∧ k < 69
    · rw [if_pos h1, if_pos (by omega)]
    · rw [if_neg h1]
      by_cases h2 : k = c
      · rw [if_pos h2, if_pos (by omega)]
      · rw [if_neg h2, if_neg (by omega)]
def lw1 (k : Nat) : Int32 := if k = 0 then nI 3 else if k = 1 then nI 2 else if k = 2 then nI 4 else nI 20
theorem an_30 {zz} {h : H2} (H : ∀ k, k < 4 → h.1 901 0 k = lw1 k) : ∀ j c f R, c + j = 4 → j < f → fN_anew_b30 f 0 zz (nI c) (putR 902 R h) = fN_anew_b55 1000 0 zz (nI 0) (putR 902 (fun k => if c ≤ k ∧ k < 4 then lw1 k else R k) h)
  | _, _, 0, _, _, hf => by omega
  | 0, c, f + 1, R, hc, _ => by
    have : c = 4 := by omega
    subst this
    unfold fN_anew_b30
    rw [if_pos (by rw [mp_le (by omega) (by omega)]; omega), xbi]
    refine congrArg (fun F => fN_anew_b55 1000 0 zz (nI 0) (putR 902 F h)) (funext fun k => ?_)
    rw [if_neg (by omega)]
  | j + 1, c, f + 1, R, hc, hf => by
    have e : rI2 (putR 902 R h) 901 0 c = lw1 c := (mr_rt (by omega)).trans (H c (by omega))
    unfold fN_anew_b30
    rw [if_neg (by rw [mp_le (by omega) (by omega)]; omega), mp_inb (show c < 4 by omega) (by omega), xgd, mp_inb (show c < 69 by omega) (by omega), xgd, xbh, mp_tn (by omega), e, mr_w, xbi, nI_add, an_30 H j (c + 1) f _ (by omega) (by omega)]
    refine congrArg (fun F => fN_anew_b55 1000 0 zz (nI 0) (putR 902 F h)) (funext fun k => ?_)
    unfold rup
    by_cases h1 : c + 1 ≤ k ∧ k < 4
    · rw [if_pos h1, if_pos (by omega)]
    · rw [if_neg h1]
      by_cases h2 : k = c
      · rw [if_pos h2, if_pos (by omega), h2]
      · rw [if_neg h2, if_neg (by omega)]
theorem an_55 {zz h} : ∀ j c f R, c + j = 8 → j < f → fN_anew_b55 f 0 zz (nI c) (putR 902 R h) = fN_anew_b89 1000 0 zz (nI 0) (putR 902 (fun k => if 7 + c ≤ k ∧ k < 15 then nI (k - 7) else if 15 + c ≤ k ∧ k < 23 then nI 5 else R k) h)
  | _, _, 0, _, _, hf => by omega
  | 0, c, f + 1, R, hc, _ => by
    have : c = 8 := by omega
    subst this
    unfold fN_anew_b55
    rw [if_pos (by rw [mp_le (by omega) (by omega)]; omega), xbi]
    refine congrArg (fun F => fN_anew_b89 1000 0 zz (nI 0) (putR 902 F h)) (funext fun k => ?_)
    rw [if_neg (by omega), if_neg (by omega)]
  | j + 1, c, f + 1, R, hc, hf => by
    unfold fN_anew_b55
    rw [if_neg (by rw [mp_le (by omega) (by omega)]; omega), nI_add, mp_inb (by omega) (by omega), xgd, xbh, mp_tn (by omega), mr_w, nI_add, mp_inb (by omega) (by omega), xgd, xbh, mp_tn (by omega), mr_w, xbi, nI_add, an_55 j (c + 1) f _ (by omega) (by omega)]
    refine congrArg (fun F => fN_anew_b89 1000 0 zz (nI 0) (putR 902 F h)) (funext fun k => ?_)
    unfold rup
    by_cases h1 : 7 + (c + 1) ≤ k ∧ k < 15
    · rw [if_pos h1, if_pos (by omega)]
    · rw [if_neg h1]
      by_cases h2 : k = 7 + c
      · rw [if_neg (by omega), if_neg (by omega), if_pos h2, if_pos (by omega), show k - 7 = c by omega]
      · by_cases h3 : 15 + (c + 1) ≤ k ∧ k < 23
        · rw [if_pos h3, if_neg (by omega), if_pos (by omega)]
        · rw [if_neg h3]
          by_cases h4 : k = 15 + c
          · rw [if_pos h4, if_neg (by omega), if_pos (by omega)]
          · rw [if_neg h4, if_neg h2, if_neg (by omega), if_neg (by omega)]
theorem an_89 {zz h} : ∀ j c f R, c + j = 6 → j < f → fN_anew_b89 f 0 zz (nI c) (putR 902 R h) = some ([], putR 902 (rup (fun k => if 23 + c ≤ k ∧ k < 29 then nI (k - 23) else R k) 5 zz) h)
  | _, _, 0, _, _, hf => by omega
  | 0, c, f + 1, R, hc, _ => by
    have : c = 6 := by omega
    subst this
    unfold fN_anew_b89
    rw [if_pos (by rw [mp_le (by omega) (by omega)]; omega), mp_inb (by omega) (by omega), xgd, xbh, mp_tn (by omega), mr_w]
    refine congrArg (fun F => some (([] : List mv_V), putR 902 (rup F 5 zz) h)) (funext fun k => ?_)
    rw [if_neg (by omega)]
  | j + 1, c, f + 1, R, hc, hf => by
    unfold fN_anew_b89
    rw [if_neg (by rw [mp_le (by omega) (by omega)]; omega), nI_add, mp_inb (by omega) (by omega), xgd, xbh, mp_tn (by omega), mr_w, xbi, nI_add, an_89 j (c + 1) f _ (by omega) (by omega)]
    refine congrArg (fun F => some (([] : List mv_V), putR 902 (rup F 5 zz) h)) (funext fun k => ?_)
    show (if 23 + (c + 1) ≤ k ∧ k < 29 then nI (k - 23) else rup R (23 + c) (nI c) k) = (if 23 + c ≤ k ∧ k < 29 then nI (k - 23) else R k)
    unfold rup
    by_cases h1 : 23 + (c + 1) ≤ k ∧ k < 29
    · rw [if_pos h1, if_pos (by omega)]
    · rw [if_neg h1]
      by_cases h2 : k = 23 + c
      · rw [if_pos h2, if_pos (by omega), show k - 23 = c by omega]
      · rw [if_neg h2, if_neg (by omega)]
theorem n_anew {h : H2} {R B} (H : ∀ k, k < 4 → h.1 901 0 k = lw1 k) : fN_anew 0 (putR 902 R h) = some ([], putR 902 (rowOf (firstA B) 0 0 (R 5) (fun k => if k < 69 then nI 0 else R k)) h) := by
  unfold fN_anew
  rw [mp_inb (by omega) (by omega), xgd, xbi, xbi, mp_tn (by omega), mr_r, an_9 69 0 1000 R (by omega) (by omega), an_30 H 4 0 1000 _ (by omega) (by omega), an_55 8 0 1000 _ (by omega) (by omega), an_89 6 0 1000 _ (by omega) (by omega)]
  refine congrArg (fun F => some (([] : List mv_V), putR 902 F h)) (funext fun k => ?_)
  show (if k = 5 then R 5 else if 23 + 0 ≤ k ∧ k < 29 then nI (k - 23) else if 7 + 0 ≤ k ∧ k < 15 then nI (k - 7) else if 15 + 0 ≤ k ∧ k < 23 then nI 5 else if 0 ≤ k ∧ k < 4 then lw1 k else if 0 ≤ k ∧ k < 69 then nI 0 else R k) = (if k < 4 then firstA B 0 k else if k = 4 then nI 0 else if k = 5 then R 5 else if k = 6 then nI 0 else if k < 15 then firstA B 1 (k - 7) else if k < 23 then firstA B 2 (k - 15) else if k < 29 then firstA B 3 (k - 23) else if (k - 29) / 5 < 0 then firstA B (4 + (k - 29) % 5) ((k - 29) / 5) else (if k < 69 then nI 0 else R k))
  (repeat' split) <;> first | rfl | (exfalso; omega)
def Yr (A : Nat → Nat → Int32) (n d : Nat) (z : Int32) (T : Nat → Nat → Int32) (tn td : Nat) (tz : Int32) (R4 : Nat → Int32) (h : H2) : H2 := putM 3 T tn td tz (putM 0 A n d z (putR 904 R4 h))
theorem mk_Yr {A n d z R T tn td tz R4 h} : mk A n d z R T tn td tz R4 h = putR 902 R (Yr A n d z T tn td tz R4 h) := by
  unfold mk Yr
  rw [putM_putR (show (902 < 300 ∧ 902 ≠ 2) ∨ 308 < 902 by omega), putM_putR (show (902 < 300 ∧ 902 ≠ 2) ∨ 308 < 902 by omega)]
theorem Yr_ne {A n d z T tn td tz R4 h t o k} (ht : (t < 300 ∧ t ≠ 2) ∨ 308 < t) (h4 : t ≠ 904) : (Yr A n d z T tn td tz R4 h).1 t o k = h.1 t o k := by
  unfold Yr
  rw [pm_ne ht, pm_ne ht, p_ne h4]
theorem Yr_w {A n d z T tn td tz R4 h t o k v} (ht : (t < 300 ∧ t ≠ 2) ∨ 308 < t) (h4 : t ≠ 904) : wI2 (Yr A n d z T tn td tz R4 h) t o k v = Yr A n d z T tn td tz R4 (wI2 h t o k v) := by
  unfold Yr
  rw [mp_wt ht, mp_wt ht, mr_wt h4]
theorem Yr_ts {A n d z T tn td tz R4 h f t w} : tsN f t w (Yr A n d z T tn td tz R4 h) = Yr A n d z T tn td tz R4 (tsN f t w h) := by
  unfold tsN
  rw [Yr_w (by omega) (by omega), Yr_w (by omega) (by omega), Yr_w (by omega) (by omega)]
theorem KN_mk {U n d z J f t w A An Ad Az T tn td tz R4 h} : KN U n d z J f t w (Yr A An Ad Az T tn td tz R4 h) = mk A An Ad Az (rowOf U n d z J) T tn td tz R4 (tsN f t w h) := by
  unfold KN
  rw [Yr_ts, mk_Yr]
theorem kn_w7 {U n d z J f t w X v} : wI2 (KN U n d z J f t w X) 8 0 7 v = KN U n d z J f t w (wI2 X 8 0 7 v) := by
  unfold KN tsN
  rw [mr_wt (by omega), w_commk (show 10 ≠ 7 by omega), w_commk (show 9 ≠ 7 by omega), w_commk (show 8 ≠ 7 by omega)]
theorem kn_w12 {U n d z J f t w X v} : wI2 (KN U n d z J f t w X) 8 0 12 v = KN U n d z J f t w (wI2 X 8 0 12 v) := by
  unfold KN tsN
  rw [mr_wt (by omega), w_commk (show 10 ≠ 12 by omega), w_commk (show 9 ≠ 12 by omega), w_commk (show 8 ≠ 12 by omega)]
theorem kn_0 {U n d z J X} : ∃ f0, wI2 (wI2 (putR 902 (rowOf U n d z J) X) 8 0 10 (nI 0)) 8 0 9 (nI 0) = KN U n d z J f0 0 (nI 0) X := by
  obtain ⟨f0, h0⟩ := mp_any (X.1 8 0 8)
  refine ⟨f0, ?_⟩
  unfold KN tsN
  rw [mr_wt (by omega), mr_wt (by omega), w_self (h := X) (t := 8) (o := 0) (k := 8) h0, w_commk (show 10 ≠ 9 by omega)]
theorem kc_0 {U n d z X} : ∃ st so, wI2 (putM 1 U n d z X) 6 0 2 (nI 0) = KC U n d z 0 st so (X.1 6 0 5) X := by
  obtain ⟨st, h3⟩ := mp_any (X.1 6 0 3)
  obtain ⟨so, h4⟩ := mp_any (X.1 6 0 4)
  refine ⟨st, so, ?_⟩
  unfold KC tsC
  rw [mp_wt (by omega), w_self (h := wI2 X 6 0 2 (nI 0)) (t := 6) (o := 0) (k := 3) ((w_nk (by omega)).trans h3), w_self (h := wI2 X 6 0 2 (nI 0)) (t := 6) (o := 0) (k := 4) ((w_nk (by omega)).trans h4), w_self (h := wI2 X 6 0 2 (nI 0)) (t := 6) (o := 0) (k := 5) (w_nk (by omega))]
theorem kc_w1 {U n d z a s so nu X v} : wI2 (KC U n d z a s so nu X) 6 0 1 v = KC U n d z a s so nu (wI2 X 6 0 1 v) := by
  unfold KC tsC
  rw [mp_wt (by omega), w_commk (show 5 ≠ 1 by omega), w_commk (show 4 ≠ 1 by omega), w_commk (show 3 ≠ 1 by omega), w_commk (show 2 ≠ 1 by omega)]
theorem KC_mk {U n d z a s so nu A An Ad Az R T tn td tz R4 h} : KC U n d z a s so nu (mk A An Ad Az R T tn td tz R4 h) = mk A An Ad Az R T tn td tz R4 (KC U n d z a s so nu h) := by
  unfold KC tsC
  rw [mk_wo (by omega) (by omega) (by omega), mk_wo (by omega) (by omega) (by omega), mk_wo (by omega) (by omega) (by omega), mk_wo (by omega) (by omega) (by omega), mk_pM (by omega) (by omega)]
theorem kn_lays3 {A n d z S B N D Z K T tn td tz R4 h} (hN : N ≤ 8) : fN_laysBack 0 (mk A n d z S T tn td tz (lend (rowOf B N D Z K) R4) h) = some ([], mk A n d z (rowOf B N D Z (fun k => if k < 69 then K k else S k)) T tn td tz (lend (rowOf B N D Z K) R4) h) := by
  unfold fN_laysBack fN_become_904_902
  rw [xbi, be_904_902 69 0 1000 _ (by omega) (by omega), xrV, mk_p902]
  refine congrArg (fun F => some (([] : List mv_V), mk A n d z F T tn td tz (lend (rowOf B N D Z K) R4) h)) (funext fun k => ?_)
  rw [show (mk A n d z S T tn td tz (lend (rowOf B N D Z K) R4) h).1 902 0 k = S k from mk_rR, show (mk A n d z S T tn td tz (lend (rowOf B N D Z K) R4) h).1 904 0 k = lend (rowOf B N D Z K) R4 k from mk_rR4]
  unfold lend
  by_cases h1 : k < 69
  · rw [if_pos ⟨Nat.zero_le _, h1⟩, if_pos h1]
    unfold rowOf
    simp only [h1, if_true]
  · rw [if_neg (fun hh => h1 hh.2), row_out hN h1, if_neg h1]
theorem Rng_first {B} : Rng (firstA B) 0 := by
  intro t k ht hk
  unfold firstA
  by_cases h0 : t = 0
  · subst h0
    rw [if_pos rfl]
    show ∃ m, m < 100 ∧ _ = nI m
    split
    · exact ⟨3, by omega, rfl⟩
    · split
      · exact ⟨2, by omega, rfl⟩
      · split
        · exact ⟨4, by omega, rfl⟩
        · exact ⟨20, by omega, rfl⟩
  · rw [if_neg h0]
    by_cases h1 : t = 1
    · subst h1
      rw [if_pos rfl]
      have : k < 8 := hk
      exact ⟨k, by omega, rfl⟩
    · rw [if_neg h1]
      by_cases h2 : t = 2
      · subst h2
        rw [if_pos rfl]
        exact ⟨5, by omega, rfl⟩
      · rw [if_neg h2]
        by_cases h3 : t = 3
        · subst h3
          rw [if_pos rfl]
          have : k < 6 := hk
          exact Or.inr ⟨k, by omega, rfl⟩
        · exfalso
          rcases (show t = 4 ∨ t = 5 ∨ t = 6 ∨ t = 7 ∨ t = 8 by omega) with rfl | rfl | rfl | rfl | rfl <;> exact absurd hk (Nat.not_lt_zero _)
theorem kcn {U n d z a s so nu h t o k} (h6 : t ≠ 6) (ht : (t < 300 ∧ t ≠ 2) ∨ 308 < t) : (KC U n d z a s so nu h).1 t o k = h.1 t o k := by
  unfold KC tsC
  rw [pm_ne ht, w_ne h6, w_ne h6, w_ne h6, w_ne h6]
theorem kcn2 {U n d z a s so nu h t k} (h6 : t ≠ 6) : (KC U n d z a s so nu h).1 t 2 k = h.1 t 2 k := by
  unfold KC tsC
  rw [pm_no (by omega), w_ne h6, w_ne h6, w_ne h6, w_ne h6]
theorem kcn6 {U n d z a s so nu h} : (KC U n d z a s so nu h).1 6 0 1 = h.1 6 0 1 := by
  unfold KC tsC
  rw [pm_ne (by omega), w_nk (by omega), w_nk (by omega), w_nk (by omega), w_nk (by omega)]
theorem tsn {f t w h u o k} (h8 : u ≠ 8) : (tsN f t w h).1 u o k = h.1 u o k := by
  unfold tsN
  rw [w_ne h8, w_ne h8, w_ne h8]
theorem tsn8 {f t w h k} (h1 : k ≠ 8) (h2 : k ≠ 9) (h3 : k ≠ 10) : (tsN f t w h).1 8 0 k = h.1 8 0 k := by
  unfold tsN
  rw [w_nk h3, w_nk h2, w_nk h1]
theorem x_neg1 : (-(nI 1) < 0) = True := eq_true mp_neg1
def FLP (m : Nat) (r : TR) : Prop := ∀ g, r = Sum.inl g → g ≤ m
theorem FL_inl {m f} (h : f ≤ m) : FLP m (Sum.inl f) := fun _ e => Sum.inl.inj e ▸ h
theorem FL_stop {m b s U n} (hs : s ≤ m) : FLP m (stopP m b s U n) := by
  unfold stopP
  by_cases h : stt m b s = true
  · rw [if_pos h]; exact fun _ e => by cases e
  · rw [if_neg h]; exact FL_inl hs
theorem FL_hung {m b s U n} (hs : s ≤ m) : FLP m (hungP m b s U n) := by
  unfold hungP
  by_cases h : wd m b s 5 = true
  · rw [if_pos h]; exact FL_stop (nx_le (b := b) hs).2
  · rw [if_neg h]; exact FL_stop hs
theorem FL_vat {m b s U n} (hs : s ≤ m) : FLP m (vatP m b s U n) := by
  have l1 := (nx_le (b := b) hs).2
  have l2 := (nx_le (b := b) l1).2
  have l3 := (nx_le (b := b) l2).2
  have l4 := (nx_le (b := b) l3).2
  have l5 := (nx_le (b := b) l4).2
  have l6 := (nx_le (b := b) l5).2
  unfold vatP
  (repeat' split) <;> first
    | exact FL_inl (by first | exact hs | exact l1 | exact l2 | exact l3 | exact l4 | exact l5)
    | exact FL_stop (by first | exact hs | exact l1 | exact l2 | exact l3 | exact l4 | exact l5 | exact l6)
    | exact FL_hung (by first | exact hs | exact l1 | exact l2 | exact l3 | exact l4 | exact l5)
theorem FL_day {m b s U n} (hs : s ≤ m) : FLP m (dayP m b s U n) := by
  have l1 := (nx_le (b := b) hs).2
  have l2 := (nx_le (b := b) l1).2
  have l3 := (nx_le (b := b) l2).2
  have l4 := (nx_le (b := b) l3).2
  have l5 := (nx_le (b := b) l4).2
  have l6 := (nx_le (b := b) l5).2
  unfold dayP
  (repeat' split) <;> first
    | exact FL_inl (by first | exact hs | exact l1 | exact l2 | exact l3 | exact l4 | exact l5)
    | exact FL_stop (by first | exact hs | exact l1 | exact l2 | exact l3 | exact l4 | exact l5 | exact l6)
    | exact FL_hung (by first | exact hs | exact l1 | exact l2 | exact l3 | exact l4 | exact l5)
theorem FL_strong {m b s U n} (hs : s ≤ m) : FLP m (strongP m b s U n) := by
  have l1 := (nx_le (b := b) hs).2
  have l2 := (nx_le (b := b) l1).2
  have l3 := (nx_le (b := b) l2).2
  have l4 := (nx_le (b := b) l3).2
  have l5 := (nx_le (b := b) l4).2
  have l6 := (nx_le (b := b) l5).2
  unfold strongP
  (repeat' split) <;> first
    | exact FL_inl (by first | exact hs | exact l1 | exact l2 | exact l3 | exact l4 | exact l5)
    | exact FL_stop (by first | exact hs | exact l1 | exact l2 | exact l3 | exact l4 | exact l5 | exact l6)
    | exact FL_hung (by first | exact hs | exact l1 | exact l2 | exact l3 | exact l4 | exact l5)
theorem FL_law {m b s l U n} (hs : s ≤ m) : FLP m (lawP m b s l U n) := by
  have l1 := (nx_le (b := b) hs).2
  have l2 := (nx_le (b := b) l1).2
  have l3 := (nx_le (b := b) l2).2
  have l4 := (nx_le (b := b) l3).2
  have l5 := (nx_le (b := b) l4).2
  have l6 := (nx_le (b := b) l5).2
  unfold lawP
  (repeat' split) <;> first
    | exact FL_inl (by first | exact hs | exact l1 | exact l2 | exact l3 | exact l4 | exact l5)
    | exact FL_stop (by first | exact hs | exact l1 | exact l2 | exact l3 | exact l4 | exact l5 | exact l6)
    | exact FL_hung (by first | exact hs | exact l1 | exact l2 | exact l3 | exact l4 | exact l5)
theorem FL_cloth {m b s kd U n} (hs : s ≤ m) : FLP m (clothP m b s kd U n) := by
  have l1 := (nx_le (b := b) hs).2
  have l2 := (nx_le (b := b) l1).2
  have l3 := (nx_le (b := b) l2).2
  have l4 := (nx_le (b := b) l3).2
  have l5 := (nx_le (b := b) l4).2
  have l6 := (nx_le (b := b) l5).2
  unfold clothP
  (repeat' split) <;> first
    | exact FL_inl (by first | exact hs | exact l1 | exact l2 | exact l3 | exact l4 | exact l5)
    | exact FL_stop (by first | exact hs | exact l1 | exact l2 | exact l3 | exact l4 | exact l5 | exact l6)
    | exact FL_hung (by first | exact hs | exact l1 | exact l2 | exact l3 | exact l4 | exact l5)
theorem FL_stmt {m b s U n} (hs : s ≤ m) : FLP m (stmtP m b s U n) := by
  unfold stmtP
  (repeat' split) <;> first
    | exact FL_cloth hs
    | exact FL_vat hs
    | exact FL_strong hs
    | exact FL_day hs
    | exact FL_law hs
    | exact FL_inl hs
theorem FL_run {m b} : ∀ f s U n, s ≤ m → n ≤ 8 → Rng U n → FLP m (runP m b f s U n)
  | 0, s, U, n, hs, _, _ => FL_inl hs
  | f + 1, s, U, n, hs, hn, hR => by
    unfold runP
    by_cases h1 : m ≤ s
    · rw [if_pos h1]; exact fun _ e => by cases e
    · rw [if_neg h1]
      cases e : stmtP m b s U n with
      | inl g => exact FL_inl (FL_stmt hs g e)
      | inr q =>
        obtain ⟨V, k, r⟩ := q
        obtain ⟨_, c2, c3, c4⟩ := OK_stmt hs hn hR V k r e
        exact FL_run f r V k c2 c3 c4
theorem flt {m : Nat} {b : Nat → Nat} {f s U n g} (hs : s ≤ m) (hn : n ≤ 8) (hR : Rng U n) (h : runP m b f s U n = Sum.inl g) (hm : m ≤ 200) : g < 1000 := by
  have := FL_run f s U n hs hn hR g h
  omega
theorem g_mill  : Good (fV_mill 0) (fN_mill 0) := by
  intro k h hk hI
  obtain ⟨A, n, d, z, J, T, tn, td, tz, R4, h0, rfl, hn, hd, hR, hO⟩ := hI
  obtain ⟨hC, hK, ⟨rm, hrm, hr1, hr2, hr3⟩, ⟨m, hm, ht1, ht2, ht3⟩, hS, hH, hA9⟩ := hO
  obtain ⟨B, bn, bd, bz, hB⟩ := IsM_any 1 h0
  let b : Nat → Nat := fun k => (h0.1 906 0 k).toNatClampNeg
  have hb : ∀ k, k < 200 → h0.1 906 0 k = nI (b k) ∧ b k < 256 := fun k hk => by
    obtain ⟨_, x, hx, e⟩ := ht3 k hk
    show h0.1 906 0 k = nI ((h0.1 906 0 k).toNatClampNeg) ∧ (h0.1 906 0 k).toNatClampNeg < 256
    rw [e, mp_tn (by omega)]
    exact ⟨rfl, hx⟩
  have hTX : TX m b (mk A n d z (rowOf A n d z J) T tn td tz R4 h0) := ⟨hm, (mk_ro (by omega) (by omega) (by omega)).trans ht1, fun k hk => ⟨((mk_ro (by omega) (by omega) (by omega)).trans (ht3 k hk).1).trans (hb k hk).1, (hb k hk).2⟩⟩
  have e0 : mk A n d z (rowOf A n d z J) T tn td tz R4 h0 = putM 1 B bn bd bz (mk A n d z (rowOf A n d z J) T tn td tz R4 h0) := by
    rw [mk_pM (by omega) (by omega), IsM_eq hB]
  have hq0 := skp_le (m := m) (b := b) (p := 0) (by omega)
  have hRF : Rng (firstA B) 0 := Rng_first
  obtain ⟨st0, so0, ek⟩ := kc_0 (U := firstA B) (n := 0) (d := 0) (z := bz) (X := mk A n d z (rowOf A n d z J) T tn td tz R4 h0)
  have hcr := c_run (d := 0) (z := bz) hTX 300 0 0 (skp m b 0) (firstA B) 0 st0 so0 ((mk A n d z (rowOf A n d z J) T tn td tz R4 h0).1 6 0 5) 1000 (by omega) rfl (by omega) (by omega) (by omega) (by omega) hRF
  have hci : fT_readInto 0 1 (mk A n d z (rowOf A n d z J) T tn td tz R4 h0) = fT_readInto_b11 1000 0 1 (nI 0) (KC (firstA B) 0 0 bz 0 st0 so0 ((mk A n d z (rowOf A n d z J) T tn td tz R4 h0).1 6 0 5) (mk A n d z (rowOf A n d z J) T tn td tz R4 h0)) := by
    rw [← ek]
    conv => lhs; rw [e0]
    unfold fT_readInto
    rw [c_first, xrV, xbh, xbi]
  cases er : runP m b 300 (skp m b 0) (firstA B) 0 with
  | inl f =>
    rw [er] at hcr
    obtain ⟨U', n', a, so, nu, e1⟩ := hcr
    have ec : fV_mill 0 (mk A n d z (rowOf A n d z J) T tn td tz R4 h0) = some ([Sum.inl (Value.int (-(nI 100) - nI f))], mk A n d z (rowOf A n d z J) T tn td tz R4 (KC U' n' 0 bz a f so nu (wI2 h0 6 0 1 (nI 0)))) := by
      have hf31 : ¬ nI f < 0 := by
        obtain ⟨j, hj, ej⟩ : ∃ j : Nat, j < 2 ^ 31 ∧ nI f = nI j := ⟨f, by have := flt hq0.2 (by omega) hRF er hm; omega, rfl⟩
        rw [ej]; exact nI_pos hj
      unfold fV_mill fT_useUp
      rw [hci, e1, xrI, xbi, kc_w1, xbh, xrV, if_neg hf31, mk_wo (by omega) (by omega) (by omega), KC_mk]
    have hy1 : ∀ k, k < 4 → (Yr A n d z T tn td tz (lend (rowOf A n d z J) R4) (KC U' n' 0 bz a f so nu (wI2 h0 6 0 1 (nI 0)))).1 901 0 k = lw1 k := fun k hk => by
      rw [Yr_ne (by omega) (by omega), kcn (by omega) (by omega), w_ne (by omega)]
      exact (hC k hk).2
    have hTN : TN m b (Yr A n d z T tn td tz (lend (rowOf A n d z J) R4) (KC U' n' 0 bz a f so nu (wI2 h0 6 0 1 (nI 0)))) := ⟨hm, by rw [Yr_ne (by omega) (by omega), kcn (by omega) (by omega), w_ne (by omega)]; exact ht2, fun k hk => ⟨by rw [Yr_ne (by omega) (by omega), kcn (by omega) (by omega), w_ne (by omega)]; exact (hb k hk).1, (hb k hk).2⟩⟩
    have hTC : TC (Yr A n d z T tn td tz (lend (rowOf A n d z J) R4) (KC U' n' 0 bz a f so nu (wI2 h0 6 0 1 (nI 0)))) := fun l hl => by
      rw [Yr_ne (by omega) (by omega), kcn (by omega) (by omega), w_ne (by omega)]
      exact (hC l hl).1
    have hz5 : rowOf A n d z J 5 = z := rfl
    obtain ⟨f0, ef⟩ := kn_0 (U := firstA B) (n := 0) (d := 0) (z := z) (J := fun k => if k < 69 then nI 0 else rowOf A n d z J k) (X := Yr A n d z T tn td tz (lend (rowOf A n d z J) R4) (KC U' n' 0 bz a f so nu (wI2 h0 6 0 1 (nI 0))))
    have hnr := n_run2 (d := 0) (z := z) (J := fun k => if k < 69 then nI 0 else rowOf A n d z J k) hTN hTC 300 (skp m b 0) (firstA B) 0 1000 hq0.2 (by omega) (by omega) (by omega) hRF
    have em : fN_mill 0 (mk A n d z (rowOf A n d z J) T tn td tz R4 (KC U' n' 0 bz a f so nu (wI2 h0 6 0 1 (nI 0)))) = fN_mill_b22 1000 0 (KN (firstA B) 0 0 z (fun k => if k < 69 then nI 0 else rowOf A n d z J k) (skp m b 0) (te m b (skp m b 0)) (nI 0) (Yr A n d z T tn td tz (lend (rowOf A n d z J) R4) (KC U' n' 0 bz a f so nu (wI2 h0 6 0 1 (nI 0))))) := by
      unfold fN_mill
      rw [kn_lends, xrV, mk_Yr, n_anew (B := B) hy1, xrV, hz5, xb0, xgd, xbh, xbh, ef, n_next hTN (by omega), xrV]
    rw [er] at hnr
    obtain ⟨V, k', e2⟩ := hnr
    have hO' : Oth (k + 1) (tsN f (te m b f) (nI 1) (wI2 (KC U' n' 0 bz a f so nu (wI2 h0 6 0 1 (nI 0))) 8 0 7 (nI 0))) := ⟨OthC_fr (h := h0) (fun _ => by rw [tsn (by omega), w_ne (by omega), kcn (by omega) (by omega), w_ne (by omega)]) (fun _ => by rw [tsn (by omega), w_ne (by omega), kcn (by omega) (by omega), w_ne (by omega)]) hC, OthK_succ (OthK_fr (h := h0) (by rw [tsn (by omega), w_ne (by omega), kcn (by omega) (by omega), w_ne (by omega)]) (by rw [tsn8 (by omega) (by omega) (by omega), w_nk (by omega), kcn (by omega) (by omega), w_ne (by omega)]) (fun _ => by rw [tsn (by omega), w_ne (by omega), kcn (by omega) (by omega), w_ne (by omega)]) (fun t _ _ => by rw [tsn (by omega), w_ne (by omega), kcn2 (by omega), w_ne (by omega)]) (fun _ => by rw [tsn (by omega), w_ne (by omega), kcn2 (by omega), w_ne (by omega)]) hK), OthR_fr (h := h0) (by rw [tsn (by omega), w_ne (by omega), kcn (by omega) (by omega), w_ne (by omega)]) (by rw [tsn8 (by omega) (by omega) (by omega), w_nk (by omega), kcn (by omega) (by omega), w_ne (by omega)]) (fun _ => by rw [tsn (by omega), w_ne (by omega), kcn (by omega) (by omega), w_ne (by omega)]) (fun _ => by rw [tsn (by omega), w_ne (by omega), kcn (by omega) (by omega), w_ne (by omega)]) ⟨rm, hrm, hr1, hr2, hr3⟩, ⟨0, by omega, by rw [tsn (by omega), w_ne (by omega), kcn6, w_at, if_pos rfl], by rw [tsn8 (by omega) (by omega) (by omega), w_at, if_pos rfl], fun j hj => by rw [tsn (by omega), tsn (by omega), w_ne (by omega), w_ne (by omega), kcn (by omega) (by omega), kcn (by omega) (by omega), w_ne (by omega), w_ne (by omega)]; exact ht3 j hj⟩, OthS_fr (h := h0) rfl (fun _ _ => by rw [tsn (by omega), w_ne (by omega), kcn (by omega) (by omega), w_ne (by omega)]) (fun _ _ => by rw [tsn (by omega), w_ne (by omega), kcn (by omega) (by omega), w_ne (by omega)]) (fun _ => by rw [tsn (by omega), w_ne (by omega), kcn (by omega) (by omega), w_ne (by omega)]) (fun _ => by rw [tsn (by omega), w_ne (by omega), kcn (by omega) (by omega), w_ne (by omega)]) (fun _ => by rw [tsn (by omega), w_ne (by omega), kcn (by omega) (by omega), w_ne (by omega)]) hS, OthH_fr (h := h0) rfl (fun _ _ => by rw [tsn (by omega), w_ne (by omega), kcn (by omega) (by omega), w_ne (by omega)]) (fun _ => by rw [tsn (by omega), w_ne (by omega), kcn (by omega) (by omega), w_ne (by omega)]) (fun _ => by rw [tsn (by omega), w_ne (by omega), kcn (by omega) (by omega), w_ne (by omega)]) (fun _ => by rw [tsn (by omega), w_ne (by omega), kcn (by omega) (by omega), w_ne (by omega)]) (fun _ => by rw [tsn (by omega), w_ne (by omega), kcn (by omega) (by omega), w_ne (by omega)]) hH, OthA_fr (h := h0) (by rw [tsn (by omega), w_ne (by omega), kcn (by omega) (by omega), w_ne (by omega)]) (by rw [tsn8 (by omega) (by omega) (by omega), w_nk (by omega), kcn (by omega) (by omega), w_ne (by omega)]) (fun _ => by rw [tsn (by omega), w_ne (by omega), kcn (by omega) (by omega), w_ne (by omega)]) (fun _ => by rw [tsn (by omega), w_ne (by omega), kcn (by omega) (by omega), w_ne (by omega)]) hA9⟩
    have en : fN_mill 0 (mk A n d z (rowOf A n d z J) T tn td tz R4 (KC U' n' 0 bz a f so nu (wI2 h0 6 0 1 (nI 0)))) = some ([Sum.inl (Value.int (-(nI 100) - nI f))], mk A n d z (rowOf A n d z (fun k => if k < 69 then J k else rowOf V k' 0 z (fun k => if k < 69 then nI 0 else rowOf A n d z J k) k)) T tn td tz (lend (rowOf A n d z J) R4) (tsN f (te m b f) (nI 1) (wI2 (KC U' n' 0 bz a f so nu (wI2 h0 6 0 1 (nI 0))) 8 0 7 (nI 0)))) := by
      rw [em, e2]
      unfold fN_mill_b47
      rw [kn_w7, Yr_w (by omega) (by omega), xbh, kv_10, if_neg x1n, KN_mk, kn_lays3 hn, xrV, mk_ro (by omega) (by omega) (by omega), show rI2 (tsN f (te m b f) (nI 1) (wI2 (KC U' n' 0 bz a f so nu (wI2 h0 6 0 1 (nI 0))) 8 0 7 (nI 0))) 8 0 8 = nI f from (w_nk (by omega)).trans ((w_nk (by omega)).trans (w_at.trans (if_pos rfl)))]
    exact fin (Value.int (-(nI 100) - nI f)) ec en hn (by omega) hR hO' ⟨_, rfl⟩
  | inr q =>
    obtain ⟨U', n', r⟩ := q
    rw [er] at hcr
    obtain ⟨a, st, so, nu, e1⟩ := hcr
    obtain ⟨hn', hR'⟩ := run_ok 300 (skp m b 0) (firstA B) 0 hq0.2 (by omega) hRF U' n' r er
    have ec : fV_mill 0 (mk A n d z (rowOf A n d z J) T tn td tz R4 h0) = some ([Sum.inl (Value.int (nI n'))], mk U' n' 0 z (rowOf A n d z J) T tn td tz R4 (wI2 (KC U' n' 0 z a st so nu (wI2 h0 6 0 1 (nI 0))) 3 0 1 (nI 0))) := by
      unfold fV_mill fT_useUp
      rw [hci, e1, xrI, xbi, kc_w1, xbh, xrV, if_pos (show -(nI 1) < 0 from mp_neg1), mk_wo (by omega) (by omega) (by omega), KC_mk, mk_az, show wI2 (mk A n d z (rowOf A n d z J) T tn td tz R4 (KC U' n' 0 bz a st so nu (wI2 h0 6 0 1 (nI 0)))) 2 1 11 z = mk A n d z (rowOf A n d z J) T tn td tz R4 (KC U' n' 0 z a st so nu (wI2 h0 6 0 1 (nI 0))) from by rw [← KC_mk, ← KC_mk]; exact mp_wz, xbh, cm_copy (show 0 ≠ 1 by omega) (mk_IsMo (A := A) (n := n) (d := d) (z := z) (R := rowOf A n d z J) (T := T) (tn := tn) (td := td) (tz := tz) (R4 := R4) (o := 1) (B := U') (N := n') (D := 0) (Z := z) (by omega) (by omega) (show IsM 1 U' n' 0 z (KC U' n' 0 z a st so nu (wI2 h0 6 0 1 (nI 0))) from IsM_put)), xrV, mk_s0, mk_wo (by omega) (by omega) (by omega), xbh, mk_an]
    have hy1 : ∀ k, k < 4 → (Yr U' n' 0 z T tn td tz (lend (rowOf A n d z J) R4) (wI2 (KC U' n' 0 z a st so nu (wI2 h0 6 0 1 (nI 0))) 3 0 1 (nI 0))).1 901 0 k = lw1 k := fun k hk => by
      rw [Yr_ne (by omega) (by omega), w_ne (by omega), kcn (by omega) (by omega), w_ne (by omega)]
      exact (hC k hk).2
    have hTN : TN m b (Yr U' n' 0 z T tn td tz (lend (rowOf A n d z J) R4) (wI2 (KC U' n' 0 z a st so nu (wI2 h0 6 0 1 (nI 0))) 3 0 1 (nI 0))) := ⟨hm, by rw [Yr_ne (by omega) (by omega), w_ne (by omega), kcn (by omega) (by omega), w_ne (by omega)]; exact ht2, fun k hk => ⟨by rw [Yr_ne (by omega) (by omega), w_ne (by omega), kcn (by omega) (by omega), w_ne (by omega)]; exact (hb k hk).1, (hb k hk).2⟩⟩
    have hTC : TC (Yr U' n' 0 z T tn td tz (lend (rowOf A n d z J) R4) (wI2 (KC U' n' 0 z a st so nu (wI2 h0 6 0 1 (nI 0))) 3 0 1 (nI 0))) := fun l hl => by
      rw [Yr_ne (by omega) (by omega), w_ne (by omega), kcn (by omega) (by omega), w_ne (by omega)]
      exact (hC l hl).1
    have hz5 : rowOf A n d z J 5 = z := rfl
    obtain ⟨f0, ef⟩ := kn_0 (U := firstA B) (n := 0) (d := 0) (z := z) (J := fun k => if k < 69 then nI 0 else rowOf A n d z J k) (X := Yr U' n' 0 z T tn td tz (lend (rowOf A n d z J) R4) (wI2 (KC U' n' 0 z a st so nu (wI2 h0 6 0 1 (nI 0))) 3 0 1 (nI 0)))
    have hnr := n_run2 (d := 0) (z := z) (J := fun k => if k < 69 then nI 0 else rowOf A n d z J k) hTN hTC 300 (skp m b 0) (firstA B) 0 1000 hq0.2 (by omega) (by omega) (by omega) hRF
    have em : fN_mill 0 (mk U' n' 0 z (rowOf A n d z J) T tn td tz R4 (wI2 (KC U' n' 0 z a st so nu (wI2 h0 6 0 1 (nI 0))) 3 0 1 (nI 0))) = fN_mill_b22 1000 0 (KN (firstA B) 0 0 z (fun k => if k < 69 then nI 0 else rowOf A n d z J k) (skp m b 0) (te m b (skp m b 0)) (nI 0) (Yr U' n' 0 z T tn td tz (lend (rowOf A n d z J) R4) (wI2 (KC U' n' 0 z a st so nu (wI2 h0 6 0 1 (nI 0))) 3 0 1 (nI 0)))) := by
      unfold fN_mill
      rw [kn_lends, xrV, mk_Yr, n_anew (B := B) hy1, xrV, hz5, xb0, xgd, xbh, xbh, ef, n_next hTN (by omega), xrV]
    rw [er] at hnr
    have hO' : Oth (k + 1) (tsN r (te m b r) (nI 0) (wI2 (wI2 (wI2 (KC U' n' 0 z a st so nu (wI2 h0 6 0 1 (nI 0))) 3 0 1 (nI 0)) 8 0 7 (nI 0)) 8 0 12 (nI 0))) := ⟨OthC_fr (h := h0) (fun _ => by rw [tsn (by omega), w_ne (by omega), w_ne (by omega), w_ne (by omega), kcn (by omega) (by omega), w_ne (by omega)]) (fun _ => by rw [tsn (by omega), w_ne (by omega), w_ne (by omega), w_ne (by omega), kcn (by omega) (by omega), w_ne (by omega)]) hC, OthK_succ (OthK_fr (h := h0) (by rw [tsn (by omega), w_ne (by omega), w_ne (by omega), w_ne (by omega), kcn (by omega) (by omega), w_ne (by omega)]) (by rw [tsn8 (by omega) (by omega) (by omega), w_nk (by omega), w_nk (by omega), w_ne (by omega), kcn (by omega) (by omega), w_ne (by omega)]) (fun _ => by rw [tsn (by omega), w_ne (by omega), w_ne (by omega), w_ne (by omega), kcn (by omega) (by omega), w_ne (by omega)]) (fun t _ _ => by rw [tsn (by omega), w_ne (by omega), w_ne (by omega), w_ne (by omega), kcn2 (by omega), w_ne (by omega)]) (fun _ => by rw [tsn (by omega), w_ne (by omega), w_ne (by omega), w_ne (by omega), kcn2 (by omega), w_ne (by omega)]) hK), ⟨0, by omega, by rw [tsn (by omega), w_ne (by omega), w_ne (by omega), w_at, if_pos rfl], by rw [tsn8 (by omega) (by omega) (by omega), w_at, if_pos rfl], fun j hj => by rw [tsn (by omega), tsn (by omega), w_ne (by omega), w_ne (by omega), w_ne (by omega), w_ne (by omega), w_ne (by omega), w_ne (by omega), kcn (by omega) (by omega), kcn (by omega) (by omega), w_ne (by omega), w_ne (by omega)]; exact hr3 j hj⟩, ⟨0, by omega, by rw [tsn (by omega), w_ne (by omega), w_ne (by omega), w_ne (by omega), kcn6, w_at, if_pos rfl], by rw [tsn8 (by omega) (by omega) (by omega), w_nk (by omega), w_at, if_pos rfl], fun j hj => by rw [tsn (by omega), tsn (by omega), w_ne (by omega), w_ne (by omega), w_ne (by omega), w_ne (by omega), w_ne (by omega), w_ne (by omega), kcn (by omega) (by omega), kcn (by omega) (by omega), w_ne (by omega), w_ne (by omega)]; exact ht3 j hj⟩, OthS_fr (h := h0) rfl (fun _ _ => by rw [tsn (by omega), w_ne (by omega), w_ne (by omega), w_ne (by omega), kcn (by omega) (by omega), w_ne (by omega)]) (fun _ _ => by rw [tsn (by omega), w_ne (by omega), w_ne (by omega), w_ne (by omega), kcn (by omega) (by omega), w_ne (by omega)]) (fun _ => by rw [tsn (by omega), w_ne (by omega), w_ne (by omega), w_ne (by omega), kcn (by omega) (by omega), w_ne (by omega)]) (fun _ => by rw [tsn (by omega), w_ne (by omega), w_ne (by omega), w_ne (by omega), kcn (by omega) (by omega), w_ne (by omega)]) (fun _ => by rw [tsn (by omega), w_ne (by omega), w_ne (by omega), w_ne (by omega), kcn (by omega) (by omega), w_ne (by omega)]) hS, OthH_fr (h := h0) rfl (fun _ _ => by rw [tsn (by omega), w_ne (by omega), w_ne (by omega), w_ne (by omega), kcn (by omega) (by omega), w_ne (by omega)]) (fun _ => by rw [tsn (by omega), w_ne (by omega), w_ne (by omega), w_ne (by omega), kcn (by omega) (by omega), w_ne (by omega)]) (fun _ => by rw [tsn (by omega), w_ne (by omega), w_ne (by omega), w_ne (by omega), kcn (by omega) (by omega), w_ne (by omega)]) (fun _ => by rw [tsn (by omega), w_ne (by omega), w_ne (by omega), w_ne (by omega), kcn (by omega) (by omega), w_ne (by omega)]) (fun _ => by rw [tsn (by omega), w_ne (by omega), w_ne (by omega), w_ne (by omega), kcn (by omega) (by omega), w_ne (by omega)]) hH, OthA_fr (h := h0) (by rw [tsn (by omega), w_ne (by omega), w_ne (by omega), w_ne (by omega), kcn (by omega) (by omega), w_ne (by omega)]) (by rw [tsn8 (by omega) (by omega) (by omega), w_nk (by omega), w_nk (by omega), w_ne (by omega), kcn (by omega) (by omega), w_ne (by omega)]) (fun _ => by rw [tsn (by omega), w_ne (by omega), w_ne (by omega), w_ne (by omega), kcn (by omega) (by omega), w_ne (by omega)]) (fun _ => by rw [tsn (by omega), w_ne (by omega), w_ne (by omega), w_ne (by omega), kcn (by omega) (by omega), w_ne (by omega)]) hA9⟩
    have en : fN_mill 0 (mk U' n' 0 z (rowOf A n d z J) T tn td tz R4 (wI2 (KC U' n' 0 z a st so nu (wI2 h0 6 0 1 (nI 0))) 3 0 1 (nI 0))) = some ([Sum.inl (Value.int (nI n'))], mk U' n' 0 z (rowOf U' n' 0 z (fun k => if k < 69 then nI 0 else rowOf A n d z J k)) T tn td tz (lend (rowOf A n d z J) R4) (tsN r (te m b r) (nI 0) (wI2 (wI2 (wI2 (KC U' n' 0 z a st so nu (wI2 h0 6 0 1 (nI 0))) 3 0 1 (nI 0)) 8 0 7 (nI 0)) 8 0 12 (nI 0)))) := by
      rw [em, hnr]
      unfold fN_mill_b47
      rw [kn_w7, xbh, kv_10, if_pos nI_0, kn_w12, xbh, mp_inb (by omega) (by omega), xgd, mp_tn (by omega), Yr_w (by omega) (by omega), Yr_w (by omega) (by omega), KN_mk, mk_rR, mr_nn]
    exact fin (Value.int (nI n')) ec en hn' (by omega) hR' hO' ⟨_, rfl⟩

