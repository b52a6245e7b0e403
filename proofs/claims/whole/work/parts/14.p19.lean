-- p19: sheet, shelf, taken
theorem sort_case (v : Int32) :
    ((∀ h, fV_isIn v (-(nI 1)) (nI 3) h = some ([Sum.inl (Value.int (nI 0))], h)) ∧ (∀ h, fN_in v.toInt64 (-(lN 1)) (lN 3) h = some ([Sum.inl (Value.int (nI 0))], h))) ∨
    ((v = -(nI 1) ∨ ∃ c, c ≤ 3 ∧ v = nI c) ∧ (∀ h, fV_isIn v (-(nI 1)) (nI 3) h = some ([Sum.inl (Value.int (nI 1))], h)) ∧ (∀ h, fN_in v.toInt64 (-(lN 1)) (lN 3) h = some ([Sum.inl (Value.int (nI 1))], h))) := by
  have a1 : (-(nI 1)).toInt = -1 := by decide +kernel
  have a2 : (nI 3).toInt = 3 := nI_toInt (by omega)
  have a3 : (-(lN 1)).toInt = -1 := by decide +kernel
  have a4 : (lN 3).toInt = 3 := lN_toInt (by omega)
  have b1 : (lg_cmp v.toInt64 (-(lN 1)) < 0) = (v.toInt < -1) := by
    rw [propext (lg_cmp_lt _ _), propext Int64.lt_iff_toInt_lt, Int32.toInt_toInt64, a3]
  have b2 : (0 < lg_cmp v.toInt64 (lN 3)) = (3 < v.toInt) := by
    rw [propext (lg_cmp_gt _ _), propext Int64.lt_iff_toInt_lt, Int32.toInt_toInt64, a4]
  have b3 : (v < -(nI 1)) = (v.toInt < -1) := by rw [propext Int32.lt_iff_toInt_lt, a1]
  have b4 : (nI 3 < v) = (3 < v.toInt) := by rw [propext Int32.lt_iff_toInt_lt, a2]
  by_cases d1 : v.toInt < -1
  · left
    refine ⟨fun h => ?_, fun h => ?_⟩
    · unfold fV_isIn
      rw [if_pos (b3.mpr d1), xb0, xgd]
    · unfold fN_in
      rw [if_pos (b1.mpr d1), xb0, xgd]
  · by_cases d2 : 3 < v.toInt
    · left
      refine ⟨fun h => ?_, fun h => ?_⟩
      · unfold fV_isIn
        rw [if_neg (fun hh => d1 (b3.mp hh)), if_pos (b4.mpr d2), xb0, xgd]
      · unfold fN_in
        rw [if_neg (fun hh => d1 (b1.mp hh)), if_pos (b2.mpr d2), xb0, xgd]
    · right
      refine ⟨?_, fun h => ?_, fun h => ?_⟩
      · by_cases d3 : v.toInt = -1
        · exact Or.inl (Int32.toInt_inj.mp (by rw [d3, a1]))
        · refine Or.inr ?_
          have h0 : ¬ v < 0 := by
            rw [Int32.lt_iff_toInt_lt]
            have : (0 : Int32).toInt = 0 := by decide
            omega
          obtain ⟨j, hj, e⟩ := nI_of h0
          have e1 : v.toInt = j := by rw [e]; exact nI_toInt hj
          exact ⟨j, by omega, e⟩
      · unfold fV_isIn
        rw [if_neg (fun hh => d1 (b3.mp hh)), if_neg (fun hh => d2 (b4.mp hh)), xb1, xgd]
      · unfold fN_in
        rw [if_neg (fun hh => d1 (b1.mp hh)), if_neg (fun hh => d2 (b2.mp hh)), xb1, xgd]
theorem w_no {h : H2} {t o k v t' o' k'} (ho : o' ≠ o) : (wI2 h t o k v).1 t' o' k' = h.1 t' o' k' := by
  show mv_up3 h.1 t o k v t' o' k' = _
  unfold mv_up3
  simp only [mp_beq]
  rw [decide_eq_false ho, Bool.false_and, Bool.and_false, cond_false]
def zrR (s i : Nat) (G : Nat → Int32) : Nat → Int32 := fun k => if 40 * s + i ≤ k ∧ k < 40 * s + 40 then nI 0 else G k
theorem nl_zr {A n d z R T tn td tz R4 h s} (hs : s < 4) : ∀ j i f G, i + j = 40 → j < f → fN_sheet_b69 f 0 (nI s) (nI i) (mk A n d z R T tn td tz R4 (putR 915 G h)) = some ([Sum.inl (Value.int (nI 1))], mk A n d z R T tn td tz R4 (putR 915 (zrR s i G) h))
  | _, _, 0, _, _, hf => by omega
  | 0, i, f + 1, G, hi, _ => by
    have e : zrR s i G = G := by
      funext k
      unfold zrR
      rw [if_neg (by omega)]
    unfold fN_sheet_b69
    rw [if_pos (by rw [mp_le (by omega) (by omega)]; omega), e]
  | j + 1, i, f + 1, G, hi, hf => by
    have e : zrR s i G = zrR s (i + 1) (rup G (40 * s + i) (nI 0)) := by
      funext k
      unfold zrR rup
      by_cases h1 : k = 40 * s + i
      · rw [if_pos (by omega), if_neg (by omega), if_pos h1]
      · by_cases h2 : 40 * s + i ≤ k ∧ k < 40 * s + 40
        · rw [if_pos h2, if_pos (by omega)]
        · rw [if_neg h2, if_neg (by omega), if_neg h1]
    unfold fN_sheet_b69
    rw [if_neg (by rw [mp_le (by omega) (by omega)]; omega), mp_mul, nI_add, mp_inb (by omega) (by omega), xgd, mp_tn (by omega), xbh, mk_wo (by omega) (by omega) (by omega), mr_w, xbi, nI_add, e]
    exact nl_zr hs j (i + 1) f _ (by omega) (by omega)
def sheetX (s L : Nat) (so : Int32) (h : H2) : H2 := stS s (some (nr2 h)) (stI (nr2 h) (ni2 h) (nwI L (wI2 (nwS h) 4 (nr2 h) 0 so)))
def sheetY (s : Nat) (so sz : Int32) (h : H2) : H2 := putR 915 (zrR s 0 (fun k => h.1 915 0 k)) (wI2 (wI2 h 913 0 s so) 914 0 s sz)
theorem k_44 {A n d z R T tn td tz R4 h s so sz} (hs : s < 4) : fN_sheet_b69 1000 0 (nI s) (nI 0) (mk A n d z R T tn td tz R4 (wI2 (wI2 h 913 0 s so) 914 0 s sz)) = some ([Sum.inl (Value.int (nI 1))], mk A n d z R T tn td tz R4 (sheetY s so sz h)) := by
  have e := nl_zr (A := A) (n := n) (d := d) (z := z) (R := R) (T := T) (tn := tn) (td := td) (tz := tz) (R4 := R4) (h := wI2 (wI2 h 913 0 s so) 914 0 s sz) hs 40 0 1000 (fun k => h.1 915 0 k) (by omega) (by omega)
  rw [putR_eq (fun k => (w_ne (by omega)).trans (w_ne (by omega)))] at e
  exact e
theorem n_44 {A n d z R T tn td tz R4 h s} {v2 v3 : Int32} (hs : s < 4) : fN_sheet_b44 0 (nI s) v2 v3 (mk A n d z R T tn td tz R4 h) = some ([Sum.inl (Value.int (nI 1))], mk A n d z R T tn td tz R4 (sheetY s v2 (if 0 ≤ v2 then v3 else nI 0) h)) := by
  unfold fN_sheet_b44
  rw [mp_inb hs (by omega), xgd, xbh, mp_tn (by omega), mk_wo (by omega) (by omega) (by omega), xgd, xgd, xbh, xbh, mk_wo (by omega) (by omega) (by omega), mk_wo (by omega) (by omega) (by omega), xbi, xbi]
  by_cases h2 : 0 ≤ v2
  · rw [if_pos h2, if_pos h2, k_44 hs]
  · rw [if_neg h2, if_neg h2, k_44 hs]
theorem Y_ne {h : H2} {s so sz t o k} (h3 : t ≠ 913) (h4 : t ≠ 914) (h5 : t ≠ 915) : (sheetY s so sz h).1 t o k = h.1 t o k := by
  unfold sheetY
  rw [p_ne h5, w_ne h4, w_ne h3]
theorem X_ne {h : H2} {s L so t o k} (h3 : t ≠ 4) (h4 : t ≠ 501) : (sheetX s L so h).1 t o k = h.1 t o k := by
  show (nwI L (wI2 (nwS h) 4 (nr2 h) 0 so)).1 t o k = _
  rw [nwI_ne h4, w_ne h3, nwS_ne h3]
theorem Y_13 {h : H2} {s so sz s'} : (sheetY s so sz h).1 913 0 s' = if s' = s then so else h.1 913 0 s' := by
  unfold sheetY
  rw [p_ne (by omega), w_ne (by omega), w_at]
theorem Y_14 {h : H2} {s so sz s'} : (sheetY s so sz h).1 914 0 s' = if s' = s then sz else h.1 914 0 s' := by
  unfold sheetY
  rw [p_ne (by omega), w_at, w_ne (by omega)]
theorem Y_15 {h : H2} {s so sz k} : (sheetY s so sz h).1 915 0 k = if 40 * s ≤ k ∧ k < 40 * s + 40 then nI 0 else h.1 915 0 k := by
  unfold sheetY
  rw [p_at]
  rfl
theorem X_4 {h : H2} {s L so r} : (sheetX s L so h).1 4 r 0 = if r = nr2 h then so else h.1 4 r 0 := by
  show (nwI L (wI2 (nwS h) 4 (nr2 h) 0 so)).1 4 r 0 = _
  rw [nwI_ne (by omega)]
  by_cases e : r = nr2 h
  · rw [if_pos e, e, w_at, if_pos rfl]
  · rw [if_neg e, w_no e, nwS_at, if_neg e]
theorem X_5 {h : H2} {s L so i k} : (sheetX s L so h).1 501 i k = if i = ni2 h then 0 else h.1 501 i k := by
  show (nwI L (wI2 (nwS h) 4 (nr2 h) 0 so)).1 501 i k = _
  rw [nwI_at, w_ne (by omega), nwS_ne (by omega)]
  rfl
theorem X_s {h : H2} {s L so s'} : sht2 (sheetX s L so h) s' = if s' = s then some (nr2 h) else sht2 h s' := up1_at
theorem X_i {h : H2} {s L so r} : itm2 (sheetX s L so h) r = if r = nr2 h then some (ni2 h) else itm2 h r := by
  show mv_up1 (mv_up1 h.2.2.1 (nr2 h) none) (nr2 h) (some (ni2 h)) r = _
  rw [up1_at, up1_at]
  by_cases e : r = nr2 h
  · rw [if_pos e, if_pos e]
  · rw [if_neg e, if_neg e, if_neg e]; rfl
theorem X_l {h : H2} {s L so i} : len2 (sheetX s L so h) i = if i = ni2 h then L else len2 h i := up1_at
theorem OthS_X {h : H2} {s L so : Nat} (hs : s < 4) (hL : L ≤ 40) (hso : so < 4) (H : OthS h) : OthS (sheetY s (nI so) (nI L) (sheetX s L (nI so) h)) := by
  have z2 : (sheetY s (nI so) (nI L) (sheetX s L (nI so) h)).2 = (sheetX s L (nI so) h).2 := rfl
  have S : ∀ s', sht2 (sheetY s (nI so) (nI L) (sheetX s L (nI so) h)) s' = if s' = s then some (nr2 h) else sht2 h s' := fun s' => X_s
  have I : ∀ r, itm2 (sheetY s (nI so) (nI L) (sheetX s L (nI so) h)) r = if r = nr2 h then some (ni2 h) else itm2 h r := fun r => X_i
  have Ln : ∀ i, len2 (sheetY s (nI so) (nI L) (sheetX s L (nI so) h)) i = if i = ni2 h then L else len2 h i := fun i => X_l
  have nr : nr2 (sheetY s (nI so) (nI L) (sheetX s L (nI so) h)) = nr2 h + 1 := rfl
  have ni : ni2 (sheetY s (nI so) (nI L) (sheetX s L (nI so) h)) = ni2 h + 1 := rfl
  have old : ∀ s' r', s' < 4 → s' ≠ s → sht2 h s' = some r' → r' < nr2 h ∧ ∀ i', itm2 h r' = some i' → i' < ni2 h := fun s' r' h4 hne e => by
    rcases H.1 s' h4 with ⟨y1, _⟩ | ⟨r, i, _, _, y1, y2, _, _, _, y6, y7, _⟩
    · rw [y1] at e; cases e
    · have er : r = r' := Option.some.inj (y1.symm.trans e)
      subst er
      refine ⟨y2, fun i' ei => ?_⟩
      have e2 : i = i' := Option.some.inj (y6.symm.trans ei)
      rw [← e2]; exact y7
  refine ⟨fun s' hs' => ?_, fun s1 s2 r i r' i' h1 h2 hne e1 e2 e3 e4 => ?_⟩
  · by_cases es : s' = s
    · subst es
      refine Or.inr ⟨nr2 h, ni2 h, so, L, ?_, by rw [nr]; omega, ?_, hso, ?_, ?_, by rw [ni]; omega, ?_, hL, ?_, fun k hk => ?_⟩
      · rw [S, if_pos rfl]
      · rw [Y_ne (by omega) (by omega) (by omega), X_4, if_pos rfl]
      · rw [Y_13, if_pos rfl]
      · rw [I, if_pos rfl]
      · rw [Ln, if_pos rfl]
      · rw [Y_14, if_pos rfl]
      · rw [Y_ne (by omega) (by omega) (by omega), X_5, if_pos rfl, Y_15, if_pos (by omega), nI_0]
    · rcases H.1 s' hs' with ⟨y1, y2⟩ | ⟨r, i, so', L', y1, y2, y3, y4, y5, y6, y7, y8, y9, y10, y11⟩
      · refine Or.inl ⟨?_, ?_⟩
        · rw [S, if_neg es]; exact y1
        · rw [Y_13, if_neg es, X_ne (by omega) (by omega)]; exact y2
      · refine Or.inr ⟨r, i, so', L', ?_, by rw [nr]; omega, ?_, y4, ?_, ?_, by rw [ni]; omega, ?_, y9, ?_, fun k hk => ?_⟩
        · rw [S, if_neg es]; exact y1
        · rw [Y_ne (by omega) (by omega) (by omega), X_4, if_neg (by omega)]; exact y3
        · rw [Y_13, if_neg es, X_ne (by omega) (by omega)]; exact y5
        · rw [I, if_neg (by omega)]; exact y6
        · rw [Ln, if_neg (by omega)]; exact y8
        · rw [Y_14, if_neg es, X_ne (by omega) (by omega)]; exact y10
        · rw [Y_ne (by omega) (by omega) (by omega), X_5, if_neg (by omega), Y_15, if_neg (by omega), X_ne (by omega) (by omega)]; exact y11 k hk
  · rw [S] at e1 e3
    rw [I] at e2 e4
    by_cases a1 : s1 = s
    · rw [if_pos a1] at e1
      have a2 : ¬ s2 = s := fun hh => hne (a1.trans hh.symm)
      rw [if_neg a2] at e3
      obtain ⟨b1, b2⟩ := old s2 r' h2 a2 e3
      rw [if_pos (Option.some.inj e1).symm] at e2
      rw [if_neg (by omega)] at e4
      have := b2 i' e4
      have := Option.some.inj e2
      omega
    · rw [if_neg a1] at e1
      obtain ⟨b1, b2⟩ := old s1 r h1 a1 e1
      rw [if_neg (by omega)] at e2
      have b3 := b2 i e2
      by_cases a2 : s2 = s
      · rw [if_pos a2] at e3
        rw [if_pos (Option.some.inj e3).symm] at e4
        have := Option.some.inj e4
        omega
      · rw [if_neg a2] at e3
        obtain ⟨c1, c2⟩ := old s2 r' h2 a2 e3
        rw [if_neg (by omega)] at e4
        exact H.2 s1 s2 r i r' i' h1 h2 hne e1 e2 e3 e4
theorem OthH_X {h : H2} {s L so : Nat} {sz : Int32} (H : OthH h) : OthH (sheetY s (nI so) sz (sheetX s L (nI so) h)) := fun s' hs' => by
  have I : ∀ r, itm2 (sheetY s (nI so) sz (sheetX s L (nI so) h)) r = if r = nr2 h then some (ni2 h) else itm2 h r := fun r => X_i
  have Ln : ∀ i, len2 (sheetY s (nI so) sz (sheetX s L (nI so) h)) i = if i = ni2 h then L else len2 h i := fun i => X_l
  have nr : nr2 (sheetY s (nI so) sz (sheetX s L (nI so) h)) = nr2 h + 1 := rfl
  have ni : ni2 (sheetY s (nI so) sz (sheetX s L (nI so) h)) = ni2 h + 1 := rfl
  have hl : hld2 (sheetY s (nI so) sz (sheetX s L (nI so) h)) s' = hld2 h s' := rfl
  unfold OthH1
  rw [hl, Y_ne (by omega) (by omega) (by omega), Y_ne (by omega) (by omega) (by omega), Y_ne (by omega) (by omega) (by omega), Y_ne (by omega) (by omega) (by omega), X_ne (by omega) (by omega), X_ne (by omega) (by omega), X_ne (by omega) (by omega), X_ne (by omega) (by omega)]
  rcases H s' hs' with y | y | ⟨r, i, so', L', y1, y2, y3, y4, y5, y6, y7, y8, y9, y10, y11, y12⟩
  · exact Or.inl y
  · exact Or.inr (Or.inl y)
  · refine Or.inr (Or.inr ⟨r, i, so', L', y1, y2, y3, by rw [nr]; omega, ?_, y6, y7, ?_, by rw [ni]; omega, ?_, y11, y12⟩)
    · rw [Y_ne (by omega) (by omega) (by omega), X_4, if_neg (by omega)]; exact y5
    · rw [I, if_neg (by omega)]; exact y8
    · rw [Ln, if_neg (by omega)]; exact y10
theorem OthS_n {h : H2} {s : Nat} {sz : Int32} (hs : s < 4) (H : OthS h) : OthS (sheetY s (-(nI 1)) sz (stS s none h)) := by
  have S : ∀ s', sht2 (sheetY s (-(nI 1)) sz (stS s none h)) s' = if s' = s then none else sht2 h s' := fun s' => up1_at
  refine ⟨fun s' hs' => ?_, fun s1 s2 r i r' i' h1 h2 hne e1 e2 e3 e4 => ?_⟩
  · by_cases es : s' = s
    · subst es
      refine Or.inl ⟨?_, ?_⟩
      · rw [S, if_pos rfl]
      · rw [Y_13, if_pos rfl]
    · rcases H.1 s' hs' with ⟨y1, y2⟩ | ⟨r, i, so', L', y1, y2, y3, y4, y5, y6, y7, y8, y9, y10, y11⟩
      · refine Or.inl ⟨?_, ?_⟩
        · rw [S, if_neg es]; exact y1
        · rw [Y_13, if_neg es]; exact y2
      · refine Or.inr ⟨r, i, so', L', ?_, y2, ?_, y4, ?_, y6, y7, y8, y9, ?_, fun k hk => ?_⟩
        · rw [S, if_neg es]; exact y1
        · rw [Y_ne (by omega) (by omega) (by omega)]; exact y3
        · rw [Y_13, if_neg es]; exact y5
        · rw [Y_14, if_neg es]; exact y10
        · rw [Y_ne (by omega) (by omega) (by omega), Y_15, if_neg (by omega)]; exact y11 k hk
  · rw [S] at e1 e3
    by_cases a1 : s1 = s
    · rw [if_pos a1] at e1; cases e1
    · by_cases a2 : s2 = s
      · rw [if_pos a2] at e3; cases e3
      · rw [if_neg a1] at e1
        rw [if_neg a2] at e3
        exact H.2 s1 s2 r i r' i' h1 h2 hne e1 e2 e3 e4
theorem OthH_n {h : H2} {s : Nat} {sz : Int32} (H : OthH h) : OthH (sheetY s (-(nI 1)) sz (stS s none h)) := fun s' hs' => by
  have := H s' hs'
  unfold OthH1 at this ⊢
  simp only [Y_ne (show 4 ≠ 913 by omega) (show 4 ≠ 914 by omega) (show 4 ≠ 915 by omega), Y_ne (show 600 ≠ 913 by omega) (show 600 ≠ 914 by omega) (show 600 ≠ 915 by omega), Y_ne (show 916 ≠ 913 by omega) (show 916 ≠ 914 by omega) (show 916 ≠ 915 by omega), Y_ne (show 917 ≠ 913 by omega) (show 917 ≠ 914 by omega) (show 917 ≠ 915 by omega), Y_ne (show 918 ≠ 913 by omega) (show 918 ≠ 914 by omega) (show 918 ≠ 915 by omega)]
  exact this
theorem g_sheet (v1 v2 v3 : Int32) : Good (fV_sheet 0 v1 v2 v3) (fN_sheet 0 v1 v2 v3) := by
  intro k h hk hI
  obtain ⟨A, n, d, z, J, T, tn, td, tz, R4, h0, rfl, hn, hd, hR, hO⟩ := hI
  rcases sheet_case v1 with ⟨_, e1, e2⟩ | ⟨s, hs, rfl, e1, e2⟩
  · exact fin (h1 := (mk A n d z (rowOf A n d z J) T tn td tz R4 h0)) (A := A) (n := n) (d := d) (z := z) (J := J) (T := T) (tn := tn) (td := td) (tz := tz) (R4 := R4) (h' := h0) (Value.int (-(nI 1))) (by simp (disch := first | omega | assumption) only [fV_sheet, e1, decide_true, decide_false, Bool.not_false, Bool.not_true, Bool.true_or, Bool.or_true, Nat.reduceAdd, xgd, xbi, xbh, xbl, xrI, xrV, xrL, xrR, x00, x10, xb0, xb1, if_true, if_false, mp_inb, mp_tn, mp_nn, mp_mul, nI_add, mr_law, mr_dd, mr_zz, mr_nn, mr_pur, mr_str, mr_ros, mr_clo, mr_wlaw, mr_wday, mr_wz, mr_wpur, mr_wstr, mr_wros, mr_wclo, mk_a0, mk_b0, mk_a1, mk_b1, mk_a2, mk_b2, mk_a3, mk_b3, mk_a4, mk_b4, mk_a5, mk_b5, mk_a6, mk_b6, mk_a7, mk_b7, mk_a8, mk_b8, mk_an, mk_bn, mk_ad, mk_bd, mk_az, mk_bz, mk_rR, mk_rR4, mk_ro, mk_rm, mk_wa0, mk_wb0, mk_wa1, mk_wb1, mk_wa2, mk_wb2, mk_wa3, mk_wb3, mk_wa4, mk_wb4, mk_wa5, mk_wb5, mk_wa6, mk_wb6, mk_wa7, mk_wb7, mk_wa8, mk_wb8, mk_wan, mk_wbn, mk_wad, mk_wbd, mk_waz, mk_wbz, mk_wR, mk_wR4, mk_wo, k0_takes, k0_fights, k0_fades, k0_settle, k0_deepen, k0_dip, k0_vat, k0_day, k0_pass, k0_sum, k0_drawn, k3_takes, k3_fights, k3_fades, k3_settle, k3_deepen, k3_dip, k3_vat, k3_day, k3_pass, k3_sum, k3_drawn, kn_its, kn_sets, kn_deep, kn_takes, kn_fights, kn_fades, kn_dip, kn_day, kn_goes, kn_sum, kn_drawn, mk_cp3]) (by simp (disch := first | omega | assumption) only [fN_sheet, e2, decide_true, decide_false, Bool.not_false, Bool.not_true, Bool.true_or, Bool.or_true, Nat.reduceAdd, xgd, xbi, xbh, xbl, xrI, xrV, xrL, xrR, x00, x10, xb0, xb1, if_true, if_false, mp_inb, mp_tn, mp_nn, mp_mul, nI_add, mr_law, mr_dd, mr_zz, mr_nn, mr_pur, mr_str, mr_ros, mr_clo, mr_wlaw, mr_wday, mr_wz, mr_wpur, mr_wstr, mr_wros, mr_wclo, mk_a0, mk_b0, mk_a1, mk_b1, mk_a2, mk_b2, mk_a3, mk_b3, mk_a4, mk_b4, mk_a5, mk_b5, mk_a6, mk_b6, mk_a7, mk_b7, mk_a8, mk_b8, mk_an, mk_bn, mk_ad, mk_bd, mk_az, mk_bz, mk_rR, mk_rR4, mk_ro, mk_rm, mk_wa0, mk_wb0, mk_wa1, mk_wb1, mk_wa2, mk_wb2, mk_wa3, mk_wb3, mk_wa4, mk_wb4, mk_wa5, mk_wb5, mk_wa6, mk_wb6, mk_wa7, mk_wb7, mk_wa8, mk_wb8, mk_wan, mk_wbn, mk_wad, mk_wbd, mk_waz, mk_wbz, mk_wR, mk_wR4, mk_wo, k0_takes, k0_fights, k0_fades, k0_settle, k0_deepen, k0_dip, k0_vat, k0_day, k0_pass, k0_sum, k0_drawn, k3_takes, k3_fights, k3_fades, k3_settle, k3_deepen, k3_dip, k3_vat, k3_day, k3_pass, k3_sum, k3_drawn, kn_its, kn_sets, kn_deep, kn_takes, kn_fights, kn_fades, kn_dip, kn_day, kn_goes, kn_sum, kn_drawn, mk_cp3]) hn (by omega) hR (Oth_succ hO) ⟨_, rfl⟩
  · rcases sort_case v2 with ⟨f1, f2⟩ | ⟨hv, f1, f2⟩
    · exact fin (h1 := (mk A n d z (rowOf A n d z J) T tn td tz R4 h0)) (A := A) (n := n) (d := d) (z := z) (J := J) (T := T) (tn := tn) (td := td) (tz := tz) (R4 := R4) (h' := h0) (Value.int (-(nI 1))) (by simp (disch := first | omega | assumption) only [fV_sheet, e1, f1, decide_true, decide_false, Bool.not_false, Bool.not_true, Bool.true_or, Bool.or_true, Nat.reduceAdd, xgd, xbi, xbh, xbl, xrI, xrV, xrL, xrR, x00, x10, xb0, xb1, if_true, if_false, mp_inb, mp_tn, mp_nn, mp_mul, nI_add, mr_law, mr_dd, mr_zz, mr_nn, mr_pur, mr_str, mr_ros, mr_clo, mr_wlaw, mr_wday, mr_wz, mr_wpur, mr_wstr, mr_wros, mr_wclo, mk_a0, mk_b0, mk_a1, mk_b1, mk_a2, mk_b2, mk_a3, mk_b3, mk_a4, mk_b4, mk_a5, mk_b5, mk_a6, mk_b6, mk_a7, mk_b7, mk_a8, mk_b8, mk_an, mk_bn, mk_ad, mk_bd, mk_az, mk_bz, mk_rR, mk_rR4, mk_ro, mk_rm, mk_wa0, mk_wb0, mk_wa1, mk_wb1, mk_wa2, mk_wb2, mk_wa3, mk_wb3, mk_wa4, mk_wb4, mk_wa5, mk_wb5, mk_wa6, mk_wb6, mk_wa7, mk_wb7, mk_wa8, mk_wb8, mk_wan, mk_wbn, mk_wad, mk_wbd, mk_waz, mk_wbz, mk_wR, mk_wR4, mk_wo, k0_takes, k0_fights, k0_fades, k0_settle, k0_deepen, k0_dip, k0_vat, k0_day, k0_pass, k0_sum, k0_drawn, k3_takes, k3_fights, k3_fades, k3_settle, k3_deepen, k3_dip, k3_vat, k3_day, k3_pass, k3_sum, k3_drawn, kn_its, kn_sets, kn_deep, kn_takes, kn_fights, kn_fades, kn_dip, kn_day, kn_goes, kn_sum, kn_drawn, mk_cp3]) (by simp (disch := first | omega | assumption) only [fN_sheet, e2, f2, decide_true, decide_false, Bool.not_false, Bool.not_true, Bool.true_or, Bool.or_true, Nat.reduceAdd, xgd, xbi, xbh, xbl, xrI, xrV, xrL, xrR, x00, x10, xb0, xb1, if_true, if_false, mp_inb, mp_tn, mp_nn, mp_mul, nI_add, mr_law, mr_dd, mr_zz, mr_nn, mr_pur, mr_str, mr_ros, mr_clo, mr_wlaw, mr_wday, mr_wz, mr_wpur, mr_wstr, mr_wros, mr_wclo, mk_a0, mk_b0, mk_a1, mk_b1, mk_a2, mk_b2, mk_a3, mk_b3, mk_a4, mk_b4, mk_a5, mk_b5, mk_a6, mk_b6, mk_a7, mk_b7, mk_a8, mk_b8, mk_an, mk_bn, mk_ad, mk_bd, mk_az, mk_bz, mk_rR, mk_rR4, mk_ro, mk_rm, mk_wa0, mk_wb0, mk_wa1, mk_wb1, mk_wa2, mk_wb2, mk_wa3, mk_wb3, mk_wa4, mk_wb4, mk_wa5, mk_wb5, mk_wa6, mk_wb6, mk_wa7, mk_wb7, mk_wa8, mk_wb8, mk_wan, mk_wbn, mk_wad, mk_wbd, mk_waz, mk_wbz, mk_wR, mk_wR4, mk_wo, k0_takes, k0_fights, k0_fades, k0_settle, k0_deepen, k0_dip, k0_vat, k0_day, k0_pass, k0_sum, k0_drawn, k3_takes, k3_fights, k3_fades, k3_settle, k3_deepen, k3_dip, k3_vat, k3_day, k3_pass, k3_sum, k3_drawn, kn_its, kn_sets, kn_deep, kn_takes, kn_fights, kn_fades, kn_dip, kn_day, kn_goes, kn_sum, kn_drawn, mk_cp3]) hn (by omega) hR (Oth_succ hO) ⟨_, rfl⟩
    · rcases hv with rfl | ⟨c, hc, rfl⟩
      · have l1 : (-(nI 1) < 0) = True := eq_true mp_neg1
        have l2 : (0 ≤ -(nI 1)) = False := eq_false (by decide +kernel)
        obtain ⟨hC, hK, hRR, hT9, hS, hH, hA9⟩ := hO
        have hO' : Oth (k + 1) (sheetY s (-(nI 1)) (nI 0) (stS s none h0)) := ⟨OthC_fr (h := h0) (fun _ => by rw [Y_ne (by omega) (by omega) (by omega)]; rfl) (fun _ => by rw [Y_ne (by omega) (by omega) (by omega)]; rfl) hC, OthK_succ (OthK_fr (h := h0) (by rw [Y_ne (by omega) (by omega) (by omega)]; rfl) (by rw [Y_ne (by omega) (by omega) (by omega)]; rfl) (fun _ => by rw [Y_ne (by omega) (by omega) (by omega)]; rfl) (fun _ _ _ => by rw [Y_ne (by omega) (by omega) (by omega)]; rfl) (fun _ => by rw [Y_ne (by omega) (by omega) (by omega)]; rfl) hK), OthR_fr (h := h0) (by rw [Y_ne (by omega) (by omega) (by omega)]; rfl) (by rw [Y_ne (by omega) (by omega) (by omega)]; rfl) (fun _ => by rw [Y_ne (by omega) (by omega) (by omega)]; rfl) (fun _ => by rw [Y_ne (by omega) (by omega) (by omega)]; rfl) hRR, OthT_fr (h := h0) (by rw [Y_ne (by omega) (by omega) (by omega)]; rfl) (by rw [Y_ne (by omega) (by omega) (by omega)]; rfl) (fun _ => by rw [Y_ne (by omega) (by omega) (by omega)]; rfl) (fun _ => by rw [Y_ne (by omega) (by omega) (by omega)]; rfl) hT9, OthS_n (by omega) hS, OthH_n hH, OthA_fr (h := h0) (by rw [Y_ne (by omega) (by omega) (by omega)]; rfl) (by rw [Y_ne (by omega) (by omega) (by omega)]; rfl) (fun _ => by rw [Y_ne (by omega) (by omega) (by omega)]; rfl) (fun _ => by rw [Y_ne (by omega) (by omega) (by omega)]; rfl) hA9⟩
        have wr := @n_44 A n d z (rowOf A n d z J) T tn td tz R4 (stS s none h0) s (-(nI 1)) v3 (by omega)
        rw [if_neg (by decide +kernel)] at wr
        exact fin (h1 := (mk A n d z (rowOf A n d z J) T tn td tz R4 (stS s none h0))) (A := A) (n := n) (d := d) (z := z) (J := J) (T := T) (tn := tn) (td := td) (tz := tz) (R4 := R4) (h' := sheetY s (-(nI 1)) (nI 0) (stS s none h0)) (Value.int (nI 1)) (by simp (disch := first | omega | assumption) only [fV_sheet, e1, f1, eq_self, wr_Sn, decide_true, decide_false, Bool.not_false, Bool.not_true, Bool.true_or, Bool.or_true, Nat.reduceAdd, xgd, xbi, xbh, xbl, xrI, xrV, xrL, xrR, x00, x10, xb0, xb1, if_true, if_false, mp_inb, mp_tn, mp_nn, mp_mul, nI_add, mr_law, mr_dd, mr_zz, mr_nn, mr_pur, mr_str, mr_ros, mr_clo, mr_wlaw, mr_wday, mr_wz, mr_wpur, mr_wstr, mr_wros, mr_wclo, mk_a0, mk_b0, mk_a1, mk_b1, mk_a2, mk_b2, mk_a3, mk_b3, mk_a4, mk_b4, mk_a5, mk_b5, mk_a6, mk_b6, mk_a7, mk_b7, mk_a8, mk_b8, mk_an, mk_bn, mk_ad, mk_bd, mk_az, mk_bz, mk_rR, mk_rR4, mk_ro, mk_rm, mk_wa0, mk_wb0, mk_wa1, mk_wb1, mk_wa2, mk_wb2, mk_wa3, mk_wb3, mk_wa4, mk_wb4, mk_wa5, mk_wb5, mk_wa6, mk_wb6, mk_wa7, mk_wb7, mk_wa8, mk_wb8, mk_wan, mk_wbn, mk_wad, mk_wbd, mk_waz, mk_wbz, mk_wR, mk_wR4, mk_wo, k0_takes, k0_fights, k0_fades, k0_settle, k0_deepen, k0_dip, k0_vat, k0_day, k0_pass, k0_sum, k0_drawn, k3_takes, k3_fights, k3_fades, k3_settle, k3_deepen, k3_dip, k3_vat, k3_day, k3_pass, k3_sum, k3_drawn, kn_its, kn_sets, kn_deep, kn_takes, kn_fights, kn_fades, kn_dip, kn_day, kn_goes, kn_sum, kn_drawn, mk_cp3]) (by simp (disch := first | omega | assumption) only [fN_sheet, e2, f2, l1, wr, decide_true, decide_false, Bool.not_false, Bool.not_true, Bool.true_or, Bool.or_true, Nat.reduceAdd, xgd, xbi, xbh, xbl, xrI, xrV, xrL, xrR, x00, x10, xb0, xb1, if_true, if_false, mp_inb, mp_tn, mp_nn, mp_mul, nI_add, mr_law, mr_dd, mr_zz, mr_nn, mr_pur, mr_str, mr_ros, mr_clo, mr_wlaw, mr_wday, mr_wz, mr_wpur, mr_wstr, mr_wros, mr_wclo, mk_a0, mk_b0, mk_a1, mk_b1, mk_a2, mk_b2, mk_a3, mk_b3, mk_a4, mk_b4, mk_a5, mk_b5, mk_a6, mk_b6, mk_a7, mk_b7, mk_a8, mk_b8, mk_an, mk_bn, mk_ad, mk_bd, mk_az, mk_bz, mk_rR, mk_rR4, mk_ro, mk_rm, mk_wa0, mk_wb0, mk_wa1, mk_wb1, mk_wa2, mk_wb2, mk_wa3, mk_wb3, mk_wa4, mk_wb4, mk_wa5, mk_wb5, mk_wa6, mk_wb6, mk_wa7, mk_wb7, mk_wa8, mk_wb8, mk_wan, mk_wbn, mk_wad, mk_wbd, mk_waz, mk_wbz, mk_wR, mk_wR4, mk_wo, k0_takes, k0_fights, k0_fades, k0_settle, k0_deepen, k0_dip, k0_vat, k0_day, k0_pass, k0_sum, k0_drawn, k3_takes, k3_fights, k3_fades, k3_settle, k3_deepen, k3_dip, k3_vat, k3_day, k3_pass, k3_sum, k3_drawn, kn_its, kn_sets, kn_deep, kn_takes, kn_fights, kn_fades, kn_dip, kn_day, kn_goes, kn_sum, kn_drawn, mk_cp3]) hn (by omega) hR hO' ⟨_, rfl⟩
      · by_cases h40 : v3 ≤ nI 40
        · have l4 : (v3 ≤ nI 40) = True := eq_true h40
          by_cases h0' : 0 ≤ v3
          · have l5 : (0 ≤ v3) = True := eq_true h0'
            have hnn : ¬ v3 < 0 := by
              rw [Int32.lt_iff_toInt_lt]
              rw [Int32.le_iff_toInt_le] at h0'
              omega
            obtain ⟨L, hL, rfl⟩ := nI_of hnn
            rw [nI_leI hL (by omega)] at h40
            obtain ⟨hC, hK, hRR, hT9, hS, hH, hA9⟩ := hO
            have hO' : Oth (k + 1) (sheetY s (nI c) (nI L) (sheetX s L (nI c) h0)) := ⟨OthC_fr (h := h0) (fun _ => by rw [Y_ne (by omega) (by omega) (by omega), X_ne (by omega) (by omega)]) (fun _ => by rw [Y_ne (by omega) (by omega) (by omega), X_ne (by omega) (by omega)]) hC, OthK_succ (OthK_fr (h := h0) (by rw [Y_ne (by omega) (by omega) (by omega), X_ne (by omega) (by omega)]) (by rw [Y_ne (by omega) (by omega) (by omega), X_ne (by omega) (by omega)]) (fun _ => by rw [Y_ne (by omega) (by omega) (by omega), X_ne (by omega) (by omega)]) (fun _ _ _ => by rw [Y_ne (by omega) (by omega) (by omega), X_ne (by omega) (by omega)]) (fun _ => by rw [Y_ne (by omega) (by omega) (by omega), X_ne (by omega) (by omega)]) hK), OthR_fr (h := h0) (by rw [Y_ne (by omega) (by omega) (by omega), X_ne (by omega) (by omega)]) (by rw [Y_ne (by omega) (by omega) (by omega), X_ne (by omega) (by omega)]) (fun _ => by rw [Y_ne (by omega) (by omega) (by omega), X_ne (by omega) (by omega)]) (fun _ => by rw [Y_ne (by omega) (by omega) (by omega), X_ne (by omega) (by omega)]) hRR, OthT_fr (h := h0) (by rw [Y_ne (by omega) (by omega) (by omega), X_ne (by omega) (by omega)]) (by rw [Y_ne (by omega) (by omega) (by omega), X_ne (by omega) (by omega)]) (fun _ => by rw [Y_ne (by omega) (by omega) (by omega), X_ne (by omega) (by omega)]) (fun _ => by rw [Y_ne (by omega) (by omega) (by omega), X_ne (by omega) (by omega)]) hT9, OthS_X (by omega) (by omega) (by omega) hS, OthH_X hH, OthA_fr (h := h0) (by rw [Y_ne (by omega) (by omega) (by omega), X_ne (by omega) (by omega)]) (by rw [Y_ne (by omega) (by omega) (by omega), X_ne (by omega) (by omega)]) (fun _ => by rw [Y_ne (by omega) (by omega) (by omega), X_ne (by omega) (by omega)]) (fun _ => by rw [Y_ne (by omega) (by omega) (by omega), X_ne (by omega) (by omega)]) hA9⟩
            have wr := @n_44 A n d z (rowOf A n d z J) T tn td tz R4 (sheetX s L (nI c) h0) s (nI c) (nI L) (by omega)
            rw [if_pos (by rw [mp_0le (by omega)]; trivial)] at wr
            have ws : ∀ {ka : H2 → O2}, wR2 (mk A n d z (rowOf A n d z J) T tn td tz R4 (stI (nr2 h0) (ni2 (nwS h0)) (nwI L (wI2 (nwS h0) 4 (nr2 h0) 0 (nI c))))) 807 0 s (some (4, nr2 h0)) ka = ka (mk A n d z (rowOf A n d z J) T tn td tz R4 (sheetX s L (nI c) h0)) := wr_Ss (Nat.lt_succ_self _)
            have hmk : L < 1000000 := by omega
            exact fin (h1 := (mk A n d z (rowOf A n d z J) T tn td tz R4 (sheetX s L (nI c) h0))) (A := A) (n := n) (d := d) (z := z) (J := J) (T := T) (tn := tn) (td := td) (tz := tz) (R4 := R4) (h' := sheetY s (nI c) (nI L) (sheetX s L (nI c) h0)) (Value.int (nI 1)) (by simp (disch := first | omega | assumption) only [fV_sheet, e1, f1, l4, l5, nw_S, s_init, ws, mp_le, mp_0le, show (L ≤ 40) = True from eq_true h40, decide_true, decide_false, Bool.not_false, Bool.not_true, Bool.true_or, Bool.or_true, Nat.reduceAdd, xgd, xbi, xbh, xbl, xrI, xrV, xrL, xrR, x00, x10, xb0, xb1, if_true, if_false, mp_inb, mp_tn, mp_nn, mp_mul, nI_add, mr_law, mr_dd, mr_zz, mr_nn, mr_pur, mr_str, mr_ros, mr_clo, mr_wlaw, mr_wday, mr_wz, mr_wpur, mr_wstr, mr_wros, mr_wclo, mk_a0, mk_b0, mk_a1, mk_b1, mk_a2, mk_b2, mk_a3, mk_b3, mk_a4, mk_b4, mk_a5, mk_b5, mk_a6, mk_b6, mk_a7, mk_b7, mk_a8, mk_b8, mk_an, mk_bn, mk_ad, mk_bd, mk_az, mk_bz, mk_rR, mk_rR4, mk_ro, mk_rm, mk_wa0, mk_wb0, mk_wa1, mk_wb1, mk_wa2, mk_wb2, mk_wa3, mk_wb3, mk_wa4, mk_wb4, mk_wa5, mk_wb5, mk_wa6, mk_wb6, mk_wa7, mk_wb7, mk_wa8, mk_wb8, mk_wan, mk_wbn, mk_wad, mk_wbd, mk_waz, mk_wbz, mk_wR, mk_wR4, mk_wo, k0_takes, k0_fights, k0_fades, k0_settle, k0_deepen, k0_dip, k0_vat, k0_day, k0_pass, k0_sum, k0_drawn, k3_takes, k3_fights, k3_fades, k3_settle, k3_deepen, k3_dip, k3_vat, k3_day, k3_pass, k3_sum, k3_drawn, kn_its, kn_sets, kn_deep, kn_takes, kn_fights, kn_fades, kn_dip, kn_day, kn_goes, kn_sum, kn_drawn, mk_cp3]) (by simp (disch := first | omega | assumption) only [fN_sheet, e2, f2, l4, l5, mp_lt0, mp_le, mp_0le, show (L ≤ 40) = True from eq_true h40, wr, decide_true, decide_false, Bool.not_false, Bool.not_true, Bool.true_or, Bool.or_true, Nat.reduceAdd, xgd, xbi, xbh, xbl, xrI, xrV, xrL, xrR, x00, x10, xb0, xb1, if_true, if_false, mp_inb, mp_tn, mp_nn, mp_mul, nI_add, mr_law, mr_dd, mr_zz, mr_nn, mr_pur, mr_str, mr_ros, mr_clo, mr_wlaw, mr_wday, mr_wz, mr_wpur, mr_wstr, mr_wros, mr_wclo, mk_a0, mk_b0, mk_a1, mk_b1, mk_a2, mk_b2, mk_a3, mk_b3, mk_a4, mk_b4, mk_a5, mk_b5, mk_a6, mk_b6, mk_a7, mk_b7, mk_a8, mk_b8, mk_an, mk_bn, mk_ad, mk_bd, mk_az, mk_bz, mk_rR, mk_rR4, mk_ro, mk_rm, mk_wa0, mk_wb0, mk_wa1, mk_wb1, mk_wa2, mk_wb2, mk_wa3, mk_wb3, mk_wa4, mk_wb4, mk_wa5, mk_wb5, mk_wa6, mk_wb6, mk_wa7, mk_wb7, mk_wa8, mk_wb8, mk_wan, mk_wbn, mk_wad, mk_wbd, mk_waz, mk_wbz, mk_wR, mk_wR4, mk_wo, k0_takes, k0_fights, k0_fades, k0_settle, k0_deepen, k0_dip, k0_vat, k0_day, k0_pass, k0_sum, k0_drawn, k3_takes, k3_fights, k3_fades, k3_settle, k3_deepen, k3_dip, k3_vat, k3_day, k3_pass, k3_sum, k3_drawn, kn_its, kn_sets, kn_deep, kn_takes, kn_fights, kn_fades, kn_dip, kn_day, kn_goes, kn_sum, kn_drawn, mk_cp3]) hn (by omega) hR hO' ⟨_, rfl⟩
          · have l5 : (0 ≤ v3) = False := eq_false h0'
            exact fin (h1 := (mk A n d z (rowOf A n d z J) T tn td tz R4 h0)) (A := A) (n := n) (d := d) (z := z) (J := J) (T := T) (tn := tn) (td := td) (tz := tz) (R4 := R4) (h' := h0) (Value.int (-(nI 14))) (by simp (disch := first | omega | assumption) only [fV_sheet, e1, f1, l4, l5, decide_true, decide_false, Bool.not_false, Bool.not_true, Bool.true_or, Bool.or_true, Nat.reduceAdd, xgd, xbi, xbh, xbl, xrI, xrV, xrL, xrR, x00, x10, xb0, xb1, if_true, if_false, mp_inb, mp_tn, mp_nn, mp_mul, nI_add, mr_law, mr_dd, mr_zz, mr_nn, mr_pur, mr_str, mr_ros, mr_clo, mr_wlaw, mr_wday, mr_wz, mr_wpur, mr_wstr, mr_wros, mr_wclo, mk_a0, mk_b0, mk_a1, mk_b1, mk_a2, mk_b2, mk_a3, mk_b3, mk_a4, mk_b4, mk_a5, mk_b5, mk_a6, mk_b6, mk_a7, mk_b7, mk_a8, mk_b8, mk_an, mk_bn, mk_ad, mk_bd, mk_az, mk_bz, mk_rR, mk_rR4, mk_ro, mk_rm, mk_wa0, mk_wb0, mk_wa1, mk_wb1, mk_wa2, mk_wb2, mk_wa3, mk_wb3, mk_wa4, mk_wb4, mk_wa5, mk_wb5, mk_wa6, mk_wb6, mk_wa7, mk_wb7, mk_wa8, mk_wb8, mk_wan, mk_wbn, mk_wad, mk_wbd, mk_waz, mk_wbz, mk_wR, mk_wR4, mk_wo, k0_takes, k0_fights, k0_fades, k0_settle, k0_deepen, k0_dip, k0_vat, k0_day, k0_pass, k0_sum, k0_drawn, k3_takes, k3_fights, k3_fades, k3_settle, k3_deepen, k3_dip, k3_vat, k3_day, k3_pass, k3_sum, k3_drawn, kn_its, kn_sets, kn_deep, kn_takes, kn_fights, kn_fades, kn_dip, kn_day, kn_goes, kn_sum, kn_drawn, mk_cp3]) (by simp (disch := first | omega | assumption) only [fN_sheet, e2, f2, l4, l5, mp_lt0, decide_true, decide_false, Bool.not_false, Bool.not_true, Bool.true_or, Bool.or_true, Nat.reduceAdd, xgd, xbi, xbh, xbl, xrI, xrV, xrL, xrR, x00, x10, xb0, xb1, if_true, if_false, mp_inb, mp_tn, mp_nn, mp_mul, nI_add, mr_law, mr_dd, mr_zz, mr_nn, mr_pur, mr_str, mr_ros, mr_clo, mr_wlaw, mr_wday, mr_wz, mr_wpur, mr_wstr, mr_wros, mr_wclo, mk_a0, mk_b0, mk_a1, mk_b1, mk_a2, mk_b2, mk_a3, mk_b3, mk_a4, mk_b4, mk_a5, mk_b5, mk_a6, mk_b6, mk_a7, mk_b7, mk_a8, mk_b8, mk_an, mk_bn, mk_ad, mk_bd, mk_az, mk_bz, mk_rR, mk_rR4, mk_ro, mk_rm, mk_wa0, mk_wb0, mk_wa1, mk_wb1, mk_wa2, mk_wb2, mk_wa3, mk_wb3, mk_wa4, mk_wb4, mk_wa5, mk_wb5, mk_wa6, mk_wb6, mk_wa7, mk_wb7, mk_wa8, mk_wb8, mk_wan, mk_wbn, mk_wad, mk_wbd, mk_waz, mk_wbz, mk_wR, mk_wR4, mk_wo, k0_takes, k0_fights, k0_fades, k0_settle, k0_deepen, k0_dip, k0_vat, k0_day, k0_pass, k0_sum, k0_drawn, k3_takes, k3_fights, k3_fades, k3_settle, k3_deepen, k3_dip, k3_vat, k3_day, k3_pass, k3_sum, k3_drawn, kn_its, kn_sets, kn_deep, kn_takes, kn_fights, kn_fades, kn_dip, kn_day, kn_goes, kn_sum, kn_drawn, mk_cp3]) hn (by omega) hR (Oth_succ hO) ⟨_, rfl⟩
        · have l4 : (v3 ≤ nI 40) = False := eq_false h40
          exact fin (h1 := (mk A n d z (rowOf A n d z J) T tn td tz R4 h0)) (A := A) (n := n) (d := d) (z := z) (J := J) (T := T) (tn := tn) (td := td) (tz := tz) (R4 := R4) (h' := h0) (Value.int (-(nI 1))) (by simp (disch := first | omega | assumption) only [fV_sheet, e1, f1, l4, decide_true, decide_false, Bool.not_false, Bool.not_true, Bool.true_or, Bool.or_true, Nat.reduceAdd, xgd, xbi, xbh, xbl, xrI, xrV, xrL, xrR, x00, x10, xb0, xb1, if_true, if_false, mp_inb, mp_tn, mp_nn, mp_mul, nI_add, mr_law, mr_dd, mr_zz, mr_nn, mr_pur, mr_str, mr_ros, mr_clo, mr_wlaw, mr_wday, mr_wz, mr_wpur, mr_wstr, mr_wros, mr_wclo, mk_a0, mk_b0, mk_a1, mk_b1, mk_a2, mk_b2, mk_a3, mk_b3, mk_a4, mk_b4, mk_a5, mk_b5, mk_a6, mk_b6, mk_a7, mk_b7, mk_a8, mk_b8, mk_an, mk_bn, mk_ad, mk_bd, mk_az, mk_bz, mk_rR, mk_rR4, mk_ro, mk_rm, mk_wa0, mk_wb0, mk_wa1, mk_wb1, mk_wa2, mk_wb2, mk_wa3, mk_wb3, mk_wa4, mk_wb4, mk_wa5, mk_wb5, mk_wa6, mk_wb6, mk_wa7, mk_wb7, mk_wa8, mk_wb8, mk_wan, mk_wbn, mk_wad, mk_wbd, mk_waz, mk_wbz, mk_wR, mk_wR4, mk_wo, k0_takes, k0_fights, k0_fades, k0_settle, k0_deepen, k0_dip, k0_vat, k0_day, k0_pass, k0_sum, k0_drawn, k3_takes, k3_fights, k3_fades, k3_settle, k3_deepen, k3_dip, k3_vat, k3_day, k3_pass, k3_sum, k3_drawn, kn_its, kn_sets, kn_deep, kn_takes, kn_fights, kn_fades, kn_dip, kn_day, kn_goes, kn_sum, kn_drawn, mk_cp3]) (by simp (disch := first | omega | assumption) only [fN_sheet, e2, f2, l4, mp_lt0, decide_true, decide_false, Bool.not_false, Bool.not_true, Bool.true_or, Bool.or_true, Nat.reduceAdd, xgd, xbi, xbh, xbl, xrI, xrV, xrL, xrR, x00, x10, xb0, xb1, if_true, if_false, mp_inb, mp_tn, mp_nn, mp_mul, nI_add, mr_law, mr_dd, mr_zz, mr_nn, mr_pur, mr_str, mr_ros, mr_clo, mr_wlaw, mr_wday, mr_wz, mr_wpur, mr_wstr, mr_wros, mr_wclo, mk_a0, mk_b0, mk_a1, mk_b1, mk_a2, mk_b2, mk_a3, mk_b3, mk_a4, mk_b4, mk_a5, mk_b5, mk_a6, mk_b6, mk_a7, mk_b7, mk_a8, mk_b8, mk_an, mk_bn, mk_ad, mk_bd, mk_az, mk_bz, mk_rR, mk_rR4, mk_ro, mk_rm, mk_wa0, mk_wb0, mk_wa1, mk_wb1, mk_wa2, mk_wb2, mk_wa3, mk_wb3, mk_wa4, mk_wb4, mk_wa5, mk_wb5, mk_wa6, mk_wb6, mk_wa7, mk_wb7, mk_wa8, mk_wb8, mk_wan, mk_wbn, mk_wad, mk_wbd, mk_waz, mk_wbz, mk_wR, mk_wR4, mk_wo, k0_takes, k0_fights, k0_fades, k0_settle, k0_deepen, k0_dip, k0_vat, k0_day, k0_pass, k0_sum, k0_drawn, k3_takes, k3_fights, k3_fades, k3_settle, k3_deepen, k3_dip, k3_vat, k3_day, k3_pass, k3_sum, k3_drawn, kn_its, kn_sets, kn_deep, kn_takes, kn_fights, kn_fades, kn_dip, kn_day, kn_goes, kn_sum, kn_drawn, mk_cp3]) hn (by omega) hR (Oth_succ hO) ⟨_, rfl⟩
