/-! the loop of the law -/
def lz_lv (x : Int32) : mv_L := [(3, Sum.inl (Value.int x)), (2, Sum.inr (8, 0)), (1, Sum.inr (7, 0)), (0, Sum.inr (10, 0))]
def lz_LK (SL : Nat) (sx : Nat → Int32) : Nat → Nat → mv_L → List mv_V → H2 → Nat → Nat → O2
  | 0 => fun _ _ _ _ _ _ => none
  | n + 1 => fun pc lv st h ce sl => mv_blk rI2 rR2 ln2 wI2 wR2 nw2 cp2 bod (some (SL, sx)) lz_t (lz_g lz_Ph) 600000 7302250 (cond (Nat.beq pc 18) lz_st [18]) (lz_LK SL sx n) 300 (mv_seek pc lz_t) lv st h ce sl
theorem lz_LKX {SL : Nat} {sx : Nat → Int32} {g0 : mv_G} {res : List mv_V × H2} : ∀ (n pc : Nat) (lv : mv_L) (st : List mv_V) (h : H2) (ce sl : Nat), lz_LK SL sx n pc lv st h ce sl = some res → mv_X vw2 lz_md 1000 600000 7302250 (some (SL, sx)) g0 res pc lv st h ce sl
  | 0, _, _, _, _, _, _, hh => by cases hh
  | n + 1, pc, lv, st, h, ce, sl, hh => mv_blkX ax2 lz_G (by decide) lz_k (fun pc lv st h ce sl hh => lz_LKX n pc lv st h ce sl hh) hh
theorem lz_gd {a b m : Nat} (h1 : a ≤ 600000) (h2 : b ≤ 7302250) (h3 : m ≤ 8) : (Nat.ble a 600000 && (Nat.ble b 7302250 && Nat.ble m 8)) = true := by
  simp only [Bool.and_eq_true]
  exact ⟨Nat.ble_eq.mpr h1, Nat.ble_eq.mpr h2, Nat.ble_eq.mpr h3⟩
theorem lz_Inv_succ {k h} (H : Inv k h) : Inv (k + 1) h := by
  obtain ⟨A, n, d, z, J, T, tn, td, tz, R4, h0, e, a, b, c, f⟩ := H
  exact ⟨A, n, d, z, J, T, tn, td, tz, R4, h0, e, a, by omega, c, Oth_succ f⟩
/-- a step of the loop, out of a block's answer -/
def lz_st1 (SL : Nat) (sx : Nat → Int32) (n i k ce sl : Nat) (r : O2) : Prop := ∃ n' h' ce' sl', n ≤ n' ∧ Inv (k + 1) h' ∧ ce' ≤ ce + 2 ∧ sl' ≤ sl + 42 ∧ r = lz_LK SL sx n' 18 (lz_lv (nI (i + 5))) [] h' ce' sl'
theorem lz_st1_if {SL : Nat} {sx : Nat → Int32} {n i k ce sl : Nat} {u v : Int32} {a b : O2} (h1 : lz_st1 SL sx n i k ce sl a) (h2 : lz_st1 SL sx n i k ce sl b) : lz_st1 SL sx n i k ce sl (if u = v then a else b) := by
  by_cases e : u = v
  · rw [if_pos e]; exact h1
  · rw [if_neg e]; exact h2
theorem lz_cmp_self (a : Int64) : lg_cmp a a = 0 := by
  have h1 : ¬ lg_cmp a a < 0 := by rw [lg_cmp_lt, Int64.lt_iff_toInt_lt]; omega
  have h2 : ¬ 0 < lg_cmp a a := by rw [lg_cmp_gt, Int64.lt_iff_toInt_lt]; omega
  apply Int32.toInt_inj.mp
  rw [Int32.lt_iff_toInt_lt] at h1 h2
  have h0 : (0 : Int32).toInt = 0 := by decide
  omega
theorem lz_s0 {SL : Nat} {sx : Nat → Int32} {n i k : Nat} {h : H2} {ce sl : Nat} (hi : i + 5 ≤ SL) (hS : SL ≤ 2560) (hk : k ≤ 600) (hI : Inv k h) (hce : ce + 2 ≤ 600000) (hsl : sl + 42 ≤ 7302250) : lz_st1 SL sx n i k ce sl (lz_LK SL sx (n + 1) 240 (lz_lv (nI i)) [] h ce sl) := by
  obtain ⟨v, h1, h2, e1, e2, I⟩ := g_feed ((((sx (i + 1)).toInt64) <<< ((nI 32).toInt64 &&& 63)) ||| (((sx (i + 2)).toInt64) &&& (lN 4294967295))) (sx (i + 3)) k h hk hI
  refine ⟨n, h2, ce + 0 + 0, sl + 0 + 0, Nat.le_refl _, I, by omega, by omega, ?_⟩
  refine (lz_e0 lz_Ph (lz_LK SL sx n) SL sx 600000 7302250 (nI i) h ce sl).trans ?_
  simp (disch := omega) only [nI_add, mp_inb, mp_tn, xgd, lz_gd, lz_Ph_2, lz_Ph_3, lz_pV_feed_eq, lz_pN_feed_eq, e1, e2, xrI, xbi, if_true]
  rfl
theorem lz_s1 {SL : Nat} {sx : Nat → Int32} {n i k : Nat} {h : H2} {ce sl : Nat} (hi : i + 5 ≤ SL) (hS : SL ≤ 2560) (hk : k ≤ 600) (hI : Inv k h) (hce : ce + 2 ≤ 600000) (hsl : sl + 42 ≤ 7302250) : lz_st1 SL sx n i k ce sl (lz_LK SL sx (n + 1) 303 (lz_lv (nI i)) [] h ce sl) := by
  obtain ⟨v, h1, h2, e1, e2, I⟩ := g_mill  k h hk hI
  refine ⟨n, h2, ce + 0 + 0, sl + 0 + 0, Nat.le_refl _, I, by omega, by omega, ?_⟩
  refine (lz_e1 lz_Ph (lz_LK SL sx n) SL sx 600000 7302250 (nI i) h ce sl).trans ?_
  simp (disch := omega) only [nI_add, mp_inb, mp_tn, xgd, lz_gd, lz_Ph_4, lz_Ph_5, lz_pV_mill_eq, lz_pN_mill_eq, e1, e2, xrI, xbi, if_true]
  rfl
theorem lz_s2 {SL : Nat} {sx : Nat → Int32} {n i k : Nat} {h : H2} {ce sl : Nat} (hi : i + 5 ≤ SL) (hS : SL ≤ 2560) (hk : k ≤ 600) (hI : Inv k h) (hce : ce + 2 ≤ 600000) (hsl : sl + 42 ≤ 7302250) : lz_st1 SL sx n i k ce sl (lz_LK SL sx (n + 1) 316 (lz_lv (nI i)) [] h ce sl) := by
  obtain ⟨v, h1, h2, e1, e2, I⟩ := g_set (sx (i + 1)) (sx (i + 2)) k h hk hI
  refine ⟨n, h2, ce + 0 + 0, sl + 0 + 0, Nat.le_refl _, I, by omega, by omega, ?_⟩
  refine (lz_e2 lz_Ph (lz_LK SL sx n) SL sx 600000 7302250 (nI i) h ce sl).trans ?_
  simp (disch := omega) only [nI_add, mp_inb, mp_tn, xgd, lz_gd, lz_Ph_6, lz_Ph_7, lz_pV_set_eq, lz_pN_set_eq, e1, e2, xrI, xbi, if_true]
  rfl
theorem lz_s3 {SL : Nat} {sx : Nat → Int32} {n i k : Nat} {h : H2} {ce sl : Nat} (hi : i + 5 ≤ SL) (hS : SL ≤ 2560) (hk : k ≤ 600) (hI : Inv k h) (hce : ce + 2 ≤ 600000) (hsl : sl + 42 ≤ 7302250) : lz_st1 SL sx n i k ce sl (lz_LK SL sx (n + 1) 349 (lz_lv (nI i)) [] h ce sl) := by
  obtain ⟨v, h1, h2, e1, e2, I⟩ := g_lawOf (sx (i + 1)) k h hk hI
  refine ⟨n, h2, ce + 0 + 0, sl + 0 + 0, Nat.le_refl _, I, by omega, by omega, ?_⟩
  refine (lz_e3 lz_Ph (lz_LK SL sx n) SL sx 600000 7302250 (nI i) h ce sl).trans ?_
  simp (disch := omega) only [nI_add, mp_inb, mp_tn, xgd, lz_gd, lz_Ph_8, lz_Ph_9, lz_pV_lawOf_eq, lz_pN_lawOf_eq, e1, e2, xrI, xbi, if_true]
  rfl
theorem lz_s4 {SL : Nat} {sx : Nat → Int32} {n i k : Nat} {h : H2} {ce sl : Nat} (hi : i + 5 ≤ SL) (hS : SL ≤ 2560) (hk : k ≤ 600) (hI : Inv k h) (hce : ce + 2 ≤ 600000) (hsl : sl + 42 ≤ 7302250) : lz_st1 SL sx n i k ce sl (lz_LK SL sx (n + 1) 372 (lz_lv (nI i)) [] h ce sl) := by
  obtain ⟨v, h1, h2, e1, e2, I⟩ := g_fill (sx (i + 1)) (sx (i + 2)) (sx (i + 3)) k h hk hI
  refine ⟨n, h2, ce + 0 + 0, sl + 0 + 0, Nat.le_refl _, I, by omega, by omega, ?_⟩
  refine (lz_e4 lz_Ph (lz_LK SL sx n) SL sx 600000 7302250 (nI i) h ce sl).trans ?_
  simp (disch := omega) only [nI_add, mp_inb, mp_tn, xgd, lz_gd, lz_Ph_10, lz_Ph_11, lz_pV_fill_eq, lz_pN_fill_eq, e1, e2, xrI, xbi, if_true]
  rfl
theorem lz_s5 {SL : Nat} {sx : Nat → Int32} {n i k : Nat} {h : H2} {ce sl : Nat} (hi : i + 5 ≤ SL) (hS : SL ≤ 2560) (hk : k ≤ 600) (hI : Inv k h) (hce : ce + 2 ≤ 600000) (hsl : sl + 42 ≤ 7302250) : lz_st1 SL sx n i k ce sl (lz_LK SL sx (n + 1) 415 (lz_lv (nI i)) [] h ce sl) := by
  obtain ⟨v, h1, h2, e1, e2, I⟩ := g_vatOf (sx (i + 1)) (sx (i + 2)) k h hk hI
  refine ⟨n, h2, ce + 0 + 0, sl + 0 + 0, Nat.le_refl _, I, by omega, by omega, ?_⟩
  refine (lz_e5 lz_Ph (lz_LK SL sx n) SL sx 600000 7302250 (nI i) h ce sl).trans ?_
  simp (disch := omega) only [nI_add, mp_inb, mp_tn, xgd, lz_gd, lz_Ph_12, lz_Ph_13, lz_pV_vatOf_eq, lz_pN_vatOf_eq, e1, e2, xrI, xbi, if_true]
  rfl
theorem lz_s6 {SL : Nat} {sx : Nat → Int32} {n i k : Nat} {h : H2} {ce sl : Nat} (hi : i + 5 ≤ SL) (hS : SL ≤ 2560) (hk : k ≤ 600) (hI : Inv k h) (hce : ce + 2 ≤ 600000) (hsl : sl + 42 ≤ 7302250) : lz_st1 SL sx n i k ce sl (lz_LK SL sx (n + 1) 448 (lz_lv (nI i)) [] h ce sl) := by
  obtain ⟨v, h1, h2, e1, e2, I⟩ := g_roster (sx (i + 1)) (sx (i + 2)) k h hk hI
  refine ⟨n, h2, ce + 0 + 0, sl + 0 + 0, Nat.le_refl _, I, by omega, by omega, ?_⟩
  refine (lz_e6 lz_Ph (lz_LK SL sx n) SL sx 600000 7302250 (nI i) h ce sl).trans ?_
  simp (disch := omega) only [nI_add, mp_inb, mp_tn, xgd, lz_gd, lz_Ph_14, lz_Ph_15, lz_pV_roster_eq, lz_pN_roster_eq, e1, e2, xrI, xbi, if_true]
  rfl
theorem lz_s7 {SL : Nat} {sx : Nat → Int32} {n i k : Nat} {h : H2} {ce sl : Nat} (hi : i + 5 ≤ SL) (hS : SL ≤ 2560) (hk : k ≤ 600) (hI : Inv k h) (hce : ce + 2 ≤ 600000) (hsl : sl + 42 ≤ 7302250) : lz_st1 SL sx n i k ce sl (lz_LK SL sx (n + 1) 481 (lz_lv (nI i)) [] h ce sl) := by
  obtain ⟨v, h1, h2, e1, e2, I⟩ := g_rosterOf (sx (i + 1)) k h hk hI
  refine ⟨n, h2, ce + 0 + 0, sl + 0 + 0, Nat.le_refl _, I, by omega, by omega, ?_⟩
  refine (lz_e7 lz_Ph (lz_LK SL sx n) SL sx 600000 7302250 (nI i) h ce sl).trans ?_
  simp (disch := omega) only [nI_add, mp_inb, mp_tn, xgd, lz_gd, lz_Ph_16, lz_Ph_17, lz_pV_rosterOf_eq, lz_pN_rosterOf_eq, e1, e2, xrI, xbi, if_true]
  rfl
theorem lz_s8 {SL : Nat} {sx : Nat → Int32} {n i k : Nat} {h : H2} {ce sl : Nat} (hi : i + 5 ≤ SL) (hS : SL ≤ 2560) (hk : k ≤ 600) (hI : Inv k h) (hce : ce + 2 ≤ 600000) (hsl : sl + 42 ≤ 7302250) : lz_st1 SL sx n i k ce sl (lz_LK SL sx (n + 1) 504 (lz_lv (nI i)) [] h ce sl) := by
  obtain ⟨v, h1, h2, e1, e2, I⟩ := g_cloth (sx (i + 1)) k h hk hI
  refine ⟨n, h2, ce + 0 + 0, sl + 0 + 0, Nat.le_refl _, I, by omega, by omega, ?_⟩
  refine (lz_e8 lz_Ph (lz_LK SL sx n) SL sx 600000 7302250 (nI i) h ce sl).trans ?_
  simp (disch := omega) only [nI_add, mp_inb, mp_tn, xgd, lz_gd, lz_Ph_18, lz_Ph_19, lz_pV_cloth_eq, lz_pN_cloth_eq, e1, e2, xrI, xbi, if_true]
  rfl
theorem lz_s9 {SL : Nat} {sx : Nat → Int32} {n i k : Nat} {h : H2} {ce sl : Nat} (hi : i + 5 ≤ SL) (hS : SL ≤ 2560) (hk : k ≤ 600) (hI : Inv k h) (hce : ce + 2 ≤ 600000) (hsl : sl + 42 ≤ 7302250) : lz_st1 SL sx n i k ce sl (lz_LK SL sx (n + 1) 527 (lz_lv (nI i)) [] h ce sl) := by
  obtain ⟨v, h1, h2, e1, e2, I⟩ := g_of (sx (i + 1)) (sx (i + 2)) k h hk hI
  refine ⟨n, h2, ce + 0 + 0, sl + 0 + 0, Nat.le_refl _, I, by omega, by omega, ?_⟩
  refine (lz_e9 lz_Ph (lz_LK SL sx n) SL sx 600000 7302250 (nI i) h ce sl).trans ?_
  simp (disch := omega) only [nI_add, mp_inb, mp_tn, xgd, lz_gd, lz_Ph_20, lz_Ph_21, lz_pV_of_eq, lz_pN_of_eq, e1, e2, xrI, xbi, if_true]
  rfl
theorem lz_s10 {SL : Nat} {sx : Nat → Int32} {n i k : Nat} {h : H2} {ce sl : Nat} (hi : i + 5 ≤ SL) (hS : SL ≤ 2560) (hk : k ≤ 600) (hI : Inv k h) (hce : ce + 2 ≤ 600000) (hsl : sl + 42 ≤ 7302250) : lz_st1 SL sx n i k ce sl (lz_LK SL sx (n + 1) 560 (lz_lv (nI i)) [] h ce sl) := by
  obtain ⟨v, h1, h2, e1, e2, I⟩ := g_does (sx (i + 1)) (sx (i + 2)) (sx (i + 3)) k h hk hI
  refine ⟨n, h2, ce + 0 + 0, sl + 0 + 0, Nat.le_refl _, I, by omega, by omega, ?_⟩
  refine (lz_e10 lz_Ph (lz_LK SL sx n) SL sx 600000 7302250 (nI i) h ce sl).trans ?_
  simp (disch := omega) only [nI_add, mp_inb, mp_tn, xgd, lz_gd, lz_Ph_22, lz_Ph_23, lz_pV_does_eq, lz_pN_does_eq, e1, e2, xrI, xbi, if_true]
  rfl
theorem lz_s11 {SL : Nat} {sx : Nat → Int32} {n i k : Nat} {h : H2} {ce sl : Nat} (hi : i + 5 ≤ SL) (hS : SL ≤ 2560) (hk : k ≤ 600) (hI : Inv k h) (hce : ce + 2 ≤ 600000) (hsl : sl + 42 ≤ 7302250) : lz_st1 SL sx n i k ce sl (lz_LK SL sx (n + 1) 603 (lz_lv (nI i)) [] h ce sl) := by
  obtain ⟨v, h1, h2, e1, e2, I⟩ := g_mind (sx (i + 1)) (sx (i + 2)) k h hk hI
  refine ⟨n, h2, ce + 0 + 0, sl + 0 + 0, Nat.le_refl _, I, by omega, by omega, ?_⟩
  refine (lz_e11 lz_Ph (lz_LK SL sx n) SL sx 600000 7302250 (nI i) h ce sl).trans ?_
  simp (disch := omega) only [nI_add, mp_inb, mp_tn, xgd, lz_gd, lz_Ph_24, lz_Ph_25, lz_pV_mind_eq, lz_pN_mind_eq, e1, e2, xrI, xbi, if_true]
  rfl
theorem lz_s12 {SL : Nat} {sx : Nat → Int32} {n i k : Nat} {h : H2} {ce sl : Nat} (hi : i + 5 ≤ SL) (hS : SL ≤ 2560) (hk : k ≤ 600) (hI : Inv k h) (hce : ce + 2 ≤ 600000) (hsl : sl + 42 ≤ 7302250) : lz_st1 SL sx n i k ce sl (lz_LK SL sx (n + 1) 636 (lz_lv (nI i)) [] h ce sl) := by
  obtain ⟨v, h1, h2, e1, e2, I⟩ := g_steep (sx (i + 1)) (sx (i + 2)) (sx (i + 3)) k h hk hI
  refine ⟨n, h2, ce + 0 + 0, sl + 0 + 0, Nat.le_refl _, I, by omega, by omega, ?_⟩
  refine (lz_e12 lz_Ph (lz_LK SL sx n) SL sx 600000 7302250 (nI i) h ce sl).trans ?_
  simp (disch := omega) only [nI_add, mp_inb, mp_tn, xgd, lz_gd, lz_Ph_26, lz_Ph_27, lz_pV_steep_eq, lz_pN_steep_eq, e1, e2, xrI, xbi, if_true]
  rfl
theorem lz_s13 {SL : Nat} {sx : Nat → Int32} {n i k : Nat} {h : H2} {ce sl : Nat} (hi : i + 5 ≤ SL) (hS : SL ≤ 2560) (hk : k ≤ 600) (hI : Inv k h) (hce : ce + 2 ≤ 600000) (hsl : sl + 42 ≤ 7302250) : lz_st1 SL sx n i k ce sl (lz_LK SL sx (n + 1) 679 (lz_lv (nI i)) [] h ce sl) := by
  obtain ⟨v, h1, h2, e1, e2, I⟩ := g_hang (sx (i + 1)) (sx (i + 2)) k h hk hI
  refine ⟨n, h2, ce + 0 + 0, sl + 0 + 0, Nat.le_refl _, I, by omega, by omega, ?_⟩
  refine (lz_e13 lz_Ph (lz_LK SL sx n) SL sx 600000 7302250 (nI i) h ce sl).trans ?_
  simp (disch := omega) only [nI_add, mp_inb, mp_tn, xgd, lz_gd, lz_Ph_28, lz_Ph_29, lz_pV_hang_eq, lz_pN_hang_eq, e1, e2, xrI, xbi, if_true]
  rfl
theorem lz_s14 {SL : Nat} {sx : Nat → Int32} {n i k : Nat} {h : H2} {ce sl : Nat} (hi : i + 5 ≤ SL) (hS : SL ≤ 2560) (hk : k ≤ 600) (hI : Inv k h) (hce : ce + 2 ≤ 600000) (hsl : sl + 42 ≤ 7302250) : lz_st1 SL sx n i k ce sl (lz_LK SL sx (n + 1) 712 (lz_lv (nI i)) [] h ce sl) := by
  obtain ⟨v, h1, h2, e1, e2, I⟩ := g_dip (sx (i + 1)) (sx (i + 2)) k h hk hI
  refine ⟨n, h2, ce + 0 + 0, sl + 0 + 0, Nat.le_refl _, I, by omega, by omega, ?_⟩
  refine (lz_e14 lz_Ph (lz_LK SL sx n) SL sx 600000 7302250 (nI i) h ce sl).trans ?_
  simp (disch := omega) only [nI_add, mp_inb, mp_tn, xgd, lz_gd, lz_Ph_30, lz_Ph_31, lz_pV_dip_eq, lz_pN_dip_eq, e1, e2, xrI, xbi, if_true]
  rfl
theorem lz_s15 {SL : Nat} {sx : Nat → Int32} {n i k : Nat} {h : H2} {ce sl : Nat} (hi : i + 5 ≤ SL) (hS : SL ≤ 2560) (hk : k ≤ 600) (hI : Inv k h) (hce : ce + 2 ≤ 600000) (hsl : sl + 42 ≤ 7302250) : lz_st1 SL sx n i k ce sl (lz_LK SL sx (n + 1) 745 (lz_lv (nI i)) [] h ce sl) := by
  obtain ⟨v, h1, h2, e1, e2, I⟩ := g_days (sx (i + 1)) k h hk hI
  refine ⟨n, h2, ce + 0 + 0, sl + 0 + 0, Nat.le_refl _, I, by omega, by omega, ?_⟩
  refine (lz_e15 lz_Ph (lz_LK SL sx n) SL sx 600000 7302250 (nI i) h ce sl).trans ?_
  simp (disch := omega) only [nI_add, mp_inb, mp_tn, xgd, lz_gd, lz_Ph_32, lz_Ph_33, lz_pV_days_eq, lz_pN_days_eq, e1, e2, xrI, xbi, if_true]
  rfl
theorem lz_s16 {SL : Nat} {sx : Nat → Int32} {n i k : Nat} {h : H2} {ce sl : Nat} (hi : i + 5 ≤ SL) (hS : SL ≤ 2560) (hk : k ≤ 600) (hI : Inv k h) (hce : ce + 2 ≤ 600000) (hsl : sl + 42 ≤ 7302250) : lz_st1 SL sx n i k ce sl (lz_LK SL sx (n + 1) 768 (lz_lv (nI i)) [] h ce sl) := by
  obtain ⟨v, h1, h2, e1, e2, I⟩ := g_seed (sx (i + 1)) k h hk hI
  refine ⟨n, h2, ce + 0 + 0, sl + 0 + 0, Nat.le_refl _, I, by omega, by omega, ?_⟩
  refine (lz_e16 lz_Ph (lz_LK SL sx n) SL sx 600000 7302250 (nI i) h ce sl).trans ?_
  simp (disch := omega) only [nI_add, mp_inb, mp_tn, xgd, lz_gd, lz_Ph_34, lz_Ph_35, lz_pV_seed_eq, lz_pN_seed_eq, e1, e2, xrI, xbi, if_true]
  rfl
theorem lz_s17 {SL : Nat} {sx : Nat → Int32} {n i k : Nat} {h : H2} {ce sl : Nat} (hi : i + 5 ≤ SL) (hS : SL ≤ 2560) (hk : k ≤ 600) (hI : Inv k h) (hce : ce + 2 ≤ 600000) (hsl : sl + 42 ≤ 7302250) : lz_st1 SL sx n i k ce sl (lz_LK SL sx (n + 1) 791 (lz_lv (nI i)) [] h ce sl) := by
  obtain ⟨v, h1, h2, e1, e2, I⟩ := g_day  k h hk hI
  refine ⟨n, h2, ce + 0 + 0, sl + 0 + 0, Nat.le_refl _, I, by omega, by omega, ?_⟩
  refine (lz_e17 lz_Ph (lz_LK SL sx n) SL sx 600000 7302250 (nI i) h ce sl).trans ?_
  simp (disch := omega) only [nI_add, mp_inb, mp_tn, xgd, lz_gd, lz_Ph_36, lz_Ph_37, lz_pV_day_eq, lz_pN_day_eq, e1, e2, xrI, xbi, if_true]
  rfl
theorem lz_s18 {SL : Nat} {sx : Nat → Int32} {n i k : Nat} {h : H2} {ce sl : Nat} (hi : i + 5 ≤ SL) (hS : SL ≤ 2560) (hk : k ≤ 600) (hI : Inv k h) (hce : ce + 2 ≤ 600000) (hsl : sl + 42 ≤ 7302250) : lz_st1 SL sx n i k ce sl (lz_LK SL sx (n + 1) 804 (lz_lv (nI i)) [] h ce sl) := by
  obtain ⟨v, h1, h2, e1, e2, I⟩ := g_luck (sx (i + 1)) k h hk hI
  refine ⟨n, h2, ce + 0 + 0, sl + 0 + 0, Nat.le_refl _, I, by omega, by omega, ?_⟩
  refine (lz_e18 lz_Ph (lz_LK SL sx n) SL sx 600000 7302250 (nI i) h ce sl).trans ?_
  simp (disch := omega) only [nI_add, mp_inb, mp_tn, xgd, lz_gd, lz_Ph_38, lz_Ph_39, lz_pV_luck_eq, lz_pN_luck_eq, e1, e2, xrI, xbi, if_true]
  rfl
theorem lz_s19 {SL : Nat} {sx : Nat → Int32} {n i k : Nat} {h : H2} {ce sl : Nat} (hi : i + 5 ≤ SL) (hS : SL ≤ 2560) (hk : k ≤ 600) (hI : Inv k h) (hce : ce + 2 ≤ 600000) (hsl : sl + 42 ≤ 7302250) : lz_st1 SL sx n i k ce sl (lz_LK SL sx (n + 1) 827 (lz_lv (nI i)) [] h ce sl) := by
  obtain ⟨v, h1, h2, e1, e2, I⟩ := g_state (sx (i + 1)) k h hk hI
  refine ⟨n, h2, ce + 0 + 0, sl + 0 + 0, Nat.le_refl _, I, by omega, by omega, ?_⟩
  refine (lz_e19 lz_Ph (lz_LK SL sx n) SL sx 600000 7302250 (nI i) h ce sl).trans ?_
  simp (disch := omega) only [nI_add, mp_inb, mp_tn, xgd, lz_gd, lz_Ph_40, lz_Ph_41, lz_pV_state_eq, lz_pN_state_eq, e1, e2, xrI, xbi, if_true]
  rfl
theorem lz_s20 {SL : Nat} {sx : Nat → Int32} {n i k : Nat} {h : H2} {ce sl : Nat} (hi : i + 5 ≤ SL) (hS : SL ≤ 2560) (hk : k ≤ 600) (hI : Inv k h) (hce : ce + 2 ≤ 600000) (hsl : sl + 42 ≤ 7302250) : lz_st1 SL sx n i k ce sl (lz_LK SL sx (n + 1) 850 (lz_lv (nI i)) [] h ce sl) := by
  obtain ⟨v, h1, h2, e1, e2, I⟩ := g_gone (sx (i + 1)) (sx (i + 2)) k h hk hI
  refine ⟨n, h2, ce + 0 + 0, sl + 0 + 0, Nat.le_refl _, I, by omega, by omega, ?_⟩
  refine (lz_e20 lz_Ph (lz_LK SL sx n) SL sx 600000 7302250 (nI i) h ce sl).trans ?_
  simp (disch := omega) only [nI_add, mp_inb, mp_tn, xgd, lz_gd, lz_Ph_42, lz_Ph_43, lz_pV_gone_eq, lz_pN_gone_eq, e1, e2, xrI, xbi, if_true]
  rfl
theorem lz_s21 {SL : Nat} {sx : Nat → Int32} {n i k : Nat} {h : H2} {ce sl : Nat} (hi : i + 5 ≤ SL) (hS : SL ≤ 2560) (hk : k ≤ 600) (hI : Inv k h) (hce : ce + 2 ≤ 600000) (hsl : sl + 42 ≤ 7302250) : lz_st1 SL sx n i k ce sl (lz_LK SL sx (n + 1) 883 (lz_lv (nI i)) [] h ce sl) := by
  obtain ⟨v, h1, h2, e1, e2, I⟩ := g_depth (sx (i + 1)) (sx (i + 2)) k h hk hI
  refine ⟨n, h2, ce + 0 + 0, sl + 0 + 0, Nat.le_refl _, I, by omega, by omega, ?_⟩
  refine (lz_e21 lz_Ph (lz_LK SL sx n) SL sx 600000 7302250 (nI i) h ce sl).trans ?_
  simp (disch := omega) only [nI_add, mp_inb, mp_tn, xgd, lz_gd, lz_Ph_44, lz_Ph_45, lz_pV_depth_eq, lz_pN_depth_eq, e1, e2, xrI, xbi, if_true]
  rfl
theorem lz_s22 {SL : Nat} {sx : Nat → Int32} {n i k : Nat} {h : H2} {ce sl : Nat} (hi : i + 5 ≤ SL) (hS : SL ≤ 2560) (hk : k ≤ 600) (hI : Inv k h) (hce : ce + 2 ≤ 600000) (hsl : sl + 42 ≤ 7302250) : lz_st1 SL sx n i k ce sl (lz_LK SL sx (n + 1) 916 (lz_lv (nI i)) [] h ce sl) := by
  obtain ⟨v, h1, h2, e1, e2, I⟩ := g_comes (sx (i + 1)) (sx (i + 2)) k h hk hI
  refine ⟨n, h2, ce + 0 + 0, sl + 0 + 0, Nat.le_refl _, I, by omega, by omega, ?_⟩
  refine (lz_e22 lz_Ph (lz_LK SL sx n) SL sx 600000 7302250 (nI i) h ce sl).trans ?_
  simp (disch := omega) only [nI_add, mp_inb, mp_tn, xgd, lz_gd, lz_Ph_46, lz_Ph_47, lz_pV_comes_eq, lz_pN_comes_eq, e1, e2, xrI, xbi, if_true]
  rfl
theorem lz_s23 {SL : Nat} {sx : Nat → Int32} {n i k : Nat} {h : H2} {ce sl : Nat} (hi : i + 5 ≤ SL) (hS : SL ≤ 2560) (hk : k ≤ 600) (hI : Inv k h) (hce : ce + 2 ≤ 600000) (hsl : sl + 42 ≤ 7302250) : lz_st1 SL sx n i k ce sl (lz_LK SL sx (n + 1) 949 (lz_lv (nI i)) [] h ce sl) := by
  obtain ⟨v, h1, h2, e1, e2, I⟩ := g_bare (sx (i + 1)) k h hk hI
  refine ⟨n, h2, ce + 0 + 0, sl + 0 + 0, Nat.le_refl _, I, by omega, by omega, ?_⟩
  refine (lz_e23 lz_Ph (lz_LK SL sx n) SL sx 600000 7302250 (nI i) h ce sl).trans ?_
  simp (disch := omega) only [nI_add, mp_inb, mp_tn, xgd, lz_gd, lz_Ph_48, lz_Ph_49, lz_pV_bare_eq, lz_pN_bare_eq, e1, e2, xrI, xbi, if_true]
  rfl
theorem lz_s24 {SL : Nat} {sx : Nat → Int32} {n i k : Nat} {h : H2} {ce sl : Nat} (hi : i + 5 ≤ SL) (hS : SL ≤ 2560) (hk : k ≤ 600) (hI : Inv k h) (hce : ce + 2 ≤ 600000) (hsl : sl + 42 ≤ 7302250) : lz_st1 SL sx n i k ce sl (lz_LK SL sx (n + 1) 972 (lz_lv (nI i)) [] h ce sl) := by
  obtain ⟨v, h1, h2, e1, e2, I⟩ := g_spoilt (sx (i + 1)) k h hk hI
  refine ⟨n, h2, ce + 0 + 0, sl + 0 + 0, Nat.le_refl _, I, by omega, by omega, ?_⟩
  refine (lz_e24 lz_Ph (lz_LK SL sx n) SL sx 600000 7302250 (nI i) h ce sl).trans ?_
  simp (disch := omega) only [nI_add, mp_inb, mp_tn, xgd, lz_gd, lz_Ph_50, lz_Ph_51, lz_pV_spoilt_eq, lz_pN_spoilt_eq, e1, e2, xrI, xbi, if_true]
  rfl
theorem lz_s25 {SL : Nat} {sx : Nat → Int32} {n i k : Nat} {h : H2} {ce sl : Nat} (hi : i + 5 ≤ SL) (hS : SL ≤ 2560) (hk : k ≤ 600) (hI : Inv k h) (hce : ce + 2 ≤ 600000) (hsl : sl + 42 ≤ 7302250) : lz_st1 SL sx n i k ce sl (lz_LK SL sx (n + 1) 995 (lz_lv (nI i)) [] h ce sl) := by
  obtain ⟨v, h1, h2, e1, e2, I⟩ := g_through (sx (i + 1)) (sx (i + 2)) k h hk hI
  refine ⟨n, h2, ce + 0 + 0, sl + 0 + 0, Nat.le_refl _, I, by omega, by omega, ?_⟩
  refine (lz_e25 lz_Ph (lz_LK SL sx n) SL sx 600000 7302250 (nI i) h ce sl).trans ?_
  simp (disch := omega) only [nI_add, mp_inb, mp_tn, xgd, lz_gd, lz_Ph_52, lz_Ph_53, lz_pV_through_eq, lz_pN_through_eq, e1, e2, xrI, xbi, if_true]
  rfl
theorem lz_s26 {SL : Nat} {sx : Nat → Int32} {n i k : Nat} {h : H2} {ce sl : Nat} (hi : i + 5 ≤ SL) (hS : SL ≤ 2560) (hk : k ≤ 600) (hI : Inv k h) (hce : ce + 2 ≤ 600000) (hsl : sl + 42 ≤ 7302250) : lz_st1 SL sx n i k ce sl (lz_LK SL sx (n + 1) 1028 (lz_lv (nI i)) [] h ce sl) := by
  obtain ⟨v, h1, h2, e1, e2, I⟩ := g_vatFor (sx (i + 1)) (sx (i + 2)) k h hk hI
  refine ⟨n, h2, ce + 0 + 0, sl + 0 + 0, Nat.le_refl _, I, by omega, by omega, ?_⟩
  refine (lz_e26 lz_Ph (lz_LK SL sx n) SL sx 600000 7302250 (nI i) h ce sl).trans ?_
  simp (disch := omega) only [nI_add, mp_inb, mp_tn, xgd, lz_gd, lz_Ph_54, lz_Ph_55, lz_pV_vatFor_eq, lz_pN_vatFor_eq, e1, e2, xrI, xbi, if_true]
  rfl
theorem lz_s27 {SL : Nat} {sx : Nat → Int32} {n i k : Nat} {h : H2} {ce sl : Nat} (hi : i + 5 ≤ SL) (hS : SL ≤ 2560) (hk : k ≤ 600) (hI : Inv k h) (hce : ce + 2 ≤ 600000) (hsl : sl + 42 ≤ 7302250) : lz_st1 SL sx n i k ce sl (lz_LK SL sx (n + 1) 1061 (lz_lv (nI i)) [] h ce sl) := by
  obtain ⟨v, h1, h2, e1, e2, I⟩ := g_kindFor (sx (i + 1)) (sx (i + 2)) k h hk hI
  refine ⟨n, h2, ce + 0 + 0, sl + 0 + 0, Nat.le_refl _, I, by omega, by omega, ?_⟩
  refine (lz_e27 lz_Ph (lz_LK SL sx n) SL sx 600000 7302250 (nI i) h ce sl).trans ?_
  simp (disch := omega) only [nI_add, mp_inb, mp_tn, xgd, lz_gd, lz_Ph_56, lz_Ph_57, lz_pV_kindFor_eq, lz_pN_kindFor_eq, e1, e2, xrI, xbi, if_true]
  rfl
theorem lz_s28 {SL : Nat} {sx : Nat → Int32} {n i k : Nat} {h : H2} {ce sl : Nat} (hi : i + 5 ≤ SL) (hS : SL ≤ 2560) (hk : k ≤ 600) (hI : Inv k h) (hce : ce + 2 ≤ 600000) (hsl : sl + 42 ≤ 7302250) : lz_st1 SL sx n i k ce sl (lz_LK SL sx (n + 1) 1094 (lz_lv (nI i)) [] h ce sl) := by
  obtain ⟨v, h1, h2, e1, e2, I⟩ := g_strengthFor (sx (i + 1)) (sx (i + 2)) (sx (i + 3)) (sx (i + 4)) k h hk hI
  refine ⟨n, h2, ce + 0 + 0, sl + 0 + 0, Nat.le_refl _, I, by omega, by omega, ?_⟩
  refine (lz_e28 lz_Ph (lz_LK SL sx n) SL sx 600000 7302250 (nI i) h ce sl).trans ?_
  simp (disch := omega) only [nI_add, mp_inb, mp_tn, xgd, lz_gd, lz_Ph_58, lz_Ph_59, lz_pV_strengthFor_eq, lz_pN_strengthFor_eq, e1, e2, xrI, xbi, if_true]
  rfl
theorem lz_s29 {SL : Nat} {sx : Nat → Int32} {n i k : Nat} {h : H2} {ce sl : Nat} (hi : i + 5 ≤ SL) (hS : SL ≤ 2560) (hk : k ≤ 600) (hI : Inv k h) (hce : ce + 2 ≤ 600000) (hsl : sl + 42 ≤ 7302250) : lz_st1 SL sx n i k ce sl (lz_LK SL sx (n + 1) 1147 (lz_lv (nI i)) [] h ce sl) := by
  obtain ⟨v, h1, h2, e1, e2, I⟩ := g_hangFor (sx (i + 1)) (sx (i + 2)) k h hk hI
  refine ⟨n, h2, ce + 0 + 0, sl + 0 + 0, Nat.le_refl _, I, by omega, by omega, ?_⟩
  refine (lz_e29 lz_Ph (lz_LK SL sx n) SL sx 600000 7302250 (nI i) h ce sl).trans ?_
  simp (disch := omega) only [nI_add, mp_inb, mp_tn, xgd, lz_gd, lz_Ph_60, lz_Ph_61, lz_pV_hangFor_eq, lz_pN_hangFor_eq, e1, e2, xrI, xbi, if_true]
  rfl
theorem lz_s30 {SL : Nat} {sx : Nat → Int32} {n i k : Nat} {h : H2} {ce sl : Nat} (hi : i + 5 ≤ SL) (hS : SL ≤ 2560) (hk : k ≤ 600) (hI : Inv k h) (hce : ce + 2 ≤ 600000) (hsl : sl + 42 ≤ 7302250) : lz_st1 SL sx n i k ce sl (lz_LK SL sx (n + 1) 1180 (lz_lv (nI i)) [] h ce sl) := by
  obtain ⟨v, h1, h2, e1, e2, I⟩ := g_fits (sx (i + 1)) (sx (i + 2)) (sx (i + 3)) k h hk hI
  refine ⟨n, h2, ce + 0 + 0, sl + 0 + 0, Nat.le_refl _, I, by omega, by omega, ?_⟩
  refine (lz_e30 lz_Ph (lz_LK SL sx n) SL sx 600000 7302250 (nI i) h ce sl).trans ?_
  simp (disch := omega) only [nI_add, mp_inb, mp_tn, xgd, lz_gd, lz_Ph_62, lz_Ph_63, lz_pV_fits_eq, lz_pN_fits_eq, e1, e2, xrI, xbi, if_true]
  rfl
theorem lz_s31 {SL : Nat} {sx : Nat → Int32} {n i k : Nat} {h : H2} {ce sl : Nat} (hi : i + 5 ≤ SL) (hS : SL ≤ 2560) (hk : k ≤ 600) (hI : Inv k h) (hce : ce + 2 ≤ 600000) (hsl : sl + 42 ≤ 7302250) : lz_st1 SL sx n i k ce sl (lz_LK SL sx (n + 1) 1223 (lz_lv (nI i)) [] h ce sl) := by
  obtain ⟨v, h1, h2, e1, e2, I⟩ := g_odds (sx (i + 1)) (sx (i + 2)) (sx (i + 3)) k h hk hI
  refine ⟨n, h2, ce + 0 + 0, sl + 0 + 0, Nat.le_refl _, I, by omega, by omega, ?_⟩
  refine (lz_e31 lz_Ph (lz_LK SL sx n) SL sx 600000 7302250 (nI i) h ce sl).trans ?_
  simp (disch := omega) only [nI_add, mp_inb, mp_tn, xgd, lz_gd, lz_Ph_64, lz_Ph_65, lz_pV_odds_eq, lz_pN_odds_eq, e1, e2, xrL, xbi, lz_cmp_self, if_true]
  rfl
theorem lz_s32 {SL : Nat} {sx : Nat → Int32} {n i k : Nat} {h : H2} {ce sl : Nat} (hi : i + 5 ≤ SL) (hS : SL ≤ 2560) (hk : k ≤ 600) (hI : Inv k h) (hce : ce + 2 ≤ 600000) (hsl : sl + 42 ≤ 7302250) : lz_st1 SL sx n i k ce sl (lz_LK SL sx (n + 1) 1267 (lz_lv (nI i)) [] h ce sl) := by
  obtain ⟨v, h1, h2, e1, e2, I⟩ := g_hope (sx (i + 1)) (sx (i + 2)) k h hk hI
  refine ⟨n, h2, ce + 0 + 0, sl + 0 + 0, Nat.le_refl _, I, by omega, by omega, ?_⟩
  refine (lz_e32 lz_Ph (lz_LK SL sx n) SL sx 600000 7302250 (nI i) h ce sl).trans ?_
  simp (disch := omega) only [nI_add, mp_inb, mp_tn, xgd, lz_gd, lz_Ph_66, lz_Ph_67, lz_pV_hope_eq, lz_pN_hope_eq, e1, e2, xrL, xbi, lz_cmp_self, if_true]
  rfl
theorem lz_s33 {SL : Nat} {sx : Nat → Int32} {n i k : Nat} {h : H2} {ce sl : Nat} (hi : i + 5 ≤ SL) (hS : SL ≤ 2560) (hk : k ≤ 600) (hI : Inv k h) (hce : ce + 2 ≤ 600000) (hsl : sl + 42 ≤ 7302250) : lz_st1 SL sx n i k ce sl (lz_LK SL sx (n + 1) 1301 (lz_lv (nI i)) [] h ce sl) := by
  obtain ⟨v, h1, h2, e1, e2, I⟩ := g_prove (sx (i + 1)) (sx (i + 2)) k h hk hI
  refine ⟨n, h2, ce + 0 + 0, sl + 0 + 0, Nat.le_refl _, I, by omega, by omega, ?_⟩
  refine (lz_e33 lz_Ph (lz_LK SL sx n) SL sx 600000 7302250 (nI i) h ce sl).trans ?_
  simp (disch := omega) only [nI_add, mp_inb, mp_tn, xgd, lz_gd, lz_Ph_68, lz_Ph_69, lz_pV_prove_eq, lz_pN_prove_eq, e1, e2, xrI, xbi, if_true]
  rfl
theorem lz_s34 {SL : Nat} {sx : Nat → Int32} {n i k : Nat} {h : H2} {ce sl : Nat} (hi : i + 5 ≤ SL) (hS : SL ≤ 2560) (hk : k ≤ 600) (hI : Inv k h) (hce : ce + 2 ≤ 600000) (hsl : sl + 42 ≤ 7302250) : lz_st1 SL sx n i k ce sl (lz_LK SL sx (n + 1) 1334 (lz_lv (nI i)) [] h ce sl) := by
  obtain ⟨v, h1, h2, e1, e2, I⟩ := g_row (sx (i + 1)) (sx (i + 2)) k h hk hI
  refine ⟨n, h2, ce + 0 + 0, sl + 0 + 0, Nat.le_refl _, I, by omega, by omega, ?_⟩
  refine (lz_e34 lz_Ph (lz_LK SL sx n) SL sx 600000 7302250 (nI i) h ce sl).trans ?_
  simp (disch := omega) only [nI_add, mp_inb, mp_tn, xgd, lz_gd, lz_Ph_70, lz_Ph_71, lz_pV_row_eq, lz_pN_row_eq, e1, e2, xrI, xbi, if_true]
  rfl
theorem lz_s35 {SL : Nat} {sx : Nat → Int32} {n i k : Nat} {h : H2} {ce sl : Nat} (hi : i + 5 ≤ SL) (hS : SL ≤ 2560) (hk : k ≤ 600) (hI : Inv k h) (hce : ce + 2 ≤ 600000) (hsl : sl + 42 ≤ 7302250) : lz_st1 SL sx n i k ce sl (lz_LK SL sx (n + 1) 1367 (lz_lv (nI i)) [] h ce sl) := by
  obtain ⟨v, h1, h2, e1, e2, I⟩ := g_alterRow (sx (i + 1)) (sx (i + 2)) (sx (i + 3)) k h hk hI
  refine ⟨n, h2, ce + 0 + 0, sl + 0 + 0, Nat.le_refl _, I, by omega, by omega, ?_⟩
  refine (lz_e35 lz_Ph (lz_LK SL sx n) SL sx 600000 7302250 (nI i) h ce sl).trans ?_
  simp (disch := omega) only [nI_add, mp_inb, mp_tn, xgd, lz_gd, lz_Ph_72, lz_Ph_73, lz_pV_alterRow_eq, lz_pN_alterRow_eq, e1, e2, xrI, xbi, if_true]
  rfl
theorem lz_s36 {SL : Nat} {sx : Nat → Int32} {n i k : Nat} {h : H2} {ce sl : Nat} (hi : i + 5 ≤ SL) (hS : SL ≤ 2560) (hk : k ≤ 600) (hI : Inv k h) (hce : ce + 2 ≤ 600000) (hsl : sl + 42 ≤ 7302250) : lz_st1 SL sx n i k ce sl (lz_LK SL sx (n + 1) 1410 (lz_lv (nI i)) [] h ce sl) := by
  obtain ⟨v, h1, h2, e1, e2, I⟩ := g_judge (sx (i + 1)) k h hk hI
  refine ⟨n, h2, ce + 0 + 0, sl + 0 + 0, Nat.le_refl _, I, by omega, by omega, ?_⟩
  refine (lz_e36 lz_Ph (lz_LK SL sx n) SL sx 600000 7302250 (nI i) h ce sl).trans ?_
  simp (disch := omega) only [nI_add, mp_inb, mp_tn, xgd, lz_gd, lz_Ph_74, lz_Ph_75, lz_pV_judge_eq, lz_pN_judge_eq, e1, e2, xrI, xbi, if_true]
  rfl
theorem lz_s37 {SL : Nat} {sx : Nat → Int32} {n i k : Nat} {h : H2} {ce sl : Nat} (hi : i + 5 ≤ SL) (hS : SL ≤ 2560) (hk : k ≤ 600) (hI : Inv k h) (hce : ce + 2 ≤ 600000) (hsl : sl + 42 ≤ 7302250) : lz_st1 SL sx n i k ce sl (lz_LK SL sx (n + 1) 1433 (lz_lv (nI i)) [] h ce sl) := by
  obtain ⟨v, h1, h2, e1, e2, I⟩ := g_minds (sx (i + 1)) (sx (i + 2)) (sx (i + 3)) (sx (i + 4)) k h hk hI
  refine ⟨n, h2, ce + 0 + 0, sl + 0 + 0, Nat.le_refl _, I, by omega, by omega, ?_⟩
  refine (lz_e37 lz_Ph (lz_LK SL sx n) SL sx 600000 7302250 (nI i) h ce sl).trans ?_
  simp (disch := omega) only [nI_add, mp_inb, mp_tn, xgd, lz_gd, lz_Ph_76, lz_Ph_77, lz_pV_minds_eq, lz_pN_minds_eq, e1, e2, xrI, xbi, if_true]
  rfl
theorem lz_s38 {SL : Nat} {sx : Nat → Int32} {n i k : Nat} {h : H2} {ce sl : Nat} (hi : i + 5 ≤ SL) (hS : SL ≤ 2560) (hk : k ≤ 600) (hI : Inv k h) (hce : ce + 2 ≤ 600000) (hsl : sl + 42 ≤ 7302250) : lz_st1 SL sx n i k ce sl (lz_LK SL sx (n + 1) 1486 (lz_lv (nI i)) [] h ce sl) := by
  obtain ⟨v, h1, h2, e1, e2, I⟩ := g_sheet (sx (i + 1)) (sx (i + 2)) (sx (i + 3)) k h hk hI
  refine ⟨n, h2, ce + 2 + 0, sl + 42 + 0, Nat.le_refl _, I, by omega, by omega, ?_⟩
  refine (lz_e38 lz_Ph (lz_LK SL sx n) SL sx 600000 7302250 (nI i) h ce sl).trans ?_
  simp (disch := omega) only [nI_add, mp_inb, mp_tn, xgd, lz_gd, lz_Ph_78, lz_Ph_79, lz_pV_sheet_eq, lz_pN_sheet_eq, e1, e2, xrI, xbi, if_true]
  rfl
theorem lz_s39 {SL : Nat} {sx : Nat → Int32} {n i k : Nat} {h : H2} {ce sl : Nat} (hi : i + 5 ≤ SL) (hS : SL ≤ 2560) (hk : k ≤ 600) (hI : Inv k h) (hce : ce + 2 ≤ 600000) (hsl : sl + 42 ≤ 7302250) : lz_st1 SL sx n i k ce sl (lz_LK SL sx (n + 1) 1529 (lz_lv (nI i)) [] h ce sl) := by
  obtain ⟨v, h1, h2, e1, e2, I⟩ := g_put (sx (i + 1)) (sx (i + 2)) (sx (i + 3)) k h hk hI
  refine ⟨n, h2, ce + 0 + 0, sl + 0 + 0, Nat.le_refl _, I, by omega, by omega, ?_⟩
  refine (lz_e39 lz_Ph (lz_LK SL sx n) SL sx 600000 7302250 (nI i) h ce sl).trans ?_
  simp (disch := omega) only [nI_add, mp_inb, mp_tn, xgd, lz_gd, lz_Ph_80, lz_Ph_81, lz_pV_put_eq, lz_pN_put_eq, e1, e2, xrI, xbi, if_true]
  rfl
theorem lz_s40 {SL : Nat} {sx : Nat → Int32} {n i k : Nat} {h : H2} {ce sl : Nat} (hi : i + 5 ≤ SL) (hS : SL ≤ 2560) (hk : k ≤ 600) (hI : Inv k h) (hce : ce + 2 ≤ 600000) (hsl : sl + 42 ≤ 7302250) : lz_st1 SL sx n i k ce sl (lz_LK SL sx (n + 1) 1572 (lz_lv (nI i)) [] h ce sl) := by
  obtain ⟨v, h1, h2, e1, e2, I⟩ := g_item (sx (i + 1)) (sx (i + 2)) (sx (i + 3)) k h hk hI
  refine ⟨n, h2, ce + 0 + 0, sl + 0 + 0, Nat.le_refl _, I, by omega, by omega, ?_⟩
  refine (lz_e40 lz_Ph (lz_LK SL sx n) SL sx 600000 7302250 (nI i) h ce sl).trans ?_
  simp (disch := omega) only [nI_add, mp_inb, mp_tn, xgd, lz_gd, lz_Ph_82, lz_Ph_83, lz_pV_item_eq, lz_pN_item__eq, e1, e2, xrI, xbi, if_true]
  rfl
theorem lz_s41 {SL : Nat} {sx : Nat → Int32} {n i k : Nat} {h : H2} {ce sl : Nat} (hi : i + 5 ≤ SL) (hS : SL ≤ 2560) (hk : k ≤ 600) (hI : Inv k h) (hce : ce + 2 ≤ 600000) (hsl : sl + 42 ≤ 7302250) : lz_st1 SL sx n i k ce sl (lz_LK SL sx (n + 1) 1615 (lz_lv (nI i)) [] h ce sl) := by
  obtain ⟨v, h1, h2, e1, e2, I⟩ := g_shelf (sx (i + 1)) (sx (i + 2)) (sx (i + 3)) k h hk hI
  refine ⟨n, h2, ce + 0 + 0, sl + 0 + 0, Nat.le_refl _, I, by omega, by omega, ?_⟩
  refine (lz_e41 lz_Ph (lz_LK SL sx n) SL sx 600000 7302250 (nI i) h ce sl).trans ?_
  simp (disch := omega) only [nI_add, mp_inb, mp_tn, xgd, lz_gd, lz_Ph_84, lz_Ph_85, lz_pV_shelf_eq, lz_pN_shelf_eq, e1, e2, xrI, xbi, if_true]
  rfl
theorem lz_s42 {SL : Nat} {sx : Nat → Int32} {n i k : Nat} {h : H2} {ce sl : Nat} (hi : i + 5 ≤ SL) (hS : SL ≤ 2560) (hk : k ≤ 600) (hI : Inv k h) (hce : ce + 2 ≤ 600000) (hsl : sl + 42 ≤ 7302250) : lz_st1 SL sx n i k ce sl (lz_LK SL sx (n + 1) 1658 (lz_lv (nI i)) [] h ce sl) := by
  obtain ⟨v, h1, h2, e1, e2, I⟩ := g_taken (sx (i + 1)) (sx (i + 2)) k h hk hI
  refine ⟨n, h2, ce + 0 + 0, sl + 0 + 0, Nat.le_refl _, I, by omega, by omega, ?_⟩
  refine (lz_e42 lz_Ph (lz_LK SL sx n) SL sx 600000 7302250 (nI i) h ce sl).trans ?_
  simp (disch := omega) only [nI_add, mp_inb, mp_tn, xgd, lz_gd, lz_Ph_86, lz_Ph_87, lz_pV_taken_eq, lz_pN_taken_eq, e1, e2, xrI, xbi, if_true]
  rfl
theorem lz_s43 {SL : Nat} {sx : Nat → Int32} {n i k : Nat} {h : H2} {ce sl : Nat} (hi : i + 5 ≤ SL) (hS : SL ≤ 2560) (hk : k ≤ 600) (hI : Inv k h) (hce : ce + 2 ≤ 600000) (hsl : sl + 42 ≤ 7302250) : lz_st1 SL sx n i k ce sl (lz_LK SL sx (n + 1) 1691 (lz_lv (nI i)) [] h ce sl) := by
  obtain ⟨v, h1, h2, e1, e2, I⟩ := g_act (sx (i + 1)) (sx (i + 2)) (sx (i + 3)) k h hk hI
  refine ⟨n, h2, ce + 0 + 0, sl + 0 + 0, Nat.le_refl _, I, by omega, by omega, ?_⟩
  refine (lz_e43 lz_Ph (lz_LK SL sx n) SL sx 600000 7302250 (nI i) h ce sl).trans ?_
  simp (disch := omega) only [nI_add, mp_inb, mp_tn, xgd, lz_gd, lz_Ph_88, lz_Ph_89, lz_pV_act_eq, lz_pN_act_eq, e1, e2, xrI, xbi, if_true]
  rfl
theorem lz_s44 {SL : Nat} {sx : Nat → Int32} {n i k : Nat} {h : H2} {ce sl : Nat} (hi : i + 5 ≤ SL) (hS : SL ≤ 2560) (hk : k ≤ 600) (hI : Inv k h) (hce : ce + 2 ≤ 600000) (hsl : sl + 42 ≤ 7302250) : lz_st1 SL sx n i k ce sl (lz_LK SL sx (n + 1) 1734 (lz_lv (nI i)) [] h ce sl) := by
  obtain ⟨v, h1, h2, e1, e2, I⟩ := g_trace (sx (i + 1)) k h hk hI
  refine ⟨n, h2, ce + 0 + 0, sl + 0 + 0, Nat.le_refl _, I, by omega, by omega, ?_⟩
  refine (lz_e44 lz_Ph (lz_LK SL sx n) SL sx 600000 7302250 (nI i) h ce sl).trans ?_
  simp (disch := omega) only [nI_add, mp_inb, mp_tn, xgd, lz_gd, lz_Ph_90, lz_Ph_91, lz_pV_trace_eq, lz_pN_trace_eq, e1, e2, xrI, xbi, if_true]
  rfl
theorem lz_s45 {SL : Nat} {sx : Nat → Int32} {n i k : Nat} {h : H2} {ce sl : Nat} (hi : i + 5 ≤ SL) (hS : SL ≤ 2560) (hk : k ≤ 600) (hI : Inv k h) (hce : ce + 2 ≤ 600000) (hsl : sl + 42 ≤ 7302250) : lz_st1 SL sx n i k ce sl (lz_LK SL sx (n + 1) 1757 (lz_lv (nI i)) [] h ce sl) := by
  obtain ⟨v, h1, h2, e1, e2, I⟩ := g_many (sx (i + 1)) k h hk hI
  refine ⟨n, h2, ce + 0 + 0, sl + 0 + 0, Nat.le_refl _, I, by omega, by omega, ?_⟩
  refine (lz_e45 lz_Ph (lz_LK SL sx n) SL sx 600000 7302250 (nI i) h ce sl).trans ?_
  simp (disch := omega) only [nI_add, mp_inb, mp_tn, xgd, lz_gd, lz_Ph_92, lz_Ph_93, lz_pV_many_eq, lz_pN_many_eq, e1, e2, xrI, xbi, if_true]
  rfl
theorem lz_s46 {SL : Nat} {sx : Nat → Int32} {n i k : Nat} {h : H2} {ce sl : Nat} (hi : i + 5 ≤ SL) (hS : SL ≤ 2560) (hk : k ≤ 600) (hI : Inv k h) (hce : ce + 2 ≤ 600000) (hsl : sl + 42 ≤ 7302250) : lz_st1 SL sx n i k ce sl (lz_LK SL sx (n + 1) 1780 (lz_lv (nI i)) [] h ce sl) := by
  obtain ⟨v, h1, h2, e1, e2, I⟩ := g_keep  k h hk hI
  refine ⟨n, h2, ce + 0 + 0, sl + 0 + 0, Nat.le_refl _, I, by omega, by omega, ?_⟩
  refine (lz_e46 lz_Ph (lz_LK SL sx n) SL sx 600000 7302250 (nI i) h ce sl).trans ?_
  simp (disch := omega) only [nI_add, mp_inb, mp_tn, xgd, lz_gd, lz_Ph_94, lz_Ph_95, lz_pV_keep_eq, lz_pN_keep_eq, e1, e2, xrI, xbi, if_true]
  rfl
theorem lz_s47 {SL : Nat} {sx : Nat → Int32} {n i k : Nat} {h : H2} {ce sl : Nat} (hi : i + 5 ≤ SL) (hS : SL ≤ 2560) (hk : k ≤ 600) (hI : Inv k h) (hce : ce + 2 ≤ 600000) (hsl : sl + 42 ≤ 7302250) : lz_st1 SL sx n i k ce sl (lz_LK SL sx (n + 1) 1793 (lz_lv (nI i)) [] h ce sl) := by
  obtain ⟨v, h1, h2, e1, e2, I⟩ := g_again  k h hk hI
  refine ⟨n, h2, ce + 0 + 0, sl + 0 + 0, Nat.le_refl _, I, by omega, by omega, ?_⟩
  refine (lz_e47 lz_Ph (lz_LK SL sx n) SL sx 600000 7302250 (nI i) h ce sl).trans ?_
  simp (disch := omega) only [nI_add, mp_inb, mp_tn, xgd, lz_gd, lz_Ph_96, lz_Ph_97, lz_pV_again_eq, lz_pN_again_eq, e1, e2, xrI, xbi, if_true]
  rfl
theorem lz_end_lt {SL i : Nat} (hS : SL ≤ 2560) (hi : i ≤ 3000) : (nI SL - nI 5 < nI i) = (SL < i + 5) := by
  have a0 : (nI i).toInt = i := nI_toInt (by omega)
  have e : (nI SL - nI 5).toInt = (SL : Int) - 5 := by
    by_cases h : 5 ≤ SL
    · rw [mp_sub h, nI_toInt (by omega)]; omega
    · have : ∀ q, q < 5 → (nI q - nI 5).toInt = (q : Int) - 5 := by decide +kernel
      exact this SL (by omega)
  rw [propext Int32.lt_iff_toInt_lt, a0, e]
  exact propext ⟨fun h => by omega, fun h => by omega⟩
theorem lz_step {SL : Nat} {sx : Nat → Int32} {n i k : Nat} {h : H2} {ce sl : Nat} (hi : i + 5 ≤ SL) (hS : SL ≤ 2560) (hk : k ≤ 600) (hI : Inv k h) (hce : ce + 2 ≤ 600000) (hsl : sl + 42 ≤ 7302250) : lz_st1 SL sx n i k ce sl (lz_LK SL sx (n + 2) 18 (lz_lv (nI i)) [] h ce sl) := by
  have e : lz_LK SL sx (n + 2) 18 (lz_lv (nI i)) [] h ce sl = _ := lz_eH lz_Ph (lz_LK SL sx (n + 1)) SL sx 600000 7302250 (nI i) h ce sl
  have hne : ¬ (nI SL - nI 5 < nI i) := by
    rw [lz_end_lt hS (by omega)]
    omega
  rw [e, if_neg hne, mp_inb (show i < SL by omega) (by omega), xgd]
  refine lz_st1_if (lz_s0 hi hS hk hI hce hsl) ?_
  refine lz_st1_if (lz_s1 hi hS hk hI hce hsl) ?_
  refine lz_st1_if (lz_s2 hi hS hk hI hce hsl) ?_
  refine lz_st1_if (lz_s3 hi hS hk hI hce hsl) ?_
  refine lz_st1_if (lz_s4 hi hS hk hI hce hsl) ?_
  refine lz_st1_if (lz_s5 hi hS hk hI hce hsl) ?_
  refine lz_st1_if (lz_s6 hi hS hk hI hce hsl) ?_
  refine lz_st1_if (lz_s7 hi hS hk hI hce hsl) ?_
  refine lz_st1_if (lz_s8 hi hS hk hI hce hsl) ?_
  refine lz_st1_if (lz_s9 hi hS hk hI hce hsl) ?_
  refine lz_st1_if (lz_s10 hi hS hk hI hce hsl) ?_
  refine lz_st1_if (lz_s11 hi hS hk hI hce hsl) ?_
  refine lz_st1_if (lz_s12 hi hS hk hI hce hsl) ?_
  refine lz_st1_if (lz_s13 hi hS hk hI hce hsl) ?_
  refine lz_st1_if (lz_s14 hi hS hk hI hce hsl) ?_
  refine lz_st1_if (lz_s15 hi hS hk hI hce hsl) ?_
  refine lz_st1_if (lz_s16 hi hS hk hI hce hsl) ?_
  refine lz_st1_if (lz_s17 hi hS hk hI hce hsl) ?_
  refine lz_st1_if (lz_s18 hi hS hk hI hce hsl) ?_
  refine lz_st1_if (lz_s19 hi hS hk hI hce hsl) ?_
  refine lz_st1_if (lz_s20 hi hS hk hI hce hsl) ?_
  refine lz_st1_if (lz_s21 hi hS hk hI hce hsl) ?_
  refine lz_st1_if (lz_s22 hi hS hk hI hce hsl) ?_
  refine lz_st1_if (lz_s23 hi hS hk hI hce hsl) ?_
  refine lz_st1_if (lz_s24 hi hS hk hI hce hsl) ?_
  refine lz_st1_if (lz_s25 hi hS hk hI hce hsl) ?_
  refine lz_st1_if (lz_s26 hi hS hk hI hce hsl) ?_
  refine lz_st1_if (lz_s27 hi hS hk hI hce hsl) ?_
  refine lz_st1_if (lz_s28 hi hS hk hI hce hsl) ?_
  refine lz_st1_if (lz_s29 hi hS hk hI hce hsl) ?_
  refine lz_st1_if (lz_s30 hi hS hk hI hce hsl) ?_
  refine lz_st1_if (lz_s31 hi hS hk hI hce hsl) ?_
  refine lz_st1_if (lz_s32 hi hS hk hI hce hsl) ?_
  refine lz_st1_if (lz_s33 hi hS hk hI hce hsl) ?_
  refine lz_st1_if (lz_s34 hi hS hk hI hce hsl) ?_
  refine lz_st1_if (lz_s35 hi hS hk hI hce hsl) ?_
  refine lz_st1_if (lz_s36 hi hS hk hI hce hsl) ?_
  refine lz_st1_if (lz_s37 hi hS hk hI hce hsl) ?_
  refine lz_st1_if (lz_s38 hi hS hk hI hce hsl) ?_
  refine lz_st1_if (lz_s39 hi hS hk hI hce hsl) ?_
  refine lz_st1_if (lz_s40 hi hS hk hI hce hsl) ?_
  refine lz_st1_if (lz_s41 hi hS hk hI hce hsl) ?_
  refine lz_st1_if (lz_s42 hi hS hk hI hce hsl) ?_
  refine lz_st1_if (lz_s43 hi hS hk hI hce hsl) ?_
  refine lz_st1_if (lz_s44 hi hS hk hI hce hsl) ?_
  refine lz_st1_if (lz_s45 hi hS hk hI hce hsl) ?_
  refine lz_st1_if (lz_s46 hi hS hk hI hce hsl) ?_
  refine lz_st1_if (lz_s47 hi hS hk hI hce hsl) ?_
  refine ⟨n + 1, h, ce, sl, by omega, lz_Inv_succ hI, by omega, by omega, ?_⟩
  rw [xbi, nI_add]
  rfl
theorem lz_end {SL : Nat} {sx : Nat → Int32} {n i : Nat} {h : H2} {ce sl : Nat} (hi : SL < i + 5) (hi2 : i ≤ 3000) (hS : SL ≤ 2560) : lz_LK SL sx (n + 1) 18 (lz_lv (nI i)) [] h ce sl = some ([Sum.inl (Value.int (nI 1))], h) := by
  have e : lz_LK SL sx (n + 1) 18 (lz_lv (nI i)) [] h ce sl = _ := lz_eH lz_Ph (lz_LK SL sx n) SL sx 600000 7302250 (nI i) h ce sl
  have hp : nI SL - nI 5 < nI i := by
    rw [lz_end_lt hS hi2]
    exact hi
  rw [e, if_pos hp, xb1, xgd]
theorem lz_all {SL : Nat} {sx : Nat → Int32} (hS : SL ≤ 2560) : ∀ (m n i k : Nat) (h : H2) (ce sl : Nat), i = 5 * k → SL < i + 5 * m + 5 → i ≤ 2560 → 2 * m + 1 ≤ n → Inv k h → ce ≤ 1000 + 2 * k → sl ≤ 20000 + 42 * k → ∃ h', lz_LK SL sx n 18 (lz_lv (nI i)) [] h ce sl = some ([Sum.inl (Value.int (nI 1))], h') := by
  intro m
  induction m with
  | zero =>
    intro n i k h ce sl e1 e2 e3 e4 hI e5 e6
    obtain ⟨n, rfl⟩ : ∃ n', n = n' + 1 := ⟨n - 1, by omega⟩
    exact ⟨h, lz_end (by omega) (by omega) hS⟩
  | succ m ih =>
    intro n i k h ce sl e1 e2 e3 e4 hI e5 e6
    by_cases hd : SL < i + 5
    · obtain ⟨n, rfl⟩ : ∃ n', n = n' + 1 := ⟨n - 1, by omega⟩
      exact ⟨h, lz_end hd (by omega) hS⟩
    · obtain ⟨n, rfl⟩ : ∃ n', n = n' + 2 := ⟨n - 2, by omega⟩
      obtain ⟨n', h', ce', sl', a1, a2, a3, a4, a5⟩ := lz_step (SL := SL) (sx := sx) (n := n) (i := i) (k := k) (h := h) (ce := ce) (sl := sl) (by omega) hS (by omega) hI (by omega) (by omega)
      rw [a5]
      exact ih n' (i + 5) (k + 1) h' ce' sl' (by omega) (by omega) (by omega) (by omega) a2 (by omega) (by omega)
