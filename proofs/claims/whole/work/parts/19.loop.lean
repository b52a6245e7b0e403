/-! the loop of the law -/
def lvL (x : Int32) : mv_L := [(3, Sum.inl (Value.int x)), (2, Sum.inr (8, 0)), (1, Sum.inr (7, 0)), (0, Sum.inr (10, 0))]
def mv_LK (SL : Nat) (sx : Nat → Int32) : Nat → Nat → mv_L → List mv_V → H2 → Nat → Nat → O2
  | 0 => fun _ _ _ _ _ _ => none
  | n + 1 => fun pc lv st h ce sl => mv_blk rI2 rR2 ln2 wI2 wR2 nw2 cp2 bod (some (SL, sx)) tL (gL mv_Ph) 600000 7302250 (cond (Nat.beq pc 18) mv_stL [18]) (mv_LK SL sx n) 300 (mv_seek pc tL) lv st h ce sl
theorem mv_LKX {SL : Nat} {sx : Nat → Int32} {g0 : mv_G} {res : List mv_V × H2} : ∀ (n pc : Nat) (lv : mv_L) (st : List mv_V) (h : H2) (ce sl : Nat), mv_LK SL sx n pc lv st h ce sl = some res → mv_X vw2 mdL 1000 600000 7302250 (some (SL, sx)) g0 res pc lv st h ce sl
  | 0, _, _, _, _, _, _, hh => by cases hh
  | n + 1, pc, lv, st, h, ce, sl, hh => mv_blkX ax2 GL (by decide) kL (fun pc lv st h ce sl hh => mv_LKX n pc lv st h ce sl hh) hh
theorem mv_gdL {a b m : Nat} (h1 : a ≤ 600000) (h2 : b ≤ 7302250) (h3 : m ≤ 8) : (Nat.ble a 600000 && (Nat.ble b 7302250 && Nat.ble m 8)) = true := by
  simp only [Bool.and_eq_true]
  exact ⟨Nat.ble_eq.mpr h1, Nat.ble_eq.mpr h2, Nat.ble_eq.mpr h3⟩
theorem Inv_succ {k h} (H : Inv k h) : Inv (k + 1) h := by
  obtain ⟨A, n, d, z, J, T, tn, td, tz, R4, h0, e, a, b, c, f⟩ := H
  exact ⟨A, n, d, z, J, T, tn, td, tz, R4, h0, e, a, by omega, c, Oth_succ f⟩
/-- a step of the loop, out of a block's answer -/
def mv_st1 (SL : Nat) (sx : Nat → Int32) (n i k ce sl : Nat) (r : O2) : Prop := ∃ n' h' ce' sl', n ≤ n' ∧ Inv (k + 1) h' ∧ ce' ≤ ce + 2 ∧ sl' ≤ sl + 42 ∧ r = mv_LK SL sx n' 18 (lvL (nI (i + 5))) [] h' ce' sl'
theorem mv_st1_if {SL : Nat} {sx : Nat → Int32} {n i k ce sl : Nat} {u v : Int32} {a b : O2} (h1 : mv_st1 SL sx n i k ce sl a) (h2 : mv_st1 SL sx n i k ce sl b) : mv_st1 SL sx n i k ce sl (if u = v then a else b) := by
  by_cases e : u = v
  · rw [if_pos e]; exact h1
  · rw [if_neg e]; exact h2
theorem lg_cmp_self (a : Int64) : lg_cmp a a = 0 := by
  have h1 : ¬ lg_cmp a a < 0 := by rw [lg_cmp_lt, Int64.lt_iff_toInt_lt]; omega
  have h2 : ¬ 0 < lg_cmp a a := by rw [lg_cmp_gt, Int64.lt_iff_toInt_lt]; omega
  apply Int32.toInt_inj.mp
  rw [Int32.lt_iff_toInt_lt] at h1 h2
  have h0 : (0 : Int32).toInt = 0 := by decide
  omega
theorem sL_0 {SL : Nat} {sx : Nat → Int32} {n i k : Nat} {h : H2} {ce sl : Nat} (hi : i + 5 ≤ SL) (hS : SL ≤ 2560) (hk : k ≤ 600) (hI : Inv k h) (hce : ce + 2 ≤ 600000) (hsl : sl + 42 ≤ 7302250) : mv_st1 SL sx n i k ce sl (mv_LK SL sx (n + 1) 240 (lvL (nI i)) [] h ce sl) := by
  obtain ⟨v, h1, h2, e1, e2, I⟩ := g_feed ((((sx (i + 1)).toInt64) <<< ((nI 32).toInt64 &&& 63)) ||| (((sx (i + 2)).toInt64) &&& (lN 4294967295))) (sx (i + 3)) k h hk hI
  refine ⟨n, h2, ce + 0 + 0, sl + 0 + 0, Nat.le_refl _, I, by omega, by omega, ?_⟩
  refine (eL_0 mv_Ph (mv_LK SL sx n) SL sx 600000 7302250 (nI i) h ce sl).trans ?_
  simp (disch := omega) only [nI_add, mp_inb, mp_tn, xgd, mv_gdL, mv_Ph_2, mv_Ph_3, pV_feed_eq, pN_feed_eq, e1, e2, xrI, xbi, if_true]
  rfl
theorem sL_1 {SL : Nat} {sx : Nat → Int32} {n i k : Nat} {h : H2} {ce sl : Nat} (hi : i + 5 ≤ SL) (hS : SL ≤ 2560) (hk : k ≤ 600) (hI : Inv k h) (hce : ce + 2 ≤ 600000) (hsl : sl + 42 ≤ 7302250) : mv_st1 SL sx n i k ce sl (mv_LK SL sx (n + 1) 303 (lvL (nI i)) [] h ce sl) := by
  obtain ⟨v, h1, h2, e1, e2, I⟩ := g_mill  k h hk hI
  refine ⟨n, h2, ce + 0 + 0, sl + 0 + 0, Nat.le_refl _, I, by omega, by omega, ?_⟩
  refine (eL_1 mv_Ph (mv_LK SL sx n) SL sx 600000 7302250 (nI i) h ce sl).trans ?_
  simp (disch := omega) only [nI_add, mp_inb, mp_tn, xgd, mv_gdL, mv_Ph_4, mv_Ph_5, pV_mill_eq, pN_mill_eq, e1, e2, xrI, xbi, if_true]
  rfl
theorem sL_2 {SL : Nat} {sx : Nat → Int32} {n i k : Nat} {h : H2} {ce sl : Nat} (hi : i + 5 ≤ SL) (hS : SL ≤ 2560) (hk : k ≤ 600) (hI : Inv k h) (hce : ce + 2 ≤ 600000) (hsl : sl + 42 ≤ 7302250) : mv_st1 SL sx n i k ce sl (mv_LK SL sx (n + 1) 316 (lvL (nI i)) [] h ce sl) := by
  obtain ⟨v, h1, h2, e1, e2, I⟩ := g_set (sx (i + 1)) (sx (i + 2)) k h hk hI
  refine ⟨n, h2, ce + 0 + 0, sl + 0 + 0, Nat.le_refl _, I, by omega, by omega, ?_⟩
  refine (eL_2 mv_Ph (mv_LK SL sx n) SL sx 600000 7302250 (nI i) h ce sl).trans ?_
  simp (disch := omega) only [nI_add, mp_inb, mp_tn, xgd, mv_gdL, mv_Ph_6, mv_Ph_7, pV_set_eq, pN_set_eq, e1, e2, xrI, xbi, if_true]
  rfl
theorem sL_3 {SL : Nat} {sx : Nat → Int32} {n i k : Nat} {h : H2} {ce sl : Nat} (hi : i + 5 ≤ SL) (hS : SL ≤ 2560) (hk : k ≤ 600) (hI : Inv k h) (hce : ce + 2 ≤ 600000) (hsl : sl + 42 ≤ 7302250) : mv_st1 SL sx n i k ce sl (mv_LK SL sx (n + 1) 349 (lvL (nI i)) [] h ce sl) := by
  obtain ⟨v, h1, h2, e1, e2, I⟩ := g_lawOf (sx (i + 1)) k h hk hI
  refine ⟨n, h2, ce + 0 + 0, sl + 0 + 0, Nat.le_refl _, I, by omega, by omega, ?_⟩
  refine (eL_3 mv_Ph (mv_LK SL sx n) SL sx 600000 7302250 (nI i) h ce sl).trans ?_
  simp (disch := omega) only [nI_add, mp_inb, mp_tn, xgd, mv_gdL, mv_Ph_8, mv_Ph_9, pV_lawOf_eq, pN_lawOf_eq, e1, e2, xrI, xbi, if_true]
  rfl
theorem sL_4 {SL : Nat} {sx : Nat → Int32} {n i k : Nat} {h : H2} {ce sl : Nat} (hi : i + 5 ≤ SL) (hS : SL ≤ 2560) (hk : k ≤ 600) (hI : Inv k h) (hce : ce + 2 ≤ 600000) (hsl : sl + 42 ≤ 7302250) : mv_st1 SL sx n i k ce sl (mv_LK SL sx (n + 1) 372 (lvL (nI i)) [] h ce sl) := by
  obtain ⟨v, h1, h2, e1, e2, I⟩ := g_fill (sx (i + 1)) (sx (i + 2)) (sx (i + 3)) k h hk hI
  refine ⟨n, h2, ce + 0 + 0, sl + 0 + 0, Nat.le_refl _, I, by omega, by omega, ?_⟩
  refine (eL_4 mv_Ph (mv_LK SL sx n) SL sx 600000 7302250 (nI i) h ce sl).trans ?_
  simp (disch := omega) only [nI_add, mp_inb, mp_tn, xgd, mv_gdL, mv_Ph_10, mv_Ph_11, pV_fill_eq, pN_fill_eq, e1, e2, xrI, xbi, if_true]
  rfl
theorem sL_5 {SL : Nat} {sx : Nat → Int32} {n i k : Nat} {h : H2} {ce sl : Nat} (hi : i + 5 ≤ SL) (hS : SL ≤ 2560) (hk : k ≤ 600) (hI : Inv k h) (hce : ce + 2 ≤ 600000) (hsl : sl + 42 ≤ 7302250) : mv_st1 SL sx n i k ce sl (mv_LK SL sx (n + 1) 415 (lvL (nI i)) [] h ce sl) := by
  obtain ⟨v, h1, h2, e1, e2, I⟩ := g_vatOf (sx (i + 1)) (sx (i + 2)) k h hk hI
  refine ⟨n, h2, ce + 0 + 0, sl + 0 + 0, Nat.le_refl _, I, by omega, by omega, ?_⟩
  refine (eL_5 mv_Ph (mv_LK SL sx n) SL sx 600000 7302250 (nI i) h ce sl).trans ?_
  simp (disch := omega) only [nI_add, mp_inb, mp_tn, xgd, mv_gdL, mv_Ph_12, mv_Ph_13, pV_vatOf_eq, pN_vatOf_eq, e1, e2, xrI, xbi, if_true]
  rfl
theorem sL_6 {SL : Nat} {sx : Nat → Int32} {n i k : Nat} {h : H2} {ce sl : Nat} (hi : i + 5 ≤ SL) (hS : SL ≤ 2560) (hk : k ≤ 600) (hI : Inv k h) (hce : ce + 2 ≤ 600000) (hsl : sl + 42 ≤ 7302250) : mv_st1 SL sx n i k ce sl (mv_LK SL sx (n + 1) 448 (lvL (nI i)) [] h ce sl) := by
  obtain ⟨v, h1, h2, e1, e2, I⟩ := g_roster (sx (i + 1)) (sx (i + 2)) k h hk hI
  refine ⟨n, h2, ce + 0 + 0, sl + 0 + 0, Nat.le_refl _, I, by omega, by omega, ?_⟩
  refine (eL_6 mv_Ph (mv_LK SL sx n) SL sx 600000 7302250 (nI i) h ce sl).trans ?_
  simp (disch := omega) only [nI_add, mp_inb, mp_tn, xgd, mv_gdL, mv_Ph_14, mv_Ph_15, pV_roster_eq, pN_roster_eq, e1, e2, xrI, xbi, if_true]
  rfl
theorem sL_7 {SL : Nat} {sx : Nat → Int32} {n i k : Nat} {h : H2} {ce sl : Nat} (hi : i + 5 ≤ SL) (hS : SL ≤ 2560) (hk : k ≤ 600) (hI : Inv k h) (hce : ce + 2 ≤ 600000) (hsl : sl + 42 ≤ 7302250) : mv_st1 SL sx n i k ce sl (mv_LK SL sx (n + 1) 481 (lvL (nI i)) [] h ce sl) := by
  obtain ⟨v, h1, h2, e1, e2, I⟩ := g_rosterOf (sx (i + 1)) k h hk hI
  refine ⟨n, h2, ce + 0 + 0, sl + 0 + 0, Nat.le_refl _, I, by omega, by omega, ?_⟩
  refine (eL_7 mv_Ph (mv_LK SL sx n) SL sx 600000 7302250 (nI i) h ce sl).trans ?_
  simp (disch := omega) only [nI_add, mp_inb, mp_tn, xgd, mv_gdL, mv_Ph_16, mv_Ph_17, pV_rosterOf_eq, pN_rosterOf_eq, e1, e2, xrI, xbi, if_true]
  rfl
theorem sL_8 {SL : Nat} {sx : Nat → Int32} {n i k : Nat} {h : H2} {ce sl : Nat} (hi : i + 5 ≤ SL) (hS : SL ≤ 2560) (hk : k ≤ 600) (hI : Inv k h) (hce : ce + 2 ≤ 600000) (hsl : sl + 42 ≤ 7302250) : mv_st1 SL sx n i k ce sl (mv_LK SL sx (n + 1) 504 (lvL (nI i)) [] h ce sl) := by
  obtain ⟨v, h1, h2, e1, e2, I⟩ := g_cloth (sx (i + 1)) k h hk hI
  refine ⟨n, h2, ce + 0 + 0, sl + 0 + 0, Nat.le_refl _, I, by omega, by omega, ?_⟩
  refine (eL_8 mv_Ph (mv_LK SL sx n) SL sx 600000 7302250 (nI i) h ce sl).trans ?_
  simp (disch := omega) only [nI_add, mp_inb, mp_tn, xgd, mv_gdL, mv_Ph_18, mv_Ph_19, pV_cloth_eq, pN_cloth_eq, e1, e2, xrI, xbi, if_true]
  rfl
theorem sL_9 {SL : Nat} {sx : Nat → Int32} {n i k : Nat} {h : H2} {ce sl : Nat} (hi : i + 5 ≤ SL) (hS : SL ≤ 2560) (hk : k ≤ 600) (hI : Inv k h) (hce : ce + 2 ≤ 600000) (hsl : sl + 42 ≤ 7302250) : mv_st1 SL sx n i k ce sl (mv_LK SL sx (n + 1) 527 (lvL (nI i)) [] h ce sl) := by
  obtain ⟨v, h1, h2, e1, e2, I⟩ := g_of (sx (i + 1)) (sx (i + 2)) k h hk hI
  refine ⟨n, h2, ce + 0 + 0, sl + 0 + 0, Nat.le_refl _, I, by omega, by omega, ?_⟩
  refine (eL_9 mv_Ph (mv_LK SL sx n) SL sx 600000 7302250 (nI i) h ce sl).trans ?_
  simp (disch := omega) only [nI_add, mp_inb, mp_tn, xgd, mv_gdL, mv_Ph_20, mv_Ph_21, pV_of_eq, pN_of_eq, e1, e2, xrI, xbi, if_true]
  rfl
theorem sL_10 {SL : Nat} {sx : Nat → Int32} {n i k : Nat} {h : H2} {ce sl : Nat} (hi : i + 5 ≤ SL) (hS : SL ≤ 2560) (hk : k ≤ 600) (hI : Inv k h) (hce : ce + 2 ≤ 600000) (hsl : sl + 42 ≤ 7302250) : mv_st1 SL sx n i k ce sl (mv_LK SL sx (n + 1) 560 (lvL (nI i)) [] h ce sl) := by
  obtain ⟨v, h1, h2, e1, e2, I⟩ := g_does (sx (i + 1)) (sx (i + 2)) (sx (i + 3)) k h hk hI
  refine ⟨n, h2, ce + 0 + 0, sl + 0 + 0, Nat.le_refl _, I, by omega, by omega, ?_⟩
  refine (eL_10 mv_Ph (mv_LK SL sx n) SL sx 600000 7302250 (nI i) h ce sl).trans ?_
  simp (disch := omega) only [nI_add, mp_inb, mp_tn, xgd, mv_gdL, mv_Ph_22, mv_Ph_23, pV_does_eq, pN_does_eq, e1, e2, xrI, xbi, if_true]
  rfl
theorem sL_11 {SL : Nat} {sx : Nat → Int32} {n i k : Nat} {h : H2} {ce sl : Nat} (hi : i + 5 ≤ SL) (hS : SL ≤ 2560) (hk : k ≤ 600) (hI : Inv k h) (hce : ce + 2 ≤ 600000) (hsl : sl + 42 ≤ 7302250) : mv_st1 SL sx n i k ce sl (mv_LK SL sx (n + 1) 603 (lvL (nI i)) [] h ce sl) := by
  obtain ⟨v, h1, h2, e1, e2, I⟩ := g_mind (sx (i + 1)) (sx (i + 2)) k h hk hI
  refine ⟨n, h2, ce + 0 + 0, sl + 0 + 0, Nat.le_refl _, I, by omega, by omega, ?_⟩
  refine (eL_11 mv_Ph (mv_LK SL sx n) SL sx 600000 7302250 (nI i) h ce sl).trans ?_
  simp (disch := omega) only [nI_add, mp_inb, mp_tn, xgd, mv_gdL, mv_Ph_24, mv_Ph_25, pV_mind_eq, pN_mind_eq, e1, e2, xrI, xbi, if_true]
  rfl
theorem sL_12 {SL : Nat} {sx : Nat → Int32} {n i k : Nat} {h : H2} {ce sl : Nat} (hi : i + 5 ≤ SL) (hS : SL ≤ 2560) (hk : k ≤ 600) (hI : Inv k h) (hce : ce + 2 ≤ 600000) (hsl : sl + 42 ≤ 7302250) : mv_st1 SL sx n i k ce sl (mv_LK SL sx (n + 1) 636 (lvL (nI i)) [] h ce sl) := by
  obtain ⟨v, h1, h2, e1, e2, I⟩ := g_steep (sx (i + 1)) (sx (i + 2)) (sx (i + 3)) k h hk hI
  refine ⟨n, h2, ce + 0 + 0, sl + 0 + 0, Nat.le_refl _, I, by omega, by omega, ?_⟩
  refine (eL_12 mv_Ph (mv_LK SL sx n) SL sx 600000 7302250 (nI i) h ce sl).trans ?_
  simp (disch := omega) only [nI_add, mp_inb, mp_tn, xgd, mv_gdL, mv_Ph_26, mv_Ph_27, pV_steep_eq, pN_steep_eq, e1, e2, xrI, xbi, if_true]
  rfl
theorem sL_13 {SL : Nat} {sx : Nat → Int32} {n i k : Nat} {h : H2} {ce sl : Nat} (hi : i + 5 ≤ SL) (hS : SL ≤ 2560) (hk : k ≤ 600) (hI : Inv k h) (hce : ce + 2 ≤ 600000) (hsl : sl + 42 ≤ 7302250) : mv_st1 SL sx n i k ce sl (mv_LK SL sx (n + 1) 679 (lvL (nI i)) [] h ce sl) := by
  obtain ⟨v, h1, h2, e1, e2, I⟩ := g_hang (sx (i + 1)) (sx (i + 2)) k h hk hI
  refine ⟨n, h2, ce + 0 + 0, sl + 0 + 0, Nat.le_refl _, I, by omega, by omega, ?_⟩
  refine (eL_13 mv_Ph (mv_LK SL sx n) SL sx 600000 7302250 (nI i) h ce sl).trans ?_
  simp (disch := omega) only [nI_add, mp_inb, mp_tn, xgd, mv_gdL, mv_Ph_28, mv_Ph_29, pV_hang_eq, pN_hang_eq, e1, e2, xrI, xbi, if_true]
  rfl
theorem sL_14 {SL : Nat} {sx : Nat → Int32} {n i k : Nat} {h : H2} {ce sl : Nat} (hi : i + 5 ≤ SL) (hS : SL ≤ 2560) (hk : k ≤ 600) (hI : Inv k h) (hce : ce + 2 ≤ 600000) (hsl : sl + 42 ≤ 7302250) : mv_st1 SL sx n i k ce sl (mv_LK SL sx (n + 1) 712 (lvL (nI i)) [] h ce sl) := by
  obtain ⟨v, h1, h2, e1, e2, I⟩ := g_dip (sx (i + 1)) (sx (i + 2)) k h hk hI
  refine ⟨n, h2, ce + 0 + 0, sl + 0 + 0, Nat.le_refl _, I, by omega, by omega, ?_⟩
  refine (eL_14 mv_Ph (mv_LK SL sx n) SL sx 600000 7302250 (nI i) h ce sl).trans ?_
  simp (disch := omega) only [nI_add, mp_inb, mp_tn, xgd, mv_gdL, mv_Ph_30, mv_Ph_31, pV_dip_eq, pN_dip_eq, e1, e2, xrI, xbi, if_true]
  rfl
theorem sL_15 {SL : Nat} {sx : Nat → Int32} {n i k : Nat} {h : H2} {ce sl : Nat} (hi : i + 5 ≤ SL) (hS : SL ≤ 2560) (hk : k ≤ 600) (hI : Inv k h) (hce : ce + 2 ≤ 600000) (hsl : sl + 42 ≤ 7302250) : mv_st1 SL sx n i k ce sl (mv_LK SL sx (n + 1) 745 (lvL (nI i)) [] h ce sl) := by
  obtain ⟨v, h1, h2, e1, e2, I⟩ := g_days (sx (i + 1)) k h hk hI
  refine ⟨n, h2, ce + 0 + 0, sl + 0 + 0, Nat.le_refl _, I, by omega, by omega, ?_⟩
  refine (eL_15 mv_Ph (mv_LK SL sx n) SL sx 600000 7302250 (nI i) h ce sl).trans ?_
  simp (disch := omega) only [nI_add, mp_inb, mp_tn, xgd, mv_gdL, mv_Ph_32, mv_Ph_33, pV_days_eq, pN_days_eq, e1, e2, xrI, xbi, if_true]
  rfl
theorem sL_16 {SL : Nat} {sx : Nat → Int32} {n i k : Nat} {h : H2} {ce sl : Nat} (hi : i + 5 ≤ SL) (hS : SL ≤ 2560) (hk : k ≤ 600) (hI : Inv k h) (hce : ce + 2 ≤ 600000) (hsl : sl + 42 ≤ 7302250) : mv_st1 SL sx n i k ce sl (mv_LK SL sx (n + 1) 768 (lvL (nI i)) [] h ce sl) := by
  obtain ⟨v, h1, h2, e1, e2, I⟩ := g_seed (sx (i + 1)) k h hk hI
  refine ⟨n, h2, ce + 0 + 0, sl + 0 + 0, Nat.le_refl _, I, by omega, by omega, ?_⟩
  refine (eL_16 mv_Ph (mv_LK SL sx n) SL sx 600000 7302250 (nI i) h ce sl).trans ?_
  simp (disch := omega) only [nI_add, mp_inb, mp_tn, xgd, mv_gdL, mv_Ph_34, mv_Ph_35, pV_seed_eq, pN_seed_eq, e1, e2, xrI, xbi, if_true]
  rfl
theorem sL_17 {SL : Nat} {sx : Nat → Int32} {n i k : Nat} {h : H2} {ce sl : Nat} (hi : i + 5 ≤ SL) (hS : SL ≤ 2560) (hk : k ≤ 600) (hI : Inv k h) (hce : ce + 2 ≤ 600000) (hsl : sl + 42 ≤ 7302250) : mv_st1 SL sx n i k ce sl (mv_LK SL sx (n + 1) 791 (lvL (nI i)) [] h ce sl) := by
  obtain ⟨v, h1, h2, e1, e2, I⟩ := g_day  k h hk hI
  refine ⟨n, h2, ce + 0 + 0, sl + 0 + 0, Nat.le_refl _, I, by omega, by omega, ?_⟩
  refine (eL_17 mv_Ph (mv_LK SL sx n) SL sx 600000 7302250 (nI i) h ce sl).trans ?_
  simp (disch := omega) only [nI_add, mp_inb, mp_tn, xgd, mv_gdL, mv_Ph_36, mv_Ph_37, pV_day_eq, pN_day_eq, e1, e2, xrI, xbi, if_true]
  rfl
theorem sL_18 {SL : Nat} {sx : Nat → Int32} {n i k : Nat} {h : H2} {ce sl : Nat} (hi : i + 5 ≤ SL) (hS : SL ≤ 2560) (hk : k ≤ 600) (hI : Inv k h) (hce : ce + 2 ≤ 600000) (hsl : sl + 42 ≤ 7302250) : mv_st1 SL sx n i k ce sl (mv_LK SL sx (n + 1) 804 (lvL (nI i)) [] h ce sl) := by
  obtain ⟨v, h1, h2, e1, e2, I⟩ := g_luck (sx (i + 1)) k h hk hI
  refine ⟨n, h2, ce + 0 + 0, sl + 0 + 0, Nat.le_refl _, I, by omega, by omega, ?_⟩
  refine (eL_18 mv_Ph (mv_LK SL sx n) SL sx 600000 7302250 (nI i) h ce sl).trans ?_
  simp (disch := omega) only [nI_add, mp_inb, mp_tn, xgd, mv_gdL, mv_Ph_38, mv_Ph_39, pV_luck_eq, pN_luck_eq, e1, e2, xrI, xbi, if_true]
  rfl
theorem sL_19 {SL : Nat} {sx : Nat → Int32} {n i k : Nat} {h : H2} {ce sl : Nat} (hi : i + 5 ≤ SL) (hS : SL ≤ 2560) (hk : k ≤ 600) (hI : Inv k h) (hce : ce + 2 ≤ 600000) (hsl : sl + 42 ≤ 7302250) : mv_st1 SL sx n i k ce sl (mv_LK SL sx (n + 1) 827 (lvL (nI i)) [] h ce sl) := by
  obtain ⟨v, h1, h2, e1, e2, I⟩ := g_state (sx (i + 1)) k h hk hI
  refine ⟨n, h2, ce + 0 + 0, sl + 0 + 0, Nat.le_refl _, I, by omega, by omega, ?_⟩
  refine (eL_19 mv_Ph (mv_LK SL sx n) SL sx 600000 7302250 (nI i) h ce sl).trans ?_
  simp (disch := omega) only [nI_add, mp_inb, mp_tn, xgd, mv_gdL, mv_Ph_40, mv_Ph_41, pV_state_eq, pN_state_eq, e1, e2, xrI, xbi, if_true]
  rfl
theorem sL_20 {SL : Nat} {sx : Nat → Int32} {n i k : Nat} {h : H2} {ce sl : Nat} (hi : i + 5 ≤ SL) (hS : SL ≤ 2560) (hk : k ≤ 600) (hI : Inv k h) (hce : ce + 2 ≤ 600000) (hsl : sl + 42 ≤ 7302250) : mv_st1 SL sx n i k ce sl (mv_LK SL sx (n + 1) 850 (lvL (nI i)) [] h ce sl) := by
  obtain ⟨v, h1, h2, e1, e2, I⟩ := g_gone (sx (i + 1)) (sx (i + 2)) k h hk hI
  refine ⟨n, h2, ce + 0 + 0, sl + 0 + 0, Nat.le_refl _, I, by omega, by omega, ?_⟩
  refine (eL_20 mv_Ph (mv_LK SL sx n) SL sx 600000 7302250 (nI i) h ce sl).trans ?_
  simp (disch := omega) only [nI_add, mp_inb, mp_tn, xgd, mv_gdL, mv_Ph_42, mv_Ph_43, pV_gone_eq, pN_gone_eq, e1, e2, xrI, xbi, if_true]
  rfl
theorem sL_21 {SL : Nat} {sx : Nat → Int32} {n i k : Nat} {h : H2} {ce sl : Nat} (hi : i + 5 ≤ SL) (hS : SL ≤ 2560) (hk : k ≤ 600) (hI : Inv k h) (hce : ce + 2 ≤ 600000) (hsl : sl + 42 ≤ 7302250) : mv_st1 SL sx n i k ce sl (mv_LK SL sx (n + 1) 883 (lvL (nI i)) [] h ce sl) := by
  obtain ⟨v, h1, h2, e1, e2, I⟩ := g_depth (sx (i + 1)) (sx (i + 2)) k h hk hI
  refine ⟨n, h2, ce + 0 + 0, sl + 0 + 0, Nat.le_refl _, I, by omega, by omega, ?_⟩
  refine (eL_21 mv_Ph (mv_LK SL sx n) SL sx 600000 7302250 (nI i) h ce sl).trans ?_
  simp (disch := omega) only [nI_add, mp_inb, mp_tn, xgd, mv_gdL, mv_Ph_44, mv_Ph_45, pV_depth_eq, pN_depth_eq, e1, e2, xrI, xbi, if_true]
  rfl
theorem sL_22 {SL : Nat} {sx : Nat → Int32} {n i k : Nat} {h : H2} {ce sl : Nat} (hi : i + 5 ≤ SL) (hS : SL ≤ 2560) (hk : k ≤ 600) (hI : Inv k h) (hce : ce + 2 ≤ 600000) (hsl : sl + 42 ≤ 7302250) : mv_st1 SL sx n i k ce sl (mv_LK SL sx (n + 1) 916 (lvL (nI i)) [] h ce sl) := by
  obtain ⟨v, h1, h2, e1, e2, I⟩ := g_comes (sx (i + 1)) (sx (i + 2)) k h hk hI
  refine ⟨n, h2, ce + 0 + 0, sl + 0 + 0, Nat.le_refl _, I, by omega, by omega, ?_⟩
  refine (eL_22 mv_Ph (mv_LK SL sx n) SL sx 600000 7302250 (nI i) h ce sl).trans ?_
  simp (disch := omega) only [nI_add, mp_inb, mp_tn, xgd, mv_gdL, mv_Ph_46, mv_Ph_47, pV_comes_eq, pN_comes_eq, e1, e2, xrI, xbi, if_true]
  rfl
theorem sL_23 {SL : Nat} {sx : Nat → Int32} {n i k : Nat} {h : H2} {ce sl : Nat} (hi : i + 5 ≤ SL) (hS : SL ≤ 2560) (hk : k ≤ 600) (hI : Inv k h) (hce : ce + 2 ≤ 600000) (hsl : sl + 42 ≤ 7302250) : mv_st1 SL sx n i k ce sl (mv_LK SL sx (n + 1) 949 (lvL (nI i)) [] h ce sl) := by
  obtain ⟨v, h1, h2, e1, e2, I⟩ := g_bare (sx (i + 1)) k h hk hI
  refine ⟨n, h2, ce + 0 + 0, sl + 0 + 0, Nat.le_refl _, I, by omega, by omega, ?_⟩
  refine (eL_23 mv_Ph (mv_LK SL sx n) SL sx 600000 7302250 (nI i) h ce sl).trans ?_
  simp (disch := omega) only [nI_add, mp_inb, mp_tn, xgd, mv_gdL, mv_Ph_48, mv_Ph_49, pV_bare_eq, pN_bare_eq, e1, e2, xrI, xbi, if_true]
  rfl
theorem sL_24 {SL : Nat} {sx : Nat → Int32} {n i k : Nat} {h : H2} {ce sl : Nat} (hi : i + 5 ≤ SL) (hS : SL ≤ 2560) (hk : k ≤ 600) (hI : Inv k h) (hce : ce + 2 ≤ 600000) (hsl : sl + 42 ≤ 7302250) : mv_st1 SL sx n i k ce sl (mv_LK SL sx (n + 1) 972 (lvL (nI i)) [] h ce sl) := by
  obtain ⟨v, h1, h2, e1, e2, I⟩ := g_spoilt (sx (i + 1)) k h hk hI
  refine ⟨n, h2, ce + 0 + 0, sl + 0 + 0, Nat.le_refl _, I, by omega, by omega, ?_⟩
  refine (eL_24 mv_Ph (mv_LK SL sx n) SL sx 600000 7302250 (nI i) h ce sl).trans ?_
  simp (disch := omega) only [nI_add, mp_inb, mp_tn, xgd, mv_gdL, mv_Ph_50, mv_Ph_51, pV_spoilt_eq, pN_spoilt_eq, e1, e2, xrI, xbi, if_true]
  rfl
theorem sL_25 {SL : Nat} {sx : Nat → Int32} {n i k : Nat} {h : H2} {ce sl : Nat} (hi : i + 5 ≤ SL) (hS : SL ≤ 2560) (hk : k ≤ 600) (hI : Inv k h) (hce : ce + 2 ≤ 600000) (hsl : sl + 42 ≤ 7302250) : mv_st1 SL sx n i k ce sl (mv_LK SL sx (n + 1) 995 (lvL (nI i)) [] h ce sl) := by
  obtain ⟨v, h1, h2, e1, e2, I⟩ := g_through (sx (i + 1)) (sx (i + 2)) k h hk hI
  refine ⟨n, h2, ce + 0 + 0, sl + 0 + 0, Nat.le_refl _, I, by omega, by omega, ?_⟩
  refine (eL_25 mv_Ph (mv_LK SL sx n) SL sx 600000 7302250 (nI i) h ce sl).trans ?_
  simp (disch := omega) only [nI_add, mp_inb, mp_tn, xgd, mv_gdL, mv_Ph_52, mv_Ph_53, pV_through_eq, pN_through_eq, e1, e2, xrI, xbi, if_true]
  rfl
theorem sL_26 {SL : Nat} {sx : Nat → Int32} {n i k : Nat} {h : H2} {ce sl : Nat} (hi : i + 5 ≤ SL) (hS : SL ≤ 2560) (hk : k ≤ 600) (hI : Inv k h) (hce : ce + 2 ≤ 600000) (hsl : sl + 42 ≤ 7302250) : mv_st1 SL sx n i k ce sl (mv_LK SL sx (n + 1) 1028 (lvL (nI i)) [] h ce sl) := by
  obtain ⟨v, h1, h2, e1, e2, I⟩ := g_vatFor (sx (i + 1)) (sx (i + 2)) k h hk hI
  refine ⟨n, h2, ce + 0 + 0, sl + 0 + 0, Nat.le_refl _, I, by omega, by omega, ?_⟩
  refine (eL_26 mv_Ph (mv_LK SL sx n) SL sx 600000 7302250 (nI i) h ce sl).trans ?_
  simp (disch := omega) only [nI_add, mp_inb, mp_tn, xgd, mv_gdL, mv_Ph_54, mv_Ph_55, pV_vatFor_eq, pN_vatFor_eq, e1, e2, xrI, xbi, if_true]
  rfl
theorem sL_27 {SL : Nat} {sx : Nat → Int32} {n i k : Nat} {h : H2} {ce sl : Nat} (hi : i + 5 ≤ SL) (hS : SL ≤ 2560) (hk : k ≤ 600) (hI : Inv k h) (hce : ce + 2 ≤ 600000) (hsl : sl + 42 ≤ 7302250) : mv_st1 SL sx n i k ce sl (mv_LK SL sx (n + 1) 1061 (lvL (nI i)) [] h ce sl) := by
  obtain ⟨v, h1, h2, e1, e2, I⟩ := g_kindFor (sx (i + 1)) (sx (i + 2)) k h hk hI
  refine ⟨n, h2, ce + 0 + 0, sl + 0 + 0, Nat.le_refl _, I, by omega, by omega, ?_⟩
  refine (eL_27 mv_Ph (mv_LK SL sx n) SL sx 600000 7302250 (nI i) h ce sl).trans ?_
  simp (disch := omega) only [nI_add, mp_inb, mp_tn, xgd, mv_gdL, mv_Ph_56, mv_Ph_57, pV_kindFor_eq, pN_kindFor_eq, e1, e2, xrI, xbi, if_true]
  rfl
theorem sL_28 {SL : Nat} {sx : Nat → Int32} {n i k : Nat} {h : H2} {ce sl : Nat} (hi : i + 5 ≤ SL) (hS : SL ≤ 2560) (hk : k ≤ 600) (hI : Inv k h) (hce : ce + 2 ≤ 600000) (hsl : sl + 42 ≤ 7302250) : mv_st1 SL sx n i k ce sl (mv_LK SL sx (n + 1) 1094 (lvL (nI i)) [] h ce sl) := by
  obtain ⟨v, h1, h2, e1, e2, I⟩ := g_strengthFor (sx (i + 1)) (sx (i + 2)) (sx (i + 3)) (sx (i + 4)) k h hk hI
  refine ⟨n, h2, ce + 0 + 0, sl + 0 + 0, Nat.le_refl _, I, by omega, by omega, ?_⟩
  refine (eL_28 mv_Ph (mv_LK SL sx n) SL sx 600000 7302250 (nI i) h ce sl).trans ?_
  simp (disch := omega) only [nI_add, mp_inb, mp_tn, xgd, mv_gdL, mv_Ph_58, mv_Ph_59, pV_strengthFor_eq, pN_strengthFor_eq, e1, e2, xrI, xbi, if_true]
  rfl
theorem sL_29 {SL : Nat} {sx : Nat → Int32} {n i k : Nat} {h : H2} {ce sl : Nat} (hi : i + 5 ≤ SL) (hS : SL ≤ 2560) (hk : k ≤ 600) (hI : Inv k h) (hce : ce + 2 ≤ 600000) (hsl : sl + 42 ≤ 7302250) : mv_st1 SL sx n i k ce sl (mv_LK SL sx (n + 1) 1147 (lvL (nI i)) [] h ce sl) := by
  obtain ⟨v, h1, h2, e1, e2, I⟩ := g_hangFor (sx (i + 1)) (sx (i + 2)) k h hk hI
  refine ⟨n, h2, ce + 0 + 0, sl + 0 + 0, Nat.le_refl _, I, by omega, by omega, ?_⟩
  refine (eL_29 mv_Ph (mv_LK SL sx n) SL sx 600000 7302250 (nI i) h ce sl).trans ?_
  simp (disch := omega) only [nI_add, mp_inb, mp_tn, xgd, mv_gdL, mv_Ph_60, mv_Ph_61, pV_hangFor_eq, pN_hangFor_eq, e1, e2, xrI, xbi, if_true]
  rfl
theorem sL_30 {SL : Nat} {sx : Nat → Int32} {n i k : Nat} {h : H2} {ce sl : Nat} (hi : i + 5 ≤ SL) (hS : SL ≤ 2560) (hk : k ≤ 600) (hI : Inv k h) (hce : ce + 2 ≤ 600000) (hsl : sl + 42 ≤ 7302250) : mv_st1 SL sx n i k ce sl (mv_LK SL sx (n + 1) 1180 (lvL (nI i)) [] h ce sl) := by
  obtain ⟨v, h1, h2, e1, e2, I⟩ := g_fits (sx (i + 1)) (sx (i + 2)) (sx (i + 3)) k h hk hI
  refine ⟨n, h2, ce + 0 + 0, sl + 0 + 0, Nat.le_refl _, I, by omega, by omega, ?_⟩
  refine (eL_30 mv_Ph (mv_LK SL sx n) SL sx 600000 7302250 (nI i) h ce sl).trans ?_
  simp (disch := omega) only [nI_add, mp_inb, mp_tn, xgd, mv_gdL, mv_Ph_62, mv_Ph_63, pV_fits_eq, pN_fits_eq, e1, e2, xrI, xbi, if_true]
  rfl
theorem sL_31 {SL : Nat} {sx : Nat → Int32} {n i k : Nat} {h : H2} {ce sl : Nat} (hi : i + 5 ≤ SL) (hS : SL ≤ 2560) (hk : k ≤ 600) (hI : Inv k h) (hce : ce + 2 ≤ 600000) (hsl : sl + 42 ≤ 7302250) : mv_st1 SL sx n i k ce sl (mv_LK SL sx (n + 1) 1223 (lvL (nI i)) [] h ce sl) := by
  obtain ⟨v, h1, h2, e1, e2, I⟩ := g_odds (sx (i + 1)) (sx (i + 2)) (sx (i + 3)) k h hk hI
  refine ⟨n, h2, ce + 0 + 0, sl + 0 + 0, Nat.le_refl _, I, by omega, by omega, ?_⟩
  refine (eL_31 mv_Ph (mv_LK SL sx n) SL sx 600000 7302250 (nI i) h ce sl).trans ?_
  simp (disch := omega) only [nI_add, mp_inb, mp_tn, xgd, mv_gdL, mv_Ph_64, mv_Ph_65, pV_odds_eq, pN_odds_eq, e1, e2, xrL, xbi, lg_cmp_self, if_true]
  rfl
theorem sL_32 {SL : Nat} {sx : Nat → Int32} {n i k : Nat} {h : H2} {ce sl : Nat} (hi : i + 5 ≤ SL) (hS : SL ≤ 2560) (hk : k ≤ 600) (hI : Inv k h) (hce : ce + 2 ≤ 600000) (hsl : sl + 42 ≤ 7302250) : mv_st1 SL sx n i k ce sl (mv_LK SL sx (n + 1) 1267 (lvL (nI i)) [] h ce sl) := by
  obtain ⟨v, h1, h2, e1, e2, I⟩ := g_hope (sx (i + 1)) (sx (i + 2)) k h hk hI
  refine ⟨n, h2, ce + 0 + 0, sl + 0 + 0, Nat.le_refl _, I, by omega, by omega, ?_⟩
  refine (eL_32 mv_Ph (mv_LK SL sx n) SL sx 600000 7302250 (nI i) h ce sl).trans ?_
  simp (disch := omega) only [nI_add, mp_inb, mp_tn, xgd, mv_gdL, mv_Ph_66, mv_Ph_67, pV_hope_eq, pN_hope_eq, e1, e2, xrL, xbi, lg_cmp_self, if_true]
  rfl
theorem sL_33 {SL : Nat} {sx : Nat → Int32} {n i k : Nat} {h : H2} {ce sl : Nat} (hi : i + 5 ≤ SL) (hS : SL ≤ 2560) (hk : k ≤ 600) (hI : Inv k h) (hce : ce + 2 ≤ 600000) (hsl : sl + 42 ≤ 7302250) : mv_st1 SL sx n i k ce sl (mv_LK SL sx (n + 1) 1301 (lvL (nI i)) [] h ce sl) := by
  obtain ⟨v, h1, h2, e1, e2, I⟩ := g_prove (sx (i + 1)) (sx (i + 2)) k h hk hI
  refine ⟨n, h2, ce + 0 + 0, sl + 0 + 0, Nat.le_refl _, I, by omega, by omega, ?_⟩
  refine (eL_33 mv_Ph (mv_LK SL sx n) SL sx 600000 7302250 (nI i) h ce sl).trans ?_
  simp (disch := omega) only [nI_add, mp_inb, mp_tn, xgd, mv_gdL, mv_Ph_68, mv_Ph_69, pV_prove_eq, pN_prove_eq, e1, e2, xrI, xbi, if_true]
  rfl
theorem sL_34 {SL : Nat} {sx : Nat → Int32} {n i k : Nat} {h : H2} {ce sl : Nat} (hi : i + 5 ≤ SL) (hS : SL ≤ 2560) (hk : k ≤ 600) (hI : Inv k h) (hce : ce + 2 ≤ 600000) (hsl : sl + 42 ≤ 7302250) : mv_st1 SL sx n i k ce sl (mv_LK SL sx (n + 1) 1334 (lvL (nI i)) [] h ce sl) := by
  obtain ⟨v, h1, h2, e1, e2, I⟩ := g_row (sx (i + 1)) (sx (i + 2)) k h hk hI
  refine ⟨n, h2, ce + 0 + 0, sl + 0 + 0, Nat.le_refl _, I, by omega, by omega, ?_⟩
  refine (eL_34 mv_Ph (mv_LK SL sx n) SL sx 600000 7302250 (nI i) h ce sl).trans ?_
  simp (disch := omega) only [nI_add, mp_inb, mp_tn, xgd, mv_gdL, mv_Ph_70, mv_Ph_71, pV_row_eq, pN_row_eq, e1, e2, xrI, xbi, if_true]
  rfl
theorem sL_35 {SL : Nat} {sx : Nat → Int32} {n i k : Nat} {h : H2} {ce sl : Nat} (hi : i + 5 ≤ SL) (hS : SL ≤ 2560) (hk : k ≤ 600) (hI : Inv k h) (hce : ce + 2 ≤ 600000) (hsl : sl + 42 ≤ 7302250) : mv_st1 SL sx n i k ce sl (mv_LK SL sx (n + 1) 1367 (lvL (nI i)) [] h ce sl) := by
  obtain ⟨v, h1, h2, e1, e2, I⟩ := g_alterRow (sx (i + 1)) (sx (i + 2)) (sx (i + 3)) k h hk hI
  refine ⟨n, h2, ce + 0 + 0, sl + 0 + 0, Nat.le_refl _, I, by omega, by omega, ?_⟩
  refine (eL_35 mv_Ph (mv_LK SL sx n) SL sx 600000 7302250 (nI i) h ce sl).trans ?_
  simp (disch := omega) only [nI_add, mp_inb, mp_tn, xgd, mv_gdL, mv_Ph_72, mv_Ph_73, pV_alterRow_eq, pN_alterRow_eq, e1, e2, xrI, xbi, if_true]
  rfl
theorem sL_36 {SL : Nat} {sx : Nat → Int32} {n i k : Nat} {h : H2} {ce sl : Nat} (hi : i + 5 ≤ SL) (hS : SL ≤ 2560) (hk : k ≤ 600) (hI : Inv k h) (hce : ce + 2 ≤ 600000) (hsl : sl + 42 ≤ 7302250) : mv_st1 SL sx n i k ce sl (mv_LK SL sx (n + 1) 1410 (lvL (nI i)) [] h ce sl) := by
  obtain ⟨v, h1, h2, e1, e2, I⟩ := g_judge (sx (i + 1)) k h hk hI
  refine ⟨n, h2, ce + 0 + 0, sl + 0 + 0, Nat.le_refl _, I, by omega, by omega, ?_⟩
  refine (eL_36 mv_Ph (mv_LK SL sx n) SL sx 600000 7302250 (nI i) h ce sl).trans ?_
  simp (disch := omega) only [nI_add, mp_inb, mp_tn, xgd, mv_gdL, mv_Ph_74, mv_Ph_75, pV_judge_eq, pN_judge_eq, e1, e2, xrI, xbi, if_true]
  rfl
theorem sL_37 {SL : Nat} {sx : Nat → Int32} {n i k : Nat} {h : H2} {ce sl : Nat} (hi : i + 5 ≤ SL) (hS : SL ≤ 2560) (hk : k ≤ 600) (hI : Inv k h) (hce : ce + 2 ≤ 600000) (hsl : sl + 42 ≤ 7302250) : mv_st1 SL sx n i k ce sl (mv_LK SL sx (n + 1) 1433 (lvL (nI i)) [] h ce sl) := by
  obtain ⟨v, h1, h2, e1, e2, I⟩ := g_minds (sx (i + 1)) (sx (i + 2)) (sx (i + 3)) (sx (i + 4)) k h hk hI
  refine ⟨n, h2, ce + 0 + 0, sl + 0 + 0, Nat.le_refl _, I, by omega, by omega, ?_⟩
  refine (eL_37 mv_Ph (mv_LK SL sx n) SL sx 600000 7302250 (nI i) h ce sl).trans ?_
  simp (disch := omega) only [nI_add, mp_inb, mp_tn, xgd, mv_gdL, mv_Ph_76, mv_Ph_77, pV_minds_eq, pN_minds_eq, e1, e2, xrI, xbi, if_true]
  rfl
theorem sL_38 {SL : Nat} {sx : Nat → Int32} {n i k : Nat} {h : H2} {ce sl : Nat} (hi : i + 5 ≤ SL) (hS : SL ≤ 2560) (hk : k ≤ 600) (hI : Inv k h) (hce : ce + 2 ≤ 600000) (hsl : sl + 42 ≤ 7302250) : mv_st1 SL sx n i k ce sl (mv_LK SL sx (n + 1) 1486 (lvL (nI i)) [] h ce sl) := by
  obtain ⟨v, h1, h2, e1, e2, I⟩ := g_sheet (sx (i + 1)) (sx (i + 2)) (sx (i + 3)) k h hk hI
  refine ⟨n, h2, ce + 2 + 0, sl + 42 + 0, Nat.le_refl _, I, by omega, by omega, ?_⟩
  refine (eL_38 mv_Ph (mv_LK SL sx n) SL sx 600000 7302250 (nI i) h ce sl).trans ?_
  simp (disch := omega) only [nI_add, mp_inb, mp_tn, xgd, mv_gdL, mv_Ph_78, mv_Ph_79, pV_sheet_eq, pN_sheet_eq, e1, e2, xrI, xbi, if_true]
  rfl
theorem sL_39 {SL : Nat} {sx : Nat → Int32} {n i k : Nat} {h : H2} {ce sl : Nat} (hi : i + 5 ≤ SL) (hS : SL ≤ 2560) (hk : k ≤ 600) (hI : Inv k h) (hce : ce + 2 ≤ 600000) (hsl : sl + 42 ≤ 7302250) : mv_st1 SL sx n i k ce sl (mv_LK SL sx (n + 1) 1529 (lvL (nI i)) [] h ce sl) := by
  obtain ⟨v, h1, h2, e1, e2, I⟩ := g_put (sx (i + 1)) (sx (i + 2)) (sx (i + 3)) k h hk hI
  refine ⟨n, h2, ce + 0 + 0, sl + 0 + 0, Nat.le_refl _, I, by omega, by omega, ?_⟩
  refine (eL_39 mv_Ph (mv_LK SL sx n) SL sx 600000 7302250 (nI i) h ce sl).trans ?_
  simp (disch := omega) only [nI_add, mp_inb, mp_tn, xgd, mv_gdL, mv_Ph_80, mv_Ph_81, pV_put_eq, pN_put_eq, e1, e2, xrI, xbi, if_true]
  rfl
theorem sL_40 {SL : Nat} {sx : Nat → Int32} {n i k : Nat} {h : H2} {ce sl : Nat} (hi : i + 5 ≤ SL) (hS : SL ≤ 2560) (hk : k ≤ 600) (hI : Inv k h) (hce : ce + 2 ≤ 600000) (hsl : sl + 42 ≤ 7302250) : mv_st1 SL sx n i k ce sl (mv_LK SL sx (n + 1) 1572 (lvL (nI i)) [] h ce sl) := by
  obtain ⟨v, h1, h2, e1, e2, I⟩ := g_item (sx (i + 1)) (sx (i + 2)) (sx (i + 3)) k h hk hI
  refine ⟨n, h2, ce + 0 + 0, sl + 0 + 0, Nat.le_refl _, I, by omega, by omega, ?_⟩
  refine (eL_40 mv_Ph (mv_LK SL sx n) SL sx 600000 7302250 (nI i) h ce sl).trans ?_
  simp (disch := omega) only [nI_add, mp_inb, mp_tn, xgd, mv_gdL, mv_Ph_82, mv_Ph_83, pV_item_eq, pN_item__eq, e1, e2, xrI, xbi, if_true]
  rfl
theorem sL_41 {SL : Nat} {sx : Nat → Int32} {n i k : Nat} {h : H2} {ce sl : Nat} (hi : i + 5 ≤ SL) (hS : SL ≤ 2560) (hk : k ≤ 600) (hI : Inv k h) (hce : ce + 2 ≤ 600000) (hsl : sl + 42 ≤ 7302250) : mv_st1 SL sx n i k ce sl (mv_LK SL sx (n + 1) 1615 (lvL (nI i)) [] h ce sl) := by
  obtain ⟨v, h1, h2, e1, e2, I⟩ := g_shelf (sx (i + 1)) (sx (i + 2)) (sx (i + 3)) k h hk hI
  refine ⟨n, h2, ce + 0 + 0, sl + 0 + 0, Nat.le_refl _, I, by omega, by omega, ?_⟩
  refine (eL_41 mv_Ph (mv_LK SL sx n) SL sx 600000 7302250 (nI i) h ce sl).trans ?_
  simp (disch := omega) only [nI_add, mp_inb, mp_tn, xgd, mv_gdL, mv_Ph_84, mv_Ph_85, pV_shelf_eq, pN_shelf_eq, e1, e2, xrI, xbi, if_true]
  rfl
theorem sL_42 {SL : Nat} {sx : Nat → Int32} {n i k : Nat} {h : H2} {ce sl : Nat} (hi : i + 5 ≤ SL) (hS : SL ≤ 2560) (hk : k ≤ 600) (hI : Inv k h) (hce : ce + 2 ≤ 600000) (hsl : sl + 42 ≤ 7302250) : mv_st1 SL sx n i k ce sl (mv_LK SL sx (n + 1) 1658 (lvL (nI i)) [] h ce sl) := by
  obtain ⟨v, h1, h2, e1, e2, I⟩ := g_taken (sx (i + 1)) (sx (i + 2)) k h hk hI
  refine ⟨n, h2, ce + 0 + 0, sl + 0 + 0, Nat.le_refl _, I, by omega, by omega, ?_⟩
  refine (eL_42 mv_Ph (mv_LK SL sx n) SL sx 600000 7302250 (nI i) h ce sl).trans ?_
  simp (disch := omega) only [nI_add, mp_inb, mp_tn, xgd, mv_gdL, mv_Ph_86, mv_Ph_87, pV_taken_eq, pN_taken_eq, e1, e2, xrI, xbi, if_true]
  rfl
theorem sL_43 {SL : Nat} {sx : Nat → Int32} {n i k : Nat} {h : H2} {ce sl : Nat} (hi : i + 5 ≤ SL) (hS : SL ≤ 2560) (hk : k ≤ 600) (hI : Inv k h) (hce : ce + 2 ≤ 600000) (hsl : sl + 42 ≤ 7302250) : mv_st1 SL sx n i k ce sl (mv_LK SL sx (n + 1) 1691 (lvL (nI i)) [] h ce sl) := by
  obtain ⟨v, h1, h2, e1, e2, I⟩ := g_act (sx (i + 1)) (sx (i + 2)) (sx (i + 3)) k h hk hI
  refine ⟨n, h2, ce + 0 + 0, sl + 0 + 0, Nat.le_refl _, I, by omega, by omega, ?_⟩
  refine (eL_43 mv_Ph (mv_LK SL sx n) SL sx 600000 7302250 (nI i) h ce sl).trans ?_
  simp (disch := omega) only [nI_add, mp_inb, mp_tn, xgd, mv_gdL, mv_Ph_88, mv_Ph_89, pV_act_eq, pN_act_eq, e1, e2, xrI, xbi, if_true]
  rfl
theorem sL_44 {SL : Nat} {sx : Nat → Int32} {n i k : Nat} {h : H2} {ce sl : Nat} (hi : i + 5 ≤ SL) (hS : SL ≤ 2560) (hk : k ≤ 600) (hI : Inv k h) (hce : ce + 2 ≤ 600000) (hsl : sl + 42 ≤ 7302250) : mv_st1 SL sx n i k ce sl (mv_LK SL sx (n + 1) 1734 (lvL (nI i)) [] h ce sl) := by
  obtain ⟨v, h1, h2, e1, e2, I⟩ := g_trace (sx (i + 1)) k h hk hI
  refine ⟨n, h2, ce + 0 + 0, sl + 0 + 0, Nat.le_refl _, I, by omega, by omega, ?_⟩
  refine (eL_44 mv_Ph (mv_LK SL sx n) SL sx 600000 7302250 (nI i) h ce sl).trans ?_
  simp (disch := omega) only [nI_add, mp_inb, mp_tn, xgd, mv_gdL, mv_Ph_90, mv_Ph_91, pV_trace_eq, pN_trace_eq, e1, e2, xrI, xbi, if_true]
  rfl
theorem sL_45 {SL : Nat} {sx : Nat → Int32} {n i k : Nat} {h : H2} {ce sl : Nat} (hi : i + 5 ≤ SL) (hS : SL ≤ 2560) (hk : k ≤ 600) (hI : Inv k h) (hce : ce + 2 ≤ 600000) (hsl : sl + 42 ≤ 7302250) : mv_st1 SL sx n i k ce sl (mv_LK SL sx (n + 1) 1757 (lvL (nI i)) [] h ce sl) := by
  obtain ⟨v, h1, h2, e1, e2, I⟩ := g_many (sx (i + 1)) k h hk hI
  refine ⟨n, h2, ce + 0 + 0, sl + 0 + 0, Nat.le_refl _, I, by omega, by omega, ?_⟩
  refine (eL_45 mv_Ph (mv_LK SL sx n) SL sx 600000 7302250 (nI i) h ce sl).trans ?_
  simp (disch := omega) only [nI_add, mp_inb, mp_tn, xgd, mv_gdL, mv_Ph_92, mv_Ph_93, pV_many_eq, pN_many_eq, e1, e2, xrI, xbi, if_true]
  rfl
theorem sL_46 {SL : Nat} {sx : Nat → Int32} {n i k : Nat} {h : H2} {ce sl : Nat} (hi : i + 5 ≤ SL) (hS : SL ≤ 2560) (hk : k ≤ 600) (hI : Inv k h) (hce : ce + 2 ≤ 600000) (hsl : sl + 42 ≤ 7302250) : mv_st1 SL sx n i k ce sl (mv_LK SL sx (n + 1) 1780 (lvL (nI i)) [] h ce sl) := by
  obtain ⟨v, h1, h2, e1, e2, I⟩ := g_keep  k h hk hI
  refine ⟨n, h2, ce + 0 + 0, sl + 0 + 0, Nat.le_refl _, I, by omega, by omega, ?_⟩
  refine (eL_46 mv_Ph (mv_LK SL sx n) SL sx 600000 7302250 (nI i) h ce sl).trans ?_
  simp (disch := omega) only [nI_add, mp_inb, mp_tn, xgd, mv_gdL, mv_Ph_94, mv_Ph_95, pV_keep_eq, pN_keep_eq, e1, e2, xrI, xbi, if_true]
  rfl
theorem sL_47 {SL : Nat} {sx : Nat → Int32} {n i k : Nat} {h : H2} {ce sl : Nat} (hi : i + 5 ≤ SL) (hS : SL ≤ 2560) (hk : k ≤ 600) (hI : Inv k h) (hce : ce + 2 ≤ 600000) (hsl : sl + 42 ≤ 7302250) : mv_st1 SL sx n i k ce sl (mv_LK SL sx (n + 1) 1793 (lvL (nI i)) [] h ce sl) := by
  obtain ⟨v, h1, h2, e1, e2, I⟩ := g_again  k h hk hI
  refine ⟨n, h2, ce + 0 + 0, sl + 0 + 0, Nat.le_refl _, I, by omega, by omega, ?_⟩
  refine (eL_47 mv_Ph (mv_LK SL sx n) SL sx 600000 7302250 (nI i) h ce sl).trans ?_
  simp (disch := omega) only [nI_add, mp_inb, mp_tn, xgd, mv_gdL, mv_Ph_96, mv_Ph_97, pV_again_eq, pN_again_eq, e1, e2, xrI, xbi, if_true]
  rfl
theorem mv_end_lt {SL i : Nat} (hS : SL ≤ 2560) (hi : i ≤ 3000) : (nI SL - nI 5 < nI i) = (SL < i + 5) := by
  have a0 : (nI i).toInt = i := nI_toInt (by omega)
  have e : (nI SL - nI 5).toInt = (SL : Int) - 5 := by
    by_cases h : 5 ≤ SL
    · rw [mp_sub h, nI_toInt (by omega)]; omega
    · have : ∀ q, q < 5 → (nI q - nI 5).toInt = (q : Int) - 5 := by decide +kernel
      exact this SL (by omega)
  rw [propext Int32.lt_iff_toInt_lt, a0, e]
  exact propext ⟨fun h => by omega, fun h => by omega⟩
theorem mv_Lstep {SL : Nat} {sx : Nat → Int32} {n i k : Nat} {h : H2} {ce sl : Nat} (hi : i + 5 ≤ SL) (hS : SL ≤ 2560) (hk : k ≤ 600) (hI : Inv k h) (hce : ce + 2 ≤ 600000) (hsl : sl + 42 ≤ 7302250) : mv_st1 SL sx n i k ce sl (mv_LK SL sx (n + 2) 18 (lvL (nI i)) [] h ce sl) := by
  have e : mv_LK SL sx (n + 2) 18 (lvL (nI i)) [] h ce sl = _ := eL_18 mv_Ph (mv_LK SL sx (n + 1)) SL sx 600000 7302250 (nI i) h ce sl
  rw [e, show (nI SL - nI 5 < nI i) = (SL < i + 5) from mv_end_lt hS (by omega), if_neg (show ¬ SL < i + 5 by omega), mp_inb (show i < SL by omega) (by omega), xgd]
  refine mv_st1_if (sL_0 hi hS hk hI hce hsl) ?_
  refine mv_st1_if (sL_1 hi hS hk hI hce hsl) ?_
  refine mv_st1_if (sL_2 hi hS hk hI hce hsl) ?_
  refine mv_st1_if (sL_3 hi hS hk hI hce hsl) ?_
  refine mv_st1_if (sL_4 hi hS hk hI hce hsl) ?_
  refine mv_st1_if (sL_5 hi hS hk hI hce hsl) ?_
  refine mv_st1_if (sL_6 hi hS hk hI hce hsl) ?_
  refine mv_st1_if (sL_7 hi hS hk hI hce hsl) ?_
  refine mv_st1_if (sL_8 hi hS hk hI hce hsl) ?_
  refine mv_st1_if (sL_9 hi hS hk hI hce hsl) ?_
  refine mv_st1_if (sL_10 hi hS hk hI hce hsl) ?_
  refine mv_st1_if (sL_11 hi hS hk hI hce hsl) ?_
  refine mv_st1_if (sL_12 hi hS hk hI hce hsl) ?_
  refine mv_st1_if (sL_13 hi hS hk hI hce hsl) ?_
  refine mv_st1_if (sL_14 hi hS hk hI hce hsl) ?_
  refine mv_st1_if (sL_15 hi hS hk hI hce hsl) ?_
  refine mv_st1_if (sL_16 hi hS hk hI hce hsl) ?_
  refine mv_st1_if (sL_17 hi hS hk hI hce hsl) ?_
  refine mv_st1_if (sL_18 hi hS hk hI hce hsl) ?_
  refine mv_st1_if (sL_19 hi hS hk hI hce hsl) ?_
  refine mv_st1_if (sL_20 hi hS hk hI hce hsl) ?_
  refine mv_st1_if (sL_21 hi hS hk hI hce hsl) ?_
  refine mv_st1_if (sL_22 hi hS hk hI hce hsl) ?_
  refine mv_st1_if (sL_23 hi hS hk hI hce hsl) ?_
  refine mv_st1_if (sL_24 hi hS hk hI hce hsl) ?_
  refine mv_st1_if (sL_25 hi hS hk hI hce hsl) ?_
  refine mv_st1_if (sL_26 hi hS hk hI hce hsl) ?_
  refine mv_st1_if (sL_27 hi hS hk hI hce hsl) ?_
  refine mv_st1_if (sL_28 hi hS hk hI hce hsl) ?_
  refine mv_st1_if (sL_29 hi hS hk hI hce hsl) ?_
  refine mv_st1_if (sL_30 hi hS hk hI hce hsl) ?_
  refine mv_st1_if (sL_31 hi hS hk hI hce hsl) ?_
  refine mv_st1_if (sL_32 hi hS hk hI hce hsl) ?_
  refine mv_st1_if (sL_33 hi hS hk hI hce hsl) ?_
  refine mv_st1_if (sL_34 hi hS hk hI hce hsl) ?_
  refine mv_st1_if (sL_35 hi hS hk hI hce hsl) ?_
  refine mv_st1_if (sL_36 hi hS hk hI hce hsl) ?_
  refine mv_st1_if (sL_37 hi hS hk hI hce hsl) ?_
  refine mv_st1_if (sL_38 hi hS hk hI hce hsl) ?_
  refine mv_st1_if (sL_39 hi hS hk hI hce hsl) ?_
  refine mv_st1_if (sL_40 hi hS hk hI hce hsl) ?_
  refine mv_st1_if (sL_41 hi hS hk hI hce hsl) ?_
  refine mv_st1_if (sL_42 hi hS hk hI hce hsl) ?_
  refine mv_st1_if (sL_43 hi hS hk hI hce hsl) ?_
  refine mv_st1_if (sL_44 hi hS hk hI hce hsl) ?_
  refine mv_st1_if (sL_45 hi hS hk hI hce hsl) ?_
  refine mv_st1_if (sL_46 hi hS hk hI hce hsl) ?_
  refine mv_st1_if (sL_47 hi hS hk hI hce hsl) ?_
  refine ⟨n + 1, h, ce, sl, by omega, Inv_succ hI, by omega, by omega, ?_⟩
  rw [xbi, nI_add]
  rfl
theorem mv_Lend {SL : Nat} {sx : Nat → Int32} {n i : Nat} {h : H2} {ce sl : Nat} (hi : SL < i + 5) (hi2 : i ≤ 3000) (hS : SL ≤ 2560) : mv_LK SL sx (n + 1) 18 (lvL (nI i)) [] h ce sl = some ([Sum.inl (Value.int (nI 1))], h) := by
  have e : mv_LK SL sx (n + 1) 18 (lvL (nI i)) [] h ce sl = _ := eL_18 mv_Ph (mv_LK SL sx n) SL sx 600000 7302250 (nI i) h ce sl
  rw [e, show (nI SL - nI 5 < nI i) = (SL < i + 5) from mv_end_lt hS hi2, if_pos hi, xb1, xgd]
theorem mv_Lall {SL : Nat} {sx : Nat → Int32} (hS : SL ≤ 2560) : ∀ (m n i k : Nat) (h : H2) (ce sl : Nat), i = 5 * k → SL < i + 5 * m + 5 → i ≤ 2560 → 2 * m + 1 ≤ n → Inv k h → ce ≤ 1000 + 2 * k → sl ≤ 20000 + 42 * k → ∃ h', mv_LK SL sx n 18 (lvL (nI i)) [] h ce sl = some ([Sum.inl (Value.int (nI 1))], h') := by
  intro m
  induction m with
  | zero =>
    intro n i k h ce sl e1 e2 e3 e4 hI e5 e6
    obtain ⟨n, rfl⟩ : ∃ n', n = n' + 1 := ⟨n - 1, by omega⟩
    exact ⟨h, mv_Lend (by omega) (by omega) hS⟩
  | succ m ih =>
    intro n i k h ce sl e1 e2 e3 e4 hI e5 e6
    by_cases hd : SL < i + 5
    · obtain ⟨n, rfl⟩ : ∃ n', n = n' + 1 := ⟨n - 1, by omega⟩
      exact ⟨h, mv_Lend hd (by omega) hS⟩
    · obtain ⟨n, rfl⟩ : ∃ n', n = n' + 2 := ⟨n - 2, by omega⟩
      obtain ⟨n', h', ce', sl', a1, a2, a3, a4, a5⟩ := mv_Lstep (SL := SL) (sx := sx) (n := n) (i := i) (k := k) (h := h) (ce := ce) (sl := sl) (by omega) hS (by omega) hI (by omega) (by omega)
      rw [a5]
      exact ih n' (i + 5) (k + 1) h' ce' sl' (by omega) (by omega) (by omega) (by omega) a2 (by omega) (by omega)
