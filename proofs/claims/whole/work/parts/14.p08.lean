-- p08: sets, pairs at odds, how many
theorem xadd0 (x : Int32) : x + nI 0 = x := by rw [nI_0, Int32.add_zero]
theorem xor0 (x : Int32) : x ||| nI 0 = x := by rw [nI_0, Int32.or_zero]
theorem nI_or {a b : Nat} : nI a ||| nI b = nI (a ||| b) := by
  apply Int32.toBitVec_inj.mp
  rw [Int32.toBitVec_or]
  unfold nI
  rw [Int32.toBitVec_ofNat', Int32.toBitVec_ofNat', Int32.toBitVec_ofNat']
  apply BitVec.eq_of_toNat_eq
  rw [BitVec.toNat_or, BitVec.toNat_ofNat, BitVec.toNat_ofNat, BitVec.toNat_ofNat, Nat.or_mod_two_pow]
theorem sh_0 : ∀ c, c < 8 → nI 0 <<< (nI c &&& 31) = 0 := by decide +kernel
theorem sh_1 : ∀ c, c < 10 → nI 1 <<< (nI c &&& 31) = nI (2 ^ c) := by decide +kernel
def hsL (A : Nat → Nat → Int32) : Nat → Nat → Nat → Nat
  | 0, _, s => s
  | k + 1, c, s => hsL A k (c + 1) (if A 7 c = nI 1 then s ||| 2 ^ c else s)
def asL (A : Nat → Nat → Int32) : Nat → Nat → Nat → Nat
  | 0, _, s => s
  | k + 1, c, s => asL A k (c + 1) (if A 5 c = -(nI 1) then s else s ||| 2 ^ c)
theorem hs_lt {A} : ∀ k c s, c + k ≤ 8 → s < 256 → hsL A k c s < 256
  | 0, _, _, _, h => h
  | k + 1, c, s, hc, h => by
    unfold hsL
    apply hs_lt k (c + 1) _ (by omega)
    split
    · have : 2 ^ c < 2 ^ 8 := Nat.pow_lt_pow_right (by omega) (by omega)
      exact Nat.or_lt_two_pow (n := 8) h this
    · exact h
theorem as_lt {A} : ∀ k c s, c + k ≤ 8 → s < 256 → asL A k c s < 256
  | 0, _, _, _, h => h
  | k + 1, c, s, hc, h => by
    unfold asL
    apply as_lt k (c + 1) _ (by omega)
    split
    · exact h
    · have : 2 ^ c < 2 ^ 8 := Nat.pow_lt_pow_right (by omega) (by omega)
      exact Nat.or_lt_two_pow (n := 8) h this
theorem cm_hsL {A n d z h o} (hn : n ≤ 8) : ∀ k c f s, c + k = n → k < f → fM_hungSet_b4 f o (nI s) (nI c) (putM o A n d z h) = some ([Sum.inl (Value.int (nI (hsL A k c s)))], putM o A n d z h)
  | _, _, 0, _, _, hf => by omega
  | 0, c, f + 1, s, hv, _ => by
    have : c = n := by omega
    subst this
    unfold fM_hungSet_b4 hsL
    simp (disch := omega) only [decide_true, Bool.true_or, Bool.or_true, xgd, xbi, xbh, xbl, xrI, xrV, xrL, xrR, mp_inb, mp_tn, mp_eq, mp_eq0, xnz, mp_le, mp_lt, mp_le0, mp_lt0, mp_0le, mp_0lt, mp_nn, mp_mul, nI_add, mp_mod, mp_iteI, mp_r0, mp_r1, mp_r2, mp_r3, mp_r4, mp_r5, mp_r6, mp_r7, mp_r8, mp_rn, mp_rd, mp_rz, mp_w0, mp_w1, mp_w2, mp_w3, mp_w4, mp_w5, mp_w6, mp_w7, mp_w8, mp_wn, mp_wd, mp_wz, mr_r, mr_w, mr_law, mr_day, mr_z, mr_n, mr_pur, mr_str, mr_ros, mr_clo, mr_wlaw, mr_wday, mr_wz, mr_wpur, mr_wstr, mr_wros, mr_wclo, mup_same, mup_ne_t]
    rw [if_pos (Nat.le_refl _)]
  | k + 1, c, f + 1, s, hv, hf => by
    unfold fM_hungSet_b4 hsL
    simp (disch := omega) only [sh_1, nI_or, decide_true, Bool.true_or, Bool.or_true, xgd, xbi, xbh, xbl, xrI, xrV, xrL, xrR, mp_inb, mp_tn, mp_eq, mp_eq0, xnz, mp_le, mp_lt, mp_le0, mp_lt0, mp_0le, mp_0lt, mp_nn, mp_mul, nI_add, mp_mod, mp_iteI, mp_r0, mp_r1, mp_r2, mp_r3, mp_r4, mp_r5, mp_r6, mp_r7, mp_r8, mp_rn, mp_rd, mp_rz, mp_w0, mp_w1, mp_w2, mp_w3, mp_w4, mp_w5, mp_w6, mp_w7, mp_w8, mp_wn, mp_wd, mp_wz, mr_r, mr_w, mr_law, mr_day, mr_z, mr_n, mr_pur, mr_str, mr_ros, mr_clo, mr_wlaw, mr_wday, mr_wz, mr_wpur, mr_wstr, mr_wros, mr_wclo, mup_same, mup_ne_t]
    rw [if_neg (by omega)]
    by_cases h1 : A 7 c = nI 1
    · rw [if_pos h1, if_pos h1]
      exact cm_hsL hn k (c + 1) f _ (by omega) (by omega)
    · rw [if_neg h1, if_neg h1]
      exact cm_hsL hn k (c + 1) f _ (by omega) (by omega)
theorem cm_asL {A n d z h o} (hn : n ≤ 8) : ∀ k c f s, c + k = n → k < f → fM_aboutSet_b4 f o (nI s) (nI c) (putM o A n d z h) = some ([Sum.inl (Value.int (nI (asL A k c s)))], putM o A n d z h)
  | _, _, 0, _, _, hf => by omega
  | 0, c, f + 1, s, hv, _ => by
    have : c = n := by omega
    subst this
    unfold fM_aboutSet_b4 asL
    simp (disch := omega) only [decide_true, Bool.true_or, Bool.or_true, xgd, xbi, xbh, xbl, xrI, xrV, xrL, xrR, mp_inb, mp_tn, mp_eq, mp_eq0, xnz, mp_le, mp_lt, mp_le0, mp_lt0, mp_0le, mp_0lt, mp_nn, mp_mul, nI_add, mp_mod, mp_iteI, mp_r0, mp_r1, mp_r2, mp_r3, mp_r4, mp_r5, mp_r6, mp_r7, mp_r8, mp_rn, mp_rd, mp_rz, mp_w0, mp_w1, mp_w2, mp_w3, mp_w4, mp_w5, mp_w6, mp_w7, mp_w8, mp_wn, mp_wd, mp_wz, mr_r, mr_w, mr_law, mr_day, mr_z, mr_n, mr_pur, mr_str, mr_ros, mr_clo, mr_wlaw, mr_wday, mr_wz, mr_wpur, mr_wstr, mr_wros, mr_wclo, mup_same, mup_ne_t]
    rw [if_pos (Nat.le_refl _)]
  | k + 1, c, f + 1, s, hv, hf => by
    unfold fM_aboutSet_b4 asL
    simp (disch := omega) only [sh_1, nI_or, decide_true, Bool.true_or, Bool.or_true, xgd, xbi, xbh, xbl, xrI, xrV, xrL, xrR, mp_inb, mp_tn, mp_eq, mp_eq0, xnz, mp_le, mp_lt, mp_le0, mp_lt0, mp_0le, mp_0lt, mp_nn, mp_mul, nI_add, mp_mod, mp_iteI, mp_r0, mp_r1, mp_r2, mp_r3, mp_r4, mp_r5, mp_r6, mp_r7, mp_r8, mp_rn, mp_rd, mp_rz, mp_w0, mp_w1, mp_w2, mp_w3, mp_w4, mp_w5, mp_w6, mp_w7, mp_w8, mp_wn, mp_wd, mp_wz, mr_r, mr_w, mr_law, mr_day, mr_z, mr_n, mr_pur, mr_str, mr_ros, mr_clo, mr_wlaw, mr_wday, mr_wz, mr_wpur, mr_wstr, mr_wros, mr_wclo, mup_same, mup_ne_t]
    rw [if_neg (by omega)]
    by_cases h1 : A 5 c = -(nI 1)
    · rw [if_pos h1, if_pos h1]
      exact cm_asL hn k (c + 1) f _ (by omega) (by omega)
    · rw [if_neg h1, if_neg h1]
      exact cm_asL hn k (c + 1) f _ (by omega) (by omega)
theorem mn_hsL {A n d z J h} (hn : n ≤ 8) (hR : Rng A n) : ∀ k c f s, c + k = n → k < f → fN_hungSet_b4 f 0 (nI s) (nI c) (putR 902 (rowOf A n d z J) h) = some ([Sum.inl (Value.int (nI (hsL A k c s)))], putR 902 (rowOf A n d z J) h)
  | _, _, 0, _, _, hf => by omega
  | 0, c, f + 1, s, hv, _ => by
    have : c = n := by omega
    subst this
    unfold fN_hungSet_b4 hsL
    simp (disch := omega) only [decide_true, Bool.true_or, Bool.or_true, xgd, xbi, xbh, xbl, xrI, xrV, xrL, xrR, mp_inb, mp_tn, mp_eq, mp_eq0, xnz, mp_le, mp_lt, mp_le0, mp_lt0, mp_0le, mp_0lt, mp_nn, mp_mul, nI_add, mp_mod, mp_iteI, mp_r0, mp_r1, mp_r2, mp_r3, mp_r4, mp_r5, mp_r6, mp_r7, mp_r8, mp_rn, mp_rd, mp_rz, mp_w0, mp_w1, mp_w2, mp_w3, mp_w4, mp_w5, mp_w6, mp_w7, mp_w8, mp_wn, mp_wd, mp_wz, mr_r, mr_w, mr_law, mr_day, mr_z, mr_n, mr_pur, mr_str, mr_ros, mr_clo, mr_wlaw, mr_wday, mr_wz, mr_wpur, mr_wstr, mr_wros, mr_wclo, mup_same, mup_ne_t]
    rw [if_pos (Nat.le_refl _)]
  | k + 1, c, f + 1, s, hv, hf => by
    unfold fN_hungSet_b4 hsL
    simp (disch := omega) only [mn_its, decide_true, Bool.true_or, Bool.or_true, xgd, xbi, xbh, xbl, xrI, xrV, xrL, xrR, mp_inb, mp_tn, mp_eq, mp_eq0, xnz, mp_le, mp_lt, mp_le0, mp_lt0, mp_0le, mp_0lt, mp_nn, mp_mul, nI_add, mp_mod, mp_iteI, mp_r0, mp_r1, mp_r2, mp_r3, mp_r4, mp_r5, mp_r6, mp_r7, mp_r8, mp_rn, mp_rd, mp_rz, mp_w0, mp_w1, mp_w2, mp_w3, mp_w4, mp_w5, mp_w6, mp_w7, mp_w8, mp_wn, mp_wd, mp_wz, mr_r, mr_w, mr_law, mr_day, mr_z, mr_n, mr_pur, mr_str, mr_ros, mr_clo, mr_wlaw, mr_wday, mr_wz, mr_wpur, mr_wstr, mr_wros, mr_wclo, mup_same, mup_ne_t]
    rw [if_neg (by omega)]
    obtain ⟨m, hm, e⟩ := hR 7 c (by omega) (show c < n by omega)
    rcases (show m = 0 ∨ m = 1 by omega) with rfl | rfl
    · rw [show A (4 + 3) c = nI 0 from e, sh_0 c (by omega), show nI s ||| 0 = nI s from by rw [Int32.or_zero], if_neg (by rw [mp_eq (by omega) (by omega)]; omega)]
      exact mn_hsL hn hR k (c + 1) f _ (by omega) (by omega)
    · rw [show A (4 + 3) c = nI 1 from e, sh_1 c (by omega), nI_or, if_pos rfl]
      exact mn_hsL hn hR k (c + 1) f _ (by omega) (by omega)
theorem mn_asL {A n d z J h} (hn : n ≤ 8) (hR : Rng A n) : ∀ k c f s, c + k = n → k < f → fN_aboutSet_b4 f 0 (nI s) (nI c) (putR 902 (rowOf A n d z J) h) = some ([Sum.inl (Value.int (nI (asL A k c s)))], putR 902 (rowOf A n d z J) h)
  | _, _, 0, _, _, hf => by omega
  | 0, c, f + 1, s, hv, _ => by
    have : c = n := by omega
    subst this
    unfold fN_aboutSet_b4 asL
    simp (disch := omega) only [decide_true, Bool.true_or, Bool.or_true, xgd, xbi, xbh, xbl, xrI, xrV, xrL, xrR, mp_inb, mp_tn, mp_eq, mp_eq0, xnz, mp_le, mp_lt, mp_le0, mp_lt0, mp_0le, mp_0lt, mp_nn, mp_mul, nI_add, mp_mod, mp_iteI, mp_r0, mp_r1, mp_r2, mp_r3, mp_r4, mp_r5, mp_r6, mp_r7, mp_r8, mp_rn, mp_rd, mp_rz, mp_w0, mp_w1, mp_w2, mp_w3, mp_w4, mp_w5, mp_w6, mp_w7, mp_w8, mp_wn, mp_wd, mp_wz, mr_r, mr_w, mr_law, mr_day, mr_z, mr_n, mr_pur, mr_str, mr_ros, mr_clo, mr_wlaw, mr_wday, mr_wz, mr_wpur, mr_wstr, mr_wros, mr_wclo, mup_same, mup_ne_t]
    rw [if_pos (Nat.le_refl _)]
  | k + 1, c, f + 1, s, hv, hf => by
    unfold fN_aboutSet_b4 asL
    simp (disch := omega) only [mn_its, sh_1, xor0, nI_or, decide_true, Bool.true_or, Bool.or_true, xgd, xbi, xbh, xbl, xrI, xrV, xrL, xrR, mp_inb, mp_tn, mp_eq, mp_eq0, xnz, mp_le, mp_lt, mp_le0, mp_lt0, mp_0le, mp_0lt, mp_nn, mp_mul, nI_add, mp_mod, mp_iteI, mp_r0, mp_r1, mp_r2, mp_r3, mp_r4, mp_r5, mp_r6, mp_r7, mp_r8, mp_rn, mp_rd, mp_rz, mp_w0, mp_w1, mp_w2, mp_w3, mp_w4, mp_w5, mp_w6, mp_w7, mp_w8, mp_wn, mp_wd, mp_wz, mr_r, mr_w, mr_law, mr_day, mr_z, mr_n, mr_pur, mr_str, mr_ros, mr_clo, mr_wlaw, mr_wday, mr_wz, mr_wpur, mr_wstr, mr_wros, mr_wclo, mup_same, mup_ne_t]
    rw [if_neg (by omega)]
    have hx := mp_ge0 (hR 5 c (by omega) (show c < n by omega))
    by_cases h1 : A 5 c = -(nI 1)
    · rw [if_pos (show A (4 + 1) c < 0 from hx.mpr h1), if_pos h1]
      exact mn_asL hn hR k (c + 1) f _ (by omega) (by omega)
    · rw [if_neg (show ¬ A (4 + 1) c < 0 from fun hh => h1 (hx.mp hh)), if_neg h1]
      exact mn_asL hn hR k (c + 1) f _ (by omega) (by omega)
-- pairs at odds
def fo (A : Nat → Nat → Int32) (c : Nat) : Prop := A 7 c = 0 ∧ ¬ A 5 c = -(nI 1)
def pr (A : Nat → Nat → Int32) (i j : Nat) : Nat := if A 5 i = A 5 j then 0 else if A 7 i = 0 ∧ A 7 j = 0 ∧ A 5 i ≠ -(nI 1) ∧ A 5 j ≠ -(nI 1) then 1 else 0
theorem pr_symm {A i j} : pr A i j = pr A j i := by
  unfold pr
  by_cases h1 : A 5 i = A 5 j
  · rw [if_pos h1, if_pos h1.symm]
  · rw [if_neg h1, if_neg (show ¬ A 5 j = A 5 i from fun hh => h1 hh.symm)]
    by_cases h2 : A 7 i = 0 ∧ A 7 j = 0 ∧ A 5 i ≠ -(nI 1) ∧ A 5 j ≠ -(nI 1)
    · rw [if_pos h2, if_pos ⟨h2.2.1, h2.1, h2.2.2.2, h2.2.2.1⟩]
    · rw [if_neg h2, if_neg (show ¬ (A 7 j = 0 ∧ A 7 i = 0 ∧ A 5 j ≠ -(nI 1) ∧ A 5 i ≠ -(nI 1)) from fun hh => h2 ⟨hh.2.1, hh.1, hh.2.2.2, hh.2.2.1⟩)]
def odI (A : Nat → Nat → Int32) (i : Nat) : Nat → Nat → Nat → Nat
  | 0, _, s => s
  | k + 1, j, s => odI A i k (j + 1) (s + pr A i j)
def odO (A : Nat → Nat → Int32) : Nat → Nat → Nat → Nat
  | 0, _, s => s
  | k + 1, i, s => odO A k (i + 1) (odI A i k (i + 1) s)
def odP (A : Nat → Nat → Int32) : Nat → Nat → Nat → Nat
  | 0, _, s => s
  | k + 1, c, s => odP A k (c + 1) (odI A c c 0 s)
theorem od_eq {A n} (hn : n ≤ 8) : odO A n 0 0 = odP A n 0 0 := by
  rcases (show n = 0 ∨ n = 1 ∨ n = 2 ∨ n = 3 ∨ n = 4 ∨ n = 5 ∨ n = 6 ∨ n = 7 ∨ n = 8 by omega) with rfl | rfl | rfl | rfl | rfl | rfl | rfl | rfl | rfl
  all_goals
    simp only [odO, odP, odI, Nat.zero_add, Nat.reduceAdd]
    try rw [show pr A 1 0 = pr A 0 1 from pr_symm]
    try rw [show pr A 2 0 = pr A 0 2 from pr_symm, show pr A 2 1 = pr A 1 2 from pr_symm]
    try rw [show pr A 3 0 = pr A 0 3 from pr_symm, show pr A 3 1 = pr A 1 3 from pr_symm, show pr A 3 2 = pr A 2 3 from pr_symm]
    try rw [show pr A 4 0 = pr A 0 4 from pr_symm, show pr A 4 1 = pr A 1 4 from pr_symm, show pr A 4 2 = pr A 2 4 from pr_symm, show pr A 4 3 = pr A 3 4 from pr_symm]
    try rw [show pr A 5 0 = pr A 0 5 from pr_symm, show pr A 5 1 = pr A 1 5 from pr_symm, show pr A 5 2 = pr A 2 5 from pr_symm, show pr A 5 3 = pr A 3 5 from pr_symm, show pr A 5 4 = pr A 4 5 from pr_symm]
    try rw [show pr A 6 0 = pr A 0 6 from pr_symm, show pr A 6 1 = pr A 1 6 from pr_symm, show pr A 6 2 = pr A 2 6 from pr_symm, show pr A 6 3 = pr A 3 6 from pr_symm, show pr A 6 4 = pr A 4 6 from pr_symm, show pr A 6 5 = pr A 5 6 from pr_symm]
    try rw [show pr A 7 0 = pr A 0 7 from pr_symm, show pr A 7 1 = pr A 1 7 from pr_symm, show pr A 7 2 = pr A 2 7 from pr_symm, show pr A 7 3 = pr A 3 7 from pr_symm, show pr A 7 4 = pr A 4 7 from pr_symm, show pr A 7 5 = pr A 5 7 from pr_symm, show pr A 7 6 = pr A 6 7 from pr_symm]
    try omega
theorem cm_fo {A n d z h o c} (hc : c < 8) : fM_isForOdds o (nI c) (putM o A n d z h) = some ([Sum.inl (Value.int (if A 7 c = 0 ∧ A 5 c ≠ -(nI 1) then nI 1 else nI 0))], putM o A n d z h) := by
  unfold fM_isForOdds
  simp (disch := omega) only [xb0, xb1, decide_true, Bool.true_or, Bool.or_true, xgd, xbi, xbh, xbl, xrI, xrV, xrL, xrR, mp_inb, mp_tn, xnz, mp_le, mp_lt, mp_le0, mp_lt0, mp_0le, mp_0lt, mp_nn, mp_mul, nI_add, mp_mod, mp_iteI, mp_r0, mp_r1, mp_r2, mp_r3, mp_r4, mp_r5, mp_r6, mp_r7, mp_r8, mp_rn, mp_rd, mp_rz, mp_w0, mp_w1, mp_w2, mp_w3, mp_w4, mp_w5, mp_w6, mp_w7, mp_w8, mp_wn, mp_wd, mp_wz, mr_r, mr_w, mr_law, mr_day, mr_z, mr_n, mr_pur, mr_str, mr_ros, mr_clo, mr_wlaw, mr_wday, mr_wz, mr_wpur, mr_wstr, mr_wros, mr_wclo, mup_same, mup_ne_t]
  by_cases h1 : A 7 c = 0
  · by_cases h2 : A 5 c = -(nI 1)
    · rw [if_pos h1, if_pos h2, if_neg (fun hh => hh.2 h2)]
    · rw [if_pos h1, if_neg h2, if_pos ⟨h1, h2⟩]
  · rw [if_neg h1, if_neg (fun hh => h1 hh.1)]
theorem cm_odI {A n d z h o i} {k4 : Nat → Int32 → Int32 → H2 → O2} (hn : n ≤ 8) (hi : i < n) : ∀ k j f s, j + k = n → k < f → fM_oddPairs_b16 k4 f o (nI s) (nI i) (nI j) (putM o A n d z h) = k4 o (nI (odI A i k j s)) (nI (i + 1)) (putM o A n d z h)
  | _, _, 0, _, _, hf => by omega
  | 0, j, f + 1, s, hv, _ => by
    have : j = n := by omega
    subst this
    unfold fM_oddPairs_b16 odI
    simp (disch := omega) only [decide_true, Bool.true_or, Bool.or_true, xgd, xbi, xbh, xbl, xrI, xrV, xrL, xrR, mp_inb, mp_tn, mp_eq, mp_eq0, xnz, mp_le, mp_lt, mp_le0, mp_lt0, mp_0le, mp_0lt, mp_nn, mp_mul, nI_add, mp_mod, mp_iteI, mp_r0, mp_r1, mp_r2, mp_r3, mp_r4, mp_r5, mp_r6, mp_r7, mp_r8, mp_rn, mp_rd, mp_rz, mp_w0, mp_w1, mp_w2, mp_w3, mp_w4, mp_w5, mp_w6, mp_w7, mp_w8, mp_wn, mp_wd, mp_wz, mr_r, mr_w, mr_law, mr_day, mr_z, mr_n, mr_pur, mr_str, mr_ros, mr_clo, mr_wlaw, mr_wday, mr_wz, mr_wpur, mr_wstr, mr_wros, mr_wclo, mup_same, mup_ne_t]
    rw [if_pos (Nat.le_refl _)]
  | k + 1, j, f + 1, s, hv, hf => by
    unfold fM_oddPairs_b16 odI pr
    simp (disch := omega) only [cm_fo, decide_true, Bool.true_or, Bool.or_true, xgd, xbi, xbh, xbl, xrI, xrV, xrL, xrR, mp_inb, mp_tn, mp_eq, mp_eq0, xnz, mp_le, mp_lt, mp_le0, mp_lt0, mp_0le, mp_0lt, mp_nn, mp_mul, nI_add, mp_mod, mp_iteI, mp_r0, mp_r1, mp_r2, mp_r3, mp_r4, mp_r5, mp_r6, mp_r7, mp_r8, mp_rn, mp_rd, mp_rz, mp_w0, mp_w1, mp_w2, mp_w3, mp_w4, mp_w5, mp_w6, mp_w7, mp_w8, mp_wn, mp_wd, mp_wz, mr_r, mr_w, mr_law, mr_day, mr_z, mr_n, mr_pur, mr_str, mr_ros, mr_clo, mr_wlaw, mr_wday, mr_wz, mr_wpur, mr_wstr, mr_wros, mr_wclo, mup_same, mup_ne_t]
    rw [if_neg (by omega)]
    by_cases h1 : A 5 i = A 5 j
    · rw [if_pos h1, if_pos h1, Nat.add_zero]
      exact cm_odI hn hi k (j + 1) f _ (by omega) (by omega)
    · rw [if_neg h1, if_neg h1]
      by_cases h2 : A 7 i = 0 ∧ A 5 i ≠ -(nI 1)
      · rw [if_pos h2, if_neg (by rw [x10]; exact fun hh => hh)]
        by_cases h3 : A 7 j = 0 ∧ A 5 j ≠ -(nI 1)
        · rw [if_pos h3, if_neg (by rw [x10]; exact fun hh => hh), if_pos ⟨h2.1, h3.1, h2.2, h3.2⟩]
          exact cm_odI hn hi k (j + 1) f _ (by omega) (by omega)
        · rw [if_neg h3, if_pos (by rw [x00]; trivial), if_neg (fun hh => h3 ⟨hh.2.1, hh.2.2.2⟩)]
          exact cm_odI hn hi k (j + 1) f _ (by omega) (by omega)
      · rw [if_neg h2, if_pos (by rw [x00]; trivial), if_neg (fun hh => h2 ⟨hh.1, hh.2.2.1⟩)]
        exact cm_odI hn hi k (j + 1) f _ (by omega) (by omega)
theorem cm_odO {A n d z h o} (hn : n ≤ 8) : ∀ k i f s, i + k = n → k < f → fM_oddPairs_b4 f o (nI s) (nI i) (putM o A n d z h) = some ([Sum.inl (Value.int (nI (odO A k i s)))], putM o A n d z h)
  | _, _, 0, _, _, hf => by omega
  | 0, i, f + 1, s, hv, _ => by
    have : i = n := by omega
    subst this
    unfold fM_oddPairs_b4 odO
    simp (disch := omega) only [decide_true, Bool.true_or, Bool.or_true, xgd, xbi, xbh, xbl, xrI, xrV, xrL, xrR, mp_inb, mp_tn, mp_eq, mp_eq0, xnz, mp_le, mp_lt, mp_le0, mp_lt0, mp_0le, mp_0lt, mp_nn, mp_mul, nI_add, mp_mod, mp_iteI, mp_r0, mp_r1, mp_r2, mp_r3, mp_r4, mp_r5, mp_r6, mp_r7, mp_r8, mp_rn, mp_rd, mp_rz, mp_w0, mp_w1, mp_w2, mp_w3, mp_w4, mp_w5, mp_w6, mp_w7, mp_w8, mp_wn, mp_wd, mp_wz, mr_r, mr_w, mr_law, mr_day, mr_z, mr_n, mr_pur, mr_str, mr_ros, mr_clo, mr_wlaw, mr_wday, mr_wz, mr_wpur, mr_wstr, mr_wros, mr_wclo, mup_same, mup_ne_t]
    rw [if_pos (Nat.le_refl _)]
  | k + 1, i, f + 1, s, hv, hf => by
    unfold fM_oddPairs_b4 odO
    simp (disch := omega) only [decide_true, Bool.true_or, Bool.or_true, xgd, xbi, xbh, xbl, xrI, xrV, xrL, xrR, mp_inb, mp_tn, mp_eq, mp_eq0, xnz, mp_le, mp_lt, mp_le0, mp_lt0, mp_0le, mp_0lt, mp_nn, mp_mul, nI_add, mp_mod, mp_iteI, mp_r0, mp_r1, mp_r2, mp_r3, mp_r4, mp_r5, mp_r6, mp_r7, mp_r8, mp_rn, mp_rd, mp_rz, mp_w0, mp_w1, mp_w2, mp_w3, mp_w4, mp_w5, mp_w6, mp_w7, mp_w8, mp_wn, mp_wd, mp_wz, mr_r, mr_w, mr_law, mr_day, mr_z, mr_n, mr_pur, mr_str, mr_ros, mr_clo, mr_wlaw, mr_wday, mr_wz, mr_wpur, mr_wstr, mr_wros, mr_wclo, mup_same, mup_ne_t]
    rw [if_neg (by omega), cm_odI hn (by omega) k (i + 1) 1000 s (by omega) (by omega)]
    exact cm_odO hn k (i + 1) f _ (by omega) (by omega)
theorem mn_pr {A n d z J h i j} (hn : n ≤ 8) (hR : Rng A n) (hi : i < n) (hj : j < n) : fN_isAtOdds 0 (nI i) (nI j) (putR 902 (rowOf A n d z J) h) = some ([Sum.inl (Value.int (nI (pr A i j)))], putR 902 (rowOf A n d z J) h) := by
  have hxi := mp_ge0 (hR 5 i (by omega) hi)
  have hxj := mp_ge0 (hR 5 j (by omega) hj)
  unfold fN_isAtOdds fN_isAtOdds_b23 pr
  simp (disch := omega) only [mn_its, x00, x10, xb0, xb1, if_true, if_false, decide_true, Bool.true_or, Bool.or_true, xgd, xbi, xbh, xbl, xrI, xrV, xrL, xrR, mp_inb, mp_tn, xnz, mp_le, mp_lt, mp_le0, mp_lt0, mp_0le, mp_0lt, mp_nn, mp_mul, nI_add, mp_mod, mp_iteI, mp_r0, mp_r1, mp_r2, mp_r3, mp_r4, mp_r5, mp_r6, mp_r7, mp_r8, mp_rn, mp_rd, mp_rz, mp_w0, mp_w1, mp_w2, mp_w3, mp_w4, mp_w5, mp_w6, mp_w7, mp_w8, mp_wn, mp_wd, mp_wz, mr_r, mr_w, mr_law, mr_day, mr_z, mr_n, mr_pur, mr_str, mr_ros, mr_clo, mr_wlaw, mr_wday, mr_wz, mr_wpur, mr_wstr, mr_wros, mr_wclo, mup_same, mup_ne_t]
  by_cases h1 : A 5 i = A 5 j
  · rw [if_pos h1]
    repeat' split
    all_goals first | rfl | contradiction | (exact absurd h1 (by assumption))
  · have h1' : (A 5 i = A 5 j) = False := eq_false h1
    simp only [h1', if_false]
    by_cases a1 : A 7 i = 0
    · by_cases a2 : A 7 j = 0
      · by_cases a3 : A 5 i = -(nI 1)
        · rw [if_pos (show A (4 + 3) i = 0 from a1), if_pos (show A (4 + 3) j = 0 from a2), if_pos (show A (4 + 1) i < 0 from hxi.mpr a3), if_neg (show ¬ (A 7 i = 0 ∧ A 7 j = 0 ∧ A 5 i ≠ -(nI 1) ∧ A 5 j ≠ -(nI 1)) from fun hh => hh.2.2.1 a3)]
        · by_cases a4 : A 5 j = -(nI 1)
          · rw [if_pos (show A (4 + 3) i = 0 from a1), if_pos (show A (4 + 3) j = 0 from a2), if_neg (show ¬ A (4 + 1) i < 0 from fun hh => a3 (hxi.mp hh)), if_pos (show A (4 + 1) j < 0 from hxj.mpr a4), if_neg (show ¬ (A 7 i = 0 ∧ A 7 j = 0 ∧ A 5 i ≠ -(nI 1) ∧ A 5 j ≠ -(nI 1)) from fun hh => hh.2.2.2 a4)]
          · rw [if_pos (show A (4 + 3) i = 0 from a1), if_pos (show A (4 + 3) j = 0 from a2), if_neg (show ¬ A (4 + 1) i < 0 from fun hh => a3 (hxi.mp hh)), if_neg (show ¬ A (4 + 1) j < 0 from fun hh => a4 (hxj.mp hh)), if_pos ⟨a1, a2, a3, a4⟩]
      · rw [if_pos (show A (4 + 3) i = 0 from a1), if_neg (show ¬ A (4 + 3) j = 0 from a2), if_neg (show ¬ (A 7 i = 0 ∧ A 7 j = 0 ∧ A 5 i ≠ -(nI 1) ∧ A 5 j ≠ -(nI 1)) from fun hh => a2 hh.2.1)]
    · rw [if_neg (show ¬ A (4 + 3) i = 0 from a1), if_neg (show ¬ (A 7 i = 0 ∧ A 7 j = 0 ∧ A 5 i ≠ -(nI 1) ∧ A 5 j ≠ -(nI 1)) from fun hh => a1 hh.1)]
theorem pr01 {A i j} : pr A i j = 0 ∨ pr A i j = 1 := by
  unfold pr
  repeat' split
  all_goals first | exact Or.inl rfl | exact Or.inr rfl
theorem mn_odI {A n d z J h c} {k4 : Nat → Int32 → Int32 → H2 → O2} (hn : n ≤ 8) (hR : Rng A n) (hc : c < n) : ∀ k o f s, o + k = c → k < f → fN_oddsAmong_b17 k4 f 0 (nI s) (nI c) (nI o) (putR 902 (rowOf A n d z J) h) = k4 0 (nI (odI A c k o s)) (nI (c + 1)) (putR 902 (rowOf A n d z J) h)
  | _, _, 0, _, _, hf => by omega
  | 0, o, f + 1, s, hv, _ => by
    have : o = c := by omega
    subst this
    unfold fN_oddsAmong_b17 odI
    simp (disch := omega) only [decide_true, Bool.true_or, Bool.or_true, xgd, xbi, xbh, xbl, xrI, xrV, xrL, xrR, mp_inb, mp_tn, mp_eq, mp_eq0, xnz, mp_le, mp_lt, mp_le0, mp_lt0, mp_0le, mp_0lt, mp_nn, mp_mul, nI_add, mp_mod, mp_iteI, mp_r0, mp_r1, mp_r2, mp_r3, mp_r4, mp_r5, mp_r6, mp_r7, mp_r8, mp_rn, mp_rd, mp_rz, mp_w0, mp_w1, mp_w2, mp_w3, mp_w4, mp_w5, mp_w6, mp_w7, mp_w8, mp_wn, mp_wd, mp_wz, mr_r, mr_w, mr_law, mr_day, mr_z, mr_n, mr_pur, mr_str, mr_ros, mr_clo, mr_wlaw, mr_wday, mr_wz, mr_wpur, mr_wstr, mr_wros, mr_wclo, mup_same, mup_ne_t]
    rw [if_pos (Nat.le_refl _)]
  | k + 1, o, f + 1, s, hv, hf => by
    unfold fN_oddsAmong_b17 odI
    simp (disch := omega) only [decide_true, Bool.true_or, Bool.or_true, xgd, xbi, xbh, xbl, xrI, xrV, xrL, xrR, mp_inb, mp_tn, mp_eq, mp_eq0, xnz, mp_le, mp_lt, mp_le0, mp_lt0, mp_0le, mp_0lt, mp_nn, mp_mul, nI_add, mp_mod, mp_iteI, mp_r0, mp_r1, mp_r2, mp_r3, mp_r4, mp_r5, mp_r6, mp_r7, mp_r8, mp_rn, mp_rd, mp_rz, mp_w0, mp_w1, mp_w2, mp_w3, mp_w4, mp_w5, mp_w6, mp_w7, mp_w8, mp_wn, mp_wd, mp_wz, mr_r, mr_w, mr_law, mr_day, mr_z, mr_n, mr_pur, mr_str, mr_ros, mr_clo, mr_wlaw, mr_wday, mr_wz, mr_wpur, mr_wstr, mr_wros, mr_wclo, mup_same, mup_ne_t]
    rw [if_neg (by omega), mn_pr hn hR hc (by omega), xrI]
    rcases (pr01 : pr A c o = 0 ∨ pr A c o = 1) with e | e
    · rw [e, if_pos (by rw [x00]; trivial)]
      exact mn_odI hn hR hc k (o + 1) f _ (by omega) (by omega)
    · rw [e, if_neg (by rw [x10]; exact fun hh => hh)]
      exact mn_odI hn hR hc k (o + 1) f _ (by omega) (by omega)
theorem mn_odO {A n d z J h} (hn : n ≤ 8) (hR : Rng A n) : ∀ k i f s, i + k = n → k < f → fN_oddsAmong_b4 f 0 (nI s) (nI i) (putR 902 (rowOf A n d z J) h) = some ([Sum.inl (Value.int (nI (odP A k i s)))], putR 902 (rowOf A n d z J) h)
  | _, _, 0, _, _, hf => by omega
  | 0, i, f + 1, s, hv, _ => by
    have : i = n := by omega
    subst this
    unfold fN_oddsAmong_b4 odP
    simp (disch := omega) only [decide_true, Bool.true_or, Bool.or_true, xgd, xbi, xbh, xbl, xrI, xrV, xrL, xrR, mp_inb, mp_tn, mp_eq, mp_eq0, xnz, mp_le, mp_lt, mp_le0, mp_lt0, mp_0le, mp_0lt, mp_nn, mp_mul, nI_add, mp_mod, mp_iteI, mp_r0, mp_r1, mp_r2, mp_r3, mp_r4, mp_r5, mp_r6, mp_r7, mp_r8, mp_rn, mp_rd, mp_rz, mp_w0, mp_w1, mp_w2, mp_w3, mp_w4, mp_w5, mp_w6, mp_w7, mp_w8, mp_wn, mp_wd, mp_wz, mr_r, mr_w, mr_law, mr_day, mr_z, mr_n, mr_pur, mr_str, mr_ros, mr_clo, mr_wlaw, mr_wday, mr_wz, mr_wpur, mr_wstr, mr_wros, mr_wclo, mup_same, mup_ne_t]
    rw [if_pos (Nat.le_refl _)]
  | k + 1, i, f + 1, s, hv, hf => by
    unfold fN_oddsAmong_b4 odP
    simp (disch := omega) only [decide_true, Bool.true_or, Bool.or_true, xgd, xbi, xbh, xbl, xrI, xrV, xrL, xrR, mp_inb, mp_tn, mp_eq, mp_eq0, xnz, mp_le, mp_lt, mp_le0, mp_lt0, mp_0le, mp_0lt, mp_nn, mp_mul, nI_add, mp_mod, mp_iteI, mp_r0, mp_r1, mp_r2, mp_r3, mp_r4, mp_r5, mp_r6, mp_r7, mp_r8, mp_rn, mp_rd, mp_rz, mp_w0, mp_w1, mp_w2, mp_w3, mp_w4, mp_w5, mp_w6, mp_w7, mp_w8, mp_wn, mp_wd, mp_wz, mr_r, mr_w, mr_law, mr_day, mr_z, mr_n, mr_pur, mr_str, mr_ros, mr_clo, mr_wlaw, mr_wday, mr_wz, mr_wpur, mr_wstr, mr_wros, mr_wclo, mup_same, mup_ne_t]
    rw [if_neg (by omega), mn_odI hn hR (by omega) i 0 1000 s (by omega) (by omega)]
    exact mn_odO hn hR k (i + 1) f _ (by omega) (by omega)
-- the count of bits
def bc (v : Int32) : Int32 :=
  let x1 := v - (((v.toUInt32 >>> ((nI 1).toUInt32 &&& Int32.toUInt32 31)).toInt32) &&& (nI 1431655765))
  let x2 := (x1 &&& (nI 858993459)) + (((x1.toUInt32 >>> ((nI 2).toUInt32 &&& Int32.toUInt32 31)).toInt32) &&& (nI 858993459))
  let x3 := (x2 + ((x2.toUInt32 >>> ((nI 4).toUInt32 &&& Int32.toUInt32 31)).toInt32)) &&& (nI 252645135)
  let x4 := x3 + ((x3.toUInt32 >>> ((nI 8).toUInt32 &&& Int32.toUInt32 31)).toInt32)
  let x5 := x4 + ((x4.toUInt32 >>> ((nI 16).toUInt32 &&& Int32.toUInt32 31)).toInt32)
  x5 &&& nI 63
theorem cj_bit (v : Int32) (h : H2) : fJ_bitCount_0f7a4 v h = some ([Sum.inl (Value.int (bc v))], h) := rfl
def onL (v : Int32) : Nat → Nat → Int32 → Int32
  | 0, _, s => s
  | k + 1, c, s => onL v k (c + 1) (s + ((v >>> (nI c &&& 31)) &&& nI 1))
def popN : Nat → Nat → Nat
  | 0, _ => 0
  | k + 1, m => m % 2 + popN k (m / 2)
theorem bc_pop : ∀ m, m < 1024 → bc (nI m) = nI (popN 10 m) := by decide +kernel
theorem on_pop : ∀ m, m < 256 → onL (nI m) 8 0 (nI 0) = nI (popN 10 m) := by decide +kernel
theorem mn_onL {v : Int32} {h : H2} : ∀ k c f s, c + k = 8 → k < f → fN_ones_b4 f v s (nI c) h = some ([Sum.inl (Value.int (onL v k c s))], h)
  | _, _, 0, _, _, hf => by omega
  | 0, c, f + 1, s, hv, _ => by
    have : c = 8 := by omega
    subst this
    unfold fN_ones_b4 onL
    simp (disch := omega) only [decide_true, Bool.true_or, Bool.or_true, xgd, xbi, xbh, xbl, xrI, xrV, xrL, xrR, mp_inb, mp_tn, mp_eq, mp_eq0, xnz, mp_le, mp_lt, mp_le0, mp_lt0, mp_0le, mp_0lt, mp_nn, mp_mul, nI_add, mp_mod, mp_iteI, mp_r0, mp_r1, mp_r2, mp_r3, mp_r4, mp_r5, mp_r6, mp_r7, mp_r8, mp_rn, mp_rd, mp_rz, mp_w0, mp_w1, mp_w2, mp_w3, mp_w4, mp_w5, mp_w6, mp_w7, mp_w8, mp_wn, mp_wd, mp_wz, mr_r, mr_w, mr_law, mr_day, mr_z, mr_n, mr_pur, mr_str, mr_ros, mr_clo, mr_wlaw, mr_wday, mr_wz, mr_wpur, mr_wstr, mr_wros, mr_wclo, mup_same, mup_ne_t]
    rw [if_pos (Nat.le_refl _)]
  | k + 1, c, f + 1, s, hv, hf => by
    unfold fN_ones_b4 onL
    simp (disch := omega) only [decide_true, Bool.true_or, Bool.or_true, xgd, xbi, xbh, xbl, xrI, xrV, xrL, xrR, mp_inb, mp_tn, mp_eq, mp_eq0, xnz, mp_le, mp_lt, mp_le0, mp_lt0, mp_0le, mp_0lt, mp_nn, mp_mul, nI_add, mp_mod, mp_iteI, mp_r0, mp_r1, mp_r2, mp_r3, mp_r4, mp_r5, mp_r6, mp_r7, mp_r8, mp_rn, mp_rd, mp_rz, mp_w0, mp_w1, mp_w2, mp_w3, mp_w4, mp_w5, mp_w6, mp_w7, mp_w8, mp_wn, mp_wd, mp_wz, mr_r, mr_w, mr_law, mr_day, mr_z, mr_n, mr_pur, mr_str, mr_ros, mr_clo, mr_wlaw, mr_wday, mr_wz, mr_wpur, mr_wstr, mr_wros, mr_wclo, mup_same, mup_ne_t]
    rw [if_neg (by omega)]
    exact mn_onL k (c + 1) f _ (by omega) (by omega)
theorem mn_ones {m : Nat} (h : H2) (hm : m < 256) : fN_ones (nI m) h = some ([Sum.inl (Value.int (nI (popN 10 m)))], h) := by
  rw [← on_pop m hm]
  unfold fN_ones
  rw [xbi, xbi]
  exact mn_onL 8 0 1000 (nI 0) (by omega) (by omega)
-- of how many purposes
def psL (A : Nat → Nat → Int32) : Nat → Nat → Nat → Nat
  | 0, _, s => s
  | k + 1, c, s => psL A k (c + 1) (if A 5 c = -(nI 1) then s else s ||| 2 ^ (A 5 c).toNatClampNeg)
theorem cm_psL {A n d z h o} (hn : n ≤ 8) (hR : Rng A n) : ∀ k c f s, c + k = n → k < f → fM_purposeSet_b4 f o (nI s) (nI c) (putM o A n d z h) = some ([Sum.inl (Value.int (nI (psL A k c s)))], putM o A n d z h)
  | _, _, 0, _, _, hf => by omega
  | 0, c, f + 1, s, hv, _ => by
    have : c = n := by omega
    subst this
    unfold fM_purposeSet_b4 psL
    simp (disch := omega) only [decide_true, Bool.true_or, Bool.or_true, xgd, xbi, xbh, xbl, xrI, xrV, xrL, xrR, mp_inb, mp_tn, mp_eq, mp_eq0, xnz, mp_le, mp_lt, mp_le0, mp_lt0, mp_0le, mp_0lt, mp_nn, mp_mul, nI_add, mp_mod, mp_iteI, mp_r0, mp_r1, mp_r2, mp_r3, mp_r4, mp_r5, mp_r6, mp_r7, mp_r8, mp_rn, mp_rd, mp_rz, mp_w0, mp_w1, mp_w2, mp_w3, mp_w4, mp_w5, mp_w6, mp_w7, mp_w8, mp_wn, mp_wd, mp_wz, mr_r, mr_w, mr_law, mr_day, mr_z, mr_n, mr_pur, mr_str, mr_ros, mr_clo, mr_wlaw, mr_wday, mr_wz, mr_wpur, mr_wstr, mr_wros, mr_wclo, mup_same, mup_ne_t]
    rw [if_pos (Nat.le_refl _)]
  | k + 1, c, f + 1, s, hv, hf => by
    unfold fM_purposeSet_b4 psL
    simp (disch := omega) only [decide_true, Bool.true_or, Bool.or_true, xgd, xbi, xbh, xbl, xrI, xrV, xrL, xrR, mp_inb, mp_tn, mp_eq, mp_eq0, xnz, mp_le, mp_lt, mp_le0, mp_lt0, mp_0le, mp_0lt, mp_nn, mp_mul, nI_add, mp_mod, mp_iteI, mp_r0, mp_r1, mp_r2, mp_r3, mp_r4, mp_r5, mp_r6, mp_r7, mp_r8, mp_rn, mp_rd, mp_rz, mp_w0, mp_w1, mp_w2, mp_w3, mp_w4, mp_w5, mp_w6, mp_w7, mp_w8, mp_wn, mp_wd, mp_wz, mr_r, mr_w, mr_law, mr_day, mr_z, mr_n, mr_pur, mr_str, mr_ros, mr_clo, mr_wlaw, mr_wday, mr_wz, mr_wpur, mr_wstr, mr_wros, mr_wclo, mup_same, mup_ne_t]
    rw [if_neg (by omega)]
    rcases hR 5 c (by omega) (show c < n by omega) with h1 | ⟨m, hm, e⟩
    · rw [if_pos h1, if_pos h1]
      exact cm_psL hn hR k (c + 1) f _ (by omega) (by omega)
    · have h1 : ¬ A 5 c = -(nI 1) := by rw [e, mp_nn (by omega)]; exact fun hh => hh
      rw [if_neg h1, if_neg h1, e, sh_1 m hm, nI_or, mp_tn (by omega)]
      exact cm_psL hn hR k (c + 1) f _ (by omega) (by omega)
theorem ps_lt {A n} (hn : n ≤ 8) (hR : Rng A n) : ∀ k c s, c + k = n → s < 1024 → psL A k c s < 1024
  | 0, _, _, _, h => h
  | k + 1, c, s, hc, h => by
    unfold psL
    apply ps_lt hn hR k (c + 1) _ (by omega)
    rcases hR 5 c (by omega) (show c < n by omega) with h1 | ⟨m, hm, e⟩
    · rw [if_pos h1]; exact h
    · have h1 : ¬ A 5 c = -(nI 1) := by rw [e, mp_nn (by omega)]; exact fun hh => hh
      rw [if_neg h1, e, mp_tn (by omega)]
      have : 2 ^ m < 2 ^ 10 := Nat.pow_lt_pow_right (by omega) (by omega)
      exact Nat.or_lt_two_pow (n := 10) h this
def isL (A : Nat → Nat → Int32) (p : Nat) : Nat → Nat → Bool → Bool
  | 0, _, b => b
  | k + 1, c, b => isL A p k (c + 1) (b || decide (A 5 c = nI p))
theorem ps_bit {A n} (hn : n ≤ 8) (hR : Rng A n) (p : Nat) (hp : p < 10) : ∀ k c s, c + k = n → (psL A k c s).testBit p = isL A p k c (s.testBit p)
  | 0, _, _, _ => rfl
  | k + 1, c, s, hc => by
    unfold psL isL
    rw [ps_bit hn hR p hp k (c + 1) _ (by omega)]
    congr 1
    rcases hR 5 c (by omega) (show c < n by omega) with h1 | ⟨m, hm, e⟩
    · rw [if_pos h1, h1, decide_eq_false (fun hh => by rw [eq_comm, mp_nn (by omega)] at hh; exact hh), Bool.or_false]
    · have h1 : ¬ A 5 c = -(nI 1) := by rw [e, mp_nn (by omega)]; exact fun hh => hh
      rw [if_neg h1, e, mp_tn (by omega), Nat.testBit_or, Nat.testBit_two_pow]
      congr 1
      apply decide_eq_decide.mpr
      rw [mp_eq (by omega) (by omega)]
def pcL (A : Nat → Nat → Int32) (n : Nat) : Nat → Nat → Nat → Nat
  | 0, _, s => s
  | k + 1, p, s => pcL A n k (p + 1) (s + (isL A p n 0 false).toNat)
theorem mn_isL {A n d z J h p} {k4 : Nat → Int32 → Int32 → H2 → O2} (hn : n ≤ 8) (hp : p < 10) : ∀ k c f s (b : Bool), c + k = n → k < f → fN_purposesAbout_b15 k4 f 0 (nI s) (nI p) (nI b.toNat) (nI c) (putR 902 (rowOf A n d z J) h) = k4 0 (nI (s + (isL A p k c b).toNat)) (nI (p + 1)) (putR 902 (rowOf A n d z J) h)
  | _, _, 0, _, _, _, hf => by omega
  | 0, c, f + 1, s, b, hv, _ => by
    have : c = n := by omega
    subst this
    unfold fN_purposesAbout_b15 isL
    simp (disch := omega) only [decide_true, Bool.true_or, Bool.or_true, xgd, xbi, xbh, xbl, xrI, xrV, xrL, xrR, mp_inb, mp_tn, mp_eq, mp_eq0, xnz, mp_le, mp_lt, mp_le0, mp_lt0, mp_0le, mp_0lt, mp_nn, mp_mul, nI_add, mp_mod, mp_iteI, mp_r0, mp_r1, mp_r2, mp_r3, mp_r4, mp_r5, mp_r6, mp_r7, mp_r8, mp_rn, mp_rd, mp_rz, mp_w0, mp_w1, mp_w2, mp_w3, mp_w4, mp_w5, mp_w6, mp_w7, mp_w8, mp_wn, mp_wd, mp_wz, mr_r, mr_w, mr_law, mr_day, mr_z, mr_n, mr_pur, mr_str, mr_ros, mr_clo, mr_wlaw, mr_wday, mr_wz, mr_wpur, mr_wstr, mr_wros, mr_wclo, mup_same, mup_ne_t]
    rw [if_pos (Nat.le_refl _)]
    cases b
    · rw [if_pos (show nI false.toNat = 0 from nI_0)]; rfl
    · rw [if_neg (show ¬ nI true.toNat = 0 from fun hh => by rw [show true.toNat = 1 from rfl, x10] at hh; exact hh)]; rfl
  | k + 1, c, f + 1, s, b, hv, hf => by
    unfold fN_purposesAbout_b15 isL
    simp (disch := omega) only [mn_its, decide_true, Bool.true_or, Bool.or_true, xgd, xbi, xbh, xbl, xrI, xrV, xrL, xrR, mp_inb, mp_tn, mp_eq, mp_eq0, xnz, mp_le, mp_lt, mp_le0, mp_lt0, mp_0le, mp_0lt, mp_nn, mp_mul, nI_add, mp_mod, mp_iteI, mp_r0, mp_r1, mp_r2, mp_r3, mp_r4, mp_r5, mp_r6, mp_r7, mp_r8, mp_rn, mp_rd, mp_rz, mp_w0, mp_w1, mp_w2, mp_w3, mp_w4, mp_w5, mp_w6, mp_w7, mp_w8, mp_wn, mp_wd, mp_wz, mr_r, mr_w, mr_law, mr_day, mr_z, mr_n, mr_pur, mr_str, mr_ros, mr_clo, mr_wlaw, mr_wday, mr_wz, mr_wpur, mr_wstr, mr_wros, mr_wclo, mup_same, mup_ne_t]
    rw [if_neg (by omega)]
    cases b
    · rw [if_pos (show nI false.toNat = 0 from nI_0)]
      by_cases h1 : A 5 c = nI p
      · rw [if_pos (show A (4 + 1) c = nI p from h1), decide_eq_true h1]
        exact mn_isL hn hp k (c + 1) f s true (by omega) (by omega)
      · rw [if_neg (show ¬ A (4 + 1) c = nI p from h1), decide_eq_false h1]
        exact mn_isL hn hp k (c + 1) f s false (by omega) (by omega)
    · rw [if_neg (show ¬ nI true.toNat = 0 from fun hh => by rw [show true.toNat = 1 from rfl, x10] at hh; exact hh)]
      exact mn_isL hn hp k (c + 1) f s true (by omega) (by omega)
theorem mn_pcL {A n d z J h} (hn : n ≤ 8) : ∀ k p f s, p + k = 10 → k < f → fN_purposesAbout_b4 f 0 (nI s) (nI p) (putR 902 (rowOf A n d z J) h) = some ([Sum.inl (Value.int (nI (pcL A n k p s)))], putR 902 (rowOf A n d z J) h)
  | _, _, 0, _, _, hf => by omega
  | 0, p, f + 1, s, hv, _ => by
    have : p = 10 := by omega
    subst this
    unfold fN_purposesAbout_b4 pcL
    simp (disch := omega) only [decide_true, Bool.true_or, Bool.or_true, xgd, xbi, xbh, xbl, xrI, xrV, xrL, xrR, mp_inb, mp_tn, mp_eq, mp_eq0, xnz, mp_le, mp_lt, mp_le0, mp_lt0, mp_0le, mp_0lt, mp_nn, mp_mul, nI_add, mp_mod, mp_iteI, mp_r0, mp_r1, mp_r2, mp_r3, mp_r4, mp_r5, mp_r6, mp_r7, mp_r8, mp_rn, mp_rd, mp_rz, mp_w0, mp_w1, mp_w2, mp_w3, mp_w4, mp_w5, mp_w6, mp_w7, mp_w8, mp_wn, mp_wd, mp_wz, mr_r, mr_w, mr_law, mr_day, mr_z, mr_n, mr_pur, mr_str, mr_ros, mr_clo, mr_wlaw, mr_wday, mr_wz, mr_wpur, mr_wstr, mr_wros, mr_wclo, mup_same, mup_ne_t]
    rw [if_pos (Nat.le_refl _)]
  | k + 1, p, f + 1, s, hv, hf => by
    unfold fN_purposesAbout_b4 pcL
    simp (disch := omega) only [decide_true, Bool.true_or, Bool.or_true, xgd, xbi, xbh, xbl, xrI, xrV, xrL, xrR, mp_inb, mp_tn, mp_eq, mp_eq0, xnz, mp_le, mp_lt, mp_le0, mp_lt0, mp_0le, mp_0lt, mp_nn, mp_mul, nI_add, mp_mod, mp_iteI, mp_r0, mp_r1, mp_r2, mp_r3, mp_r4, mp_r5, mp_r6, mp_r7, mp_r8, mp_rn, mp_rd, mp_rz, mp_w0, mp_w1, mp_w2, mp_w3, mp_w4, mp_w5, mp_w6, mp_w7, mp_w8, mp_wn, mp_wd, mp_wz, mr_r, mr_w, mr_law, mr_day, mr_z, mr_n, mr_pur, mr_str, mr_ros, mr_clo, mr_wlaw, mr_wday, mr_wz, mr_wpur, mr_wstr, mr_wros, mr_wclo, mup_same, mup_ne_t]
    rw [if_neg (by omega)]
    have h1 := mn_isL (A := A) (n := n) (d := d) (z := z) (J := J) (h := h) (p := p) (k4 := fN_purposesAbout_b4 f) hn (by omega) n 0 1000 s false (by omega) (by omega)
    rw [show nI false.toNat = nI 0 from rfl] at h1
    rw [h1]
    exact mn_pcL hn k (p + 1) f _ (by omega) (by omega)
theorem pop_bits (m : Nat) (hm : m < 1024) : popN 10 m = (m.testBit 0).toNat + (m.testBit 1).toNat + (m.testBit 2).toNat + (m.testBit 3).toNat + (m.testBit 4).toNat + (m.testBit 5).toNat + (m.testBit 6).toNat + (m.testBit 7).toNat + (m.testBit 8).toNat + (m.testBit 9).toNat := by
  have key : ∀ m, m < 1024 → popN 10 m = (m.testBit 0).toNat + (m.testBit 1).toNat + (m.testBit 2).toNat + (m.testBit 3).toNat + (m.testBit 4).toNat + (m.testBit 5).toNat + (m.testBit 6).toNat + (m.testBit 7).toNat + (m.testBit 8).toNat + (m.testBit 9).toNat := by decide +kernel
  exact key m hm
theorem ps_pop {A n} (hn : n ≤ 8) (hR : Rng A n) : popN 10 (psL A n 0 0) = pcL A n 10 0 0 := by
  rw [pop_bits _ (ps_lt hn hR n 0 0 (by omega) (by omega))]
  have e : ∀ p, p < 10 → (psL A n 0 0).testBit p = isL A p n 0 false := fun p hp => by
    rw [ps_bit hn hR p hp n 0 0 (by omega), Nat.zero_testBit]
  rw [e 0 (by omega), e 1 (by omega), e 2 (by omega), e 3 (by omega), e 4 (by omega), e 5 (by omega), e 6 (by omega), e 7 (by omega), e 8 (by omega), e 9 (by omega)]
  simp only [pcL, Nat.zero_add, Nat.reduceAdd]
