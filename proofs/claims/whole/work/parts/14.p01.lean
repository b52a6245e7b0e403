-- p01: what a dip and a day make of a mill, for both systems
theorem mp_iteI {p : Prop} [Decidable p] {x y : Int32} {H : H2} : (if p then some ([Sum.inl (Value.int x)], H) else some ([Sum.inl (Value.int y)], H) : O2) = some ([Sum.inl (Value.int (if p then x else y))], H) := by split <;> rfl
def takesS (A : Nat → Nat → Int32) (c : Nat) (s : Int32) : Int32 :=
  if A 4 c = nI 1 then s + A 0 0 + nI 3 else if A 4 c = nI 2 then s + A 0 0 - A 0 1 else if A 4 c = nI 3 then (s + A 0 0 + nI 3) * nI 2
  else if A 4 c = nI 4 then s + A 0 0 - A 0 1 + A 0 2 else if A 4 c = nI 5 then (s + A 0 0) / nI 2 else s + A 0 0
def fightsS (A : Nat → Nat → Int32) (c : Nat) (s : Int32) : Int32 :=
  if A 4 c = nI 1 then s - A 0 2 else if A 4 c = nI 2 then s + A 0 2 else if A 4 c = nI 3 then s - A 0 2 + A 0 0
  else if A 4 c = nI 4 then (s + A 0 2) * nI 2 else if A 4 c = nI 5 then s + nI 1 else s
def fadesS (A : Nat → Nat → Int32) (c : Nat) : Int32 :=
  if A 4 c = nI 1 then A 0 1 - nI 1 else if A 4 c = nI 2 then A 0 1 + nI 1 else if A 4 c = nI 3 then nI 0
  else if A 4 c = nI 4 then (A 0 1 + nI 1) * nI 2 else if A 4 c = nI 5 then A 0 1 + nI 3 else A 0 1
def settleA (A : Nat → Nat → Int32) (c : Nat) (x : Int32) : Nat → Nat → Int32 :=
  if 0 < x then mup A 6 c (if nI 99 ≤ x then nI 99 else x) else mup (mup A 6 c (nI 0)) 5 c (-(nI 1))
def tailA (A : Nat → Nat → Int32) (c v : Nat) : Nat → Nat → Int32 :=
  mup (mup A 8 c (if nI 9999 ≤ A 8 c then A 8 c else A 8 c + nI 1)) 2 v (if A 2 v ≤ 0 then A 2 v else A 2 v - nI 1)
def dipA (A : Nat → Nat → Int32) (c v : Nat) : Nat → Nat → Int32 :=
  if A 5 c = -(nI 1) ∨ A 5 c = A 1 v then tailA (settleA (mup A 5 c (A 1 v)) c (A 6 c + takesS A c (A 2 v))) c v
  else if 0 ≤ A 6 c - fightsS A c (A 2 v) then tailA (settleA A c (A 6 c - fightsS A c (A 2 v))) c v
  else tailA (settleA (mup A 5 c (A 1 v)) c (-(A 6 c - fightsS A c (A 2 v)))) c v
def deepenA (A : Nat → Nat → Int32) (c : Nat) (x : Int32) : Nat → Nat → Int32 := if A 5 c = -(nI 1) then A else settleA A c x
theorem cm_takes {A n d z h o c v} (hc : c < 8) (hv : v < 8) : fM_takes o (nI c) (nI v) (putM o A n d z h) = some ([Sum.inl (Value.int (takesS A c (A 2 v)))], putM o A n d z h) := by
  simp (disch := omega) [fM_takes, takesS, xgd, xbi, xbh, xbl, xrI, xrV, xrL, xrR, mp_inb, mp_tn, mp_eq, mp_eq0, xnz, mp_le, mp_lt, mp_le0, mp_lt0, mp_0le, mp_0lt, mp_nn, mp_mul, nI_add, mp_mod, mp_iteI, mp_r0, mp_r1, mp_r2, mp_r3, mp_r4, mp_r5, mp_r6, mp_r7, mp_r8, mp_rn, mp_rd, mp_rz, mp_w0, mp_w1, mp_w2, mp_w3, mp_w4, mp_w5, mp_w6, mp_w7, mp_w8, mp_wn, mp_wd, mp_wz, mr_r, mr_w, mr_law, mr_day, mr_z, mr_n, mr_pur, mr_str, mr_ros, mr_clo, mr_wlaw, mr_wday, mr_wz, mr_wpur, mr_wstr, mr_wros, mr_wclo, mup_same, mup_ne_t]
theorem cm_fights {A n d z h o c v} (hc : c < 8) (hv : v < 8) : fM_fights o (nI c) (nI v) (putM o A n d z h) = some ([Sum.inl (Value.int (fightsS A c (A 2 v)))], putM o A n d z h) := by
  simp (disch := omega) [fM_fights, fightsS, xgd, xbi, xbh, xbl, xrI, xrV, xrL, xrR, mp_inb, mp_tn, mp_eq, mp_eq0, xnz, mp_le, mp_lt, mp_le0, mp_lt0, mp_0le, mp_0lt, mp_nn, mp_mul, nI_add, mp_mod, mp_iteI, mp_r0, mp_r1, mp_r2, mp_r3, mp_r4, mp_r5, mp_r6, mp_r7, mp_r8, mp_rn, mp_rd, mp_rz, mp_w0, mp_w1, mp_w2, mp_w3, mp_w4, mp_w5, mp_w6, mp_w7, mp_w8, mp_wn, mp_wd, mp_wz, mr_r, mr_w, mr_law, mr_day, mr_z, mr_n, mr_pur, mr_str, mr_ros, mr_clo, mr_wlaw, mr_wday, mr_wz, mr_wpur, mr_wstr, mr_wros, mr_wclo, mup_same, mup_ne_t]
theorem cm_fades {A n d z h o c} (hc : c < 8) : fM_fades o (nI c) (putM o A n d z h) = some ([Sum.inl (Value.int (fadesS A c))], putM o A n d z h) := by
  simp (disch := omega) [fM_fades, fadesS, xgd, xbi, xbh, xbl, xrI, xrV, xrL, xrR, mp_inb, mp_tn, mp_eq, mp_eq0, xnz, mp_le, mp_lt, mp_le0, mp_lt0, mp_0le, mp_0lt, mp_nn, mp_mul, nI_add, mp_mod, mp_iteI, mp_r0, mp_r1, mp_r2, mp_r3, mp_r4, mp_r5, mp_r6, mp_r7, mp_r8, mp_rn, mp_rd, mp_rz, mp_w0, mp_w1, mp_w2, mp_w3, mp_w4, mp_w5, mp_w6, mp_w7, mp_w8, mp_wn, mp_wd, mp_wz, mr_r, mr_w, mr_law, mr_day, mr_z, mr_n, mr_pur, mr_str, mr_ros, mr_clo, mr_wlaw, mr_wday, mr_wz, mr_wpur, mr_wstr, mr_wros, mr_wclo, mup_same, mup_ne_t]
theorem cm_settle {A n d z h o c x} (hc : c < 8) : fM_settle o (nI c) x (putM o A n d z h) = some ([], putM o (settleA A c x) n d z h) := by
  unfold fM_settle settleA
  by_cases h1 : 0 < x
  · by_cases h2 : nI 99 ≤ x <;> simp (disch := omega) [h1, h2, xgd, xbi, xbh, xbl, xrI, xrV, xrL, xrR, mp_inb, mp_tn, mp_eq, mp_eq0, xnz, mp_le, mp_lt, mp_le0, mp_lt0, mp_0le, mp_0lt, mp_nn, mp_mul, nI_add, mp_mod, mp_iteI, mp_r0, mp_r1, mp_r2, mp_r3, mp_r4, mp_r5, mp_r6, mp_r7, mp_r8, mp_rn, mp_rd, mp_rz, mp_w0, mp_w1, mp_w2, mp_w3, mp_w4, mp_w5, mp_w6, mp_w7, mp_w8, mp_wn, mp_wd, mp_wz, mr_r, mr_w, mr_law, mr_day, mr_z, mr_n, mr_pur, mr_str, mr_ros, mr_clo, mr_wlaw, mr_wday, mr_wz, mr_wpur, mr_wstr, mr_wros, mr_wclo, mup_same, mup_ne_t]
  · simp (disch := omega) [h1, xgd, xbi, xbh, xbl, xrI, xrV, xrL, xrR, mp_inb, mp_tn, mp_eq, mp_eq0, xnz, mp_le, mp_lt, mp_le0, mp_lt0, mp_0le, mp_0lt, mp_nn, mp_mul, nI_add, mp_mod, mp_iteI, mp_r0, mp_r1, mp_r2, mp_r3, mp_r4, mp_r5, mp_r6, mp_r7, mp_r8, mp_rn, mp_rd, mp_rz, mp_w0, mp_w1, mp_w2, mp_w3, mp_w4, mp_w5, mp_w6, mp_w7, mp_w8, mp_wn, mp_wd, mp_wz, mr_r, mr_w, mr_law, mr_day, mr_z, mr_n, mr_pur, mr_str, mr_ros, mr_clo, mr_wlaw, mr_wday, mr_wz, mr_wpur, mr_wstr, mr_wros, mr_wclo, mup_same, mup_ne_t]
theorem cm_deepen {A n d z h o c x} (hc : c < 8) : fM_deepen o (nI c) x (putM o A n d z h) = some ([], putM o (deepenA A c x) n d z h) := by
  unfold fM_deepen deepenA
  by_cases h1 : A 5 c = -(nI 1) <;> simp (disch := omega) [h1, cm_settle, xgd, xbi, xbh, xbl, xrI, xrV, xrL, xrR, mp_inb, mp_tn, mp_eq, mp_eq0, xnz, mp_le, mp_lt, mp_le0, mp_lt0, mp_0le, mp_0lt, mp_nn, mp_mul, nI_add, mp_mod, mp_iteI, mp_r0, mp_r1, mp_r2, mp_r3, mp_r4, mp_r5, mp_r6, mp_r7, mp_r8, mp_rn, mp_rd, mp_rz, mp_w0, mp_w1, mp_w2, mp_w3, mp_w4, mp_w5, mp_w6, mp_w7, mp_w8, mp_wn, mp_wd, mp_wz, mr_r, mr_w, mr_law, mr_day, mr_z, mr_n, mr_pur, mr_str, mr_ros, mr_clo, mr_wlaw, mr_wday, mr_wz, mr_wpur, mr_wstr, mr_wros, mr_wclo, mup_same, mup_ne_t]
theorem cm_tail {A n d z h o c v x} (hc : c < 8) (hv : v < 8) : fM_dipInto_b84 o (nI c) (nI v) x (putM o A n d z h) = some ([], putM o (tailA (settleA A c x) c v) n d z h) := by
  unfold fM_dipInto_b84 tailA
  simp (disch := omega) only [cm_settle, xgd, xbi, xbh, xbl, xrI, xrV, xrL, xrR, mp_inb, mp_tn, mp_eq, mp_eq0, xnz, mp_le, mp_lt, mp_le0, mp_lt0, mp_0le, mp_0lt, mp_nn, mp_mul, nI_add, mp_mod, mp_iteI, mp_r0, mp_r1, mp_r2, mp_r3, mp_r4, mp_r5, mp_r6, mp_r7, mp_r8, mp_rn, mp_rd, mp_rz, mp_w0, mp_w1, mp_w2, mp_w3, mp_w4, mp_w5, mp_w6, mp_w7, mp_w8, mp_wn, mp_wd, mp_wz, mr_r, mr_w, mr_law, mr_day, mr_z, mr_n, mr_pur, mr_str, mr_ros, mr_clo, mr_wlaw, mr_wday, mr_wz, mr_wpur, mr_wstr, mr_wros, mr_wclo, mup_same, mup_ne_t]
  generalize settleA A c x = B
  by_cases h1 : nI 9999 ≤ B 8 c
  · by_cases h2 : B 2 v ≤ 0
    · rw [if_pos h1, if_pos h1, if_pos h2, if_pos h2, mup_self (show B 8 c = B 8 c from rfl), mup_self rfl]
    · rw [if_pos h1, if_pos h1, if_neg h2, if_neg h2, mup_self (show B 8 c = B 8 c from rfl)]
  · by_cases h2 : B 2 v ≤ 0
    · rw [if_neg h1, if_neg h1, if_pos h2, if_pos h2]
      rw [mup_self (A := mup B 8 c (B 8 c + nI 1)) (show B 2 v = _ from (mup_ne_t (by omega)).symm)]
    · rw [if_neg h1, if_neg h1, if_neg h2, if_neg h2]
theorem takesS_mup {A t c' k v s} (h0 : t ≠ 0) (h4 : t ≠ 4) : takesS (mup A t k v) c' s = takesS A c' s := by
  unfold takesS
  simp only [mup_ne_t (Ne.symm h0), mup_ne_t (Ne.symm h4)]
theorem fightsS_mup {A t c' k v s} (h0 : t ≠ 0) (h4 : t ≠ 4) : fightsS (mup A t k v) c' s = fightsS A c' s := by
  unfold fightsS
  simp only [mup_ne_t (Ne.symm h0), mup_ne_t (Ne.symm h4)]
theorem cm_dip {A n d z h o c v} (hc : c < 8) (hv : v < 8) : fM_dipInto o (nI c) (nI v) (putM o A n d z h) = some ([], putM o (dipA A c v) n d z h) := by
  unfold fM_dipInto fM_dipInto_b27 dipA
  simp (disch := omega) only [cm_takes, cm_fights, cm_tail, xgd, xbi, xbh, xbl, xrI, xrV, xrL, xrR, mp_inb, mp_tn, mp_eq, mp_eq0, xnz, mp_le, mp_lt, mp_le0, mp_lt0, mp_0le, mp_0lt, mp_nn, mp_mul, nI_add, mp_mod, mp_iteI, mp_r0, mp_r1, mp_r2, mp_r3, mp_r4, mp_r5, mp_r6, mp_r7, mp_r8, mp_rn, mp_rd, mp_rz, mp_w0, mp_w1, mp_w2, mp_w3, mp_w4, mp_w5, mp_w6, mp_w7, mp_w8, mp_wn, mp_wd, mp_wz, mr_r, mr_w, mr_law, mr_day, mr_z, mr_n, mr_pur, mr_str, mr_ros, mr_clo, mr_wlaw, mr_wday, mr_wz, mr_wpur, mr_wstr, mr_wros, mr_wclo, mup_same, mup_ne_t]
  by_cases h1 : A 5 c = -(nI 1)
  · rw [if_pos h1, if_pos (Or.inl h1)]
    simp (disch := omega) only [takesS_mup, mup_ne_t]
  · by_cases h2 : A 5 c = A 1 v
    · rw [if_neg h1, if_pos h2, if_pos (Or.inr h2)]
      simp (disch := omega) only [takesS_mup, mup_ne_t]
    · rw [if_neg h1, if_neg h2, if_neg (show ¬ (A 5 c = -(nI 1) ∨ A 5 c = A 1 v) from fun hh => hh.elim h1 h2)]
      by_cases h3 : 0 ≤ A 6 c - fightsS A c (A 2 v)
      · rw [if_pos h3, if_pos h3]
      · rw [if_neg h3, if_neg h3]
-- the model
theorem mn_its {A n d z J h c w} (hc : c < n) (hn : n ≤ 8) (hw : w < 5) : fN_its 0 (nI c) (nI w) (putR 902 (rowOf A n d z J) h) = some ([Sum.inl (Value.int (A (4 + w) c))], putR 902 (rowOf A n d z J) h) := by
  simp (disch := omega) only [fN_its, xgd, xbi, xbh, xbl, xrI, xrV, xrL, xrR, mp_inb, mp_tn, mp_eq, mp_eq0, xnz, mp_le, mp_lt, mp_le0, mp_lt0, mp_0le, mp_0lt, mp_nn, mp_mul, nI_add, mp_mod, mp_iteI, mp_r0, mp_r1, mp_r2, mp_r3, mp_r4, mp_r5, mp_r6, mp_r7, mp_r8, mp_rn, mp_rd, mp_rz, mp_w0, mp_w1, mp_w2, mp_w3, mp_w4, mp_w5, mp_w6, mp_w7, mp_w8, mp_wn, mp_wd, mp_wz, mr_r, mr_w, mr_law, mr_day, mr_z, mr_n, mr_pur, mr_str, mr_ros, mr_clo, mr_wlaw, mr_wday, mr_wz, mr_wpur, mr_wstr, mr_wros, mr_wclo, mup_same, mup_ne_t]
theorem mn_sets {A n d z J h c w x} (hc : c < n) (hn : n ≤ 8) (hw : w < 5) : fN_sets 0 (nI c) (nI w) x (putR 902 (rowOf A n d z J) h) = some ([], putR 902 (rowOf (mup A (4 + w) c x) n d z J) h) := by
  simp (disch := omega) only [fN_sets, xgd, xbi, xbh, xbl, xrI, xrV, xrL, xrR, mp_inb, mp_tn, mp_eq, mp_eq0, xnz, mp_le, mp_lt, mp_le0, mp_lt0, mp_0le, mp_0lt, mp_nn, mp_mul, nI_add, mp_mod, mp_iteI, mp_r0, mp_r1, mp_r2, mp_r3, mp_r4, mp_r5, mp_r6, mp_r7, mp_r8, mp_rn, mp_rd, mp_rz, mp_w0, mp_w1, mp_w2, mp_w3, mp_w4, mp_w5, mp_w6, mp_w7, mp_w8, mp_wn, mp_wd, mp_wz, mr_r, mr_w, mr_law, mr_day, mr_z, mr_n, mr_pur, mr_str, mr_ros, mr_clo, mr_wlaw, mr_wday, mr_wz, mr_wpur, mr_wstr, mr_wros, mr_wclo, mup_same, mup_ne_t]
theorem mp_minmax (x : Int32) : (if nI 0 < (if x < nI 99 then x else nI 99) then (if x < nI 99 then x else nI 99) else nI 0) = if 0 < x then (if nI 99 ≤ x then nI 99 else x) else nI 0 := by
  have h99 : (nI 99).toInt = 99 := nI_toInt (by omega)
  have h0 : (nI 0).toInt = 0 := nI_toInt (by omega)
  have h0' : (0 : Int32).toInt = 0 := by decide
  simp only [Int32.lt_iff_toInt_lt, Int32.le_iff_toInt_le]
  by_cases h1 : x.toInt < (nI 99).toInt
  · rw [if_pos h1, if_neg (show ¬ (nI 99).toInt ≤ x.toInt by omega)]
    by_cases h2 : (nI 0).toInt < x.toInt
    · rw [if_pos h2, if_pos (by omega)]
    · rw [if_neg h2, if_neg (by omega)]
  · rw [if_neg h1, if_pos (by omega), if_pos (by omega), if_pos (by omega)]
theorem mn_deep {A n d z J h c x} (hc : c < n) (hn : n ≤ 8) : fN_isDeep 0 (nI c) x (putR 902 (rowOf A n d z J) h) = some ([], putR 902 (rowOf (settleA A c x) n d z J) h) := by
  unfold fN_isDeep settleA
  rw [mp_minmax]
  simp (disch := omega) only [mn_sets, xrV]
  by_cases h1 : 0 < x
  · rw [if_pos h1, if_pos h1, if_pos h1]
  · rw [if_neg h1, if_neg h1, if_neg h1]
theorem mn_takes {A n d z J h c s} (hc : c < n) (hn : n ≤ 8) : fN_takesOf 0 (nI c) s (putR 902 (rowOf A n d z J) h) = some ([Sum.inl (Value.int (takesS A c s))], putR 902 (rowOf A n d z J) h) := by
  unfold fN_takesOf takesS
  simp (disch := omega) [mn_its, xgd, xbi, xbh, xbl, xrI, xrV, xrL, xrR, mp_inb, mp_tn, mp_eq, mp_eq0, xnz, mp_le, mp_lt, mp_le0, mp_lt0, mp_0le, mp_0lt, mp_nn, mp_mul, nI_add, mp_mod, mp_iteI, mp_r0, mp_r1, mp_r2, mp_r3, mp_r4, mp_r5, mp_r6, mp_r7, mp_r8, mp_rn, mp_rd, mp_rz, mp_w0, mp_w1, mp_w2, mp_w3, mp_w4, mp_w5, mp_w6, mp_w7, mp_w8, mp_wn, mp_wd, mp_wz, mr_r, mr_w, mr_law, mr_day, mr_z, mr_n, mr_pur, mr_str, mr_ros, mr_clo, mr_wlaw, mr_wday, mr_wz, mr_wpur, mr_wstr, mr_wros, mr_wclo, mup_same, mup_ne_t, Int32.mul_comm (nI 2)]
theorem mn_fights {A n d z J h c s} (hc : c < n) (hn : n ≤ 8) : fN_fightsOf 0 (nI c) s (putR 902 (rowOf A n d z J) h) = some ([Sum.inl (Value.int (fightsS A c s))], putR 902 (rowOf A n d z J) h) := by
  unfold fN_fightsOf fightsS
  simp (disch := omega) [mn_its, xgd, xbi, xbh, xbl, xrI, xrV, xrL, xrR, mp_inb, mp_tn, mp_eq, mp_eq0, xnz, mp_le, mp_lt, mp_le0, mp_lt0, mp_0le, mp_0lt, mp_nn, mp_mul, nI_add, mp_mod, mp_iteI, mp_r0, mp_r1, mp_r2, mp_r3, mp_r4, mp_r5, mp_r6, mp_r7, mp_r8, mp_rn, mp_rd, mp_rz, mp_w0, mp_w1, mp_w2, mp_w3, mp_w4, mp_w5, mp_w6, mp_w7, mp_w8, mp_wn, mp_wd, mp_wz, mr_r, mr_w, mr_law, mr_day, mr_z, mr_n, mr_pur, mr_str, mr_ros, mr_clo, mr_wlaw, mr_wday, mr_wz, mr_wpur, mr_wstr, mr_wros, mr_wclo, mup_same, mup_ne_t, Int32.mul_comm (nI 2)]
theorem mn_fades {A n d z J h c} (hc : c < n) (hn : n ≤ 8) : fN_fadesOf 0 (nI c) (putR 902 (rowOf A n d z J) h) = some ([Sum.inl (Value.int (fadesS A c))], putR 902 (rowOf A n d z J) h) := by
  unfold fN_fadesOf fadesS
  simp (disch := omega) [mn_its, xgd, xbi, xbh, xbl, xrI, xrV, xrL, xrR, mp_inb, mp_tn, mp_eq, mp_eq0, xnz, mp_le, mp_lt, mp_le0, mp_lt0, mp_0le, mp_0lt, mp_nn, mp_mul, nI_add, mp_mod, mp_iteI, mp_r0, mp_r1, mp_r2, mp_r3, mp_r4, mp_r5, mp_r6, mp_r7, mp_r8, mp_rn, mp_rd, mp_rz, mp_w0, mp_w1, mp_w2, mp_w3, mp_w4, mp_w5, mp_w6, mp_w7, mp_w8, mp_wn, mp_wd, mp_wz, mr_r, mr_w, mr_law, mr_day, mr_z, mr_n, mr_pur, mr_str, mr_ros, mr_clo, mr_wlaw, mr_wday, mr_wz, mr_wpur, mr_wstr, mr_wros, mr_wclo, mup_same, mup_ne_t, Int32.mul_comm (nI 2)]
theorem mp_min9999 {x : Int32} (hx : x ≤ nI 9999) : (if x + nI 1 < nI 9999 then x + nI 1 else nI 9999) = if nI 9999 ≤ x then x else x + nI 1 := by
  have h99 : (nI 9999).toInt = 9999 := nI_toInt (by omega)
  have h1 : (nI 1).toInt = 1 := nI_toInt (by omega)
  simp only [Int32.lt_iff_toInt_lt, Int32.le_iff_toInt_le] at *
  have h2 := x.le_toInt
  have h3 : (x + nI 1).toInt = x.toInt + 1 := by
    rw [Int32.toInt_add, h1, Int.bmod_eq_of_le (by omega) (by omega)]
  by_cases h4 : (nI 9999).toInt ≤ x.toInt
  · rw [if_pos h4, if_neg (by omega)]
    exact Int32.toInt_inj.mp (by omega)
  · rw [if_neg h4]
    by_cases h5 : (x + nI 1).toInt < (nI 9999).toInt
    · rw [if_pos h5]
    · rw [if_neg h5]; exact Int32.toInt_inj.mp (by omega)
theorem mp_max0 {x : Int32} (hx : 0 ≤ x) : (if nI 0 < x - nI 1 then x - nI 1 else nI 0) = if x ≤ 0 then x else x - nI 1 := by
  have h0 : (nI 0).toInt = 0 := nI_toInt (by omega)
  have h0' : (0 : Int32).toInt = 0 := by decide
  have h1 : (nI 1).toInt = 1 := nI_toInt (by omega)
  simp only [Int32.lt_iff_toInt_lt, Int32.le_iff_toInt_le] at *
  have h2 := x.toInt_lt
  have h3 : (x - nI 1).toInt = x.toInt - 1 := by
    rw [Int32.toInt_sub, h1, Int.bmod_eq_of_le (by omega) (by omega)]
  by_cases h4 : x.toInt ≤ (0 : Int32).toInt
  · rw [if_pos h4, if_neg (by omega)]
    exact Int32.toInt_inj.mp (by omega)
  · rw [if_neg h4]
    by_cases h5 : (nI 0).toInt < (x - nI 1).toInt
    · rw [if_pos h5]
    · rw [if_neg h5]; exact Int32.toInt_inj.mp (by omega)
theorem mp_abs (x : Int32) (h : ¬ 0 ≤ x) : (if 0 ≤ x then x else 0 - x) = -x := by
  rw [if_neg h, Int32.zero_sub]
theorem settle_ne {A c x t k} (h5 : t ≠ 5) (h6 : t ≠ 6) : settleA A c x t k = A t k := by
  unfold settleA
  split
  · rw [mup_ne_t h6]
  · rw [mup_ne_t h5, mup_ne_t h6]
theorem mn_tail {A n d z J h c v s} (hc : c < n) (hn : n ≤ 8) (hv : v < 8) (h8 : A 8 c ≤ nI 9999) (h2 : 0 ≤ A 2 v) (hs : s = A 2 v) : fN_dips_b108 0 (nI c) (nI v) s (putR 902 (rowOf A n d z J) h) = some ([], putR 902 (rowOf (tailA A c v) n d z J) h) := by
  subst hs
  unfold fN_dips_b108 tailA
  simp (disch := omega) only [mn_its, mn_sets, xgd, xbi, xbh, xbl, xrI, xrV, xrL, xrR, mp_inb, mp_tn, mp_eq, mp_eq0, xnz, mp_le, mp_lt, mp_le0, mp_lt0, mp_0le, mp_0lt, mp_nn, mp_mul, nI_add, mp_mod, mp_iteI, mp_r0, mp_r1, mp_r2, mp_r3, mp_r4, mp_r5, mp_r6, mp_r7, mp_r8, mp_rn, mp_rd, mp_rz, mp_w0, mp_w1, mp_w2, mp_w3, mp_w4, mp_w5, mp_w6, mp_w7, mp_w8, mp_wn, mp_wd, mp_wz, mr_r, mr_w, mr_law, mr_day, mr_z, mr_n, mr_pur, mr_str, mr_ros, mr_clo, mr_wlaw, mr_wday, mr_wz, mr_wpur, mr_wstr, mr_wros, mr_wclo, mup_same, mup_ne_t]
  rw [mp_min9999 h8, mp_max0 h2]
theorem mn_dip {A n d z J h c v} (hc : c < n) (hn : n ≤ 8) (hv : v < 8) (h8 : A 8 c ≤ nI 9999) (h2 : 0 ≤ A 2 v) : fN_dips 0 (nI c) (nI v) (putR 902 (rowOf A n d z J) h) = some ([], putR 902 (rowOf (dipA A c v) n d z J) h) := by
  unfold fN_dips fN_dips_b49 dipA
  simp (disch := omega) only [mn_its, mn_sets, mn_takes, mn_fights, mn_deep, xgd, xbi, xbh, xbl, xrI, xrV, xrL, xrR, mp_inb, mp_tn, mp_eq, mp_eq0, xnz, mp_le, mp_lt, mp_le0, mp_lt0, mp_0le, mp_0lt, mp_nn, mp_mul, nI_add, mp_mod, mp_iteI, mp_r0, mp_r1, mp_r2, mp_r3, mp_r4, mp_r5, mp_r6, mp_r7, mp_r8, mp_rn, mp_rd, mp_rz, mp_w0, mp_w1, mp_w2, mp_w3, mp_w4, mp_w5, mp_w6, mp_w7, mp_w8, mp_wn, mp_wd, mp_wz, mr_r, mr_w, mr_law, mr_day, mr_z, mr_n, mr_pur, mr_str, mr_ros, mr_clo, mr_wlaw, mr_wday, mr_wz, mr_wpur, mr_wstr, mr_wros, mr_wclo, mup_same, mup_ne_t]
  have hh8 : ∀ B x, B 8 c = A 8 c → settleA B c x 8 c ≤ nI 9999 := fun B x hB => by rw [settle_ne (by omega) (by omega), hB]; exact h8
  have hh2 : ∀ B x, B 2 v = A 2 v → 0 ≤ settleA B c x 2 v := fun B x hB => by rw [settle_ne (by omega) (by omega), hB]; exact h2
  have hs : ∀ B x, B 2 v = A 2 v → A 2 v = settleA B c x 2 v := fun B x hB => by rw [settle_ne (by omega) (by omega), hB]
  have hm8 : ∀ x, mup A 5 c x 8 c = A 8 c := fun x => mup_ne_t (by omega)
  have hm2 : ∀ x, mup A 5 c x 2 v = A 2 v := fun x => mup_ne_t (by omega)
  by_cases h1 : A 5 c = -(nI 1)
  · rw [if_pos h1, if_pos (Or.inl h1), mn_tail hc hn hv (hh8 _ _ (hm8 _)) (hh2 _ _ (hm2 _)) (hs _ _ (hm2 _)), takesS_mup (by omega) (by omega)]
  · by_cases h3 : A 5 c = A 1 v
    · rw [if_neg h1, if_pos h3, if_pos (Or.inr h3), mn_tail hc hn hv (hh8 _ _ (hm8 _)) (hh2 _ _ (hm2 _)) (hs _ _ (hm2 _)), takesS_mup (by omega) (by omega)]
    · rw [if_neg h1, if_neg h3, if_neg (show ¬ (A 5 c = -(nI 1) ∨ A 5 c = A 1 v) from fun hh => hh.elim h1 h3)]
      by_cases h4 : 0 ≤ A 6 c - fightsS A c (A 2 v)
      · rw [if_pos h4, if_pos h4, if_pos h4, mn_tail hc hn hv (hh8 _ _ rfl) (hh2 _ _ rfl) (hs _ _ rfl)]
      · rw [if_neg h4, if_neg h4, if_neg h4, Int32.zero_sub, mn_tail hc hn hv (hh8 _ _ (hm8 _)) (hh2 _ _ (hm2 _)) (hs _ _ (hm2 _))]
