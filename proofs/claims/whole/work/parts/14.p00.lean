-- p00: numbers, and the normal forms of the two systems' rows
theorem mp_mul (a b : Nat) : nI a * nI b = nI (a * b) := (Int32.ofNat_mul a b).symm
theorem mp_tn {n : Nat} (h : n < 1000000) : (nI n).toNatClampNeg = n := nI_clamp (by omega)
theorem mp_le {a b : Nat} (ha : a < 1000000) (hb : b < 1000000) : (nI a ≤ nI b) = (a ≤ b) := propext (nI_leI (by omega) (by omega))
theorem mp_lt {a b : Nat} (ha : a < 1000000) (hb : b < 1000000) : (nI a < nI b) = (a < b) := propext (nI_ltI (by omega) (by omega))
theorem mp_eq {a b : Nat} (ha : a < 1000000) (hb : b < 1000000) : (nI a = nI b) = (a = b) := propext (nI_eq (by omega) (by omega))
theorem mp_le0 {a : Nat} (ha : a < 1000000) : (nI a ≤ 0) = (a = 0) := by
  rw [← nI_0, mp_le ha (by omega)]; exact propext (by omega)
theorem mp_lt0 {a : Nat} (ha : a < 1000000) : (nI a < 0) = False := by
  rw [← nI_0, mp_lt ha (by omega)]; exact propext ⟨fun hh => absurd hh (by omega), False.elim⟩
theorem mp_0le {a : Nat} (ha : a < 1000000) : (0 ≤ nI a) = True := by
  rw [← nI_0, mp_le (by omega) ha]; exact propext ⟨fun _ => trivial, fun _ => Nat.zero_le _⟩
theorem mp_0lt {a : Nat} (ha : a < 1000000) : (0 < nI a) = (0 < a) := by
  rw [← nI_0, mp_lt (by omega) ha]
theorem mp_eq0 {a : Nat} (ha : a < 1000000) : (nI a = 0) = (a = 0) := by
  rw [← nI_0, mp_eq ha (by omega)]
theorem mp_inb {c n : Nat} (h : c < n) (hn : n < 1000000) : mv_inb (nI c) n = true := by
  unfold mv_inb
  rw [mp_tn (by omega)]
  simp only [mp_lt0 (show c < 1000000 by omega), decide_false, Bool.false_or]
  cases hb : Nat.ble n c with
  | false => rfl
  | true => exact absurd (Nat.le_of_ble_eq_true hb) (by omega)
theorem mp_gd {α : Type} {b : Bool} {k : Option α} (h : b = true) : mv_gd b k = k := by subst h; rfl
theorem mp_sub {a b : Nat} (h : b ≤ a) : nI a - nI b = nI (a - b) := by
  have h1 : nI a = nI (a - b) + nI b := by rw [nI_add]; congr 1; omega
  rw [h1, Int32.add_sub_cancel]
theorem mp_div {a b : Nat} (ha : a < 2 ^ 31) (hb : b < 2 ^ 31) (h0 : 0 < b) : nI a / nI b = nI (a / b) := by
  apply Int32.toInt_inj.mp
  have h2 : a / b ≤ a := Nat.div_le_self a b
  rw [Int32.toInt_div, nI_toInt ha, nI_toInt hb, nI_toInt (show a / b < 2 ^ 31 by omega)]
  rw [← Int.ofNat_tdiv]
  generalize a / b = q at h2 ⊢
  rw [Int.bmod_eq_of_le (by omega) (by omega)]
theorem mp_mod {a b : Nat} (ha : a < 2 ^ 31) (hb : b < 2 ^ 31) (h0 : 0 < b) : nI a - nI a / nI b * nI b = nI (a % b) := by
  rw [mp_div ha hb h0, mp_mul, mp_sub (Nat.div_mul_le_self a b)]
  congr 1
  have := Nat.div_add_mod a b
  rw [Nat.mul_comm] at this
  omega
theorem mp_shr (x : Int32) : ∃ r : Nat, r < 65536 ∧ (x.toUInt32 >>> ((nI 16).toUInt32 &&& Int32.toUInt32 31)).toInt32 = nI r := by
  have h1 : ((nI 16).toUInt32 &&& Int32.toUInt32 31) = 16 := by decide +kernel
  rw [h1]
  refine ⟨(x.toUInt32 >>> 16).toNat, ?_, ?_⟩
  · rw [UInt32.toNat_shiftRight]
    have h2 : x.toUInt32.toNat < 2 ^ 32 := x.toUInt32.toNat_lt
    have h3 : ((16 : UInt32).toNat % 32) = 16 := by decide
    rw [h3, Nat.shiftRight_eq_div_pow]
    omega
  · apply Int32.toBitVec_inj.mp
    show (x.toUInt32 >>> 16).toBitVec = (nI _).toBitVec
    unfold nI
    rw [Int32.toBitVec_ofNat']
    apply BitVec.eq_of_toNat_eq
    rw [BitVec.toNat_ofNat]
    show (x.toUInt32 >>> 16).toNat = (x.toUInt32 >>> 16).toNat % 2 ^ 32
    exact (Nat.mod_eq_of_lt (x.toUInt32 >>> 16).toNat_lt).symm
theorem mp_neg1 : (-(nI 1)) < 0 := by decide +kernel
theorem mp_nn {n : Nat} (h : n < 1000000) : (nI n = -(nI 1)) = False := by
  apply propext
  constructor
  · intro h1
    have h2 := mp_neg1
    rw [← h1, mp_lt0 h] at h2
    exact h2
  · intro h1; exact h1.elim
theorem mp_1n (n : Nat) : nI 1 + -(nI 1) = 0 := by decide +kernel
theorem mp_beq (a b : Nat) : Nat.beq a b = decide (a = b) := by
  cases hb : Nat.beq a b with
  | false => exact (decide_eq_false (fun h => by subst h; rw [Nat.beq_refl] at hb; cases hb)).symm
  | true => exact (decide_eq_true (Nat.eq_of_beq_eq_true hb)).symm
theorem xgd {α : Type} {k : Option α} : mv_gd true k = k := Eq.symm (Eq.symm rfl)
theorem xgf {α : Type} {k : Option α} : mv_gd false k = none := Eq.symm (Eq.symm rfl)
theorem xbi {α : Type} {x : Int32} {k : Int32 → α} : mv_bi x k = k x := Eq.symm (Eq.symm rfl)
theorem xbl {α : Type} {x : Int64} {k : Int64 → α} : mv_bl x k = k x := Eq.symm (Eq.symm rfl)
theorem xbh {α β : Type} {x : β} {k : β → α} : mv_bh x k = k x := Eq.symm (Eq.symm rfl)
theorem xrI {x : Int32} {h : H2} {k : Int32 → H2 → O2} : mv_rI (some ([Sum.inl (Value.int x)], h)) k = k x h := Eq.symm (Eq.symm rfl)
theorem xrL {x : Int64} {h : H2} {k : Int64 → H2 → O2} : mv_rL (some ([Sum.inl (Value.long x)], h)) k = k x h := Eq.symm (Eq.symm rfl)
theorem xrV {h : H2} {k : H2 → O2} : mv_rV (some ([], h)) k = k h := Eq.symm (Eq.symm rfl)
theorem xrR {t o : Nat} {h : H2} {k : Nat → H2 → O2} : mv_rR t (some ([Sum.inr (t, o)], h)) k = k o h := by
  show mv_gd (Nat.beq t t) (k o h) = _
  rw [Nat.beq_refl, xgd]
theorem xnz {a : Nat} [Decidable (a = 0)] (h : 0 < a) : (!decide (a = 0)) = true := by
  rw [decide_eq_false (show ¬ a = 0 by omega)]; rfl
-- mills
def mp_len : Nat → Nat
  | 0 => 4
  | 3 => 6
  | _ => 8
def mp_put (A : Nat → Nat → Int32) (n d : Nat) (z : Int32) (f : Nat → Nat → Nat → Int32) (o : Nat) : Nat → Nat → Nat → Int32 := fun t q k =>
  if q = o ∧ 300 ≤ t ∧ t ≤ 308 ∧ k < mp_len (t - 300) then A (t - 300) k
  else if q = o ∧ t = 2 ∧ k = 9 then nI n
  else if q = o ∧ t = 2 ∧ k = 10 then nI d
  else if q = o ∧ t = 2 ∧ k = 11 then z
  else f t q k
def putM (o : Nat) (A : Nat → Nat → Int32) (n d : Nat) (z : Int32) (h : H2) : H2 := (mp_put A n d z h.1 o, h.2)
def mup (A : Nat → Nat → Int32) (t k : Nat) (v : Int32) : Nat → Nat → Int32 := fun t' k' => if t' = t ∧ k' = k then v else A t' k'
def rup (R : Nat → Int32) (k : Nat) (v : Int32) : Nat → Int32 := fun k' => if k' = k then v else R k'
def putR (t : Nat) (R : Nat → Int32) (h : H2) : H2 := (fun t' q k => if t' = t ∧ q = 0 then R k else h.1 t' q k, h.2)
def rowOf (A : Nat → Nat → Int32) (n d : Nat) (z : Int32) (J : Nat → Int32) : Nat → Int32 := fun k =>
  if k < 4 then A 0 k else if k = 4 then nI d else if k = 5 then z else if k = 6 then nI n
  else if k < 15 then A 1 (k - 7) else if k < 23 then A 2 (k - 15) else if k < 29 then A 3 (k - 23)
  else if (k - 29) / 5 < n then A (4 + (k - 29) % 5) ((k - 29) / 5) else J k
theorem mup_same {A : Nat → Nat → Int32} {t k : Nat} {v : Int32} : mup A t k v t k = v := by simp [mup]
theorem mup_ne_t {A : Nat → Nat → Int32} {t t' k k' : Nat} {v : Int32} (h : t' ≠ t) : mup A t k v t' k' = A t' k' := by simp [mup, h]
theorem mup_ne_k {A : Nat → Nat → Int32} {t t' k k' : Nat} {v : Int32} (h : k' ≠ k) : mup A t k v t' k' = A t' k' := by simp [mup, h]
theorem mup_self {A : Nat → Nat → Int32} {t k : Nat} {v : Int32} (h : v = A t k) : mup A t k v = A := by
  funext t' k'
  unfold mup
  split
  · rename_i h1; rw [h, h1.1, h1.2]
  · rfl
-- reading a mill
theorem mp_r0 {A n d z h o k} (hk : k < 4) : rI2 (putM o A n d z h) 300 o k = A 0 k := by simp [rI2, putM, mp_put, mp_len, hk]
theorem mp_r1 {A n d z h o k} (hk : k < 8) : rI2 (putM o A n d z h) 301 o k = A 1 k := by simp [rI2, putM, mp_put, mp_len, hk]
theorem mp_r2 {A n d z h o k} (hk : k < 8) : rI2 (putM o A n d z h) 302 o k = A 2 k := by simp [rI2, putM, mp_put, mp_len, hk]
theorem mp_r3 {A n d z h o k} (hk : k < 6) : rI2 (putM o A n d z h) 303 o k = A 3 k := by simp [rI2, putM, mp_put, mp_len, hk]
theorem mp_r4 {A n d z h o k} (hk : k < 8) : rI2 (putM o A n d z h) 304 o k = A 4 k := by simp [rI2, putM, mp_put, mp_len, hk]
theorem mp_r5 {A n d z h o k} (hk : k < 8) : rI2 (putM o A n d z h) 305 o k = A 5 k := by simp [rI2, putM, mp_put, mp_len, hk]
theorem mp_r6 {A n d z h o k} (hk : k < 8) : rI2 (putM o A n d z h) 306 o k = A 6 k := by simp [rI2, putM, mp_put, mp_len, hk]
theorem mp_r7 {A n d z h o k} (hk : k < 8) : rI2 (putM o A n d z h) 307 o k = A 7 k := by simp [rI2, putM, mp_put, mp_len, hk]
theorem mp_r8 {A n d z h o k} (hk : k < 8) : rI2 (putM o A n d z h) 308 o k = A 8 k := by simp [rI2, putM, mp_put, mp_len, hk]
theorem mp_rn {A n d z h o} : rI2 (putM o A n d z h) 2 o 9 = nI n := by simp [rI2, putM, mp_put]
theorem mp_rd {A n d z h o} : rI2 (putM o A n d z h) 2 o 10 = nI d := by simp [rI2, putM, mp_put]
theorem mp_rz {A n d z h o} : rI2 (putM o A n d z h) 2 o 11 = z := by simp [rI2, putM, mp_put]
theorem mp_ro {A n d z h o o' t k} (hk : o' ≠ o) : rI2 (putM o A n d z h) t o' k = rI2 h t o' k := by simp [rI2, putM, mp_put, hk]
theorem mp_rt {A n d z h o o' t k} (hk : (t < 300 ∧ t ≠ 2) ∨ 308 < t) : rI2 (putM o A n d z h) t o' k = rI2 h t o' k := by
  have h1 : ¬ (300 ≤ t ∧ t ≤ 308 ∧ k < mp_len (t - 300)) := by omega
  have h2 : t ≠ 2 := by omega
  simp [rI2, putM, mp_put, h1, h2]
-- writing a mill
theorem mp_wA {A n d z h o t k v} (ht : t ≤ 8) (hk : k < mp_len t) : wI2 (putM o A n d z h) (300 + t) o k v = putM o (mup A t k v) n d z h := by
  unfold wI2 putM mp_put mv_up3 mup
  congr 1
  funext t' q k'
  simp only [mp_beq]
  by_cases h1 : t' = 300 + t
  · subst h1
    have e1 : 300 + t - 300 = t := by omega
    have e2 : ¬ (300 + t = 2) := by omega
    have e3 : 300 ≤ 300 + t := by omega
    have e4 : 300 + t ≤ 308 := by omega
    by_cases h2 : q = o
    · by_cases h4 : k' = k
      · simp only [e1, e2, e3, e4, h2, h4, hk, decide_true, Bool.and_true, cond_true, true_and, and_self, if_true]
      · simp only [e1, e2, e3, e4, h2, h4, decide_true, decide_false, Bool.and_false, cond_false, true_and, and_false, if_false]
    · simp only [e1, e2, h2, decide_false, Bool.and_false, Bool.false_and, cond_false, false_and, if_false]
  · have h5 : ¬ (t' - 300 = t ∧ 300 ≤ t') := by omega
    rw [decide_eq_false h1, Bool.false_and, cond_false]
    by_cases h6 : q = o ∧ 300 ≤ t' ∧ t' ≤ 308 ∧ k' < mp_len (t' - 300)
    · rw [if_pos h6, if_pos h6, if_neg (by omega)]
    · rw [if_neg h6, if_neg h6]
theorem mp_w0 {A n d z h o k v} (hk : k < 4) : wI2 (putM o A n d z h) 300 o k v = putM o (mup A 0 k v) n d z h := mp_wA (t := 0) (by omega) hk
theorem mp_w1 {A n d z h o k v} (hk : k < 8) : wI2 (putM o A n d z h) 301 o k v = putM o (mup A 1 k v) n d z h := mp_wA (t := 1) (by omega) hk
theorem mp_w2 {A n d z h o k v} (hk : k < 8) : wI2 (putM o A n d z h) 302 o k v = putM o (mup A 2 k v) n d z h := mp_wA (t := 2) (by omega) hk
theorem mp_w3 {A n d z h o k v} (hk : k < 6) : wI2 (putM o A n d z h) 303 o k v = putM o (mup A 3 k v) n d z h := mp_wA (t := 3) (by omega) hk
theorem mp_w4 {A n d z h o k v} (hk : k < 8) : wI2 (putM o A n d z h) 304 o k v = putM o (mup A 4 k v) n d z h := mp_wA (t := 4) (by omega) hk
theorem mp_w5 {A n d z h o k v} (hk : k < 8) : wI2 (putM o A n d z h) 305 o k v = putM o (mup A 5 k v) n d z h := mp_wA (t := 5) (by omega) hk
theorem mp_w6 {A n d z h o k v} (hk : k < 8) : wI2 (putM o A n d z h) 306 o k v = putM o (mup A 6 k v) n d z h := mp_wA (t := 6) (by omega) hk
theorem mp_w7 {A n d z h o k v} (hk : k < 8) : wI2 (putM o A n d z h) 307 o k v = putM o (mup A 7 k v) n d z h := mp_wA (t := 7) (by omega) hk
theorem mp_w8 {A n d z h o k v} (hk : k < 8) : wI2 (putM o A n d z h) 308 o k v = putM o (mup A 8 k v) n d z h := mp_wA (t := 8) (by omega) hk
theorem mp_wn {A n d z h o m} : wI2 (putM o A n d z h) 2 o 9 (nI m) = putM o A m d z h := by
  unfold wI2 putM mp_put mv_up3
  congr 1
  funext t' q k'
  by_cases h1 : t' = 2 <;> by_cases h2 : q = o <;> by_cases h3 : k' = 9 <;> simp [mp_beq, h1, h2, h3]
theorem mp_wd {A n d z h o m} : wI2 (putM o A n d z h) 2 o 10 (nI m) = putM o A n m z h := by
  unfold wI2 putM mp_put mv_up3
  congr 1
  funext t' q k'
  by_cases h1 : t' = 2 <;> by_cases h2 : q = o <;> by_cases h3 : k' = 10 <;> simp [mp_beq, h1, h2, h3]
theorem mp_wz {A n d z h o v} : wI2 (putM o A n d z h) 2 o 11 v = putM o A n d v h := by
  unfold wI2 putM mp_put mv_up3
  congr 1
  funext t' q k'
  by_cases h1 : t' = 2 <;> by_cases h2 : q = o <;> by_cases h3 : k' = 11 <;> simp [mp_beq, h1, h2, h3]
-- rows of the model
theorem mr_r {t R h k} : rI2 (putR t R h) t 0 k = R k := by simp [rI2, putR]
theorem mr_rt {t t' R h o k} (ht : t' ≠ t) : rI2 (putR t R h) t' o k = rI2 h t' o k := by simp [rI2, putR, ht]
theorem mr_w {t R h k v} : wI2 (putR t R h) t 0 k v = putR t (rup R k v) h := by
  unfold wI2 putR mv_up3 rup
  congr 1
  funext t' q k'
  by_cases h1 : t' = t <;> by_cases h2 : q = 0 <;> by_cases h3 : k' = k <;> simp [mp_beq, h1, h2, h3]
theorem mr_law {A n d z J k} (hk : k < 4) : rowOf A n d z J k = A 0 k := by simp [rowOf, hk]
theorem mr_day {A n d z J} : rowOf A n d z J 4 = nI d := rfl
theorem mr_z {A n d z J} : rowOf A n d z J 5 = z := rfl
theorem mr_n {A n d z J} : rowOf A n d z J 6 = nI n := rfl
theorem mr_pur {A n d z J k} (hk : k < 8) : rowOf A n d z J (7 + k) = A 1 k := by
  unfold rowOf
  rw [if_neg (by omega), if_neg (by omega), if_neg (by omega), if_neg (by omega), if_pos (by omega)]
  congr 1; omega
theorem mr_str {A n d z J k} (hk : k < 8) : rowOf A n d z J (15 + k) = A 2 k := by
  unfold rowOf
  rw [if_neg (by omega), if_neg (by omega), if_neg (by omega), if_neg (by omega), if_neg (by omega), if_pos (by omega)]
  congr 1; omega
theorem mr_ros {A n d z J k} (hk : k < 6) : rowOf A n d z J (23 + k) = A 3 k := by
  unfold rowOf
  rw [if_neg (by omega), if_neg (by omega), if_neg (by omega), if_neg (by omega), if_neg (by omega), if_neg (by omega), if_pos (by omega)]
  congr 1; omega
theorem mr_clo {A n d z J c w} (hc : c < n) (hw : w < 5) : rowOf A n d z J (29 + 5 * c + w) = A (4 + w) c := by
  unfold rowOf
  rw [if_neg (by omega), if_neg (by omega), if_neg (by omega), if_neg (by omega), if_neg (by omega), if_neg (by omega), if_neg (by omega), if_pos (by omega)]
  congr 1 <;> omega
theorem mr_wlaw {A n d z J k v} (hk : k < 4) : rup (rowOf A n d z J) k v = rowOf (mup A 0 k v) n d z J := by
  funext k'
  unfold rup
  by_cases h1 : k' = k
  · subst h1; rw [if_pos rfl, mr_law hk, mup_same]
  · rw [if_neg h1]
    unfold rowOf
    repeat' split
    all_goals first | rfl | (rw [mup_ne_k h1]) | (rw [mup_ne_t (by omega)])
theorem mr_wday {A n d z J m} : rup (rowOf A n d z J) 4 (nI m) = rowOf A n m z J := by
  funext k'
  unfold rup
  by_cases h1 : k' = 4
  · subst h1; rw [if_pos rfl]; rfl
  · rw [if_neg h1]
    unfold rowOf
    rw [if_neg h1, if_neg h1]
theorem mr_wz {A n d z J v} : rup (rowOf A n d z J) 5 v = rowOf A n d v J := by
  funext k'
  unfold rup
  by_cases h1 : k' = 5
  · subst h1; rw [if_pos rfl]; rfl
  · rw [if_neg h1]
    unfold rowOf
    rw [if_neg h1, if_neg h1]
theorem mr_wpur {A n d z J k v} (hk : k < 8) : rup (rowOf A n d z J) (7 + k) v = rowOf (mup A 1 k v) n d z J := by
  funext k'
  unfold rup
  by_cases h1 : k' = 7 + k
  · subst h1; rw [if_pos rfl, mr_pur hk, mup_same]
  · rw [if_neg h1]
    unfold rowOf
    repeat' split
    all_goals first | rfl | (rw [mup_ne_k (by omega)]) | (rw [mup_ne_t (by omega)])
theorem mr_wstr {A n d z J k v} (hk : k < 8) : rup (rowOf A n d z J) (15 + k) v = rowOf (mup A 2 k v) n d z J := by
  funext k'
  unfold rup
  by_cases h1 : k' = 15 + k
  · subst h1; rw [if_pos rfl, mr_str hk, mup_same]
  · rw [if_neg h1]
    unfold rowOf
    repeat' split
    all_goals first | rfl | (rw [mup_ne_k (by omega)]) | (rw [mup_ne_t (by omega)])
theorem mr_wros {A n d z J k v} (hk : k < 6) : rup (rowOf A n d z J) (23 + k) v = rowOf (mup A 3 k v) n d z J := by
  funext k'
  unfold rup
  by_cases h1 : k' = 23 + k
  · subst h1; rw [if_pos rfl, mr_ros hk, mup_same]
  · rw [if_neg h1]
    unfold rowOf
    repeat' split
    all_goals first | rfl | (rw [mup_ne_k (by omega)]) | (rw [mup_ne_t (by omega)])
theorem mr_wclo {A n d z J c w v} (hc : c < n) (hw : w < 5) : rup (rowOf A n d z J) (29 + 5 * c + w) v = rowOf (mup A (4 + w) c v) n d z J := by
  funext k'
  unfold rup
  by_cases h1 : k' = 29 + 5 * c + w
  · subst h1; rw [if_pos rfl, mr_clo hc hw, mup_same]
  · rw [if_neg h1]
    unfold rowOf
    repeat' split
    all_goals first
      | rfl
      | (rw [mup_ne_t (by omega)])
      | (by_cases h2 : (k' - 29) / 5 = c
         · rw [mup_ne_t (by omega)]
         · rw [mup_ne_k h2])
