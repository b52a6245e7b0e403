-- p02: ranges; days
def okv : Nat → Int32 → Prop
  | 0, v => ∃ m : Nat, m < 100 ∧ v = nI m
  | 1, v => ∃ m : Nat, m < 10 ∧ v = nI m
  | 2, v => ∃ m : Nat, m < 10 ∧ v = nI m
  | 3, v => v = -(nI 1) ∨ ∃ m : Nat, m < 8 ∧ v = nI m
  | 4, v => ∃ m : Nat, m < 6 ∧ v = nI m
  | 5, v => v = -(nI 1) ∨ ∃ m : Nat, m < 10 ∧ v = nI m
  | 6, v => ∃ m : Nat, m < 100 ∧ v = nI m
  | 7, v => ∃ m : Nat, m < 2 ∧ v = nI m
  | 8, v => ∃ m : Nat, m < 10000 ∧ v = nI m
  | _, _ => True
def lenR (n : Nat) : Nat → Nat
  | 0 => 4
  | 1 => 8
  | 2 => 8
  | 3 => 6
  | _ => n
def Rng (A : Nat → Nat → Int32) (n : Nat) : Prop := ∀ t k, t ≤ 8 → k < lenR n t → okv t (A t k)
theorem Rng_mup {A n t k v} (h : Rng A n) (hv : okv t v) : Rng (mup A t k v) n := by
  intro t' k' ht hk
  unfold mup
  split
  · rename_i h1; rw [h1.1]; exact hv
  · exact h t' k' ht hk
theorem Rng_le8 {A n} (h : Rng A n) {c : Nat} (hc : c < n) : A 8 c ≤ nI 9999 := by
  obtain ⟨m, hm, e⟩ := h 8 c (by omega) hc
  rw [e, mp_le (by omega) (by omega)]; omega
theorem Rng_ge2 {A n} (h : Rng A n) {v : Nat} (hv : v < 8) : 0 ≤ A 2 v := by
  obtain ⟨m, hm, e⟩ := h 2 v (by omega) hv
  rw [e, mp_0le (by omega)]; trivial
theorem Rng_settle {A n c x} (h : Rng A n) : Rng (settleA A c x) n := by
  unfold settleA
  split
  · rename_i h1
    apply Rng_mup h
    split
    · exact ⟨99, by omega, rfl⟩
    · rename_i h2
      have h3 : ¬ x < 0 := by
        simp only [Int32.lt_iff_toInt_lt] at *
        omega
      obtain ⟨j, hj, e⟩ := nI_of h3
      subst e
      refine ⟨j, ?_, rfl⟩
      rw [nI_leI (by omega) hj] at h2
      omega
  · exact Rng_mup (Rng_mup h ⟨0, by omega, rfl⟩) (Or.inl rfl)
theorem Rng_tail {A n c v} (h : Rng A n) (hc : c < n) (hv : v < 8) : Rng (tailA A c v) n := by
  unfold tailA
  refine Rng_mup (Rng_mup h ?_) ?_
  · obtain ⟨m, hm, e⟩ := h 8 c (by omega) hc
    rw [e]
    simp (disch := omega) only [mp_le, nI_add]
    split
    · exact ⟨m, hm, rfl⟩
    · exact ⟨m + 1, by omega, rfl⟩
  · obtain ⟨m, hm, e⟩ := h 2 v (by omega) hv
    rw [e]
    simp (disch := omega) only [mp_le0]
    split
    · exact ⟨m, hm, rfl⟩
    · rw [mp_sub (by omega)]
      exact ⟨m - 1, by omega, rfl⟩
theorem Rng_dip {A n c v} (h : Rng A n) (hc : c < n) (hv : v < 8) : Rng (dipA A c v) n := by
  have h5 : okv 5 (A 1 v) := Or.inr (h 1 v (by omega) hv)
  unfold dipA
  repeat' split
  · exact Rng_tail (Rng_settle (Rng_mup h h5)) hc hv
  · exact Rng_tail (Rng_settle h) hc hv
  · exact Rng_tail (Rng_settle (Rng_mup h h5)) hc hv
theorem Rng_deepen {A n c x} (h : Rng A n) : Rng (deepenA A c x) n := by
  unfold deepenA
  split
  · exact h
  · exact Rng_settle h
def dipsL (v : Nat) : Nat → Nat → (Nat → Nat → Int32) → Nat → Nat → Int32
  | 0, _, A => A
  | k + 1, c, A => dipsL v k (c + 1) (if A 7 c = 0 then dipA A c v else A)
def fadeL : Nat → Nat → (Nat → Nat → Int32) → Nat → Nat → Int32
  | 0, _, A => A
  | k + 1, c, A => fadeL k (c + 1) (if A 7 c = nI 1 then deepenA A c (A 6 c - fadesS A c) else A)
def upL : Nat → Nat → (Nat → Nat → Int32) → Nat → Nat → Int32
  | 0, _, A => A
  | k + 1, v, A => upL k (v + 1) (if nI 9 ≤ A 2 v then A else mup A 2 v (A 2 v + nI 1))
def vatA (A : Nat → Nat → Int32) (n : Nat) (r : Int32) : Nat → Nat → Int32 := if r < 0 then A else dipsL r.toNatClampNeg n 0 A
def dayA (A : Nat → Nat → Int32) (n d : Nat) : Nat → Nat → Int32 := upL 8 0 (fadeL n 0 (vatA A n (A 3 (d % 6))))
def passA (n : Nat) : Nat → Nat → (Nat → Nat → Int32) → Nat → Nat → Int32
  | 0, _, A => A
  | k + 1, d, A => passA n k (d + 1) (dayA A n d)
theorem Rng_dips {n v} (hv : v < 8) : ∀ k c A, c + k ≤ n → Rng A n → Rng (dipsL v k c A) n
  | 0, _, _, _, h => h
  | k + 1, c, A, hk, h => by
    unfold dipsL
    apply Rng_dips hv k (c + 1) _ (by omega)
    split
    · exact Rng_dip h (by omega) hv
    · exact h
theorem Rng_fade {n} : ∀ k c A, Rng A n → Rng (fadeL k c A) n
  | 0, _, _, h => h
  | k + 1, c, A, h => by
    unfold fadeL
    apply Rng_fade k (c + 1) _
    split
    · exact Rng_deepen h
    · exact h
theorem Rng_up {n} : ∀ k v A, v + k ≤ 8 → Rng A n → Rng (upL k v A) n
  | 0, _, _, _, h => h
  | k + 1, v, A, hk, h => by
    unfold upL
    apply Rng_up k (v + 1) _ (by omega)
    split
    · exact h
    · rename_i h1
      apply Rng_mup h
      obtain ⟨m, hm, e⟩ := h 2 v (by omega) (show v < 8 by omega)
      rw [e, mp_le (by omega) (by omega)] at h1
      rw [e, nI_add]
      exact ⟨m + 1, by omega, rfl⟩
theorem Rng_vat {A n r} (h : Rng A n) (hr : okv 3 r) : Rng (vatA A n r) n := by
  unfold vatA
  split
  · exact h
  · rename_i h1
    rcases hr with h2 | ⟨m, hm, e⟩
    · rw [h2] at h1; exact absurd mp_neg1 h1
    · subst e
      rw [mp_tn (by omega)]
      exact Rng_dips hm n 0 A (by omega) h
theorem Rng_ros {A n} (h : Rng A n) (d : Nat) : okv 3 (A 3 (d % 6)) := h 3 (d % 6) (by omega) (show d % 6 < 6 by omega)
theorem Rng_day {A n d} (h : Rng A n) : Rng (dayA A n d) n := Rng_up 8 0 _ (by omega) (Rng_fade n 0 _ (Rng_vat h (Rng_ros h d)))
theorem Rng_pass {n} : ∀ k d A, Rng A n → Rng (passA n k d A) n
  | 0, _, _, h => h
  | k + 1, d, _, h => Rng_pass k (d + 1) _ (Rng_day h)
-- the class: a day
theorem cm_up {n d z h o} (hd : d < 100000) : ∀ k v f A, v + k = 8 → k < f → fM_passDay_b86 f o (nI v) (putM o A n d z h) = some ([], putM o (upL k v A) n (d + 1) z h)
  | _, _, 0, _, _, hf => by omega
  | 0, v, f + 1, A, hv, _ => by
    have : v = 8 := by omega
    subst this
    simp (disch := omega) [fM_passDay_b86, upL, xgd, xbi, xbh, xbl, xrI, xrV, xrL, xrR, mp_inb, mp_tn, mp_eq, mp_eq0, xnz, mp_le, mp_lt, mp_le0, mp_lt0, mp_0le, mp_0lt, mp_nn, mp_mul, nI_add, mp_mod, mp_iteI, mp_r0, mp_r1, mp_r2, mp_r3, mp_r4, mp_r5, mp_r6, mp_r7, mp_r8, mp_rn, mp_rd, mp_rz, mp_w0, mp_w1, mp_w2, mp_w3, mp_w4, mp_w5, mp_w6, mp_w7, mp_w8, mp_wn, mp_wd, mp_wz, mr_r, mr_w, mr_law, mr_day, mr_z, mr_n, mr_pur, mr_str, mr_ros, mr_clo, mr_wlaw, mr_wday, mr_wz, mr_wpur, mr_wstr, mr_wros, mr_wclo, mup_same, mup_ne_t]
  | k + 1, v, f + 1, A, hv, hf => by
    unfold fM_passDay_b86 upL
    simp (disch := omega) only [xgd, xbi, xbh, xbl, xrI, xrV, xrL, xrR, mp_inb, mp_tn, mp_eq, mp_eq0, xnz, mp_le, mp_lt, mp_le0, mp_lt0, mp_0le, mp_0lt, mp_nn, mp_mul, nI_add, mp_mod, mp_iteI, mp_r0, mp_r1, mp_r2, mp_r3, mp_r4, mp_r5, mp_r6, mp_r7, mp_r8, mp_rn, mp_rd, mp_rz, mp_w0, mp_w1, mp_w2, mp_w3, mp_w4, mp_w5, mp_w6, mp_w7, mp_w8, mp_wn, mp_wd, mp_wz, mr_r, mr_w, mr_law, mr_day, mr_z, mr_n, mr_pur, mr_str, mr_ros, mr_clo, mr_wlaw, mr_wday, mr_wz, mr_wpur, mr_wstr, mr_wros, mr_wclo, mup_same, mup_ne_t]
    rw [if_neg (by omega)]
    by_cases h1 : nI 9 ≤ A 2 v
    · rw [if_pos h1, if_pos h1]
      exact cm_up hd k (v + 1) f A (by omega) (by omega)
    · rw [if_neg h1, if_neg h1]
      exact cm_up hd k (v + 1) f _ (by omega) (by omega)
theorem cm_fadeL {n d z h o} (hn : n ≤ 8) (hd : d < 100000) : ∀ k c f A, c + k = n → k < f → fM_passDay_b43 f o (nI c) (putM o A n d z h) = some ([], putM o (upL 8 0 (fadeL k c A)) n (d + 1) z h)
  | _, _, 0, _, _, hf => by omega
  | 0, c, f + 1, A, hv, _ => by
    have : c = n := by omega
    subst this
    unfold fM_passDay_b43 fadeL
    simp (disch := omega) only [xgd, xbi, xbh, xbl, xrI, xrV, xrL, xrR, mp_inb, mp_tn, mp_eq, mp_eq0, xnz, mp_le, mp_lt, mp_le0, mp_lt0, mp_0le, mp_0lt, mp_nn, mp_mul, nI_add, mp_mod, mp_iteI, mp_r0, mp_r1, mp_r2, mp_r3, mp_r4, mp_r5, mp_r6, mp_r7, mp_r8, mp_rn, mp_rd, mp_rz, mp_w0, mp_w1, mp_w2, mp_w3, mp_w4, mp_w5, mp_w6, mp_w7, mp_w8, mp_wn, mp_wd, mp_wz, mr_r, mr_w, mr_law, mr_day, mr_z, mr_n, mr_pur, mr_str, mr_ros, mr_clo, mr_wlaw, mr_wday, mr_wz, mr_wpur, mr_wstr, mr_wros, mr_wclo, mup_same, mup_ne_t]
    rw [if_pos (Nat.le_refl _)]
    exact cm_up hd 8 0 1000 A (by omega) (by omega)
  | k + 1, c, f + 1, A, hv, hf => by
    unfold fM_passDay_b43 fadeL
    simp (disch := omega) only [cm_fades, cm_deepen, xgd, xbi, xbh, xbl, xrI, xrV, xrL, xrR, mp_inb, mp_tn, mp_eq, mp_eq0, xnz, mp_le, mp_lt, mp_le0, mp_lt0, mp_0le, mp_0lt, mp_nn, mp_mul, nI_add, mp_mod, mp_iteI, mp_r0, mp_r1, mp_r2, mp_r3, mp_r4, mp_r5, mp_r6, mp_r7, mp_r8, mp_rn, mp_rd, mp_rz, mp_w0, mp_w1, mp_w2, mp_w3, mp_w4, mp_w5, mp_w6, mp_w7, mp_w8, mp_wn, mp_wd, mp_wz, mr_r, mr_w, mr_law, mr_day, mr_z, mr_n, mr_pur, mr_str, mr_ros, mr_clo, mr_wlaw, mr_wday, mr_wz, mr_wpur, mr_wstr, mr_wros, mr_wclo, mup_same, mup_ne_t]
    rw [if_neg (by omega)]
    by_cases h1 : A 7 c = nI 1
    · rw [if_pos h1, if_pos h1]
      exact cm_fadeL hn hd k (c + 1) f _ (by omega) (by omega)
    · rw [if_neg h1, if_neg h1]
      exact cm_fadeL hn hd k (c + 1) f _ (by omega) (by omega)
theorem cm_dipsL {n d z h o v} (hn : n ≤ 8) (hv8 : v < 8) : ∀ k c f A, c + k = n → k < f → fM_passDay_b7 f o (nI v) (nI c) (putM o A n d z h) = fM_passDay_b43 1000 o (nI 0) (putM o (dipsL v k c A) n d z h)
  | _, _, 0, _, _, hf => by omega
  | 0, c, f + 1, A, hv, _ => by
    have : c = n := by omega
    subst this
    unfold fM_passDay_b7 dipsL
    simp (disch := omega) only [xgd, xbi, xbh, xbl, xrI, xrV, xrL, xrR, mp_inb, mp_tn, mp_eq, mp_eq0, xnz, mp_le, mp_lt, mp_le0, mp_lt0, mp_0le, mp_0lt, mp_nn, mp_mul, nI_add, mp_mod, mp_iteI, mp_r0, mp_r1, mp_r2, mp_r3, mp_r4, mp_r5, mp_r6, mp_r7, mp_r8, mp_rn, mp_rd, mp_rz, mp_w0, mp_w1, mp_w2, mp_w3, mp_w4, mp_w5, mp_w6, mp_w7, mp_w8, mp_wn, mp_wd, mp_wz, mr_r, mr_w, mr_law, mr_day, mr_z, mr_n, mr_pur, mr_str, mr_ros, mr_clo, mr_wlaw, mr_wday, mr_wz, mr_wpur, mr_wstr, mr_wros, mr_wclo, mup_same, mup_ne_t]
    rw [if_pos (Nat.le_refl _)]
  | k + 1, c, f + 1, A, hv, hf => by
    unfold fM_passDay_b7 dipsL
    simp (disch := omega) only [cm_dip, xgd, xbi, xbh, xbl, xrI, xrV, xrL, xrR, mp_inb, mp_tn, mp_eq, mp_eq0, xnz, mp_le, mp_lt, mp_le0, mp_lt0, mp_0le, mp_0lt, mp_nn, mp_mul, nI_add, mp_mod, mp_iteI, mp_r0, mp_r1, mp_r2, mp_r3, mp_r4, mp_r5, mp_r6, mp_r7, mp_r8, mp_rn, mp_rd, mp_rz, mp_w0, mp_w1, mp_w2, mp_w3, mp_w4, mp_w5, mp_w6, mp_w7, mp_w8, mp_wn, mp_wd, mp_wz, mr_r, mr_w, mr_law, mr_day, mr_z, mr_n, mr_pur, mr_str, mr_ros, mr_clo, mr_wlaw, mr_wday, mr_wz, mr_wpur, mr_wstr, mr_wros, mr_wclo, mup_same, mup_ne_t]
    rw [if_neg (by omega), if_neg (fun hh => hh)]
    by_cases h1 : A 7 c = 0
    · rw [if_pos h1, if_pos h1]
      exact cm_dipsL hn hv8 k (c + 1) f _ (by omega) (by omega)
    · rw [if_neg h1, if_neg h1]
      exact cm_dipsL hn hv8 k (c + 1) f _ (by omega) (by omega)
theorem cm_vat {A n d z h o} (hd : d < 100000) : fM_vatOfToday o (putM o A n d z h) = some ([Sum.inl (Value.int (A 3 (d % 6)))], putM o A n d z h) := by
  have h1 : d % 6 < 6 := by omega
  unfold fM_vatOfToday
  simp (disch := omega) only [mp_rd, mp_mod, mp_inb, mp_tn, mp_r3, xgd]
  rfl
theorem cm_day {A n d z h o} (hn : n ≤ 8) (hd : d < 100000) (hr : okv 3 (A 3 (d % 6))) : fM_passDay o (putM o A n d z h) = some ([], putM o (dayA A n d) n (d + 1) z h) := by
  unfold fM_passDay dayA vatA
  simp (disch := omega) only [cm_vat, xrI, xbi]
  rcases hr with h2 | ⟨m, hm, e⟩
  · rw [h2, if_pos mp_neg1]
    have h3 : fM_passDay_b7 1000 o (-(nI 1)) (nI 0) (putM o A n d z h) = fM_passDay_b43 1000 o (nI 0) (putM o A n d z h) := by
      unfold fM_passDay_b7
      simp (disch := omega) only [xgd, xbi, xbh, xbl, xrI, xrV, xrL, xrR, mp_inb, mp_tn, mp_eq, mp_eq0, xnz, mp_le, mp_lt, mp_le0, mp_lt0, mp_0le, mp_0lt, mp_nn, mp_mul, nI_add, mp_mod, mp_iteI, mp_r0, mp_r1, mp_r2, mp_r3, mp_r4, mp_r5, mp_r6, mp_r7, mp_r8, mp_rn, mp_rd, mp_rz, mp_w0, mp_w1, mp_w2, mp_w3, mp_w4, mp_w5, mp_w6, mp_w7, mp_w8, mp_wn, mp_wd, mp_wz, mr_r, mr_w, mr_law, mr_day, mr_z, mr_n, mr_pur, mr_str, mr_ros, mr_clo, mr_wlaw, mr_wday, mr_wz, mr_wpur, mr_wstr, mr_wros, mr_wclo, mup_same, mup_ne_t]
      split <;> rfl
    rw [h3]
    exact cm_fadeL hn hd n 0 1000 A (by omega) (by omega)
  · rw [e, cm_dipsL hn hm n 0 1000 A (by omega) (by omega), if_neg (by rw [mp_lt0 (by omega)]; exact fun hh => hh), mp_tn (by omega)]
    exact cm_fadeL hn hd n 0 1000 _ (by omega) (by omega)
theorem cm_passL {n z h o q} (hn : n ≤ 8) (hq : q < 1000) : ∀ k i f d A, i + k = q → k < f → d + k < 100000 → Rng A n → fM_passDays_b2 f o (nI q) (nI i) (putM o A n d z h) = some ([], putM o (passA n k d A) n (d + k) z h)
  | _, _, 0, _, _, _, hf, _, _ => by omega
  | 0, i, f + 1, d, A, hi, _, _, _ => by
    have : i = q := by omega
    subst this
    unfold fM_passDays_b2 passA
    simp (disch := omega) only [xgd, xbi, xbh, xbl, xrI, xrV, xrL, xrR, mp_inb, mp_tn, mp_eq, mp_eq0, xnz, mp_le, mp_lt, mp_le0, mp_lt0, mp_0le, mp_0lt, mp_nn, mp_mul, nI_add, mp_mod, mp_iteI, mp_r0, mp_r1, mp_r2, mp_r3, mp_r4, mp_r5, mp_r6, mp_r7, mp_r8, mp_rn, mp_rd, mp_rz, mp_w0, mp_w1, mp_w2, mp_w3, mp_w4, mp_w5, mp_w6, mp_w7, mp_w8, mp_wn, mp_wd, mp_wz, mr_r, mr_w, mr_law, mr_day, mr_z, mr_n, mr_pur, mr_str, mr_ros, mr_clo, mr_wlaw, mr_wday, mr_wz, mr_wpur, mr_wstr, mr_wros, mr_wclo, mup_same, mup_ne_t]
    rw [if_pos (Nat.le_refl _)]
    rfl
  | k + 1, i, f + 1, d, A, hi, hf, hd, hR => by
    unfold fM_passDays_b2 passA
    simp (disch := omega) only [xgd, xbi, xbh, xbl, xrI, xrV, xrL, xrR, mp_inb, mp_tn, mp_eq, mp_eq0, xnz, mp_le, mp_lt, mp_le0, mp_lt0, mp_0le, mp_0lt, mp_nn, mp_mul, nI_add, mp_mod, mp_iteI, mp_r0, mp_r1, mp_r2, mp_r3, mp_r4, mp_r5, mp_r6, mp_r7, mp_r8, mp_rn, mp_rd, mp_rz, mp_w0, mp_w1, mp_w2, mp_w3, mp_w4, mp_w5, mp_w6, mp_w7, mp_w8, mp_wn, mp_wd, mp_wz, mr_r, mr_w, mr_law, mr_day, mr_z, mr_n, mr_pur, mr_str, mr_ros, mr_clo, mr_wlaw, mr_wday, mr_wz, mr_wpur, mr_wstr, mr_wros, mr_wclo, mup_same, mup_ne_t]
    rw [if_neg (by omega), cm_day hn (by omega) (Rng_ros hR d)]
    simp (disch := omega) only [xgd, xbi, xbh, xbl, xrI, xrV, xrL, xrR, mp_inb, mp_tn, mp_eq, mp_eq0, xnz, mp_le, mp_lt, mp_le0, mp_lt0, mp_0le, mp_0lt, mp_nn, mp_mul, nI_add, mp_mod, mp_iteI, mp_r0, mp_r1, mp_r2, mp_r3, mp_r4, mp_r5, mp_r6, mp_r7, mp_r8, mp_rn, mp_rd, mp_rz, mp_w0, mp_w1, mp_w2, mp_w3, mp_w4, mp_w5, mp_w6, mp_w7, mp_w8, mp_wn, mp_wd, mp_wz, mr_r, mr_w, mr_law, mr_day, mr_z, mr_n, mr_pur, mr_str, mr_ros, mr_clo, mr_wlaw, mr_wday, mr_wz, mr_wpur, mr_wstr, mr_wros, mr_wclo, mup_same, mup_ne_t]
    rw [cm_passL hn hq k (i + 1) f (d + 1) _ (by omega) (by omega) (by omega) (Rng_day hR)]
    rw [show d + 1 + k = d + (k + 1) by omega]
theorem cm_pass {A n d z h o q} (hn : n ≤ 8) (hq : q < 1000) (hd : d + q < 100000) (hR : Rng A n) : fM_passDays o (nI q) (putM o A n d z h) = some ([], putM o (passA n q d A) n (d + q) z h) :=
  cm_passL hn hq q 0 1000 d A (by omega) (by omega) hd hR
def sumD (A : Nat → Nat → Int32) : Nat → Nat → Int32 → Int32
  | 0, _, s => s
  | k + 1, c, s => sumD A k (c + 1) (s + A 6 c)
theorem cm_sumL {A n d z h o} (hn : n ≤ 8) : ∀ k c f s, c + k = n → k < f → fM_allDepths_b4 f o s (nI c) (putM o A n d z h) = some ([Sum.inl (Value.int (sumD A k c s))], putM o A n d z h)
  | _, _, 0, _, _, hf => by omega
  | 0, c, f + 1, s, hv, _ => by
    have : c = n := by omega
    subst this
    unfold fM_allDepths_b4 sumD
    simp (disch := omega) only [xgd, xbi, xbh, xbl, xrI, xrV, xrL, xrR, mp_inb, mp_tn, mp_eq, mp_eq0, xnz, mp_le, mp_lt, mp_le0, mp_lt0, mp_0le, mp_0lt, mp_nn, mp_mul, nI_add, mp_mod, mp_iteI, mp_r0, mp_r1, mp_r2, mp_r3, mp_r4, mp_r5, mp_r6, mp_r7, mp_r8, mp_rn, mp_rd, mp_rz, mp_w0, mp_w1, mp_w2, mp_w3, mp_w4, mp_w5, mp_w6, mp_w7, mp_w8, mp_wn, mp_wd, mp_wz, mr_r, mr_w, mr_law, mr_day, mr_z, mr_n, mr_pur, mr_str, mr_ros, mr_clo, mr_wlaw, mr_wday, mr_wz, mr_wpur, mr_wstr, mr_wros, mr_wclo, mup_same, mup_ne_t]
    rw [if_pos (Nat.le_refl _)]
  | k + 1, c, f + 1, s, hv, hf => by
    unfold fM_allDepths_b4 sumD
    simp (disch := omega) only [xgd, xbi, xbh, xbl, xrI, xrV, xrL, xrR, mp_inb, mp_tn, mp_eq, mp_eq0, xnz, mp_le, mp_lt, mp_le0, mp_lt0, mp_0le, mp_0lt, mp_nn, mp_mul, nI_add, mp_mod, mp_iteI, mp_r0, mp_r1, mp_r2, mp_r3, mp_r4, mp_r5, mp_r6, mp_r7, mp_r8, mp_rn, mp_rd, mp_rz, mp_w0, mp_w1, mp_w2, mp_w3, mp_w4, mp_w5, mp_w6, mp_w7, mp_w8, mp_wn, mp_wd, mp_wz, mr_r, mr_w, mr_law, mr_day, mr_z, mr_n, mr_pur, mr_str, mr_ros, mr_clo, mr_wlaw, mr_wday, mr_wz, mr_wpur, mr_wstr, mr_wros, mr_wclo, mup_same, mup_ne_t]
    rw [if_neg (by omega)]
    exact cm_sumL hn k (c + 1) f _ (by omega) (by omega)
theorem cm_sum {A n d z h o} (hn : n ≤ 8) : fM_allDepths o (putM o A n d z h) = some ([Sum.inl (Value.int (sumD A n 0 (nI 0)))], putM o A n d z h) :=
  cm_sumL hn n 0 1000 (nI 0) (by omega) (by omega)
def zn (z : Int32) : Int32 := z * nI 1103515245 + nI 12345
def dr (z : Int32) : Int32 := ((zn z).toUInt32 >>> ((nI 16).toUInt32 &&& Int32.toUInt32 31)).toInt32
def drn (z : Int32) : Nat := (dr z).toNatClampNeg
theorem dr_n (z : Int32) : drn z < 65536 ∧ dr z = nI (drn z) := by
  obtain ⟨r, hr, e⟩ := mp_shr (zn z)
  unfold drn dr
  rw [e, mp_tn (by omega)]
  exact ⟨hr, rfl⟩
theorem cm_draw {A n d z h o} : fM_draw o (putM o A n d z h) = some ([Sum.inl (Value.int (nI (drn z)))], putM o A n d (zn z) h) := by
  rw [← (dr_n z).2]
  unfold fM_draw
  simp only [mp_rz, mp_wz, xbh]
  rfl
def slips (A : Nat → Nat → Int32) (z : Int32) : Prop := ¬ A 0 3 ≤ nI (drn (zn z) % 100)
def drawA (A : Nat → Nat → Int32) (n d : Nat) (z : Int32) : Nat → Nat → Int32 :=
  if n = 0 then dayA A n d else if A 0 3 ≤ nI (drn (zn z) % 100) then dayA A n d else dayA (dipA A (drn z % n) (drn (zn (zn z)) % 8)) n d
def drawZ (A : Nat → Nat → Int32) (n : Nat) (z : Int32) : Int32 :=
  if n = 0 then z else if A 0 3 ≤ nI (drn (zn z) % 100) then zn (zn z) else zn (zn (zn z))
theorem Rng_draw {A n d z} (h : Rng A n) : Rng (drawA A n d z) n := by
  unfold drawA
  split
  · exact Rng_day h
  · split
    · exact Rng_day h
    · exact Rng_day (Rng_dip h (Nat.mod_lt _ (by omega)) (Nat.mod_lt _ (by omega)))
theorem cm_drawn {A n d z h o} (hn : n ≤ 8) (hd : d < 100000) (hR : Rng A n) : fM_passDrawnDay o (putM o A n d z h) = some ([], putM o (drawA A n d z) n (d + 1) (drawZ A n z) h) := by
  have a1 := (dr_n z).1
  have a2 := (dr_n (zn z)).1
  have a3 := (dr_n (zn (zn z))).1
  unfold fM_passDrawnDay drawA drawZ
  simp (disch := omega) only [mp_rn, mp_le0]
  by_cases h0 : n = 0
  · rw [if_pos h0, if_pos h0, if_pos h0, cm_day hn hd (Rng_ros hR d)]
    rfl
  · have b1 : drn z % n < n := Nat.mod_lt _ (by omega)
    have b3 : drn (zn (zn z)) % 8 < 8 := Nat.mod_lt _ (by omega)
    rw [if_neg h0, if_neg h0, if_neg h0]
    simp (disch := omega) only [cm_draw, mp_rn, mp_eq0, mp_mod, xrI, xbi, xnz, xgd, mp_inb, mp_tn, mp_r0]
    by_cases h1 : A 0 3 ≤ nI (drn (zn z) % 100)
    · rw [if_pos h1, if_pos h1, if_pos h1, cm_day hn hd (Rng_ros hR d)]
      rfl
    · rw [if_neg h1, if_neg h1, if_neg h1, cm_dip (by omega) b3]
      simp only [xrV]
      rw [cm_day hn hd (Rng_ros (Rng_dip hR b1 b3) d), xrV]
