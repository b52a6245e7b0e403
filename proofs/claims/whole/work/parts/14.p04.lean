-- p04: both systems together
theorem mp_ext {h g : H2} (h1 : ∀ t o k, h.1 t o k = g.1 t o k) (h2 : h.2 = g.2) : h = g := by
  obtain ⟨a, b⟩ := h
  obtain ⟨c, e⟩ := g
  have h3 : a = c := by funext t o k; exact h1 t o k
  subst h3
  simp only at h2
  subst h2
  rfl
def IsM (o : Nat) (A : Nat → Nat → Int32) (n d : Nat) (z : Int32) (h : H2) : Prop :=
  (∀ t k, t ≤ 8 → k < mp_len t → h.1 (300 + t) o k = A t k) ∧ h.1 2 o 9 = nI n ∧ h.1 2 o 10 = nI d ∧ h.1 2 o 11 = z
theorem mp_at {A n d z h o t k} (ht : t ≤ 8) (hk : k < mp_len t) : (putM o A n d z h).1 (300 + t) o k = A t k := by
  have h1 : 300 + t - 300 = t := by omega
  show mp_put A n d z h.1 o (300 + t) o k = _
  unfold mp_put
  rw [if_pos ⟨rfl, by omega, by omega, by rw [h1]; exact hk⟩, h1]
theorem IsM_put {o A n d z h} : IsM o A n d z (putM o A n d z h) := ⟨fun t k ht hk => mp_at ht hk, mp_rn, mp_rd, mp_rz⟩
theorem putM_congr {o A B n d z h} (hAB : ∀ t k, t ≤ 8 → k < mp_len t → A t k = B t k) : putM o A n d z h = putM o B n d z h := by
  apply mp_ext
  · intro t q k
    show mp_put A n d z h.1 o t q k = mp_put B n d z h.1 o t q k
    unfold mp_put
    by_cases h1 : q = o ∧ 300 ≤ t ∧ t ≤ 308 ∧ k < mp_len (t - 300)
    · rw [if_pos h1, if_pos h1]
      exact hAB _ _ (by omega) h1.2.2.2
    · rw [if_neg h1, if_neg h1]
  · rfl
theorem putM_put {o A B n d z n' d' z' h} : putM o A n d z (putM o B n' d' z' h) = putM o A n d z h := by
  apply mp_ext
  · intro t q k
    show mp_put A n d z (mp_put B n' d' z' h.1 o) o t q k = mp_put A n d z h.1 o t q k
    unfold mp_put
    repeat' split
    all_goals rfl
  · rfl
theorem putM_comm {o p A B n d z n' d' z' h} (hop : o ≠ p) : putM o A n d z (putM p B n' d' z' h) = putM p B n' d' z' (putM o A n d z h) := by
  apply mp_ext
  · intro t q k
    show mp_put A n d z (mp_put B n' d' z' h.1 p) o t q k = mp_put B n' d' z' (mp_put A n d z h.1 o) p t q k
    unfold mp_put
    by_cases h1 : q = o
    · have h2 : q ≠ p := fun e => hop (h1 ▸ e)
      simp only [h2, false_and, if_false]
    · simp only [h1, false_and, if_false]
  · rfl
theorem putM_putR {o A n d z t R h} (ht : (t < 300 ∧ t ≠ 2) ∨ 308 < t) : putM o A n d z (putR t R h) = putR t R (putM o A n d z h) := by
  apply mp_ext
  · intro t' q k
    show mp_put A n d z (putR t R h).1 o t' q k = (if t' = t ∧ q = 0 then R k else mp_put A n d z h.1 o t' q k)
    unfold mp_put
    by_cases h1 : t' = t ∧ q = 0
    · rw [if_pos h1, if_neg (by omega), if_neg (by omega), if_neg (by omega), if_neg (by omega)]
      show (if t' = t ∧ q = 0 then R k else h.1 t' q k) = _
      rw [if_pos h1]
    · rw [if_neg h1]
      show _ = _
      simp only [putR, h1, if_false]
  · rfl
theorem putR_put {t R S h} : putR t R (putR t S h) = putR t R h := by
  apply mp_ext
  · intro t' q k
    show (if t' = t ∧ q = 0 then R k else if t' = t ∧ q = 0 then S k else h.1 t' q k) = (if t' = t ∧ q = 0 then R k else h.1 t' q k)
    split <;> rfl
  · rfl
theorem putR_comm {t u R S h} (htu : t ≠ u) : putR t R (putR u S h) = putR u S (putR t R h) := by
  apply mp_ext
  · intro t' q k
    show (if t' = t ∧ q = 0 then R k else if t' = u ∧ q = 0 then S k else h.1 t' q k) = (if t' = u ∧ q = 0 then S k else if t' = t ∧ q = 0 then R k else h.1 t' q k)
    by_cases h1 : t' = t ∧ q = 0
    · rw [if_pos h1, if_pos h1, if_neg (by omega)]
    · rw [if_neg h1, if_neg h1]
  · rfl
theorem IsM_eq {o A n d z h} (H : IsM o A n d z h) : putM o A n d z h = h := by
  apply mp_ext
  · intro t q k
    show mp_put A n d z h.1 o t q k = _
    unfold mp_put
    by_cases h1 : q = o ∧ 300 ≤ t ∧ t ≤ 308 ∧ k < mp_len (t - 300)
    · rw [if_pos h1, ← H.1 (t - 300) k (by omega) h1.2.2.2, show 300 + (t - 300) = t by omega, h1.1]
    · rw [if_neg h1]
      by_cases h2 : q = o ∧ t = 2 ∧ k = 9
      · rw [if_pos h2, h2.1, h2.2.1, h2.2.2]; exact H.2.1.symm
      · rw [if_neg h2]
        by_cases h3 : q = o ∧ t = 2 ∧ k = 10
        · rw [if_pos h3, h3.1, h3.2.1, h3.2.2]; exact H.2.2.1.symm
        · rw [if_neg h3]
          by_cases h4 : q = o ∧ t = 2 ∧ k = 11
          · rw [if_pos h4, h4.1, h4.2.1, h4.2.2]; exact H.2.2.2.symm
          · rw [if_neg h4]
  · rfl
theorem putR_eq {t R} {h : H2} (H : ∀ k, h.1 t 0 k = R k) : putR t R h = h := by
  apply mp_ext
  · intro t' q k
    show (if t' = t ∧ q = 0 then R k else h.1 t' q k) = _
    split
    · rename_i h1; rw [h1.1, h1.2]; exact (H k).symm
    · rfl
  · rfl
theorem mp_wo {A n d z h o o' t k v} (hk : o' ≠ o) : wI2 (putM o A n d z h) t o' k v = putM o A n d z (wI2 h t o' k v) := by
  apply mp_ext
  · intro t' q k'
    show mv_up3 (mp_put A n d z h.1 o) t o' k v t' q k' = mp_put A n d z (mv_up3 h.1 t o' k v) o t' q k'
    unfold mp_put mv_up3
    simp only [mp_beq]
    by_cases h1 : q = o
    · have h2 : q ≠ o' := fun e => hk (e ▸ h1)
      simp [h2]
    · simp [h1]
  · rfl
theorem mp_wt {A n d z h o o' t k v} (ht : (t < 300 ∧ t ≠ 2) ∨ 308 < t) : wI2 (putM o A n d z h) t o' k v = putM o A n d z (wI2 h t o' k v) := by
  apply mp_ext
  · intro t' q k'
    show mv_up3 (mp_put A n d z h.1 o) t o' k v t' q k' = mp_put A n d z (mv_up3 h.1 t o' k v) o t' q k'
    unfold mp_put mv_up3
    simp only [mp_beq]
    by_cases h1 : t' = t
    · rw [if_neg (by omega), if_neg (by omega), if_neg (by omega), if_neg (by omega), if_neg (by omega), if_neg (by omega), if_neg (by omega), if_neg (by omega)]
    · simp [h1]
  · rfl
theorem mr_wt {t t' R h o k v} (ht : t' ≠ t) : wI2 (putR t R h) t' o k v = putR t R (wI2 h t' o k v) := by
  apply mp_ext
  · intro u q k'
    show mv_up3 (putR t R h).1 t' o k v u q k' = (if u = t ∧ q = 0 then R k' else mv_up3 h.1 t' o k v u q k')
    unfold mv_up3
    simp only [mp_beq]
    by_cases h1 : u = t ∧ q = 0
    · have h2 : u ≠ t' := by omega
      rw [if_pos h1, decide_eq_false h2, Bool.false_and, cond_false]
      show (if u = t ∧ q = 0 then R k' else h.1 u q k') = R k'
      rw [if_pos h1]
    · simp only [putR, h1, if_false]
  · rfl
-- a copy of a mill
theorem cp_A {o o1 A B n d z n' d' z' h t} (ho : o ≠ o1) (ht : t ≤ 8) (H : IsM o1 A n d z h) : cp2 (putM o B n' d' z' h) (300 + t) o1 o (mp_len t) 0 = putM o (fun t' k => if t' = t then A t' k else B t' k) n' d' z' h := by
  apply mp_ext
  · intro t' q k
    have hL : (cp2 (putM o B n' d' z' h) (300 + t) o1 o (mp_len t) 0).1 t' q k = cond (Nat.beq t' (300 + t) && (Nat.beq q o && decide (k < mp_len t))) ((putM o B n' d' z' h).1 (300 + t) o1 k) ((putM o B n' d' z' h).1 t' q k) := rfl
    have hB : (putM o B n' d' z' h).1 t' q k = mp_put B n' d' z' h.1 o t' q k := rfl
    have hS : (putM o (fun t' k => if t' = t then A t' k else B t' k) n' d' z' h).1 t' q k = mp_put (fun t' k => if t' = t then A t' k else B t' k) n' d' z' h.1 o t' q k := rfl
    rw [hL, hB, hS]
    simp only [mp_beq]
    by_cases h1 : t' = 300 + t ∧ q = o ∧ k < mp_len t
    · obtain ⟨a, b, c⟩ := h1
      subst a; subst b
      have e1 : 300 + t - 300 = t := by omega
      unfold mp_put
      rw [e1, if_pos (show q = q ∧ 300 ≤ 300 + t ∧ 300 + t ≤ 308 ∧ k < mp_len t from ⟨rfl, by omega, by omega, c⟩), if_pos (show q = q ∧ 300 ≤ 300 + t ∧ 300 + t ≤ 308 ∧ k < mp_len t from ⟨rfl, by omega, by omega, c⟩)]
      show _ = (if t = t then A t k else B t k)
      rw [if_pos rfl]
      simp only [decide_true, Bool.and_true, decide_eq_true c, cond_true]
      rw [show (putM q B n' d' z' h).1 (300 + t) o1 k = h.1 (300 + t) o1 k from mp_ro (Ne.symm ho)]
      exact H.1 t k ht c
    · have h2 : (decide (t' = 300 + t) && (decide (q = o) && decide (k < mp_len t))) = false := by
        cases hb : (decide (t' = 300 + t) && (decide (q = o) && decide (k < mp_len t))) with
        | false => rfl
        | true =>
          simp only [Bool.and_eq_true, decide_eq_true_eq] at hb
          exact absurd hb h1
      rw [h2, cond_false]
      unfold mp_put
      by_cases h3 : q = o ∧ 300 ≤ t' ∧ t' ≤ 308 ∧ k < mp_len (t' - 300)
      · rw [if_pos h3, if_pos h3]
        show _ = (if t' - 300 = t then A (t' - 300) k else B (t' - 300) k)
        rw [if_neg ?_]
        intro e
        exact h1 ⟨by omega, h3.1, e ▸ h3.2.2.2⟩
      · rw [if_neg h3, if_neg h3]
  · rfl
theorem mp_any (x : Int32) : ∃ n : Nat, x = nI n := ⟨x.toUInt32.toNat, by
  apply Int32.toBitVec_inj.mp
  unfold nI
  rw [Int32.toBitVec_ofNat']
  apply BitVec.eq_of_toNat_eq
  rw [BitVec.toNat_ofNat]
  exact (Nat.mod_eq_of_lt x.toUInt32.toNat_lt).symm⟩
theorem IsM_any (o : Nat) (h : H2) : ∃ A n d z, IsM o A n d z h := by
  obtain ⟨n, hn⟩ := mp_any (h.1 2 o 9)
  obtain ⟨d, hd⟩ := mp_any (h.1 2 o 10)
  exact ⟨fun t k => h.1 (300 + t) o k, n, d, h.1 2 o 11, fun _ _ _ _ => rfl, hn, hd, rfl⟩
theorem IsM_ro {o o1 A B n d z n' d' z'} {h : H2} (ho : o ≠ o1) (H : IsM o1 A n d z h) : IsM o1 A n d z (putM o B n' d' z' h) :=
  ⟨fun t k ht hk => (mp_ro (Ne.symm ho)).trans (H.1 t k ht hk), (mp_ro (Ne.symm ho)).trans H.2.1, (mp_ro (Ne.symm ho)).trans H.2.2.1, (mp_ro (Ne.symm ho)).trans H.2.2.2⟩
theorem cm_copy {o o1 A n d z h} (ho : o ≠ o1) (H : IsM o1 A n d z h) : fM_copyFrom o o1 h = some ([], putM o A n d z h) := by
  obtain ⟨B, n', d', z', HB⟩ := IsM_any o h
  have e0 : fM_copyFrom o o1 h = fM_copyFrom o o1 (putM o B n' d' z' h) := by rw [IsM_eq HB]
  rw [e0]
  unfold fM_copyFrom
  have hx4 : (nI 4).toNatClampNeg = 4 := mp_tn (by omega)
  have hx8 : (nI 8).toNatClampNeg = 8 := mp_tn (by omega)
  have hx6 : (nI 6).toNatClampNeg = 6 := mp_tn (by omega)
  have g4 : (decide (nI 0 = nI 0) && (decide (nI 0 = nI 0) && (!decide ((nI 4) < 0) && (Nat.ble (nI 4).toNatClampNeg 4 && Nat.ble (nI 4).toNatClampNeg 4)))) = true := by decide +kernel
  have g8 : (decide (nI 0 = nI 0) && (decide (nI 0 = nI 0) && (!decide ((nI 8) < 0) && (Nat.ble (nI 8).toNatClampNeg 8 && Nat.ble (nI 8).toNatClampNeg 8)))) = true := by decide +kernel
  have g6 : (decide (nI 0 = nI 0) && (decide (nI 0 = nI 0) && (!decide ((nI 6) < 0) && (Nat.ble (nI 6).toNatClampNeg 6 && Nat.ble (nI 6).toNatClampNeg 6)))) = true := by decide +kernel
  rw [g4, g8, g6]
  simp only [xgd, xbh, hx4, hx8, hx6]
  rw [show cp2 _ 300 o1 o 4 0 = _ from cp_A (t := 0) ho (by omega) H]
  rw [show cp2 _ 301 o1 o 8 0 = _ from cp_A (t := 1) ho (by omega) H]
  rw [show cp2 _ 302 o1 o 8 0 = _ from cp_A (t := 2) ho (by omega) H]
  rw [show cp2 _ 303 o1 o 6 0 = _ from cp_A (t := 3) ho (by omega) H]
  rw [show cp2 _ 304 o1 o 8 0 = _ from cp_A (t := 4) ho (by omega) H]
  rw [show cp2 _ 305 o1 o 8 0 = _ from cp_A (t := 5) ho (by omega) H]
  rw [show cp2 _ 306 o1 o 8 0 = _ from cp_A (t := 6) ho (by omega) H]
  rw [show cp2 _ 307 o1 o 8 0 = _ from cp_A (t := 7) ho (by omega) H]
  rw [show cp2 _ 308 o1 o 8 0 = _ from cp_A (t := 8) ho (by omega) H]
  rw [mp_ro (Ne.symm ho), show rI2 h 2 o1 9 = nI n from H.2.1, mp_wn]
  rw [mp_ro (Ne.symm ho), show rI2 h 2 o1 10 = nI d from H.2.2.1, mp_wd]
  rw [mp_ro (Ne.symm ho), show rI2 h 2 o1 11 = z from H.2.2.2, mp_wz]
  refine congrArg (fun x : H2 => (some (([] : List mv_V), x) : O2)) (putM_congr ?_)
  intro t k ht hk
  show (if t = 8 then A t k else if t = 7 then A t k else if t = 6 then A t k else if t = 5 then A t k else if t = 4 then A t k else if t = 3 then A t k else if t = 2 then A t k else if t = 1 then A t k else if t = 0 then A t k else B t k) = A t k
  (repeat' split) <;> first | rfl | omega
