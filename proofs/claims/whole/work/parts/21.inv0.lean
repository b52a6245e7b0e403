/-! what holds at the start of a run -/
def lz_A0 (g : mv_G) (t k : Nat) : Int32 := g.1 (300 + t) 0 k
def lz_T0 (g : mv_G) (t k : Nat) : Int32 := g.1 (300 + t) 3 k
def lz_ini (g : mv_G) : Prop := (((List.range 4).all fun c => decide (g.1 900 0 c = nI (if c = 3 then 99 else 9)) && decide (g.1 901 0 c = (if c = 0 then nI 3 else if c = 1 then nI 2 else if c = 2 then nI 4 else nI 20))) = true) ∧
  (g.1 7 0 3 = 0 ∧ g.1 8 0 5 = 0 ∧ g.1 3 0 1 = nI 0 ∧ g.1 8 0 12 = nI 0 ∧ g.1 6 0 1 = nI 0 ∧ g.1 8 0 7 = nI 0 ∧ g.1 0 0 1 = nI 0 ∧ g.1 8 0 20 = nI 0 ∧ g.1 2 0 9 = nI 0 ∧ g.1 2 0 10 = nI 0 ∧ g.1 2 3 9 = nI 0 ∧ g.1 2 3 10 = nI 0) ∧
  (((List.range 30).all fun k => decide (g.1 400 0 k = g.1 911 0 k)) = true) ∧
  (((List.range 200).all fun k => decide (g.1 700 0 k = g.1 906 0 k) && decide (g.1 906 0 k = nI 0)) = true) ∧
  (((List.range 4).all fun s => decide (g.1 913 0 s = -(nI 1)) && (decide (g.1 916 0 s = nI 2) && decide (g.1 600 0 s = -(nI 1)))) = true) ∧
  (((List.range 29).all fun k => decide (g.1 902 0 k = rowOf (lz_A0 g) 0 0 (g.1 2 0 11) (fun _ => 0) k)) = true) ∧
  (((List.range 8).all fun k => (Nat.ble 4 k || (decide (¬ (lz_A0 g) 0 k < 0) && decide ((lz_A0 g) 0 k < nI 100))) && ((decide (¬ (lz_A0 g) 1 k < 0) && decide ((lz_A0 g) 1 k < nI 10)) && ((decide (¬ (lz_A0 g) 2 k < 0) && decide ((lz_A0 g) 2 k < nI 10)) && (Nat.ble 6 k || (decide ((lz_A0 g) 3 k = -(nI 1)) || (decide (¬ (lz_A0 g) 3 k < 0) && decide ((lz_A0 g) 3 k < nI 8))))))) = true)
set_option maxRecDepth 100000 in
theorem lz_ki1 : ((List.range 4).all fun c => decide (lz_gH.1 900 0 c = nI (if c = 3 then 99 else 9)) && decide (lz_gH.1 901 0 c = (if c = 0 then nI 3 else if c = 1 then nI 2 else if c = 2 then nI 4 else nI 20))) = true := by decide +kernel
set_option maxRecDepth 100000 in
theorem lz_ki2 : lz_gH.1 7 0 3 = 0 ∧ lz_gH.1 8 0 5 = 0 ∧ lz_gH.1 3 0 1 = nI 0 ∧ lz_gH.1 8 0 12 = nI 0 ∧ lz_gH.1 6 0 1 = nI 0 ∧ lz_gH.1 8 0 7 = nI 0 ∧ lz_gH.1 0 0 1 = nI 0 ∧ lz_gH.1 8 0 20 = nI 0 ∧ lz_gH.1 2 0 9 = nI 0 ∧ lz_gH.1 2 0 10 = nI 0 ∧ lz_gH.1 2 3 9 = nI 0 ∧ lz_gH.1 2 3 10 = nI 0 := by decide +kernel
set_option maxRecDepth 100000 in
theorem lz_ki3 : ((List.range 30).all fun k => decide (lz_gH.1 400 0 k = lz_gH.1 911 0 k)) = true := by decide +kernel
set_option maxRecDepth 100000 in
theorem lz_ki4 : ((List.range 200).all fun k => decide (lz_gH.1 700 0 k = lz_gH.1 906 0 k) && decide (lz_gH.1 906 0 k = nI 0)) = true := by decide +kernel
set_option maxRecDepth 100000 in
theorem lz_ki5 : ((List.range 4).all fun s => decide (lz_gH.1 913 0 s = -(nI 1)) && (decide (lz_gH.1 916 0 s = nI 2) && decide (lz_gH.1 600 0 s = -(nI 1)))) = true := by decide +kernel
set_option maxRecDepth 100000 in
theorem lz_ki6 : ((List.range 29).all fun k => decide (lz_gH.1 902 0 k = rowOf (lz_A0 lz_gH) 0 0 (lz_gH.1 2 0 11) (fun _ => 0) k)) = true := by decide +kernel
set_option maxRecDepth 100000 in
theorem lz_ki7 : ((List.range 8).all fun k => (Nat.ble 4 k || (decide (¬ (lz_A0 lz_gH) 0 k < 0) && decide ((lz_A0 lz_gH) 0 k < nI 100))) && ((decide (¬ (lz_A0 lz_gH) 1 k < 0) && decide ((lz_A0 lz_gH) 1 k < nI 10)) && ((decide (¬ (lz_A0 lz_gH) 2 k < 0) && decide ((lz_A0 lz_gH) 2 k < nI 10)) && (Nat.ble 6 k || (decide ((lz_A0 lz_gH) 3 k = -(nI 1)) || (decide (¬ (lz_A0 lz_gH) 3 k < 0) && decide ((lz_A0 lz_gH) 3 k < nI 8))))))) = true := by decide +kernel
theorem lz_rng1 {v : Int32} {b : Nat} (hb : b < 1000000) (h1 : ¬ v < 0) (h2 : v < nI b) : ∃ m : Nat, m < b ∧ v = nI m := by
  obtain ⟨j, hj, e⟩ := nI_of h1
  rw [e] at h2
  exact ⟨j, (nI_ltI hj (by omega)).mp h2, e⟩
theorem lz_Rng0 {g : mv_G} (hg : lz_ini g) : Rng (lz_A0 g) 0 := by
  obtain ⟨-, -, -, -, -, -, lz_ki7⟩ := hg
  intro t k ht hk
  have key := fun k (hk : k < 8) => List.all_eq_true.mp lz_ki7 k (List.mem_range.mpr hk)
  simp only [Bool.and_eq_true, Bool.or_eq_true, decide_eq_true_eq] at key
  match t, ht with
  | 0, _ =>
    have hk : k < 4 := hk
    rcases (key k (by omega)).1 with h | h
    · have := Nat.le_of_ble_eq_true h; omega
    · exact lz_rng1 (by omega) h.1 h.2
  | 1, _ => exact lz_rng1 (by omega) (key k hk).2.1.1 (key k hk).2.1.2
  | 2, _ => exact lz_rng1 (by omega) (key k hk).2.2.1.1 (key k hk).2.2.1.2
  | 3, _ =>
    have hk : k < 6 := hk
    rcases (key k (by omega)).2.2.2 with h | h | h
    · have := Nat.le_of_ble_eq_true h; omega
    · exact Or.inl h
    · exact Or.inr (lz_rng1 (by omega) h.1 h.2)
  | 4, _ | 5, _ | 6, _ | 7, _ | 8, _ => exact absurd hk (Nat.not_lt_zero k)
  | t + 9, ht => omega
theorem lz_Oth0 {g : mv_G} (hg : lz_ini g) : Oth 0 (lz_mk0 g) := by
  obtain ⟨lz_ki1, lz_ki2, lz_ki3, lz_ki4, lz_ki5, -, -⟩ := hg
  obtain ⟨a1, a2, a3, a4, a5, a6, a7, a8, -⟩ := lz_ki2
  refine ⟨fun c hc => ?_, Or.inl ⟨a1, a2⟩, ⟨0, by omega, a3, a4, fun k hk => ?_⟩, ⟨0, by omega, a5, a6, fun k hk => ?_⟩, ⟨fun s hs => Or.inl ⟨rfl, ?_⟩, fun s t r i r' i' _ _ _ h => by cases h⟩, fun s hs => Or.inl ?_, ⟨0, by omega, a7, a8, fun k hk => absurd hk (Nat.not_lt_zero k)⟩⟩
  · have := List.all_eq_true.mp lz_ki1 c (List.mem_range.mpr hc)
    simp only [Bool.and_eq_true, decide_eq_true_eq] at this
    exact this
  · exact of_decide_eq_true (List.all_eq_true.mp lz_ki3 k (List.mem_range.mpr hk))
  · have := List.all_eq_true.mp lz_ki4 k (List.mem_range.mpr hk)
    simp only [Bool.and_eq_true, decide_eq_true_eq] at this
    exact ⟨this.1, 0, by omega, this.2⟩
  · have := List.all_eq_true.mp lz_ki5 s (List.mem_range.mpr hs)
    simp only [Bool.and_eq_true, decide_eq_true_eq] at this
    exact this.1
  · have := List.all_eq_true.mp lz_ki5 s (List.mem_range.mpr hs)
    simp only [Bool.and_eq_true, decide_eq_true_eq] at this
    exact ⟨this.2.1, this.2.2, rfl⟩
theorem lz_put_self {o A n d z h} (H : IsM o A n d z h) : putM o A n d z h = h := by
  apply mp_ext
  · intro t q k
    show mp_put A n d z h.1 o t q k = h.1 t q k
    unfold mp_put
    by_cases h1 : q = o ∧ 300 ≤ t ∧ t ≤ 308 ∧ k < mp_len (t - 300)
    · rw [if_pos h1, ← H.1 (t - 300) k (by omega) h1.2.2.2, show 300 + (t - 300) = t by omega, h1.1]
    · rw [if_neg h1]
      by_cases h2 : q = o ∧ t = 2 ∧ k = 9
      · rw [if_pos h2, h2.1, h2.2.1, h2.2.2, H.2.1]
      · rw [if_neg h2]
        by_cases h3 : q = o ∧ t = 2 ∧ k = 10
        · rw [if_pos h3, h3.1, h3.2.1, h3.2.2, H.2.2.1]
        · rw [if_neg h3]
          by_cases h4 : q = o ∧ t = 2 ∧ k = 11
          · rw [if_pos h4, h4.1, h4.2.1, h4.2.2, H.2.2.2]
          · rw [if_neg h4]
  · rfl
theorem lz_putR_self {t : Nat} {R : Nat → Int32} {h : H2} (H : ∀ k, h.1 t 0 k = R k) : putR t R h = h := by
  apply mp_ext
  · intro t' q k
    show (if t' = t ∧ q = 0 then R k else h.1 t' q k) = h.1 t' q k
    by_cases h1 : t' = t ∧ q = 0
    · rw [if_pos h1, h1.1, h1.2, H]
    · rw [if_neg h1]
  · rfl
theorem lz_Inv_gen {g : mv_G} (hg : lz_ini g) : Inv 0 (lz_mk0 g) := by
  have hRng := lz_Rng0 hg
  have hOth := lz_Oth0 hg
  obtain ⟨-, lz_ki2, -, -, -, lz_ki6, -⟩ := hg
  obtain ⟨-, -, -, -, -, -, -, -, b1, b2, b3, b4⟩ := lz_ki2
  refine ⟨(lz_A0 g), 0, 0, g.1 2 0 11, fun k => g.1 902 0 k, (lz_T0 g), 0, 0, g.1 2 3 11, fun k => g.1 904 0 k, (lz_mk0 g), ?_, by omega, by omega, hRng, hOth⟩
  unfold mk
  have e4 : putR 904 (fun k => g.1 904 0 k) (lz_mk0 g) = (lz_mk0 g) := lz_putR_self fun _ => rfl
  have e2 : putR 902 (rowOf (lz_A0 g) 0 0 (g.1 2 0 11) (fun k => g.1 902 0 k)) (lz_mk0 g) = (lz_mk0 g) := by
    refine lz_putR_self fun k => ?_
    show g.1 902 0 k = _
    by_cases hk : k < 29
    · have := of_decide_eq_true (List.all_eq_true.mp lz_ki6 k (List.mem_range.mpr hk))
      rw [this]
      unfold rowOf
      by_cases c1 : k < 4
      · rw [if_pos c1, if_pos c1]
      rw [if_neg c1, if_neg c1]
      by_cases c2 : k = 4
      · rw [if_pos c2, if_pos c2]
      rw [if_neg c2, if_neg c2]
      by_cases c3 : k = 5
      · rw [if_pos c3, if_pos c3]
      rw [if_neg c3, if_neg c3]
      by_cases c4 : k = 6
      · rw [if_pos c4, if_pos c4]
      rw [if_neg c4, if_neg c4]
      by_cases c5 : k < 15
      · rw [if_pos c5, if_pos c5]
      rw [if_neg c5, if_neg c5]
      by_cases c6 : k < 23
      · rw [if_pos c6, if_pos c6]
      rw [if_neg c6, if_neg c6, if_pos hk, if_pos hk]
    · unfold rowOf
      rw [if_neg (show ¬ k < 4 by omega), if_neg (show ¬ k = 4 by omega), if_neg (show ¬ k = 5 by omega), if_neg (show ¬ k = 6 by omega), if_neg (show ¬ k < 15 by omega), if_neg (show ¬ k < 23 by omega), if_neg (show ¬ k < 29 by omega), if_neg (Nat.not_lt_zero _)]
  have m0 : IsM 0 (lz_A0 g) 0 0 (g.1 2 0 11) (lz_mk0 g) := ⟨fun _ _ _ _ => rfl, b1, b2, rfl⟩
  have m3 : IsM 3 (lz_T0 g) 0 0 (g.1 2 3 11) (lz_mk0 g) := ⟨fun _ _ _ _ => rfl, b3, b4, rfl⟩
  rw [e4, e2, lz_put_self m0, lz_put_self m3]
theorem lz_Inv0 : Inv 0 lz_h0 := lz_Inv_gen ⟨lz_ki1, lz_ki2, lz_ki3, lz_ki4, lz_ki5, lz_ki6, lz_ki7⟩
