-- p13: hangFor
def hgL (w : Nat) : Nat → Nat → (Nat → Nat → Int32) → Nat → Nat → Int32
  | 0, _, A => A
  | j + 1, c, A => hgL w j (c + 1) (mup A 7 c (nI (w / 2 ^ c % 2)))
theorem bt2 : ∀ c, c < 8 → ∀ w, w < 256 → (nI w >>> (nI c &&& 31)) &&& nI 1 = nI (w / 2 ^ c % 2) := by decide +kernel
theorem pw2 : ∀ n, n ≤ 8 → nI 1 <<< (nI n &&& 31) = nI (2 ^ n) := by decide +kernel
theorem pl2 : ∀ n, n ≤ 8 → 2 ^ n ≤ 256 := by decide +kernel
theorem pop_le : ∀ n, n ≤ 8 → ∀ w, w < 2 ^ n → popN 10 w ≤ n := by decide +kernel
theorem Rng_hg {n w} : ∀ j c A, Rng A n → Rng (hgL w j c A) n
  | 0, _, _, h => h
  | j + 1, c, A, h => Rng_hg j (c + 1) _ (Rng_mup h ⟨w / 2 ^ c % 2, Nat.mod_lt _ (by omega), rfl⟩)
theorem cl_hg {A n d z R R4 h tn td tz w} (hn : n ≤ 8) (hw : w < 256) : ∀ j c f T, c + j = n → j < f → fF_hangJust_b10 f 0 0 (nI w) (nI c) (mk A n d z R T tn td tz R4 h) = some ([], mk A n d z R (hgL w j c T) tn td tz R4 h)
  | _, _, 0, _, _, hf => by omega
  | 0, c, f + 1, T, hv, _ => by
    have : c = n := by omega
    subst this
    unfold fF_hangJust_b10 hgL
    rw [mk_an, if_pos (by rw [mp_le (by omega) (by omega)]; omega)]
  | j + 1, c, f + 1, T, hv, hf => by
    unfold fF_hangJust_b10 hgL
    rw [mk_an, if_neg (by rw [mp_le (by omega) (by omega)]; omega), mp_inb (by omega) (by omega), xgd, xbh, xbi, mp_tn (by omega), mk_wb7 (by omega), bt2 c (by omega) w hw, nI_add]
    exact cl_hg hn hw j (c + 1) f _ (by omega) (by omega)
theorem k_hg {A n d z R T tn td tz R4 h w} (hn : n ≤ 8) (hw : w < 256) : fF_hangJust 0 0 (nI w) (mk A n d z R T tn td tz R4 h) = some ([], mk A n d z R (hgL w n 0 A) n d z R4 h) := by
  unfold fF_hangJust
  rw [mk_cp3, xrV, xbi]
  exact cl_hg hn hw n 0 1000 A (by omega) (by omega)
theorem nl_hg {A n d z N D Z J T tn td tz R4 h w} (hn : N ≤ 8) (hw : w < 256) : ∀ j c f B, c + j = N → j < f → fN_hangs_b2 f 0 (nI w) (nI c) (mk A n d z (rowOf B N D Z J) T tn td tz R4 h) = some ([], mk A n d z (rowOf (hgL w j c B) N D Z J) T tn td tz R4 h)
  | _, _, 0, _, _, hf => by omega
  | 0, c, f + 1, B, hv, _ => by
    have : c = N := by omega
    subst this
    unfold fN_hangs_b2 hgL
    rw [mp_inb (by omega) (by omega), xgd, mp_tn (by omega), mk_rR, mr_n, if_pos (by rw [mp_le (by omega) (by omega)]; omega)]
  | j + 1, c, f + 1, B, hv, hf => by
    unfold fN_hangs_b2 hgL
    rw [mp_inb (by omega) (by omega), xgd, mp_tn (by omega), mk_rR, mr_n, if_neg (by rw [mp_le (by omega) (by omega)]; omega), bt2 c (by omega) w hw, kn_sets (by omega) hn (by omega), xrV, xbi, nI_add]
    exact nl_hg hn hw j (c + 1) f _ (by omega) (by omega)
theorem kn_hg {A n d z B N D Z J T tn td tz R4 h w} (hn : N ≤ 8) (hw : w < 256) : fN_hangs 0 (nI w) (mk A n d z (rowOf B N D Z J) T tn td tz R4 h) = some ([], mk A n d z (rowOf (hgL w N 0 B) N D Z J) T tn td tz R4 h) := by
  unfold fN_hangs
  rw [xbi]
  exact nl_hg hn hw N 0 1000 B (by omega) (by omega)
def hgS (A : Nat → Nat → Int32) (n d q w : Nat) : Nat := spL A (passA n q d (hgL w n 0 A)) n 0 0
theorem sp_le {A B} : ∀ k c s, spL A B k c s ≤ s + k
  | 0, _, _ => Nat.le_refl _
  | k + 1, c, s => by
    unfold spL
    have h1 := sp_le (A := A) (B := B) k (c + 1) (if B 5 c = A 5 c then s else s + 1)
    split at h1 <;> rename_i hh <;> simp only [hh, if_true, if_false] <;> omega
def cfI (P : Nat → Bool) : Nat → Nat → Option Nat
  | 0, _ => none
  | j + 1, w => if P w = true then some w else cfI P j (w + 1)
def cfO (P : Nat → Nat → Bool) (W : Nat) : Nat → Nat → Option Nat
  | 0, _ => none
  | j + 1, s => match cfI (P s) W 0 with
    | some w => some w
    | none => cfO P W j (s + 1)
def mfL (ok : Nat → Bool) : Nat → Nat → Option Nat → Option Nat
  | 0, _, b => b
  | j + 1, w, none => mfL ok j (w + 1) (if ok w = true then some w else none)
  | j + 1, w, some b => mfL ok j (w + 1) (if popN 10 w < popN 10 b ∧ ok w = true then some w else some b)
def oI : Option Nat → Int32
  | none => -(nI 3)
  | some b => nI b
theorem cfI_none {P} : ∀ j w, cfI P j w = none → ∀ x, w ≤ x → x < w + j → P x = false
  | 0, w, _, x, h1, h2 => by omega
  | j + 1, w, h, x, h1, h2 => by
    unfold cfI at h
    by_cases hw : P w = true
    · rw [if_pos hw] at h; cases h
    · rw [if_neg hw] at h
      by_cases e : x = w
      · rw [e]; exact Bool.eq_false_iff.mpr hw
      · exact cfI_none j (w + 1) h x (by omega) (by omega)
theorem cfI_some {P} : ∀ j w b, cfI P j w = some b → w ≤ b ∧ b < w + j ∧ P b = true ∧ ∀ x, w ≤ x → x < b → P x = false
  | 0, w, b, h => by cases h
  | j + 1, w, b, h => by
    unfold cfI at h
    by_cases hw : P w = true
    · rw [if_pos hw] at h
      obtain rfl := Option.some.inj h
      exact ⟨Nat.le_refl _, by omega, hw, fun x h1 h2 => by omega⟩
    · rw [if_neg hw] at h
      obtain ⟨a1, a2, a3, a4⟩ := cfI_some j (w + 1) b h
      refine ⟨by omega, by omega, a3, fun x h1 h2 => ?_⟩
      by_cases e : x = w
      · rw [e]; exact Bool.eq_false_iff.mpr hw
      · exact a4 x (by omega) h2
def Lst (ok : Nat → Bool) (W : Nat) : Option Nat → Prop
  | none => ∀ x, x < W → ok x = false
  | some b => b < W ∧ ok b = true ∧ ∀ x, x < W → ok x = true → popN 10 b < popN 10 x ∨ (popN 10 b = popN 10 x ∧ b ≤ x)
theorem Lst_uniq {ok W a b} (ha : Lst ok W a) (hb : Lst ok W b) : a = b := by
  cases a with
  | none => cases b with
    | none => rfl
    | some b => exact absurd hb.2.1 (by rw [ha b hb.1]; decide)
  | some a => cases b with
    | none => exact absurd ha.2.1 (by rw [hb a ha.1]; decide)
    | some b =>
      have h1 := ha.2.2 b hb.1 hb.2.1
      have h2 := hb.2.2 a ha.1 ha.2.1
      congr 1
      omega
theorem mf_Lst {ok W} : ∀ j w b, w + j = W → Lst ok w b → Lst ok W (mfL ok j w b)
  | 0, w, b, hw, h => by
    have : w = W := by omega
    subst this
    cases b <;> exact h
  | j + 1, w, none, hw, h => by
    unfold mfL
    apply mf_Lst j (w + 1) _ (by omega)
    by_cases h1 : ok w = true
    · rw [if_pos h1]
      refine ⟨by omega, h1, fun x hx ho => ?_⟩
      by_cases e : x = w
      · rw [e]; exact Or.inr ⟨rfl, Nat.le_refl _⟩
      · exact absurd ho (by rw [h x (by omega)]; decide)
    · rw [if_neg h1]
      intro x hx
      by_cases e : x = w
      · rw [e]; exact Bool.eq_false_iff.mpr h1
      · exact h x (by omega)
  | j + 1, w, some b, hw, h => by
    unfold mfL
    apply mf_Lst j (w + 1) _ (by omega)
    by_cases h1 : popN 10 w < popN 10 b ∧ ok w = true
    · rw [if_pos h1]
      refine ⟨by omega, h1.2, fun x hx ho => ?_⟩
      by_cases e : x = w
      · rw [e]; exact Or.inr ⟨rfl, Nat.le_refl _⟩
      · have := h.2.2 x (by omega) ho
        omega
    · rw [if_neg h1]
      refine ⟨by have := h.1; omega, h.2.1, fun x hx ho => ?_⟩
      by_cases e : x = w
      · subst e
        have h2 : ¬ popN 10 x < popN 10 b := fun hh => h1 ⟨hh, ho⟩
        have := h.1
        omega
      · exact h.2.2 x (by omega) ho
theorem cf_Lst {ok W n} (hW : ∀ x, x < W → popN 10 x ≤ n) : ∀ j s, s + j = n + 1 → (∀ x, x < W → ok x = true → s ≤ popN 10 x) → Lst ok W (cfO (fun s w => decide (popN 10 w = s) && ok w) W j s)
  | 0, s, hs, h => fun x hx => by
    cases ho : ok x with
    | false => rfl
    | true =>
      have h1 := h x hx ho
      have h2 := hW x hx
      omega
  | j + 1, s, hs, h => by
    unfold cfO
    cases hc : cfI ((fun s w => decide (popN 10 w = s) && ok w) s) W 0 with
    | some b =>
      obtain ⟨_, a2, a3, a4⟩ := cfI_some W 0 b hc
      simp only [Bool.and_eq_true, decide_eq_true_eq] at a3
      refine ⟨by omega, a3.2, fun x hx ho => ?_⟩
      have h1 := h x hx ho
      by_cases e : popN 10 x = s
      · by_cases hb : b ≤ x
        · exact Or.inr ⟨by omega, hb⟩
        · have h2 := a4 x (by omega) (by omega)
          simp only [e, ho, decide_true, Bool.and_true] at h2
          cases h2
      · exact Or.inl (by omega)
    | none =>
      apply cf_Lst hW j (s + 1) (by omega)
      intro x hx ho
      have h1 := h x hx ho
      have h2 := cfI_none W 0 hc x (by omega) (by omega)
      simp only [ho, Bool.and_true, decide_eq_false_iff_not] at h2
      omega
theorem cf_mf {ok n} (hn : n ≤ 8) : cfO (fun s w => decide (popN 10 w = s) && ok w) (2 ^ n) (n + 1) 0 = mfL ok (2 ^ n) 0 none :=
  Lst_uniq (cf_Lst (pop_le n hn) (n + 1) 0 (by omega) (fun _ _ _ => Nat.zero_le _)) (mf_Lst (2 ^ n) 0 none (by omega) (fun x hx => by omega))
theorem cl_hf {A n d z R R4 h q v s} {k11 : Nat → Nat → Int32 → Int32 → Int32 → Int32 → H2 → O2} (hn : n ≤ 8) (hq : q < 1000) (hd : d + q < 100000) (hv8 : v ≤ 8) (hs : s ≤ 9) (hR : Rng A n) : ∀ j w f T tn td tz, w + j = 2 ^ n → j < f → ∃ T' tn' td' tz',
    fF_fewestHung_b23 k11 f 0 0 (nI q) (nI v) (nI (2 ^ n)) (nI s) (nI w) (mk A n d z R T tn td tz R4 h) = match cfI (fun w => decide (popN 10 w = s) && decide (hgS A n d q w ≤ v)) j w with
      | some w' => some ([Sum.inl (Value.int (nI w'))], mk A n d z R T' tn' td' tz' R4 h)
      | none => k11 0 0 (nI q) (nI v) (nI (2 ^ n)) (nI (s + 1)) (mk A n d z R T' tn' td' tz' R4 h)
  | _, _, 0, _, _, _, _, _, hf => by omega
  | 0, w, f + 1, T, tn, td, tz, hw, _ => by
    have hp := pl2 n hn
    have : w = 2 ^ n := by omega
    subst this
    refine ⟨T, tn, td, tz, ?_⟩
    unfold fF_fewestHung_b23 cfI
    rw [if_pos (by rw [mp_le (by omega) (by omega)]; omega), xbi, nI_add]
  | j + 1, w, f + 1, T, tn, td, tz, hw, hf => by
    have hp := pl2 n hn
    have hpop := pop_le n hn w (by omega)
    have hsp := sp_le (A := A) (B := passA n q d (hgL w n 0 A)) n 0 0
    unfold fF_fewestHung_b23 cfI
    rw [if_neg (by rw [mp_le (by omega) (by omega)]; omega), cj_bit, xrI, bc_pop w (by omega)]
    by_cases h1 : popN 10 w = s
    · rw [if_pos (by rw [h1]), k_hg hn (by omega), xrV, k_sp hn hq hd (Rng_hg n 0 A hR), xrI]
      by_cases h2 : hgS A n d q w ≤ v
      · refine ⟨passA n q d (hgL w n 0 A), n, d + q, z, ?_⟩
        unfold hgS at h2
        rw [if_neg (by rw [mp_lt (by omega) (by omega)]; omega), if_pos (by unfold hgS; rw [decide_eq_true h1, decide_eq_true h2]; rfl)]
      · unfold hgS at h2
        rw [if_pos (by rw [mp_lt (by omega) (by omega)]; omega), if_neg (by unfold hgS; rw [decide_eq_false h2, Bool.and_false]; decide), xbi, nI_add]
        exact cl_hf hn hq hd hv8 hs hR j (w + 1) f _ _ _ _ (by omega) (by omega)
    · rw [if_neg (by rw [mp_eq (by omega) (by omega)]; exact h1), if_neg (by rw [decide_eq_false h1, Bool.false_and]; decide), xbi, nI_add]
      exact cl_hf hn hq hd hv8 hs hR j (w + 1) f _ _ _ _ (by omega) (by omega)
theorem cl_ho {A n d z R R4 h q v} (hn : n ≤ 8) (hq : q < 1000) (hd : d + q < 100000) (hv8 : v ≤ 8) (hR : Rng A n) : ∀ j s f T tn td tz, s + j = n + 1 → j < f → ∃ T' tn' td' tz',
    fF_fewestHung_b11 f 0 0 (nI q) (nI v) (nI (2 ^ n)) (nI s) (mk A n d z R T tn td tz R4 h) = some ([Sum.inl (Value.int (oI (cfO (fun s w => decide (popN 10 w = s) && decide (hgS A n d q w ≤ v)) (2 ^ n) j s)))], mk A n d z R T' tn' td' tz' R4 h)
  | _, _, 0, _, _, _, _, _, hf => by omega
  | 0, s, f + 1, T, tn, td, tz, hw, _ => by
    have : s = n + 1 := by omega
    subst this
    refine ⟨T, tn, td, tz, ?_⟩
    unfold fF_fewestHung_b11 cfO
    rw [mk_an, if_pos (by rw [mp_lt (by omega) (by omega)]; omega)]
    rfl
  | j + 1, s, f + 1, T, tn, td, tz, hw, hf => by
    have hp := pl2 n hn
    obtain ⟨T', tn', td', tz', e⟩ := cl_hf (z := z) (R := R) (R4 := R4) (h := h) (v := v) (s := s) (k11 := fF_fewestHung_b11 f) hn hq hd hv8 (by omega) hR (2 ^ n) 0 1000 T tn td tz (by omega) (by omega)
    unfold fF_fewestHung_b11 cfO
    rw [mk_an, if_neg (by rw [mp_lt (by omega) (by omega)]; omega), xbi, e]
    cases hx : cfI (fun w => decide (popN 10 w = s) && decide (hgS A n d q w ≤ v)) (2 ^ n) 0 with
    | some w => exact ⟨T', tn', td', tz', rfl⟩
    | none => exact cl_ho hn hq hd hv8 hR j (s + 1) f _ _ _ _ (by omega) (by omega)
theorem nl_hs {A0 n0 d0 z0 A n d z J T tn td tz h q v b w} {k32 : Nat → Int32 → Int32 → Int32 → Int32 → H2 → O2} (hn : n ≤ 8) (hq : q < 1000) (hd : d + q < 100000) (hv8 : v ≤ 8) (hw : w < 2 ^ n) (hR : Rng A n) (R4) :
    fN_hangFor_b62 k32 0 (nI q) (nI v) b (nI w) (mk A0 n0 d0 z0 (rowOf A n d z J) T tn td tz R4 h) = k32 0 (nI q) (nI v) (if hgS A n d q w ≤ v then nI w else b) (nI (w + 1)) (mk A0 n0 d0 z0 (rowOf A n d z J) T tn td tz (lend (rowOf A n d z J) R4) h) := by
  have hp := pl2 n hn
  have hsp := sp_le (A := A) (B := passA n q d (hgL w n 0 A)) n 0 0
  unfold fN_hangFor_b62 hgS
  rw [kn_lends, xrV, kn_hg hn (by omega), xrV, kn_sp hn hq hd (Rng_hg n 0 A hR), xrI]
  by_cases h2 : spL A (passA n q d (hgL w n 0 A)) n 0 0 ≤ v
  · rw [if_neg (by rw [mp_lt (by omega) (by omega)]; omega), if_pos h2, xbi, xbi, nI_add]
  · rw [if_pos (by rw [mp_lt (by omega) (by omega)]; omega), if_neg h2, xbi, xbi, nI_add]
theorem nl_hf {A0 n0 d0 z0 A n d z J T tn td tz h q v} (hn : n ≤ 8) (hq : q < 1000) (hd : d + q < 100000) (hv8 : v ≤ 8) (hR : Rng A n) : ∀ j w f b R4, w + j = 2 ^ n → j < f → (∀ x, b = some x → x < 2 ^ n) → ∃ R5,
    fN_hangFor_b32 f 0 (nI q) (nI v) (oI b) (nI w) (mk A0 n0 d0 z0 (rowOf A n d z J) T tn td tz R4 h) = some ([Sum.inl (Value.int (oI (mfL (fun w => decide (hgS A n d q w ≤ v)) j w b)))], mk A0 n0 d0 z0 (rowOf A n d z J) T tn td tz R5 h)
  | _, _, 0, _, _, _, hf, _ => by omega
  | 0, w, f + 1, b, R4, hw, _, _ => by
    have hp := pl2 n hn
    have : w = 2 ^ n := by omega
    subst this
    refine ⟨R4, ?_⟩
    unfold fN_hangFor_b32
    rw [mp_inb (by omega) (by omega), xgd, mp_tn (by omega), mk_rR, mr_n, pw2 n hn, if_pos (by rw [mp_le (by omega) (by omega)]; omega)]
    cases b <;> rfl
  | j + 1, w, f + 1, none, R4, hw, hf, _ => by
    have hp := pl2 n hn
    have h3 : oI none < 0 := by decide +kernel
    unfold fN_hangFor_b32 mfL
    rw [mp_inb (by omega) (by omega), xgd, mp_tn (by omega), mk_rR, mr_n, pw2 n hn, if_neg (by rw [mp_le (by omega) (by omega)]; omega), if_pos h3, nl_hs hn hq hd hv8 (by omega) hR]
    rw [show (if hgS A n d q w ≤ v then nI w else oI none) = oI (if decide (hgS A n d q w ≤ v) = true then some w else none) from by
      by_cases h1 : hgS A n d q w ≤ v
      · rw [if_pos h1, if_pos (decide_eq_true h1)]; rfl
      · rw [if_neg h1, if_neg (by rw [decide_eq_false h1]; decide)]]
    refine nl_hf hn hq hd hv8 hR j (w + 1) f _ _ (by omega) (by omega) (fun x hx => ?_)
    split at hx
    · obtain rfl := Option.some.inj hx; omega
    · cases hx
  | j + 1, w, f + 1, some b, R4, hw, hf, hb => by
    have hp := pl2 n hn
    have hb2 := hb b rfl
    have p1 := pop_le n hn w (by omega)
    have p2 := pop_le n hn b hb2
    unfold fN_hangFor_b32 mfL
    rw [mp_inb (by omega) (by omega), xgd, mp_tn (by omega), mk_rR, mr_n, pw2 n hn, if_neg (by rw [mp_le (by omega) (by omega)]; omega), if_neg (show ¬ oI (some b) < 0 from by rw [show oI (some b) = nI b from rfl, mp_lt0 (by omega)]; exact fun hh => hh)]
    rw [mn_ones _ (show w < 256 by omega), xrI, show oI (some b) = nI b from rfl, mn_ones _ (show b < 256 by omega), xrI]
    by_cases h1 : popN 10 w < popN 10 b
    · rw [if_neg (by rw [mp_le (by omega) (by omega)]; omega), nl_hs hn hq hd hv8 (by omega) hR]
      rw [show (if hgS A n d q w ≤ v then nI w else nI b) = oI (if popN 10 w < popN 10 b ∧ decide (hgS A n d q w ≤ v) = true then some w else some b) from by
        by_cases h2 : hgS A n d q w ≤ v
        · rw [if_pos h2, if_pos ⟨h1, decide_eq_true h2⟩]; rfl
        · rw [if_neg h2, if_neg (fun hh => h2 (of_decide_eq_true hh.2))]; rfl]
      refine nl_hf hn hq hd hv8 hR j (w + 1) f _ _ (by omega) (by omega) (fun x hx => ?_)
      split at hx
      · obtain rfl := Option.some.inj hx; omega
      · obtain rfl := Option.some.inj hx; omega
    · rw [if_pos (by rw [mp_le (by omega) (by omega)]; omega), if_neg (fun hh => h1 hh.1), xbi, nI_add]
      exact nl_hf hn hq hd hv8 hR j (w + 1) f (some b) _ (by omega) (by omega) hb
theorem g_hangFor (v1 v2 : Int32) : Good (fV_hangFor 0 v1 v2) (fN_hangFor 0 v1 v2) := by
  intro k h hk hI
  obtain ⟨A, n, d, z, J, T, tn, td, tz, R4, h0, rfl, hn, hd, hR, hO⟩ := hI
  rcases in_case v1 1 30 (by omega) (by omega) with ⟨_, e1, e2⟩ | ⟨q, hq1, hq, rfl, e1, e2⟩
  · exact fin (h1 := (mk A n d z (rowOf A n d z J) T tn td tz R4 h0)) (A := A) (n := n) (d := d) (z := z) (J := J) (T := T) (tn := tn) (td := td) (tz := tz) (R4 := R4) (h' := h0) (Value.int (-(nI 1))) (by simp (disch := first | omega | assumption) only [fV_hangFor, e1, decide_true, decide_false, Bool.not_false, Bool.not_true, Bool.true_or, Bool.or_true, Nat.reduceAdd, xgd, xbi, xbh, xbl, xrI, xrV, xrL, xrR, x00, x10, xb0, xb1, if_true, if_false, mp_inb, mp_tn, mp_nn, mp_mul, nI_add, mr_law, mr_dd, mr_zz, mr_nn, mr_pur, mr_str, mr_ros, mr_clo, mr_wlaw, mr_wday, mr_wz, mr_wpur, mr_wstr, mr_wros, mr_wclo, mk_a0, mk_b0, mk_a1, mk_b1, mk_a2, mk_b2, mk_a3, mk_b3, mk_a4, mk_b4, mk_a5, mk_b5, mk_a6, mk_b6, mk_a7, mk_b7, mk_a8, mk_b8, mk_an, mk_bn, mk_ad, mk_bd, mk_az, mk_bz, mk_rR, mk_rR4, mk_ro, mk_rm, mk_wa0, mk_wb0, mk_wa1, mk_wb1, mk_wa2, mk_wb2, mk_wa3, mk_wb3, mk_wa4, mk_wb4, mk_wa5, mk_wb5, mk_wa6, mk_wb6, mk_wa7, mk_wb7, mk_wa8, mk_wb8, mk_wan, mk_wbn, mk_wad, mk_wbd, mk_waz, mk_wbz, mk_wR, mk_wR4, mk_wo, k0_takes, k0_fights, k0_fades, k0_settle, k0_deepen, k0_dip, k0_vat, k0_day, k0_pass, k0_sum, k0_drawn, k3_takes, k3_fights, k3_fades, k3_settle, k3_deepen, k3_dip, k3_vat, k3_day, k3_pass, k3_sum, k3_drawn, kn_its, kn_sets, kn_deep, kn_takes, kn_fights, kn_fades, kn_dip, kn_day, kn_goes, kn_sum, kn_drawn, mk_cp3]) (by simp (disch := first | omega | assumption) only [fN_hangFor, e2, decide_true, decide_false, Bool.not_false, Bool.not_true, Bool.true_or, Bool.or_true, Nat.reduceAdd, xgd, xbi, xbh, xbl, xrI, xrV, xrL, xrR, x00, x10, xb0, xb1, if_true, if_false, mp_inb, mp_tn, mp_nn, mp_mul, nI_add, mr_law, mr_dd, mr_zz, mr_nn, mr_pur, mr_str, mr_ros, mr_clo, mr_wlaw, mr_wday, mr_wz, mr_wpur, mr_wstr, mr_wros, mr_wclo, mk_a0, mk_b0, mk_a1, mk_b1, mk_a2, mk_b2, mk_a3, mk_b3, mk_a4, mk_b4, mk_a5, mk_b5, mk_a6, mk_b6, mk_a7, mk_b7, mk_a8, mk_b8, mk_an, mk_bn, mk_ad, mk_bd, mk_az, mk_bz, mk_rR, mk_rR4, mk_ro, mk_rm, mk_wa0, mk_wb0, mk_wa1, mk_wb1, mk_wa2, mk_wb2, mk_wa3, mk_wb3, mk_wa4, mk_wb4, mk_wa5, mk_wb5, mk_wa6, mk_wb6, mk_wa7, mk_wb7, mk_wa8, mk_wb8, mk_wan, mk_wbn, mk_wad, mk_wbd, mk_waz, mk_wbz, mk_wR, mk_wR4, mk_wo, k0_takes, k0_fights, k0_fades, k0_settle, k0_deepen, k0_dip, k0_vat, k0_day, k0_pass, k0_sum, k0_drawn, k3_takes, k3_fights, k3_fades, k3_settle, k3_deepen, k3_dip, k3_vat, k3_day, k3_pass, k3_sum, k3_drawn, kn_its, kn_sets, kn_deep, kn_takes, kn_fights, kn_fades, kn_dip, kn_day, kn_goes, kn_sum, kn_drawn, mk_cp3]) hn (by omega) hR (Oth_succ hO) ⟨_, rfl⟩
  · rcases in_case v2 0 8 (by omega) (by omega) with ⟨_, f1, f2⟩ | ⟨v, _, hv, rfl, f1, f2⟩
    · exact fin (h1 := (mk A n d z (rowOf A n d z J) T tn td tz R4 h0)) (A := A) (n := n) (d := d) (z := z) (J := J) (T := T) (tn := tn) (td := td) (tz := tz) (R4 := R4) (h' := h0) (Value.int (-(nI 1))) (by simp (disch := first | omega | assumption) only [fV_hangFor, e1, f1, decide_true, decide_false, Bool.not_false, Bool.not_true, Bool.true_or, Bool.or_true, Nat.reduceAdd, xgd, xbi, xbh, xbl, xrI, xrV, xrL, xrR, x00, x10, xb0, xb1, if_true, if_false, mp_inb, mp_tn, mp_nn, mp_mul, nI_add, mr_law, mr_dd, mr_zz, mr_nn, mr_pur, mr_str, mr_ros, mr_clo, mr_wlaw, mr_wday, mr_wz, mr_wpur, mr_wstr, mr_wros, mr_wclo, mk_a0, mk_b0, mk_a1, mk_b1, mk_a2, mk_b2, mk_a3, mk_b3, mk_a4, mk_b4, mk_a5, mk_b5, mk_a6, mk_b6, mk_a7, mk_b7, mk_a8, mk_b8, mk_an, mk_bn, mk_ad, mk_bd, mk_az, mk_bz, mk_rR, mk_rR4, mk_ro, mk_rm, mk_wa0, mk_wb0, mk_wa1, mk_wb1, mk_wa2, mk_wb2, mk_wa3, mk_wb3, mk_wa4, mk_wb4, mk_wa5, mk_wb5, mk_wa6, mk_wb6, mk_wa7, mk_wb7, mk_wa8, mk_wb8, mk_wan, mk_wbn, mk_wad, mk_wbd, mk_waz, mk_wbz, mk_wR, mk_wR4, mk_wo, k0_takes, k0_fights, k0_fades, k0_settle, k0_deepen, k0_dip, k0_vat, k0_day, k0_pass, k0_sum, k0_drawn, k3_takes, k3_fights, k3_fades, k3_settle, k3_deepen, k3_dip, k3_vat, k3_day, k3_pass, k3_sum, k3_drawn, kn_its, kn_sets, kn_deep, kn_takes, kn_fights, kn_fades, kn_dip, kn_day, kn_goes, kn_sum, kn_drawn, mk_cp3]) (by simp (disch := first | omega | assumption) only [fN_hangFor, e2, f2, decide_true, decide_false, Bool.not_false, Bool.not_true, Bool.true_or, Bool.or_true, Nat.reduceAdd, xgd, xbi, xbh, xbl, xrI, xrV, xrL, xrR, x00, x10, xb0, xb1, if_true, if_false, mp_inb, mp_tn, mp_nn, mp_mul, nI_add, mr_law, mr_dd, mr_zz, mr_nn, mr_pur, mr_str, mr_ros, mr_clo, mr_wlaw, mr_wday, mr_wz, mr_wpur, mr_wstr, mr_wros, mr_wclo, mk_a0, mk_b0, mk_a1, mk_b1, mk_a2, mk_b2, mk_a3, mk_b3, mk_a4, mk_b4, mk_a5, mk_b5, mk_a6, mk_b6, mk_a7, mk_b7, mk_a8, mk_b8, mk_an, mk_bn, mk_ad, mk_bd, mk_az, mk_bz, mk_rR, mk_rR4, mk_ro, mk_rm, mk_wa0, mk_wb0, mk_wa1, mk_wb1, mk_wa2, mk_wb2, mk_wa3, mk_wb3, mk_wa4, mk_wb4, mk_wa5, mk_wb5, mk_wa6, mk_wb6, mk_wa7, mk_wb7, mk_wa8, mk_wb8, mk_wan, mk_wbn, mk_wad, mk_wbd, mk_waz, mk_wbz, mk_wR, mk_wR4, mk_wo, k0_takes, k0_fights, k0_fades, k0_settle, k0_deepen, k0_dip, k0_vat, k0_day, k0_pass, k0_sum, k0_drawn, k3_takes, k3_fights, k3_fades, k3_settle, k3_deepen, k3_dip, k3_vat, k3_day, k3_pass, k3_sum, k3_drawn, kn_its, kn_sets, kn_deep, kn_takes, kn_fights, kn_fades, kn_dip, kn_day, kn_goes, kn_sum, kn_drawn, mk_cp3]) hn (by omega) hR (Oth_succ hO) ⟨_, rfl⟩
    · have hd9 : d + q < 100000 := by omega
      have hp := pl2 n hn
      have hw2 := pw2 n hn
      obtain ⟨T', tn', td', tz', hT⟩ := cl_ho (z := z) (R := rowOf A n d z J) (R4 := R4) (h := h0) (v := v) hn (show q < 1000 by omega) hd9 hv hR (n + 1) 0 1000 T tn td tz (by omega) (by omega)
      obtain ⟨R5, hN⟩ := nl_hf (A0 := A) (n0 := n) (d0 := d) (z0 := z) (z := z) (J := J) (T := T') (tn := tn') (td := td') (tz := tz') (h := h0) (v := v) hn (show q < 1000 by omega) hd9 hv hR (2 ^ n) 0 1000 none R4 (by omega) (by omega) (fun x hx => by cases hx)
      rw [← cf_mf hn, show oI none = -(nI 3) from rfl] at hN
      exact fin (h1 := (mk A n d z (rowOf A n d z J) T' tn' td' tz' R4 h0)) (A := A) (n := n) (d := d) (z := z) (J := J) (T := T') (tn := tn') (td := td') (tz := tz') (R4 := R5) (h' := h0) (Value.int (oI (cfO (fun s w => decide (popN 10 w = s) && decide (hgS A n d q w ≤ v)) (2 ^ n) (n + 1) 0))) (by simp (disch := first | omega | assumption) only [fV_hangFor, fF_fewestHung, e1, f1, hw2, hT, decide_true, decide_false, Bool.not_false, Bool.not_true, Bool.true_or, Bool.or_true, Nat.reduceAdd, xgd, xbi, xbh, xbl, xrI, xrV, xrL, xrR, x00, x10, xb0, xb1, if_true, if_false, mp_inb, mp_tn, mp_nn, mp_mul, nI_add, mr_law, mr_dd, mr_zz, mr_nn, mr_pur, mr_str, mr_ros, mr_clo, mr_wlaw, mr_wday, mr_wz, mr_wpur, mr_wstr, mr_wros, mr_wclo, mk_a0, mk_b0, mk_a1, mk_b1, mk_a2, mk_b2, mk_a3, mk_b3, mk_a4, mk_b4, mk_a5, mk_b5, mk_a6, mk_b6, mk_a7, mk_b7, mk_a8, mk_b8, mk_an, mk_bn, mk_ad, mk_bd, mk_az, mk_bz, mk_rR, mk_rR4, mk_ro, mk_rm, mk_wa0, mk_wb0, mk_wa1, mk_wb1, mk_wa2, mk_wb2, mk_wa3, mk_wb3, mk_wa4, mk_wb4, mk_wa5, mk_wb5, mk_wa6, mk_wb6, mk_wa7, mk_wb7, mk_wa8, mk_wb8, mk_wan, mk_wbn, mk_wad, mk_wbd, mk_waz, mk_wbz, mk_wR, mk_wR4, mk_wo, k0_takes, k0_fights, k0_fades, k0_settle, k0_deepen, k0_dip, k0_vat, k0_day, k0_pass, k0_sum, k0_drawn, k3_takes, k3_fights, k3_fades, k3_settle, k3_deepen, k3_dip, k3_vat, k3_day, k3_pass, k3_sum, k3_drawn, kn_its, kn_sets, kn_deep, kn_takes, kn_fights, kn_fades, kn_dip, kn_day, kn_goes, kn_sum, kn_drawn, mk_cp3]) (by simp (disch := first | omega | assumption) only [fN_hangFor, e2, f2, hN, decide_true, decide_false, Bool.not_false, Bool.not_true, Bool.true_or, Bool.or_true, Nat.reduceAdd, xgd, xbi, xbh, xbl, xrI, xrV, xrL, xrR, x00, x10, xb0, xb1, if_true, if_false, mp_inb, mp_tn, mp_nn, mp_mul, nI_add, mr_law, mr_dd, mr_zz, mr_nn, mr_pur, mr_str, mr_ros, mr_clo, mr_wlaw, mr_wday, mr_wz, mr_wpur, mr_wstr, mr_wros, mr_wclo, mk_a0, mk_b0, mk_a1, mk_b1, mk_a2, mk_b2, mk_a3, mk_b3, mk_a4, mk_b4, mk_a5, mk_b5, mk_a6, mk_b6, mk_a7, mk_b7, mk_a8, mk_b8, mk_an, mk_bn, mk_ad, mk_bd, mk_az, mk_bz, mk_rR, mk_rR4, mk_ro, mk_rm, mk_wa0, mk_wb0, mk_wa1, mk_wb1, mk_wa2, mk_wb2, mk_wa3, mk_wb3, mk_wa4, mk_wb4, mk_wa5, mk_wb5, mk_wa6, mk_wb6, mk_wa7, mk_wb7, mk_wa8, mk_wb8, mk_wan, mk_wbn, mk_wad, mk_wbd, mk_waz, mk_wbz, mk_wR, mk_wR4, mk_wo, k0_takes, k0_fights, k0_fades, k0_settle, k0_deepen, k0_dip, k0_vat, k0_day, k0_pass, k0_sum, k0_drawn, k3_takes, k3_fights, k3_fades, k3_settle, k3_deepen, k3_dip, k3_vat, k3_day, k3_pass, k3_sum, k3_drawn, kn_its, kn_sets, kn_deep, kn_takes, kn_fights, kn_fades, kn_dip, kn_day, kn_goes, kn_sum, kn_drawn, mk_cp3]) hn (by omega) hR (Oth_succ hO) ⟨_, rfl⟩
