-- p29: the text to its end
theorem stopP_ok {m b s U n U' n' s'} (hs : s ≤ m) (h : stopP m b s U n = Sum.inr (U', n', s')) : U' = U ∧ n' = n ∧ s < s' ∧ s' ≤ m := by
  unfold stopP at h
  by_cases e : stt m b s = true
  · rw [if_pos e] at h
    have h2 := Sum.inr.inj h
    have a1 : U = U' := congrArg (fun q => q.1) h2
    have a2 : n = n' := congrArg (fun q => q.2.1) h2
    have a3 : nx m b s = s' := congrArg (fun q => q.2.2) h2
    have hlt : s < m := by
      unfold stt at e
      rw [Bool.and_eq_true] at e
      exact of_decide_eq_true e.1
    have b1 := te_lt (b := b) hlt
    have b2 := nx_le (b := b) hs
    exact ⟨a1.symm, a2.symm, by omega, by omega⟩
  · rw [if_neg e] at h; cases h
def OKP (m s : Nat) (r : TR) : Prop := ∀ U' n' s', r = Sum.inr (U', n', s') → s < s' ∧ s' ≤ m ∧ n' ≤ 8 ∧ Rng U' n'
theorem OK_stop {m b s s0 U n} (hs : s ≤ m) (h0 : s0 ≤ s) (hn : n ≤ 8) (hR : Rng U n) : OKP m s0 (stopP m b s U n) := fun U' n' s' h => by
  obtain ⟨rfl, rfl, h1, h2⟩ := stopP_ok hs h
  exact ⟨by omega, h2, hn, hR⟩
theorem OK_inl {m s f} : OKP m s (Sum.inl f) := fun _ _ _ h => by cases h
theorem OK_vat {m b s U n} (hs : s ≤ m) (hn : n ≤ 8) (hR : Rng U n) : OKP m s (vatP m b s U n) := by
  have l0 := te_le (b := b) hs
  have l1 := nx_le (b := b) hs
  have k1 := te_le (b := b) l1.2
  have l2 := nx_le (b := b) l1.2
  have k2 := te_le (b := b) l2.2
  have l3 := nx_le (b := b) l2.2
  have k3 := te_le (b := b) l3.2
  have l4 := nx_le (b := b) l3.2
  unfold vatP
  split
  · exact OK_inl
  · split
    · split
      · exact OK_inl
      · rename_i p e3
        have := irs_le e3
        exact OK_stop l4.2 (by omega) hn (Rng_mup hR ⟨p, by omega, rfl⟩)
    · exact OK_inl
theorem OK_day {m b s U n} (hs : s ≤ m) (hn : n ≤ 8) (hR : Rng U n) : OKP m s (dayP m b s U n) := by
  have l0 := te_le (b := b) hs
  have l1 := nx_le (b := b) hs
  have k1 := te_le (b := b) l1.2
  have l2 := nx_le (b := b) l1.2
  have k2 := te_le (b := b) l2.2
  have l3 := nx_le (b := b) l2.2
  have k3 := te_le (b := b) l3.2
  have l4 := nx_le (b := b) l3.2
  unfold dayP
  split
  · exact OK_inl
  · split
    · split
      · exact OK_inl
      · rename_i p e3
        have := irs_le e3
        exact OK_stop l4.2 (by omega) hn (Rng_mup hR (Or.inr ⟨p, by omega, rfl⟩))
    · exact OK_inl
theorem OK_strong {m b s U n} (hs : s ≤ m) (hn : n ≤ 8) (hR : Rng U n) : OKP m s (strongP m b s U n) := by
  have l0 := te_le (b := b) hs
  have l1 := nx_le (b := b) hs
  have k1 := te_le (b := b) l1.2
  have l2 := nx_le (b := b) l1.2
  have k2 := te_le (b := b) l2.2
  have l3 := nx_le (b := b) l2.2
  unfold strongP
  split
  · exact OK_inl
  · split
    · exact OK_inl
    · rename_i p e3
      have := irs_le e3
      exact OK_stop l3.2 (by omega) hn (Rng_mup hR ⟨p, by omega, rfl⟩)
theorem OK_law {m b s U n l} (hs : s ≤ m) (hn : n ≤ 8) (hR : Rng U n) : OKP m s (lawP m b s l U n) := by
  have l0 := te_le (b := b) hs
  have l1 := nx_le (b := b) hs
  have k1 := te_le (b := b) l1.2
  have l2 := nx_le (b := b) l1.2
  have h99 : (if l = 3 then 99 else 9) < 100 := by split <;> omega
  unfold lawP
  split
  · exact OK_inl
  · rename_i p e3
    have := irs_le e3
    exact OK_stop l2.2 (by omega) hn (Rng_mup hR ⟨p, by omega, rfl⟩)
theorem OK_hung {m b s s0 U n} (hs : s ≤ m) (h0 : s0 ≤ s) (hn : n < 8) (hR : Rng U (n + 1)) : OKP m s0 (hungP m b s U n) := by
  have l0 := te_le (b := b) hs
  have l1 := nx_le (b := b) hs
  unfold hungP
  split
  · exact OK_stop l1.2 (by omega) (by omega) (Rng_mup hR ⟨1, by omega, rfl⟩)
  · exact OK_stop hs h0 (by omega) hR
theorem OK_cloth {m b s kd U n} (hs : s ≤ m) (hR : Rng U n) (hk : kd ≤ 5) : OKP m s (clothP m b s kd U n) := by
  have l0 := te_le (b := b) hs
  have l1 := nx_le (b := b) hs
  have k1 := te_le (b := b) l1.2
  have l2 := nx_le (b := b) l1.2
  have k2 := te_le (b := b) l2.2
  have l3 := nx_le (b := b) l2.2
  have k3 := te_le (b := b) l3.2
  have l4 := nx_le (b := b) l3.2
  have k4 := te_le (b := b) l4.2
  have l5 := nx_le (b := b) l4.2
  have hN : Rng (newA U n (nI kd)) (n + 1) := Rng_new hR ⟨kd, by omega, rfl⟩
  unfold clothP
  split
  · rename_i h8
    split
    · split
      · exact OK_inl
      · rename_i p e3
        have := irs_le e3
        have hP : Rng (mup (newA U n (nI kd)) 5 n (nI p)) (n + 1) := Rng_mup hN (Or.inr ⟨p, by omega, rfl⟩)
        split
        · split
          · exact OK_inl
          · rename_i q e4
            have := irs_le e4
            exact OK_hung l5.2 (by omega) h8 (Rng_mup hP ⟨q, by omega, rfl⟩)
        · exact OK_hung l3.2 (by omega) h8 (Rng_mup hP ⟨20, by omega, rfl⟩)
    · exact OK_hung l1.2 (by omega) h8 hN
  · exact OK_inl
theorem OK_stmt {m b s U n} (hs : s ≤ m) (hn : n ≤ 8) (hR : Rng U n) : OKP m s (stmtP m b s U n) := by
  unfold stmtP
  split
  · rename_i kd e
    exact OK_cloth hs hR (kindP_le e)
  · split
    · exact OK_vat hs hn hR
    · split
      · exact OK_strong hs hn hR
      · split
        · exact OK_day hs hn hR
        · split
          · exact OK_law hs hn hR
          · exact OK_inl
def runP (m : Nat) (b : Nat → Nat) : Nat → Nat → (Nat → Nat → Int32) → Nat → TR
  | 0, s, _, _ => Sum.inl s
  | f + 1, s, U, n => if m ≤ s then Sum.inr (U, n, s) else match stmtP m b s U n with
    | Sum.inl g => Sum.inl g
    | Sum.inr q => runP m b f q.2.2 q.1 q.2.1
theorem run_ok {m b} : ∀ f s U n, s ≤ m → n ≤ 8 → Rng U n → ∀ U' n' s', runP m b f s U n = Sum.inr (U', n', s') → n' ≤ 8 ∧ Rng U' n'
  | 0, _, _, _, _, _, _, _, _, _, h => by cases h
  | f + 1, s, U, n, hs, hn, hR, U', n', s', h => by
    unfold runP at h
    by_cases h1 : m ≤ s
    · rw [if_pos h1] at h
      have h2 := Sum.inr.inj h
      have a1 : U = U' := congrArg (fun q => q.1) h2
      have a2 : n = n' := congrArg (fun q => q.2.1) h2
      subst a1; subst a2
      exact ⟨hn, hR⟩
    · rw [if_neg h1] at h
      cases e : stmtP m b s U n with
      | inl g => rw [e] at h; cases h
      | inr q =>
        obtain ⟨V, k, r⟩ := q
        rw [e] at h
        obtain ⟨_, c2, c3, c4⟩ := OK_stmt hs hn hR V k r e
        exact run_ok f r V k c2 c3 c4 U' n' s' h
theorem tso0 {m b s} : tso m b s = 0 ↔ m ≤ s := by
  unfold tso
  by_cases h : m ≤ s
  · rw [if_pos h]; exact ⟨fun _ => h, fun _ => rfl⟩
  · rw [if_neg h]
    constructor
    · intro hh
      split at hh
      · omega
      · split at hh <;> omega
    · intro hh; exact absurd hh h
def CM (d : Nat) (z : Int32) (X : H2) (r : TR) (o : O2) : Prop := match r with
  | Sum.inl f => ∃ U n a so nu, o = some ([Sum.inl (Value.int (nI f))], KC U n d z a f so nu X)
  | Sum.inr (U, n, _) => ∃ a st so nu, o = some ([Sum.inl (Value.int (-(nI 1)))], KC U n d z a st so nu X)
theorem c_run {m b d z X} (H : TX m b X) : ∀ f i a s U n st so nu fu, a ≤ m → skp m b a = s → i ≤ s → m < s + f → f < fu → n ≤ 8 → Rng U n → CM d z X (runP m b f s U n) (fT_readInto_b11 fu 0 1 (nI i) (KC U n d z a st so nu X))
  | 0, _, _, s, _, _, _, _, _, _, ha, hs, _, hm, _, _, _ => by
    have := (skp_le (b := b) ha).2
    omega
  | _, _, _, _, _, _, _, _, _, 0, _, _, _, _, hf, _, _ => by omega
  | f + 1, i, a, s, U, n, st, so, nu, fu + 1, ha, hs, hi, hmf, hfu, hn, hR => by
    have hm := H.1
    have hq := (skp_le (b := b) ha).2
    rw [hs] at hq
    have h4 := tso_lt (m := m) (b := b) (s := s)
    unfold fT_readInto_b11 runP
    rw [kc_1 H, if_neg (show ¬ nI m < nI i from by rw [mp_lt (by omega) (by omega)]; omega), c_word H ha, xrV, hs, kc_4]
    by_cases h1 : m ≤ s
    · rw [if_pos h1, if_pos (show nI (tso m b s) = 0 from by rw [mp_eq0 (by omega)]; exact tso0.mpr h1)]
      exact ⟨_, _, _, _, rfl⟩
    · rw [if_neg h1, if_neg (show ¬ nI (tso m b s) = 0 from by rw [mp_eq0 (by omega)]; exact fun hh => h1 (tso0.mp hh))]
      have hc := CR_stmt (U := U) (n := n) (d := d) (z := z) (nu := cnu m b s nu) H hq hn
      cases e : stmtP m b s U n with
      | inl g =>
        rw [e] at hc
        obtain ⟨V, k, a', so', nu', e2⟩ := hc
        rw [e2, xrI, if_pos nI_0, kc_3]
        exact ⟨_, _, _, _, _, rfl⟩
      | inr q =>
        obtain ⟨V, k, r⟩ := q
        rw [e] at hc
        obtain ⟨a', st', so', nu', b1, b2, e2⟩ := hc
        obtain ⟨c1, c2, c3, c4⟩ := OK_stmt hq hn hR V k r e
        rw [e2, xrI, if_neg x1n, xbi, nI_add]
        exact c_run H f (i + 1) a' r V k st' so' nu' fu b1 b2 (by omega) (by omega) (by omega) c3 c4
theorem n_run2 {m b d z J X} (H : TN m b X) (HC : TC X) : ∀ f s U n fu, s ≤ m → m < s + f → f + 1 < fu → n ≤ 8 → Rng U n → match runP m b f s U n with
    | Sum.inl g => ∃ V k, fN_mill_b22 fu 0 (KN U n d z J s (te m b s) (nI 0) X) = fN_mill_b47 0 (KN V k d z J g (te m b g) (nI 1) X)
    | Sum.inr (V, k, r) => fN_mill_b22 fu 0 (KN U n d z J s (te m b s) (nI 0) X) = fN_mill_b47 0 (KN V k d z J r (te m b r) (nI 0) X)
  | 0, _, _, _, _, hs, hm, _, _, _ => by omega
  | _, _, _, _, 0, _, _, hf, _, _ => by omega
  | f + 1, s, U, n, fu + 1, hs, hmf, hfu, hn, hR => by
    have hm := H.1
    unfold fN_mill_b22 runP
    rw [kv_10, if_pos nI_0, kv_7 H, kv_8]
    by_cases h1 : m ≤ s
    · rw [if_pos h1, if_pos (by rw [mp_le (by omega) (by omega)]; exact h1)]
    · rw [if_neg h1, if_neg (by rw [mp_le (by omega) (by omega)]; exact h1)]
      have hc := NR_item (U := U) (n := n) (d := d) (z := z) (J := J) H HC hs hn
      cases e : stmtP m b s U n with
      | inl g =>
        rw [e] at hc
        obtain ⟨V, k, e2⟩ := hc
        refine ⟨V, k, ?_⟩
        rw [e2, xrV]
        obtain ⟨fu', rfl⟩ : ∃ fu', fu = fu' + 1 := ⟨fu - 1, by omega⟩
        unfold fN_mill_b22
        rw [kv_10, if_neg x1n]
      | inr q =>
        obtain ⟨V, k, r⟩ := q
        rw [e] at hc
        have e2 : fN_item 0 (KN U n d z J s (te m b s) (nI 0) X) = some ([], KN V k d z J r (te m b r) (nI 0) X) := hc
        obtain ⟨c1, c2, c3, c4⟩ := OK_stmt hs hn hR V k r e
        have ih := n_run2 (d := d) (z := z) (J := J) H HC f r V k fu c2 (by omega) (by omega) c3 c4
        rw [e2, xrV]
        exact ih
-- the mill as at first
def firstA (B : Nat → Nat → Int32) : Nat → Nat → Int32 := fun t k => if t = 0 then (if k = 0 then nI 3 else if k = 1 then nI 2 else if k = 2 then nI 4 else nI 20) else if t = 1 then nI k else if t = 2 then nI 5 else if t = 3 then nI k else B t k
theorem c_b59 {n d z h} : ∀ j r f B, r + j = 6 → j < f → fM_becomeFirst_b59 f 1 (nI r) (putM 1 B n d z h) = some ([], putM 1 (fun t k => if t = 3 ∧ r ≤ k then nI k else B t k) 0 0 z h)
  | _, _, 0, _, _, hf => by omega
  | 0, r, f + 1, B, hr, _ => by
    have : r = 6 := by omega
    subst this
    unfold fM_becomeFirst_b59
    rw [if_pos (by rw [mp_le (by omega) (by omega)]; omega), xbh, mp_wn, xbh, mp_wd]
    refine congrArg (fun x : H2 => (some (([] : List mv_V), x) : O2)) (putM_congr (fun t k ht hk => ?_))
    show B t k = (if t = 3 ∧ 6 ≤ k then nI k else B t k)
    by_cases h3 : t = 3
    · subst h3
      have : k < 6 := hk
      rw [if_neg (by omega)]
    · rw [if_neg (fun hh => h3 hh.1)]
  | j + 1, r, f + 1, B, hr, hf => by
    unfold fM_becomeFirst_b59
    rw [if_neg (by rw [mp_le (by omega) (by omega)]; omega), mp_inb (by omega) (by omega), xgd, xbh, mp_tn (by omega), mp_w3 (by omega), xbi, nI_add, c_b59 j (r + 1) f _ (by omega) (by omega)]
    refine congrArg (fun x : H2 => (some (([] : List mv_V), x) : O2)) (putM_congr (fun t k ht hk => ?_))
    show (if t = 3 ∧ r + 1 ≤ k then nI k else mup B 3 r (nI r) t k) = (if t = 3 ∧ r ≤ k then nI k else B t k)
    unfold mup
    by_cases h1 : t = 3 ∧ r + 1 ≤ k
    · rw [if_pos h1, if_pos ⟨h1.1, by omega⟩]
    · rw [if_neg h1]
      by_cases h2 : t = 3 ∧ k = r
      · rw [if_pos h2, if_pos ⟨h2.1, by omega⟩, h2.2]
      · rw [if_neg h2, if_neg (by omega)]
theorem c_b31 {n d z h} : ∀ j v f B, v + j = 8 → j < f → fM_becomeFirst_b31 f 1 (nI v) (putM 1 B n d z h) = fM_becomeFirst_b59 1000 1 (nI 0) (putM 1 (fun t k => if t = 1 ∧ v ≤ k then nI k else if t = 2 ∧ v ≤ k then nI 5 else B t k) n d z h)
  | _, _, 0, _, _, hf => by omega
  | 0, v, f + 1, B, hv, _ => by
    have : v = 8 := by omega
    subst this
    unfold fM_becomeFirst_b31
    rw [if_pos (by rw [mp_le (by omega) (by omega)]; omega), xbi]
    refine congrArg (fM_becomeFirst_b59 1000 1 (nI 0)) (putM_congr (fun t k ht hk => ?_))
    show B t k = (if t = 1 ∧ 8 ≤ k then nI k else if t = 2 ∧ 8 ≤ k then nI 5 else B t k)
    by_cases h1 : t = 1
    · subst h1
      have : k < 8 := hk
      rw [if_neg (by omega), if_neg (by omega)]
    · by_cases h2 : t = 2
      · subst h2
        have : k < 8 := hk
        rw [if_neg (by omega), if_neg (by omega)]
      · rw [if_neg (by omega), if_neg (by omega)]
  | j + 1, v, f + 1, B, hv, hf => by
    unfold fM_becomeFirst_b31
    rw [if_neg (by rw [mp_le (by omega) (by omega)]; omega), mp_inb (by omega) (by omega), xgd, xbh, mp_tn (by omega), mp_w1 (by omega), xgd, xbh, mp_w2 (by omega), xbi, nI_add, c_b31 j (v + 1) f _ (by omega) (by omega)]
    refine congrArg (fM_becomeFirst_b59 1000 1 (nI 0)) (putM_congr (fun t k ht hk => ?_))
    show (if t = 1 ∧ v + 1 ≤ k then nI k else if t = 2 ∧ v + 1 ≤ k then nI 5 else mup (mup B 1 v (nI v)) 2 v (nI 5) t k) = (if t = 1 ∧ v ≤ k then nI k else if t = 2 ∧ v ≤ k then nI 5 else B t k)
    unfold mup
    by_cases h1 : t = 1
    · subst h1
      by_cases h2 : v + 1 ≤ k
      · rw [if_pos ⟨rfl, h2⟩, if_pos ⟨rfl, by omega⟩]
      · rw [if_neg (by omega), if_neg (by omega), if_neg (by omega)]
        by_cases h3 : k = v
        · rw [if_pos ⟨rfl, h3⟩, if_pos ⟨rfl, by omega⟩, h3]
        · rw [if_neg (by omega), if_neg (by omega), if_neg (by omega)]
    · rw [if_neg (by omega)]
      by_cases h2 : t = 2
      · subst h2
        by_cases h3 : v + 1 ≤ k
        · rw [if_pos ⟨rfl, h3⟩, if_neg (by omega), if_pos ⟨rfl, by omega⟩]
        · rw [if_neg (by omega)]
          by_cases h4 : k = v
          · rw [if_pos ⟨rfl, h4⟩, if_neg (by omega), if_pos ⟨rfl, by omega⟩]
          · rw [if_neg (by omega), if_neg (by omega), if_neg (by omega), if_neg (by omega)]
      · rw [if_neg (by omega), if_neg (by omega), if_neg (by omega), if_neg (by omega), if_neg (by omega)]
theorem c_first {B n d z h} : fM_becomeFirst 1 (putM 1 B n d z h) = some ([], putM 1 (firstA B) 0 0 z h) := by
  unfold fM_becomeFirst
  simp (disch := omega) only [mp_inb, mp_tn, xgd, xbh, xbi, mp_w0]
  rw [c_b31 8 0 1000 _ (by omega) (by omega), c_b59 6 0 1000 _ (by omega) (by omega)]
  refine congrArg (fun x : H2 => (some (([] : List mv_V), x) : O2)) (putM_congr (fun t k ht hk => ?_))
  unfold firstA mup
  by_cases h0 : t = 0
  · subst h0
    have : k < 4 := hk
    rcases (show k = 0 ∨ k = 1 ∨ k = 2 ∨ k = 3 by omega) with rfl | rfl | rfl | rfl <;> simp
  · by_cases h1 : t = 1
    · subst h1; simp
    · by_cases h2 : t = 2
      · subst h2; simp
      · by_cases h3 : t = 3
        · subst h3; simp
        · simp [h0, h1, h2, h3]
