-- p27: the model's item
def NR (m : Nat) (b : Nat → Nat) (d : Nat) (z : Int32) (J : Nat → Int32) (X : H2) (r : TR) (o : O2) : Prop := match r with
  | Sum.inl f => ∃ U n, o = some ([], KN U n d z J f (te m b f) (nI 1) X)
  | Sum.inr (U, n, s') => o = some ([], KN U n d z J s' (te m b s') (nI 0) X)
theorem te_59 {m b s} (hs : s < m) (h : b s = 59) : te m b s = s + 1 := by
  unfold te
  have l : isLe (b s) = false := by rw [h]; decide
  have dd : isDi (b s) = false := by rw [h]; decide
  rw [if_neg (by omega), l, dd]
  rfl
theorem st35 : stl 35 = 1 ∧ chn 35 0 = 59 := by decide +kernel
theorem wd35 {m b s} (hs : s ≤ m) : wd m b s 35 = stt m b s := by
  unfold wd stt
  rw [st35.1]
  by_cases h1 : s < m
  · rw [decide_eq_true h1, Bool.true_and]
    by_cases h2 : b s = 59
    · rw [te_59 h1 h2, if_pos (by omega), decide_eq_true h2]
      unfold wdL
      rw [if_pos (show b (s + 0) = chn 35 0 from h2.trans st35.2.symm)]
      rfl
    · rw [decide_eq_false h2]
      split
      · unfold wdL
        rw [if_neg (show ¬ b (s + 0) = chn 35 0 from fun hh => h2 (hh.trans st35.2))]
      · rfl
  · have : te m b s = s := by unfold te; rw [if_pos (by omega)]
    rw [this, if_neg (by omega), decide_eq_false h1, Bool.false_and]
def fin35 (h : H2) : O2 := mv_rI (fN_isWord 0 35 h) fun r27 h26 => mv_rV (fN_must 0 r27 h26) fun h28 => some ([], h28)
theorem NR_stop {m b U n d z J s X} (H : TN m b X) (hs : s ≤ m) : NR m b d z J X (stopP m b s U n) (fin35 (KN U n d z J s (te m b s) (nI 0) X)) := by
  unfold fin35 stopP
  rw [n_wd H hs (by omega), xrI, wd35 hs]
  cases h : stt m b s with
  | true =>
    show NR m b d z J X (Sum.inr (U, n, nx m b s)) _
    rw [show bI true = nI 1 from rfl, n_must1 H (te_le hs).2, xrV]
    rfl
  | false =>
    show NR m b d z J X (Sum.inl s) _
    rw [show bI false = nI 0 from rfl, n_must0, xrV]
    exact ⟨_, _, rfl⟩
theorem fin_w {U n d z J s e X} : fin35 (KN U n d z J s e (nI 1) X) = some ([], KN U n d z J s e (nI 1) X) := by
  unfold fin35
  rw [n_wdw, xrI, n_mustw, xrV]
def same (o p : Nat) : Bool := Nat.beq (stl o) (stl p) && ((Nat.beq (chn o 0) (chn p 0) && (Nat.beq (chn o 1) (chn p 1) && (Nat.beq (chn o 2) (chn p 2) && (Nat.beq (chn o 3) (chn p 3) && (Nat.beq (chn o 4) (chn p 4) && (Nat.beq (chn o 5) (chn p 5) && Nat.beq (chn o 6) (chn p 6))))))))
theorem wdL_eq {b o p s} : ∀ j i, (∀ k, k < i + j → chn o k = chn p k) → wdL b o s j i = wdL b p s j i
  | 0, _, _ => rfl
  | j + 1, i, h => by
    unfold wdL
    rw [h i (by omega), wdL_eq j (i + 1) (fun k hk => h k (by omega))]
theorem wd_eq {m b s o p} (h : same o p = true) (h8 : stl o < 8) : wd m b s o = wd m b s p := by
  unfold same at h
  simp only [mp_beq, Bool.and_eq_true, decide_eq_true_eq] at h
  obtain ⟨e, a0, a1, a2, a3, a4, a5, a6⟩ := h
  unfold wd
  rw [← e]
  split
  · apply wdL_eq
    intro k hk
    rcases (show k = 0 ∨ k = 1 ∨ k = 2 ∨ k = 3 ∨ k = 4 ∨ k = 5 ∨ k = 6 by omega) with rfl | rfl | rfl | rfl | rfl | rfl | rfl <;> assumption
  · rfl
theorem wq_17 {m b s} : wd m b s 17 = wd m b s 7 := wd_eq (by decide +kernel) (by decide +kernel)
theorem wq_18 {m b s} : wd m b s 18 = wd m b s 8 := wd_eq (by decide +kernel) (by decide +kernel)
theorem wq_19 {m b s} : wd m b s 19 = wd m b s 9 := wd_eq (by decide +kernel) (by decide +kernel)
theorem wq_20 {m b s} : wd m b s 20 = wd m b s 10 := wd_eq (by decide +kernel) (by decide +kernel)
theorem wq_21 {m b s} : wd m b s 21 = wd m b s 11 := wd_eq (by decide +kernel) (by decide +kernel)
theorem wq_22 {m b s} : wd m b s 22 = wd m b s 12 := wd_eq (by decide +kernel) (by decide +kernel)
theorem wq_23 {m b s} : wd m b s 23 = wd m b s 3 := wd_eq (by decide +kernel) (by decide +kernel)
theorem wq_24 {m b s} : wd m b s 24 = wd m b s 4 := wd_eq (by decide +kernel) (by decide +kernel)
theorem wq_25 {m b s} : wd m b s 25 = wd m b s 5 := wd_eq (by decide +kernel) (by decide +kernel)
theorem wq_26 {m b s} : wd m b s 26 = wd m b s 13 := wd_eq (by decide +kernel) (by decide +kernel)
theorem wq_27 {m b s} : wd m b s 27 = wd m b s 14 := wd_eq (by decide +kernel) (by decide +kernel)
theorem wq_28 {m b s} : wd m b s 28 = wd m b s 15 := wd_eq (by decide +kernel) (by decide +kernel)
theorem wq_29 {m b s} : wd m b s 29 = wd m b s 16 := wd_eq (by decide +kernel) (by decide +kernel)
theorem wq_30 {m b s} : wd m b s 30 = wd m b s 0 := wd_eq (by decide +kernel) (by decide +kernel)
theorem wq_31 {m b s} : wd m b s 31 = wd m b s 6 := wd_eq (by decide +kernel) (by decide +kernel)
theorem wq_32 {m b s} : wd m b s 32 = wd m b s 1 := wd_eq (by decide +kernel) (by decide +kernel)
theorem wq_34 {m b s} : wd m b s 34 = wd m b s 2 := wd_eq (by decide +kernel) (by decide +kernel)
theorem n_takes {m b U n d z J s X o} (H : TN m b X) (hs : s ≤ m) (ho : o < 36) : fN_takes 0 o (KN U n d z J s (te m b s) (nI 0) X) = if wd m b s o = true then some ([Sum.inl (Value.int (nI 1))], KN U n d z J (nx m b s) (te m b (nx m b s)) (nI 0) X) else some ([Sum.inl (Value.int (nI 0))], KN U n d z J s (te m b s) (nI 0) X) := by
  unfold fN_takes
  rw [n_wd H hs ho, xrI, xbi]
  cases wd m b s o with
  | true =>
    rw [if_neg bI_ne, n_must1 H (te_le hs).2, xrV, xbb, xgd]
    rfl
  | false =>
    rw [if_pos bI_eq, xbb, xgd]
    rfl
theorem n_takesw {U n d z J s e X o} : fN_takes 0 o (KN U n d z J s e (nI 1) X) = some ([Sum.inl (Value.int (nI 0))], KN U n d z J s e (nI 1) X) := by
  unfold fN_takes
  rw [n_wdw, xrI, xbi, if_pos nI_0, xb0, xgd]
theorem mn_adds {N D Z J h} {B : Nat → Nat → Int32} {x : Int32} (hN : N < 8) : fN_adds 0 x (putR 902 (rowOf B N D Z J) h) = some ([], putR 902 (rowOf (newA B N x) (N + 1) D Z J) h) := by
  unfold fN_adds
  simp (disch := omega) only [xgd, xbi, xbh, mp_inb, mp_tn, mr_r, mr_nn, mr_w, nI_add, rup_grown, mn_sets, xrV]
  refine congrArg (fun y => some (([] : List mv_V), putR 902 y h)) ?_
  apply rowOf_congr
  intro t k ht
  unfold newA grown mup
  by_cases hk : k = N ∧ 4 ≤ t
  · rcases (show t = 4 ∨ t = 5 ∨ t = 6 ∨ t = 7 ∨ t = 8 by omega) with rfl | rfl | rfl | rfl | rfl <;> simp [hk.1]
  · simp only [show ¬ (t = 8 ∧ k = N) by omega, show ¬ (t = 7 ∧ k = N) by omega, show ¬ (t = 6 ∧ k = N) by omega, show ¬ (t = 5 ∧ k = N) by omega, show ¬ (t = 4 ∧ k = N) by omega, hk, if_false]
theorem n_81 {U n d z J s e X kd pu de hu} (hn : n < 8) : fN_clothTold_b81 0 (nI kd) pu de hu (KN U n d z J s e (nI 0) X) = some ([], KN (mup (mup (mup (newA U n (nI kd)) 5 n pu) 6 n de) 7 n hu) (n + 1) d z J s e (nI 0) X) := by
  unfold fN_clothTold_b81
  rw [xbi, kv_10, if_pos nI_0]
  unfold KN
  rw [mn_adds hn, xrV]
  simp (disch := omega) only [xgd, mp_inb, mp_tn, mr_r, mr_nn, n1_sub, mn_sets, xrV, Nat.reduceAdd]
theorem n_81w {U n d z J s e X v1 pu de hu} : fN_clothTold_b81 0 v1 pu de hu (KN U n d z J s e (nI 1) X) = some ([], KN U n d z J s e (nI 1) X) := by
  unfold fN_clothTold_b81
  rw [xbi, kv_10, if_neg (show ¬ nI 1 = 0 from fun hh => by rw [x10] at hh; exact hh)]
theorem x1n : ¬ nI 1 = 0 := fun hh => by rw [x10] at hh; exact hh
theorem NR_hung {m b U n d z J s X kd pu de V} (H : TN m b X) (hs : s ≤ m) (hn : n < 8) (hV : mup (mup (newA U n (nI kd)) 5 n pu) 6 n de = V) (h7 : V 7 n = nI 0) : NR m b d z J X (hungP m b s V n) (mv_rV (mv_rI (fN_takes 0 25 (KN U n d z J s (te m b s) (nI 0) X)) fun r7 h6 => if r7 = 0 then fN_clothTold_b81 0 (nI kd) pu de (nI 0) h6 else fN_clothTold_b81 0 (nI kd) pu de (nI 1) h6) fin35) := by
  rw [n_takes H hs (by omega), wq_25]
  unfold hungP
  cases wd m b s 5 with
  | true =>
    show NR m b d z J X (stopP m b (nx m b s) (mup V 7 n (nI 1)) (n + 1)) (mv_rV (mv_rI (some ([Sum.inl (Value.int (nI 1))], KN U n d z J (nx m b s) (te m b (nx m b s)) (nI 0) X)) _) fin35)
    rw [xrI, if_neg x1n, n_81 hn, xrV, hV]
    exact NR_stop H (nx_le hs).2
  | false =>
    show NR m b d z J X (stopP m b s V (n + 1)) (mv_rV (mv_rI (some ([Sum.inl (Value.int (nI 0))], KN U n d z J s (te m b s) (nI 0) X)) _) fin35)
    rw [xrI, if_pos nI_0, n_81 hn, xrV, hV, mup_self h7.symm]
    exact NR_stop H hs
theorem hung_w {U n d z J s e X v1 pu de} : (mv_rV (mv_rI (fN_takes 0 25 (KN U n d z J s e (nI 1) X)) fun r7 h6 => if r7 = 0 then fN_clothTold_b81 0 v1 pu de (nI 0) h6 else fN_clothTold_b81 0 v1 pu de (nI 1) h6) fin35) = some ([], KN U n d z J s e (nI 1) X) := by
  rw [n_takesw, xrI, if_pos nI_0, n_81w, xrV, fin_w]
theorem newA_5 {U n x} : newA U n x 5 n = -(nI 1) := by
  unfold newA
  rw [mup_ne_t (by omega), mup_ne_t (by omega), mup_ne_t (by omega), mup_same]
theorem newA_6 {U n x} : newA U n x 6 n = nI 0 := by
  unfold newA
  rw [mup_ne_t (by omega), mup_ne_t (by omega), mup_same]
theorem newA_7 {U n x} : newA U n x 7 n = nI 0 := by
  unfold newA
  rw [mup_ne_t (by omega), mup_same]
theorem rVI {o : O2} {k : Int32 → H2 → O2} {g : H2 → O2} : mv_rV (mv_rI o k) g = mv_rI o fun x h => mv_rV (k x h) g := by
  unfold mv_rI
  split <;> rfl
theorem rVV {o : O2} {k : H2 → O2} {g : H2 → O2} : mv_rV (mv_rV o k) g = mv_rV o fun h => mv_rV (k h) g := by
  unfold mv_rV
  cases o with
  | none => rfl
  | some p =>
    obtain ⟨l, h⟩ := p
    cases l <;> rfl
theorem NR_cloth {m b U n d z J s X kd} (H : TN m b X) (hs : s ≤ m) (hn : n ≤ 8) : NR m b d z J X (clothP m b s kd U n) (mv_rV (fN_clothTold 0 (nI kd) (KN U n d z J s (te m b s) (nI 0) X)) fin35) := by
  have l1 := nx_le (b := b) hs
  have l2 := nx_le (b := b) l1.2
  have l3 := nx_le (b := b) l2.2
  have l4 := nx_le (b := b) l3.2
  have l5 := nx_le (b := b) l4.2
  unfold fN_clothTold clothP
  rw [show rI2 (KN U n d z J s (te m b s) (nI 0) X) 902 0 (nI 6).toNatClampNeg = nI n from by rw [mp_tn (by omega)]; exact mr_r.trans mr_nn, mp_inb (by omega) (by omega), xgd]
  by_cases h8 : n < 8
  · rw [if_pos h8, if_neg (show ¬ nI 8 ≤ nI n from by rw [mp_le (by omega) (by omega)]; omega)]
    unfold fN_clothTold_b18
    rw [n_must1 H (te_le hs).2, xrV, xbi, xbi]
    show NR m b d z J X _ (mv_rV (mv_rI (fN_takes 0 23 (KN U n d z J (nx m b s) (te m b (nx m b s)) (nI 0) X)) _) fin35)
    rw [n_takes H l1.2 (by omega), wq_23]
    cases wd m b (nx m b s) 3 with
    | false =>
      show NR m b d z J X (hungP m b (nx m b s) (newA U n (nI kd)) n) (mv_rV (mv_rI (some ([Sum.inl (Value.int (nI 0))], KN U n d z J (nx m b s) (te m b (nx m b s)) (nI 0) X)) _) fin35)
      rw [xrI, if_pos nI_0]
      exact NR_hung H l1.2 h8 (by rw [mup_self newA_5.symm, mup_self newA_6.symm]) newA_7
    | true =>
      show NR m b d z J X (match irs m b (nx m b (nx m b s)) 0 9 with
        | none => Sum.inl (nx m b (nx m b s))
        | some p => if wd m b (nx m b (nx m b (nx m b s))) 4 = true then (match irs m b (nx m b (nx m b (nx m b (nx m b s)))) 1 99 with
          | none => Sum.inl (nx m b (nx m b (nx m b (nx m b s))))
          | some q => hungP m b (nx m b (nx m b (nx m b (nx m b (nx m b s))))) (mup (mup (newA U n (nI kd)) 5 n (nI p)) 6 n (nI q)) n)
          else hungP m b (nx m b (nx m b (nx m b s))) (mup (mup (newA U n (nI kd)) 5 n (nI p)) 6 n (nI 20)) n) (mv_rV (mv_rI (some ([Sum.inl (Value.int (nI 1))], KN U n d z J (nx m b (nx m b s)) (te m b (nx m b (nx m b s))) (nI 0) X)) _) fin35)
      rw [xrI, if_neg x1n, n_num H l2.2 (by omega) (by omega)]
      cases irs m b (nx m b (nx m b s)) 0 9 with
      | none =>
        show NR m b d z J X (Sum.inl (nx m b (nx m b s))) (mv_rV (mv_rI (some ([Sum.inl (Value.int (fgv m b (nx m b (nx m b s))))], KN U n d z J (nx m b (nx m b s)) (te m b (nx m b (nx m b s))) (nI 1) X)) _) fin35)
        rw [xrI, xbi, n_takesw, xrI, if_pos nI_0, xbi, hung_w]
        exact ⟨_, _, rfl⟩
      | some p =>
        show NR m b d z J X (if wd m b (nx m b (nx m b (nx m b s))) 4 = true then (match irs m b (nx m b (nx m b (nx m b (nx m b s)))) 1 99 with
          | none => Sum.inl (nx m b (nx m b (nx m b (nx m b s))))
          | some q => hungP m b (nx m b (nx m b (nx m b (nx m b (nx m b s))))) (mup (mup (newA U n (nI kd)) 5 n (nI p)) 6 n (nI q)) n)
          else hungP m b (nx m b (nx m b (nx m b s))) (mup (mup (newA U n (nI kd)) 5 n (nI p)) 6 n (nI 20)) n) (mv_rV (mv_rI (some ([Sum.inl (Value.int (nI p))], KN U n d z J (nx m b (nx m b (nx m b s))) (te m b (nx m b (nx m b (nx m b s)))) (nI 0) X)) _) fin35)
        rw [xrI, xbi, n_takes H l3.2 (by omega), wq_24]
        cases wd m b (nx m b (nx m b (nx m b s))) 4 with
        | false =>
          show NR m b d z J X (hungP m b (nx m b (nx m b (nx m b s))) (mup (mup (newA U n (nI kd)) 5 n (nI p)) 6 n (nI 20)) n) (mv_rV (mv_rI (some ([Sum.inl (Value.int (nI 0))], KN U n d z J (nx m b (nx m b (nx m b s))) (te m b (nx m b (nx m b (nx m b s)))) (nI 0) X)) _) fin35)
          rw [xrI, if_pos nI_0, xbi]
          exact NR_hung H l3.2 h8 rfl (by rw [mup_ne_t (by omega), mup_ne_t (by omega)]; exact newA_7)
        | true =>
          show NR m b d z J X (match irs m b (nx m b (nx m b (nx m b (nx m b s)))) 1 99 with
            | none => Sum.inl (nx m b (nx m b (nx m b (nx m b s))))
            | some q => hungP m b (nx m b (nx m b (nx m b (nx m b (nx m b s))))) (mup (mup (newA U n (nI kd)) 5 n (nI p)) 6 n (nI q)) n) (mv_rV (mv_rI (some ([Sum.inl (Value.int (nI 1))], KN U n d z J (nx m b (nx m b (nx m b (nx m b s)))) (te m b (nx m b (nx m b (nx m b (nx m b s))))) (nI 0) X)) _) fin35)
          rw [xrI, if_neg x1n, n_num H l4.2 (by omega) (by omega)]
          cases irs m b (nx m b (nx m b (nx m b (nx m b s)))) 1 99 with
          | none =>
            show NR m b d z J X (Sum.inl (nx m b (nx m b (nx m b (nx m b s))))) (mv_rV (mv_rI (some ([Sum.inl (Value.int (fgv m b (nx m b (nx m b (nx m b (nx m b s))))))], KN U n d z J (nx m b (nx m b (nx m b (nx m b s)))) (te m b (nx m b (nx m b (nx m b (nx m b s))))) (nI 1) X)) _) fin35)
            rw [xrI, xbi, hung_w]
            exact ⟨_, _, rfl⟩
          | some q =>
            show NR m b d z J X (hungP m b (nx m b (nx m b (nx m b (nx m b (nx m b s))))) (mup (mup (newA U n (nI kd)) 5 n (nI p)) 6 n (nI q)) n) (mv_rV (mv_rI (some ([Sum.inl (Value.int (nI q))], KN U n d z J (nx m b (nx m b (nx m b (nx m b (nx m b s))))) (te m b (nx m b (nx m b (nx m b (nx m b (nx m b s)))))) (nI 0) X)) _) fin35)
            rw [xrI, xbi]
            exact NR_hung H l5.2 h8 rfl (by rw [mup_ne_t (by omega), mup_ne_t (by omega)]; exact newA_7)
  · rw [if_neg h8, if_pos (show nI 8 ≤ nI n from by rw [mp_le (by omega) (by omega)]; omega)]
    unfold fN_clothTold_b18
    rw [n_must0, xrV, xbi, xbi, n_takesw, xrI, if_pos nI_0, hung_w]
    exact ⟨_, _, rfl⟩
