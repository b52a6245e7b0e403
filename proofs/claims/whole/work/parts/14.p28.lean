-- p28: items and statements to the end
theorem irs_le {m b s lo hi v} (h : irs m b s lo hi = some v) : v ≤ hi := by
  unfold irs at h
  split at h
  · rename_i hh
    obtain rfl := Option.some.inj h
    exact hh.2.2.2
  · cases h
theorem n_b29 {m b U n d z J s X at' hi v} {V : Int32 → Nat → Nat → Int32} (H : TN m b X) (hs : s ≤ m) (hh : hi < 1000) (ha : at' + v < 69) (hw : ∀ p, rup (rowOf U n d z J) (at' + v) p = rowOf (V p) n d z J) : fN_twoTold_b29 0 (nI at') (nI hi) (nI v) (KN U n d z J s (te m b s) (nI 0) X) = match irs m b s 0 hi with
    | none => some ([], KN U n d z J s (te m b s) (nI 1) X)
    | some p => some ([], KN (V (nI p)) n d z J (nx m b s) (te m b (nx m b s)) (nI 0) X) := by
  unfold fN_twoTold_b29
  rw [n_num H hs (by omega) hh]
  cases irs m b s 0 hi with
  | none =>
    show mv_rI (some ([Sum.inl (Value.int (fgv m b s))], KN U n d z J s (te m b s) (nI 1) X)) _ = _
    rw [xrI, xbi, kv_10, if_neg x1n]
  | some p =>
    show mv_rI (some ([Sum.inl (Value.int (nI p))], KN U n d z J (nx m b s) (te m b (nx m b s)) (nI 0) X)) _ = _
    rw [xrI, xbi, kv_10, if_pos nI_0, nI_add, mp_inb ha (by omega), xgd, xbh, mp_tn (by omega)]
    unfold KN
    rw [mr_w, hw]
theorem n_b29w {m b U n d z J s X a hi} {v : Int32} (H : TN m b X) (hs : s ≤ m) (hh : hi < 1000) : fN_twoTold_b29 0 a (nI hi) v (KN U n d z J s (te m b s) (nI 1) X) = some ([], KN U n d z J s (te m b s) (nI 1) X) := by
  unfold fN_twoTold_b29
  rw [n_numw H hs (by omega) hh, xrI, xbi, kv_10, if_neg x1n]
theorem stl_of : stl 31 = 2 ∧ stl 30 = 3 ∧ stl 33 = 0 := by decide +kernel
theorem NR_vat {m b U n d z J s X} (H : TN m b X) (hs : s ≤ m) : NR m b d z J X (vatP m b s U n) (mv_rV (fN_twoTold 0 (nI 7) (nI 7) 31 (nI 9) (KN U n d z J s (te m b s) (nI 0) X)) fin35) := by
  have l1 := nx_le (b := b) hs
  have l2 := nx_le (b := b) l1.2
  have l3 := nx_le (b := b) l2.2
  have l4 := nx_le (b := b) l3.2
  have hk : ¬ nI (stl 31) ≤ 0 := by decide +kernel
  unfold fN_twoTold vatP
  rw [n_must1 H (te_le hs).2, xrV]
  show NR m b d z J X _ (mv_rV (mv_rI (fN_number 0 (nI 0) (nI 7) (KN U n d z J (nx m b s) (te m b (nx m b s)) (nI 0) X)) _) fin35)
  rw [n_num H l1.2 (by omega) (by omega)]
  cases h1 : irs m b (nx m b s) 0 7 with
  | none =>
    show NR m b d z J X (Sum.inl (nx m b s)) (mv_rV (mv_rI (some ([Sum.inl (Value.int (fgv m b (nx m b s)))], KN U n d z J (nx m b s) (te m b (nx m b s)) (nI 1) X)) _) fin35)
    rw [xrI, xbi, k_len (by omega), xrI, if_neg hk, n_wdw, xrI, n_mustw, xrV, n_b29w H l1.2 (by omega), xrV, fin_w]
    exact ⟨_, _, rfl⟩
  | some v =>
    have hv := irs_le h1
    show NR m b d z J X (if wd m b (nx m b (nx m b s)) 6 = true then (match irs m b (nx m b (nx m b (nx m b s))) 0 9 with
      | none => Sum.inl (nx m b (nx m b (nx m b s)))
      | some p => stopP m b (nx m b (nx m b (nx m b (nx m b s)))) (mup U 1 v (nI p)) n) else Sum.inl (nx m b (nx m b s))) (mv_rV (mv_rI (some ([Sum.inl (Value.int (nI v))], KN U n d z J (nx m b (nx m b s)) (te m b (nx m b (nx m b s))) (nI 0) X)) _) fin35)
    rw [xrI, xbi, k_len (by omega), xrI, if_neg hk, n_wd H l2.2 (by omega), xrI, wq_31]
    cases wd m b (nx m b (nx m b s)) 6 with
    | false =>
      rw [bI_f, n_must0, xrV, n_b29w H l2.2 (by omega), xrV, fin_w]
      exact ⟨_, _, rfl⟩
    | true =>
      rw [bI_t, n_must1 H (te_le l2.2).2, xrV]
      show NR m b d z J X (match irs m b (nx m b (nx m b (nx m b s))) 0 9 with
        | none => Sum.inl (nx m b (nx m b (nx m b s)))
        | some p => stopP m b (nx m b (nx m b (nx m b (nx m b s)))) (mup U 1 v (nI p)) n) (mv_rV (fN_twoTold_b29 0 (nI 7) (nI 9) (nI v) (KN U n d z J (nx m b (nx m b (nx m b s))) (te m b (nx m b (nx m b (nx m b s)))) (nI 0) X)) fin35)
      rw [n_b29 (V := fun p => mup U 1 v p) H l3.2 (by omega) (by omega) (fun p => mr_wpur (by omega))]
      cases irs m b (nx m b (nx m b (nx m b s))) 0 9 with
      | none =>
        show NR m b d z J X (Sum.inl (nx m b (nx m b (nx m b s)))) (mv_rV (some ([], KN U n d z J (nx m b (nx m b (nx m b s))) (te m b (nx m b (nx m b (nx m b s)))) (nI 1) X)) fin35)
        rw [xrV, fin_w]
        exact ⟨_, _, rfl⟩
      | some p =>
        show NR m b d z J X (stopP m b (nx m b (nx m b (nx m b (nx m b s)))) (mup U 1 v (nI p)) n) (mv_rV (some ([], KN (mup U 1 v (nI p)) n d z J (nx m b (nx m b (nx m b (nx m b s)))) (te m b (nx m b (nx m b (nx m b (nx m b s))))) (nI 0) X)) fin35)
        rw [xrV]
        exact NR_stop H l4.2
theorem NR_day {m b U n d z J s X} (H : TN m b X) (hs : s ≤ m) : NR m b d z J X (dayP m b s U n) (mv_rV (fN_twoTold 0 (nI 23) (nI 5) 30 (nI 7) (KN U n d z J s (te m b s) (nI 0) X)) fin35) := by
  have l1 := nx_le (b := b) hs
  have l2 := nx_le (b := b) l1.2
  have l3 := nx_le (b := b) l2.2
  have l4 := nx_le (b := b) l3.2
  have hk : ¬ nI (stl 30) ≤ 0 := by decide +kernel
  unfold fN_twoTold dayP
  rw [n_must1 H (te_le hs).2, xrV]
  show NR m b d z J X _ (mv_rV (mv_rI (fN_number 0 (nI 0) (nI 5) (KN U n d z J (nx m b s) (te m b (nx m b s)) (nI 0) X)) _) fin35)
  rw [n_num H l1.2 (by omega) (by omega)]
  cases h1 : irs m b (nx m b s) 0 5 with
  | none =>
    show NR m b d z J X (Sum.inl (nx m b s)) (mv_rV (mv_rI (some ([Sum.inl (Value.int (fgv m b (nx m b s)))], KN U n d z J (nx m b s) (te m b (nx m b s)) (nI 1) X)) _) fin35)
    rw [xrI, xbi, k_len (by omega), xrI, if_neg hk, n_wdw, xrI, n_mustw, xrV, n_b29w H l1.2 (by omega), xrV, fin_w]
    exact ⟨_, _, rfl⟩
  | some v =>
    have hv := irs_le h1
    show NR m b d z J X (if wd m b (nx m b (nx m b s)) 0 = true then (match irs m b (nx m b (nx m b (nx m b s))) 0 7 with
      | none => Sum.inl (nx m b (nx m b (nx m b s)))
      | some p => stopP m b (nx m b (nx m b (nx m b (nx m b s)))) (mup U 3 v (nI p)) n) else Sum.inl (nx m b (nx m b s))) (mv_rV (mv_rI (some ([Sum.inl (Value.int (nI v))], KN U n d z J (nx m b (nx m b s)) (te m b (nx m b (nx m b s))) (nI 0) X)) _) fin35)
    rw [xrI, xbi, k_len (by omega), xrI, if_neg hk, n_wd H l2.2 (by omega), xrI, wq_30]
    cases wd m b (nx m b (nx m b s)) 0 with
    | false =>
      rw [bI_f, n_must0, xrV, n_b29w H l2.2 (by omega), xrV, fin_w]
      exact ⟨_, _, rfl⟩
    | true =>
      rw [bI_t, n_must1 H (te_le l2.2).2, xrV]
      show NR m b d z J X (match irs m b (nx m b (nx m b (nx m b s))) 0 7 with
        | none => Sum.inl (nx m b (nx m b (nx m b s)))
        | some p => stopP m b (nx m b (nx m b (nx m b (nx m b s)))) (mup U 3 v (nI p)) n) (mv_rV (fN_twoTold_b29 0 (nI 23) (nI 7) (nI v) (KN U n d z J (nx m b (nx m b (nx m b s))) (te m b (nx m b (nx m b (nx m b s)))) (nI 0) X)) fin35)
      rw [n_b29 (V := fun p => mup U 3 v p) H l3.2 (by omega) (by omega) (fun p => mr_wros (by omega))]
      cases irs m b (nx m b (nx m b (nx m b s))) 0 7 with
      | none =>
        show NR m b d z J X (Sum.inl (nx m b (nx m b (nx m b s)))) (mv_rV (some ([], KN U n d z J (nx m b (nx m b (nx m b s))) (te m b (nx m b (nx m b (nx m b s)))) (nI 1) X)) fin35)
        rw [xrV, fin_w]
        exact ⟨_, _, rfl⟩
      | some p =>
        show NR m b d z J X (stopP m b (nx m b (nx m b (nx m b (nx m b s)))) (mup U 3 v (nI p)) n) (mv_rV (some ([], KN (mup U 3 v (nI p)) n d z J (nx m b (nx m b (nx m b (nx m b s)))) (te m b (nx m b (nx m b (nx m b (nx m b s))))) (nI 0) X)) fin35)
        rw [xrV]
        exact NR_stop H l4.2
theorem NR_strong {m b U n d z J s X} (H : TN m b X) (hs : s ≤ m) : NR m b d z J X (strongP m b s U n) (mv_rV (fN_twoTold 0 (nI 15) (nI 7) 33 (nI 9) (KN U n d z J s (te m b s) (nI 0) X)) fin35) := by
  have l1 := nx_le (b := b) hs
  have l2 := nx_le (b := b) l1.2
  have l3 := nx_le (b := b) l2.2
  have hk : nI (stl 33) ≤ 0 := by decide +kernel
  unfold fN_twoTold strongP
  rw [n_must1 H (te_le hs).2, xrV]
  show NR m b d z J X _ (mv_rV (mv_rI (fN_number 0 (nI 0) (nI 7) (KN U n d z J (nx m b s) (te m b (nx m b s)) (nI 0) X)) _) fin35)
  rw [n_num H l1.2 (by omega) (by omega)]
  cases h1 : irs m b (nx m b s) 0 7 with
  | none =>
    show NR m b d z J X (Sum.inl (nx m b s)) (mv_rV (mv_rI (some ([Sum.inl (Value.int (fgv m b (nx m b s)))], KN U n d z J (nx m b s) (te m b (nx m b s)) (nI 1) X)) _) fin35)
    rw [xrI, xbi, k_len (by omega), xrI, if_pos hk, n_b29w H l1.2 (by omega), xrV, fin_w]
    exact ⟨_, _, rfl⟩
  | some v =>
    have hv := irs_le h1
    show NR m b d z J X (match irs m b (nx m b (nx m b s)) 0 9 with
      | none => Sum.inl (nx m b (nx m b s))
      | some p => stopP m b (nx m b (nx m b (nx m b s))) (mup U 2 v (nI p)) n) (mv_rV (mv_rI (some ([Sum.inl (Value.int (nI v))], KN U n d z J (nx m b (nx m b s)) (te m b (nx m b (nx m b s))) (nI 0) X)) _) fin35)
    rw [xrI, xbi, k_len (by omega), xrI, if_pos hk, n_b29 (V := fun p => mup U 2 v p) H l2.2 (by omega) (by omega) (fun p => mr_wstr (by omega))]
    cases irs m b (nx m b (nx m b s)) 0 9 with
    | none =>
      show NR m b d z J X (Sum.inl (nx m b (nx m b s))) (mv_rV (some ([], KN U n d z J (nx m b (nx m b s)) (te m b (nx m b (nx m b s))) (nI 1) X)) fin35)
      rw [xrV, fin_w]
      exact ⟨_, _, rfl⟩
    | some p =>
      show NR m b d z J X (stopP m b (nx m b (nx m b (nx m b s))) (mup U 2 v (nI p)) n) (mv_rV (some ([], KN (mup U 2 v (nI p)) n d z J (nx m b (nx m b (nx m b s))) (te m b (nx m b (nx m b (nx m b s)))) (nI 0) X)) fin35)
      rw [xrV]
      exact NR_stop H l3.2
def TC (X : H2) : Prop := ∀ l, l < 4 → X.1 900 0 l = nI (if l = 3 then 99 else 9)
theorem kv_9c {U n d z J f t w X l} (HC : TC X) (hl : l < 4) : rI2 (KN U n d z J f t w X) 900 0 l = nI (if l = 3 then 99 else 9) := by
  unfold KN
  rw [mr_rt (by omega)]
  exact HC l hl
theorem n_lawT {m b U n d z J s X l} (H : TN m b X) (HC : TC X) (hs : s ≤ m) (hl : l < 4) : fN_lawTold 0 (nI l) (KN U n d z J s (te m b s) (nI 0) X) = match irs m b s 0 (if l = 3 then 99 else 9) with
    | none => some ([], KN U n d z J s (te m b s) (nI 1) X)
    | some p => some ([], KN (mup U 0 l (nI p)) n d z J (nx m b s) (te m b (nx m b s)) (nI 0) X) := by
  have h99 : (if l = 3 then 99 else 9) < 1000 := by split <;> omega
  unfold fN_lawTold
  rw [mp_inb hl (by omega), xgd, mp_tn (by omega), kv_9c HC hl, n_num H hs (by omega) h99]
  cases irs m b s 0 (if l = 3 then 99 else 9) with
  | none =>
    show mv_rI (some ([Sum.inl (Value.int (fgv m b s))], KN U n d z J s (te m b s) (nI 1) X)) _ = _
    rw [xrI, xbi, kv_10, if_neg x1n]
  | some p =>
    show mv_rI (some ([Sum.inl (Value.int (nI p))], KN U n d z J (nx m b s) (te m b (nx m b s)) (nI 0) X)) _ = _
    rw [xrI, xbi, kv_10, if_pos nI_0, mp_inb (show l < 69 by omega) (by omega), xgd, xbh]
    unfold KN
    rw [mr_w, mr_wlaw hl]
theorem n_lawTw {m b U n d z J s X l} (H : TN m b X) (HC : TC X) (hs : s ≤ m) (hl : l < 4) : fN_lawTold 0 (nI l) (KN U n d z J s (te m b s) (nI 1) X) = some ([], KN U n d z J s (te m b s) (nI 1) X) := by
  have h99 : (if l = 3 then 99 else 9) < 1000 := by split <;> omega
  unfold fN_lawTold
  rw [mp_inb hl (by omega), xgd, mp_tn (by omega), kv_9c HC hl, n_numw H hs (by omega) h99, xrI, xbi, kv_10, if_neg x1n]
theorem mx_l (l : Nat) (hl : l < 4) : (if nI 0 < nI l then nI l else nI 0) = nI l := by
  by_cases h : l = 0
  · subst h; split <;> rfl
  · rw [if_pos (by rw [mp_lt (by omega) (by omega)]; omega)]
theorem mx_m : (if nI 0 < -(nI 1) then -(nI 1) else nI 0) = nI 0 := if_neg (by decide +kernel)
theorem NR_law {m b U n d z J s X l} (H : TN m b X) (HC : TC X) (hs : s ≤ m) (hl : l < 4) : NR m b d z J X (lawP m b s l U n) (fN_item_b109 0 (nI l) 0 (nI 1) (KN U n d z J s (te m b s) (nI 0) X)) := by
  have l1 := nx_le (b := b) hs
  have l2 := nx_le (b := b) l1.2
  unfold fN_item_b109 lawP
  rw [n_must1 H (te_le hs).2, xrV, mx_l l hl]
  show NR m b d z J X _ (mv_rV (fN_lawTold 0 (nI l) (KN U n d z J (nx m b s) (te m b (nx m b s)) (nI 0) X)) fin35)
  rw [n_lawT H HC l1.2 hl]
  cases irs m b (nx m b s) 0 (if l = 3 then 99 else 9) with
  | none =>
    show NR m b d z J X (Sum.inl (nx m b s)) (mv_rV (some ([], KN U n d z J (nx m b s) (te m b (nx m b s)) (nI 1) X)) fin35)
    rw [xrV, fin_w]
    exact ⟨_, _, rfl⟩
  | some p =>
    show NR m b d z J X (stopP m b (nx m b (nx m b s)) (mup U 0 l (nI p)) n) (mv_rV (some ([], KN (mup U 0 l (nI p)) n d z J (nx m b (nx m b s)) (te m b (nx m b (nx m b s))) (nI 0) X)) fin35)
    rw [xrV]
    exact NR_stop H l2.2
theorem NR_nolaw {m b U n d z J s X} (H : TN m b X) (HC : TC X) (hs : s ≤ m) : NR m b d z J X (Sum.inl s) (fN_item_b109 0 (-(nI 1)) 0 (nI 0) (KN U n d z J s (te m b s) (nI 0) X)) := by
  unfold fN_item_b109
  rw [n_must0, xrV, mx_m, n_lawTw H HC hs (by omega), xrV]
  show NR m b d z J X (Sum.inl s) (fin35 (KN U n d z J s (te m b s) (nI 1) X))
  rw [fin_w]
  exact ⟨_, _, rfl⟩
theorem n_k43 {k : Nat} {h : H2} (hk : k < 1000) : fN_kindHere_b43 0 (nI k) h = some ([Sum.inl (Value.int (nI k))], h) := by
  unfold fN_kindHere_b43
  rw [xbi, if_neg (show ¬ nI k < 0 from nI_pos (by omega))]
theorem n_kind {m b U n d z J s X} (H : TN m b X) (hs : s ≤ m) : fN_kindHere 0 (KN U n d z J s (te m b s) (nI 0) X) = some ([Sum.inl (Value.int (oN (kindP m b s)))], KN U n d z J s (te m b s) (nI 0) X) := by
  unfold fN_kindHere kindP
  rw [n_wd H hs (by omega), xrI, wq_17]
  cases wd m b s 7 with
  | true => rw [if_neg bI_ne, n_k43 (by omega)]; rfl
  | false =>
    rw [if_pos bI_eq, n_wd H hs (by omega), xrI, wq_18]
    cases wd m b s 8 with
    | true => rw [if_neg bI_ne, n_k43 (by omega)]; rfl
    | false =>
      rw [if_pos bI_eq, n_wd H hs (by omega), xrI, wq_19]
      cases wd m b s 9 with
      | true => rw [if_neg bI_ne, n_k43 (by omega)]; rfl
      | false =>
        rw [if_pos bI_eq]
        unfold fN_kindHere_b43
        rw [xbi, if_pos (show -(nI 1) < 0 from mp_neg1), n_wd H hs (by omega), xrI, wq_20]
        cases wd m b s 10 with
        | true => rw [if_neg bI_ne]; rfl
        | false =>
          rw [if_pos bI_eq, n_wd H hs (by omega), xrI, wq_21]
          cases wd m b s 11 with
          | true => rw [if_neg bI_ne]; rfl
          | false =>
            rw [if_pos bI_eq, n_wd H hs (by omega), xrI, wq_22]
            cases wd m b s 12 with
            | true => rw [if_neg bI_ne]; rfl
            | false => rw [if_pos bI_eq]; rfl
theorem n_lawh {m b U n d z J s X} (H : TN m b X) (hs : s ≤ m) : fN_lawHere 0 (KN U n d z J s (te m b s) (nI 0) X) = some ([Sum.inl (Value.int (oN (lawK m b s)))], KN U n d z J s (te m b s) (nI 0) X) := by
  unfold fN_lawHere lawK
  rw [n_wd H hs (by omega), xrI, wq_26]
  cases wd m b s 13 with
  | true => rw [if_neg bI_ne]; rfl
  | false =>
    rw [if_pos bI_eq, n_wd H hs (by omega), xrI, wq_27]
    cases wd m b s 14 with
    | true => rw [if_neg bI_ne]; rfl
    | false =>
      rw [if_pos bI_eq, n_wd H hs (by omega), xrI, wq_28]
      cases wd m b s 15 with
      | true => rw [if_neg bI_ne]; rfl
      | false =>
        rw [if_pos bI_eq, n_wd H hs (by omega), xrI, wq_29]
        cases wd m b s 16 with
        | true => rw [if_neg bI_ne]; rfl
        | false => rw [if_pos bI_eq]; rfl
theorem NR_item {m b U n d z J s X} (H : TN m b X) (HC : TC X) (hs : s ≤ m) (hn : n ≤ 8) : NR m b d z J X (stmtP m b s U n) (fN_item 0 (KN U n d z J s (te m b s) (nI 0) X)) := by
  unfold fN_item stmtP
  rw [n_kind H hs, xrI, xbi, n_lawh H hs, xrI, xbi]
  cases h1 : kindP m b s with
  | some kd =>
    have := kindP_le h1
    rw [if_neg (show ¬ oN (some kd) < 0 from nI_pos (by omega))]
    exact NR_cloth H hs hn
  | none =>
    rw [if_pos (show oN none < 0 from mp_neg1), n_wd H hs (by omega), xrI, wq_30]
    show NR m b d z J X (if wd m b s 0 = true then _ else _) _
    cases wd m b s 0 with
    | true =>
      rw [if_neg bI_ne]
      exact NR_vat H hs
    | false =>
      rw [if_pos bI_eq, n_wd H hs (by omega), xrI, wq_32]
      show NR m b d z J X (if wd m b s 1 = true then _ else _) _
      cases wd m b s 1 with
      | true =>
        rw [if_neg bI_ne]
        exact NR_strong H hs
      | false =>
        rw [if_pos bI_eq, n_wd H hs (by omega), xrI, wq_34]
        show NR m b d z J X (if wd m b s 2 = true then _ else _) _
        cases wd m b s 2 with
        | true =>
          rw [if_neg bI_ne]
          exact NR_day H hs
        | false =>
          rw [if_pos bI_eq]
          show NR m b d z J X (match lawK m b s with
            | some l => lawP m b s l U n
            | none => Sum.inl s) _
          cases h2 : lawK m b s with
          | some l =>
            have := lawK_le h2
            rw [if_neg (show ¬ oN (some l) < 0 from nI_pos (by omega))]
            exact NR_law H HC hs this
          | none =>
            rw [if_pos (show oN none < 0 from mp_neg1)]
            exact NR_nolaw H HC hs
