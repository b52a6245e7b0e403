-- p26: the class's statement
theorem cm_add {A n d z h o} {v : Int32} (hn : n < 8) : fM_addCloth o v (putM o A n d z h) = some ([Sum.inl (Value.int (nI n))], putM o (newA A n v) (n + 1) d z h) := by
  unfold fM_addCloth newA
  simp (disch := omega) only [decide_true, Bool.true_or, Bool.or_true, xgd, xbi, xbh, xbl, xrI, xrV, xrL, xrR, mp_inb, mp_tn, mp_eq, mp_eq0, xnz, mp_le, mp_lt, mp_le0, mp_lt0, mp_0le, mp_0lt, mp_nn, mp_mul, nI_add, mp_mod, mp_iteI, mp_r0, mp_r1, mp_r2, mp_r3, mp_r4, mp_r5, mp_r6, mp_r7, mp_r8, mp_rn, mp_rd, mp_rz, mp_w0, mp_w1, mp_w2, mp_w3, mp_w4, mp_w5, mp_w6, mp_w7, mp_w8, mp_wn, mp_wd, mp_wz, mr_r, mr_w, mr_law, mr_day, mr_z, mr_n, mr_pur, mr_str, mr_ros, mr_clo, mr_wlaw, mr_wday, mr_wz, mr_wpur, mr_wstr, mr_wros, mr_wclo, mup_same, mup_ne_t]
theorem CR_hung {m b U n d z s nu X} (H : TX m b X) (hs : s ≤ m) (hn : n < 8) : CR m b d z X (hungP m b s U n) (fT_readCloth_b99 0 1 (nI n) (KC U (n + 1) d z (te m b s) s (tso m b s) nu X)) := by
  unfold fT_readCloth_b99 hungP
  rw [c_wd H hs (show 5 < 17 by omega), xrI]
  cases h : wd m b s 5 with
  | true =>
    rw [if_neg bI_ne, mp_inb (by omega) (by omega), xgd, xbh, mp_tn (by omega), show (307 : Nat) = 300 + 7 from rfl, kc_m (by omega) (show n < 8 from hn), c_word H (te_le hs).2, xrV]
    exact CR_gd (CR_stop (s := nx m b s) H (nx_le hs).2)
  | false =>
    rw [if_pos bI_eq]
    exact CR_gd (CR_stop H hs)
theorem CR_cloth {m b U n d z s so nu X kd} (H : TX m b X) (hs : s ≤ m) (hn : n ≤ 8) : CR m b d z X (clothP m b s kd U n) (fT_readCloth 0 1 (nI kd) (KC U n d z (te m b s) s so nu X)) := by
  have l1 := nx_le (b := b) hs
  have l2 := nx_le (b := b) l1.2
  have l3 := nx_le (b := b) l2.2
  have l4 := nx_le (b := b) l3.2
  have l5 := nx_le (b := b) l4.2
  unfold fT_readCloth clothP
  rw [show rI2 (KC U n d z (te m b s) s so nu X) 2 1 9 = nI n from mp_rn]
  by_cases h8 : n < 8
  · rw [if_pos h8, if_pos (show nI n < nI 8 from by rw [mp_lt (by omega) (by omega)]; exact h8), show fM_addCloth 1 (nI kd) (KC U n d z (te m b s) s so nu X) = some ([Sum.inl (Value.int (nI n))], KC (newA U n (nI kd)) (n + 1) d z (te m b s) s so nu X) from cm_add h8, xrI, xbi, c_word H (te_le hs).2, xrV]
    show CR m b d z X _ (mv_rI (fT_isName 0 3 (KC (newA U n (nI kd)) (n + 1) d z (te m b (nx m b s)) (nx m b s) (tso m b (nx m b s)) (cnu m b (nx m b s) nu) X)) _)
    rw [c_wd H l1.2 (show 3 < 17 by omega), xrI]
    cases h3 : wd m b (nx m b s) 3 with
    | false =>
      rw [if_pos bI_eq]
      exact CR_hung H l1.2 h8
    | true =>
      rw [if_neg bI_ne]
      obtain ⟨e1, v1⟩ := c_num (U := newA U n (nI kd)) (n := n + 1) (d := d) (z := z) (st := nx m b s) (so := tso m b (nx m b s)) (nu := cnu m b (nx m b s) nu) (lo := 0) (hi := 9) H (te_le (b := b) l1.2).2 (show _ = nx m b (nx m b s) from rfl) (by omega) (by omega)
      rw [e1, xrI]
      show CR m b d z X (match irs m b (nx m b (nx m b s)) 0 9 with
        | none => Sum.inl (nx m b (nx m b s))
        | some p => if wd m b (nx m b (nx m b (nx m b s))) 4 = true then (match irs m b (nx m b (nx m b (nx m b (nx m b s)))) 1 99 with
          | none => Sum.inl (nx m b (nx m b (nx m b (nx m b s))))
          | some q => hungP m b (nx m b (nx m b (nx m b (nx m b (nx m b s))))) (mup (mup (newA U n (nI kd)) 5 n (nI p)) 6 n (nI q)) n)
          else hungP m b (nx m b (nx m b (nx m b s))) (mup (mup (newA U n (nI kd)) 5 n (nI p)) 6 n (nI 20)) n) _
      cases h4 : irs m b (nx m b (nx m b s)) 0 9 with
      | none =>
        rw [if_pos (show bI (none : Option Nat).isSome = 0 from bI_eq), xb0, xgd]
        exact ⟨_, _, _, _, _, rfl⟩
      | some p =>
        obtain ⟨q1, _, _⟩ := v1 p h4
        rw [if_neg (show ¬ bI (some p).isSome = 0 from bI_ne), mp_inb (by omega) (by omega), xgd, xbh, mp_tn (by omega), kc_5, q1, show (305 : Nat) = 300 + 5 from rfl, kc_m (by omega) (show n < 8 from h8), xgd, xbh, show (306 : Nat) = 300 + 6 from rfl, kc_m (by omega) (show n < 8 from h8), c_word H (te_le l2.2).2, xrV]
        show CR m b d z X _ (mv_rI (fT_isName 0 4 (KC (mup (mup (newA U n (nI kd)) 5 n (nI p)) 6 n (nI 20)) (n + 1) d z (te m b (nx m b (nx m b (nx m b s)))) (nx m b (nx m b (nx m b s))) (tso m b (nx m b (nx m b (nx m b s)))) (cnu m b (nx m b (nx m b (nx m b s))) (nI p)) X)) _)
        rw [c_wd H l3.2 (show 4 < 17 by omega), xrI]
        show CR m b d z X (if wd m b (nx m b (nx m b (nx m b s))) 4 = true then _ else _) _
        cases h5 : wd m b (nx m b (nx m b (nx m b s))) 4 with
        | false =>
          rw [if_pos bI_eq]
          exact CR_hung H l3.2 h8
        | true =>
          rw [if_neg bI_ne]
          obtain ⟨e6, v6⟩ := c_num (U := mup (mup (newA U n (nI kd)) 5 n (nI p)) 6 n (nI 20)) (n := n + 1) (d := d) (z := z) (st := nx m b (nx m b (nx m b s))) (so := tso m b (nx m b (nx m b (nx m b s)))) (nu := cnu m b (nx m b (nx m b (nx m b s))) (nI p)) (lo := 1) (hi := 99) H (te_le (b := b) l3.2).2 (show _ = nx m b (nx m b (nx m b (nx m b s))) from rfl) (by omega) (by omega)
          rw [e6, xrI]
          show CR m b d z X (match irs m b (nx m b (nx m b (nx m b (nx m b s)))) 1 99 with
            | none => Sum.inl (nx m b (nx m b (nx m b (nx m b s))))
            | some q => hungP m b (nx m b (nx m b (nx m b (nx m b (nx m b s))))) (mup (mup (newA U n (nI kd)) 5 n (nI p)) 6 n (nI q)) n) _
          cases h7 : irs m b (nx m b (nx m b (nx m b (nx m b s)))) 1 99 with
          | none =>
            rw [if_pos (show bI (none : Option Nat).isSome = 0 from bI_eq), xb0, xgd]
            exact ⟨_, _, _, _, _, rfl⟩
          | some q =>
            obtain ⟨q2, _, _⟩ := v6 q h7
            rw [if_neg (show ¬ bI (some q).isSome = 0 from bI_ne), xgd, xbh, kc_5, q2, kc_m (by omega) (show n < 8 from h8), mup_mup, c_word H (te_le l4.2).2, xrV]
            exact CR_hung (s := nx m b (nx m b (nx m b (nx m b (nx m b s))))) H l5.2 h8
  · rw [if_neg h8, if_neg (show ¬ nI n < nI 8 from by rw [mp_lt (by omega) (by omega)]; exact h8), xb0, xgd]
    exact ⟨_, _, _, _, _, rfl⟩
def oN : Option Nat → Int32
  | none => -(nI 1)
  | some k => nI k
theorem c_kind {m b U n d z s nu X} (H : TX m b X) (hs : s ≤ m) : fT_kindNamed 0 (KC U n d z (te m b s) s (tso m b s) nu X) = some ([Sum.inl (Value.int (oN (kindP m b s)))], KC U n d z (te m b s) s (tso m b s) nu X) := by
  unfold fT_kindNamed kindP
  rw [c_wd H hs (show 7 < 17 by omega), xrI]
  cases wd m b s 7 with
  | true => rw [if_neg bI_ne]; rfl
  | false =>
    rw [if_pos bI_eq]
    rw [c_wd H hs (show 8 < 17 by omega), xrI]
    cases wd m b s 8 with
    | true => rw [if_neg bI_ne]; rfl
    | false =>
      rw [if_pos bI_eq]
      rw [c_wd H hs (show 9 < 17 by omega), xrI]
      cases wd m b s 9 with
      | true => rw [if_neg bI_ne]; rfl
      | false =>
        rw [if_pos bI_eq]
        rw [c_wd H hs (show 10 < 17 by omega), xrI]
        cases wd m b s 10 with
        | true => rw [if_neg bI_ne]; rfl
        | false =>
          rw [if_pos bI_eq]
          rw [c_wd H hs (show 11 < 17 by omega), xrI]
          cases wd m b s 11 with
          | true => rw [if_neg bI_ne]; rfl
          | false =>
            rw [if_pos bI_eq]
            rw [c_wd H hs (show 12 < 17 by omega), xrI]
            cases wd m b s 12 with
            | true => rw [if_neg bI_ne]; rfl
            | false =>
              rw [if_pos bI_eq]
              rfl
theorem c_lawn {m b U n d z s nu X} (H : TX m b X) (hs : s ≤ m) : fT_lawNamed 0 (KC U n d z (te m b s) s (tso m b s) nu X) = some ([Sum.inl (Value.int (oN (lawK m b s)))], KC U n d z (te m b s) s (tso m b s) nu X) := by
  unfold fT_lawNamed lawK
  rw [c_wd H hs (show 13 < 17 by omega), xrI]
  cases wd m b s 13 with
  | true => rw [if_neg bI_ne]; rfl
  | false =>
    rw [if_pos bI_eq]
    rw [c_wd H hs (show 14 < 17 by omega), xrI]
    cases wd m b s 14 with
    | true => rw [if_neg bI_ne]; rfl
    | false =>
      rw [if_pos bI_eq]
      rw [c_wd H hs (show 15 < 17 by omega), xrI]
      cases wd m b s 15 with
      | true => rw [if_neg bI_ne]; rfl
      | false =>
        rw [if_pos bI_eq]
        rw [c_wd H hs (show 16 < 17 by omega), xrI]
        cases wd m b s 16 with
        | true => rw [if_neg bI_ne]; rfl
        | false =>
          rw [if_pos bI_eq]
          rfl
theorem kindP_le {m b s k} (h : kindP m b s = some k) : k ≤ 5 := by
  unfold kindP at h
  (repeat' split at h) <;> first | (obtain rfl := Option.some.inj h; omega) | cases h
theorem lawK_le {m b s k} (h : lawK m b s = some k) : k < 4 := by
  unfold lawK at h
  (repeat' split at h) <;> first | (obtain rfl := Option.some.inj h; omega) | cases h
theorem CR_if {m b d z X r o} (h : CR m b d z X r o) : CR m b d z X r (mv_rI o fun r14 h13 => if r14 = 0 then (mv_gd (decide (nI 0 = nI 0) || decide (nI 0 = nI 1)) <| some ([Sum.inl (Value.int (nI 0))], h13)) else mv_gd (decide (nI 1 = nI 0) || decide (nI 1 = nI 1)) <| some ([Sum.inl (Value.int (nI 1))], h13)) := by
  cases r with
  | inl f =>
    obtain ⟨U, n, a, so, nu, e⟩ := h
    exact ⟨U, n, a, so, nu, by rw [e, xrI, if_pos nI_0, xb0, xgd]⟩
  | inr p =>
    obtain ⟨U, n, s'⟩ := p
    obtain ⟨a, st, so, nu, h1, h2, e⟩ := h
    exact ⟨a, st, so, nu, h1, h2, by rw [e, xrI, if_neg (show ¬ nI 1 = 0 from fun hh => by rw [x10] at hh; exact hh), xb1, xgd]⟩
theorem CR_stmt {m b U n d z s nu X} (H : TX m b X) (hs : s ≤ m) (hn : n ≤ 8) : CR m b d z X (stmtP m b s U n) (fT_readStatement 0 1 (KC U n d z (te m b s) s (tso m b s) nu X)) := by
  unfold fT_readStatement stmtP
  rw [c_kind H hs, xrI, xbi]
  cases h1 : kindP m b s with
  | some kd =>
    have := kindP_le h1
    rw [if_neg (show ¬ oN (some kd) < 0 from nI_pos (by omega))]
    exact CR_gd (CR_cloth H hs hn)
  | none =>
    rw [if_pos (show oN none < 0 from mp_neg1), c_wd H hs (show 0 < 17 by omega), xrI]
    show CR m b d z X (if wd m b s 0 = true then _ else _) _
    cases wd m b s 0 with
    | true =>
      rw [if_neg bI_ne]
      exact CR_gd (CR_vat H hs)
    | false =>
      rw [if_pos bI_eq, c_wd H hs (show 1 < 17 by omega), xrI]
      show CR m b d z X (if wd m b s 1 = true then _ else _) _
      cases wd m b s 1 with
      | true =>
        rw [if_neg bI_ne]
        exact CR_gd (CR_strong H hs)
      | false =>
        rw [if_pos bI_eq, c_wd H hs (show 2 < 17 by omega), xrI]
        show CR m b d z X (if wd m b s 2 = true then _ else _) _
        cases wd m b s 2 with
        | true =>
          rw [if_neg bI_ne]
          exact CR_gd (CR_day H hs)
        | false =>
          rw [if_pos bI_eq, c_lawn H hs, xrI, xbi]
          show CR m b d z X (match lawK m b s with
            | some l => lawP m b s l U n
            | none => Sum.inl s) _
          cases h2 : lawK m b s with
          | some l =>
            have := lawK_le h2
            rw [if_neg (show ¬ oN (some l) < 0 from nI_pos (by omega))]
            exact CR_if (CR_law H hs this)
          | none =>
            rw [if_pos (show oN none < 0 from mp_neg1), xb0, xgd]
            exact ⟨_, _, _, _, _, rfl⟩
