-- ===== one instruction, a stretch of code, a method =====
theorem mv_nar0 : narrow .boolean (.int (nI 0)) = .int (nI 0) := by decide +kernel
theorem mv_nar1 : narrow .boolean (.int (nI 1)) = .int (nI 1) := by decide +kernel
theorem mv_narN : ∀ n, n < 128 → narrow .byte (.int (nI n)) = .int (nI n) ∧ narrow .char (.int (nI n)) = .int (nI n) := by decide +kernel
theorem mv_nar127 {x : Int32} (h1 : 0 ≤ x) (h2 : x ≤ 127) : narrow .byte (.int x) = .int x ∧ narrow .char (.int x) = .int x := by
  have e1 : (0 : Int) ≤ x.toInt := Int32.le_iff_toInt_le.mp h1
  have e2 : x.toInt ≤ 127 := Int32.le_iff_toInt_le.mp h2
  have e3 : x = nI x.toInt.toNat := Int32.toInt_inj.mp (by rw [nI_toInt (by omega)]; omega)
  rw [e3]
  exact mv_narN _ (by omega)
def mv_tgts (pc : Nat) : List Int → List Nat → Bool
  | [], [] => true
  | o :: os, t :: ts => decide ((pc : Int) + o = (t : Int)) && mv_tgts pc os ts
  | _, _ => false
def mv_prs (pc : Nat) : List (Int × Int) → List Nat → Bool
  | [], [] => true
  | q :: ps, k :: t :: l => decide (q.1 = (k : Int)) && (decide (k < 2 ^ 31) && (decide ((pc : Int) + q.2 = (t : Int)) && mv_prs pc ps l))
  | _, _ => false
def mv_chk (md : mv_MD) (Ms : List (mv_MD × Bool)) (pc : Nat) (i : Instr) (len : Nat) (lk : List Nat) : Bool := match i with
  | .getfield _ | .putfield _ | .iaload | .iastore | .aaload | .aastore | .arraylength | .baload | .getstatic _ => mv_chkH md.1.cls md.1.name i len lk
  | .invokestatic _ | .invokevirtual _ | .invokespecial _ | .new _ | .newarray _ | .anewarray _ => mv_chkC md.1.cls Ms i len lk
  | .goto off => (match lk with
    | t :: _ => decide (len = 3) && decide ((pc : Int) + off = (t : Int))
    | _ => false)
  | .ifCond _ off => (match lk with
    | t :: _ => decide (len = 3) && decide ((pc : Int) + off = (t : Int))
    | _ => false)
  | .if_icmp _ off => (match lk with
    | t :: _ => decide (len = 3) && decide ((pc : Int) + off = (t : Int))
    | _ => false)
  | .ifnull off => (match lk with
    | t :: _ => decide (len = 3) && decide ((pc : Int) + off = (t : Int))
    | _ => false)
  | .ifnonnull off => (match lk with
    | t :: _ => decide (len = 3) && decide ((pc : Int) + off = (t : Int))
    | _ => false)
  | .tableswitch d lo hi offs => (match lk with
    | lo' :: d' :: l => decide (lo = (lo' : Int)) && (decide (hi + 1 = (lo' + l.length : Nat)) && (decide (lo' + l.length < 2 ^ 31) && (decide ((pc : Int) + d = (d' : Int)) && mv_tgts pc offs.toList l)))
    | _ => false)
  | .lookupswitch d ps => (match lk with
    | d' :: l => decide ((pc : Int) + d = (d' : Int)) && ((ps.toList.zip (ps.toList.drop 1)).all (fun (a, next) => a.1 < next.1) && mv_prs pc ps.toList l)
    | _ => false)
  | .ireturn => (match lk with
    | 1 :: _ => decide (len = 1) && decide (md.2.2.2 = some .boolean)
    | 2 :: _ => decide (len = 1) && (decide (md.2.2.2 = some .byte) || decide (md.2.2.2 = some .char))
    | _ => decide (len = 1) && decide (md.2.2.2 = some .int))
  | .lreturn => decide (len = 1) && decide (md.2.2.2 = some .long)
  | .areturn => decide (len = 1) && (match md.2.2.2 with
    | some (.object _) => true
    | _ => false)
  | .return_ => decide (len = 1) && decide (md.2.2.2 = none)
  | i => mv_chkL md.2.2.1 md.1.cls i len lk
theorem mv_tgts_get {pc : Nat} : ∀ {os : List Int} {ts : List Nat}, mv_tgts pc os ts = true → ∀ (k : Nat) (t : Nat), ts[k]? = some t → ∃ o, os[k]? = some o ∧ (pc : Int) + o = (t : Int)
  | [], [], _, k, t, h => by simp at h
  | [], _ :: _, h, _, _, _ => by cases h
  | _ :: _, [], h, _, _, _ => by cases h
  | o :: os, t :: ts, h, k, t', hk => by
    simp only [mv_tgts, Bool.and_eq_true, decide_eq_true_eq] at h
    cases k with
    | zero =>
      rw [List.getElem?_cons_zero] at hk
      cases hk
      exact ⟨o, rfl, h.1⟩
    | succ k =>
      rw [List.getElem?_cons_succ] at hk
      obtain ⟨o', h1, h2⟩ := mv_tgts_get h.2 k t' hk
      exact ⟨o', by rw [List.getElem?_cons_succ]; exact h1, h2⟩
theorem mv_ts_some {α : Type} {x : Int32} {d : α} {f : Nat → α} : ∀ {l : List Nat} {lo : Nat} {r : α}, mv_ts x lo d f l = r → (∃ (k t : Nat), l[k]? = some t ∧ x = nI (lo + k) ∧ f t = r) ∨ ((∀ k, k < l.length → ¬ x = nI (lo + k)) ∧ d = r)
  | [], lo, r, h => Or.inr ⟨fun k hk => by simp at hk, h⟩
  | t :: l, lo, r, h => by
    unfold mv_ts at h
    split at h
    · next e => exact Or.inl ⟨0, t, rfl, e, h⟩
    · next e =>
      rcases mv_ts_some h with ⟨k, t', h1, h2, h3⟩ | ⟨h1, h2⟩
      · exact Or.inl ⟨k + 1, t', by rw [List.getElem?_cons_succ]; exact h1, by rw [h2]; congr 1; omega, h3⟩
      · refine Or.inr ⟨fun k hk => ?_, h2⟩
        cases k with
        | zero => exact e
        | succ k =>
          have := h1 k (by simpa using hk)
          rw [show lo + (k + 1) = lo + 1 + k by omega]
          exact this
theorem mv_of_toInt {x : Int32} {n : Nat} (hn : n < 2 ^ 31) (h : x.toInt = (n : Int)) : x = nI n := Int32.toInt_inj.mp (h.trans (nI_toInt hn).symm)
theorem mv_ls_some {α : Type} {pc : Nat} {x : Int32} {d : α} {f : Nat → α} : ∀ {ps : List (Int × Int)} {l : List Nat} {r : α} {dd : Int}, mv_prs pc ps l = true → mv_ls x d f l = r → (∃ (o : Int) (t : Nat), Op.lookupswitch.offset ps dd x.toInt = o ∧ (pc : Int) + o = (t : Int) ∧ f t = r) ∨ (Op.lookupswitch.offset ps dd x.toInt = dd ∧ d = r)
  | [], [], r, dd, _, h => Or.inr ⟨rfl, h⟩
  | [], _ :: _, _, _, h, _ => by cases h
  | _ :: _, [], _, _, h, _ => by cases h
  | _ :: _, [_], _, _, h, _ => by cases h
  | (a, o) :: ps, k :: t :: l, r, dd, h, hh => by
    simp only [mv_prs, Bool.and_eq_true, decide_eq_true_eq] at h
    obtain ⟨h1, h2, h3, h4⟩ := h
    unfold mv_ls at hh
    rw [Op.lookupswitch.offset_cons]
    split at hh
    · next e =>
      subst e
      exact Or.inl ⟨o, t, by rw [if_pos (h1.trans (nI_toInt h2).symm)], h3, hh⟩
    · next e =>
      have hne : ¬ a = x.toInt := fun z => e (mv_of_toInt h2 (z.symm.trans h1))
      rw [if_neg hne]
      exact mv_ls_some h4 hh
section
variable {Hp : Type} {rI : Hp → Nat → Nat → Nat → Int32} {rR : Hp → Nat → Nat → Nat → (Option (Nat × Nat) → Option (List mv_V × Hp)) → Option (List mv_V × Hp)} {ln : Hp → Nat → Nat → Nat} {wI : Hp → Nat → Nat → Nat → Int32 → Hp} {wR : Hp → Nat → Nat → Nat → Option (Nat × Nat) → (Hp → Option (List mv_V × Hp)) → Option (List mv_V × Hp)} {nw : Hp → Nat → Nat → (Nat → Hp → Option (List mv_V × Hp)) → Option (List mv_V × Hp)} {cp : Hp → Nat → Nat → Nat → Nat → Nat → Hp} {vw : Hp → mv_G}
variable {p : Program} {l : Launch} {e : Env} {R : Room} {s : State} {m : MethodId} {args : Array Value} {below : List Frame} {meth : Method} {c : Code} {φ0 : Nat → Nat → Nat} {md : mv_MD} {n MC MS : Nat} {sc : Option (Nat × (Nat → Int32))} {D : va_G} {cI cQ : ClassId} {q0 : Nat} {g0 : mv_G} {res : List mv_V × Hp} {Qf : State → Prop}
theorem mv_chk_lop {Ms : List (mv_MD × Bool)} {i : Instr} {pc len : Nat} {lk : List Nat} {lv : mv_L} {st : List mv_V} {k : mv_L → List mv_V → Option (List mv_V × Hp)} (h : mv_lop i lk lv st k = some res) (hc : mv_chk md Ms pc i len lk = true) : mv_chkL md.2.2.1 md.1.cls i len lk = true := by
  unfold mv_lop at h
  split at h <;> first | exact hc | (unfold mv_op at h; split at h <;> first | exact hc | cases h)
theorem mv_fv1 {α : Type} {P : α → Prop} {a : α} {l : List α} (h : ∀ v ∈ a :: l, P v) : ∀ v ∈ l, P v := (List.forall_mem_cons.mp h).2
set_option maxHeartbeats 8000000 in
theorem mv_step_sound (hA : mv_Ax rI rR ln wI wR nw cp vw) (hB : mv_B md n MC MS sc p R s m args meth c D cI cQ q0 φ0) (hRet : mv_Ret vw md MC MS g0 res p l e R s m args below meth c D cI cQ q0 φ0 Qf) {G : List (mv_C Hp)} {Ms : List (mv_MD × Bool)} (hG : ∀ j C md', mv_nth j G = some C → mv_nth j Ms = some md' → ∃ n', n' + 1 ≤ n ∧ mv_Cal vw n' md' C) (hn1 : 1 ≤ n)
    {i : Instr} {pc len : Nat} {lk : List Nat} (hd : decode md.2.1 pc = .ok (i, len)) (hc : mv_chk md Ms pc i len lk = true)
    {nx : mv_L → List mv_V → Hp → Nat → Nat → Option (List mv_V × Hp)} {jp : Nat → mv_L → List mv_V → Hp → Nat → Nat → Option (List mv_V × Hp)}
    (hnx : ∀ lv st h ce sl, nx lv st h ce sl = some res → mv_Y vw md MC MS g0 p l e R s m args below meth c D cI cQ q0 φ0 Qf (pc + len) lv st h ce sl)
    (hjp : ∀ t lv st h ce sl, jp t lv st h ce sl = some res → mv_Y vw md MC MS g0 p l e R s m args below meth c D cI cQ q0 φ0 Qf t lv st h ce sl)
    {lv : mv_L} {st : List mv_V} {h : Hp} {ce sl : Nat} (hh : mv_step rI rR ln wI wR nw cp bod sc G MC MS nx jp i lk lv st h ce sl = some res) : mv_Y vw md MC MS g0 p l e R s m args below meth c D cI cQ q0 φ0 Qf pc lv st h ce sl := by
  intro hce hsl hv hvl φ H locs ls hge hW hS hl
  have hB' := hB
  obtain ⟨hx, hb, hml, hown, hnm, hts, hK, hq0, hR, hE, hScr⟩ := hB'
  have hφ := hge.2.1
  have hH : mv_chkH md.1.cls md.1.name i len lk = true → mv_hop rI rR ln wI wR bod sc i lk st h (fun st h => nx lv st h ce sl) = some res → W p l e R s m args below meth c H locs ce sl Qf (F0 m pc ls (st.map (mv_v φ))) := by
    intro hc hh
    refine mv_hop_sound hA hB hφ hd hc hh hv hW hS fun st' h' H' locs' k1 k2 k3 k4 k5 => ?_
    refine hnx _ _ _ _ _ k1 hce hsl k2 (fun q hq => (hvl q hq).cnt k3) φ H' locs' ls ⟨hge.1, hge.2.1, fun t => ?_⟩ k4 k5 hl
    rw [k3]; exact hge.2.2 t
  have hC : mv_chkC md.1.cls Ms i len lk = true → mv_cop ln nw cp G MC MS i lk lv st h ce sl (fun st h ce sl => nx lv st h ce sl) = some res → W p l e R s m args below meth c H locs ce sl Qf (F0 m pc ls (st.map (mv_v φ))) := by
    intro hc hh
    refine mv_cop_sound hA hB hφ hG hn1 hd hc hh hce hsl hv hl.1 hW hS fun st' h' ce' sl' φ' H' locs' k1 k2 k3 k4 k5 k6 k7 => ?_
    exact hnx _ _ _ _ _ k1 k2 k3 k4 (fun q hq => (hvl q hq).up k5) φ' H' locs' ls (hge.trans k5) k6 k7 (by rw [mv_live.samel k5 hvl]; exact hl)
  have hLo : mv_chkL md.2.2.1 md.1.cls i len lk = true → mv_lop i lk lv st (fun lv st => nx lv st h ce sl) = some res → W p l e R s m args below meth c H locs ce sl Qf (F0 m pc ls (st.map (mv_v φ))) := by
    intro hc hh
    refine mv_lop_sound hx hb hown hts (fun k o idx tx hk => ?_) hd hc hh hl hv hvl fun lv' st' ls' k1 k2 k3 k4 => ?_
    · rw [hφ 11 k (by decide) (by decide)]; exact hE.1 k o idx tx hk
    · exact hnx _ _ _ _ _ k1 hce hsl k2 k3 φ H locs ls' hge hW hS k4
  unfold mv_step at hh
  split at hh
  · exact hH hc hh
  · exact hH hc hh
  · exact hH hc hh
  · exact hH hc hh
  · exact hH hc hh
  · exact hH hc hh
  · exact hH hc hh
  · exact hH hc hh
  · exact hH hc hh
  · exact hC hc hh
  · exact hC hc hh
  · exact hC hc hh
  · exact hC hc hh
  · exact hC hc hh
  · exact hC hc hh
  · -- goto
    split at hh
    · simp only [mv_chk, Bool.and_eq_true, decide_eq_true_eq] at hc
      obtain ⟨rfl, ht⟩ := hc
      exact lv_goto hx hb hd ht (hjp _ _ _ _ _ _ hh hce hsl hv hvl φ H locs ls hge hW hS hl)
    · cases hh
  · -- ifCond
    split at hh
    · next t tl =>
      simp only [mv_chk, Bool.and_eq_true, decide_eq_true_eq] at hc
      obtain ⟨rfl, ht⟩ := hc
      split at hh
      · next x st =>
        have hJ := fun (z : jp t lv st h ce sl = some res) => hjp _ _ _ _ _ _ z hce hsl (mv_fv1 hv) hvl φ H locs ls hge hW hS hl
        have hN := fun (z : nx lv st h ce sl = some res) => hnx _ _ _ _ _ z hce hsl (mv_fv1 hv) hvl φ H locs ls hge hW hS hl
        unfold mv_cmp at hh
        split at hh
        · exact lv_if_eq hx hb hd ht (fun z => hJ (by rw [if_pos z] at hh; exact hh)) (fun z => hN (by rw [if_neg z] at hh; exact hh))
        · exact lv_if_ne hx hb hd ht (fun z => hJ (by rw [if_neg z] at hh; exact hh)) (fun z => hN (by rw [if_pos z] at hh; exact hh))
        · exact lv_if_lt hx hb hd ht (fun z => hJ (by rw [if_pos z] at hh; exact hh)) (fun z => hN (by rw [if_neg z] at hh; exact hh))
        · exact lv_if_ge hx hb hd ht (fun z => hJ (by rw [if_pos z] at hh; exact hh)) (fun z => hN (by rw [if_neg z] at hh; exact hh))
        · exact lv_if_gt hx hb hd ht (fun z => hJ (by rw [if_pos z] at hh; exact hh)) (fun z => hN (by rw [if_neg z] at hh; exact hh))
        · exact lv_if_le hx hb hd ht (fun z => hJ (by rw [if_pos z] at hh; exact hh)) (fun z => hN (by rw [if_neg z] at hh; exact hh))
      · cases hh
    · cases hh
  · -- if_icmp
    split at hh
    · next t tl =>
      simp only [mv_chk, Bool.and_eq_true, decide_eq_true_eq] at hc
      obtain ⟨rfl, ht⟩ := hc
      split at hh
      · next y x st =>
        have hJ := fun (z : jp t lv st h ce sl = some res) => hjp _ _ _ _ _ _ z hce hsl (mv_fv1 (mv_fv1 hv)) hvl φ H locs ls hge hW hS hl
        have hN := fun (z : nx lv st h ce sl = some res) => hnx _ _ _ _ _ z hce hsl (mv_fv1 (mv_fv1 hv)) hvl φ H locs ls hge hW hS hl
        unfold mv_cmp at hh
        split at hh
        · exact lv_icmp_eq hx hb hd ht (fun z => hJ (by rw [if_pos z] at hh; exact hh)) (fun z => hN (by rw [if_neg z] at hh; exact hh))
        · exact lv_icmp_ne hx hb hd ht (fun z => hJ (by rw [if_neg z] at hh; exact hh)) (fun z => hN (by rw [if_pos z] at hh; exact hh))
        · exact lv_icmp_lt hx hb hd ht (fun z => hJ (by rw [if_pos z] at hh; exact hh)) (fun z => hN (by rw [if_neg z] at hh; exact hh))
        · exact lv_icmp_ge hx hb hd ht (fun z => hJ (by rw [if_pos z] at hh; exact hh)) (fun z => hN (by rw [if_neg z] at hh; exact hh))
        · exact lv_icmp_gt hx hb hd ht (fun z => hJ (by rw [if_pos z] at hh; exact hh)) (fun z => hN (by rw [if_neg z] at hh; exact hh))
        · exact lv_icmp_le hx hb hd ht (fun z => hJ (by rw [if_pos z] at hh; exact hh)) (fun z => hN (by rw [if_neg z] at hh; exact hh))
      · cases hh
    · cases hh
  · -- ifnull
    split at hh
    · simp only [mv_chk, Bool.and_eq_true, decide_eq_true_eq] at hc
      obtain ⟨rfl, ht⟩ := hc
      split at hh
      · exact lv_ifnull hx hb hd (hnx _ _ _ _ _ hh hce hsl (mv_fv1 hv) hvl φ H locs ls hge hW hS hl)
      · exact lv_ifnullN hx hb hd ht (hjp _ _ _ _ _ _ hh hce hsl (mv_fv1 hv) hvl φ H locs ls hge hW hS hl)
      · cases hh
    · cases hh
  · -- ifnonnull
    split at hh
    · simp only [mv_chk, Bool.and_eq_true, decide_eq_true_eq] at hc
      obtain ⟨rfl, ht⟩ := hc
      split at hh
      · exact lv_ifnonnull hx hb hd ht (hjp _ _ _ _ _ _ hh hce hsl (mv_fv1 hv) hvl φ H locs ls hge hW hS hl)
      · exact lv_ifnonnullN hx hb hd (hnx _ _ _ _ _ hh hce hsl (mv_fv1 hv) hvl φ H locs ls hge hW hS hl)
      · cases hh
    · cases hh
  · -- tableswitch
    split at hh
    · next lo' d' tl =>
      simp only [mv_chk, Bool.and_eq_true, decide_eq_true_eq] at hc
      obtain ⟨hlo, hhi, hbig, hdt, htg⟩ := hc
      split at hh
      · next x st =>
        rcases mv_ts_some hh with ⟨k, t, h1, h2, h3⟩ | ⟨h1, h2⟩
        · have hk : k < tl.length := (List.getElem?_eq_some_iff.mp h1).1
          obtain ⟨o, h4, h5⟩ := mv_tgts_get htg k t h1
          have hxi : x.toInt = ((lo' + k : Nat) : Int) := by rw [h2]; exact nI_toInt (by omega)
          refine lv_tableIn hx hb hd (by omega) (by omega) ?_ h5 (hjp _ _ _ _ _ _ h3 hce hsl (mv_fv1 hv) hvl φ H locs ls hge hW hS hl)
          rw [hxi, hlo, show (((lo' + k : Nat) : Int) - (lo' : Int)).toNat = k by omega]
          rw [← Array.getElem?_toList]
          exact h4
        · refine lv_tableOut hx hb hd ?_ hdt (hjp _ _ _ _ _ _ h2 hce hsl (mv_fv1 hv) hvl φ H locs ls hge hW hS hl)
          apply Classical.byContradiction
          intro hn
          obtain ⟨k, hk⟩ : ∃ k : Nat, x.toInt = ((lo' + k : Nat) : Int) := ⟨(x.toInt - lo').toNat, by omega⟩
          exact h1 k (by omega) (mv_of_toInt (by omega) hk)
      · cases hh
    · cases hh
  · -- lookupswitch
    split at hh
    · next d' tl =>
      simp only [mv_chk, Bool.and_eq_true, decide_eq_true_eq] at hc
      obtain ⟨hdt, hso, hps⟩ := hc
      split at hh
      · next x st =>
        rcases mv_ls_some hps hh with ⟨o, t, h1, h2, h3⟩ | ⟨h1, h2⟩
        · exact lv_lookup hx hb hd hso h1 h2 (hjp _ _ _ _ _ _ h3 hce hsl (mv_fv1 hv) hvl φ H locs ls hge hW hS hl)
        · exact lv_lookup hx hb hd hso h1 hdt (hjp _ _ _ _ _ _ h2 hce hsl (mv_fv1 hv) hvl φ H locs ls hge hW hS hl)
      · cases hh
    · cases hh
  · -- ireturn
    split at hh
    · split at hh
      · next x =>
        obtain ⟨hg, hh⟩ := mv_gd_some hh
        cases hh
        simp only [mv_chk, Bool.and_eq_true, decide_eq_true_eq] at hc
        simp only [Bool.or_eq_true, decide_eq_true_eq] at hg
        obtain ⟨rfl, hr⟩ := hc
        refine W.widen hce hsl ((hRet φ H locs ls pc hge hW hS hv).1 _ rfl hd ⟨_, hr, ?_⟩)
        rcases hg with rfl | rfl
        · exact mv_nar0
        · exact mv_nar1
      · cases hh
    · split at hh
      · next x =>
        obtain ⟨hg, hh⟩ := mv_gd_some hh
        cases hh
        simp only [mv_chk, Bool.and_eq_true, Bool.or_eq_true, decide_eq_true_eq] at hc
        simp only [Bool.and_eq_true, decide_eq_true_eq] at hg
        obtain ⟨rfl, hr⟩ := hc
        rcases hr with hr | hr
        · exact W.widen hce hsl ((hRet φ H locs ls pc hge hW hS hv).1 _ rfl hd ⟨_, hr, (mv_nar127 hg.1 hg.2).1⟩)
        · exact W.widen hce hsl ((hRet φ H locs ls pc hge hW hS hv).1 _ rfl hd ⟨_, hr, (mv_nar127 hg.1 hg.2).2⟩)
      · cases hh
    · next hlk =>
      split at hh
      · next x =>
        cases hh
        have hc2 : (decide (len = 1) && decide (md.2.2.2 = some .int)) = true := by
          simp only [mv_chk] at hc
          exact hc
        simp only [Bool.and_eq_true, decide_eq_true_eq] at hc2
        obtain ⟨rfl, hr⟩ := hc2
        exact W.widen hce hsl ((hRet φ H locs ls pc hge hW hS hv).1 _ rfl hd ⟨_, hr, rfl⟩)
      · cases hh
  · -- lreturn
    split at hh
    · cases hh
      simp only [mv_chk, Bool.and_eq_true, decide_eq_true_eq] at hc
      obtain ⟨rfl, hr⟩ := hc
      exact W.widen hce hsl ((hRet φ H locs ls pc hge hW hS hv).2.1 _ rfl hd hr)
    · cases hh
  · -- areturn
    have hc2 : len = 1 ∧ ∃ n, md.2.2.2 = some (.object n) := by
      simp only [mv_chk, Bool.and_eq_true, decide_eq_true_eq] at hc
      refine ⟨hc.1, ?_⟩
      have := hc.2
      split at this
      · next n hn => exact ⟨n, hn⟩
      · cases this
    obtain ⟨rfl, hr⟩ := hc2
    split at hh
    · cases hh
      exact W.widen hce hsl ((hRet φ H locs ls pc hge hW hS hv).2.2.1 _ rfl hd hr (Or.inr ⟨_, rfl⟩))
    · cases hh
      exact W.widen hce hsl ((hRet φ H locs ls pc hge hW hS hv).2.2.1 _ rfl hd hr (Or.inl rfl))
    · cases hh
  · -- return
    split at hh
    · cases hh
      simp only [mv_chk, Bool.and_eq_true, decide_eq_true_eq] at hc
      obtain ⟨rfl, hr⟩ := hc
      exact W.widen hce hsl ((hRet φ H locs ls pc hge hW hS hv).2.2.2 rfl hd hr)
    · cases hh
  · exact hLo (mv_chk_lop hh hc) hh
end
/-- a table is the method's code, and its operands are right -/
def mv_tok (md : mv_MD) (Ms : List (mv_MD × Bool)) : List mv_E → Bool
  | [] => true
  | e :: l => decide (decode md.2.1 e.1 = .ok (e.2.1, e.2.2.1)) && (mv_chk md Ms e.1 e.2.1 e.2.2.1 e.2.2.2 && ((match l with
    | [] => true
    | e2 :: _ => decide (e2.1 = e.1 + e.2.2.1)) && mv_tok md Ms l))
theorem mv_seek_ok {md : mv_MD} {Ms : List (mv_MD × Bool)} {t : Nat} : ∀ {tab : List mv_E}, mv_tok md Ms tab = true → mv_tok md Ms (mv_seek t tab) = true ∧ ∀ e l, mv_seek t tab = e :: l → e.1 = t
  | [], _ => ⟨rfl, fun e l h => by cases h⟩
  | a :: l, h => by
    unfold mv_seek
    cases hc : Nat.beq a.1 t with
    | true =>
      refine ⟨h, fun e l' he => ?_⟩
      have he2 : a :: l = e :: l' := he
      cases he2
      exact Nat.eq_of_beq_eq_true hc
    | false =>
      have h2 : mv_tok md Ms l = true := by
        unfold mv_tok at h
        simp only [Bool.and_eq_true] at h
        exact h.2.2.2
      exact mv_seek_ok h2
section
variable {Hp : Type} {rI : Hp → Nat → Nat → Nat → Int32} {rR : Hp → Nat → Nat → Nat → (Option (Nat × Nat) → Option (List mv_V × Hp)) → Option (List mv_V × Hp)} {ln : Hp → Nat → Nat → Nat} {wI : Hp → Nat → Nat → Nat → Int32 → Hp} {wR : Hp → Nat → Nat → Nat → Option (Nat × Nat) → (Hp → Option (List mv_V × Hp)) → Option (List mv_V × Hp)} {nw : Hp → Nat → Nat → (Nat → Hp → Option (List mv_V × Hp)) → Option (List mv_V × Hp)} {cp : Hp → Nat → Nat → Nat → Nat → Nat → Hp} {vw : Hp → mv_G}
variable {md : mv_MD} {n MC MS : Nat} {sc : Option (Nat × (Nat → Int32))} {g0 : mv_G} {res : List mv_V × Hp}
theorem mv_blk_sound {p : Program} {l : Launch} {e : Env} {R : Room} {s : State} {m : MethodId} {args : Array Value} {below : List Frame} {meth : Method} {c : Code} {φ0 : Nat → Nat → Nat} {D : va_G} {cI cQ : ClassId} {q0 : Nat} {Qf : State → Prop} (hA : mv_Ax rI rR ln wI wR nw cp vw) (hB : mv_B md n MC MS sc p R s m args meth c D cI cQ q0 φ0) (hRet : mv_Ret vw md MC MS g0 res p l e R s m args below meth c D cI cQ q0 φ0 Qf) {G : List (mv_C Hp)} {Ms : List (mv_MD × Bool)} (hG : ∀ j C md', mv_nth j G = some C → mv_nth j Ms = some md' → ∃ n', n' + 1 ≤ n ∧ mv_Cal vw n' md' C) (hn1 : 1 ≤ n)
    {tab : List mv_E} (htab : mv_tok md Ms tab = true) {stops : List Nat} {ka : Nat → mv_L → List mv_V → Hp → Nat → Nat → Option (List mv_V × Hp)} (hka : ∀ pc lv st h ce sl, ka pc lv st h ce sl = some res → mv_Y vw md MC MS g0 p l e R s m args below meth c D cI cQ q0 φ0 Qf pc lv st h ce sl) :
    ∀ (k : Nat) (cs : List mv_E), mv_tok md Ms cs = true → ∀ lv st h ce sl, mv_blk rI rR ln wI wR nw cp bod sc tab G MC MS stops ka k cs lv st h ce sl = some res → ∀ a l', cs = a :: l' → mv_Y vw md MC MS g0 p l e R s m args below meth c D cI cQ q0 φ0 Qf a.1 lv st h ce sl := by
  intro k
  induction k with
  | zero =>
    intro cs _ lv st h ce sl hh
    cases hh
  | succ k ih =>
    intro cs hcs lv st h ce sl hh a l' he
    subst he
    unfold mv_tok at hcs
    simp only [Bool.and_eq_true, decide_eq_true_eq] at hcs
    obtain ⟨hd, hc, hnext, hrest⟩ := hcs
    have hgo : ∀ (cs' : List mv_E), mv_tok md Ms cs' = true → ∀ lv st h ce sl, mv_nx stops ka (mv_blk rI rR ln wI wR nw cp bod sc tab G MC MS stops ka k) cs' lv st h ce sl = some res → ∀ a2 l2, cs' = a2 :: l2 → mv_Y vw md MC MS g0 p l e R s m args below meth c D cI cQ q0 φ0 Qf a2.1 lv st h ce sl := by
      intro cs' hok lv st h ce sl hh a2 l2 he
      subst he
      unfold mv_nx at hh
      split at hh
      · next heq => cases heq
      · next heq =>
        cases heq
        split at hh
        · exact hka _ _ _ _ _ _ hh
        · exact ih _ hok _ _ _ _ _ hh _ _ rfl
    refine mv_step_sound hA hB hRet hG hn1 hd hc (fun lv st h ce sl hh => ?_) (fun t lv st h ce sl hh => ?_) hh
    · cases hl : l' with
      | nil => rw [hl] at hh; cases hh
      | cons a2 l2 =>
        rw [hl] at hnext hrest hh
        have h1 : a2.1 = a.1 + a.2.2.1 := of_decide_eq_true hnext
        rw [← h1]
        exact hgo _ hrest _ _ _ _ _ hh _ _ rfl
    · obtain ⟨s1, s2⟩ := mv_seek_ok (t := t) htab
      cases hl : mv_seek t tab with
      | nil => rw [hl] at hh; cases hh
      | cons a2 l2 =>
        have h1 := s2 _ _ hl
        rw [hl] at s1 hh
        rw [← h1]
        exact hgo _ s1 _ _ _ _ _ hh _ _ rfl
theorem mv_blkX (hA : mv_Ax rI rR ln wI wR nw cp vw) {G : List (mv_C Hp)} {Ms : List (mv_MD × Bool)} (hG : ∀ j C md', mv_nth j G = some C → mv_nth j Ms = some md' → ∃ n', n' + 1 ≤ n ∧ mv_Cal vw n' md' C) (hn1 : 1 ≤ n)
    {tab : List mv_E} (htab : mv_tok md Ms tab = true) {stops : List Nat} {ka : Nat → mv_L → List mv_V → Hp → Nat → Nat → Option (List mv_V × Hp)} (hka : ∀ pc lv st h ce sl, ka pc lv st h ce sl = some res → mv_X vw md n MC MS sc g0 res pc lv st h ce sl)
    {k : Nat} {t : Nat} {lv : mv_L} {st : List mv_V} {h : Hp} {ce sl : Nat} (hh : mv_blk rI rR ln wI wR nw cp bod sc tab G MC MS stops ka k (mv_seek t tab) lv st h ce sl = some res) : mv_X vw md n MC MS sc g0 res t lv st h ce sl := by
  intro p l e R s m args below meth c D cI cQ q0 φ0 Qf hB hRet
  obtain ⟨s1, s2⟩ := mv_seek_ok (t := t) htab
  cases hl : mv_seek t tab with
  | nil =>
    rw [hl] at hh
    cases k with
    | zero => cases hh
    | succ k => cases hh
  | cons a2 l2 =>
    have h1 := s2 _ _ hl
    rw [hl] at s1 hh
    rw [← h1]
    exact mv_blk_sound hA hB hRet hG hn1 htab (fun pc lv st h ce sl h2 => hka pc lv st h ce sl h2 p l e R s m args below meth c D cI cQ q0 φ0 Qf hB hRet) k _ s1 _ _ _ _ _ hh _ _ rfl
/-- the locals at a method's entry -/
def mv_ent : Nat → List mv_V → mv_L
  | _, [] => []
  | i, v :: vs => (i, v) :: mv_ent (match mv_two v with
    | true => i + 2
    | false => i + 1) vs
theorem mv_ent_map (φ : Nat → Nat → Nat) : ∀ (vs : List mv_V) (i : Nat), (mv_ent i vs).map (fun q => (q.1, mv_v φ q.2)) = lv_args i (vs.map (mv_v φ))
  | [], _ => rfl
  | v :: vs, i => by
    have ih := mv_ent_map φ vs
    show (i, mv_v φ v) :: (mv_ent (match mv_two v with
      | true => i + 2
      | false => i + 1) vs).map _ = (i, mv_v φ v) :: lv_args (if (mv_v φ v).category = 2 then i + 2 else i + 1) (vs.map (mv_v φ))
    rw [ih]
    cases h : mv_two v with
    | true =>
      have h2 : (mv_v φ v).category = 2 := by have := mv_two_beq φ v; rw [h] at this; exact eq_of_beq this
      rw [if_pos h2]
    | false =>
      have h2 : ¬ (mv_v φ v).category = 2 := by rw [mv_two_cat h]; decide
      rw [if_neg h2]
theorem mv_ent_mem {P : mv_V → Prop} : ∀ {vs : List mv_V} {i : Nat}, (∀ v ∈ vs, P v) → ∀ q ∈ mv_ent i vs, P q.2
  | [], _, _, q, h => by cases h
  | v :: vs, i, h, q, hq => by
    unfold mv_ent at hq
    rcases List.mem_cons.mp hq with rfl | hq
    · exact (List.forall_mem_cons.mp h).1
    · exact mv_ent_mem (List.forall_mem_cons.mp h).2 q hq
theorem mv_slen (φ : Nat → Nat → Nat) : ∀ vs : List mv_V, (lg_sl (vs.map (mv_v φ))).length = mv_cats vs
  | [] => rfl
  | v :: vs => by
    have ih := mv_slen φ vs
    unfold lg_sl at ih ⊢
    rw [List.map_cons, List.flatMap_cons, List.length_append, ih]
    show _ = (match mv_two v with
      | true => 2
      | false => 1) + mv_cats vs
    congr 1
    cases h : mv_two v with
    | true =>
      have h2 : (mv_v φ v).category = 2 := by have := mv_two_beq φ v; rw [h] at this; exact eq_of_beq this
      rw [if_pos h2]; rfl
    | false =>
      have h2 : ¬ (mv_v φ v).category = 2 := by rw [mv_two_cat h]; decide
      rw [if_neg h2]; rfl
theorem mv_Met_of (hplain : plainName md.1.cls = true) {as : List mv_V} {h : Hp} {vs : List mv_V} {h' : Hp} (hfit : mv_cats as ≤ md.2.2.1) (hX : mv_X vw md n MC MS none (vw h) (vs, h') 0 (mv_ent 0 as) [] h 0 0) : mv_Met vw n MC MS md as h vs h' := by
  intro l D cI cQ q0 φ
  refine Met.ofW (cc := md.2.1) (maxL := md.2.2.1) (ret := md.2.2.2) hplain rfl ?_
  intro p e s m args below meth c s₁ B hml hv
  obtain ⟨rfl, hq0, hK, hE, hlv, hW⟩ := hv
  have hts := atoms_spec (ws := .code md.1 md.2.1 md.2.2.1 md.2.2.2 :: WS) B.pre
  have hr := B.returns
  have hlocks := B.notSynchronized
  have hB : mv_B md n MC MS none p (mv_rm n MC MS) s m (as.map (mv_v φ)).toArray meth c D cI cQ q0 φ :=
    ⟨B.exec, B.bytes, hml, findClass_of_methodNamed B.named, (name_of_methodNamed B.named B.method).1, fun w hw => hts w (List.mem_cons_of_mem _ hw), hK, hq0, ⟨Nat.le_refl _, Nat.le_refl _, Nat.le_refl _, Nat.le_refl _⟩, hE, fun q hq => by cases hq⟩
  have hl := lv_entry (as.map (mv_v φ)) (n := md.2.2.1) (by rw [mv_slen]; exact hfit)
  rw [lg_entry_eq]
  generalize (lg_sl (as.map (mv_v φ)) ++ List.replicate (md.2.2.1 - (lg_sl (as.map (mv_v φ))).length) Slot.unset).toArray = ls at hl ⊢
  rw [← mv_ent_map] at hl
  refine hX p l e (mv_rm n MC MS) s m _ below meth c D cI cQ q0 φ _ hB ?_ (Nat.zero_le _) (Nat.zero_le _) (fun v hv => by cases hv) (mv_ent_mem hlv) φ s.heap [] ls mv_ge.rf hW va_S.rf hl
  intro φ' H locs ls' pc hge hW' hS' hvs
  refine ⟨fun x hx hd hty => ?_, fun x hx hd hty => ?_, fun v hx hd hty hv => ?_, fun hx hd hty => ?_⟩
  · have hq : ∀ t : State, t.heap = H → s.WarmedH t.vm → ∃ φ', mv_ge (vw h) φ (vw h') φ' ∧ (∀ v ∈ vs, mv_live (vw h') v) ∧ Outcome.returned (some (.int x)) = .returned (vs.map (mv_v φ')).head? ∧ mv_W D cI cQ q0 φ' (vw h') t.heap ∧ va_F (fun q => q0 ≤ q) s t := fun t ht _ => ⟨φ', hge, hvs, by rw [show vs = _ from hx]; rfl, by rw [ht]; exact hW', hS'.F ht⟩
    obtain ⟨ty, hty, hnr⟩ := hty
    exact W.zret B.exec B.bytes (hr.trans hty) hnr hq hS'.2.2 hd
  · exact W.lret B.exec B.bytes (hr.trans hty) (fun t ht _ => ⟨φ', hge, hvs, by rw [show vs = _ from hx]; rfl, by rw [ht]; exact hW', hS'.F ht⟩) hS'.2.2 hd
  · obtain ⟨nm, hty⟩ := hty
    refine W.aret B.exec B.bytes (hr.trans hty) (Or.inl ⟨nm, rfl⟩) ?_ (fun t ht _ => ⟨φ', hge, hvs, by rw [show vs = _ from hx]; rfl, by rw [ht]; exact hW', hS'.F ht⟩) hS'.2.2 hd
    rcases hv with rfl | ⟨q, rfl⟩
    · exact Or.inl rfl
    · exact Or.inr ⟨_, rfl⟩
  · exact W.vret B.exec B.bytes (hr.trans hty) (fun t ht _ => ⟨φ', hge, hvs, by rw [show vs = _ from hx]; rfl, by rw [ht]; exact hW', hS'.F ht⟩) hS'.2.2 hd
end
