theorem mv_gd_some {α : Type} {b : Bool} {k : Option α} {r : α} (h : mv_gd b k = some r) : b = true ∧ k = some r := by
  cases b with
  | true => exact ⟨rfl, h⟩
  | false => cases h
section
variable {p : Program} {l : Launch} {e : Env} {R : Room} {s : State} {m : MethodId} {args : Array Value} {below : List Frame} {meth : Method} {c : Code} {H : Heap} {locs : List Loc} {cells slots : Nat} {Q : State → Prop} {cc : ByteArray} {pc : Nat} {ls : Array Slot} {φ : Nat → Nat → Nat} {g : mv_G}
theorem mv_two_cat {v : mv_V} (h : mv_two v = false) : (mv_v φ v).category = 1 := by
  cases v with
  | inr q => rfl
  | inl v => cases v <;> first | rfl | cases h
set_option maxHeartbeats 4000000 in
/-- what works on the stack alone -/
theorem mv_op_sound {α : Type} (hx : p.tables.exec = Jvm.exec) (hb : c.code = cc) {i : Instr} (hd : decode cc pc = .ok (i, 1)) {st : List mv_V} {k : List mv_V → Option α} {res : α} (h : mv_op i st k = some res) (hv : ∀ v ∈ st, mv_live g v)
    (kk : ∀ st', k st' = some res → (∀ v ∈ st', mv_live g v) → W p l e R s m args below meth c H locs cells slots Q (F0 m (pc + 1) ls (st'.map (mv_v φ)))) : W p l e R s m args below meth c H locs cells slots Q (F0 m pc ls (st.map (mv_v φ))) := by
  unfold mv_op at h
  split at h
  · split at h
    · exact lv_iadd hx hb hd (kk _ h (List.forall_mem_cons.mpr ⟨trivial, (List.forall_mem_cons.mp (List.forall_mem_cons.mp hv).2).2⟩))
    · cases h
  · split at h
    · exact lv_isub hx hb hd (kk _ h (List.forall_mem_cons.mpr ⟨trivial, (List.forall_mem_cons.mp (List.forall_mem_cons.mp hv).2).2⟩))
    · cases h
  · split at h
    · exact lv_imul hx hb hd (kk _ h (List.forall_mem_cons.mpr ⟨trivial, (List.forall_mem_cons.mp (List.forall_mem_cons.mp hv).2).2⟩))
    · cases h
  · split at h
    · exact lv_iand hx hb hd (kk _ h (List.forall_mem_cons.mpr ⟨trivial, (List.forall_mem_cons.mp (List.forall_mem_cons.mp hv).2).2⟩))
    · cases h
  · split at h
    · exact lv_ior hx hb hd (kk _ h (List.forall_mem_cons.mpr ⟨trivial, (List.forall_mem_cons.mp (List.forall_mem_cons.mp hv).2).2⟩))
    · cases h
  · split at h
    · exact lv_ixor hx hb hd (kk _ h (List.forall_mem_cons.mpr ⟨trivial, (List.forall_mem_cons.mp (List.forall_mem_cons.mp hv).2).2⟩))
    · cases h
  · split at h
    · obtain ⟨hg, h⟩ := mv_gd_some h
      exact lv_idiv hx hb hd (by simpa using hg) (kk _ h (List.forall_mem_cons.mpr ⟨trivial, (List.forall_mem_cons.mp (List.forall_mem_cons.mp hv).2).2⟩))
    · cases h
  · split at h
    · obtain ⟨hg, h⟩ := mv_gd_some h
      exact lv_irem hx hb hd (by simpa using hg) (kk _ h (List.forall_mem_cons.mpr ⟨trivial, (List.forall_mem_cons.mp (List.forall_mem_cons.mp hv).2).2⟩))
    · cases h
  · split at h
    · exact lv_ineg hx hb hd (kk _ h (List.forall_mem_cons.mpr ⟨trivial, (List.forall_mem_cons.mp hv).2⟩))
    · cases h
  · split at h
    · exact lv_ishl hx hb hd (kk _ h (List.forall_mem_cons.mpr ⟨trivial, (List.forall_mem_cons.mp (List.forall_mem_cons.mp hv).2).2⟩))
    · cases h
  · split at h
    · exact lv_ishr hx hb hd (kk _ h (List.forall_mem_cons.mpr ⟨trivial, (List.forall_mem_cons.mp (List.forall_mem_cons.mp hv).2).2⟩))
    · cases h
  · split at h
    · exact lv_iushr hx hb hd rfl (kk _ h (List.forall_mem_cons.mpr ⟨trivial, (List.forall_mem_cons.mp (List.forall_mem_cons.mp hv).2).2⟩))
    · cases h
  · split at h
    · exact lv_ladd hx hb hd (kk _ h (List.forall_mem_cons.mpr ⟨trivial, (List.forall_mem_cons.mp (List.forall_mem_cons.mp hv).2).2⟩))
    · cases h
  · split at h
    · exact lv_lmul hx hb hd (kk _ h (List.forall_mem_cons.mpr ⟨trivial, (List.forall_mem_cons.mp (List.forall_mem_cons.mp hv).2).2⟩))
    · cases h
  · split at h
    · exact lv_land hx hb hd (kk _ h (List.forall_mem_cons.mpr ⟨trivial, (List.forall_mem_cons.mp (List.forall_mem_cons.mp hv).2).2⟩))
    · cases h
  · split at h
    · exact lv_lor hx hb hd (kk _ h (List.forall_mem_cons.mpr ⟨trivial, (List.forall_mem_cons.mp (List.forall_mem_cons.mp hv).2).2⟩))
    · cases h
  · split at h
    · obtain ⟨hg, h⟩ := mv_gd_some h
      exact lv_ldiv hx hb hd (by simpa using hg) (kk _ h (List.forall_mem_cons.mpr ⟨trivial, (List.forall_mem_cons.mp (List.forall_mem_cons.mp hv).2).2⟩))
    · cases h
  · split at h
    · obtain ⟨hg, h⟩ := mv_gd_some h
      exact lv_lrem hx hb hd (by simpa using hg) (kk _ h (List.forall_mem_cons.mpr ⟨trivial, (List.forall_mem_cons.mp (List.forall_mem_cons.mp hv).2).2⟩))
    · cases h
  · split at h
    · exact lv_lshl hx hb hd rfl (kk _ h (List.forall_mem_cons.mpr ⟨trivial, (List.forall_mem_cons.mp (List.forall_mem_cons.mp hv).2).2⟩))
    · cases h
  · split at h
    · exact lv_lshr hx hb hd rfl (kk _ h (List.forall_mem_cons.mpr ⟨trivial, (List.forall_mem_cons.mp (List.forall_mem_cons.mp hv).2).2⟩))
    · cases h
  · split at h
    · exact W.lcmp hx hb hd (kk _ h (List.forall_mem_cons.mpr ⟨trivial, (List.forall_mem_cons.mp (List.forall_mem_cons.mp hv).2).2⟩))
    · cases h
  · split at h
    · exact lv_i2l hx hb hd rfl (kk _ h (List.forall_mem_cons.mpr ⟨trivial, (List.forall_mem_cons.mp hv).2⟩))
    · cases h
  · split at h
    · exact lv_l2i hx hb hd rfl (kk _ h (List.forall_mem_cons.mpr ⟨trivial, (List.forall_mem_cons.mp hv).2⟩))
    · cases h
  · split at h
    · exact lv_i2b hx hb hd rfl (kk _ h (List.forall_mem_cons.mpr ⟨trivial, (List.forall_mem_cons.mp hv).2⟩))
    · cases h
  · split at h
    · exact lv_i2c hx hb hd rfl (kk _ h (List.forall_mem_cons.mpr ⟨trivial, (List.forall_mem_cons.mp hv).2⟩))
    · cases h
  · split at h
    · exact lv_i2s hx hb hd rfl (kk _ h (List.forall_mem_cons.mpr ⟨trivial, (List.forall_mem_cons.mp hv).2⟩))
    · cases h
  · split at h
    · split at h
      · next h2 => exact lv_dup hx hb hd (mv_two_cat h2) (kk _ h (List.forall_mem_cons.mpr ⟨(List.forall_mem_cons.mp hv).1, hv⟩))
      · cases h
    · cases h
  · split at h
    · split at h
      · next h2 =>
        simp only [Bool.or_eq_false_iff] at h2
        exact lv_dup_x1 hx hb hd (mv_two_cat h2.1) (mv_two_cat h2.2) (kk _ h (List.forall_mem_cons.mpr ⟨(List.forall_mem_cons.mp hv).1, List.forall_mem_cons.mpr ⟨(List.forall_mem_cons.mp (List.forall_mem_cons.mp hv).2).1, List.forall_mem_cons.mpr ⟨(List.forall_mem_cons.mp hv).1, (List.forall_mem_cons.mp (List.forall_mem_cons.mp hv).2).2⟩⟩⟩))
      · cases h
    · cases h
  · split at h
    · split at h
      · next h2 =>
        simp only [Bool.or_eq_false_iff] at h2
        exact lv_dup2_11 hx hb hd (mv_two_cat h2.1) (mv_two_cat h2.2) (kk _ h (List.forall_mem_cons.mpr ⟨(List.forall_mem_cons.mp hv).1, List.forall_mem_cons.mpr ⟨(List.forall_mem_cons.mp (List.forall_mem_cons.mp hv).2).1, hv⟩⟩))
      · cases h
    · cases h
  · split at h
    · split at h
      · next h2 => exact lv_pop hx hb hd (mv_two_cat h2) (kk _ h (List.forall_mem_cons.mp hv).2)
      · cases h
    · cases h
  · exact lv_null hx hb hd (kk _ h (List.forall_mem_cons.mpr ⟨trivial, hv⟩))
  · cases h
end
-- ===== locals and constants =====
theorem mv_f1K_eq {α : Type} (i : Nat) : ∀ (l : mv_L) (k : mv_L → α), mv_f1K i l k = k (mv_f1 i l)
  | [], _ => rfl
  | q :: l, k => by
    unfold mv_f1K mv_f1
    rw [mv_f1K_eq i l]
    cases Nat.beq q.1 i || (Nat.beq (q.1 + 1) i && mv_two q.2) <;> rfl
theorem mv_f2K_eq {α : Type} (i : Nat) : ∀ (l : mv_L) (k : mv_L → α), mv_f2K i l k = k (mv_f2 i l)
  | [], _ => rfl
  | q :: l, k => by
    unfold mv_f2K mv_f2
    rw [mv_f2K_eq i l]
    cases Nat.beq q.1 i || (Nat.beq q.1 (i + 1) || (Nat.beq (q.1 + 1) i && mv_two q.2)) <;> rfl
theorem mv_two_beq (φ : Nat → Nat → Nat) (v : mv_V) : ((mv_v φ v).category == 2) = mv_two v := by
  cases v with
  | inr q => rfl
  | inl v => cases v <;> rfl
theorem mv_beqN (a b : Nat) : (a == b) = Nat.beq a b := by
  rw [Bool.eq_iff_iff]
  constructor
  · intro h
    have := eq_of_beq h
    subst this
    exact Nat.beq_refl a
  · intro h
    have := Nat.eq_of_beq_eq_true h
    subst this
    exact beq_self_eq_true a
theorem mv_f1_map (φ : Nat → Nat → Nat) (i : Nat) : ∀ l : mv_L, (mv_f1 i l).map (fun q => (q.1, mv_v φ q.2)) = (l.map fun q => (q.1, mv_v φ q.2)).filter (fun q => !(q.1 == i) && !(q.1 + 1 == i && q.2.category == 2))
  | [] => rfl
  | q :: l => by
    have ih := mv_f1_map φ i l
    simp only [List.map_cons, List.filter_cons, mv_two_beq]
    unfold mv_f1
    rw [mv_beqN, mv_beqN]
    cases h1 : Nat.beq q.1 i <;> cases h2 : (Nat.beq (q.1 + 1) i && mv_two q.2) <;> simp [h1, h2, ih]
theorem mv_f2_map (φ : Nat → Nat → Nat) (i : Nat) : ∀ l : mv_L, (mv_f2 i l).map (fun q => (q.1, mv_v φ q.2)) = (l.map fun q => (q.1, mv_v φ q.2)).filter (fun q => !(q.1 == i) && (!(q.1 == i + 1) && !(q.1 + 1 == i && q.2.category == 2)))
  | [] => rfl
  | q :: l => by
    have ih := mv_f2_map φ i l
    simp only [List.map_cons, List.filter_cons, mv_two_beq]
    unfold mv_f2
    rw [mv_beqN, mv_beqN, mv_beqN]
    cases h1 : Nat.beq q.1 i <;> cases h3 : Nat.beq q.1 (i + 1) <;> cases h2 : (Nat.beq (q.1 + 1) i && mv_two q.2) <;> simp [h1, h2, h3, ih]
theorem mv_f1_mem {i : Nat} {q : Nat × mv_V} : ∀ {l : mv_L}, q ∈ mv_f1 i l → q ∈ l
  | [], h => h
  | a :: l, h => by
    unfold mv_f1 at h
    cases hc : (Nat.beq a.1 i || (Nat.beq (a.1 + 1) i && mv_two a.2)) with
    | true => rw [hc] at h; exact List.mem_cons_of_mem _ (mv_f1_mem h)
    | false =>
      rw [hc] at h
      rcases List.mem_cons.mp h with h | h
      · exact List.mem_cons.mpr (Or.inl h)
      · exact List.mem_cons_of_mem _ (mv_f1_mem h)
theorem mv_f2_mem {i : Nat} {q : Nat × mv_V} : ∀ {l : mv_L}, q ∈ mv_f2 i l → q ∈ l
  | [], h => h
  | a :: l, h => by
    unfold mv_f2 at h
    cases hc : (Nat.beq a.1 i || (Nat.beq a.1 (i + 1) || (Nat.beq (a.1 + 1) i && mv_two a.2))) with
    | true => rw [hc] at h; exact List.mem_cons_of_mem _ (mv_f2_mem h)
    | false =>
      rw [hc] at h
      rcases List.mem_cons.mp h with h | h
      · exact List.mem_cons.mpr (Or.inl h)
      · exact List.mem_cons_of_mem _ (mv_f2_mem h)
theorem mv_get_mem {k : Nat} {v : mv_V} : ∀ {l : mv_L}, mv_get k l = some v → (k, v) ∈ l
  | [], h => by cases h
  | q :: l, h => by
    unfold mv_get at h
    cases hc : Nat.beq q.1 k with
    | true =>
      rw [hc] at h
      have h1 : q.1 = k := Nat.eq_of_beq_eq_true hc
      have h2 : q.2 = v := Option.some.inj h
      exact List.mem_cons.mpr (Or.inl (by rw [← h1, ← h2]))
    | false => rw [hc] at h; exact List.mem_cons_of_mem _ (mv_get_mem h)
theorem mv_get_at {φ : Nat → Nat → Nat} {k nL : Nat} {v : mv_V} {lv : mv_L} {ls : Array Slot} (h : mv_get k lv = some v) (hl : lv_has ls nL (lv.map fun q => (q.1, mv_v φ q.2))) : ls[k]? = some (.val (mv_v φ v)) :=
  hl.2.2 (k, mv_v φ v) (List.mem_map.mpr ⟨(k, v), mv_get_mem h, rfl⟩)
/-- what the table's operands must be -/
def mv_chkL (nL : Nat) (own : String) (i : Instr) (len : Nat) (lk : List Nat) : Bool := match i with
  | .iload_n k => (match lk with
    | n :: _ => decide (len = 1) && decide ((k : Nat) = n)
    | _ => false)
  | .lload_n k => (match lk with
    | n :: _ => decide (len = 1) && decide ((k : Nat) = n)
    | _ => false)
  | .aload_n k => (match lk with
    | n :: _ => decide (len = 1) && decide ((k : Nat) = n)
    | _ => false)
  | .iload k => (match lk with
    | n :: _ => decide (len = 2) && decide (k = n)
    | _ => false)
  | .lload k => (match lk with
    | n :: _ => decide (len = 2) && decide (k = n)
    | _ => false)
  | .aload k => (match lk with
    | n :: _ => decide (len = 2) && decide (k = n)
    | _ => false)
  | .istore_n k => (match lk with
    | n :: _ => decide (len = 1) && (decide ((k : Nat) = n) && decide (n < nL))
    | _ => false)
  | .lstore_n k => (match lk with
    | n :: _ => decide (len = 1) && (decide ((k : Nat) = n) && decide (n + 1 < nL))
    | _ => false)
  | .astore_n k => (match lk with
    | n :: _ => decide (len = 1) && (decide ((k : Nat) = n) && decide (n < nL))
    | _ => false)
  | .istore k => (match lk with
    | n :: _ => decide (len = 2) && (decide (k = n) && decide (n < nL))
    | _ => false)
  | .lstore k => (match lk with
    | n :: _ => decide (len = 2) && (decide (k = n) && decide (n + 1 < nL))
    | _ => false)
  | .astore k => (match lk with
    | n :: _ => decide (len = 2) && (decide (k = n) && decide (n < nL))
    | _ => false)
  | .iinc k z => (match lk with
    | n :: sg :: cn :: _ => decide (len = 3) && (decide (k = n) && (decide (n < nL) && decide (Int32.ofInt z = mv_c sg cn)))
    | _ => false)
  | .iconst z => (match lk with
    | sg :: cn :: _ => decide (len = 1) && decide (Int32.ofInt z = mv_c sg cn)
    | _ => false)
  | .bipush z => (match lk with
    | sg :: cn :: _ => decide (len = 2) && decide ((Int8.ofInt z).toInt32 = mv_c sg cn)
    | _ => false)
  | .sipush z => (match lk with
    | sg :: cn :: _ => decide (len = 3) && decide ((Int16.ofInt z).toInt32 = mv_c sg cn)
    | _ => false)
  | .ldc x => (match lk with
    | 0 :: sg :: cn :: a :: b :: _ => decide (len = 2) && wAt a b (.constant own x (mv_c sg cn))
    | 1 :: n :: _ => (match mv_sw n with
      | some q => decide (len = 2) && (decide (q.1 = own) && decide (q.2.1 = x))
      | none => false)
    | _ => false)
  | .ldc_w x => (match lk with
    | 0 :: sg :: cn :: a :: b :: _ => decide (len = 3) && wAt a b (.constant own x (mv_c sg cn))
    | 1 :: n :: _ => (match mv_sw n with
      | some q => decide (len = 3) && (decide (q.1 = own) && decide (q.2.1 = x))
      | none => false)
    | _ => false)
  | .lconst z => (match lk with
    | sg :: cn :: _ => decide (len = 1) && decide (Int64.ofNat (z : Nat) = mv_cl sg cn)
    | _ => false)
  | .ldc2_w x => (match lk with
    | sg :: cn :: a :: b :: _ => decide (len = 3) && wAt a b (.constantLong own x (mv_cl sg cn))
    | _ => false)
  | _ => decide (len = 1)
section
variable {p : Program} {l : Launch} {e : Env} {R : Room} {s : State} {m : MethodId} {args : Array Value} {below : List Frame} {meth : Method} {c : Code} {H : Heap} {locs : List Loc} {cells slots : Nat} {Q : State → Prop} {cc : ByteArray} {pc : Nat} {ls : Array Slot} {φ : Nat → Nat → Nat} {g : mv_G}
theorem mv_ldcwS {T : State} (X : Stand p l e R s m args below meth c T locs cells slots) (hexec : p.tables.exec = Jvm.exec) {own text : String} {index : Nat} {a : Addr} (hown : s.vm.findClass own = some m.cls)
    (hconst : (Cond.stringRef own index text).before args s = true) (hev : (Term.string own index).eval args s none [] s = some (.ref a)) {g : JFrame} (hg : g.method = m) (hdg : decode c.code g.pc = .ok (.ldc_w index, 3)) :
    ∀ target, Steps p.tables e below (T.setTop { g with pc := g.pc + 3, stack := .ref a :: g.stack }) target → Steps p.tables e below (T.setTop g) target := by
  obtain ⟨k, cf, i, a', hk, hcf, hcp, -, hr, hev'⟩ := Cond.stringRef_spec hown hconst
  cases hev.symm.trans hev'
  obtain ⟨k', hk', he⟩ := X.warmed.alike.2.2 _ _ hk
  have hr' : k'.resolved[index]? = some (some (.string a)) := by
    rcases X.warmed.entry hk hk' index with h | ⟨h, -⟩
    · rw [h]; exact hr
    · rw [hr] at h; cases h
  intro target hrest
  subst hg
  jvm_step X.here [hexec, hdg, ldc_w.wp_string (e := e) (s := T) (f := g) X.here.top hk' (by rw [he]; exact hcf) hcp hr']
  exact hrest
theorem mv_ldcwSW (hexec : p.tables.exec = Jvm.exec) (hb : c.code = cc) {own tx : String} {index q : Nat} {rest : List Value} (hown : s.vm.findClass own = some m.cls) (hZ : vk_R own index tx q s) (hdg : decode cc pc = .ok (.ldc_w index, 3))
    (k : W p l e R s m args below meth c H locs cells slots Q (F0 m (pc + 3) ls (.ref q :: rest))) : W p l e R s m args below meth c H locs cells slots Q (F0 m pc ls rest) := by
  intro T hT X
  obtain ⟨t, a1, b1⟩ := k T hT X
  exact ⟨t, mv_ldcwS X hexec hown (text := tx) (a := q) hZ.1 hZ.2 (g := F0 m pc ls rest) rfl (by rw [hb]; exact hdg) t a1, b1⟩
end
theorem mv_op_len {α : Type} {nL : Nat} {own : String} {i : Instr} {len : Nat} {lk : List Nat} {st : List mv_V} {k : List mv_V → Option α} {res : α} (h : mv_op i st k = some res) (hc : mv_chkL nL own i len lk = true) : len = 1 := by
  unfold mv_op at h
  split at h <;> first | exact of_decide_eq_true hc | cases h
section
variable {Hp : Type} {p : Program} {l : Launch} {e : Env} {R : Room} {s : State} {m : MethodId} {args : Array Value} {below : List Frame} {meth : Method} {c : Code} {H : Heap} {locs : List Loc} {cells slots : Nat} {Q : State → Prop} {cc : ByteArray} {pc : Nat} {ls : Array Slot} {φ : Nat → Nat → Nat} {g : mv_G}
set_option maxHeartbeats 8000000 in
theorem mv_lop_sound (hx : p.tables.exec = Jvm.exec) (hb : c.code = cc) {own : String} {nL : Nat} (hown : s.vm.findClass own = some m.cls) (hts : ∀ w ∈ WS, w.before args s = true) (hst : ∀ k o idx tx, mv_sw k = some (o, idx, tx) → vk_R o idx tx (φ 11 k) s)
    {i : Instr} {len : Nat} {lk : List Nat} (hd : decode cc pc = .ok (i, len)) (hc : mv_chkL nL own i len lk = true) {lv : mv_L} {st : List mv_V} {k : mv_L → List mv_V → Option (List mv_V × Hp)} {res : List mv_V × Hp} (h : mv_lop i lk lv st k = some res) (hl : lv_has ls nL (lv.map fun q => (q.1, mv_v φ q.2)))
    (hv : ∀ v ∈ st, mv_live g v) (hvl : ∀ q ∈ lv, mv_live g q.2)
    (kk : ∀ lv' st' ls', k lv' st' = some res → (∀ v ∈ st', mv_live g v) → (∀ q ∈ lv', mv_live g q.2) → lv_has ls' nL (lv'.map fun q => (q.1, mv_v φ q.2)) → W p l e R s m args below meth c H locs cells slots Q (F0 m (pc + len) ls' (st'.map (mv_v φ)))) : W p l e R s m args below meth c H locs cells slots Q (F0 m pc ls (st.map (mv_v φ))) := by
  unfold mv_lop at h
  split at h
  · split at h
    · simp only [mv_chkL, Bool.and_eq_true, decide_eq_true_eq] at hc
      obtain ⟨rfl, rfl⟩ := hc
      split at h
      · next h2 => exact lv_iload_n hx hb hd rfl (mv_get_at h2 hl) (kk _ _ _ h (List.forall_mem_cons.mpr ⟨trivial, hv⟩) hvl hl)
      · cases h
    · cases h
  · split at h
    · simp only [mv_chkL, Bool.and_eq_true, decide_eq_true_eq] at hc
      obtain ⟨rfl, rfl⟩ := hc
      split at h
      · next h2 => exact lv_iload hx hb hd (mv_get_at h2 hl) (kk _ _ _ h (List.forall_mem_cons.mpr ⟨trivial, hv⟩) hvl hl)
      · cases h
    · cases h
  · split at h
    · simp only [mv_chkL, Bool.and_eq_true, decide_eq_true_eq] at hc
      obtain ⟨rfl, rfl⟩ := hc
      split at h
      · next h2 => exact lv_lload_n hx hb hd rfl (mv_get_at h2 hl) (kk _ _ _ h (List.forall_mem_cons.mpr ⟨trivial, hv⟩) hvl hl)
      · cases h
    · cases h
  · split at h
    · simp only [mv_chkL, Bool.and_eq_true, decide_eq_true_eq] at hc
      obtain ⟨rfl, rfl⟩ := hc
      split at h
      · next h2 => exact lv_lload hx hb hd (mv_get_at h2 hl) (kk _ _ _ h (List.forall_mem_cons.mpr ⟨trivial, hv⟩) hvl hl)
      · cases h
    · cases h
  · split at h
    · simp only [mv_chkL, Bool.and_eq_true, decide_eq_true_eq] at hc
      obtain ⟨rfl, rfl⟩ := hc
      split at h
      · next h2 => exact lv_aload_n hx hb hd rfl (mv_get_at h2 hl) (kk _ _ _ h (List.forall_mem_cons.mpr ⟨hvl _ (mv_get_mem h2), hv⟩) hvl hl)
      · next h2 => exact lv_aload_nN hx hb hd rfl (mv_get_at h2 hl) (kk _ _ _ h (List.forall_mem_cons.mpr ⟨trivial, hv⟩) hvl hl)
      · cases h
    · cases h
  · split at h
    · simp only [mv_chkL, Bool.and_eq_true, decide_eq_true_eq] at hc
      obtain ⟨rfl, rfl⟩ := hc
      split at h
      · next h2 => exact lv_aload hx hb hd (mv_get_at h2 hl) (kk _ _ _ h (List.forall_mem_cons.mpr ⟨hvl _ (mv_get_mem h2), hv⟩) hvl hl)
      · next h2 => exact lv_aloadN hx hb hd (mv_get_at h2 hl) (kk _ _ _ h (List.forall_mem_cons.mpr ⟨trivial, hv⟩) hvl hl)
      · cases h
    · cases h
  · split at h
    · simp only [mv_chkL, Bool.and_eq_true, decide_eq_true_eq] at hc
      obtain ⟨rfl, rfl, hn⟩ := hc
      split at h
      · rw [mv_f1K_eq] at h
        exact lv_istore_n hx hb hd rfl hl hn rfl fun ls' hl' => kk _ _ ls' h (List.forall_mem_cons.mp hv).2 (List.forall_mem_cons.mpr ⟨trivial, fun q hq => hvl q (mv_f1_mem hq)⟩) (by rw [List.map_cons, mv_f1_map]; exact hl')
      · cases h
    · cases h
  · split at h
    · simp only [mv_chkL, Bool.and_eq_true, decide_eq_true_eq] at hc
      obtain ⟨rfl, rfl, hn⟩ := hc
      split at h
      · rw [mv_f1K_eq] at h
        exact lv_istore hx hb hd hl hn rfl fun ls' hl' => kk _ _ ls' h (List.forall_mem_cons.mp hv).2 (List.forall_mem_cons.mpr ⟨trivial, fun q hq => hvl q (mv_f1_mem hq)⟩) (by rw [List.map_cons, mv_f1_map]; exact hl')
      · cases h
    · cases h
  · split at h
    · simp only [mv_chkL, Bool.and_eq_true, decide_eq_true_eq] at hc
      obtain ⟨rfl, rfl, hn⟩ := hc
      split at h
      · rw [mv_f2K_eq] at h
        exact lv_lstore_n hx hb hd rfl hl hn rfl fun ls' hl' => kk _ _ ls' h (List.forall_mem_cons.mp hv).2 (List.forall_mem_cons.mpr ⟨trivial, fun q hq => hvl q (mv_f2_mem hq)⟩) (by rw [List.map_cons, mv_f2_map]; exact hl')
      · cases h
    · cases h
  · split at h
    · simp only [mv_chkL, Bool.and_eq_true, decide_eq_true_eq] at hc
      obtain ⟨rfl, rfl, hn⟩ := hc
      split at h
      · rw [mv_f2K_eq] at h
        exact lv_lstore hx hb hd hl hn rfl fun ls' hl' => kk _ _ ls' h (List.forall_mem_cons.mp hv).2 (List.forall_mem_cons.mpr ⟨trivial, fun q hq => hvl q (mv_f2_mem hq)⟩) (by rw [List.map_cons, mv_f2_map]; exact hl')
      · cases h
    · cases h
  · split at h
    · simp only [mv_chkL, Bool.and_eq_true, decide_eq_true_eq] at hc
      obtain ⟨rfl, rfl, hn⟩ := hc
      split at h
      · rw [mv_f1K_eq] at h
        exact lv_astore_n hx hb hd rfl hl hn rfl fun ls' hl' => kk _ _ ls' h (List.forall_mem_cons.mp hv).2 (List.forall_mem_cons.mpr ⟨(List.forall_mem_cons.mp hv).1, fun q hq => hvl q (mv_f1_mem hq)⟩) (by rw [List.map_cons, mv_f1_map]; exact hl')
      · rw [mv_f1K_eq] at h
        exact lv_astore_nN hx hb hd rfl hl hn rfl fun ls' hl' => kk _ _ ls' h (List.forall_mem_cons.mp hv).2 (List.forall_mem_cons.mpr ⟨trivial, fun q hq => hvl q (mv_f1_mem hq)⟩) (by rw [List.map_cons, mv_f1_map]; exact hl')
      · cases h
    · cases h
  · split at h
    · simp only [mv_chkL, Bool.and_eq_true, decide_eq_true_eq] at hc
      obtain ⟨rfl, rfl, hn⟩ := hc
      split at h
      · rw [mv_f1K_eq] at h
        exact lv_astore hx hb hd hl hn rfl fun ls' hl' => kk _ _ ls' h (List.forall_mem_cons.mp hv).2 (List.forall_mem_cons.mpr ⟨(List.forall_mem_cons.mp hv).1, fun q hq => hvl q (mv_f1_mem hq)⟩) (by rw [List.map_cons, mv_f1_map]; exact hl')
      · rw [mv_f1K_eq] at h
        exact lv_astoreN hx hb hd hl hn rfl fun ls' hl' => kk _ _ ls' h (List.forall_mem_cons.mp hv).2 (List.forall_mem_cons.mpr ⟨trivial, fun q hq => hvl q (mv_f1_mem hq)⟩) (by rw [List.map_cons, mv_f1_map]; exact hl')
      · cases h
    · cases h
  · split at h
    · simp only [mv_chkL, Bool.and_eq_true, decide_eq_true_eq] at hc
      obtain ⟨rfl, rfl, hn, hz⟩ := hc
      split at h
      · next h2 =>
        rw [mv_f1K_eq] at h
        obtain ⟨j, hj⟩ := List.getElem?_of_mem (List.mem_map.mpr ⟨_, mv_get_mem h2, rfl⟩ : ((_, mv_v φ _) : Nat × Value) ∈ lv.map fun q => (q.1, mv_v φ q.2))
        exact lv_iinc hx hb hd hl hj (by rw [hz]) hn rfl fun ls' hl' => kk _ _ ls' h hv (List.forall_mem_cons.mpr ⟨trivial, fun q hq => hvl q (mv_f1_mem hq)⟩) (by rw [List.map_cons, mv_f1_map]; exact hl')
      · cases h
    · cases h
  · split at h
    · simp only [mv_chkL, Bool.and_eq_true, decide_eq_true_eq] at hc
      obtain ⟨rfl, hz⟩ := hc
      exact lv_iconst hx hb hd hz (kk _ _ _ h (List.forall_mem_cons.mpr ⟨trivial, hv⟩) hvl hl)
    · cases h
  · split at h
    · simp only [mv_chkL, Bool.and_eq_true, decide_eq_true_eq] at hc
      obtain ⟨rfl, hz⟩ := hc
      exact lv_bipush hx hb hd hz (kk _ _ _ h (List.forall_mem_cons.mpr ⟨trivial, hv⟩) hvl hl)
    · cases h
  · split at h
    · simp only [mv_chkL, Bool.and_eq_true, decide_eq_true_eq] at hc
      obtain ⟨rfl, hz⟩ := hc
      exact lv_sipush hx hb hd hz (kk _ _ _ h (List.forall_mem_cons.mpr ⟨trivial, hv⟩) hvl hl)
    · cases h
  · split at h
    · simp only [mv_chkL] at hc
      split at hc
      · next heq =>
        cases heq
        simp only [Bool.and_eq_true, decide_eq_true_eq] at hc
        obtain ⟨rfl, hz⟩ := hc
        exact lv_ldc hx hb hown (hts _ (wAt_in hz)) hd (kk _ _ _ h (List.forall_mem_cons.mpr ⟨trivial, hv⟩) hvl hl)
      · next heq => cases heq
      · cases hc
    · simp only [mv_chkL] at hc
      split at hc
      · next q hq =>
        simp only [Bool.and_eq_true, decide_eq_true_eq] at hc
        obtain ⟨rfl, h1, h2⟩ := hc
        obtain ⟨q1, q2, q3⟩ := q
        have h3 := hst _ _ _ _ hq
        rw [show q1 = own from h1, show q2 = _ from h2] at h3
        exact va_ldcS hx hb hown h3 hd (kk _ _ _ h (List.forall_mem_cons.mpr ⟨Or.inr ⟨show 10 ≤ 11 by decide, show 11 < 100 by decide, fun _ => mv_sw_lt hq⟩, hv⟩) hvl hl)
      · cases hc
    · cases h
  · split at h
    · simp only [mv_chkL] at hc
      split at hc
      · next heq =>
        cases heq
        simp only [Bool.and_eq_true, decide_eq_true_eq] at hc
        obtain ⟨rfl, hz⟩ := hc
        exact lv_ldcw hx hb hown (hts _ (wAt_in hz)) hd (kk _ _ _ h (List.forall_mem_cons.mpr ⟨trivial, hv⟩) hvl hl)
      · next heq => cases heq
      · cases hc
    · simp only [mv_chkL] at hc
      split at hc
      · next q hq =>
        simp only [Bool.and_eq_true, decide_eq_true_eq] at hc
        obtain ⟨rfl, h1, h2⟩ := hc
        obtain ⟨q1, q2, q3⟩ := q
        have h3 := hst _ _ _ _ hq
        rw [show q1 = own from h1, show q2 = _ from h2] at h3
        exact mv_ldcwSW hx hb hown h3 hd (kk _ _ _ h (List.forall_mem_cons.mpr ⟨Or.inr ⟨show 10 ≤ 11 by decide, show 11 < 100 by decide, fun _ => mv_sw_lt hq⟩, hv⟩) hvl hl)
      · cases hc
    · cases h
  · split at h
    · simp only [mv_chkL, Bool.and_eq_true, decide_eq_true_eq] at hc
      obtain ⟨rfl, hz⟩ := hc
      exact lv_lconst hx hb hd hz (kk _ _ _ h (List.forall_mem_cons.mpr ⟨trivial, hv⟩) hvl hl)
    · cases h
  · split at h
    · simp only [mv_chkL] at hc
      split at hc
      · next heq =>
        cases heq
        simp only [Bool.and_eq_true, decide_eq_true_eq] at hc
        obtain ⟨rfl, hz⟩ := hc
        exact lv_ldc2 hx hb hown (hts _ (wAt_in hz)) hd (kk _ _ _ h (List.forall_mem_cons.mpr ⟨trivial, hv⟩) hvl hl)
      · cases hc
    · cases h
  · have hl1 := mv_op_len h hc
    subst hl1
    exact mv_op_sound hx hb hd h hv fun st' h' hv' => kk _ _ _ h' hv' hvl hl
end
