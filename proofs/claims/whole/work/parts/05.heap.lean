-- ===== the world as a list, a cell changed, a cell made =====
theorem mv_cover {D : va_G} {cI cQ : ClassId} {q0 : Nat} {φ : Nat → Nat → Nat} {g : mv_G} {H : Heap} (hW : mv_W D cI cQ q0 φ g H) : ∃ ws : va_W, va_P D vwCl ws H ∧ va_D (fun q => q0 ≤ q) ws ∧ (∀ t o, o < g.2.2.2 t → ∃ k : Nat, ws[k]? = some (φ t o, mv_cell cI cQ φ g t o)) := by
  obtain ⟨h1, h2, h3, h4, ⟨ts, hn, hts⟩, -⟩ := hW
  have hmem : ∀ q : Nat × Nat, q ∈ ts.flatMap (fun t => (List.range (g.2.2.2 t)).map fun o => (t, o)) ↔ q.2 < g.2.2.2 q.1 := by
    intro q
    simp only [List.mem_flatMap, List.mem_map, List.mem_range]
    constructor
    · rintro ⟨t, -, o, ho, rfl⟩
      exact ho
    · intro h
      exact ⟨q.1, hts _ (Nat.lt_of_le_of_lt (Nat.zero_le _) h), q.2, h, rfl⟩
  have hnd : (ts.flatMap (fun t => (List.range (g.2.2.2 t)).map fun o => (t, o))).Nodup := by
    rw [List.nodup_iff_pairwise_ne] at hn ⊢
    rw [List.pairwise_flatMap]
    refine ⟨fun t _ => ?_, hn.imp fun {a b} hab => ?_⟩
    · rw [List.pairwise_map]
      exact (List.nodup_iff_pairwise_ne.mp List.nodup_range).imp fun {a b} hab e => hab (Prod.mk.inj e).2
    · intro x hx y hy
      obtain ⟨_, -, rfl⟩ := List.mem_map.mp hx
      obtain ⟨_, -, rfl⟩ := List.mem_map.mp hy
      exact fun e => hab (Prod.mk.inj e).1
  generalize ts.flatMap (fun t => (List.range (g.2.2.2 t)).map fun o => (t, o)) = L at hmem hnd
  refine ⟨L.map fun q => (φ q.1 q.2, mv_cell cI cQ φ g q.1 q.2), fun k q hk => ?_, ⟨fun i j x y hi hj e => ?_, fun k q hk => ?_⟩, fun t o ho => ?_⟩
  · rw [List.getElem?_map, Option.map_eq_some_iff] at hk
    obtain ⟨a, ha, rfl⟩ := hk
    exact h1 _ _ ((hmem a).mp (List.mem_of_getElem? ha))
  · rw [List.getElem?_map, Option.map_eq_some_iff] at hi hj
    obtain ⟨a, ha, rfl⟩ := hi
    obtain ⟨b, hb, rfl⟩ := hj
    have hab := h3 _ _ _ _ ((hmem a).mp (List.mem_of_getElem? ha)) ((hmem b).mp (List.mem_of_getElem? hb)) e
    have : a = b := Prod.ext hab.1 hab.2
    subst this
    obtain ⟨hi', ei⟩ := List.getElem?_eq_some_iff.mp ha
    obtain ⟨hj', ej⟩ := List.getElem?_eq_some_iff.mp hb
    have hpw := List.pairwise_iff_getElem.mp (List.nodup_iff_pairwise_ne.mp hnd)
    rcases Nat.lt_trichotomy i j with hij | hij | hij
    · exact absurd (ei.trans ej.symm) (hpw i j hi' hj' hij)
    · exact hij
    · exact absurd (ej.trans ei.symm) (hpw j i hj' hi' hij)
  · rw [List.getElem?_map, Option.map_eq_some_iff] at hk
    obtain ⟨a, ha, rfl⟩ := hk
    exact h2 _ _ ((hmem a).mp (List.mem_of_getElem? ha))
  · obtain ⟨k, hk⟩ := List.getElem?_of_mem ((hmem (t, o)).mpr ho)
    exact ⟨k, by rw [List.getElem?_map, hk]; rfl⟩
theorem mv_W.set {D : va_G} {cI cQ : ClassId} {q0 : Nat} {φ : Nat → Nat → Nat} {g g' : mv_G} {H H1 : Heap} (hW : mv_W D cI cQ q0 φ g H) {ws : va_W} (hcov : ∀ t o, o < g.2.2.2 t → ∃ k : Nat, ws[k]? = some (φ t o, mv_cell cI cQ φ g t o)) {p t o : Nat} {e0 e1 : va_E} (hp : ws[p]? = some (φ t o, e0)) (ho : o < g.2.2.2 t)
    (hP1 : va_P D vwCl (ws.set p (φ t o, e1)) H1) (he : mv_cell cI cQ φ g' t o = e1) (hoth : ∀ t' o', o' < g.2.2.2 t' → ¬ (t' = t ∧ o' = o) → mv_cell cI cQ φ g' t' o' = mv_cell cI cQ φ g t' o') (hcnt : g'.2.2.2 = g.2.2.2) (hcl : ∀ t o k q, o < g.2.2.2 t → g'.2.1 t o k = some q → q.2 < g.2.2.2 q.1) : mv_W D cI cQ q0 φ g' H1 := by
  obtain ⟨h1, h2, h3, h4, h5⟩ := hW
  have hl := (List.getElem?_eq_some_iff.mp hp).1
  refine ⟨fun t' o' h' => ?_, by rw [hcnt]; exact h2, by rw [hcnt]; exact h3, by rw [hcnt]; exact hcl, by rw [hcnt]; exact h5⟩
  rw [hcnt] at h'
  by_cases hto : t' = t ∧ o' = o
  · obtain ⟨rfl, rfl⟩ := hto
    rw [he]
    exact hP1 p _ (List.getElem?_set_self hl)
  · rw [hoth t' o' h' hto]
    obtain ⟨k, hk⟩ := hcov t' o' h'
    refine hP1 k _ ?_
    rw [List.getElem?_set_ne (fun e => ?_)]
    · exact hk
    · subst e
      have h6 := Option.some.inj (hp.symm.trans hk)
      exact hto (h3 t' o' t o h' ho (Prod.mk.inj h6).1.symm)
/-- the picture with one more cell of a tag: nothing in it -/
def mv_mk (g : mv_G) (t n : Nat) : mv_G :=
  (fun t' o' k => if t' = t ∧ o' = g.2.2.2 t then 0 else g.1 t' o' k, fun t' o' k => if t' = t ∧ o' = g.2.2.2 t then none else g.2.1 t' o' k, fun t' o' => if t' = t ∧ o' = g.2.2.2 t then n else g.2.2.1 t' o', fun t' => if t' = t then g.2.2.2 t + 1 else g.2.2.2 t')
def mv_phi (φ : Nat → Nat → Nat) (t c q : Nat) : Nat → Nat → Nat := fun t' o' => if t' = t ∧ o' = c then q else φ t' o'
theorem mv_cell_congr {cI cQ : ClassId} {φ φ' : Nat → Nat → Nat} {g g' : mv_G} {t o : Nat} (h1 : ∀ k, g'.1 t o k = g.1 t o k) (h2 : ∀ k, (g'.2.1 t o k).map (fun q => φ' q.1 q.2) = (g.2.1 t o k).map fun q => φ q.1 q.2) (h3 : g'.2.2.1 t o = g.2.2.1 t o) : mv_cell cI cQ φ' g' t o = mv_cell cI cQ φ g t o := by
  have hf : mv_fv φ' g' t o = mv_fv φ g t o := by
    funext k
    unfold mv_fv
    rw [h1, h2]
  have h4 : (fun k => (g'.2.1 t o k).map fun q => φ' q.1 q.2) = fun k => (g.2.1 t o k).map fun q => φ q.1 q.2 := funext h2
  have h5 : g'.1 t o = g.1 t o := funext h1
  unfold mv_cell
  rw [hf, h4, h3, h5]
theorem mv_W.new {D : va_G} {cI cQ : ClassId} {q0 : Nat} {φ : Nat → Nat → Nat} {g : mv_G} {H H1 : Heap} (hW : mv_W D cI cQ q0 φ g H) {ws : va_W} (hcov : ∀ t o, o < g.2.2.2 t → ∃ k : Nat, ws[k]? = some (φ t o, mv_cell cI cQ φ g t o)) {t n q : Nat} {e1 : va_E} (ht : t < 10 ∨ 100 ≤ t)
    (hP1 : va_P D vwCl (ws ++ [(q, e1)]) H1) (hD1 : va_D (fun q => q0 ≤ q) (ws ++ [(q, e1)])) (he : mv_cell cI cQ (mv_phi φ t (g.2.2.2 t) q) (mv_mk g t n) t (g.2.2.2 t) = e1) :
    mv_W D cI cQ q0 (mv_phi φ t (g.2.2.2 t) q) (mv_mk g t n) H1 ∧ mv_ge g φ (mv_mk g t n) (mv_phi φ t (g.2.2.2 t) q) := by
  obtain ⟨h1, h2, h3, h4, ⟨ts, hn, hts⟩, hx⟩ := hW
  have hge : mv_ge g φ (mv_mk g t n) (mv_phi φ t (g.2.2.2 t) q) := by
    refine ⟨fun t' o' h' => ?_, fun t' o' ha hb => ?_, fun t' => ?_⟩
    · show (if t' = t ∧ o' = g.2.2.2 t then q else φ t' o') = φ t' o'
      rw [if_neg (fun e => by obtain ⟨rfl, rfl⟩ := e; omega)]
    · show (if t' = t ∧ o' = g.2.2.2 t then q else φ t' o') = φ t' o'
      rw [if_neg (fun e => by obtain ⟨rfl, rfl⟩ := e; omega)]
    · show g.2.2.2 t' ≤ if t' = t then g.2.2.2 t + 1 else g.2.2.2 t'
      split
      · next e => subst e; omega
      · exact Nat.le_refl _
  have hold : ∀ t' o', o' < (mv_mk g t n).2.2.2 t' → (t' = t ∧ o' = g.2.2.2 t) ∨ (¬ (t' = t ∧ o' = g.2.2.2 t) ∧ o' < g.2.2.2 t') := by
    intro t' o' h'
    change o' < (if t' = t then g.2.2.2 t + 1 else g.2.2.2 t') at h'
    by_cases e : t' = t
    · subst e
      rw [if_pos rfl] at h'
      by_cases e2 : o' = g.2.2.2 t'
      · exact Or.inl ⟨rfl, e2⟩
      · exact Or.inr ⟨fun z => e2 z.2, by omega⟩
    · rw [if_neg e] at h'
      exact Or.inr ⟨fun z => e z.1, h'⟩
  have hnew : mv_phi φ t (g.2.2.2 t) q t (g.2.2.2 t) = q := if_pos ⟨rfl, rfl⟩
  have hlast : (ws ++ [(q, e1)])[ws.length]? = some (q, e1) := by
    rw [List.getElem?_append_right (Nat.le_refl _), Nat.sub_self]; rfl
  have hin : ∀ t' o', o' < g.2.2.2 t' → ∃ k : Nat, k < ws.length ∧ (ws ++ [(q, e1)])[k]? = some (φ t' o', mv_cell cI cQ φ g t' o') := by
    intro t' o' h'
    obtain ⟨k, hk⟩ := hcov t' o' h'
    have hl := (List.getElem?_eq_some_iff.mp hk).1
    exact ⟨k, hl, by rw [List.getElem?_append_left hl]; exact hk⟩
  refine ⟨⟨fun t' o' h' => ?_, fun t' o' h' => ?_, fun t' o' t2 o2 ha hb e => ?_, fun t' o' k z h' hz => ?_, ?_, ?_⟩, hge⟩
  · rcases hold t' o' h' with ⟨rfl, rfl⟩ | ⟨hne, hlt⟩
    · rw [he, hnew]
      exact hP1 _ _ hlast
    · obtain ⟨k, -, hk⟩ := hin t' o' hlt
      have hc : mv_cell cI cQ (mv_phi φ t (g.2.2.2 t) q) (mv_mk g t n) t' o' = mv_cell cI cQ φ g t' o' := by
        refine mv_cell_congr (fun k => if_neg hne) (fun k => ?_) (if_neg hne)
        show (if t' = t ∧ o' = g.2.2.2 t then none else g.2.1 t' o' k).map _ = _
        rw [if_neg hne]
        cases hr : g.2.1 t' o' k with
        | none => rfl
        | some z => exact congrArg some (hge.1 _ _ (h4 _ _ _ _ hlt hr))
      rw [hc, hge.1 _ _ hlt]
      exact hP1 k _ hk
  · rcases hold t' o' h' with ⟨rfl, rfl⟩ | ⟨hne, hlt⟩
    · rw [hnew]; exact hD1.2 _ _ hlast
    · rw [hge.1 _ _ hlt]; exact h2 _ _ hlt
  · rcases hold t' o' ha with ⟨rfl, rfl⟩ | ⟨hne, hlt⟩ <;> rcases hold t2 o2 hb with ⟨rfl, rfl⟩ | ⟨hne2, hlt2⟩
    · exact ⟨rfl, rfl⟩
    · obtain ⟨k, hk1, hk⟩ := hin t2 o2 hlt2
      rw [hnew, hge.1 _ _ hlt2] at e
      have := hD1.1 _ _ _ _ hlast hk e
      omega
    · obtain ⟨k, hk1, hk⟩ := hin t' o' hlt
      rw [hnew, hge.1 _ _ hlt] at e
      have := hD1.1 _ _ _ _ hk hlast e
      omega
    · rw [hge.1 _ _ hlt, hge.1 _ _ hlt2] at e
      exact h3 _ _ _ _ hlt hlt2 e
  · rcases hold t' o' h' with ⟨rfl, rfl⟩ | ⟨hne, hlt⟩
    · have hz' : (if t' = t' ∧ g.2.2.2 t' = g.2.2.2 t' then none else g.2.1 t' (g.2.2.2 t') k) = some z := hz
      rw [if_pos ⟨rfl, rfl⟩] at hz'
      cases hz'
    · have hz' : (if t' = t ∧ o' = g.2.2.2 t then none else g.2.1 t' o' k) = some z := hz
      rw [if_neg hne] at hz'
      exact Nat.lt_of_lt_of_le (h4 _ _ _ _ hlt hz') (hge.2.2 _)
  · by_cases hm : t ∈ ts
    · refine ⟨ts, hn, fun t' h' => ?_⟩
      change 0 < (if t' = t then g.2.2.2 t + 1 else g.2.2.2 t') at h'
      by_cases e : t' = t
      · rw [e]; exact hm
      · rw [if_neg e] at h'; exact hts _ h'
    · refine ⟨t :: ts, List.nodup_cons.mpr ⟨hm, hn⟩, fun t' h' => ?_⟩
      change 0 < (if t' = t then g.2.2.2 t + 1 else g.2.2.2 t') at h'
      by_cases e : t' = t
      · rw [e]; exact List.mem_cons_self
      · rw [if_neg e] at h'; exact List.mem_cons_of_mem _ (hts _ h')
  · intro t' ha hb
    show (if t' = t then g.2.2.2 t + 1 else g.2.2.2 t') = 0
    rw [if_neg (by omega)]
    exact hx t' ha hb
theorem mv_single {D : va_G} {cl : List vw_C} {q : Nat × va_E} {H : Heap} (h : va_at D cl q H) : va_P D cl [q] H := by
  intro k x hk
  match k, hk with
  | 0, hk => cases hk; exact h
  | k + 1, hk => cases hk
-- ===== reads and writes of the heap =====
def mv_setI (g : mv_G) (t o k : Nat) (v : Int32) : mv_G := (fun t' o' k' => if t' = t ∧ o' = o ∧ k' = k then v else g.1 t' o' k', g.2)
def mv_setR (g : mv_G) (t o k : Nat) (q : Option (Nat × Nat)) : mv_G := (g.1, fun t' o' k' => if t' = t ∧ o' = o ∧ k' = k then q else g.2.1 t' o' k', g.2.2)
def mv_setC (g : mv_G) (t o o' n : Nat) : mv_G := (fun t' q k => if t' = t ∧ q = o' ∧ k < n then g.1 t o k else g.1 t' q k, g.2)
/-- the heap's operations are what they should be -/
def mv_Ax {Hp : Type} (rI : Hp → Nat → Nat → Nat → Int32) (rR : Hp → Nat → Nat → Nat → (Option (Nat × Nat) → Option (List mv_V × Hp)) → Option (List mv_V × Hp)) (ln : Hp → Nat → Nat → Nat) (wI : Hp → Nat → Nat → Nat → Int32 → Hp) (wR : Hp → Nat → Nat → Nat → Option (Nat × Nat) → (Hp → Option (List mv_V × Hp)) → Option (List mv_V × Hp)) (nw : Hp → Nat → Nat → (Nat → Hp → Option (List mv_V × Hp)) → Option (List mv_V × Hp)) (cp : Hp → Nat → Nat → Nat → Nat → Nat → Hp) (vw : Hp → mv_G) : Prop :=
  (∀ h t o k, rI h t o k = (vw h).1 t o k) ∧ (∀ h t o k ka res, rR h t o k ka = some res → ka ((vw h).2.1 t o k) = some res) ∧ (∀ h t o, ln h t o = (vw h).2.2.1 t o) ∧ (∀ h t o k v, vw (wI h t o k v) = mv_setI (vw h) t o k v) ∧
  (∀ h t o k q ka res, wR h t o k q ka = some res → ∃ h', ka h' = some res ∧ vw h' = mv_setR (vw h) t o k q ∧ ∀ z, q = some z → z.2 < (vw h).2.2.2 z.1) ∧
  (∀ h t n ka res, nw h t n ka = some res → ∃ h', ka ((vw h).2.2.2 t) h' = some res ∧ vw h' = mv_mk (vw h) t n) ∧ (∀ h t o o' n z, vw (cp h t o o' n z) = mv_setC (vw h) t o o' n)
def mv_chkH (own name : String) (i : Instr) (len : Nat) (lk : List Nat) : Bool := match i with
  | .getfield x => (match lk with
    | 11 :: _ :: 3 :: _ :: a :: b :: _ => decide (len = 3) && wAt a b (.fieldLink own x "java/lang/String" "value" "[B")
    | 11 :: _ :: 4 :: _ :: a :: b :: _ => decide (len = 3) && wAt a b (.fieldLink own x "java/lang/String" "coder" "B")
    | ci :: f :: kd :: ne :: a :: b :: _ => decide (len = 3) && (decide (ci < 9) && (decide (f < mv_nf ci) && (decide (Nat.beq kd 1 = mv_isR ci f) && (match ne with
      | 0 => wAt a b (.fieldLink own x (mv_T ci f).1 (mv_T ci f).2.1 (mv_T ci f).2.2.1)
      | _ => decide ((own, x, (mv_T ci f).1, (mv_T ci f).2.1, (mv_T ci f).2.2.1) = ("IntentVats", 79, "IntentVats$Tape", "length", "I"))))))
    | _ => false)
  | .putfield x => (match lk with
    | ci :: f :: kd :: _ :: a :: b :: _ => decide (len = 3) && (decide (ci < 9) && (decide (f < mv_nf ci) && (decide (Nat.beq kd 1 = mv_isR ci f) && (decide (Nat.beq kd 2 = decide (mv_ty ci f = .boolean)) && (wAt a b (.fieldLink own x (mv_T ci f).1 (mv_T ci f).2.1 (mv_T ci f).2.2.1) && (!(mv_T ci f).2.2.2 || (decide (name = "<init>") && decide ((mv_T ci f).1 = own))))))))
    | _ => false)
  | .getstatic x => (match lk with
    | 13 :: a :: b :: _ => decide (len = 3) && wAt a b (.fieldLink own x "IntentVats$Acts" "BODIES" "[I")
    | 14 :: a :: b :: _ => decide (len = 3) && wAt a b (.fieldLink own x "jdk/internal/util/Preconditions" "SIOOBE_FORMATTER" "Ljava/util/function/BiFunction;")
    | 15 :: a :: b :: _ => decide (len = 3) && wAt a b (.fieldLink own x "java/lang/String" "COMPACT_STRINGS" "Z")
    | _ => false)
  | _ => decide (len = 1)
theorem mv_inb_in {i : Int32} {n : Nat} (h : mv_inb i n = true) : vp_in i n := by
  intro hn
  simp only [mv_inb, Bool.not_eq_true', Bool.or_eq_false_iff, decide_eq_false_iff_not] at h
  rcases hn with h1 | h1
  · exact h.1 h1
  · exact absurd (Nat.ble_eq.mpr h1) (by rw [h.2]; decide)
theorem mv_obj {cI cQ : ClassId} {φ : Nat → Nat → Nat} {g : mv_G} {t o : Nat} (h : t < 9) : mv_cell cI cQ φ g t o = .inr (t, (List.range (mv_nf t)).map (mv_fv φ g t o)) := if_pos h
theorem mv_ia_cell {cI cQ : ClassId} {φ : Nat → Nat → Nat} {g : mv_G} {t o : Nat} (h : mv_ia t = true) : mv_cell cI cQ φ g t o = .inl (cI, g.2.2.1 t o, .inl (g.1 t o)) := by
  simp only [mv_ia, Bool.and_eq_true, Bool.not_eq_true'] at h
  have h1 : 100 ≤ t := Nat.ble_eq.mp h.1
  unfold mv_cell
  rw [if_neg (by omega), if_neg (by rw [h.2]; decide)]
theorem mv_ra_cell {cI cQ : ClassId} {φ : Nat → Nat → Nat} {g : mv_G} {t o : Nat} (h : mv_ra t = true) : mv_cell cI cQ φ g t o = .inl (cQ, g.2.2.1 t o, .inr (.inr (.inr (.inr fun k => (g.2.1 t o k).map fun q => φ q.1 q.2)))) := by
  have h1 : ¬ t < 9 := by
    intro h2
    simp only [mv_ra, Bool.or_eq_true] at h
    rcases h with h | h
    · have := Nat.eq_of_beq_eq_true h; omega
    · have := Nat.eq_of_beq_eq_true h; omega
  unfold mv_cell
  rw [if_neg h1, if_pos h]
theorem mv_live.int {g : mv_G} {t o : Nat} (h : mv_live g (.inr (t, o))) (ht : t < 10 ∨ 100 ≤ t) : o < g.2.2.2 t := by
  rcases h with h | h
  · exact h
  · obtain ⟨a, b, -⟩ := h
    change 10 ≤ t at a
    change t < 100 at b
    omega
theorem mv_live.str {D : va_G} {cI cQ : ClassId} {q0 : Nat} {φ : Nat → Nat → Nat} {g : mv_G} {H : Heap} {t o : Nat} (hW : mv_W D cI cQ q0 φ g H) (h : mv_live g (.inr (t, o))) (ht : t = 11 ∨ t = 12) : o < 36 := by
  rcases h with h | h
  · have hz := hW.2.2.2.2.2 t (by omega) (by omega)
    change o < g.2.2.2 t at h
    omega
  · exact h.2.2 ht
theorem mv_ia_big {t : Nat} (h : mv_ia t = true) : 100 ≤ t := by
  simp only [mv_ia, Bool.and_eq_true] at h
  exact Nat.ble_eq.mp h.1
theorem mv_ra_big {t : Nat} (h : mv_ra t = true) : 100 ≤ t := by
  simp only [mv_ra, Bool.or_eq_true] at h
  rcases h with h | h
  · have := Nat.eq_of_beq_eq_true h; omega
  · have := Nat.eq_of_beq_eq_true h; omega
theorem mv_live.cnt {g g' : mv_G} (hc : g'.2.2.2 = g.2.2.2) {v : mv_V} (h : mv_live g v) : mv_live g' v := by
  cases v with
  | inl _ => trivial
  | inr q =>
    show q.2 < g'.2.2.2 q.1 ∨ _
    rw [hc]; exact h
theorem mv_set_range {α : Type} (f f' : Nat → α) (k N : Nat) (v : α) (h1 : f' k = v) (h2 : ∀ j, j ≠ k → f' j = f j) : ((List.range N).map f).set k v = (List.range N).map f' := by
  apply List.ext_getElem?
  intro j
  rw [List.getElem?_set]
  by_cases e : k = j
  · subst e
    rw [if_pos rfl, List.getElem?_map, List.length_map, List.length_range]
    by_cases hk : k < N
    · rw [if_pos hk, List.getElem?_range hk]
      exact congrArg some h1.symm
    · rw [if_neg hk, List.getElem?_eq_none (by rw [List.length_range]; omega)]
      rfl
  · rw [if_neg e, List.getElem?_map, List.getElem?_map]
    by_cases hj : j < N
    · rw [List.getElem?_range hj]
      exact congrArg some (h2 j (Ne.symm e)).symm
    · rw [List.getElem?_eq_none (by rw [List.length_range]; omega)]
      rfl
theorem mv_isR_ref : ∀ t, t < 9 → ∀ f, f < mv_nf t → mv_isR t f = true → (mv_ty t f).isReference = true := by decide +kernel
theorem mv_isR_int {t f : Nat} (h : mv_isR t f = false) (h2 : ¬ mv_ty t f = .boolean) : mv_ty t f = .int := by
  unfold mv_isR at h
  split at h
  · next e => exact e
  · next e => exact absurd e h2
  · cases h
theorem mv_nar_ref (ty : FieldType) (a : Nat) : narrow ty (.ref a) = .ref a := by cases ty <;> rfl
theorem mv_nar_null (ty : FieldType) : narrow ty .null = .null := by cases ty <;> rfl
theorem mv_fit_ref (ty : FieldType) (a : Nat) (h : ty.isReference = true) : fits ty (.ref a) = true := by cases ty <;> first | rfl | cases h
theorem mv_fit_null (ty : FieldType) (h : ty.isReference = true) : fits ty .null = true := by cases ty <;> first | rfl | cases h
section
variable {Hp : Type} {rI : Hp → Nat → Nat → Nat → Int32} {rR : Hp → Nat → Nat → Nat → (Option (Nat × Nat) → Option (List mv_V × Hp)) → Option (List mv_V × Hp)} {ln : Hp → Nat → Nat → Nat} {wI : Hp → Nat → Nat → Nat → Int32 → Hp} {wR : Hp → Nat → Nat → Nat → Option (Nat × Nat) → (Hp → Option (List mv_V × Hp)) → Option (List mv_V × Hp)} {nw : Hp → Nat → Nat → (Nat → Hp → Option (List mv_V × Hp)) → Option (List mv_V × Hp)} {cp : Hp → Nat → Nat → Nat → Nat → Nat → Hp} {vw : Hp → mv_G}
variable {p : Program} {l : Launch} {e : Env} {R : Room} {s : State} {m : MethodId} {args : Array Value} {below : List Frame} {meth : Method} {c : Code} {H : Heap} {locs : List Loc} {cells slots : Nat} {Q : State → Prop} {pc : Nat} {ls : Array Slot} {φ φ0 : Nat → Nat → Nat} {md : mv_MD} {n MC MS : Nat} {sc : Option (Nat × (Nat → Int32))} {D : va_G} {cI cQ : ClassId} {q0 : Nat}
set_option maxHeartbeats 8000000 in
theorem mv_hop_sound (hA : mv_Ax rI rR ln wI wR nw cp vw) (hB : mv_B md n MC MS sc p R s m args meth c D cI cQ q0 φ0) (hφ : ∀ t o, 10 ≤ t → t < 100 → φ t o = φ0 t o) {i : Instr} {len : Nat} {lk : List Nat} (hd : decode md.2.1 pc = .ok (i, len)) (hc : mv_chkH md.1.cls md.1.name i len lk = true)
    {st : List mv_V} {h : Hp} {k : List mv_V → Hp → Option (List mv_V × Hp)} {res : List mv_V × Hp} (hh : mv_hop rI rR ln wI wR bod sc i lk st h k = some res) (hv : ∀ v ∈ st, mv_live (vw h) v) (hW : mv_W D cI cQ q0 φ (vw h) H) (hS : va_S (fun q => q0 ≤ q) s.heap H locs)
    (kk : ∀ st' h' H' locs', k st' h' = some res → (∀ v ∈ st', mv_live (vw h') v) → (vw h').2.2.2 = (vw h).2.2.2 → mv_W D cI cQ q0 φ (vw h') H' → va_S (fun q => q0 ≤ q) s.heap H' locs' → W p l e R s m args below meth c H' locs' cells slots Q (F0 m (pc + len) ls (st'.map (mv_v φ)))) : W p l e R s m args below meth c H locs cells slots Q (F0 m pc ls (st.map (mv_v φ))) := by
  obtain ⟨hx, hb, hml, hown, hnm, hts, hK, hq0, hR, hE, hScr⟩ := hB
  obtain ⟨aI, aR, aL, aW, aV, aN, aC⟩ := hA
  obtain ⟨ws, hP, hDw, hcov⟩ := mv_cover hW
  unfold mv_hop at hh
  split at hh
  · -- getfield
    split at hh
    · next ci f kd rest =>
      split at hh
      · next t o st =>
        split at hh
        · next hteq =>
          have hteq := Nat.eq_of_beq_eq_true hteq
          subst hteq
          simp only [mv_chkH] at hc
          split at hc
          · next heq =>
            cases heq
            simp only [Bool.and_eq_true, decide_eq_true_eq] at hc
            obtain ⟨rfl, hl⟩ := hc
            obtain ⟨hv0, hv1⟩ := List.forall_mem_cons.mp hv
            have ho := mv_live.str hW hv0 (Or.inl rfl)
            have hOF := (hE.2.1 o ho).2.2.1
            have h5 := kk _ _ _ _ hh (List.forall_mem_cons.mpr ⟨Or.inr ⟨show 10 ≤ 12 by decide, show 12 < 100 by decide, fun _ => ho⟩, hv1⟩) rfl hW hS
            have h6 := va_getX (p := p) (l := l) (e := e) (R := R) (m := m) (args := args) (below := below) (meth := meth) (cells := cells) (slots := slots) (Q := Q) (ls := ls) (rest := st.map (mv_v φ)) (N := 1) (v := fun _ => .ref (φ0 12 o)) (ad := fun _ => φ0 11 o) (i := 0) hx hb (fun _ _ => hOF) (by decide) hS hown (hts _ (wAt_in hl)) (fun _ h9 => h9) hd (by rw [← hφ 12 o (by decide) (by decide)]; exact h5)
            rw [← hφ 11 o (by decide) (by decide)] at h6
            exact h6
          · next heq =>
            cases heq
            simp only [Bool.and_eq_true, decide_eq_true_eq] at hc
            obtain ⟨rfl, hl⟩ := hc
            obtain ⟨hv0, hv1⟩ := List.forall_mem_cons.mp hv
            have ho := mv_live.str hW hv0 (Or.inl rfl)
            have hOF := (hE.2.1 o ho).2.1
            have h5 := kk _ _ _ _ hh (List.forall_mem_cons.mpr ⟨trivial, hv1⟩) rfl hW hS
            have h6 := va_getX (p := p) (l := l) (e := e) (R := R) (m := m) (args := args) (below := below) (meth := meth) (cells := cells) (slots := slots) (Q := Q) (ls := ls) (rest := st.map (mv_v φ)) (N := 1) (v := fun _ => .int 0) (ad := fun _ => φ0 11 o) (i := 0) hx hb (fun _ _ => hOF) (by decide) hS hown (hts _ (wAt_in hl)) (fun _ h9 => h9) hd h5
            rw [← hφ 11 o (by decide) (by decide)] at h6
            exact h6
          · next heq =>
            cases heq
            simp only [Bool.and_eq_true, decide_eq_true_eq] at hc
            obtain ⟨rfl, hci, hf, hkd, hl⟩ := hc
            obtain ⟨hv0, hv1⟩ := List.forall_mem_cons.mp hv
            have hlo := hv0.int (Or.inl (by omega))
            obtain ⟨p0, hp0⟩ := hcov t o hlo
            rw [mv_obj hci] at hp0
            have hfs : ((List.range (mv_nf t)).map (mv_fv φ (vw h) t o))[f]? = some (mv_fv φ (vw h) t o f) := by
              rw [List.getElem?_map, List.getElem?_range hf]; rfl
            have hgo : ∀ (kk2 : W p l e R s m args below meth c H locs cells slots Q (F0 m (pc + 3) ls (mv_fv φ (vw h) t o f :: st.map (mv_v φ)))), W p l e R s m args below meth c H locs cells slots Q (F0 m pc ls (.ref (φ t o) :: st.map (mv_v φ))) := by
              intro kk2
              split at hl
              · exact va_get hx hb hts (mv_wsin t hci) hown hK hP p0 hp0 (mv_clOf t hci) f hf (hts _ (wAt_in hl)) (fun _ h9 => h9) hfs hd kk2
              · have hl := of_decide_eq_true hl
                simp only [Prod.mk.injEq] at hl
                obtain ⟨e1, e2, e3, e4, e5⟩ := hl
                have hnw := va_Nw.use (A := args) rfl hE.2.2.2.2.2.2.2.1
                rw [← e1, ← e2, ← e3, ← e4, ← e5] at hnw
                exact va_getN hx hb hts (mv_wsin t hci) hown hK hP p0 hp0 (mv_clOf t hci) f hf hnw (fun _ h9 => h9) hfs hd kk2
            refine hgo ?_
            split at hh
            · next hk1 =>
              rw [hk1] at hkd
              have h3 := aR _ _ _ _ _ _ hh
              unfold mv_fv
              rw [← hkd]
              cases hr : (vw h).2.1 t o f with
              | none => rw [hr] at h3; exact kk _ _ _ _ h3 (List.forall_mem_cons.mpr ⟨trivial, hv1⟩) rfl hW hS
              | some z => rw [hr] at h3; exact kk _ _ _ _ h3 (List.forall_mem_cons.mpr ⟨Or.inl (hW.2.2.2.1 _ _ _ _ hlo hr), hv1⟩) rfl hW hS
            · next hk1 =>
              rw [hk1] at hkd
              unfold mv_fv
              rw [← hkd, ← aI]
              split at hh
              · next h11 =>
                have := Nat.eq_of_beq_eq_true h11
                omega
              · exact kk _ _ _ _ hh (List.forall_mem_cons.mpr ⟨trivial, hv1⟩) rfl hW hS
          · cases hc
        · cases hh
      · cases hh
    · cases hh
  · -- putfield
    split at hh
    · next ci f kd rest =>
      simp only [mv_chkH] at hc
      split at hc
      · next heq =>
        cases heq
        simp only [Bool.and_eq_true, decide_eq_true_eq] at hc
        obtain ⟨rfl, hci, hf, hkd, hkb, hl, hfin⟩ := hc
        -- the row, for any value of the field's type
        have hput : ∀ (o : Nat) (h' : Hp) (v : Value) (rst : List Value), o < (vw h).2.2.2 ci → narrow (mv_ty ci f) v = v → fits (mv_ty ci f) v = true → mv_fv φ (vw h') ci o f = v → (∀ j, j ≠ f → mv_fv φ (vw h') ci o j = mv_fv φ (vw h) ci o j) → (∀ t' o', ¬ (t' = ci ∧ o' = o) → mv_cell cI cQ φ (vw h') t' o' = mv_cell cI cQ φ (vw h) t' o') → (vw h').2.2.2 = (vw h).2.2.2 → (∀ t o k q, o < (vw h).2.2.2 t → (vw h').2.1 t o k = some q → q.2 < (vw h).2.2.2 q.1) →
            (∀ H1 locs1, mv_W D cI cQ q0 φ (vw h') H1 → va_S (fun q => q0 ≤ q) s.heap H1 locs1 → W p l e R s m args below meth c H1 locs1 cells slots Q (F0 m (pc + 3) ls rst)) → W p l e R s m args below meth c H locs cells slots Q (F0 m pc ls (v :: .ref (φ ci o) :: rst)) := by
          intro o h' v rst hlo hn hfit h1 h2 h3 h4 h5 k2
          obtain ⟨p0, hp0⟩ := hcov ci o hlo
          rw [mv_obj hci] at hp0
          have hlen : f < ((List.range (mv_nf ci)).map (mv_fv φ (vw h) ci o)).length := by rw [List.length_map, List.length_range]; exact hf
          have hgo : ∀ (H1 : Heap) (locs1 : List Loc), va_P D vwCl (ws.set p0 (φ ci o, .inr (ci, ((List.range (mv_nf ci)).map (mv_fv φ (vw h) ci o)).set f v))) H1 → va_D (fun q => q0 ≤ q) (ws.set p0 (φ ci o, .inr (ci, ((List.range (mv_nf ci)).map (mv_fv φ (vw h) ci o)).set f v))) → va_S (fun q => q0 ≤ q) s.heap H1 locs1 → W p l e R s m args below meth c H1 locs1 cells slots Q (F0 m (pc + 3) ls rst) := by
            intro H1 locs1 hP1 _ hS1
            refine k2 H1 locs1 (hW.set hcov hp0 hlo hP1 ?_ (fun t' o' _ hne => h3 t' o' hne) h4 h5) hS1
            rw [mv_obj hci, mv_set_range _ _ _ _ _ h1 h2]
          cases hf2 : (mv_T ci f).2.2.2 with
          | false => exact va_put hx hb hts (mv_wsin ci hci) (mv_ty ci) (mv_tyok ci hci) (mv_nm ci hci) hown hK hP hDw hS p0 hp0 (mv_clOf ci hci) f hf (hts _ (wAt_in hl)) (fun _ h9 => h9) hf2 (mv_tyok ci hci f hf) hn hfit hlen hd hgo
          | true =>
            rw [hf2] at hfin
            simp only [Bool.not_true, Bool.false_or, Bool.and_eq_true, decide_eq_true_eq] at hfin
            exact va_putF hx hb hts (mv_wsin ci hci) (mv_ty ci) (mv_tyok ci hci) (mv_nm ci hci) hown hK hP hDw hS p0 hp0 (mv_clOf ci hci) f hf (hts _ (wAt_in hl)) (fun _ h9 => h9) hf2 (hnm.trans hfin.1) hfin.2 (mv_tyok ci hci f hf) hn hfit hlen hd hgo
        split at hh
        · next hk1 =>
          rw [hk1] at hkd
          have hrf := mv_isR_ref ci hci f hf hkd.symm
          split at hh
          · next q t o st =>
            split at hh
            · next hteq =>
              have hteq := Nat.eq_of_beq_eq_true hteq
              subst hteq
              obtain ⟨hq1, hv1⟩ := List.forall_mem_cons.mp hv
              obtain ⟨hv0, hv2⟩ := List.forall_mem_cons.mp hv1
              have hlo := hv0.int (Or.inl (by omega))
              obtain ⟨h', h3, h4, h5⟩ := aV _ _ _ _ _ _ _ hh
              refine hput o h' (.ref (φ q.1 q.2)) _ hlo (mv_nar_ref _ _) (mv_fit_ref _ _ hrf) ?_ ?_ ?_ (by rw [h4]; rfl) ?_ fun H1 locs1 hW1 hS1 => kk _ _ _ _ h3 (fun v hv => (hv2 v hv).cnt (by rw [h4]; rfl)) (by rw [h4]; rfl) hW1 hS1
              · rw [h4]
                unfold mv_fv
                rw [← hkd]
                show va_rf ((if t = t ∧ o = o ∧ f = f then some q else _).map _) = _
                rw [if_pos ⟨rfl, rfl, rfl⟩]
                rfl
              · intro j hj
                rw [h4]
                unfold mv_fv
                show (match mv_isR t j with | true => va_rf ((if t = t ∧ o = o ∧ j = f then some q else (vw h).2.1 t o j).map _) | false => _) = _
                rw [if_neg (fun z => hj z.2.2)]
                rfl
              · intro t' o' hne
                rw [h4]
                refine mv_cell_congr (fun _ => rfl) (fun k => ?_) rfl
                show (if t' = t ∧ o' = o ∧ k = f then some q else (vw h).2.1 t' o' k).map _ = _
                rw [if_neg (fun z => hne ⟨z.1, z.2.1⟩)]
              · intro t1 o1 k1 z hlt hz
                rw [h4] at hz
                change (if t1 = t ∧ o1 = o ∧ k1 = f then some q else (vw h).2.1 t1 o1 k1) = some z at hz
                split at hz
                · cases hz; exact h5 _ rfl
                · exact hW.2.2.2.1 _ _ _ _ hlt hz
            · cases hh
          · next t o st =>
            split at hh
            · next hteq =>
              have hteq := Nat.eq_of_beq_eq_true hteq
              subst hteq
              obtain ⟨-, hv1⟩ := List.forall_mem_cons.mp hv
              obtain ⟨hv0, hv2⟩ := List.forall_mem_cons.mp hv1
              have hlo := hv0.int (Or.inl (by omega))
              obtain ⟨h', h3, h4, h5⟩ := aV _ _ _ _ _ _ _ hh
              refine hput o h' .null _ hlo (mv_nar_null _) (mv_fit_null _ hrf) ?_ ?_ ?_ (by rw [h4]; rfl) ?_ fun H1 locs1 hW1 hS1 => kk _ _ _ _ h3 (fun v hv => (hv2 v hv).cnt (by rw [h4]; rfl)) (by rw [h4]; rfl) hW1 hS1
              · rw [h4]
                unfold mv_fv
                rw [← hkd]
                show va_rf ((if t = t ∧ o = o ∧ f = f then none else _).map _) = _
                rw [if_pos ⟨rfl, rfl, rfl⟩]
                rfl
              · intro j hj
                rw [h4]
                unfold mv_fv
                show (match mv_isR t j with | true => va_rf ((if t = t ∧ o = o ∧ j = f then none else (vw h).2.1 t o j).map _) | false => _) = _
                rw [if_neg (fun z => hj z.2.2)]
                rfl
              · intro t' o' hne
                rw [h4]
                refine mv_cell_congr (fun _ => rfl) (fun k => ?_) rfl
                show (if t' = t ∧ o' = o ∧ k = f then none else (vw h).2.1 t' o' k).map _ = _
                rw [if_neg (fun z => hne ⟨z.1, z.2.1⟩)]
              · intro t1 o1 k1 z hlt hz
                rw [h4] at hz
                change (if t1 = t ∧ o1 = o ∧ k1 = f then none else (vw h).2.1 t1 o1 k1) = some z at hz
                split at hz
                · cases hz
                · exact hW.2.2.2.1 _ _ _ _ hlt hz
            · cases hh
          · cases hh
        · next hk1 =>
          rw [hk1] at hkd
          split at hh
          · next x t o st =>
            split at hh
            · next hteq =>
              have hteq := Nat.eq_of_beq_eq_true hteq
              subst hteq
              obtain ⟨-, hv1⟩ := List.forall_mem_cons.mp hv
              obtain ⟨hv0, hv2⟩ := List.forall_mem_cons.mp hv1
              have hlo := hv0.int (Or.inl (by omega))
              have hall : mv_bh (wI h t o f x) (fun h => k st h) = some res → narrow (mv_ty t f) (.int x) = .int x → fits (mv_ty t f) (.int x) = true → W p l e R s m args below meth c H locs cells slots Q (F0 m pc ls (List.map (mv_v φ) (.inl (.int x) :: .inr (t, o) :: st))) := by
                intro h3 hn hfit
                have h4 := aW h t o f x
                refine hput o (wI h t o f x) (.int x) _ hlo hn hfit ?_ ?_ ?_ (by rw [h4]; rfl) ?_ fun H1 locs1 hW1 hS1 => kk _ _ _ _ h3 (fun v hv => (hv2 v hv).cnt (by rw [h4]; rfl)) (by rw [h4]; rfl) hW1 hS1
                · rw [h4]
                  unfold mv_fv
                  rw [← hkd]
                  show Value.int (if t = t ∧ o = o ∧ f = f then x else _) = _
                  rw [if_pos ⟨rfl, rfl, rfl⟩]
                · intro j hj
                  rw [h4]
                  unfold mv_fv
                  show (match mv_isR t j with | true => _ | false => Value.int (if t = t ∧ o = o ∧ j = f then x else (vw h).1 t o j)) = _
                  rw [if_neg (fun z => hj z.2.2)]
                  rfl
                · intro t' o' hne
                  rw [h4]
                  refine mv_cell_congr (fun k => ?_) (fun _ => rfl) rfl
                  show (if t' = t ∧ o' = o ∧ k = f then x else (vw h).1 t' o' k) = _
                  rw [if_neg (fun z => hne ⟨z.1, z.2.1⟩)]
                · intro t1 o1 k1 z hlt hz
                  rw [h4] at hz
                  exact hW.2.2.2.1 _ _ _ _ hlt hz
              split at hh
              · next hk2 =>
                rw [hk2] at hkb
                obtain ⟨hg, hh⟩ := mv_gd_some hh
                have hty : mv_ty t f = .boolean := of_decide_eq_true hkb.symm
                simp only [Bool.or_eq_true, decide_eq_true_eq] at hg
                rcases hg with rfl | rfl
                · exact hall hh (by rw [hty]; rfl) (by rw [hty]; rfl)
                · exact hall hh (by rw [hty]; rfl) (by rw [hty]; rfl)
              · next hk2 =>
                rw [hk2] at hkb
                have hty : mv_ty t f = .int := mv_isR_int hkd.symm (of_decide_eq_false hkb.symm)
                exact hall hh (by rw [hty]; rfl) (by rw [hty]; rfl)
            · cases hh
          · cases hh
      · cases hc
    · cases hh
  · -- iaload
    simp only [mv_chkH, decide_eq_true_eq] at hc
    subst hc
    split at hh
    · next x t o st =>
      obtain ⟨-, hv1⟩ := List.forall_mem_cons.mp hv
      obtain ⟨hv0, hv2⟩ := List.forall_mem_cons.mp hv1
      split at hh
      · next ht =>
        simp only [Bool.and_eq_true] at ht
        have h1 := Nat.eq_of_beq_eq_true ht.1
        have h2 := Nat.eq_of_beq_eq_true ht.2
        subst h1; subst h2
        split at hh
        · next q =>
          obtain ⟨hg, hh⟩ := mv_gd_some hh
          obtain ⟨s1, s2, s3⟩ := hScr q rfl
          have h3 := va_sld (p := p) (l := l) (e := e) (R := R) (m := m) (args := args) (below := below) (meth := meth) (cells := cells) (slots := slots) (Q := Q) (ls := ls) (rest := st.map (mv_v φ)) hx hb s1 s2 s3 hS (mv_inb_in hg) hd (kk _ _ _ _ hh (List.forall_mem_cons.mpr ⟨trivial, hv2⟩) rfl hW hS)
          rw [← hφ 10 0 (by decide) (by decide)] at h3
          exact h3
        · cases hh
      · split at hh
        · next ht =>
          simp only [Bool.and_eq_true] at ht
          have h1 := Nat.eq_of_beq_eq_true ht.1
          have h2 := Nat.eq_of_beq_eq_true ht.2
          subst h1; subst h2
          obtain ⟨hg, hh⟩ := mv_gd_some hh
          have h3 := va_ti (p := p) (l := l) (e := e) (R := R) (m := m) (args := args) (below := below) (meth := meth) (cells := cells) (slots := slots) (Q := Q) (ls := ls) (rest := st.map (mv_v φ)) hx hb hE.2.2.2.1 hS (mv_inb_in hg) rfl hd (kk _ _ _ _ hh (List.forall_mem_cons.mpr ⟨trivial, hv2⟩) rfl hW hS)
          rw [← hφ 13 0 (by decide) (by decide)] at h3
          exact h3
        · split at hh
          · next hia =>
            obtain ⟨hg, hh⟩ := mv_gd_some hh
            have hlo := hv0.int (Or.inr (mv_ia_big hia))
            have hat := hW.1 t o hlo
            rw [mv_ia_cell hia] at hat
            rw [aL] at hg
            rw [aI] at hh
            exact va_iald hx hb hK (mv_single hat) 0 0 rfl rfl (mv_inb_in hg) hd (kk _ _ _ _ hh (List.forall_mem_cons.mpr ⟨trivial, hv2⟩) rfl hW hS)
          · cases hh
    · cases hh
  · -- iastore
    simp only [mv_chkH, decide_eq_true_eq] at hc
    subst hc
    split at hh
    · next v x t o st =>
      obtain ⟨-, hv1⟩ := List.forall_mem_cons.mp hv
      obtain ⟨-, hv2⟩ := List.forall_mem_cons.mp hv1
      obtain ⟨hv0, hv3⟩ := List.forall_mem_cons.mp hv2
      split at hh
      · next hia =>
        obtain ⟨hg, hh⟩ := mv_gd_some hh
        have hlo := hv0.int (Or.inr (mv_ia_big hia))
        obtain ⟨p0, hp0⟩ := hcov t o hlo
        rw [mv_ia_cell hia] at hp0
        rw [aL] at hg
        have h4 := aW h t o x.toNatClampNeg v
        refine va_iast hx hb hK hP hDw hS p0 0 hp0 rfl (mv_inb_in hg) hd fun H1 locs1 hP1 _ hS1 => ?_
        refine kk _ _ _ _ hh (fun v hv => (hv3 v hv).cnt (by rw [h4]; rfl)) (by rw [h4]; rfl) (hW.set hcov hp0 hlo hP1 ?_ (fun t' o' _ hne => ?_) (by rw [h4]; rfl) ?_) hS1
        · rw [mv_ia_cell hia, h4]
          have : (mv_setI (vw h) t o x.toNatClampNeg v).1 t o = upd ((vw h).1 t o) x.toNatClampNeg v := by
            funext j
            show (if t = t ∧ o = o ∧ j = x.toNatClampNeg then v else (vw h).1 t o j) = _
            by_cases hj : j = x.toNatClampNeg
            · rw [if_pos ⟨rfl, rfl, hj⟩]; simp [upd, hj]
            · rw [if_neg (fun z => hj z.2.2)]; simp [upd, hj]
          rw [this]
          rfl
        · rw [h4]
          refine mv_cell_congr (fun k => ?_) (fun _ => rfl) rfl
          show (if t' = t ∧ o' = o ∧ k = x.toNatClampNeg then v else (vw h).1 t' o' k) = _
          rw [if_neg (fun z => hne ⟨z.1, z.2.1⟩)]
        · intro t1 o1 k1 z hlt hz
          rw [h4] at hz
          exact hW.2.2.2.1 _ _ _ _ hlt hz
      · cases hh
    · cases hh
  · -- aaload
    simp only [mv_chkH, decide_eq_true_eq] at hc
    subst hc
    split at hh
    · next x t o st =>
      obtain ⟨-, hv1⟩ := List.forall_mem_cons.mp hv
      obtain ⟨hv0, hv2⟩ := List.forall_mem_cons.mp hv1
      split at hh
      · next hra =>
        obtain ⟨hg, hh⟩ := mv_gd_some hh
        have hlo := hv0.int (Or.inr (mv_ra_big hra))
        have hat := hW.1 t o hlo
        rw [mv_ra_cell hra] at hat
        rw [aL] at hg
        have h3 := aR _ _ _ _ _ _ hh
        refine va_aldq hx hb hK (mv_single hat) 0 1 rfl rfl (mv_inb_in hg) hd ?_
        cases hr : (vw h).2.1 t o x.toNatClampNeg with
        | none => rw [hr] at h3; exact kk _ _ _ _ h3 (List.forall_mem_cons.mpr ⟨trivial, hv2⟩) rfl hW hS
        | some z => rw [hr] at h3; exact kk _ _ _ _ h3 (List.forall_mem_cons.mpr ⟨Or.inl (hW.2.2.2.1 _ _ _ _ hlo hr), hv2⟩) rfl hW hS
      · cases hh
    · cases hh
  · -- aastore
    simp only [mv_chkH, decide_eq_true_eq] at hc
    subst hc
    have hset : ∀ (t o j : Nat) (q : Option (Nat × Nat)) (h' : Hp), mv_ra t = true → vw h' = mv_setR (vw h) t o j q → mv_cell cI cQ φ (vw h') t o = .inl (cQ, (vw h).2.2.1 t o, .inr (.inr (.inr (.inr (va_up (fun k => ((vw h).2.1 t o k).map fun q => φ q.1 q.2) j (q.map fun q => φ q.1 q.2)))))) := by
      intro t o j q h' hra h4
      rw [mv_ra_cell hra, h4]
      have : (fun k => ((mv_setR (vw h) t o j q).2.1 t o k).map fun q => φ q.1 q.2) = va_up (fun k => ((vw h).2.1 t o k).map fun q => φ q.1 q.2) j (q.map fun q => φ q.1 q.2) := by
        funext k
        show (if t = t ∧ o = o ∧ k = j then q else (vw h).2.1 t o k).map _ = _
        by_cases hj : k = j
        · rw [if_pos ⟨rfl, rfl, hj⟩]; simp [va_up, hj]
        · rw [if_neg (fun z => hj z.2.2)]; simp [va_up, hj]
      rw [this]
      rfl
    have hoth : ∀ (t o j : Nat) (q : Option (Nat × Nat)) (h' : Hp), vw h' = mv_setR (vw h) t o j q → ∀ t' o', ¬ (t' = t ∧ o' = o) → mv_cell cI cQ φ (vw h') t' o' = mv_cell cI cQ φ (vw h) t' o' := by
      intro t o j q h' h4 t' o' hne
      rw [h4]
      refine mv_cell_congr (fun _ => rfl) (fun k => ?_) rfl
      show (if t' = t ∧ o' = o ∧ k = j then q else (vw h).2.1 t' o' k).map _ = _
      rw [if_neg (fun z => hne ⟨z.1, z.2.1⟩)]
    have hcls : ∀ (t o j : Nat) (q : Option (Nat × Nat)) (h' : Hp), vw h' = mv_setR (vw h) t o j q → (∀ z, q = some z → z.2 < (vw h).2.2.2 z.1) → ∀ t o k q, o < (vw h).2.2.2 t → (vw h').2.1 t o k = some q → q.2 < (vw h).2.2.2 q.1 := by
      intro t o j q h' h4 h5 t1 o1 k1 z hlt hz
      rw [h4] at hz
      change (if t1 = t ∧ o1 = o ∧ k1 = j then q else (vw h).2.1 t1 o1 k1) = some z at hz
      split at hz
      · exact h5 _ hz
      · exact hW.2.2.2.1 _ _ _ _ hlt hz
    split at hh
    · next u z x t o st =>
      obtain ⟨hvu, hv1⟩ := List.forall_mem_cons.mp hv
      obtain ⟨-, hv2⟩ := List.forall_mem_cons.mp hv1
      obtain ⟨hv0, hv3⟩ := List.forall_mem_cons.mp hv2
      split at hh
      · next hra =>
        simp only [Bool.and_eq_true] at hra
        obtain ⟨hra, hu⟩ := hra
        have hu := Nat.eq_of_beq_eq_true hu
        subst hu
        obtain ⟨hg, hh⟩ := mv_gd_some hh
        have hlo := hv0.int (Or.inr (mv_ra_big hra))
        have hlu := hvu.int (Or.inl (by decide))
        obtain ⟨p0, hp0⟩ := hcov t o hlo
        rw [mv_ra_cell hra] at hp0
        obtain ⟨p1, hp1⟩ := hcov 4 z hlu
        rw [mv_obj (by decide)] at hp1
        rw [aL] at hg
        obtain ⟨h', h3, h4, h5⟩ := aV _ _ _ _ _ _ _ hh
        refine va_astq (r := (mv_R 4, mv_T 4, mv_nf 4)) hx hb hK hP hDw hS p0 1 p1 4 hp0 rfl hp1 (mv_clOf 4 (by decide)) (mv_inb_in hg) hd fun H1 locs1 hP1 _ hS1 => ?_
        exact kk _ _ _ _ h3 (fun v hv => (hv3 v hv).cnt (by rw [h4]; rfl)) (by rw [h4]; rfl) (hW.set hcov hp0 hlo hP1 (hset _ _ _ _ _ hra h4) (fun t' o' _ hne => hoth _ _ _ _ _ h4 t' o' hne) (by rw [h4]; rfl) (hcls _ _ _ _ _ h4 h5)) hS1
      · cases hh
    · next x t o st =>
      obtain ⟨-, hv1⟩ := List.forall_mem_cons.mp hv
      obtain ⟨-, hv2⟩ := List.forall_mem_cons.mp hv1
      obtain ⟨hv0, hv3⟩ := List.forall_mem_cons.mp hv2
      split at hh
      · next hra =>
        obtain ⟨hg, hh⟩ := mv_gd_some hh
        have hlo := hv0.int (Or.inr (mv_ra_big hra))
        obtain ⟨p0, hp0⟩ := hcov t o hlo
        rw [mv_ra_cell hra] at hp0
        rw [aL] at hg
        obtain ⟨h', h3, h4, h5⟩ := aV _ _ _ _ _ _ _ hh
        refine va_astqN hx hb hK hP hDw hS p0 1 hp0 rfl (mv_inb_in hg) hd fun H1 locs1 hP1 _ hS1 => ?_
        exact kk _ _ _ _ h3 (fun v hv => (hv3 v hv).cnt (by rw [h4]; rfl)) (by rw [h4]; rfl) (hW.set hcov hp0 hlo hP1 (hset _ _ _ _ _ hra h4) (fun t' o' _ hne => hoth _ _ _ _ _ h4 t' o' hne) (by rw [h4]; rfl) (hcls _ _ _ _ _ h4 h5)) hS1
      · cases hh
    · cases hh
  · -- arraylength
    simp only [mv_chkH, decide_eq_true_eq] at hc
    subst hc
    split at hh
    · next t o st =>
      obtain ⟨hv0, hv1⟩ := List.forall_mem_cons.mp hv
      split at hh
      · next ht =>
        simp only [Bool.and_eq_true] at ht
        have h1 := Nat.eq_of_beq_eq_true ht.1
        have h2 := Nat.eq_of_beq_eq_true ht.2
        subst h1; subst h2
        split at hh
        · next q =>
          obtain ⟨s1, s2, s3⟩ := hScr q rfl
          have h3 := va_slen (p := p) (l := l) (e := e) (R := R) (m := m) (args := args) (below := below) (meth := meth) (cells := cells) (slots := slots) (Q := Q) (ls := ls) (rest := st.map (mv_v φ)) hx hb s1 s2 s3 hS hd (kk _ _ _ _ hh (List.forall_mem_cons.mpr ⟨trivial, hv1⟩) rfl hW hS)
          rw [← hφ 10 0 (by decide) (by decide)] at h3
          exact h3
        · cases hh
      · split at hh
        · next h12 =>
          have h1 := Nat.eq_of_beq_eq_true h12
          subst h1
          have ho := mv_live.str hW hv0 (Or.inr rfl)
          have h3 := va_tlen (p := p) (l := l) (e := e) (R := R) (m := m) (args := args) (below := below) (meth := meth) (cells := cells) (slots := slots) (Q := Q) (ls := ls) (rest := st.map (mv_v φ)) hx hb (hE.2.1 o ho).2.2.2 hS rfl hd (kk _ _ _ _ hh (List.forall_mem_cons.mpr ⟨trivial, hv1⟩) rfl hW hS)
          rw [← hφ 12 o (by decide) (by decide)] at h3
          exact h3
        split at hh
        · next h100 =>
          have h100 := Nat.ble_eq.mp h100
          have hlo := hv0.int (Or.inr h100)
          have hat := hW.1 t o hlo
          rw [aL] at hh
          cases hra : mv_ra t with
          | true =>
            rw [mv_ra_cell hra] at hat
            exact va_alen hx hb hK (mv_single hat) 0 1 rfl rfl rfl hd (kk _ _ _ _ hh (List.forall_mem_cons.mpr ⟨trivial, hv1⟩) rfl hW hS)
          | false =>
            have hia : mv_ia t = true := by unfold mv_ia; rw [hra, Nat.ble_eq.mpr h100]; rfl
            rw [mv_ia_cell hia] at hat
            exact va_alen hx hb hK (mv_single hat) 0 0 rfl rfl rfl hd (kk _ _ _ _ hh (List.forall_mem_cons.mpr ⟨trivial, hv1⟩) rfl hW hS)
        · cases hh
    · cases hh
  · -- baload
    simp only [mv_chkH, decide_eq_true_eq] at hc
    subst hc
    split at hh
    · next x t o st =>
      obtain ⟨-, hv1⟩ := List.forall_mem_cons.mp hv
      obtain ⟨hv0, hv2⟩ := List.forall_mem_cons.mp hv1
      split at hh
      · next h12 =>
        have h1 := Nat.eq_of_beq_eq_true h12
        subst h1
        have ho := mv_live.str hW hv0 (Or.inr rfl)
        obtain ⟨hg, hh2⟩ := mv_gd_some hh
        have h3 := va_tb (p := p) (l := l) (e := e) (R := R) (m := m) (args := args) (below := below) (meth := meth) (cells := cells) (slots := slots) (Q := Q) (ls := ls) (rest := st.map (mv_v φ)) hx hb (hE.2.1 o ho).2.2.2 hS (mv_inb_in hg) rfl hd (kk _ _ _ _ hh2 (List.forall_mem_cons.mpr ⟨trivial, hv2⟩) rfl hW hS)
        rw [← hφ 12 o (by decide) (by decide)] at h3
        exact h3
      · cases hh
    · cases hh
  · -- getstatic
    split at hh
    · next t rest =>
      split at hh
      · next ht =>
        have ht2 := Nat.eq_of_beq_eq_true ht
        subst ht2
        simp only [mv_chkH] at hc
        split at hc
        · next heq =>
          cases heq
          simp only [Bool.and_eq_true, decide_eq_true_eq] at hc
          obtain ⟨rfl, hl⟩ := hc
          have h3 := va_gets (p := p) (l := l) (e := e) (R := R) (m := m) (args := args) (below := below) (meth := meth) (cells := cells) (slots := slots) (Q := Q) (ls := ls) (rest := st.map (mv_v φ)) hx hb hE.2.2.1 hS hown (hts _ (wAt_in hl)) (fun _ h9 => h9) hd (by
            rw [← hφ 13 0 (by decide) (by decide)]
            exact kk _ _ _ _ hh (List.forall_mem_cons.mpr ⟨Or.inr ⟨by decide, by decide, fun h => absurd h (by decide)⟩, hv⟩) rfl hW hS)
          exact h3
        all_goals first | (next heq => cases heq) | cases hc
      · split at hh
        · next ht =>
          cases hh
        · next h13 _ h14 =>
          simp only [mv_chkH] at hc
          split at hc
          · next heq => cases heq; exact absurd h13 (by decide)
          · next heq => cases heq; exact absurd h14 (by decide)
          · next heq =>
            cases heq
            simp only [Bool.and_eq_true, decide_eq_true_eq] at hc
            obtain ⟨rfl, hl⟩ := hc
            exact va_gets (p := p) (l := l) (e := e) (R := R) (m := m) (args := args) (below := below) (meth := meth) (cells := cells) (slots := slots) (Q := Q) (ls := ls) (rest := st.map (mv_v φ)) hx hb hE.2.2.2.2.1 hS hown (hts _ (wAt_in hl)) (fun _ h9 => h9) hd (kk _ _ _ _ hh (List.forall_mem_cons.mpr ⟨trivial, hv⟩) rfl hW hS)
          · cases hc
    · cases hh
  · cases hh
end
