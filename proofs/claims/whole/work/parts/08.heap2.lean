/-! THE HEAP of a run once both systems stand: ints by tag, number, place; what the sheets and shelves hold (numbers of rows), a row's items, its length, how many rows and items there are -/
abbrev SH2 : Type := ((Nat → Option Nat) × (Nat → Option Nat)) × ((Nat → Option Nat) × ((Nat → Nat) × (Nat × Nat)))
abbrev H2 : Type := (Nat → Nat → Nat → Int32) × SH2
abbrev O2 : Type := Option (List mv_V × H2)
def mv_up3 (I : Nat → Nat → Nat → Int32) (t o k : Nat) (v : Int32) : Nat → Nat → Nat → Int32 := fun t' o' k' => cond (Nat.beq t' t && (Nat.beq o' o && Nat.beq k' k)) v (I t' o' k')
def mv_up1 {α : Type} (f : Nat → α) (k : Nat) (v : α) : Nat → α := fun k' => cond (Nat.beq k' k) v (f k')
def rI2 (h : H2) (t o k : Nat) : Int32 := h.1 t o k
def sht2 (h : H2) (k : Nat) : Option Nat := h.2.1.1 k
def hld2 (h : H2) (k : Nat) : Option Nat := h.2.1.2 k
def itm2 (h : H2) (r : Nat) : Option Nat := h.2.2.1 r
def len2 (h : H2) (r : Nat) : Nat := h.2.2.2.1 r
def nr2 (h : H2) : Nat := h.2.2.2.2.1
def ni2 (h : H2) : Nat := h.2.2.2.2.2
def mv_lens : List (Nat × Nat) := [(300, 4), (301, 8), (302, 8), (303, 6), (304, 8), (305, 8), (306, 8), (307, 8), (308, 8), (100, 30), (400, 30), (600, 4), (601, 4), (700, 200), (807, 4), (900, 4), (901, 4), (902, 69), (903, 69), (904, 69), (906, 200), (911, 30), (913, 4), (914, 4), (915, 160), (916, 4), (917, 4), (918, 4), (919, 30)]
def mv_lk (t : Nat) : List (Nat × Nat) → Nat
  | [] => 0
  | q :: l => cond (Nat.beq q.1 t) q.2 (mv_lk t l)
def ln2 (h : H2) (t o : Nat) : Nat := cond (Nat.beq t 501) (len2 h o) (mv_lk t mv_lens)
def wI2 (h : H2) (t o k : Nat) (v : Int32) : H2 := (mv_up3 h.1 t o k v, h.2)
def rR2 (h : H2) (t o k : Nat) (ka : Option (Nat × Nat) → O2) : O2 :=
  cond (Nat.beq t 2 && Nat.ble k 8) (ka (some (300 + k, o))) (cond (Nat.beq t 8 && mv_mem k [0, 1, 2, 3, 4, 6, 11, 13, 14, 15, 16, 17, 18, 19]) (ka (some (900 + k, o))) (cond (Nat.beq t 7) (match k with
    | 0 => ka (some (2, 0))
    | 1 => ka (some (2, 1))
    | 2 => ka (some (2, 2))
    | 4 => ka (some (1, 0))
    | 5 => ka (some (6, 0))
    | 6 => ka (some (3, 0))
    | 7 => ka (some (807, 0))
    | 8 => ka (some (5, 0))
    | 9 => ka (some (0, 0))
    | _ => none) (cond (Nat.beq t 1) (ka (some (2, 3))) (cond (Nat.beq t 0) (ka (some (100, o))) (cond (Nat.beq t 3) (ka (some (400, o))) (cond (Nat.beq t 5 && Nat.ble k 1) (ka (some (600 + k, 0))) (cond (Nat.beq t 6) (ka (some (700, o))) (cond (Nat.beq t 4 && Nat.beq k 1) (mv_el (itm2 h o) (ka none) fun r => ka (some (501, r))) (cond (Nat.beq t 807 && Nat.beq o 0) (mv_el (sht2 h k) (ka none) fun r => ka (some (4, r))) (cond (Nat.beq t 601 && Nat.beq o 0) (mv_el (hld2 h k) (ka none) fun r => ka (some (4, r))) none))))))))))
def wR2 (h : H2) (t o k : Nat) (q : Option (Nat × Nat)) (ka : H2 → O2) : O2 := match q with
  | none => cond (Nat.beq t 807 && Nat.beq o 0) (ka (h.1, (mv_up1 h.2.1.1 k none, h.2.1.2), h.2.2)) (cond (Nat.beq t 601 && Nat.beq o 0) (ka (h.1, (h.2.1.1, mv_up1 h.2.1.2 k none), h.2.2)) none)
  | some (u, r) => cond (Nat.beq t 807 && (Nat.beq o 0 && Nat.beq u 4)) (mv_gd (Nat.ble (r + 1) (nr2 h)) (ka (h.1, (mv_up1 h.2.1.1 k (some r), h.2.1.2), h.2.2))) (cond (Nat.beq t 601 && (Nat.beq o 0 && Nat.beq u 4)) (mv_gd (Nat.ble (r + 1) (nr2 h)) (ka (h.1, (h.2.1.1, mv_up1 h.2.1.2 k (some r)), h.2.2))) (cond (Nat.beq t 4 && (Nat.beq u 501 && Nat.beq k 1)) (mv_gd (Nat.ble (r + 1) (ni2 h)) (ka (h.1, h.2.1, mv_up1 h.2.2.1 o (some r), h.2.2.2))) none))
def nw2 (h : H2) (t n : Nat) (ka : Nat → H2 → O2) : O2 :=
  cond (Nat.beq t 4 && Nat.beq n 0) (ka (nr2 h) (fun t' o' k' => cond (Nat.beq t' 4 && Nat.beq o' (nr2 h)) 0 (h.1 t' o' k'), h.2.1, mv_up1 h.2.2.1 (nr2 h) none, h.2.2.2.1, nr2 h + 1, ni2 h)) (cond (Nat.beq t 501) (ka (ni2 h) (fun t' o' k' => cond (Nat.beq t' 501 && Nat.beq o' (ni2 h)) 0 (h.1 t' o' k'), h.2.1, h.2.2.1, mv_up1 h.2.2.2.1 (ni2 h) n, nr2 h, ni2 h + 1)) none)
def cp2 (h : H2) (t o o' n _z : Nat) : H2 := (fun t' q k => cond (Nat.beq t' t && (Nat.beq q o' && decide (k < n))) (h.1 t o k) (h.1 t' q k), h.2)
def mv_rV (r : O2) (k : H2 → O2) : O2 := match r with
  | some ([], h) => k h
  | _ => none
def mv_rI (r : O2) (k : Int32 → H2 → O2) : O2 := match r with
  | some ([.inl (.int x)], h) => k x h
  | _ => none
def mv_rL (r : O2) (k : Int64 → H2 → O2) : O2 := match r with
  | some ([.inl (.long x)], h) => k x h
  | _ => none
def mv_rR (t : Nat) (r : O2) (k : Nat → H2 → O2) : O2 := match r with
  | some ([.inr (u, n)], h) => mv_gd (Nat.beq u t) (k n h)
  | _ => none
def mv_rQ (r : O2) (a : H2 → O2) (k : Nat → H2 → O2) : O2 := match r with
  | some ([.inl .null], h) => a h
  | some ([.inr (u, n)], h) => mv_gd (Nat.beq u 4) (k n h)
  | _ => none
def mv_gI (k : Nat) (lv : mv_L) (f : Int32 → O2) : O2 := match mv_get k lv with
  | some (.inl (.int x)) => f x
  | _ => none
def mv_gL (k : Nat) (lv : mv_L) (f : Int64 → O2) : O2 := match mv_get k lv with
  | some (.inl (.long x)) => f x
  | _ => none
def mv_gR (k t : Nat) (lv : mv_L) (f : Nat → O2) : O2 := match mv_get k lv with
  | some (.inr (u, o)) => mv_gd (Nat.beq u t) (f o)
  | _ => none
def mv_sI (st : List mv_V) (f : Int32 → List mv_V → O2) : O2 := match st with
  | .inl (.int x) :: st => f x st
  | _ => none
def mv_sL (st : List mv_V) (f : Int64 → List mv_V → O2) : O2 := match st with
  | .inl (.long x) :: st => f x st
  | _ => none
def mv_sR (t : Nat) (st : List mv_V) (f : Nat → List mv_V → O2) : O2 := match st with
  | .inr (u, o) :: st => mv_gd (Nat.beq u t) (f o st)
  | _ => none
def mv_sE (st : List mv_V) (r : O2) : O2 := match st with
  | [] => r
  | _ => none
theorem mv_cond_some {α : Type} {b : Bool} {x y : Option α} {r : α} (h : cond b x y = some r) : (b = true ∧ x = some r) ∨ (b = false ∧ y = some r) := by
  cases b with
  | true => exact Or.inl ⟨rfl, h⟩
  | false => exact Or.inr ⟨rfl, h⟩
theorem mv_z2 {a b : Nat} (h : (Nat.beq a 0 && Nat.beq b 0) = true) : a = 0 ∧ b = 0 := by
  simp only [Bool.and_eq_true] at h
  exact ⟨Nat.eq_of_beq_eq_true h.1, Nat.eq_of_beq_eq_true h.2⟩
theorem mv_rV_some {r : O2} {k : H2 → O2} {z : List mv_V × H2} (h : mv_rV r k = some z) : ∃ h', r = some ([], h') ∧ k h' = some z := by
  unfold mv_rV at h
  split at h
  · exact ⟨_, rfl, h⟩
  · cases h
theorem mv_rI_some {r : O2} {k : Int32 → H2 → O2} {z : List mv_V × H2} (h : mv_rI r k = some z) : ∃ x h', r = some ([.inl (.int x)], h') ∧ k x h' = some z := by
  unfold mv_rI at h
  split at h
  · exact ⟨_, _, rfl, h⟩
  · cases h
theorem mv_rL_some {r : O2} {k : Int64 → H2 → O2} {z : List mv_V × H2} (h : mv_rL r k = some z) : ∃ x h', r = some ([.inl (.long x)], h') ∧ k x h' = some z := by
  unfold mv_rL at h
  split at h
  · exact ⟨_, _, rfl, h⟩
  · cases h
theorem mv_rR_some {t : Nat} {r : O2} {k : Nat → H2 → O2} {z : List mv_V × H2} (h : mv_rR t r k = some z) : ∃ x h', r = some ([.inr (t, x)], h') ∧ k x h' = some z := by
  unfold mv_rR at h
  split at h
  · obtain ⟨hg, h2⟩ := mv_gd_some h
    obtain rfl := Nat.eq_of_beq_eq_true hg
    exact ⟨_, _, rfl, h2⟩
  · cases h
theorem mv_rQ_some {r : O2} {a : H2 → O2} {k : Nat → H2 → O2} {z : List mv_V × H2} (h : mv_rQ r a k = some z) : (∃ h', r = some ([.inl .null], h') ∧ a h' = some z) ∨ ∃ x h', r = some ([.inr (4, x)], h') ∧ k x h' = some z := by
  unfold mv_rQ at h
  split at h
  · exact Or.inl ⟨_, rfl, h⟩
  · obtain ⟨hg, h2⟩ := mv_gd_some h
    obtain rfl := Nat.eq_of_beq_eq_true hg
    exact Or.inr ⟨_, _, rfl, h2⟩
  · cases h
theorem mv_gI_some {k : Nat} {lv : mv_L} {f : Int32 → O2} {z : List mv_V × H2} (h : mv_gI k lv f = some z) : ∃ x, (k, .inl (.int x)) ∈ lv ∧ f x = some z := by
  unfold mv_gI at h
  split at h
  · next x e => exact ⟨x, mv_get_mem e, h⟩
  · cases h
theorem mv_gL_some {k : Nat} {lv : mv_L} {f : Int64 → O2} {z : List mv_V × H2} (h : mv_gL k lv f = some z) : ∃ x, (k, .inl (.long x)) ∈ lv ∧ f x = some z := by
  unfold mv_gL at h
  split at h
  · next x e => exact ⟨x, mv_get_mem e, h⟩
  · cases h
theorem mv_gR_some {k t : Nat} {lv : mv_L} {f : Nat → O2} {z : List mv_V × H2} (h : mv_gR k t lv f = some z) : ∃ x, (k, .inr (t, x)) ∈ lv ∧ f x = some z := by
  unfold mv_gR at h
  split at h
  · next u o e =>
    obtain ⟨hg, h2⟩ := mv_gd_some h
    obtain rfl := Nat.eq_of_beq_eq_true hg
    exact ⟨o, mv_get_mem e, h2⟩
  · cases h
theorem mv_sI_some {st : List mv_V} {f : Int32 → List mv_V → O2} {z : List mv_V × H2} (h : mv_sI st f = some z) : ∃ x st', st = .inl (.int x) :: st' ∧ f x st' = some z := by
  unfold mv_sI at h
  split at h
  · exact ⟨_, _, rfl, h⟩
  · cases h
theorem mv_sL_some {st : List mv_V} {f : Int64 → List mv_V → O2} {z : List mv_V × H2} (h : mv_sL st f = some z) : ∃ x st', st = .inl (.long x) :: st' ∧ f x st' = some z := by
  unfold mv_sL at h
  split at h
  · exact ⟨_, _, rfl, h⟩
  · cases h
theorem mv_sR_some {t : Nat} {st : List mv_V} {f : Nat → List mv_V → O2} {z : List mv_V × H2} (h : mv_sR t st f = some z) : ∃ x st', st = .inr (t, x) :: st' ∧ f x st' = some z := by
  unfold mv_sR at h
  split at h
  · obtain ⟨hg, h2⟩ := mv_gd_some h
    obtain rfl := Nat.eq_of_beq_eq_true hg
    exact ⟨_, _, rfl, h2⟩
  · cases h
theorem mv_sE_some {st : List mv_V} {r : O2} {z : List mv_V × H2} (h : mv_sE st r = some z) : st = [] ∧ r = some z := by
  unfold mv_sE at h
  split at h
  · exact ⟨rfl, h⟩
  · cases h
theorem mv_X.sub {Hp : Type} {vw : Hp → mv_G} {md : mv_MD} {n MC MS : Nat} {sc : Option (Nat × (Nat → Int32))} {g0 : mv_G} {res : List mv_V × Hp} {pc : Nat} {lv lv' : mv_L} {st : List mv_V} {h : Hp} {ce sl : Nat} (hX : mv_X vw md n MC MS sc g0 res pc lv' st h ce sl) (hs : ∀ q ∈ lv', q ∈ lv) : mv_X vw md n MC MS sc g0 res pc lv st h ce sl := by
  intro p l e R s m args below meth c D cI cQ q0 φ0 Qf hB hRet hce hsl hv hvl φ H locs ls hge hW hS hl
  refine hX p l e R s m args below meth c D cI cQ q0 φ0 Qf hB hRet hce hsl hv (fun q hq => hvl q (hs q hq)) φ H locs ls hge hW hS ⟨hl.1, hl.2.1, fun q hq => ?_⟩
  obtain ⟨a, ha, rfl⟩ := List.mem_map.mp hq
  exact hl.2.2 _ (List.mem_map.mpr ⟨a, hs a ha, rfl⟩)
-- the picture of such a heap
def rrs2 (h : H2) (t o k : Nat) : Option (Nat × Nat) :=
  cond (Nat.beq t 2 && Nat.ble k 8) (some (300 + k, o)) (cond (Nat.beq t 8 && mv_mem k [0, 1, 2, 3, 4, 6, 11, 13, 14, 15, 16, 17, 18, 19]) (some (900 + k, o)) (cond (Nat.beq t 7) (match k with
    | 0 => some (2, 0)
    | 1 => some (2, 1)
    | 2 => some (2, 2)
    | 4 => some (1, 0)
    | 5 => some (6, 0)
    | 6 => some (3, 0)
    | 7 => some (807, 0)
    | 8 => some (5, 0)
    | 9 => some (0, 0)
    | _ => none) (cond (Nat.beq t 1) (some (2, 3)) (cond (Nat.beq t 0) (some (100, o)) (cond (Nat.beq t 3) (some (400, o)) (cond (Nat.beq t 5 && Nat.ble k 1) (some (600 + k, 0)) (cond (Nat.beq t 6) (some (700, o)) (cond (Nat.beq t 4 && Nat.beq k 1) ((itm2 h o).map fun r => (501, r)) (cond (Nat.beq t 807 && Nat.beq o 0) ((sht2 h k).map fun r => (4, r)) (cond (Nat.beq t 601 && Nat.beq o 0) ((hld2 h k).map fun r => (4, r)) none))))))))))
def mv_cnts : List (Nat × Nat) := [(0, 1), (1, 1), (2, 4), (3, 1), (5, 1), (6, 1), (7, 1), (8, 1), (300, 4), (301, 4), (302, 4), (303, 4), (304, 4), (305, 4), (306, 4), (307, 4), (308, 4), (100, 1), (400, 1), (600, 1), (601, 1), (700, 1), (807, 1), (900, 1), (901, 1), (902, 1), (903, 1), (904, 1), (906, 1), (911, 1), (913, 1), (914, 1), (915, 1), (916, 1), (917, 1), (918, 1), (919, 1)]
def cnt2 (h : H2) (t : Nat) : Nat := cond (Nat.beq t 4) (nr2 h) (cond (Nat.beq t 501) (ni2 h) (mv_lk t mv_cnts))
def vw2 (h : H2) : mv_G := (h.1, rrs2 h, ln2 h, cnt2 h)
theorem mv_beq_if (a b : Nat) : Nat.beq a b = decide (a = b) := by
  rw [Bool.eq_iff_iff, decide_eq_true_eq]
  exact ⟨Nat.eq_of_beq_eq_true, fun h => by subst h; exact Nat.beq_refl a⟩
theorem mv_up3_if (I : Nat → Nat → Nat → Int32) (t o k : Nat) (v : Int32) : mv_up3 I t o k v = fun t' o' k' => if t' = t ∧ o' = o ∧ k' = k then v else I t' o' k' := by
  funext t' o' k'
  simp only [mv_up3, mv_beq_if]
  by_cases h1 : t' = t <;> by_cases h2 : o' = o <;> by_cases h3 : k' = k <;> simp [h1, h2, h3]
theorem mv_up1_if {α : Type} (f : Nat → α) (k : Nat) (v : α) : mv_up1 f k v = fun k' => if k' = k then v else f k' := by
  funext k'
  simp only [mv_up1, mv_beq_if]
  by_cases h3 : k' = k <;> simp [h3]
theorem rR2_some (h : H2) (t o k : Nat) (ka : Option (Nat × Nat) → O2) (res : List mv_V × H2) (hh : rR2 h t o k ka = some res) : ka (rrs2 h t o k) = some res := by
  have key : ∀ (b : Bool) (x y : O2) (u v : Option (Nat × Nat)), cond b x y = some res → (x = some res → ka u = some res) → (y = some res → ka v = some res) → ka (cond b u v) = some res := by
    intro b x y u v h1 h2 h3
    cases b with
    | true => exact h2 h1
    | false => exact h3 h1
  have kel : ∀ (t : Nat) (z : Option Nat), mv_el z (ka none) (fun r => ka (some (t, r))) = some res → ka (z.map fun r => (t, r)) = some res := by
    intro t z h1
    cases z with
    | none => exact h1
    | some r => exact h1
  unfold rR2 at hh
  unfold rrs2
  refine key _ _ _ _ _ hh id fun hh => key _ _ _ _ _ hh id fun hh => key _ _ _ _ _ hh (fun hh => ?_) fun hh => key _ _ _ _ _ hh id fun hh => key _ _ _ _ _ hh id fun hh => key _ _ _ _ _ hh id fun hh => key _ _ _ _ _ hh id fun hh => key _ _ _ _ _ hh id fun hh => key _ _ _ _ _ hh (kel _ _) fun hh => key _ _ _ _ _ hh (kel _ _) fun hh => key _ _ _ _ _ hh (kel _ _) fun hh => by cases hh
  split at hh <;> first | exact hh | cases hh
theorem ax2 : mv_Ax rI2 rR2 ln2 wI2 wR2 nw2 cp2 vw2 := by
  refine ⟨fun _ _ _ _ => rfl, rR2_some, fun _ _ _ => rfl, fun h t o k v => ?_, fun h t o k q ka res hh => ?_, fun h t n ka res hh => ?_, fun h t o o' n z => ?_⟩
  · show (mv_up3 h.1 t o k v, rrs2 (wI2 h t o k v), ln2 (wI2 h t o k v), cnt2 (wI2 h t o k v)) = mv_setI (vw2 h) t o k v
    rw [mv_up3_if]
    rfl
  · have h807 : ∀ (z : Option Nat), vw2 (h.1, (mv_up1 h.2.1.1 k z, h.2.1.2), h.2.2) = mv_setR (vw2 h) 807 0 k (z.map fun r => (4, r)) := by
      intro z
      refine Prod.ext rfl (Prod.ext ?_ rfl)
      funext t' o' k'
      show rrs2 (h.1, (mv_up1 h.2.1.1 k z, h.2.1.2), h.2.2) t' o' k' = if t' = 807 ∧ o' = 0 ∧ k' = k then z.map (fun r => (4, r)) else rrs2 h t' o' k'
      simp only [rrs2, mv_beq_if, sht2, hld2, itm2, mv_up1_if]
      by_cases h1 : t' = 807
      · subst h1
        by_cases h2 : o' = 0
        · subst h2
          by_cases h3 : k' = k <;> simp [h3]
        · simp [h2]
      · simp [h1]
    have h601 : ∀ (z : Option Nat), vw2 (h.1, (h.2.1.1, mv_up1 h.2.1.2 k z), h.2.2) = mv_setR (vw2 h) 601 0 k (z.map fun r => (4, r)) := by
      intro z
      refine Prod.ext rfl (Prod.ext ?_ rfl)
      funext t' o' k'
      show rrs2 (h.1, (h.2.1.1, mv_up1 h.2.1.2 k z), h.2.2) t' o' k' = if t' = 601 ∧ o' = 0 ∧ k' = k then z.map (fun r => (4, r)) else rrs2 h t' o' k'
      simp only [rrs2, mv_beq_if, sht2, hld2, itm2, mv_up1_if]
      by_cases h1 : t' = 601
      · subst h1
        by_cases h2 : o' = 0
        · subst h2
          by_cases h3 : k' = k <;> simp [h3]
        · simp [h2]
      · simp [h1]
    have h4 : ∀ (z : Nat), vw2 (h.1, h.2.1, mv_up1 h.2.2.1 o (some z), h.2.2.2) = mv_setR (vw2 h) 4 o 1 (some (501, z)) := by
      intro z
      refine Prod.ext rfl (Prod.ext ?_ rfl)
      funext t' o' k'
      show rrs2 (h.1, h.2.1, mv_up1 h.2.2.1 o (some z), h.2.2.2) t' o' k' = if t' = 4 ∧ o' = o ∧ k' = 1 then some (501, z) else rrs2 h t' o' k'
      simp only [rrs2, mv_beq_if, sht2, hld2, itm2, mv_up1_if]
      by_cases h1 : t' = 4
      · subst h1
        by_cases h3 : k' = 1
        · subst h3
          by_cases h2 : o' = o <;> simp [h2]
        · simp [h3]
      · simp [h1]
    unfold wR2 at hh
    split at hh
    · rcases mv_cond_some hh with ⟨hb, h2⟩ | ⟨hb, h2⟩
      · simp only [Bool.and_eq_true] at hb
        obtain ⟨e1, e2⟩ := hb
        obtain rfl := Nat.eq_of_beq_eq_true e1
        obtain rfl := Nat.eq_of_beq_eq_true e2
        exact ⟨_, h2, h807 none, fun z hz => by cases hz⟩
      · rcases mv_cond_some h2 with ⟨hb, h3⟩ | ⟨hb, h3⟩
        · simp only [Bool.and_eq_true] at hb
          obtain ⟨e1, e2⟩ := hb
          obtain rfl := Nat.eq_of_beq_eq_true e1
          obtain rfl := Nat.eq_of_beq_eq_true e2
          exact ⟨_, h3, h601 none, fun z hz => by cases hz⟩
        · cases h3
    · rcases mv_cond_some hh with ⟨hb, h2⟩ | ⟨hb, h2⟩
      · simp only [Bool.and_eq_true] at hb
        obtain ⟨e1, e2, e3⟩ := hb
        obtain rfl := Nat.eq_of_beq_eq_true e1
        obtain rfl := Nat.eq_of_beq_eq_true e2
        obtain rfl := Nat.eq_of_beq_eq_true e3
        obtain ⟨hg, h3⟩ := mv_gd_some h2
        exact ⟨_, h3, h807 (some _), fun z hz => by cases hz; exact Nat.ble_eq.mp hg⟩
      · rcases mv_cond_some h2 with ⟨hb, h3⟩ | ⟨hb, h3⟩
        · simp only [Bool.and_eq_true] at hb
          obtain ⟨e1, e2, e3⟩ := hb
          obtain rfl := Nat.eq_of_beq_eq_true e1
          obtain rfl := Nat.eq_of_beq_eq_true e2
          obtain rfl := Nat.eq_of_beq_eq_true e3
          obtain ⟨hg, h5⟩ := mv_gd_some h3
          exact ⟨_, h5, h601 (some _), fun z hz => by cases hz; exact Nat.ble_eq.mp hg⟩
        · rcases mv_cond_some h3 with ⟨hb, h5⟩ | ⟨hb, h5⟩
          · simp only [Bool.and_eq_true] at hb
            obtain ⟨e1, e2, e3⟩ := hb
            obtain rfl := Nat.eq_of_beq_eq_true e1
            obtain rfl := Nat.eq_of_beq_eq_true e2
            obtain rfl := Nat.eq_of_beq_eq_true e3
            obtain ⟨hg, h6⟩ := mv_gd_some h5
            exact ⟨_, h6, h4 _, fun z hz => by cases hz; exact Nat.ble_eq.mp hg⟩
          · cases h5
  · unfold nw2 at hh
    rcases mv_cond_some hh with ⟨hb, h2⟩ | ⟨hb, h2⟩
    · simp only [Bool.and_eq_true] at hb
      obtain ⟨e1, e2⟩ := hb
      obtain rfl := Nat.eq_of_beq_eq_true e1
      obtain rfl := Nat.eq_of_beq_eq_true e2
      refine ⟨_, h2, Prod.ext ?_ (Prod.ext ?_ (Prod.ext ?_ ?_))⟩
      · funext t' o' k'
        show cond (Nat.beq t' 4 && Nat.beq o' (nr2 h)) 0 (h.1 t' o' k') = if t' = 4 ∧ o' = nr2 h then 0 else h.1 t' o' k'
        simp only [mv_beq_if]
        by_cases h1 : t' = 4 <;> by_cases h3 : o' = nr2 h <;> simp [h1, h3]
      · funext t' o' k'
        show rrs2 _ t' o' k' = if t' = 4 ∧ o' = nr2 h then none else rrs2 h t' o' k'
        simp only [rrs2, mv_beq_if, sht2, hld2, itm2, mv_up1_if]
        by_cases h1 : t' = 4
        · subst h1
          by_cases h3 : o' = nr2 h <;> simp [h3]
        · simp [h1]
      · funext t' o'
        show ln2 h t' o' = if t' = 4 ∧ o' = nr2 h then 0 else ln2 h t' o'
        split
        · next z => rw [z.1]; rfl
        · rfl
      · funext t'
        show cnt2 _ t' = if t' = 4 then nr2 h + 1 else cnt2 h t'
        simp only [cnt2, mv_beq_if, nr2, ni2]
        by_cases h1 : t' = 4 <;> simp [h1]
    · rcases mv_cond_some h2 with ⟨hb2, h3⟩ | ⟨hb2, h3⟩
      · obtain rfl := Nat.eq_of_beq_eq_true hb2
        refine ⟨_, h3, Prod.ext ?_ (Prod.ext ?_ (Prod.ext ?_ ?_))⟩
        · funext t' o' k'
          show cond (Nat.beq t' 501 && Nat.beq o' (ni2 h)) 0 (h.1 t' o' k') = if t' = 501 ∧ o' = ni2 h then 0 else h.1 t' o' k'
          simp only [mv_beq_if]
          by_cases h1 : t' = 501 <;> by_cases h4 : o' = ni2 h <;> simp [h1, h4]
        · funext t' o' k'
          show rrs2 _ t' o' k' = if t' = 501 ∧ o' = ni2 h then none else rrs2 h t' o' k'
          by_cases h1 : t' = 501
          · subst h1
            have : ∀ h, rrs2 h 501 o' k' = none := fun _ => rfl
            rw [this, this]
            split <;> rfl
          · rw [if_neg (fun z => h1 z.1)]
            rfl
        · funext t' o'
          show ln2 _ t' o' = if t' = 501 ∧ o' = ni2 h then n else ln2 h t' o'
          simp only [ln2, mv_beq_if, len2, mv_up1_if]
          by_cases h1 : t' = 501
          · subst h1
            by_cases h4 : o' = ni2 h <;> simp [h4]
          · simp [h1]
        · funext t'
          show cnt2 _ t' = if t' = 501 then ni2 h + 1 else cnt2 h t'
          simp only [cnt2, mv_beq_if, nr2, ni2]
          by_cases h1 : t' = 501
          · subst h1; simp
          · simp [h1]
      · cases h3
  · show (_, rrs2 (cp2 h t o o' n z), ln2 (cp2 h t o o' n z), cnt2 (cp2 h t o o' n z)) = mv_setC (vw2 h) t o o' n
    refine Prod.ext ?_ rfl
    funext t' q k
    show cond (Nat.beq t' t && (Nat.beq q o' && decide (k < n))) (h.1 t o k) (h.1 t' q k) = if t' = t ∧ q = o' ∧ k < n then h.1 t o k else h.1 t' q k
    simp only [mv_beq_if]
    by_cases h1 : t' = t <;> by_cases h2 : q = o' <;> by_cases h3 : k < n <;> simp [h1, h2, h3]
