/-! THE HEAP of a run once both systems stand: ints by tag, number, place; what the sheets and shelves hold (numbers of rows), a row's items, its length, how many rows and items there are -/
abbrev SH2 : Type := ((Nat → Option Nat) × (Nat → Option Nat)) × ((Nat → Option Nat) × ((Nat → Nat) × (Nat × Nat)))
abbrev H2 : Type := (Nat → Nat → Nat → Int32) × SH2
abbrev O2 : Type := Option (List mv_V × H2)
def mv_up3 (I : Nat → Nat → Nat → Int32) (t o k : Nat) (v : Int32) : Nat → Nat → Nat → Int32 := fun t' o' k' => cond (Nat.beq t' t && (Nat.beq o' o && Nat.beq k' k)) v (I t' o' k')
def mv_up1 {α : Type} (f : Nat → α) (k : Nat) (v : α) : Nat → α := fun k' => cond (Nat.beq k' k) v (f k')
def rI2 (h : H2) (t o k : Nat) : Int32 := h.1 t o k
def sht2 (h : H2) (k : Nat) : Option Nat := h.2.1.1 k
def hld2 (h : H2) (k : Nat) : Option Nat := h.2.1.2 k
def itm2 (h : H2) (r : Nat) : Option Nat := h.2.2.1 r
def len2 (h : H2) (r : Nat) : Nat := h.2.2.2.1 r
def nr2 (h : H2) : Nat := h.2.2.2.2.1
def ni2 (h : H2) : Nat := h.2.2.2.2.2
def mv_lens : List (Nat × Nat) := [(300, 4), (301, 8), (302, 8), (303, 6), (304, 8), (305, 8), (306, 8), (307, 8), (308, 8), (100, 30), (400, 30), (600, 4), (601, 4), (700, 200), (807, 4), (900, 4), (901, 4), (902, 69), (903, 69), (904, 69), (906, 200), (911, 30), (913, 4), (914, 4), (915, 160), (916, 4), (917, 4), (918, 4), (919, 30)]
def mv_lk (t : Nat) : List (Nat × Nat) → Nat
  | [] => 0
  | q :: l => cond (Nat.beq q.1 t) q.2 (mv_lk t l)
def ln2 (h : H2) (t o : Nat) : Nat := cond (Nat.beq t 501) (len2 h o) (mv_lk t mv_lens)
def wI2 (h : H2) (t o k : Nat) (v : Int32) : H2 := (mv_up3 h.1 t o k v, h.2)
def rR2 (h : H2) (t o k : Nat) (ka : Option (Nat × Nat) → O2) : O2 :=
  cond (Nat.beq t 2) (ka (some (300 + k, o))) (cond (Nat.beq t 8) (ka (some (900 + k, o))) (cond (Nat.beq t 7) (match k with
    | 0 => ka (some (2, 0))
    | 1 => ka (some (2, 1))
    | 2 => ka (some (2, 2))
    | 4 => ka (some (1, 0))
    | 5 => ka (some (6, 0))
    | 6 => ka (some (3, 0))
    | 7 => ka (some (807, o))
    | 8 => ka (some (5, 0))
    | 9 => ka (some (0, 0))
    | _ => none) (cond (Nat.beq t 1) (ka (some (2, 3))) (cond (Nat.beq t 0) (ka (some (100, o))) (cond (Nat.beq t 3) (ka (some (400, o))) (cond (Nat.beq t 5) (ka (some (600 + k, o))) (cond (Nat.beq t 6) (ka (some (700, o))) (cond (Nat.beq t 4 && Nat.beq k 1) (mv_el (itm2 h o) (ka none) fun r => ka (some (501, r))) (cond (Nat.beq t 807) (mv_el (sht2 h k) (ka none) fun r => ka (some (4, r))) (cond (Nat.beq t 601) (mv_el (hld2 h k) (ka none) fun r => ka (some (4, r))) none))))))))))
def wR2 (h : H2) (t o k : Nat) (q : Option (Nat × Nat)) (ka : H2 → O2) : O2 := match q with
  | none => cond (Nat.beq t 807) (ka (h.1, (mv_up1 h.2.1.1 k none, h.2.1.2), h.2.2)) (cond (Nat.beq t 601) (ka (h.1, (h.2.1.1, mv_up1 h.2.1.2 k none), h.2.2)) none)
  | some (u, r) => cond (Nat.beq t 807 && Nat.beq u 4) (mv_gd (Nat.ble (r + 1) (nr2 h)) (ka (h.1, (mv_up1 h.2.1.1 k (some r), h.2.1.2), h.2.2))) (cond (Nat.beq t 601 && Nat.beq u 4) (mv_gd (Nat.ble (r + 1) (nr2 h)) (ka (h.1, (h.2.1.1, mv_up1 h.2.1.2 k (some r)), h.2.2))) (cond (Nat.beq t 4 && (Nat.beq u 501 && Nat.beq k 1)) (mv_gd (Nat.ble (r + 1) (ni2 h)) (ka (h.1, h.2.1, mv_up1 h.2.2.1 o (some r), h.2.2.2))) none))
def nw2 (h : H2) (t n : Nat) (ka : Nat → H2 → O2) : O2 :=
  cond (Nat.beq t 4) (ka (nr2 h) (fun t' o' k' => cond (Nat.beq t' 4 && Nat.beq o' (nr2 h)) 0 (h.1 t' o' k'), h.2.1, mv_up1 h.2.2.1 (nr2 h) none, h.2.2.2.1, nr2 h + 1, ni2 h)) (cond (Nat.beq t 501) (ka (ni2 h) (fun t' o' k' => cond (Nat.beq t' 501 && Nat.beq o' (ni2 h)) 0 (h.1 t' o' k'), h.2.1, h.2.2.1, mv_up1 h.2.2.2.1 (ni2 h) n, nr2 h, ni2 h + 1)) none)
def cp2 (h : H2) (t o o' n _z : Nat) : H2 := (fun t' q k => cond (Nat.beq t' t && (Nat.beq q o' && decide (k < n))) (h.1 t o k) (h.1 t' q k), h.2)
def mv_rV (r : O2) (k : H2 → O2) : O2 := match r with
  | some ([], h) => k h
  | _ => none
def mv_rI (r : O2) (k : Int32 → H2 → O2) : O2 := match r with
  | some ([.inl (.int x)], h) => k x h
  | _ => none
def mv_rL (r : O2) (k : Int64 → H2 → O2) : O2 := match r with
  | some ([.inl (.long x)], h) => k x h
  | _ => none
def mv_rR (t : Nat) (r : O2) (k : Nat → H2 → O2) : O2 := match r with
  | some ([.inr (u, n)], h) => mv_gd (Nat.beq u t) (k n h)
  | _ => none
def mv_rQ (r : O2) (a : H2 → O2) (k : Nat → H2 → O2) : O2 := match r with
  | some ([.inl .null], h) => a h
  | some ([.inr (u, n)], h) => mv_gd (Nat.beq u 4) (k n h)
  | _ => none
def mv_gI (k : Nat) (lv : mv_L) (f : Int32 → O2) : O2 := match mv_get k lv with
  | some (.inl (.int x)) => f x
  | _ => none
def mv_gL (k : Nat) (lv : mv_L) (f : Int64 → O2) : O2 := match mv_get k lv with
  | some (.inl (.long x)) => f x
  | _ => none
def mv_gR (k t : Nat) (lv : mv_L) (f : Nat → O2) : O2 := match mv_get k lv with
  | some (.inr (u, o)) => mv_gd (Nat.beq u t) (f o)
  | _ => none
def mv_sI (st : List mv_V) (f : Int32 → List mv_V → O2) : O2 := match st with
  | .inl (.int x) :: st => f x st
  | _ => none
def mv_sL (st : List mv_V) (f : Int64 → List mv_V → O2) : O2 := match st with
  | .inl (.long x) :: st => f x st
  | _ => none
def mv_sR (t : Nat) (st : List mv_V) (f : Nat → List mv_V → O2) : O2 := match st with
  | .inr (u, o) :: st => mv_gd (Nat.beq u t) (f o st)
  | _ => none
def mv_sE (st : List mv_V) (r : O2) : O2 := match st with
  | [] => r
  | _ => none
def mv_bod : List Int32 := [10, 11, 12, 13, 10, 20, 12, 13, 30, 11, 12, 31, 51, 20, 50, 13, 40, 41, 12, 31, 10, 11, 61, 60]
def bod (k : Nat) : Int32 := mv_bod.getD k 0
