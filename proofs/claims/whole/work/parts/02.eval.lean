/-! THE EVALUATOR: an executable picture of the bytecode over cells that are named by a tag and a number; what it answers holds of the machine (part 03) -/
abbrev mv_V : Type := Value ⊕ (Nat × Nat)
abbrev mv_L : Type := List (Nat × mv_V)
abbrev mv_E : Type := Nat × Instr × Nat × List Nat
/-- the heap's picture: ints by tag, number, place; refs likewise; lengths of arrays; how many of a tag there are -/
abbrev mv_G : Type := (Nat → Nat → Nat → Int32) × (Nat → Nat → Nat → Option (Nat × Nat)) × (Nat → Nat → Nat) × (Nat → Nat)
def stx : Nat → List Int32
  | 0 => [118, 97, 116]
  | 1 => [115, 116, 114, 111, 110, 103]
  | 2 => [100, 97, 121]
  | 3 => [97, 98, 111, 117, 116]
  | 4 => [100, 101, 101, 112]
  | 5 => [104, 117, 110, 103]
  | 6 => [111, 102]
  | 7 => [99, 108, 111, 116, 104]
  | 8 => [119, 111, 111, 108]
  | 9 => [108, 105, 110, 101, 110]
  | 10 => [102, 101, 108, 116]
  | 11 => [115, 104, 114, 111, 117, 100]
  | 12 => [109, 117, 115, 108, 105, 110]
  | 13 => [109, 111, 114, 100, 97, 110, 116]
  | 14 => [108, 105, 103, 104, 116]
  | 15 => [113, 117, 97, 114, 114, 101, 108]
  | 16 => [115, 108, 105, 112]
  | 17 => [99, 108, 111, 116, 104]
  | 18 => [119, 111, 111, 108]
  | 19 => [108, 105, 110, 101, 110]
  | 20 => [102, 101, 108, 116]
  | 21 => [115, 104, 114, 111, 117, 100]
  | 22 => [109, 117, 115, 108, 105, 110]
  | 23 => [97, 98, 111, 117, 116]
  | 24 => [100, 101, 101, 112]
  | 25 => [104, 117, 110, 103]
  | 26 => [109, 111, 114, 100, 97, 110, 116]
  | 27 => [108, 105, 103, 104, 116]
  | 28 => [113, 117, 97, 114, 114, 101, 108]
  | 29 => [115, 108, 105, 112]
  | 30 => [118, 97, 116]
  | 31 => [111, 102]
  | 32 => [115, 116, 114, 111, 110, 103]
  | 33 => []
  | 34 => [100, 97, 121]
  | 35 => [59]
  | _ => []
def stl (q : Nat) : Nat := (stx q).length
def stc (q k : Nat) : Int32 := (stx q).getD k 0
def mv_sw : Nat → Option (String × Nat × String)
  | 0 => some ("IntentVats$Tape", 50, "vat")
  | 1 => some ("IntentVats$Tape", 59, "strong")
  | 2 => some ("IntentVats$Tape", 64, "day")
  | 3 => some ("IntentVats$Tape", 82, "about")
  | 4 => some ("IntentVats$Tape", 97, "deep")
  | 5 => some ("IntentVats$Tape", 99, "hung")
  | 6 => some ("IntentVats$Tape", 108, "of")
  | 7 => some ("IntentVats$Tape", 135, "cloth")
  | 8 => some ("IntentVats$Tape", 137, "wool")
  | 9 => some ("IntentVats$Tape", 139, "linen")
  | 10 => some ("IntentVats$Tape", 141, "felt")
  | 11 => some ("IntentVats$Tape", 143, "shroud")
  | 12 => some ("IntentVats$Tape", 145, "muslin")
  | 13 => some ("IntentVats$Tape", 147, "mordant")
  | 14 => some ("IntentVats$Tape", 149, "light")
  | 15 => some ("IntentVats$Tape", 151, "quarrel")
  | 16 => some ("IntentVats$Tape", 153, "slip")
  | 17 => some ("IntentVatsModel", 262, "cloth")
  | 18 => some ("IntentVatsModel", 268, "wool")
  | 19 => some ("IntentVatsModel", 270, "linen")
  | 20 => some ("IntentVatsModel", 272, "felt")
  | 21 => some ("IntentVatsModel", 274, "shroud")
  | 22 => some ("IntentVatsModel", 276, "muslin")
  | 23 => some ("IntentVatsModel", 278, "about")
  | 24 => some ("IntentVatsModel", 286, "deep")
  | 25 => some ("IntentVatsModel", 288, "hung")
  | 26 => some ("IntentVatsModel", 290, "mordant")
  | 27 => some ("IntentVatsModel", 292, "light")
  | 28 => some ("IntentVatsModel", 294, "quarrel")
  | 29 => some ("IntentVatsModel", 296, "slip")
  | 30 => some ("IntentVatsModel", 307, "vat")
  | 31 => some ("IntentVatsModel", 309, "of")
  | 32 => some ("IntentVatsModel", 315, "strong")
  | 33 => some ("IntentVatsModel", 317, "")
  | 34 => some ("IntentVatsModel", 319, "day")
  | 35 => some ("IntentVatsModel", 324, ";")
  | _ => none
def mv_bod : List Int32 := [10, 11, 12, 13, 10, 20, 12, 13, 30, 11, 12, 31, 51, 20, 50, 13, 40, 41, 12, 31, 10, 11, 61, 60]
def bod (k : Nat) : Int32 := mv_bod.getD k 0
def mv_mem (n : Nat) : List Nat → Bool
  | [] => false
  | a :: l => cond (Nat.beq a n) true (mv_mem n l)
def mv_seek (pc : Nat) : List mv_E → List mv_E
  | [] => []
  | e :: l => cond (Nat.beq e.1 pc) (e :: l) (mv_seek pc l)
def mv_get (k : Nat) : mv_L → Option mv_V
  | [] => none
  | q :: l => cond (Nat.beq q.1 k) (some q.2) (mv_get k l)
def mv_two : mv_V → Bool
  | .inl (.long _) => true
  | .inl (.double _) => true
  | _ => false
def mv_f1 (i : Nat) : mv_L → mv_L
  | [] => []
  | q :: l => cond (Nat.beq q.1 i || (Nat.beq (q.1 + 1) i && mv_two q.2)) (mv_f1 i l) (q :: mv_f1 i l)
def mv_f2 (i : Nat) : mv_L → mv_L
  | [] => []
  | q :: l => cond (Nat.beq q.1 i || (Nat.beq q.1 (i + 1) || (Nat.beq (q.1 + 1) i && mv_two q.2))) (mv_f2 i l) (q :: mv_f2 i l)
def mv_f1K {α : Type} (i : Nat) (l : mv_L) (k : mv_L → α) : α := match l with
  | [] => k []
  | q :: l => mv_f1K i l fun l' => match Nat.beq q.1 i || (Nat.beq (q.1 + 1) i && mv_two q.2) with
    | true => k l'
    | false => k (q :: l')
def mv_f2K {α : Type} (i : Nat) (l : mv_L) (k : mv_L → α) : α := match l with
  | [] => k []
  | q :: l => mv_f2K i l fun l' => match Nat.beq q.1 i || (Nat.beq q.1 (i + 1) || (Nat.beq (q.1 + 1) i && mv_two q.2)) with
    | true => k l'
    | false => k (q :: l')
/-- the arguments of a call off the stack, and what is left -/
def mv_tk {α : Type} (n : Nat) (as st : List mv_V) (k : List mv_V → List mv_V → Option α) : Option α := match n with
  | 0 => k as st
  | n + 1 => match st with
    | [] => none
    | v :: st => mv_tk n (v :: as) st k
def mv_ap {α : Type} (vs st : List mv_V) (k : List mv_V → α) : α := match vs with
  | [] => k st
  | v :: vs => mv_ap vs st fun l => k (v :: l)
def mv_nth {α : Type} (j : Nat) (l : List α) : Option α := match l with
  | [] => none
  | a :: l => match j with
    | 0 => some a
    | j + 1 => mv_nth j l
def mv_cats : List mv_V → Nat
  | [] => 0
  | v :: l => (match mv_two v with
    | true => 2
    | false => 1) + mv_cats l
/-- an int constant, by its sign and size -/
def mv_c (sg n : Nat) : Int32 := cond (Nat.beq sg 0) (nI n) (-(nI n))
def mv_cl (sg n : Nat) : Int64 := cond (Nat.beq sg 0) (lN n) (-(lN n))
def mv_inb (i : Int32) (n : Nat) : Bool := !(decide (i < 0) || Nat.ble n i.toNatClampNeg)
def mv_gd {α : Type} (b : Bool) (k : Option α) : Option α := match b with
  | true => k
  | false => none
def mv_bh {β α : Type} (h : β) (k : β → α) : α := k h
def mv_bi {α : Type} (x : Int32) (k : Int32 → α) : α := k x
def mv_bl {α : Type} (x : Int64) (k : Int64 → α) : α := k x
def mv_el {α β : Type} (o : Option β) (a : α) (f : β → α) : α := match o with
  | none => a
  | some b => f b
def mv_q : Option (Nat × Nat) → mv_V
  | none => .inl .null
  | some q => .inr q
def mv_vi (x : Int32) : mv_V := .inl (.int x)
def mv_vl (x : Int64) : mv_V := .inl (.long x)
/-- what works on the stack alone -/
def mv_op {α : Type} (i : Instr) (st : List mv_V) (k : List mv_V → Option α) : Option α := match i with
  | .iadd => match st with
    | .inl (.int y) :: .inl (.int x) :: st => k (.inl (.int (x + y)) :: st)
    | _ => none
  | .isub => match st with
    | .inl (.int y) :: .inl (.int x) :: st => k (.inl (.int (x - y)) :: st)
    | _ => none
  | .imul => match st with
    | .inl (.int y) :: .inl (.int x) :: st => k (.inl (.int (x * y)) :: st)
    | _ => none
  | .iand => match st with
    | .inl (.int y) :: .inl (.int x) :: st => k (.inl (.int (x &&& y)) :: st)
    | _ => none
  | .ior => match st with
    | .inl (.int y) :: .inl (.int x) :: st => k (.inl (.int (x ||| y)) :: st)
    | _ => none
  | .ixor => match st with
    | .inl (.int y) :: .inl (.int x) :: st => k (.inl (.int (x ^^^ y)) :: st)
    | _ => none
  | .idiv => match st with
    | .inl (.int y) :: .inl (.int x) :: st => mv_gd (!decide (y = 0)) (k (.inl (.int (x / y)) :: st))
    | _ => none
  | .irem => match st with
    | .inl (.int y) :: .inl (.int x) :: st => mv_gd (!decide (y = 0)) (k (.inl (.int (x - x / y * y)) :: st))
    | _ => none
  | .ineg => match st with
    | .inl (.int x) :: st => k (.inl (.int (-x)) :: st)
    | _ => none
  | .ishl => match st with
    | .inl (.int y) :: .inl (.int x) :: st => k (.inl (.int (x <<< (y &&& 31))) :: st)
    | _ => none
  | .ishr => match st with
    | .inl (.int y) :: .inl (.int x) :: st => k (.inl (.int (x >>> (y &&& 31))) :: st)
    | _ => none
  | .iushr => match st with
    | .inl (.int y) :: .inl (.int x) :: st => k (.inl (.int ((x.toUInt32 >>> (y.toUInt32 &&& Int32.toUInt32 31)).toInt32)) :: st)
    | _ => none
  | .ladd => match st with
    | .inl (.long y) :: .inl (.long x) :: st => k (.inl (.long (x + y)) :: st)
    | _ => none
  | .lmul => match st with
    | .inl (.long y) :: .inl (.long x) :: st => k (.inl (.long (x * y)) :: st)
    | _ => none
  | .land => match st with
    | .inl (.long y) :: .inl (.long x) :: st => k (.inl (.long (x &&& y)) :: st)
    | _ => none
  | .lor => match st with
    | .inl (.long y) :: .inl (.long x) :: st => k (.inl (.long (x ||| y)) :: st)
    | _ => none
  | .ldiv => match st with
    | .inl (.long y) :: .inl (.long x) :: st => mv_gd (!decide (y = 0)) (k (.inl (.long (x / y)) :: st))
    | _ => none
  | .lrem => match st with
    | .inl (.long y) :: .inl (.long x) :: st => mv_gd (!decide (y = 0)) (k (.inl (.long (x - x / y * y)) :: st))
    | _ => none
  | .lshl => match st with
    | .inl (.int y) :: .inl (.long x) :: st => k (.inl (.long (x <<< (y.toInt64 &&& 63))) :: st)
    | _ => none
  | .lshr => match st with
    | .inl (.int y) :: .inl (.long x) :: st => k (.inl (.long (x >>> (y.toInt64 &&& 63))) :: st)
    | _ => none
  | .lcmp => match st with
    | .inl (.long y) :: .inl (.long x) :: st => k (.inl (.int (lg_cmp x y)) :: st)
    | _ => none
  | .i2l => match st with
    | .inl (.int x) :: st => k (.inl (.long x.toInt64) :: st)
    | _ => none
  | .l2i => match st with
    | .inl (.long x) :: st => k (.inl (.int x.toInt32) :: st)
    | _ => none
  | .i2b => match st with
    | .inl (.int x) :: st => k (.inl (.int x.toInt8.toInt32) :: st)
    | _ => none
  | .i2c => match st with
    | .inl (.int x) :: st => k (.inl (.int x.toUInt32.toUInt16.toUInt32.toInt32) :: st)
    | _ => none
  | .i2s => match st with
    | .inl (.int x) :: st => k (.inl (.int x.toInt16.toInt32) :: st)
    | _ => none
  | .dup => match st with
    | v :: st => match mv_two v with
      | false => k (v :: v :: st)
      | true => none
    | _ => none
  | .dup_x1 => match st with
    | v :: w :: st => match mv_two v || mv_two w with
      | false => k (v :: w :: v :: st)
      | true => none
    | _ => none
  | .dup2 => match st with
    | v :: w :: st => match mv_two v || mv_two w with
      | false => k (v :: w :: v :: w :: st)
      | true => none
    | _ => none
  | .pop => match st with
    | v :: st => match mv_two v with
      | false => k st
      | true => none
    | _ => none
  | .aconst_null => k (.inl .null :: st)
  | _ => none
def mv_cmp (c : ClassFile.Cond) (x y : Int32) {α : Type} (a b : α) : α := match c with
  | .eq => if x = y then a else b
  | .ne => if x = y then b else a
  | .lt => if x < y then a else b
  | .ge => if y ≤ x then a else b
  | .gt => if y < x then a else b
  | .le => if x ≤ y then a else b
def mv_ts {α : Type} (x : Int32) (lo : Nat) (d : α) (f : Nat → α) : List Nat → α
  | [] => d
  | t :: l => if x = nI lo then f t else mv_ts x (lo + 1) d f l
def mv_ls {α : Type} (x : Int32) (d : α) (f : Nat → α) : List Nat → α
  | k :: t :: l => if x = nI k then f t else mv_ls x d f l
  | _ => d
def mv_cpy (f : Nat → Int32) (g : Nat → Int32) (n : Nat) : Nat → Int32 := fun k => if k < n then f k else g k
/-- tags of int arrays, of arrays of rows -/
def mv_ra (t : Nat) : Bool := Nat.beq t 601 || Nat.beq t 807
def mv_ia (t : Nat) : Bool := Nat.ble 100 t && !(mv_ra t)
section
variable {Hp : Type} (rI : Hp → Nat → Nat → Nat → Int32) (rR : Hp → Nat → Nat → Nat → (Option (Nat × Nat) → Option (List mv_V × Hp)) → Option (List mv_V × Hp)) (ln : Hp → Nat → Nat → Nat) (wI : Hp → Nat → Nat → Nat → Int32 → Hp) (wR : Hp → Nat → Nat → Nat → Option (Nat × Nat) → (Hp → Option (List mv_V × Hp)) → Option (List mv_V × Hp)) (nw : Hp → Nat → Nat → (Nat → Hp → Option (List mv_V × Hp)) → Option (List mv_V × Hp)) (cp : Hp → Nat → Nat → Nat → Nat → Nat → Hp)
/-- reads and writes of the heap; lk: what the table says of the instruction's operands -/
def mv_hop (bod : Nat → Int32) (sc : Option (Nat × (Nat → Int32))) (i : Instr) (lk : List Nat) (st : List mv_V) (h : Hp) (k : List mv_V → Hp → Option (List mv_V × Hp)) : Option (List mv_V × Hp) := match i with
  | .getfield _ => match lk with
    | ci :: f :: kd :: _ => match st with
      | .inr (t, o) :: st => match Nat.beq t ci with
        | true => match Nat.beq kd 1 with
          | true => rR h t o f fun q => match q with
            | none => k (.inl .null :: st) h
            | some q => k (.inr q :: st) h
          | false => match Nat.beq t 11 with
            | true => match Nat.beq kd 3 with
              | true => k (.inr (12, o) :: st) h
              | false => k (.inl (.int (nI 0)) :: st) h
            | false => k (.inl (.int (rI h t o f)) :: st) h
        | false => none
      | _ => none
    | _ => none
  | .putfield _ => match lk with
    | ci :: f :: kd :: _ => match Nat.beq kd 1 with
      | true => match st with
        | .inr q :: .inr (t, o) :: st => match Nat.beq t ci with
          | true => wR h t o f (some q) fun h => k st h
          | false => none
        | .inl .null :: .inr (t, o) :: st => match Nat.beq t ci with
          | true => wR h t o f none fun h => k st h
          | false => none
        | _ => none
      | false => match st with
        | .inl (.int x) :: .inr (t, o) :: st => match Nat.beq t ci with
          | true => match Nat.beq kd 2 with
            | true => mv_gd (decide (x = nI 0) || decide (x = nI 1)) (mv_bh (wI h t o f x) fun h => k st h)
            | false => mv_bh (wI h t o f x) fun h => k st h
          | false => none
        | _ => none
    | _ => none
  | .iaload => match st with
    | .inl (.int i) :: .inr (t, o) :: st => match Nat.beq t 10 && Nat.beq o 0 with
      | true => match sc with
        | some q => mv_gd (mv_inb i q.1) (k (.inl (.int (q.2 i.toNatClampNeg)) :: st) h)
        | none => none
      | false => match Nat.beq t 13 && Nat.beq o 0 with
        | true => mv_gd (mv_inb i 24) (k (.inl (.int (bod i.toNatClampNeg)) :: st) h)
        | false => match mv_ia t with
          | true => mv_gd (mv_inb i (ln h t o)) (k (.inl (.int (rI h t o i.toNatClampNeg)) :: st) h)
          | false => none
    | _ => none
  | .iastore => match st with
    | .inl (.int x) :: .inl (.int i) :: .inr (t, o) :: st => match mv_ia t with
      | true => mv_gd (mv_inb i (ln h t o)) (mv_bh (wI h t o i.toNatClampNeg x) fun h => k st h)
      | false => none
    | _ => none
  | .aaload => match st with
    | .inl (.int i) :: .inr (t, o) :: st => match mv_ra t with
      | true => mv_gd (mv_inb i (ln h t o)) (rR h t o i.toNatClampNeg fun q => match q with
        | none => k (.inl .null :: st) h
        | some q => k (.inr q :: st) h)
      | false => none
    | _ => none
  | .aastore => match st with
    | .inr (u, n) :: .inl (.int i) :: .inr (t, o) :: st => match mv_ra t && Nat.beq u 4 with
      | true => mv_gd (mv_inb i (ln h t o)) (wR h t o i.toNatClampNeg (some (u, n)) fun h => k st h)
      | false => none
    | .inl .null :: .inl (.int i) :: .inr (t, o) :: st => match mv_ra t with
      | true => mv_gd (mv_inb i (ln h t o)) (wR h t o i.toNatClampNeg none fun h => k st h)
      | false => none
    | _ => none
  | .arraylength => match st with
    | .inr (t, o) :: st => match Nat.beq t 10 && Nat.beq o 0 with
      | true => match sc with
        | some q => k (.inl (.int (nI q.1)) :: st) h
        | none => none
      | false => match Nat.beq t 12 with
        | true => k (.inl (.int (nI (stl o))) :: st) h
        | false => match Nat.ble 100 t with
          | true => k (.inl (.int (nI (ln h t o))) :: st) h
          | false => none
    | _ => none
  | .baload => match st with
    | .inl (.int i) :: .inr (t, o) :: st => match Nat.beq t 12 with
      | true => mv_gd (mv_inb i (stl o)) (k (.inl (.int (stc o i.toNatClampNeg)) :: st) h)
      | false => none
    | _ => none
  | .getstatic _ => match lk with
    | t :: _ => match Nat.beq t 13 with
      | true => k (.inr (13, 0) :: st) h
      | false => match Nat.beq t 14 with
        | true => none
        | false => k (.inl (.int (nI 1)) :: st) h
    | _ => none
  | _ => none
/-- locals, constants, stack -/
def mv_lop (i : Instr) (lk : List Nat) (lv : mv_L) (st : List mv_V) (k : mv_L → List mv_V → Option (List mv_V × Hp)) : Option (List mv_V × Hp) := match i with
  | .iload_n _ | .iload _ => match lk with
    | n :: _ => match mv_get n lv with
      | some (.inl (.int x)) => k lv (.inl (.int x) :: st)
      | _ => none
    | _ => none
  | .lload_n _ | .lload _ => match lk with
    | n :: _ => match mv_get n lv with
      | some (.inl (.long x)) => k lv (.inl (.long x) :: st)
      | _ => none
    | _ => none
  | .aload_n _ | .aload _ => match lk with
    | n :: _ => match mv_get n lv with
      | some (.inr q) => k lv (.inr q :: st)
      | some (.inl .null) => k lv (.inl .null :: st)
      | _ => none
    | _ => none
  | .istore_n _ | .istore _ => match lk with
    | n :: _ => match st with
      | .inl (.int x) :: st => mv_f1K n lv fun lv => mv_bi x fun x => k ((n, .inl (.int x)) :: lv) st
      | _ => none
    | _ => none
  | .lstore_n _ | .lstore _ => match lk with
    | n :: _ => match st with
      | .inl (.long x) :: st => mv_f2K n lv fun lv => mv_bl x fun x => k ((n, .inl (.long x)) :: lv) st
      | _ => none
    | _ => none
  | .astore_n _ | .astore _ => match lk with
    | n :: _ => match st with
      | .inr q :: st => mv_f1K n lv fun lv => k ((n, .inr q) :: lv) st
      | .inl .null :: st => mv_f1K n lv fun lv => k ((n, .inl .null) :: lv) st
      | _ => none
    | _ => none
  | .iinc _ _ => match lk with
    | n :: sg :: c :: _ => match mv_get n lv with
      | some (.inl (.int x)) => mv_f1K n lv fun lv => mv_bi (x + mv_c sg c) fun x => k ((n, .inl (.int x)) :: lv) st
      | _ => none
    | _ => none
  | .iconst _ | .bipush _ | .sipush _ => match lk with
    | sg :: c :: _ => k lv (.inl (.int (mv_c sg c)) :: st)
    | _ => none
  | .ldc _ | .ldc_w _ => match lk with
    | 0 :: sg :: c :: _ => k lv (.inl (.int (mv_c sg c)) :: st)
    | 1 :: n :: _ => k lv (.inr (11, n) :: st)
    | _ => none
  | .lconst _ | .ldc2_w _ => match lk with
    | sg :: c :: _ => k lv (.inl (.long (mv_cl sg c)) :: st)
    | _ => none
  | i => mv_op i st (k lv)
abbrev mv_C (Hp : Type) : Type := (Nat × Nat) × (List mv_V → Hp → (List mv_V → Hp → Option (List mv_V × Hp)) → Option (List mv_V × Hp))
/-- calls and makings: cells and slots made so far go along -/
def mv_cop (G : List (mv_C Hp)) (MC MS : Nat) (i : Instr) (lk : List Nat) (lv : mv_L) (st : List mv_V) (h : Hp) (ce sl : Nat) (k : List mv_V → Hp → Nat → Nat → Option (List mv_V × Hp)) : Option (List mv_V × Hp) :=
  match i with
  | .new _ => match lk with
    | ci :: n :: _ => match Nat.ble (ce + 1) MC && Nat.ble (sl + n) MS with
      | true => nw h ci 0 fun o h => k (.inr (ci, o) :: st) h (ce + 1) (sl + n)
      | false => none
    | _ => none
  | .newarray _ | .anewarray _ => match lk with
    | t :: _ => match st with
      | .inl (.int n) :: st => match Nat.ble (ce + 1) MC with
        | true => mv_gd (!decide (n < 0) && (Nat.ble n.toNatClampNeg 1000 && Nat.ble (sl + n.toNatClampNeg) MS)) (nw h t n.toNatClampNeg fun o h => k (.inr (t, o) :: st) h (ce + 1) (sl + n.toNatClampNeg))
        | false => none
      | _ => none
    | _ => none
  | .invokestatic _ => match lk with
    | 0 :: j :: n :: _ => match mv_nth j G with
      | some (c, f) => mv_tk n [] st fun as st => match Nat.ble (ce + c.1) MC && (Nat.ble (sl + c.2) MS && Nat.ble (mv_cats st) 8) with
        | true => f as h fun vs h => mv_ap vs st fun st => k st h (ce + c.1) (sl + c.2)
        | false => none
      | none => none
    | 1 :: _ => match st with
      | .inl (.int y) :: .inl (.int x) :: st => match Nat.ble (mv_cats st) 8 with
        | true => k (.inl (.int (if x < y then y else x)) :: st) h ce sl
        | false => none
      | _ => none
    | 2 :: _ => match st with
      | .inl (.int y) :: .inl (.int x) :: st => match Nat.ble (mv_cats st) 8 with
        | true => k (.inl (.int (if y < x then y else x)) :: st) h ce sl
        | false => none
      | _ => none
    | 3 :: _ => match st with
      | .inl (.int x) :: st => match Nat.ble (mv_cats st) 8 with
        | true => k (.inl (.int (if 0 ≤ x then x else 0 - x)) :: st) h ce sl
        | false => none
      | _ => none
    | 4 :: _ => match st with
      | .inl (.int n) :: .inl (.int dp) :: .inr (t', o') :: .inl (.int sp) :: .inr (t, o) :: st => match Nat.beq t t' && (mv_ia t && Nat.ble (mv_cats st) 8) with
        | true => mv_gd (decide (sp = nI 0) && (decide (dp = nI 0) && (!decide (n < 0) && (Nat.ble n.toNatClampNeg (ln h t o) && Nat.ble n.toNatClampNeg (ln h t o'))))) (mv_bh (cp h t o o' n.toNatClampNeg 0) fun h => k st h ce sl)
        | false => none
      | _ => none
    | _ => none
  | .invokevirtual _ | .invokespecial _ => match lk with
    | 0 :: j :: n :: _ => match mv_nth j G with
      | some (c, f) => mv_tk n [] st fun as st => match Nat.ble (ce + c.1) MC && (Nat.ble (sl + c.2) MS && Nat.ble (mv_cats st) 8) with
        | true => f as h fun vs h => mv_ap vs st fun st => k st h (ce + c.1) (sl + c.2)
        | false => none
      | none => none
    | 5 :: _ => match st with
      | .inr _ :: st => match Nat.ble (mv_cats st) 8 with
        | true => k st h ce sl
        | false => none
      | _ => none
    | _ => none
  | _ => none
/-- one instruction: 'nx' goes on behind it, 'jp' at a place -/
def mv_step (bod : Nat → Int32) (sc : Option (Nat × (Nat → Int32))) (G : List (mv_C Hp)) (MC MS : Nat) (nx : mv_L → List mv_V → Hp → Nat → Nat → Option (List mv_V × Hp)) (jp : Nat → mv_L → List mv_V → Hp → Nat → Nat → Option (List mv_V × Hp)) (i : Instr) (lk : List Nat) (lv : mv_L) (st : List mv_V) (h : Hp) (ce sl : Nat) : Option (List mv_V × Hp) :=
  match i with
  | .getfield _ | .putfield _ | .iaload | .iastore | .aaload | .aastore | .arraylength | .baload | .getstatic _ => mv_hop rI rR ln wI wR bod sc i lk st h fun st h => nx lv st h ce sl
  | .invokestatic _ | .invokevirtual _ | .invokespecial _ | .new _ | .newarray _ | .anewarray _ => mv_cop ln nw cp G MC MS i lk lv st h ce sl fun st h ce sl => nx lv st h ce sl
  | .goto _ => match lk with
    | t :: _ => jp t lv st h ce sl
    | _ => none
  | .ifCond c _ => match lk with
    | t :: _ => match st with
      | .inl (.int x) :: st => mv_cmp c x 0 (jp t lv st h ce sl) (nx lv st h ce sl)
      | _ => none
    | _ => none
  | .if_icmp c _ => match lk with
    | t :: _ => match st with
      | .inl (.int y) :: .inl (.int x) :: st => mv_cmp c x y (jp t lv st h ce sl) (nx lv st h ce sl)
      | _ => none
    | _ => none
  | .ifnull _ => match lk with
    | t :: _ => match st with
      | .inr _ :: st => nx lv st h ce sl
      | .inl .null :: st => jp t lv st h ce sl
      | _ => none
    | _ => none
  | .ifnonnull _ => match lk with
    | t :: _ => match st with
      | .inr _ :: st => jp t lv st h ce sl
      | .inl .null :: st => nx lv st h ce sl
      | _ => none
    | _ => none
  | .tableswitch _ _ _ _ => match lk with
    | lo :: d :: l => match st with
      | .inl (.int x) :: st => mv_ts x lo (jp d lv st h ce sl) (fun t => jp t lv st h ce sl) l
      | _ => none
    | _ => none
  | .lookupswitch _ _ => match lk with
    | d :: l => match st with
      | .inl (.int x) :: st => mv_ls x (jp d lv st h ce sl) (fun t => jp t lv st h ce sl) l
      | _ => none
    | _ => none
  | .ireturn => match lk with
    | 1 :: _ => match st with
      | [.inl (.int x)] => mv_gd (decide (x = nI 0) || decide (x = nI 1)) (some ([.inl (.int x)], h))
      | _ => none
    | 2 :: _ => match st with
      | [.inl (.int x)] => mv_gd (decide (0 ≤ x) && decide (x ≤ 127)) (some ([.inl (.int x)], h))
      | _ => none
    | _ => match st with
      | [.inl (.int x)] => some ([.inl (.int x)], h)
      | _ => none
  | .lreturn => match st with
    | [.inl (.long x)] => some ([.inl (.long x)], h)
    | _ => none
  | .areturn => match st with
    | [.inr q] => some ([.inr q], h)
    | [.inl .null] => some ([.inl .null], h)
    | _ => none
  | .return_ => match st with
    | [] => some ([], h)
    | _ => none
  | i => mv_lop i lk lv st fun lv st => nx lv st h ce sl
def mv_nx (stops : List Nat) (ka : Nat → mv_L → List mv_V → Hp → Nat → Nat → Option (List mv_V × Hp)) (go : List mv_E → mv_L → List mv_V → Hp → Nat → Nat → Option (List mv_V × Hp)) (cs : List mv_E) (lv : mv_L) (st : List mv_V) (h : Hp) (ce sl : Nat) : Option (List mv_V × Hp) := match cs with
  | [] => none
  | e :: cs => match mv_mem e.1 stops with
    | true => ka e.1 lv st h ce sl
    | false => go (e :: cs) lv st h ce sl
/-- a stretch of code, up to returns and to the places 'stops', where 'ka' goes on -/
def mv_blk (bod : Nat → Int32) (sc : Option (Nat × (Nat → Int32))) (tab : List mv_E) (G : List (mv_C Hp)) (MC MS : Nat) (stops : List Nat) (ka : Nat → mv_L → List mv_V → Hp → Nat → Nat → Option (List mv_V × Hp)) : Nat → List mv_E → mv_L → List mv_V → Hp → Nat → Nat → Option (List mv_V × Hp)
  | 0 => fun _ _ _ _ _ _ => none
  | n + 1 => fun cs lv st h ce sl => match cs with
    | [] => none
    | e :: cs => mv_step rI rR ln wI wR nw cp bod sc G MC MS (mv_nx stops ka (mv_blk bod sc tab G MC MS stops ka n) cs) (fun t => mv_nx stops ka (mv_blk bod sc tab G MC MS stops ka n) (mv_seek t tab)) e.2.1 e.2.2.2 lv st h ce sl
end
