/-! WHAT LIES OUTSIDE, at the law's entry -/
def lz_T : Jvm.Cond := .and given_1 narrow_1
def lz_at : List Bool → Jvm.Cond → Jvm.Cond
  | [], c => c
  | b :: p, c => match c with
    | .and u v => lz_at p (cond b v u)
    | c => c
theorem lz_at_ok {args : Array Value} {s : State} : ∀ (p : List Bool) (c : Jvm.Cond), c.before args s = true → (lz_at p c).before args s = true
  | [], c, h => h
  | b :: p, c, h => by
    unfold lz_at
    split
    · rw [Cond.before_and, Bool.and_eq_true] at h
      cases b with
      | true => exact lz_at_ok p _ h.2
      | false => exact lz_at_ok p _ h.1
    · exact h
def lz_chk (c : Jvm.Cond) : List Jvm.Cond → List (List Bool) → Bool
  | [], _ => true
  | w :: ws, p :: ps => decide (lz_at p c = w) && lz_chk c ws ps
  | _ :: _, [] => false
theorem lz_chk_ok {args : Array Value} {s : State} {c : Jvm.Cond} (h : c.before args s = true) : ∀ {ws : List Jvm.Cond} {ps : List (List Bool)}, lz_chk c ws ps = true → ∀ w ∈ ws, w.before args s = true
  | [], _, _, w, hw => absurd hw List.not_mem_nil
  | _ :: _, [], h2, _, _ => by cases h2
  | a :: ws, p :: ps, h2, w, hw => by
    unfold lz_chk at h2
    rw [Bool.and_eq_true, decide_eq_true_eq] at h2
    rcases List.mem_cons.mp hw with rfl | hw
    · rw [← h2.1]; exact lz_at_ok p c h
    · exact lz_chk_ok h h2.2 w hw
def lz_tm (k : Nat) : Jvm.Term := match mv_sw k with
  | some q => .string q.1 q.2.1
  | none => .string "" 0
def lz_need (k : Nat) : List Jvm.Cond := .exactly (lz_tm k) "java/lang/String" :: .eq (.field (lz_tm k) "java/lang/String" "coder" "B") (.int 0) :: .arrayOf (.field (lz_tm k) "java/lang/String" "value" "[B") .byte :: .eq (.length (.field (lz_tm k) "java/lang/String" "value" "[B")) (.int (Int32.ofNat (stl k))) :: (List.range (stl k)).map fun j => .eq (.elem (.field (lz_tm k) "java/lang/String" "value" "[B") (.int (Int32.ofNat j))) (.int (stc k j))
set_option maxRecDepth 100000 in
theorem lz_nk0 : lz_chk lz_T (lz_need 0) [[true, false, true, false, true, false, false, true, false], [true, false, true, false, true, false, false, true, true, false], [true, false, true, false, true, false, false, true, true, true], [true, false, true, false, true, false, true, false, false], [true, false, true, false, true, false, true, false, true, false], [true, false, true, false, true, false, true, false, true, true], [true, false, true, false, true, false, true, true, false]] = true := by decide +kernel
set_option maxRecDepth 100000 in
theorem lz_nk1 : lz_chk lz_T (lz_need 1) [[true, false, true, false, true, true, false, true, true, true], [true, false, true, false, true, true, true, false, false], [true, false, true, false, true, true, true, false, true, false], [true, false, true, false, true, true, true, false, true, true], [true, false, true, false, true, true, true, true, false], [true, false, true, false, true, true, true, true, true, false], [true, false, true, false, true, true, true, true, true, true], [true, false, true, true, false, false, false, false, false], [true, false, true, true, false, false, false, false, true], [true, false, true, true, false, false, false, true, false]] = true := by decide +kernel
set_option maxRecDepth 100000 in
theorem lz_nk2 : lz_chk lz_T (lz_need 2) [[true, false, true, true, false, false, false, true, true, false], [true, false, true, true, false, false, false, true, true, true], [true, false, true, true, false, false, true, false, false], [true, false, true, true, false, false, true, false, true, false], [true, false, true, true, false, false, true, false, true, true], [true, false, true, true, false, false, true, true, false], [true, false, true, true, false, false, true, true, true, false]] = true := by decide +kernel
set_option maxRecDepth 100000 in
theorem lz_nk3 : lz_chk lz_T (lz_need 3) [[true, false, false, true, true, true, true, true, true, true], [true, false, true, false, false, false, false, false, false], [true, false, true, false, false, false, false, false, true], [true, false, true, false, false, false, false, true, false], [true, false, true, false, false, false, false, true, true, false], [true, false, true, false, false, false, false, true, true, true], [true, false, true, false, false, false, true, false, false], [true, false, true, false, false, false, true, false, true, false], [true, false, true, false, false, false, true, false, true, true]] = true := by decide +kernel
set_option maxRecDepth 100000 in
theorem lz_nk4 : lz_chk lz_T (lz_need 4) [[true, false, true, false, false, false, true, true, false], [true, false, true, false, false, false, true, true, true, false], [true, false, true, false, false, false, true, true, true, true], [true, false, true, false, false, true, false, false, false], [true, false, true, false, false, true, false, false, true], [true, false, true, false, false, true, false, true, false], [true, false, true, false, false, true, false, true, true, false], [true, false, true, false, false, true, false, true, true, true]] = true := by decide +kernel
set_option maxRecDepth 100000 in
theorem lz_nk5 : lz_chk lz_T (lz_need 5) [[true, false, true, false, false, true, true, false, false], [true, false, true, false, false, true, true, false, true, false], [true, false, true, false, false, true, true, false, true, true], [true, false, true, false, false, true, true, true, false], [true, false, true, false, false, true, true, true, true, false], [true, false, true, false, false, true, true, true, true, true], [true, false, true, false, true, false, false, false, false], [true, false, true, false, true, false, false, false, true]] = true := by decide +kernel
set_option maxRecDepth 100000 in
theorem lz_nk6 : lz_chk lz_T (lz_need 6) [[true, false, true, false, true, false, true, true, true, false], [true, false, true, false, true, false, true, true, true, true], [true, false, true, false, true, true, false, false, false], [true, false, true, false, true, true, false, false, true], [true, false, true, false, true, true, false, true, false], [true, false, true, false, true, true, false, true, true, false]] = true := by decide +kernel
set_option maxRecDepth 100000 in
theorem lz_nk7 : lz_chk lz_T (lz_need 7) [[true, false, false, false, true, true, false, false, true], [true, false, false, false, true, true, false, true, false], [true, false, false, false, true, true, false, true, true, false], [true, false, false, false, true, true, false, true, true, true], [true, false, false, false, true, true, true, false, false], [true, false, false, false, true, true, true, false, true, false], [true, false, false, false, true, true, true, false, true, true], [true, false, false, false, true, true, true, true, false], [true, false, false, false, true, true, true, true, true, false]] = true := by decide +kernel
set_option maxRecDepth 100000 in
theorem lz_nk8 : lz_chk lz_T (lz_need 8) [[true, false, false, false, true, true, true, true, true, true], [true, false, false, true, false, false, false, false, false], [true, false, false, true, false, false, false, false, true], [true, false, false, true, false, false, false, true, false], [true, false, false, true, false, false, false, true, true, false], [true, false, false, true, false, false, false, true, true, true], [true, false, false, true, false, false, true, false, false], [true, false, false, true, false, false, true, false, true, false]] = true := by decide +kernel
set_option maxRecDepth 100000 in
theorem lz_nk9 : lz_chk lz_T (lz_need 9) [[true, false, false, true, false, false, true, false, true, true], [true, false, false, true, false, false, true, true, false], [true, false, false, true, false, false, true, true, true, false], [true, false, false, true, false, false, true, true, true, true], [true, false, false, true, false, true, false, false, false], [true, false, false, true, false, true, false, false, true], [true, false, false, true, false, true, false, true, false], [true, false, false, true, false, true, false, true, true, false], [true, false, false, true, false, true, false, true, true, true]] = true := by decide +kernel
set_option maxRecDepth 100000 in
theorem lz_nk10 : lz_chk lz_T (lz_need 10) [[true, false, false, true, false, true, true, false, false], [true, false, false, true, false, true, true, false, true, false], [true, false, false, true, false, true, true, false, true, true], [true, false, false, true, false, true, true, true, false], [true, false, false, true, false, true, true, true, true, false], [true, false, false, true, false, true, true, true, true, true], [true, false, false, true, true, false, false, false, false], [true, false, false, true, true, false, false, false, true]] = true := by decide +kernel
set_option maxRecDepth 100000 in
theorem lz_nk11 : lz_chk lz_T (lz_need 11) [[true, false, false, true, true, false, false, true, false], [true, false, false, true, true, false, false, true, true, false], [true, false, false, true, true, false, false, true, true, true], [true, false, false, true, true, false, true, false, false], [true, false, false, true, true, false, true, false, true, false], [true, false, false, true, true, false, true, false, true, true], [true, false, false, true, true, false, true, true, false], [true, false, false, true, true, false, true, true, true, false], [true, false, false, true, true, false, true, true, true, true], [true, false, false, true, true, true, false, false, false]] = true := by decide +kernel
set_option maxRecDepth 100000 in
theorem lz_nk12 : lz_chk lz_T (lz_need 12) [[true, false, false, true, true, true, false, false, true, false], [true, false, false, true, true, true, false, false, true, true], [true, false, false, true, true, true, false, true, false], [true, false, false, true, true, true, false, true, true, false], [true, false, false, true, true, true, false, true, true, true], [true, false, false, true, true, true, true, false, false], [true, false, false, true, true, true, true, false, true, false], [true, false, false, true, true, true, true, false, true, true], [true, false, false, true, true, true, true, true, false], [true, false, false, true, true, true, true, true, true, false]] = true := by decide +kernel
set_option maxRecDepth 100000 in
theorem lz_nk13 : lz_chk lz_T (lz_need 13) [[true, false, true, true, false, false, true, true, true, true], [true, false, true, true, false, true, false, false, false], [true, false, true, true, false, true, false, false, true], [true, false, true, true, false, true, false, true, false], [true, false, true, true, false, true, false, true, true, false], [true, false, true, true, false, true, false, true, true, true], [true, false, true, true, false, true, true, false, false], [true, false, true, true, false, true, true, false, true, false], [true, false, true, true, false, true, true, false, true, true], [true, false, true, true, false, true, true, true, false], [true, false, true, true, false, true, true, true, true, false]] = true := by decide +kernel
set_option maxRecDepth 100000 in
theorem lz_nk14 : lz_chk lz_T (lz_need 14) [[true, false, true, true, false, true, true, true, true, true], [true, false, true, true, true, false, false, false, false], [true, false, true, true, true, false, false, false, true], [true, false, true, true, true, false, false, true, false], [true, false, true, true, true, false, false, true, true, false], [true, false, true, true, true, false, false, true, true, true], [true, false, true, true, true, false, true, false, false], [true, false, true, true, true, false, true, false, true, false], [true, false, true, true, true, false, true, false, true, true]] = true := by decide +kernel
set_option maxRecDepth 100000 in
theorem lz_nk15 : lz_chk lz_T (lz_need 15) [[true, false, true, true, true, false, true, true, false], [true, false, true, true, true, false, true, true, true, false], [true, false, true, true, true, false, true, true, true, true], [true, false, true, true, true, true, false, false, false], [true, false, true, true, true, true, false, false, true, false], [true, false, true, true, true, true, false, false, true, true], [true, false, true, true, true, true, false, true, false], [true, false, true, true, true, true, false, true, true, false], [true, false, true, true, true, true, false, true, true, true], [true, false, true, true, true, true, true, false, false], [true, false, true, true, true, true, true, false, true, false]] = true := by decide +kernel
set_option maxRecDepth 100000 in
theorem lz_nk16 : lz_chk lz_T (lz_need 16) [[true, false, true, true, true, true, true, false, true, true], [true, false, true, true, true, true, true, true, false], [true, false, true, true, true, true, true, true, true, false], [true, false, true, true, true, true, true, true, true, true], [true, true, false, false, false, false, false, false, false], [true, true, false, false, false, false, false, false, true], [true, true, false, false, false, false, false, true, false], [true, true, false, false, false, false, false, true, true, false]] = true := by decide +kernel
set_option maxRecDepth 100000 in
theorem lz_nk17 : lz_chk lz_T (lz_need 17) [[true, true, false, false, false, false, false, true, true, true], [true, true, false, false, false, false, true, false, false], [true, true, false, false, false, false, true, false, true, false], [true, true, false, false, false, false, true, false, true, true], [true, true, false, false, false, false, true, true, false], [true, true, false, false, false, false, true, true, true, false], [true, true, false, false, false, false, true, true, true, true], [true, true, false, false, false, true, false, false, false], [true, true, false, false, false, true, false, false, true]] = true := by decide +kernel
set_option maxRecDepth 100000 in
theorem lz_nk18 : lz_chk lz_T (lz_need 18) [[true, true, false, false, false, true, false, true, true, false], [true, true, false, false, false, true, false, true, true, true], [true, true, false, false, false, true, true, false, false], [true, true, false, false, false, true, true, false, true, false], [true, true, false, false, false, true, true, false, true, true], [true, true, false, false, false, true, true, true, false], [true, true, false, false, false, true, true, true, true, false], [true, true, false, false, false, true, true, true, true, true]] = true := by decide +kernel
set_option maxRecDepth 100000 in
theorem lz_nk19 : lz_chk lz_T (lz_need 19) [[true, true, false, false, true, false, false, false, true], [true, true, false, false, true, false, false, true, false], [true, true, false, false, true, false, false, true, true, false], [true, true, false, false, true, false, false, true, true, true], [true, true, false, false, true, false, true, false, false], [true, true, false, false, true, false, true, false, true, false], [true, true, false, false, true, false, true, false, true, true], [true, true, false, false, true, false, true, true, false], [true, true, false, false, true, false, true, true, true, false]] = true := by decide +kernel
set_option maxRecDepth 100000 in
theorem lz_nk20 : lz_chk lz_T (lz_need 20) [[true, true, false, false, true, true, false, false, false], [true, true, false, false, true, true, false, false, true], [true, true, false, false, true, true, false, true, false], [true, true, false, false, true, true, false, true, true, false], [true, true, false, false, true, true, false, true, true, true], [true, true, false, false, true, true, true, false, false], [true, true, false, false, true, true, true, false, true, false], [true, true, false, false, true, true, true, false, true, true]] = true := by decide +kernel
set_option maxRecDepth 100000 in
theorem lz_nk21 : lz_chk lz_T (lz_need 21) [[true, true, false, false, true, true, true, true, true, false], [true, true, false, false, true, true, true, true, true, true], [true, true, false, true, false, false, false, false, false], [true, true, false, true, false, false, false, false, true], [true, true, false, true, false, false, false, true, false], [true, true, false, true, false, false, false, true, true, false], [true, true, false, true, false, false, false, true, true, true], [true, true, false, true, false, false, true, false, false], [true, true, false, true, false, false, true, false, true, false], [true, true, false, true, false, false, true, false, true, true]] = true := by decide +kernel
set_option maxRecDepth 100000 in
theorem lz_nk22 : lz_chk lz_T (lz_need 22) [[true, true, false, true, false, false, true, true, true, false], [true, true, false, true, false, false, true, true, true, true], [true, true, false, true, false, true, false, false, false], [true, true, false, true, false, true, false, false, true], [true, true, false, true, false, true, false, true, false], [true, true, false, true, false, true, false, true, true, false], [true, true, false, true, false, true, false, true, true, true], [true, true, false, true, false, true, true, false, false], [true, true, false, true, false, true, true, false, true, false], [true, true, false, true, false, true, true, false, true, true]] = true := by decide +kernel
set_option maxRecDepth 100000 in
theorem lz_nk23 : lz_chk lz_T (lz_need 23) [[true, true, true, false, false, true, true, false, true, true], [true, true, true, false, false, true, true, true, false], [true, true, true, false, false, true, true, true, true, false], [true, true, true, false, false, true, true, true, true, true], [true, true, true, false, true, false, false, false, false], [true, true, true, false, true, false, false, false, true], [true, true, true, false, true, false, false, true, false], [true, true, true, false, true, false, false, true, true, false], [true, true, true, false, true, false, false, true, true, true]] = true := by decide +kernel
set_option maxRecDepth 100000 in
theorem lz_nk24 : lz_chk lz_T (lz_need 24) [[true, true, true, false, true, false, true, false, true, false], [true, true, true, false, true, false, true, false, true, true], [true, true, true, false, true, false, true, true, false], [true, true, true, false, true, false, true, true, true, false], [true, true, true, false, true, false, true, true, true, true], [true, true, true, false, true, true, false, false, false], [true, true, true, false, true, true, false, false, true, false], [true, true, true, false, true, true, false, false, true, true]] = true := by decide +kernel
set_option maxRecDepth 100000 in
theorem lz_nk25 : lz_chk lz_T (lz_need 25) [[true, true, true, false, true, true, false, true, true, false], [true, true, true, false, true, true, false, true, true, true], [true, true, true, false, true, true, true, false, false], [true, true, true, false, true, true, true, false, true, false], [true, true, true, false, true, true, true, false, true, true], [true, true, true, false, true, true, true, true, false], [true, true, true, false, true, true, true, true, true, false], [true, true, true, false, true, true, true, true, true, true]] = true := by decide +kernel
set_option maxRecDepth 100000 in
theorem lz_nk26 : lz_chk lz_T (lz_need 26) [[true, true, false, true, false, true, true, true, true, false], [true, true, false, true, false, true, true, true, true, true], [true, true, false, true, true, false, false, false, false], [true, true, false, true, true, false, false, false, true], [true, true, false, true, true, false, false, true, false], [true, true, false, true, true, false, false, true, true, false], [true, true, false, true, true, false, false, true, true, true], [true, true, false, true, true, false, true, false, false], [true, true, false, true, true, false, true, false, true, false], [true, true, false, true, true, false, true, false, true, true], [true, true, false, true, true, false, true, true, false]] = true := by decide +kernel
set_option maxRecDepth 100000 in
theorem lz_nk27 : lz_chk lz_T (lz_need 27) [[true, true, false, true, true, false, true, true, true, true], [true, true, false, true, true, true, false, false, false], [true, true, false, true, true, true, false, false, true, false], [true, true, false, true, true, true, false, false, true, true], [true, true, false, true, true, true, false, true, false], [true, true, false, true, true, true, false, true, true, false], [true, true, false, true, true, true, false, true, true, true], [true, true, false, true, true, true, true, false, false], [true, true, false, true, true, true, true, false, true, false]] = true := by decide +kernel
set_option maxRecDepth 100000 in
theorem lz_nk28 : lz_chk lz_T (lz_need 28) [[true, true, false, true, true, true, true, true, false], [true, true, false, true, true, true, true, true, true, false], [true, true, false, true, true, true, true, true, true, true], [true, true, true, false, false, false, false, false, false], [true, true, true, false, false, false, false, false, true], [true, true, true, false, false, false, false, true, false], [true, true, true, false, false, false, false, true, true, false], [true, true, true, false, false, false, false, true, true, true], [true, true, true, false, false, false, true, false, false], [true, true, true, false, false, false, true, false, true, false], [true, true, true, false, false, false, true, false, true, true]] = true := by decide +kernel
set_option maxRecDepth 100000 in
theorem lz_nk29 : lz_chk lz_T (lz_need 29) [[true, true, true, false, false, false, true, true, true, false], [true, true, true, false, false, false, true, true, true, true], [true, true, true, false, false, true, false, false, false], [true, true, true, false, false, true, false, false, true], [true, true, true, false, false, true, false, true, false], [true, true, true, false, false, true, false, true, true, false], [true, true, true, false, false, true, false, true, true, true], [true, true, true, false, false, true, true, false, false]] = true := by decide +kernel
set_option maxRecDepth 100000 in
theorem lz_nk30 : lz_chk lz_T (lz_need 30) [[true, true, true, true, false, false, false, false, true], [true, true, true, true, false, false, false, true, false], [true, true, true, true, false, false, false, true, true, false], [true, true, true, true, false, false, false, true, true, true], [true, true, true, true, false, false, true, false, false], [true, true, true, true, false, false, true, false, true, false], [true, true, true, true, false, false, true, false, true, true]] = true := by decide +kernel
set_option maxRecDepth 100000 in
theorem lz_nk31 : lz_chk lz_T (lz_need 31) [[true, true, true, true, false, false, true, true, true, false], [true, true, true, true, false, false, true, true, true, true], [true, true, true, true, false, true, false, false, false], [true, true, true, true, false, true, false, false, true], [true, true, true, true, false, true, false, true, false], [true, true, true, true, false, true, false, true, true, false]] = true := by decide +kernel
set_option maxRecDepth 100000 in
theorem lz_nk32 : lz_chk lz_T (lz_need 32) [[true, true, true, true, false, true, true, false, false], [true, true, true, true, false, true, true, false, true, false], [true, true, true, true, false, true, true, false, true, true], [true, true, true, true, false, true, true, true, false], [true, true, true, true, false, true, true, true, true, false], [true, true, true, true, false, true, true, true, true, true], [true, true, true, true, true, false, false, false, false], [true, true, true, true, true, false, false, false, true], [true, true, true, true, true, false, false, true, false], [true, true, true, true, true, false, false, true, true, false]] = true := by decide +kernel
set_option maxRecDepth 100000 in
theorem lz_nk33 : lz_chk lz_T (lz_need 33) [[true, true, true, true, true, false, true, false, false], [true, true, true, true, true, false, true, false, true, false], [true, true, true, true, true, false, true, false, true, true], [true, true, true, true, true, false, true, true, false]] = true := by decide +kernel
set_option maxRecDepth 100000 in
theorem lz_nk34 : lz_chk lz_T (lz_need 34) [[true, true, true, true, true, false, true, true, true, false], [true, true, true, true, true, false, true, true, true, true], [true, true, true, true, true, true, false, false, false], [true, true, true, true, true, true, false, false, true, false], [true, true, true, true, true, true, false, false, true, true], [true, true, true, true, true, true, false, true, false], [true, true, true, true, true, true, false, true, true, false]] = true := by decide +kernel
set_option maxRecDepth 100000 in
theorem lz_nk35 : lz_chk lz_T (lz_need 35) [[true, true, true, true, true, true, true, false, false], [true, true, true, true, true, true, true, false, true, false], [true, true, true, true, true, true, true, false, true, true], [true, true, true, true, true, true, true, true, false], [true, true, true, true, true, true, true, true, true, false]] = true := by decide +kernel
theorem lz_needed {args : Array Value} {s : State} (h : lz_T.before args s = true) (k : Nat) (hk : k < 36) : ∀ w ∈ lz_need k, w.before args s = true := match k, hk with
  | 0, _ => lz_chk_ok h lz_nk0
  | 1, _ => lz_chk_ok h lz_nk1
  | 2, _ => lz_chk_ok h lz_nk2
  | 3, _ => lz_chk_ok h lz_nk3
  | 4, _ => lz_chk_ok h lz_nk4
  | 5, _ => lz_chk_ok h lz_nk5
  | 6, _ => lz_chk_ok h lz_nk6
  | 7, _ => lz_chk_ok h lz_nk7
  | 8, _ => lz_chk_ok h lz_nk8
  | 9, _ => lz_chk_ok h lz_nk9
  | 10, _ => lz_chk_ok h lz_nk10
  | 11, _ => lz_chk_ok h lz_nk11
  | 12, _ => lz_chk_ok h lz_nk12
  | 13, _ => lz_chk_ok h lz_nk13
  | 14, _ => lz_chk_ok h lz_nk14
  | 15, _ => lz_chk_ok h lz_nk15
  | 16, _ => lz_chk_ok h lz_nk16
  | 17, _ => lz_chk_ok h lz_nk17
  | 18, _ => lz_chk_ok h lz_nk18
  | 19, _ => lz_chk_ok h lz_nk19
  | 20, _ => lz_chk_ok h lz_nk20
  | 21, _ => lz_chk_ok h lz_nk21
  | 22, _ => lz_chk_ok h lz_nk22
  | 23, _ => lz_chk_ok h lz_nk23
  | 24, _ => lz_chk_ok h lz_nk24
  | 25, _ => lz_chk_ok h lz_nk25
  | 26, _ => lz_chk_ok h lz_nk26
  | 27, _ => lz_chk_ok h lz_nk27
  | 28, _ => lz_chk_ok h lz_nk28
  | 29, _ => lz_chk_ok h lz_nk29
  | 30, _ => lz_chk_ok h lz_nk30
  | 31, _ => lz_chk_ok h lz_nk31
  | 32, _ => lz_chk_ok h lz_nk32
  | 33, _ => lz_chk_ok h lz_nk33
  | 34, _ => lz_chk_ok h lz_nk34
  | 35, _ => lz_chk_ok h lz_nk35
  | k + 36, hk => by omega
def lz_sp : List (Nat × Nat) := [(2, 108), (2, 122), (2, 127), (2, 97), (2, 102), (2, 103), (2, 113), (2, 31), (2, 84), (2, 85), (2, 86), (2, 87), (2, 88), (2, 136), (2, 137), (2, 138), (2, 139), (6, 91), (6, 98), (6, 99), (6, 100), (6, 101), (6, 102), (6, 119), (6, 132), (6, 133), (6, 107), (6, 108), (6, 109), (6, 110), (6, 134), (6, 135), (6, 140), (6, 141), (6, 142), (6, 147)]
set_option maxRecDepth 100000 in
theorem lz_spok : ((List.range 36).all fun k => match mv_sw k with
  | some q => decide ((tch (lz_sp.getD k (0, 0)).1)[(lz_sp.getD k (0, 0)).2]? = some (.stringRef q.1 q.2.1 q.2.2))
  | none => false) = true := by decide +kernel
theorem lz_stl : ((List.range 36).all fun k => decide (stl k < 2 ^ 31)) = true := by decide +kernel
theorem lz_strs {args : Array Value} {s : State} (hn : lz_T.before args s = true) : ∀ k : Nat, ∃ q : Nat × Nat, k < 36 → (lz_tm k).eval args s none [] s = some (.ref q.1) ∧ va_O "java/lang/String" q.1 (fun a => s.heap.size ≤ a) s s.heap ∧ va_OF "java/lang/String" "coder" "B" (.int 0) q.1 (fun a => s.heap.size ≤ a) s s.heap ∧ va_OF "java/lang/String" "value" "[B" (.ref q.2) q.1 (fun a => s.heap.size ≤ a) s s.heap ∧ va_T .byte q.2 (stl k) (fun j => .int (stc k j)) (fun a => s.heap.size ≤ a) s s.heap := by
  intro k
  by_cases hk : k < 36
  · have hw : ∀ w ∈ lz_need k, w.before args s = true := lz_needed hn k hk
    have hlen : stl k < 2 ^ 31 := of_decide_eq_true (List.all_eq_true.mp lz_stl k (List.mem_range.mpr hk))
    obtain ⟨ad, av, hS, hE⟩ := vk_Sof (args := args) (s := s) (N := 1) (tm := fun _ => lz_tm k) (len := [stl k]) (byt := [stx k]) (A := (fun a => s.heap.size ≤ a))
      (fun i hi => by obtain rfl : i = 0 := by omega
                      exact hlen)
      (fun i hi => hw _ List.mem_cons_self)
      (fun i hi => hw _ (List.mem_cons_of_mem _ List.mem_cons_self))
      (fun i hi => hw _ (List.mem_cons_of_mem _ (List.mem_cons_of_mem _ List.mem_cons_self)))
      (fun i hi => by obtain rfl : i = 0 := by omega
                      exact hw _ (List.mem_cons_of_mem _ (List.mem_cons_of_mem _ (List.mem_cons_of_mem _ List.mem_cons_self))))
      (fun i hi j hj => by obtain rfl : i = 0 := by omega
                           exact hw _ (List.mem_cons_of_mem _ (List.mem_cons_of_mem _ (List.mem_cons_of_mem _ (List.mem_cons_of_mem _ (List.mem_map.mpr ⟨j, List.mem_range.mpr hj, rfl⟩))))))
      (fun i j hi hj hij => absurd (show i = j by omega) hij)
      (fun a ha => Nat.not_le.mpr ha)
    exact ⟨(ad 0, av 0), fun _ => ⟨hE 0 (by omega), hS.1 0 (by omega)⟩⟩
  · exact ⟨(0, 0), fun h => absurd h hk⟩
def lz_bt : Jvm.Term := .static "IntentVats$Acts" "BODIES" "[I"
def lz_bodn : List Jvm.Cond := .arrayOf lz_bt .int :: .eq (.length lz_bt) (.int (Int32.ofNat 24)) :: (List.range 24).map fun j => .eq (.elem lz_bt (.int (Int32.ofNat j))) (.int (bod j))
set_option maxRecDepth 100000 in
theorem lz_bodk : lz_chk lz_T lz_bodn [[true, false, false, false, false, false, true, true, false], [true, false, false, false, false, false, true, true, true, false], [true, false, false, false, false, false, true, true, true, true], [true, false, false, false, false, true, false, false, false], [true, false, false, false, false, true, false, false, true], [true, false, false, false, false, true, false, true, false], [true, false, false, false, false, true, false, true, true, false], [true, false, false, false, false, true, false, true, true, true], [true, false, false, false, false, true, true, false, false], [true, false, false, false, false, true, true, false, true, false], [true, false, false, false, false, true, true, false, true, true], [true, false, false, false, false, true, true, true, false], [true, false, false, false, false, true, true, true, true, false], [true, false, false, false, false, true, true, true, true, true], [true, false, false, false, true, false, false, false, false], [true, false, false, false, true, false, false, false, true], [true, false, false, false, true, false, false, true, false], [true, false, false, false, true, false, false, true, true, false], [true, false, false, false, true, false, false, true, true, true], [true, false, false, false, true, false, true, false, false], [true, false, false, false, true, false, true, false, true, false], [true, false, false, false, true, false, true, false, true, true], [true, false, false, false, true, false, true, true, false], [true, false, false, false, true, false, true, true, true, false], [true, false, false, false, true, false, true, true, true, true], [true, false, false, false, true, true, false, false, false]] = true := by decide +kernel
set_option maxRecDepth 100000 in
theorem lz_cmpk : lz_chk lz_T [.eq (.static "java/lang/String" "COMPACT_STRINGS" "Z") (.int 1)] [[true, false, false, false, false, false, false, true, false]] = true := by decide +kernel
set_option maxRecDepth 100000 in
theorem lz_fmtk : lz_chk lz_T [.isRef (.static "jdk/internal/util/Preconditions" "SIOOBE_FORMATTER" "Ljava/util/function/BiFunction;")] [[true, false, false, false, false, false, false, true, true, false]] = true := by decide +kernel
theorem lz_nl : ∀ q ∈ mv_nl, Jvm.Cond.methodLinkNest q.1 q.2.1 q.2.2 "IntentVats" ∈ lw_tbl := (List.forall_mem_cons.mpr ⟨tch_in 1 _ (List.mem_of_getElem? (i := 104) (by decide +kernel)), (List.forall_mem_cons.mpr ⟨tch_in 1 _ (List.mem_of_getElem? (i := 116) (by decide +kernel)), (List.forall_mem_cons.mpr ⟨tch_in 1 _ (List.mem_of_getElem? (i := 142) (by decide +kernel)), (List.forall_mem_cons.mpr ⟨tch_in 1 _ (List.mem_of_getElem? (i := 173) (by decide +kernel)), (List.forall_mem_cons.mpr ⟨tch_in 2 _ (List.mem_of_getElem? (i := 18) (by decide +kernel)), (List.forall_mem_cons.mpr ⟨tch_in 2 _ (List.mem_of_getElem? (i := 144) (by decide +kernel)), (List.forall_mem_cons.mpr ⟨tch_in 2 _ (List.mem_of_getElem? (i := 206) (by decide +kernel)), (List.forall_mem_cons.mpr ⟨tch_in 4 _ (List.mem_of_getElem? (i := 20) (by decide +kernel)), (List.forall_mem_cons.mpr ⟨tch_in 4 _ (List.mem_of_getElem? (i := 71) (by decide +kernel)), (fun _ h => absurd h List.not_mem_nil)⟩)⟩)⟩)⟩)⟩)⟩)⟩)⟩)⟩)
theorem lz_ext {args : Array Value} {s : State} (b : Nat) (hn : lz_T.before args s = true) (hts : ∀ w ∈ lw_tbl, w.before args s = true) : ∃ φ : Nat → Nat → Nat, mv_Ext s.heap.size φ s ∧ φ 10 0 = b := by
  obtain ⟨ad, had⟩ := Classical.axiomOfChoice (lz_strs hn)
  have hA : ∀ a : Nat, a < s.heap.size → ¬ (fun a => s.heap.size ≤ a) a := fun a ha => Nat.not_le.mpr ha
  have hbd : ∀ w ∈ lz_bodn, w.before args s = true := lz_chk_ok hn lz_bodk
  obtain ⟨bo, hbo, hT⟩ := va_Tof (f := fun j => .int (bod j)) (A := (fun a => s.heap.size ≤ a)) (N := 24) (by decide) (hbd _ List.mem_cons_self) (va_eqt (hbd _ (List.mem_cons_of_mem _ List.mem_cons_self))) (fun j hj => va_eqt (hbd _ (List.mem_cons_of_mem _ (List.mem_cons_of_mem _ (List.mem_map.mpr ⟨j, List.mem_range.mpr hj, rfl⟩))))) hA
  obtain ⟨v, hv, hr⟩ := Cond.isRef_spec (args := args) (first := s) (o := none) (s := s) (idx := []) (lz_chk_ok hn lz_fmtk _ List.mem_cons_self)
  have hZB : va_Z "IntentVats$Acts" "BODIES" "[I" (.ref bo) (fun a => s.heap.size ≤ a) s s.heap := va_Zof (hts _ (tch_in 4 _ (List.mem_of_getElem? (i := 134) (by decide +kernel)))) (hts _ (tch_in 1 _ (List.mem_of_getElem? (i := 7) (by decide +kernel)))) hbo hA
  have hZC : va_Z "java/lang/String" "COMPACT_STRINGS" "Z" (.int 1) (fun a => s.heap.size ≤ a) s s.heap := va_Zof (hts _ (tch_in 2 _ (List.mem_of_getElem? (i := 45) (by decide +kernel)))) (hts _ (tch_in 1 _ (List.mem_of_getElem? (i := 9) (by decide +kernel)))) (va_eqi (lz_chk_ok hn lz_cmpk _ List.mem_cons_self)) hA
  have hZF : va_Z "jdk/internal/util/Preconditions" "SIOOBE_FORMATTER" "Ljava/util/function/BiFunction;" v (fun a => s.heap.size ≤ a) s s.heap := va_Zof (hts _ (tch_in 2 _ (List.mem_of_getElem? (i := 61) (by decide +kernel)))) (hts _ (tch_in 1 _ (List.mem_of_getElem? (i := 11) (by decide +kernel)))) hv hA
  refine ⟨fun t o => if t = 10 then b else if t = 11 then (ad o).1 else if t = 12 then (ad o).2 else if t = 13 then bo else match v with
    | .ref a => a
    | _ => 0, ⟨fun k own idx tx hk => ?_, fun k hk => (had k hk).2, hZB, hT, hZC, ?_, fun q hq => va_Nw.of rfl (hts _ (lz_nl q hq)), va_Nw.of rfl (hts _ (tch_in 1 _ (List.mem_of_getElem? (i := 122) (by decide +kernel)))), va_AO.of (A := args) (hts _ (tch_in 1 _ (List.mem_of_getElem? (i := 156) (by decide +kernel))))⟩, rfl⟩
  · have h36 := mv_sw_lt hk
    have h1 := List.all_eq_true.mp lz_spok k (List.mem_range.mpr h36)
    simp only [hk] at h1
    have h2 := (had k h36).1
    have h3 : lz_tm k = .string own idx := by
      unfold lz_tm
      rw [hk]
    rw [h3] at h2
    exact vk_R.of (hts _ (tch_in _ _ (List.mem_of_getElem? (of_decide_eq_true h1)))) h2
  · cases v with
    | ref a => exact Or.inl hZF
    | null => exact Or.inr hZF
    | _ => cases hr
def lz_ip : List (Nat × Nat × Nat) := [(1, 172, 6), (1, 103, 1), (1, 27, 12), (1, 141, 2), (4, 50, 2), (1, 158, 2), (1, 115, 6), (1, 19, 10), (4, 169, 25)]
set_option maxRecDepth 100000 in
theorem lz_ipok : ((List.range 9).all fun c => decide ((tch (lz_ip.getD c (0, 0, 0)).1)[(lz_ip.getD c (0, 0, 0)).2.1]? = some (.instantiable (mv_R c) (lz_ip.getD c (0, 0, 0)).2.2))) = true := by decide +kernel
theorem lz_K {args : Array Value} {s : State} (hts : ∀ w ∈ lw_tbl, w.before args s = true) : ∃ (D : va_G) (cI cQ : ClassId), va_K D vwCl [(cI, .int), (cQ, .object RX5)] s := by
  have h0 : ∀ c : Nat, ∃ q : ClassId × (Nat → Nat), c < 9 → u_Kn s (mv_R c) (mv_T c) (mv_nf c) q.1 q.2 := by
    intro c
    by_cases hc : c < 9
    · obtain ⟨cC, iS, h⟩ := u_known (N := mv_nf c) hts (fun w hw => (List.mem_filter.mp (mv_wsin c hc w hw)).1) (hts _ (tch_in _ _ (List.mem_of_getElem? (of_decide_eq_true (List.all_eq_true.mp lz_ipok c (List.mem_range.mpr hc))))))
      exact ⟨(cC, iS), fun _ => h⟩
    · exact ⟨(0, fun _ => 0), fun h => absurd h hc⟩
  obtain ⟨f, hf⟩ := Classical.axiomOfChoice h0
  obtain ⟨cI, kI, comp, i1, i2, i3⟩ := Cond.arrayClass_spec (args := args) (first := s) (o := none) (s := s) (idx := []) (hts (.arrayClass .int) (tch_in 1 _ (List.mem_of_getElem? (i := 101) (by decide +kernel))))
  obtain ⟨compQ, cQ, kQ, j1, j2, j3, j4, j5⟩ := Cond.arrayOver_spec (args := args) (first := s) (o := none) (s := s) (idx := []) (hts (.arrayOver (.object RX5)) (tch_in 1 _ (List.mem_of_getElem? (i := 156) (by decide +kernel))))
  refine ⟨(fun c => (f c).1, fun c => (f c).2), cI, cQ, fun c q hq => ?_, fun k q hq => ?_⟩
  · by_cases hc : c < 9
    · have h1 := mv_clOf c hc
      rw [hq] at h1
      obtain rfl := Option.some.inj h1
      exact hf c hc
    · rw [List.getElem?_eq_none (show vwCl.length ≤ c from Nat.not_lt.mp hc)] at hq
      cases hq
  · match k, hq with
    | 0, hq =>
      obtain rfl := Option.some.inj hq
      exact ⟨fun n z => ⟨fun k h => (by cases h), kI, i2, comp, i3⟩, i1⟩
    | 1, hq =>
      obtain rfl := Option.some.inj hq
      exact ⟨fun n z => ⟨fun k h => (by cases h), kQ, j3, compQ, j4⟩, kQ, compQ, j3, j4, j1, j5⟩
    | k + 2, hq => cases hq
