/-! THE CONSTRUCTORS: the evaluator itself, over a heap of named cells from nothing on -/
def wRG (g : mv_G) (t o k : Nat) (q : Option (Nat × Nat)) (ka : mv_G → Option (List mv_V × mv_G)) : Option (List mv_V × mv_G) := match q with
  | none => ka (mv_setR g t o k none)
  | some z => mv_gd (Nat.ble (z.2 + 1) (g.2.2.2 z.1)) (ka (mv_setR g t o k (some z)))
def rIG (g : mv_G) (t o k : Nat) : Int32 := g.1 t o k
def rRG (g : mv_G) (t o k : Nat) (ka : Option (Nat × Nat) → Option (List mv_V × mv_G)) : Option (List mv_V × mv_G) := ka (g.2.1 t o k)
def lnG (g : mv_G) (t o : Nat) : Nat := g.2.2.1 t o
def nwG (g : mv_G) (t n : Nat) (ka : Nat → mv_G → Option (List mv_V × mv_G)) : Option (List mv_V × mv_G) := ka (g.2.2.2 t) (mv_mk g t n)
def cpG (g : mv_G) (t o o' n _z : Nat) : mv_G := mv_setC g t o o' n
def vwG (g : mv_G) : mv_G := g
theorem axG : mv_Ax rIG rRG lnG mv_setI wRG nwG cpG vwG := ⟨fun _ _ _ _ => rfl, fun _ _ _ _ _ _ h => h, fun _ _ _ => rfl, fun _ _ _ _ _ => rfl, fun h t o k q ka res hh => by
  cases q with
  | none => exact ⟨_, hh, rfl, fun z hz => by cases hz⟩
  | some z =>
    obtain ⟨a, b⟩ := mv_gd_some hh
    refine ⟨_, b, rfl, fun y hy => ?_⟩
    obtain rfl := Option.some.inj hy
    exact Nat.le_of_ble_eq_true a, fun h t n ka res hh => ⟨_, hh, rfl⟩, fun _ _ _ _ _ _ => rfl⟩
/-- a method's call-form by its table -/
def mv_fm (md : mv_MD) (tab : List mv_E) (G : List (mv_C mv_G)) (MC MS k t : Nat) : mv_C mv_G := ((MC, MS), fun as h ka => match as with
  | .inr (u, x) :: rest => mv_gd (Nat.beq u t && Nat.ble (mv_cats (.inr (u, x) :: rest)) md.2.2.1) (match mv_blk rIG rRG lnG mv_setI wRG nwG cpG bod none tab G MC MS [] (fun _ _ _ _ _ _ => none) k (mv_seek 0 tab) (mv_ent 0 (.inr (u, x) :: rest)) [] h 0 0 with
    | some (vs, h') => mv_gd (Nat.ble vs.length 1) (ka vs h')
    | none => none)
  | _ => none)
theorem mv_fm_ok {n : Nat} {md : mv_MD} {Ms : List (mv_MD × Bool)} {tab : List mv_E} {G : List (mv_C mv_G)} {MC MS k t : Nat} (hp : plainName md.1.cls = true) (ht : t < 9) (hc : md.1.cls = mv_R t) (htab : mv_tok md Ms tab = true) (hG : ∀ j C md', mv_nth j G = some C → mv_nth j Ms = some md' → ∃ n', n' + 1 ≤ n ∧ mv_Cal vwG n' md' C) (hn1 : 1 ≤ n) : mv_Cal vwG n (md, true) (mv_fm md tab G MC MS k t) := by
  intro as h ka res hh
  unfold mv_fm at hh
  dsimp only at hh
  split at hh
  · rename_i u x rest
    obtain ⟨a, b⟩ := mv_gd_some hh
    simp only [Bool.and_eq_true] at a
    obtain rfl := Nat.eq_of_beq_eq_true a.1
    split at b
    · rename_i vs h' e
      obtain ⟨c, d⟩ := mv_gd_some b
      exact ⟨vs, h', d, Nat.le_of_ble_eq_true c, fun _ => ⟨_, _, _, rfl, Or.inl ⟨ht, hc⟩⟩, mv_Met_of hp (Nat.le_of_ble_eq_true a.2) (mv_blkX axG hG hn1 htab (fun _ _ _ _ _ _ hh => by cases hh) e)⟩
    · cases b
  · cases hh
def jM_becomeFirst : List (mv_C mv_G) := []
def iM_becomeFirst : mv_C mv_G := mv_fm mdM_becomeFirst tM_becomeFirst jM_becomeFirst 0 0 3000 2
theorem iM_becomeFirst_ok : mv_Cal vwG 1 (mdM_becomeFirst, true) iM_becomeFirst := mv_fm_ok (by decide +kernel) (by decide) rfl kM_becomeFirst (fun j C md' h1 _ => by cases j <;> cases h1) (by decide)
abbrev mdM_init : mv_MD := (yX3_init, cX3_init, 1, none)
def tM_init : List mv_E := [(0, .aload_n 0, 1, [0]), (1, .invokespecial 3, 3, [5, 1, 31, 1, 24, 1, 25]), (4, .aload_n 0, 1, [0]), (5, .iconst 4, 1, [0, 4]), (6, .newarray .int, 2, [300, 1, 101]), (8, .putfield 9, 3, [2, 0, 1, 0, 1, 36]), (11, .aload_n 0, 1, [0]), (12, .bipush 8, 2, [0, 8]), (14, .newarray .int, 2, [301, 1, 101]), (16, .putfield 15, 3, [2, 1, 1, 0, 1, 39]), (19, .aload_n 0, 1, [0]), (20, .bipush 8, 2, [0, 8]), (22, .newarray .int, 2, [302, 1, 101]), (24, .putfield 18, 3, [2, 2, 1, 0, 1, 42]), (27, .aload_n 0, 1, [0]), (28, .bipush 6, 2, [0, 6]), (30, .newarray .int, 2, [303, 1, 101]), (32, .putfield 21, 3, [2, 3, 1, 0, 1, 46]), (35, .aload_n 0, 1, [0]), (36, .bipush 8, 2, [0, 8]), (38, .newarray .int, 2, [304, 1, 101]), (40, .putfield 24, 3, [2, 4, 1, 0, 1, 50]), (43, .aload_n 0, 1, [0]), (44, .bipush 8, 2, [0, 8]), (46, .newarray .int, 2, [305, 1, 101]), (48, .putfield 27, 3, [2, 5, 1, 0, 1, 53]), (51, .aload_n 0, 1, [0]), (52, .bipush 8, 2, [0, 8]), (54, .newarray .int, 2, [306, 1, 101]), (56, .putfield 30, 3, [2, 6, 1, 0, 1, 57]), (59, .aload_n 0, 1, [0]), (60, .bipush 8, 2, [0, 8]), (62, .newarray .int, 2, [307, 1, 101]), (64, .putfield 33, 3, [2, 7, 1, 0, 1, 61]), (67, .aload_n 0, 1, [0]), (68, .bipush 8, 2, [0, 8]), (70, .newarray .int, 2, [308, 1, 101]), (72, .putfield 36, 3, [2, 8, 1, 0, 1, 65]), (75, .aload_n 0, 1, [0]), (76, .iconst 1, 1, [0, 1]), (77, .putfield 39, 3, [2, 11, 0, 0, 1, 73]), (80, .aload_n 0, 1, [0]), (81, .invokevirtual 43, 3, [0, 0, 1, 0, 1, 32, 1, 33, 1, 2, 1, 35, 1, 34]), (84, .return_, 1, [])]
def nM_init : List (mv_MD × Bool) := [(mdM_becomeFirst, true)]
set_option maxRecDepth 100000 in
theorem kM_init : mv_tok mdM_init nM_init tM_init = true := by decide +kernel
def jM_init : List (mv_C mv_G) := [iM_becomeFirst]
def iM_init : mv_C mv_G := mv_fm mdM_init tM_init jM_init 9 66 3000 2
theorem iM_init_ok : mv_Cal vwG 2 (mdM_init, true) iM_init := mv_fm_ok (by decide +kernel) (by decide) rfl kM_init (fun j C md' => match j with
  | 0 => fun h1 h2 => by
    obtain rfl := Option.some.inj h1
    obtain rfl := Option.some.inj h2
    exact ⟨1, by decide, iM_becomeFirst_ok⟩
  | jj + 1 => fun h1 _ => by cases jj <;> cases h1) (by decide)
abbrev mdF_init : mv_MD := (yX2_init, cX2_init, 1, none)
def tF_init : List mv_E := [(0, .aload_n 0, 1, [0]), (1, .invokespecial 3, 3, [5, 1, 107, 1, 24, 1, 25]), (4, .aload_n 0, 1, [0]), (5, .new 9, 3, [2, 12, 1, 108, 1, 27, 1, 2]), (8, .dup, 1, []), (9, .invokespecial 11, 3, [0, 0, 1, 2, 1, 109, 1, 29, 1, 2, 1, 30]), (12, .putfield 12, 3, [1, 0, 1, 0, 1, 110]), (15, .return_, 1, [])]
def nF_init : List (mv_MD × Bool) := [(mdM_init, true)]
set_option maxRecDepth 100000 in
theorem kF_init : mv_tok mdF_init nF_init tF_init = true := by decide +kernel
def jF_init : List (mv_C mv_G) := [iM_init]
def iF_init : mv_C mv_G := mv_fm mdF_init tF_init jF_init 10 78 3000 1
theorem iF_init_ok : mv_Cal vwG 3 (mdF_init, true) iF_init := mv_fm_ok (by decide +kernel) (by decide) rfl kF_init (fun j C md' => match j with
  | 0 => fun h1 h2 => by
    obtain rfl := Option.some.inj h1
    obtain rfl := Option.some.inj h2
    exact ⟨2, by decide, iM_init_ok⟩
  | jj + 1 => fun h1 _ => by cases jj <;> cases h1) (by decide)
abbrev mdT_init : mv_MD := (yX7_init, cX7_init, 1, none)
def tT_init : List mv_E := [(0, .aload_n 0, 1, [0]), (1, .invokespecial 3, 3, [5, 1, 119, 1, 24, 1, 25]), (4, .aload_n 0, 1, [0]), (5, .sipush 200, 3, [0, 200]), (8, .newarray .int, 2, [700, 1, 101]), (10, .putfield 9, 3, [6, 0, 1, 0, 1, 120]), (13, .return_, 1, [])]
def nT_init : List (mv_MD × Bool) := []
set_option maxRecDepth 100000 in
theorem kT_init : mv_tok mdT_init nT_init tT_init = true := by decide +kernel
def jT_init : List (mv_C mv_G) := []
def iT_init : mv_C mv_G := mv_fm mdT_init tT_init jT_init 1 200 3000 6
theorem iT_init_ok : mv_Cal vwG 1 (mdT_init, true) iT_init := mv_fm_ok (by decide +kernel) (by decide) rfl kT_init (fun j C md' h1 _ => by cases j <;> cases h1) (by decide)
abbrev mdR_init : mv_MD := (yX4_init, cX4_init, 1, none)
def tR_init : List mv_E := [(0, .aload_n 0, 1, [0]), (1, .invokespecial 3, 3, [5, 1, 145, 1, 24, 1, 25]), (4, .aload_n 0, 1, [0]), (5, .bipush 30, 2, [0, 30]), (7, .newarray .int, 2, [400, 1, 101]), (9, .putfield 11, 3, [3, 0, 1, 0, 1, 146]), (12, .return_, 1, [])]
def nR_init : List (mv_MD × Bool) := []
set_option maxRecDepth 100000 in
theorem kR_init : mv_tok mdR_init nR_init tR_init = true := by decide +kernel
def jR_init : List (mv_C mv_G) := []
def iR_init : mv_C mv_G := mv_fm mdR_init tR_init jR_init 1 30 3000 3
theorem iR_init_ok : mv_Cal vwG 1 (mdR_init, true) iR_init := mv_fm_ok (by decide +kernel) (by decide) rfl kR_init (fun j C md' h1 _ => by cases j <;> cases h1) (by decide)
abbrev mdH_init : mv_MD := (yX6_init, cX6_init, 2, none)
def tH_init : List mv_E := [(0, .aload_n 0, 1, [0]), (1, .invokespecial 3, 3, [5, 1, 162, 1, 24, 1, 25]), (4, .aload_n 0, 1, [0]), (5, .iconst 4, 1, [0, 4]), (6, .newarray .int, 2, [600, 1, 101]), (8, .putfield 9, 3, [5, 0, 1, 0, 1, 164]), (11, .aload_n 0, 1, [0]), (12, .iconst 4, 1, [0, 4]), (13, .anewarray 15, 3, [601, 1, 163, 1, 156]), (16, .putfield 17, 3, [5, 1, 1, 0, 1, 165]), (19, .iconst 0, 1, [0, 0]), (20, .istore_n 1, 1, [1]), (21, .iload_n 1, 1, [1]), (22, .iconst 4, 1, [0, 4]), (23, .if_icmp .ge 16, 3, [39]), (26, .aload_n 0, 1, [0]), (27, .getfield 9, 3, [5, 0, 1, 0, 1, 164]), (30, .iload_n 1, 1, [1]), (31, .iconst (-1), 1, [1, 1]), (32, .iastore, 1, []), (33, .iinc 1 1, 3, [1, 0, 1]), (36, .goto (-15), 3, [21]), (39, .return_, 1, [])]
def nH_init : List (mv_MD × Bool) := []
set_option maxRecDepth 100000 in
theorem kH_init : mv_tok mdH_init nH_init tH_init = true := by decide +kernel
def jH_init : List (mv_C mv_G) := []
def iH_init : mv_C mv_G := mv_fm mdH_init tH_init jH_init 2 8 3000 5
theorem iH_init_ok : mv_Cal vwG 1 (mdH_init, true) iH_init := mv_fm_ok (by decide +kernel) (by decide) rfl kH_init (fun j C md' h1 _ => by cases j <;> cases h1) (by decide)
abbrev mdA_init : mv_MD := (yX0_init, cX0_init, 1, none)
def tA_init : List mv_E := [(0, .aload_n 0, 1, [0]), (1, .invokespecial 3, 3, [5, 1, 176, 1, 24, 1, 25]), (4, .aload_n 0, 1, [0]), (5, .bipush 30, 2, [0, 30]), (7, .newarray .int, 2, [100, 1, 101]), (9, .putfield 9, 3, [0, 0, 1, 0, 1, 177]), (12, .return_, 1, [])]
def nA_init : List (mv_MD × Bool) := []
set_option maxRecDepth 100000 in
theorem kA_init : mv_tok mdA_init nA_init tA_init = true := by decide +kernel
def jA_init : List (mv_C mv_G) := []
def iA_init : mv_C mv_G := mv_fm mdA_init tA_init jA_init 1 30 3000 0
theorem iA_init_ok : mv_Cal vwG 1 (mdA_init, true) iA_init := mv_fm_ok (by decide +kernel) (by decide) rfl kA_init (fun j C md' h1 _ => by cases j <;> cases h1) (by decide)
abbrev mdV_init : mv_MD := (yX8_init, cX8_init, 1, none)
def tV_init : List mv_E := [(0, .aload_n 0, 1, [0]), (1, .invokespecial 1, 3, [5, 1, 23, 1, 24, 1, 25]), (4, .aload_n 0, 1, [0]), (5, .new 7, 3, [2, 12, 1, 26, 1, 27, 1, 2]), (8, .dup, 1, []), (9, .invokespecial 9, 3, [0, 0, 1, 2, 1, 28, 1, 29, 1, 2, 1, 30]), (12, .putfield 10, 3, [7, 0, 1, 0, 1, 198]), (15, .aload_n 0, 1, [0]), (16, .new 7, 3, [2, 12, 1, 26, 1, 27, 1, 2]), (19, .dup, 1, []), (20, .invokespecial 9, 3, [0, 0, 1, 2, 1, 28, 1, 29, 1, 2, 1, 30]), (23, .putfield 16, 3, [7, 1, 1, 0, 1, 199]), (26, .aload_n 0, 1, [0]), (27, .new 7, 3, [2, 12, 1, 26, 1, 27, 1, 2]), (30, .dup, 1, []), (31, .invokespecial 9, 3, [0, 0, 1, 2, 1, 28, 1, 29, 1, 2, 1, 30]), (34, .putfield 19, 3, [7, 2, 1, 0, 1, 200]), (37, .aload_n 0, 1, [0]), (38, .iconst 0, 1, [0, 0]), (39, .putfield 22, 3, [7, 3, 2, 0, 1, 201]), (42, .aload_n 0, 1, [0]), (43, .new 26, 3, [1, 1, 1, 102, 1, 103, 1, 3]), (46, .dup, 1, []), (47, .invokespecial 28, 3, [0, 1, 1, 12, 1, 104, 1, 105, 1, 3, 1, 106]), (50, .putfield 29, 3, [7, 4, 1, 0, 1, 202]), (53, .aload_n 0, 1, [0]), (54, .new 33, 3, [6, 6, 1, 114, 1, 115, 1, 4]), (57, .dup, 1, []), (58, .invokespecial 35, 3, [0, 2, 1, 12, 1, 116, 1, 117, 1, 4, 1, 118]), (61, .putfield 36, 3, [7, 5, 1, 0, 1, 203]), (64, .aload_n 0, 1, [0]), (65, .new 40, 3, [3, 2, 1, 140, 1, 141, 1, 5]), (68, .dup, 1, []), (69, .invokespecial 42, 3, [0, 3, 1, 12, 1, 142, 1, 143, 1, 5, 1, 144]), (72, .putfield 43, 3, [7, 6, 1, 0, 1, 204]), (75, .aload_n 0, 1, [0]), (76, .iconst 4, 1, [0, 4]), (77, .anewarray 47, 3, [807, 1, 155, 1, 156]), (80, .putfield 49, 3, [7, 7, 1, 0, 1, 205]), (83, .aload_n 0, 1, [0]), (84, .new 53, 3, [5, 2, 1, 157, 1, 158, 1, 6]), (87, .dup, 1, []), (88, .invokespecial 55, 3, [0, 4, 1, 2, 1, 159, 1, 160, 1, 6, 1, 161]), (91, .putfield 56, 3, [7, 8, 1, 0, 1, 206]), (94, .aload_n 0, 1, [0]), (95, .new 60, 3, [0, 6, 1, 171, 1, 172, 1, 7]), (98, .dup, 1, []), (99, .invokespecial 62, 3, [0, 5, 1, 12, 1, 173, 1, 174, 1, 7, 1, 175]), (102, .putfield 63, 3, [7, 9, 1, 0, 1, 207]), (105, .return_, 1, [])]
def nV_init : List (mv_MD × Bool) := [(mdM_init, true), (mdF_init, true), (mdT_init, true), (mdR_init, true), (mdH_init, true), (mdA_init, true)]
set_option maxRecDepth 100000 in
theorem kV_init : mv_tok mdV_init nV_init tV_init = true := by decide +kernel
def jV_init : List (mv_C mv_G) := [iM_init, iF_init, iT_init, iR_init, iH_init, iA_init]
def iV_init : mv_C mv_G := mv_fm mdV_init tV_init jV_init 60 700 3000 7
theorem iV_init_ok : mv_Cal vwG 4 (mdV_init, true) iV_init := mv_fm_ok (by decide +kernel) (by decide) rfl kV_init (fun j C md' => match j with
  | 0 => fun h1 h2 => by
    obtain rfl := Option.some.inj h1
    obtain rfl := Option.some.inj h2
    exact ⟨2, by decide, iM_init_ok⟩
  | 1 => fun h1 h2 => by
    obtain rfl := Option.some.inj h1
    obtain rfl := Option.some.inj h2
    exact ⟨3, by decide, iF_init_ok⟩
  | 2 => fun h1 h2 => by
    obtain rfl := Option.some.inj h1
    obtain rfl := Option.some.inj h2
    exact ⟨1, by decide, iT_init_ok⟩
  | 3 => fun h1 h2 => by
    obtain rfl := Option.some.inj h1
    obtain rfl := Option.some.inj h2
    exact ⟨1, by decide, iR_init_ok⟩
  | 4 => fun h1 h2 => by
    obtain rfl := Option.some.inj h1
    obtain rfl := Option.some.inj h2
    exact ⟨1, by decide, iH_init_ok⟩
  | 5 => fun h1 h2 => by
    obtain rfl := Option.some.inj h1
    obtain rfl := Option.some.inj h2
    exact ⟨1, by decide, iA_init_ok⟩
  | jj + 6 => fun h1 _ => by cases jj <;> cases h1) (by decide)
def jN_anew : List (mv_C mv_G) := []
def iN_anew : mv_C mv_G := mv_fm mdN_anew tN_anew jN_anew 0 0 3000 8
theorem iN_anew_ok : mv_Cal vwG 1 (mdN_anew, true) iN_anew := mv_fm_ok (by decide +kernel) (by decide) rfl kN_anew (fun j C md' h1 _ => by cases j <;> cases h1) (by decide)
abbrev mdN_init : mv_MD := (yX9_init, cX9_init, 1, none)
def tN_init : List mv_E := [(0, .aload_n 0, 1, [0]), (1, .invokespecial 3, 3, [5, 4, 173, 1, 24, 1, 25]), (4, .aload_n 0, 1, [0]), (5, .iconst 4, 1, [0, 4]), (6, .newarray .int, 2, [900, 1, 101]), (8, .dup, 1, []), (9, .iconst 0, 1, [0, 0]), (10, .bipush 9, 2, [0, 9]), (12, .iastore, 1, []), (13, .dup, 1, []), (14, .iconst 1, 1, [0, 1]), (15, .bipush 9, 2, [0, 9]), (17, .iastore, 1, []), (18, .dup, 1, []), (19, .iconst 2, 1, [0, 2]), (20, .bipush 9, 2, [0, 9]), (22, .iastore, 1, []), (23, .dup, 1, []), (24, .iconst 3, 1, [0, 3]), (25, .bipush 99, 2, [0, 99]), (27, .iastore, 1, []), (28, .putfield 9, 3, [8, 0, 1, 0, 4, 178]), (31, .aload_n 0, 1, [0]), (32, .iconst 4, 1, [0, 4]), (33, .newarray .int, 2, [901, 1, 101]), (35, .dup, 1, []), (36, .iconst 0, 1, [0, 0]), (37, .iconst 3, 1, [0, 3]), (38, .iastore, 1, []), (39, .dup, 1, []), (40, .iconst 1, 1, [0, 1]), (41, .iconst 2, 1, [0, 2]), (42, .iastore, 1, []), (43, .dup, 1, []), (44, .iconst 2, 1, [0, 2]), (45, .iconst 4, 1, [0, 4]), (46, .iastore, 1, []), (47, .dup, 1, []), (48, .iconst 3, 1, [0, 3]), (49, .bipush 20, 2, [0, 20]), (51, .iastore, 1, []), (52, .putfield 13, 3, [8, 1, 1, 0, 4, 179]), (55, .aload_n 0, 1, [0]), (56, .bipush 69, 2, [0, 69]), (58, .newarray .int, 2, [902, 1, 101]), (60, .putfield 16, 3, [8, 2, 1, 0, 4, 180]), (63, .aload_n 0, 1, [0]), (64, .bipush 69, 2, [0, 69]), (66, .newarray .int, 2, [903, 1, 101]), (68, .putfield 19, 3, [8, 3, 1, 0, 4, 181]), (71, .aload_n 0, 1, [0]), (72, .bipush 69, 2, [0, 69]), (74, .newarray .int, 2, [904, 1, 101]), (76, .putfield 22, 3, [8, 4, 1, 0, 4, 182]), (79, .aload_n 0, 1, [0]), (80, .sipush 200, 3, [0, 200]), (83, .newarray .int, 2, [906, 1, 101]), (85, .putfield 25, 3, [8, 6, 1, 0, 4, 184]), (88, .aload_n 0, 1, [0]), (89, .bipush 30, 2, [0, 30]), (91, .newarray .int, 2, [911, 1, 101]), (93, .putfield 28, 3, [8, 11, 1, 0, 4, 189]), (96, .aload_n 0, 1, [0]), (97, .iconst 4, 1, [0, 4]), (98, .newarray .int, 2, [913, 1, 101]), (100, .dup, 1, []), (101, .iconst 0, 1, [0, 0]), (102, .iconst (-1), 1, [1, 1]), (103, .iastore, 1, []), (104, .dup, 1, []), (105, .iconst 1, 1, [0, 1]), (106, .iconst (-1), 1, [1, 1]), (107, .iastore, 1, []), (108, .dup, 1, []), (109, .iconst 2, 1, [0, 2]), (110, .iconst (-1), 1, [1, 1]), (111, .iastore, 1, []), (112, .dup, 1, []), (113, .iconst 3, 1, [0, 3]), (114, .iconst (-1), 1, [1, 1]), (115, .iastore, 1, []), (116, .putfield 31, 3, [8, 13, 1, 0, 4, 191]), (119, .aload_n 0, 1, [0]), (120, .iconst 4, 1, [0, 4]), (121, .newarray .int, 2, [914, 1, 101]), (123, .putfield 34, 3, [8, 14, 1, 0, 4, 192]), (126, .aload_n 0, 1, [0]), (127, .sipush 160, 3, [0, 160]), (130, .newarray .int, 2, [915, 1, 101]), (132, .putfield 37, 3, [8, 15, 1, 0, 4, 193]), (135, .aload_n 0, 1, [0]), (136, .iconst 4, 1, [0, 4]), (137, .newarray .int, 2, [916, 1, 101]), (139, .dup, 1, []), (140, .iconst 0, 1, [0, 0]), (141, .iconst 2, 1, [0, 2]), (142, .iastore, 1, []), (143, .dup, 1, []), (144, .iconst 1, 1, [0, 1]), (145, .iconst 2, 1, [0, 2]), (146, .iastore, 1, []), (147, .dup, 1, []), (148, .iconst 2, 1, [0, 2]), (149, .iconst 2, 1, [0, 2]), (150, .iastore, 1, []), (151, .dup, 1, []), (152, .iconst 3, 1, [0, 3]), (153, .iconst 2, 1, [0, 2]), (154, .iastore, 1, []), (155, .putfield 40, 3, [8, 16, 1, 0, 4, 194]), (158, .aload_n 0, 1, [0]), (159, .iconst 4, 1, [0, 4]), (160, .newarray .int, 2, [917, 1, 101]), (162, .putfield 43, 3, [8, 17, 1, 0, 4, 195]), (165, .aload_n 0, 1, [0]), (166, .iconst 4, 1, [0, 4]), (167, .newarray .int, 2, [918, 1, 101]), (169, .putfield 46, 3, [8, 18, 1, 0, 4, 196]), (172, .aload_n 0, 1, [0]), (173, .bipush 30, 2, [0, 30]), (175, .newarray .int, 2, [919, 1, 101]), (177, .putfield 49, 3, [8, 19, 1, 0, 4, 197]), (180, .aload_n 0, 1, [0]), (181, .invokevirtual 52, 3, [0, 0, 1, 0, 4, 174, 4, 176, 1, 8, 4, 177, 0, 25]), (184, .aload_n 0, 1, [0]), (185, .getfield 16, 3, [8, 2, 1, 0, 4, 180]), (188, .iconst 5, 1, [0, 5]), (189, .iconst 1, 1, [0, 1]), (190, .iastore, 1, []), (191, .return_, 1, [])]
def nN_init : List (mv_MD × Bool) := [(mdN_anew, true)]
set_option maxRecDepth 100000 in
theorem kN_init : mv_tok mdN_init nN_init tN_init = true := by decide +kernel
def jN_init : List (mv_C mv_G) := [iN_anew]
def iN_init : mv_C mv_G := mv_fm mdN_init tN_init jN_init 20 900 3000 8
theorem iN_init_ok : mv_Cal vwG 2 (mdN_init, true) iN_init := mv_fm_ok (by decide +kernel) (by decide) rfl kN_init (fun j C md' => match j with
  | 0 => fun h1 h2 => by
    obtain rfl := Option.some.inj h1
    obtain rfl := Option.some.inj h2
    exact ⟨1, by decide, iN_anew_ok⟩
  | jj + 1 => fun h1 _ => by cases jj <;> cases h1) (by decide)
def mv_0 : mv_G := (fun _ _ _ => 0, fun _ _ _ => none, fun _ _ => 0, fun _ => 0)
def mv_go (C : mv_C mv_G) (t : Nat) (g : mv_G) : Option (List mv_V × mv_G) := C.2 [.inr (t, g.2.2.2 t)] (mv_mk g t 0) fun _ h => some ([], h)
def mv_hA : mv_G := match mv_go iV_init 7 mv_0 with
  | some r => r.2
  | none => mv_0
def mv_hB : mv_G := match mv_go iN_init 8 mv_hA with
  | some r => r.2
  | none => mv_0
set_option maxRecDepth 100000 in
theorem mv_hA_some : (mv_go iV_init 7 mv_0).isSome = true := by decide +kernel
set_option maxRecDepth 100000 in
theorem mv_hB_some : (mv_go iN_init 8 mv_hA).isSome = true := by decide +kernel
