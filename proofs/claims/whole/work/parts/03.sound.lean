/-! WHAT THE EVALUATOR'S ANSWERS MEAN, over the machine -/
def tch : Nat → List Cond
  | 0 => k2_sels lw_privs
  | 1 => tables_1_1
  | 2 => tables_1_2
  | 3 => tables_1_3
  | 4 => tables_1_4
  | 5 => tables_1_5
  | 6 => tables_1_6
  | 7 => tables_1_7
  | _ => []
theorem tch_in : ∀ (j : Nat) (w : Cond), w ∈ tch j → w ∈ lw_tbl
  | 0, w, h => List.mem_append.mpr (Or.inl h)
  | 1, w, h => List.mem_append.mpr (Or.inr (List.mem_append.mpr (Or.inl h)))
  | 2, w, h => List.mem_append.mpr (Or.inr (List.mem_append.mpr (Or.inr (List.mem_append.mpr (Or.inl h)))))
  | 3, w, h => List.mem_append.mpr (Or.inr (List.mem_append.mpr (Or.inr (List.mem_append.mpr (Or.inr (List.mem_append.mpr (Or.inl h)))))))
  | 4, w, h => List.mem_append.mpr (Or.inr (List.mem_append.mpr (Or.inr (List.mem_append.mpr (Or.inr (List.mem_append.mpr (Or.inr (List.mem_append.mpr (Or.inl h)))))))))
  | 5, w, h => List.mem_append.mpr (Or.inr (List.mem_append.mpr (Or.inr (List.mem_append.mpr (Or.inr (List.mem_append.mpr (Or.inr (List.mem_append.mpr (Or.inr (List.mem_append.mpr (Or.inl h)))))))))))
  | 6, w, h => List.mem_append.mpr (Or.inr (List.mem_append.mpr (Or.inr (List.mem_append.mpr (Or.inr (List.mem_append.mpr (Or.inr (List.mem_append.mpr (Or.inr (List.mem_append.mpr (Or.inr (List.mem_append.mpr (Or.inl h)))))))))))))
  | 7, w, h => List.mem_append.mpr (Or.inr (List.mem_append.mpr (Or.inr (List.mem_append.mpr (Or.inr (List.mem_append.mpr (Or.inr (List.mem_append.mpr (Or.inr (List.mem_append.mpr (Or.inr (List.mem_append.mpr (Or.inr h)))))))))))))
  | _ + 8, _, h => absurd h List.not_mem_nil
/-- the words that every contract asks: all of the tables' that hold wherever they held -/
def WS : List Cond := lw_tbl.filter goodWord
def wAt (j i : Nat) (w : Cond) : Bool := decide ((tch j)[i]? = some w) && goodWord w
theorem wAt_in {j i : Nat} {w : Cond} (h : wAt j i w = true) : w ∈ WS := by
  simp only [wAt, Bool.and_eq_true, decide_eq_true_eq] at h
  exact List.mem_filter.mpr ⟨tch_in j w (List.mem_of_getElem? h.1), h.2⟩
theorem WS_good {w : Cond} (h : w ∈ WS) : (w.onTables && w.keeps) = true ∨ ∃ ty, w = .arrayClass ty := good_of_word (List.mem_filter.mp h).2
-- the classes by their tags
def mv_T : Nat → u_T
  | 0 => TX0
  | 1 => TX2
  | 2 => TX3
  | 3 => TX4
  | 4 => TX5
  | 5 => TX6
  | 6 => TX7
  | 7 => TX8
  | _ => TX9
def mv_R : Nat → String
  | 0 => RX0
  | 1 => RX2
  | 2 => RX3
  | 3 => RX4
  | 4 => RX5
  | 5 => RX6
  | 6 => RX7
  | 7 => RX8
  | _ => RX9
def mv_nf : Nat → Nat
  | 0 => 6
  | 1 => 1
  | 2 => 12
  | 3 => 2
  | 4 => 2
  | 5 => 2
  | 6 => 6
  | 7 => 10
  | _ => 25
def mv_ty : Nat → Nat → FieldType
  | 0 => tyX0
  | 1 => tyX2
  | 2 => tyX3
  | 3 => tyX4
  | 4 => tyX5
  | 5 => tyX6
  | 6 => tyX7
  | 7 => tyX8
  | _ => tyX9
def mv_isR (t k : Nat) : Bool := match mv_ty t k with
  | .int => false
  | .boolean => false
  | _ => true
theorem mv_clOf (t : Nat) (h : t < 9) : vwCl[t]? = some (mv_R t, mv_T t, mv_nf t) := by
  match t, h with
  | 0, _ | 1, _ | 2, _ | 3, _ | 4, _ | 5, _ | 6, _ | 7, _ | 8, _ => rfl
  | _ + 9, h => omega
theorem mv_nm (t : Nat) (h : t < 9) : ∀ a, a < mv_nf t → ∀ b, b < mv_nf t → a ≠ b → (mv_T t a).2.1 ≠ (mv_T t b).2.1 := by
  match t, h with
  | 0, _ => exact nmX0
  | 1, _ => exact nmX2
  | 2, _ => exact nmX3
  | 3, _ => exact nmX4
  | 4, _ => exact nmX5
  | 5, _ => exact nmX6
  | 6, _ => exact nmX7
  | 7, _ => exact nmX8
  | 8, _ => exact nmX9
  | _ + 9, h => omega
theorem mv_tyok (t : Nat) (h : t < 9) : ∀ k, k < mv_nf t → parseFieldDescriptor (mv_T t k).2.2.1 = some (mv_ty t k) := by
  match t, h with
  | 0, _ => exact tyX0_ok
  | 1, _ => exact tyX2_ok
  | 2, _ => exact tyX3_ok
  | 3, _ => exact tyX4_ok
  | 4, _ => exact tyX5_ok
  | 5, _ => exact tyX6_ok
  | 6, _ => exact tyX7_ok
  | 7, _ => exact tyX8_ok
  | 8, _ => exact tyX9_ok
  | _ + 9, h => omega
-- where the words of a class's fields stand
def mv_lay : Nat → List (Nat × Nat)
  | 0 => [(1, 185), (1, 187), (1, 189), (1, 191), (1, 193), (1, 195)]
  | 1 => [(1, 111)]
  | 2 => [(1, 76), (1, 78), (1, 80), (1, 82), (1, 84), (1, 86), (1, 88), (1, 90), (1, 92), (1, 94), (1, 96), (1, 98)]
  | 3 => [(1, 150), (1, 152)]
  | 4 => [(4, 58), (4, 60)]
  | 5 => [(1, 166), (1, 168)]
  | 6 => [(1, 127), (1, 129), (1, 131), (1, 133), (1, 135), (1, 137)]
  | 7 => [(1, 208), (1, 210), (1, 212), (1, 214), (1, 216), (1, 218), (1, 220), (1, 222), (1, 224), (1, 226)]
  | _ => [(4, 203), (4, 205), (4, 207), (4, 209), (4, 211), (4, 213), (4, 215), (4, 217), (4, 219), (4, 221), (4, 223), (4, 225), (4, 227), (4, 229), (4, 231), (4, 233), (4, 235), (4, 237), (4, 239), (5, 1), (5, 3), (5, 5), (5, 7), (5, 9), (5, 11)]
theorem mv_layok : ∀ t, t < 9 → ((List.range (mv_nf t)).all fun k => wAt ((mv_lay t).getD k (0, 0)).1 ((mv_lay t).getD k (0, 0)).2 (u_lay (mv_R t) (mv_T t) k)) = true := by decide +kernel
theorem mv_wsin (t : Nat) (h : t < 9) : ∀ w ∈ u_ws (mv_R t) (mv_T t) (mv_nf t), w ∈ WS := by
  intro w hw
  obtain ⟨k, hk, rfl⟩ := List.mem_map.mp hw
  exact wAt_in (List.all_eq_true.mp (mv_layok t h) k hk)
-- values, cells, the world
def mv_v (φ : Nat → Nat → Nat) : mv_V → Value
  | .inl v => v
  | .inr q => .ref (φ q.1 q.2)
def mv_fv (φ : Nat → Nat → Nat) (g : mv_G) (t o k : Nat) : Value := match mv_isR t k with
  | true => va_rf ((g.2.1 t o k).map fun q => φ q.1 q.2)
  | false => .int (g.1 t o k)
def mv_cell (cI cQ : ClassId) (φ : Nat → Nat → Nat) (g : mv_G) (t o : Nat) : va_E :=
  if t < 9 then .inr (t, (List.range (mv_nf t)).map (mv_fv φ g t o))
  else if mv_ra t = true then .inl (cQ, g.2.2.1 t o, .inr (.inr (.inr (.inr fun k => (g.2.1 t o k).map fun q => φ q.1 q.2))))
  else .inl (cI, g.2.2.1 t o, .inl (g.1 t o))
def mv_W (D : va_G) (cI cQ : ClassId) (q0 : Nat) (φ : Nat → Nat → Nat) (g : mv_G) (H : Heap) : Prop :=
  (∀ t o, o < g.2.2.2 t → va_at D vwCl (φ t o, mv_cell cI cQ φ g t o) H) ∧ (∀ t o, o < g.2.2.2 t → q0 ≤ φ t o) ∧
  (∀ t o t' o', o < g.2.2.2 t → o' < g.2.2.2 t' → φ t o = φ t' o' → t = t' ∧ o = o') ∧
  (∀ t o k q, o < g.2.2.2 t → g.2.1 t o k = some q → q.2 < g.2.2.2 q.1) ∧ (∃ ts : List Nat, ts.Nodup ∧ ∀ t, 0 < g.2.2.2 t → t ∈ ts) ∧ ∀ t, 10 ≤ t → t < 100 → g.2.2.2 t = 0
def mv_live (g : mv_G) : mv_V → Prop
  | .inl _ => True
  | .inr q => q.2 < g.2.2.2 q.1 ∨ (10 ≤ q.1 ∧ q.1 < 100 ∧ (q.1 = 11 ∨ q.1 = 12 → q.2 < 36))
/-- a later picture: more cells, those that were there where they were -/
def mv_ge (g0 : mv_G) (φ0 : Nat → Nat → Nat) (g : mv_G) (φ : Nat → Nat → Nat) : Prop :=
  (∀ t o, o < g0.2.2.2 t → φ t o = φ0 t o) ∧ (∀ t o, 10 ≤ t → t < 100 → φ t o = φ0 t o) ∧ ∀ t, g0.2.2.2 t ≤ g.2.2.2 t
theorem mv_ge.rf {g : mv_G} {φ : Nat → Nat → Nat} : mv_ge g φ g φ := ⟨fun _ _ _ => rfl, fun _ _ _ _ => rfl, fun _ => Nat.le_refl _⟩
theorem mv_ge.trans {g0 g1 g2 : mv_G} {φ0 φ1 φ2 : Nat → Nat → Nat} (h1 : mv_ge g0 φ0 g1 φ1) (h2 : mv_ge g1 φ1 g2 φ2) : mv_ge g0 φ0 g2 φ2 :=
  ⟨fun t o h => (h2.1 t o (Nat.lt_of_lt_of_le h (h1.2.2 t))).trans (h1.1 t o h), fun t o a b => (h2.2.1 t o a b).trans (h1.2.1 t o a b), fun t => Nat.le_trans (h1.2.2 t) (h2.2.2 t)⟩
theorem mv_live.up {g0 g : mv_G} {φ0 φ : Nat → Nat → Nat} (hg : mv_ge g0 φ0 g φ) {v : mv_V} (h : mv_live g0 v) : mv_live g v := by
  cases v with
  | inl _ => trivial
  | inr q => exact h.imp (fun h => Nat.lt_of_lt_of_le h (hg.2.2 q.1)) id
theorem mv_live.same {g0 g : mv_G} {φ0 φ : Nat → Nat → Nat} (hg : mv_ge g0 φ0 g φ) {v : mv_V} (h : mv_live g0 v) : mv_v φ v = mv_v φ0 v := by
  cases v with
  | inl _ => rfl
  | inr q =>
    show Value.ref _ = Value.ref _
    rcases h with h | h
    · rw [hg.1 _ _ h]
    · rw [hg.2.1 _ _ h.1 h.2.1]
theorem mv_live.sames {g0 g : mv_G} {φ0 φ : Nat → Nat → Nat} (hg : mv_ge g0 φ0 g φ) {l : List mv_V} (h : ∀ v ∈ l, mv_live g0 v) : l.map (mv_v φ) = l.map (mv_v φ0) :=
  List.map_congr_left fun v hv => (h v hv).same hg
theorem mv_live.samel {g0 g : mv_G} {φ0 φ : Nat → Nat → Nat} (hg : mv_ge g0 φ0 g φ) {l : mv_L} (h : ∀ q ∈ l, mv_live g0 q.2) : (l.map fun q => (q.1, mv_v φ q.2)) = l.map fun q => (q.1, mv_v φ0 q.2) :=
  List.map_congr_left fun q hq => by rw [(h q hq).same hg]
-- texts

def mv_nl : List (String × Nat × MethodName) := [("IntentVats", 28, ⟨"IntentVats$Forecast", "<init>", "()V"⟩), ("IntentVats", 35, ⟨"IntentVats$Tape", "<init>", "()V"⟩), ("IntentVats", 42, ⟨"IntentVats$Rows", "<init>", "()V"⟩), ("IntentVats", 62, ⟨"IntentVats$Acts", "<init>", "()V"⟩), ("IntentVats$Tape", 131, ⟨"IntentVats", "isIn", "(III)Z"⟩), ("IntentVats$Tape", 125, ⟨"IntentVats", "mostOfLaw", "(I)I"⟩), ("IntentVats$Mill", 58, ⟨"IntentVats", "isIn", "(III)Z"⟩), ("IntentVats$Rows", 19, ⟨"IntentVats", "isIn", "(III)Z"⟩), ("IntentVats$SheetRow", 17, ⟨"IntentVats", "isIn", "(III)Z"⟩)]
-- what lies outside: the literals, the acts' table, the two statics
def mv_Ext (q0 : Nat) (φ : Nat → Nat → Nat) (s : State) : Prop :=
  (∀ k own idx tx, mv_sw k = some (own, idx, tx) → vk_R own idx tx (φ 11 k) s) ∧
  (∀ k, k < 36 → va_O "java/lang/String" (φ 11 k) (fun q => q0 ≤ q) s s.heap ∧ va_OF "java/lang/String" "coder" "B" (.int 0) (φ 11 k) (fun q => q0 ≤ q) s s.heap ∧ va_OF "java/lang/String" "value" "[B" (.ref (φ 12 k)) (φ 11 k) (fun q => q0 ≤ q) s s.heap ∧ va_T .byte (φ 12 k) (stl k) (fun j => .int (stc k j)) (fun q => q0 ≤ q) s s.heap) ∧
  va_Z "IntentVats$Acts" "BODIES" "[I" (.ref (φ 13 0)) (fun q => q0 ≤ q) s s.heap ∧ va_T .int (φ 13 0) 24 (fun j => .int (bod j)) (fun q => q0 ≤ q) s s.heap ∧
  va_Z "java/lang/String" "COMPACT_STRINGS" "Z" (.int 1) (fun q => q0 ≤ q) s s.heap ∧ (va_Z "jdk/internal/util/Preconditions" "SIOOBE_FORMATTER" "Ljava/util/function/BiFunction;" (.ref (φ 14 0)) (fun q => q0 ≤ q) s s.heap ∨ va_Z "jdk/internal/util/Preconditions" "SIOOBE_FORMATTER" "Ljava/util/function/BiFunction;" .null (fun q => q0 ≤ q) s s.heap) ∧
  (∀ q ∈ mv_nl, va_Nw (.methodLinkNest q.1 q.2.1 q.2.2 "IntentVats") s) ∧ va_Nw (.fieldLinkNest "IntentVats" 79 "IntentVats$Tape" "length" "I" "IntentVats") s ∧ va_AO RX5 s
theorem mv_Ext.next {q0 : Nat} {φ φ' : Nat → Nat → Nat} {s U : State} (h : mv_Ext q0 φ s) (hW : s.WarmedH U.vm) (hq : ∀ a : Nat, a < s.heap.size → ¬ q0 ≤ a → U.heap[a]? = s.heap[a]?) (hφ : ∀ t o, 10 ≤ t → t < 100 → φ' t o = φ t o) : mv_Ext q0 φ' U := by
  obtain ⟨h1, h2, h3, h4, h5, h6, h7, h8, h9⟩ := h
  have hv : s.vm.Alike U.vm := hW.alike
  have e : ∀ o, φ' 11 o = φ 11 o ∧ φ' 12 o = φ 12 o ∧ φ' 13 o = φ 13 o ∧ φ' 14 o = φ 14 o := fun o => ⟨hφ _ _ (by decide) (by decide), hφ _ _ (by decide) (by decide), hφ _ _ (by decide) (by decide), hφ _ _ (by decide) (by decide)⟩
  refine ⟨fun k own idx tx hk => by rw [(e k).1]; exact (h1 k own idx tx hk).warm hW, fun k hk => ?_, ?_, ?_, (h5.moved hv).kept hq, ?_⟩
  · obtain ⟨a, b, c, d⟩ := h2 k hk
    rw [(e k).1, (e k).2.1]
    exact ⟨(a.moved hv).kept hq, (b.moved hv).kept hq, (c.moved hv).kept hq, (d.moved hv).kept hq⟩
  · rw [(e 0).2.2.1]; exact (h3.moved hv).kept hq
  · rw [(e 0).2.2.1]; exact (h4.moved hv).kept hq
  · rw [(e 0).2.2.2]; exact ⟨h6.imp (fun h => (h.moved hv).kept hq) (fun h => (h.moved hv).kept hq), fun q hq => va_Nw.warmM hW (h7 q hq), va_Nw.warmF hW h8, h9.moved hv⟩
theorem mv_Ext.same {q0 : Nat} {φ : Nat → Nat → Nat} {u U : State} (hv : U.vm = u.vm) (hh : U.heap = u.heap) (h : mv_Ext q0 φ u) : mv_Ext q0 φ U := by
  obtain ⟨h1, h2, h3, h4, h5, h6, h7, h8, h9⟩ := h
  have hA : u.vm.Alike U.vm := by rw [hv]; exact Vm.Alike.refl _
  refine ⟨fun k own idx tx hk => (h1 k own idx tx hk).same hv, fun k hk => ?_, ?_, ?_, ?_, ?_⟩
  · obtain ⟨a, b, c, d⟩ := h2 k hk
    rw [hh]
    exact ⟨a.moved hA, b.moved hA, c.moved hA, d.moved hA⟩
  · rw [hh]; exact h3.moved hA
  · rw [hh]; exact h4.moved hA
  · rw [hh]; exact h5.moved hA
  · rw [hh]; exact ⟨h6.imp (fun h => h.moved hA) (fun h => h.moved hA), fun q hq => va_Nw.same rfl hv.symm (h7 q hq), va_Nw.same rfl hv.symm h8, h9.moved hA⟩
theorem mv_sw_lt {n : Nat} {q : String × Nat × String} (h : mv_sw n = some q) : n < 36 := by
  unfold mv_sw at h
  split at h <;> first | decide | cases h
/-- the script of the law -/
def mv_Scr (sc : Option (Nat × (Nat → Int32))) (q0 : Nat) (φ : Nat → Nat → Nat) (s : State) : Prop := ∀ q, sc = some q → va_X (φ 10 0) q.1 q.2 s s.heap ∧ φ 10 0 < s.heap.size ∧ ¬ q0 ≤ φ 10 0
-- a method: its name, code, locals, what it returns
abbrev mv_MD : Type := MethodName × ByteArray × Nat × Option FieldType
def mv_rm (n MC MS : Nat) : Room := { frames := n, cells := MC, slots := MS, locals := 40 * (n + 1) }
def mv_B (md : mv_MD) (n MC MS : Nat) (sc : Option (Nat × (Nat → Int32))) (p : Program) (R : Room) (s : State) (m : MethodId) (args : Array Value) (meth : Method) (c : Code) (D : va_G) (cI cQ : ClassId) (q0 : Nat) (φ0 : Nat → Nat → Nat) : Prop :=
  p.tables.exec = Jvm.exec ∧ c.code = md.2.1 ∧ c.maxLocals = md.2.2.1 ∧ s.vm.findClass md.1.cls = some m.cls ∧ meth.name = md.1.name ∧ (∀ w ∈ WS, w.before args s = true) ∧
  va_K D vwCl [(cI, .int), (cQ, .object RX5)] s ∧ q0 ≤ s.heap.size ∧ (n ≤ R.frames ∧ MC ≤ R.cells ∧ MS ≤ R.slots ∧ 40 * (n + 1) ≤ R.locals) ∧ mv_Ext q0 φ0 s ∧ mv_Scr sc q0 φ0 s
section
variable {Hp : Type} (vw : Hp → mv_G)
def mv_Ret (md : mv_MD) (MC MS : Nat) (g0 : mv_G) (res : List mv_V × Hp) (p : Program) (l : Launch) (e : Env) (R : Room) (s : State) (m : MethodId) (args : Array Value) (below : List Frame) (meth : Method) (c : Code) (D : va_G) (cI cQ : ClassId) (q0 : Nat) (φ0 : Nat → Nat → Nat) (Qf : State → Prop) : Prop :=
  ∀ φ H locs ls pc, mv_ge g0 φ0 (vw res.2) φ → mv_W D cI cQ q0 φ (vw res.2) H → va_S (fun q => q0 ≤ q) s.heap H locs → (∀ v ∈ res.1, mv_live (vw res.2) v) →
    (∀ x, res.1 = [.inl (.int x)] → decode md.2.1 pc = .ok (.ireturn, 1) → (∃ ty, md.2.2.2 = some ty ∧ narrow ty (.int x) = .int x) → W p l e R s m args below meth c H locs MC MS Qf (F0 m pc ls [.int x])) ∧
    (∀ x, res.1 = [.inl (.long x)] → decode md.2.1 pc = .ok (.lreturn, 1) → md.2.2.2 = some .long → W p l e R s m args below meth c H locs MC MS Qf (F0 m pc ls [.long x])) ∧
    (∀ v, res.1 = [v] → decode md.2.1 pc = .ok (.areturn, 1) → (∃ n, md.2.2.2 = some (.object n)) → (v = .inl .null ∨ ∃ q, v = .inr q) → W p l e R s m args below meth c H locs MC MS Qf (F0 m pc ls [mv_v φ v])) ∧
    (res.1 = [] → decode md.2.1 pc = .ok (.return_, 1) → md.2.2.2 = none → W p l e R s m args below meth c H locs MC MS Qf (F0 m pc ls []))
/-- the machine, at this place with this picture, comes to the end 'Qf' -/
def mv_Y (md : mv_MD) (MC MS : Nat) (g0 : mv_G) (p : Program) (l : Launch) (e : Env) (R : Room) (s : State) (m : MethodId) (args : Array Value) (below : List Frame) (meth : Method) (c : Code) (D : va_G) (cI cQ : ClassId) (q0 : Nat) (φ0 : Nat → Nat → Nat) (Qf : State → Prop) (pc : Nat) (lv : mv_L) (st : List mv_V) (h : Hp) (ce sl : Nat) : Prop :=
  ce ≤ MC → sl ≤ MS → (∀ v ∈ st, mv_live (vw h) v) → (∀ q ∈ lv, mv_live (vw h) q.2) → ∀ φ H locs ls, mv_ge g0 φ0 (vw h) φ → mv_W D cI cQ q0 φ (vw h) H → va_S (fun q => q0 ≤ q) s.heap H locs → lv_has ls md.2.2.1 (lv.map fun q => (q.1, mv_v φ q.2)) → W p l e R s m args below meth c H locs ce sl Qf (F0 m pc ls (st.map (mv_v φ)))
def mv_X (md : mv_MD) (n MC MS : Nat) (sc : Option (Nat × (Nat → Int32))) (g0 : mv_G) (res : List mv_V × Hp) (pc : Nat) (lv : mv_L) (st : List mv_V) (h : Hp) (ce sl : Nat) : Prop :=
  ∀ (p : Program) (l : Launch) (e : Env) (R : Room) (s : State) (m : MethodId) (args : Array Value) (below : List Frame) (meth : Method) (c : Code) (D : va_G) (cI cQ : ClassId) (q0 : Nat) (φ0 : Nat → Nat → Nat) (Qf : State → Prop), mv_B md n MC MS sc p R s m args meth c D cI cQ q0 φ0 → mv_Ret vw md MC MS g0 res p l e R s m args below meth c D cI cQ q0 φ0 Qf → mv_Y vw md MC MS g0 p l e R s m args below meth c D cI cQ q0 φ0 Qf pc lv st h ce sl
/-- a method's contract, at given arguments and heap -/
def mv_Met (n MC MS : Nat) (md : mv_MD) (as : List mv_V) (h : Hp) (vs : List mv_V) (h' : Hp) : Prop :=
  ∀ (l : Launch) (D : va_G) (cI cQ : ClassId) (q0 : Nat) (φ : Nat → Nat → Nat), Met l md.1 (.code md.1 md.2.1 md.2.2.1 md.2.2.2 :: WS) (mv_rm n MC MS) (va_Pc (as.map (mv_v φ)) fun U => q0 ≤ U.heap.size ∧ va_K D vwCl [(cI, .int), (cQ, .object RX5)] U ∧ mv_Ext q0 φ U ∧ (∀ v ∈ as, mv_live (vw h) v) ∧ mv_W D cI cQ q0 φ (vw h) U.heap)
    (fun _ st oc t => ∃ φ', mv_ge (vw h) φ (vw h') φ' ∧ (∀ v ∈ vs, mv_live (vw h') v) ∧ oc = .returned (vs.map (mv_v φ')).head? ∧ mv_W D cI cQ q0 φ' (vw h') t.heap ∧ va_F (fun q => q0 ≤ q) st t) MC MS (fun q => q0 ≤ q)
/-- a call-form holds: where it answers, the callee's contract gives the answer -/
def mv_rcv (md : mv_MD) (as : List mv_V) : Prop := ∃ t o rest, as = .inr (t, o) :: rest ∧ ((t < 9 ∧ md.1.cls = mv_R t) ∨ (t = 11 ∧ md.1.cls = "java/lang/String"))
def mv_Cal (n : Nat) (md : mv_MD × Bool) (C : mv_C Hp) : Prop := ∀ as h k res, C.2 as h k = some res → ∃ vs h', k vs h' = some res ∧ vs.length ≤ 1 ∧ (md.2 = true → mv_rcv md.1 as) ∧ mv_Met vw n C.1.1 C.1.2 md.1 as h vs h'
end
