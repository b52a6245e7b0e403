-- ===== calls and makings =====
def mv_chkC (own : String) (Ms : List (mv_MD × Bool)) (i : Instr) (len : Nat) (lk : List Nat) : Bool := match i with
  | .new x => (match lk with
    | ci :: n :: a :: b :: a2 :: b2 :: a3 :: b3 :: _ => decide (len = 3) && (decide (ci < 9) && (decide (n = mv_nf ci) && (wAt a b (.classLink own x (mv_R ci)) && (wAt a2 b2 (.instantiable (mv_R ci) n) && wAt a3 b3 (.initialized (mv_R ci))))))
    | _ => false)
  | .newarray ty => (match lk with
    | t :: a :: b :: _ => decide (len = 2) && (decide (ty = .int) && (mv_ia t && wAt a b (.arrayClass .int)))
    | _ => false)
  | .anewarray x => (match lk with
    | t :: a :: b :: _ => decide (len = 3) && (mv_ra t && wAt a b (.classLink own x RX5))
    | _ => false)
  | .invokestatic x => (match lk with
    | 0 :: j :: n :: kd :: a :: b :: a2 :: b2 :: a3 :: b3 :: a4 :: b4 :: _ => (match mv_nth j Ms with
      | some ((y, bytes, maxL, ret), _) => decide (len = 3) && (decide (maxL ≤ 20) && (decide (y.cls ≠ "java/lang/invoke/MethodHandle" ∧ y.cls ≠ "java/lang/invoke/VarHandle" ∧ (parseMethodDescriptor y.desc).map (fun d => d.parameters.length) = some n) && (wAt a2 b2 (.static y) && (wAt a3 b3 (.initialized y.cls) && (wAt a4 b4 (.code y bytes maxL ret) && (match kd with
        | 1 => wAt a b (.methodLink own x y)
        | _ => decide ((own, x, y) ∈ mv_nl)))))))
      | none => false)
    | 1 :: a :: b :: a2 :: b2 :: a3 :: b3 :: a4 :: b4 :: _ => decide (len = 3) && (wAt a b (.methodLink own x Lib.Math.max.name) && (wAt a2 b2 (.static Lib.Math.max.name) && (wAt a3 b3 (.initialized "java/lang/Math") && wAt a4 b4 (.code Lib.Math.max.name Lib.Math.max.code 2 (some .int)))))
    | 2 :: a :: b :: a2 :: b2 :: a3 :: b3 :: a4 :: b4 :: _ => decide (len = 3) && (wAt a b (.methodLink own x Lib.Math.min.name) && (wAt a2 b2 (.static Lib.Math.min.name) && (wAt a3 b3 (.initialized "java/lang/Math") && wAt a4 b4 (.code Lib.Math.min.name Lib.Math.min.code 2 (some .int)))))
    | 3 :: a :: b :: a2 :: b2 :: a3 :: b3 :: a4 :: b4 :: _ => decide (len = 3) && (wAt a b (.methodLink own x Lib.Math.abs.name) && (wAt a2 b2 (.static Lib.Math.abs.name) && (wAt a3 b3 (.initialized "java/lang/Math") && wAt a4 b4 (.code Lib.Math.abs.name Lib.Math.abs.code 1 (some .int)))))
    | 4 :: a :: b :: a2 :: b2 :: a3 :: b3 :: a4 :: b4 :: _ => decide (len = 3) && (wAt a b (.methodLink own x arraycopyName) && (wAt a2 b2 (.native arraycopyName) && (wAt a3 b3 (.static arraycopyName) && wAt a4 b4 (.initialized "java/lang/System"))))
    | 9 :: _ => true
    | _ => false)
  | .invokevirtual x => (match lk with
    | 0 :: j :: n :: kd :: a :: b :: a2 :: b2 :: a3 :: b3 :: a4 :: b4 :: a5 :: b5 :: _ => (match mv_nth j Ms with
      | some ((y, bytes, maxL, ret), ins) => decide (len = 3) && (ins && (decide (maxL ≤ 20) && (decide (y.cls ≠ "java/lang/invoke/MethodHandle" ∧ y.cls ≠ "java/lang/invoke/VarHandle" ∧ (parseMethodDescriptor y.desc).map (fun d => d.parameters.length + 1) = some n) && (wAt a2 b2 (.instanceMethod y) && (wAt a3 b3 (.initialized y.cls) && (wAt a4 b4 (.code y bytes maxL ret) && (wAt a5 b5 (.selects y.cls y y) && (wAt a b (.methodLink own x y)))))))))
      | none => false)
    | _ => false)
  | .invokespecial x => (match lk with
    | 0 :: j :: n :: kd :: a :: b :: a2 :: b2 :: a3 :: b3 :: a4 :: b4 :: _ => (match mv_nth j Ms with
      | some ((y, bytes, maxL, ret), ins) => decide (len = 3) && (ins && (decide (ret = none) && (decide (y.name = "<init>") && (decide (maxL ≤ 20) && (decide (y.cls ≠ "java/lang/invoke/MethodHandle" ∧ y.cls ≠ "java/lang/invoke/VarHandle" ∧ (parseMethodDescriptor y.desc).map (fun d => d.parameters.length + 1) = some n) && (wAt a2 b2 (.instanceMethod y) && (wAt a3 b3 (.initialized y.cls) && (wAt a4 b4 (.code y bytes maxL ret) && (match kd with
        | 2 => wAt a b (.methodLink own x y)
        | _ => decide ((own, x, y) ∈ mv_nl))))))))))
      | none => false)
    | 5 :: a :: b :: a2 :: b2 :: a3 :: b3 :: _ => decide (len = 3) && (wAt a b (.methodLink own x Lib.objectInit) && (wAt a2 b2 (.instanceMethod Lib.objectInit) && wAt a3 b3 (.code Lib.objectInit ⟨#[0xb1]⟩ 1 none)))
    | _ => false)
  | _ => false
theorem mv_tk_some {α : Type} : ∀ (n : Nat) (as st : List mv_V) (k : List mv_V → List mv_V → Option α) (r : α), mv_tk n as st k = some r → ∃ a b, st = a ++ b ∧ a.length = n ∧ k (a.reverse ++ as) b = some r
  | 0, as, st, k, r, h => ⟨[], st, rfl, rfl, h⟩
  | n + 1, as, [], k, r, h => by cases h
  | n + 1, as, v :: st, k, r, h => by
    obtain ⟨a, b, h1, h2, h3⟩ := mv_tk_some n (v :: as) st k r h
    exact ⟨v :: a, b, by rw [h1]; rfl, by rw [List.length_cons, h2], by rw [List.reverse_cons, List.append_assoc]; exact h3⟩
theorem mv_ap_eq {α : Type} : ∀ (vs st : List mv_V) (k : List mv_V → α), mv_ap vs st k = k (vs ++ st)
  | [], _, _ => rfl
  | v :: vs, st, k => by
    show mv_ap vs st (fun l => k (v :: l)) = _
    rw [mv_ap_eq vs st]
    rfl
theorem mv_cats_eq (φ : Nat → Nat → Nat) : ∀ st : List mv_V, ((st.map (mv_v φ)).map fun v => v.category).sum = mv_cats st
  | [] => rfl
  | v :: st => by
    rw [List.map_cons, List.map_cons, List.sum_cons, mv_cats_eq φ st]
    show _ = (match mv_two v with
      | true => 2
      | false => 1) + mv_cats st
    congr 1
    cases h : mv_two v with
    | true => have := mv_two_beq φ v; rw [h] at this; exact eq_of_beq this
    | false => exact mv_two_cat h
theorem mv_dflt : ∀ t, t < 9 → ∀ j, j < mv_nf t → defaultValue (mv_ty t j) = (match mv_isR t j with
    | true => Value.null
    | false => Value.int 0) := by decide +kernel
theorem mv_WSgood (md : mv_MD) (h : Cond.code md.1 md.2.1 md.2.2.1 md.2.2.2 ∈ WS) : GoodIn WS (.code md.1 md.2.1 md.2.2.1 md.2.2.2 :: WS) := fun w hw => by
  rcases List.mem_cons.mp hw with rfl | hw
  · exact ⟨h, WS_good h⟩
  · exact ⟨hw, WS_good hw⟩
section
variable {Hp : Type} {vw : Hp → mv_G}
variable {p : Program} {l : Launch} {e : Env} {R : Room} {s : State} {m : MethodId} {args : Array Value} {below : List Frame} {meth : Method} {c : Code} {H : Heap} {locs : List Loc} {cells slots : Nat} {Q : State → Prop} {pc : Nat} {ls : Array Slot} {φ φ0 : Nat → Nat → Nat} {md : mv_MD} {n MC MS : Nat} {sc : Option (Nat × (Nat → Int32))} {D : va_G} {cI cQ : ClassId} {q0 : Nat}
/-- behind a call -/
theorem mv_back {g g' : mv_G} {vs : List mv_V} {mc ms : Nat} {st0 rest : List Value} (hr : va_Run p l e R s m args below meth c H locs cells slots mc ms (F0 m pc ls st0) rest (fun st oc t => ∃ φ', mv_ge g φ g' φ' ∧ (∀ v ∈ vs, mv_live g' v) ∧ oc = .returned (vs.map (mv_v φ')).head? ∧ mv_W D cI cQ q0 φ' g' t.heap ∧ va_F (fun q => q0 ≤ q) st t) (fun q => q0 ≤ q))
    (hS : va_S (fun q => q0 ≤ q) s.heap H locs) (kk : ∀ φ' H1 locs1, mv_ge g φ g' φ' → (∀ v ∈ vs, mv_live g' v) → mv_W D cI cQ q0 φ' g' H1 → va_S (fun q => q0 ≤ q) s.heap H1 locs1 → W p l e R s m args below meth c H1 locs1 (cells + mc) (slots + ms) Q (F0 m (pc + 3) ls ((vs.map (mv_v φ')).head?.toList ++ rest))) : W p l e R s m args below meth c H locs cells slots Q (F0 m pc ls st0) := by
  intro T hT X
  obtain ⟨v, st₀, t, T', L, h0, X', hL, e1, e2, ⟨φ', h1, h2, h3, h4, h5, h6⟩, st⟩ := hr T hT X
  cases h3
  rw [h0] at h5 h6
  obtain ⟨t2, a1, b1⟩ := kk φ' T'.heap (locs ++ L) h1 h2 (by rw [e1]; exact h4)
    ⟨Nat.le_trans hS.1 (by rw [e1]; exact h5), fun q ha hb => by rw [e1, h6 q (Nat.lt_of_lt_of_le ha hS.1) hb]; exact hS.2.1 q ha hb, fun q hq => by
      rcases List.mem_append.mp hq with h | h
      · exact hS.2.2 q h
      · exact hL q h⟩ T' rfl X'
  exact ⟨t2, st t2 a1, b1⟩
theorem mv_blind {as : List mv_V} {g : mv_G} : FrameBlind (va_Pc (as.map (mv_v φ)) fun U => q0 ≤ U.heap.size ∧ va_K D vwCl [(cI, .int), (cQ, .object RX5)] U ∧ mv_Ext q0 φ U ∧ (∀ v ∈ as, mv_live g v) ∧ mv_W D cI cQ q0 φ g U.heap) := by
  intro a U g mk q
  obtain ⟨h0, h1, h2, h3, h4, h5⟩ := q
  exact ⟨h0, h1, va_K.moved (u := U) (U := U.calling g mk a) (Vm.Alike.refl U.vm) h2, mv_Ext.same (u := U) (U := U.calling g mk a) rfl rfl h3, h4, h5⟩
theorem mv_pre (hB : mv_B md n MC MS sc p R s m args meth c D cI cQ q0 φ0) (hφ : ∀ t o, 10 ≤ t → t < 100 → φ t o = φ0 t o) {as : List mv_V} {g : mv_G} (hv : ∀ v ∈ as, mv_live g v) (hW : mv_W D cI cQ q0 φ g H) (hS : va_S (fun q => q0 ≤ q) s.heap H locs) :
    ∀ U : State, U.heap = H → s.WarmedH U.vm → (va_Pc (as.map (mv_v φ)) fun U => q0 ≤ U.heap.size ∧ va_K D vwCl [(cI, .int), (cQ, .object RX5)] U ∧ mv_Ext q0 φ U ∧ (∀ v ∈ as, mv_live g v) ∧ mv_W D cI cQ q0 φ g U.heap) (as.map (mv_v φ)).toArray U := by
  obtain ⟨hx, hb, hml, hown, hnm, hts, hK, hq0, hR, hE, hScr⟩ := hB
  intro U hU hWm
  refine ⟨rfl, by rw [hU]; exact Nat.le_trans hq0 hS.1, va_K.moved hWm.alike hK, hE.next hWm (fun a h1 h2 => by rw [hU]; exact hS.2.1 a h1 h2) hφ, hv, by rw [hU]; exact hW⟩
end
section
variable {Hp : Type} {rI : Hp → Nat → Nat → Nat → Int32} {rR : Hp → Nat → Nat → Nat → (Option (Nat × Nat) → Option (List mv_V × Hp)) → Option (List mv_V × Hp)} {ln : Hp → Nat → Nat → Nat} {wI : Hp → Nat → Nat → Nat → Int32 → Hp} {wR : Hp → Nat → Nat → Nat → Option (Nat × Nat) → (Hp → Option (List mv_V × Hp)) → Option (List mv_V × Hp)} {nw : Hp → Nat → Nat → (Nat → Hp → Option (List mv_V × Hp)) → Option (List mv_V × Hp)} {cp : Hp → Nat → Nat → Nat → Nat → Nat → Hp} {vw : Hp → mv_G}
variable {p : Program} {l : Launch} {e : Env} {R : Room} {s : State} {m : MethodId} {args : Array Value} {below : List Frame} {meth : Method} {c : Code} {H : Heap} {locs : List Loc} {Q : State → Prop} {pc : Nat} {ls : Array Slot} {φ φ0 : Nat → Nat → Nat} {md : mv_MD} {n MC MS : Nat} {sc : Option (Nat × (Nat → Int32))} {D : va_G} {cI cQ : ClassId} {q0 : Nat}
/-- what a call-form's answer gives, for any of the three kinds of call -/
theorem mv_call (hB : mv_B md n MC MS sc p R s m args meth c D cI cQ q0 φ0) (hφ : ∀ t o, 10 ≤ t → t < 100 → φ t o = φ0 t o) {x j nn len : Nat} {G : List (mv_C Hp)} {C : mv_C Hp} {i : Instr} {n' : Nat} {y : MethodName} {bytes : ByteArray} {maxL : Nat} {ret : Option FieldType} {ins : Bool} (hn : n' + 1 ≤ n) (hCal : mv_Cal vw n' ((y, bytes, maxL, ret), ins) C)
    {lv : mv_L} {a b : List mv_V} {h : Hp} {ce sl : Nat} {k : List mv_V → Hp → Nat → Nat → Option (List mv_V × Hp)} {res : List mv_V × Hp} (hh : C.2 a.reverse h (fun vs h => mv_ap vs b fun st => k st h (ce + C.1.1) (sl + C.1.2)) = some res) (hca : ce + C.1.1 ≤ MC) (hcb : sl + C.1.2 ≤ MS) (hcat : mv_cats b ≤ 8)
    (hv : ∀ v ∈ a ++ b, mv_live (vw h) v) (hls : ls.size = md.2.2.1) (hW : mv_W D cI cQ q0 φ (vw h) H) (hS : va_S (fun q => q0 ≤ q) s.heap H locs)
    (hgo : ∀ vs h', vs.length ≤ 1 → (ins = true → mv_rcv (y, bytes, maxL, ret) a.reverse) → mv_Met vw n' C.1.1 C.1.2 (y, bytes, maxL, ret) a.reverse h vs h' → (∀ U : State, U.heap = H → s.WarmedH U.vm → (va_Pc (a.reverse.map (mv_v φ)) fun U => q0 ≤ U.heap.size ∧ va_K D vwCl [(cI, .int), (cQ, .object RX5)] U ∧ mv_Ext q0 φ U ∧ (∀ v ∈ a.reverse, mv_live (vw h) v) ∧ mv_W D cI cQ q0 φ (vw h) U.heap) (a.reverse.map (mv_v φ)).toArray U) →
      va_Run p l e R s m args below meth c H locs ce sl C.1.1 C.1.2 (F0 m pc ls ((a ++ b).map (mv_v φ))) (b.map (mv_v φ)) (fun st oc t => ∃ φ', mv_ge (vw h) φ (vw h') φ' ∧ (∀ v ∈ vs, mv_live (vw h') v) ∧ oc = .returned (vs.map (mv_v φ')).head? ∧ mv_W D cI cQ q0 φ' (vw h') t.heap ∧ va_F (fun q => q0 ≤ q) st t) (fun q => q0 ≤ q))
    (kk : ∀ st' h' ce' sl' φ' H' locs', k st' h' ce' sl' = some res → ce' ≤ MC → sl' ≤ MS → (∀ v ∈ st', mv_live (vw h') v) → mv_ge (vw h) φ (vw h') φ' → mv_W D cI cQ q0 φ' (vw h') H' → va_S (fun q => q0 ≤ q) s.heap H' locs' → W p l e R s m args below meth c H' locs' ce' sl' Q (F0 m (pc + 3) ls (st'.map (mv_v φ')))) : W p l e R s m args below meth c H locs ce sl Q (F0 m pc ls ((a ++ b).map (mv_v φ))) := by
  obtain ⟨vs, h', h1, h2, h3, h4⟩ := hCal _ _ _ _ hh
  rw [mv_ap_eq] at h1
  have hva : ∀ v ∈ a.reverse, mv_live (vw h) v := fun v hv' => hv v (List.mem_append_left _ (List.mem_reverse.mp hv'))
  have hvb : ∀ v ∈ b, mv_live (vw h) v := fun v hv' => hv v (List.mem_append_right _ hv')
  refine mv_back (hgo vs h' h2 h3 h4 (mv_pre hB hφ hva hW hS)) hS fun φ' H1 locs1 g1 g2 g3 g4 => ?_
  have hst : (vs.map (mv_v φ')).head?.toList ++ b.map (mv_v φ) = (vs ++ b).map (mv_v φ') := by
    rw [List.map_append, mv_live.sames g1 hvb]
    congr 1
    match vs, h2 with
    | [], _ => rfl
    | [v], _ => rfl
  rw [hst]
  refine kk _ _ _ _ φ' H1 locs1 h1 hca hcb (fun v hv' => ?_) g1 g3 g4
  rcases List.mem_append.mp hv' with hv' | hv'
  · exact g2 v hv'
  · exact (hvb v hv').up g1
set_option maxHeartbeats 8000000 in
theorem mv_cop_sound (hA : mv_Ax rI rR ln wI wR nw cp vw) (hB : mv_B md n MC MS sc p R s m args meth c D cI cQ q0 φ0) (hφ : ∀ t o, 10 ≤ t → t < 100 → φ t o = φ0 t o) {G : List (mv_C Hp)} {Ms : List (mv_MD × Bool)} (hG : ∀ j C md', mv_nth j G = some C → mv_nth j Ms = some md' → ∃ n', n' + 1 ≤ n ∧ mv_Cal vw n' md' C) (hn1 : 1 ≤ n)
    {i : Instr} {len : Nat} {lk : List Nat} (hd : decode md.2.1 pc = .ok (i, len)) (hc : mv_chkC md.1.cls Ms i len lk = true)
    {lv : mv_L} {st : List mv_V} {h : Hp} {ce sl : Nat} {k : List mv_V → Hp → Nat → Nat → Option (List mv_V × Hp)} {res : List mv_V × Hp} (hh : mv_cop ln nw cp G MC MS i lk lv st h ce sl k = some res) (hce : ce ≤ MC) (hsl : sl ≤ MS) (hv : ∀ v ∈ st, mv_live (vw h) v) (hls : ls.size = md.2.2.1) (hW : mv_W D cI cQ q0 φ (vw h) H) (hS : va_S (fun q => q0 ≤ q) s.heap H locs)
    (kk : ∀ st' h' ce' sl' φ' H' locs', k st' h' ce' sl' = some res → ce' ≤ MC → sl' ≤ MS → (∀ v ∈ st', mv_live (vw h') v) → mv_ge (vw h) φ (vw h') φ' → mv_W D cI cQ q0 φ' (vw h') H' → va_S (fun q => q0 ≤ q) s.heap H' locs' → W p l e R s m args below meth c H' locs' ce' sl' Q (F0 m (pc + len) ls (st'.map (mv_v φ')))) : W p l e R s m args below meth c H locs ce sl Q (F0 m pc ls (st.map (mv_v φ))) := by
  have hB' := hB
  obtain ⟨hx, hb, hml, hown, hnm, hts, hK, hq0, ⟨hR1, hR2, hR3, hR4⟩, hE, hScr⟩ := hB
  obtain ⟨aI, aR, aL, aW, aV, aN, aC⟩ := hA
  obtain ⟨ws, hP, hDw, hcov⟩ := mv_cover hW
  have hA0 : ∀ q : Nat, s.heap.size ≤ q → q0 ≤ q := fun q hq => Nat.le_trans hq0 hq
  unfold mv_cop at hh
  split at hh
  · -- new
    split at hh
    · next ci nn rest =>
      simp only [mv_chkC] at hc
      split at hc
      · next heq =>
        cases heq
        simp only [Bool.and_eq_true, decide_eq_true_eq] at hc
        obtain ⟨rfl, hci, rfl, hl1, hl2, hl3⟩ := hc
        split at hh
        · next hg =>
          simp only [Bool.and_eq_true, Nat.ble_eq] at hg
          obtain ⟨h', h3, h4⟩ := aN _ _ _ _ _ hh
          have hfs : ∀ j, j < mv_nf ci → defaultValue (mv_ty ci j) = vp_V ((List.range (mv_nf ci)).map (mv_fv φ (mv_mk (vw h) ci 0) ci ((vw h).2.2.2 ci))) j := by
            intro j hj
            rw [mv_dflt ci hci j hj]
            unfold vp_V
            rw [List.getD_eq_getElem?_getD, List.getElem?_map, List.getElem?_range hj]
            show _ = mv_fv φ (mv_mk (vw h) ci 0) ci ((vw h).2.2.2 ci) j
            unfold mv_fv
            show _ = (match mv_isR ci j with
              | true => va_rf ((if ci = ci ∧ (vw h).2.2.2 ci = (vw h).2.2.2 ci then none else _).map _)
              | false => Value.int (if ci = ci ∧ (vw h).2.2.2 ci = (vw h).2.2.2 ci then 0 else _))
            rw [if_pos ⟨rfl, rfl⟩, if_pos ⟨rfl, rfl⟩]
            cases mv_isR ci j <;> rfl
          refine va_new hx hb hts (mv_wsin ci hci) (mv_ty ci) (mv_tyok ci hci) hown (hts _ (wAt_in hl1)) (hts _ (wAt_in hl2)) (hts _ (wAt_in hl3)) hK hP hDw hS hA0 (mv_clOf ci hci) hfs (Nat.le_trans hg.1 hR2) (Nat.le_trans hg.2 hR3) hd fun q H1 hP1 hD1 hS1 => ?_
          have he : mv_cell cI cQ (mv_phi φ ci ((vw h).2.2.2 ci) q) (mv_mk (vw h) ci 0) ci ((vw h).2.2.2 ci) = .inr (ci, (List.range (mv_nf ci)).map (mv_fv φ (mv_mk (vw h) ci 0) ci ((vw h).2.2.2 ci))) := by
            rw [mv_obj hci]
            have : mv_fv (mv_phi φ ci ((vw h).2.2.2 ci) q) (mv_mk (vw h) ci 0) ci ((vw h).2.2.2 ci) = mv_fv φ (mv_mk (vw h) ci 0) ci ((vw h).2.2.2 ci) := by
              funext j
              unfold mv_fv
              show (match mv_isR ci j with
                | true => va_rf ((if ci = ci ∧ (vw h).2.2.2 ci = (vw h).2.2.2 ci then none else _).map _)
                | false => _) = (match mv_isR ci j with
                | true => va_rf ((if ci = ci ∧ (vw h).2.2.2 ci = (vw h).2.2.2 ci then none else _).map _)
                | false => _)
              rw [if_pos ⟨rfl, rfl⟩]
              rfl
            rw [this]
          obtain ⟨hW1, hge⟩ := hW.new hcov (Or.inl (by omega)) hP1 hD1 he
          rw [← h4] at hW1 hge
          have h5 := kk _ _ _ _ _ H1 locs h3 hg.1 hg.2 (List.forall_mem_cons.mpr ⟨Or.inl (by rw [h4]; show (vw h).2.2.2 ci < if ci = ci then _ else _; rw [if_pos rfl]; omega), fun v hv' => (hv v hv').up hge⟩) hge hW1 hS1
          rw [List.map_cons, mv_live.sames hge hv] at h5
          have h6 : mv_v (mv_phi φ ci ((vw h).2.2.2 ci) q) (.inr (ci, (vw h).2.2.2 ci)) = .ref q := congrArg Value.ref (if_pos ⟨rfl, rfl⟩)
          rw [h6] at h5
          exact h5
        · cases hh
      · cases hc
    · cases hh
  · -- newarray
    split at hh
    · next t rest =>
      split at hh
      · next x st =>
        obtain ⟨-, hv1⟩ := List.forall_mem_cons.mp hv
        simp only [mv_chkC] at hc
        split at hc
        · next heq =>
          cases heq
          simp only [Bool.and_eq_true, decide_eq_true_eq] at hc
          obtain ⟨rfl, rfl, hia, hl1⟩ := hc
          split at hh
          · next hg1 =>
            have hg1 := Nat.ble_eq.mp hg1
            obtain ⟨hg, hh⟩ := mv_gd_some hh
            simp only [Bool.and_eq_true, Nat.ble_eq, Bool.not_eq_true', decide_eq_false_iff_not] at hg
            obtain ⟨h', h3, h4⟩ := aN _ _ _ _ _ hh
            refine va_newa hx hb (hts _ (wAt_in hl1)) rfl hK hP hDw hS hA0 (a0 := (x.toNatClampNeg, .inl (fun _ => 0))) (fun cA => rfl) hg.1 rfl (by show x.toNatClampNeg * componentBytes .int ≤ _; have : componentBytes .int = 4 := rfl; rw [this]; omega) (Nat.le_trans hg1 hR2) (Nat.le_trans hg.2.2 hR3) hd fun q cA H1 hK1 hP1 hD1 hS1 => ?_
            have hcA : cA = cI := by
              have e1 := (hK1.2 2 _ rfl).2
              have e2 := (hK.2 0 _ rfl).2
              exact Option.some.inj ((show s.vm.findClass _ = some cA from e1).symm.trans (show s.vm.findClass _ = some cI from e2))
            subst hcA
            have he : mv_cell cA cQ (mv_phi φ t ((vw h).2.2.2 t) q) (mv_mk (vw h) t x.toNatClampNeg) t ((vw h).2.2.2 t) = .inl (cA, x.toNatClampNeg, .inl (fun _ => 0)) := by
              rw [mv_ia_cell hia]
              have e1 : (mv_mk (vw h) t x.toNatClampNeg).2.2.1 t ((vw h).2.2.2 t) = x.toNatClampNeg := if_pos ⟨rfl, rfl⟩
              have e2 : (mv_mk (vw h) t x.toNatClampNeg).1 t ((vw h).2.2.2 t) = fun _ => 0 := funext fun _ => if_pos ⟨rfl, rfl⟩
              rw [e1, e2]
            obtain ⟨hW1, hge⟩ := hW.new hcov (Or.inr (mv_ia_big hia)) hP1 hD1 he
            rw [← h4] at hW1 hge
            have h5 := kk _ _ _ _ _ H1 locs h3 hg1 hg.2.2 (List.forall_mem_cons.mpr ⟨Or.inl (by rw [h4]; show (vw h).2.2.2 t < if t = t then _ else _; rw [if_pos rfl]; omega), fun v hv' => (hv1 v hv').up hge⟩) hge hW1 hS1
            rw [List.map_cons, mv_live.sames hge hv1] at h5
            have h6 : mv_v (mv_phi φ t ((vw h).2.2.2 t) q) (.inr (t, (vw h).2.2.2 t)) = .ref q := congrArg Value.ref (if_pos ⟨rfl, rfl⟩)
            rw [h6] at h5
            exact h5
          · cases hh
        · cases hc
      · cases hh
    · cases hh
  · -- anewarray
    split at hh
    · next t rest =>
      split at hh
      · next x st =>
        obtain ⟨-, hv1⟩ := List.forall_mem_cons.mp hv
        simp only [mv_chkC] at hc
        split at hc
        · next heq =>
          cases heq
          simp only [Bool.and_eq_true, decide_eq_true_eq] at hc
          obtain ⟨rfl, hra, hl1⟩ := hc
          split at hh
          · next hg1 =>
            have hg1 := Nat.ble_eq.mp hg1
            obtain ⟨hg, hh⟩ := mv_gd_some hh
            simp only [Bool.and_eq_true, Nat.ble_eq, Bool.not_eq_true', decide_eq_false_iff_not] at hg
            obtain ⟨h', h3, h4⟩ := aN _ _ _ _ _ hh
            refine va_newq hx hb hown (hts _ (wAt_in hl1)) hE.2.2.2.2.2.2.2.2 hK hP hDw hS hA0 hg.1 rfl (by omega) (Nat.le_trans hg1 hR2) (Nat.le_trans hg.2.2 hR3) hd fun q cA H1 hK1 hP1 hD1 hS1 => ?_
            have hcA : cA = cQ := by
              obtain ⟨_, _, -, -, -, e1⟩ := (hK1.2 2 _ rfl).2
              obtain ⟨_, _, -, -, -, e2⟩ := (hK.2 1 _ rfl).2
              exact Option.some.inj (e1.symm.trans e2)
            subst hcA
            have he : mv_cell cI cA (mv_phi φ t ((vw h).2.2.2 t) q) (mv_mk (vw h) t x.toNatClampNeg) t ((vw h).2.2.2 t) = .inl (cA, x.toNatClampNeg, .inr (.inr (.inr (.inr (fun _ => none))))) := by
              rw [mv_ra_cell hra]
              have e1 : (mv_mk (vw h) t x.toNatClampNeg).2.2.1 t ((vw h).2.2.2 t) = x.toNatClampNeg := if_pos ⟨rfl, rfl⟩
              have e2 : (fun k => ((mv_mk (vw h) t x.toNatClampNeg).2.1 t ((vw h).2.2.2 t) k).map fun z => mv_phi φ t ((vw h).2.2.2 t) q z.1 z.2) = fun _ => none := funext fun k => by
                show (if t = t ∧ (vw h).2.2.2 t = (vw h).2.2.2 t then none else _).map _ = _
                rw [if_pos ⟨rfl, rfl⟩]
                rfl
              rw [e1, e2]
            obtain ⟨hW1, hge⟩ := hW.new hcov (Or.inr (mv_ra_big hra)) hP1 hD1 he
            rw [← h4] at hW1 hge
            have h5 := kk _ _ _ _ _ H1 locs h3 hg1 hg.2.2 (List.forall_mem_cons.mpr ⟨Or.inl (by rw [h4]; show (vw h).2.2.2 t < if t = t then _ else _; rw [if_pos rfl]; omega), fun v hv' => (hv1 v hv').up hge⟩) hge hW1 hS1
            rw [List.map_cons, mv_live.sames hge hv1] at h5
            have h6 : mv_v (mv_phi φ t ((vw h).2.2.2 t) q) (.inr (t, (vw h).2.2.2 t)) = .ref q := congrArg Value.ref (if_pos ⟨rfl, rfl⟩)
            rw [h6] at h5
            exact h5
          · cases hh
        · cases hc
      · cases hh
    · cases hh
  · -- invokestatic
    split at hh
    · next j nn rest =>
      simp only [mv_chkC] at hc
      split at hh
      · next C1 f hC =>
        split at hc
        · next heq =>
          cases heq
          split at hc
          · next y bytes maxL ret ins hM =>
            simp only [Bool.and_eq_true, decide_eq_true_eq] at hc
            obtain ⟨rfl, hmax, hd1, hw2, hw3, hw4, hw1⟩ := hc
            obtain ⟨n', hn', hCal⟩ := hG _ _ _ hC hM
            obtain ⟨a, b, rfl, hlen, hh⟩ := mv_tk_some _ _ _ _ _ hh
            rw [List.append_nil] at hh
            split at hh
            · next hg =>
              simp only [Bool.and_eq_true, Nat.ble_eq] at hg
              refine mv_call (C := (C1, f)) (G := G) (i := .nop) (x := 0) (j := 0) (nn := 0) (len := 0) (lv := lv) hB' hφ hn' hCal hh hg.1 hg.2.1 hg.2.2 hv hls hW hS (fun vs h' q1 q2 q3 q4 => ?_) kk
              have hroom : (mv_rm n' C1.1 C1.2).frames + 1 ≤ R.frames ∧ 8 + (maxL + 11) + (mv_rm n' C1.1 C1.2).locals ≤ R.locals := ⟨Nat.le_trans hn' hR1, by show 8 + (maxL + 11) + 40 * (n' + 1) ≤ R.locals; omega⟩
              have hG2 := mv_WSgood (y, bytes, maxL, ret) (wAt_in hw4)
              have hstk : (F0 m pc ls ((a ++ b).map (mv_v φ))).stack = (a.reverse.map (mv_v φ)).reverse ++ b.map (mv_v φ) := by
                show (a ++ b).map (mv_v φ) = _
                rw [List.map_append, List.map_reverse, List.reverse_reverse]
              have hrest : 2 * (F0 m pc ls ((a ++ b).map (mv_v φ))).monitorRoom + ((b.map (mv_v φ)).map fun v => v.category).sum ≤ 8 := lv_room (by rw [mv_cats_eq]; exact hg.2.2)
              have hal : (a.reverse.map (mv_v φ)).length = nn := by rw [List.length_map, List.length_reverse]; exact hlen
              split at hw1
              · exact va_runS ⟨hx, hb, hml, hown, hts⟩ (q3 l D cI cQ q0 φ) (va_cwS nn hts (fun w hw => by
                  unfold va_wsS at hw
                  rcases List.mem_append.mp hw with hw | hw
                  · simp only [List.mem_cons, List.not_mem_nil, or_false] at hw
                    rcases hw with rfl | rfl | rfl
                    · exact ⟨wAt_in hw1, WS_good (wAt_in hw1)⟩
                    · exact ⟨wAt_in hw2, WS_good (wAt_in hw2)⟩
                    · exact ⟨wAt_in hw3, WS_good (wAt_in hw3)⟩
                  · exact hG2 w hw) rfl rfl rfl hd1 hroom) ⟨mv_blind, q4⟩ rfl hal hls hstk hrest hd ⟨Nat.le_trans hg.1 hR2, Nat.le_trans hg.2.1 hR3⟩
              · exact va_runSN (host := "IntentVats") ⟨hx, hb, hml, hown, hts⟩ (q3 l D cI cQ q0 φ) ⟨va_cnB nn hts hG2 rfl rfl rfl (hE.2.2.2.2.2.2.1 _ (of_decide_eq_true hw1)) (hts _ (wAt_in hw3)) hd1 hroom, hts _ (wAt_in hw2), trivial⟩ ⟨mv_blind, q4⟩ rfl hal hls hstk hrest hd ⟨Nat.le_trans hg.1 hR2, Nat.le_trans hg.2.1 hR3⟩
            · cases hh
          · cases hc
        all_goals first | (next heq => cases heq) | cases hc
      · cases hh
    · -- max
      simp only [mv_chkC] at hc
      split at hh
      · next y x st =>
        obtain ⟨-, hv1⟩ := List.forall_mem_cons.mp hv
        obtain ⟨-, hv2⟩ := List.forall_mem_cons.mp hv1
        split at hc
        · next heq => cases heq
        · next heq =>
          cases heq
          simp only [Bool.and_eq_true, decide_eq_true_eq] at hc
          obtain ⟨rfl, hw1, hw2, hw3, hw4⟩ := hc
          split at hh
          · next hg =>
            have hg := Nat.ble_eq.mp hg
            exact va_mmax hx hb (hml.trans hls.symm) hown (hts _ (wAt_in hw1)) (hts _ (wAt_in hw2)) (hts _ (wAt_in hw3)) (hts _ (wAt_in hw4)) (Nat.le_trans hn1 hR1) (by rw [mv_cats_eq]; omega) (Nat.le_trans hce hR2) (Nat.le_trans hsl hR3) hd (kk _ _ _ _ φ H locs hh hce hsl (List.forall_mem_cons.mpr ⟨trivial, hv2⟩) mv_ge.rf hW hS)
          · cases hh
        all_goals first | (next heq => cases heq) | cases hc
      · cases hh
    · -- min
      simp only [mv_chkC] at hc
      split at hh
      · next y x st =>
        obtain ⟨-, hv1⟩ := List.forall_mem_cons.mp hv
        obtain ⟨-, hv2⟩ := List.forall_mem_cons.mp hv1
        split at hc
        · next heq => cases heq
        · next heq => cases heq
        · next heq =>
          cases heq
          simp only [Bool.and_eq_true, decide_eq_true_eq] at hc
          obtain ⟨rfl, hw1, hw2, hw3, hw4⟩ := hc
          split at hh
          · next hg =>
            have hg := Nat.ble_eq.mp hg
            exact va_mmin hx hb (hml.trans hls.symm) hown (hts _ (wAt_in hw1)) (hts _ (wAt_in hw2)) (hts _ (wAt_in hw3)) (hts _ (wAt_in hw4)) (Nat.le_trans hn1 hR1) (by rw [mv_cats_eq]; omega) (Nat.le_trans hce hR2) (Nat.le_trans hsl hR3) hd (kk _ _ _ _ φ H locs hh hce hsl (List.forall_mem_cons.mpr ⟨trivial, hv2⟩) mv_ge.rf hW hS)
          · cases hh
        all_goals first | (next heq => cases heq) | cases hc
      · cases hh
    · -- abs
      simp only [mv_chkC] at hc
      split at hh
      · next x st =>
        obtain ⟨-, hv1⟩ := List.forall_mem_cons.mp hv
        split at hc
        · next heq => cases heq
        · next heq => cases heq
        · next heq => cases heq
        · next heq =>
          cases heq
          simp only [Bool.and_eq_true, decide_eq_true_eq] at hc
          obtain ⟨rfl, hw1, hw2, hw3, hw4⟩ := hc
          split at hh
          · next hg =>
            have hg := Nat.ble_eq.mp hg
            exact va_mabs hx hb (hml.trans hls.symm) hown (hts _ (wAt_in hw1)) (hts _ (wAt_in hw2)) (hts _ (wAt_in hw3)) (hts _ (wAt_in hw4)) (Nat.le_trans hn1 hR1) (by rw [mv_cats_eq]; omega) (Nat.le_trans hce hR2) (Nat.le_trans hsl hR3) hd (kk _ _ _ _ φ H locs hh hce hsl (List.forall_mem_cons.mpr ⟨trivial, hv1⟩) mv_ge.rf hW hS)
          · cases hh
        all_goals first | (next heq => cases heq) | cases hc
      · cases hh
    · -- arraycopy
      simp only [mv_chkC] at hc
      split at hh
      · next x dp t' o' sp t o st =>
        obtain ⟨-, hv1⟩ := List.forall_mem_cons.mp hv
        obtain ⟨-, hv2⟩ := List.forall_mem_cons.mp hv1
        obtain ⟨hvd, hv3⟩ := List.forall_mem_cons.mp hv2
        obtain ⟨-, hv4⟩ := List.forall_mem_cons.mp hv3
        obtain ⟨hvs, hv5⟩ := List.forall_mem_cons.mp hv4
        split at hc
        · next heq => cases heq
        · next heq => cases heq
        · next heq => cases heq
        · next heq => cases heq
        · next heq =>
          cases heq
          simp only [Bool.and_eq_true, decide_eq_true_eq] at hc
          obtain ⟨rfl, hw1, hw2, hw3, hw4⟩ := hc
          split at hh
          · next hg1 =>
            simp only [Bool.and_eq_true, Nat.ble_eq] at hg1
            obtain ⟨htt, hia, hcat⟩ := hg1
            have htt := Nat.eq_of_beq_eq_true htt
            subst htt
            obtain ⟨hg, hh2⟩ := mv_gd_some hh
            simp only [Bool.and_eq_true, Nat.ble_eq, Bool.not_eq_true', decide_eq_false_iff_not, decide_eq_true_eq] at hg
            obtain ⟨rfl, rfl, hn0, hle1, hle2⟩ := hg
            rw [aL] at hle1 hle2
            have hlo := hvs.int (Or.inr (mv_ia_big hia))
            have hld := hvd.int (Or.inr (mv_ia_big hia))
            obtain ⟨p0, hp0⟩ := hcov t o hlo
            obtain ⟨p1, hp1⟩ := hcov t o' hld
            rw [mv_ia_cell hia] at hp0 hp1
            have h4 := aC h t o o' x.toNatClampNeg 0
            have e0 : (nI 0).toNatClampNeg = 0 := nI_clamp (by decide)
            have hnat : nativeFrameWords "java/lang/System" "arraycopy" 5 + 11 ≤ 32 := by decide
            refine va_copyi hx hb (hml.trans hls.symm) hown (hts _ (wAt_in hw1)) (hts _ (wAt_in hw2)) (hts _ (wAt_in hw3)) (hts _ (wAt_in hw4)) hK hP hDw hS p0 p1 0 0 hp0 hp1 rfl rfl rfl (nI_pos (by decide)) (nI_pos (by decide)) hn0 (by rw [e0]; omega) (by rw [e0]; omega) (fun _ _ => rfl) (Nat.le_trans hn1 hR1) (by rw [mv_cats_eq]; omega) hd fun H1 locs1 hP1 _ hS1 => ?_
            refine kk _ _ _ _ φ H1 locs1 hh2 hce hsl (fun v hv' => (hv5 v hv').cnt (by rw [h4]; rfl)) ⟨fun _ _ _ => rfl, fun _ _ _ _ => rfl, fun _ => by rw [h4]; exact Nat.le_refl _⟩ (hW.set hcov hp1 hld hP1 ?_ (fun t2 o2 _ hne => ?_) (by rw [h4]; rfl) ?_) hS1
            · rw [mv_ia_cell hia, h4, e0]
              have : (mv_setC (vw h) t o o' x.toNatClampNeg).1 t o' = va_cpy ((vw h).1 t o) ((vw h).1 t o') 0 0 x.toNatClampNeg := by
                funext j
                show (if t = t ∧ o' = o' ∧ j < x.toNatClampNeg then (vw h).1 t o j else (vw h).1 t o' j) = _
                unfold va_cpy
                by_cases hj : j < x.toNatClampNeg
                · rw [if_pos ⟨rfl, rfl, hj⟩, if_pos ⟨Nat.zero_le _, by omega⟩, Nat.zero_add, Nat.sub_zero]
                · rw [if_neg (fun z => hj z.2.2), if_neg (fun z => hj (by omega))]
              rw [this]
              rfl
            · rw [h4]
              refine mv_cell_congr (fun k => ?_) (fun _ => rfl) rfl
              show (if t2 = t ∧ o2 = o' ∧ k < x.toNatClampNeg then (vw h).1 t o k else (vw h).1 t2 o2 k) = _
              rw [if_neg (fun z => hne ⟨z.1, z.2.1⟩)]
            · intro t1 o1 k1 z hlt hz
              rw [h4] at hz
              exact hW.2.2.2.1 _ _ _ _ hlt hz
          · cases hh
        all_goals first | (next heq => cases heq) | cases hc
      · cases hh
    · cases hh
  · -- invokevirtual
    split at hh
    · next j nn rest =>
      simp only [mv_chkC] at hc
      split at hh
      · next C1 f hC =>
        split at hc
        · next heq =>
          cases heq
          split at hc
          · next y bytes maxL ret ins hM =>
            simp only [Bool.and_eq_true, decide_eq_true_eq] at hc
            obtain ⟨rfl, hins, hmax, ⟨hd1, hd2, hd3⟩, hw2, hw3, hw4, hw5, hw1⟩ := hc
            obtain ⟨n', hn', hCal⟩ := hG _ _ _ hC hM
            obtain ⟨a, b, rfl, hlen, hh⟩ := mv_tk_some _ _ _ _ _ hh
            rw [List.append_nil] at hh
            split at hh
            · next hg =>
              simp only [Bool.and_eq_true, Nat.ble_eq] at hg
              refine mv_call (C := (C1, f)) (G := G) (i := .nop) (x := 0) (j := 0) (nn := 0) (len := 0) (lv := lv) hB' hφ hn' hCal hh hg.1 hg.2.1 hg.2.2 hv hls hW hS (fun vs h' q1 q2 q3 q4 => ?_) kk
              obtain ⟨t, o, As, hAs, hcls⟩ := q2 hins
              have ha : a = As.reverse ++ [.inr (t, o)] := by rw [← List.reverse_reverse a, hAs, List.reverse_cons]
              have hro : mv_live (vw h) (.inr (t, o)) := hv _ (List.mem_append_left _ (by rw [ha]; simp))
              have hroom : (mv_rm n' C1.1 C1.2).frames + 1 ≤ R.frames ∧ 8 + (maxL + 11) + (mv_rm n' C1.1 C1.2).locals ≤ R.locals := ⟨Nat.le_trans hn' hR1, by show 8 + (maxL + 11) + 40 * (n' + 1) ≤ R.locals; omega⟩
              have hG2 := mv_WSgood (y, bytes, maxL, ret) (wAt_in hw4)
              have hstk : (F0 m pc ls ((a ++ b).map (mv_v φ))).stack = (As.map (mv_v φ)).reverse ++ .ref (φ t o) :: b.map (mv_v φ) := by
                show (a ++ b).map (mv_v φ) = _
                rw [ha, List.map_append, List.map_append, List.map_reverse, List.append_assoc]
                rfl
              have hrest : 2 * (F0 m pc ls ((a ++ b).map (mv_v φ))).monitorRoom + ((b.map (mv_v φ)).map fun v => v.category).sum ≤ 8 := lv_room (by rw [mv_cats_eq]; exact hg.2.2)
              have hal : As.length + 1 = nn := by
                have e3 := congrArg List.length hAs
                rw [List.length_reverse, List.length_cons] at e3
                omega
              have hd4 : (parseMethodDescriptor y.desc).map (fun d => d.parameters.length) = some (As.length) := by
                obtain ⟨sig, e1, e2⟩ := Option.map_eq_some_iff.mp hd3
                rw [e1]
                exact congrArg some (show sig.parameters.length = As.length by have e3 : sig.parameters.length + 1 = nn := e2; omega)
              have hrcv : ∃ cellB : Cell, H[φ t o]? = some cellB ∧ cellB.vm.isStatics = false ∧ s.vm.findClass y.cls = some cellB.cls := by
                rcases hcls with ⟨ht, hc9⟩ | ⟨rfl, hc9⟩
                · have hlo := hro.int (Or.inl (by omega))
                  have hat := hW.1 t o hlo
                  rw [mv_obj ht] at hat
                  rw [show y.cls = mv_R t from hc9]
                  exact va_recv hK (mv_single hat) (mv_clOf t ht) (q0 := 0) rfl
                · have ho : o < 36 := by
                    rcases hro with hro | hro
                    · have hz := hW.2.2.2.2.2 11 (by decide) (by decide)
                      change o < (vw h).2.2.2 11 at hro
                      omega
                    · exact hro.2.2 (Or.inl rfl)
                  obtain ⟨cell, h1, h2, h3, h4⟩ := (hE.2.1 o ho).1
                  rw [hφ 11 o (by decide) (by decide), show y.cls = "java/lang/String" from hc9]
                  exact ⟨cell, by rw [hS.2.1 _ (Array.getElem?_eq_some_iff.mp h1).1 h4]; exact h1, h2, h3⟩
              rw [hAs, List.map_cons] at q4
              have q3' := q3 l D cI cQ q0 φ
              rw [hAs, List.map_cons] at q3'
              exact va_runV (C := y.cls) ⟨hx, hb, hml, hown, hts⟩ q3' (cwV As.length hts (fun w hw => by
                  unfold wsV at hw
                  rcases List.mem_append.mp hw with hw | hw
                  · simp only [List.mem_cons, List.not_mem_nil, or_false] at hw
                    rcases hw with rfl | rfl | rfl | rfl
                    · exact ⟨wAt_in hw1, WS_good (wAt_in hw1)⟩
                    · exact ⟨wAt_in hw2, WS_good (wAt_in hw2)⟩
                    · exact ⟨wAt_in hw5, WS_good (wAt_in hw5)⟩
                    · exact ⟨wAt_in hw3, WS_good (wAt_in hw3)⟩
                  · exact hG2 w hw) rfl rfl rfl ⟨rfl, hd1, hd2, hd4⟩ hroom) ⟨by have hbl := mv_blind (φ := φ) (q0 := q0) (D := D) (cI := cI) (cQ := cQ) (as := a.reverse) (g := vw h); rw [hAs, List.map_cons] at hbl; exact hbl, hrcv, q4⟩ rfl (List.length_map _) hls hstk hrest hd ⟨Nat.le_trans hg.1 hR2, Nat.le_trans hg.2.1 hR3⟩
            · cases hh
          · cases hc
        all_goals first | (next heq => cases heq) | cases hc
      · cases hh
    · simp only [mv_chkC] at hc
      cases hc
    · cases hh
  · -- invokespecial
    split at hh
    · next j nn rest =>
      simp only [mv_chkC] at hc
      split at hh
      · next C1 f hC =>
        split at hc
        · next heq =>
          cases heq
          split at hc
          · next y bytes maxL ret ins hM =>
            simp only [Bool.and_eq_true, decide_eq_true_eq] at hc
            obtain ⟨rfl, hins, rfl, hnm2, hmax, ⟨hd1, hd2, hd3⟩, hw2, hw3, hw4, hw1⟩ := hc
            obtain ⟨n', hn', hCal⟩ := hG _ _ _ hC hM
            obtain ⟨a, b, rfl, hlen, hh⟩ := mv_tk_some _ _ _ _ _ hh
            rw [List.append_nil] at hh
            split at hh
            · next hg =>
              simp only [Bool.and_eq_true, Nat.ble_eq] at hg
              refine mv_call (C := (C1, f)) (G := G) (i := .nop) (x := 0) (j := 0) (nn := 0) (len := 0) (lv := lv) hB' hφ hn' hCal hh hg.1 hg.2.1 hg.2.2 hv hls hW hS (fun vs h' q1 q2 q3 q4 => ?_) kk
              obtain ⟨t, o, As, hAs, hcls⟩ := q2 hins
              have ha : a = As.reverse ++ [.inr (t, o)] := by rw [← List.reverse_reverse a, hAs, List.reverse_cons]
              have hroom : (mv_rm n' C1.1 C1.2).frames + 1 ≤ R.frames ∧ 8 + (maxL + 11) + (mv_rm n' C1.1 C1.2).locals ≤ R.locals := ⟨Nat.le_trans hn' hR1, by show 8 + (maxL + 11) + 40 * (n' + 1) ≤ R.locals; omega⟩
              have hG2 := mv_WSgood (y, bytes, maxL, none) (wAt_in hw4)
              have hstk : (F0 m pc ls ((a ++ b).map (mv_v φ))).stack = (As.map (mv_v φ)).reverse ++ .ref (φ t o) :: b.map (mv_v φ) := by
                show (a ++ b).map (mv_v φ) = _
                rw [ha, List.map_append, List.map_append, List.map_reverse, List.append_assoc]
                rfl
              have hrest : 2 * (F0 m pc ls ((a ++ b).map (mv_v φ))).monitorRoom + ((b.map (mv_v φ)).map fun v => v.category).sum ≤ 8 := lv_room (by rw [mv_cats_eq]; exact hg.2.2)
              have hal : As.length + 1 = nn := by
                have e3 := congrArg List.length hAs
                rw [List.length_reverse, List.length_cons] at e3
                omega
              have hd4 : (parseMethodDescriptor y.desc).map (fun d => d.parameters.length) = some (As.length) := by
                obtain ⟨sig, e1, e2⟩ := Option.map_eq_some_iff.mp hd3
                rw [e1]
                exact congrArg some (show sig.parameters.length = As.length by have e3 : sig.parameters.length + 1 = nn := e2; omega)
              rw [hAs, List.map_cons] at q4
              have q3' := q3 l D cI cQ q0 φ
              rw [hAs, List.map_cons] at q3'
              have hbl := mv_blind (φ := φ) (q0 := q0) (D := D) (cI := cI) (cQ := cQ) (as := a.reverse) (g := vw h)
              rw [hAs, List.map_cons] at hbl
              split at hw1
              · have hcb : CallB R s args md.1.cls _ y bytes maxL none (.code y bytes maxL none :: WS) (mv_rm n' C1.1 C1.2) C1.1 C1.2 As.length := callB_of As.length hts hG2 rfl rfl rfl (hts _ (wAt_in hw3)) (hts _ (wAt_in hw1)) ⟨hd1, hd2, hd4⟩ hroom
                exact va_runI ⟨hx, hb, hml, hown, hts⟩ q3' ⟨hcb, hnm2, hts _ (wAt_in hw2)⟩ ⟨hbl, q4⟩ rfl (List.length_map _) hls hstk hrest hd ⟨Nat.le_trans hg.1 hR2, Nat.le_trans hg.2.1 hR3⟩
              · exact va_runIN (host := "IntentVats") ⟨hx, hb, hml, hown, hts⟩ q3' ⟨va_cnB As.length hts hG2 rfl rfl rfl (hE.2.2.2.2.2.2.1 _ (of_decide_eq_true hw1)) (hts _ (wAt_in hw3)) ⟨hd1, hd2, hd4⟩ hroom, hnm2, hts _ (wAt_in hw2)⟩ ⟨hbl, q4⟩ rfl (List.length_map _) hls hstk hrest hd ⟨Nat.le_trans hg.1 hR2, Nat.le_trans hg.2.1 hR3⟩
            · cases hh
          · cases hc
        all_goals first | (next heq => cases heq) | cases hc
      · cases hh
    · -- Object()
      split at hh
      · next q st =>
        obtain ⟨-, hv1⟩ := List.forall_mem_cons.mp hv
        simp only [mv_chkC] at hc
        split at hc
        · next heq => cases heq
        · next heq =>
          cases heq
          simp only [Bool.and_eq_true, decide_eq_true_eq] at hc
          obtain ⟨rfl, hw1, hw2, hw3⟩ := hc
          split at hh
          · next hg =>
            have hg := Nat.ble_eq.mp hg
            exact W.objInit hx hb hown (hts _ (wAt_in hw1)) (hts _ (wAt_in hw2)) (hts _ (wAt_in hw3)) (g := F0 m pc ls _) rfl (hls.trans hml.symm) rfl hd (Nat.le_trans hn1 hR1) (by rw [mv_cats_eq]; show 2 * 0 + _ + 12 ≤ _; omega) (kk _ _ _ _ φ H locs hh hce hsl hv1 mv_ge.rf hW hS)
          · cases hh
        · cases hc
      · cases hh
    · cases hh
  · cases hh
end
