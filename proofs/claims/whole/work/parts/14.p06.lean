-- p06: what holds between calls; arguments
def OthC (h : H2) : Prop := ∀ c, c < 4 → h.1 900 0 c = nI (if c = 3 then 99 else 9) ∧ h.1 901 0 c = (if c = 0 then nI 3 else if c = 1 then nI 2 else if c = 2 then nI 4 else nI 20)
def OthK (k : Nat) (h : H2) : Prop := (h.1 7 0 3 = 0 ∧ h.1 8 0 5 = 0) ∨ (h.1 7 0 3 = nI 1 ∧ h.1 8 0 5 = nI 1 ∧ ∃ A n d z J, IsM 2 A n d z h ∧ (∀ k, h.1 903 0 k = rowOf A n d z J k) ∧ n ≤ 8 ∧ d ≤ 60 * k ∧ Rng A n)
def OthR (h : H2) : Prop := ∃ m : Nat, m ≤ 10 ∧ h.1 3 0 1 = nI m ∧ h.1 8 0 12 = nI m ∧ ∀ k, k < 30 → h.1 400 0 k = h.1 911 0 k
def OthT (h : H2) : Prop := ∃ m : Nat, m ≤ 200 ∧ h.1 6 0 1 = nI m ∧ h.1 8 0 7 = nI m ∧ ∀ k, k < 200 → h.1 700 0 k = h.1 906 0 k ∧ ∃ b : Nat, b < 256 ∧ h.1 906 0 k = nI b
def OthS1 (h : H2) (s : Nat) : Prop := (sht2 h s = none ∧ h.1 913 0 s = -(nI 1)) ∨ ∃ r i so L : Nat, sht2 h s = some r ∧ r < nr2 h ∧ h.1 4 r 0 = nI so ∧ so < 4 ∧ h.1 913 0 s = nI so ∧ itm2 h r = some i ∧ i < ni2 h ∧ len2 h i = L ∧ L ≤ 40 ∧ h.1 914 0 s = nI L ∧ ∀ k, k < L → h.1 501 i k = h.1 915 0 (40 * s + k)
def OthS (h : H2) : Prop := (∀ s, s < 4 → OthS1 h s) ∧ ∀ s t r i r' i', s < 4 → t < 4 → s ≠ t → sht2 h s = some r → itm2 h r = some i → sht2 h t = some r' → itm2 h r' = some i' → i ≠ i'
def OthH1 (h : H2) (s : Nat) : Prop := (h.1 916 0 s = nI 2 ∧ h.1 600 0 s = -(nI 1) ∧ hld2 h s = none) ∨ (∃ c : Nat, c < 8 ∧ h.1 916 0 s = nI 0 ∧ h.1 600 0 s = nI c ∧ h.1 917 0 s = nI c ∧ hld2 h s = none)
  ∨ ∃ r i so L : Nat, h.1 916 0 s = nI 1 ∧ h.1 600 0 s = -(nI 1) ∧ hld2 h s = some r ∧ r < nr2 h ∧ h.1 4 r 0 = nI so ∧ so < 4 ∧ h.1 917 0 s = nI so ∧ itm2 h r = some i ∧ i < ni2 h ∧ len2 h i = L ∧ L ≤ 40 ∧ h.1 918 0 s = nI L
def OthH (h : H2) : Prop := ∀ s, s < 4 → OthH1 h s
def OthA (h : H2) : Prop := ∃ m : Nat, m ≤ 30 ∧ h.1 0 0 1 = nI m ∧ h.1 8 0 20 = nI m ∧ ∀ k, k < m → h.1 100 0 k = h.1 919 0 k
def Oth (k : Nat) (h : H2) : Prop := OthC h ∧ OthK k h ∧ OthR h ∧ OthT h ∧ OthS h ∧ OthH h ∧ OthA h
theorem Oth_succ {k h} (H : Oth k h) : Oth (k + 1) h := by
  refine ⟨H.1, ?_, H.2.2⟩
  rcases H.2.1 with h1 | ⟨a, b, A, n, d, z, J, c, e, f, g, i⟩
  · exact Or.inl h1
  · exact Or.inr ⟨a, b, A, n, d, z, J, c, e, f, by omega, i⟩
def Inv (k : Nat) (h : H2) : Prop := ∃ A n d z J T tn td tz R4 h0, h = mk A n d z (rowOf A n d z J) T tn td tz R4 h0 ∧ n ≤ 8 ∧ d ≤ 60 * k ∧ Rng A n ∧ Oth k h0
def Good (f g : H2 → O2) : Prop := ∀ k h, k ≤ 600 → Inv k h → ∃ (v : Int32) (h1 h2 : H2), f h = some ([Sum.inl (Value.int v)], h1) ∧ g h1 = some ([Sum.inl (Value.int v)], h2) ∧ Inv (k + 1) h2
def GoodL (f g : H2 → O2) : Prop := ∀ k h, k ≤ 600 → Inv k h → ∃ (v : Int64) (h1 h2 : H2), f h = some ([Sum.inl (Value.long v)], h1) ∧ g h1 = some ([Sum.inl (Value.long v)], h2) ∧ Inv (k + 1) h2
theorem fin {f g : H2 → O2} {h h1 : H2} {k} (v : Value) {A n d z J T tn td tz R4 h'} (e1 : f h = some ([Sum.inl v], h1)) (e2 : g h1 = some ([Sum.inl v], mk A n d z (rowOf A n d z J) T tn td tz R4 h'))
    (hn : n ≤ 8) (hd : d ≤ 60 * (k + 1)) (hR : Rng A n) (hO : Oth (k + 1) h') (hv : ∃ x, v = Value.int x) : ∃ (v : Int32) (h1 h2 : H2), f h = some ([Sum.inl (Value.int v)], h1) ∧ g h1 = some ([Sum.inl (Value.int v)], h2) ∧ Inv (k + 1) h2 := by
  obtain ⟨x, rfl⟩ := hv
  exact ⟨x, h1, _, e1, e2, A, n, d, z, J, T, tn, td, tz, R4, h', rfl, hn, hd, hR, hO⟩
theorem finL {f g : H2 → O2} {h h1 : H2} {k} (v : Value) {A n d z J T tn td tz R4 h'} (e1 : f h = some ([Sum.inl v], h1)) (e2 : g h1 = some ([Sum.inl v], mk A n d z (rowOf A n d z J) T tn td tz R4 h'))
    (hn : n ≤ 8) (hd : d ≤ 60 * (k + 1)) (hR : Rng A n) (hO : Oth (k + 1) h') (hv : ∃ x, v = Value.long x) : ∃ (v : Int64) (h1 h2 : H2), f h = some ([Sum.inl (Value.long v)], h1) ∧ g h1 = some ([Sum.inl (Value.long v)], h2) ∧ Inv (k + 1) h2 := by
  obtain ⟨x, rfl⟩ := hv
  exact ⟨x, h1, _, e1, e2, A, n, d, z, J, T, tn, td, tz, R4, h', rfl, hn, hd, hR, hO⟩
theorem x00 : (nI 0 = 0) = True := eq_true (by decide +kernel)
theorem x10 : (nI 1 = 0) = False := eq_false (by decide +kernel)
theorem xne {a b : Nat} (ha : a < 1000000) (hb : b < 1000000) (h : a ≠ b) : (nI a = nI b) = False := by rw [mp_eq ha hb]; exact eq_false h
theorem xne0 {a : Nat} (ha : a < 1000000) (h : a ≠ 0) : (nI a = 0) = False := by rw [mp_eq0 ha]; exact eq_false h
theorem xb0 : (decide (nI 0 = nI 0) || decide (nI 0 = nI 1)) = true := by decide +kernel
theorem xb1 : (decide (nI 1 = nI 0) || decide (nI 1 = nI 1)) = true := by decide +kernel
theorem in_case (v : Int32) (lo hi : Nat) (h1 : lo < 1000000) (h2 : hi < 1000000) :
    ((∀ c, lo ≤ c → c ≤ hi → v ≠ nI c) ∧ (∀ h, fV_isIn v (nI lo) (nI hi) h = some ([Sum.inl (Value.int (nI 0))], h)) ∧ (∀ h, fN_in v.toInt64 (lN lo) (lN hi) h = some ([Sum.inl (Value.int (nI 0))], h))) ∨
    ∃ c, lo ≤ c ∧ c ≤ hi ∧ v = nI c ∧ (∀ h, fV_isIn v (nI lo) (nI hi) h = some ([Sum.inl (Value.int (nI 1))], h)) ∧ (∀ h, fN_in v.toInt64 (lN lo) (lN hi) h = some ([Sum.inl (Value.int (nI 1))], h)) := by
  have a1 : (nI lo).toInt = lo := nI_toInt (by omega)
  have a2 : (nI hi).toInt = hi := nI_toInt (by omega)
  have a3 : (lN lo).toInt = lo := lN_toInt (by omega)
  have a4 : (lN hi).toInt = hi := lN_toInt (by omega)
  have b1 : (lg_cmp v.toInt64 (lN lo) < 0) = (v.toInt < lo) := by
    rw [propext (lg_cmp_lt _ _), propext Int64.lt_iff_toInt_lt, Int32.toInt_toInt64, a3]
  have b2 : (0 < lg_cmp v.toInt64 (lN hi)) = ((hi : Int) < v.toInt) := by
    rw [propext (lg_cmp_gt _ _), propext Int64.lt_iff_toInt_lt, Int32.toInt_toInt64, a4]
  have b3 : (v < nI lo) = (v.toInt < lo) := by rw [propext Int32.lt_iff_toInt_lt, a1]
  have b4 : (nI hi < v) = ((hi : Int) < v.toInt) := by rw [propext Int32.lt_iff_toInt_lt, a2]
  have c0 : ∀ c, c ≤ hi → v = nI c → v.toInt = c := fun c hc e => by rw [e]; exact nI_toInt (by omega)
  by_cases d1 : v.toInt < lo
  · left
    refine ⟨fun c g1 g2 e => ?_, fun h => ?_, fun h => ?_⟩
    · have := c0 c g2 e; omega
    · unfold fV_isIn
      rw [if_pos (b3.mpr d1), xb0, xgd]
    · unfold fN_in
      rw [if_pos (b1.mpr d1), xb0, xgd]
  · by_cases d2 : (hi : Int) < v.toInt
    · left
      refine ⟨fun c g1 g2 e => ?_, fun h => ?_, fun h => ?_⟩
      · have := c0 c g2 e; omega
      · unfold fV_isIn
        rw [if_neg (fun hh => d1 (b3.mp hh)), if_pos (b4.mpr d2), xb0, xgd]
      · unfold fN_in
        rw [if_neg (fun hh => d1 (b1.mp hh)), if_pos (b2.mpr d2), xb0, xgd]
    · right
      have h0 : ¬ v < 0 := by
        rw [Int32.lt_iff_toInt_lt]
        have : (0 : Int32).toInt = 0 := by decide
        omega
      obtain ⟨j, hj, e⟩ := nI_of h0
      have e1 : v.toInt = j := by rw [e]; exact nI_toInt hj
      refine ⟨j, by omega, by omega, e, fun h => ?_, fun h => ?_⟩
      · unfold fV_isIn
        rw [if_neg (fun hh => d1 (b3.mp hh)), if_neg (fun hh => d2 (b4.mp hh)), xb1, xgd]
      · unfold fN_in
        rw [if_neg (fun hh => d1 (b1.mp hh)), if_neg (fun hh => d2 (b2.mp hh)), xb1, xgd]
theorem vat_case (v : Int32) :
    ((∀ c, c ≤ 7 → v ≠ nI c) ∧ (∀ h, fV_isVat v h = some ([Sum.inl (Value.int (nI 0))], h)) ∧ (∀ h, fN_isVat v h = some ([Sum.inl (Value.int (nI 0))], h))) ∨
    ∃ c, c ≤ 7 ∧ v = nI c ∧ (∀ h, fV_isVat v h = some ([Sum.inl (Value.int (nI 1))], h)) ∧ (∀ h, fN_isVat v h = some ([Sum.inl (Value.int (nI 1))], h)) := by
  rcases in_case v 0 7 (by omega) (by omega) with ⟨e0, e1, e2⟩ | ⟨c, _, hc, e, e1, e2⟩
  · refine Or.inl ⟨fun c hc => e0 c (Nat.zero_le _) hc, fun h => ?_, fun h => ?_⟩
    · unfold fV_isVat; rw [e1, xrI, xb0, xgd]
    · unfold fN_isVat; rw [e2, xrI, xb0, xgd]
  · refine Or.inr ⟨c, hc, e, fun h => ?_, fun h => ?_⟩
    · unfold fV_isVat; rw [e1, xrI, xb1, xgd]
    · unfold fN_isVat; rw [e2, xrI, xb1, xgd]
theorem rest_case (v : Int32) :
    ((∀ c, c ≤ 5 → v ≠ nI c) ∧ (∀ h, fV_isRest v h = some ([Sum.inl (Value.int (nI 0))], h)) ∧ (∀ h, fN_isRest v h = some ([Sum.inl (Value.int (nI 0))], h))) ∨
    ∃ c, c ≤ 5 ∧ v = nI c ∧ (∀ h, fV_isRest v h = some ([Sum.inl (Value.int (nI 1))], h)) ∧ (∀ h, fN_isRest v h = some ([Sum.inl (Value.int (nI 1))], h)) := by
  rcases in_case v 0 5 (by omega) (by omega) with ⟨e0, e1, e2⟩ | ⟨c, _, hc, e, e1, e2⟩
  · refine Or.inl ⟨fun c hc => e0 c (Nat.zero_le _) hc, fun h => ?_, fun h => ?_⟩
    · unfold fV_isRest; rw [e1, xrI, xb0, xgd]
    · unfold fN_isRest; rw [e2, xrI, xb0, xgd]
  · refine Or.inr ⟨c, hc, e, fun h => ?_, fun h => ?_⟩
    · unfold fV_isRest; rw [e1, xrI, xb1, xgd]
    · unfold fN_isRest; rw [e2, xrI, xb1, xgd]
theorem kind_case (v : Int32) :
    ((∀ c, c ≤ 5 → v ≠ nI c) ∧ (∀ h, fV_isKind v h = some ([Sum.inl (Value.int (nI 0))], h)) ∧ (∀ h, fN_isKind v h = some ([Sum.inl (Value.int (nI 0))], h))) ∨
    ∃ c, c ≤ 5 ∧ v = nI c ∧ (∀ h, fV_isKind v h = some ([Sum.inl (Value.int (nI 1))], h)) ∧ (∀ h, fN_isKind v h = some ([Sum.inl (Value.int (nI 1))], h)) := by
  rcases in_case v 0 5 (by omega) (by omega) with ⟨e0, e1, e2⟩ | ⟨c, _, hc, e, e1, e2⟩
  · refine Or.inl ⟨fun c hc => e0 c (Nat.zero_le _) hc, fun h => ?_, fun h => ?_⟩
    · unfold fV_isKind; rw [e1, xrI, xb0, xgd]
    · unfold fN_isKind; rw [e2, xrI, xb0, xgd]
  · refine Or.inr ⟨c, hc, e, fun h => ?_, fun h => ?_⟩
    · unfold fV_isKind; rw [e1, xrI, xb1, xgd]
    · unfold fN_isKind; rw [e2, xrI, xb1, xgd]
theorem purpose_case (v : Int32) :
    ((∀ c, c ≤ 9 → v ≠ nI c) ∧ (∀ h, fV_isPurpose v h = some ([Sum.inl (Value.int (nI 0))], h)) ∧ (∀ h, fN_isPurpose v h = some ([Sum.inl (Value.int (nI 0))], h))) ∨
    ∃ c, c ≤ 9 ∧ v = nI c ∧ (∀ h, fV_isPurpose v h = some ([Sum.inl (Value.int (nI 1))], h)) ∧ (∀ h, fN_isPurpose v h = some ([Sum.inl (Value.int (nI 1))], h)) := by
  rcases in_case v 0 9 (by omega) (by omega) with ⟨e0, e1, e2⟩ | ⟨c, _, hc, e, e1, e2⟩
  · refine Or.inl ⟨fun c hc => e0 c (Nat.zero_le _) hc, fun h => ?_, fun h => ?_⟩
    · unfold fV_isPurpose; rw [e1, xrI, xb0, xgd]
    · unfold fN_isPurpose; rw [e2, xrI, xb0, xgd]
  · refine Or.inr ⟨c, hc, e, fun h => ?_, fun h => ?_⟩
    · unfold fV_isPurpose; rw [e1, xrI, xb1, xgd]
    · unfold fN_isPurpose; rw [e2, xrI, xb1, xgd]
theorem days_case (v : Int32) :
    ((∀ c, c ≤ 60 → v ≠ nI c) ∧ (∀ h, fV_isDays v h = some ([Sum.inl (Value.int (nI 0))], h)) ∧ (∀ h, fN_isAhead v h = some ([Sum.inl (Value.int (nI 0))], h))) ∨
    ∃ c, c ≤ 60 ∧ v = nI c ∧ (∀ h, fV_isDays v h = some ([Sum.inl (Value.int (nI 1))], h)) ∧ (∀ h, fN_isAhead v h = some ([Sum.inl (Value.int (nI 1))], h)) := by
  rcases in_case v 0 60 (by omega) (by omega) with ⟨e0, e1, e2⟩ | ⟨c, _, hc, e, e1, e2⟩
  · refine Or.inl ⟨fun c hc => e0 c (Nat.zero_le _) hc, fun h => ?_, fun h => ?_⟩
    · unfold fV_isDays; rw [e1, xrI, xb0, xgd]
    · unfold fN_isAhead; rw [e2, xrI, xb0, xgd]
  · refine Or.inr ⟨c, hc, e, fun h => ?_, fun h => ?_⟩
    · unfold fV_isDays; rw [e1, xrI, xb1, xgd]
    · unfold fN_isAhead; rw [e2, xrI, xb1, xgd]
theorem sheet_case (v : Int32) :
    ((∀ c, c ≤ 3 → v ≠ nI c) ∧ (∀ h, fV_isSheet v h = some ([Sum.inl (Value.int (nI 0))], h)) ∧ (∀ h, fN_isFour v h = some ([Sum.inl (Value.int (nI 0))], h))) ∨
    ∃ c, c ≤ 3 ∧ v = nI c ∧ (∀ h, fV_isSheet v h = some ([Sum.inl (Value.int (nI 1))], h)) ∧ (∀ h, fN_isFour v h = some ([Sum.inl (Value.int (nI 1))], h)) := by
  rcases in_case v 0 3 (by omega) (by omega) with ⟨e0, e1, e2⟩ | ⟨c, _, hc, e, e1, e2⟩
  · refine Or.inl ⟨fun c hc => e0 c (Nat.zero_le _) hc, fun h => ?_, fun h => ?_⟩
    · unfold fV_isSheet; rw [e1, xrI, xb0, xgd]
    · unfold fN_isFour; rw [e2, xrI, xb0, xgd]
  · refine Or.inr ⟨c, hc, e, fun h => ?_, fun h => ?_⟩
    · unfold fV_isSheet; rw [e1, xrI, xb1, xgd]
    · unfold fN_isFour; rw [e2, xrI, xb1, xgd]
theorem shelf_case (v : Int32) :
    ((∀ c, c ≤ 3 → v ≠ nI c) ∧ (∀ h, fV_isShelf v h = some ([Sum.inl (Value.int (nI 0))], h)) ∧ (∀ h, fN_isFour v h = some ([Sum.inl (Value.int (nI 0))], h))) ∨
    ∃ c, c ≤ 3 ∧ v = nI c ∧ (∀ h, fV_isShelf v h = some ([Sum.inl (Value.int (nI 1))], h)) ∧ (∀ h, fN_isFour v h = some ([Sum.inl (Value.int (nI 1))], h)) := by
  rcases in_case v 0 3 (by omega) (by omega) with ⟨e0, e1, e2⟩ | ⟨c, _, hc, e, e1, e2⟩
  · refine Or.inl ⟨fun c hc => e0 c (Nat.zero_le _) hc, fun h => ?_, fun h => ?_⟩
    · unfold fV_isShelf; rw [e1, xrI, xb0, xgd]
    · unfold fN_isFour; rw [e2, xrI, xb0, xgd]
  · refine Or.inr ⟨c, hc, e, fun h => ?_, fun h => ?_⟩
    · unfold fV_isShelf; rw [e1, xrI, xb1, xgd]
    · unfold fN_isFour; rw [e2, xrI, xb1, xgd]
theorem n1_sub (n : Nat) : nI (n + 1) - nI 1 = nI n := mp_sub (Nat.le_add_left 1 n)
theorem has_case (v : Int32) {n : Nat} (hn : n ≤ 8) :
    ((∀ c, c < n → v ≠ nI c) ∧ (∀ {A d z R T tn td tz R4 h}, fM_has 0 v (mk A n d z R T tn td tz R4 h) = some ([Sum.inl (Value.int (nI 0))], mk A n d z R T tn td tz R4 h)) ∧
      (∀ {A n' d z B D Z J T tn td tz R4 h}, fN_isCloth 0 v (mk A n' d z (rowOf B n D Z J) T tn td tz R4 h) = some ([Sum.inl (Value.int (nI 0))], mk A n' d z (rowOf B n D Z J) T tn td tz R4 h))) ∨
    ∃ c, c < n ∧ v = nI c ∧ (∀ {A d z R T tn td tz R4 h}, fM_has 0 v (mk A n d z R T tn td tz R4 h) = some ([Sum.inl (Value.int (nI 1))], mk A n d z R T tn td tz R4 h)) ∧
      (∀ {A n' d z B D Z J T tn td tz R4 h}, fN_isCloth 0 v (mk A n' d z (rowOf B n D Z J) T tn td tz R4 h) = some ([Sum.inl (Value.int (nI 1))], mk A n' d z (rowOf B n D Z J) T tn td tz R4 h)) := by
  cases n with
  | zero =>
    have h1 : nI 0 - nI 1 = -(nI 1) := by decide +kernel
    have e1 : ∀ h, fV_isIn v (nI 0) (-(nI 1)) h = some ([Sum.inl (Value.int (nI 0))], h) := fun h => by
      unfold fV_isIn
      by_cases d1 : v < nI 0
      · rw [if_pos d1, xb0, xgd]
      · have d2 : -(nI 1) < v := by
          have a1 : (-(nI 1)).toInt = -1 := by decide +kernel
          have a0 : (nI 0).toInt = 0 := nI_toInt (by omega)
          rw [Int32.lt_iff_toInt_lt] at d1 ⊢
          omega
        rw [if_neg d1, if_pos d2, xb0, xgd]
    have e2 : ∀ h, fN_in v.toInt64 (lN 0) (-(nI 1)).toInt64 h = some ([Sum.inl (Value.int (nI 0))], h) := fun h => by
      unfold fN_in
      by_cases d1 : lg_cmp v.toInt64 (lN 0) < 0
      · rw [if_pos d1, xb0, xgd]
      · have d2 : 0 < lg_cmp v.toInt64 (-(nI 1)).toInt64 := by
          have a1 : (-(nI 1)).toInt64.toInt = -1 := by decide +kernel
          have a0 : (lN 0).toInt = 0 := lN_toInt (by omega)
          rw [lg_cmp_lt, Int64.lt_iff_toInt_lt] at d1
          rw [lg_cmp_gt, Int64.lt_iff_toInt_lt]
          omega
        rw [if_neg d1, if_pos d2, xb0, xgd]
    refine Or.inl ⟨fun c hc => absurd hc (Nat.not_lt_zero _), ?_, ?_⟩
    · intros
      unfold fM_has
      rw [mk_an, h1, e1, xrI, xb0, xgd]
    · intros
      unfold fN_isCloth
      rw [mp_tn (by omega), mk_rR, mr_n, h1, e2, mp_inb (by omega) (by omega), xgd, xrI, xb0, xgd]
  | succ m =>
    rcases in_case v 0 m (by omega) (by omega) with ⟨e0, e1, e2⟩ | ⟨c, _, hc, e, e1, e2⟩
    · refine Or.inl ⟨fun c hc => e0 c (Nat.zero_le _) (by omega), ?_, ?_⟩
      · intros
        unfold fM_has
        rw [mk_an, n1_sub, e1, xrI, xb0, xgd]
      · intros
        unfold fN_isCloth
        rw [mp_tn (by omega), mk_rR, mr_n, n1_sub, nI_l (by omega), e2, mp_inb (by omega) (by omega), xgd, xrI, xb0, xgd]
    · refine Or.inr ⟨c, by omega, e, ?_, ?_⟩
      · intros
        unfold fM_has
        rw [mk_an, n1_sub, e1, xrI, xb1, xgd]
      · intros
        unfold fN_isCloth
        rw [mp_tn (by omega), mk_rR, mr_n, n1_sub, nI_l (by omega), e2, mp_inb (by omega) (by omega), xgd, xrI, xb1, xgd]
