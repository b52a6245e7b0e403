-- p05: the common normal form, and reading and writing in it
def mk (A : Nat → Nat → Int32) (n d : Nat) (z : Int32) (R : Nat → Int32) (T : Nat → Nat → Int32) (tn td : Nat) (tz : Int32) (R4 : Nat → Int32) (h : H2) : H2 :=
  putM 3 T tn td tz (putM 0 A n d z (putR 902 R (putR 904 R4 h)))
theorem mk_f0 {A n d z R T tn td tz R4 h A' n' d' z'} {F : H2 → O2} {r : List mv_V} (hF : ∀ h, F (putM 0 A n d z h) = some (r, putM 0 A' n' d' z' h)) : F (mk A n d z R T tn td tz R4 h) = some (r, mk A' n' d' z' R T tn td tz R4 h) := by
  unfold mk
  rw [putM_comm (show 3 ≠ 0 by omega), hF, putM_comm (show 0 ≠ 3 by omega)]
theorem mk_f3 {A n d z R T tn td tz R4 h A' n' d' z'} {F : H2 → O2} {r : List mv_V} (hF : ∀ h, F (putM 3 T tn td tz h) = some (r, putM 3 A' n' d' z' h)) : F (mk A n d z R T tn td tz R4 h) = some (r, mk A n d z R A' n' d' z' R4 h) := hF _
theorem mk_fN {A n d z R T tn td tz R4 h R'} {F : H2 → O2} {r : List mv_V} (hF : ∀ h, F (putR 902 R h) = some (r, putR 902 R' h)) : F (mk A n d z R T tn td tz R4 h) = some (r, mk A n d z R' T tn td tz R4 h) := by
  unfold mk
  rw [putM_putR (show (902 < 300 ∧ 902 ≠ 2) ∨ 308 < 902 by omega), putM_putR (show (902 < 300 ∧ 902 ≠ 2) ∨ 308 < 902 by omega), hF, ← putM_putR (show (902 < 300 ∧ 902 ≠ 2) ∨ 308 < 902 by omega), ← putM_putR (show (902 < 300 ∧ 902 ≠ 2) ∨ 308 < 902 by omega)]

theorem mk_a0 {A n d z R T tn td tz R4 h k} (hk : k < 4) : rI2 (mk A n d z R T tn td tz R4 h) 300 0 k = A 0 k := by
  unfold mk
  rw [mp_ro (show 0 ≠ 3 by omega), mp_r0 hk]
theorem mk_b0 {A n d z R T tn td tz R4 h k} (hk : k < 4) : rI2 (mk A n d z R T tn td tz R4 h) 300 3 k = T 0 k := by
  unfold mk
  rw [mp_r0 hk]
theorem mk_wa0 {A n d z R T tn td tz R4 h k v} (hk : k < 4) : wI2 (mk A n d z R T tn td tz R4 h) 300 0 k v = mk (mup A 0 k v) n d z R T tn td tz R4 h := by
  unfold mk
  rw [mp_wo (show 0 ≠ 3 by omega), mp_w0 hk]
theorem mk_wb0 {A n d z R T tn td tz R4 h k v} (hk : k < 4) : wI2 (mk A n d z R T tn td tz R4 h) 300 3 k v = mk A n d z R (mup T 0 k v) tn td tz R4 h := by
  unfold mk
  rw [mp_w0 hk]
theorem mk_a1 {A n d z R T tn td tz R4 h k} (hk : k < 8) : rI2 (mk A n d z R T tn td tz R4 h) 301 0 k = A 1 k := by
  unfold mk
  rw [mp_ro (show 0 ≠ 3 by omega), mp_r1 hk]
theorem mk_b1 {A n d z R T tn td tz R4 h k} (hk : k < 8) : rI2 (mk A n d z R T tn td tz R4 h) 301 3 k = T 1 k := by
  unfold mk
  rw [mp_r1 hk]
theorem mk_wa1 {A n d z R T tn td tz R4 h k v} (hk : k < 8) : wI2 (mk A n d z R T tn td tz R4 h) 301 0 k v = mk (mup A 1 k v) n d z R T tn td tz R4 h := by
  unfold mk
  rw [mp_wo (show 0 ≠ 3 by omega), mp_w1 hk]
theorem mk_wb1 {A n d z R T tn td tz R4 h k v} (hk : k < 8) : wI2 (mk A n d z R T tn td tz R4 h) 301 3 k v = mk A n d z R (mup T 1 k v) tn td tz R4 h := by
  unfold mk
  rw [mp_w1 hk]
theorem mk_a2 {A n d z R T tn td tz R4 h k} (hk : k < 8) : rI2 (mk A n d z R T tn td tz R4 h) 302 0 k = A 2 k := by
  unfold mk
  rw [mp_ro (show 0 ≠ 3 by omega), mp_r2 hk]
theorem mk_b2 {A n d z R T tn td tz R4 h k} (hk : k < 8) : rI2 (mk A n d z R T tn td tz R4 h) 302 3 k = T 2 k := by
  unfold mk
  rw [mp_r2 hk]
theorem mk_wa2 {A n d z R T tn td tz R4 h k v} (hk : k < 8) : wI2 (mk A n d z R T tn td tz R4 h) 302 0 k v = mk (mup A 2 k v) n d z R T tn td tz R4 h := by
  unfold mk
  rw [mp_wo (show 0 ≠ 3 by omega), mp_w2 hk]
theorem mk_wb2 {A n d z R T tn td tz R4 h k v} (hk : k < 8) : wI2 (mk A n d z R T tn td tz R4 h) 302 3 k v = mk A n d z R (mup T 2 k v) tn td tz R4 h := by
  unfold mk
  rw [mp_w2 hk]
theorem mk_a3 {A n d z R T tn td tz R4 h k} (hk : k < 6) : rI2 (mk A n d z R T tn td tz R4 h) 303 0 k = A 3 k := by
  unfold mk
  rw [mp_ro (show 0 ≠ 3 by omega), mp_r3 hk]
theorem mk_b3 {A n d z R T tn td tz R4 h k} (hk : k < 6) : rI2 (mk A n d z R T tn td tz R4 h) 303 3 k = T 3 k := by
  unfold mk
  rw [mp_r3 hk]
theorem mk_wa3 {A n d z R T tn td tz R4 h k v} (hk : k < 6) : wI2 (mk A n d z R T tn td tz R4 h) 303 0 k v = mk (mup A 3 k v) n d z R T tn td tz R4 h := by
  unfold mk
  rw [mp_wo (show 0 ≠ 3 by omega), mp_w3 hk]
theorem mk_wb3 {A n d z R T tn td tz R4 h k v} (hk : k < 6) : wI2 (mk A n d z R T tn td tz R4 h) 303 3 k v = mk A n d z R (mup T 3 k v) tn td tz R4 h := by
  unfold mk
  rw [mp_w3 hk]
theorem mk_a4 {A n d z R T tn td tz R4 h k} (hk : k < 8) : rI2 (mk A n d z R T tn td tz R4 h) 304 0 k = A 4 k := by
  unfold mk
  rw [mp_ro (show 0 ≠ 3 by omega), mp_r4 hk]
theorem mk_b4 {A n d z R T tn td tz R4 h k} (hk : k < 8) : rI2 (mk A n d z R T tn td tz R4 h) 304 3 k = T 4 k := by
  unfold mk
  rw [mp_r4 hk]
theorem mk_wa4 {A n d z R T tn td tz R4 h k v} (hk : k < 8) : wI2 (mk A n d z R T tn td tz R4 h) 304 0 k v = mk (mup A 4 k v) n d z R T tn td tz R4 h := by
  unfold mk
  rw [mp_wo (show 0 ≠ 3 by omega), mp_w4 hk]
theorem mk_wb4 {A n d z R T tn td tz R4 h k v} (hk : k < 8) : wI2 (mk A n d z R T tn td tz R4 h) 304 3 k v = mk A n d z R (mup T 4 k v) tn td tz R4 h := by
  unfold mk
  rw [mp_w4 hk]
theorem mk_a5 {A n d z R T tn td tz R4 h k} (hk : k < 8) : rI2 (mk A n d z R T tn td tz R4 h) 305 0 k = A 5 k := by
  unfold mk
  rw [mp_ro (show 0 ≠ 3 by omega), mp_r5 hk]
theorem mk_b5 {A n d z R T tn td tz R4 h k} (hk : k < 8) : rI2 (mk A n d z R T tn td tz R4 h) 305 3 k = T 5 k := by
  unfold mk
  rw [mp_r5 hk]
theorem mk_wa5 {A n d z R T tn td tz R4 h k v} (hk : k < 8) : wI2 (mk A n d z R T tn td tz R4 h) 305 0 k v = mk (mup A 5 k v) n d z R T tn td tz R4 h := by
  unfold mk
  rw [mp_wo (show 0 ≠ 3 by omega), mp_w5 hk]
theorem mk_wb5 {A n d z R T tn td tz R4 h k v} (hk : k < 8) : wI2 (mk A n d z R T tn td tz R4 h) 305 3 k v = mk A n d z R (mup T 5 k v) tn td tz R4 h := by
  unfold mk
  rw [mp_w5 hk]
theorem mk_a6 {A n d z R T tn td tz R4 h k} (hk : k < 8) : rI2 (mk A n d z R T tn td tz R4 h) 306 0 k = A 6 k := by
  unfold mk
  rw [mp_ro (show 0 ≠ 3 by omega), mp_r6 hk]
theorem mk_b6 {A n d z R T tn td tz R4 h k} (hk : k < 8) : rI2 (mk A n d z R T tn td tz R4 h) 306 3 k = T 6 k := by
  unfold mk
  rw [mp_r6 hk]
theorem mk_wa6 {A n d z R T tn td tz R4 h k v} (hk : k < 8) : wI2 (mk A n d z R T tn td tz R4 h) 306 0 k v = mk (mup A 6 k v) n d z R T tn td tz R4 h := by
  unfold mk
  rw [mp_wo (show 0 ≠ 3 by omega), mp_w6 hk]
theorem mk_wb6 {A n d z R T tn td tz R4 h k v} (hk : k < 8) : wI2 (mk A n d z R T tn td tz R4 h) 306 3 k v = mk A n d z R (mup T 6 k v) tn td tz R4 h := by
  unfold mk
  rw [mp_w6 hk]
theorem mk_a7 {A n d z R T tn td tz R4 h k} (hk : k < 8) : rI2 (mk A n d z R T tn td tz R4 h) 307 0 k = A 7 k := by
  unfold mk
  rw [mp_ro (show 0 ≠ 3 by omega), mp_r7 hk]
theorem mk_b7 {A n d z R T tn td tz R4 h k} (hk : k < 8) : rI2 (mk A n d z R T tn td tz R4 h) 307 3 k = T 7 k := by
  unfold mk
  rw [mp_r7 hk]
theorem mk_wa7 {A n d z R T tn td tz R4 h k v} (hk : k < 8) : wI2 (mk A n d z R T tn td tz R4 h) 307 0 k v = mk (mup A 7 k v) n d z R T tn td tz R4 h := by
  unfold mk
  rw [mp_wo (show 0 ≠ 3 by omega), mp_w7 hk]
theorem mk_wb7 {A n d z R T tn td tz R4 h k v} (hk : k < 8) : wI2 (mk A n d z R T tn td tz R4 h) 307 3 k v = mk A n d z R (mup T 7 k v) tn td tz R4 h := by
  unfold mk
  rw [mp_w7 hk]
theorem mk_a8 {A n d z R T tn td tz R4 h k} (hk : k < 8) : rI2 (mk A n d z R T tn td tz R4 h) 308 0 k = A 8 k := by
  unfold mk
  rw [mp_ro (show 0 ≠ 3 by omega), mp_r8 hk]
theorem mk_b8 {A n d z R T tn td tz R4 h k} (hk : k < 8) : rI2 (mk A n d z R T tn td tz R4 h) 308 3 k = T 8 k := by
  unfold mk
  rw [mp_r8 hk]
theorem mk_wa8 {A n d z R T tn td tz R4 h k v} (hk : k < 8) : wI2 (mk A n d z R T tn td tz R4 h) 308 0 k v = mk (mup A 8 k v) n d z R T tn td tz R4 h := by
  unfold mk
  rw [mp_wo (show 0 ≠ 3 by omega), mp_w8 hk]
theorem mk_wb8 {A n d z R T tn td tz R4 h k v} (hk : k < 8) : wI2 (mk A n d z R T tn td tz R4 h) 308 3 k v = mk A n d z R (mup T 8 k v) tn td tz R4 h := by
  unfold mk
  rw [mp_w8 hk]
theorem mk_an {A n d z R T tn td tz R4 h} : rI2 (mk A n d z R T tn td tz R4 h) 2 0 9 = nI n := by
  unfold mk
  rw [mp_ro (show 0 ≠ 3 by omega), mp_rn]
theorem mk_bn {A n d z R T tn td tz R4 h} : rI2 (mk A n d z R T tn td tz R4 h) 2 3 9 = nI tn := by
  unfold mk
  rw [mp_rn]
theorem mk_wan {A n d z R T tn td tz R4 h} {v : Nat} : wI2 (mk A n d z R T tn td tz R4 h) 2 0 9 (nI v) = mk A v d z R T tn td tz R4 h := by
  unfold mk
  rw [mp_wo (show 0 ≠ 3 by omega), mp_wn]
theorem mk_wbn {A n d z R T tn td tz R4 h} {v : Nat} : wI2 (mk A n d z R T tn td tz R4 h) 2 3 9 (nI v) = mk A n d z R T v td tz R4 h := by
  unfold mk
  rw [mp_wn]
theorem mk_ad {A n d z R T tn td tz R4 h} : rI2 (mk A n d z R T tn td tz R4 h) 2 0 10 = nI d := by
  unfold mk
  rw [mp_ro (show 0 ≠ 3 by omega), mp_rd]
theorem mk_bd {A n d z R T tn td tz R4 h} : rI2 (mk A n d z R T tn td tz R4 h) 2 3 10 = nI td := by
  unfold mk
  rw [mp_rd]
theorem mk_wad {A n d z R T tn td tz R4 h} {v : Nat} : wI2 (mk A n d z R T tn td tz R4 h) 2 0 10 (nI v) = mk A n v z R T tn td tz R4 h := by
  unfold mk
  rw [mp_wo (show 0 ≠ 3 by omega), mp_wd]
theorem mk_wbd {A n d z R T tn td tz R4 h} {v : Nat} : wI2 (mk A n d z R T tn td tz R4 h) 2 3 10 (nI v) = mk A n d z R T tn v tz R4 h := by
  unfold mk
  rw [mp_wd]
theorem mk_az {A n d z R T tn td tz R4 h} : rI2 (mk A n d z R T tn td tz R4 h) 2 0 11 = z := by
  unfold mk
  rw [mp_ro (show 0 ≠ 3 by omega), mp_rz]
theorem mk_bz {A n d z R T tn td tz R4 h} : rI2 (mk A n d z R T tn td tz R4 h) 2 3 11 = tz := by
  unfold mk
  rw [mp_rz]
theorem mk_waz {A n d z R T tn td tz R4 h} {v : Int32} : wI2 (mk A n d z R T tn td tz R4 h) 2 0 11 v = mk A n d v R T tn td tz R4 h := by
  unfold mk
  rw [mp_wo (show 0 ≠ 3 by omega), mp_wz]
theorem mk_wbz {A n d z R T tn td tz R4 h} {v : Int32} : wI2 (mk A n d z R T tn td tz R4 h) 2 3 11 v = mk A n d z R T tn td v R4 h := by
  unfold mk
  rw [mp_wz]
theorem mk_rR {A n d z R T tn td tz R4 h k} : rI2 (mk A n d z R T tn td tz R4 h) 902 0 k = R k := by
  unfold mk
  rw [mp_rt (show (902 < 300 ∧ 902 ≠ 2) ∨ 308 < 902 by omega), mp_rt (show (902 < 300 ∧ 902 ≠ 2) ∨ 308 < 902 by omega), mr_r]
theorem mk_rR4 {A n d z R T tn td tz R4 h k} : rI2 (mk A n d z R T tn td tz R4 h) 904 0 k = R4 k := by
  unfold mk
  rw [mp_rt (show (904 < 300 ∧ 904 ≠ 2) ∨ 308 < 904 by omega), mp_rt (show (904 < 300 ∧ 904 ≠ 2) ∨ 308 < 904 by omega), mr_rt (show 904 ≠ 902 by omega), mr_r]
theorem mk_wR {A n d z R T tn td tz R4 h k v} : wI2 (mk A n d z R T tn td tz R4 h) 902 0 k v = mk A n d z (rup R k v) T tn td tz R4 h := by
  unfold mk
  rw [mp_wt (show (902 < 300 ∧ 902 ≠ 2) ∨ 308 < 902 by omega), mp_wt (show (902 < 300 ∧ 902 ≠ 2) ∨ 308 < 902 by omega), mr_w]
theorem mk_wR4 {A n d z R T tn td tz R4 h k v} : wI2 (mk A n d z R T tn td tz R4 h) 904 0 k v = mk A n d z R T tn td tz (rup R4 k v) h := by
  unfold mk
  rw [mp_wt (show (904 < 300 ∧ 904 ≠ 2) ∨ 308 < 904 by omega), mp_wt (show (904 < 300 ∧ 904 ≠ 2) ∨ 308 < 904 by omega), mr_wt (show 904 ≠ 902 by omega), mr_w]
theorem mk_ro {A n d z R T tn td tz R4 h} {t o k : Nat} (ht : ((t < 300 ∧ t ≠ 2) ∨ 308 < t)) (h2 : t ≠ 902) (h4 : t ≠ 904) : rI2 (mk A n d z R T tn td tz R4 h) t o k = rI2 h t o k := by
  unfold mk
  rw [mp_rt ht, mp_rt ht, mr_rt h2, mr_rt h4]
theorem mk_rm {A n d z R T tn td tz R4 h} {t o k : Nat} (h0 : o ≠ 0) (h3 : o ≠ 3) (h2 : t ≤ 308) : rI2 (mk A n d z R T tn td tz R4 h) t o k = rI2 h t o k := by
  unfold mk
  rw [mp_ro h3, mp_ro h0, mr_rt (by omega), mr_rt (by omega)]
theorem mk_wo {A n d z R T tn td tz R4 h} {t o k v} (ht : ((t < 300 ∧ t ≠ 2) ∨ 308 < t)) (h2 : t ≠ 902) (h4 : t ≠ 904) : wI2 (mk A n d z R T tn td tz R4 h) t o k v = mk A n d z R T tn td tz R4 (wI2 h t o k v) := by
  unfold mk
  rw [mp_wt ht, mp_wt ht, mr_wt h2, mr_wt h4]
theorem mk_IsM {A n d z R T tn td tz R4 h} : IsM 0 A n d z (mk A n d z R T tn td tz R4 h) := IsM_ro (show 3 ≠ 0 by omega) IsM_put
theorem mk_cp3 {A n d z R T tn td tz R4 h} : fM_copyFrom 3 0 (mk A n d z R T tn td tz R4 h) = some ([], mk A n d z R A n d z R4 h) := by
  rw [cm_copy (show 3 ≠ 0 by omega) mk_IsM]
  unfold mk
  rw [putM_put]
theorem mp_any2 {x : Int32} : nI (x.toUInt32.toNat) = x := by
  apply Int32.toBitVec_inj.mp
  unfold nI
  rw [Int32.toBitVec_ofNat']
  apply BitVec.eq_of_toNat_eq
  rw [BitVec.toNat_ofNat]
  exact Nat.mod_eq_of_lt x.toUInt32.toNat_lt
-- the lifted rows

theorem k0_takes {A n d z R T tn td tz R4 h} {c v} (hc : c < 8) (hv : v < 8) : fM_takes 0 (nI c) (nI v) (mk A n d z R T tn td tz R4 h) = some ([Sum.inl (Value.int (takesS A c (A 2 v)))], mk A n d z R T tn td tz R4 h) := mk_f0 (F := fM_takes 0 (nI c) (nI v)) (fun _ => cm_takes hc hv)
theorem k3_takes {A n d z R T tn td tz R4 h} {c v} (hc : c < 8) (hv : v < 8) : fM_takes 3 (nI c) (nI v) (mk A n d z R T tn td tz R4 h) = some ([Sum.inl (Value.int (takesS T c (T 2 v)))], mk A n d z R T tn td tz R4 h) := mk_f3 (F := fM_takes 3 (nI c) (nI v)) (fun _ => cm_takes hc hv)
theorem k0_fights {A n d z R T tn td tz R4 h} {c v} (hc : c < 8) (hv : v < 8) : fM_fights 0 (nI c) (nI v) (mk A n d z R T tn td tz R4 h) = some ([Sum.inl (Value.int (fightsS A c (A 2 v)))], mk A n d z R T tn td tz R4 h) := mk_f0 (F := fM_fights 0 (nI c) (nI v)) (fun _ => cm_fights hc hv)
theorem k3_fights {A n d z R T tn td tz R4 h} {c v} (hc : c < 8) (hv : v < 8) : fM_fights 3 (nI c) (nI v) (mk A n d z R T tn td tz R4 h) = some ([Sum.inl (Value.int (fightsS T c (T 2 v)))], mk A n d z R T tn td tz R4 h) := mk_f3 (F := fM_fights 3 (nI c) (nI v)) (fun _ => cm_fights hc hv)
theorem k0_fades {A n d z R T tn td tz R4 h} {c} (hc : c < 8) : fM_fades 0 (nI c) (mk A n d z R T tn td tz R4 h) = some ([Sum.inl (Value.int (fadesS A c))], mk A n d z R T tn td tz R4 h) := mk_f0 (F := fM_fades 0 (nI c)) (fun _ => cm_fades hc)
theorem k3_fades {A n d z R T tn td tz R4 h} {c} (hc : c < 8) : fM_fades 3 (nI c) (mk A n d z R T tn td tz R4 h) = some ([Sum.inl (Value.int (fadesS T c))], mk A n d z R T tn td tz R4 h) := mk_f3 (F := fM_fades 3 (nI c)) (fun _ => cm_fades hc)
theorem k0_settle {A n d z R T tn td tz R4 h} {c x} (hc : c < 8) : fM_settle 0 (nI c) x (mk A n d z R T tn td tz R4 h) = some ([], mk (settleA A c x) n d z R T tn td tz R4 h) := mk_f0 (F := fM_settle 0 (nI c) x) (fun _ => cm_settle hc)
theorem k3_settle {A n d z R T tn td tz R4 h} {c x} (hc : c < 8) : fM_settle 3 (nI c) x (mk A n d z R T tn td tz R4 h) = some ([], mk A n d z R (settleA T c x) tn td tz R4 h) := mk_f3 (F := fM_settle 3 (nI c) x) (fun _ => cm_settle hc)
theorem k0_deepen {A n d z R T tn td tz R4 h} {c x} (hc : c < 8) : fM_deepen 0 (nI c) x (mk A n d z R T tn td tz R4 h) = some ([], mk (deepenA A c x) n d z R T tn td tz R4 h) := mk_f0 (F := fM_deepen 0 (nI c) x) (fun _ => cm_deepen hc)
theorem k3_deepen {A n d z R T tn td tz R4 h} {c x} (hc : c < 8) : fM_deepen 3 (nI c) x (mk A n d z R T tn td tz R4 h) = some ([], mk A n d z R (deepenA T c x) tn td tz R4 h) := mk_f3 (F := fM_deepen 3 (nI c) x) (fun _ => cm_deepen hc)
theorem k0_dip {A n d z R T tn td tz R4 h} {c v} (hc : c < 8) (hv : v < 8) : fM_dipInto 0 (nI c) (nI v) (mk A n d z R T tn td tz R4 h) = some ([], mk (dipA A c v) n d z R T tn td tz R4 h) := mk_f0 (F := fM_dipInto 0 (nI c) (nI v)) (fun _ => cm_dip hc hv)
theorem k3_dip {A n d z R T tn td tz R4 h} {c v} (hc : c < 8) (hv : v < 8) : fM_dipInto 3 (nI c) (nI v) (mk A n d z R T tn td tz R4 h) = some ([], mk A n d z R (dipA T c v) tn td tz R4 h) := mk_f3 (F := fM_dipInto 3 (nI c) (nI v)) (fun _ => cm_dip hc hv)
theorem k0_vat {A n d z R T tn td tz R4 h} (hd : d < 100000) : fM_vatOfToday 0 (mk A n d z R T tn td tz R4 h) = some ([Sum.inl (Value.int (A 3 (d % 6)))], mk A n d z R T tn td tz R4 h) := mk_f0 (F := fM_vatOfToday 0) (fun _ => cm_vat hd)
theorem k3_vat {A n d z R T tn td tz R4 h} (hd : td < 100000) : fM_vatOfToday 3 (mk A n d z R T tn td tz R4 h) = some ([Sum.inl (Value.int (T 3 (td % 6)))], mk A n d z R T tn td tz R4 h) := mk_f3 (F := fM_vatOfToday 3) (fun _ => cm_vat hd)
theorem k0_day {A n d z R T tn td tz R4 h} (hn : n ≤ 8) (hd : d < 100000) (hR : Rng A n) : fM_passDay 0 (mk A n d z R T tn td tz R4 h) = some ([], mk (dayA A n d) n (d + 1) z R T tn td tz R4 h) := mk_f0 (F := fM_passDay 0) (fun _ => cm_day hn hd (Rng_ros hR _))
theorem k3_day {A n d z R T tn td tz R4 h} (hn : tn ≤ 8) (hd : td < 100000) (hR : Rng T tn) : fM_passDay 3 (mk A n d z R T tn td tz R4 h) = some ([], mk A n d z R (dayA T tn td) tn (td + 1) tz R4 h) := mk_f3 (F := fM_passDay 3) (fun _ => cm_day hn hd (Rng_ros hR _))
theorem k0_pass {A n d z R T tn td tz R4 h} {q} (hn : n ≤ 8) (hq : q < 1000) (hd : d + q < 100000) (hR : Rng A n) : fM_passDays 0 (nI q) (mk A n d z R T tn td tz R4 h) = some ([], mk (passA n q d A) n (d + q) z R T tn td tz R4 h) := mk_f0 (F := fM_passDays 0 (nI q)) (fun _ => cm_pass hn hq hd hR)
theorem k3_pass {A n d z R T tn td tz R4 h} {q} (hn : tn ≤ 8) (hq : q < 1000) (hd : td + q < 100000) (hR : Rng T tn) : fM_passDays 3 (nI q) (mk A n d z R T tn td tz R4 h) = some ([], mk A n d z R (passA tn q td T) tn (td + q) tz R4 h) := mk_f3 (F := fM_passDays 3 (nI q)) (fun _ => cm_pass hn hq hd hR)
theorem k0_sum {A n d z R T tn td tz R4 h} (hn : n ≤ 8) : fM_allDepths 0 (mk A n d z R T tn td tz R4 h) = some ([Sum.inl (Value.int (sumD A n 0 (nI 0)))], mk A n d z R T tn td tz R4 h) := mk_f0 (F := fM_allDepths 0) (fun _ => cm_sum hn)
theorem k3_sum {A n d z R T tn td tz R4 h} (hn : tn ≤ 8) : fM_allDepths 3 (mk A n d z R T tn td tz R4 h) = some ([Sum.inl (Value.int (sumD T tn 0 (nI 0)))], mk A n d z R T tn td tz R4 h) := mk_f3 (F := fM_allDepths 3) (fun _ => cm_sum hn)
theorem k0_drawn {A n d z R T tn td tz R4 h} (hn : n ≤ 8) (hd : d < 100000) (hR : Rng A n) : fM_passDrawnDay 0 (mk A n d z R T tn td tz R4 h) = some ([], mk (drawA A n d z) n (d + 1) (drawZ A n z) R T tn td tz R4 h) := mk_f0 (F := fM_passDrawnDay 0) (fun _ => cm_drawn hn hd hR)
theorem k3_drawn {A n d z R T tn td tz R4 h} (hn : tn ≤ 8) (hd : td < 100000) (hR : Rng T tn) : fM_passDrawnDay 3 (mk A n d z R T tn td tz R4 h) = some ([], mk A n d z R (drawA T tn td tz) tn (td + 1) (drawZ T tn tz) R4 h) := mk_f3 (F := fM_passDrawnDay 3) (fun _ => cm_drawn hn hd hR)
theorem kn_its {A n d z B N D Z J T tn td tz R4 h} {c w} (hc : c < N) (hn : N ≤ 8) (hw : w < 5) : fN_its 0 (nI c) (nI w) (mk A n d z (rowOf B N D Z J) T tn td tz R4 h) = some ([Sum.inl (Value.int (B (4 + w) c))], mk A n d z (rowOf B N D Z J) T tn td tz R4 h) := mk_fN (F := fN_its 0 (nI c) (nI w)) (fun _ => mn_its hc hn hw)
theorem kn_sets {A n d z B N D Z J T tn td tz R4 h} {c w x} (hc : c < N) (hn : N ≤ 8) (hw : w < 5) : fN_sets 0 (nI c) (nI w) x (mk A n d z (rowOf B N D Z J) T tn td tz R4 h) = some ([], mk A n d z (rowOf (mup B (4 + w) c x) N D Z J) T tn td tz R4 h) := mk_fN (F := fN_sets 0 (nI c) (nI w) x) (fun _ => mn_sets hc hn hw)
theorem kn_deep {A n d z B N D Z J T tn td tz R4 h} {c x} (hc : c < N) (hn : N ≤ 8) : fN_isDeep 0 (nI c) x (mk A n d z (rowOf B N D Z J) T tn td tz R4 h) = some ([], mk A n d z (rowOf (settleA B c x) N D Z J) T tn td tz R4 h) := mk_fN (F := fN_isDeep 0 (nI c) x) (fun _ => mn_deep hc hn)
theorem kn_takes {A n d z B N D Z J T tn td tz R4 h} {c s} (hc : c < N) (hn : N ≤ 8) : fN_takesOf 0 (nI c) s (mk A n d z (rowOf B N D Z J) T tn td tz R4 h) = some ([Sum.inl (Value.int (takesS B c s))], mk A n d z (rowOf B N D Z J) T tn td tz R4 h) := mk_fN (F := fN_takesOf 0 (nI c) s) (fun _ => mn_takes hc hn)
theorem kn_fights {A n d z B N D Z J T tn td tz R4 h} {c s} (hc : c < N) (hn : N ≤ 8) : fN_fightsOf 0 (nI c) s (mk A n d z (rowOf B N D Z J) T tn td tz R4 h) = some ([Sum.inl (Value.int (fightsS B c s))], mk A n d z (rowOf B N D Z J) T tn td tz R4 h) := mk_fN (F := fN_fightsOf 0 (nI c) s) (fun _ => mn_fights hc hn)
theorem kn_fades {A n d z B N D Z J T tn td tz R4 h} {c} (hc : c < N) (hn : N ≤ 8) : fN_fadesOf 0 (nI c) (mk A n d z (rowOf B N D Z J) T tn td tz R4 h) = some ([Sum.inl (Value.int (fadesS B c))], mk A n d z (rowOf B N D Z J) T tn td tz R4 h) := mk_fN (F := fN_fadesOf 0 (nI c)) (fun _ => mn_fades hc hn)
theorem kn_dip {A n d z B N D Z J T tn td tz R4 h} {c v} (hc : c < N) (hn : N ≤ 8) (hv : v < 8) (hR : Rng B N) : fN_dips 0 (nI c) (nI v) (mk A n d z (rowOf B N D Z J) T tn td tz R4 h) = some ([], mk A n d z (rowOf (dipA B c v) N D Z J) T tn td tz R4 h) := mk_fN (F := fN_dips 0 (nI c) (nI v)) (fun _ => mn_dip hc hn hv (Rng_le8 hR hc) (Rng_ge2 hR hv))
theorem kn_day {A n d z B N D Z J T tn td tz R4 h} (hn : N ≤ 8) (hd : D < 100000) (hR : Rng B N) : fN_aDay 0 (mk A n d z (rowOf B N D Z J) T tn td tz R4 h) = some ([], mk A n d z (rowOf (dayA B N D) N (D + 1) Z J) T tn td tz R4 h) := mk_fN (F := fN_aDay 0) (fun _ => mn_day hn hd hR)
theorem kn_goes {A n d z B N D Z J T tn td tz R4 h} {q} (hn : N ≤ 8) (hq : q < 1000) (hd : D + q < 100000) (hR : Rng B N) : fN_goes 0 (nI q) (mk A n d z (rowOf B N D Z J) T tn td tz R4 h) = some ([], mk A n d z (rowOf (passA N q D B) N (D + q) Z J) T tn td tz R4 h) := mk_fN (F := fN_goes 0 (nI q)) (fun _ => mn_goes hn hq hd hR)
theorem kn_sum {A n d z B N D Z J T tn td tz R4 h} (hn : N ≤ 8) : fN_depths 0 (mk A n d z (rowOf B N D Z J) T tn td tz R4 h) = some ([Sum.inl (Value.int (sumD B N 0 (nI 0)))], mk A n d z (rowOf B N D Z J) T tn td tz R4 h) := mk_fN (F := fN_depths 0) (fun _ => mn_sum hn)
theorem kn_drawn {A n d z B N D Z J T tn td tz R4 h} (hn : N ≤ 8) (hd : D < 100000) (hR : Rng B N) : fN_byDraws 0 (mk A n d z (rowOf B N D Z J) T tn td tz R4 h) = some ([], mk A n d z (rowOf (drawA B N D Z) N (D + 1) (drawZ B N Z) J) T tn td tz R4 h) := mk_fN (F := fN_byDraws 0) (fun _ => mn_drawn hn hd hR)
