/-! X7_in -/
def s_X7_in (v : Int32) (lo : Int32) (hi : Int32) : Bool := if v < lo then false else if hi < v then false else true
set_option maxHeartbeats 4000000 in
set_option maxRecDepth 100000 in
theorem c_X7_in (l : Launch) (D : va_G) (cI cC cJ : ClassId) (v : Int32) (lo : Int32) (hi : Int32) : zD l yX7_in wsX7_in rm_X7_in D (zT cI cC cJ) [.int v, .int lo, .int hi] [] (some (.int (zb (s_X7_in v lo hi)))) [] := by
  refine zD_int (cc := cX7_in) (maxL := 3) (ty := .boolean) (lv := [(0, .int v), (1, .int lo), (2, .int hi)]) (by decide +kernel) rfl (Nat.le_of_ble_eq_true rfl) rfl (fun Z O hret => ?_)
  refine zr_iload_n (pc2 := 1) O dX7_in_0 rfl 0 rfl rfl ?_
  refine zr_iload_n (pc2 := 2) O dX7_in_1 rfl 1 rfl rfl ?_
  refine zr_icmp_lt (tgt := 14) (pc2 := 5) O dX7_in_2 (by decide) rfl (fun c2 => ?_) (fun c2 => ?_)
  · refine zr_iconst (v := (nI 0)) (pc2 := 15) O dX7_in_14 (by decide +kernel) rfl ?_
    have hE : s_X7_in v lo hi = false := by exact (if_pos c2)
    exact hret _ _ _ _ dX7_in_15 (by decide +kernel) (by rw [hE]; rfl) rfl
  · refine zr_iload_n (pc2 := 6) O dX7_in_5 rfl 0 rfl rfl ?_
    refine zr_iload_n (pc2 := 7) O dX7_in_6 rfl 2 rfl rfl ?_
    refine zr_icmp_gt (tgt := 14) (pc2 := 10) O dX7_in_7 (by decide) rfl (fun c7 => ?_) (fun c7 => ?_)
    · refine zr_iconst (v := (nI 0)) (pc2 := 15) O dX7_in_14 (by decide +kernel) rfl ?_
      have hE : s_X7_in v lo hi = false := by exact ((if_neg c2).trans (if_pos c7))
      exact hret _ _ _ _ dX7_in_15 (by decide +kernel) (by rw [hE]; rfl) rfl
    · refine zr_iconst (v := (nI 1)) (pc2 := 11) O dX7_in_10 (by decide +kernel) rfl ?_
      refine zr_goto (tgt := 15) O dX7_in_11 (by decide) ?_
      have hE : s_X7_in v lo hi = true := by exact ((if_neg c2).trans (if_neg c7))
      exact hret _ _ _ _ dX7_in_15 (by decide +kernel) (by rw [hE]; rfl) rfl
/-! X7_isOne -/
def s_X7_isOne (mP : Nat) (i : Int32) : Bool := (s_X7_in i (nI 0) ((nI mP) - (nI 1)))
set_option maxHeartbeats 4000000 in
set_option maxRecDepth 100000 in
theorem c_X7_isOne (l : Launch) (D : va_G) (cI cC cJ : ClassId) (m : Nat → Nat) (mle : Nat) (mpo : Nat) (mfa : Nat) (mrm : Nat) (mrw : Nat) (mP : Nat) (mQ : Nat) (mbk : Nat) (mkp : Nat) (msg : Nat) (mwm : Nat) (mrs : Int32) (msd : Int32) (mls : Int32) (mhd : Int32) (mtx : zF) (mnu : zF) (mrd : zF) (mrl : zF) (mpe : zF) (mno : zF) (mbo : zF) (mim : zF) (msi : zF) (mwi : zF) (mon : zF) (mdi : zF) (mco : zF) (mgo : zF) (mbr : zF) (mca : zF) (i : Int32) : zD l yX7_isOne wsX7_isOne rm_X7_isOne D (zT cI cC cJ) [.ref (m 31), .int i] [modW cI m mle mpo mfa mrm mrw mP mQ mbk mkp msg mwm mrs msd mls mhd mtx mnu mrd mrl mpe mno mbo mim msi mwi mon mdi mco mgo mbr mca] (some (.int (zb (s_X7_isOne mP i)))) [modW cI m mle mpo mfa mrm mrw mP mQ mbk mkp msg mwm mrs msd mls mhd mtx mnu mrd mrl mpe mno mbo mim msi mwi mon mdi mco mgo mbr mca] := by
  refine zD_int (cc := cX7_isOne) (maxL := 2) (ty := .boolean) (lv := [(0, .ref (m 31)), (1, .int i)]) (by decide +kernel) rfl (Nat.le_of_ble_eq_true rfl) rfl (fun Z O hret => ?_)
  refine zr_iload_n (pc2 := 1) O dX7_isOne_0 rfl 1 rfl rfl ?_
  refine zr_iconst (v := (nI 0)) (pc2 := 2) O dX7_isOne_1 (by decide +kernel) rfl ?_
  refine zr_aload_n (pc2 := 3) O dX7_isOne_2 rfl 0 rfl rfl ?_
  refine zr_getf (v := .int (nI mP)) (pc2 := 6) O sF_X7_isOne_22 0 0 rfl rfl rfl dX7_isOne_3 rfl ?_
  refine zr_iconst (v := (nI 1)) (pc2 := 7) O dX7_isOne_6 (by decide +kernel) rfl ?_
  refine zr_isub (v := ((nI mP) - (nI 1))) (pc2 := 8) O dX7_isOne_7 rfl rfl ?_
  refine zr_callS (As := [.int i, .int (nI 0), .int ((nI mP) - (nI 1))]) (rest := []) (ws2 := [modW cI m mle mpo mfa mrm mrw mP mQ mbk mkp msg mwm mrs msd mls mhd mtx mnu mrd mrl mpe mno mbo mim msi mwi mon mdi mco mgo mbr mca]) (pc2 := 11) O (c_X7_in l D cI cC cJ i (nI 0) ((nI mP) - (nI 1))) sC_X7_isOne_76 rfl rfl dX7_isOne_8 [] rfl rfl rfl rfl (Nat.le_of_ble_eq_true rfl) rfl ?_
  show Z _ _ _ [.int (zb (s_X7_in i (nI 0) ((nI mP) - (nI 1))))]
  have hE : s_X7_isOne mP i = (s_X7_in i (nI 0) ((nI mP) - (nI 1))) := by exact rfl
  exact hret _ _ _ _ dX7_isOne_11 (zb_nar _) (by rw [hE]) rfl
/-! X7_isWill -/
def s_X7_isWill (mQ : Nat) (i : Int32) : Bool := (s_X7_in i (nI 0) ((nI mQ) - (nI 1)))
set_option maxHeartbeats 4000000 in
set_option maxRecDepth 100000 in
theorem c_X7_isWill (l : Launch) (D : va_G) (cI cC cJ : ClassId) (m : Nat → Nat) (mle : Nat) (mpo : Nat) (mfa : Nat) (mrm : Nat) (mrw : Nat) (mP : Nat) (mQ : Nat) (mbk : Nat) (mkp : Nat) (msg : Nat) (mwm : Nat) (mrs : Int32) (msd : Int32) (mls : Int32) (mhd : Int32) (mtx : zF) (mnu : zF) (mrd : zF) (mrl : zF) (mpe : zF) (mno : zF) (mbo : zF) (mim : zF) (msi : zF) (mwi : zF) (mon : zF) (mdi : zF) (mco : zF) (mgo : zF) (mbr : zF) (mca : zF) (i : Int32) : zD l yX7_isWill wsX7_isWill rm_X7_isWill D (zT cI cC cJ) [.ref (m 31), .int i] [modW cI m mle mpo mfa mrm mrw mP mQ mbk mkp msg mwm mrs msd mls mhd mtx mnu mrd mrl mpe mno mbo mim msi mwi mon mdi mco mgo mbr mca] (some (.int (zb (s_X7_isWill mQ i)))) [modW cI m mle mpo mfa mrm mrw mP mQ mbk mkp msg mwm mrs msd mls mhd mtx mnu mrd mrl mpe mno mbo mim msi mwi mon mdi mco mgo mbr mca] := by
  refine zD_int (cc := cX7_isWill) (maxL := 2) (ty := .boolean) (lv := [(0, .ref (m 31)), (1, .int i)]) (by decide +kernel) rfl (Nat.le_of_ble_eq_true rfl) rfl (fun Z O hret => ?_)
  refine zr_iload_n (pc2 := 1) O dX7_isWill_0 rfl 1 rfl rfl ?_
  refine zr_iconst (v := (nI 0)) (pc2 := 2) O dX7_isWill_1 (by decide +kernel) rfl ?_
  refine zr_aload_n (pc2 := 3) O dX7_isWill_2 rfl 0 rfl rfl ?_
  refine zr_getf (v := .int (nI mQ)) (pc2 := 6) O sF_X7_isWill_29 0 0 rfl rfl rfl dX7_isWill_3 rfl ?_
  refine zr_iconst (v := (nI 1)) (pc2 := 7) O dX7_isWill_6 (by decide +kernel) rfl ?_
  refine zr_isub (v := ((nI mQ) - (nI 1))) (pc2 := 8) O dX7_isWill_7 rfl rfl ?_
  refine zr_callS (As := [.int i, .int (nI 0), .int ((nI mQ) - (nI 1))]) (rest := []) (ws2 := [modW cI m mle mpo mfa mrm mrw mP mQ mbk mkp msg mwm mrs msd mls mhd mtx mnu mrd mrl mpe mno mbo mim msi mwi mon mdi mco mgo mbr mca]) (pc2 := 11) O (c_X7_in l D cI cC cJ i (nI 0) ((nI mQ) - (nI 1))) sC_X7_isWill_76 rfl rfl dX7_isWill_8 [] rfl rfl rfl rfl (Nat.le_of_ble_eq_true rfl) rfl ?_
  show Z _ _ _ [.int (zb (s_X7_in i (nI 0) ((nI mQ) - (nI 1))))]
  have hE : s_X7_isWill mQ i = (s_X7_in i (nI 0) ((nI mQ) - (nI 1))) := by exact rfl
  exact hret _ _ _ _ dX7_isWill_11 (zb_nar _) (by rw [hE]) rfl
theorem in_iff {v lo hi : Int32} : s_X7_in v lo hi = true ↔ lo.toInt ≤ v.toInt ∧ v.toInt ≤ hi.toInt := by
  have a : v < lo ↔ v.toInt < lo.toInt := Int32.lt_iff_toInt_lt
  have b : hi < v ↔ hi.toInt < v.toInt := Int32.lt_iff_toInt_lt
  unfold s_X7_in
  by_cases h1 : v < lo
  · rw [if_pos h1]
    rw [a] at h1
    constructor
    · intro h; cases h
    · intro h; omega
  · rw [if_neg h1]
    rw [a] at h1
    by_cases h2 : hi < v
    · rw [if_pos h2]
      rw [b] at h2
      constructor
      · intro h; cases h
      · intro h; omega
    · rw [if_neg h2]
      rw [b] at h2
      constructor
      · intro; omega
      · intro; rfl
theorem z_nat {x : Int32} (h : 0 ≤ x.toInt) : x = nI x.toNatClampNeg := by
  obtain ⟨j, hj, rfl⟩ := nI_of (x := x) (by rw [Int32.lt_iff_toInt_lt, Int32.toInt_zero]; omega)
  rw [nI_clamp hj]
theorem z_nat2 {x : Int32} (h : 0 ≤ x.toInt) : (x.toNatClampNeg : Int) = x.toInt := by
  obtain ⟨j, hj, rfl⟩ := nI_of (x := x) (by rw [Int32.lt_iff_toInt_lt, Int32.toInt_zero]; omega)
  rw [nI_clamp hj, nI_toInt hj]
theorem z_sub1 {P : Nat} (h : P < 1000) : (nI P - nI 1).toInt = (P : Int) - 1 := by
  have := pk_sub_toInt (a := P) (b := 1) (by omega) (by omega)
  rw [this]; rfl
theorem one_in {mP : Nat} {i : Int32} (h : s_X7_isOne mP i = true) (h2 : mP ≤ 6) : i = nI i.toNatClampNeg ∧ i.toNatClampNeg < mP := by
  have h0 : s_X7_in i (nI 0) (nI mP - nI 1) = true := h
  rw [in_iff, z_sub1 (by omega), nI_toInt (by decide)] at h0
  have e := z_nat2 (x := i) (by omega)
  exact ⟨z_nat (by omega), by omega⟩
theorem will_in {mQ : Nat} {i : Int32} (h : s_X7_isWill mQ i = true) (h2 : mQ ≤ 9) : i = nI i.toNatClampNeg ∧ i.toNatClampNeg < mQ := by
  have h0 : s_X7_in i (nI 0) (nI mQ - nI 1) = true := h
  rw [in_iff, z_sub1 (by omega), nI_toInt (by decide)] at h0
  have e := z_nat2 (x := i) (by omega)
  exact ⟨z_nat (by omega), by omega⟩
theorem in_nat {v : Int32} {a b : Nat} (h : s_X7_in v (nI a) (nI b) = true) (ha : a < 2 ^ 31) (hb : b < 2 ^ 31) : v = nI v.toNatClampNeg ∧ v.toNatClampNeg ≤ b := by
  rw [in_iff, nI_toInt ha, nI_toInt hb] at h
  have e := z_nat2 (x := v) (by omega)
  exact ⟨z_nat (by omega), by omega⟩
/-! X7_letterAt -/
def s_X7_letterAt (mle : Nat) (mtx : zF) (k : Nat) : Int32 := if mle ≤ k then (-1) else (mtx k)
set_option maxHeartbeats 4000000 in
set_option maxRecDepth 100000 in
theorem c_X7_letterAt (l : Launch) (D : va_G) (cI cC cJ : ClassId) (m : Nat → Nat) (mle : Nat) (mpo : Nat) (mfa : Nat) (mrm : Nat) (mrw : Nat) (mP : Nat) (mQ : Nat) (mbk : Nat) (mkp : Nat) (msg : Nat) (mwm : Nat) (mrs : Int32) (msd : Int32) (mls : Int32) (mhd : Int32) (mtx : zF) (mnu : zF) (mrd : zF) (mrl : zF) (mpe : zF) (mno : zF) (mbo : zF) (mim : zF) (msi : zF) (mwi : zF) (mon : zF) (mdi : zF) (mco : zF) (mgo : zF) (mbr : zF) (mca : zF) (k : Nat) (hml : mle ≤ 200) (hk : k ≤ 1000) : zD l yX7_letterAt wsX7_letterAt rm_X7_letterAt D (zT cI cC cJ) [.ref (m 31), .int (nI k)] [modW cI m mle mpo mfa mrm mrw mP mQ mbk mkp msg mwm mrs msd mls mhd mtx mnu mrd mrl mpe mno mbo mim msi mwi mon mdi mco mgo mbr mca] (some (.int (s_X7_letterAt mle mtx k))) [modW cI m mle mpo mfa mrm mrw mP mQ mbk mkp msg mwm mrs msd mls mhd mtx mnu mrd mrl mpe mno mbo mim msi mwi mon mdi mco mgo mbr mca] := by
  refine zD_int (cc := cX7_letterAt) (maxL := 2) (ty := .int) (lv := [(0, .ref (m 31)), (1, .int (nI k))]) (by decide +kernel) rfl (Nat.le_of_ble_eq_true rfl) rfl (fun Z O hret => ?_)
  refine zr_iload_n (pc2 := 1) O dX7_letterAt_0 rfl 1 rfl rfl ?_
  refine zr_aload_n (pc2 := 2) O dX7_letterAt_1 rfl 0 rfl rfl ?_
  refine zr_getf (v := .int (nI mle)) (pc2 := 5) O sF_X7_letterAt_80 0 0 rfl rfl rfl dX7_letterAt_2 rfl ?_
  refine zn_icmp_ge (tgt := 17) (pc2 := 8) O dX7_letterAt_5 (by decide) rfl (by omega) (by omega) (fun c5 => ?_) (fun c5 => ?_)
  · refine zr_iconst (v := (-1)) (pc2 := 18) O dX7_letterAt_17 (by decide +kernel) rfl ?_
    have hE : s_X7_letterAt mle mtx k = (-1) := by exact (if_pos c5)
    exact hret _ _ _ _ dX7_letterAt_18 rfl (by rw [hE]) rfl
  · refine zr_aload_n (pc2 := 9) O dX7_letterAt_8 rfl 0 rfl rfl ?_
    refine zr_getf (v := .ref (m 1)) (pc2 := 12) O sF_X7_letterAt_7 0 0 rfl rfl rfl dX7_letterAt_9 rfl ?_
    refine zr_iload_n (pc2 := 13) O dX7_letterAt_12 rfl 1 rfl rfl ?_
    refine zn_iald (j := k) (pc2 := 14) O 0 1 0 rfl rfl rfl rfl (by omega) (by decide) dX7_letterAt_13 rfl ?_
    refine zr_goto (tgt := 18) O dX7_letterAt_14 (by decide) ?_
    have hE : s_X7_letterAt mle mtx k = (mtx k) := by exact (if_neg c5)
    exact hret _ _ _ _ dX7_letterAt_18 rfl (by rw [hE]) rfl
/-! X7_isRow -/
def f_X7_isRow_15 (mle : Nat) (mtx : zF) (mpo9 : Nat) : Nat → Int32 → Nat → Int32 × Nat
  | 0, v, mpo8 => (v, mpo8)
  | n9 + 1, v, mpo8 => if (mpo9 + 2) ≤ mpo8 then (v, mpo8) else if (s_X7_in (s_X7_letterAt mle mtx mpo8) (nI 48) (nI 57)) = true then let x60 := ((((nI 10) * v) + (s_X7_letterAt mle mtx mpo8)) - (nI 48)); f_X7_isRow_15 mle mtx mpo9 n9 x60 (mpo8 + 1) else (v, mpo8)
def f_X7_isRow_2 (mle : Nat) (mtx : zF) (sz : Nat) : Nat → Nat → Nat → zF → Bool × Nat × zF
  | 0, _, mpo9, mnu9 => (true, mpo9, mnu9)
  | n9 + 1, k, mpo9, mnu9 => let v23 := f_X7_isRow_15 mle mtx mpo9 2 (nI 0) mpo9; if v23.2 = mpo9 then (false, v23.2, mnu9) else if k = (sz - 1) then if (s_X7_letterAt mle mtx v23.2) = (nI 59) then f_X7_isRow_2 mle mtx sz n9 (k + 1) (v23.2 + 1) (upd mnu9 k v23.1) else (false, v23.2, mnu9) else if (s_X7_letterAt mle mtx v23.2) = (nI 44) then f_X7_isRow_2 mle mtx sz n9 (k + 1) (v23.2 + 1) (upd mnu9 k v23.1) else (false, v23.2, mnu9)
def s_X7_isRow (mle : Nat) (mpo : Nat) (mtx : zF) (mnu : zF) (sz : Nat) : Bool × Nat × zF := f_X7_isRow_2 mle mtx sz sz 0 mpo mnu
set_option maxHeartbeats 4000000 in
set_option maxRecDepth 100000 in
theorem c_X7_isRow (l : Launch) (D : va_G) (cI cC cJ : ClassId) (m : Nat → Nat) (mle : Nat) (mpo : Nat) (mfa : Nat) (mrm : Nat) (mrw : Nat) (mP : Nat) (mQ : Nat) (mbk : Nat) (mkp : Nat) (msg : Nat) (mwm : Nat) (mrs : Int32) (msd : Int32) (mls : Int32) (mhd : Int32) (mtx : zF) (mnu : zF) (mrd : zF) (mrl : zF) (mpe : zF) (mno : zF) (mbo : zF) (mim : zF) (msi : zF) (mwi : zF) (mon : zF) (mdi : zF) (mco : zF) (mgo : zF) (mbr : zF) (mca : zF) (sz : Nat) (hml : mle ≤ 200) (hpo : mpo ≤ 300) (hsz : sz ≤ 4) : zD l yX7_isRow wsX7_isRow rm_X7_isRow D (zT cI cC cJ) [.ref (m 31), .int (nI sz)] [modW cI m mle mpo mfa mrm mrw mP mQ mbk mkp msg mwm mrs msd mls mhd mtx mnu mrd mrl mpe mno mbo mim msi mwi mon mdi mco mgo mbr mca] (some (.int (zb ((s_X7_isRow mle mpo mtx mnu sz).1)))) [modW cI m mle ((s_X7_isRow mle mpo mtx mnu sz).2.1) mfa mrm mrw mP mQ mbk mkp msg mwm mrs msd mls mhd mtx ((s_X7_isRow mle mpo mtx mnu sz).2.2) mrd mrl mpe mno mbo mim msi mwi mon mdi mco mgo mbr mca] := by
  refine zD_int (cc := cX7_isRow) (maxL := 5) (ty := .boolean) (lv := [(0, .ref (m 31)), (1, .int (nI sz))]) (by decide +kernel) rfl (Nat.le_of_ble_eq_true rfl) rfl (fun Z O hret => ?_)
  refine zr_iconst (v := (nI 0)) (pc2 := 1) O dX7_isRow_0 (by decide +kernel) rfl ?_
  refine zr_istore_n (lv2 := [(2, .int (nI 0)), (0, .ref (m 31)), (1, .int (nI sz))]) (pc2 := 2) O dX7_isRow_1 rfl (by decide) rfl rfl ?_
  have hS2 : s_X7_isRow mle mpo mtx mnu sz = f_X7_isRow_2 mle mtx sz sz 0 mpo mnu := by exact rfl
  have lp2 : ∀ (n9 : Nat) (k : Nat) (mpo9 : Nat) (mnu9 : zF), k + n9 = sz → (mpo9 ≤ mpo + 3 * k) → f_X7_isRow_2 mle mtx sz sz 0 mpo mnu = f_X7_isRow_2 mle mtx sz n9 k mpo9 mnu9 → Z [modW cI m mle mpo9 mfa mrm mrw mP mQ mbk mkp msg mwm mrs msd mls mhd mtx mnu9 mrd mrl mpe mno mbo mim msi mwi mon mdi mco mgo mbr mca] [(2, .int (nI k)), (0, .ref (m 31)), (1, .int (nI sz))] 2 [] := by
    intro n9
    induction n9 with
    | zero =>
      intro k mpo9 mnu9 hM2 hi9 hF2
      refine zr_iload_n (pc2 := 3) O dX7_isRow_2 rfl 0 rfl rfl ?_
      refine zr_iload_n (pc2 := 4) O dX7_isRow_3 rfl 2 rfl rfl ?_
      refine zn_icmp_ge (tgt := 133) (pc2 := 7) O dX7_isRow_4 (by decide) rfl (by omega) (by omega) (fun c4 => ?_) (fun c4 => ?_)
      · refine zr_iconst (v := (nI 1)) (pc2 := 134) O dX7_isRow_133 (by decide +kernel) rfl ?_
        have hE : f_X7_isRow_2 mle mtx sz 0 k mpo9 mnu9 = (true, mpo9, mnu9) := by exact rfl
        have hE := hS2.trans (hF2.trans hE)
        exact hret _ _ _ _ dX7_isRow_134 (by decide +kernel) (by rw [hE]; rfl) (by rw [hE])
      · exact absurd c4 (by omega)
    | succ n9 ih2 =>
      intro k mpo9 mnu9 hM2 hi9 hF2
      refine zr_iload_n (pc2 := 3) O dX7_isRow_2 rfl 0 rfl rfl ?_
      refine zr_iload_n (pc2 := 4) O dX7_isRow_3 rfl 2 rfl rfl ?_
      refine zn_icmp_ge (tgt := 133) (pc2 := 7) O dX7_isRow_4 (by decide) rfl (by omega) (by omega) (fun c4 => ?_) (fun c4 => ?_)
      · exact absurd c4 (by omega)
      · refine zr_iconst (v := (nI 0)) (pc2 := 8) O dX7_isRow_7 (by decide +kernel) rfl ?_
        refine zr_istore_n (lv2 := [(3, .int (nI 0)), (2, .int (nI k)), (0, .ref (m 31)), (1, .int (nI sz))]) (pc2 := 9) O dX7_isRow_8 rfl (by decide) rfl rfl ?_
        refine zr_aload_n (pc2 := 10) O dX7_isRow_9 rfl 2 rfl rfl ?_
        refine zr_getf (v := .int (nI mpo9)) (pc2 := 13) O sF_X7_isRow_83 0 0 rfl rfl rfl dX7_isRow_10 rfl ?_
        refine zr_istore (lv2 := [(4, .int (nI mpo9)), (3, .int (nI 0)), (2, .int (nI k)), (0, .ref (m 31)), (1, .int (nI sz))]) (pc2 := 15) O dX7_isRow_13 (by decide) rfl rfl ?_
        have K15 : ∀ (v : Int32) (mpo8 : Nat), (mpo8 ≤ mpo9 + 2) → f_X7_isRow_15 mle mtx mpo9 2 (nI 0) mpo9 = (v, mpo8) → Z [modW cI m mle mpo8 mfa mrm mrw mP mQ mbk mkp msg mwm mrs msd mls mhd mtx mnu9 mrd mrl mpe mno mbo mim msi mwi mon mdi mco mgo mbr mca] [(4, .int (nI mpo9)), (3, .int v), (2, .int (nI k)), (0, .ref (m 31)), (1, .int (nI sz))] 74 [] := by
          intro v mpo8 hk8 hF15
          obtain ⟨v23, hv23⟩ : ∃ z9, z9 = f_X7_isRow_15 mle mtx mpo9 2 (nI 0) mpo9 := ⟨_, rfl⟩
          rw [← hv23] at hF15
          have e9 : v23.1 = v := congrArg (fun z => z.1) hF15
          subst e9
          have e9 : v23.2 = mpo8 := congrArg (fun z => z.2) hF15
          subst e9
          refine zr_aload_n (pc2 := 75) O dX7_isRow_74 rfl 3 rfl rfl ?_
          refine zr_getf (v := .int (nI v23.2)) (pc2 := 78) O sF_X7_isRow_83 0 0 rfl rfl rfl dX7_isRow_75 rfl ?_
          refine zr_iload (pc2 := 80) O dX7_isRow_78 0 rfl rfl ?_
          refine zn_icmp_eq (tgt := 108) (pc2 := 83) O dX7_isRow_80 (by decide) rfl (by omega) (by omega) (fun c80 => ?_) (fun c80 => ?_)
          · refine zr_iconst (v := (nI 0)) (pc2 := 109) O dX7_isRow_108 (by decide +kernel) rfl ?_
            have hE : f_X7_isRow_2 mle mtx sz (n9 + 1) k mpo9 mnu9 = (false, v23.2, mnu9) := by subst hv23; exact (if_pos c80)
            have hE := hS2.trans (hF2.trans hE)
            exact hret _ _ _ _ dX7_isRow_109 (by decide +kernel) (by rw [hE]; rfl) (by rw [hE])
          · refine zr_aload_n (pc2 := 84) O dX7_isRow_83 rfl 3 rfl rfl ?_
            refine zr_aload_n (pc2 := 85) O dX7_isRow_84 rfl 3 rfl rfl ?_
            refine zr_getf (v := .int (nI v23.2)) (pc2 := 88) O sF_X7_isRow_83 0 0 rfl rfl rfl dX7_isRow_85 rfl ?_
            refine zr_callV (As := [.int (nI v23.2)]) (rest := []) (ws2 := [modW cI m mle v23.2 mfa mrm mrw mP mQ mbk mkp msg mwm mrs msd mls mhd mtx mnu9 mrd mrl mpe mno mbo mim msi mwi mon mdi mco mgo mbr mca]) (pc2 := 91) (ci := 7) (g0 := 0) (q0 := 0) O (c_X7_letterAt l D cI cC cJ m mle v23.2 mfa mrm mrw mP mQ mbk mkp msg mwm mrs msd mls mhd mtx mnu9 mrd mrl mpe mno mbo mim msi mwi mon mdi mco mgo mbr mca v23.2 (by first | assumption | omega) (by first | assumption | omega)) sC_X7_isRow_86 rfl rfl rfl rfl rfl dX7_isRow_88 [0] rfl rfl rfl rfl (Nat.le_of_ble_eq_true rfl) rfl ?_
            show Z _ _ _ [.int (s_X7_letterAt mle mtx v23.2)]
            refine zr_iload_n (pc2 := 92) O dX7_isRow_91 rfl 2 rfl rfl ?_
            refine zr_iload_n (pc2 := 93) O dX7_isRow_92 rfl 4 rfl rfl ?_
            refine zr_iconst (v := (nI 1)) (pc2 := 94) O dX7_isRow_93 (by decide +kernel) rfl ?_
            refine zr_isub (v := (nI (sz - 1))) (pc2 := 95) O dX7_isRow_94 (pk_sub (by omega)) rfl ?_
            refine zn_icmp_ne (tgt := 103) (pc2 := 98) O dX7_isRow_95 (by decide) rfl (by omega) (by omega) (fun c95 => ?_) (fun c95 => ?_)
            · refine zr_bipush (v := (nI 44)) (pc2 := 105) O dX7_isRow_103 (by decide +kernel) rfl ?_
              refine zr_icmp_eq (tgt := 110) (pc2 := 108) O dX7_isRow_105 (by decide) rfl (fun c105 => ?_) (fun c105 => ?_)
              · refine zr_aload_n (pc2 := 111) O dX7_isRow_110 rfl 3 rfl rfl ?_
                refine zr_dup (pc2 := 112) O dX7_isRow_111 rfl rfl ?_
                refine zr_getf (v := .int (nI v23.2)) (pc2 := 115) O sF_X7_isRow_83 0 0 rfl rfl rfl dX7_isRow_112 rfl ?_
                refine zr_iconst (v := (nI 1)) (pc2 := 116) O dX7_isRow_115 (by decide +kernel) rfl ?_
                refine zr_iadd (v := (nI (v23.2 + 1))) (pc2 := 117) O dX7_isRow_116 (nI_add v23.2 1) rfl ?_
                refine zr_putf (G2 := modW cI m mle (v23.2 + 1) mfa mrm mrw mP mQ mbk mkp msg mwm mrs msd mls mhd mtx mnu9 mrd mrl mpe mno mbo mim msi mwi mon mdi mco mgo mbr mca) (ws2 := [modW cI m mle (v23.2 + 1) mfa mrm mrw mP mQ mbk mkp msg mwm mrs msd mls mhd mtx mnu9 mrd mrl mpe mno mbo mim msi mwi mon mdi mco mgo mbr mca]) (pc2 := 120) O sP_X7_isRow_83 0 0 rfl rfl rfl rfl (Nat.le_of_ble_eq_true rfl) dX7_isRow_117 rfl rfl rfl ?_
                refine zr_aload_n (pc2 := 121) O dX7_isRow_120 rfl 3 rfl rfl ?_
                refine zr_getf (v := .ref (m 3)) (pc2 := 124) O sF_X7_isRow_13 0 0 rfl rfl rfl dX7_isRow_121 rfl ?_
                refine zr_iload_n (pc2 := 125) O dX7_isRow_124 rfl 2 rfl rfl ?_
                refine zr_iload_n (pc2 := 126) O dX7_isRow_125 rfl 1 rfl rfl ?_
                refine zn_iast (j := k) (G2 := modW cI m mle (v23.2 + 1) mfa mrm mrw mP mQ mbk mkp msg mwm mrs msd mls mhd mtx (upd mnu9 k v23.1) mrd mrl mpe mno mbo mim msi mwi mon mdi mco mgo mbr mca) (ws2 := [modW cI m mle (v23.2 + 1) mfa mrm mrw mP mQ mbk mkp msg mwm mrs msd mls mhd mtx (upd mnu9 k v23.1) mrd mrl mpe mno mbo mim msi mwi mon mdi mco mgo mbr mca]) (pc2 := 127) O 0 2 0 rfl rfl rfl rfl (by omega) (by decide) dX7_isRow_126 rfl rfl rfl ?_
                refine zr_iinc (v := (nI (k + 1))) (lv2 := [(2, .int (nI (k + 1))), (4, .int (nI mpo9)), (3, .int v23.1), (0, .ref (m 31)), (1, .int (nI sz))]) (pc2 := 130) O dX7_isRow_127 2 rfl (zm_ofInt1 k) (by decide) rfl rfl ?_
                refine zr_goto (tgt := 2) O dX7_isRow_130 (by decide) ?_
                refine zr_sub (lv2 := [(2, .int (nI (k + 1))), (0, .ref (m 31)), (1, .int (nI sz))]) O [0, 3, 4] rfl ?_
                have hE : f_X7_isRow_2 mle mtx sz (n9 + 1) k mpo9 mnu9 = f_X7_isRow_2 mle mtx sz n9 (k + 1) (v23.2 + 1) (upd mnu9 k v23.1) := by subst hv23; exact ((if_neg c80).trans ((if_neg c95).trans (if_pos c105)))
                exact ih2 (k + 1) (v23.2 + 1) (upd mnu9 k v23.1) (by omega) (by omega) (hF2.trans hE)
              · refine zr_iconst (v := (nI 0)) (pc2 := 109) O dX7_isRow_108 (by decide +kernel) rfl ?_
                have hE : f_X7_isRow_2 mle mtx sz (n9 + 1) k mpo9 mnu9 = (false, v23.2, mnu9) := by subst hv23; exact ((if_neg c80).trans ((if_neg c95).trans (if_neg c105)))
                have hE := hS2.trans (hF2.trans hE)
                exact hret _ _ _ _ dX7_isRow_109 (by decide +kernel) (by rw [hE]; rfl) (by rw [hE])
            · refine zr_bipush (v := (nI 59)) (pc2 := 100) O dX7_isRow_98 (by decide +kernel) rfl ?_
              refine zr_goto (tgt := 105) O dX7_isRow_100 (by decide) ?_
              refine zr_icmp_eq (tgt := 110) (pc2 := 108) O dX7_isRow_105 (by decide) rfl (fun c105 => ?_) (fun c105 => ?_)
              · refine zr_aload_n (pc2 := 111) O dX7_isRow_110 rfl 3 rfl rfl ?_
                refine zr_dup (pc2 := 112) O dX7_isRow_111 rfl rfl ?_
                refine zr_getf (v := .int (nI v23.2)) (pc2 := 115) O sF_X7_isRow_83 0 0 rfl rfl rfl dX7_isRow_112 rfl ?_
                refine zr_iconst (v := (nI 1)) (pc2 := 116) O dX7_isRow_115 (by decide +kernel) rfl ?_
                refine zr_iadd (v := (nI (v23.2 + 1))) (pc2 := 117) O dX7_isRow_116 (nI_add v23.2 1) rfl ?_
                refine zr_putf (G2 := modW cI m mle (v23.2 + 1) mfa mrm mrw mP mQ mbk mkp msg mwm mrs msd mls mhd mtx mnu9 mrd mrl mpe mno mbo mim msi mwi mon mdi mco mgo mbr mca) (ws2 := [modW cI m mle (v23.2 + 1) mfa mrm mrw mP mQ mbk mkp msg mwm mrs msd mls mhd mtx mnu9 mrd mrl mpe mno mbo mim msi mwi mon mdi mco mgo mbr mca]) (pc2 := 120) O sP_X7_isRow_83 0 0 rfl rfl rfl rfl (Nat.le_of_ble_eq_true rfl) dX7_isRow_117 rfl rfl rfl ?_
                refine zr_aload_n (pc2 := 121) O dX7_isRow_120 rfl 3 rfl rfl ?_
                refine zr_getf (v := .ref (m 3)) (pc2 := 124) O sF_X7_isRow_13 0 0 rfl rfl rfl dX7_isRow_121 rfl ?_
                refine zr_iload_n (pc2 := 125) O dX7_isRow_124 rfl 2 rfl rfl ?_
                refine zr_iload_n (pc2 := 126) O dX7_isRow_125 rfl 1 rfl rfl ?_
                refine zn_iast (j := k) (G2 := modW cI m mle (v23.2 + 1) mfa mrm mrw mP mQ mbk mkp msg mwm mrs msd mls mhd mtx (upd mnu9 k v23.1) mrd mrl mpe mno mbo mim msi mwi mon mdi mco mgo mbr mca) (ws2 := [modW cI m mle (v23.2 + 1) mfa mrm mrw mP mQ mbk mkp msg mwm mrs msd mls mhd mtx (upd mnu9 k v23.1) mrd mrl mpe mno mbo mim msi mwi mon mdi mco mgo mbr mca]) (pc2 := 127) O 0 2 0 rfl rfl rfl rfl (by omega) (by decide) dX7_isRow_126 rfl rfl rfl ?_
                refine zr_iinc (v := (nI (k + 1))) (lv2 := [(2, .int (nI (k + 1))), (4, .int (nI mpo9)), (3, .int v23.1), (0, .ref (m 31)), (1, .int (nI sz))]) (pc2 := 130) O dX7_isRow_127 2 rfl (zm_ofInt1 k) (by decide) rfl rfl ?_
                refine zr_goto (tgt := 2) O dX7_isRow_130 (by decide) ?_
                refine zr_sub (lv2 := [(2, .int (nI (k + 1))), (0, .ref (m 31)), (1, .int (nI sz))]) O [0, 3, 4] rfl ?_
                have hE : f_X7_isRow_2 mle mtx sz (n9 + 1) k mpo9 mnu9 = f_X7_isRow_2 mle mtx sz n9 (k + 1) (v23.2 + 1) (upd mnu9 k v23.1) := by subst hv23; exact ((if_neg c80).trans ((if_pos c95).trans (if_pos c105)))
                exact ih2 (k + 1) (v23.2 + 1) (upd mnu9 k v23.1) (by omega) (by omega) (hF2.trans hE)
              · refine zr_iconst (v := (nI 0)) (pc2 := 109) O dX7_isRow_108 (by decide +kernel) rfl ?_
                have hE : f_X7_isRow_2 mle mtx sz (n9 + 1) k mpo9 mnu9 = (false, v23.2, mnu9) := by subst hv23; exact ((if_neg c80).trans ((if_pos c95).trans (if_neg c105)))
                have hE := hS2.trans (hF2.trans hE)
                exact hret _ _ _ _ dX7_isRow_109 (by decide +kernel) (by rw [hE]; rfl) (by rw [hE])
        have lp15 : ∀ (n9 : Nat) (v : Int32) (mpo8 : Nat), mpo8 + n9 = mpo9 + 2 → f_X7_isRow_15 mle mtx mpo9 2 (nI 0) mpo9 = f_X7_isRow_15 mle mtx mpo9 n9 v mpo8 → Z [modW cI m mle mpo8 mfa mrm mrw mP mQ mbk mkp msg mwm mrs msd mls mhd mtx mnu9 mrd mrl mpe mno mbo mim msi mwi mon mdi mco mgo mbr mca] [(4, .int (nI mpo9)), (3, .int v), (2, .int (nI k)), (0, .ref (m 31)), (1, .int (nI sz))] 15 [] := by
          intro n9
          induction n9 with
          | zero =>
            intro v mpo8 hM15 hF15
            refine zr_aload_n (pc2 := 16) O dX7_isRow_15 rfl 3 rfl rfl ?_
            refine zr_getf (v := .int (nI mpo8)) (pc2 := 19) O sF_X7_isRow_83 0 0 rfl rfl rfl dX7_isRow_16 rfl ?_
            refine zr_iload (pc2 := 21) O dX7_isRow_19 0 rfl rfl ?_
            refine zr_iconst (v := (nI 2)) (pc2 := 22) O dX7_isRow_21 (by decide +kernel) rfl ?_
            refine zr_iadd (v := (nI (mpo9 + 2))) (pc2 := 23) O dX7_isRow_22 (nI_add mpo9 2) rfl ?_
            refine zn_icmp_ge (tgt := 74) (pc2 := 26) O dX7_isRow_23 (by decide) rfl (by omega) (by omega) (fun c23 => ?_) (fun c23 => ?_)
            · have hE : f_X7_isRow_15 mle mtx mpo9 0 v mpo8 = (v, mpo8) := by exact rfl
              exact K15 v mpo8 (by omega) (hF15.trans hE)
            · exact absurd c23 (by omega)
          | succ n9 ih15 =>
            intro v mpo8 hM15 hF15
            refine zr_aload_n (pc2 := 16) O dX7_isRow_15 rfl 3 rfl rfl ?_
            refine zr_getf (v := .int (nI mpo8)) (pc2 := 19) O sF_X7_isRow_83 0 0 rfl rfl rfl dX7_isRow_16 rfl ?_
            refine zr_iload (pc2 := 21) O dX7_isRow_19 0 rfl rfl ?_
            refine zr_iconst (v := (nI 2)) (pc2 := 22) O dX7_isRow_21 (by decide +kernel) rfl ?_
            refine zr_iadd (v := (nI (mpo9 + 2))) (pc2 := 23) O dX7_isRow_22 (nI_add mpo9 2) rfl ?_
            refine zn_icmp_ge (tgt := 74) (pc2 := 26) O dX7_isRow_23 (by decide) rfl (by omega) (by omega) (fun c23 => ?_) (fun c23 => ?_)
            · have hE : f_X7_isRow_15 mle mtx mpo9 (n9 + 1) v mpo8 = (v, mpo8) := by exact (if_pos c23)
              exact K15 v mpo8 (by omega) (hF15.trans hE)
            · refine zr_aload_n (pc2 := 27) O dX7_isRow_26 rfl 3 rfl rfl ?_
              refine zr_aload_n (pc2 := 28) O dX7_isRow_27 rfl 3 rfl rfl ?_
              refine zr_getf (v := .int (nI mpo8)) (pc2 := 31) O sF_X7_isRow_83 0 0 rfl rfl rfl dX7_isRow_28 rfl ?_
              refine zr_callV (As := [.int (nI mpo8)]) (rest := []) (ws2 := [modW cI m mle mpo8 mfa mrm mrw mP mQ mbk mkp msg mwm mrs msd mls mhd mtx mnu9 mrd mrl mpe mno mbo mim msi mwi mon mdi mco mgo mbr mca]) (pc2 := 34) (ci := 7) (g0 := 0) (q0 := 0) O (c_X7_letterAt l D cI cC cJ m mle mpo8 mfa mrm mrw mP mQ mbk mkp msg mwm mrs msd mls mhd mtx mnu9 mrd mrl mpe mno mbo mim msi mwi mon mdi mco mgo mbr mca mpo8 (by first | assumption | omega) (by first | assumption | omega)) sC_X7_isRow_86 rfl rfl rfl rfl rfl dX7_isRow_31 [0] rfl rfl rfl rfl (Nat.le_of_ble_eq_true rfl) rfl ?_
              show Z _ _ _ [.int (s_X7_letterAt mle mtx mpo8)]
              refine zr_bipush (v := (nI 48)) (pc2 := 36) O dX7_isRow_34 (by decide +kernel) rfl ?_
              refine zr_bipush (v := (nI 57)) (pc2 := 38) O dX7_isRow_36 (by decide +kernel) rfl ?_
              refine zr_callS (As := [.int (s_X7_letterAt mle mtx mpo8), .int (nI 48), .int (nI 57)]) (rest := []) (ws2 := [modW cI m mle mpo8 mfa mrm mrw mP mQ mbk mkp msg mwm mrs msd mls mhd mtx mnu9 mrd mrl mpe mno mbo mim msi mwi mon mdi mco mgo mbr mca]) (pc2 := 41) O (c_X7_in l D cI cC cJ (s_X7_letterAt mle mtx mpo8) (nI 48) (nI 57)) sC_X7_isRow_76 rfl rfl dX7_isRow_38 [] rfl rfl rfl rfl (Nat.le_of_ble_eq_true rfl) rfl ?_
              show Z _ _ _ [.int (zb (s_X7_in (s_X7_letterAt mle mtx mpo8) (nI 48) (nI 57)))]
              refine zb_if_eq (tgt := 74) (pc2 := 44) O dX7_isRow_41 (by decide) rfl (fun c41 => ?_) (fun c41 => ?_)
              · have hE : f_X7_isRow_15 mle mtx mpo9 (n9 + 1) v mpo8 = (v, mpo8) := by exact ((if_neg c23).trans (zif_f c41))
                exact K15 v mpo8 (by omega) (hF15.trans hE)
              · refine zr_bipush (v := (nI 10)) (pc2 := 46) O dX7_isRow_44 (by decide +kernel) rfl ?_
                refine zr_iload_n (pc2 := 47) O dX7_isRow_46 rfl 1 rfl rfl ?_
                refine zr_imul (v := ((nI 10) * v)) (pc2 := 48) O dX7_isRow_47 rfl rfl ?_
                refine zr_aload_n (pc2 := 49) O dX7_isRow_48 rfl 3 rfl rfl ?_
                refine zr_aload_n (pc2 := 50) O dX7_isRow_49 rfl 3 rfl rfl ?_
                refine zr_getf (v := .int (nI mpo8)) (pc2 := 53) O sF_X7_isRow_83 0 0 rfl rfl rfl dX7_isRow_50 rfl ?_
                refine zr_callV (As := [.int (nI mpo8)]) (rest := [.int ((nI 10) * v)]) (ws2 := [modW cI m mle mpo8 mfa mrm mrw mP mQ mbk mkp msg mwm mrs msd mls mhd mtx mnu9 mrd mrl mpe mno mbo mim msi mwi mon mdi mco mgo mbr mca]) (pc2 := 56) (ci := 7) (g0 := 0) (q0 := 0) O (c_X7_letterAt l D cI cC cJ m mle mpo8 mfa mrm mrw mP mQ mbk mkp msg mwm mrs msd mls mhd mtx mnu9 mrd mrl mpe mno mbo mim msi mwi mon mdi mco mgo mbr mca mpo8 (by first | assumption | omega) (by first | assumption | omega)) sC_X7_isRow_86 rfl rfl rfl rfl rfl dX7_isRow_53 [0] rfl rfl rfl rfl (Nat.le_of_ble_eq_true rfl) rfl ?_
                show Z _ _ _ [.int (s_X7_letterAt mle mtx mpo8), .int ((nI 10) * v)]
                refine zr_iadd (v := (((nI 10) * v) + (s_X7_letterAt mle mtx mpo8))) (pc2 := 57) O dX7_isRow_56 rfl rfl ?_
                refine zr_bipush (v := (nI 48)) (pc2 := 59) O dX7_isRow_57 (by decide +kernel) rfl ?_
                refine zr_isub (v := ((((nI 10) * v) + (s_X7_letterAt mle mtx mpo8)) - (nI 48))) (pc2 := 60) O dX7_isRow_59 rfl rfl ?_
                obtain ⟨x60, hx60⟩ : ∃ z9 : Int32, z9 = ((((nI 10) * v) + (s_X7_letterAt mle mtx mpo8)) - (nI 48)) := ⟨_, rfl⟩
                rw [← hx60]
                refine zr_istore_n (lv2 := [(3, .int x60), (4, .int (nI mpo9)), (2, .int (nI k)), (0, .ref (m 31)), (1, .int (nI sz))]) (pc2 := 61) O dX7_isRow_60 rfl (by decide) rfl rfl ?_
                refine zr_aload_n (pc2 := 62) O dX7_isRow_61 rfl 3 rfl rfl ?_
                refine zr_dup (pc2 := 63) O dX7_isRow_62 rfl rfl ?_
                refine zr_getf (v := .int (nI mpo8)) (pc2 := 66) O sF_X7_isRow_83 0 0 rfl rfl rfl dX7_isRow_63 rfl ?_
                refine zr_iconst (v := (nI 1)) (pc2 := 67) O dX7_isRow_66 (by decide +kernel) rfl ?_
                refine zr_iadd (v := (nI (mpo8 + 1))) (pc2 := 68) O dX7_isRow_67 (nI_add mpo8 1) rfl ?_
                refine zr_putf (G2 := modW cI m mle (mpo8 + 1) mfa mrm mrw mP mQ mbk mkp msg mwm mrs msd mls mhd mtx mnu9 mrd mrl mpe mno mbo mim msi mwi mon mdi mco mgo mbr mca) (ws2 := [modW cI m mle (mpo8 + 1) mfa mrm mrw mP mQ mbk mkp msg mwm mrs msd mls mhd mtx mnu9 mrd mrl mpe mno mbo mim msi mwi mon mdi mco mgo mbr mca]) (pc2 := 71) O sP_X7_isRow_83 0 0 rfl rfl rfl rfl (Nat.le_of_ble_eq_true rfl) dX7_isRow_68 rfl rfl rfl ?_
                refine zr_goto (tgt := 15) O dX7_isRow_71 (by decide) ?_
                refine zr_sub (lv2 := [(4, .int (nI mpo9)), (3, .int x60), (2, .int (nI k)), (0, .ref (m 31)), (1, .int (nI sz))]) O [1, 0, 2, 3, 4] rfl ?_
                have hE : f_X7_isRow_15 mle mtx mpo9 (n9 + 1) v mpo8 = f_X7_isRow_15 mle mtx mpo9 n9 x60 (mpo8 + 1) := by subst hx60; exact ((if_neg c23).trans (zif_t c41))
                exact ih15 x60 (mpo8 + 1) (by omega) (hF15.trans hE)
        exact lp15 2 (nI 0) mpo9 (by omega) rfl
  exact lp2 sz 0 mpo mnu (by omega) (by omega) rfl
/-- one number of one or two figures, in closed form -/
def zdig (mle : Nat) (mtx : zF) (p : Nat) : Bool := s_X7_in (s_X7_letterAt mle mtx p) (nI 48) (nI 57)
theorem row15_eq (mle : Nat) (mtx : zF) (p : Nat) : f_X7_isRow_15 mle mtx p 2 (nI 0) p = if zdig mle mtx p = true then (if zdig mle mtx (p + 1) = true then (((nI 10) * (((nI 10) * (nI 0)) + (s_X7_letterAt mle mtx p) - (nI 48))) + (s_X7_letterAt mle mtx (p + 1)) - (nI 48), p + 1 + 1) else (((nI 10) * (nI 0)) + (s_X7_letterAt mle mtx p) - (nI 48), p + 1)) else (nI 0, p) := by
  unfold f_X7_isRow_15
  rw [if_neg (by omega)]
  unfold zdig
  by_cases h1 : s_X7_in (s_X7_letterAt mle mtx p) (nI 48) (nI 57) = true
  · rw [if_pos h1, if_pos h1]
    dsimp only
    unfold f_X7_isRow_15
    rw [if_neg (by omega)]
    by_cases h2 : s_X7_in (s_X7_letterAt mle mtx (p + 1)) (nI 48) (nI 57) = true
    · rw [if_pos h2, if_pos h2]
      rfl
    · rw [if_neg h2, if_neg h2]
  · rw [if_neg h1, if_neg h1]
theorem zdig_nat {mle : Nat} {mtx : zF} {p : Nat} (h : zdig mle mtx p = true) : ∃ d, d ≤ 9 ∧ s_X7_letterAt mle mtx p = nI (48 + d) ∧ p < mle := by
  have h0 : s_X7_in (s_X7_letterAt mle mtx p) (nI 48) (nI 57) = true := h
  have h1 := in_nat h0 (by decide) (by decide)
  rw [in_iff, nI_toInt (by decide), nI_toInt (by decide)] at h0
  have h2 := z_nat2 (x := s_X7_letterAt mle mtx p) (by omega)
  refine ⟨(s_X7_letterAt mle mtx p).toNatClampNeg - 48, by omega, ?_, ?_⟩
  · rw [show 48 + ((s_X7_letterAt mle mtx p).toNatClampNeg - 48) = (s_X7_letterAt mle mtx p).toNatClampNeg by omega]
    exact h1.1
  · rcases Nat.lt_or_ge p mle with q | q
    · exact q
    · have e : s_X7_letterAt mle mtx p = -1 := by unfold s_X7_letterAt; rw [if_pos q]
      rw [e] at h0
      have e2 : (-1 : Int32).toInt = -1 := by decide
      rw [e2] at h0
      omega
theorem zval1 (a d : Nat) : ((nI 10) * nI a) + nI (48 + d) - (nI 48) = nI (10 * a + d) := by
  rw [pk_mul, nI_add, pk_sub (by omega)]
  congr 1
  omega
theorem row15_ok (mle : Nat) (mtx : zF) (p : Nat) : ∃ a, a ≤ 99 ∧ (f_X7_isRow_15 mle mtx p 2 (nI 0) p).1 = nI a ∧ (f_X7_isRow_15 mle mtx p 2 (nI 0) p).2 ≤ p + 2 := by
  rw [row15_eq]
  by_cases h1 : zdig mle mtx p = true
  · obtain ⟨d, hd, e1, -⟩ := zdig_nat h1
    rw [if_pos h1]
    by_cases h2 : zdig mle mtx (p + 1) = true
    · obtain ⟨d2, hd2, e2, -⟩ := zdig_nat h2
      rw [if_pos h2, e1, e2, zval1, zval1]
      exact ⟨10 * (10 * 0 + d) + d2, by omega, rfl, by dsimp only; omega⟩
    · rw [if_neg h2, e1, zval1]
      exact ⟨10 * 0 + d, by omega, rfl, by dsimp only; omega⟩
  · rw [if_neg h1]
    exact ⟨0, by omega, rfl, by dsimp only; omega⟩
theorem row2_ok (mle : Nat) (mtx : zF) (sz : Nat) : ∀ (n9 k pos : Nat) (nu : zF), (f_X7_isRow_2 mle mtx sz n9 k pos nu).2.1 ≤ pos + 3 * n9 ∧ ((f_X7_isRow_2 mle mtx sz n9 k pos nu).1 = true → ∀ j, (j < k → (f_X7_isRow_2 mle mtx sz n9 k pos nu).2.2 j = nu j) ∧ (k ≤ j → j < k + n9 → ∃ a, a ≤ 99 ∧ (f_X7_isRow_2 mle mtx sz n9 k pos nu).2.2 j = nI a))
  | 0, k, pos, nu => ⟨by show pos ≤ _; omega, fun _ j => ⟨fun _ => rfl, fun h1 h2 => by omega⟩⟩
  | n9 + 1, k, pos, nu => by
    obtain ⟨a, ha, e1, e2⟩ := row15_ok mle mtx pos
    have step : ∀ x : Nat, x ≤ pos + 3 → (f_X7_isRow_2 mle mtx sz n9 (k + 1) x (upd nu k (nI a))).2.1 ≤ pos + 3 * (n9 + 1) ∧ ((f_X7_isRow_2 mle mtx sz n9 (k + 1) x (upd nu k (nI a))).1 = true → ∀ j, (j < k → (f_X7_isRow_2 mle mtx sz n9 (k + 1) x (upd nu k (nI a))).2.2 j = nu j) ∧ (k ≤ j → j < k + (n9 + 1) → ∃ b9, b9 ≤ 99 ∧ (f_X7_isRow_2 mle mtx sz n9 (k + 1) x (upd nu k (nI a))).2.2 j = nI b9)) := by
      intro x hx
      obtain ⟨i1, i2⟩ := row2_ok mle mtx sz n9 (k + 1) x (upd nu k (nI a))
      refine ⟨by omega, fun ht j => ?_⟩
      obtain ⟨j1, j2⟩ := i2 ht j
      refine ⟨fun hj => ?_, fun h1 h2 => ?_⟩
      · rw [j1 (by omega)]
        exact pk_un (by omega)
      · by_cases hjk : j = k
        · subst hjk
          exact ⟨a, ha, by rw [j1 (by omega)]; exact pk_us⟩
        · exact j2 (by omega) (by omega)
    unfold f_X7_isRow_2
    dsimp only
    rw [e1]
    split
    · exact ⟨by dsimp only; omega, fun h => by cases h⟩
    · split
      · split
        · refine step _ ?_
          omega
        · exact ⟨by dsimp only; omega, fun h => by cases h⟩
      · split
        · refine step _ ?_
          omega
        · exact ⟨by dsimp only; omega, fun h => by cases h⟩
theorem isRow_le (mle mpo : Nat) (mtx mnu : zF) {sz : Nat} (h : sz ≤ 4) : (s_X7_isRow mle mpo mtx mnu sz).2.1 ≤ mpo + 12 := by
  have := (row2_ok mle mtx sz sz 0 mpo mnu).1
  show (f_X7_isRow_2 mle mtx sz sz 0 mpo mnu).2.1 ≤ _
  omega
theorem isRow_num {mle mpo : Nat} {mtx mnu : zF} {sz j : Nat} (h : (s_X7_isRow mle mpo mtx mnu sz).1 = true) (hj : j < sz) : ∃ a, a ≤ 99 ∧ (s_X7_isRow mle mpo mtx mnu sz).2.2 j = nI a :=
  ((row2_ok mle mtx sz sz 0 mpo mnu).2 h j).2 (Nat.zero_le _) (by omega)
theorem numC {mle mpo : Nat} {mtx mnu : zF} {u : Bool × Nat × zF} {mrm : Nat} (hu : u = s_X7_isRow mle mpo mtx mnu 2) (h : u.1 = true) (h2 : u.2.2 0 < nI mrm) (hm : mrm < 2 ^ 31) : u.2.2 0 = nI (u.2.2 0).toNatClampNeg ∧ (u.2.2 0).toNatClampNeg < mrm := by
  subst hu
  obtain ⟨a, ha, e⟩ := isRow_num h (show 0 < 2 by decide)
  rw [e] at h2 ⊢
  rw [nI_clamp (by omega)]
  exact ⟨rfl, (nI_ltI (by omega) hm).mp h2⟩
/-! X7_isItem -/
def f_X7_isItem_229 (mrw : Nat) (u165 : Bool × Nat × zF) : Nat → Nat → zF → zF
  | 0, _, mrl9 => mrl9
  | n9 + 1, k, mrl9 => f_X7_isItem_229 mrw u165 n9 (k + 1) (upd mrl9 ((3 * mrw) + k) (u165.2.2 k))
def f_X7_isItem_93 (mrm : Nat) (u36 : Bool × Nat × zF) : Nat → Nat → zF → zF
  | 0, _, mrd9 => mrd9
  | n9 + 1, k, mrd9 => if k = 4 then f_X7_isItem_93 mrm u36 n9 (k + 1) (upd mrd9 ((5 * mrm) + k) (nI 0)) else f_X7_isItem_93 mrm u36 n9 (k + 1) (upd mrd9 ((5 * mrm) + k) (u36.2.2 k))
def s_X7_isItem (mle : Nat) (mpo : Nat) (mrm : Nat) (mrw : Nat) (mrs : Int32) (mtx : zF) (mnu : zF) (mrd : zF) (mrl : zF) : Bool × Nat × Nat × Nat × Int32 × zF × zF × zF := if (s_X7_letterAt mle mtx mpo) = (nI 112) then if 6 ≤ mrm then (false, mpo + 1, mrm + 1, mrw, mrs, mnu, mrd, mrl) else let u36 := s_X7_isRow mle (mpo + 1) mtx mnu 4; if u36.1 = true then if (nI 61) ≤ (u36.2.2 0) then (false, u36.2.1, mrm + 1, mrw, mrs, u36.2.2, mrd, mrl) else if (nI 10) ≤ (u36.2.2 1) then (false, u36.2.1, mrm + 1, mrw, mrs, u36.2.2, mrd, mrl) else if (u36.2.2 2) ≤ (nI 19) then (false, u36.2.1, mrm + 1, mrw, mrs, u36.2.2, mrd, mrl) else if (nI 4) ≤ (u36.2.2 3) then (false, u36.2.1, mrm + 1, mrw, mrs, u36.2.2, mrd, mrl) else (true, u36.2.1, mrm + 1, mrw, mrs, u36.2.2, (f_X7_isItem_93 mrm u36 5 0 mrd), mrl) else (false, u36.2.1, mrm + 1, mrw, mrs, u36.2.2, mrd, mrl) else if (s_X7_letterAt mle mtx mpo) = (nI 119) then if 9 ≤ mrw then (false, mpo + 1, mrm, mrw + 1, mrs, mnu, mrd, mrl) else let u165 := s_X7_isRow mle (mpo + 1) mtx mnu 3; if u165.1 = true then if (nI mrm) ≤ (u165.2.2 0) then (false, u165.2.1, mrm, mrw + 1, mrs, u165.2.2, mrd, mrl) else if (nI mrm) ≤ (u165.2.2 1) then (false, u165.2.1, mrm, mrw + 1, mrs, u165.2.2, mrd, mrl) else if (u165.2.2 0) = (u165.2.2 1) then (false, u165.2.1, mrm, mrw + 1, mrs, u165.2.2, mrd, mrl) else if (u165.2.2 2) ≤ 0 then (false, u165.2.1, mrm, mrw + 1, mrs, u165.2.2, mrd, mrl) else (true, u165.2.1, mrm, mrw + 1, mrs, u165.2.2, mrd, (f_X7_isItem_229 mrw u165 3 0 mrl)) else (false, u165.2.1, mrm, mrw + 1, mrs, u165.2.2, mrd, mrl) else if (s_X7_letterAt mle mtx mpo) = (nI 103) then let u283 := s_X7_isRow mle (mpo + 1) mtx mnu 2; if u283.1 = true then if (u283.2.2 0) < (nI mrm) then (true, u283.2.1, mrm, mrw, mrs, u283.2.2, (upd mrd ((5 * ((u283.2.2 0).toNatClampNeg)) + 4) (u283.2.2 1)), mrl) else (false, u283.2.1, mrm, mrw, mrs, u283.2.2, mrd, mrl) else (false, u283.2.1, mrm, mrw, mrs, u283.2.2, mrd, mrl) else if (s_X7_letterAt mle mtx mpo) = (nI 122) then let u335 := s_X7_isRow mle (mpo + 1) mtx mnu 1; if u335.1 = true then (true, u335.2.1, mrm, mrw, (u335.2.2 0), u335.2.2, mrd, mrl) else (false, u335.2.1, mrm, mrw, mrs, u335.2.2, mrd, mrl) else (false, mpo + 1, mrm, mrw, mrs, mnu, mrd, mrl)
set_option maxHeartbeats 4000000 in
set_option maxRecDepth 100000 in
theorem c_X7_isItem (l : Launch) (D : va_G) (cI cC cJ : ClassId) (m : Nat → Nat) (mle : Nat) (mpo : Nat) (mfa : Nat) (mrm : Nat) (mrw : Nat) (mP : Nat) (mQ : Nat) (mbk : Nat) (mkp : Nat) (msg : Nat) (mwm : Nat) (mrs : Int32) (msd : Int32) (mls : Int32) (mhd : Int32) (mtx : zF) (mnu : zF) (mrd : zF) (mrl : zF) (mpe : zF) (mno : zF) (mbo : zF) (mim : zF) (msi : zF) (mwi : zF) (mon : zF) (mdi : zF) (mco : zF) (mgo : zF) (mbr : zF) (mca : zF) (hml : mle ≤ 200) (hpo : mpo ≤ 250) (hrm : mrm ≤ 6) (hrw : mrw ≤ 9) : zD l yX7_isItem wsX7_isItem rm_X7_isItem D (zT cI cC cJ) [.ref (m 31)] [modW cI m mle mpo mfa mrm mrw mP mQ mbk mkp msg mwm mrs msd mls mhd mtx mnu mrd mrl mpe mno mbo mim msi mwi mon mdi mco mgo mbr mca] (some (.int (zb ((s_X7_isItem mle mpo mrm mrw mrs mtx mnu mrd mrl).1)))) [modW cI m mle ((s_X7_isItem mle mpo mrm mrw mrs mtx mnu mrd mrl).2.1) mfa ((s_X7_isItem mle mpo mrm mrw mrs mtx mnu mrd mrl).2.2.1) ((s_X7_isItem mle mpo mrm mrw mrs mtx mnu mrd mrl).2.2.2.1) mP mQ mbk mkp msg mwm ((s_X7_isItem mle mpo mrm mrw mrs mtx mnu mrd mrl).2.2.2.2.1) msd mls mhd mtx ((s_X7_isItem mle mpo mrm mrw mrs mtx mnu mrd mrl).2.2.2.2.2.1) ((s_X7_isItem mle mpo mrm mrw mrs mtx mnu mrd mrl).2.2.2.2.2.2.1) ((s_X7_isItem mle mpo mrm mrw mrs mtx mnu mrd mrl).2.2.2.2.2.2.2) mpe mno mbo mim msi mwi mon mdi mco mgo mbr mca] := by
  refine zD_int (cc := cX7_isItem) (maxL := 4) (ty := .boolean) (lv := [(0, .ref (m 31))]) (by decide +kernel) rfl (Nat.le_of_ble_eq_true rfl) rfl (fun Z O hret => ?_)
  refine zr_aload_n (pc2 := 1) O dX7_isItem_0 rfl 0 rfl rfl ?_
  refine zr_aload_n (pc2 := 2) O dX7_isItem_1 rfl 0 rfl rfl ?_
  refine zr_getf (v := .int (nI mpo)) (pc2 := 5) O sF_X7_isItem_83 0 0 rfl rfl rfl dX7_isItem_2 rfl ?_
  refine zr_callV (As := [.int (nI mpo)]) (rest := []) (ws2 := [modW cI m mle mpo mfa mrm mrw mP mQ mbk mkp msg mwm mrs msd mls mhd mtx mnu mrd mrl mpe mno mbo mim msi mwi mon mdi mco mgo mbr mca]) (pc2 := 8) (ci := 7) (g0 := 0) (q0 := 0) O (c_X7_letterAt l D cI cC cJ m mle mpo mfa mrm mrw mP mQ mbk mkp msg mwm mrs msd mls mhd mtx mnu mrd mrl mpe mno mbo mim msi mwi mon mdi mco mgo mbr mca mpo (by first | assumption | omega) (by first | assumption | omega)) sC_X7_isItem_86 rfl rfl rfl rfl rfl dX7_isItem_5 [0] rfl rfl rfl rfl (Nat.le_of_ble_eq_true rfl) rfl ?_
  show Z _ _ _ [.int (s_X7_letterAt mle mtx mpo)]
  refine zr_istore_n (lv2 := [(1, .int (s_X7_letterAt mle mtx mpo)), (0, .ref (m 31))]) (pc2 := 9) O dX7_isItem_8 rfl (by decide) rfl rfl ?_
  refine zr_aload_n (pc2 := 10) O dX7_isItem_9 rfl 1 rfl rfl ?_
  refine zr_dup (pc2 := 11) O dX7_isItem_10 rfl rfl ?_
  refine zr_getf (v := .int (nI mpo)) (pc2 := 14) O sF_X7_isItem_83 0 0 rfl rfl rfl dX7_isItem_11 rfl ?_
  refine zr_iconst (v := (nI 1)) (pc2 := 15) O dX7_isItem_14 (by decide +kernel) rfl ?_
  refine zr_iadd (v := (nI (mpo + 1))) (pc2 := 16) O dX7_isItem_15 (nI_add mpo 1) rfl ?_
  refine zr_putf (G2 := modW cI m mle (mpo + 1) mfa mrm mrw mP mQ mbk mkp msg mwm mrs msd mls mhd mtx mnu mrd mrl mpe mno mbo mim msi mwi mon mdi mco mgo mbr mca) (ws2 := [modW cI m mle (mpo + 1) mfa mrm mrw mP mQ mbk mkp msg mwm mrs msd mls mhd mtx mnu mrd mrl mpe mno mbo mim msi mwi mon mdi mco mgo mbr mca]) (pc2 := 19) O sP_X7_isItem_83 0 0 rfl rfl rfl rfl (Nat.le_of_ble_eq_true rfl) dX7_isItem_16 rfl rfl rfl ?_
  refine zr_iload_n (pc2 := 20) O dX7_isItem_19 rfl 0 rfl rfl ?_
  refine zr_bipush (v := (nI 112)) (pc2 := 22) O dX7_isItem_20 (by decide +kernel) rfl ?_
  refine zr_icmp_ne (tgt := 148) (pc2 := 25) O dX7_isItem_22 (by decide) rfl (fun c22 => ?_) (fun c22 => ?_)
  · refine zr_iload_n (pc2 := 149) O dX7_isItem_148 rfl 0 rfl rfl ?_
    refine zr_bipush (v := (nI 119)) (pc2 := 151) O dX7_isItem_149 (by decide +kernel) rfl ?_
    refine zr_icmp_ne (tgt := 275) (pc2 := 154) O dX7_isItem_151 (by decide) rfl (fun c151 => ?_) (fun c151 => ?_)
    · refine zr_iload_n (pc2 := 276) O dX7_isItem_275 rfl 0 rfl rfl ?_
      refine zr_bipush (v := (nI 103)) (pc2 := 278) O dX7_isItem_276 (by decide +kernel) rfl ?_
      refine zr_icmp_ne (tgt := 327) (pc2 := 281) O dX7_isItem_278 (by decide) rfl (fun c278 => ?_) (fun c278 => ?_)
      · refine zr_iload_n (pc2 := 328) O dX7_isItem_327 rfl 0 rfl rfl ?_
        refine zr_bipush (v := (nI 122)) (pc2 := 330) O dX7_isItem_328 (by decide +kernel) rfl ?_
        refine zr_icmp_ne (tgt := 341) (pc2 := 333) O dX7_isItem_330 (by decide) rfl (fun c330 => ?_) (fun c330 => ?_)
        · refine zr_iconst (v := (nI 0)) (pc2 := 342) O dX7_isItem_341 (by decide +kernel) rfl ?_
          have hE : s_X7_isItem mle mpo mrm mrw mrs mtx mnu mrd mrl = (false, mpo + 1, mrm, mrw, mrs, mnu, mrd, mrl) := by exact ((if_neg c22).trans ((if_neg c151).trans ((if_neg c278).trans (if_neg c330))))
          exact hret _ _ _ _ dX7_isItem_342 (by decide +kernel) (by rw [hE]; rfl) (by rw [hE])
        · refine zr_aload_n (pc2 := 334) O dX7_isItem_333 rfl 1 rfl rfl ?_
          refine zr_iconst (v := (nI 1)) (pc2 := 335) O dX7_isItem_334 (by decide +kernel) rfl ?_
          obtain ⟨u335, hu335⟩ : ∃ z9, z9 = s_X7_isRow mle (mpo + 1) mtx mnu 1 := ⟨_, rfl⟩
          refine zr_callV (As := [.int (nI 1)]) (rest := []) (ws2 := [modW cI m mle u335.2.1 mfa mrm mrw mP mQ mbk mkp msg mwm mrs msd mls mhd mtx u335.2.2 mrd mrl mpe mno mbo mim msi mwi mon mdi mco mgo mbr mca]) (pc2 := 338) (ci := 7) (g0 := 0) (q0 := 0) (v := (some (.int (zb u335.1)))) (W := [modW cI m mle (mpo + 1) mfa mrm mrw mP mQ mbk mkp msg mwm mrs msd mls mhd mtx mnu mrd mrl mpe mno mbo mim msi mwi mon mdi mco mgo mbr mca]) (W2 := [modW cI m mle u335.2.1 mfa mrm mrw mP mQ mbk mkp msg mwm mrs msd mls mhd mtx u335.2.2 mrd mrl mpe mno mbo mim msi mwi mon mdi mco mgo mbr mca]) O (by rw [hu335]; exact (c_X7_isRow l D cI cC cJ m mle (mpo + 1) mfa mrm mrw mP mQ mbk mkp msg mwm mrs msd mls mhd mtx mnu mrd mrl mpe mno mbo mim msi mwi mon mdi mco mgo mbr mca 1 hml (by omega) (by decide))) sC_X7_isItem_93 rfl rfl rfl rfl rfl dX7_isItem_335 [0] rfl rfl rfl rfl (Nat.le_of_ble_eq_true rfl) rfl ?_
          show Z _ _ _ [.int (zb u335.1)]
          refine zb_if_ne (tgt := 343) (pc2 := 341) O dX7_isItem_338 (by decide) rfl (fun c338 => ?_) (fun c338 => ?_)
          · refine zr_aload_n (pc2 := 344) O dX7_isItem_343 rfl 1 rfl rfl ?_
            refine zr_aload_n (pc2 := 345) O dX7_isItem_344 rfl 1 rfl rfl ?_
            refine zr_getf (v := .ref (m 3)) (pc2 := 348) O sF_X7_isItem_13 0 0 rfl rfl rfl dX7_isItem_345 rfl ?_
            refine zr_iconst (v := (nI 0)) (pc2 := 349) O dX7_isItem_348 (by decide +kernel) rfl ?_
            refine zn_iald (j := 0) (pc2 := 350) O 0 2 0 rfl rfl rfl rfl (by omega) (by decide) dX7_isItem_349 rfl ?_
            refine zr_putf (G2 := modW cI m mle u335.2.1 mfa mrm mrw mP mQ mbk mkp msg mwm (u335.2.2 0) msd mls mhd mtx u335.2.2 mrd mrl mpe mno mbo mim msi mwi mon mdi mco mgo mbr mca) (ws2 := [modW cI m mle u335.2.1 mfa mrm mrw mP mQ mbk mkp msg mwm (u335.2.2 0) msd mls mhd mtx u335.2.2 mrd mrl mpe mno mbo mim msi mwi mon mdi mco mgo mbr mca]) (pc2 := 353) O sP_X7_isItem_100 0 0 rfl rfl rfl rfl (Nat.le_of_ble_eq_true rfl) dX7_isItem_350 rfl rfl rfl ?_
            refine zr_iconst (v := (nI 1)) (pc2 := 354) O dX7_isItem_353 (by decide +kernel) rfl ?_
            have hE : s_X7_isItem mle mpo mrm mrw mrs mtx mnu mrd mrl = (true, u335.2.1, mrm, mrw, (u335.2.2 0), u335.2.2, mrd, mrl) := by subst hu335; exact ((if_neg c22).trans ((if_neg c151).trans ((if_neg c278).trans ((if_pos c330).trans (zif_t c338)))))
            exact hret _ _ _ _ dX7_isItem_354 (by decide +kernel) (by rw [hE]; rfl) (by rw [hE])
          · refine zr_iconst (v := (nI 0)) (pc2 := 342) O dX7_isItem_341 (by decide +kernel) rfl ?_
            have hE : s_X7_isItem mle mpo mrm mrw mrs mtx mnu mrd mrl = (false, u335.2.1, mrm, mrw, mrs, u335.2.2, mrd, mrl) := by subst hu335; exact ((if_neg c22).trans ((if_neg c151).trans ((if_neg c278).trans ((if_pos c330).trans (zif_f c338)))))
            exact hret _ _ _ _ dX7_isItem_342 (by decide +kernel) (by rw [hE]; rfl) (by rw [hE])
      · refine zr_aload_n (pc2 := 282) O dX7_isItem_281 rfl 1 rfl rfl ?_
        refine zr_iconst (v := (nI 2)) (pc2 := 283) O dX7_isItem_282 (by decide +kernel) rfl ?_
        obtain ⟨u283, hu283⟩ : ∃ z9, z9 = s_X7_isRow mle (mpo + 1) mtx mnu 2 := ⟨_, rfl⟩
        refine zr_callV (As := [.int (nI 2)]) (rest := []) (ws2 := [modW cI m mle u283.2.1 mfa mrm mrw mP mQ mbk mkp msg mwm mrs msd mls mhd mtx u283.2.2 mrd mrl mpe mno mbo mim msi mwi mon mdi mco mgo mbr mca]) (pc2 := 286) (ci := 7) (g0 := 0) (q0 := 0) (v := (some (.int (zb u283.1)))) (W := [modW cI m mle (mpo + 1) mfa mrm mrw mP mQ mbk mkp msg mwm mrs msd mls mhd mtx mnu mrd mrl mpe mno mbo mim msi mwi mon mdi mco mgo mbr mca]) (W2 := [modW cI m mle u283.2.1 mfa mrm mrw mP mQ mbk mkp msg mwm mrs msd mls mhd mtx u283.2.2 mrd mrl mpe mno mbo mim msi mwi mon mdi mco mgo mbr mca]) O (by rw [hu283]; exact (c_X7_isRow l D cI cC cJ m mle (mpo + 1) mfa mrm mrw mP mQ mbk mkp msg mwm mrs msd mls mhd mtx mnu mrd mrl mpe mno mbo mim msi mwi mon mdi mco mgo mbr mca 2 hml (by omega) (by decide))) sC_X7_isItem_93 rfl rfl rfl rfl rfl dX7_isItem_283 [0] rfl rfl rfl rfl (Nat.le_of_ble_eq_true rfl) rfl ?_
        show Z _ _ _ [.int (zb u283.1)]
        refine zb_if_eq (tgt := 302) (pc2 := 289) O dX7_isItem_286 (by decide) rfl (fun c286 => ?_) (fun c286 => ?_)
        · refine zr_iconst (v := (nI 0)) (pc2 := 303) O dX7_isItem_302 (by decide +kernel) rfl ?_
          have hE : s_X7_isItem mle mpo mrm mrw mrs mtx mnu mrd mrl = (false, u283.2.1, mrm, mrw, mrs, u283.2.2, mrd, mrl) := by subst hu283; exact ((if_neg c22).trans ((if_neg c151).trans ((if_pos c278).trans (zif_f c286))))
          exact hret _ _ _ _ dX7_isItem_303 (by decide +kernel) (by rw [hE]; rfl) (by rw [hE])
        · refine zr_aload_n (pc2 := 290) O dX7_isItem_289 rfl 1 rfl rfl ?_
          refine zr_getf (v := .ref (m 3)) (pc2 := 293) O sF_X7_isItem_13 0 0 rfl rfl rfl dX7_isItem_290 rfl ?_
          refine zr_iconst (v := (nI 0)) (pc2 := 294) O dX7_isItem_293 (by decide +kernel) rfl ?_
          refine zn_iald (j := 0) (pc2 := 295) O 0 2 0 rfl rfl rfl rfl (by omega) (by decide) dX7_isItem_294 rfl ?_
          refine zr_aload_n (pc2 := 296) O dX7_isItem_295 rfl 1 rfl rfl ?_
          refine zr_getf (v := .int (nI mrm)) (pc2 := 299) O sF_X7_isItem_90 0 0 rfl rfl rfl dX7_isItem_296 rfl ?_
          refine zr_icmp_lt (tgt := 304) (pc2 := 302) O dX7_isItem_299 (by decide) rfl (fun c299 => ?_) (fun c299 => ?_)
          · refine zr_aload_n (pc2 := 305) O dX7_isItem_304 rfl 1 rfl rfl ?_
            refine zr_getf (v := .ref (m 7)) (pc2 := 308) O sF_X7_isItem_16 0 0 rfl rfl rfl dX7_isItem_305 rfl ?_
            refine zr_iconst (v := (nI 5)) (pc2 := 309) O dX7_isItem_308 (by decide +kernel) rfl ?_
            refine zr_aload_n (pc2 := 310) O dX7_isItem_309 rfl 1 rfl rfl ?_
            refine zr_getf (v := .ref (m 3)) (pc2 := 313) O sF_X7_isItem_13 0 0 rfl rfl rfl dX7_isItem_310 rfl ?_
            refine zr_iconst (v := (nI 0)) (pc2 := 314) O dX7_isItem_313 (by decide +kernel) rfl ?_
            refine zn_iald (j := 0) (pc2 := 315) O 0 2 0 rfl rfl rfl rfl (by omega) (by decide) dX7_isItem_314 rfl ?_
            have hc9 := (numC hu283 c286 c299 (by omega))
            rw [hc9.1]
            refine zr_imul (v := (nI (5 * ((u283.2.2 0).toNatClampNeg)))) (pc2 := 316) O dX7_isItem_315 (pk_mul 5 ((u283.2.2 0).toNatClampNeg)) rfl ?_
            refine zr_iconst (v := (nI 4)) (pc2 := 317) O dX7_isItem_316 (by decide +kernel) rfl ?_
            refine zr_iadd (v := (nI ((5 * ((u283.2.2 0).toNatClampNeg)) + 4))) (pc2 := 318) O dX7_isItem_317 (nI_add (5 * ((u283.2.2 0).toNatClampNeg)) 4) rfl ?_
            refine zr_aload_n (pc2 := 319) O dX7_isItem_318 rfl 1 rfl rfl ?_
            refine zr_getf (v := .ref (m 3)) (pc2 := 322) O sF_X7_isItem_13 0 0 rfl rfl rfl dX7_isItem_319 rfl ?_
            refine zr_iconst (v := (nI 1)) (pc2 := 323) O dX7_isItem_322 (by decide +kernel) rfl ?_
            refine zn_iald (j := 1) (pc2 := 324) O 0 2 0 rfl rfl rfl rfl (by omega) (by decide) dX7_isItem_323 rfl ?_
            refine zn_iast (j := ((5 * ((u283.2.2 0).toNatClampNeg)) + 4)) (G2 := modW cI m mle u283.2.1 mfa mrm mrw mP mQ mbk mkp msg mwm mrs msd mls mhd mtx u283.2.2 (upd mrd ((5 * ((u283.2.2 0).toNatClampNeg)) + 4) (u283.2.2 1)) mrl mpe mno mbo mim msi mwi mon mdi mco mgo mbr mca) (ws2 := [modW cI m mle u283.2.1 mfa mrm mrw mP mQ mbk mkp msg mwm mrs msd mls mhd mtx u283.2.2 (upd mrd ((5 * ((u283.2.2 0).toNatClampNeg)) + 4) (u283.2.2 1)) mrl mpe mno mbo mim msi mwi mon mdi mco mgo mbr mca]) (pc2 := 325) O 0 3 0 rfl rfl rfl rfl (by omega) (by decide) dX7_isItem_324 rfl rfl rfl ?_
            refine zr_iconst (v := (nI 1)) (pc2 := 326) O dX7_isItem_325 (by decide +kernel) rfl ?_
            have hE : s_X7_isItem mle mpo mrm mrw mrs mtx mnu mrd mrl = (true, u283.2.1, mrm, mrw, mrs, u283.2.2, (upd mrd ((5 * ((u283.2.2 0).toNatClampNeg)) + 4) (u283.2.2 1)), mrl) := by subst hu283; exact ((if_neg c22).trans ((if_neg c151).trans ((if_pos c278).trans ((zif_t c286).trans (if_pos c299)))))
            exact hret _ _ _ _ dX7_isItem_326 (by decide +kernel) (by rw [hE]; rfl) (by rw [hE])
          · refine zr_iconst (v := (nI 0)) (pc2 := 303) O dX7_isItem_302 (by decide +kernel) rfl ?_
            have hE : s_X7_isItem mle mpo mrm mrw mrs mtx mnu mrd mrl = (false, u283.2.1, mrm, mrw, mrs, u283.2.2, mrd, mrl) := by subst hu283; exact ((if_neg c22).trans ((if_neg c151).trans ((if_pos c278).trans ((zif_t c286).trans (if_neg c299)))))
            exact hret _ _ _ _ dX7_isItem_303 (by decide +kernel) (by rw [hE]; rfl) (by rw [hE])
    · refine zr_aload_n (pc2 := 155) O dX7_isItem_154 rfl 1 rfl rfl ?_
      refine zr_getf (v := .int (nI mrw)) (pc2 := 158) O sF_X7_isItem_97 0 0 rfl rfl rfl dX7_isItem_155 rfl ?_
      refine zr_bipush (v := (nI 9)) (pc2 := 160) O dX7_isItem_158 (by decide +kernel) rfl ?_
      refine zn_icmp_ge (tgt := 225) (pc2 := 163) O dX7_isItem_160 (by decide) rfl (by omega) (by omega) (fun c160 => ?_) (fun c160 => ?_)
      · refine zr_iconst (v := (nI 0)) (pc2 := 226) O dX7_isItem_225 (by decide +kernel) rfl ?_
        refine zr_istore_n (lv2 := [(2, .int (nI 0)), (1, .int (s_X7_letterAt mle mtx mpo)), (0, .ref (m 31))]) (pc2 := 227) O dX7_isItem_226 rfl (by decide) rfl rfl ?_
        refine zr_iconst (v := (nI 0)) (pc2 := 228) O dX7_isItem_227 (by decide +kernel) rfl ?_
        refine zr_istore_n (lv2 := [(3, .int (nI 0)), (2, .int (nI 0)), (1, .int (s_X7_letterAt mle mtx mpo)), (0, .ref (m 31))]) (pc2 := 229) O dX7_isItem_228 rfl (by decide) rfl rfl ?_
        refine zr_iload_n (pc2 := 230) O dX7_isItem_229 rfl 0 rfl rfl ?_
        refine zr_iconst (v := (nI 3)) (pc2 := 231) O dX7_isItem_230 (by decide +kernel) rfl ?_
        refine zn_icmp_ge (tgt := 263) (pc2 := 234) O dX7_isItem_231 (by decide) rfl (by omega) (by omega) (fun c231 => ?_) (fun c231 => ?_)
        · exact absurd c231 (by decide)
        · refine zr_iload_n (pc2 := 235) O dX7_isItem_234 rfl 1 rfl rfl ?_
          refine zn_if_eq (tgt := 263) (pc2 := 238) O dX7_isItem_235 (by decide) rfl (by omega) (fun c235 => ?_) (fun c235 => ?_)
          · refine zr_aload_n (pc2 := 264) O dX7_isItem_263 rfl 3 rfl rfl ?_
            refine zr_dup (pc2 := 265) O dX7_isItem_264 rfl rfl ?_
            refine zr_getf (v := .int (nI mrw)) (pc2 := 268) O sF_X7_isItem_97 0 0 rfl rfl rfl dX7_isItem_265 rfl ?_
            refine zr_iconst (v := (nI 1)) (pc2 := 269) O dX7_isItem_268 (by decide +kernel) rfl ?_
            refine zr_iadd (v := (nI (mrw + 1))) (pc2 := 270) O dX7_isItem_269 (nI_add mrw 1) rfl ?_
            refine zr_putf (G2 := modW cI m mle (mpo + 1) mfa mrm (mrw + 1) mP mQ mbk mkp msg mwm mrs msd mls mhd mtx mnu mrd mrl mpe mno mbo mim msi mwi mon mdi mco mgo mbr mca) (ws2 := [modW cI m mle (mpo + 1) mfa mrm (mrw + 1) mP mQ mbk mkp msg mwm mrs msd mls mhd mtx mnu mrd mrl mpe mno mbo mim msi mwi mon mdi mco mgo mbr mca]) (pc2 := 273) O sP_X7_isItem_97 0 0 rfl rfl rfl rfl (Nat.le_of_ble_eq_true rfl) dX7_isItem_270 rfl rfl rfl ?_
            refine zr_iload_n (pc2 := 274) O dX7_isItem_273 rfl 1 rfl rfl ?_
            have hE : s_X7_isItem mle mpo mrm mrw mrs mtx mnu mrd mrl = (false, mpo + 1, mrm, mrw + 1, mrs, mnu, mrd, mrl) := by exact ((if_neg c22).trans ((if_pos c151).trans (if_pos c160)))
            exact hret _ _ _ _ dX7_isItem_274 (by decide +kernel) (by rw [hE]; rfl) (by rw [hE])
          · exact absurd c235 (by decide)
      · refine zr_aload_n (pc2 := 164) O dX7_isItem_163 rfl 1 rfl rfl ?_
        refine zr_iconst (v := (nI 3)) (pc2 := 165) O dX7_isItem_164 (by decide +kernel) rfl ?_
        obtain ⟨u165, hu165⟩ : ∃ z9, z9 = s_X7_isRow mle (mpo + 1) mtx mnu 3 := ⟨_, rfl⟩
        refine zr_callV (As := [.int (nI 3)]) (rest := []) (ws2 := [modW cI m mle u165.2.1 mfa mrm mrw mP mQ mbk mkp msg mwm mrs msd mls mhd mtx u165.2.2 mrd mrl mpe mno mbo mim msi mwi mon mdi mco mgo mbr mca]) (pc2 := 168) (ci := 7) (g0 := 0) (q0 := 0) (v := (some (.int (zb u165.1)))) (W := [modW cI m mle (mpo + 1) mfa mrm mrw mP mQ mbk mkp msg mwm mrs msd mls mhd mtx mnu mrd mrl mpe mno mbo mim msi mwi mon mdi mco mgo mbr mca]) (W2 := [modW cI m mle u165.2.1 mfa mrm mrw mP mQ mbk mkp msg mwm mrs msd mls mhd mtx u165.2.2 mrd mrl mpe mno mbo mim msi mwi mon mdi mco mgo mbr mca]) O (by rw [hu165]; exact (c_X7_isRow l D cI cC cJ m mle (mpo + 1) mfa mrm mrw mP mQ mbk mkp msg mwm mrs msd mls mhd mtx mnu mrd mrl mpe mno mbo mim msi mwi mon mdi mco mgo mbr mca 3 hml (by omega) (by decide))) sC_X7_isItem_93 rfl rfl rfl rfl rfl dX7_isItem_165 [0] rfl rfl rfl rfl (Nat.le_of_ble_eq_true rfl) rfl ?_
        show Z _ _ _ [.int (zb u165.1)]
        refine zb_if_eq (tgt := 225) (pc2 := 171) O dX7_isItem_168 (by decide) rfl (fun c168 => ?_) (fun c168 => ?_)
        · refine zr_iconst (v := (nI 0)) (pc2 := 226) O dX7_isItem_225 (by decide +kernel) rfl ?_
          refine zr_istore_n (lv2 := [(2, .int (nI 0)), (1, .int (s_X7_letterAt mle mtx mpo)), (0, .ref (m 31))]) (pc2 := 227) O dX7_isItem_226 rfl (by decide) rfl rfl ?_
          refine zr_iconst (v := (nI 0)) (pc2 := 228) O dX7_isItem_227 (by decide +kernel) rfl ?_
          refine zr_istore_n (lv2 := [(3, .int (nI 0)), (2, .int (nI 0)), (1, .int (s_X7_letterAt mle mtx mpo)), (0, .ref (m 31))]) (pc2 := 229) O dX7_isItem_228 rfl (by decide) rfl rfl ?_
          refine zr_iload_n (pc2 := 230) O dX7_isItem_229 rfl 0 rfl rfl ?_
          refine zr_iconst (v := (nI 3)) (pc2 := 231) O dX7_isItem_230 (by decide +kernel) rfl ?_
          refine zn_icmp_ge (tgt := 263) (pc2 := 234) O dX7_isItem_231 (by decide) rfl (by omega) (by omega) (fun c231 => ?_) (fun c231 => ?_)
          · exact absurd c231 (by decide)
          · refine zr_iload_n (pc2 := 235) O dX7_isItem_234 rfl 1 rfl rfl ?_
            refine zn_if_eq (tgt := 263) (pc2 := 238) O dX7_isItem_235 (by decide) rfl (by omega) (fun c235 => ?_) (fun c235 => ?_)
            · refine zr_aload_n (pc2 := 264) O dX7_isItem_263 rfl 3 rfl rfl ?_
              refine zr_dup (pc2 := 265) O dX7_isItem_264 rfl rfl ?_
              refine zr_getf (v := .int (nI mrw)) (pc2 := 268) O sF_X7_isItem_97 0 0 rfl rfl rfl dX7_isItem_265 rfl ?_
              refine zr_iconst (v := (nI 1)) (pc2 := 269) O dX7_isItem_268 (by decide +kernel) rfl ?_
              refine zr_iadd (v := (nI (mrw + 1))) (pc2 := 270) O dX7_isItem_269 (nI_add mrw 1) rfl ?_
              refine zr_putf (G2 := modW cI m mle u165.2.1 mfa mrm (mrw + 1) mP mQ mbk mkp msg mwm mrs msd mls mhd mtx u165.2.2 mrd mrl mpe mno mbo mim msi mwi mon mdi mco mgo mbr mca) (ws2 := [modW cI m mle u165.2.1 mfa mrm (mrw + 1) mP mQ mbk mkp msg mwm mrs msd mls mhd mtx u165.2.2 mrd mrl mpe mno mbo mim msi mwi mon mdi mco mgo mbr mca]) (pc2 := 273) O sP_X7_isItem_97 0 0 rfl rfl rfl rfl (Nat.le_of_ble_eq_true rfl) dX7_isItem_270 rfl rfl rfl ?_
              refine zr_iload_n (pc2 := 274) O dX7_isItem_273 rfl 1 rfl rfl ?_
              have hE : s_X7_isItem mle mpo mrm mrw mrs mtx mnu mrd mrl = (false, u165.2.1, mrm, mrw + 1, mrs, u165.2.2, mrd, mrl) := by subst hu165; exact ((if_neg c22).trans ((if_pos c151).trans ((if_neg c160).trans (zif_f c168))))
              exact hret _ _ _ _ dX7_isItem_274 (by decide +kernel) (by rw [hE]; rfl) (by rw [hE])
            · exact absurd c235 (by decide)
        · refine zr_aload_n (pc2 := 172) O dX7_isItem_171 rfl 1 rfl rfl ?_
          refine zr_getf (v := .ref (m 3)) (pc2 := 175) O sF_X7_isItem_13 0 0 rfl rfl rfl dX7_isItem_172 rfl ?_
          refine zr_iconst (v := (nI 0)) (pc2 := 176) O dX7_isItem_175 (by decide +kernel) rfl ?_
          refine zn_iald (j := 0) (pc2 := 177) O 0 2 0 rfl rfl rfl rfl (by omega) (by decide) dX7_isItem_176 rfl ?_
          refine zr_aload_n (pc2 := 178) O dX7_isItem_177 rfl 1 rfl rfl ?_
          refine zr_getf (v := .int (nI mrm)) (pc2 := 181) O sF_X7_isItem_90 0 0 rfl rfl rfl dX7_isItem_178 rfl ?_
          refine zr_icmp_ge (tgt := 225) (pc2 := 184) O dX7_isItem_181 (by decide) rfl (fun c181 => ?_) (fun c181 => ?_)
          · refine zr_iconst (v := (nI 0)) (pc2 := 226) O dX7_isItem_225 (by decide +kernel) rfl ?_
            refine zr_istore_n (lv2 := [(2, .int (nI 0)), (1, .int (s_X7_letterAt mle mtx mpo)), (0, .ref (m 31))]) (pc2 := 227) O dX7_isItem_226 rfl (by decide) rfl rfl ?_
            refine zr_iconst (v := (nI 0)) (pc2 := 228) O dX7_isItem_227 (by decide +kernel) rfl ?_
            refine zr_istore_n (lv2 := [(3, .int (nI 0)), (2, .int (nI 0)), (1, .int (s_X7_letterAt mle mtx mpo)), (0, .ref (m 31))]) (pc2 := 229) O dX7_isItem_228 rfl (by decide) rfl rfl ?_
            refine zr_iload_n (pc2 := 230) O dX7_isItem_229 rfl 0 rfl rfl ?_
            refine zr_iconst (v := (nI 3)) (pc2 := 231) O dX7_isItem_230 (by decide +kernel) rfl ?_
            refine zn_icmp_ge (tgt := 263) (pc2 := 234) O dX7_isItem_231 (by decide) rfl (by omega) (by omega) (fun c231 => ?_) (fun c231 => ?_)
            · exact absurd c231 (by decide)
            · refine zr_iload_n (pc2 := 235) O dX7_isItem_234 rfl 1 rfl rfl ?_
              refine zn_if_eq (tgt := 263) (pc2 := 238) O dX7_isItem_235 (by decide) rfl (by omega) (fun c235 => ?_) (fun c235 => ?_)
              · refine zr_aload_n (pc2 := 264) O dX7_isItem_263 rfl 3 rfl rfl ?_
                refine zr_dup (pc2 := 265) O dX7_isItem_264 rfl rfl ?_
                refine zr_getf (v := .int (nI mrw)) (pc2 := 268) O sF_X7_isItem_97 0 0 rfl rfl rfl dX7_isItem_265 rfl ?_
                refine zr_iconst (v := (nI 1)) (pc2 := 269) O dX7_isItem_268 (by decide +kernel) rfl ?_
                refine zr_iadd (v := (nI (mrw + 1))) (pc2 := 270) O dX7_isItem_269 (nI_add mrw 1) rfl ?_
                refine zr_putf (G2 := modW cI m mle u165.2.1 mfa mrm (mrw + 1) mP mQ mbk mkp msg mwm mrs msd mls mhd mtx u165.2.2 mrd mrl mpe mno mbo mim msi mwi mon mdi mco mgo mbr mca) (ws2 := [modW cI m mle u165.2.1 mfa mrm (mrw + 1) mP mQ mbk mkp msg mwm mrs msd mls mhd mtx u165.2.2 mrd mrl mpe mno mbo mim msi mwi mon mdi mco mgo mbr mca]) (pc2 := 273) O sP_X7_isItem_97 0 0 rfl rfl rfl rfl (Nat.le_of_ble_eq_true rfl) dX7_isItem_270 rfl rfl rfl ?_
                refine zr_iload_n (pc2 := 274) O dX7_isItem_273 rfl 1 rfl rfl ?_
                have hE : s_X7_isItem mle mpo mrm mrw mrs mtx mnu mrd mrl = (false, u165.2.1, mrm, mrw + 1, mrs, u165.2.2, mrd, mrl) := by subst hu165; exact ((if_neg c22).trans ((if_pos c151).trans ((if_neg c160).trans ((zif_t c168).trans (if_pos c181)))))
                exact hret _ _ _ _ dX7_isItem_274 (by decide +kernel) (by rw [hE]; rfl) (by rw [hE])
              · exact absurd c235 (by decide)
          · refine zr_aload_n (pc2 := 185) O dX7_isItem_184 rfl 1 rfl rfl ?_
            refine zr_getf (v := .ref (m 3)) (pc2 := 188) O sF_X7_isItem_13 0 0 rfl rfl rfl dX7_isItem_185 rfl ?_
            refine zr_iconst (v := (nI 1)) (pc2 := 189) O dX7_isItem_188 (by decide +kernel) rfl ?_
            refine zn_iald (j := 1) (pc2 := 190) O 0 2 0 rfl rfl rfl rfl (by omega) (by decide) dX7_isItem_189 rfl ?_
            refine zr_aload_n (pc2 := 191) O dX7_isItem_190 rfl 1 rfl rfl ?_
            refine zr_getf (v := .int (nI mrm)) (pc2 := 194) O sF_X7_isItem_90 0 0 rfl rfl rfl dX7_isItem_191 rfl ?_
            refine zr_icmp_ge (tgt := 225) (pc2 := 197) O dX7_isItem_194 (by decide) rfl (fun c194 => ?_) (fun c194 => ?_)
            · refine zr_iconst (v := (nI 0)) (pc2 := 226) O dX7_isItem_225 (by decide +kernel) rfl ?_
              refine zr_istore_n (lv2 := [(2, .int (nI 0)), (1, .int (s_X7_letterAt mle mtx mpo)), (0, .ref (m 31))]) (pc2 := 227) O dX7_isItem_226 rfl (by decide) rfl rfl ?_
              refine zr_iconst (v := (nI 0)) (pc2 := 228) O dX7_isItem_227 (by decide +kernel) rfl ?_
              refine zr_istore_n (lv2 := [(3, .int (nI 0)), (2, .int (nI 0)), (1, .int (s_X7_letterAt mle mtx mpo)), (0, .ref (m 31))]) (pc2 := 229) O dX7_isItem_228 rfl (by decide) rfl rfl ?_
              refine zr_iload_n (pc2 := 230) O dX7_isItem_229 rfl 0 rfl rfl ?_
              refine zr_iconst (v := (nI 3)) (pc2 := 231) O dX7_isItem_230 (by decide +kernel) rfl ?_
              refine zn_icmp_ge (tgt := 263) (pc2 := 234) O dX7_isItem_231 (by decide) rfl (by omega) (by omega) (fun c231 => ?_) (fun c231 => ?_)
              · exact absurd c231 (by decide)
              · refine zr_iload_n (pc2 := 235) O dX7_isItem_234 rfl 1 rfl rfl ?_
                refine zn_if_eq (tgt := 263) (pc2 := 238) O dX7_isItem_235 (by decide) rfl (by omega) (fun c235 => ?_) (fun c235 => ?_)
                · refine zr_aload_n (pc2 := 264) O dX7_isItem_263 rfl 3 rfl rfl ?_
                  refine zr_dup (pc2 := 265) O dX7_isItem_264 rfl rfl ?_
                  refine zr_getf (v := .int (nI mrw)) (pc2 := 268) O sF_X7_isItem_97 0 0 rfl rfl rfl dX7_isItem_265 rfl ?_
                  refine zr_iconst (v := (nI 1)) (pc2 := 269) O dX7_isItem_268 (by decide +kernel) rfl ?_
                  refine zr_iadd (v := (nI (mrw + 1))) (pc2 := 270) O dX7_isItem_269 (nI_add mrw 1) rfl ?_
                  refine zr_putf (G2 := modW cI m mle u165.2.1 mfa mrm (mrw + 1) mP mQ mbk mkp msg mwm mrs msd mls mhd mtx u165.2.2 mrd mrl mpe mno mbo mim msi mwi mon mdi mco mgo mbr mca) (ws2 := [modW cI m mle u165.2.1 mfa mrm (mrw + 1) mP mQ mbk mkp msg mwm mrs msd mls mhd mtx u165.2.2 mrd mrl mpe mno mbo mim msi mwi mon mdi mco mgo mbr mca]) (pc2 := 273) O sP_X7_isItem_97 0 0 rfl rfl rfl rfl (Nat.le_of_ble_eq_true rfl) dX7_isItem_270 rfl rfl rfl ?_
                  refine zr_iload_n (pc2 := 274) O dX7_isItem_273 rfl 1 rfl rfl ?_
                  have hE : s_X7_isItem mle mpo mrm mrw mrs mtx mnu mrd mrl = (false, u165.2.1, mrm, mrw + 1, mrs, u165.2.2, mrd, mrl) := by subst hu165; exact ((if_neg c22).trans ((if_pos c151).trans ((if_neg c160).trans ((zif_t c168).trans ((if_neg c181).trans (if_pos c194))))))
                  exact hret _ _ _ _ dX7_isItem_274 (by decide +kernel) (by rw [hE]; rfl) (by rw [hE])
                · exact absurd c235 (by decide)
            · refine zr_aload_n (pc2 := 198) O dX7_isItem_197 rfl 1 rfl rfl ?_
              refine zr_getf (v := .ref (m 3)) (pc2 := 201) O sF_X7_isItem_13 0 0 rfl rfl rfl dX7_isItem_198 rfl ?_
              refine zr_iconst (v := (nI 0)) (pc2 := 202) O dX7_isItem_201 (by decide +kernel) rfl ?_
              refine zn_iald (j := 0) (pc2 := 203) O 0 2 0 rfl rfl rfl rfl (by omega) (by decide) dX7_isItem_202 rfl ?_
              refine zr_aload_n (pc2 := 204) O dX7_isItem_203 rfl 1 rfl rfl ?_
              refine zr_getf (v := .ref (m 3)) (pc2 := 207) O sF_X7_isItem_13 0 0 rfl rfl rfl dX7_isItem_204 rfl ?_
              refine zr_iconst (v := (nI 1)) (pc2 := 208) O dX7_isItem_207 (by decide +kernel) rfl ?_
              refine zn_iald (j := 1) (pc2 := 209) O 0 2 0 rfl rfl rfl rfl (by omega) (by decide) dX7_isItem_208 rfl ?_
              refine zr_icmp_eq (tgt := 225) (pc2 := 212) O dX7_isItem_209 (by decide) rfl (fun c209 => ?_) (fun c209 => ?_)
              · refine zr_iconst (v := (nI 0)) (pc2 := 226) O dX7_isItem_225 (by decide +kernel) rfl ?_
                refine zr_istore_n (lv2 := [(2, .int (nI 0)), (1, .int (s_X7_letterAt mle mtx mpo)), (0, .ref (m 31))]) (pc2 := 227) O dX7_isItem_226 rfl (by decide) rfl rfl ?_
                refine zr_iconst (v := (nI 0)) (pc2 := 228) O dX7_isItem_227 (by decide +kernel) rfl ?_
                refine zr_istore_n (lv2 := [(3, .int (nI 0)), (2, .int (nI 0)), (1, .int (s_X7_letterAt mle mtx mpo)), (0, .ref (m 31))]) (pc2 := 229) O dX7_isItem_228 rfl (by decide) rfl rfl ?_
                refine zr_iload_n (pc2 := 230) O dX7_isItem_229 rfl 0 rfl rfl ?_
                refine zr_iconst (v := (nI 3)) (pc2 := 231) O dX7_isItem_230 (by decide +kernel) rfl ?_
                refine zn_icmp_ge (tgt := 263) (pc2 := 234) O dX7_isItem_231 (by decide) rfl (by omega) (by omega) (fun c231 => ?_) (fun c231 => ?_)
                · exact absurd c231 (by decide)
                · refine zr_iload_n (pc2 := 235) O dX7_isItem_234 rfl 1 rfl rfl ?_
                  refine zn_if_eq (tgt := 263) (pc2 := 238) O dX7_isItem_235 (by decide) rfl (by omega) (fun c235 => ?_) (fun c235 => ?_)
                  · refine zr_aload_n (pc2 := 264) O dX7_isItem_263 rfl 3 rfl rfl ?_
                    refine zr_dup (pc2 := 265) O dX7_isItem_264 rfl rfl ?_
                    refine zr_getf (v := .int (nI mrw)) (pc2 := 268) O sF_X7_isItem_97 0 0 rfl rfl rfl dX7_isItem_265 rfl ?_
                    refine zr_iconst (v := (nI 1)) (pc2 := 269) O dX7_isItem_268 (by decide +kernel) rfl ?_
                    refine zr_iadd (v := (nI (mrw + 1))) (pc2 := 270) O dX7_isItem_269 (nI_add mrw 1) rfl ?_
                    refine zr_putf (G2 := modW cI m mle u165.2.1 mfa mrm (mrw + 1) mP mQ mbk mkp msg mwm mrs msd mls mhd mtx u165.2.2 mrd mrl mpe mno mbo mim msi mwi mon mdi mco mgo mbr mca) (ws2 := [modW cI m mle u165.2.1 mfa mrm (mrw + 1) mP mQ mbk mkp msg mwm mrs msd mls mhd mtx u165.2.2 mrd mrl mpe mno mbo mim msi mwi mon mdi mco mgo mbr mca]) (pc2 := 273) O sP_X7_isItem_97 0 0 rfl rfl rfl rfl (Nat.le_of_ble_eq_true rfl) dX7_isItem_270 rfl rfl rfl ?_
                    refine zr_iload_n (pc2 := 274) O dX7_isItem_273 rfl 1 rfl rfl ?_
                    have hE : s_X7_isItem mle mpo mrm mrw mrs mtx mnu mrd mrl = (false, u165.2.1, mrm, mrw + 1, mrs, u165.2.2, mrd, mrl) := by subst hu165; exact ((if_neg c22).trans ((if_pos c151).trans ((if_neg c160).trans ((zif_t c168).trans ((if_neg c181).trans ((if_neg c194).trans (if_pos c209)))))))
                    exact hret _ _ _ _ dX7_isItem_274 (by decide +kernel) (by rw [hE]; rfl) (by rw [hE])
                  · exact absurd c235 (by decide)
              · refine zr_aload_n (pc2 := 213) O dX7_isItem_212 rfl 1 rfl rfl ?_
                refine zr_getf (v := .ref (m 3)) (pc2 := 216) O sF_X7_isItem_13 0 0 rfl rfl rfl dX7_isItem_213 rfl ?_
                refine zr_iconst (v := (nI 2)) (pc2 := 217) O dX7_isItem_216 (by decide +kernel) rfl ?_
                refine zn_iald (j := 2) (pc2 := 218) O 0 2 0 rfl rfl rfl rfl (by omega) (by decide) dX7_isItem_217 rfl ?_
                refine zr_if_le (tgt := 225) (pc2 := 221) O dX7_isItem_218 (by decide) rfl (fun c218 => ?_) (fun c218 => ?_)
                · refine zr_iconst (v := (nI 0)) (pc2 := 226) O dX7_isItem_225 (by decide +kernel) rfl ?_
                  refine zr_istore_n (lv2 := [(2, .int (nI 0)), (1, .int (s_X7_letterAt mle mtx mpo)), (0, .ref (m 31))]) (pc2 := 227) O dX7_isItem_226 rfl (by decide) rfl rfl ?_
                  refine zr_iconst (v := (nI 0)) (pc2 := 228) O dX7_isItem_227 (by decide +kernel) rfl ?_
                  refine zr_istore_n (lv2 := [(3, .int (nI 0)), (2, .int (nI 0)), (1, .int (s_X7_letterAt mle mtx mpo)), (0, .ref (m 31))]) (pc2 := 229) O dX7_isItem_228 rfl (by decide) rfl rfl ?_
                  refine zr_iload_n (pc2 := 230) O dX7_isItem_229 rfl 0 rfl rfl ?_
                  refine zr_iconst (v := (nI 3)) (pc2 := 231) O dX7_isItem_230 (by decide +kernel) rfl ?_
                  refine zn_icmp_ge (tgt := 263) (pc2 := 234) O dX7_isItem_231 (by decide) rfl (by omega) (by omega) (fun c231 => ?_) (fun c231 => ?_)
                  · exact absurd c231 (by decide)
                  · refine zr_iload_n (pc2 := 235) O dX7_isItem_234 rfl 1 rfl rfl ?_
                    refine zn_if_eq (tgt := 263) (pc2 := 238) O dX7_isItem_235 (by decide) rfl (by omega) (fun c235 => ?_) (fun c235 => ?_)
                    · refine zr_aload_n (pc2 := 264) O dX7_isItem_263 rfl 3 rfl rfl ?_
                      refine zr_dup (pc2 := 265) O dX7_isItem_264 rfl rfl ?_
                      refine zr_getf (v := .int (nI mrw)) (pc2 := 268) O sF_X7_isItem_97 0 0 rfl rfl rfl dX7_isItem_265 rfl ?_
                      refine zr_iconst (v := (nI 1)) (pc2 := 269) O dX7_isItem_268 (by decide +kernel) rfl ?_
                      refine zr_iadd (v := (nI (mrw + 1))) (pc2 := 270) O dX7_isItem_269 (nI_add mrw 1) rfl ?_
                      refine zr_putf (G2 := modW cI m mle u165.2.1 mfa mrm (mrw + 1) mP mQ mbk mkp msg mwm mrs msd mls mhd mtx u165.2.2 mrd mrl mpe mno mbo mim msi mwi mon mdi mco mgo mbr mca) (ws2 := [modW cI m mle u165.2.1 mfa mrm (mrw + 1) mP mQ mbk mkp msg mwm mrs msd mls mhd mtx u165.2.2 mrd mrl mpe mno mbo mim msi mwi mon mdi mco mgo mbr mca]) (pc2 := 273) O sP_X7_isItem_97 0 0 rfl rfl rfl rfl (Nat.le_of_ble_eq_true rfl) dX7_isItem_270 rfl rfl rfl ?_
                      refine zr_iload_n (pc2 := 274) O dX7_isItem_273 rfl 1 rfl rfl ?_
                      have hE : s_X7_isItem mle mpo mrm mrw mrs mtx mnu mrd mrl = (false, u165.2.1, mrm, mrw + 1, mrs, u165.2.2, mrd, mrl) := by subst hu165; exact ((if_neg c22).trans ((if_pos c151).trans ((if_neg c160).trans ((zif_t c168).trans ((if_neg c181).trans ((if_neg c194).trans ((if_neg c209).trans (if_pos c218))))))))
                      exact hret _ _ _ _ dX7_isItem_274 (by decide +kernel) (by rw [hE]; rfl) (by rw [hE])
                    · exact absurd c235 (by decide)
                · refine zr_iconst (v := (nI 1)) (pc2 := 222) O dX7_isItem_221 (by decide +kernel) rfl ?_
                  refine zr_goto (tgt := 226) O dX7_isItem_222 (by decide) ?_
                  refine zr_istore_n (lv2 := [(2, .int (nI 1)), (1, .int (s_X7_letterAt mle mtx mpo)), (0, .ref (m 31))]) (pc2 := 227) O dX7_isItem_226 rfl (by decide) rfl rfl ?_
                  refine zr_iconst (v := (nI 0)) (pc2 := 228) O dX7_isItem_227 (by decide +kernel) rfl ?_
                  refine zr_istore_n (lv2 := [(3, .int (nI 0)), (2, .int (nI 1)), (1, .int (s_X7_letterAt mle mtx mpo)), (0, .ref (m 31))]) (pc2 := 229) O dX7_isItem_228 rfl (by decide) rfl rfl ?_
                  have lp229 : ∀ (n9 : Nat) (k : Nat) (mrl9 : zF), k + n9 = 3 → f_X7_isItem_229 mrw u165 3 0 mrl = f_X7_isItem_229 mrw u165 n9 k mrl9 → Z [modW cI m mle u165.2.1 mfa mrm mrw mP mQ mbk mkp msg mwm mrs msd mls mhd mtx u165.2.2 mrd mrl9 mpe mno mbo mim msi mwi mon mdi mco mgo mbr mca] [(3, .int (nI k)), (2, .int (nI 1)), (1, .int (s_X7_letterAt mle mtx mpo)), (0, .ref (m 31))] 229 [] := by
                    intro n9
                    induction n9 with
                    | zero =>
                      intro k mrl9 hM229 hF229
                      have hI229 : 3 = k := by omega
                      subst hI229
                      have e9 : (f_X7_isItem_229 mrw u165 3 0 mrl) = mrl9 := hF229
                      subst e9
                      refine zr_iload_n (pc2 := 230) O dX7_isItem_229 rfl 0 rfl rfl ?_
                      refine zr_iconst (v := (nI 3)) (pc2 := 231) O dX7_isItem_230 (by decide +kernel) rfl ?_
                      refine zn_icmp_ge (tgt := 263) (pc2 := 234) O dX7_isItem_231 (by decide) rfl (by omega) (by omega) (fun c231 => ?_) (fun c231 => ?_)
                      · refine zr_aload_n (pc2 := 264) O dX7_isItem_263 rfl 3 rfl rfl ?_
                        refine zr_dup (pc2 := 265) O dX7_isItem_264 rfl rfl ?_
                        refine zr_getf (v := .int (nI mrw)) (pc2 := 268) O sF_X7_isItem_97 0 0 rfl rfl rfl dX7_isItem_265 rfl ?_
                        refine zr_iconst (v := (nI 1)) (pc2 := 269) O dX7_isItem_268 (by decide +kernel) rfl ?_
                        refine zr_iadd (v := (nI (mrw + 1))) (pc2 := 270) O dX7_isItem_269 (nI_add mrw 1) rfl ?_
                        refine zr_putf (G2 := modW cI m mle u165.2.1 mfa mrm (mrw + 1) mP mQ mbk mkp msg mwm mrs msd mls mhd mtx u165.2.2 mrd (f_X7_isItem_229 mrw u165 3 0 mrl) mpe mno mbo mim msi mwi mon mdi mco mgo mbr mca) (ws2 := [modW cI m mle u165.2.1 mfa mrm (mrw + 1) mP mQ mbk mkp msg mwm mrs msd mls mhd mtx u165.2.2 mrd (f_X7_isItem_229 mrw u165 3 0 mrl) mpe mno mbo mim msi mwi mon mdi mco mgo mbr mca]) (pc2 := 273) O sP_X7_isItem_97 0 0 rfl rfl rfl rfl (Nat.le_of_ble_eq_true rfl) dX7_isItem_270 rfl rfl rfl ?_
                        refine zr_iload_n (pc2 := 274) O dX7_isItem_273 rfl 1 rfl rfl ?_
                        have hE : s_X7_isItem mle mpo mrm mrw mrs mtx mnu mrd mrl = (true, u165.2.1, mrm, mrw + 1, mrs, u165.2.2, mrd, (f_X7_isItem_229 mrw u165 3 0 mrl)) := by subst hu165; exact ((if_neg c22).trans ((if_pos c151).trans ((if_neg c160).trans ((zif_t c168).trans ((if_neg c181).trans ((if_neg c194).trans ((if_neg c209).trans (if_neg c218))))))))
                        exact hret _ _ _ _ dX7_isItem_274 (by decide +kernel) (by rw [hE]; rfl) (by rw [hE])
                      · exact absurd c231 (by decide)
                    | succ n9 ih229 =>
                      intro k mrl9 hM229 hF229
                      refine zr_iload_n (pc2 := 230) O dX7_isItem_229 rfl 0 rfl rfl ?_
                      refine zr_iconst (v := (nI 3)) (pc2 := 231) O dX7_isItem_230 (by decide +kernel) rfl ?_
                      refine zn_icmp_ge (tgt := 263) (pc2 := 234) O dX7_isItem_231 (by decide) rfl (by omega) (by omega) (fun c231 => ?_) (fun c231 => ?_)
                      · exact absurd c231 (by omega)
                      · refine zr_iload_n (pc2 := 235) O dX7_isItem_234 rfl 1 rfl rfl ?_
                        refine zn_if_eq (tgt := 263) (pc2 := 238) O dX7_isItem_235 (by decide) rfl (by omega) (fun c235 => ?_) (fun c235 => ?_)
                        · exact absurd c235 (by decide)
                        · refine zr_aload_n (pc2 := 239) O dX7_isItem_238 rfl 3 rfl rfl ?_
                          refine zr_getf (v := .ref (m 8)) (pc2 := 242) O sF_X7_isItem_19 0 0 rfl rfl rfl dX7_isItem_239 rfl ?_
                          refine zr_iconst (v := (nI 3)) (pc2 := 243) O dX7_isItem_242 (by decide +kernel) rfl ?_
                          refine zr_aload_n (pc2 := 244) O dX7_isItem_243 rfl 3 rfl rfl ?_
                          refine zr_getf (v := .int (nI mrw)) (pc2 := 247) O sF_X7_isItem_97 0 0 rfl rfl rfl dX7_isItem_244 rfl ?_
                          refine zr_imul (v := (nI (3 * mrw))) (pc2 := 248) O dX7_isItem_247 (pk_mul 3 mrw) rfl ?_
                          refine zr_iload_n (pc2 := 249) O dX7_isItem_248 rfl 0 rfl rfl ?_
                          refine zr_iadd (v := (nI ((3 * mrw) + k))) (pc2 := 250) O dX7_isItem_249 (nI_add (3 * mrw) k) rfl ?_
                          refine zr_aload_n (pc2 := 251) O dX7_isItem_250 rfl 3 rfl rfl ?_
                          refine zr_getf (v := .ref (m 3)) (pc2 := 254) O sF_X7_isItem_13 0 0 rfl rfl rfl dX7_isItem_251 rfl ?_
                          refine zr_iload_n (pc2 := 255) O dX7_isItem_254 rfl 0 rfl rfl ?_
                          refine zn_iald (j := k) (pc2 := 256) O 0 2 0 rfl rfl rfl rfl (by omega) (by decide) dX7_isItem_255 rfl ?_
                          refine zn_iast (j := ((3 * mrw) + k)) (G2 := modW cI m mle u165.2.1 mfa mrm mrw mP mQ mbk mkp msg mwm mrs msd mls mhd mtx u165.2.2 mrd (upd mrl9 ((3 * mrw) + k) (u165.2.2 k)) mpe mno mbo mim msi mwi mon mdi mco mgo mbr mca) (ws2 := [modW cI m mle u165.2.1 mfa mrm mrw mP mQ mbk mkp msg mwm mrs msd mls mhd mtx u165.2.2 mrd (upd mrl9 ((3 * mrw) + k) (u165.2.2 k)) mpe mno mbo mim msi mwi mon mdi mco mgo mbr mca]) (pc2 := 257) O 0 4 0 rfl rfl rfl rfl (by omega) (by decide) dX7_isItem_256 rfl rfl rfl ?_
                          refine zr_iinc (v := (nI (k + 1))) (lv2 := [(3, .int (nI (k + 1))), (2, .int (nI 1)), (1, .int (s_X7_letterAt mle mtx mpo)), (0, .ref (m 31))]) (pc2 := 260) O dX7_isItem_257 0 rfl (zm_ofInt1 k) (by decide) rfl rfl ?_
                          refine zr_goto (tgt := 229) O dX7_isItem_260 (by decide) ?_
                          have hE : f_X7_isItem_229 mrw u165 (n9 + 1) k mrl9 = f_X7_isItem_229 mrw u165 n9 (k + 1) (upd mrl9 ((3 * mrw) + k) (u165.2.2 k)) := by exact rfl
                          exact ih229 (k + 1) (upd mrl9 ((3 * mrw) + k) (u165.2.2 k)) (by omega) (hF229.trans hE)
                  exact lp229 3 0 mrl (by omega) rfl
  · refine zr_aload_n (pc2 := 26) O dX7_isItem_25 rfl 1 rfl rfl ?_
    refine zr_getf (v := .int (nI mrm)) (pc2 := 29) O sF_X7_isItem_90 0 0 rfl rfl rfl dX7_isItem_26 rfl ?_
    refine zr_bipush (v := (nI 6)) (pc2 := 31) O dX7_isItem_29 (by decide +kernel) rfl ?_
    refine zn_icmp_ge (tgt := 89) (pc2 := 34) O dX7_isItem_31 (by decide) rfl (by omega) (by omega) (fun c31 => ?_) (fun c31 => ?_)
    · refine zr_iconst (v := (nI 0)) (pc2 := 90) O dX7_isItem_89 (by decide +kernel) rfl ?_
      refine zr_istore_n (lv2 := [(2, .int (nI 0)), (1, .int (s_X7_letterAt mle mtx mpo)), (0, .ref (m 31))]) (pc2 := 91) O dX7_isItem_90 rfl (by decide) rfl rfl ?_
      refine zr_iconst (v := (nI 0)) (pc2 := 92) O dX7_isItem_91 (by decide +kernel) rfl ?_
      refine zr_istore_n (lv2 := [(3, .int (nI 0)), (2, .int (nI 0)), (1, .int (s_X7_letterAt mle mtx mpo)), (0, .ref (m 31))]) (pc2 := 93) O dX7_isItem_92 rfl (by decide) rfl rfl ?_
      refine zr_iload_n (pc2 := 94) O dX7_isItem_93 rfl 0 rfl rfl ?_
      refine zr_iconst (v := (nI 5)) (pc2 := 95) O dX7_isItem_94 (by decide +kernel) rfl ?_
      refine zn_icmp_ge (tgt := 136) (pc2 := 98) O dX7_isItem_95 (by decide) rfl (by omega) (by omega) (fun c95 => ?_) (fun c95 => ?_)
      · exact absurd c95 (by decide)
      · refine zr_iload_n (pc2 := 99) O dX7_isItem_98 rfl 1 rfl rfl ?_
        refine zn_if_eq (tgt := 136) (pc2 := 102) O dX7_isItem_99 (by decide) rfl (by omega) (fun c99 => ?_) (fun c99 => ?_)
        · refine zr_aload_n (pc2 := 137) O dX7_isItem_136 rfl 3 rfl rfl ?_
          refine zr_dup (pc2 := 138) O dX7_isItem_137 rfl rfl ?_
          refine zr_getf (v := .int (nI mrm)) (pc2 := 141) O sF_X7_isItem_90 0 0 rfl rfl rfl dX7_isItem_138 rfl ?_
          refine zr_iconst (v := (nI 1)) (pc2 := 142) O dX7_isItem_141 (by decide +kernel) rfl ?_
          refine zr_iadd (v := (nI (mrm + 1))) (pc2 := 143) O dX7_isItem_142 (nI_add mrm 1) rfl ?_
          refine zr_putf (G2 := modW cI m mle (mpo + 1) mfa (mrm + 1) mrw mP mQ mbk mkp msg mwm mrs msd mls mhd mtx mnu mrd mrl mpe mno mbo mim msi mwi mon mdi mco mgo mbr mca) (ws2 := [modW cI m mle (mpo + 1) mfa (mrm + 1) mrw mP mQ mbk mkp msg mwm mrs msd mls mhd mtx mnu mrd mrl mpe mno mbo mim msi mwi mon mdi mco mgo mbr mca]) (pc2 := 146) O sP_X7_isItem_90 0 0 rfl rfl rfl rfl (Nat.le_of_ble_eq_true rfl) dX7_isItem_143 rfl rfl rfl ?_
          refine zr_iload_n (pc2 := 147) O dX7_isItem_146 rfl 1 rfl rfl ?_
          have hE : s_X7_isItem mle mpo mrm mrw mrs mtx mnu mrd mrl = (false, mpo + 1, mrm + 1, mrw, mrs, mnu, mrd, mrl) := by exact ((if_pos c22).trans (if_pos c31))
          exact hret _ _ _ _ dX7_isItem_147 (by decide +kernel) (by rw [hE]; rfl) (by rw [hE])
        · exact absurd c99 (by decide)
    · refine zr_aload_n (pc2 := 35) O dX7_isItem_34 rfl 1 rfl rfl ?_
      refine zr_iconst (v := (nI 4)) (pc2 := 36) O dX7_isItem_35 (by decide +kernel) rfl ?_
      obtain ⟨u36, hu36⟩ : ∃ z9, z9 = s_X7_isRow mle (mpo + 1) mtx mnu 4 := ⟨_, rfl⟩
      refine zr_callV (As := [.int (nI 4)]) (rest := []) (ws2 := [modW cI m mle u36.2.1 mfa mrm mrw mP mQ mbk mkp msg mwm mrs msd mls mhd mtx u36.2.2 mrd mrl mpe mno mbo mim msi mwi mon mdi mco mgo mbr mca]) (pc2 := 39) (ci := 7) (g0 := 0) (q0 := 0) (v := (some (.int (zb u36.1)))) (W := [modW cI m mle (mpo + 1) mfa mrm mrw mP mQ mbk mkp msg mwm mrs msd mls mhd mtx mnu mrd mrl mpe mno mbo mim msi mwi mon mdi mco mgo mbr mca]) (W2 := [modW cI m mle u36.2.1 mfa mrm mrw mP mQ mbk mkp msg mwm mrs msd mls mhd mtx u36.2.2 mrd mrl mpe mno mbo mim msi mwi mon mdi mco mgo mbr mca]) O (by rw [hu36]; exact (c_X7_isRow l D cI cC cJ m mle (mpo + 1) mfa mrm mrw mP mQ mbk mkp msg mwm mrs msd mls mhd mtx mnu mrd mrl mpe mno mbo mim msi mwi mon mdi mco mgo mbr mca 4 hml (by omega) (by decide))) sC_X7_isItem_93 rfl rfl rfl rfl rfl dX7_isItem_36 [0] rfl rfl rfl rfl (Nat.le_of_ble_eq_true rfl) rfl ?_
      show Z _ _ _ [.int (zb u36.1)]
      refine zb_if_eq (tgt := 89) (pc2 := 42) O dX7_isItem_39 (by decide) rfl (fun c39 => ?_) (fun c39 => ?_)
      · refine zr_iconst (v := (nI 0)) (pc2 := 90) O dX7_isItem_89 (by decide +kernel) rfl ?_
        refine zr_istore_n (lv2 := [(2, .int (nI 0)), (1, .int (s_X7_letterAt mle mtx mpo)), (0, .ref (m 31))]) (pc2 := 91) O dX7_isItem_90 rfl (by decide) rfl rfl ?_
        refine zr_iconst (v := (nI 0)) (pc2 := 92) O dX7_isItem_91 (by decide +kernel) rfl ?_
        refine zr_istore_n (lv2 := [(3, .int (nI 0)), (2, .int (nI 0)), (1, .int (s_X7_letterAt mle mtx mpo)), (0, .ref (m 31))]) (pc2 := 93) O dX7_isItem_92 rfl (by decide) rfl rfl ?_
        refine zr_iload_n (pc2 := 94) O dX7_isItem_93 rfl 0 rfl rfl ?_
        refine zr_iconst (v := (nI 5)) (pc2 := 95) O dX7_isItem_94 (by decide +kernel) rfl ?_
        refine zn_icmp_ge (tgt := 136) (pc2 := 98) O dX7_isItem_95 (by decide) rfl (by omega) (by omega) (fun c95 => ?_) (fun c95 => ?_)
        · exact absurd c95 (by decide)
        · refine zr_iload_n (pc2 := 99) O dX7_isItem_98 rfl 1 rfl rfl ?_
          refine zn_if_eq (tgt := 136) (pc2 := 102) O dX7_isItem_99 (by decide) rfl (by omega) (fun c99 => ?_) (fun c99 => ?_)
          · refine zr_aload_n (pc2 := 137) O dX7_isItem_136 rfl 3 rfl rfl ?_
            refine zr_dup (pc2 := 138) O dX7_isItem_137 rfl rfl ?_
            refine zr_getf (v := .int (nI mrm)) (pc2 := 141) O sF_X7_isItem_90 0 0 rfl rfl rfl dX7_isItem_138 rfl ?_
            refine zr_iconst (v := (nI 1)) (pc2 := 142) O dX7_isItem_141 (by decide +kernel) rfl ?_
            refine zr_iadd (v := (nI (mrm + 1))) (pc2 := 143) O dX7_isItem_142 (nI_add mrm 1) rfl ?_
            refine zr_putf (G2 := modW cI m mle u36.2.1 mfa (mrm + 1) mrw mP mQ mbk mkp msg mwm mrs msd mls mhd mtx u36.2.2 mrd mrl mpe mno mbo mim msi mwi mon mdi mco mgo mbr mca) (ws2 := [modW cI m mle u36.2.1 mfa (mrm + 1) mrw mP mQ mbk mkp msg mwm mrs msd mls mhd mtx u36.2.2 mrd mrl mpe mno mbo mim msi mwi mon mdi mco mgo mbr mca]) (pc2 := 146) O sP_X7_isItem_90 0 0 rfl rfl rfl rfl (Nat.le_of_ble_eq_true rfl) dX7_isItem_143 rfl rfl rfl ?_
            refine zr_iload_n (pc2 := 147) O dX7_isItem_146 rfl 1 rfl rfl ?_
            have hE : s_X7_isItem mle mpo mrm mrw mrs mtx mnu mrd mrl = (false, u36.2.1, mrm + 1, mrw, mrs, u36.2.2, mrd, mrl) := by subst hu36; exact ((if_pos c22).trans ((if_neg c31).trans (zif_f c39)))
            exact hret _ _ _ _ dX7_isItem_147 (by decide +kernel) (by rw [hE]; rfl) (by rw [hE])
          · exact absurd c99 (by decide)
      · refine zr_aload_n (pc2 := 43) O dX7_isItem_42 rfl 1 rfl rfl ?_
        refine zr_getf (v := .ref (m 3)) (pc2 := 46) O sF_X7_isItem_13 0 0 rfl rfl rfl dX7_isItem_43 rfl ?_
        refine zr_iconst (v := (nI 0)) (pc2 := 47) O dX7_isItem_46 (by decide +kernel) rfl ?_
        refine zn_iald (j := 0) (pc2 := 48) O 0 2 0 rfl rfl rfl rfl (by omega) (by decide) dX7_isItem_47 rfl ?_
        refine zr_bipush (v := (nI 61)) (pc2 := 50) O dX7_isItem_48 (by decide +kernel) rfl ?_
        refine zr_icmp_ge (tgt := 89) (pc2 := 53) O dX7_isItem_50 (by decide) rfl (fun c50 => ?_) (fun c50 => ?_)
        · refine zr_iconst (v := (nI 0)) (pc2 := 90) O dX7_isItem_89 (by decide +kernel) rfl ?_
          refine zr_istore_n (lv2 := [(2, .int (nI 0)), (1, .int (s_X7_letterAt mle mtx mpo)), (0, .ref (m 31))]) (pc2 := 91) O dX7_isItem_90 rfl (by decide) rfl rfl ?_
          refine zr_iconst (v := (nI 0)) (pc2 := 92) O dX7_isItem_91 (by decide +kernel) rfl ?_
          refine zr_istore_n (lv2 := [(3, .int (nI 0)), (2, .int (nI 0)), (1, .int (s_X7_letterAt mle mtx mpo)), (0, .ref (m 31))]) (pc2 := 93) O dX7_isItem_92 rfl (by decide) rfl rfl ?_
          refine zr_iload_n (pc2 := 94) O dX7_isItem_93 rfl 0 rfl rfl ?_
          refine zr_iconst (v := (nI 5)) (pc2 := 95) O dX7_isItem_94 (by decide +kernel) rfl ?_
          refine zn_icmp_ge (tgt := 136) (pc2 := 98) O dX7_isItem_95 (by decide) rfl (by omega) (by omega) (fun c95 => ?_) (fun c95 => ?_)
          · exact absurd c95 (by decide)
          · refine zr_iload_n (pc2 := 99) O dX7_isItem_98 rfl 1 rfl rfl ?_
            refine zn_if_eq (tgt := 136) (pc2 := 102) O dX7_isItem_99 (by decide) rfl (by omega) (fun c99 => ?_) (fun c99 => ?_)
            · refine zr_aload_n (pc2 := 137) O dX7_isItem_136 rfl 3 rfl rfl ?_
              refine zr_dup (pc2 := 138) O dX7_isItem_137 rfl rfl ?_
              refine zr_getf (v := .int (nI mrm)) (pc2 := 141) O sF_X7_isItem_90 0 0 rfl rfl rfl dX7_isItem_138 rfl ?_
              refine zr_iconst (v := (nI 1)) (pc2 := 142) O dX7_isItem_141 (by decide +kernel) rfl ?_
              refine zr_iadd (v := (nI (mrm + 1))) (pc2 := 143) O dX7_isItem_142 (nI_add mrm 1) rfl ?_
              refine zr_putf (G2 := modW cI m mle u36.2.1 mfa (mrm + 1) mrw mP mQ mbk mkp msg mwm mrs msd mls mhd mtx u36.2.2 mrd mrl mpe mno mbo mim msi mwi mon mdi mco mgo mbr mca) (ws2 := [modW cI m mle u36.2.1 mfa (mrm + 1) mrw mP mQ mbk mkp msg mwm mrs msd mls mhd mtx u36.2.2 mrd mrl mpe mno mbo mim msi mwi mon mdi mco mgo mbr mca]) (pc2 := 146) O sP_X7_isItem_90 0 0 rfl rfl rfl rfl (Nat.le_of_ble_eq_true rfl) dX7_isItem_143 rfl rfl rfl ?_
              refine zr_iload_n (pc2 := 147) O dX7_isItem_146 rfl 1 rfl rfl ?_
              have hE : s_X7_isItem mle mpo mrm mrw mrs mtx mnu mrd mrl = (false, u36.2.1, mrm + 1, mrw, mrs, u36.2.2, mrd, mrl) := by subst hu36; exact ((if_pos c22).trans ((if_neg c31).trans ((zif_t c39).trans (if_pos c50))))
              exact hret _ _ _ _ dX7_isItem_147 (by decide +kernel) (by rw [hE]; rfl) (by rw [hE])
            · exact absurd c99 (by decide)
        · refine zr_aload_n (pc2 := 54) O dX7_isItem_53 rfl 1 rfl rfl ?_
          refine zr_getf (v := .ref (m 3)) (pc2 := 57) O sF_X7_isItem_13 0 0 rfl rfl rfl dX7_isItem_54 rfl ?_
          refine zr_iconst (v := (nI 1)) (pc2 := 58) O dX7_isItem_57 (by decide +kernel) rfl ?_
          refine zn_iald (j := 1) (pc2 := 59) O 0 2 0 rfl rfl rfl rfl (by omega) (by decide) dX7_isItem_58 rfl ?_
          refine zr_bipush (v := (nI 10)) (pc2 := 61) O dX7_isItem_59 (by decide +kernel) rfl ?_
          refine zr_icmp_ge (tgt := 89) (pc2 := 64) O dX7_isItem_61 (by decide) rfl (fun c61 => ?_) (fun c61 => ?_)
          · refine zr_iconst (v := (nI 0)) (pc2 := 90) O dX7_isItem_89 (by decide +kernel) rfl ?_
            refine zr_istore_n (lv2 := [(2, .int (nI 0)), (1, .int (s_X7_letterAt mle mtx mpo)), (0, .ref (m 31))]) (pc2 := 91) O dX7_isItem_90 rfl (by decide) rfl rfl ?_
            refine zr_iconst (v := (nI 0)) (pc2 := 92) O dX7_isItem_91 (by decide +kernel) rfl ?_
            refine zr_istore_n (lv2 := [(3, .int (nI 0)), (2, .int (nI 0)), (1, .int (s_X7_letterAt mle mtx mpo)), (0, .ref (m 31))]) (pc2 := 93) O dX7_isItem_92 rfl (by decide) rfl rfl ?_
            refine zr_iload_n (pc2 := 94) O dX7_isItem_93 rfl 0 rfl rfl ?_
            refine zr_iconst (v := (nI 5)) (pc2 := 95) O dX7_isItem_94 (by decide +kernel) rfl ?_
            refine zn_icmp_ge (tgt := 136) (pc2 := 98) O dX7_isItem_95 (by decide) rfl (by omega) (by omega) (fun c95 => ?_) (fun c95 => ?_)
            · exact absurd c95 (by decide)
            · refine zr_iload_n (pc2 := 99) O dX7_isItem_98 rfl 1 rfl rfl ?_
              refine zn_if_eq (tgt := 136) (pc2 := 102) O dX7_isItem_99 (by decide) rfl (by omega) (fun c99 => ?_) (fun c99 => ?_)
              · refine zr_aload_n (pc2 := 137) O dX7_isItem_136 rfl 3 rfl rfl ?_
                refine zr_dup (pc2 := 138) O dX7_isItem_137 rfl rfl ?_
                refine zr_getf (v := .int (nI mrm)) (pc2 := 141) O sF_X7_isItem_90 0 0 rfl rfl rfl dX7_isItem_138 rfl ?_
                refine zr_iconst (v := (nI 1)) (pc2 := 142) O dX7_isItem_141 (by decide +kernel) rfl ?_
                refine zr_iadd (v := (nI (mrm + 1))) (pc2 := 143) O dX7_isItem_142 (nI_add mrm 1) rfl ?_
                refine zr_putf (G2 := modW cI m mle u36.2.1 mfa (mrm + 1) mrw mP mQ mbk mkp msg mwm mrs msd mls mhd mtx u36.2.2 mrd mrl mpe mno mbo mim msi mwi mon mdi mco mgo mbr mca) (ws2 := [modW cI m mle u36.2.1 mfa (mrm + 1) mrw mP mQ mbk mkp msg mwm mrs msd mls mhd mtx u36.2.2 mrd mrl mpe mno mbo mim msi mwi mon mdi mco mgo mbr mca]) (pc2 := 146) O sP_X7_isItem_90 0 0 rfl rfl rfl rfl (Nat.le_of_ble_eq_true rfl) dX7_isItem_143 rfl rfl rfl ?_
                refine zr_iload_n (pc2 := 147) O dX7_isItem_146 rfl 1 rfl rfl ?_
                have hE : s_X7_isItem mle mpo mrm mrw mrs mtx mnu mrd mrl = (false, u36.2.1, mrm + 1, mrw, mrs, u36.2.2, mrd, mrl) := by subst hu36; exact ((if_pos c22).trans ((if_neg c31).trans ((zif_t c39).trans ((if_neg c50).trans (if_pos c61)))))
                exact hret _ _ _ _ dX7_isItem_147 (by decide +kernel) (by rw [hE]; rfl) (by rw [hE])
              · exact absurd c99 (by decide)
          · refine zr_aload_n (pc2 := 65) O dX7_isItem_64 rfl 1 rfl rfl ?_
            refine zr_getf (v := .ref (m 3)) (pc2 := 68) O sF_X7_isItem_13 0 0 rfl rfl rfl dX7_isItem_65 rfl ?_
            refine zr_iconst (v := (nI 2)) (pc2 := 69) O dX7_isItem_68 (by decide +kernel) rfl ?_
            refine zn_iald (j := 2) (pc2 := 70) O 0 2 0 rfl rfl rfl rfl (by omega) (by decide) dX7_isItem_69 rfl ?_
            refine zr_bipush (v := (nI 19)) (pc2 := 72) O dX7_isItem_70 (by decide +kernel) rfl ?_
            refine zr_icmp_le (tgt := 89) (pc2 := 75) O dX7_isItem_72 (by decide) rfl (fun c72 => ?_) (fun c72 => ?_)
            · refine zr_iconst (v := (nI 0)) (pc2 := 90) O dX7_isItem_89 (by decide +kernel) rfl ?_
              refine zr_istore_n (lv2 := [(2, .int (nI 0)), (1, .int (s_X7_letterAt mle mtx mpo)), (0, .ref (m 31))]) (pc2 := 91) O dX7_isItem_90 rfl (by decide) rfl rfl ?_
              refine zr_iconst (v := (nI 0)) (pc2 := 92) O dX7_isItem_91 (by decide +kernel) rfl ?_
              refine zr_istore_n (lv2 := [(3, .int (nI 0)), (2, .int (nI 0)), (1, .int (s_X7_letterAt mle mtx mpo)), (0, .ref (m 31))]) (pc2 := 93) O dX7_isItem_92 rfl (by decide) rfl rfl ?_
              refine zr_iload_n (pc2 := 94) O dX7_isItem_93 rfl 0 rfl rfl ?_
              refine zr_iconst (v := (nI 5)) (pc2 := 95) O dX7_isItem_94 (by decide +kernel) rfl ?_
              refine zn_icmp_ge (tgt := 136) (pc2 := 98) O dX7_isItem_95 (by decide) rfl (by omega) (by omega) (fun c95 => ?_) (fun c95 => ?_)
              · exact absurd c95 (by decide)
              · refine zr_iload_n (pc2 := 99) O dX7_isItem_98 rfl 1 rfl rfl ?_
                refine zn_if_eq (tgt := 136) (pc2 := 102) O dX7_isItem_99 (by decide) rfl (by omega) (fun c99 => ?_) (fun c99 => ?_)
                · refine zr_aload_n (pc2 := 137) O dX7_isItem_136 rfl 3 rfl rfl ?_
                  refine zr_dup (pc2 := 138) O dX7_isItem_137 rfl rfl ?_
                  refine zr_getf (v := .int (nI mrm)) (pc2 := 141) O sF_X7_isItem_90 0 0 rfl rfl rfl dX7_isItem_138 rfl ?_
                  refine zr_iconst (v := (nI 1)) (pc2 := 142) O dX7_isItem_141 (by decide +kernel) rfl ?_
                  refine zr_iadd (v := (nI (mrm + 1))) (pc2 := 143) O dX7_isItem_142 (nI_add mrm 1) rfl ?_
                  refine zr_putf (G2 := modW cI m mle u36.2.1 mfa (mrm + 1) mrw mP mQ mbk mkp msg mwm mrs msd mls mhd mtx u36.2.2 mrd mrl mpe mno mbo mim msi mwi mon mdi mco mgo mbr mca) (ws2 := [modW cI m mle u36.2.1 mfa (mrm + 1) mrw mP mQ mbk mkp msg mwm mrs msd mls mhd mtx u36.2.2 mrd mrl mpe mno mbo mim msi mwi mon mdi mco mgo mbr mca]) (pc2 := 146) O sP_X7_isItem_90 0 0 rfl rfl rfl rfl (Nat.le_of_ble_eq_true rfl) dX7_isItem_143 rfl rfl rfl ?_
                  refine zr_iload_n (pc2 := 147) O dX7_isItem_146 rfl 1 rfl rfl ?_
                  have hE : s_X7_isItem mle mpo mrm mrw mrs mtx mnu mrd mrl = (false, u36.2.1, mrm + 1, mrw, mrs, u36.2.2, mrd, mrl) := by subst hu36; exact ((if_pos c22).trans ((if_neg c31).trans ((zif_t c39).trans ((if_neg c50).trans ((if_neg c61).trans (if_pos c72))))))
                  exact hret _ _ _ _ dX7_isItem_147 (by decide +kernel) (by rw [hE]; rfl) (by rw [hE])
                · exact absurd c99 (by decide)
            · refine zr_aload_n (pc2 := 76) O dX7_isItem_75 rfl 1 rfl rfl ?_
              refine zr_getf (v := .ref (m 3)) (pc2 := 79) O sF_X7_isItem_13 0 0 rfl rfl rfl dX7_isItem_76 rfl ?_
              refine zr_iconst (v := (nI 3)) (pc2 := 80) O dX7_isItem_79 (by decide +kernel) rfl ?_
              refine zn_iald (j := 3) (pc2 := 81) O 0 2 0 rfl rfl rfl rfl (by omega) (by decide) dX7_isItem_80 rfl ?_
              refine zr_iconst (v := (nI 4)) (pc2 := 82) O dX7_isItem_81 (by decide +kernel) rfl ?_
              refine zr_icmp_ge (tgt := 89) (pc2 := 85) O dX7_isItem_82 (by decide) rfl (fun c82 => ?_) (fun c82 => ?_)
              · refine zr_iconst (v := (nI 0)) (pc2 := 90) O dX7_isItem_89 (by decide +kernel) rfl ?_
                refine zr_istore_n (lv2 := [(2, .int (nI 0)), (1, .int (s_X7_letterAt mle mtx mpo)), (0, .ref (m 31))]) (pc2 := 91) O dX7_isItem_90 rfl (by decide) rfl rfl ?_
                refine zr_iconst (v := (nI 0)) (pc2 := 92) O dX7_isItem_91 (by decide +kernel) rfl ?_
                refine zr_istore_n (lv2 := [(3, .int (nI 0)), (2, .int (nI 0)), (1, .int (s_X7_letterAt mle mtx mpo)), (0, .ref (m 31))]) (pc2 := 93) O dX7_isItem_92 rfl (by decide) rfl rfl ?_
                refine zr_iload_n (pc2 := 94) O dX7_isItem_93 rfl 0 rfl rfl ?_
                refine zr_iconst (v := (nI 5)) (pc2 := 95) O dX7_isItem_94 (by decide +kernel) rfl ?_
                refine zn_icmp_ge (tgt := 136) (pc2 := 98) O dX7_isItem_95 (by decide) rfl (by omega) (by omega) (fun c95 => ?_) (fun c95 => ?_)
                · exact absurd c95 (by decide)
                · refine zr_iload_n (pc2 := 99) O dX7_isItem_98 rfl 1 rfl rfl ?_
                  refine zn_if_eq (tgt := 136) (pc2 := 102) O dX7_isItem_99 (by decide) rfl (by omega) (fun c99 => ?_) (fun c99 => ?_)
                  · refine zr_aload_n (pc2 := 137) O dX7_isItem_136 rfl 3 rfl rfl ?_
                    refine zr_dup (pc2 := 138) O dX7_isItem_137 rfl rfl ?_
                    refine zr_getf (v := .int (nI mrm)) (pc2 := 141) O sF_X7_isItem_90 0 0 rfl rfl rfl dX7_isItem_138 rfl ?_
                    refine zr_iconst (v := (nI 1)) (pc2 := 142) O dX7_isItem_141 (by decide +kernel) rfl ?_
                    refine zr_iadd (v := (nI (mrm + 1))) (pc2 := 143) O dX7_isItem_142 (nI_add mrm 1) rfl ?_
                    refine zr_putf (G2 := modW cI m mle u36.2.1 mfa (mrm + 1) mrw mP mQ mbk mkp msg mwm mrs msd mls mhd mtx u36.2.2 mrd mrl mpe mno mbo mim msi mwi mon mdi mco mgo mbr mca) (ws2 := [modW cI m mle u36.2.1 mfa (mrm + 1) mrw mP mQ mbk mkp msg mwm mrs msd mls mhd mtx u36.2.2 mrd mrl mpe mno mbo mim msi mwi mon mdi mco mgo mbr mca]) (pc2 := 146) O sP_X7_isItem_90 0 0 rfl rfl rfl rfl (Nat.le_of_ble_eq_true rfl) dX7_isItem_143 rfl rfl rfl ?_
                    refine zr_iload_n (pc2 := 147) O dX7_isItem_146 rfl 1 rfl rfl ?_
                    have hE : s_X7_isItem mle mpo mrm mrw mrs mtx mnu mrd mrl = (false, u36.2.1, mrm + 1, mrw, mrs, u36.2.2, mrd, mrl) := by subst hu36; exact ((if_pos c22).trans ((if_neg c31).trans ((zif_t c39).trans ((if_neg c50).trans ((if_neg c61).trans ((if_neg c72).trans (if_pos c82)))))))
                    exact hret _ _ _ _ dX7_isItem_147 (by decide +kernel) (by rw [hE]; rfl) (by rw [hE])
                  · exact absurd c99 (by decide)
              · refine zr_iconst (v := (nI 1)) (pc2 := 86) O dX7_isItem_85 (by decide +kernel) rfl ?_
                refine zr_goto (tgt := 90) O dX7_isItem_86 (by decide) ?_
                refine zr_istore_n (lv2 := [(2, .int (nI 1)), (1, .int (s_X7_letterAt mle mtx mpo)), (0, .ref (m 31))]) (pc2 := 91) O dX7_isItem_90 rfl (by decide) rfl rfl ?_
                refine zr_iconst (v := (nI 0)) (pc2 := 92) O dX7_isItem_91 (by decide +kernel) rfl ?_
                refine zr_istore_n (lv2 := [(3, .int (nI 0)), (2, .int (nI 1)), (1, .int (s_X7_letterAt mle mtx mpo)), (0, .ref (m 31))]) (pc2 := 93) O dX7_isItem_92 rfl (by decide) rfl rfl ?_
                have lp93 : ∀ (n9 : Nat) (k : Nat) (mrd9 : zF), k + n9 = 5 → f_X7_isItem_93 mrm u36 5 0 mrd = f_X7_isItem_93 mrm u36 n9 k mrd9 → Z [modW cI m mle u36.2.1 mfa mrm mrw mP mQ mbk mkp msg mwm mrs msd mls mhd mtx u36.2.2 mrd9 mrl mpe mno mbo mim msi mwi mon mdi mco mgo mbr mca] [(3, .int (nI k)), (2, .int (nI 1)), (1, .int (s_X7_letterAt mle mtx mpo)), (0, .ref (m 31))] 93 [] := by
                  intro n9
                  induction n9 with
                  | zero =>
                    intro k mrd9 hM93 hF93
                    have hI93 : 5 = k := by omega
                    subst hI93
                    have e9 : (f_X7_isItem_93 mrm u36 5 0 mrd) = mrd9 := hF93
                    subst e9
                    refine zr_iload_n (pc2 := 94) O dX7_isItem_93 rfl 0 rfl rfl ?_
                    refine zr_iconst (v := (nI 5)) (pc2 := 95) O dX7_isItem_94 (by decide +kernel) rfl ?_
                    refine zn_icmp_ge (tgt := 136) (pc2 := 98) O dX7_isItem_95 (by decide) rfl (by omega) (by omega) (fun c95 => ?_) (fun c95 => ?_)
                    · refine zr_aload_n (pc2 := 137) O dX7_isItem_136 rfl 3 rfl rfl ?_
                      refine zr_dup (pc2 := 138) O dX7_isItem_137 rfl rfl ?_
                      refine zr_getf (v := .int (nI mrm)) (pc2 := 141) O sF_X7_isItem_90 0 0 rfl rfl rfl dX7_isItem_138 rfl ?_
                      refine zr_iconst (v := (nI 1)) (pc2 := 142) O dX7_isItem_141 (by decide +kernel) rfl ?_
                      refine zr_iadd (v := (nI (mrm + 1))) (pc2 := 143) O dX7_isItem_142 (nI_add mrm 1) rfl ?_
                      refine zr_putf (G2 := modW cI m mle u36.2.1 mfa (mrm + 1) mrw mP mQ mbk mkp msg mwm mrs msd mls mhd mtx u36.2.2 (f_X7_isItem_93 mrm u36 5 0 mrd) mrl mpe mno mbo mim msi mwi mon mdi mco mgo mbr mca) (ws2 := [modW cI m mle u36.2.1 mfa (mrm + 1) mrw mP mQ mbk mkp msg mwm mrs msd mls mhd mtx u36.2.2 (f_X7_isItem_93 mrm u36 5 0 mrd) mrl mpe mno mbo mim msi mwi mon mdi mco mgo mbr mca]) (pc2 := 146) O sP_X7_isItem_90 0 0 rfl rfl rfl rfl (Nat.le_of_ble_eq_true rfl) dX7_isItem_143 rfl rfl rfl ?_
                      refine zr_iload_n (pc2 := 147) O dX7_isItem_146 rfl 1 rfl rfl ?_
                      have hE : s_X7_isItem mle mpo mrm mrw mrs mtx mnu mrd mrl = (true, u36.2.1, mrm + 1, mrw, mrs, u36.2.2, (f_X7_isItem_93 mrm u36 5 0 mrd), mrl) := by subst hu36; exact ((if_pos c22).trans ((if_neg c31).trans ((zif_t c39).trans ((if_neg c50).trans ((if_neg c61).trans ((if_neg c72).trans (if_neg c82)))))))
                      exact hret _ _ _ _ dX7_isItem_147 (by decide +kernel) (by rw [hE]; rfl) (by rw [hE])
                    · exact absurd c95 (by decide)
                  | succ n9 ih93 =>
                    intro k mrd9 hM93 hF93
                    refine zr_iload_n (pc2 := 94) O dX7_isItem_93 rfl 0 rfl rfl ?_
                    refine zr_iconst (v := (nI 5)) (pc2 := 95) O dX7_isItem_94 (by decide +kernel) rfl ?_
                    refine zn_icmp_ge (tgt := 136) (pc2 := 98) O dX7_isItem_95 (by decide) rfl (by omega) (by omega) (fun c95 => ?_) (fun c95 => ?_)
                    · exact absurd c95 (by omega)
                    · refine zr_iload_n (pc2 := 99) O dX7_isItem_98 rfl 1 rfl rfl ?_
                      refine zn_if_eq (tgt := 136) (pc2 := 102) O dX7_isItem_99 (by decide) rfl (by omega) (fun c99 => ?_) (fun c99 => ?_)
                      · exact absurd c99 (by decide)
                      · refine zr_aload_n (pc2 := 103) O dX7_isItem_102 rfl 3 rfl rfl ?_
                        refine zr_getf (v := .ref (m 7)) (pc2 := 106) O sF_X7_isItem_16 0 0 rfl rfl rfl dX7_isItem_103 rfl ?_
                        refine zr_iconst (v := (nI 5)) (pc2 := 107) O dX7_isItem_106 (by decide +kernel) rfl ?_
                        refine zr_aload_n (pc2 := 108) O dX7_isItem_107 rfl 3 rfl rfl ?_
                        refine zr_getf (v := .int (nI mrm)) (pc2 := 111) O sF_X7_isItem_90 0 0 rfl rfl rfl dX7_isItem_108 rfl ?_
                        refine zr_imul (v := (nI (5 * mrm))) (pc2 := 112) O dX7_isItem_111 (pk_mul 5 mrm) rfl ?_
                        refine zr_iload_n (pc2 := 113) O dX7_isItem_112 rfl 0 rfl rfl ?_
                        refine zr_iadd (v := (nI ((5 * mrm) + k))) (pc2 := 114) O dX7_isItem_113 (nI_add (5 * mrm) k) rfl ?_
                        refine zr_iload_n (pc2 := 115) O dX7_isItem_114 rfl 0 rfl rfl ?_
                        refine zr_iconst (v := (nI 4)) (pc2 := 116) O dX7_isItem_115 (by decide +kernel) rfl ?_
                        refine zn_icmp_ne (tgt := 123) (pc2 := 119) O dX7_isItem_116 (by decide) rfl (by omega) (by omega) (fun c116 => ?_) (fun c116 => ?_)
                        · refine zr_aload_n (pc2 := 124) O dX7_isItem_123 rfl 3 rfl rfl ?_
                          refine zr_getf (v := .ref (m 3)) (pc2 := 127) O sF_X7_isItem_13 0 0 rfl rfl rfl dX7_isItem_124 rfl ?_
                          refine zr_iload_n (pc2 := 128) O dX7_isItem_127 rfl 0 rfl rfl ?_
                          refine zn_iald (j := k) (pc2 := 129) O 0 2 0 rfl rfl rfl rfl (by omega) (by decide) dX7_isItem_128 rfl ?_
                          refine zn_iast (j := ((5 * mrm) + k)) (G2 := modW cI m mle u36.2.1 mfa mrm mrw mP mQ mbk mkp msg mwm mrs msd mls mhd mtx u36.2.2 (upd mrd9 ((5 * mrm) + k) (u36.2.2 k)) mrl mpe mno mbo mim msi mwi mon mdi mco mgo mbr mca) (ws2 := [modW cI m mle u36.2.1 mfa mrm mrw mP mQ mbk mkp msg mwm mrs msd mls mhd mtx u36.2.2 (upd mrd9 ((5 * mrm) + k) (u36.2.2 k)) mrl mpe mno mbo mim msi mwi mon mdi mco mgo mbr mca]) (pc2 := 130) O 0 3 0 rfl rfl rfl rfl (by omega) (by decide) dX7_isItem_129 rfl rfl rfl ?_
                          refine zr_iinc (v := (nI (k + 1))) (lv2 := [(3, .int (nI (k + 1))), (2, .int (nI 1)), (1, .int (s_X7_letterAt mle mtx mpo)), (0, .ref (m 31))]) (pc2 := 133) O dX7_isItem_130 0 rfl (zm_ofInt1 k) (by decide) rfl rfl ?_
                          refine zr_goto (tgt := 93) O dX7_isItem_133 (by decide) ?_
                          have hE : f_X7_isItem_93 mrm u36 (n9 + 1) k mrd9 = f_X7_isItem_93 mrm u36 n9 (k + 1) (upd mrd9 ((5 * mrm) + k) (u36.2.2 k)) := by exact (if_neg c116)
                          exact ih93 (k + 1) (upd mrd9 ((5 * mrm) + k) (u36.2.2 k)) (by omega) (hF93.trans hE)
                        · refine zr_iconst (v := (nI 0)) (pc2 := 120) O dX7_isItem_119 (by decide +kernel) rfl ?_
                          refine zr_goto (tgt := 129) O dX7_isItem_120 (by decide) ?_
                          refine zn_iast (j := ((5 * mrm) + k)) (G2 := modW cI m mle u36.2.1 mfa mrm mrw mP mQ mbk mkp msg mwm mrs msd mls mhd mtx u36.2.2 (upd mrd9 ((5 * mrm) + k) (nI 0)) mrl mpe mno mbo mim msi mwi mon mdi mco mgo mbr mca) (ws2 := [modW cI m mle u36.2.1 mfa mrm mrw mP mQ mbk mkp msg mwm mrs msd mls mhd mtx u36.2.2 (upd mrd9 ((5 * mrm) + k) (nI 0)) mrl mpe mno mbo mim msi mwi mon mdi mco mgo mbr mca]) (pc2 := 130) O 0 3 0 rfl rfl rfl rfl (by omega) (by decide) dX7_isItem_129 rfl rfl rfl ?_
                          refine zr_iinc (v := (nI (k + 1))) (lv2 := [(3, .int (nI (k + 1))), (2, .int (nI 1)), (1, .int (s_X7_letterAt mle mtx mpo)), (0, .ref (m 31))]) (pc2 := 133) O dX7_isItem_130 0 rfl (zm_ofInt1 k) (by decide) rfl rfl ?_
                          refine zr_goto (tgt := 93) O dX7_isItem_133 (by decide) ?_
                          have hE : f_X7_isItem_93 mrm u36 (n9 + 1) k mrd9 = f_X7_isItem_93 mrm u36 n9 (k + 1) (upd mrd9 ((5 * mrm) + k) (nI 0)) := by exact (if_pos c116)
                          exact ih93 (k + 1) (upd mrd9 ((5 * mrm) + k) (nI 0)) (by omega) (hF93.trans hE)
                exact lp93 5 0 mrd (by omega) rfl
theorem row15_ge (mle : Nat) (mtx : zF) (p : Nat) : p ≤ (f_X7_isRow_15 mle mtx p 2 (nI 0) p).2 := by
  rw [row15_eq]
  repeat' split
  all_goals (dsimp only; omega)
theorem row2_ge (mle : Nat) (mtx : zF) (sz : Nat) : ∀ (n9 k pos : Nat) (nu : zF), pos ≤ (f_X7_isRow_2 mle mtx sz n9 k pos nu).2.1
  | 0, k, pos, nu => Nat.le_refl _
  | n9 + 1, k, pos, nu => by
    have h0 := row15_ge mle mtx pos
    unfold f_X7_isRow_2
    dsimp only
    repeat' split
    all_goals first
      | exact h0
      | exact Nat.le_trans (Nat.le_trans h0 (Nat.le_succ _)) (row2_ge mle mtx sz n9 (k + 1) _ _)
theorem isRow_ge (mle mpo : Nat) (mtx mnu : zF) (sz : Nat) : mpo ≤ (s_X7_isRow mle mpo mtx mnu sz).2.1 := row2_ge mle mtx sz sz 0 mpo mnu
theorem isItem_ok {mle mpo mrm mrw : Nat} {mrs : Int32} {mtx mnu mrd mrl : zF} (h1 : mrm ≤ 6) (h2 : mrw ≤ 9) :
    mpo + 1 ≤ (s_X7_isItem mle mpo mrm mrw mrs mtx mnu mrd mrl).2.1 ∧ (s_X7_isItem mle mpo mrm mrw mrs mtx mnu mrd mrl).2.1 ≤ mpo + 13 ∧ ((s_X7_isItem mle mpo mrm mrw mrs mtx mnu mrd mrl).1 = true → (s_X7_isItem mle mpo mrm mrw mrs mtx mnu mrd mrl).2.2.1 ≤ 6 ∧ (s_X7_isItem mle mpo mrm mrw mrs mtx mnu mrd mrl).2.2.2.1 ≤ 9) := by
  have a1 := isRow_le mle (mpo + 1) mtx mnu (show 1 ≤ 4 by decide)
  have a2 := isRow_le mle (mpo + 1) mtx mnu (show 2 ≤ 4 by decide)
  have a3 := isRow_le mle (mpo + 1) mtx mnu (show 3 ≤ 4 by decide)
  have a4 := isRow_le mle (mpo + 1) mtx mnu (show 4 ≤ 4 by decide)
  have b1 := isRow_ge mle (mpo + 1) mtx mnu 1
  have b2 := isRow_ge mle (mpo + 1) mtx mnu 2
  have b3 := isRow_ge mle (mpo + 1) mtx mnu 3
  have b4 := isRow_ge mle (mpo + 1) mtx mnu 4
  unfold s_X7_isItem
  dsimp only
  repeat' split
  all_goals (dsimp only; refine ⟨by omega, by omega, fun hh => ?_⟩; first | (exact absurd hh (by decide)) | (constructor <;> omega))
/-! X7_isRead -/
def f_X7_isRead_20 (mle : Nat) (mtx : zF) : Nat → Nat → Nat → Nat → Nat → Int32 → zF → zF → zF → Bool × Nat × Nat × Nat × Nat × Int32 × zF × zF × zF
  | 0, mpo9, mfa9, mrm9, mrw9, mrs9, mnu9, mrd9, mrl9 => (true, mpo9, mfa9, mrm9, mrw9, mrs9, mnu9, mrd9, mrl9)
  | n9 + 1, mpo9, mfa9, mrm9, mrw9, mrs9, mnu9, mrd9, mrl9 => if mle ≤ mpo9 then (true, mpo9, mfa9, mrm9, mrw9, mrs9, mnu9, mrd9, mrl9) else let u40 := s_X7_isItem mle mpo9 mrm9 mrw9 mrs9 mtx mnu9 mrd9 mrl9; if u40.1 = true then f_X7_isRead_20 mle mtx n9 u40.2.1 mpo9 u40.2.2.1 u40.2.2.2.1 u40.2.2.2.2.1 u40.2.2.2.2.2.1 u40.2.2.2.2.2.2.1 u40.2.2.2.2.2.2.2 else (false, u40.2.1, mpo9, u40.2.2.1, u40.2.2.2.1, u40.2.2.2.2.1, u40.2.2.2.2.2.1, u40.2.2.2.2.2.2.1, u40.2.2.2.2.2.2.2)
def s_X7_isRead (mle : Nat) (mfa : Nat) (mtx : zF) (mnu : zF) (mrd : zF) (mrl : zF) : Bool × Nat × Nat × Nat × Nat × Int32 × zF × zF × zF := f_X7_isRead_20 mle mtx mle 0 mfa 0 0 (nI 0) mnu mrd mrl
set_option maxHeartbeats 4000000 in
set_option maxRecDepth 100000 in
theorem c_X7_isRead (l : Launch) (D : va_G) (cI cC cJ : ClassId) (m : Nat → Nat) (mle : Nat) (mpo : Nat) (mfa : Nat) (mrm : Nat) (mrw : Nat) (mP : Nat) (mQ : Nat) (mbk : Nat) (mkp : Nat) (msg : Nat) (mwm : Nat) (mrs : Int32) (msd : Int32) (mls : Int32) (mhd : Int32) (mtx : zF) (mnu : zF) (mrd : zF) (mrl : zF) (mpe : zF) (mno : zF) (mbo : zF) (mim : zF) (msi : zF) (mwi : zF) (mon : zF) (mdi : zF) (mco : zF) (mgo : zF) (mbr : zF) (mca : zF) (hml : mle ≤ 200) : zD l yX7_isRead wsX7_isRead rm_X7_isRead D (zT cI cC cJ) [.ref (m 31)] [modW cI m mle mpo mfa mrm mrw mP mQ mbk mkp msg mwm mrs msd mls mhd mtx mnu mrd mrl mpe mno mbo mim msi mwi mon mdi mco mgo mbr mca] (some (.int (zb ((s_X7_isRead mle mfa mtx mnu mrd mrl).1)))) [modW cI m mle ((s_X7_isRead mle mfa mtx mnu mrd mrl).2.1) ((s_X7_isRead mle mfa mtx mnu mrd mrl).2.2.1) ((s_X7_isRead mle mfa mtx mnu mrd mrl).2.2.2.1) ((s_X7_isRead mle mfa mtx mnu mrd mrl).2.2.2.2.1) mP mQ mbk mkp msg mwm ((s_X7_isRead mle mfa mtx mnu mrd mrl).2.2.2.2.2.1) msd mls mhd mtx ((s_X7_isRead mle mfa mtx mnu mrd mrl).2.2.2.2.2.2.1) ((s_X7_isRead mle mfa mtx mnu mrd mrl).2.2.2.2.2.2.2.1) ((s_X7_isRead mle mfa mtx mnu mrd mrl).2.2.2.2.2.2.2.2) mpe mno mbo mim msi mwi mon mdi mco mgo mbr mca] := by
  refine zD_int (cc := cX7_isRead) (maxL := 1) (ty := .boolean) (lv := [(0, .ref (m 31))]) (by decide +kernel) rfl (Nat.le_of_ble_eq_true rfl) rfl (fun Z O hret => ?_)
  refine zr_aload_n (pc2 := 1) O dX7_isRead_0 rfl 0 rfl rfl ?_
  refine zr_iconst (v := (nI 0)) (pc2 := 2) O dX7_isRead_1 (by decide +kernel) rfl ?_
  refine zr_putf (G2 := modW cI m mle 0 mfa mrm mrw mP mQ mbk mkp msg mwm mrs msd mls mhd mtx mnu mrd mrl mpe mno mbo mim msi mwi mon mdi mco mgo mbr mca) (ws2 := [modW cI m mle 0 mfa mrm mrw mP mQ mbk mkp msg mwm mrs msd mls mhd mtx mnu mrd mrl mpe mno mbo mim msi mwi mon mdi mco mgo mbr mca]) (pc2 := 5) O sP_X7_isRead_83 0 0 rfl rfl rfl rfl (Nat.le_of_ble_eq_true rfl) dX7_isRead_2 rfl rfl rfl ?_
  refine zr_aload_n (pc2 := 6) O dX7_isRead_5 rfl 0 rfl rfl ?_
  refine zr_iconst (v := (nI 0)) (pc2 := 7) O dX7_isRead_6 (by decide +kernel) rfl ?_
  refine zr_putf (G2 := modW cI m mle 0 mfa 0 mrw mP mQ mbk mkp msg mwm mrs msd mls mhd mtx mnu mrd mrl mpe mno mbo mim msi mwi mon mdi mco mgo mbr mca) (ws2 := [modW cI m mle 0 mfa 0 mrw mP mQ mbk mkp msg mwm mrs msd mls mhd mtx mnu mrd mrl mpe mno mbo mim msi mwi mon mdi mco mgo mbr mca]) (pc2 := 10) O sP_X7_isRead_90 0 0 rfl rfl rfl rfl (Nat.le_of_ble_eq_true rfl) dX7_isRead_7 rfl rfl rfl ?_
  refine zr_aload_n (pc2 := 11) O dX7_isRead_10 rfl 0 rfl rfl ?_
  refine zr_iconst (v := (nI 0)) (pc2 := 12) O dX7_isRead_11 (by decide +kernel) rfl ?_
  refine zr_putf (G2 := modW cI m mle 0 mfa 0 0 mP mQ mbk mkp msg mwm mrs msd mls mhd mtx mnu mrd mrl mpe mno mbo mim msi mwi mon mdi mco mgo mbr mca) (ws2 := [modW cI m mle 0 mfa 0 0 mP mQ mbk mkp msg mwm mrs msd mls mhd mtx mnu mrd mrl mpe mno mbo mim msi mwi mon mdi mco mgo mbr mca]) (pc2 := 15) O sP_X7_isRead_97 0 0 rfl rfl rfl rfl (Nat.le_of_ble_eq_true rfl) dX7_isRead_12 rfl rfl rfl ?_
  refine zr_aload_n (pc2 := 16) O dX7_isRead_15 rfl 0 rfl rfl ?_
  refine zr_iconst (v := (nI 0)) (pc2 := 17) O dX7_isRead_16 (by decide +kernel) rfl ?_
  refine zr_putf (G2 := modW cI m mle 0 mfa 0 0 mP mQ mbk mkp msg mwm (nI 0) msd mls mhd mtx mnu mrd mrl mpe mno mbo mim msi mwi mon mdi mco mgo mbr mca) (ws2 := [modW cI m mle 0 mfa 0 0 mP mQ mbk mkp msg mwm (nI 0) msd mls mhd mtx mnu mrd mrl mpe mno mbo mim msi mwi mon mdi mco mgo mbr mca]) (pc2 := 20) O sP_X7_isRead_100 0 0 rfl rfl rfl rfl (Nat.le_of_ble_eq_true rfl) dX7_isRead_17 rfl rfl rfl ?_
  have hS20 : s_X7_isRead mle mfa mtx mnu mrd mrl = f_X7_isRead_20 mle mtx mle 0 mfa 0 0 (nI 0) mnu mrd mrl := by exact rfl
  have lp20 : ∀ (n9 : Nat) (mpo9 : Nat) (mfa9 : Nat) (mrm9 : Nat) (mrw9 : Nat) (mrs9 : Int32) (mnu9 : zF) (mrd9 : zF) (mrl9 : zF), mle ≤ mpo9 + n9 → (mpo9 ≤ 230) → (mrm9 ≤ 6) → (mrw9 ≤ 9) → f_X7_isRead_20 mle mtx mle 0 mfa 0 0 (nI 0) mnu mrd mrl = f_X7_isRead_20 mle mtx n9 mpo9 mfa9 mrm9 mrw9 mrs9 mnu9 mrd9 mrl9 → Z [modW cI m mle mpo9 mfa9 mrm9 mrw9 mP mQ mbk mkp msg mwm mrs9 msd mls mhd mtx mnu9 mrd9 mrl9 mpe mno mbo mim msi mwi mon mdi mco mgo mbr mca] [(0, .ref (m 31))] 20 [] := by
    intro n9
    induction n9 with
    | zero =>
      intro mpo9 mfa9 mrm9 mrw9 mrs9 mnu9 mrd9 mrl9 hM20 hi1 hi2 hi3 hF20
      refine zr_aload_n (pc2 := 21) O dX7_isRead_20 rfl 0 rfl rfl ?_
      refine zr_getf (v := .int (nI mpo9)) (pc2 := 24) O sF_X7_isRead_83 0 0 rfl rfl rfl dX7_isRead_21 rfl ?_
      refine zr_aload_n (pc2 := 25) O dX7_isRead_24 rfl 0 rfl rfl ?_
      refine zr_getf (v := .int (nI mle)) (pc2 := 28) O sF_X7_isRead_80 0 0 rfl rfl rfl dX7_isRead_25 rfl ?_
      refine zn_icmp_ge (tgt := 48) (pc2 := 31) O dX7_isRead_28 (by decide) rfl (by omega) (by omega) (fun c28 => ?_) (fun c28 => ?_)
      · refine zr_iconst (v := (nI 1)) (pc2 := 49) O dX7_isRead_48 (by decide +kernel) rfl ?_
        have hE : f_X7_isRead_20 mle mtx 0 mpo9 mfa9 mrm9 mrw9 mrs9 mnu9 mrd9 mrl9 = (true, mpo9, mfa9, mrm9, mrw9, mrs9, mnu9, mrd9, mrl9) := by exact rfl
        have hE := hS20.trans (hF20.trans hE)
        exact hret _ _ _ _ dX7_isRead_49 (by decide +kernel) (by rw [hE]; rfl) (by rw [hE])
      · exact absurd c28 (by omega)
    | succ n9 ih20 =>
      intro mpo9 mfa9 mrm9 mrw9 mrs9 mnu9 mrd9 mrl9 hM20 hi1 hi2 hi3 hF20
      refine zr_aload_n (pc2 := 21) O dX7_isRead_20 rfl 0 rfl rfl ?_
      refine zr_getf (v := .int (nI mpo9)) (pc2 := 24) O sF_X7_isRead_83 0 0 rfl rfl rfl dX7_isRead_21 rfl ?_
      refine zr_aload_n (pc2 := 25) O dX7_isRead_24 rfl 0 rfl rfl ?_
      refine zr_getf (v := .int (nI mle)) (pc2 := 28) O sF_X7_isRead_80 0 0 rfl rfl rfl dX7_isRead_25 rfl ?_
      refine zn_icmp_ge (tgt := 48) (pc2 := 31) O dX7_isRead_28 (by decide) rfl (by omega) (by omega) (fun c28 => ?_) (fun c28 => ?_)
      · refine zr_iconst (v := (nI 1)) (pc2 := 49) O dX7_isRead_48 (by decide +kernel) rfl ?_
        have hE : f_X7_isRead_20 mle mtx (n9 + 1) mpo9 mfa9 mrm9 mrw9 mrs9 mnu9 mrd9 mrl9 = (true, mpo9, mfa9, mrm9, mrw9, mrs9, mnu9, mrd9, mrl9) := by exact (if_pos c28)
        have hE := hS20.trans (hF20.trans hE)
        exact hret _ _ _ _ dX7_isRead_49 (by decide +kernel) (by rw [hE]; rfl) (by rw [hE])
      · refine zr_aload_n (pc2 := 32) O dX7_isRead_31 rfl 0 rfl rfl ?_
        refine zr_aload_n (pc2 := 33) O dX7_isRead_32 rfl 0 rfl rfl ?_
        refine zr_getf (v := .int (nI mpo9)) (pc2 := 36) O sF_X7_isRead_83 0 0 rfl rfl rfl dX7_isRead_33 rfl ?_
        refine zr_putf (G2 := modW cI m mle mpo9 mpo9 mrm9 mrw9 mP mQ mbk mkp msg mwm mrs9 msd mls mhd mtx mnu9 mrd9 mrl9 mpe mno mbo mim msi mwi mon mdi mco mgo mbr mca) (ws2 := [modW cI m mle mpo9 mpo9 mrm9 mrw9 mP mQ mbk mkp msg mwm mrs9 msd mls mhd mtx mnu9 mrd9 mrl9 mpe mno mbo mim msi mwi mon mdi mco mgo mbr mca]) (pc2 := 39) O sP_X7_isRead_103 0 0 rfl rfl rfl rfl (Nat.le_of_ble_eq_true rfl) dX7_isRead_36 rfl rfl rfl ?_
        refine zr_aload_n (pc2 := 40) O dX7_isRead_39 rfl 0 rfl rfl ?_
        obtain ⟨u40, hu40⟩ : ∃ z9, z9 = s_X7_isItem mle mpo9 mrm9 mrw9 mrs9 mtx mnu9 mrd9 mrl9 := ⟨_, rfl⟩
        refine zr_callV (As := []) (rest := []) (ws2 := [modW cI m mle u40.2.1 mpo9 u40.2.2.1 u40.2.2.2.1 mP mQ mbk mkp msg mwm u40.2.2.2.2.1 msd mls mhd mtx u40.2.2.2.2.2.1 u40.2.2.2.2.2.2.1 u40.2.2.2.2.2.2.2 mpe mno mbo mim msi mwi mon mdi mco mgo mbr mca]) (pc2 := 43) (ci := 7) (g0 := 0) (q0 := 0) (v := (some (.int (zb u40.1)))) (W := [modW cI m mle mpo9 mpo9 mrm9 mrw9 mP mQ mbk mkp msg mwm mrs9 msd mls mhd mtx mnu9 mrd9 mrl9 mpe mno mbo mim msi mwi mon mdi mco mgo mbr mca]) (W2 := [modW cI m mle u40.2.1 mpo9 u40.2.2.1 u40.2.2.2.1 mP mQ mbk mkp msg mwm u40.2.2.2.2.1 msd mls mhd mtx u40.2.2.2.2.2.1 u40.2.2.2.2.2.2.1 u40.2.2.2.2.2.2.2 mpe mno mbo mim msi mwi mon mdi mco mgo mbr mca]) O (by rw [hu40]; exact (c_X7_isItem l D cI cC cJ m mle mpo9 mpo9 mrm9 mrw9 mP mQ mbk mkp msg mwm mrs9 msd mls mhd mtx mnu9 mrd9 mrl9 mpe mno mbo mim msi mwi mon mdi mco mgo mbr mca (by first | assumption | omega) (by first | assumption | omega) (by first | assumption | omega) (by first | assumption | omega))) sC_X7_isRead_106 rfl rfl rfl rfl rfl dX7_isRead_40 [0] rfl rfl rfl rfl (Nat.le_of_ble_eq_true rfl) rfl ?_
        show Z _ _ _ [.int (zb u40.1)]
        refine zb_if_ne (tgt := 20) (pc2 := 46) O dX7_isRead_43 (by decide) rfl (fun c43 => ?_) (fun c43 => ?_)
        · have hE : f_X7_isRead_20 mle mtx (n9 + 1) mpo9 mfa9 mrm9 mrw9 mrs9 mnu9 mrd9 mrl9 = f_X7_isRead_20 mle mtx n9 u40.2.1 mpo9 u40.2.2.1 u40.2.2.2.1 u40.2.2.2.2.1 u40.2.2.2.2.2.1 u40.2.2.2.2.2.2.1 u40.2.2.2.2.2.2.2 := by subst hu40; exact ((if_neg c28).trans (zif_t c43))
          exact ih20 u40.2.1 mpo9 u40.2.2.1 u40.2.2.2.1 u40.2.2.2.2.1 u40.2.2.2.2.2.1 u40.2.2.2.2.2.2.1 u40.2.2.2.2.2.2.2 (by subst hu40; have h9 := isItem_ok (mle := mle) (mpo := mpo9) (mrs := mrs9) (mtx := mtx) (mnu := mnu9) (mrd := mrd9) (mrl := mrl9) hi2 hi3; omega) (by subst hu40; have h9 := isItem_ok (mle := mle) (mpo := mpo9) (mrs := mrs9) (mtx := mtx) (mnu := mnu9) (mrd := mrd9) (mrl := mrl9) hi2 hi3; omega) (by subst hu40; exact ((isItem_ok hi2 hi3).2.2 c43).1) (by subst hu40; exact ((isItem_ok hi2 hi3).2.2 c43).2) (hF20.trans hE)
        · refine zr_iconst (v := (nI 0)) (pc2 := 47) O dX7_isRead_46 (by decide +kernel) rfl ?_
          have hE : f_X7_isRead_20 mle mtx (n9 + 1) mpo9 mfa9 mrm9 mrw9 mrs9 mnu9 mrd9 mrl9 = (false, u40.2.1, mpo9, u40.2.2.1, u40.2.2.2.1, u40.2.2.2.2.1, u40.2.2.2.2.2.1, u40.2.2.2.2.2.2.1, u40.2.2.2.2.2.2.2) := by subst hu40; exact ((if_neg c28).trans (zif_f c43))
          have hE := hS20.trans (hF20.trans hE)
          exact hret _ _ _ _ dX7_isRead_47 (by decide +kernel) (by rw [hE]; rfl) (by rw [hE])
  exact lp20 mle 0 mfa 0 0 (nI 0) mnu mrd mrl (by omega) (by decide) (by decide) (by decide) rfl
/-! X7_fault -/
def s_X7_fault (mle : Nat) (mfa : Nat) (mtx : zF) (mnu : zF) (mrd : zF) (mrl : zF) : Int32 × Nat × Nat × Nat × Nat × Int32 × zF × zF × zF := let u1 := s_X7_isRead mle mfa mtx mnu mrd mrl; if u1.1 = true then ((-4), u1.2.1, u1.2.2.1, u1.2.2.2.1, u1.2.2.2.2.1, u1.2.2.2.2.2.1, u1.2.2.2.2.2.2.1, u1.2.2.2.2.2.2.2.1, u1.2.2.2.2.2.2.2.2) else ((nI u1.2.2.1), u1.2.1, u1.2.2.1, u1.2.2.2.1, u1.2.2.2.2.1, u1.2.2.2.2.2.1, u1.2.2.2.2.2.2.1, u1.2.2.2.2.2.2.2.1, u1.2.2.2.2.2.2.2.2)
set_option maxHeartbeats 4000000 in
set_option maxRecDepth 100000 in
theorem c_X7_fault (l : Launch) (D : va_G) (cI cC cJ : ClassId) (m : Nat → Nat) (mle : Nat) (mpo : Nat) (mfa : Nat) (mrm : Nat) (mrw : Nat) (mP : Nat) (mQ : Nat) (mbk : Nat) (mkp : Nat) (msg : Nat) (mwm : Nat) (mrs : Int32) (msd : Int32) (mls : Int32) (mhd : Int32) (mtx : zF) (mnu : zF) (mrd : zF) (mrl : zF) (mpe : zF) (mno : zF) (mbo : zF) (mim : zF) (msi : zF) (mwi : zF) (mon : zF) (mdi : zF) (mco : zF) (mgo : zF) (mbr : zF) (mca : zF) (hml : mle ≤ 200) : zD l yX7_fault wsX7_fault rm_X7_fault D (zT cI cC cJ) [.ref (m 31)] [modW cI m mle mpo mfa mrm mrw mP mQ mbk mkp msg mwm mrs msd mls mhd mtx mnu mrd mrl mpe mno mbo mim msi mwi mon mdi mco mgo mbr mca] (some (.int ((s_X7_fault mle mfa mtx mnu mrd mrl).1))) [modW cI m mle ((s_X7_fault mle mfa mtx mnu mrd mrl).2.1) ((s_X7_fault mle mfa mtx mnu mrd mrl).2.2.1) ((s_X7_fault mle mfa mtx mnu mrd mrl).2.2.2.1) ((s_X7_fault mle mfa mtx mnu mrd mrl).2.2.2.2.1) mP mQ mbk mkp msg mwm ((s_X7_fault mle mfa mtx mnu mrd mrl).2.2.2.2.2.1) msd mls mhd mtx ((s_X7_fault mle mfa mtx mnu mrd mrl).2.2.2.2.2.2.1) ((s_X7_fault mle mfa mtx mnu mrd mrl).2.2.2.2.2.2.2.1) ((s_X7_fault mle mfa mtx mnu mrd mrl).2.2.2.2.2.2.2.2) mpe mno mbo mim msi mwi mon mdi mco mgo mbr mca] := by
  refine zD_int (cc := cX7_fault) (maxL := 1) (ty := .int) (lv := [(0, .ref (m 31))]) (by decide +kernel) rfl (Nat.le_of_ble_eq_true rfl) rfl (fun Z O hret => ?_)
  refine zr_aload_n (pc2 := 1) O dX7_fault_0 rfl 0 rfl rfl ?_
  obtain ⟨u1, hu1⟩ : ∃ z9, z9 = s_X7_isRead mle mfa mtx mnu mrd mrl := ⟨_, rfl⟩
  refine zr_callV (As := []) (rest := []) (ws2 := [modW cI m mle u1.2.1 u1.2.2.1 u1.2.2.2.1 u1.2.2.2.2.1 mP mQ mbk mkp msg mwm u1.2.2.2.2.2.1 msd mls mhd mtx u1.2.2.2.2.2.2.1 u1.2.2.2.2.2.2.2.1 u1.2.2.2.2.2.2.2.2 mpe mno mbo mim msi mwi mon mdi mco mgo mbr mca]) (pc2 := 4) (ci := 7) (g0 := 0) (q0 := 0) (v := (some (.int (zb u1.1)))) (W := [modW cI m mle mpo mfa mrm mrw mP mQ mbk mkp msg mwm mrs msd mls mhd mtx mnu mrd mrl mpe mno mbo mim msi mwi mon mdi mco mgo mbr mca]) (W2 := [modW cI m mle u1.2.1 u1.2.2.1 u1.2.2.2.1 u1.2.2.2.2.1 mP mQ mbk mkp msg mwm u1.2.2.2.2.2.1 msd mls mhd mtx u1.2.2.2.2.2.2.1 u1.2.2.2.2.2.2.2.1 u1.2.2.2.2.2.2.2.2 mpe mno mbo mim msi mwi mon mdi mco mgo mbr mca]) O (by rw [hu1]; exact (c_X7_isRead l D cI cC cJ m mle mpo mfa mrm mrw mP mQ mbk mkp msg mwm mrs msd mls mhd mtx mnu mrd mrl mpe mno mbo mim msi mwi mon mdi mco mgo mbr mca (by first | assumption | omega))) sC_X7_fault_110 rfl rfl rfl rfl rfl dX7_fault_1 [0] rfl rfl rfl rfl (Nat.le_of_ble_eq_true rfl) rfl ?_
  show Z _ _ _ [.int (zb u1.1)]
  refine zb_if_eq (tgt := 12) (pc2 := 7) O dX7_fault_4 (by decide) rfl (fun c4 => ?_) (fun c4 => ?_)
  · refine zr_aload_n (pc2 := 13) O dX7_fault_12 rfl 0 rfl rfl ?_
    refine zr_getf (v := .int (nI u1.2.2.1)) (pc2 := 16) O sF_X7_fault_103 0 0 rfl rfl rfl dX7_fault_13 rfl ?_
    have hE : s_X7_fault mle mfa mtx mnu mrd mrl = ((nI u1.2.2.1), u1.2.1, u1.2.2.1, u1.2.2.2.1, u1.2.2.2.2.1, u1.2.2.2.2.2.1, u1.2.2.2.2.2.2.1, u1.2.2.2.2.2.2.2.1, u1.2.2.2.2.2.2.2.2) := by subst hu1; exact (zif_f c4)
    exact hret _ _ _ _ dX7_fault_16 rfl (by rw [hE]) (by rw [hE])
  · refine zr_bipush (v := (-4)) (pc2 := 9) O dX7_fault_7 (by decide +kernel) rfl ?_
    refine zr_goto (tgt := 16) O dX7_fault_9 (by decide) ?_
    have hE : s_X7_fault mle mfa mtx mnu mrd mrl = ((-4), u1.2.1, u1.2.2.1, u1.2.2.2.1, u1.2.2.2.2.1, u1.2.2.2.2.2.1, u1.2.2.2.2.2.2.1, u1.2.2.2.2.2.2.2.1, u1.2.2.2.2.2.2.2.2) := by subst hu1; exact (zif_t c4)
    exact hret _ _ _ _ dX7_fault_16 rfl (by rw [hE]) (by rw [hE])
theorem read20_ok (mle : Nat) (mtx : zF) : ∀ (n9 mpo mfa mrm mrw : Nat) (mrs : Int32) (mnu mrd mrl : zF), mrm ≤ 6 → mrw ≤ 9 → ((f_X7_isRead_20 mle mtx n9 mpo mfa mrm mrw mrs mnu mrd mrl).1 = true → (f_X7_isRead_20 mle mtx n9 mpo mfa mrm mrw mrs mnu mrd mrl).2.2.2.1 ≤ 6 ∧ (f_X7_isRead_20 mle mtx n9 mpo mfa mrm mrw mrs mnu mrd mrl).2.2.2.2.1 ≤ 9)
  | 0, mpo, mfa, mrm, mrw, mrs, mnu, mrd, mrl, h1, h2 => fun _ => ⟨h1, h2⟩
  | n9 + 1, mpo, mfa, mrm, mrw, mrs, mnu, mrd, mrl, h1, h2 => by
    unfold f_X7_isRead_20
    dsimp only
    split
    · exact fun _ => ⟨h1, h2⟩
    · split
      · have h9 := (isItem_ok (mle := mle) (mpo := mpo) (mrs := mrs) (mtx := mtx) (mnu := mnu) (mrd := mrd) (mrl := mrl) h1 h2).2.2 (by assumption)
        exact read20_ok mle mtx n9 _ _ _ _ _ _ _ _ h9.1 h9.2
      · intro h; cases h
theorem isRead_ok {mle mfa : Nat} {mtx mnu mrd mrl : zF} (h : (s_X7_isRead mle mfa mtx mnu mrd mrl).1 = true) : (s_X7_isRead mle mfa mtx mnu mrd mrl).2.2.2.1 ≤ 6 ∧ (s_X7_isRead mle mfa mtx mnu mrd mrl).2.2.2.2.1 ≤ 9 := by
  exact read20_ok mle mtx mle 0 mfa 0 0 (nI 0) mnu mrd mrl (by decide) (by decide) h
/-! X7_lay -/
def f_X7_lay_43 (u1 : Bool × Nat × Nat × Nat × Nat × Int32 × zF × zF × zF) : Nat → Nat → zF → zF
  | 0, _, mpe9 => mpe9
  | n9 + 1, k, mpe9 => f_X7_lay_43 u1 n9 (k + 1) (upd mpe9 k (u1.2.2.2.2.2.2.2.1 k))
def f_X7_lay_73 (u1 : Bool × Nat × Nat × Nat × Nat × Int32 × zF × zF × zF) : Nat → Nat → zF → zF
  | 0, _, mno9 => mno9
  | n9 + 1, k2, mno9 => if (3 * u1.2.2.2.2.1) ≤ k2 then f_X7_lay_73 u1 n9 (k2 + 1) (upd mno9 k2 (nI 0)) else f_X7_lay_73 u1 n9 (k2 + 1) (upd mno9 k2 (u1.2.2.2.2.2.2.2.2 k2))
def s_X7_lay (mle : Nat) (mfa : Nat) (mP : Nat) (mQ : Nat) (mbk : Nat) (mkp : Nat) (msg : Nat) (msd : Int32) (mtx : zF) (mnu : zF) (mrd : zF) (mrl : zF) (mpe : zF) (mno : zF) : Int32 × Nat × Nat × Nat × Nat × Nat × Nat × Nat × Nat × Nat × Int32 × Int32 × zF × zF × zF × zF × zF := let u1 := s_X7_isRead mle mfa mtx mnu mrd mrl; if u1.1 = true then if u1.2.2.2.1 = 0 then ((-2), u1.2.1, u1.2.2.1, u1.2.2.2.1, u1.2.2.2.2.1, mP, mQ, mbk, mkp, msg, u1.2.2.2.2.2.1, msd, u1.2.2.2.2.2.2.1, u1.2.2.2.2.2.2.2.1, u1.2.2.2.2.2.2.2.2, mpe, mno) else ((nI u1.2.2.2.1), u1.2.1, u1.2.2.1, u1.2.2.2.1, u1.2.2.2.2.1, u1.2.2.2.1, u1.2.2.2.2.1, 0, 0, 0, u1.2.2.2.2.2.1, u1.2.2.2.2.2.1, u1.2.2.2.2.2.2.1, u1.2.2.2.2.2.2.2.1, u1.2.2.2.2.2.2.2.2, (f_X7_lay_43 u1 (5 * u1.2.2.2.1) 0 mpe), (f_X7_lay_73 u1 40 0 mno)) else ((-2), u1.2.1, u1.2.2.1, u1.2.2.2.1, u1.2.2.2.2.1, mP, mQ, mbk, mkp, msg, u1.2.2.2.2.2.1, msd, u1.2.2.2.2.2.2.1, u1.2.2.2.2.2.2.2.1, u1.2.2.2.2.2.2.2.2, mpe, mno)
set_option maxHeartbeats 4000000 in
set_option maxRecDepth 100000 in
theorem c_X7_lay (l : Launch) (D : va_G) (cI cC cJ : ClassId) (m : Nat → Nat) (mle : Nat) (mpo : Nat) (mfa : Nat) (mrm : Nat) (mrw : Nat) (mP : Nat) (mQ : Nat) (mbk : Nat) (mkp : Nat) (msg : Nat) (mwm : Nat) (mrs : Int32) (msd : Int32) (mls : Int32) (mhd : Int32) (mtx : zF) (mnu : zF) (mrd : zF) (mrl : zF) (mpe : zF) (mno : zF) (mbo : zF) (mim : zF) (msi : zF) (mwi : zF) (mon : zF) (mdi : zF) (mco : zF) (mgo : zF) (mbr : zF) (mca : zF) (hml : mle ≤ 200) : zD l yX7_lay wsX7_lay rm_X7_lay D (zT cI cC cJ) [.ref (m 31)] [modW cI m mle mpo mfa mrm mrw mP mQ mbk mkp msg mwm mrs msd mls mhd mtx mnu mrd mrl mpe mno mbo mim msi mwi mon mdi mco mgo mbr mca] (some (.int ((s_X7_lay mle mfa mP mQ mbk mkp msg msd mtx mnu mrd mrl mpe mno).1))) [modW cI m mle ((s_X7_lay mle mfa mP mQ mbk mkp msg msd mtx mnu mrd mrl mpe mno).2.1) ((s_X7_lay mle mfa mP mQ mbk mkp msg msd mtx mnu mrd mrl mpe mno).2.2.1) ((s_X7_lay mle mfa mP mQ mbk mkp msg msd mtx mnu mrd mrl mpe mno).2.2.2.1) ((s_X7_lay mle mfa mP mQ mbk mkp msg msd mtx mnu mrd mrl mpe mno).2.2.2.2.1) ((s_X7_lay mle mfa mP mQ mbk mkp msg msd mtx mnu mrd mrl mpe mno).2.2.2.2.2.1) ((s_X7_lay mle mfa mP mQ mbk mkp msg msd mtx mnu mrd mrl mpe mno).2.2.2.2.2.2.1) ((s_X7_lay mle mfa mP mQ mbk mkp msg msd mtx mnu mrd mrl mpe mno).2.2.2.2.2.2.2.1) ((s_X7_lay mle mfa mP mQ mbk mkp msg msd mtx mnu mrd mrl mpe mno).2.2.2.2.2.2.2.2.1) ((s_X7_lay mle mfa mP mQ mbk mkp msg msd mtx mnu mrd mrl mpe mno).2.2.2.2.2.2.2.2.2.1) mwm ((s_X7_lay mle mfa mP mQ mbk mkp msg msd mtx mnu mrd mrl mpe mno).2.2.2.2.2.2.2.2.2.2.1) ((s_X7_lay mle mfa mP mQ mbk mkp msg msd mtx mnu mrd mrl mpe mno).2.2.2.2.2.2.2.2.2.2.2.1) mls mhd mtx ((s_X7_lay mle mfa mP mQ mbk mkp msg msd mtx mnu mrd mrl mpe mno).2.2.2.2.2.2.2.2.2.2.2.2.1) ((s_X7_lay mle mfa mP mQ mbk mkp msg msd mtx mnu mrd mrl mpe mno).2.2.2.2.2.2.2.2.2.2.2.2.2.1) ((s_X7_lay mle mfa mP mQ mbk mkp msg msd mtx mnu mrd mrl mpe mno).2.2.2.2.2.2.2.2.2.2.2.2.2.2.1) ((s_X7_lay mle mfa mP mQ mbk mkp msg msd mtx mnu mrd mrl mpe mno).2.2.2.2.2.2.2.2.2.2.2.2.2.2.2.1) ((s_X7_lay mle mfa mP mQ mbk mkp msg msd mtx mnu mrd mrl mpe mno).2.2.2.2.2.2.2.2.2.2.2.2.2.2.2.2) mbo mim msi mwi mon mdi mco mgo mbr mca] := by
  refine zD_int (cc := cX7_lay) (maxL := 2) (ty := .int) (lv := [(0, .ref (m 31))]) (by decide +kernel) rfl (Nat.le_of_ble_eq_true rfl) rfl (fun Z O hret => ?_)
  refine zr_aload_n (pc2 := 1) O dX7_lay_0 rfl 0 rfl rfl ?_
  obtain ⟨u1, hu1⟩ : ∃ z9, z9 = s_X7_isRead mle mfa mtx mnu mrd mrl := ⟨_, rfl⟩
  refine zr_callV (As := []) (rest := []) (ws2 := [modW cI m mle u1.2.1 u1.2.2.1 u1.2.2.2.1 u1.2.2.2.2.1 mP mQ mbk mkp msg mwm u1.2.2.2.2.2.1 msd mls mhd mtx u1.2.2.2.2.2.2.1 u1.2.2.2.2.2.2.2.1 u1.2.2.2.2.2.2.2.2 mpe mno mbo mim msi mwi mon mdi mco mgo mbr mca]) (pc2 := 4) (ci := 7) (g0 := 0) (q0 := 0) (v := (some (.int (zb u1.1)))) (W := [modW cI m mle mpo mfa mrm mrw mP mQ mbk mkp msg mwm mrs msd mls mhd mtx mnu mrd mrl mpe mno mbo mim msi mwi mon mdi mco mgo mbr mca]) (W2 := [modW cI m mle u1.2.1 u1.2.2.1 u1.2.2.2.1 u1.2.2.2.2.1 mP mQ mbk mkp msg mwm u1.2.2.2.2.2.1 msd mls mhd mtx u1.2.2.2.2.2.2.1 u1.2.2.2.2.2.2.2.1 u1.2.2.2.2.2.2.2.2 mpe mno mbo mim msi mwi mon mdi mco mgo mbr mca]) O (by rw [hu1]; exact (c_X7_isRead l D cI cC cJ m mle mpo mfa mrm mrw mP mQ mbk mkp msg mwm mrs msd mls mhd mtx mnu mrd mrl mpe mno mbo mim msi mwi mon mdi mco mgo mbr mca (by first | assumption | omega))) sC_X7_lay_110 rfl rfl rfl rfl rfl dX7_lay_1 [0] rfl rfl rfl rfl (Nat.le_of_ble_eq_true rfl) rfl ?_
  show Z _ _ _ [.int (zb u1.1)]
  refine zb_if_eq (tgt := 14) (pc2 := 7) O dX7_lay_4 (by decide) rfl (fun c4 => ?_) (fun c4 => ?_)
  · refine zr_bipush (v := (-2)) (pc2 := 16) O dX7_lay_14 (by decide +kernel) rfl ?_
    have hE : s_X7_lay mle mfa mP mQ mbk mkp msg msd mtx mnu mrd mrl mpe mno = ((-2), u1.2.1, u1.2.2.1, u1.2.2.2.1, u1.2.2.2.2.1, mP, mQ, mbk, mkp, msg, u1.2.2.2.2.2.1, msd, u1.2.2.2.2.2.2.1, u1.2.2.2.2.2.2.2.1, u1.2.2.2.2.2.2.2.2, mpe, mno) := by subst hu1; exact (zif_f c4)
    exact hret _ _ _ _ dX7_lay_16 rfl (by rw [hE]) (by rw [hE])
  · have h6 : u1.2.2.2.1 ≤ 6 ∧ u1.2.2.2.2.1 ≤ 9 := by subst hu1; exact isRead_ok c4
    refine zr_aload_n (pc2 := 8) O dX7_lay_7 rfl 0 rfl rfl ?_
    refine zr_getf (v := .int (nI u1.2.2.2.1)) (pc2 := 11) O sF_X7_lay_90 0 0 rfl rfl rfl dX7_lay_8 rfl ?_
    refine zn_if_ne (tgt := 17) (pc2 := 14) O dX7_lay_11 (by decide) rfl (by omega) (fun c11 => ?_) (fun c11 => ?_)
    · refine zr_aload_n (pc2 := 18) O dX7_lay_17 rfl 0 rfl rfl ?_
      refine zr_aload_n (pc2 := 19) O dX7_lay_18 rfl 0 rfl rfl ?_
      refine zr_getf (v := .int (nI u1.2.2.2.1)) (pc2 := 22) O sF_X7_lay_90 0 0 rfl rfl rfl dX7_lay_19 rfl ?_
      refine zr_putf (G2 := modW cI m mle u1.2.1 u1.2.2.1 u1.2.2.2.1 u1.2.2.2.2.1 u1.2.2.2.1 mQ mbk mkp msg mwm u1.2.2.2.2.2.1 msd mls mhd mtx u1.2.2.2.2.2.2.1 u1.2.2.2.2.2.2.2.1 u1.2.2.2.2.2.2.2.2 mpe mno mbo mim msi mwi mon mdi mco mgo mbr mca) (ws2 := [modW cI m mle u1.2.1 u1.2.2.1 u1.2.2.2.1 u1.2.2.2.2.1 u1.2.2.2.1 mQ mbk mkp msg mwm u1.2.2.2.2.2.1 msd mls mhd mtx u1.2.2.2.2.2.2.1 u1.2.2.2.2.2.2.2.1 u1.2.2.2.2.2.2.2.2 mpe mno mbo mim msi mwi mon mdi mco mgo mbr mca]) (pc2 := 25) O sP_X7_lay_22 0 0 rfl rfl rfl rfl (Nat.le_of_ble_eq_true rfl) dX7_lay_22 rfl rfl rfl ?_
      refine zr_aload_n (pc2 := 26) O dX7_lay_25 rfl 0 rfl rfl ?_
      refine zr_aload_n (pc2 := 27) O dX7_lay_26 rfl 0 rfl rfl ?_
      refine zr_getf (v := .int (nI u1.2.2.2.2.1)) (pc2 := 30) O sF_X7_lay_97 0 0 rfl rfl rfl dX7_lay_27 rfl ?_
      refine zr_putf (G2 := modW cI m mle u1.2.1 u1.2.2.1 u1.2.2.2.1 u1.2.2.2.2.1 u1.2.2.2.1 u1.2.2.2.2.1 mbk mkp msg mwm u1.2.2.2.2.2.1 msd mls mhd mtx u1.2.2.2.2.2.2.1 u1.2.2.2.2.2.2.2.1 u1.2.2.2.2.2.2.2.2 mpe mno mbo mim msi mwi mon mdi mco mgo mbr mca) (ws2 := [modW cI m mle u1.2.1 u1.2.2.1 u1.2.2.2.1 u1.2.2.2.2.1 u1.2.2.2.1 u1.2.2.2.2.1 mbk mkp msg mwm u1.2.2.2.2.2.1 msd mls mhd mtx u1.2.2.2.2.2.2.1 u1.2.2.2.2.2.2.2.1 u1.2.2.2.2.2.2.2.2 mpe mno mbo mim msi mwi mon mdi mco mgo mbr mca]) (pc2 := 33) O sP_X7_lay_29 0 0 rfl rfl rfl rfl (Nat.le_of_ble_eq_true rfl) dX7_lay_30 rfl rfl rfl ?_
      refine zr_aload_n (pc2 := 34) O dX7_lay_33 rfl 0 rfl rfl ?_
      refine zr_aload_n (pc2 := 35) O dX7_lay_34 rfl 0 rfl rfl ?_
      refine zr_getf (v := .int u1.2.2.2.2.2.1) (pc2 := 38) O sF_X7_lay_100 0 0 rfl rfl rfl dX7_lay_35 rfl ?_
      refine zr_putf (G2 := modW cI m mle u1.2.1 u1.2.2.1 u1.2.2.2.1 u1.2.2.2.2.1 u1.2.2.2.1 u1.2.2.2.2.1 mbk mkp msg mwm u1.2.2.2.2.2.1 u1.2.2.2.2.2.1 mls mhd mtx u1.2.2.2.2.2.2.1 u1.2.2.2.2.2.2.2.1 u1.2.2.2.2.2.2.2.2 mpe mno mbo mim msi mwi mon mdi mco mgo mbr mca) (ws2 := [modW cI m mle u1.2.1 u1.2.2.1 u1.2.2.2.1 u1.2.2.2.2.1 u1.2.2.2.1 u1.2.2.2.2.1 mbk mkp msg mwm u1.2.2.2.2.2.1 u1.2.2.2.2.2.1 mls mhd mtx u1.2.2.2.2.2.2.1 u1.2.2.2.2.2.2.2.1 u1.2.2.2.2.2.2.2.2 mpe mno mbo mim msi mwi mon mdi mco mgo mbr mca]) (pc2 := 41) O sP_X7_lay_32 0 0 rfl rfl rfl rfl (Nat.le_of_ble_eq_true rfl) dX7_lay_38 rfl rfl rfl ?_
      refine zr_iconst (v := (nI 0)) (pc2 := 42) O dX7_lay_41 (by decide +kernel) rfl ?_
      refine zr_istore_n (lv2 := [(1, .int (nI 0)), (0, .ref (m 31))]) (pc2 := 43) O dX7_lay_42 rfl (by decide) rfl rfl ?_
      have lp43 : ∀ (n9 : Nat) (k : Nat) (mpe9 : zF), k + n9 = (5 * u1.2.2.2.1) → f_X7_lay_43 u1 (5 * u1.2.2.2.1) 0 mpe = f_X7_lay_43 u1 n9 k mpe9 → Z [modW cI m mle u1.2.1 u1.2.2.1 u1.2.2.2.1 u1.2.2.2.2.1 u1.2.2.2.1 u1.2.2.2.2.1 mbk mkp msg mwm u1.2.2.2.2.2.1 u1.2.2.2.2.2.1 mls mhd mtx u1.2.2.2.2.2.2.1 u1.2.2.2.2.2.2.2.1 u1.2.2.2.2.2.2.2.2 mpe9 mno mbo mim msi mwi mon mdi mco mgo mbr mca] [(1, .int (nI k)), (0, .ref (m 31))] 43 [] := by
        intro n9
        induction n9 with
        | zero =>
          intro k mpe9 hM43 hF43
          have hI43 : 5 * u1.2.2.2.1 = k := by omega
          subst hI43
          have e9 : (f_X7_lay_43 u1 (5 * u1.2.2.2.1) 0 mpe) = mpe9 := hF43
          subst e9
          refine zr_iload_n (pc2 := 44) O dX7_lay_43 rfl 0 rfl rfl ?_
          refine zr_iconst (v := (nI 5)) (pc2 := 45) O dX7_lay_44 (by decide +kernel) rfl ?_
          refine zr_aload_n (pc2 := 46) O dX7_lay_45 rfl 1 rfl rfl ?_
          refine zr_getf (v := .int (nI u1.2.2.2.1)) (pc2 := 49) O sF_X7_lay_22 0 0 rfl rfl rfl dX7_lay_46 rfl ?_
          refine zr_imul (v := (nI (5 * u1.2.2.2.1))) (pc2 := 50) O dX7_lay_49 (pk_mul 5 u1.2.2.2.1) rfl ?_
          refine zn_icmp_ge (tgt := 71) (pc2 := 53) O dX7_lay_50 (by decide) rfl (by omega) (by omega) (fun c50 => ?_) (fun c50 => ?_)
          · refine zr_iconst (v := (nI 0)) (pc2 := 72) O dX7_lay_71 (by decide +kernel) rfl ?_
            refine zr_istore_n (lv2 := [(1, .int (nI 0)), (0, .ref (m 31))]) (pc2 := 73) O dX7_lay_72 rfl (by decide) rfl rfl ?_
            have lp73 : ∀ (n9 : Nat) (k2 : Nat) (mno9 : zF), k2 + n9 = 40 → f_X7_lay_73 u1 40 0 mno = f_X7_lay_73 u1 n9 k2 mno9 → Z [modW cI m mle u1.2.1 u1.2.2.1 u1.2.2.2.1 u1.2.2.2.2.1 u1.2.2.2.1 u1.2.2.2.2.1 mbk mkp msg mwm u1.2.2.2.2.2.1 u1.2.2.2.2.2.1 mls mhd mtx u1.2.2.2.2.2.2.1 u1.2.2.2.2.2.2.2.1 u1.2.2.2.2.2.2.2.2 (f_X7_lay_43 u1 (5 * u1.2.2.2.1) 0 mpe) mno9 mbo mim msi mwi mon mdi mco mgo mbr mca] [(1, .int (nI k2)), (0, .ref (m 31))] 73 [] := by
              intro n9
              induction n9 with
              | zero =>
                intro k2 mno9 hM73 hF73
                have hI73 : 40 = k2 := by omega
                subst hI73
                have e9 : (f_X7_lay_73 u1 40 0 mno) = mno9 := hF73
                subst e9
                refine zr_iload_n (pc2 := 74) O dX7_lay_73 rfl 0 rfl rfl ?_
                refine zr_bipush (v := (nI 40)) (pc2 := 76) O dX7_lay_74 (by decide +kernel) rfl ?_
                refine zn_icmp_ge (tgt := 111) (pc2 := 79) O dX7_lay_76 (by decide) rfl (by omega) (by omega) (fun c76 => ?_) (fun c76 => ?_)
                · refine zr_aload_n (pc2 := 112) O dX7_lay_111 rfl 1 rfl rfl ?_
                  refine zr_iconst (v := (nI 0)) (pc2 := 113) O dX7_lay_112 (by decide +kernel) rfl ?_
                  refine zr_putf (G2 := modW cI m mle u1.2.1 u1.2.2.1 u1.2.2.2.1 u1.2.2.2.2.1 u1.2.2.2.1 u1.2.2.2.2.1 mbk mkp 0 mwm u1.2.2.2.2.2.1 u1.2.2.2.2.2.1 mls mhd mtx u1.2.2.2.2.2.2.1 u1.2.2.2.2.2.2.2.1 u1.2.2.2.2.2.2.2.2 (f_X7_lay_43 u1 (5 * u1.2.2.2.1) 0 mpe) (f_X7_lay_73 u1 40 0 mno) mbo mim msi mwi mon mdi mco mgo mbr mca) (ws2 := [modW cI m mle u1.2.1 u1.2.2.1 u1.2.2.2.1 u1.2.2.2.2.1 u1.2.2.2.1 u1.2.2.2.2.1 mbk mkp 0 mwm u1.2.2.2.2.2.1 u1.2.2.2.2.2.1 mls mhd mtx u1.2.2.2.2.2.2.1 u1.2.2.2.2.2.2.2.1 u1.2.2.2.2.2.2.2.2 (f_X7_lay_43 u1 (5 * u1.2.2.2.1) 0 mpe) (f_X7_lay_73 u1 40 0 mno) mbo mim msi mwi mon mdi mco mgo mbr mca]) (pc2 := 116) O sP_X7_lay_113 0 0 rfl rfl rfl rfl (Nat.le_of_ble_eq_true rfl) dX7_lay_113 rfl rfl rfl ?_
                  refine zr_aload_n (pc2 := 117) O dX7_lay_116 rfl 1 rfl rfl ?_
                  refine zr_iconst (v := (nI 0)) (pc2 := 118) O dX7_lay_117 (by decide +kernel) rfl ?_
                  refine zr_putf (G2 := modW cI m mle u1.2.1 u1.2.2.1 u1.2.2.2.1 u1.2.2.2.2.1 u1.2.2.2.1 u1.2.2.2.2.1 0 mkp 0 mwm u1.2.2.2.2.2.1 u1.2.2.2.2.2.1 mls mhd mtx u1.2.2.2.2.2.2.1 u1.2.2.2.2.2.2.2.1 u1.2.2.2.2.2.2.2.2 (f_X7_lay_43 u1 (5 * u1.2.2.2.1) 0 mpe) (f_X7_lay_73 u1 40 0 mno) mbo mim msi mwi mon mdi mco mgo mbr mca) (ws2 := [modW cI m mle u1.2.1 u1.2.2.1 u1.2.2.2.1 u1.2.2.2.2.1 u1.2.2.2.1 u1.2.2.2.2.1 0 mkp 0 mwm u1.2.2.2.2.2.1 u1.2.2.2.2.2.1 mls mhd mtx u1.2.2.2.2.2.2.1 u1.2.2.2.2.2.2.2.1 u1.2.2.2.2.2.2.2.2 (f_X7_lay_43 u1 (5 * u1.2.2.2.1) 0 mpe) (f_X7_lay_73 u1 40 0 mno) mbo mim msi mwi mon mdi mco mgo mbr mca]) (pc2 := 121) O sP_X7_lay_116 0 0 rfl rfl rfl rfl (Nat.le_of_ble_eq_true rfl) dX7_lay_118 rfl rfl rfl ?_
                  refine zr_aload_n (pc2 := 122) O dX7_lay_121 rfl 1 rfl rfl ?_
                  refine zr_iconst (v := (nI 0)) (pc2 := 123) O dX7_lay_122 (by decide +kernel) rfl ?_
                  refine zr_putf (G2 := modW cI m mle u1.2.1 u1.2.2.1 u1.2.2.2.1 u1.2.2.2.2.1 u1.2.2.2.1 u1.2.2.2.2.1 0 0 0 mwm u1.2.2.2.2.2.1 u1.2.2.2.2.2.1 mls mhd mtx u1.2.2.2.2.2.2.1 u1.2.2.2.2.2.2.2.1 u1.2.2.2.2.2.2.2.2 (f_X7_lay_43 u1 (5 * u1.2.2.2.1) 0 mpe) (f_X7_lay_73 u1 40 0 mno) mbo mim msi mwi mon mdi mco mgo mbr mca) (ws2 := [modW cI m mle u1.2.1 u1.2.2.1 u1.2.2.2.1 u1.2.2.2.2.1 u1.2.2.2.1 u1.2.2.2.2.1 0 0 0 mwm u1.2.2.2.2.2.1 u1.2.2.2.2.2.1 mls mhd mtx u1.2.2.2.2.2.2.1 u1.2.2.2.2.2.2.2.1 u1.2.2.2.2.2.2.2.2 (f_X7_lay_43 u1 (5 * u1.2.2.2.1) 0 mpe) (f_X7_lay_73 u1 40 0 mno) mbo mim msi mwi mon mdi mco mgo mbr mca]) (pc2 := 126) O sP_X7_lay_119 0 0 rfl rfl rfl rfl (Nat.le_of_ble_eq_true rfl) dX7_lay_123 rfl rfl rfl ?_
                  refine zr_aload_n (pc2 := 127) O dX7_lay_126 rfl 1 rfl rfl ?_
                  refine zr_getf (v := .int (nI u1.2.2.2.1)) (pc2 := 130) O sF_X7_lay_22 0 0 rfl rfl rfl dX7_lay_127 rfl ?_
                  have hE : s_X7_lay mle mfa mP mQ mbk mkp msg msd mtx mnu mrd mrl mpe mno = ((nI u1.2.2.2.1), u1.2.1, u1.2.2.1, u1.2.2.2.1, u1.2.2.2.2.1, u1.2.2.2.1, u1.2.2.2.2.1, 0, 0, 0, u1.2.2.2.2.2.1, u1.2.2.2.2.2.1, u1.2.2.2.2.2.2.1, u1.2.2.2.2.2.2.2.1, u1.2.2.2.2.2.2.2.2, (f_X7_lay_43 u1 (5 * u1.2.2.2.1) 0 mpe), (f_X7_lay_73 u1 40 0 mno)) := by subst hu1; exact ((zif_t c4).trans (if_neg c11))
                  exact hret _ _ _ _ dX7_lay_130 rfl (by rw [hE]) (by rw [hE])
                · exact absurd c76 (by decide)
              | succ n9 ih73 =>
                intro k2 mno9 hM73 hF73
                refine zr_iload_n (pc2 := 74) O dX7_lay_73 rfl 0 rfl rfl ?_
                refine zr_bipush (v := (nI 40)) (pc2 := 76) O dX7_lay_74 (by decide +kernel) rfl ?_
                refine zn_icmp_ge (tgt := 111) (pc2 := 79) O dX7_lay_76 (by decide) rfl (by omega) (by omega) (fun c76 => ?_) (fun c76 => ?_)
                · exact absurd c76 (by omega)
                · refine zr_aload_n (pc2 := 80) O dX7_lay_79 rfl 1 rfl rfl ?_
                  refine zr_getf (v := .ref (m 14)) (pc2 := 83) O sF_X7_lay_35 0 0 rfl rfl rfl dX7_lay_80 rfl ?_
                  refine zr_iload_n (pc2 := 84) O dX7_lay_83 rfl 0 rfl rfl ?_
                  refine zr_iload_n (pc2 := 85) O dX7_lay_84 rfl 0 rfl rfl ?_
                  refine zr_iconst (v := (nI 3)) (pc2 := 86) O dX7_lay_85 (by decide +kernel) rfl ?_
                  refine zr_aload_n (pc2 := 87) O dX7_lay_86 rfl 1 rfl rfl ?_
                  refine zr_getf (v := .int (nI u1.2.2.2.2.1)) (pc2 := 90) O sF_X7_lay_29 0 0 rfl rfl rfl dX7_lay_87 rfl ?_
                  refine zr_imul (v := (nI (3 * u1.2.2.2.2.1))) (pc2 := 91) O dX7_lay_90 (pk_mul 3 u1.2.2.2.2.1) rfl ?_
                  refine zn_icmp_ge (tgt := 103) (pc2 := 94) O dX7_lay_91 (by decide) rfl (by omega) (by omega) (fun c91 => ?_) (fun c91 => ?_)
                  · refine zr_iconst (v := (nI 0)) (pc2 := 104) O dX7_lay_103 (by decide +kernel) rfl ?_
                    refine zn_iast (j := k2) (G2 := modW cI m mle u1.2.1 u1.2.2.1 u1.2.2.2.1 u1.2.2.2.2.1 u1.2.2.2.1 u1.2.2.2.2.1 mbk mkp msg mwm u1.2.2.2.2.2.1 u1.2.2.2.2.2.1 mls mhd mtx u1.2.2.2.2.2.2.1 u1.2.2.2.2.2.2.2.1 u1.2.2.2.2.2.2.2.2 (f_X7_lay_43 u1 (5 * u1.2.2.2.1) 0 mpe) (upd mno9 k2 (nI 0)) mbo mim msi mwi mon mdi mco mgo mbr mca) (ws2 := [modW cI m mle u1.2.1 u1.2.2.1 u1.2.2.2.1 u1.2.2.2.2.1 u1.2.2.2.1 u1.2.2.2.2.1 mbk mkp msg mwm u1.2.2.2.2.2.1 u1.2.2.2.2.2.1 mls mhd mtx u1.2.2.2.2.2.2.1 u1.2.2.2.2.2.2.2.1 u1.2.2.2.2.2.2.2.2 (f_X7_lay_43 u1 (5 * u1.2.2.2.1) 0 mpe) (upd mno9 k2 (nI 0)) mbo mim msi mwi mon mdi mco mgo mbr mca]) (pc2 := 105) O 0 6 0 rfl rfl rfl rfl (by omega) (by decide) dX7_lay_104 rfl rfl rfl ?_
                    refine zr_iinc (v := (nI (k2 + 1))) (lv2 := [(1, .int (nI (k2 + 1))), (0, .ref (m 31))]) (pc2 := 108) O dX7_lay_105 0 rfl (zm_ofInt1 k2) (by decide) rfl rfl ?_
                    refine zr_goto (tgt := 73) O dX7_lay_108 (by decide) ?_
                    have hE : f_X7_lay_73 u1 (n9 + 1) k2 mno9 = f_X7_lay_73 u1 n9 (k2 + 1) (upd mno9 k2 (nI 0)) := by exact (if_pos c91)
                    exact ih73 (k2 + 1) (upd mno9 k2 (nI 0)) (by omega) (hF73.trans hE)
                  · refine zr_aload_n (pc2 := 95) O dX7_lay_94 rfl 1 rfl rfl ?_
                    refine zr_getf (v := .ref (m 8)) (pc2 := 98) O sF_X7_lay_19 0 0 rfl rfl rfl dX7_lay_95 rfl ?_
                    refine zr_iload_n (pc2 := 99) O dX7_lay_98 rfl 0 rfl rfl ?_
                    refine zn_iald (j := k2) (pc2 := 100) O 0 4 0 rfl rfl rfl rfl (by omega) (by decide) dX7_lay_99 rfl ?_
                    refine zr_goto (tgt := 104) O dX7_lay_100 (by decide) ?_
                    refine zn_iast (j := k2) (G2 := modW cI m mle u1.2.1 u1.2.2.1 u1.2.2.2.1 u1.2.2.2.2.1 u1.2.2.2.1 u1.2.2.2.2.1 mbk mkp msg mwm u1.2.2.2.2.2.1 u1.2.2.2.2.2.1 mls mhd mtx u1.2.2.2.2.2.2.1 u1.2.2.2.2.2.2.2.1 u1.2.2.2.2.2.2.2.2 (f_X7_lay_43 u1 (5 * u1.2.2.2.1) 0 mpe) (upd mno9 k2 (u1.2.2.2.2.2.2.2.2 k2)) mbo mim msi mwi mon mdi mco mgo mbr mca) (ws2 := [modW cI m mle u1.2.1 u1.2.2.1 u1.2.2.2.1 u1.2.2.2.2.1 u1.2.2.2.1 u1.2.2.2.2.1 mbk mkp msg mwm u1.2.2.2.2.2.1 u1.2.2.2.2.2.1 mls mhd mtx u1.2.2.2.2.2.2.1 u1.2.2.2.2.2.2.2.1 u1.2.2.2.2.2.2.2.2 (f_X7_lay_43 u1 (5 * u1.2.2.2.1) 0 mpe) (upd mno9 k2 (u1.2.2.2.2.2.2.2.2 k2)) mbo mim msi mwi mon mdi mco mgo mbr mca]) (pc2 := 105) O 0 6 0 rfl rfl rfl rfl (by omega) (by decide) dX7_lay_104 rfl rfl rfl ?_
                    refine zr_iinc (v := (nI (k2 + 1))) (lv2 := [(1, .int (nI (k2 + 1))), (0, .ref (m 31))]) (pc2 := 108) O dX7_lay_105 0 rfl (zm_ofInt1 k2) (by decide) rfl rfl ?_
                    refine zr_goto (tgt := 73) O dX7_lay_108 (by decide) ?_
                    have hE : f_X7_lay_73 u1 (n9 + 1) k2 mno9 = f_X7_lay_73 u1 n9 (k2 + 1) (upd mno9 k2 (u1.2.2.2.2.2.2.2.2 k2)) := by exact (if_neg c91)
                    exact ih73 (k2 + 1) (upd mno9 k2 (u1.2.2.2.2.2.2.2.2 k2)) (by omega) (hF73.trans hE)
            exact lp73 40 0 mno (by omega) rfl
          · exact absurd c50 (by omega)
        | succ n9 ih43 =>
          intro k mpe9 hM43 hF43
          refine zr_iload_n (pc2 := 44) O dX7_lay_43 rfl 0 rfl rfl ?_
          refine zr_iconst (v := (nI 5)) (pc2 := 45) O dX7_lay_44 (by decide +kernel) rfl ?_
          refine zr_aload_n (pc2 := 46) O dX7_lay_45 rfl 1 rfl rfl ?_
          refine zr_getf (v := .int (nI u1.2.2.2.1)) (pc2 := 49) O sF_X7_lay_22 0 0 rfl rfl rfl dX7_lay_46 rfl ?_
          refine zr_imul (v := (nI (5 * u1.2.2.2.1))) (pc2 := 50) O dX7_lay_49 (pk_mul 5 u1.2.2.2.1) rfl ?_
          refine zn_icmp_ge (tgt := 71) (pc2 := 53) O dX7_lay_50 (by decide) rfl (by omega) (by omega) (fun c50 => ?_) (fun c50 => ?_)
          · exact absurd c50 (by omega)
          · refine zr_aload_n (pc2 := 54) O dX7_lay_53 rfl 1 rfl rfl ?_
            refine zr_getf (v := .ref (m 11)) (pc2 := 57) O sF_X7_lay_26 0 0 rfl rfl rfl dX7_lay_54 rfl ?_
            refine zr_iload_n (pc2 := 58) O dX7_lay_57 rfl 0 rfl rfl ?_
            refine zr_aload_n (pc2 := 59) O dX7_lay_58 rfl 1 rfl rfl ?_
            refine zr_getf (v := .ref (m 7)) (pc2 := 62) O sF_X7_lay_16 0 0 rfl rfl rfl dX7_lay_59 rfl ?_
            refine zr_iload_n (pc2 := 63) O dX7_lay_62 rfl 0 rfl rfl ?_
            refine zn_iald (j := k) (pc2 := 64) O 0 3 0 rfl rfl rfl rfl (by omega) (by decide) dX7_lay_63 rfl ?_
            refine zn_iast (j := k) (G2 := modW cI m mle u1.2.1 u1.2.2.1 u1.2.2.2.1 u1.2.2.2.2.1 u1.2.2.2.1 u1.2.2.2.2.1 mbk mkp msg mwm u1.2.2.2.2.2.1 u1.2.2.2.2.2.1 mls mhd mtx u1.2.2.2.2.2.2.1 u1.2.2.2.2.2.2.2.1 u1.2.2.2.2.2.2.2.2 (upd mpe9 k (u1.2.2.2.2.2.2.2.1 k)) mno mbo mim msi mwi mon mdi mco mgo mbr mca) (ws2 := [modW cI m mle u1.2.1 u1.2.2.1 u1.2.2.2.1 u1.2.2.2.2.1 u1.2.2.2.1 u1.2.2.2.2.1 mbk mkp msg mwm u1.2.2.2.2.2.1 u1.2.2.2.2.2.1 mls mhd mtx u1.2.2.2.2.2.2.1 u1.2.2.2.2.2.2.2.1 u1.2.2.2.2.2.2.2.2 (upd mpe9 k (u1.2.2.2.2.2.2.2.1 k)) mno mbo mim msi mwi mon mdi mco mgo mbr mca]) (pc2 := 65) O 0 5 0 rfl rfl rfl rfl (by omega) (by decide) dX7_lay_64 rfl rfl rfl ?_
            refine zr_iinc (v := (nI (k + 1))) (lv2 := [(1, .int (nI (k + 1))), (0, .ref (m 31))]) (pc2 := 68) O dX7_lay_65 0 rfl (zm_ofInt1 k) (by decide) rfl rfl ?_
            refine zr_goto (tgt := 43) O dX7_lay_68 (by decide) ?_
            have hE : f_X7_lay_43 u1 (n9 + 1) k mpe9 = f_X7_lay_43 u1 n9 (k + 1) (upd mpe9 k (u1.2.2.2.2.2.2.2.1 k)) := by exact rfl
            exact ih43 (k + 1) (upd mpe9 k (u1.2.2.2.2.2.2.2.1 k)) (by omega) (hF43.trans hE)
      exact lp43 (5 * u1.2.2.2.1) 0 mpe (by omega) rfl
    · refine zr_bipush (v := (-2)) (pc2 := 16) O dX7_lay_14 (by decide +kernel) rfl ?_
      have hE : s_X7_lay mle mfa mP mQ mbk mkp msg msd mtx mnu mrd mrl mpe mno = ((-2), u1.2.1, u1.2.2.1, u1.2.2.2.1, u1.2.2.2.2.1, mP, mQ, mbk, mkp, msg, u1.2.2.2.2.2.1, msd, u1.2.2.2.2.2.2.1, u1.2.2.2.2.2.2.2.1, u1.2.2.2.2.2.2.2.2, mpe, mno) := by subst hu1; exact ((zif_t c4).trans (if_pos c11))
      exact hret _ _ _ _ dX7_lay_16 rfl (by rw [hE]) (by rw [hE])
/-! X7_wipe -/
def s_X7_wipe (mle : Nat) : Int32 × Nat := ((nI mle), 0)
set_option maxHeartbeats 4000000 in
set_option maxRecDepth 100000 in
theorem c_X7_wipe (l : Launch) (D : va_G) (cI cC cJ : ClassId) (m : Nat → Nat) (mle : Nat) (mpo : Nat) (mfa : Nat) (mrm : Nat) (mrw : Nat) (mP : Nat) (mQ : Nat) (mbk : Nat) (mkp : Nat) (msg : Nat) (mwm : Nat) (mrs : Int32) (msd : Int32) (mls : Int32) (mhd : Int32) (mtx : zF) (mnu : zF) (mrd : zF) (mrl : zF) (mpe : zF) (mno : zF) (mbo : zF) (mim : zF) (msi : zF) (mwi : zF) (mon : zF) (mdi : zF) (mco : zF) (mgo : zF) (mbr : zF) (mca : zF) : zD l yX7_wipe wsX7_wipe rm_X7_wipe D (zT cI cC cJ) [.ref (m 31)] [modW cI m mle mpo mfa mrm mrw mP mQ mbk mkp msg mwm mrs msd mls mhd mtx mnu mrd mrl mpe mno mbo mim msi mwi mon mdi mco mgo mbr mca] (some (.int ((s_X7_wipe mle).1))) [modW cI m ((s_X7_wipe mle).2) mpo mfa mrm mrw mP mQ mbk mkp msg mwm mrs msd mls mhd mtx mnu mrd mrl mpe mno mbo mim msi mwi mon mdi mco mgo mbr mca] := by
  refine zD_int (cc := cX7_wipe) (maxL := 2) (ty := .int) (lv := [(0, .ref (m 31))]) (by decide +kernel) rfl (Nat.le_of_ble_eq_true rfl) rfl (fun Z O hret => ?_)
  refine zr_aload_n (pc2 := 1) O dX7_wipe_0 rfl 0 rfl rfl ?_
  refine zr_getf (v := .int (nI mle)) (pc2 := 4) O sF_X7_wipe_80 0 0 rfl rfl rfl dX7_wipe_1 rfl ?_
  refine zr_istore_n (lv2 := [(1, .int (nI mle)), (0, .ref (m 31))]) (pc2 := 5) O dX7_wipe_4 rfl (by decide) rfl rfl ?_
  refine zr_aload_n (pc2 := 6) O dX7_wipe_5 rfl 1 rfl rfl ?_
  refine zr_iconst (v := (nI 0)) (pc2 := 7) O dX7_wipe_6 (by decide +kernel) rfl ?_
  refine zr_putf (G2 := modW cI m 0 mpo mfa mrm mrw mP mQ mbk mkp msg mwm mrs msd mls mhd mtx mnu mrd mrl mpe mno mbo mim msi mwi mon mdi mco mgo mbr mca) (ws2 := [modW cI m 0 mpo mfa mrm mrw mP mQ mbk mkp msg mwm mrs msd mls mhd mtx mnu mrd mrl mpe mno mbo mim msi mwi mon mdi mco mgo mbr mca]) (pc2 := 10) O sP_X7_wipe_80 0 0 rfl rfl rfl rfl (Nat.le_of_ble_eq_true rfl) dX7_wipe_7 rfl rfl rfl ?_
  refine zr_iload_n (pc2 := 11) O dX7_wipe_10 rfl 0 rfl rfl ?_
  have hE : s_X7_wipe mle = ((nI mle), 0) := by exact rfl
  exact hret _ _ _ _ dX7_wipe_11 rfl (by rw [hE]) (by rw [hE])
/-! X7_write -/
def s_X7_write (mle : Nat) (mtx : zF) (x : Int32) : Int32 × Nat × zF := if (s_X7_in x (nI 32) (nI 126)) = true then if mle = 200 then ((-3), mle, mtx) else ((nI (mle + 1)), mle + 1, (upd mtx mle x)) else ((-1), mle, mtx)
set_option maxHeartbeats 4000000 in
set_option maxRecDepth 100000 in
theorem c_X7_write (l : Launch) (D : va_G) (cI cC cJ : ClassId) (m : Nat → Nat) (mle : Nat) (mpo : Nat) (mfa : Nat) (mrm : Nat) (mrw : Nat) (mP : Nat) (mQ : Nat) (mbk : Nat) (mkp : Nat) (msg : Nat) (mwm : Nat) (mrs : Int32) (msd : Int32) (mls : Int32) (mhd : Int32) (mtx : zF) (mnu : zF) (mrd : zF) (mrl : zF) (mpe : zF) (mno : zF) (mbo : zF) (mim : zF) (msi : zF) (mwi : zF) (mon : zF) (mdi : zF) (mco : zF) (mgo : zF) (mbr : zF) (mca : zF) (x : Int32) (hml : mle ≤ 200) : zD l yX7_write wsX7_write rm_X7_write D (zT cI cC cJ) [.ref (m 31), .int x] [modW cI m mle mpo mfa mrm mrw mP mQ mbk mkp msg mwm mrs msd mls mhd mtx mnu mrd mrl mpe mno mbo mim msi mwi mon mdi mco mgo mbr mca] (some (.int ((s_X7_write mle mtx x).1))) [modW cI m ((s_X7_write mle mtx x).2.1) mpo mfa mrm mrw mP mQ mbk mkp msg mwm mrs msd mls mhd ((s_X7_write mle mtx x).2.2) mnu mrd mrl mpe mno mbo mim msi mwi mon mdi mco mgo mbr mca] := by
  refine zD_int (cc := cX7_write) (maxL := 2) (ty := .int) (lv := [(0, .ref (m 31)), (1, .int x)]) (by decide +kernel) rfl (Nat.le_of_ble_eq_true rfl) rfl (fun Z O hret => ?_)
  refine zr_iload_n (pc2 := 1) O dX7_write_0 rfl 1 rfl rfl ?_
  refine zr_bipush (v := (nI 32)) (pc2 := 3) O dX7_write_1 (by decide +kernel) rfl ?_
  refine zr_bipush (v := (nI 126)) (pc2 := 5) O dX7_write_3 (by decide +kernel) rfl ?_
  refine zr_callS (As := [.int x, .int (nI 32), .int (nI 126)]) (rest := []) (ws2 := [modW cI m mle mpo mfa mrm mrw mP mQ mbk mkp msg mwm mrs msd mls mhd mtx mnu mrd mrl mpe mno mbo mim msi mwi mon mdi mco mgo mbr mca]) (pc2 := 8) O (c_X7_in l D cI cC cJ x (nI 32) (nI 126)) sC_X7_write_76 rfl rfl dX7_write_5 [] rfl rfl rfl rfl (Nat.le_of_ble_eq_true rfl) rfl ?_
  show Z _ _ _ [.int (zb (s_X7_in x (nI 32) (nI 126)))]
  refine zb_if_ne (tgt := 13) (pc2 := 11) O dX7_write_8 (by decide) rfl (fun c8 => ?_) (fun c8 => ?_)
  · refine zr_aload_n (pc2 := 14) O dX7_write_13 rfl 0 rfl rfl ?_
    refine zr_getf (v := .int (nI mle)) (pc2 := 17) O sF_X7_write_80 0 0 rfl rfl rfl dX7_write_14 rfl ?_
    refine zr_sipush (v := (nI 200)) (pc2 := 20) O dX7_write_17 (by decide +kernel) rfl ?_
    refine zn_icmp_ne (tgt := 26) (pc2 := 23) O dX7_write_20 (by decide) rfl (by omega) (by omega) (fun c20 => ?_) (fun c20 => ?_)
    · refine zr_aload_n (pc2 := 27) O dX7_write_26 rfl 0 rfl rfl ?_
      refine zr_getf (v := .ref (m 1)) (pc2 := 30) O sF_X7_write_7 0 0 rfl rfl rfl dX7_write_27 rfl ?_
      refine zr_aload_n (pc2 := 31) O dX7_write_30 rfl 0 rfl rfl ?_
      refine zr_getf (v := .int (nI mle)) (pc2 := 34) O sF_X7_write_80 0 0 rfl rfl rfl dX7_write_31 rfl ?_
      refine zr_iload_n (pc2 := 35) O dX7_write_34 rfl 1 rfl rfl ?_
      refine zn_iast (j := mle) (G2 := modW cI m mle mpo mfa mrm mrw mP mQ mbk mkp msg mwm mrs msd mls mhd (upd mtx mle x) mnu mrd mrl mpe mno mbo mim msi mwi mon mdi mco mgo mbr mca) (ws2 := [modW cI m mle mpo mfa mrm mrw mP mQ mbk mkp msg mwm mrs msd mls mhd (upd mtx mle x) mnu mrd mrl mpe mno mbo mim msi mwi mon mdi mco mgo mbr mca]) (pc2 := 36) O 0 1 0 rfl rfl rfl rfl (by omega) (by decide) dX7_write_35 rfl rfl rfl ?_
      refine zr_aload_n (pc2 := 37) O dX7_write_36 rfl 0 rfl rfl ?_
      refine zr_dup (pc2 := 38) O dX7_write_37 rfl rfl ?_
      refine zr_getf (v := .int (nI mle)) (pc2 := 41) O sF_X7_write_80 0 0 rfl rfl rfl dX7_write_38 rfl ?_
      refine zr_iconst (v := (nI 1)) (pc2 := 42) O dX7_write_41 (by decide +kernel) rfl ?_
      refine zr_iadd (v := (nI (mle + 1))) (pc2 := 43) O dX7_write_42 (nI_add mle 1) rfl ?_
      refine zr_putf (G2 := modW cI m (mle + 1) mpo mfa mrm mrw mP mQ mbk mkp msg mwm mrs msd mls mhd (upd mtx mle x) mnu mrd mrl mpe mno mbo mim msi mwi mon mdi mco mgo mbr mca) (ws2 := [modW cI m (mle + 1) mpo mfa mrm mrw mP mQ mbk mkp msg mwm mrs msd mls mhd (upd mtx mle x) mnu mrd mrl mpe mno mbo mim msi mwi mon mdi mco mgo mbr mca]) (pc2 := 46) O sP_X7_write_80 0 0 rfl rfl rfl rfl (Nat.le_of_ble_eq_true rfl) dX7_write_43 rfl rfl rfl ?_
      refine zr_aload_n (pc2 := 47) O dX7_write_46 rfl 0 rfl rfl ?_
      refine zr_getf (v := .int (nI (mle + 1))) (pc2 := 50) O sF_X7_write_80 0 0 rfl rfl rfl dX7_write_47 rfl ?_
      have hE : s_X7_write mle mtx x = ((nI (mle + 1)), mle + 1, (upd mtx mle x)) := by exact ((zif_t c8).trans (if_neg c20))
      exact hret _ _ _ _ dX7_write_50 rfl (by rw [hE]) (by rw [hE])
    · refine zr_bipush (v := (-3)) (pc2 := 25) O dX7_write_23 (by decide +kernel) rfl ?_
      have hE : s_X7_write mle mtx x = ((-3), mle, mtx) := by exact ((zif_t c8).trans (if_pos c20))
      exact hret _ _ _ _ dX7_write_25 rfl (by rw [hE]) (by rw [hE])
  · refine zr_iconst (v := (-1)) (pc2 := 12) O dX7_write_11 (by decide +kernel) rfl ?_
    have hE : s_X7_write mle mtx x = ((-1), mle, mtx) := by exact (zif_f c8)
    exact hret _ _ _ _ dX7_write_12 rfl (by rw [hE]) (by rw [hE])
