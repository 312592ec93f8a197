/-! X7_person -/
def s_X7_person (mP : Nat) (mQ : Nat) (mpe : zF) (mno : zF) (i : Int32) (wh : Int32) : Int32 := if (s_X7_in i (nI 0) ((nI mP) - (nI 1))) = true then if (s_X7_in wh (nI 0) (nI 5)) = true then if 5 ≤ wh.toNatClampNeg then (s_X7_leavesOf mQ mno (nI i.toNatClampNeg)) else (mpe ((5 * i.toNatClampNeg) + wh.toNatClampNeg)) else (-1) else (-1)
set_option maxHeartbeats 4000000 in
set_option maxRecDepth 100000 in
theorem c_X7_person (l : Launch) (D : va_G) (cI cC cJ : ClassId) (m : Nat → Nat) (mle : Nat) (mpo : Nat) (mfa : Nat) (mrm : Nat) (mrw : Nat) (mP : Nat) (mQ : Nat) (mbk : Nat) (mkp : Nat) (msg : Nat) (mwm : Nat) (mrs : Int32) (msd : Int32) (mls : Int32) (mhd : Int32) (mtx : zF) (mnu : zF) (mrd : zF) (mrl : zF) (mpe : zF) (mno : zF) (mbo : zF) (mim : zF) (msi : zF) (mwi : zF) (mon : zF) (mdi : zF) (mco : zF) (mgo : zF) (mbr : zF) (mca : zF) (i : Int32) (wh : Int32) (hmP : mP ≤ 6) (hmQ : mQ ≤ 9) : zD l yX7_person wsX7_person rm_X7_person D (zT cI cC cJ) [.ref (m 31), .int i, .int wh] [modW cI m mle mpo mfa mrm mrw mP mQ mbk mkp msg mwm mrs msd mls mhd mtx mnu mrd mrl mpe mno mbo mim msi mwi mon mdi mco mgo mbr mca] (some (.int (s_X7_person mP mQ mpe mno i wh))) [modW cI m mle mpo mfa mrm mrw mP mQ mbk mkp msg mwm mrs msd mls mhd mtx mnu mrd mrl mpe mno mbo mim msi mwi mon mdi mco mgo mbr mca] := by
  refine zD_int (cc := cX7_person) (maxL := 3) (ty := .int) (lv := [(0, .ref (m 31)), (1, .int i), (2, .int wh)]) (by decide +kernel) rfl (Nat.le_of_ble_eq_true rfl) rfl (fun Z O hret => ?_)
  refine zr_aload_n (pc2 := 1) O dX7_person_0 rfl 0 rfl rfl ?_
  refine zr_iload_n (pc2 := 2) O dX7_person_1 rfl 1 rfl rfl ?_
  refine zr_callV (As := [.int i]) (rest := []) (ws2 := [modW cI m mle mpo mfa mrm mrw mP mQ mbk mkp msg mwm mrs msd mls mhd mtx mnu mrd mrl mpe mno mbo mim msi mwi mon mdi mco mgo mbr mca]) (pc2 := 5) (ci := 7) (g0 := 0) (q0 := 0) O (c_X7_isOne l D cI cC cJ m mle mpo mfa mrm mrw mP mQ mbk mkp msg mwm mrs msd mls mhd mtx mnu mrd mrl mpe mno mbo mim msi mwi mon mdi mco mgo mbr mca i) sC_X7_person_122 rfl rfl rfl rfl rfl dX7_person_2 [0] rfl rfl rfl rfl (Nat.le_of_ble_eq_true rfl) rfl ?_
  show Z _ _ _ [.int (zb (s_X7_in i (nI 0) ((nI mP) - (nI 1))))]
  refine zb_if_eq (tgt := 17) (pc2 := 8) O dX7_person_5 (by decide) rfl (fun c5 => ?_) (fun c5 => ?_)
  · refine zr_iconst (v := (-1)) (pc2 := 18) O dX7_person_17 (by decide +kernel) rfl ?_
    have hE : s_X7_person mP mQ mpe mno i wh = (-1) := by exact (zif_f c5)
    exact hret _ _ _ _ dX7_person_18 rfl (by rw [hE]) rfl
  · refine zr_iload_n (pc2 := 9) O dX7_person_8 rfl 2 rfl rfl ?_
    refine zr_iconst (v := (nI 0)) (pc2 := 10) O dX7_person_9 (by decide +kernel) rfl ?_
    refine zr_iconst (v := (nI 5)) (pc2 := 11) O dX7_person_10 (by decide +kernel) rfl ?_
    refine zr_callS (As := [.int wh, .int (nI 0), .int (nI 5)]) (rest := []) (ws2 := [modW cI m mle mpo mfa mrm mrw mP mQ mbk mkp msg mwm mrs msd mls mhd mtx mnu mrd mrl mpe mno mbo mim msi mwi mon mdi mco mgo mbr mca]) (pc2 := 14) O (c_X7_in l D cI cC cJ wh (nI 0) (nI 5)) sC_X7_person_76 rfl rfl dX7_person_11 [] rfl rfl rfl rfl (Nat.le_of_ble_eq_true rfl) rfl ?_
    show Z _ _ _ [.int (zb (s_X7_in wh (nI 0) (nI 5)))]
    refine zb_if_ne (tgt := 19) (pc2 := 17) O dX7_person_14 (by decide) rfl (fun c14 => ?_) (fun c14 => ?_)
    · have hc1 := (one_in c5 hmP)
      rw [hc1.1]
      have hc2 := (in_nat c14 (by decide) (by decide))
      rw [hc2.1]
      refine zr_iload_n (pc2 := 20) O dX7_person_19 rfl 2 rfl rfl ?_
      refine zr_iconst (v := (nI 5)) (pc2 := 21) O dX7_person_20 (by decide +kernel) rfl ?_
      refine zn_icmp_ge (tgt := 37) (pc2 := 24) O dX7_person_21 (by decide) rfl (by omega) (by omega) (fun c21 => ?_) (fun c21 => ?_)
      · refine zr_aload_n (pc2 := 38) O dX7_person_37 rfl 0 rfl rfl ?_
        refine zr_iload_n (pc2 := 39) O dX7_person_38 rfl 1 rfl rfl ?_
        refine zr_callV (As := [.int (nI i.toNatClampNeg)]) (rest := []) (ws2 := [modW cI m mle mpo mfa mrm mrw mP mQ mbk mkp msg mwm mrs msd mls mhd mtx mnu mrd mrl mpe mno mbo mim msi mwi mon mdi mco mgo mbr mca]) (pc2 := 42) (ci := 7) (g0 := 0) (q0 := 0) O (c_X7_leavesOf l D cI cC cJ m mle mpo mfa mrm mrw mP mQ mbk mkp msg mwm mrs msd mls mhd mtx mnu mrd mrl mpe mno mbo mim msi mwi mon mdi mco mgo mbr mca (nI i.toNatClampNeg) (by first | assumption | omega)) sC_X7_person_125 rfl rfl rfl rfl rfl dX7_person_39 [0] rfl rfl rfl rfl (Nat.le_of_ble_eq_true rfl) rfl ?_
        show Z _ _ _ [.int (s_X7_leavesOf mQ mno (nI i.toNatClampNeg))]
        have hE : s_X7_person mP mQ mpe mno i wh = (s_X7_leavesOf mQ mno (nI i.toNatClampNeg)) := by exact ((zif_t c5).trans ((zif_t c14).trans (if_pos c21)))
        exact hret _ _ _ _ dX7_person_42 rfl (by rw [hE]) rfl
      · refine zr_aload_n (pc2 := 25) O dX7_person_24 rfl 0 rfl rfl ?_
        refine zr_getf (v := .ref (m 11)) (pc2 := 28) O sF_X7_person_26 0 0 rfl rfl rfl dX7_person_25 rfl ?_
        refine zr_iconst (v := (nI 5)) (pc2 := 29) O dX7_person_28 (by decide +kernel) rfl ?_
        refine zr_iload_n (pc2 := 30) O dX7_person_29 rfl 1 rfl rfl ?_
        refine zr_imul (v := (nI (5 * i.toNatClampNeg))) (pc2 := 31) O dX7_person_30 (pk_mul 5 i.toNatClampNeg) rfl ?_
        refine zr_iload_n (pc2 := 32) O dX7_person_31 rfl 2 rfl rfl ?_
        refine zr_iadd (v := (nI ((5 * i.toNatClampNeg) + wh.toNatClampNeg))) (pc2 := 33) O dX7_person_32 (nI_add (5 * i.toNatClampNeg) wh.toNatClampNeg) rfl ?_
        refine zn_iald (j := ((5 * i.toNatClampNeg) + wh.toNatClampNeg)) (pc2 := 34) O 0 5 0 rfl rfl rfl rfl (by omega) (by decide) dX7_person_33 rfl ?_
        refine zr_goto (tgt := 42) O dX7_person_34 (by decide) ?_
        have hE : s_X7_person mP mQ mpe mno i wh = (mpe ((5 * i.toNatClampNeg) + wh.toNatClampNeg)) := by exact ((zif_t c5).trans ((zif_t c14).trans (if_neg c21)))
        exact hret _ _ _ _ dX7_person_42 rfl (by rw [hE]) rfl
    · refine zr_iconst (v := (-1)) (pc2 := 18) O dX7_person_17 (by decide +kernel) rfl ?_
      have hE : s_X7_person mP mQ mpe mno i wh = (-1) := by exact ((zif_t c5).trans (zif_f c14))
      exact hret _ _ _ _ dX7_person_18 rfl (by rw [hE]) rfl
/-! X7_bequest -/
def s_X7_bequest (mQ : Nat) (mno : zF) (k : Int32) (wh : Int32) : Int32 := if (s_X7_in k (nI 0) ((nI mQ) - (nI 1))) = true then if (s_X7_in wh (nI 0) (nI 2)) = true then (mno ((3 * k.toNatClampNeg) + wh.toNatClampNeg)) else (-1) else (-1)
set_option maxHeartbeats 4000000 in
set_option maxRecDepth 100000 in
theorem c_X7_bequest (l : Launch) (D : va_G) (cI cC cJ : ClassId) (m : Nat → Nat) (mle : Nat) (mpo : Nat) (mfa : Nat) (mrm : Nat) (mrw : Nat) (mP : Nat) (mQ : Nat) (mbk : Nat) (mkp : Nat) (msg : Nat) (mwm : Nat) (mrs : Int32) (msd : Int32) (mls : Int32) (mhd : Int32) (mtx : zF) (mnu : zF) (mrd : zF) (mrl : zF) (mpe : zF) (mno : zF) (mbo : zF) (mim : zF) (msi : zF) (mwi : zF) (mon : zF) (mdi : zF) (mco : zF) (mgo : zF) (mbr : zF) (mca : zF) (k : Int32) (wh : Int32) (hmQ : mQ ≤ 9) : zD l yX7_bequest wsX7_bequest rm_X7_bequest D (zT cI cC cJ) [.ref (m 31), .int k, .int wh] [modW cI m mle mpo mfa mrm mrw mP mQ mbk mkp msg mwm mrs msd mls mhd mtx mnu mrd mrl mpe mno mbo mim msi mwi mon mdi mco mgo mbr mca] (some (.int (s_X7_bequest mQ mno k wh))) [modW cI m mle mpo mfa mrm mrw mP mQ mbk mkp msg mwm mrs msd mls mhd mtx mnu mrd mrl mpe mno mbo mim msi mwi mon mdi mco mgo mbr mca] := by
  refine zD_int (cc := cX7_bequest) (maxL := 3) (ty := .int) (lv := [(0, .ref (m 31)), (1, .int k), (2, .int wh)]) (by decide +kernel) rfl (Nat.le_of_ble_eq_true rfl) rfl (fun Z O hret => ?_)
  refine zr_aload_n (pc2 := 1) O dX7_bequest_0 rfl 0 rfl rfl ?_
  refine zr_iload_n (pc2 := 2) O dX7_bequest_1 rfl 1 rfl rfl ?_
  refine zr_callV (As := [.int k]) (rest := []) (ws2 := [modW cI m mle mpo mfa mrm mrw mP mQ mbk mkp msg mwm mrs msd mls mhd mtx mnu mrd mrl mpe mno mbo mim msi mwi mon mdi mco mgo mbr mca]) (pc2 := 5) (ci := 7) (g0 := 0) (q0 := 0) O (c_X7_isWill l D cI cC cJ m mle mpo mfa mrm mrw mP mQ mbk mkp msg mwm mrs msd mls mhd mtx mnu mrd mrl mpe mno mbo mim msi mwi mon mdi mco mgo mbr mca k) sC_X7_bequest_128 rfl rfl rfl rfl rfl dX7_bequest_2 [0] rfl rfl rfl rfl (Nat.le_of_ble_eq_true rfl) rfl ?_
  show Z _ _ _ [.int (zb (s_X7_in k (nI 0) ((nI mQ) - (nI 1))))]
  refine zb_if_eq (tgt := 30) (pc2 := 8) O dX7_bequest_5 (by decide) rfl (fun c5 => ?_) (fun c5 => ?_)
  · refine zr_iconst (v := (-1)) (pc2 := 31) O dX7_bequest_30 (by decide +kernel) rfl ?_
    have hE : s_X7_bequest mQ mno k wh = (-1) := by exact (zif_f c5)
    exact hret _ _ _ _ dX7_bequest_31 rfl (by rw [hE]) rfl
  · refine zr_iload_n (pc2 := 9) O dX7_bequest_8 rfl 2 rfl rfl ?_
    refine zr_iconst (v := (nI 0)) (pc2 := 10) O dX7_bequest_9 (by decide +kernel) rfl ?_
    refine zr_iconst (v := (nI 2)) (pc2 := 11) O dX7_bequest_10 (by decide +kernel) rfl ?_
    refine zr_callS (As := [.int wh, .int (nI 0), .int (nI 2)]) (rest := []) (ws2 := [modW cI m mle mpo mfa mrm mrw mP mQ mbk mkp msg mwm mrs msd mls mhd mtx mnu mrd mrl mpe mno mbo mim msi mwi mon mdi mco mgo mbr mca]) (pc2 := 14) O (c_X7_in l D cI cC cJ wh (nI 0) (nI 2)) sC_X7_bequest_76 rfl rfl dX7_bequest_11 [] rfl rfl rfl rfl (Nat.le_of_ble_eq_true rfl) rfl ?_
    show Z _ _ _ [.int (zb (s_X7_in wh (nI 0) (nI 2)))]
    refine zb_if_eq (tgt := 30) (pc2 := 17) O dX7_bequest_14 (by decide) rfl (fun c14 => ?_) (fun c14 => ?_)
    · refine zr_iconst (v := (-1)) (pc2 := 31) O dX7_bequest_30 (by decide +kernel) rfl ?_
      have hE : s_X7_bequest mQ mno k wh = (-1) := by exact ((zif_t c5).trans (zif_f c14))
      exact hret _ _ _ _ dX7_bequest_31 rfl (by rw [hE]) rfl
    · have hc1 := (will_in c5 hmQ)
      rw [hc1.1]
      have hc2 := (in_nat c14 (by decide) (by decide))
      rw [hc2.1]
      refine zr_aload_n (pc2 := 18) O dX7_bequest_17 rfl 0 rfl rfl ?_
      refine zr_getf (v := .ref (m 14)) (pc2 := 21) O sF_X7_bequest_35 0 0 rfl rfl rfl dX7_bequest_18 rfl ?_
      refine zr_iconst (v := (nI 3)) (pc2 := 22) O dX7_bequest_21 (by decide +kernel) rfl ?_
      refine zr_iload_n (pc2 := 23) O dX7_bequest_22 rfl 1 rfl rfl ?_
      refine zr_imul (v := (nI (3 * k.toNatClampNeg))) (pc2 := 24) O dX7_bequest_23 (pk_mul 3 k.toNatClampNeg) rfl ?_
      refine zr_iload_n (pc2 := 25) O dX7_bequest_24 rfl 2 rfl rfl ?_
      refine zr_iadd (v := (nI ((3 * k.toNatClampNeg) + wh.toNatClampNeg))) (pc2 := 26) O dX7_bequest_25 (nI_add (3 * k.toNatClampNeg) wh.toNatClampNeg) rfl ?_
      refine zn_iald (j := ((3 * k.toNatClampNeg) + wh.toNatClampNeg)) (pc2 := 27) O 0 6 0 rfl rfl rfl rfl (by omega) (by decide) dX7_bequest_26 rfl ?_
      refine zr_goto (tgt := 31) O dX7_bequest_27 (by decide) ?_
      have hE : s_X7_bequest mQ mno k wh = (mno ((3 * k.toNatClampNeg) + wh.toNatClampNeg)) := by exact ((zif_t c5).trans (zif_t c14))
      exact hret _ _ _ _ dX7_bequest_31 rfl (by rw [hE]) rfl
/-! X7_reword -/
def s_X7_reword (mQ : Nat) (mbk : Nat) (mno : zF) (mbo : zF) (k : Int32) (x : Int32) : Int32 × Nat × zF × zF := if (s_X7_in k (nI 0) ((nI mQ) - (nI 1))) = true then if (s_X7_in x (nI 1) (nI 99)) = true then let u21 := s_X7_note mbk mno mbo 280; ((mno ((3 * k.toNatClampNeg) + 2)), u21.1, (upd mno ((3 * k.toNatClampNeg) + 2) x), u21.2) else ((-1), mbk, mno, mbo) else ((-1), mbk, mno, mbo)
set_option maxHeartbeats 4000000 in
set_option maxRecDepth 100000 in
theorem c_X7_reword (l : Launch) (D : va_G) (cI cC cJ : ClassId) (m : Nat → Nat) (mle : Nat) (mpo : Nat) (mfa : Nat) (mrm : Nat) (mrw : Nat) (mP : Nat) (mQ : Nat) (mbk : Nat) (mkp : Nat) (msg : Nat) (mwm : Nat) (mrs : Int32) (msd : Int32) (mls : Int32) (mhd : Int32) (mtx : zF) (mnu : zF) (mrd : zF) (mrl : zF) (mpe : zF) (mno : zF) (mbo : zF) (mim : zF) (msi : zF) (mwi : zF) (mon : zF) (mdi : zF) (mco : zF) (mgo : zF) (mbr : zF) (mca : zF) (k : Int32) (x : Int32) (hmQ : mQ ≤ 9) (hbk : mbk ≤ 8) : zD l yX7_reword wsX7_reword rm_X7_reword D (zT cI cC cJ) [.ref (m 31), .int k, .int x] [modW cI m mle mpo mfa mrm mrw mP mQ mbk mkp msg mwm mrs msd mls mhd mtx mnu mrd mrl mpe mno mbo mim msi mwi mon mdi mco mgo mbr mca] (some (.int ((s_X7_reword mQ mbk mno mbo k x).1))) [modW cI m mle mpo mfa mrm mrw mP mQ ((s_X7_reword mQ mbk mno mbo k x).2.1) mkp msg mwm mrs msd mls mhd mtx mnu mrd mrl mpe ((s_X7_reword mQ mbk mno mbo k x).2.2.1) ((s_X7_reword mQ mbk mno mbo k x).2.2.2) mim msi mwi mon mdi mco mgo mbr mca] := by
  refine zD_int (cc := cX7_reword) (maxL := 4) (ty := .int) (lv := [(0, .ref (m 31)), (1, .int k), (2, .int x)]) (by decide +kernel) rfl (Nat.le_of_ble_eq_true rfl) rfl (fun Z O hret => ?_)
  refine zr_aload_n (pc2 := 1) O dX7_reword_0 rfl 0 rfl rfl ?_
  refine zr_iload_n (pc2 := 2) O dX7_reword_1 rfl 1 rfl rfl ?_
  refine zr_callV (As := [.int k]) (rest := []) (ws2 := [modW cI m mle mpo mfa mrm mrw mP mQ mbk mkp msg mwm mrs msd mls mhd mtx mnu mrd mrl mpe mno mbo mim msi mwi mon mdi mco mgo mbr mca]) (pc2 := 5) (ci := 7) (g0 := 0) (q0 := 0) O (c_X7_isWill l D cI cC cJ m mle mpo mfa mrm mrw mP mQ mbk mkp msg mwm mrs msd mls mhd mtx mnu mrd mrl mpe mno mbo mim msi mwi mon mdi mco mgo mbr mca k) sC_X7_reword_128 rfl rfl rfl rfl rfl dX7_reword_2 [0] rfl rfl rfl rfl (Nat.le_of_ble_eq_true rfl) rfl ?_
  show Z _ _ _ [.int (zb (s_X7_in k (nI 0) ((nI mQ) - (nI 1))))]
  refine zb_if_eq (tgt := 18) (pc2 := 8) O dX7_reword_5 (by decide) rfl (fun c5 => ?_) (fun c5 => ?_)
  · refine zr_iconst (v := (-1)) (pc2 := 19) O dX7_reword_18 (by decide +kernel) rfl ?_
    have hE : s_X7_reword mQ mbk mno mbo k x = ((-1), mbk, mno, mbo) := by exact (zif_f c5)
    exact hret _ _ _ _ dX7_reword_19 rfl (by rw [hE]) (by rw [hE])
  · refine zr_iload_n (pc2 := 9) O dX7_reword_8 rfl 2 rfl rfl ?_
    refine zr_iconst (v := (nI 1)) (pc2 := 10) O dX7_reword_9 (by decide +kernel) rfl ?_
    refine zr_bipush (v := (nI 99)) (pc2 := 12) O dX7_reword_10 (by decide +kernel) rfl ?_
    refine zr_callS (As := [.int x, .int (nI 1), .int (nI 99)]) (rest := []) (ws2 := [modW cI m mle mpo mfa mrm mrw mP mQ mbk mkp msg mwm mrs msd mls mhd mtx mnu mrd mrl mpe mno mbo mim msi mwi mon mdi mco mgo mbr mca]) (pc2 := 15) O (c_X7_in l D cI cC cJ x (nI 1) (nI 99)) sC_X7_reword_76 rfl rfl dX7_reword_12 [] rfl rfl rfl rfl (Nat.le_of_ble_eq_true rfl) rfl ?_
    show Z _ _ _ [.int (zb (s_X7_in x (nI 1) (nI 99)))]
    refine zb_if_ne (tgt := 20) (pc2 := 18) O dX7_reword_15 (by decide) rfl (fun c15 => ?_) (fun c15 => ?_)
    · have hc1 := (will_in c5 hmQ)
      rw [hc1.1]
      refine zr_aload_n (pc2 := 21) O dX7_reword_20 rfl 0 rfl rfl ?_
      obtain ⟨u21, hu21⟩ : ∃ z9, z9 = s_X7_note mbk mno mbo 280 := ⟨_, rfl⟩
      refine zr_callV (As := []) (rest := []) (ws2 := [modW cI m mle mpo mfa mrm mrw mP mQ u21.1 mkp msg mwm mrs msd mls mhd mtx mnu mrd mrl mpe mno u21.2 mim msi mwi mon mdi mco mgo mbr mca]) (pc2 := 24) (ci := 7) (g0 := 0) (q0 := 0) (v := none) (W := [modW cI m mle mpo mfa mrm mrw mP mQ mbk mkp msg mwm mrs msd mls mhd mtx mnu mrd mrl mpe mno mbo mim msi mwi mon mdi mco mgo mbr mca]) (W2 := [modW cI m mle mpo mfa mrm mrw mP mQ u21.1 mkp msg mwm mrs msd mls mhd mtx mnu mrd mrl mpe mno u21.2 mim msi mwi mon mdi mco mgo mbr mca]) O (by rw [hu21]; exact (c_X7_note l D cI cC cJ m mle mpo mfa mrm mrw mP mQ mbk mkp msg mwm mrs msd mls mhd mtx mnu mrd mrl mpe mno mbo mim msi mwi mon mdi mco mgo mbr mca 280 (by first | assumption | omega) (by first | assumption | omega))) sC_X7_reword_135 rfl rfl rfl rfl rfl dX7_reword_21 [0] rfl rfl rfl rfl (Nat.le_of_ble_eq_true rfl) rfl ?_
      show Z _ _ _ []
      refine zr_aload_n (pc2 := 25) O dX7_reword_24 rfl 0 rfl rfl ?_
      refine zr_getf (v := .ref (m 14)) (pc2 := 28) O sF_X7_reword_35 0 0 rfl rfl rfl dX7_reword_25 rfl ?_
      refine zr_iconst (v := (nI 3)) (pc2 := 29) O dX7_reword_28 (by decide +kernel) rfl ?_
      refine zr_iload_n (pc2 := 30) O dX7_reword_29 rfl 1 rfl rfl ?_
      refine zr_imul (v := (nI (3 * k.toNatClampNeg))) (pc2 := 31) O dX7_reword_30 (pk_mul 3 k.toNatClampNeg) rfl ?_
      refine zr_iconst (v := (nI 2)) (pc2 := 32) O dX7_reword_31 (by decide +kernel) rfl ?_
      refine zr_iadd (v := (nI ((3 * k.toNatClampNeg) + 2))) (pc2 := 33) O dX7_reword_32 (nI_add (3 * k.toNatClampNeg) 2) rfl ?_
      refine zn_iald (j := ((3 * k.toNatClampNeg) + 2)) (pc2 := 34) O 0 6 0 rfl rfl rfl rfl (by omega) (by decide) dX7_reword_33 rfl ?_
      refine zr_istore_n (lv2 := [(3, .int (mno ((3 * k.toNatClampNeg) + 2))), (0, .ref (m 31)), (1, .int (nI k.toNatClampNeg)), (2, .int x)]) (pc2 := 35) O dX7_reword_34 rfl (by decide) rfl rfl ?_
      refine zr_aload_n (pc2 := 36) O dX7_reword_35 rfl 1 rfl rfl ?_
      refine zr_getf (v := .ref (m 14)) (pc2 := 39) O sF_X7_reword_35 0 0 rfl rfl rfl dX7_reword_36 rfl ?_
      refine zr_iconst (v := (nI 3)) (pc2 := 40) O dX7_reword_39 (by decide +kernel) rfl ?_
      refine zr_iload_n (pc2 := 41) O dX7_reword_40 rfl 2 rfl rfl ?_
      refine zr_imul (v := (nI (3 * k.toNatClampNeg))) (pc2 := 42) O dX7_reword_41 (pk_mul 3 k.toNatClampNeg) rfl ?_
      refine zr_iconst (v := (nI 2)) (pc2 := 43) O dX7_reword_42 (by decide +kernel) rfl ?_
      refine zr_iadd (v := (nI ((3 * k.toNatClampNeg) + 2))) (pc2 := 44) O dX7_reword_43 (nI_add (3 * k.toNatClampNeg) 2) rfl ?_
      refine zr_iload_n (pc2 := 45) O dX7_reword_44 rfl 3 rfl rfl ?_
      refine zn_iast (j := ((3 * k.toNatClampNeg) + 2)) (G2 := modW cI m mle mpo mfa mrm mrw mP mQ u21.1 mkp msg mwm mrs msd mls mhd mtx mnu mrd mrl mpe (upd mno ((3 * k.toNatClampNeg) + 2) x) u21.2 mim msi mwi mon mdi mco mgo mbr mca) (ws2 := [modW cI m mle mpo mfa mrm mrw mP mQ u21.1 mkp msg mwm mrs msd mls mhd mtx mnu mrd mrl mpe (upd mno ((3 * k.toNatClampNeg) + 2) x) u21.2 mim msi mwi mon mdi mco mgo mbr mca]) (pc2 := 46) O 0 6 0 rfl rfl rfl rfl (by omega) (by decide) dX7_reword_45 rfl rfl rfl ?_
      refine zr_iload_n (pc2 := 47) O dX7_reword_46 rfl 0 rfl rfl ?_
      have hE : s_X7_reword mQ mbk mno mbo k x = ((mno ((3 * k.toNatClampNeg) + 2)), u21.1, (upd mno ((3 * k.toNatClampNeg) + 2) x), u21.2) := by subst hu21; exact ((zif_t c5).trans (zif_t c15))
      exact hret _ _ _ _ dX7_reword_47 rfl (by rw [hE]) (by rw [hE])
    · refine zr_iconst (v := (-1)) (pc2 := 19) O dX7_reword_18 (by decide +kernel) rfl ?_
      have hE : s_X7_reword mQ mbk mno mbo k x = ((-1), mbk, mno, mbo) := by exact ((zif_t c5).trans (zif_f c15))
      exact hret _ _ _ _ dX7_reword_19 rfl (by rw [hE]) (by rw [hE])
/-! X7_pass -/
def s_X7_pass (mP : Nat) (mQ : Nat) (mbk : Nat) (mno : zF) (mbo : zF) (k : Int32) (x : Int32) : Int32 × Nat × zF × zF := if (s_X7_in k (nI 0) ((nI mQ) - (nI 1))) = true then if (s_X7_in x (nI 0) ((nI mP) - (nI 1))) = true then if (mno (3 * k.toNatClampNeg)) = x then ((-2), mbk, mno, mbo) else let u34 := s_X7_note mbk mno mbo 280; ((mno ((3 * k.toNatClampNeg) + 1)), u34.1, (upd mno ((3 * k.toNatClampNeg) + 1) x), u34.2) else ((-1), mbk, mno, mbo) else ((-1), mbk, mno, mbo)
set_option maxHeartbeats 4000000 in
set_option maxRecDepth 100000 in
theorem c_X7_pass (l : Launch) (D : va_G) (cI cC cJ : ClassId) (m : Nat → Nat) (mle : Nat) (mpo : Nat) (mfa : Nat) (mrm : Nat) (mrw : Nat) (mP : Nat) (mQ : Nat) (mbk : Nat) (mkp : Nat) (msg : Nat) (mwm : Nat) (mrs : Int32) (msd : Int32) (mls : Int32) (mhd : Int32) (mtx : zF) (mnu : zF) (mrd : zF) (mrl : zF) (mpe : zF) (mno : zF) (mbo : zF) (mim : zF) (msi : zF) (mwi : zF) (mon : zF) (mdi : zF) (mco : zF) (mgo : zF) (mbr : zF) (mca : zF) (k : Int32) (x : Int32) (hmQ : mQ ≤ 9) (hbk : mbk ≤ 8) : zD l yX7_pass wsX7_pass rm_X7_pass D (zT cI cC cJ) [.ref (m 31), .int k, .int x] [modW cI m mle mpo mfa mrm mrw mP mQ mbk mkp msg mwm mrs msd mls mhd mtx mnu mrd mrl mpe mno mbo mim msi mwi mon mdi mco mgo mbr mca] (some (.int ((s_X7_pass mP mQ mbk mno mbo k x).1))) [modW cI m mle mpo mfa mrm mrw mP mQ ((s_X7_pass mP mQ mbk mno mbo k x).2.1) mkp msg mwm mrs msd mls mhd mtx mnu mrd mrl mpe ((s_X7_pass mP mQ mbk mno mbo k x).2.2.1) ((s_X7_pass mP mQ mbk mno mbo k x).2.2.2) mim msi mwi mon mdi mco mgo mbr mca] := by
  refine zD_int (cc := cX7_pass) (maxL := 4) (ty := .int) (lv := [(0, .ref (m 31)), (1, .int k), (2, .int x)]) (by decide +kernel) rfl (Nat.le_of_ble_eq_true rfl) rfl (fun Z O hret => ?_)
  refine zr_aload_n (pc2 := 1) O dX7_pass_0 rfl 0 rfl rfl ?_
  refine zr_iload_n (pc2 := 2) O dX7_pass_1 rfl 1 rfl rfl ?_
  refine zr_callV (As := [.int k]) (rest := []) (ws2 := [modW cI m mle mpo mfa mrm mrw mP mQ mbk mkp msg mwm mrs msd mls mhd mtx mnu mrd mrl mpe mno mbo mim msi mwi mon mdi mco mgo mbr mca]) (pc2 := 5) (ci := 7) (g0 := 0) (q0 := 0) O (c_X7_isWill l D cI cC cJ m mle mpo mfa mrm mrw mP mQ mbk mkp msg mwm mrs msd mls mhd mtx mnu mrd mrl mpe mno mbo mim msi mwi mon mdi mco mgo mbr mca k) sC_X7_pass_128 rfl rfl rfl rfl rfl dX7_pass_2 [0] rfl rfl rfl rfl (Nat.le_of_ble_eq_true rfl) rfl ?_
  show Z _ _ _ [.int (zb (s_X7_in k (nI 0) ((nI mQ) - (nI 1))))]
  refine zb_if_eq (tgt := 16) (pc2 := 8) O dX7_pass_5 (by decide) rfl (fun c5 => ?_) (fun c5 => ?_)
  · refine zr_iconst (v := (-1)) (pc2 := 17) O dX7_pass_16 (by decide +kernel) rfl ?_
    have hE : s_X7_pass mP mQ mbk mno mbo k x = ((-1), mbk, mno, mbo) := by exact (zif_f c5)
    exact hret _ _ _ _ dX7_pass_17 rfl (by rw [hE]) (by rw [hE])
  · refine zr_aload_n (pc2 := 9) O dX7_pass_8 rfl 0 rfl rfl ?_
    refine zr_iload_n (pc2 := 10) O dX7_pass_9 rfl 2 rfl rfl ?_
    refine zr_callV (As := [.int x]) (rest := []) (ws2 := [modW cI m mle mpo mfa mrm mrw mP mQ mbk mkp msg mwm mrs msd mls mhd mtx mnu mrd mrl mpe mno mbo mim msi mwi mon mdi mco mgo mbr mca]) (pc2 := 13) (ci := 7) (g0 := 0) (q0 := 0) O (c_X7_isOne l D cI cC cJ m mle mpo mfa mrm mrw mP mQ mbk mkp msg mwm mrs msd mls mhd mtx mnu mrd mrl mpe mno mbo mim msi mwi mon mdi mco mgo mbr mca x) sC_X7_pass_122 rfl rfl rfl rfl rfl dX7_pass_10 [0] rfl rfl rfl rfl (Nat.le_of_ble_eq_true rfl) rfl ?_
    show Z _ _ _ [.int (zb (s_X7_in x (nI 0) ((nI mP) - (nI 1))))]
    refine zb_if_ne (tgt := 18) (pc2 := 16) O dX7_pass_13 (by decide) rfl (fun c13 => ?_) (fun c13 => ?_)
    · have hc1 := (will_in c5 hmQ)
      rw [hc1.1]
      refine zr_aload_n (pc2 := 19) O dX7_pass_18 rfl 0 rfl rfl ?_
      refine zr_getf (v := .ref (m 14)) (pc2 := 22) O sF_X7_pass_35 0 0 rfl rfl rfl dX7_pass_19 rfl ?_
      refine zr_iconst (v := (nI 3)) (pc2 := 23) O dX7_pass_22 (by decide +kernel) rfl ?_
      refine zr_iload_n (pc2 := 24) O dX7_pass_23 rfl 1 rfl rfl ?_
      refine zr_imul (v := (nI (3 * k.toNatClampNeg))) (pc2 := 25) O dX7_pass_24 (pk_mul 3 k.toNatClampNeg) rfl ?_
      refine zn_iald (j := (3 * k.toNatClampNeg)) (pc2 := 26) O 0 6 0 rfl rfl rfl rfl (by omega) (by decide) dX7_pass_25 rfl ?_
      refine zr_iload_n (pc2 := 27) O dX7_pass_26 rfl 2 rfl rfl ?_
      refine zr_icmp_ne (tgt := 33) (pc2 := 30) O dX7_pass_27 (by decide) rfl (fun c27 => ?_) (fun c27 => ?_)
      · refine zr_aload_n (pc2 := 34) O dX7_pass_33 rfl 0 rfl rfl ?_
        obtain ⟨u34, hu34⟩ : ∃ z9, z9 = s_X7_note mbk mno mbo 280 := ⟨_, rfl⟩
        refine zr_callV (As := []) (rest := []) (ws2 := [modW cI m mle mpo mfa mrm mrw mP mQ u34.1 mkp msg mwm mrs msd mls mhd mtx mnu mrd mrl mpe mno u34.2 mim msi mwi mon mdi mco mgo mbr mca]) (pc2 := 37) (ci := 7) (g0 := 0) (q0 := 0) (v := none) (W := [modW cI m mle mpo mfa mrm mrw mP mQ mbk mkp msg mwm mrs msd mls mhd mtx mnu mrd mrl mpe mno mbo mim msi mwi mon mdi mco mgo mbr mca]) (W2 := [modW cI m mle mpo mfa mrm mrw mP mQ u34.1 mkp msg mwm mrs msd mls mhd mtx mnu mrd mrl mpe mno u34.2 mim msi mwi mon mdi mco mgo mbr mca]) O (by rw [hu34]; exact (c_X7_note l D cI cC cJ m mle mpo mfa mrm mrw mP mQ mbk mkp msg mwm mrs msd mls mhd mtx mnu mrd mrl mpe mno mbo mim msi mwi mon mdi mco mgo mbr mca 280 (by first | assumption | omega) (by first | assumption | omega))) sC_X7_pass_135 rfl rfl rfl rfl rfl dX7_pass_34 [0] rfl rfl rfl rfl (Nat.le_of_ble_eq_true rfl) rfl ?_
        show Z _ _ _ []
        refine zr_aload_n (pc2 := 38) O dX7_pass_37 rfl 0 rfl rfl ?_
        refine zr_getf (v := .ref (m 14)) (pc2 := 41) O sF_X7_pass_35 0 0 rfl rfl rfl dX7_pass_38 rfl ?_
        refine zr_iconst (v := (nI 3)) (pc2 := 42) O dX7_pass_41 (by decide +kernel) rfl ?_
        refine zr_iload_n (pc2 := 43) O dX7_pass_42 rfl 1 rfl rfl ?_
        refine zr_imul (v := (nI (3 * k.toNatClampNeg))) (pc2 := 44) O dX7_pass_43 (pk_mul 3 k.toNatClampNeg) rfl ?_
        refine zr_iconst (v := (nI 1)) (pc2 := 45) O dX7_pass_44 (by decide +kernel) rfl ?_
        refine zr_iadd (v := (nI ((3 * k.toNatClampNeg) + 1))) (pc2 := 46) O dX7_pass_45 (nI_add (3 * k.toNatClampNeg) 1) rfl ?_
        refine zn_iald (j := ((3 * k.toNatClampNeg) + 1)) (pc2 := 47) O 0 6 0 rfl rfl rfl rfl (by omega) (by decide) dX7_pass_46 rfl ?_
        refine zr_istore_n (lv2 := [(3, .int (mno ((3 * k.toNatClampNeg) + 1))), (0, .ref (m 31)), (1, .int (nI k.toNatClampNeg)), (2, .int x)]) (pc2 := 48) O dX7_pass_47 rfl (by decide) rfl rfl ?_
        refine zr_aload_n (pc2 := 49) O dX7_pass_48 rfl 1 rfl rfl ?_
        refine zr_getf (v := .ref (m 14)) (pc2 := 52) O sF_X7_pass_35 0 0 rfl rfl rfl dX7_pass_49 rfl ?_
        refine zr_iconst (v := (nI 3)) (pc2 := 53) O dX7_pass_52 (by decide +kernel) rfl ?_
        refine zr_iload_n (pc2 := 54) O dX7_pass_53 rfl 2 rfl rfl ?_
        refine zr_imul (v := (nI (3 * k.toNatClampNeg))) (pc2 := 55) O dX7_pass_54 (pk_mul 3 k.toNatClampNeg) rfl ?_
        refine zr_iconst (v := (nI 1)) (pc2 := 56) O dX7_pass_55 (by decide +kernel) rfl ?_
        refine zr_iadd (v := (nI ((3 * k.toNatClampNeg) + 1))) (pc2 := 57) O dX7_pass_56 (nI_add (3 * k.toNatClampNeg) 1) rfl ?_
        refine zr_iload_n (pc2 := 58) O dX7_pass_57 rfl 3 rfl rfl ?_
        refine zn_iast (j := ((3 * k.toNatClampNeg) + 1)) (G2 := modW cI m mle mpo mfa mrm mrw mP mQ u34.1 mkp msg mwm mrs msd mls mhd mtx mnu mrd mrl mpe (upd mno ((3 * k.toNatClampNeg) + 1) x) u34.2 mim msi mwi mon mdi mco mgo mbr mca) (ws2 := [modW cI m mle mpo mfa mrm mrw mP mQ u34.1 mkp msg mwm mrs msd mls mhd mtx mnu mrd mrl mpe (upd mno ((3 * k.toNatClampNeg) + 1) x) u34.2 mim msi mwi mon mdi mco mgo mbr mca]) (pc2 := 59) O 0 6 0 rfl rfl rfl rfl (by omega) (by decide) dX7_pass_58 rfl rfl rfl ?_
        refine zr_iload_n (pc2 := 60) O dX7_pass_59 rfl 0 rfl rfl ?_
        have hE : s_X7_pass mP mQ mbk mno mbo k x = ((mno ((3 * k.toNatClampNeg) + 1)), u34.1, (upd mno ((3 * k.toNatClampNeg) + 1) x), u34.2) := by subst hu34; exact ((zif_t c5).trans ((zif_t c13).trans (if_neg c27)))
        exact hret _ _ _ _ dX7_pass_60 rfl (by rw [hE]) (by rw [hE])
      · refine zr_bipush (v := (-2)) (pc2 := 32) O dX7_pass_30 (by decide +kernel) rfl ?_
        have hE : s_X7_pass mP mQ mbk mno mbo k x = ((-2), mbk, mno, mbo) := by exact ((zif_t c5).trans ((zif_t c13).trans (if_pos c27)))
        exact hret _ _ _ _ dX7_pass_32 rfl (by rw [hE]) (by rw [hE])
    · refine zr_iconst (v := (-1)) (pc2 := 17) O dX7_pass_16 (by decide +kernel) rfl ?_
      have hE : s_X7_pass mP mQ mbk mno mbo k x = ((-1), mbk, mno, mbo) := by exact ((zif_t c5).trans (zif_f c13))
      exact hret _ _ _ _ dX7_pass_17 rfl (by rw [hE]) (by rw [hE])
