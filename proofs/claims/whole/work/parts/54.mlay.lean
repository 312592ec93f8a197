/-! X7_layOne -/
def s_X7_layOne (mpe : zF) (i : Nat) (a1 : Int32) (a2 : Int32) (a3 : Int32) (a4 : Int32) (a5 : Int32) : zF := (upd (upd (upd (upd (upd mpe (5 * i) a1) ((5 * i) + 1) a2) ((5 * i) + 2) a3) ((5 * i) + 3) a4) ((5 * i) + 4) a5)
set_option maxHeartbeats 4000000 in
set_option maxRecDepth 100000 in
theorem c_X7_layOne (l : Launch) (D : va_G) (cI cC cJ : ClassId) (m : Nat → Nat) (mle : Nat) (mpo : Nat) (mfa : Nat) (mrm : Nat) (mrw : Nat) (mP : Nat) (mQ : Nat) (mbk : Nat) (mkp : Nat) (msg : Nat) (mwm : Nat) (mrs : Int32) (msd : Int32) (mls : Int32) (mhd : Int32) (mtx : zF) (mnu : zF) (mrd : zF) (mrl : zF) (mpe : zF) (mno : zF) (mbo : zF) (mim : zF) (msi : zF) (mwi : zF) (mon : zF) (mdi : zF) (mco : zF) (mgo : zF) (mbr : zF) (mca : zF) (i : Nat) (a1 : Int32) (a2 : Int32) (a3 : Int32) (a4 : Int32) (a5 : Int32) (hi : i ≤ 5) : zD l yX7_layOne wsX7_layOne rm_X7_layOne D (zT cI cC cJ) [.ref (m 31), .int (nI i), .int a1, .int a2, .int a3, .int a4, .int a5] [modW cI m mle mpo mfa mrm mrw mP mQ mbk mkp msg mwm mrs msd mls mhd mtx mnu mrd mrl mpe mno mbo mim msi mwi mon mdi mco mgo mbr mca] none [modW cI m mle mpo mfa mrm mrw mP mQ mbk mkp msg mwm mrs msd mls mhd mtx mnu mrd mrl (s_X7_layOne mpe i a1 a2 a3 a4 a5) mno mbo mim msi mwi mon mdi mco mgo mbr mca] := by
  refine zD_void (cc := cX7_layOne) (maxL := 7) (lv := [(0, .ref (m 31)), (1, .int (nI i)), (2, .int a1), (3, .int a2), (4, .int a3), (5, .int a4), (6, .int a5)]) (by decide +kernel) rfl (Nat.le_of_ble_eq_true rfl) rfl (fun Z O hret => ?_)
  refine zr_aload_n (pc2 := 1) O dX7_layOne_0 rfl 0 rfl rfl ?_
  refine zr_getf (v := .ref (m 11)) (pc2 := 4) O sF_X7_layOne_26 0 0 rfl rfl rfl dX7_layOne_1 rfl ?_
  refine zr_iconst (v := (nI 5)) (pc2 := 5) O dX7_layOne_4 (by decide +kernel) rfl ?_
  refine zr_iload_n (pc2 := 6) O dX7_layOne_5 rfl 1 rfl rfl ?_
  refine zr_imul (v := (nI (5 * i))) (pc2 := 7) O dX7_layOne_6 (pk_mul 5 i) rfl ?_
  refine zr_iload_n (pc2 := 8) O dX7_layOne_7 rfl 2 rfl rfl ?_
  refine zn_iast (j := (5 * i)) (G2 := modW cI m mle mpo mfa mrm mrw mP mQ mbk mkp msg mwm mrs msd mls mhd mtx mnu mrd mrl (upd mpe (5 * i) a1) mno mbo mim msi mwi mon mdi mco mgo mbr mca) (ws2 := [modW cI m mle mpo mfa mrm mrw mP mQ mbk mkp msg mwm mrs msd mls mhd mtx mnu mrd mrl (upd mpe (5 * i) a1) mno mbo mim msi mwi mon mdi mco mgo mbr mca]) (pc2 := 9) O 0 5 0 rfl rfl rfl rfl (by omega) (by decide) dX7_layOne_8 rfl rfl rfl ?_
  refine zr_aload_n (pc2 := 10) O dX7_layOne_9 rfl 0 rfl rfl ?_
  refine zr_getf (v := .ref (m 11)) (pc2 := 13) O sF_X7_layOne_26 0 0 rfl rfl rfl dX7_layOne_10 rfl ?_
  refine zr_iconst (v := (nI 5)) (pc2 := 14) O dX7_layOne_13 (by decide +kernel) rfl ?_
  refine zr_iload_n (pc2 := 15) O dX7_layOne_14 rfl 1 rfl rfl ?_
  refine zr_imul (v := (nI (5 * i))) (pc2 := 16) O dX7_layOne_15 (pk_mul 5 i) rfl ?_
  refine zr_iconst (v := (nI 1)) (pc2 := 17) O dX7_layOne_16 (by decide +kernel) rfl ?_
  refine zr_iadd (v := (nI ((5 * i) + 1))) (pc2 := 18) O dX7_layOne_17 (nI_add (5 * i) 1) rfl ?_
  refine zr_iload_n (pc2 := 19) O dX7_layOne_18 rfl 3 rfl rfl ?_
  refine zn_iast (j := ((5 * i) + 1)) (G2 := modW cI m mle mpo mfa mrm mrw mP mQ mbk mkp msg mwm mrs msd mls mhd mtx mnu mrd mrl (upd (upd mpe (5 * i) a1) ((5 * i) + 1) a2) mno mbo mim msi mwi mon mdi mco mgo mbr mca) (ws2 := [modW cI m mle mpo mfa mrm mrw mP mQ mbk mkp msg mwm mrs msd mls mhd mtx mnu mrd mrl (upd (upd mpe (5 * i) a1) ((5 * i) + 1) a2) mno mbo mim msi mwi mon mdi mco mgo mbr mca]) (pc2 := 20) O 0 5 0 rfl rfl rfl rfl (by omega) (by decide) dX7_layOne_19 rfl rfl rfl ?_
  refine zr_aload_n (pc2 := 21) O dX7_layOne_20 rfl 0 rfl rfl ?_
  refine zr_getf (v := .ref (m 11)) (pc2 := 24) O sF_X7_layOne_26 0 0 rfl rfl rfl dX7_layOne_21 rfl ?_
  refine zr_iconst (v := (nI 5)) (pc2 := 25) O dX7_layOne_24 (by decide +kernel) rfl ?_
  refine zr_iload_n (pc2 := 26) O dX7_layOne_25 rfl 1 rfl rfl ?_
  refine zr_imul (v := (nI (5 * i))) (pc2 := 27) O dX7_layOne_26 (pk_mul 5 i) rfl ?_
  refine zr_iconst (v := (nI 2)) (pc2 := 28) O dX7_layOne_27 (by decide +kernel) rfl ?_
  refine zr_iadd (v := (nI ((5 * i) + 2))) (pc2 := 29) O dX7_layOne_28 (nI_add (5 * i) 2) rfl ?_
  refine zr_iload (pc2 := 31) O dX7_layOne_29 4 rfl rfl ?_
  refine zn_iast (j := ((5 * i) + 2)) (G2 := modW cI m mle mpo mfa mrm mrw mP mQ mbk mkp msg mwm mrs msd mls mhd mtx mnu mrd mrl (upd (upd (upd mpe (5 * i) a1) ((5 * i) + 1) a2) ((5 * i) + 2) a3) mno mbo mim msi mwi mon mdi mco mgo mbr mca) (ws2 := [modW cI m mle mpo mfa mrm mrw mP mQ mbk mkp msg mwm mrs msd mls mhd mtx mnu mrd mrl (upd (upd (upd mpe (5 * i) a1) ((5 * i) + 1) a2) ((5 * i) + 2) a3) mno mbo mim msi mwi mon mdi mco mgo mbr mca]) (pc2 := 32) O 0 5 0 rfl rfl rfl rfl (by omega) (by decide) dX7_layOne_31 rfl rfl rfl ?_
  refine zr_aload_n (pc2 := 33) O dX7_layOne_32 rfl 0 rfl rfl ?_
  refine zr_getf (v := .ref (m 11)) (pc2 := 36) O sF_X7_layOne_26 0 0 rfl rfl rfl dX7_layOne_33 rfl ?_
  refine zr_iconst (v := (nI 5)) (pc2 := 37) O dX7_layOne_36 (by decide +kernel) rfl ?_
  refine zr_iload_n (pc2 := 38) O dX7_layOne_37 rfl 1 rfl rfl ?_
  refine zr_imul (v := (nI (5 * i))) (pc2 := 39) O dX7_layOne_38 (pk_mul 5 i) rfl ?_
  refine zr_iconst (v := (nI 3)) (pc2 := 40) O dX7_layOne_39 (by decide +kernel) rfl ?_
  refine zr_iadd (v := (nI ((5 * i) + 3))) (pc2 := 41) O dX7_layOne_40 (nI_add (5 * i) 3) rfl ?_
  refine zr_iload (pc2 := 43) O dX7_layOne_41 5 rfl rfl ?_
  refine zn_iast (j := ((5 * i) + 3)) (G2 := modW cI m mle mpo mfa mrm mrw mP mQ mbk mkp msg mwm mrs msd mls mhd mtx mnu mrd mrl (upd (upd (upd (upd mpe (5 * i) a1) ((5 * i) + 1) a2) ((5 * i) + 2) a3) ((5 * i) + 3) a4) mno mbo mim msi mwi mon mdi mco mgo mbr mca) (ws2 := [modW cI m mle mpo mfa mrm mrw mP mQ mbk mkp msg mwm mrs msd mls mhd mtx mnu mrd mrl (upd (upd (upd (upd mpe (5 * i) a1) ((5 * i) + 1) a2) ((5 * i) + 2) a3) ((5 * i) + 3) a4) mno mbo mim msi mwi mon mdi mco mgo mbr mca]) (pc2 := 44) O 0 5 0 rfl rfl rfl rfl (by omega) (by decide) dX7_layOne_43 rfl rfl rfl ?_
  refine zr_aload_n (pc2 := 45) O dX7_layOne_44 rfl 0 rfl rfl ?_
  refine zr_getf (v := .ref (m 11)) (pc2 := 48) O sF_X7_layOne_26 0 0 rfl rfl rfl dX7_layOne_45 rfl ?_
  refine zr_iconst (v := (nI 5)) (pc2 := 49) O dX7_layOne_48 (by decide +kernel) rfl ?_
  refine zr_iload_n (pc2 := 50) O dX7_layOne_49 rfl 1 rfl rfl ?_
  refine zr_imul (v := (nI (5 * i))) (pc2 := 51) O dX7_layOne_50 (pk_mul 5 i) rfl ?_
  refine zr_iconst (v := (nI 4)) (pc2 := 52) O dX7_layOne_51 (by decide +kernel) rfl ?_
  refine zr_iadd (v := (nI ((5 * i) + 4))) (pc2 := 53) O dX7_layOne_52 (nI_add (5 * i) 4) rfl ?_
  refine zr_iload (pc2 := 55) O dX7_layOne_53 6 rfl rfl ?_
  refine zn_iast (j := ((5 * i) + 4)) (G2 := modW cI m mle mpo mfa mrm mrw mP mQ mbk mkp msg mwm mrs msd mls mhd mtx mnu mrd mrl (upd (upd (upd (upd (upd mpe (5 * i) a1) ((5 * i) + 1) a2) ((5 * i) + 2) a3) ((5 * i) + 3) a4) ((5 * i) + 4) a5) mno mbo mim msi mwi mon mdi mco mgo mbr mca) (ws2 := [modW cI m mle mpo mfa mrm mrw mP mQ mbk mkp msg mwm mrs msd mls mhd mtx mnu mrd mrl (upd (upd (upd (upd (upd mpe (5 * i) a1) ((5 * i) + 1) a2) ((5 * i) + 2) a3) ((5 * i) + 3) a4) ((5 * i) + 4) a5) mno mbo mim msi mwi mon mdi mco mgo mbr mca]) (pc2 := 56) O 0 5 0 rfl rfl rfl rfl (by omega) (by decide) dX7_layOne_55 rfl rfl rfl ?_
  have hE : s_X7_layOne mpe i a1 a2 a3 a4 a5 = (upd (upd (upd (upd (upd mpe (5 * i) a1) ((5 * i) + 1) a2) ((5 * i) + 2) a3) ((5 * i) + 3) a4) ((5 * i) + 4) a5) := by exact rfl
  exact hret _ _ _ dX7_layOne_56 (by rw [hE])
/-! X7_layWill -/
def s_X7_layWill (mno : zF) (i : Nat) (a1 : Int32) (a2 : Int32) (a3 : Int32) : zF := (upd (upd (upd mno (3 * i) a1) ((3 * i) + 1) a2) ((3 * i) + 2) a3)
set_option maxHeartbeats 4000000 in
set_option maxRecDepth 100000 in
theorem c_X7_layWill (l : Launch) (D : va_G) (cI cC cJ : ClassId) (m : Nat → Nat) (mle : Nat) (mpo : Nat) (mfa : Nat) (mrm : Nat) (mrw : Nat) (mP : Nat) (mQ : Nat) (mbk : Nat) (mkp : Nat) (msg : Nat) (mwm : Nat) (mrs : Int32) (msd : Int32) (mls : Int32) (mhd : Int32) (mtx : zF) (mnu : zF) (mrd : zF) (mrl : zF) (mpe : zF) (mno : zF) (mbo : zF) (mim : zF) (msi : zF) (mwi : zF) (mon : zF) (mdi : zF) (mco : zF) (mgo : zF) (mbr : zF) (mca : zF) (i : Nat) (a1 : Int32) (a2 : Int32) (a3 : Int32) (hi : i ≤ 8) : zD l yX7_layWill wsX7_layWill rm_X7_layWill D (zT cI cC cJ) [.ref (m 31), .int (nI i), .int a1, .int a2, .int a3] [modW cI m mle mpo mfa mrm mrw mP mQ mbk mkp msg mwm mrs msd mls mhd mtx mnu mrd mrl mpe mno mbo mim msi mwi mon mdi mco mgo mbr mca] none [modW cI m mle mpo mfa mrm mrw mP mQ mbk mkp msg mwm mrs msd mls mhd mtx mnu mrd mrl mpe (s_X7_layWill mno i a1 a2 a3) mbo mim msi mwi mon mdi mco mgo mbr mca] := by
  refine zD_void (cc := cX7_layWill) (maxL := 5) (lv := [(0, .ref (m 31)), (1, .int (nI i)), (2, .int a1), (3, .int a2), (4, .int a3)]) (by decide +kernel) rfl (Nat.le_of_ble_eq_true rfl) rfl (fun Z O hret => ?_)
  refine zr_aload_n (pc2 := 1) O dX7_layWill_0 rfl 0 rfl rfl ?_
  refine zr_getf (v := .ref (m 14)) (pc2 := 4) O sF_X7_layWill_35 0 0 rfl rfl rfl dX7_layWill_1 rfl ?_
  refine zr_iconst (v := (nI 3)) (pc2 := 5) O dX7_layWill_4 (by decide +kernel) rfl ?_
  refine zr_iload_n (pc2 := 6) O dX7_layWill_5 rfl 1 rfl rfl ?_
  refine zr_imul (v := (nI (3 * i))) (pc2 := 7) O dX7_layWill_6 (pk_mul 3 i) rfl ?_
  refine zr_iload_n (pc2 := 8) O dX7_layWill_7 rfl 2 rfl rfl ?_
  refine zn_iast (j := (3 * i)) (G2 := modW cI m mle mpo mfa mrm mrw mP mQ mbk mkp msg mwm mrs msd mls mhd mtx mnu mrd mrl mpe (upd mno (3 * i) a1) mbo mim msi mwi mon mdi mco mgo mbr mca) (ws2 := [modW cI m mle mpo mfa mrm mrw mP mQ mbk mkp msg mwm mrs msd mls mhd mtx mnu mrd mrl mpe (upd mno (3 * i) a1) mbo mim msi mwi mon mdi mco mgo mbr mca]) (pc2 := 9) O 0 6 0 rfl rfl rfl rfl (by omega) (by decide) dX7_layWill_8 rfl rfl rfl ?_
  refine zr_aload_n (pc2 := 10) O dX7_layWill_9 rfl 0 rfl rfl ?_
  refine zr_getf (v := .ref (m 14)) (pc2 := 13) O sF_X7_layWill_35 0 0 rfl rfl rfl dX7_layWill_10 rfl ?_
  refine zr_iconst (v := (nI 3)) (pc2 := 14) O dX7_layWill_13 (by decide +kernel) rfl ?_
  refine zr_iload_n (pc2 := 15) O dX7_layWill_14 rfl 1 rfl rfl ?_
  refine zr_imul (v := (nI (3 * i))) (pc2 := 16) O dX7_layWill_15 (pk_mul 3 i) rfl ?_
  refine zr_iconst (v := (nI 1)) (pc2 := 17) O dX7_layWill_16 (by decide +kernel) rfl ?_
  refine zr_iadd (v := (nI ((3 * i) + 1))) (pc2 := 18) O dX7_layWill_17 (nI_add (3 * i) 1) rfl ?_
  refine zr_iload_n (pc2 := 19) O dX7_layWill_18 rfl 3 rfl rfl ?_
  refine zn_iast (j := ((3 * i) + 1)) (G2 := modW cI m mle mpo mfa mrm mrw mP mQ mbk mkp msg mwm mrs msd mls mhd mtx mnu mrd mrl mpe (upd (upd mno (3 * i) a1) ((3 * i) + 1) a2) mbo mim msi mwi mon mdi mco mgo mbr mca) (ws2 := [modW cI m mle mpo mfa mrm mrw mP mQ mbk mkp msg mwm mrs msd mls mhd mtx mnu mrd mrl mpe (upd (upd mno (3 * i) a1) ((3 * i) + 1) a2) mbo mim msi mwi mon mdi mco mgo mbr mca]) (pc2 := 20) O 0 6 0 rfl rfl rfl rfl (by omega) (by decide) dX7_layWill_19 rfl rfl rfl ?_
  refine zr_aload_n (pc2 := 21) O dX7_layWill_20 rfl 0 rfl rfl ?_
  refine zr_getf (v := .ref (m 14)) (pc2 := 24) O sF_X7_layWill_35 0 0 rfl rfl rfl dX7_layWill_21 rfl ?_
  refine zr_iconst (v := (nI 3)) (pc2 := 25) O dX7_layWill_24 (by decide +kernel) rfl ?_
  refine zr_iload_n (pc2 := 26) O dX7_layWill_25 rfl 1 rfl rfl ?_
  refine zr_imul (v := (nI (3 * i))) (pc2 := 27) O dX7_layWill_26 (pk_mul 3 i) rfl ?_
  refine zr_iconst (v := (nI 2)) (pc2 := 28) O dX7_layWill_27 (by decide +kernel) rfl ?_
  refine zr_iadd (v := (nI ((3 * i) + 2))) (pc2 := 29) O dX7_layWill_28 (nI_add (3 * i) 2) rfl ?_
  refine zr_iload (pc2 := 31) O dX7_layWill_29 4 rfl rfl ?_
  refine zn_iast (j := ((3 * i) + 2)) (G2 := modW cI m mle mpo mfa mrm mrw mP mQ mbk mkp msg mwm mrs msd mls mhd mtx mnu mrd mrl mpe (upd (upd (upd mno (3 * i) a1) ((3 * i) + 1) a2) ((3 * i) + 2) a3) mbo mim msi mwi mon mdi mco mgo mbr mca) (ws2 := [modW cI m mle mpo mfa mrm mrw mP mQ mbk mkp msg mwm mrs msd mls mhd mtx mnu mrd mrl mpe (upd (upd (upd mno (3 * i) a1) ((3 * i) + 1) a2) ((3 * i) + 2) a3) mbo mim msi mwi mon mdi mco mgo mbr mca]) (pc2 := 32) O 0 6 0 rfl rfl rfl rfl (by omega) (by decide) dX7_layWill_31 rfl rfl rfl ?_
  have hE : s_X7_layWill mno i a1 a2 a3 = (upd (upd (upd mno (3 * i) a1) ((3 * i) + 1) a2) ((3 * i) + 2) a3) := by exact rfl
  exact hret _ _ _ dX7_layWill_32 (by rw [hE])
