/-! X7_undo -/
def s_X7_undo (mbk : Nat) (mno : zF) (mbo : zF) : Int32 × Nat × zF := if mbk = 0 then ((-2), mbk, mno) else ((nI (mbk - 1)), mbk - 1, (s_X7_copy mbo mno (40 * (mbk - 1)) 0))
set_option maxHeartbeats 4000000 in
set_option maxRecDepth 100000 in
theorem c_X7_undo (l : Launch) (D : va_G) (cI cC cJ : ClassId) (m : Nat → Nat) (mle : Nat) (mpo : Nat) (mfa : Nat) (mrm : Nat) (mrw : Nat) (mP : Nat) (mQ : Nat) (mbk : Nat) (mkp : Nat) (msg : Nat) (mwm : Nat) (mrs : Int32) (msd : Int32) (mls : Int32) (mhd : Int32) (mtx : zF) (mnu : zF) (mrd : zF) (mrl : zF) (mpe : zF) (mno : zF) (mbo : zF) (mim : zF) (msi : zF) (mwi : zF) (mon : zF) (mdi : zF) (mco : zF) (mgo : zF) (mbr : zF) (mca : zF) (hbk : mbk ≤ 8) : zD l yX7_undo wsX7_undo rm_X7_undo D (zT cI cC cJ) [.ref (m 31)] [modW cI m mle mpo mfa mrm mrw mP mQ mbk mkp msg mwm mrs msd mls mhd mtx mnu mrd mrl mpe mno mbo mim msi mwi mon mdi mco mgo mbr mca] (some (.int ((s_X7_undo mbk mno mbo).1))) [modW cI m mle mpo mfa mrm mrw mP mQ ((s_X7_undo mbk mno mbo).2.1) mkp msg mwm mrs msd mls mhd mtx mnu mrd mrl mpe ((s_X7_undo mbk mno mbo).2.2) mbo mim msi mwi mon mdi mco mgo mbr mca] := by
  refine zD_int (cc := cX7_undo) (maxL := 1) (ty := .int) (lv := [(0, .ref (m 31))]) (by decide +kernel) rfl (Nat.le_of_ble_eq_true rfl) rfl (fun Z O hret => ?_)
  refine zr_aload_n (pc2 := 1) O dX7_undo_0 rfl 0 rfl rfl ?_
  refine zr_getf (v := .int (nI mbk)) (pc2 := 4) O sF_X7_undo_116 0 0 rfl rfl rfl dX7_undo_1 rfl ?_
  refine zn_if_ne (tgt := 10) (pc2 := 7) O dX7_undo_4 (by decide) rfl (by omega) (fun c4 => ?_) (fun c4 => ?_)
  · refine zr_aload_n (pc2 := 11) O dX7_undo_10 rfl 0 rfl rfl ?_
    refine zr_dup (pc2 := 12) O dX7_undo_11 rfl rfl ?_
    refine zr_getf (v := .int (nI mbk)) (pc2 := 15) O sF_X7_undo_116 0 0 rfl rfl rfl dX7_undo_12 rfl ?_
    refine zr_iconst (v := (nI 1)) (pc2 := 16) O dX7_undo_15 (by decide +kernel) rfl ?_
    refine zr_isub (v := (nI (mbk - 1))) (pc2 := 17) O dX7_undo_16 (pk_sub (by omega)) rfl ?_
    refine zr_putf (G2 := modW cI m mle mpo mfa mrm mrw mP mQ (mbk - 1) mkp msg mwm mrs msd mls mhd mtx mnu mrd mrl mpe mno mbo mim msi mwi mon mdi mco mgo mbr mca) (ws2 := [modW cI m mle mpo mfa mrm mrw mP mQ (mbk - 1) mkp msg mwm mrs msd mls mhd mtx mnu mrd mrl mpe mno mbo mim msi mwi mon mdi mco mgo mbr mca]) (pc2 := 20) O sP_X7_undo_116 0 0 rfl rfl rfl rfl (Nat.le_of_ble_eq_true rfl) dX7_undo_17 rfl rfl rfl ?_
    refine zr_aload_n (pc2 := 21) O dX7_undo_20 rfl 0 rfl rfl ?_
    refine zr_getf (v := .ref (m 15)) (pc2 := 24) O sF_X7_undo_38 0 0 rfl rfl rfl dX7_undo_21 rfl ?_
    refine zr_bipush (v := (nI 40)) (pc2 := 26) O dX7_undo_24 (by decide +kernel) rfl ?_
    refine zr_aload_n (pc2 := 27) O dX7_undo_26 rfl 0 rfl rfl ?_
    refine zr_getf (v := .int (nI (mbk - 1))) (pc2 := 30) O sF_X7_undo_116 0 0 rfl rfl rfl dX7_undo_27 rfl ?_
    refine zr_imul (v := (nI (40 * (mbk - 1)))) (pc2 := 31) O dX7_undo_30 (pk_mul 40 (mbk - 1)) rfl ?_
    refine zr_aload_n (pc2 := 32) O dX7_undo_31 rfl 0 rfl rfl ?_
    refine zr_getf (v := .ref (m 14)) (pc2 := 35) O sF_X7_undo_35 0 0 rfl rfl rfl dX7_undo_32 rfl ?_
    refine zr_iconst (v := (nI 0)) (pc2 := 36) O dX7_undo_35 (by decide +kernel) rfl ?_
    refine zr_flat (ws2 := [[((m 31), .inr (7, [.int (nI mle), .ref (m 1), .int (nI mpo), .ref (m 3), .int (nI mfa), .int (nI mrm), .int (nI mrw), .ref (m 7), .ref (m 8), .int mrs, .int (nI mP), .ref (m 11), .int (nI mQ), .int msd, .ref (m 14), .ref (m 15), .int (nI (mbk - 1)), .ref (m 17), .int (nI mkp), .int (nI msg), .ref (m 20), .ref (m 21), .int (nI mwm), .ref (m 23), .int mls, .ref (m 25), .ref (m 26), .ref (m 27), .ref (m 28), .int mhd, .ref (m 30)]))], [((m 1), .inl (cI, 200, .inl mtx))], [((m 3), .inl (cI, 4, .inl mnu))], [((m 7), .inl (cI, 30, .inl mrd))], [((m 8), .inl (cI, 27, .inl mrl))], [((m 11), .inl (cI, 30, .inl mpe))], [((m 14), .inl (cI, 40, .inl mno))], [((m 15), .inl (cI, 320, .inl mbo))], [((m 17), .inl (cI, 80, .inl mim))], [((m 20), .inl (cI, 24, .inl msi))], [((m 21), .inl (cI, 30, .inl mwi))], [((m 23), .inl (cI, 30, .inl mon))], [((m 25), .inl (cI, 6, .inl mdi))], [((m 26), .inl (cI, 6, .inl mco))], [((m 27), .inl (cI, 6, .inl mgo))], [((m 28), .inl (cI, 10, .inl mbr))], [((m 30), .inl (cI, 906, .inl mca))]]) O rfl ?_
    refine zr_callS (As := [.ref (m 15), .int (nI (40 * (mbk - 1))), .ref (m 14), .int (nI 0)]) (rest := []) (ws2 := [[((m 31), .inr (7, [.int (nI mle), .ref (m 1), .int (nI mpo), .ref (m 3), .int (nI mfa), .int (nI mrm), .int (nI mrw), .ref (m 7), .ref (m 8), .int mrs, .int (nI mP), .ref (m 11), .int (nI mQ), .int msd, .ref (m 14), .ref (m 15), .int (nI (mbk - 1)), .ref (m 17), .int (nI mkp), .int (nI msg), .ref (m 20), .ref (m 21), .int (nI mwm), .ref (m 23), .int mls, .ref (m 25), .ref (m 26), .ref (m 27), .ref (m 28), .int mhd, .ref (m 30)]))], [((m 1), .inl (cI, 200, .inl mtx))], [((m 3), .inl (cI, 4, .inl mnu))], [((m 7), .inl (cI, 30, .inl mrd))], [((m 8), .inl (cI, 27, .inl mrl))], [((m 11), .inl (cI, 30, .inl mpe))], [((m 14), .inl (cI, 40, .inl (s_X7_copy mbo mno (40 * (mbk - 1)) 0)))], [((m 15), .inl (cI, 320, .inl mbo))], [((m 17), .inl (cI, 80, .inl mim))], [((m 20), .inl (cI, 24, .inl msi))], [((m 21), .inl (cI, 30, .inl mwi))], [((m 23), .inl (cI, 30, .inl mon))], [((m 25), .inl (cI, 6, .inl mdi))], [((m 26), .inl (cI, 6, .inl mco))], [((m 27), .inl (cI, 6, .inl mgo))], [((m 28), .inl (cI, 10, .inl mbr))], [((m 30), .inl (cI, 906, .inl mca))]]) (pc2 := 39) O (c_X7_copy l D cI cC cJ (m 15) (m 14) mbo mno (40 * (mbk - 1)) 0 320 40 (by omega) (by omega) (by decide) (by decide)) sC_X7_undo_131 rfl rfl dX7_undo_36 [7, 6] rfl rfl rfl rfl (Nat.le_of_ble_eq_true rfl) rfl ?_
    show Z _ _ _ []
    refine zr_flat (ws2 := [modW cI m mle mpo mfa mrm mrw mP mQ (mbk - 1) mkp msg mwm mrs msd mls mhd mtx mnu mrd mrl mpe (s_X7_copy mbo mno (40 * (mbk - 1)) 0) mbo mim msi mwi mon mdi mco mgo mbr mca]) O rfl ?_
    refine zr_aload_n (pc2 := 40) O dX7_undo_39 rfl 0 rfl rfl ?_
    refine zr_getf (v := .int (nI (mbk - 1))) (pc2 := 43) O sF_X7_undo_116 0 0 rfl rfl rfl dX7_undo_40 rfl ?_
    have hE : s_X7_undo mbk mno mbo = ((nI (mbk - 1)), mbk - 1, (s_X7_copy mbo mno (40 * (mbk - 1)) 0)) := by exact (if_neg c4)
    exact hret _ _ _ _ dX7_undo_43 rfl (by rw [hE]) (by rw [hE])
  · refine zr_bipush (v := (-2)) (pc2 := 9) O dX7_undo_7 (by decide +kernel) rfl ?_
    have hE : s_X7_undo mbk mno mbo = ((-2), mbk, mno) := by exact (if_pos c4)
    exact hret _ _ _ _ dX7_undo_9 rfl (by rw [hE]) (by rw [hE])
/-! X7_keep -/
def s_X7_keep (mkp : Nat) (mno : zF) (mim : zF) : Int32 × Nat × zF := if mkp = 2 then ((-3), mkp, mim) else ((nI (mkp + 1)), mkp + 1, (s_X7_copy mno mim 0 (40 * mkp)))
set_option maxHeartbeats 4000000 in
set_option maxRecDepth 100000 in
theorem c_X7_keep (l : Launch) (D : va_G) (cI cC cJ : ClassId) (m : Nat → Nat) (mle : Nat) (mpo : Nat) (mfa : Nat) (mrm : Nat) (mrw : Nat) (mP : Nat) (mQ : Nat) (mbk : Nat) (mkp : Nat) (msg : Nat) (mwm : Nat) (mrs : Int32) (msd : Int32) (mls : Int32) (mhd : Int32) (mtx : zF) (mnu : zF) (mrd : zF) (mrl : zF) (mpe : zF) (mno : zF) (mbo : zF) (mim : zF) (msi : zF) (mwi : zF) (mon : zF) (mdi : zF) (mco : zF) (mgo : zF) (mbr : zF) (mca : zF) (hkp : mkp ≤ 2) : zD l yX7_keep wsX7_keep rm_X7_keep D (zT cI cC cJ) [.ref (m 31)] [modW cI m mle mpo mfa mrm mrw mP mQ mbk mkp msg mwm mrs msd mls mhd mtx mnu mrd mrl mpe mno mbo mim msi mwi mon mdi mco mgo mbr mca] (some (.int ((s_X7_keep mkp mno mim).1))) [modW cI m mle mpo mfa mrm mrw mP mQ mbk ((s_X7_keep mkp mno mim).2.1) msg mwm mrs msd mls mhd mtx mnu mrd mrl mpe mno mbo ((s_X7_keep mkp mno mim).2.2) msi mwi mon mdi mco mgo mbr mca] := by
  refine zD_int (cc := cX7_keep) (maxL := 1) (ty := .int) (lv := [(0, .ref (m 31))]) (by decide +kernel) rfl (Nat.le_of_ble_eq_true rfl) rfl (fun Z O hret => ?_)
  refine zr_aload_n (pc2 := 1) O dX7_keep_0 rfl 0 rfl rfl ?_
  refine zr_getf (v := .int (nI mkp)) (pc2 := 4) O sF_X7_keep_119 0 0 rfl rfl rfl dX7_keep_1 rfl ?_
  refine zr_iconst (v := (nI 2)) (pc2 := 5) O dX7_keep_4 (by decide +kernel) rfl ?_
  refine zn_icmp_ne (tgt := 11) (pc2 := 8) O dX7_keep_5 (by decide) rfl (by omega) (by omega) (fun c5 => ?_) (fun c5 => ?_)
  · refine zr_aload_n (pc2 := 12) O dX7_keep_11 rfl 0 rfl rfl ?_
    refine zr_getf (v := .ref (m 14)) (pc2 := 15) O sF_X7_keep_35 0 0 rfl rfl rfl dX7_keep_12 rfl ?_
    refine zr_iconst (v := (nI 0)) (pc2 := 16) O dX7_keep_15 (by decide +kernel) rfl ?_
    refine zr_aload_n (pc2 := 17) O dX7_keep_16 rfl 0 rfl rfl ?_
    refine zr_getf (v := .ref (m 17)) (pc2 := 20) O sF_X7_keep_41 0 0 rfl rfl rfl dX7_keep_17 rfl ?_
    refine zr_bipush (v := (nI 40)) (pc2 := 22) O dX7_keep_20 (by decide +kernel) rfl ?_
    refine zr_aload_n (pc2 := 23) O dX7_keep_22 rfl 0 rfl rfl ?_
    refine zr_getf (v := .int (nI mkp)) (pc2 := 26) O sF_X7_keep_119 0 0 rfl rfl rfl dX7_keep_23 rfl ?_
    refine zr_imul (v := (nI (40 * mkp))) (pc2 := 27) O dX7_keep_26 (pk_mul 40 mkp) rfl ?_
    refine zr_flat (ws2 := [[((m 31), .inr (7, [.int (nI mle), .ref (m 1), .int (nI mpo), .ref (m 3), .int (nI mfa), .int (nI mrm), .int (nI mrw), .ref (m 7), .ref (m 8), .int mrs, .int (nI mP), .ref (m 11), .int (nI mQ), .int msd, .ref (m 14), .ref (m 15), .int (nI mbk), .ref (m 17), .int (nI mkp), .int (nI msg), .ref (m 20), .ref (m 21), .int (nI mwm), .ref (m 23), .int mls, .ref (m 25), .ref (m 26), .ref (m 27), .ref (m 28), .int mhd, .ref (m 30)]))], [((m 1), .inl (cI, 200, .inl mtx))], [((m 3), .inl (cI, 4, .inl mnu))], [((m 7), .inl (cI, 30, .inl mrd))], [((m 8), .inl (cI, 27, .inl mrl))], [((m 11), .inl (cI, 30, .inl mpe))], [((m 14), .inl (cI, 40, .inl mno))], [((m 15), .inl (cI, 320, .inl mbo))], [((m 17), .inl (cI, 80, .inl mim))], [((m 20), .inl (cI, 24, .inl msi))], [((m 21), .inl (cI, 30, .inl mwi))], [((m 23), .inl (cI, 30, .inl mon))], [((m 25), .inl (cI, 6, .inl mdi))], [((m 26), .inl (cI, 6, .inl mco))], [((m 27), .inl (cI, 6, .inl mgo))], [((m 28), .inl (cI, 10, .inl mbr))], [((m 30), .inl (cI, 906, .inl mca))]]) O rfl ?_
    refine zr_callS (As := [.ref (m 14), .int (nI 0), .ref (m 17), .int (nI (40 * mkp))]) (rest := []) (ws2 := [[((m 31), .inr (7, [.int (nI mle), .ref (m 1), .int (nI mpo), .ref (m 3), .int (nI mfa), .int (nI mrm), .int (nI mrw), .ref (m 7), .ref (m 8), .int mrs, .int (nI mP), .ref (m 11), .int (nI mQ), .int msd, .ref (m 14), .ref (m 15), .int (nI mbk), .ref (m 17), .int (nI mkp), .int (nI msg), .ref (m 20), .ref (m 21), .int (nI mwm), .ref (m 23), .int mls, .ref (m 25), .ref (m 26), .ref (m 27), .ref (m 28), .int mhd, .ref (m 30)]))], [((m 1), .inl (cI, 200, .inl mtx))], [((m 3), .inl (cI, 4, .inl mnu))], [((m 7), .inl (cI, 30, .inl mrd))], [((m 8), .inl (cI, 27, .inl mrl))], [((m 11), .inl (cI, 30, .inl mpe))], [((m 14), .inl (cI, 40, .inl mno))], [((m 15), .inl (cI, 320, .inl mbo))], [((m 17), .inl (cI, 80, .inl (s_X7_copy mno mim 0 (40 * mkp))))], [((m 20), .inl (cI, 24, .inl msi))], [((m 21), .inl (cI, 30, .inl mwi))], [((m 23), .inl (cI, 30, .inl mon))], [((m 25), .inl (cI, 6, .inl mdi))], [((m 26), .inl (cI, 6, .inl mco))], [((m 27), .inl (cI, 6, .inl mgo))], [((m 28), .inl (cI, 10, .inl mbr))], [((m 30), .inl (cI, 906, .inl mca))]]) (pc2 := 30) O (c_X7_copy l D cI cC cJ (m 14) (m 17) mno mim 0 (40 * mkp) 40 80 (by omega) (by omega) (by decide) (by decide)) sC_X7_keep_131 rfl rfl dX7_keep_27 [6, 8] rfl rfl rfl rfl (Nat.le_of_ble_eq_true rfl) rfl ?_
    show Z _ _ _ []
    refine zr_flat (ws2 := [modW cI m mle mpo mfa mrm mrw mP mQ mbk mkp msg mwm mrs msd mls mhd mtx mnu mrd mrl mpe mno mbo (s_X7_copy mno mim 0 (40 * mkp)) msi mwi mon mdi mco mgo mbr mca]) O rfl ?_
    refine zr_aload_n (pc2 := 31) O dX7_keep_30 rfl 0 rfl rfl ?_
    refine zr_dup (pc2 := 32) O dX7_keep_31 rfl rfl ?_
    refine zr_getf (v := .int (nI mkp)) (pc2 := 35) O sF_X7_keep_119 0 0 rfl rfl rfl dX7_keep_32 rfl ?_
    refine zr_iconst (v := (nI 1)) (pc2 := 36) O dX7_keep_35 (by decide +kernel) rfl ?_
    refine zr_iadd (v := (nI (mkp + 1))) (pc2 := 37) O dX7_keep_36 (nI_add mkp 1) rfl ?_
    refine zr_putf (G2 := modW cI m mle mpo mfa mrm mrw mP mQ mbk (mkp + 1) msg mwm mrs msd mls mhd mtx mnu mrd mrl mpe mno mbo (s_X7_copy mno mim 0 (40 * mkp)) msi mwi mon mdi mco mgo mbr mca) (ws2 := [modW cI m mle mpo mfa mrm mrw mP mQ mbk (mkp + 1) msg mwm mrs msd mls mhd mtx mnu mrd mrl mpe mno mbo (s_X7_copy mno mim 0 (40 * mkp)) msi mwi mon mdi mco mgo mbr mca]) (pc2 := 40) O sP_X7_keep_119 0 0 rfl rfl rfl rfl (Nat.le_of_ble_eq_true rfl) dX7_keep_37 rfl rfl rfl ?_
    refine zr_aload_n (pc2 := 41) O dX7_keep_40 rfl 0 rfl rfl ?_
    refine zr_getf (v := .int (nI (mkp + 1))) (pc2 := 44) O sF_X7_keep_119 0 0 rfl rfl rfl dX7_keep_41 rfl ?_
    have hE : s_X7_keep mkp mno mim = ((nI (mkp + 1)), mkp + 1, (s_X7_copy mno mim 0 (40 * mkp))) := by exact (if_neg c5)
    exact hret _ _ _ _ dX7_keep_44 rfl (by rw [hE]) (by rw [hE])
  · refine zr_bipush (v := (-3)) (pc2 := 10) O dX7_keep_8 (by decide +kernel) rfl ?_
    have hE : s_X7_keep mkp mno mim = ((-3), mkp, mim) := by exact (if_pos c5)
    exact hret _ _ _ _ dX7_keep_10 rfl (by rw [hE]) (by rw [hE])
/-! X7_back -/
def s_X7_back (mbk : Nat) (mkp : Nat) (mno : zF) (mim : zF) : Int32 × Nat × Nat × zF := if mkp = 0 then ((-2), mbk, mkp, mno) else ((nI (mkp - 1)), 0, mkp - 1, (s_X7_copy mim mno (40 * (mkp - 1)) 0))
set_option maxHeartbeats 4000000 in
set_option maxRecDepth 100000 in
theorem c_X7_back (l : Launch) (D : va_G) (cI cC cJ : ClassId) (m : Nat → Nat) (mle : Nat) (mpo : Nat) (mfa : Nat) (mrm : Nat) (mrw : Nat) (mP : Nat) (mQ : Nat) (mbk : Nat) (mkp : Nat) (msg : Nat) (mwm : Nat) (mrs : Int32) (msd : Int32) (mls : Int32) (mhd : Int32) (mtx : zF) (mnu : zF) (mrd : zF) (mrl : zF) (mpe : zF) (mno : zF) (mbo : zF) (mim : zF) (msi : zF) (mwi : zF) (mon : zF) (mdi : zF) (mco : zF) (mgo : zF) (mbr : zF) (mca : zF) (hkp : mkp ≤ 2) : zD l yX7_back wsX7_back rm_X7_back D (zT cI cC cJ) [.ref (m 31)] [modW cI m mle mpo mfa mrm mrw mP mQ mbk mkp msg mwm mrs msd mls mhd mtx mnu mrd mrl mpe mno mbo mim msi mwi mon mdi mco mgo mbr mca] (some (.int ((s_X7_back mbk mkp mno mim).1))) [modW cI m mle mpo mfa mrm mrw mP mQ ((s_X7_back mbk mkp mno mim).2.1) ((s_X7_back mbk mkp mno mim).2.2.1) msg mwm mrs msd mls mhd mtx mnu mrd mrl mpe ((s_X7_back mbk mkp mno mim).2.2.2) mbo mim msi mwi mon mdi mco mgo mbr mca] := by
  refine zD_int (cc := cX7_back) (maxL := 1) (ty := .int) (lv := [(0, .ref (m 31))]) (by decide +kernel) rfl (Nat.le_of_ble_eq_true rfl) rfl (fun Z O hret => ?_)
  refine zr_aload_n (pc2 := 1) O dX7_back_0 rfl 0 rfl rfl ?_
  refine zr_getf (v := .int (nI mkp)) (pc2 := 4) O sF_X7_back_119 0 0 rfl rfl rfl dX7_back_1 rfl ?_
  refine zn_if_ne (tgt := 10) (pc2 := 7) O dX7_back_4 (by decide) rfl (by omega) (fun c4 => ?_) (fun c4 => ?_)
  · refine zr_aload_n (pc2 := 11) O dX7_back_10 rfl 0 rfl rfl ?_
    refine zr_dup (pc2 := 12) O dX7_back_11 rfl rfl ?_
    refine zr_getf (v := .int (nI mkp)) (pc2 := 15) O sF_X7_back_119 0 0 rfl rfl rfl dX7_back_12 rfl ?_
    refine zr_iconst (v := (nI 1)) (pc2 := 16) O dX7_back_15 (by decide +kernel) rfl ?_
    refine zr_isub (v := (nI (mkp - 1))) (pc2 := 17) O dX7_back_16 (pk_sub (by omega)) rfl ?_
    refine zr_putf (G2 := modW cI m mle mpo mfa mrm mrw mP mQ mbk (mkp - 1) msg mwm mrs msd mls mhd mtx mnu mrd mrl mpe mno mbo mim msi mwi mon mdi mco mgo mbr mca) (ws2 := [modW cI m mle mpo mfa mrm mrw mP mQ mbk (mkp - 1) msg mwm mrs msd mls mhd mtx mnu mrd mrl mpe mno mbo mim msi mwi mon mdi mco mgo mbr mca]) (pc2 := 20) O sP_X7_back_119 0 0 rfl rfl rfl rfl (Nat.le_of_ble_eq_true rfl) dX7_back_17 rfl rfl rfl ?_
    refine zr_aload_n (pc2 := 21) O dX7_back_20 rfl 0 rfl rfl ?_
    refine zr_getf (v := .ref (m 17)) (pc2 := 24) O sF_X7_back_41 0 0 rfl rfl rfl dX7_back_21 rfl ?_
    refine zr_bipush (v := (nI 40)) (pc2 := 26) O dX7_back_24 (by decide +kernel) rfl ?_
    refine zr_aload_n (pc2 := 27) O dX7_back_26 rfl 0 rfl rfl ?_
    refine zr_getf (v := .int (nI (mkp - 1))) (pc2 := 30) O sF_X7_back_119 0 0 rfl rfl rfl dX7_back_27 rfl ?_
    refine zr_imul (v := (nI (40 * (mkp - 1)))) (pc2 := 31) O dX7_back_30 (pk_mul 40 (mkp - 1)) rfl ?_
    refine zr_aload_n (pc2 := 32) O dX7_back_31 rfl 0 rfl rfl ?_
    refine zr_getf (v := .ref (m 14)) (pc2 := 35) O sF_X7_back_35 0 0 rfl rfl rfl dX7_back_32 rfl ?_
    refine zr_iconst (v := (nI 0)) (pc2 := 36) O dX7_back_35 (by decide +kernel) rfl ?_
    refine zr_flat (ws2 := [[((m 31), .inr (7, [.int (nI mle), .ref (m 1), .int (nI mpo), .ref (m 3), .int (nI mfa), .int (nI mrm), .int (nI mrw), .ref (m 7), .ref (m 8), .int mrs, .int (nI mP), .ref (m 11), .int (nI mQ), .int msd, .ref (m 14), .ref (m 15), .int (nI mbk), .ref (m 17), .int (nI (mkp - 1)), .int (nI msg), .ref (m 20), .ref (m 21), .int (nI mwm), .ref (m 23), .int mls, .ref (m 25), .ref (m 26), .ref (m 27), .ref (m 28), .int mhd, .ref (m 30)]))], [((m 1), .inl (cI, 200, .inl mtx))], [((m 3), .inl (cI, 4, .inl mnu))], [((m 7), .inl (cI, 30, .inl mrd))], [((m 8), .inl (cI, 27, .inl mrl))], [((m 11), .inl (cI, 30, .inl mpe))], [((m 14), .inl (cI, 40, .inl mno))], [((m 15), .inl (cI, 320, .inl mbo))], [((m 17), .inl (cI, 80, .inl mim))], [((m 20), .inl (cI, 24, .inl msi))], [((m 21), .inl (cI, 30, .inl mwi))], [((m 23), .inl (cI, 30, .inl mon))], [((m 25), .inl (cI, 6, .inl mdi))], [((m 26), .inl (cI, 6, .inl mco))], [((m 27), .inl (cI, 6, .inl mgo))], [((m 28), .inl (cI, 10, .inl mbr))], [((m 30), .inl (cI, 906, .inl mca))]]) O rfl ?_
    refine zr_callS (As := [.ref (m 17), .int (nI (40 * (mkp - 1))), .ref (m 14), .int (nI 0)]) (rest := []) (ws2 := [[((m 31), .inr (7, [.int (nI mle), .ref (m 1), .int (nI mpo), .ref (m 3), .int (nI mfa), .int (nI mrm), .int (nI mrw), .ref (m 7), .ref (m 8), .int mrs, .int (nI mP), .ref (m 11), .int (nI mQ), .int msd, .ref (m 14), .ref (m 15), .int (nI mbk), .ref (m 17), .int (nI (mkp - 1)), .int (nI msg), .ref (m 20), .ref (m 21), .int (nI mwm), .ref (m 23), .int mls, .ref (m 25), .ref (m 26), .ref (m 27), .ref (m 28), .int mhd, .ref (m 30)]))], [((m 1), .inl (cI, 200, .inl mtx))], [((m 3), .inl (cI, 4, .inl mnu))], [((m 7), .inl (cI, 30, .inl mrd))], [((m 8), .inl (cI, 27, .inl mrl))], [((m 11), .inl (cI, 30, .inl mpe))], [((m 14), .inl (cI, 40, .inl (s_X7_copy mim mno (40 * (mkp - 1)) 0)))], [((m 15), .inl (cI, 320, .inl mbo))], [((m 17), .inl (cI, 80, .inl mim))], [((m 20), .inl (cI, 24, .inl msi))], [((m 21), .inl (cI, 30, .inl mwi))], [((m 23), .inl (cI, 30, .inl mon))], [((m 25), .inl (cI, 6, .inl mdi))], [((m 26), .inl (cI, 6, .inl mco))], [((m 27), .inl (cI, 6, .inl mgo))], [((m 28), .inl (cI, 10, .inl mbr))], [((m 30), .inl (cI, 906, .inl mca))]]) (pc2 := 39) O (c_X7_copy l D cI cC cJ (m 17) (m 14) mim mno (40 * (mkp - 1)) 0 80 40 (by omega) (by omega) (by decide) (by decide)) sC_X7_back_131 rfl rfl dX7_back_36 [8, 6] rfl rfl rfl rfl (Nat.le_of_ble_eq_true rfl) rfl ?_
    show Z _ _ _ []
    refine zr_flat (ws2 := [modW cI m mle mpo mfa mrm mrw mP mQ mbk (mkp - 1) msg mwm mrs msd mls mhd mtx mnu mrd mrl mpe (s_X7_copy mim mno (40 * (mkp - 1)) 0) mbo mim msi mwi mon mdi mco mgo mbr mca]) O rfl ?_
    refine zr_aload_n (pc2 := 40) O dX7_back_39 rfl 0 rfl rfl ?_
    refine zr_iconst (v := (nI 0)) (pc2 := 41) O dX7_back_40 (by decide +kernel) rfl ?_
    refine zr_putf (G2 := modW cI m mle mpo mfa mrm mrw mP mQ 0 (mkp - 1) msg mwm mrs msd mls mhd mtx mnu mrd mrl mpe (s_X7_copy mim mno (40 * (mkp - 1)) 0) mbo mim msi mwi mon mdi mco mgo mbr mca) (ws2 := [modW cI m mle mpo mfa mrm mrw mP mQ 0 (mkp - 1) msg mwm mrs msd mls mhd mtx mnu mrd mrl mpe (s_X7_copy mim mno (40 * (mkp - 1)) 0) mbo mim msi mwi mon mdi mco mgo mbr mca]) (pc2 := 44) O sP_X7_back_116 0 0 rfl rfl rfl rfl (Nat.le_of_ble_eq_true rfl) dX7_back_41 rfl rfl rfl ?_
    refine zr_aload_n (pc2 := 45) O dX7_back_44 rfl 0 rfl rfl ?_
    refine zr_getf (v := .int (nI (mkp - 1))) (pc2 := 48) O sF_X7_back_119 0 0 rfl rfl rfl dX7_back_45 rfl ?_
    have hE : s_X7_back mbk mkp mno mim = ((nI (mkp - 1)), 0, mkp - 1, (s_X7_copy mim mno (40 * (mkp - 1)) 0)) := by exact (if_neg c4)
    exact hret _ _ _ _ dX7_back_48 rfl (by rw [hE]) (by rw [hE])
  · refine zr_bipush (v := (-2)) (pc2 := 9) O dX7_back_7 (by decide +kernel) rfl ?_
    have hE : s_X7_back mbk mkp mno mim = ((-2), mbk, mkp, mno) := by exact (if_pos c4)
    exact hret _ _ _ _ dX7_back_9 rfl (by rw [hE]) (by rw [hE])
