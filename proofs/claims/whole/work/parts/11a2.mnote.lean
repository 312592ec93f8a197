/-! X7_note -/
def f_X7_note_11 : Nat → Nat → zF → zF
  | 0, _, mbo9 => mbo9
  | n9 + 1, k, mbo9 => f_X7_note_11 n9 (k + 1) (upd mbo9 k (mbo9 (k + 40)))
def s_X7_note (mbk : Nat) (mno : zF) (mbo : zF) (N9 : Nat) : Nat × zF := if mbk = 8 then ((mbk - 1) + 1, (s_X7_copy mno (f_X7_note_11 N9 0 mbo) 0 (40 * (mbk - 1)))) else (mbk + 1, (s_X7_copy mno mbo 0 (40 * mbk)))
set_option maxHeartbeats 4000000 in
set_option maxRecDepth 100000 in
theorem c_X7_note (l : Launch) (D : va_G) (cI cC cJ : ClassId) (m : Nat → Nat) (mle : Nat) (mpo : Nat) (mfa : Nat) (mrm : Nat) (mrw : Nat) (mP : Nat) (mQ : Nat) (mbk : Nat) (mkp : Nat) (msg : Nat) (mwm : Nat) (mrs : Int32) (msd : Int32) (mls : Int32) (mhd : Int32) (mtx : zF) (mnu : zF) (mrd : zF) (mrl : zF) (mpe : zF) (mno : zF) (mbo : zF) (mim : zF) (msi : zF) (mwi : zF) (mon : zF) (mdi : zF) (mco : zF) (mgo : zF) (mbr : zF) (mca : zF) (N9 : Nat) (hbk : mbk ≤ 8) (hN9 : N9 = 280) : zD l yX7_note wsX7_note rm_X7_note D (zT cI cC cJ) [.ref (m 31)] [modW cI m mle mpo mfa mrm mrw mP mQ mbk mkp msg mwm mrs msd mls mhd mtx mnu mrd mrl mpe mno mbo mim msi mwi mon mdi mco mgo mbr mca] none [modW cI m mle mpo mfa mrm mrw mP mQ ((s_X7_note mbk mno mbo N9).1) mkp msg mwm mrs msd mls mhd mtx mnu mrd mrl mpe mno ((s_X7_note mbk mno mbo N9).2) mim msi mwi mon mdi mco mgo mbr mca] := by
  refine zD_void (cc := cX7_note) (maxL := 2) (lv := [(0, .ref (m 31))]) (by decide +kernel) rfl (Nat.le_of_ble_eq_true rfl) rfl (fun Z O hret => ?_)
  refine zr_aload_n (pc2 := 1) O dX7_note_0 rfl 0 rfl rfl ?_
  refine zr_getf (v := .int (nI mbk)) (pc2 := 4) O sF_X7_note_116 0 0 rfl rfl rfl dX7_note_1 rfl ?_
  refine zr_bipush (v := (nI 8)) (pc2 := 6) O dX7_note_4 (by decide +kernel) rfl ?_
  refine zn_icmp_ne (tgt := 49) (pc2 := 9) O dX7_note_6 (by decide) rfl (by omega) (by omega) (fun c6 => ?_) (fun c6 => ?_)
  · refine zr_aload_n (pc2 := 50) O dX7_note_49 rfl 0 rfl rfl ?_
    refine zr_getf (v := .ref (m 14)) (pc2 := 53) O sF_X7_note_35 0 0 rfl rfl rfl dX7_note_50 rfl ?_
    refine zr_iconst (v := (nI 0)) (pc2 := 54) O dX7_note_53 (by decide +kernel) rfl ?_
    refine zr_aload_n (pc2 := 55) O dX7_note_54 rfl 0 rfl rfl ?_
    refine zr_getf (v := .ref (m 15)) (pc2 := 58) O sF_X7_note_38 0 0 rfl rfl rfl dX7_note_55 rfl ?_
    refine zr_bipush (v := (nI 40)) (pc2 := 60) O dX7_note_58 (by decide +kernel) rfl ?_
    refine zr_aload_n (pc2 := 61) O dX7_note_60 rfl 0 rfl rfl ?_
    refine zr_getf (v := .int (nI mbk)) (pc2 := 64) O sF_X7_note_116 0 0 rfl rfl rfl dX7_note_61 rfl ?_
    refine zr_imul (v := (nI (40 * mbk))) (pc2 := 65) O dX7_note_64 (pk_mul 40 mbk) rfl ?_
    refine zr_flat (ws2 := [[((m 31), .inr (7, [.int (nI mle), .ref (m 1), .int (nI mpo), .ref (m 3), .int (nI mfa), .int (nI mrm), .int (nI mrw), .ref (m 7), .ref (m 8), .int mrs, .int (nI mP), .ref (m 11), .int (nI mQ), .int msd, .ref (m 14), .ref (m 15), .int (nI mbk), .ref (m 17), .int (nI mkp), .int (nI msg), .ref (m 20), .ref (m 21), .int (nI mwm), .ref (m 23), .int mls, .ref (m 25), .ref (m 26), .ref (m 27), .ref (m 28), .int mhd, .ref (m 30)]))], [((m 1), .inl (cI, 200, .inl mtx))], [((m 3), .inl (cI, 4, .inl mnu))], [((m 7), .inl (cI, 30, .inl mrd))], [((m 8), .inl (cI, 27, .inl mrl))], [((m 11), .inl (cI, 30, .inl mpe))], [((m 14), .inl (cI, 40, .inl mno))], [((m 15), .inl (cI, 320, .inl mbo))], [((m 17), .inl (cI, 80, .inl mim))], [((m 20), .inl (cI, 24, .inl msi))], [((m 21), .inl (cI, 30, .inl mwi))], [((m 23), .inl (cI, 30, .inl mon))], [((m 25), .inl (cI, 6, .inl mdi))], [((m 26), .inl (cI, 6, .inl mco))], [((m 27), .inl (cI, 6, .inl mgo))], [((m 28), .inl (cI, 10, .inl mbr))], [((m 30), .inl (cI, 906, .inl mca))]]) O rfl ?_
    refine zr_callS (As := [.ref (m 14), .int (nI 0), .ref (m 15), .int (nI (40 * mbk))]) (rest := []) (ws2 := [[((m 31), .inr (7, [.int (nI mle), .ref (m 1), .int (nI mpo), .ref (m 3), .int (nI mfa), .int (nI mrm), .int (nI mrw), .ref (m 7), .ref (m 8), .int mrs, .int (nI mP), .ref (m 11), .int (nI mQ), .int msd, .ref (m 14), .ref (m 15), .int (nI mbk), .ref (m 17), .int (nI mkp), .int (nI msg), .ref (m 20), .ref (m 21), .int (nI mwm), .ref (m 23), .int mls, .ref (m 25), .ref (m 26), .ref (m 27), .ref (m 28), .int mhd, .ref (m 30)]))], [((m 1), .inl (cI, 200, .inl mtx))], [((m 3), .inl (cI, 4, .inl mnu))], [((m 7), .inl (cI, 30, .inl mrd))], [((m 8), .inl (cI, 27, .inl mrl))], [((m 11), .inl (cI, 30, .inl mpe))], [((m 14), .inl (cI, 40, .inl mno))], [((m 15), .inl (cI, 320, .inl (s_X7_copy mno mbo 0 (40 * mbk))))], [((m 17), .inl (cI, 80, .inl mim))], [((m 20), .inl (cI, 24, .inl msi))], [((m 21), .inl (cI, 30, .inl mwi))], [((m 23), .inl (cI, 30, .inl mon))], [((m 25), .inl (cI, 6, .inl mdi))], [((m 26), .inl (cI, 6, .inl mco))], [((m 27), .inl (cI, 6, .inl mgo))], [((m 28), .inl (cI, 10, .inl mbr))], [((m 30), .inl (cI, 906, .inl mca))]]) (pc2 := 68) O (c_X7_copy l D cI cC cJ (m 14) (m 15) mno mbo 0 (40 * mbk) 40 320 (by omega) (by omega) (by decide) (by decide)) sC_X7_note_131 rfl rfl dX7_note_65 [6, 7] rfl rfl rfl rfl (Nat.le_of_ble_eq_true rfl) rfl ?_
    show Z _ _ _ []
    refine zr_flat (ws2 := [modW cI m mle mpo mfa mrm mrw mP mQ mbk mkp msg mwm mrs msd mls mhd mtx mnu mrd mrl mpe mno (s_X7_copy mno mbo 0 (40 * mbk)) mim msi mwi mon mdi mco mgo mbr mca]) O rfl ?_
    refine zr_aload_n (pc2 := 69) O dX7_note_68 rfl 0 rfl rfl ?_
    refine zr_dup (pc2 := 70) O dX7_note_69 rfl rfl ?_
    refine zr_getf (v := .int (nI mbk)) (pc2 := 73) O sF_X7_note_116 0 0 rfl rfl rfl dX7_note_70 rfl ?_
    refine zr_iconst (v := (nI 1)) (pc2 := 74) O dX7_note_73 (by decide +kernel) rfl ?_
    refine zr_iadd (v := (nI (mbk + 1))) (pc2 := 75) O dX7_note_74 (nI_add mbk 1) rfl ?_
    refine zr_putf (G2 := modW cI m mle mpo mfa mrm mrw mP mQ (mbk + 1) mkp msg mwm mrs msd mls mhd mtx mnu mrd mrl mpe mno (s_X7_copy mno mbo 0 (40 * mbk)) mim msi mwi mon mdi mco mgo mbr mca) (ws2 := [modW cI m mle mpo mfa mrm mrw mP mQ (mbk + 1) mkp msg mwm mrs msd mls mhd mtx mnu mrd mrl mpe mno (s_X7_copy mno mbo 0 (40 * mbk)) mim msi mwi mon mdi mco mgo mbr mca]) (pc2 := 78) O sP_X7_note_116 0 0 rfl rfl rfl rfl (Nat.le_of_ble_eq_true rfl) dX7_note_75 rfl rfl rfl ?_
    have hE : s_X7_note mbk mno mbo N9 = (mbk + 1, (s_X7_copy mno mbo 0 (40 * mbk))) := by exact (if_neg c6)
    exact hret _ _ _ dX7_note_78 (by rw [hE])
  · refine zr_iconst (v := (nI 0)) (pc2 := 10) O dX7_note_9 (by decide +kernel) rfl ?_
    refine zr_istore_n (lv2 := [(1, .int (nI 0)), (0, .ref (m 31))]) (pc2 := 11) O dX7_note_10 rfl (by decide) rfl rfl ?_
    have lp11 : ∀ (n9 : Nat) (k : Nat) (mbo9 : zF), k + n9 = N9 → f_X7_note_11 N9 0 mbo = f_X7_note_11 n9 k mbo9 → Z [modW cI m mle mpo mfa mrm mrw mP mQ mbk mkp msg mwm mrs msd mls mhd mtx mnu mrd mrl mpe mno mbo9 mim msi mwi mon mdi mco mgo mbr mca] [(1, .int (nI k)), (0, .ref (m 31))] 11 [] := by
      intro n9
      induction n9 with
      | zero =>
        intro k mbo9 hM11 hF11
        have hI11 : N9 = k := by omega
        subst hI11
        have e9 : (f_X7_note_11 N9 0 mbo) = mbo9 := hF11
        subst e9
        refine zr_iload_n (pc2 := 12) O dX7_note_11 rfl 0 rfl rfl ?_
        refine zr_sipush (v := (nI 280)) (pc2 := 15) O dX7_note_12 (by decide +kernel) rfl ?_
        refine zn_icmp_ge (tgt := 39) (pc2 := 18) O dX7_note_15 (by decide) rfl (by omega) (by omega) (fun c15 => ?_) (fun c15 => ?_)
        · refine zr_aload_n (pc2 := 40) O dX7_note_39 rfl 1 rfl rfl ?_
          refine zr_dup (pc2 := 41) O dX7_note_40 rfl rfl ?_
          refine zr_getf (v := .int (nI mbk)) (pc2 := 44) O sF_X7_note_116 0 0 rfl rfl rfl dX7_note_41 rfl ?_
          refine zr_iconst (v := (nI 1)) (pc2 := 45) O dX7_note_44 (by decide +kernel) rfl ?_
          refine zr_isub (v := (nI (mbk - 1))) (pc2 := 46) O dX7_note_45 (pk_sub (by omega)) rfl ?_
          refine zr_putf (G2 := modW cI m mle mpo mfa mrm mrw mP mQ (mbk - 1) mkp msg mwm mrs msd mls mhd mtx mnu mrd mrl mpe mno (f_X7_note_11 N9 0 mbo) mim msi mwi mon mdi mco mgo mbr mca) (ws2 := [modW cI m mle mpo mfa mrm mrw mP mQ (mbk - 1) mkp msg mwm mrs msd mls mhd mtx mnu mrd mrl mpe mno (f_X7_note_11 N9 0 mbo) mim msi mwi mon mdi mco mgo mbr mca]) (pc2 := 49) O sP_X7_note_116 0 0 rfl rfl rfl rfl (Nat.le_of_ble_eq_true rfl) dX7_note_46 rfl rfl rfl ?_
          refine zr_aload_n (pc2 := 50) O dX7_note_49 rfl 1 rfl rfl ?_
          refine zr_getf (v := .ref (m 14)) (pc2 := 53) O sF_X7_note_35 0 0 rfl rfl rfl dX7_note_50 rfl ?_
          refine zr_iconst (v := (nI 0)) (pc2 := 54) O dX7_note_53 (by decide +kernel) rfl ?_
          refine zr_aload_n (pc2 := 55) O dX7_note_54 rfl 1 rfl rfl ?_
          refine zr_getf (v := .ref (m 15)) (pc2 := 58) O sF_X7_note_38 0 0 rfl rfl rfl dX7_note_55 rfl ?_
          refine zr_bipush (v := (nI 40)) (pc2 := 60) O dX7_note_58 (by decide +kernel) rfl ?_
          refine zr_aload_n (pc2 := 61) O dX7_note_60 rfl 1 rfl rfl ?_
          refine zr_getf (v := .int (nI (mbk - 1))) (pc2 := 64) O sF_X7_note_116 0 0 rfl rfl rfl dX7_note_61 rfl ?_
          refine zr_imul (v := (nI (40 * (mbk - 1)))) (pc2 := 65) O dX7_note_64 (pk_mul 40 (mbk - 1)) rfl ?_
          refine zr_flat (ws2 := [[((m 31), .inr (7, [.int (nI mle), .ref (m 1), .int (nI mpo), .ref (m 3), .int (nI mfa), .int (nI mrm), .int (nI mrw), .ref (m 7), .ref (m 8), .int mrs, .int (nI mP), .ref (m 11), .int (nI mQ), .int msd, .ref (m 14), .ref (m 15), .int (nI (mbk - 1)), .ref (m 17), .int (nI mkp), .int (nI msg), .ref (m 20), .ref (m 21), .int (nI mwm), .ref (m 23), .int mls, .ref (m 25), .ref (m 26), .ref (m 27), .ref (m 28), .int mhd, .ref (m 30)]))], [((m 1), .inl (cI, 200, .inl mtx))], [((m 3), .inl (cI, 4, .inl mnu))], [((m 7), .inl (cI, 30, .inl mrd))], [((m 8), .inl (cI, 27, .inl mrl))], [((m 11), .inl (cI, 30, .inl mpe))], [((m 14), .inl (cI, 40, .inl mno))], [((m 15), .inl (cI, 320, .inl (f_X7_note_11 N9 0 mbo)))], [((m 17), .inl (cI, 80, .inl mim))], [((m 20), .inl (cI, 24, .inl msi))], [((m 21), .inl (cI, 30, .inl mwi))], [((m 23), .inl (cI, 30, .inl mon))], [((m 25), .inl (cI, 6, .inl mdi))], [((m 26), .inl (cI, 6, .inl mco))], [((m 27), .inl (cI, 6, .inl mgo))], [((m 28), .inl (cI, 10, .inl mbr))], [((m 30), .inl (cI, 906, .inl mca))]]) O rfl ?_
          refine zr_callS (As := [.ref (m 14), .int (nI 0), .ref (m 15), .int (nI (40 * (mbk - 1)))]) (rest := []) (ws2 := [[((m 31), .inr (7, [.int (nI mle), .ref (m 1), .int (nI mpo), .ref (m 3), .int (nI mfa), .int (nI mrm), .int (nI mrw), .ref (m 7), .ref (m 8), .int mrs, .int (nI mP), .ref (m 11), .int (nI mQ), .int msd, .ref (m 14), .ref (m 15), .int (nI (mbk - 1)), .ref (m 17), .int (nI mkp), .int (nI msg), .ref (m 20), .ref (m 21), .int (nI mwm), .ref (m 23), .int mls, .ref (m 25), .ref (m 26), .ref (m 27), .ref (m 28), .int mhd, .ref (m 30)]))], [((m 1), .inl (cI, 200, .inl mtx))], [((m 3), .inl (cI, 4, .inl mnu))], [((m 7), .inl (cI, 30, .inl mrd))], [((m 8), .inl (cI, 27, .inl mrl))], [((m 11), .inl (cI, 30, .inl mpe))], [((m 14), .inl (cI, 40, .inl mno))], [((m 15), .inl (cI, 320, .inl (s_X7_copy mno (f_X7_note_11 N9 0 mbo) 0 (40 * (mbk - 1)))))], [((m 17), .inl (cI, 80, .inl mim))], [((m 20), .inl (cI, 24, .inl msi))], [((m 21), .inl (cI, 30, .inl mwi))], [((m 23), .inl (cI, 30, .inl mon))], [((m 25), .inl (cI, 6, .inl mdi))], [((m 26), .inl (cI, 6, .inl mco))], [((m 27), .inl (cI, 6, .inl mgo))], [((m 28), .inl (cI, 10, .inl mbr))], [((m 30), .inl (cI, 906, .inl mca))]]) (pc2 := 68) O (c_X7_copy l D cI cC cJ (m 14) (m 15) mno (f_X7_note_11 N9 0 mbo) 0 (40 * (mbk - 1)) 40 320 (by omega) (by omega) (by decide) (by decide)) sC_X7_note_131 rfl rfl dX7_note_65 [6, 7] rfl rfl rfl rfl (Nat.le_of_ble_eq_true rfl) rfl ?_
          show Z _ _ _ []
          refine zr_flat (ws2 := [modW cI m mle mpo mfa mrm mrw mP mQ (mbk - 1) mkp msg mwm mrs msd mls mhd mtx mnu mrd mrl mpe mno (s_X7_copy mno (f_X7_note_11 N9 0 mbo) 0 (40 * (mbk - 1))) mim msi mwi mon mdi mco mgo mbr mca]) O rfl ?_
          refine zr_aload_n (pc2 := 69) O dX7_note_68 rfl 1 rfl rfl ?_
          refine zr_dup (pc2 := 70) O dX7_note_69 rfl rfl ?_
          refine zr_getf (v := .int (nI (mbk - 1))) (pc2 := 73) O sF_X7_note_116 0 0 rfl rfl rfl dX7_note_70 rfl ?_
          refine zr_iconst (v := (nI 1)) (pc2 := 74) O dX7_note_73 (by decide +kernel) rfl ?_
          refine zr_iadd (v := (nI ((mbk - 1) + 1))) (pc2 := 75) O dX7_note_74 (nI_add (mbk - 1) 1) rfl ?_
          refine zr_putf (G2 := modW cI m mle mpo mfa mrm mrw mP mQ ((mbk - 1) + 1) mkp msg mwm mrs msd mls mhd mtx mnu mrd mrl mpe mno (s_X7_copy mno (f_X7_note_11 N9 0 mbo) 0 (40 * (mbk - 1))) mim msi mwi mon mdi mco mgo mbr mca) (ws2 := [modW cI m mle mpo mfa mrm mrw mP mQ ((mbk - 1) + 1) mkp msg mwm mrs msd mls mhd mtx mnu mrd mrl mpe mno (s_X7_copy mno (f_X7_note_11 N9 0 mbo) 0 (40 * (mbk - 1))) mim msi mwi mon mdi mco mgo mbr mca]) (pc2 := 78) O sP_X7_note_116 0 0 rfl rfl rfl rfl (Nat.le_of_ble_eq_true rfl) dX7_note_75 rfl rfl rfl ?_
          have hE : s_X7_note mbk mno mbo N9 = ((mbk - 1) + 1, (s_X7_copy mno (f_X7_note_11 N9 0 mbo) 0 (40 * (mbk - 1)))) := by exact (if_pos c6)
          exact hret _ _ _ dX7_note_78 (by rw [hE])
        · exact absurd c15 (by omega)
      | succ n9 ih11 =>
        intro k mbo9 hM11 hF11
        refine zr_iload_n (pc2 := 12) O dX7_note_11 rfl 0 rfl rfl ?_
        refine zr_sipush (v := (nI 280)) (pc2 := 15) O dX7_note_12 (by decide +kernel) rfl ?_
        refine zn_icmp_ge (tgt := 39) (pc2 := 18) O dX7_note_15 (by decide) rfl (by omega) (by omega) (fun c15 => ?_) (fun c15 => ?_)
        · exact absurd c15 (by omega)
        · refine zr_aload_n (pc2 := 19) O dX7_note_18 rfl 1 rfl rfl ?_
          refine zr_getf (v := .ref (m 15)) (pc2 := 22) O sF_X7_note_38 0 0 rfl rfl rfl dX7_note_19 rfl ?_
          refine zr_iload_n (pc2 := 23) O dX7_note_22 rfl 0 rfl rfl ?_
          refine zr_aload_n (pc2 := 24) O dX7_note_23 rfl 1 rfl rfl ?_
          refine zr_getf (v := .ref (m 15)) (pc2 := 27) O sF_X7_note_38 0 0 rfl rfl rfl dX7_note_24 rfl ?_
          refine zr_iload_n (pc2 := 28) O dX7_note_27 rfl 0 rfl rfl ?_
          refine zr_bipush (v := (nI 40)) (pc2 := 30) O dX7_note_28 (by decide +kernel) rfl ?_
          refine zr_iadd (v := (nI (k + 40))) (pc2 := 31) O dX7_note_30 (nI_add k 40) rfl ?_
          refine zn_iald (j := (k + 40)) (pc2 := 32) O 0 7 0 rfl rfl rfl rfl (by omega) (by decide) dX7_note_31 rfl ?_
          refine zn_iast (j := k) (G2 := modW cI m mle mpo mfa mrm mrw mP mQ mbk mkp msg mwm mrs msd mls mhd mtx mnu mrd mrl mpe mno (upd mbo9 k (mbo9 (k + 40))) mim msi mwi mon mdi mco mgo mbr mca) (ws2 := [modW cI m mle mpo mfa mrm mrw mP mQ mbk mkp msg mwm mrs msd mls mhd mtx mnu mrd mrl mpe mno (upd mbo9 k (mbo9 (k + 40))) mim msi mwi mon mdi mco mgo mbr mca]) (pc2 := 33) O 0 7 0 rfl rfl rfl rfl (by omega) (by decide) dX7_note_32 rfl rfl rfl ?_
          refine zr_iinc (v := (nI (k + 1))) (lv2 := [(1, .int (nI (k + 1))), (0, .ref (m 31))]) (pc2 := 36) O dX7_note_33 0 rfl (zm_ofInt1 k) (by decide) rfl rfl ?_
          refine zr_goto (tgt := 11) O dX7_note_36 (by decide) ?_
          have hE : f_X7_note_11 (n9 + 1) k mbo9 = f_X7_note_11 n9 (k + 1) (upd mbo9 k (mbo9 (k + 40))) := by exact rfl
          exact ih11 (k + 1) (upd mbo9 k (mbo9 (k + 40))) (by omega) (hF11.trans hE)
    exact lp11 N9 0 mbo (by omega) rfl
