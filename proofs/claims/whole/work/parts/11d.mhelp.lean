/-! X7_help -/
def s_X7_help (mP : Nat) (mbk : Nat) (mno : zF) (mbo : zF) (a1 : Int32) (a2 : Int32) (a3 : Int32) (mH : Nat) : Int32 × Nat × zF × zF := if (s_X7_in a1 (nI 0) ((nI mP) - (nI 1))) = true then if (s_X7_in a2 (nI 0) (nI 150)) = true then if (s_X7_in a3 (nI 1) (nI 99)) = true then if mH = 4 then ((-3), mbk, mno, mbo) else let u46 := s_X7_note mbk mno mbo 280; (((upd (upd (upd (upd mno (28 + (3 * mH)) a1) ((28 + (3 * mH)) + 1) a2) ((28 + (3 * mH)) + 2) a3) 27 (nI (mH + 1))) 27), u46.1, (upd (upd (upd (upd mno (28 + (3 * mH)) a1) ((28 + (3 * mH)) + 1) a2) ((28 + (3 * mH)) + 2) a3) 27 (nI (mH + 1))), u46.2) else ((-1), mbk, mno, mbo) else ((-1), mbk, mno, mbo) else ((-1), mbk, mno, mbo)
set_option maxHeartbeats 4000000 in
set_option maxRecDepth 100000 in
theorem c_X7_help (l : Launch) (D : va_G) (cI cC cJ : ClassId) (m : Nat → Nat) (mle : Nat) (mpo : Nat) (mfa : Nat) (mrm : Nat) (mrw : Nat) (mP : Nat) (mQ : Nat) (mbk : Nat) (mkp : Nat) (msg : Nat) (mwm : Nat) (mrs : Int32) (msd : Int32) (mls : Int32) (mhd : Int32) (mtx : zF) (mnu : zF) (mrd : zF) (mrl : zF) (mpe : zF) (mno : zF) (mbo : zF) (mim : zF) (msi : zF) (mwi : zF) (mon : zF) (mdi : zF) (mco : zF) (mgo : zF) (mbr : zF) (mca : zF) (a1 : Int32) (a2 : Int32) (a3 : Int32) (mH : Nat) (hbk : mbk ≤ 8) (hmH : mH ≤ 4) (hH : mno 27 = nI mH) : zD l yX7_help wsX7_help rm_X7_help D (zT cI cC cJ) [.ref (m 31), .int a1, .int a2, .int a3] [modW cI m mle mpo mfa mrm mrw mP mQ mbk mkp msg mwm mrs msd mls mhd mtx mnu mrd mrl mpe mno mbo mim msi mwi mon mdi mco mgo mbr mca] (some (.int ((s_X7_help mP mbk mno mbo a1 a2 a3 mH).1))) [modW cI m mle mpo mfa mrm mrw mP mQ ((s_X7_help mP mbk mno mbo a1 a2 a3 mH).2.1) mkp msg mwm mrs msd mls mhd mtx mnu mrd mrl mpe ((s_X7_help mP mbk mno mbo a1 a2 a3 mH).2.2.1) ((s_X7_help mP mbk mno mbo a1 a2 a3 mH).2.2.2) mim msi mwi mon mdi mco mgo mbr mca] := by
  refine zD_int (cc := cX7_help) (maxL := 5) (ty := .int) (lv := [(0, .ref (m 31)), (1, .int a1), (2, .int a2), (3, .int a3)]) (by decide +kernel) rfl (Nat.le_of_ble_eq_true rfl) rfl (fun Z O hret => ?_)
  refine zr_aload_n (pc2 := 1) O dX7_help_0 rfl 0 rfl rfl ?_
  refine zr_iload_n (pc2 := 2) O dX7_help_1 rfl 1 rfl rfl ?_
  refine zr_callV (As := [.int a1]) (rest := []) (ws2 := [modW cI m mle mpo mfa mrm mrw mP mQ mbk mkp msg mwm mrs msd mls mhd mtx mnu mrd mrl mpe mno mbo mim msi mwi mon mdi mco mgo mbr mca]) (pc2 := 5) (ci := 7) (g0 := 0) (q0 := 0) O (c_X7_isOne l D cI cC cJ m mle mpo mfa mrm mrw mP mQ mbk mkp msg mwm mrs msd mls mhd mtx mnu mrd mrl mpe mno mbo mim msi mwi mon mdi mco mgo mbr mca a1) sC_X7_help_122 rfl rfl rfl rfl rfl dX7_help_2 [0] rfl rfl rfl rfl (Nat.le_of_ble_eq_true rfl) rfl ?_
  show Z _ _ _ [.int (zb (s_X7_in a1 (nI 0) ((nI mP) - (nI 1))))]
  refine zb_if_eq (tgt := 29) (pc2 := 8) O dX7_help_5 (by decide) rfl (fun c5 => ?_) (fun c5 => ?_)
  · refine zr_iconst (v := (-1)) (pc2 := 30) O dX7_help_29 (by decide +kernel) rfl ?_
    have hE : s_X7_help mP mbk mno mbo a1 a2 a3 mH = ((-1), mbk, mno, mbo) := by exact (zif_f c5)
    exact hret _ _ _ _ dX7_help_30 rfl (by rw [hE]) (by rw [hE])
  · refine zr_iload_n (pc2 := 9) O dX7_help_8 rfl 2 rfl rfl ?_
    refine zr_iconst (v := (nI 0)) (pc2 := 10) O dX7_help_9 (by decide +kernel) rfl ?_
    refine zr_sipush (v := (nI 150)) (pc2 := 13) O dX7_help_10 (by decide +kernel) rfl ?_
    refine zr_callS (As := [.int a2, .int (nI 0), .int (nI 150)]) (rest := []) (ws2 := [modW cI m mle mpo mfa mrm mrw mP mQ mbk mkp msg mwm mrs msd mls mhd mtx mnu mrd mrl mpe mno mbo mim msi mwi mon mdi mco mgo mbr mca]) (pc2 := 16) O (c_X7_in l D cI cC cJ a2 (nI 0) (nI 150)) sC_X7_help_76 rfl rfl dX7_help_13 [] rfl rfl rfl rfl (Nat.le_of_ble_eq_true rfl) rfl ?_
    show Z _ _ _ [.int (zb (s_X7_in a2 (nI 0) (nI 150)))]
    refine zb_if_eq (tgt := 29) (pc2 := 19) O dX7_help_16 (by decide) rfl (fun c16 => ?_) (fun c16 => ?_)
    · refine zr_iconst (v := (-1)) (pc2 := 30) O dX7_help_29 (by decide +kernel) rfl ?_
      have hE : s_X7_help mP mbk mno mbo a1 a2 a3 mH = ((-1), mbk, mno, mbo) := by exact ((zif_t c5).trans (zif_f c16))
      exact hret _ _ _ _ dX7_help_30 rfl (by rw [hE]) (by rw [hE])
    · refine zr_iload_n (pc2 := 20) O dX7_help_19 rfl 3 rfl rfl ?_
      refine zr_iconst (v := (nI 1)) (pc2 := 21) O dX7_help_20 (by decide +kernel) rfl ?_
      refine zr_bipush (v := (nI 99)) (pc2 := 23) O dX7_help_21 (by decide +kernel) rfl ?_
      refine zr_callS (As := [.int a3, .int (nI 1), .int (nI 99)]) (rest := []) (ws2 := [modW cI m mle mpo mfa mrm mrw mP mQ mbk mkp msg mwm mrs msd mls mhd mtx mnu mrd mrl mpe mno mbo mim msi mwi mon mdi mco mgo mbr mca]) (pc2 := 26) O (c_X7_in l D cI cC cJ a3 (nI 1) (nI 99)) sC_X7_help_76 rfl rfl dX7_help_23 [] rfl rfl rfl rfl (Nat.le_of_ble_eq_true rfl) rfl ?_
      show Z _ _ _ [.int (zb (s_X7_in a3 (nI 1) (nI 99)))]
      refine zb_if_ne (tgt := 31) (pc2 := 29) O dX7_help_26 (by decide) rfl (fun c26 => ?_) (fun c26 => ?_)
      · refine zr_aload_n (pc2 := 32) O dX7_help_31 rfl 0 rfl rfl ?_
        refine zr_getf (v := .ref (m 14)) (pc2 := 35) O sF_X7_help_35 0 0 rfl rfl rfl dX7_help_32 rfl ?_
        refine zr_bipush (v := (nI 27)) (pc2 := 37) O dX7_help_35 (by decide +kernel) rfl ?_
        refine zn_iald (j := 27) (pc2 := 38) O 0 6 0 rfl rfl rfl rfl (by omega) (by decide) dX7_help_37 rfl ?_
        have hc1 := (And.intro hH hmH)
        rw [hc1.1]
        refine zr_iconst (v := (nI 4)) (pc2 := 39) O dX7_help_38 (by decide +kernel) rfl ?_
        refine zn_icmp_ne (tgt := 45) (pc2 := 42) O dX7_help_39 (by decide) rfl (by omega) (by omega) (fun c39 => ?_) (fun c39 => ?_)
        · refine zr_aload_n (pc2 := 46) O dX7_help_45 rfl 0 rfl rfl ?_
          obtain ⟨u46, hu46⟩ : ∃ z9, z9 = s_X7_note mbk mno mbo 280 := ⟨_, rfl⟩
          refine zr_callV (As := []) (rest := []) (ws2 := [modW cI m mle mpo mfa mrm mrw mP mQ u46.1 mkp msg mwm mrs msd mls mhd mtx mnu mrd mrl mpe mno u46.2 mim msi mwi mon mdi mco mgo mbr mca]) (pc2 := 49) (ci := 7) (g0 := 0) (q0 := 0) (v := none) (W := [modW cI m mle mpo mfa mrm mrw mP mQ mbk mkp msg mwm mrs msd mls mhd mtx mnu mrd mrl mpe mno mbo mim msi mwi mon mdi mco mgo mbr mca]) (W2 := [modW cI m mle mpo mfa mrm mrw mP mQ u46.1 mkp msg mwm mrs msd mls mhd mtx mnu mrd mrl mpe mno u46.2 mim msi mwi mon mdi mco mgo mbr mca]) O (by rw [hu46]; exact (c_X7_note l D cI cC cJ m mle mpo mfa mrm mrw mP mQ mbk mkp msg mwm mrs msd mls mhd mtx mnu mrd mrl mpe mno mbo mim msi mwi mon mdi mco mgo mbr mca 280 (by first | assumption | omega) (by first | assumption | omega))) sC_X7_help_135 rfl rfl rfl rfl rfl dX7_help_46 [0] rfl rfl rfl rfl (Nat.le_of_ble_eq_true rfl) rfl ?_
          show Z _ _ _ []
          refine zr_bipush (v := (nI 28)) (pc2 := 51) O dX7_help_49 (by decide +kernel) rfl ?_
          refine zr_iconst (v := (nI 3)) (pc2 := 52) O dX7_help_51 (by decide +kernel) rfl ?_
          refine zr_aload_n (pc2 := 53) O dX7_help_52 rfl 0 rfl rfl ?_
          refine zr_getf (v := .ref (m 14)) (pc2 := 56) O sF_X7_help_35 0 0 rfl rfl rfl dX7_help_53 rfl ?_
          refine zr_bipush (v := (nI 27)) (pc2 := 58) O dX7_help_56 (by decide +kernel) rfl ?_
          refine zn_iald (j := 27) (pc2 := 59) O 0 6 0 rfl rfl rfl rfl (by omega) (by decide) dX7_help_58 rfl ?_
          have hc2 := (And.intro hH hmH)
          rw [hc2.1]
          refine zr_imul (v := (nI (3 * mH))) (pc2 := 60) O dX7_help_59 (pk_mul 3 mH) rfl ?_
          refine zr_iadd (v := (nI (28 + (3 * mH)))) (pc2 := 61) O dX7_help_60 (nI_add 28 (3 * mH)) rfl ?_
          refine zr_istore (lv2 := [(4, .int (nI (28 + (3 * mH)))), (0, .ref (m 31)), (1, .int a1), (2, .int a2), (3, .int a3)]) (pc2 := 63) O dX7_help_61 (by decide) rfl rfl ?_
          refine zr_aload_n (pc2 := 64) O dX7_help_63 rfl 1 rfl rfl ?_
          refine zr_getf (v := .ref (m 14)) (pc2 := 67) O sF_X7_help_35 0 0 rfl rfl rfl dX7_help_64 rfl ?_
          refine zr_iload (pc2 := 69) O dX7_help_67 0 rfl rfl ?_
          refine zr_iload_n (pc2 := 70) O dX7_help_69 rfl 2 rfl rfl ?_
          refine zn_iast (j := (28 + (3 * mH))) (G2 := modW cI m mle mpo mfa mrm mrw mP mQ u46.1 mkp msg mwm mrs msd mls mhd mtx mnu mrd mrl mpe (upd mno (28 + (3 * mH)) a1) u46.2 mim msi mwi mon mdi mco mgo mbr mca) (ws2 := [modW cI m mle mpo mfa mrm mrw mP mQ u46.1 mkp msg mwm mrs msd mls mhd mtx mnu mrd mrl mpe (upd mno (28 + (3 * mH)) a1) u46.2 mim msi mwi mon mdi mco mgo mbr mca]) (pc2 := 71) O 0 6 0 rfl rfl rfl rfl (by omega) (by decide) dX7_help_70 rfl rfl rfl ?_
          refine zr_aload_n (pc2 := 72) O dX7_help_71 rfl 1 rfl rfl ?_
          refine zr_getf (v := .ref (m 14)) (pc2 := 75) O sF_X7_help_35 0 0 rfl rfl rfl dX7_help_72 rfl ?_
          refine zr_iload (pc2 := 77) O dX7_help_75 0 rfl rfl ?_
          refine zr_iconst (v := (nI 1)) (pc2 := 78) O dX7_help_77 (by decide +kernel) rfl ?_
          refine zr_iadd (v := (nI ((28 + (3 * mH)) + 1))) (pc2 := 79) O dX7_help_78 (nI_add (28 + (3 * mH)) 1) rfl ?_
          refine zr_iload_n (pc2 := 80) O dX7_help_79 rfl 3 rfl rfl ?_
          refine zn_iast (j := ((28 + (3 * mH)) + 1)) (G2 := modW cI m mle mpo mfa mrm mrw mP mQ u46.1 mkp msg mwm mrs msd mls mhd mtx mnu mrd mrl mpe (upd (upd mno (28 + (3 * mH)) a1) ((28 + (3 * mH)) + 1) a2) u46.2 mim msi mwi mon mdi mco mgo mbr mca) (ws2 := [modW cI m mle mpo mfa mrm mrw mP mQ u46.1 mkp msg mwm mrs msd mls mhd mtx mnu mrd mrl mpe (upd (upd mno (28 + (3 * mH)) a1) ((28 + (3 * mH)) + 1) a2) u46.2 mim msi mwi mon mdi mco mgo mbr mca]) (pc2 := 81) O 0 6 0 rfl rfl rfl rfl (by omega) (by decide) dX7_help_80 rfl rfl rfl ?_
          refine zr_aload_n (pc2 := 82) O dX7_help_81 rfl 1 rfl rfl ?_
          refine zr_getf (v := .ref (m 14)) (pc2 := 85) O sF_X7_help_35 0 0 rfl rfl rfl dX7_help_82 rfl ?_
          refine zr_iload (pc2 := 87) O dX7_help_85 0 rfl rfl ?_
          refine zr_iconst (v := (nI 2)) (pc2 := 88) O dX7_help_87 (by decide +kernel) rfl ?_
          refine zr_iadd (v := (nI ((28 + (3 * mH)) + 2))) (pc2 := 89) O dX7_help_88 (nI_add (28 + (3 * mH)) 2) rfl ?_
          refine zr_iload_n (pc2 := 90) O dX7_help_89 rfl 4 rfl rfl ?_
          refine zn_iast (j := ((28 + (3 * mH)) + 2)) (G2 := modW cI m mle mpo mfa mrm mrw mP mQ u46.1 mkp msg mwm mrs msd mls mhd mtx mnu mrd mrl mpe (upd (upd (upd mno (28 + (3 * mH)) a1) ((28 + (3 * mH)) + 1) a2) ((28 + (3 * mH)) + 2) a3) u46.2 mim msi mwi mon mdi mco mgo mbr mca) (ws2 := [modW cI m mle mpo mfa mrm mrw mP mQ u46.1 mkp msg mwm mrs msd mls mhd mtx mnu mrd mrl mpe (upd (upd (upd mno (28 + (3 * mH)) a1) ((28 + (3 * mH)) + 1) a2) ((28 + (3 * mH)) + 2) a3) u46.2 mim msi mwi mon mdi mco mgo mbr mca]) (pc2 := 91) O 0 6 0 rfl rfl rfl rfl (by omega) (by decide) dX7_help_90 rfl rfl rfl ?_
          refine zr_aload_n (pc2 := 92) O dX7_help_91 rfl 1 rfl rfl ?_
          refine zr_getf (v := .ref (m 14)) (pc2 := 95) O sF_X7_help_35 0 0 rfl rfl rfl dX7_help_92 rfl ?_
          refine zr_bipush (v := (nI 27)) (pc2 := 97) O dX7_help_95 (by decide +kernel) rfl ?_
          refine zr_dup2 (pc2 := 98) O dX7_help_97 rfl rfl rfl ?_
          refine zn_iald (j := 27) (pc2 := 99) O 0 6 0 rfl rfl rfl rfl (by omega) (by decide) dX7_help_98 rfl ?_
          rw [show ((upd (upd (upd mno (28 + (3 * mH)) a1) ((28 + (3 * mH)) + 1) a2) ((28 + (3 * mH)) + 2) a3) 27) = nI mH from by rw [pk_un (by omega), pk_un (by omega), pk_un (by omega)]; exact hH]
          refine zr_iconst (v := (nI 1)) (pc2 := 100) O dX7_help_99 (by decide +kernel) rfl ?_
          refine zr_iadd (v := (nI (mH + 1))) (pc2 := 101) O dX7_help_100 (nI_add mH 1) rfl ?_
          refine zn_iast (j := 27) (G2 := modW cI m mle mpo mfa mrm mrw mP mQ u46.1 mkp msg mwm mrs msd mls mhd mtx mnu mrd mrl mpe (upd (upd (upd (upd mno (28 + (3 * mH)) a1) ((28 + (3 * mH)) + 1) a2) ((28 + (3 * mH)) + 2) a3) 27 (nI (mH + 1))) u46.2 mim msi mwi mon mdi mco mgo mbr mca) (ws2 := [modW cI m mle mpo mfa mrm mrw mP mQ u46.1 mkp msg mwm mrs msd mls mhd mtx mnu mrd mrl mpe (upd (upd (upd (upd mno (28 + (3 * mH)) a1) ((28 + (3 * mH)) + 1) a2) ((28 + (3 * mH)) + 2) a3) 27 (nI (mH + 1))) u46.2 mim msi mwi mon mdi mco mgo mbr mca]) (pc2 := 102) O 0 6 0 rfl rfl rfl rfl (by omega) (by decide) dX7_help_101 rfl rfl rfl ?_
          refine zr_aload_n (pc2 := 103) O dX7_help_102 rfl 1 rfl rfl ?_
          refine zr_getf (v := .ref (m 14)) (pc2 := 106) O sF_X7_help_35 0 0 rfl rfl rfl dX7_help_103 rfl ?_
          refine zr_bipush (v := (nI 27)) (pc2 := 108) O dX7_help_106 (by decide +kernel) rfl ?_
          refine zn_iald (j := 27) (pc2 := 109) O 0 6 0 rfl rfl rfl rfl (by omega) (by decide) dX7_help_108 rfl ?_
          have hE : s_X7_help mP mbk mno mbo a1 a2 a3 mH = (((upd (upd (upd (upd mno (28 + (3 * mH)) a1) ((28 + (3 * mH)) + 1) a2) ((28 + (3 * mH)) + 2) a3) 27 (nI (mH + 1))) 27), u46.1, (upd (upd (upd (upd mno (28 + (3 * mH)) a1) ((28 + (3 * mH)) + 1) a2) ((28 + (3 * mH)) + 2) a3) 27 (nI (mH + 1))), u46.2) := by subst hu46; exact ((zif_t c5).trans ((zif_t c16).trans ((zif_t c26).trans (if_neg c39))))
          exact hret _ _ _ _ dX7_help_109 rfl (by rw [hE]) (by rw [hE])
        · refine zr_bipush (v := (-3)) (pc2 := 44) O dX7_help_42 (by decide +kernel) rfl ?_
          have hE : s_X7_help mP mbk mno mbo a1 a2 a3 mH = ((-3), mbk, mno, mbo) := by exact ((zif_t c5).trans ((zif_t c16).trans ((zif_t c26).trans (if_pos c39))))
          exact hret _ _ _ _ dX7_help_44 rfl (by rw [hE]) (by rw [hE])
      · refine zr_iconst (v := (-1)) (pc2 := 30) O dX7_help_29 (by decide +kernel) rfl ?_
        have hE : s_X7_help mP mbk mno mbo a1 a2 a3 mH = ((-1), mbk, mno, mbo) := by exact ((zif_t c5).trans ((zif_t c16).trans (zif_f c26)))
        exact hret _ _ _ _ dX7_help_30 rfl (by rw [hE]) (by rw [hE])
