/-! X7_greatest -/
def f_X7_greatest_14 (mP : Nat) (mQ : Nat) (msd : Int32) (mpe : zF) (mno : zF) (i : Int32) (mH : Nat) : Nat → Nat → Nat → Int32 → Int32 → zF → zF → zF → zF → zF → zF → zF → Int32 × Nat × Int32 × Int32 × zF × zF × zF × zF × zF × zF × zF
  | 0, _, mwm9, mls9, mhd9, mwi9, mon9, mdi9, mco9, mgo9, mbr9, mca9 => ((-4), mwm9, mls9, mhd9, mwi9, mon9, mdi9, mco9, mgo9, mbr9, mca9)
  | n9 + 1, n, mwm9, mls9, mhd9, mwi9, mon9, mdi9, mco9, mgo9, mbr9, mca9 => let u21 := s_X7_prepareBut mP mQ msd mpe mno mwi9 mon9 (nI i.toNatClampNeg) (-1); let u75 := s_X7_run mP (u21.1 + 1) u21.2.1 mno (upd (upd (upd u21.2.2.1 (3 * u21.1) (nI i.toNatClampNeg)) ((3 * u21.1) + 1) (-1)) ((3 * u21.1) + 2) (nI n)) u21.2.2.2 mdi9 mco9 mgo9 mbr9 mca9 mH; if (s_X7_has u75.1 i.toNatClampNeg) = true then ((nI n), u21.1 + 1, u21.2.1, u75.1, (upd (upd (upd u21.2.2.1 (3 * u21.1) (nI i.toNatClampNeg)) ((3 * u21.1) + 1) (-1)) ((3 * u21.1) + 2) (nI n)), u21.2.2.2, u75.2.1, u75.2.2.1, u75.2.2.2.1, u75.2.2.2.2.1, u75.2.2.2.2.2) else f_X7_greatest_14 mP mQ msd mpe mno i mH n9 (n - 1) (u21.1 + 1) u21.2.1 u75.1 (upd (upd (upd u21.2.2.1 (3 * u21.1) (nI i.toNatClampNeg)) ((3 * u21.1) + 1) (-1)) ((3 * u21.1) + 2) (nI n)) u21.2.2.2 u75.2.1 u75.2.2.1 u75.2.2.2.1 u75.2.2.2.2.1 u75.2.2.2.2.2
def s_X7_greatest (mP : Nat) (mQ : Nat) (mwm : Nat) (msd : Int32) (mls : Int32) (mhd : Int32) (mpe : zF) (mno : zF) (mwi : zF) (mon : zF) (mdi : zF) (mco : zF) (mgo : zF) (mbr : zF) (mca : zF) (i : Int32) (mH : Nat) : Int32 × Nat × Int32 × Int32 × zF × zF × zF × zF × zF × zF × zF := if (s_X7_in i (nI 0) ((nI mP) - (nI 1))) = true then f_X7_greatest_14 mP mQ msd mpe mno i mH 300 300 mwm mls mhd mwi mon mdi mco mgo mbr mca else ((-1), mwm, mls, mhd, mwi, mon, mdi, mco, mgo, mbr, mca)
set_option maxHeartbeats 4000000 in
set_option maxRecDepth 100000 in
theorem c_X7_greatest (l : Launch) (D : va_G) (cI cC cJ : ClassId) (m : Nat → Nat) (mle : Nat) (mpo : Nat) (mfa : Nat) (mrm : Nat) (mrw : Nat) (mP : Nat) (mQ : Nat) (mbk : Nat) (mkp : Nat) (msg : Nat) (mwm : Nat) (mrs : Int32) (msd : Int32) (mls : Int32) (mhd : Int32) (mtx : zF) (mnu : zF) (mrd : zF) (mrl : zF) (mpe : zF) (mno : zF) (mbo : zF) (mim : zF) (msi : zF) (mwi : zF) (mon : zF) (mdi : zF) (mco : zF) (mgo : zF) (mbr : zF) (mca : zF) (i : Int32) (mH : Nat) (hmP : mP ≤ 6) (hmQ : mQ ≤ 9) (hto2 : ∀ k, k < mQ → mno ((3 * k) + 1) = nI (mno ((3 * k) + 1)).toNatClampNeg ∧ (mno ((3 * k) + 1)).toNatClampNeg < 6) (hmH : mH ≤ 4) (hH : mno 27 = nI mH) (hhi : ∀ h, h < mH → mno (28 + (3 * h)) = nI (mno (28 + (3 * h))).toNatClampNeg ∧ (mno (28 + (3 * h))).toNatClampNeg < 6) : zD l yX7_greatest wsX7_greatest rm_X7_greatest D (zT cI cC cJ) [.ref (m 31), .int i] [modW cI m mle mpo mfa mrm mrw mP mQ mbk mkp msg mwm mrs msd mls mhd mtx mnu mrd mrl mpe mno mbo mim msi mwi mon mdi mco mgo mbr mca] (some (.int ((s_X7_greatest mP mQ mwm msd mls mhd mpe mno mwi mon mdi mco mgo mbr mca i mH).1))) [modW cI m mle mpo mfa mrm mrw mP mQ mbk mkp msg ((s_X7_greatest mP mQ mwm msd mls mhd mpe mno mwi mon mdi mco mgo mbr mca i mH).2.1) mrs msd ((s_X7_greatest mP mQ mwm msd mls mhd mpe mno mwi mon mdi mco mgo mbr mca i mH).2.2.1) ((s_X7_greatest mP mQ mwm msd mls mhd mpe mno mwi mon mdi mco mgo mbr mca i mH).2.2.2.1) mtx mnu mrd mrl mpe mno mbo mim msi ((s_X7_greatest mP mQ mwm msd mls mhd mpe mno mwi mon mdi mco mgo mbr mca i mH).2.2.2.2.1) ((s_X7_greatest mP mQ mwm msd mls mhd mpe mno mwi mon mdi mco mgo mbr mca i mH).2.2.2.2.2.1) ((s_X7_greatest mP mQ mwm msd mls mhd mpe mno mwi mon mdi mco mgo mbr mca i mH).2.2.2.2.2.2.1) ((s_X7_greatest mP mQ mwm msd mls mhd mpe mno mwi mon mdi mco mgo mbr mca i mH).2.2.2.2.2.2.2.1) ((s_X7_greatest mP mQ mwm msd mls mhd mpe mno mwi mon mdi mco mgo mbr mca i mH).2.2.2.2.2.2.2.2.1) ((s_X7_greatest mP mQ mwm msd mls mhd mpe mno mwi mon mdi mco mgo mbr mca i mH).2.2.2.2.2.2.2.2.2.1) ((s_X7_greatest mP mQ mwm msd mls mhd mpe mno mwi mon mdi mco mgo mbr mca i mH).2.2.2.2.2.2.2.2.2.2)] := by
  refine zD_int (cc := cX7_greatest) (maxL := 3) (ty := .int) (lv := [(0, .ref (m 31)), (1, .int i)]) (by decide +kernel) rfl (Nat.le_of_ble_eq_true rfl) rfl (fun Z O hret => ?_)
  refine zr_aload_n (pc2 := 1) O dX7_greatest_0 rfl 0 rfl rfl ?_
  refine zr_iload_n (pc2 := 2) O dX7_greatest_1 rfl 1 rfl rfl ?_
  refine zr_callV (As := [.int i]) (rest := []) (ws2 := [modW cI m mle mpo mfa mrm mrw mP mQ mbk mkp msg mwm mrs msd mls mhd mtx mnu mrd mrl mpe mno mbo mim msi mwi mon mdi mco mgo mbr mca]) (pc2 := 5) (ci := 7) (g0 := 0) (q0 := 0) O (c_X7_isOne l D cI cC cJ m mle mpo mfa mrm mrw mP mQ mbk mkp msg mwm mrs msd mls mhd mtx mnu mrd mrl mpe mno mbo mim msi mwi mon mdi mco mgo mbr mca i) sC_X7_greatest_122 rfl rfl rfl rfl rfl dX7_greatest_2 [0] rfl rfl rfl rfl (Nat.le_of_ble_eq_true rfl) rfl ?_
  show Z _ _ _ [.int (zb (s_X7_in i (nI 0) ((nI mP) - (nI 1))))]
  refine zb_if_ne (tgt := 10) (pc2 := 8) O dX7_greatest_5 (by decide) rfl (fun c5 => ?_) (fun c5 => ?_)
  · have hc1 := (one_in c5 hmP)
    rw [hc1.1]
    refine zr_sipush (v := (nI 300)) (pc2 := 13) O dX7_greatest_10 (by decide +kernel) rfl ?_
    refine zr_istore_n (lv2 := [(2, .int (nI 300)), (0, .ref (m 31)), (1, .int (nI i.toNatClampNeg))]) (pc2 := 14) O dX7_greatest_13 rfl (by decide) rfl rfl ?_
    have hS14 : s_X7_greatest mP mQ mwm msd mls mhd mpe mno mwi mon mdi mco mgo mbr mca i mH = f_X7_greatest_14 mP mQ msd mpe mno i mH 300 300 mwm mls mhd mwi mon mdi mco mgo mbr mca := by exact (zif_t c5)
    have lp14 : ∀ (n9 : Nat) (n : Nat) (mwm9 : Nat) (mls9 : Int32) (mhd9 : Int32) (mwi9 : zF) (mon9 : zF) (mdi9 : zF) (mco9 : zF) (mgo9 : zF) (mbr9 : zF) (mca9 : zF), n = n9 → (n ≤ 300) → f_X7_greatest_14 mP mQ msd mpe mno i mH 300 300 mwm mls mhd mwi mon mdi mco mgo mbr mca = f_X7_greatest_14 mP mQ msd mpe mno i mH n9 n mwm9 mls9 mhd9 mwi9 mon9 mdi9 mco9 mgo9 mbr9 mca9 → Z [modW cI m mle mpo mfa mrm mrw mP mQ mbk mkp msg mwm9 mrs msd mls9 mhd9 mtx mnu mrd mrl mpe mno mbo mim msi mwi9 mon9 mdi9 mco9 mgo9 mbr9 mca9] [(2, .int (nI n)), (0, .ref (m 31)), (1, .int (nI i.toNatClampNeg))] 14 [] := by
      intro n9
      induction n9 with
      | zero =>
        intro n mwm9 mls9 mhd9 mwi9 mon9 mdi9 mco9 mgo9 mbr9 mca9 hM14 hn3 hF14
        refine zr_iload_n (pc2 := 15) O dX7_greatest_14 rfl 0 rfl rfl ?_
        refine zn_if_le (tgt := 94) (pc2 := 18) O dX7_greatest_15 (by decide) rfl (by omega) (fun c15 => ?_) (fun c15 => ?_)
        · refine zr_bipush (v := (-4)) (pc2 := 96) O dX7_greatest_94 (by decide +kernel) rfl ?_
          have hE : f_X7_greatest_14 mP mQ msd mpe mno i mH 0 n mwm9 mls9 mhd9 mwi9 mon9 mdi9 mco9 mgo9 mbr9 mca9 = ((-4), mwm9, mls9, mhd9, mwi9, mon9, mdi9, mco9, mgo9, mbr9, mca9) := by exact rfl
          have hE := hS14.trans (hF14.trans hE)
          exact hret _ _ _ _ dX7_greatest_96 rfl (by rw [hE]) (by rw [hE])
        · exact absurd c15 (by omega)
      | succ n9 ih14 =>
        intro n mwm9 mls9 mhd9 mwi9 mon9 mdi9 mco9 mgo9 mbr9 mca9 hM14 hn3 hF14
        refine zr_iload_n (pc2 := 15) O dX7_greatest_14 rfl 0 rfl rfl ?_
        refine zn_if_le (tgt := 94) (pc2 := 18) O dX7_greatest_15 (by decide) rfl (by omega) (fun c15 => ?_) (fun c15 => ?_)
        · exact absurd c15 (by omega)
        · refine zr_aload_n (pc2 := 19) O dX7_greatest_18 rfl 1 rfl rfl ?_
          refine zr_iload_n (pc2 := 20) O dX7_greatest_19 rfl 2 rfl rfl ?_
          refine zr_iconst (v := (-1)) (pc2 := 21) O dX7_greatest_20 (by decide +kernel) rfl ?_
          obtain ⟨u21, hu21⟩ : ∃ z9, z9 = s_X7_prepareBut mP mQ msd mpe mno mwi9 mon9 (nI i.toNatClampNeg) (-1) := ⟨_, rfl⟩
          refine zr_callV (As := [.int (nI i.toNatClampNeg), .int (-1)]) (rest := []) (ws2 := [modW cI m mle mpo mfa mrm mrw mP mQ mbk mkp msg u21.1 mrs msd u21.2.1 mhd9 mtx mnu mrd mrl mpe mno mbo mim msi u21.2.2.1 u21.2.2.2 mdi9 mco9 mgo9 mbr9 mca9]) (pc2 := 24) (ci := 7) (g0 := 0) (q0 := 0) (v := none) (W := [modW cI m mle mpo mfa mrm mrw mP mQ mbk mkp msg mwm9 mrs msd mls9 mhd9 mtx mnu mrd mrl mpe mno mbo mim msi mwi9 mon9 mdi9 mco9 mgo9 mbr9 mca9]) (W2 := [modW cI m mle mpo mfa mrm mrw mP mQ mbk mkp msg u21.1 mrs msd u21.2.1 mhd9 mtx mnu mrd mrl mpe mno mbo mim msi u21.2.2.1 u21.2.2.2 mdi9 mco9 mgo9 mbr9 mca9]) O (by rw [hu21]; exact (c_X7_prepareBut l D cI cC cJ m mle mpo mfa mrm mrw mP mQ mbk mkp msg mwm9 mrs msd mls9 mhd9 mtx mnu mrd mrl mpe mno mbo mim msi mwi9 mon9 mdi9 mco9 mgo9 mbr9 mca9 (nI i.toNatClampNeg) (-1) (by first | assumption | omega) (by first | assumption | omega))) sC_X7_greatest_186 rfl rfl rfl rfl rfl dX7_greatest_21 [0] rfl rfl rfl rfl (Nat.le_of_ble_eq_true rfl) rfl ?_
          show Z _ _ _ []
          refine zr_aload_n (pc2 := 25) O dX7_greatest_24 rfl 1 rfl rfl ?_
          refine zr_getf (v := .ref (m 21)) (pc2 := 28) O sF_X7_greatest_47 0 0 rfl rfl rfl dX7_greatest_25 rfl ?_
          refine zr_iconst (v := (nI 3)) (pc2 := 29) O dX7_greatest_28 (by decide +kernel) rfl ?_
          refine zr_aload_n (pc2 := 30) O dX7_greatest_29 rfl 1 rfl rfl ?_
          refine zr_getf (v := .int (nI u21.1)) (pc2 := 33) O sF_X7_greatest_138 0 0 rfl rfl rfl dX7_greatest_30 rfl ?_
          refine zr_imul (v := (nI (3 * u21.1))) (pc2 := 34) O dX7_greatest_33 (pk_mul 3 u21.1) rfl ?_
          refine zr_iload_n (pc2 := 35) O dX7_greatest_34 rfl 2 rfl rfl ?_
          refine zn_iast (j := (3 * u21.1)) (G2 := modW cI m mle mpo mfa mrm mrw mP mQ mbk mkp msg u21.1 mrs msd u21.2.1 mhd9 mtx mnu mrd mrl mpe mno mbo mim msi (upd u21.2.2.1 (3 * u21.1) (nI i.toNatClampNeg)) u21.2.2.2 mdi9 mco9 mgo9 mbr9 mca9) (ws2 := [modW cI m mle mpo mfa mrm mrw mP mQ mbk mkp msg u21.1 mrs msd u21.2.1 mhd9 mtx mnu mrd mrl mpe mno mbo mim msi (upd u21.2.2.1 (3 * u21.1) (nI i.toNatClampNeg)) u21.2.2.2 mdi9 mco9 mgo9 mbr9 mca9]) (pc2 := 36) O 0 10 0 rfl rfl rfl rfl (by subst hu21; have h9 := but_le mP mQ msd mpe mno mwi9 mon9 (nI i.toNatClampNeg) (-1); omega) (by decide) dX7_greatest_35 rfl rfl rfl ?_
          refine zr_aload_n (pc2 := 37) O dX7_greatest_36 rfl 1 rfl rfl ?_
          refine zr_getf (v := .ref (m 21)) (pc2 := 40) O sF_X7_greatest_47 0 0 rfl rfl rfl dX7_greatest_37 rfl ?_
          refine zr_iconst (v := (nI 3)) (pc2 := 41) O dX7_greatest_40 (by decide +kernel) rfl ?_
          refine zr_aload_n (pc2 := 42) O dX7_greatest_41 rfl 1 rfl rfl ?_
          refine zr_getf (v := .int (nI u21.1)) (pc2 := 45) O sF_X7_greatest_138 0 0 rfl rfl rfl dX7_greatest_42 rfl ?_
          refine zr_imul (v := (nI (3 * u21.1))) (pc2 := 46) O dX7_greatest_45 (pk_mul 3 u21.1) rfl ?_
          refine zr_iconst (v := (nI 1)) (pc2 := 47) O dX7_greatest_46 (by decide +kernel) rfl ?_
          refine zr_iadd (v := (nI ((3 * u21.1) + 1))) (pc2 := 48) O dX7_greatest_47 (nI_add (3 * u21.1) 1) rfl ?_
          refine zr_iconst (v := (-1)) (pc2 := 49) O dX7_greatest_48 (by decide +kernel) rfl ?_
          refine zn_iast (j := ((3 * u21.1) + 1)) (G2 := modW cI m mle mpo mfa mrm mrw mP mQ mbk mkp msg u21.1 mrs msd u21.2.1 mhd9 mtx mnu mrd mrl mpe mno mbo mim msi (upd (upd u21.2.2.1 (3 * u21.1) (nI i.toNatClampNeg)) ((3 * u21.1) + 1) (-1)) u21.2.2.2 mdi9 mco9 mgo9 mbr9 mca9) (ws2 := [modW cI m mle mpo mfa mrm mrw mP mQ mbk mkp msg u21.1 mrs msd u21.2.1 mhd9 mtx mnu mrd mrl mpe mno mbo mim msi (upd (upd u21.2.2.1 (3 * u21.1) (nI i.toNatClampNeg)) ((3 * u21.1) + 1) (-1)) u21.2.2.2 mdi9 mco9 mgo9 mbr9 mca9]) (pc2 := 50) O 0 10 0 rfl rfl rfl rfl (by subst hu21; have h9 := but_le mP mQ msd mpe mno mwi9 mon9 (nI i.toNatClampNeg) (-1); omega) (by decide) dX7_greatest_49 rfl rfl rfl ?_
          refine zr_aload_n (pc2 := 51) O dX7_greatest_50 rfl 1 rfl rfl ?_
          refine zr_getf (v := .ref (m 21)) (pc2 := 54) O sF_X7_greatest_47 0 0 rfl rfl rfl dX7_greatest_51 rfl ?_
          refine zr_iconst (v := (nI 3)) (pc2 := 55) O dX7_greatest_54 (by decide +kernel) rfl ?_
          refine zr_aload_n (pc2 := 56) O dX7_greatest_55 rfl 1 rfl rfl ?_
          refine zr_getf (v := .int (nI u21.1)) (pc2 := 59) O sF_X7_greatest_138 0 0 rfl rfl rfl dX7_greatest_56 rfl ?_
          refine zr_imul (v := (nI (3 * u21.1))) (pc2 := 60) O dX7_greatest_59 (pk_mul 3 u21.1) rfl ?_
          refine zr_iconst (v := (nI 2)) (pc2 := 61) O dX7_greatest_60 (by decide +kernel) rfl ?_
          refine zr_iadd (v := (nI ((3 * u21.1) + 2))) (pc2 := 62) O dX7_greatest_61 (nI_add (3 * u21.1) 2) rfl ?_
          refine zr_iload_n (pc2 := 63) O dX7_greatest_62 rfl 0 rfl rfl ?_
          refine zn_iast (j := ((3 * u21.1) + 2)) (G2 := modW cI m mle mpo mfa mrm mrw mP mQ mbk mkp msg u21.1 mrs msd u21.2.1 mhd9 mtx mnu mrd mrl mpe mno mbo mim msi (upd (upd (upd u21.2.2.1 (3 * u21.1) (nI i.toNatClampNeg)) ((3 * u21.1) + 1) (-1)) ((3 * u21.1) + 2) (nI n)) u21.2.2.2 mdi9 mco9 mgo9 mbr9 mca9) (ws2 := [modW cI m mle mpo mfa mrm mrw mP mQ mbk mkp msg u21.1 mrs msd u21.2.1 mhd9 mtx mnu mrd mrl mpe mno mbo mim msi (upd (upd (upd u21.2.2.1 (3 * u21.1) (nI i.toNatClampNeg)) ((3 * u21.1) + 1) (-1)) ((3 * u21.1) + 2) (nI n)) u21.2.2.2 mdi9 mco9 mgo9 mbr9 mca9]) (pc2 := 64) O 0 10 0 rfl rfl rfl rfl (by subst hu21; have h9 := but_le mP mQ msd mpe mno mwi9 mon9 (nI i.toNatClampNeg) (-1); omega) (by decide) dX7_greatest_63 rfl rfl rfl ?_
          refine zr_aload_n (pc2 := 65) O dX7_greatest_64 rfl 1 rfl rfl ?_
          refine zr_dup (pc2 := 66) O dX7_greatest_65 rfl rfl ?_
          refine zr_getf (v := .int (nI u21.1)) (pc2 := 69) O sF_X7_greatest_138 0 0 rfl rfl rfl dX7_greatest_66 rfl ?_
          refine zr_iconst (v := (nI 1)) (pc2 := 70) O dX7_greatest_69 (by decide +kernel) rfl ?_
          refine zr_iadd (v := (nI (u21.1 + 1))) (pc2 := 71) O dX7_greatest_70 (nI_add u21.1 1) rfl ?_
          refine zr_putf (G2 := modW cI m mle mpo mfa mrm mrw mP mQ mbk mkp msg (u21.1 + 1) mrs msd u21.2.1 mhd9 mtx mnu mrd mrl mpe mno mbo mim msi (upd (upd (upd u21.2.2.1 (3 * u21.1) (nI i.toNatClampNeg)) ((3 * u21.1) + 1) (-1)) ((3 * u21.1) + 2) (nI n)) u21.2.2.2 mdi9 mco9 mgo9 mbr9 mca9) (ws2 := [modW cI m mle mpo mfa mrm mrw mP mQ mbk mkp msg (u21.1 + 1) mrs msd u21.2.1 mhd9 mtx mnu mrd mrl mpe mno mbo mim msi (upd (upd (upd u21.2.2.1 (3 * u21.1) (nI i.toNatClampNeg)) ((3 * u21.1) + 1) (-1)) ((3 * u21.1) + 2) (nI n)) u21.2.2.2 mdi9 mco9 mgo9 mbr9 mca9]) (pc2 := 74) O sP_X7_greatest_138 0 0 rfl rfl rfl rfl (Nat.le_of_ble_eq_true rfl) dX7_greatest_71 rfl rfl rfl ?_
          refine zr_aload_n (pc2 := 75) O dX7_greatest_74 rfl 1 rfl rfl ?_
          obtain ⟨u75, hu75⟩ : ∃ z9, z9 = s_X7_run mP (u21.1 + 1) u21.2.1 mno (upd (upd (upd u21.2.2.1 (3 * u21.1) (nI i.toNatClampNeg)) ((3 * u21.1) + 1) (-1)) ((3 * u21.1) + 2) (nI n)) u21.2.2.2 mdi9 mco9 mgo9 mbr9 mca9 mH := ⟨_, rfl⟩
          refine zr_callV (As := []) (rest := []) (ws2 := [modW cI m mle mpo mfa mrm mrw mP mQ mbk mkp msg (u21.1 + 1) mrs msd u21.2.1 u75.1 mtx mnu mrd mrl mpe mno mbo mim msi (upd (upd (upd u21.2.2.1 (3 * u21.1) (nI i.toNatClampNeg)) ((3 * u21.1) + 1) (-1)) ((3 * u21.1) + 2) (nI n)) u21.2.2.2 u75.2.1 u75.2.2.1 u75.2.2.2.1 u75.2.2.2.2.1 u75.2.2.2.2.2]) (pc2 := 78) (ci := 7) (g0 := 0) (q0 := 0) (v := none) (W := [modW cI m mle mpo mfa mrm mrw mP mQ mbk mkp msg (u21.1 + 1) mrs msd u21.2.1 mhd9 mtx mnu mrd mrl mpe mno mbo mim msi (upd (upd (upd u21.2.2.1 (3 * u21.1) (nI i.toNatClampNeg)) ((3 * u21.1) + 1) (-1)) ((3 * u21.1) + 2) (nI n)) u21.2.2.2 mdi9 mco9 mgo9 mbr9 mca9]) (W2 := [modW cI m mle mpo mfa mrm mrw mP mQ mbk mkp msg (u21.1 + 1) mrs msd u21.2.1 u75.1 mtx mnu mrd mrl mpe mno mbo mim msi (upd (upd (upd u21.2.2.1 (3 * u21.1) (nI i.toNatClampNeg)) ((3 * u21.1) + 1) (-1)) ((3 * u21.1) + 2) (nI n)) u21.2.2.2 u75.2.1 u75.2.2.1 u75.2.2.2.1 u75.2.2.2.2.1 u75.2.2.2.2.2]) O (by rw [hu75]; exact (c_X7_run l D cI cC cJ m mle mpo mfa mrm mrw mP mQ mbk mkp msg (u21.1 + 1) mrs msd u21.2.1 mhd9 mtx mnu mrd mrl mpe mno mbo mim msi (upd (upd (upd u21.2.2.1 (3 * u21.1) (nI i.toNatClampNeg)) ((3 * u21.1) + 1) (-1)) ((3 * u21.1) + 2) (nI n)) u21.2.2.2 mdi9 mco9 mgo9 mbr9 mca9 mH hmP (by subst hu21; have h9 := but_le mP mQ msd mpe mno mwi9 mon9 (nI i.toNatClampNeg) (-1); omega) (by subst hu21; exact toOk_add (but_to mP mQ msd mpe mno mwi9 mon9 (nI i.toNatClampNeg) (-1) hto2) (fun h9 => absurd neg1_lt h9)) hmH hH hhi)) sC_X7_greatest_180 rfl rfl rfl rfl rfl dX7_greatest_75 [0] rfl rfl rfl rfl (Nat.le_of_ble_eq_true rfl) rfl ?_
          show Z _ _ _ []
          refine zr_aload_n (pc2 := 79) O dX7_greatest_78 rfl 1 rfl rfl ?_
          refine zr_iload_n (pc2 := 80) O dX7_greatest_79 rfl 2 rfl rfl ?_
          refine zr_callV (As := [.int (nI i.toNatClampNeg)]) (rest := []) (ws2 := [modW cI m mle mpo mfa mrm mrw mP mQ mbk mkp msg (u21.1 + 1) mrs msd u21.2.1 u75.1 mtx mnu mrd mrl mpe mno mbo mim msi (upd (upd (upd u21.2.2.1 (3 * u21.1) (nI i.toNatClampNeg)) ((3 * u21.1) + 1) (-1)) ((3 * u21.1) + 2) (nI n)) u21.2.2.2 u75.2.1 u75.2.2.1 u75.2.2.2.1 u75.2.2.2.2.1 u75.2.2.2.2.2]) (pc2 := 83) (ci := 7) (g0 := 0) (q0 := 0) O (c_X7_has l D cI cC cJ m mle mpo mfa mrm mrw mP mQ mbk mkp msg (u21.1 + 1) mrs msd u21.2.1 u75.1 mtx mnu mrd mrl mpe mno mbo mim msi (upd (upd (upd u21.2.2.1 (3 * u21.1) (nI i.toNatClampNeg)) ((3 * u21.1) + 1) (-1)) ((3 * u21.1) + 2) (nI n)) u21.2.2.2 u75.2.1 u75.2.2.1 u75.2.2.2.1 u75.2.2.2.2.1 u75.2.2.2.2.2 i.toNatClampNeg) sC_X7_greatest_189 rfl rfl rfl rfl rfl dX7_greatest_80 [0] rfl rfl rfl rfl (Nat.le_of_ble_eq_true rfl) rfl ?_
          show Z _ _ _ [.int (zb (s_X7_has u75.1 i.toNatClampNeg))]
          refine zb_if_eq (tgt := 88) (pc2 := 86) O dX7_greatest_83 (by decide) rfl (fun c83 => ?_) (fun c83 => ?_)
          · refine zr_iinc (v := (nI (n - 1))) (lv2 := [(2, .int (nI (n - 1))), (0, .ref (m 31)), (1, .int (nI i.toNatClampNeg))]) (pc2 := 91) O dX7_greatest_88 0 rfl (zm_ofIntM (by omega)) (by decide) rfl rfl ?_
            refine zr_goto (tgt := 14) O dX7_greatest_91 (by decide) ?_
            have hE : f_X7_greatest_14 mP mQ msd mpe mno i mH (n9 + 1) n mwm9 mls9 mhd9 mwi9 mon9 mdi9 mco9 mgo9 mbr9 mca9 = f_X7_greatest_14 mP mQ msd mpe mno i mH n9 (n - 1) (u21.1 + 1) u21.2.1 u75.1 (upd (upd (upd u21.2.2.1 (3 * u21.1) (nI i.toNatClampNeg)) ((3 * u21.1) + 1) (-1)) ((3 * u21.1) + 2) (nI n)) u21.2.2.2 u75.2.1 u75.2.2.1 u75.2.2.2.1 u75.2.2.2.2.1 u75.2.2.2.2.2 := by subst hu75; subst hu21; exact (zif_f c83)
            exact ih14 (n - 1) (u21.1 + 1) u21.2.1 u75.1 (upd (upd (upd u21.2.2.1 (3 * u21.1) (nI i.toNatClampNeg)) ((3 * u21.1) + 1) (-1)) ((3 * u21.1) + 2) (nI n)) u21.2.2.2 u75.2.1 u75.2.2.1 u75.2.2.2.1 u75.2.2.2.2.1 u75.2.2.2.2.2 (by omega) (by omega) (hF14.trans hE)
          · refine zr_iload_n (pc2 := 87) O dX7_greatest_86 rfl 0 rfl rfl ?_
            have hE : f_X7_greatest_14 mP mQ msd mpe mno i mH (n9 + 1) n mwm9 mls9 mhd9 mwi9 mon9 mdi9 mco9 mgo9 mbr9 mca9 = ((nI n), u21.1 + 1, u21.2.1, u75.1, (upd (upd (upd u21.2.2.1 (3 * u21.1) (nI i.toNatClampNeg)) ((3 * u21.1) + 1) (-1)) ((3 * u21.1) + 2) (nI n)), u21.2.2.2, u75.2.1, u75.2.2.1, u75.2.2.2.1, u75.2.2.2.2.1, u75.2.2.2.2.2) := by subst hu75; subst hu21; exact (zif_t c83)
            have hE := hS14.trans (hF14.trans hE)
            exact hret _ _ _ _ dX7_greatest_87 rfl (by rw [hE]) (by rw [hE])
    exact lp14 300 300 mwm mls mhd mwi mon mdi mco mgo mbr mca rfl (by decide) rfl
  · refine zr_iconst (v := (-1)) (pc2 := 9) O dX7_greatest_8 (by decide +kernel) rfl ?_
    have hE : s_X7_greatest mP mQ mwm msd mls mhd mpe mno mwi mon mdi mco mgo mbr mca i mH = ((-1), mwm, mls, mhd, mwi, mon, mdi, mco, mgo, mbr, mca) := by exact (zif_f c5)
    exact hret _ _ _ _ dX7_greatest_9 rfl (by rw [hE]) (by rw [hE])
/-! X7_needs -/
def f_X7_needs_12 (mP : Nat) (mQ : Nat) (msd : Int32) (mpe : zF) (mno : zF) (i : Int32) (mH : Nat) : Nat → Nat → Nat → Int32 → Int32 → zF → zF → zF → zF → zF → zF → zF → Int32 × Nat × Int32 × Int32 × zF × zF × zF × zF × zF × zF × zF
  | 0, _, mwm9, mls9, mhd9, mwi9, mon9, mdi9, mco9, mgo9, mbr9, mca9 => ((-4), mwm9, mls9, mhd9, mwi9, mon9, mdi9, mco9, mgo9, mbr9, mca9)
  | n9 + 1, n, mwm9, mls9, mhd9, mwi9, mon9, mdi9, mco9, mgo9, mbr9, mca9 => let u20 := s_X7_prepare mP mQ msd mpe mno mwi9 mon9; let u38 := s_X7_run mP u20.1 u20.2.1 mno u20.2.2.1 (upd u20.2.2.2 ((5 * i.toNatClampNeg) + 4) ((u20.2.2.2 ((5 * i.toNatClampNeg) + 4)) + (nI n))) mdi9 mco9 mgo9 mbr9 mca9 mH; if (s_X7_has u38.1 i.toNatClampNeg) = true then ((nI n), u20.1, u20.2.1, u38.1, u20.2.2.1, (upd u20.2.2.2 ((5 * i.toNatClampNeg) + 4) ((u20.2.2.2 ((5 * i.toNatClampNeg) + 4)) + (nI n))), u38.2.1, u38.2.2.1, u38.2.2.2.1, u38.2.2.2.2.1, u38.2.2.2.2.2) else f_X7_needs_12 mP mQ msd mpe mno i mH n9 (n + 1) u20.1 u20.2.1 u38.1 u20.2.2.1 (upd u20.2.2.2 ((5 * i.toNatClampNeg) + 4) ((u20.2.2.2 ((5 * i.toNatClampNeg) + 4)) + (nI n))) u38.2.1 u38.2.2.1 u38.2.2.2.1 u38.2.2.2.2.1 u38.2.2.2.2.2
def s_X7_needs (mP : Nat) (mQ : Nat) (mwm : Nat) (msd : Int32) (mls : Int32) (mhd : Int32) (mpe : zF) (mno : zF) (mwi : zF) (mon : zF) (mdi : zF) (mco : zF) (mgo : zF) (mbr : zF) (mca : zF) (i : Int32) (mH : Nat) : Int32 × Nat × Int32 × Int32 × zF × zF × zF × zF × zF × zF × zF := if (s_X7_in i (nI 0) ((nI mP) - (nI 1))) = true then f_X7_needs_12 mP mQ msd mpe mno i mH 301 0 mwm mls mhd mwi mon mdi mco mgo mbr mca else ((-1), mwm, mls, mhd, mwi, mon, mdi, mco, mgo, mbr, mca)
set_option maxHeartbeats 4000000 in
set_option maxRecDepth 100000 in
theorem c_X7_needs (l : Launch) (D : va_G) (cI cC cJ : ClassId) (m : Nat → Nat) (mle : Nat) (mpo : Nat) (mfa : Nat) (mrm : Nat) (mrw : Nat) (mP : Nat) (mQ : Nat) (mbk : Nat) (mkp : Nat) (msg : Nat) (mwm : Nat) (mrs : Int32) (msd : Int32) (mls : Int32) (mhd : Int32) (mtx : zF) (mnu : zF) (mrd : zF) (mrl : zF) (mpe : zF) (mno : zF) (mbo : zF) (mim : zF) (msi : zF) (mwi : zF) (mon : zF) (mdi : zF) (mco : zF) (mgo : zF) (mbr : zF) (mca : zF) (i : Int32) (mH : Nat) (hmP : mP ≤ 6) (hmQ : mQ ≤ 9) (hto2 : ∀ k, k < mQ → mno ((3 * k) + 1) = nI (mno ((3 * k) + 1)).toNatClampNeg ∧ (mno ((3 * k) + 1)).toNatClampNeg < 6) (hmH : mH ≤ 4) (hH : mno 27 = nI mH) (hhi : ∀ h, h < mH → mno (28 + (3 * h)) = nI (mno (28 + (3 * h))).toNatClampNeg ∧ (mno (28 + (3 * h))).toNatClampNeg < 6) : zD l yX7_needs wsX7_needs rm_X7_needs D (zT cI cC cJ) [.ref (m 31), .int i] [modW cI m mle mpo mfa mrm mrw mP mQ mbk mkp msg mwm mrs msd mls mhd mtx mnu mrd mrl mpe mno mbo mim msi mwi mon mdi mco mgo mbr mca] (some (.int ((s_X7_needs mP mQ mwm msd mls mhd mpe mno mwi mon mdi mco mgo mbr mca i mH).1))) [modW cI m mle mpo mfa mrm mrw mP mQ mbk mkp msg ((s_X7_needs mP mQ mwm msd mls mhd mpe mno mwi mon mdi mco mgo mbr mca i mH).2.1) mrs msd ((s_X7_needs mP mQ mwm msd mls mhd mpe mno mwi mon mdi mco mgo mbr mca i mH).2.2.1) ((s_X7_needs mP mQ mwm msd mls mhd mpe mno mwi mon mdi mco mgo mbr mca i mH).2.2.2.1) mtx mnu mrd mrl mpe mno mbo mim msi ((s_X7_needs mP mQ mwm msd mls mhd mpe mno mwi mon mdi mco mgo mbr mca i mH).2.2.2.2.1) ((s_X7_needs mP mQ mwm msd mls mhd mpe mno mwi mon mdi mco mgo mbr mca i mH).2.2.2.2.2.1) ((s_X7_needs mP mQ mwm msd mls mhd mpe mno mwi mon mdi mco mgo mbr mca i mH).2.2.2.2.2.2.1) ((s_X7_needs mP mQ mwm msd mls mhd mpe mno mwi mon mdi mco mgo mbr mca i mH).2.2.2.2.2.2.2.1) ((s_X7_needs mP mQ mwm msd mls mhd mpe mno mwi mon mdi mco mgo mbr mca i mH).2.2.2.2.2.2.2.2.1) ((s_X7_needs mP mQ mwm msd mls mhd mpe mno mwi mon mdi mco mgo mbr mca i mH).2.2.2.2.2.2.2.2.2.1) ((s_X7_needs mP mQ mwm msd mls mhd mpe mno mwi mon mdi mco mgo mbr mca i mH).2.2.2.2.2.2.2.2.2.2)] := by
  refine zD_int (cc := cX7_needs) (maxL := 3) (ty := .int) (lv := [(0, .ref (m 31)), (1, .int i)]) (by decide +kernel) rfl (Nat.le_of_ble_eq_true rfl) rfl (fun Z O hret => ?_)
  refine zr_aload_n (pc2 := 1) O dX7_needs_0 rfl 0 rfl rfl ?_
  refine zr_iload_n (pc2 := 2) O dX7_needs_1 rfl 1 rfl rfl ?_
  refine zr_callV (As := [.int i]) (rest := []) (ws2 := [modW cI m mle mpo mfa mrm mrw mP mQ mbk mkp msg mwm mrs msd mls mhd mtx mnu mrd mrl mpe mno mbo mim msi mwi mon mdi mco mgo mbr mca]) (pc2 := 5) (ci := 7) (g0 := 0) (q0 := 0) O (c_X7_isOne l D cI cC cJ m mle mpo mfa mrm mrw mP mQ mbk mkp msg mwm mrs msd mls mhd mtx mnu mrd mrl mpe mno mbo mim msi mwi mon mdi mco mgo mbr mca i) sC_X7_needs_122 rfl rfl rfl rfl rfl dX7_needs_2 [0] rfl rfl rfl rfl (Nat.le_of_ble_eq_true rfl) rfl ?_
  show Z _ _ _ [.int (zb (s_X7_in i (nI 0) ((nI mP) - (nI 1))))]
  refine zb_if_ne (tgt := 10) (pc2 := 8) O dX7_needs_5 (by decide) rfl (fun c5 => ?_) (fun c5 => ?_)
  · have hc1 := (one_in c5 hmP)
    rw [hc1.1]
    refine zr_iconst (v := (nI 0)) (pc2 := 11) O dX7_needs_10 (by decide +kernel) rfl ?_
    refine zr_istore_n (lv2 := [(2, .int (nI 0)), (0, .ref (m 31)), (1, .int (nI i.toNatClampNeg))]) (pc2 := 12) O dX7_needs_11 rfl (by decide) rfl rfl ?_
    have hS12 : s_X7_needs mP mQ mwm msd mls mhd mpe mno mwi mon mdi mco mgo mbr mca i mH = f_X7_needs_12 mP mQ msd mpe mno i mH 301 0 mwm mls mhd mwi mon mdi mco mgo mbr mca := by exact (zif_t c5)
    have lp12 : ∀ (n9 : Nat) (n : Nat) (mwm9 : Nat) (mls9 : Int32) (mhd9 : Int32) (mwi9 : zF) (mon9 : zF) (mdi9 : zF) (mco9 : zF) (mgo9 : zF) (mbr9 : zF) (mca9 : zF), n + n9 = 301 → f_X7_needs_12 mP mQ msd mpe mno i mH 301 0 mwm mls mhd mwi mon mdi mco mgo mbr mca = f_X7_needs_12 mP mQ msd mpe mno i mH n9 n mwm9 mls9 mhd9 mwi9 mon9 mdi9 mco9 mgo9 mbr9 mca9 → Z [modW cI m mle mpo mfa mrm mrw mP mQ mbk mkp msg mwm9 mrs msd mls9 mhd9 mtx mnu mrd mrl mpe mno mbo mim msi mwi9 mon9 mdi9 mco9 mgo9 mbr9 mca9] [(2, .int (nI n)), (0, .ref (m 31)), (1, .int (nI i.toNatClampNeg))] 12 [] := by
      intro n9
      induction n9 with
      | zero =>
        intro n mwm9 mls9 mhd9 mwi9 mon9 mdi9 mco9 mgo9 mbr9 mca9 hM12 hF12
        refine zr_iload_n (pc2 := 13) O dX7_needs_12 rfl 0 rfl rfl ?_
        refine zr_sipush (v := (nI 300)) (pc2 := 16) O dX7_needs_13 (by decide +kernel) rfl ?_
        refine zn_icmp_gt (tgt := 57) (pc2 := 19) O dX7_needs_16 (by decide) rfl (by omega) (by omega) (fun c16 => ?_) (fun c16 => ?_)
        · refine zr_bipush (v := (-4)) (pc2 := 59) O dX7_needs_57 (by decide +kernel) rfl ?_
          have hE : f_X7_needs_12 mP mQ msd mpe mno i mH 0 n mwm9 mls9 mhd9 mwi9 mon9 mdi9 mco9 mgo9 mbr9 mca9 = ((-4), mwm9, mls9, mhd9, mwi9, mon9, mdi9, mco9, mgo9, mbr9, mca9) := by exact rfl
          have hE := hS12.trans (hF12.trans hE)
          exact hret _ _ _ _ dX7_needs_59 rfl (by rw [hE]) (by rw [hE])
        · exact absurd c16 (by omega)
      | succ n9 ih12 =>
        intro n mwm9 mls9 mhd9 mwi9 mon9 mdi9 mco9 mgo9 mbr9 mca9 hM12 hF12
        refine zr_iload_n (pc2 := 13) O dX7_needs_12 rfl 0 rfl rfl ?_
        refine zr_sipush (v := (nI 300)) (pc2 := 16) O dX7_needs_13 (by decide +kernel) rfl ?_
        refine zn_icmp_gt (tgt := 57) (pc2 := 19) O dX7_needs_16 (by decide) rfl (by omega) (by omega) (fun c16 => ?_) (fun c16 => ?_)
        · exact absurd c16 (by omega)
        · refine zr_aload_n (pc2 := 20) O dX7_needs_19 rfl 1 rfl rfl ?_
          obtain ⟨u20, hu20⟩ : ∃ z9, z9 = s_X7_prepare mP mQ msd mpe mno mwi9 mon9 := ⟨_, rfl⟩
          refine zr_callV (As := []) (rest := []) (ws2 := [modW cI m mle mpo mfa mrm mrw mP mQ mbk mkp msg u20.1 mrs msd u20.2.1 mhd9 mtx mnu mrd mrl mpe mno mbo mim msi u20.2.2.1 u20.2.2.2 mdi9 mco9 mgo9 mbr9 mca9]) (pc2 := 23) (ci := 7) (g0 := 0) (q0 := 0) (v := none) (W := [modW cI m mle mpo mfa mrm mrw mP mQ mbk mkp msg mwm9 mrs msd mls9 mhd9 mtx mnu mrd mrl mpe mno mbo mim msi mwi9 mon9 mdi9 mco9 mgo9 mbr9 mca9]) (W2 := [modW cI m mle mpo mfa mrm mrw mP mQ mbk mkp msg u20.1 mrs msd u20.2.1 mhd9 mtx mnu mrd mrl mpe mno mbo mim msi u20.2.2.1 u20.2.2.2 mdi9 mco9 mgo9 mbr9 mca9]) O (by rw [hu20]; exact (c_X7_prepare l D cI cC cJ m mle mpo mfa mrm mrw mP mQ mbk mkp msg mwm9 mrs msd mls9 mhd9 mtx mnu mrd mrl mpe mno mbo mim msi mwi9 mon9 mdi9 mco9 mgo9 mbr9 mca9 (by first | assumption | omega) (by first | assumption | omega))) sC_X7_needs_177 rfl rfl rfl rfl rfl dX7_needs_20 [0] rfl rfl rfl rfl (Nat.le_of_ble_eq_true rfl) rfl ?_
          show Z _ _ _ []
          refine zr_aload_n (pc2 := 24) O dX7_needs_23 rfl 1 rfl rfl ?_
          refine zr_getf (v := .ref (m 23)) (pc2 := 27) O sF_X7_needs_50 0 0 rfl rfl rfl dX7_needs_24 rfl ?_
          refine zr_iconst (v := (nI 5)) (pc2 := 28) O dX7_needs_27 (by decide +kernel) rfl ?_
          refine zr_iload_n (pc2 := 29) O dX7_needs_28 rfl 2 rfl rfl ?_
          refine zr_imul (v := (nI (5 * i.toNatClampNeg))) (pc2 := 30) O dX7_needs_29 (pk_mul 5 i.toNatClampNeg) rfl ?_
          refine zr_iconst (v := (nI 4)) (pc2 := 31) O dX7_needs_30 (by decide +kernel) rfl ?_
          refine zr_iadd (v := (nI ((5 * i.toNatClampNeg) + 4))) (pc2 := 32) O dX7_needs_31 (nI_add (5 * i.toNatClampNeg) 4) rfl ?_
          refine zr_dup2 (pc2 := 33) O dX7_needs_32 rfl rfl rfl ?_
          refine zn_iald (j := ((5 * i.toNatClampNeg) + 4)) (pc2 := 34) O 0 11 0 rfl rfl rfl rfl (by omega) (by decide) dX7_needs_33 rfl ?_
          refine zr_iload_n (pc2 := 35) O dX7_needs_34 rfl 0 rfl rfl ?_
          refine zr_iadd (v := ((u20.2.2.2 ((5 * i.toNatClampNeg) + 4)) + (nI n))) (pc2 := 36) O dX7_needs_35 rfl rfl ?_
          refine zn_iast (j := ((5 * i.toNatClampNeg) + 4)) (G2 := modW cI m mle mpo mfa mrm mrw mP mQ mbk mkp msg u20.1 mrs msd u20.2.1 mhd9 mtx mnu mrd mrl mpe mno mbo mim msi u20.2.2.1 (upd u20.2.2.2 ((5 * i.toNatClampNeg) + 4) ((u20.2.2.2 ((5 * i.toNatClampNeg) + 4)) + (nI n))) mdi9 mco9 mgo9 mbr9 mca9) (ws2 := [modW cI m mle mpo mfa mrm mrw mP mQ mbk mkp msg u20.1 mrs msd u20.2.1 mhd9 mtx mnu mrd mrl mpe mno mbo mim msi u20.2.2.1 (upd u20.2.2.2 ((5 * i.toNatClampNeg) + 4) ((u20.2.2.2 ((5 * i.toNatClampNeg) + 4)) + (nI n))) mdi9 mco9 mgo9 mbr9 mca9]) (pc2 := 37) O 0 11 0 rfl rfl rfl rfl (by omega) (by decide) dX7_needs_36 rfl rfl rfl ?_
          refine zr_aload_n (pc2 := 38) O dX7_needs_37 rfl 1 rfl rfl ?_
          obtain ⟨u38, hu38⟩ : ∃ z9, z9 = s_X7_run mP u20.1 u20.2.1 mno u20.2.2.1 (upd u20.2.2.2 ((5 * i.toNatClampNeg) + 4) ((u20.2.2.2 ((5 * i.toNatClampNeg) + 4)) + (nI n))) mdi9 mco9 mgo9 mbr9 mca9 mH := ⟨_, rfl⟩
          refine zr_callV (As := []) (rest := []) (ws2 := [modW cI m mle mpo mfa mrm mrw mP mQ mbk mkp msg u20.1 mrs msd u20.2.1 u38.1 mtx mnu mrd mrl mpe mno mbo mim msi u20.2.2.1 (upd u20.2.2.2 ((5 * i.toNatClampNeg) + 4) ((u20.2.2.2 ((5 * i.toNatClampNeg) + 4)) + (nI n))) u38.2.1 u38.2.2.1 u38.2.2.2.1 u38.2.2.2.2.1 u38.2.2.2.2.2]) (pc2 := 41) (ci := 7) (g0 := 0) (q0 := 0) (v := none) (W := [modW cI m mle mpo mfa mrm mrw mP mQ mbk mkp msg u20.1 mrs msd u20.2.1 mhd9 mtx mnu mrd mrl mpe mno mbo mim msi u20.2.2.1 (upd u20.2.2.2 ((5 * i.toNatClampNeg) + 4) ((u20.2.2.2 ((5 * i.toNatClampNeg) + 4)) + (nI n))) mdi9 mco9 mgo9 mbr9 mca9]) (W2 := [modW cI m mle mpo mfa mrm mrw mP mQ mbk mkp msg u20.1 mrs msd u20.2.1 u38.1 mtx mnu mrd mrl mpe mno mbo mim msi u20.2.2.1 (upd u20.2.2.2 ((5 * i.toNatClampNeg) + 4) ((u20.2.2.2 ((5 * i.toNatClampNeg) + 4)) + (nI n))) u38.2.1 u38.2.2.1 u38.2.2.2.1 u38.2.2.2.2.1 u38.2.2.2.2.2]) O (by rw [hu38]; exact (c_X7_run l D cI cC cJ m mle mpo mfa mrm mrw mP mQ mbk mkp msg u20.1 mrs msd u20.2.1 mhd9 mtx mnu mrd mrl mpe mno mbo mim msi u20.2.2.1 (upd u20.2.2.2 ((5 * i.toNatClampNeg) + 4) ((u20.2.2.2 ((5 * i.toNatClampNeg) + 4)) + (nI n))) mdi9 mco9 mgo9 mbr9 mca9 mH hmP (by subst hu20; show mQ ≤ 10; omega) (by subst hu20; exact prep_to rfl hto2) hmH hH hhi)) sC_X7_needs_180 rfl rfl rfl rfl rfl dX7_needs_38 [0] rfl rfl rfl rfl (Nat.le_of_ble_eq_true rfl) rfl ?_
          show Z _ _ _ []
          refine zr_aload_n (pc2 := 42) O dX7_needs_41 rfl 1 rfl rfl ?_
          refine zr_iload_n (pc2 := 43) O dX7_needs_42 rfl 2 rfl rfl ?_
          refine zr_callV (As := [.int (nI i.toNatClampNeg)]) (rest := []) (ws2 := [modW cI m mle mpo mfa mrm mrw mP mQ mbk mkp msg u20.1 mrs msd u20.2.1 u38.1 mtx mnu mrd mrl mpe mno mbo mim msi u20.2.2.1 (upd u20.2.2.2 ((5 * i.toNatClampNeg) + 4) ((u20.2.2.2 ((5 * i.toNatClampNeg) + 4)) + (nI n))) u38.2.1 u38.2.2.1 u38.2.2.2.1 u38.2.2.2.2.1 u38.2.2.2.2.2]) (pc2 := 46) (ci := 7) (g0 := 0) (q0 := 0) O (c_X7_has l D cI cC cJ m mle mpo mfa mrm mrw mP mQ mbk mkp msg u20.1 mrs msd u20.2.1 u38.1 mtx mnu mrd mrl mpe mno mbo mim msi u20.2.2.1 (upd u20.2.2.2 ((5 * i.toNatClampNeg) + 4) ((u20.2.2.2 ((5 * i.toNatClampNeg) + 4)) + (nI n))) u38.2.1 u38.2.2.1 u38.2.2.2.1 u38.2.2.2.2.1 u38.2.2.2.2.2 i.toNatClampNeg) sC_X7_needs_189 rfl rfl rfl rfl rfl dX7_needs_43 [0] rfl rfl rfl rfl (Nat.le_of_ble_eq_true rfl) rfl ?_
          show Z _ _ _ [.int (zb (s_X7_has u38.1 i.toNatClampNeg))]
          refine zb_if_eq (tgt := 51) (pc2 := 49) O dX7_needs_46 (by decide) rfl (fun c46 => ?_) (fun c46 => ?_)
          · refine zr_iinc (v := (nI (n + 1))) (lv2 := [(2, .int (nI (n + 1))), (0, .ref (m 31)), (1, .int (nI i.toNatClampNeg))]) (pc2 := 54) O dX7_needs_51 0 rfl (zm_ofInt1 n) (by decide) rfl rfl ?_
            refine zr_goto (tgt := 12) O dX7_needs_54 (by decide) ?_
            have hE : f_X7_needs_12 mP mQ msd mpe mno i mH (n9 + 1) n mwm9 mls9 mhd9 mwi9 mon9 mdi9 mco9 mgo9 mbr9 mca9 = f_X7_needs_12 mP mQ msd mpe mno i mH n9 (n + 1) u20.1 u20.2.1 u38.1 u20.2.2.1 (upd u20.2.2.2 ((5 * i.toNatClampNeg) + 4) ((u20.2.2.2 ((5 * i.toNatClampNeg) + 4)) + (nI n))) u38.2.1 u38.2.2.1 u38.2.2.2.1 u38.2.2.2.2.1 u38.2.2.2.2.2 := by subst hu38; subst hu20; exact (zif_f c46)
            exact ih12 (n + 1) u20.1 u20.2.1 u38.1 u20.2.2.1 (upd u20.2.2.2 ((5 * i.toNatClampNeg) + 4) ((u20.2.2.2 ((5 * i.toNatClampNeg) + 4)) + (nI n))) u38.2.1 u38.2.2.1 u38.2.2.2.1 u38.2.2.2.2.1 u38.2.2.2.2.2 (by omega) (hF12.trans hE)
          · refine zr_iload_n (pc2 := 50) O dX7_needs_49 rfl 0 rfl rfl ?_
            have hE : f_X7_needs_12 mP mQ msd mpe mno i mH (n9 + 1) n mwm9 mls9 mhd9 mwi9 mon9 mdi9 mco9 mgo9 mbr9 mca9 = ((nI n), u20.1, u20.2.1, u38.1, u20.2.2.1, (upd u20.2.2.2 ((5 * i.toNatClampNeg) + 4) ((u20.2.2.2 ((5 * i.toNatClampNeg) + 4)) + (nI n))), u38.2.1, u38.2.2.1, u38.2.2.2.1, u38.2.2.2.2.1, u38.2.2.2.2.2) := by subst hu38; subst hu20; exact (zif_t c46)
            have hE := hS12.trans (hF12.trans hE)
            exact hret _ _ _ _ dX7_needs_50 rfl (by rw [hE]) (by rw [hE])
    exact lp12 301 0 mwm mls mhd mwi mon mdi mco mgo mbr mca (by omega) rfl
  · refine zr_iconst (v := (-1)) (pc2 := 9) O dX7_needs_8 (by decide +kernel) rfl ?_
    have hE : s_X7_needs mP mQ mwm msd mls mhd mpe mno mwi mon mdi mco mgo mbr mca i mH = ((-1), mwm, mls, mhd, mwi, mon, mdi, mco, mgo, mbr, mca) := by exact (zif_f c5)
    exact hret _ _ _ _ dX7_needs_9 rfl (by rw [hE]) (by rw [hE])
/-! X7_mend -/
def f_X7_mend_20 (mP : Nat) (mQ : Nat) (msd : Int32) (mpe : zF) (mno : zF) (mH : Nat) : Nat → Nat → Int32 → Int32 → Nat → Int32 → Int32 → zF → zF → zF → zF → zF → zF → zF → Int32 × Int32 × Nat × Int32 × Int32 × zF × zF × zF × zF × zF × zF × zF
  | 0, _, be, mo, mwm9, mls9, mhd9, mwi9, mon9, mdi9, mco9, mgo9, mbr9, mca9 => (be, mo, mwm9, mls9, mhd9, mwi9, mon9, mdi9, mco9, mgo9, mbr9, mca9)
  | n9 + 1, k, be, mo, mwm9, mls9, mhd9, mwi9, mon9, mdi9, mco9, mgo9, mbr9, mca9 => let u33 := s_X7_prepareBut mP mQ msd mpe mno mwi9 mon9 (-1) (nI k); let u37 := s_X7_run mP u33.1 u33.2.1 mno u33.2.2.1 u33.2.2.2 mdi9 mco9 mgo9 mbr9 mca9 mH; if (s_X7_hadMany mP u37.1) ≤ mo then if (s_X7_hadMany mP u37.1) ≤ mo then f_X7_mend_20 mP mQ msd mpe mno mH n9 (k + 1) be mo u33.1 u33.2.1 u37.1 u33.2.2.1 u33.2.2.2 u37.2.1 u37.2.2.1 u37.2.2.2.1 u37.2.2.2.2.1 u37.2.2.2.2.2 else f_X7_mend_20 mP mQ msd mpe mno mH n9 (k + 1) be (s_X7_hadMany mP u37.1) u33.1 u33.2.1 u37.1 u33.2.2.1 u33.2.2.2 u37.2.1 u37.2.2.1 u37.2.2.2.1 u37.2.2.2.2.1 u37.2.2.2.2.2 else if (s_X7_hadMany mP u37.1) ≤ mo then f_X7_mend_20 mP mQ msd mpe mno mH n9 (k + 1) (nI k) mo u33.1 u33.2.1 u37.1 u33.2.2.1 u33.2.2.2 u37.2.1 u37.2.2.1 u37.2.2.2.1 u37.2.2.2.2.1 u37.2.2.2.2.2 else f_X7_mend_20 mP mQ msd mpe mno mH n9 (k + 1) (nI k) (s_X7_hadMany mP u37.1) u33.1 u33.2.1 u37.1 u33.2.2.1 u33.2.2.2 u37.2.1 u37.2.2.1 u37.2.2.2.1 u37.2.2.2.2.1 u37.2.2.2.2.2
def s_X7_mend (mP : Nat) (mQ : Nat) (mwm : Nat) (msd : Int32) (mls : Int32) (mhd : Int32) (mpe : zF) (mno : zF) (mwi : zF) (mon : zF) (mdi : zF) (mco : zF) (mgo : zF) (mbr : zF) (mca : zF) (wh : Int32) (mH : Nat) : Int32 × Nat × Int32 × Int32 × zF × zF × zF × zF × zF × zF × zF := if (s_X7_in wh (nI 0) (nI 1)) = true then let v26 := f_X7_mend_20 mP mQ msd mpe mno mH mQ 0 (-4) (-4) mwm mls mhd mwi mon mdi mco mgo mbr mca; if wh = 0 then (v26.1, v26.2.2.1, v26.2.2.2.1, v26.2.2.2.2.1, v26.2.2.2.2.2.1, v26.2.2.2.2.2.2.1, v26.2.2.2.2.2.2.2.1, v26.2.2.2.2.2.2.2.2.1, v26.2.2.2.2.2.2.2.2.2.1, v26.2.2.2.2.2.2.2.2.2.2.1, v26.2.2.2.2.2.2.2.2.2.2.2) else (v26.2.1, v26.2.2.1, v26.2.2.2.1, v26.2.2.2.2.1, v26.2.2.2.2.2.1, v26.2.2.2.2.2.2.1, v26.2.2.2.2.2.2.2.1, v26.2.2.2.2.2.2.2.2.1, v26.2.2.2.2.2.2.2.2.2.1, v26.2.2.2.2.2.2.2.2.2.2.1, v26.2.2.2.2.2.2.2.2.2.2.2) else ((-1), mwm, mls, mhd, mwi, mon, mdi, mco, mgo, mbr, mca)
set_option maxHeartbeats 4000000 in
set_option maxRecDepth 100000 in
theorem c_X7_mend (l : Launch) (D : va_G) (cI cC cJ : ClassId) (m : Nat → Nat) (mle : Nat) (mpo : Nat) (mfa : Nat) (mrm : Nat) (mrw : Nat) (mP : Nat) (mQ : Nat) (mbk : Nat) (mkp : Nat) (msg : Nat) (mwm : Nat) (mrs : Int32) (msd : Int32) (mls : Int32) (mhd : Int32) (mtx : zF) (mnu : zF) (mrd : zF) (mrl : zF) (mpe : zF) (mno : zF) (mbo : zF) (mim : zF) (msi : zF) (mwi : zF) (mon : zF) (mdi : zF) (mco : zF) (mgo : zF) (mbr : zF) (mca : zF) (wh : Int32) (mH : Nat) (hmP : mP ≤ 6) (hmQ : mQ ≤ 9) (hto2 : ∀ k, k < mQ → mno ((3 * k) + 1) = nI (mno ((3 * k) + 1)).toNatClampNeg ∧ (mno ((3 * k) + 1)).toNatClampNeg < 6) (hmH : mH ≤ 4) (hH : mno 27 = nI mH) (hhi : ∀ h, h < mH → mno (28 + (3 * h)) = nI (mno (28 + (3 * h))).toNatClampNeg ∧ (mno (28 + (3 * h))).toNatClampNeg < 6) : zD l yX7_mend wsX7_mend rm_X7_mend D (zT cI cC cJ) [.ref (m 31), .int wh] [modW cI m mle mpo mfa mrm mrw mP mQ mbk mkp msg mwm mrs msd mls mhd mtx mnu mrd mrl mpe mno mbo mim msi mwi mon mdi mco mgo mbr mca] (some (.int ((s_X7_mend mP mQ mwm msd mls mhd mpe mno mwi mon mdi mco mgo mbr mca wh mH).1))) [modW cI m mle mpo mfa mrm mrw mP mQ mbk mkp msg ((s_X7_mend mP mQ mwm msd mls mhd mpe mno mwi mon mdi mco mgo mbr mca wh mH).2.1) mrs msd ((s_X7_mend mP mQ mwm msd mls mhd mpe mno mwi mon mdi mco mgo mbr mca wh mH).2.2.1) ((s_X7_mend mP mQ mwm msd mls mhd mpe mno mwi mon mdi mco mgo mbr mca wh mH).2.2.2.1) mtx mnu mrd mrl mpe mno mbo mim msi ((s_X7_mend mP mQ mwm msd mls mhd mpe mno mwi mon mdi mco mgo mbr mca wh mH).2.2.2.2.1) ((s_X7_mend mP mQ mwm msd mls mhd mpe mno mwi mon mdi mco mgo mbr mca wh mH).2.2.2.2.2.1) ((s_X7_mend mP mQ mwm msd mls mhd mpe mno mwi mon mdi mco mgo mbr mca wh mH).2.2.2.2.2.2.1) ((s_X7_mend mP mQ mwm msd mls mhd mpe mno mwi mon mdi mco mgo mbr mca wh mH).2.2.2.2.2.2.2.1) ((s_X7_mend mP mQ mwm msd mls mhd mpe mno mwi mon mdi mco mgo mbr mca wh mH).2.2.2.2.2.2.2.2.1) ((s_X7_mend mP mQ mwm msd mls mhd mpe mno mwi mon mdi mco mgo mbr mca wh mH).2.2.2.2.2.2.2.2.2.1) ((s_X7_mend mP mQ mwm msd mls mhd mpe mno mwi mon mdi mco mgo mbr mca wh mH).2.2.2.2.2.2.2.2.2.2)] := by
  refine zD_int (cc := cX7_mend) (maxL := 6) (ty := .int) (lv := [(0, .ref (m 31)), (1, .int wh)]) (by decide +kernel) rfl (Nat.le_of_ble_eq_true rfl) rfl (fun Z O hret => ?_)
  refine zr_iload_n (pc2 := 1) O dX7_mend_0 rfl 1 rfl rfl ?_
  refine zr_iconst (v := (nI 0)) (pc2 := 2) O dX7_mend_1 (by decide +kernel) rfl ?_
  refine zr_iconst (v := (nI 1)) (pc2 := 3) O dX7_mend_2 (by decide +kernel) rfl ?_
  refine zr_callS (As := [.int wh, .int (nI 0), .int (nI 1)]) (rest := []) (ws2 := [modW cI m mle mpo mfa mrm mrw mP mQ mbk mkp msg mwm mrs msd mls mhd mtx mnu mrd mrl mpe mno mbo mim msi mwi mon mdi mco mgo mbr mca]) (pc2 := 6) O (c_X7_in l D cI cC cJ wh (nI 0) (nI 1)) sC_X7_mend_76 rfl rfl dX7_mend_3 [] rfl rfl rfl rfl (Nat.le_of_ble_eq_true rfl) rfl ?_
  show Z _ _ _ [.int (zb (s_X7_in wh (nI 0) (nI 1)))]
  refine zb_if_ne (tgt := 11) (pc2 := 9) O dX7_mend_6 (by decide) rfl (fun c6 => ?_) (fun c6 => ?_)
  · refine zr_bipush (v := (-4)) (pc2 := 13) O dX7_mend_11 (by decide +kernel) rfl ?_
    refine zr_istore_n (lv2 := [(2, .int (-4)), (0, .ref (m 31)), (1, .int wh)]) (pc2 := 14) O dX7_mend_13 rfl (by decide) rfl rfl ?_
    refine zr_bipush (v := (-4)) (pc2 := 16) O dX7_mend_14 (by decide +kernel) rfl ?_
    refine zr_istore_n (lv2 := [(3, .int (-4)), (2, .int (-4)), (0, .ref (m 31)), (1, .int wh)]) (pc2 := 17) O dX7_mend_16 rfl (by decide) rfl rfl ?_
    refine zr_iconst (v := (nI 0)) (pc2 := 18) O dX7_mend_17 (by decide +kernel) rfl ?_
    refine zr_istore (lv2 := [(4, .int (nI 0)), (3, .int (-4)), (2, .int (-4)), (0, .ref (m 31)), (1, .int wh)]) (pc2 := 20) O dX7_mend_18 (by decide) rfl rfl ?_
    have lp20 : ∀ (n9 : Nat) (k : Nat) (be : Int32) (mo : Int32) (mwm9 : Nat) (mls9 : Int32) (mhd9 : Int32) (mwi9 : zF) (mon9 : zF) (mdi9 : zF) (mco9 : zF) (mgo9 : zF) (mbr9 : zF) (mca9 : zF), k + n9 = mQ → f_X7_mend_20 mP mQ msd mpe mno mH mQ 0 (-4) (-4) mwm mls mhd mwi mon mdi mco mgo mbr mca = f_X7_mend_20 mP mQ msd mpe mno mH n9 k be mo mwm9 mls9 mhd9 mwi9 mon9 mdi9 mco9 mgo9 mbr9 mca9 → Z [modW cI m mle mpo mfa mrm mrw mP mQ mbk mkp msg mwm9 mrs msd mls9 mhd9 mtx mnu mrd mrl mpe mno mbo mim msi mwi9 mon9 mdi9 mco9 mgo9 mbr9 mca9] [(4, .int (nI k)), (3, .int mo), (2, .int be), (0, .ref (m 31)), (1, .int wh)] 20 [] := by
      intro n9
      induction n9 with
      | zero =>
        intro k be mo mwm9 mls9 mhd9 mwi9 mon9 mdi9 mco9 mgo9 mbr9 mca9 hM20 hF20
        have hI20 : mQ = k := by omega
        subst hI20
        obtain ⟨v26, hv26⟩ : ∃ z9, z9 = f_X7_mend_20 mP mQ msd mpe mno mH mQ 0 (-4) (-4) mwm mls mhd mwi mon mdi mco mgo mbr mca := ⟨_, rfl⟩
        rw [← hv26] at hF20
        have e9 : v26.1 = be := congrArg (fun z => z.1) hF20
        subst e9
        have e9 : v26.2.1 = mo := congrArg (fun z => z.2.1) hF20
        subst e9
        have e9 : v26.2.2.1 = mwm9 := congrArg (fun z => z.2.2.1) hF20
        subst e9
        have e9 : v26.2.2.2.1 = mls9 := congrArg (fun z => z.2.2.2.1) hF20
        subst e9
        have e9 : v26.2.2.2.2.1 = mhd9 := congrArg (fun z => z.2.2.2.2.1) hF20
        subst e9
        have e9 : v26.2.2.2.2.2.1 = mwi9 := congrArg (fun z => z.2.2.2.2.2.1) hF20
        subst e9
        have e9 : v26.2.2.2.2.2.2.1 = mon9 := congrArg (fun z => z.2.2.2.2.2.2.1) hF20
        subst e9
        have e9 : v26.2.2.2.2.2.2.2.1 = mdi9 := congrArg (fun z => z.2.2.2.2.2.2.2.1) hF20
        subst e9
        have e9 : v26.2.2.2.2.2.2.2.2.1 = mco9 := congrArg (fun z => z.2.2.2.2.2.2.2.2.1) hF20
        subst e9
        have e9 : v26.2.2.2.2.2.2.2.2.2.1 = mgo9 := congrArg (fun z => z.2.2.2.2.2.2.2.2.2.1) hF20
        subst e9
        have e9 : v26.2.2.2.2.2.2.2.2.2.2.1 = mbr9 := congrArg (fun z => z.2.2.2.2.2.2.2.2.2.2.1) hF20
        subst e9
        have e9 : v26.2.2.2.2.2.2.2.2.2.2.2 = mca9 := congrArg (fun z => z.2.2.2.2.2.2.2.2.2.2.2) hF20
        subst e9
        refine zr_iload (pc2 := 22) O dX7_mend_20 0 rfl rfl ?_
        refine zr_aload_n (pc2 := 23) O dX7_mend_22 rfl 3 rfl rfl ?_
        refine zr_getf (v := .int (nI mQ)) (pc2 := 26) O sF_X7_mend_29 0 0 rfl rfl rfl dX7_mend_23 rfl ?_
        refine zn_icmp_ge (tgt := 78) (pc2 := 29) O dX7_mend_26 (by decide) rfl (by omega) (by omega) (fun c26 => ?_) (fun c26 => ?_)
        · refine zr_iload_n (pc2 := 79) O dX7_mend_78 rfl 4 rfl rfl ?_
          refine zr_if_ne (tgt := 86) (pc2 := 82) O dX7_mend_79 (by decide) rfl (fun c79 => ?_) (fun c79 => ?_)
          · refine zr_iload_n (pc2 := 87) O dX7_mend_86 rfl 1 rfl rfl ?_
            have hE : s_X7_mend mP mQ mwm msd mls mhd mpe mno mwi mon mdi mco mgo mbr mca wh mH = (v26.2.1, v26.2.2.1, v26.2.2.2.1, v26.2.2.2.2.1, v26.2.2.2.2.2.1, v26.2.2.2.2.2.2.1, v26.2.2.2.2.2.2.2.1, v26.2.2.2.2.2.2.2.2.1, v26.2.2.2.2.2.2.2.2.2.1, v26.2.2.2.2.2.2.2.2.2.2.1, v26.2.2.2.2.2.2.2.2.2.2.2) := by subst hv26; exact ((zif_t c6).trans (if_neg c79))
            exact hret _ _ _ _ dX7_mend_87 rfl (by rw [hE]) (by rw [hE])
          · refine zr_iload_n (pc2 := 83) O dX7_mend_82 rfl 2 rfl rfl ?_
            refine zr_goto (tgt := 87) O dX7_mend_83 (by decide) ?_
            have hE : s_X7_mend mP mQ mwm msd mls mhd mpe mno mwi mon mdi mco mgo mbr mca wh mH = (v26.1, v26.2.2.1, v26.2.2.2.1, v26.2.2.2.2.1, v26.2.2.2.2.2.1, v26.2.2.2.2.2.2.1, v26.2.2.2.2.2.2.2.1, v26.2.2.2.2.2.2.2.2.1, v26.2.2.2.2.2.2.2.2.2.1, v26.2.2.2.2.2.2.2.2.2.2.1, v26.2.2.2.2.2.2.2.2.2.2.2) := by subst hv26; exact ((zif_t c6).trans (if_pos c79))
            exact hret _ _ _ _ dX7_mend_87 rfl (by rw [hE]) (by rw [hE])
        · exact absurd c26 (by omega)
      | succ n9 ih20 =>
        intro k be mo mwm9 mls9 mhd9 mwi9 mon9 mdi9 mco9 mgo9 mbr9 mca9 hM20 hF20
        refine zr_iload (pc2 := 22) O dX7_mend_20 0 rfl rfl ?_
        refine zr_aload_n (pc2 := 23) O dX7_mend_22 rfl 3 rfl rfl ?_
        refine zr_getf (v := .int (nI mQ)) (pc2 := 26) O sF_X7_mend_29 0 0 rfl rfl rfl dX7_mend_23 rfl ?_
        refine zn_icmp_ge (tgt := 78) (pc2 := 29) O dX7_mend_26 (by decide) rfl (by omega) (by omega) (fun c26 => ?_) (fun c26 => ?_)
        · exact absurd c26 (by omega)
        · refine zr_aload_n (pc2 := 30) O dX7_mend_29 rfl 3 rfl rfl ?_
          refine zr_iconst (v := (-1)) (pc2 := 31) O dX7_mend_30 (by decide +kernel) rfl ?_
          refine zr_iload (pc2 := 33) O dX7_mend_31 0 rfl rfl ?_
          obtain ⟨u33, hu33⟩ : ∃ z9, z9 = s_X7_prepareBut mP mQ msd mpe mno mwi9 mon9 (-1) (nI k) := ⟨_, rfl⟩
          refine zr_callV (As := [.int (-1), .int (nI k)]) (rest := []) (ws2 := [modW cI m mle mpo mfa mrm mrw mP mQ mbk mkp msg u33.1 mrs msd u33.2.1 mhd9 mtx mnu mrd mrl mpe mno mbo mim msi u33.2.2.1 u33.2.2.2 mdi9 mco9 mgo9 mbr9 mca9]) (pc2 := 36) (ci := 7) (g0 := 0) (q0 := 0) (v := none) (W := [modW cI m mle mpo mfa mrm mrw mP mQ mbk mkp msg mwm9 mrs msd mls9 mhd9 mtx mnu mrd mrl mpe mno mbo mim msi mwi9 mon9 mdi9 mco9 mgo9 mbr9 mca9]) (W2 := [modW cI m mle mpo mfa mrm mrw mP mQ mbk mkp msg u33.1 mrs msd u33.2.1 mhd9 mtx mnu mrd mrl mpe mno mbo mim msi u33.2.2.1 u33.2.2.2 mdi9 mco9 mgo9 mbr9 mca9]) O (by rw [hu33]; exact (c_X7_prepareBut l D cI cC cJ m mle mpo mfa mrm mrw mP mQ mbk mkp msg mwm9 mrs msd mls9 mhd9 mtx mnu mrd mrl mpe mno mbo mim msi mwi9 mon9 mdi9 mco9 mgo9 mbr9 mca9 (-1) (nI k) (by first | assumption | omega) (by first | assumption | omega))) sC_X7_mend_186 rfl rfl rfl rfl rfl dX7_mend_33 [0] rfl rfl rfl rfl (Nat.le_of_ble_eq_true rfl) rfl ?_
          show Z _ _ _ []
          refine zr_aload_n (pc2 := 37) O dX7_mend_36 rfl 3 rfl rfl ?_
          obtain ⟨u37, hu37⟩ : ∃ z9, z9 = s_X7_run mP u33.1 u33.2.1 mno u33.2.2.1 u33.2.2.2 mdi9 mco9 mgo9 mbr9 mca9 mH := ⟨_, rfl⟩
          refine zr_callV (As := []) (rest := []) (ws2 := [modW cI m mle mpo mfa mrm mrw mP mQ mbk mkp msg u33.1 mrs msd u33.2.1 u37.1 mtx mnu mrd mrl mpe mno mbo mim msi u33.2.2.1 u33.2.2.2 u37.2.1 u37.2.2.1 u37.2.2.2.1 u37.2.2.2.2.1 u37.2.2.2.2.2]) (pc2 := 40) (ci := 7) (g0 := 0) (q0 := 0) (v := none) (W := [modW cI m mle mpo mfa mrm mrw mP mQ mbk mkp msg u33.1 mrs msd u33.2.1 mhd9 mtx mnu mrd mrl mpe mno mbo mim msi u33.2.2.1 u33.2.2.2 mdi9 mco9 mgo9 mbr9 mca9]) (W2 := [modW cI m mle mpo mfa mrm mrw mP mQ mbk mkp msg u33.1 mrs msd u33.2.1 u37.1 mtx mnu mrd mrl mpe mno mbo mim msi u33.2.2.1 u33.2.2.2 u37.2.1 u37.2.2.1 u37.2.2.2.1 u37.2.2.2.2.1 u37.2.2.2.2.2]) O (by rw [hu37]; exact (c_X7_run l D cI cC cJ m mle mpo mfa mrm mrw mP mQ mbk mkp msg u33.1 mrs msd u33.2.1 mhd9 mtx mnu mrd mrl mpe mno mbo mim msi u33.2.2.1 u33.2.2.2 mdi9 mco9 mgo9 mbr9 mca9 mH hmP (by subst hu33; have h9 := but_le mP mQ msd mpe mno mwi9 mon9 (-1) (nI k); omega) (by subst hu33; exact but_to mP mQ msd mpe mno mwi9 mon9 (-1) (nI k) hto2) hmH hH hhi)) sC_X7_mend_180 rfl rfl rfl rfl rfl dX7_mend_37 [0] rfl rfl rfl rfl (Nat.le_of_ble_eq_true rfl) rfl ?_
          show Z _ _ _ []
          refine zr_aload_n (pc2 := 41) O dX7_mend_40 rfl 3 rfl rfl ?_
          refine zr_callV (As := []) (rest := []) (ws2 := [modW cI m mle mpo mfa mrm mrw mP mQ mbk mkp msg u33.1 mrs msd u33.2.1 u37.1 mtx mnu mrd mrl mpe mno mbo mim msi u33.2.2.1 u33.2.2.2 u37.2.1 u37.2.2.1 u37.2.2.2.1 u37.2.2.2.2.1 u37.2.2.2.2.2]) (pc2 := 44) (ci := 7) (g0 := 0) (q0 := 0) O (c_X7_hadMany l D cI cC cJ m mle mpo mfa mrm mrw mP mQ mbk mkp msg u33.1 mrs msd u33.2.1 u37.1 mtx mnu mrd mrl mpe mno mbo mim msi u33.2.2.1 u33.2.2.2 u37.2.1 u37.2.2.1 u37.2.2.2.1 u37.2.2.2.2.1 u37.2.2.2.2.2 (by first | assumption | omega)) sC_X7_mend_192 rfl rfl rfl rfl rfl dX7_mend_41 [0] rfl rfl rfl rfl (Nat.le_of_ble_eq_true rfl) rfl ?_
          show Z _ _ _ [.int (s_X7_hadMany mP u37.1)]
          refine zr_istore (lv2 := [(5, .int (s_X7_hadMany mP u37.1)), (4, .int (nI k)), (3, .int mo), (2, .int be), (0, .ref (m 31)), (1, .int wh)]) (pc2 := 46) O dX7_mend_44 (by decide) rfl rfl ?_
          refine zr_iload (pc2 := 48) O dX7_mend_46 0 rfl rfl ?_
          refine zr_iload_n (pc2 := 49) O dX7_mend_48 rfl 2 rfl rfl ?_
          refine zr_icmp_le (tgt := 57) (pc2 := 52) O dX7_mend_49 (by decide) rfl (fun c49 => ?_) (fun c49 => ?_)
          · refine zr_iload_n (pc2 := 58) O dX7_mend_57 rfl 3 rfl rfl ?_
            refine zr_istore_n (lv2 := [(2, .int be), (5, .int (s_X7_hadMany mP u37.1)), (4, .int (nI k)), (3, .int mo), (0, .ref (m 31)), (1, .int wh)]) (pc2 := 59) O dX7_mend_58 rfl (by decide) rfl rfl ?_
            refine zr_iload (pc2 := 61) O dX7_mend_59 1 rfl rfl ?_
            refine zr_iload_n (pc2 := 62) O dX7_mend_61 rfl 3 rfl rfl ?_
            refine zr_icmp_le (tgt := 70) (pc2 := 65) O dX7_mend_62 (by decide) rfl (fun c62 => ?_) (fun c62 => ?_)
            · refine zr_iload_n (pc2 := 71) O dX7_mend_70 rfl 3 rfl rfl ?_
              refine zr_istore_n (lv2 := [(3, .int mo), (2, .int be), (5, .int (s_X7_hadMany mP u37.1)), (4, .int (nI k)), (0, .ref (m 31)), (1, .int wh)]) (pc2 := 72) O dX7_mend_71 rfl (by decide) rfl rfl ?_
              refine zr_iinc (v := (nI (k + 1))) (lv2 := [(4, .int (nI (k + 1))), (3, .int mo), (2, .int be), (5, .int (s_X7_hadMany mP u37.1)), (0, .ref (m 31)), (1, .int wh)]) (pc2 := 75) O dX7_mend_72 3 rfl (zm_ofInt1 k) (by decide) rfl rfl ?_
              refine zr_goto (tgt := 20) O dX7_mend_75 (by decide) ?_
              refine zr_sub (lv2 := [(4, .int (nI (k + 1))), (3, .int mo), (2, .int be), (0, .ref (m 31)), (1, .int wh)]) O [0, 1, 2, 4, 5] rfl ?_
              have hE : f_X7_mend_20 mP mQ msd mpe mno mH (n9 + 1) k be mo mwm9 mls9 mhd9 mwi9 mon9 mdi9 mco9 mgo9 mbr9 mca9 = f_X7_mend_20 mP mQ msd mpe mno mH n9 (k + 1) be mo u33.1 u33.2.1 u37.1 u33.2.2.1 u33.2.2.2 u37.2.1 u37.2.2.1 u37.2.2.2.1 u37.2.2.2.2.1 u37.2.2.2.2.2 := by subst hu37; subst hu33; exact ((if_pos c49).trans (if_pos c62))
              exact ih20 (k + 1) be mo u33.1 u33.2.1 u37.1 u33.2.2.1 u33.2.2.2 u37.2.1 u37.2.2.1 u37.2.2.2.1 u37.2.2.2.2.1 u37.2.2.2.2.2 (by omega) (hF20.trans hE)
            · refine zr_iload (pc2 := 67) O dX7_mend_65 1 rfl rfl ?_
              refine zr_goto (tgt := 71) O dX7_mend_67 (by decide) ?_
              refine zr_istore_n (lv2 := [(3, .int (s_X7_hadMany mP u37.1)), (2, .int be), (5, .int (s_X7_hadMany mP u37.1)), (4, .int (nI k)), (0, .ref (m 31)), (1, .int wh)]) (pc2 := 72) O dX7_mend_71 rfl (by decide) rfl rfl ?_
              refine zr_iinc (v := (nI (k + 1))) (lv2 := [(4, .int (nI (k + 1))), (3, .int (s_X7_hadMany mP u37.1)), (2, .int be), (5, .int (s_X7_hadMany mP u37.1)), (0, .ref (m 31)), (1, .int wh)]) (pc2 := 75) O dX7_mend_72 3 rfl (zm_ofInt1 k) (by decide) rfl rfl ?_
              refine zr_goto (tgt := 20) O dX7_mend_75 (by decide) ?_
              refine zr_sub (lv2 := [(4, .int (nI (k + 1))), (3, .int (s_X7_hadMany mP u37.1)), (2, .int be), (0, .ref (m 31)), (1, .int wh)]) O [0, 1, 2, 4, 5] rfl ?_
              have hE : f_X7_mend_20 mP mQ msd mpe mno mH (n9 + 1) k be mo mwm9 mls9 mhd9 mwi9 mon9 mdi9 mco9 mgo9 mbr9 mca9 = f_X7_mend_20 mP mQ msd mpe mno mH n9 (k + 1) be (s_X7_hadMany mP u37.1) u33.1 u33.2.1 u37.1 u33.2.2.1 u33.2.2.2 u37.2.1 u37.2.2.1 u37.2.2.2.1 u37.2.2.2.2.1 u37.2.2.2.2.2 := by subst hu37; subst hu33; exact ((if_pos c49).trans (if_neg c62))
              exact ih20 (k + 1) be (s_X7_hadMany mP u37.1) u33.1 u33.2.1 u37.1 u33.2.2.1 u33.2.2.2 u37.2.1 u37.2.2.1 u37.2.2.2.1 u37.2.2.2.2.1 u37.2.2.2.2.2 (by omega) (hF20.trans hE)
          · refine zr_iload (pc2 := 54) O dX7_mend_52 1 rfl rfl ?_
            refine zr_goto (tgt := 58) O dX7_mend_54 (by decide) ?_
            refine zr_istore_n (lv2 := [(2, .int (nI k)), (5, .int (s_X7_hadMany mP u37.1)), (4, .int (nI k)), (3, .int mo), (0, .ref (m 31)), (1, .int wh)]) (pc2 := 59) O dX7_mend_58 rfl (by decide) rfl rfl ?_
            refine zr_iload (pc2 := 61) O dX7_mend_59 1 rfl rfl ?_
            refine zr_iload_n (pc2 := 62) O dX7_mend_61 rfl 3 rfl rfl ?_
            refine zr_icmp_le (tgt := 70) (pc2 := 65) O dX7_mend_62 (by decide) rfl (fun c62 => ?_) (fun c62 => ?_)
            · refine zr_iload_n (pc2 := 71) O dX7_mend_70 rfl 3 rfl rfl ?_
              refine zr_istore_n (lv2 := [(3, .int mo), (2, .int (nI k)), (5, .int (s_X7_hadMany mP u37.1)), (4, .int (nI k)), (0, .ref (m 31)), (1, .int wh)]) (pc2 := 72) O dX7_mend_71 rfl (by decide) rfl rfl ?_
              refine zr_iinc (v := (nI (k + 1))) (lv2 := [(4, .int (nI (k + 1))), (3, .int mo), (2, .int (nI k)), (5, .int (s_X7_hadMany mP u37.1)), (0, .ref (m 31)), (1, .int wh)]) (pc2 := 75) O dX7_mend_72 3 rfl (zm_ofInt1 k) (by decide) rfl rfl ?_
              refine zr_goto (tgt := 20) O dX7_mend_75 (by decide) ?_
              refine zr_sub (lv2 := [(4, .int (nI (k + 1))), (3, .int mo), (2, .int (nI k)), (0, .ref (m 31)), (1, .int wh)]) O [0, 1, 2, 4, 5] rfl ?_
              have hE : f_X7_mend_20 mP mQ msd mpe mno mH (n9 + 1) k be mo mwm9 mls9 mhd9 mwi9 mon9 mdi9 mco9 mgo9 mbr9 mca9 = f_X7_mend_20 mP mQ msd mpe mno mH n9 (k + 1) (nI k) mo u33.1 u33.2.1 u37.1 u33.2.2.1 u33.2.2.2 u37.2.1 u37.2.2.1 u37.2.2.2.1 u37.2.2.2.2.1 u37.2.2.2.2.2 := by subst hu37; subst hu33; exact ((if_neg c49).trans (if_pos c62))
              exact ih20 (k + 1) (nI k) mo u33.1 u33.2.1 u37.1 u33.2.2.1 u33.2.2.2 u37.2.1 u37.2.2.1 u37.2.2.2.1 u37.2.2.2.2.1 u37.2.2.2.2.2 (by omega) (hF20.trans hE)
            · refine zr_iload (pc2 := 67) O dX7_mend_65 1 rfl rfl ?_
              refine zr_goto (tgt := 71) O dX7_mend_67 (by decide) ?_
              refine zr_istore_n (lv2 := [(3, .int (s_X7_hadMany mP u37.1)), (2, .int (nI k)), (5, .int (s_X7_hadMany mP u37.1)), (4, .int (nI k)), (0, .ref (m 31)), (1, .int wh)]) (pc2 := 72) O dX7_mend_71 rfl (by decide) rfl rfl ?_
              refine zr_iinc (v := (nI (k + 1))) (lv2 := [(4, .int (nI (k + 1))), (3, .int (s_X7_hadMany mP u37.1)), (2, .int (nI k)), (5, .int (s_X7_hadMany mP u37.1)), (0, .ref (m 31)), (1, .int wh)]) (pc2 := 75) O dX7_mend_72 3 rfl (zm_ofInt1 k) (by decide) rfl rfl ?_
              refine zr_goto (tgt := 20) O dX7_mend_75 (by decide) ?_
              refine zr_sub (lv2 := [(4, .int (nI (k + 1))), (3, .int (s_X7_hadMany mP u37.1)), (2, .int (nI k)), (0, .ref (m 31)), (1, .int wh)]) O [0, 1, 2, 4, 5] rfl ?_
              have hE : f_X7_mend_20 mP mQ msd mpe mno mH (n9 + 1) k be mo mwm9 mls9 mhd9 mwi9 mon9 mdi9 mco9 mgo9 mbr9 mca9 = f_X7_mend_20 mP mQ msd mpe mno mH n9 (k + 1) (nI k) (s_X7_hadMany mP u37.1) u33.1 u33.2.1 u37.1 u33.2.2.1 u33.2.2.2 u37.2.1 u37.2.2.1 u37.2.2.2.1 u37.2.2.2.2.1 u37.2.2.2.2.2 := by subst hu37; subst hu33; exact ((if_neg c49).trans (if_neg c62))
              exact ih20 (k + 1) (nI k) (s_X7_hadMany mP u37.1) u33.1 u33.2.1 u37.1 u33.2.2.1 u33.2.2.2 u37.2.1 u37.2.2.1 u37.2.2.2.1 u37.2.2.2.2.1 u37.2.2.2.2.2 (by omega) (hF20.trans hE)
    exact lp20 mQ 0 (-4) (-4) mwm mls mhd mwi mon mdi mco mgo mbr mca (by omega) rfl
  · refine zr_iconst (v := (-1)) (pc2 := 10) O dX7_mend_9 (by decide +kernel) rfl ?_
    have hE : s_X7_mend mP mQ mwm msd mls mhd mpe mno mwi mon mdi mco mgo mbr mca wh mH = ((-1), mwm, mls, mhd, mwi, mon, mdi, mco, mgo, mbr, mca) := by exact (zif_f c6)
    exact hret _ _ _ _ dX7_mend_10 rfl (by rw [hE]) (by rw [hE])
/-! X7_limits -/
def f_X7_limits_19 (x : Int32) : Nat → Nat → zF → zF
  | 0, _, mon9 => mon9
  | n9 + 1, i, mon9 => f_X7_limits_19 x n9 (i + 1) (upd mon9 ((5 * i) + 2) x)
def s_X7_limits (mP : Nat) (mQ : Nat) (mwm : Nat) (msd : Int32) (mls : Int32) (mhd : Int32) (mpe : zF) (mno : zF) (mwi : zF) (mon : zF) (mdi : zF) (mco : zF) (mgo : zF) (mbr : zF) (mca : zF) (x : Int32) (mH : Nat) : Int32 × Nat × Int32 × Int32 × zF × zF × zF × zF × zF × zF × zF := if (s_X7_in x (nI 20) (nI 99)) = true then let u14 := s_X7_prepare mP mQ msd mpe mno mwi mon; let u45 := s_X7_run mP u14.1 u14.2.1 mno u14.2.2.1 (f_X7_limits_19 x mP 0 u14.2.2.2) mdi mco mgo mbr mca mH; ((s_X7_hadMany mP u45.1), u14.1, u14.2.1, u45.1, u14.2.2.1, (f_X7_limits_19 x mP 0 u14.2.2.2), u45.2.1, u45.2.2.1, u45.2.2.2.1, u45.2.2.2.2.1, u45.2.2.2.2.2) else ((-1), mwm, mls, mhd, mwi, mon, mdi, mco, mgo, mbr, mca)
set_option maxHeartbeats 4000000 in
set_option maxRecDepth 100000 in
theorem c_X7_limits (l : Launch) (D : va_G) (cI cC cJ : ClassId) (m : Nat → Nat) (mle : Nat) (mpo : Nat) (mfa : Nat) (mrm : Nat) (mrw : Nat) (mP : Nat) (mQ : Nat) (mbk : Nat) (mkp : Nat) (msg : Nat) (mwm : Nat) (mrs : Int32) (msd : Int32) (mls : Int32) (mhd : Int32) (mtx : zF) (mnu : zF) (mrd : zF) (mrl : zF) (mpe : zF) (mno : zF) (mbo : zF) (mim : zF) (msi : zF) (mwi : zF) (mon : zF) (mdi : zF) (mco : zF) (mgo : zF) (mbr : zF) (mca : zF) (x : Int32) (mH : Nat) (hmP : mP ≤ 6) (hmQ : mQ ≤ 9) (hto2 : ∀ k, k < mQ → mno ((3 * k) + 1) = nI (mno ((3 * k) + 1)).toNatClampNeg ∧ (mno ((3 * k) + 1)).toNatClampNeg < 6) (hmH : mH ≤ 4) (hH : mno 27 = nI mH) (hhi : ∀ h, h < mH → mno (28 + (3 * h)) = nI (mno (28 + (3 * h))).toNatClampNeg ∧ (mno (28 + (3 * h))).toNatClampNeg < 6) : zD l yX7_limits wsX7_limits rm_X7_limits D (zT cI cC cJ) [.ref (m 31), .int x] [modW cI m mle mpo mfa mrm mrw mP mQ mbk mkp msg mwm mrs msd mls mhd mtx mnu mrd mrl mpe mno mbo mim msi mwi mon mdi mco mgo mbr mca] (some (.int ((s_X7_limits mP mQ mwm msd mls mhd mpe mno mwi mon mdi mco mgo mbr mca x mH).1))) [modW cI m mle mpo mfa mrm mrw mP mQ mbk mkp msg ((s_X7_limits mP mQ mwm msd mls mhd mpe mno mwi mon mdi mco mgo mbr mca x mH).2.1) mrs msd ((s_X7_limits mP mQ mwm msd mls mhd mpe mno mwi mon mdi mco mgo mbr mca x mH).2.2.1) ((s_X7_limits mP mQ mwm msd mls mhd mpe mno mwi mon mdi mco mgo mbr mca x mH).2.2.2.1) mtx mnu mrd mrl mpe mno mbo mim msi ((s_X7_limits mP mQ mwm msd mls mhd mpe mno mwi mon mdi mco mgo mbr mca x mH).2.2.2.2.1) ((s_X7_limits mP mQ mwm msd mls mhd mpe mno mwi mon mdi mco mgo mbr mca x mH).2.2.2.2.2.1) ((s_X7_limits mP mQ mwm msd mls mhd mpe mno mwi mon mdi mco mgo mbr mca x mH).2.2.2.2.2.2.1) ((s_X7_limits mP mQ mwm msd mls mhd mpe mno mwi mon mdi mco mgo mbr mca x mH).2.2.2.2.2.2.2.1) ((s_X7_limits mP mQ mwm msd mls mhd mpe mno mwi mon mdi mco mgo mbr mca x mH).2.2.2.2.2.2.2.2.1) ((s_X7_limits mP mQ mwm msd mls mhd mpe mno mwi mon mdi mco mgo mbr mca x mH).2.2.2.2.2.2.2.2.2.1) ((s_X7_limits mP mQ mwm msd mls mhd mpe mno mwi mon mdi mco mgo mbr mca x mH).2.2.2.2.2.2.2.2.2.2)] := by
  refine zD_int (cc := cX7_limits) (maxL := 3) (ty := .int) (lv := [(0, .ref (m 31)), (1, .int x)]) (by decide +kernel) rfl (Nat.le_of_ble_eq_true rfl) rfl (fun Z O hret => ?_)
  refine zr_iload_n (pc2 := 1) O dX7_limits_0 rfl 1 rfl rfl ?_
  refine zr_bipush (v := (nI 20)) (pc2 := 3) O dX7_limits_1 (by decide +kernel) rfl ?_
  refine zr_bipush (v := (nI 99)) (pc2 := 5) O dX7_limits_3 (by decide +kernel) rfl ?_
  refine zr_callS (As := [.int x, .int (nI 20), .int (nI 99)]) (rest := []) (ws2 := [modW cI m mle mpo mfa mrm mrw mP mQ mbk mkp msg mwm mrs msd mls mhd mtx mnu mrd mrl mpe mno mbo mim msi mwi mon mdi mco mgo mbr mca]) (pc2 := 8) O (c_X7_in l D cI cC cJ x (nI 20) (nI 99)) sC_X7_limits_76 rfl rfl dX7_limits_5 [] rfl rfl rfl rfl (Nat.le_of_ble_eq_true rfl) rfl ?_
  show Z _ _ _ [.int (zb (s_X7_in x (nI 20) (nI 99)))]
  refine zb_if_ne (tgt := 13) (pc2 := 11) O dX7_limits_8 (by decide) rfl (fun c8 => ?_) (fun c8 => ?_)
  · refine zr_aload_n (pc2 := 14) O dX7_limits_13 rfl 0 rfl rfl ?_
    obtain ⟨u14, hu14⟩ : ∃ z9, z9 = s_X7_prepare mP mQ msd mpe mno mwi mon := ⟨_, rfl⟩
    refine zr_callV (As := []) (rest := []) (ws2 := [modW cI m mle mpo mfa mrm mrw mP mQ mbk mkp msg u14.1 mrs msd u14.2.1 mhd mtx mnu mrd mrl mpe mno mbo mim msi u14.2.2.1 u14.2.2.2 mdi mco mgo mbr mca]) (pc2 := 17) (ci := 7) (g0 := 0) (q0 := 0) (v := none) (W := [modW cI m mle mpo mfa mrm mrw mP mQ mbk mkp msg mwm mrs msd mls mhd mtx mnu mrd mrl mpe mno mbo mim msi mwi mon mdi mco mgo mbr mca]) (W2 := [modW cI m mle mpo mfa mrm mrw mP mQ mbk mkp msg u14.1 mrs msd u14.2.1 mhd mtx mnu mrd mrl mpe mno mbo mim msi u14.2.2.1 u14.2.2.2 mdi mco mgo mbr mca]) O (by rw [hu14]; exact (c_X7_prepare l D cI cC cJ m mle mpo mfa mrm mrw mP mQ mbk mkp msg mwm mrs msd mls mhd mtx mnu mrd mrl mpe mno mbo mim msi mwi mon mdi mco mgo mbr mca (by first | assumption | omega) (by first | assumption | omega))) sC_X7_limits_177 rfl rfl rfl rfl rfl dX7_limits_14 [0] rfl rfl rfl rfl (Nat.le_of_ble_eq_true rfl) rfl ?_
    show Z _ _ _ []
    refine zr_iconst (v := (nI 0)) (pc2 := 18) O dX7_limits_17 (by decide +kernel) rfl ?_
    refine zr_istore_n (lv2 := [(2, .int (nI 0)), (0, .ref (m 31)), (1, .int x)]) (pc2 := 19) O dX7_limits_18 rfl (by decide) rfl rfl ?_
    have lp19 : ∀ (n9 : Nat) (i : Nat) (mon9 : zF), i + n9 = mP → f_X7_limits_19 x mP 0 u14.2.2.2 = f_X7_limits_19 x n9 i mon9 → Z [modW cI m mle mpo mfa mrm mrw mP mQ mbk mkp msg u14.1 mrs msd u14.2.1 mhd mtx mnu mrd mrl mpe mno mbo mim msi u14.2.2.1 mon9 mdi mco mgo mbr mca] [(2, .int (nI i)), (0, .ref (m 31)), (1, .int x)] 19 [] := by
      intro n9
      induction n9 with
      | zero =>
        intro i mon9 hM19 hF19
        have hI19 : mP = i := by omega
        subst hI19
        have e9 : (f_X7_limits_19 x mP 0 u14.2.2.2) = mon9 := hF19
        subst e9
        refine zr_iload_n (pc2 := 20) O dX7_limits_19 rfl 0 rfl rfl ?_
        refine zr_aload_n (pc2 := 21) O dX7_limits_20 rfl 1 rfl rfl ?_
        refine zr_getf (v := .int (nI mP)) (pc2 := 24) O sF_X7_limits_22 0 0 rfl rfl rfl dX7_limits_21 rfl ?_
        refine zn_icmp_ge (tgt := 44) (pc2 := 27) O dX7_limits_24 (by decide) rfl (by omega) (by omega) (fun c24 => ?_) (fun c24 => ?_)
        · refine zr_aload_n (pc2 := 45) O dX7_limits_44 rfl 1 rfl rfl ?_
          obtain ⟨u45, hu45⟩ : ∃ z9, z9 = s_X7_run mP u14.1 u14.2.1 mno u14.2.2.1 (f_X7_limits_19 x mP 0 u14.2.2.2) mdi mco mgo mbr mca mH := ⟨_, rfl⟩
          refine zr_callV (As := []) (rest := []) (ws2 := [modW cI m mle mpo mfa mrm mrw mP mQ mbk mkp msg u14.1 mrs msd u14.2.1 u45.1 mtx mnu mrd mrl mpe mno mbo mim msi u14.2.2.1 (f_X7_limits_19 x mP 0 u14.2.2.2) u45.2.1 u45.2.2.1 u45.2.2.2.1 u45.2.2.2.2.1 u45.2.2.2.2.2]) (pc2 := 48) (ci := 7) (g0 := 0) (q0 := 0) (v := none) (W := [modW cI m mle mpo mfa mrm mrw mP mQ mbk mkp msg u14.1 mrs msd u14.2.1 mhd mtx mnu mrd mrl mpe mno mbo mim msi u14.2.2.1 (f_X7_limits_19 x mP 0 u14.2.2.2) mdi mco mgo mbr mca]) (W2 := [modW cI m mle mpo mfa mrm mrw mP mQ mbk mkp msg u14.1 mrs msd u14.2.1 u45.1 mtx mnu mrd mrl mpe mno mbo mim msi u14.2.2.1 (f_X7_limits_19 x mP 0 u14.2.2.2) u45.2.1 u45.2.2.1 u45.2.2.2.1 u45.2.2.2.2.1 u45.2.2.2.2.2]) O (by rw [hu45]; exact (c_X7_run l D cI cC cJ m mle mpo mfa mrm mrw mP mQ mbk mkp msg u14.1 mrs msd u14.2.1 mhd mtx mnu mrd mrl mpe mno mbo mim msi u14.2.2.1 (f_X7_limits_19 x mP 0 u14.2.2.2) mdi mco mgo mbr mca mH hmP (by subst hu14; show mQ ≤ 10; omega) (by subst hu14; exact prep_to rfl hto2) hmH hH hhi)) sC_X7_limits_180 rfl rfl rfl rfl rfl dX7_limits_45 [0] rfl rfl rfl rfl (Nat.le_of_ble_eq_true rfl) rfl ?_
          show Z _ _ _ []
          refine zr_aload_n (pc2 := 49) O dX7_limits_48 rfl 1 rfl rfl ?_
          refine zr_callV (As := []) (rest := []) (ws2 := [modW cI m mle mpo mfa mrm mrw mP mQ mbk mkp msg u14.1 mrs msd u14.2.1 u45.1 mtx mnu mrd mrl mpe mno mbo mim msi u14.2.2.1 (f_X7_limits_19 x mP 0 u14.2.2.2) u45.2.1 u45.2.2.1 u45.2.2.2.1 u45.2.2.2.2.1 u45.2.2.2.2.2]) (pc2 := 52) (ci := 7) (g0 := 0) (q0 := 0) O (c_X7_hadMany l D cI cC cJ m mle mpo mfa mrm mrw mP mQ mbk mkp msg u14.1 mrs msd u14.2.1 u45.1 mtx mnu mrd mrl mpe mno mbo mim msi u14.2.2.1 (f_X7_limits_19 x mP 0 u14.2.2.2) u45.2.1 u45.2.2.1 u45.2.2.2.1 u45.2.2.2.2.1 u45.2.2.2.2.2 (by first | assumption | omega)) sC_X7_limits_192 rfl rfl rfl rfl rfl dX7_limits_49 [0] rfl rfl rfl rfl (Nat.le_of_ble_eq_true rfl) rfl ?_
          show Z _ _ _ [.int (s_X7_hadMany mP u45.1)]
          have hE : s_X7_limits mP mQ mwm msd mls mhd mpe mno mwi mon mdi mco mgo mbr mca x mH = ((s_X7_hadMany mP u45.1), u14.1, u14.2.1, u45.1, u14.2.2.1, (f_X7_limits_19 x mP 0 u14.2.2.2), u45.2.1, u45.2.2.1, u45.2.2.2.1, u45.2.2.2.2.1, u45.2.2.2.2.2) := by subst hu45; subst hu14; exact (zif_t c8)
          exact hret _ _ _ _ dX7_limits_52 rfl (by rw [hE]) (by rw [hE])
        · exact absurd c24 (by omega)
      | succ n9 ih19 =>
        intro i mon9 hM19 hF19
        refine zr_iload_n (pc2 := 20) O dX7_limits_19 rfl 0 rfl rfl ?_
        refine zr_aload_n (pc2 := 21) O dX7_limits_20 rfl 1 rfl rfl ?_
        refine zr_getf (v := .int (nI mP)) (pc2 := 24) O sF_X7_limits_22 0 0 rfl rfl rfl dX7_limits_21 rfl ?_
        refine zn_icmp_ge (tgt := 44) (pc2 := 27) O dX7_limits_24 (by decide) rfl (by omega) (by omega) (fun c24 => ?_) (fun c24 => ?_)
        · exact absurd c24 (by omega)
        · refine zr_aload_n (pc2 := 28) O dX7_limits_27 rfl 1 rfl rfl ?_
          refine zr_getf (v := .ref (m 23)) (pc2 := 31) O sF_X7_limits_50 0 0 rfl rfl rfl dX7_limits_28 rfl ?_
          refine zr_iconst (v := (nI 5)) (pc2 := 32) O dX7_limits_31 (by decide +kernel) rfl ?_
          refine zr_iload_n (pc2 := 33) O dX7_limits_32 rfl 0 rfl rfl ?_
          refine zr_imul (v := (nI (5 * i))) (pc2 := 34) O dX7_limits_33 (pk_mul 5 i) rfl ?_
          refine zr_iconst (v := (nI 2)) (pc2 := 35) O dX7_limits_34 (by decide +kernel) rfl ?_
          refine zr_iadd (v := (nI ((5 * i) + 2))) (pc2 := 36) O dX7_limits_35 (nI_add (5 * i) 2) rfl ?_
          refine zr_iload_n (pc2 := 37) O dX7_limits_36 rfl 2 rfl rfl ?_
          refine zn_iast (j := ((5 * i) + 2)) (G2 := modW cI m mle mpo mfa mrm mrw mP mQ mbk mkp msg u14.1 mrs msd u14.2.1 mhd mtx mnu mrd mrl mpe mno mbo mim msi u14.2.2.1 (upd mon9 ((5 * i) + 2) x) mdi mco mgo mbr mca) (ws2 := [modW cI m mle mpo mfa mrm mrw mP mQ mbk mkp msg u14.1 mrs msd u14.2.1 mhd mtx mnu mrd mrl mpe mno mbo mim msi u14.2.2.1 (upd mon9 ((5 * i) + 2) x) mdi mco mgo mbr mca]) (pc2 := 38) O 0 11 0 rfl rfl rfl rfl (by omega) (by decide) dX7_limits_37 rfl rfl rfl ?_
          refine zr_iinc (v := (nI (i + 1))) (lv2 := [(2, .int (nI (i + 1))), (0, .ref (m 31)), (1, .int x)]) (pc2 := 41) O dX7_limits_38 0 rfl (zm_ofInt1 i) (by decide) rfl rfl ?_
          refine zr_goto (tgt := 19) O dX7_limits_41 (by decide) ?_
          have hE : f_X7_limits_19 x (n9 + 1) i mon9 = f_X7_limits_19 x n9 (i + 1) (upd mon9 ((5 * i) + 2) x) := by exact rfl
          exact ih19 (i + 1) (upd mon9 ((5 * i) + 2) x) (by omega) (hF19.trans hE)
    exact lp19 mP 0 u14.2.2.2 (by omega) rfl
  · refine zr_iconst (v := (-1)) (pc2 := 12) O dX7_limits_11 (by decide +kernel) rfl ?_
    have hE : s_X7_limits mP mQ mwm msd mls mhd mpe mno mwi mon mdi mco mgo mbr mca x mH = ((-1), mwm, mls, mhd, mwi, mon, mdi, mco, mgo, mbr, mca) := by exact (zif_f c8)
    exact hret _ _ _ _ dX7_limits_12 rfl (by rw [hE]) (by rw [hE])
/-! X7_kinds -/
def f_X7_kinds_44 (msi : zF) (i : Int32) (u35 : Int32 × zF × zF × zF × zF × zF) : Nat → Nat → Bool → Bool
  | 0, _, is => is
  | n9 + 1, k, is => if is = true then if (msi (3 * k)) = (nI i.toNatClampNeg) then if (u35.2.2.2.2.2 ((6 * ((msi ((3 * k) + 1)).toNatClampNeg)) + i.toNatClampNeg)) = (msi ((3 * k) + 2)) then f_X7_kinds_44 msi i u35 n9 (k + 1) true else f_X7_kinds_44 msi i u35 n9 (k + 1) false else f_X7_kinds_44 msi i u35 n9 (k + 1) true else f_X7_kinds_44 msi i u35 n9 (k + 1) false
def f_X7_kinds_14 (mP : Nat) (mQ : Nat) (msg : Nat) (msd : Int32) (mpe : zF) (mno : zF) (msi : zF) (i : Int32) (mH : Nat) : Nat → Nat → Int32 → Nat → Int32 → Int32 → zF → zF → zF → zF → zF → zF → zF → Int32 × Nat × Int32 × Int32 × zF × zF × zF × zF × zF × zF × zF
  | 0, _, bits, mwm9, mls9, mhd9, mwi9, mon9, mdi9, mco9, mgo9, mbr9, mca9 => (bits, mwm9, mls9, mhd9, mwi9, mon9, mdi9, mco9, mgo9, mbr9, mca9)
  | n9 + 1, kd, bits, mwm9, mls9, mhd9, mwi9, mon9, mdi9, mco9, mgo9, mbr9, mca9 => let u20 := s_X7_prepare mP mQ msd mpe mno mwi9 mon9; let u35 := s_X7_run mP u20.1 u20.2.1 mno u20.2.2.1 (upd u20.2.2.2 ((5 * i.toNatClampNeg) + 3) (nI kd)) mdi9 mco9 mgo9 mbr9 mca9 mH; if (f_X7_kinds_44 msi i u35 msg 0 true) = true then f_X7_kinds_14 mP mQ msg msd mpe mno msi i mH n9 (kd + 1) (bits ||| ((nI 1) <<< ((nI kd) &&& 31))) u20.1 u20.2.1 u35.1 u20.2.2.1 (upd u20.2.2.2 ((5 * i.toNatClampNeg) + 3) (nI kd)) u35.2.1 u35.2.2.1 u35.2.2.2.1 u35.2.2.2.2.1 u35.2.2.2.2.2 else f_X7_kinds_14 mP mQ msg msd mpe mno msi i mH n9 (kd + 1) (bits ||| (nI 0)) u20.1 u20.2.1 u35.1 u20.2.2.1 (upd u20.2.2.2 ((5 * i.toNatClampNeg) + 3) (nI kd)) u35.2.1 u35.2.2.1 u35.2.2.2.1 u35.2.2.2.2.1 u35.2.2.2.2.2
def s_X7_kinds (mP : Nat) (mQ : Nat) (msg : Nat) (mwm : Nat) (msd : Int32) (mls : Int32) (mhd : Int32) (mpe : zF) (mno : zF) (msi : zF) (mwi : zF) (mon : zF) (mdi : zF) (mco : zF) (mgo : zF) (mbr : zF) (mca : zF) (i : Int32) (mH : Nat) : Int32 × Nat × Int32 × Int32 × zF × zF × zF × zF × zF × zF × zF := if (s_X7_in i (nI 0) ((nI mP) - (nI 1))) = true then let v16 := f_X7_kinds_14 mP mQ msg msd mpe mno msi i mH 4 0 (nI 0) mwm mls mhd mwi mon mdi mco mgo mbr mca; (v16.1, v16.2.1, v16.2.2.1, v16.2.2.2.1, v16.2.2.2.2.1, v16.2.2.2.2.2.1, v16.2.2.2.2.2.2.1, v16.2.2.2.2.2.2.2.1, v16.2.2.2.2.2.2.2.2.1, v16.2.2.2.2.2.2.2.2.2.1, v16.2.2.2.2.2.2.2.2.2.2) else ((-1), mwm, mls, mhd, mwi, mon, mdi, mco, mgo, mbr, mca)
set_option maxHeartbeats 4000000 in
set_option maxRecDepth 100000 in
theorem c_X7_kinds (l : Launch) (D : va_G) (cI cC cJ : ClassId) (m : Nat → Nat) (mle : Nat) (mpo : Nat) (mfa : Nat) (mrm : Nat) (mrw : Nat) (mP : Nat) (mQ : Nat) (mbk : Nat) (mkp : Nat) (msg : Nat) (mwm : Nat) (mrs : Int32) (msd : Int32) (mls : Int32) (mhd : Int32) (mtx : zF) (mnu : zF) (mrd : zF) (mrl : zF) (mpe : zF) (mno : zF) (mbo : zF) (mim : zF) (msi : zF) (mwi : zF) (mon : zF) (mdi : zF) (mco : zF) (mgo : zF) (mbr : zF) (mca : zF) (i : Int32) (mH : Nat) (hmP : mP ≤ 6) (hmQ : mQ ≤ 9) (hto2 : ∀ k, k < mQ → mno ((3 * k) + 1) = nI (mno ((3 * k) + 1)).toNatClampNeg ∧ (mno ((3 * k) + 1)).toNatClampNeg < 6) (hmH : mH ≤ 4) (hH : mno 27 = nI mH) (hhi : ∀ h, h < mH → mno (28 + (3 * h)) = nI (mno (28 + (3 * h))).toNatClampNeg ∧ (mno (28 + (3 * h))).toNatClampNeg < 6) (hmsg : msg ≤ 8) (hsi : ∀ k, k < msg → msi ((3 * k) + 1) = nI (msi ((3 * k) + 1)).toNatClampNeg ∧ (msi ((3 * k) + 1)).toNatClampNeg < 151) : zD l yX7_kinds wsX7_kinds rm_X7_kinds D (zT cI cC cJ) [.ref (m 31), .int i] [modW cI m mle mpo mfa mrm mrw mP mQ mbk mkp msg mwm mrs msd mls mhd mtx mnu mrd mrl mpe mno mbo mim msi mwi mon mdi mco mgo mbr mca] (some (.int ((s_X7_kinds mP mQ msg mwm msd mls mhd mpe mno msi mwi mon mdi mco mgo mbr mca i mH).1))) [modW cI m mle mpo mfa mrm mrw mP mQ mbk mkp msg ((s_X7_kinds mP mQ msg mwm msd mls mhd mpe mno msi mwi mon mdi mco mgo mbr mca i mH).2.1) mrs msd ((s_X7_kinds mP mQ msg mwm msd mls mhd mpe mno msi mwi mon mdi mco mgo mbr mca i mH).2.2.1) ((s_X7_kinds mP mQ msg mwm msd mls mhd mpe mno msi mwi mon mdi mco mgo mbr mca i mH).2.2.2.1) mtx mnu mrd mrl mpe mno mbo mim msi ((s_X7_kinds mP mQ msg mwm msd mls mhd mpe mno msi mwi mon mdi mco mgo mbr mca i mH).2.2.2.2.1) ((s_X7_kinds mP mQ msg mwm msd mls mhd mpe mno msi mwi mon mdi mco mgo mbr mca i mH).2.2.2.2.2.1) ((s_X7_kinds mP mQ msg mwm msd mls mhd mpe mno msi mwi mon mdi mco mgo mbr mca i mH).2.2.2.2.2.2.1) ((s_X7_kinds mP mQ msg mwm msd mls mhd mpe mno msi mwi mon mdi mco mgo mbr mca i mH).2.2.2.2.2.2.2.1) ((s_X7_kinds mP mQ msg mwm msd mls mhd mpe mno msi mwi mon mdi mco mgo mbr mca i mH).2.2.2.2.2.2.2.2.1) ((s_X7_kinds mP mQ msg mwm msd mls mhd mpe mno msi mwi mon mdi mco mgo mbr mca i mH).2.2.2.2.2.2.2.2.2.1) ((s_X7_kinds mP mQ msg mwm msd mls mhd mpe mno msi mwi mon mdi mco mgo mbr mca i mH).2.2.2.2.2.2.2.2.2.2)] := by
  refine zD_int (cc := cX7_kinds) (maxL := 6) (ty := .int) (lv := [(0, .ref (m 31)), (1, .int i)]) (by decide +kernel) rfl (Nat.le_of_ble_eq_true rfl) rfl (fun Z O hret => ?_)
  refine zr_aload_n (pc2 := 1) O dX7_kinds_0 rfl 0 rfl rfl ?_
  refine zr_iload_n (pc2 := 2) O dX7_kinds_1 rfl 1 rfl rfl ?_
  refine zr_callV (As := [.int i]) (rest := []) (ws2 := [modW cI m mle mpo mfa mrm mrw mP mQ mbk mkp msg mwm mrs msd mls mhd mtx mnu mrd mrl mpe mno mbo mim msi mwi mon mdi mco mgo mbr mca]) (pc2 := 5) (ci := 7) (g0 := 0) (q0 := 0) O (c_X7_isOne l D cI cC cJ m mle mpo mfa mrm mrw mP mQ mbk mkp msg mwm mrs msd mls mhd mtx mnu mrd mrl mpe mno mbo mim msi mwi mon mdi mco mgo mbr mca i) sC_X7_kinds_122 rfl rfl rfl rfl rfl dX7_kinds_2 [0] rfl rfl rfl rfl (Nat.le_of_ble_eq_true rfl) rfl ?_
  show Z _ _ _ [.int (zb (s_X7_in i (nI 0) ((nI mP) - (nI 1))))]
  refine zb_if_ne (tgt := 10) (pc2 := 8) O dX7_kinds_5 (by decide) rfl (fun c5 => ?_) (fun c5 => ?_)
  · have hc1 := (one_in c5 hmP)
    rw [hc1.1]
    refine zr_iconst (v := (nI 0)) (pc2 := 11) O dX7_kinds_10 (by decide +kernel) rfl ?_
    refine zr_istore_n (lv2 := [(2, .int (nI 0)), (0, .ref (m 31)), (1, .int (nI i.toNatClampNeg))]) (pc2 := 12) O dX7_kinds_11 rfl (by decide) rfl rfl ?_
    refine zr_iconst (v := (nI 0)) (pc2 := 13) O dX7_kinds_12 (by decide +kernel) rfl ?_
    refine zr_istore_n (lv2 := [(3, .int (nI 0)), (2, .int (nI 0)), (0, .ref (m 31)), (1, .int (nI i.toNatClampNeg))]) (pc2 := 14) O dX7_kinds_13 rfl (by decide) rfl rfl ?_
    have lp14 : ∀ (n9 : Nat) (kd : Nat) (bits : Int32) (mwm9 : Nat) (mls9 : Int32) (mhd9 : Int32) (mwi9 : zF) (mon9 : zF) (mdi9 : zF) (mco9 : zF) (mgo9 : zF) (mbr9 : zF) (mca9 : zF), kd + n9 = 4 → f_X7_kinds_14 mP mQ msg msd mpe mno msi i mH 4 0 (nI 0) mwm mls mhd mwi mon mdi mco mgo mbr mca = f_X7_kinds_14 mP mQ msg msd mpe mno msi i mH n9 kd bits mwm9 mls9 mhd9 mwi9 mon9 mdi9 mco9 mgo9 mbr9 mca9 → Z [modW cI m mle mpo mfa mrm mrw mP mQ mbk mkp msg mwm9 mrs msd mls9 mhd9 mtx mnu mrd mrl mpe mno mbo mim msi mwi9 mon9 mdi9 mco9 mgo9 mbr9 mca9] [(3, .int (nI kd)), (2, .int bits), (0, .ref (m 31)), (1, .int (nI i.toNatClampNeg))] 14 [] := by
      intro n9
      induction n9 with
      | zero =>
        intro kd bits mwm9 mls9 mhd9 mwi9 mon9 mdi9 mco9 mgo9 mbr9 mca9 hM14 hF14
        have hI14 : 4 = kd := by omega
        subst hI14
        obtain ⟨v16, hv16⟩ : ∃ z9, z9 = f_X7_kinds_14 mP mQ msg msd mpe mno msi i mH 4 0 (nI 0) mwm mls mhd mwi mon mdi mco mgo mbr mca := ⟨_, rfl⟩
        rw [← hv16] at hF14
        have e9 : v16.1 = bits := congrArg (fun z => z.1) hF14
        subst e9
        have e9 : v16.2.1 = mwm9 := congrArg (fun z => z.2.1) hF14
        subst e9
        have e9 : v16.2.2.1 = mls9 := congrArg (fun z => z.2.2.1) hF14
        subst e9
        have e9 : v16.2.2.2.1 = mhd9 := congrArg (fun z => z.2.2.2.1) hF14
        subst e9
        have e9 : v16.2.2.2.2.1 = mwi9 := congrArg (fun z => z.2.2.2.2.1) hF14
        subst e9
        have e9 : v16.2.2.2.2.2.1 = mon9 := congrArg (fun z => z.2.2.2.2.2.1) hF14
        subst e9
        have e9 : v16.2.2.2.2.2.2.1 = mdi9 := congrArg (fun z => z.2.2.2.2.2.2.1) hF14
        subst e9
        have e9 : v16.2.2.2.2.2.2.2.1 = mco9 := congrArg (fun z => z.2.2.2.2.2.2.2.1) hF14
        subst e9
        have e9 : v16.2.2.2.2.2.2.2.2.1 = mgo9 := congrArg (fun z => z.2.2.2.2.2.2.2.2.1) hF14
        subst e9
        have e9 : v16.2.2.2.2.2.2.2.2.2.1 = mbr9 := congrArg (fun z => z.2.2.2.2.2.2.2.2.2.1) hF14
        subst e9
        have e9 : v16.2.2.2.2.2.2.2.2.2.2 = mca9 := congrArg (fun z => z.2.2.2.2.2.2.2.2.2.2) hF14
        subst e9
        refine zr_iload_n (pc2 := 15) O dX7_kinds_14 rfl 0 rfl rfl ?_
        refine zr_iconst (v := (nI 4)) (pc2 := 16) O dX7_kinds_15 (by decide +kernel) rfl ?_
        refine zn_icmp_ge (tgt := 140) (pc2 := 19) O dX7_kinds_16 (by decide) rfl (by omega) (by omega) (fun c16 => ?_) (fun c16 => ?_)
        · refine zr_iload_n (pc2 := 141) O dX7_kinds_140 rfl 1 rfl rfl ?_
          have hE : s_X7_kinds mP mQ msg mwm msd mls mhd mpe mno msi mwi mon mdi mco mgo mbr mca i mH = (v16.1, v16.2.1, v16.2.2.1, v16.2.2.2.1, v16.2.2.2.2.1, v16.2.2.2.2.2.1, v16.2.2.2.2.2.2.1, v16.2.2.2.2.2.2.2.1, v16.2.2.2.2.2.2.2.2.1, v16.2.2.2.2.2.2.2.2.2.1, v16.2.2.2.2.2.2.2.2.2.2) := by subst hv16; exact (zif_t c5)
          exact hret _ _ _ _ dX7_kinds_141 rfl (by rw [hE]) (by rw [hE])
        · exact absurd c16 (by decide)
      | succ n9 ih14 =>
        intro kd bits mwm9 mls9 mhd9 mwi9 mon9 mdi9 mco9 mgo9 mbr9 mca9 hM14 hF14
        refine zr_iload_n (pc2 := 15) O dX7_kinds_14 rfl 0 rfl rfl ?_
        refine zr_iconst (v := (nI 4)) (pc2 := 16) O dX7_kinds_15 (by decide +kernel) rfl ?_
        refine zn_icmp_ge (tgt := 140) (pc2 := 19) O dX7_kinds_16 (by decide) rfl (by omega) (by omega) (fun c16 => ?_) (fun c16 => ?_)
        · exact absurd c16 (by omega)
        · refine zr_aload_n (pc2 := 20) O dX7_kinds_19 rfl 2 rfl rfl ?_
          obtain ⟨u20, hu20⟩ : ∃ z9, z9 = s_X7_prepare mP mQ msd mpe mno mwi9 mon9 := ⟨_, rfl⟩
          refine zr_callV (As := []) (rest := []) (ws2 := [modW cI m mle mpo mfa mrm mrw mP mQ mbk mkp msg u20.1 mrs msd u20.2.1 mhd9 mtx mnu mrd mrl mpe mno mbo mim msi u20.2.2.1 u20.2.2.2 mdi9 mco9 mgo9 mbr9 mca9]) (pc2 := 23) (ci := 7) (g0 := 0) (q0 := 0) (v := none) (W := [modW cI m mle mpo mfa mrm mrw mP mQ mbk mkp msg mwm9 mrs msd mls9 mhd9 mtx mnu mrd mrl mpe mno mbo mim msi mwi9 mon9 mdi9 mco9 mgo9 mbr9 mca9]) (W2 := [modW cI m mle mpo mfa mrm mrw mP mQ mbk mkp msg u20.1 mrs msd u20.2.1 mhd9 mtx mnu mrd mrl mpe mno mbo mim msi u20.2.2.1 u20.2.2.2 mdi9 mco9 mgo9 mbr9 mca9]) O (by rw [hu20]; exact (c_X7_prepare l D cI cC cJ m mle mpo mfa mrm mrw mP mQ mbk mkp msg mwm9 mrs msd mls9 mhd9 mtx mnu mrd mrl mpe mno mbo mim msi mwi9 mon9 mdi9 mco9 mgo9 mbr9 mca9 (by first | assumption | omega) (by first | assumption | omega))) sC_X7_kinds_177 rfl rfl rfl rfl rfl dX7_kinds_20 [0] rfl rfl rfl rfl (Nat.le_of_ble_eq_true rfl) rfl ?_
          show Z _ _ _ []
          refine zr_aload_n (pc2 := 24) O dX7_kinds_23 rfl 2 rfl rfl ?_
          refine zr_getf (v := .ref (m 23)) (pc2 := 27) O sF_X7_kinds_50 0 0 rfl rfl rfl dX7_kinds_24 rfl ?_
          refine zr_iconst (v := (nI 5)) (pc2 := 28) O dX7_kinds_27 (by decide +kernel) rfl ?_
          refine zr_iload_n (pc2 := 29) O dX7_kinds_28 rfl 3 rfl rfl ?_
          refine zr_imul (v := (nI (5 * i.toNatClampNeg))) (pc2 := 30) O dX7_kinds_29 (pk_mul 5 i.toNatClampNeg) rfl ?_
          refine zr_iconst (v := (nI 3)) (pc2 := 31) O dX7_kinds_30 (by decide +kernel) rfl ?_
          refine zr_iadd (v := (nI ((5 * i.toNatClampNeg) + 3))) (pc2 := 32) O dX7_kinds_31 (nI_add (5 * i.toNatClampNeg) 3) rfl ?_
          refine zr_iload_n (pc2 := 33) O dX7_kinds_32 rfl 0 rfl rfl ?_
          refine zn_iast (j := ((5 * i.toNatClampNeg) + 3)) (G2 := modW cI m mle mpo mfa mrm mrw mP mQ mbk mkp msg u20.1 mrs msd u20.2.1 mhd9 mtx mnu mrd mrl mpe mno mbo mim msi u20.2.2.1 (upd u20.2.2.2 ((5 * i.toNatClampNeg) + 3) (nI kd)) mdi9 mco9 mgo9 mbr9 mca9) (ws2 := [modW cI m mle mpo mfa mrm mrw mP mQ mbk mkp msg u20.1 mrs msd u20.2.1 mhd9 mtx mnu mrd mrl mpe mno mbo mim msi u20.2.2.1 (upd u20.2.2.2 ((5 * i.toNatClampNeg) + 3) (nI kd)) mdi9 mco9 mgo9 mbr9 mca9]) (pc2 := 34) O 0 11 0 rfl rfl rfl rfl (by omega) (by decide) dX7_kinds_33 rfl rfl rfl ?_
          refine zr_aload_n (pc2 := 35) O dX7_kinds_34 rfl 2 rfl rfl ?_
          obtain ⟨u35, hu35⟩ : ∃ z9, z9 = s_X7_run mP u20.1 u20.2.1 mno u20.2.2.1 (upd u20.2.2.2 ((5 * i.toNatClampNeg) + 3) (nI kd)) mdi9 mco9 mgo9 mbr9 mca9 mH := ⟨_, rfl⟩
          refine zr_callV (As := []) (rest := []) (ws2 := [modW cI m mle mpo mfa mrm mrw mP mQ mbk mkp msg u20.1 mrs msd u20.2.1 u35.1 mtx mnu mrd mrl mpe mno mbo mim msi u20.2.2.1 (upd u20.2.2.2 ((5 * i.toNatClampNeg) + 3) (nI kd)) u35.2.1 u35.2.2.1 u35.2.2.2.1 u35.2.2.2.2.1 u35.2.2.2.2.2]) (pc2 := 38) (ci := 7) (g0 := 0) (q0 := 0) (v := none) (W := [modW cI m mle mpo mfa mrm mrw mP mQ mbk mkp msg u20.1 mrs msd u20.2.1 mhd9 mtx mnu mrd mrl mpe mno mbo mim msi u20.2.2.1 (upd u20.2.2.2 ((5 * i.toNatClampNeg) + 3) (nI kd)) mdi9 mco9 mgo9 mbr9 mca9]) (W2 := [modW cI m mle mpo mfa mrm mrw mP mQ mbk mkp msg u20.1 mrs msd u20.2.1 u35.1 mtx mnu mrd mrl mpe mno mbo mim msi u20.2.2.1 (upd u20.2.2.2 ((5 * i.toNatClampNeg) + 3) (nI kd)) u35.2.1 u35.2.2.1 u35.2.2.2.1 u35.2.2.2.2.1 u35.2.2.2.2.2]) O (by rw [hu35]; exact (c_X7_run l D cI cC cJ m mle mpo mfa mrm mrw mP mQ mbk mkp msg u20.1 mrs msd u20.2.1 mhd9 mtx mnu mrd mrl mpe mno mbo mim msi u20.2.2.1 (upd u20.2.2.2 ((5 * i.toNatClampNeg) + 3) (nI kd)) mdi9 mco9 mgo9 mbr9 mca9 mH hmP (by subst hu20; show mQ ≤ 10; omega) (by subst hu20; exact prep_to rfl hto2) hmH hH hhi)) sC_X7_kinds_180 rfl rfl rfl rfl rfl dX7_kinds_35 [0] rfl rfl rfl rfl (Nat.le_of_ble_eq_true rfl) rfl ?_
          show Z _ _ _ []
          refine zr_iconst (v := (nI 1)) (pc2 := 39) O dX7_kinds_38 (by decide +kernel) rfl ?_
          refine zr_istore (lv2 := [(4, .int (nI 1)), (3, .int (nI kd)), (2, .int bits), (0, .ref (m 31)), (1, .int (nI i.toNatClampNeg))]) (pc2 := 41) O dX7_kinds_39 (by decide) rfl rfl ?_
          refine zr_iconst (v := (nI 0)) (pc2 := 42) O dX7_kinds_41 (by decide +kernel) rfl ?_
          refine zr_istore (lv2 := [(5, .int (nI 0)), (4, .int (nI 1)), (3, .int (nI kd)), (2, .int bits), (0, .ref (m 31)), (1, .int (nI i.toNatClampNeg))]) (pc2 := 44) O dX7_kinds_42 (by decide) rfl rfl ?_
          have lp44 : ∀ (n9 : Nat) (k : Nat) (is : Bool), k + n9 = msg → f_X7_kinds_44 msi i u35 msg 0 true = f_X7_kinds_44 msi i u35 n9 k is → Z [modW cI m mle mpo mfa mrm mrw mP mQ mbk mkp msg u20.1 mrs msd u20.2.1 u35.1 mtx mnu mrd mrl mpe mno mbo mim msi u20.2.2.1 (upd u20.2.2.2 ((5 * i.toNatClampNeg) + 3) (nI kd)) u35.2.1 u35.2.2.1 u35.2.2.2.1 u35.2.2.2.2.1 u35.2.2.2.2.2] [(5, .int (nI k)), (4, .int (zb is)), (3, .int (nI kd)), (2, .int bits), (0, .ref (m 31)), (1, .int (nI i.toNatClampNeg))] 44 [] := by
            intro n9
            induction n9 with
            | zero =>
              intro k is hM44 hF44
              have hI44 : msg = k := by omega
              subst hI44
              have e9 : (f_X7_kinds_44 msi i u35 msg 0 true) = is := hF44
              subst e9
              refine zr_iload (pc2 := 46) O dX7_kinds_44 0 rfl rfl ?_
              refine zr_aload_n (pc2 := 47) O dX7_kinds_46 rfl 4 rfl rfl ?_
              refine zr_getf (v := .int (nI msg)) (pc2 := 50) O sF_X7_kinds_113 0 0 rfl rfl rfl dX7_kinds_47 rfl ?_
              refine zn_icmp_ge (tgt := 119) (pc2 := 53) O dX7_kinds_50 (by decide) rfl (by omega) (by omega) (fun c50 => ?_) (fun c50 => ?_)
              · refine zr_iload_n (pc2 := 120) O dX7_kinds_119 rfl 3 rfl rfl ?_
                refine zr_iload (pc2 := 122) O dX7_kinds_120 1 rfl rfl ?_
                refine zb_if_eq (tgt := 131) (pc2 := 125) O dX7_kinds_122 (by decide) rfl (fun c122 => ?_) (fun c122 => ?_)
                · refine zr_iconst (v := (nI 0)) (pc2 := 132) O dX7_kinds_131 (by decide +kernel) rfl ?_
                  refine zr_ior (v := (bits ||| (nI 0))) (pc2 := 133) O dX7_kinds_132 rfl rfl ?_
                  refine zr_istore_n (lv2 := [(2, .int (bits ||| (nI 0))), (5, .int (nI msg)), (4, .int (zb (f_X7_kinds_44 msi i u35 msg 0 true))), (3, .int (nI kd)), (0, .ref (m 31)), (1, .int (nI i.toNatClampNeg))]) (pc2 := 134) O dX7_kinds_133 rfl (by decide) rfl rfl ?_
                  refine zr_iinc (v := (nI (kd + 1))) (lv2 := [(3, .int (nI (kd + 1))), (2, .int (bits ||| (nI 0))), (5, .int (nI msg)), (4, .int (zb (f_X7_kinds_44 msi i u35 msg 0 true))), (0, .ref (m 31)), (1, .int (nI i.toNatClampNeg))]) (pc2 := 137) O dX7_kinds_134 3 rfl (zm_ofInt1 kd) (by decide) rfl rfl ?_
                  refine zr_goto (tgt := 14) O dX7_kinds_137 (by decide) ?_
                  refine zr_sub (lv2 := [(3, .int (nI (kd + 1))), (2, .int (bits ||| (nI 0))), (0, .ref (m 31)), (1, .int (nI i.toNatClampNeg))]) O [0, 1, 4, 5] rfl ?_
                  have hE : f_X7_kinds_14 mP mQ msg msd mpe mno msi i mH (n9 + 1) kd bits mwm9 mls9 mhd9 mwi9 mon9 mdi9 mco9 mgo9 mbr9 mca9 = f_X7_kinds_14 mP mQ msg msd mpe mno msi i mH n9 (kd + 1) (bits ||| (nI 0)) u20.1 u20.2.1 u35.1 u20.2.2.1 (upd u20.2.2.2 ((5 * i.toNatClampNeg) + 3) (nI kd)) u35.2.1 u35.2.2.1 u35.2.2.2.1 u35.2.2.2.2.1 u35.2.2.2.2.2 := by subst hu35; subst hu20; exact (zif_f c122)
                  exact ih14 (kd + 1) (bits ||| (nI 0)) u20.1 u20.2.1 u35.1 u20.2.2.1 (upd u20.2.2.2 ((5 * i.toNatClampNeg) + 3) (nI kd)) u35.2.1 u35.2.2.1 u35.2.2.2.1 u35.2.2.2.2.1 u35.2.2.2.2.2 (by omega) (hF14.trans hE)
                · refine zr_iconst (v := (nI 1)) (pc2 := 126) O dX7_kinds_125 (by decide +kernel) rfl ?_
                  refine zr_iload_n (pc2 := 127) O dX7_kinds_126 rfl 2 rfl rfl ?_
                  refine zr_ishl (v := ((nI 1) <<< ((nI kd) &&& 31))) (pc2 := 128) O dX7_kinds_127 rfl rfl ?_
                  refine zr_goto (tgt := 132) O dX7_kinds_128 (by decide) ?_
                  refine zr_ior (v := (bits ||| ((nI 1) <<< ((nI kd) &&& 31)))) (pc2 := 133) O dX7_kinds_132 rfl rfl ?_
                  refine zr_istore_n (lv2 := [(2, .int (bits ||| ((nI 1) <<< ((nI kd) &&& 31)))), (5, .int (nI msg)), (4, .int (zb (f_X7_kinds_44 msi i u35 msg 0 true))), (3, .int (nI kd)), (0, .ref (m 31)), (1, .int (nI i.toNatClampNeg))]) (pc2 := 134) O dX7_kinds_133 rfl (by decide) rfl rfl ?_
                  refine zr_iinc (v := (nI (kd + 1))) (lv2 := [(3, .int (nI (kd + 1))), (2, .int (bits ||| ((nI 1) <<< ((nI kd) &&& 31)))), (5, .int (nI msg)), (4, .int (zb (f_X7_kinds_44 msi i u35 msg 0 true))), (0, .ref (m 31)), (1, .int (nI i.toNatClampNeg))]) (pc2 := 137) O dX7_kinds_134 3 rfl (zm_ofInt1 kd) (by decide) rfl rfl ?_
                  refine zr_goto (tgt := 14) O dX7_kinds_137 (by decide) ?_
                  refine zr_sub (lv2 := [(3, .int (nI (kd + 1))), (2, .int (bits ||| ((nI 1) <<< ((nI kd) &&& 31)))), (0, .ref (m 31)), (1, .int (nI i.toNatClampNeg))]) O [0, 1, 4, 5] rfl ?_
                  have hE : f_X7_kinds_14 mP mQ msg msd mpe mno msi i mH (n9 + 1) kd bits mwm9 mls9 mhd9 mwi9 mon9 mdi9 mco9 mgo9 mbr9 mca9 = f_X7_kinds_14 mP mQ msg msd mpe mno msi i mH n9 (kd + 1) (bits ||| ((nI 1) <<< ((nI kd) &&& 31))) u20.1 u20.2.1 u35.1 u20.2.2.1 (upd u20.2.2.2 ((5 * i.toNatClampNeg) + 3) (nI kd)) u35.2.1 u35.2.2.1 u35.2.2.2.1 u35.2.2.2.2.1 u35.2.2.2.2.2 := by subst hu35; subst hu20; exact (zif_t c122)
                  exact ih14 (kd + 1) (bits ||| ((nI 1) <<< ((nI kd) &&& 31))) u20.1 u20.2.1 u35.1 u20.2.2.1 (upd u20.2.2.2 ((5 * i.toNatClampNeg) + 3) (nI kd)) u35.2.1 u35.2.2.1 u35.2.2.2.1 u35.2.2.2.2.1 u35.2.2.2.2.2 (by omega) (hF14.trans hE)
              · exact absurd c50 (by omega)
            | succ n9 ih44 =>
              intro k is hM44 hF44
              refine zr_iload (pc2 := 46) O dX7_kinds_44 0 rfl rfl ?_
              refine zr_aload_n (pc2 := 47) O dX7_kinds_46 rfl 4 rfl rfl ?_
              refine zr_getf (v := .int (nI msg)) (pc2 := 50) O sF_X7_kinds_113 0 0 rfl rfl rfl dX7_kinds_47 rfl ?_
              refine zn_icmp_ge (tgt := 119) (pc2 := 53) O dX7_kinds_50 (by decide) rfl (by omega) (by omega) (fun c50 => ?_) (fun c50 => ?_)
              · exact absurd c50 (by omega)
              · refine zr_iload (pc2 := 55) O dX7_kinds_53 1 rfl rfl ?_
                refine zb_if_eq (tgt := 110) (pc2 := 58) O dX7_kinds_55 (by decide) rfl (fun c55 => ?_) (fun c55 => ?_)
                · refine zr_iconst (v := (nI 0)) (pc2 := 111) O dX7_kinds_110 (by decide +kernel) rfl ?_
                  refine zr_istore (lv2 := [(4, .int (nI 0)), (5, .int (nI k)), (3, .int (nI kd)), (2, .int bits), (0, .ref (m 31)), (1, .int (nI i.toNatClampNeg))]) (pc2 := 113) O dX7_kinds_111 (by decide) rfl rfl ?_
                  refine zr_iinc (v := (nI (k + 1))) (lv2 := [(5, .int (nI (k + 1))), (4, .int (nI 0)), (3, .int (nI kd)), (2, .int bits), (0, .ref (m 31)), (1, .int (nI i.toNatClampNeg))]) (pc2 := 116) O dX7_kinds_113 1 rfl (zm_ofInt1 k) (by decide) rfl rfl ?_
                  refine zr_goto (tgt := 44) O dX7_kinds_116 (by decide) ?_
                  have hE : f_X7_kinds_44 msi i u35 (n9 + 1) k is = f_X7_kinds_44 msi i u35 n9 (k + 1) false := by exact (zif_f c55)
                  exact ih44 (k + 1) false (by omega) (hF44.trans hE)
                · refine zr_aload_n (pc2 := 59) O dX7_kinds_58 rfl 4 rfl rfl ?_
                  refine zr_getf (v := .ref (m 20)) (pc2 := 62) O sF_X7_kinds_44 0 0 rfl rfl rfl dX7_kinds_59 rfl ?_
                  refine zr_iconst (v := (nI 3)) (pc2 := 63) O dX7_kinds_62 (by decide +kernel) rfl ?_
                  refine zr_iload (pc2 := 65) O dX7_kinds_63 0 rfl rfl ?_
                  refine zr_imul (v := (nI (3 * k))) (pc2 := 66) O dX7_kinds_65 (pk_mul 3 k) rfl ?_
                  refine zn_iald (j := (3 * k)) (pc2 := 67) O 0 9 0 rfl rfl rfl rfl (by omega) (by decide) dX7_kinds_66 rfl ?_
                  refine zr_iload_n (pc2 := 68) O dX7_kinds_67 rfl 5 rfl rfl ?_
                  refine zr_icmp_ne (tgt := 106) (pc2 := 71) O dX7_kinds_68 (by decide) rfl (fun c68 => ?_) (fun c68 => ?_)
                  · refine zr_iconst (v := (nI 1)) (pc2 := 107) O dX7_kinds_106 (by decide +kernel) rfl ?_
                    refine zr_goto (tgt := 111) O dX7_kinds_107 (by decide) ?_
                    refine zr_istore (lv2 := [(4, .int (nI 1)), (5, .int (nI k)), (3, .int (nI kd)), (2, .int bits), (0, .ref (m 31)), (1, .int (nI i.toNatClampNeg))]) (pc2 := 113) O dX7_kinds_111 (by decide) rfl rfl ?_
                    refine zr_iinc (v := (nI (k + 1))) (lv2 := [(5, .int (nI (k + 1))), (4, .int (nI 1)), (3, .int (nI kd)), (2, .int bits), (0, .ref (m 31)), (1, .int (nI i.toNatClampNeg))]) (pc2 := 116) O dX7_kinds_113 1 rfl (zm_ofInt1 k) (by decide) rfl rfl ?_
                    refine zr_goto (tgt := 44) O dX7_kinds_116 (by decide) ?_
                    have hE : f_X7_kinds_44 msi i u35 (n9 + 1) k is = f_X7_kinds_44 msi i u35 n9 (k + 1) true := by exact ((zif_t c55).trans (if_neg c68))
                    exact ih44 (k + 1) true (by omega) (hF44.trans hE)
                  · refine zr_aload_n (pc2 := 72) O dX7_kinds_71 rfl 4 rfl rfl ?_
                    refine zr_getf (v := .ref (m 30)) (pc2 := 75) O sF_X7_kinds_65 0 0 rfl rfl rfl dX7_kinds_72 rfl ?_
                    refine zr_bipush (v := (nI 6)) (pc2 := 77) O dX7_kinds_75 (by decide +kernel) rfl ?_
                    refine zr_aload_n (pc2 := 78) O dX7_kinds_77 rfl 4 rfl rfl ?_
                    refine zr_getf (v := .ref (m 20)) (pc2 := 81) O sF_X7_kinds_44 0 0 rfl rfl rfl dX7_kinds_78 rfl ?_
                    refine zr_iconst (v := (nI 3)) (pc2 := 82) O dX7_kinds_81 (by decide +kernel) rfl ?_
                    refine zr_iload (pc2 := 84) O dX7_kinds_82 0 rfl rfl ?_
                    refine zr_imul (v := (nI (3 * k))) (pc2 := 85) O dX7_kinds_84 (pk_mul 3 k) rfl ?_
                    refine zr_iconst (v := (nI 1)) (pc2 := 86) O dX7_kinds_85 (by decide +kernel) rfl ?_
                    refine zr_iadd (v := (nI ((3 * k) + 1))) (pc2 := 87) O dX7_kinds_86 (nI_add (3 * k) 1) rfl ?_
                    refine zn_iald (j := ((3 * k) + 1)) (pc2 := 88) O 0 9 0 rfl rfl rfl rfl (by omega) (by decide) dX7_kinds_87 rfl ?_
                    have hc5 := (hsi k (by omega))
                    rw [hc5.1]
                    refine zr_imul (v := (nI (6 * ((msi ((3 * k) + 1)).toNatClampNeg)))) (pc2 := 89) O dX7_kinds_88 (pk_mul 6 ((msi ((3 * k) + 1)).toNatClampNeg)) rfl ?_
                    refine zr_iload_n (pc2 := 90) O dX7_kinds_89 rfl 5 rfl rfl ?_
                    refine zr_iadd (v := (nI ((6 * ((msi ((3 * k) + 1)).toNatClampNeg)) + i.toNatClampNeg))) (pc2 := 91) O dX7_kinds_90 (nI_add (6 * ((msi ((3 * k) + 1)).toNatClampNeg)) i.toNatClampNeg) rfl ?_
                    refine zn_iald (j := ((6 * ((msi ((3 * k) + 1)).toNatClampNeg)) + i.toNatClampNeg)) (pc2 := 92) O 0 16 0 rfl rfl rfl rfl (by omega) (by decide) dX7_kinds_91 rfl ?_
                    refine zr_aload_n (pc2 := 93) O dX7_kinds_92 rfl 4 rfl rfl ?_
                    refine zr_getf (v := .ref (m 20)) (pc2 := 96) O sF_X7_kinds_44 0 0 rfl rfl rfl dX7_kinds_93 rfl ?_
                    refine zr_iconst (v := (nI 3)) (pc2 := 97) O dX7_kinds_96 (by decide +kernel) rfl ?_
                    refine zr_iload (pc2 := 99) O dX7_kinds_97 0 rfl rfl ?_
                    refine zr_imul (v := (nI (3 * k))) (pc2 := 100) O dX7_kinds_99 (pk_mul 3 k) rfl ?_
                    refine zr_iconst (v := (nI 2)) (pc2 := 101) O dX7_kinds_100 (by decide +kernel) rfl ?_
                    refine zr_iadd (v := (nI ((3 * k) + 2))) (pc2 := 102) O dX7_kinds_101 (nI_add (3 * k) 2) rfl ?_
                    refine zn_iald (j := ((3 * k) + 2)) (pc2 := 103) O 0 9 0 rfl rfl rfl rfl (by omega) (by decide) dX7_kinds_102 rfl ?_
                    refine zr_icmp_ne (tgt := 110) (pc2 := 106) O dX7_kinds_103 (by decide) rfl (fun c103 => ?_) (fun c103 => ?_)
                    · refine zr_iconst (v := (nI 0)) (pc2 := 111) O dX7_kinds_110 (by decide +kernel) rfl ?_
                      refine zr_istore (lv2 := [(4, .int (nI 0)), (5, .int (nI k)), (3, .int (nI kd)), (2, .int bits), (0, .ref (m 31)), (1, .int (nI i.toNatClampNeg))]) (pc2 := 113) O dX7_kinds_111 (by decide) rfl rfl ?_
                      refine zr_iinc (v := (nI (k + 1))) (lv2 := [(5, .int (nI (k + 1))), (4, .int (nI 0)), (3, .int (nI kd)), (2, .int bits), (0, .ref (m 31)), (1, .int (nI i.toNatClampNeg))]) (pc2 := 116) O dX7_kinds_113 1 rfl (zm_ofInt1 k) (by decide) rfl rfl ?_
                      refine zr_goto (tgt := 44) O dX7_kinds_116 (by decide) ?_
                      have hE : f_X7_kinds_44 msi i u35 (n9 + 1) k is = f_X7_kinds_44 msi i u35 n9 (k + 1) false := by exact ((zif_t c55).trans ((if_pos c68).trans (if_neg c103)))
                      exact ih44 (k + 1) false (by omega) (hF44.trans hE)
                    · refine zr_iconst (v := (nI 1)) (pc2 := 107) O dX7_kinds_106 (by decide +kernel) rfl ?_
                      refine zr_goto (tgt := 111) O dX7_kinds_107 (by decide) ?_
                      refine zr_istore (lv2 := [(4, .int (nI 1)), (5, .int (nI k)), (3, .int (nI kd)), (2, .int bits), (0, .ref (m 31)), (1, .int (nI i.toNatClampNeg))]) (pc2 := 113) O dX7_kinds_111 (by decide) rfl rfl ?_
                      refine zr_iinc (v := (nI (k + 1))) (lv2 := [(5, .int (nI (k + 1))), (4, .int (nI 1)), (3, .int (nI kd)), (2, .int bits), (0, .ref (m 31)), (1, .int (nI i.toNatClampNeg))]) (pc2 := 116) O dX7_kinds_113 1 rfl (zm_ofInt1 k) (by decide) rfl rfl ?_
                      refine zr_goto (tgt := 44) O dX7_kinds_116 (by decide) ?_
                      have hE : f_X7_kinds_44 msi i u35 (n9 + 1) k is = f_X7_kinds_44 msi i u35 n9 (k + 1) true := by exact ((zif_t c55).trans ((if_pos c68).trans (if_pos c103)))
                      exact ih44 (k + 1) true (by omega) (hF44.trans hE)
          exact lp44 msg 0 true (by omega) rfl
    exact lp14 4 0 (nI 0) mwm mls mhd mwi mon mdi mco mgo mbr mca (by omega) rfl
  · refine zr_iconst (v := (-1)) (pc2 := 9) O dX7_kinds_8 (by decide +kernel) rfl ?_
    have hE : s_X7_kinds mP mQ msg mwm msd mls mhd mpe mno msi mwi mon mdi mco mgo mbr mca i mH = ((-1), mwm, mls, mhd, mwi, mon, mdi, mco, mgo, mbr, mca) := by exact (zif_f c5)
    exact hret _ _ _ _ dX7_kinds_9 rfl (by rw [hE]) (by rw [hE])
/-! X7_generations -/
def f_X7_generations_39 (u31 : Int32 × zF × zF × zF × zF × zF) : Nat → Nat → Int32 → Int32
  | 0, _, la => la
  | n9 + 1, i, la => if (s_X7_has u31.1 i) = true then if (u31.2.1 i) ≤ la then f_X7_generations_39 u31 n9 (i + 1) la else f_X7_generations_39 u31 n9 (i + 1) (u31.2.1 i) else f_X7_generations_39 u31 n9 (i + 1) la
def s_X7_generations (mP : Nat) (mQ : Nat) (mwm : Nat) (msd : Int32) (mls : Int32) (mhd : Int32) (mpe : zF) (mno : zF) (mwi : zF) (mon : zF) (mdi : zF) (mco : zF) (mgo : zF) (mbr : zF) (mca : zF) (z : Int32) (wh : Int32) (mH : Nat) : Int32 × Nat × Int32 × Int32 × zF × zF × zF × zF × zF × zF × zF := if (s_X7_in z (nI 0) (nI 99)) = true then if (s_X7_in wh (nI 0) (nI 1)) = true then let u22 := s_X7_prepare mP mQ msd mpe mno mwi mon; let u31 := s_X7_run mP u22.1 z mno u22.2.2.1 u22.2.2.2 mdi mco mgo mbr mca mH; if wh = 0 then ((s_X7_hadMany mP u31.1), u22.1, z, u31.1, u22.2.2.1, u22.2.2.2, u31.2.1, u31.2.2.1, u31.2.2.2.1, u31.2.2.2.2.1, u31.2.2.2.2.2) else ((f_X7_generations_39 u31 mP 0 (nI 0)), u22.1, z, u31.1, u22.2.2.1, u22.2.2.2, u31.2.1, u31.2.2.1, u31.2.2.2.1, u31.2.2.2.2.1, u31.2.2.2.2.2) else ((-1), mwm, mls, mhd, mwi, mon, mdi, mco, mgo, mbr, mca) else ((-1), mwm, mls, mhd, mwi, mon, mdi, mco, mgo, mbr, mca)
set_option maxHeartbeats 4000000 in
set_option maxRecDepth 100000 in
theorem c_X7_generations (l : Launch) (D : va_G) (cI cC cJ : ClassId) (m : Nat → Nat) (mle : Nat) (mpo : Nat) (mfa : Nat) (mrm : Nat) (mrw : Nat) (mP : Nat) (mQ : Nat) (mbk : Nat) (mkp : Nat) (msg : Nat) (mwm : Nat) (mrs : Int32) (msd : Int32) (mls : Int32) (mhd : Int32) (mtx : zF) (mnu : zF) (mrd : zF) (mrl : zF) (mpe : zF) (mno : zF) (mbo : zF) (mim : zF) (msi : zF) (mwi : zF) (mon : zF) (mdi : zF) (mco : zF) (mgo : zF) (mbr : zF) (mca : zF) (z : Int32) (wh : Int32) (mH : Nat) (hmP : mP ≤ 6) (hmQ : mQ ≤ 9) (hto2 : ∀ k, k < mQ → mno ((3 * k) + 1) = nI (mno ((3 * k) + 1)).toNatClampNeg ∧ (mno ((3 * k) + 1)).toNatClampNeg < 6) (hmH : mH ≤ 4) (hH : mno 27 = nI mH) (hhi : ∀ h, h < mH → mno (28 + (3 * h)) = nI (mno (28 + (3 * h))).toNatClampNeg ∧ (mno (28 + (3 * h))).toNatClampNeg < 6) : zD l yX7_generations wsX7_generations rm_X7_generations D (zT cI cC cJ) [.ref (m 31), .int z, .int wh] [modW cI m mle mpo mfa mrm mrw mP mQ mbk mkp msg mwm mrs msd mls mhd mtx mnu mrd mrl mpe mno mbo mim msi mwi mon mdi mco mgo mbr mca] (some (.int ((s_X7_generations mP mQ mwm msd mls mhd mpe mno mwi mon mdi mco mgo mbr mca z wh mH).1))) [modW cI m mle mpo mfa mrm mrw mP mQ mbk mkp msg ((s_X7_generations mP mQ mwm msd mls mhd mpe mno mwi mon mdi mco mgo mbr mca z wh mH).2.1) mrs msd ((s_X7_generations mP mQ mwm msd mls mhd mpe mno mwi mon mdi mco mgo mbr mca z wh mH).2.2.1) ((s_X7_generations mP mQ mwm msd mls mhd mpe mno mwi mon mdi mco mgo mbr mca z wh mH).2.2.2.1) mtx mnu mrd mrl mpe mno mbo mim msi ((s_X7_generations mP mQ mwm msd mls mhd mpe mno mwi mon mdi mco mgo mbr mca z wh mH).2.2.2.2.1) ((s_X7_generations mP mQ mwm msd mls mhd mpe mno mwi mon mdi mco mgo mbr mca z wh mH).2.2.2.2.2.1) ((s_X7_generations mP mQ mwm msd mls mhd mpe mno mwi mon mdi mco mgo mbr mca z wh mH).2.2.2.2.2.2.1) ((s_X7_generations mP mQ mwm msd mls mhd mpe mno mwi mon mdi mco mgo mbr mca z wh mH).2.2.2.2.2.2.2.1) ((s_X7_generations mP mQ mwm msd mls mhd mpe mno mwi mon mdi mco mgo mbr mca z wh mH).2.2.2.2.2.2.2.2.1) ((s_X7_generations mP mQ mwm msd mls mhd mpe mno mwi mon mdi mco mgo mbr mca z wh mH).2.2.2.2.2.2.2.2.2.1) ((s_X7_generations mP mQ mwm msd mls mhd mpe mno mwi mon mdi mco mgo mbr mca z wh mH).2.2.2.2.2.2.2.2.2.2)] := by
  refine zD_int (cc := cX7_generations) (maxL := 5) (ty := .int) (lv := [(0, .ref (m 31)), (1, .int z), (2, .int wh)]) (by decide +kernel) rfl (Nat.le_of_ble_eq_true rfl) rfl (fun Z O hret => ?_)
  refine zr_iload_n (pc2 := 1) O dX7_generations_0 rfl 1 rfl rfl ?_
  refine zr_iconst (v := (nI 0)) (pc2 := 2) O dX7_generations_1 (by decide +kernel) rfl ?_
  refine zr_bipush (v := (nI 99)) (pc2 := 4) O dX7_generations_2 (by decide +kernel) rfl ?_
  refine zr_callS (As := [.int z, .int (nI 0), .int (nI 99)]) (rest := []) (ws2 := [modW cI m mle mpo mfa mrm mrw mP mQ mbk mkp msg mwm mrs msd mls mhd mtx mnu mrd mrl mpe mno mbo mim msi mwi mon mdi mco mgo mbr mca]) (pc2 := 7) O (c_X7_in l D cI cC cJ z (nI 0) (nI 99)) sC_X7_generations_76 rfl rfl dX7_generations_4 [] rfl rfl rfl rfl (Nat.le_of_ble_eq_true rfl) rfl ?_
  show Z _ _ _ [.int (zb (s_X7_in z (nI 0) (nI 99)))]
  refine zb_if_eq (tgt := 19) (pc2 := 10) O dX7_generations_7 (by decide) rfl (fun c7 => ?_) (fun c7 => ?_)
  · refine zr_iconst (v := (-1)) (pc2 := 20) O dX7_generations_19 (by decide +kernel) rfl ?_
    have hE : s_X7_generations mP mQ mwm msd mls mhd mpe mno mwi mon mdi mco mgo mbr mca z wh mH = ((-1), mwm, mls, mhd, mwi, mon, mdi, mco, mgo, mbr, mca) := by exact (zif_f c7)
    exact hret _ _ _ _ dX7_generations_20 rfl (by rw [hE]) (by rw [hE])
  · refine zr_iload_n (pc2 := 11) O dX7_generations_10 rfl 2 rfl rfl ?_
    refine zr_iconst (v := (nI 0)) (pc2 := 12) O dX7_generations_11 (by decide +kernel) rfl ?_
    refine zr_iconst (v := (nI 1)) (pc2 := 13) O dX7_generations_12 (by decide +kernel) rfl ?_
    refine zr_callS (As := [.int wh, .int (nI 0), .int (nI 1)]) (rest := []) (ws2 := [modW cI m mle mpo mfa mrm mrw mP mQ mbk mkp msg mwm mrs msd mls mhd mtx mnu mrd mrl mpe mno mbo mim msi mwi mon mdi mco mgo mbr mca]) (pc2 := 16) O (c_X7_in l D cI cC cJ wh (nI 0) (nI 1)) sC_X7_generations_76 rfl rfl dX7_generations_13 [] rfl rfl rfl rfl (Nat.le_of_ble_eq_true rfl) rfl ?_
    show Z _ _ _ [.int (zb (s_X7_in wh (nI 0) (nI 1)))]
    refine zb_if_ne (tgt := 21) (pc2 := 19) O dX7_generations_16 (by decide) rfl (fun c16 => ?_) (fun c16 => ?_)
    · refine zr_aload_n (pc2 := 22) O dX7_generations_21 rfl 0 rfl rfl ?_
      obtain ⟨u22, hu22⟩ : ∃ z9, z9 = s_X7_prepare mP mQ msd mpe mno mwi mon := ⟨_, rfl⟩
      refine zr_callV (As := []) (rest := []) (ws2 := [modW cI m mle mpo mfa mrm mrw mP mQ mbk mkp msg u22.1 mrs msd u22.2.1 mhd mtx mnu mrd mrl mpe mno mbo mim msi u22.2.2.1 u22.2.2.2 mdi mco mgo mbr mca]) (pc2 := 25) (ci := 7) (g0 := 0) (q0 := 0) (v := none) (W := [modW cI m mle mpo mfa mrm mrw mP mQ mbk mkp msg mwm mrs msd mls mhd mtx mnu mrd mrl mpe mno mbo mim msi mwi mon mdi mco mgo mbr mca]) (W2 := [modW cI m mle mpo mfa mrm mrw mP mQ mbk mkp msg u22.1 mrs msd u22.2.1 mhd mtx mnu mrd mrl mpe mno mbo mim msi u22.2.2.1 u22.2.2.2 mdi mco mgo mbr mca]) O (by rw [hu22]; exact (c_X7_prepare l D cI cC cJ m mle mpo mfa mrm mrw mP mQ mbk mkp msg mwm mrs msd mls mhd mtx mnu mrd mrl mpe mno mbo mim msi mwi mon mdi mco mgo mbr mca (by first | assumption | omega) (by first | assumption | omega))) sC_X7_generations_177 rfl rfl rfl rfl rfl dX7_generations_22 [0] rfl rfl rfl rfl (Nat.le_of_ble_eq_true rfl) rfl ?_
      show Z _ _ _ []
      refine zr_aload_n (pc2 := 26) O dX7_generations_25 rfl 0 rfl rfl ?_
      refine zr_iload_n (pc2 := 27) O dX7_generations_26 rfl 1 rfl rfl ?_
      refine zr_putf (G2 := modW cI m mle mpo mfa mrm mrw mP mQ mbk mkp msg u22.1 mrs msd z mhd mtx mnu mrd mrl mpe mno mbo mim msi u22.2.2.1 u22.2.2.2 mdi mco mgo mbr mca) (ws2 := [modW cI m mle mpo mfa mrm mrw mP mQ mbk mkp msg u22.1 mrs msd z mhd mtx mnu mrd mrl mpe mno mbo mim msi u22.2.2.1 u22.2.2.2 mdi mco mgo mbr mca]) (pc2 := 30) O sP_X7_generations_141 0 0 rfl rfl rfl rfl (Nat.le_of_ble_eq_true rfl) dX7_generations_27 rfl rfl rfl ?_
      refine zr_aload_n (pc2 := 31) O dX7_generations_30 rfl 0 rfl rfl ?_
      obtain ⟨u31, hu31⟩ : ∃ z9, z9 = s_X7_run mP u22.1 z mno u22.2.2.1 u22.2.2.2 mdi mco mgo mbr mca mH := ⟨_, rfl⟩
      refine zr_callV (As := []) (rest := []) (ws2 := [modW cI m mle mpo mfa mrm mrw mP mQ mbk mkp msg u22.1 mrs msd z u31.1 mtx mnu mrd mrl mpe mno mbo mim msi u22.2.2.1 u22.2.2.2 u31.2.1 u31.2.2.1 u31.2.2.2.1 u31.2.2.2.2.1 u31.2.2.2.2.2]) (pc2 := 34) (ci := 7) (g0 := 0) (q0 := 0) (v := none) (W := [modW cI m mle mpo mfa mrm mrw mP mQ mbk mkp msg u22.1 mrs msd z mhd mtx mnu mrd mrl mpe mno mbo mim msi u22.2.2.1 u22.2.2.2 mdi mco mgo mbr mca]) (W2 := [modW cI m mle mpo mfa mrm mrw mP mQ mbk mkp msg u22.1 mrs msd z u31.1 mtx mnu mrd mrl mpe mno mbo mim msi u22.2.2.1 u22.2.2.2 u31.2.1 u31.2.2.1 u31.2.2.2.1 u31.2.2.2.2.1 u31.2.2.2.2.2]) O (by rw [hu31]; exact (c_X7_run l D cI cC cJ m mle mpo mfa mrm mrw mP mQ mbk mkp msg u22.1 mrs msd z mhd mtx mnu mrd mrl mpe mno mbo mim msi u22.2.2.1 u22.2.2.2 mdi mco mgo mbr mca mH hmP (by subst hu22; show mQ ≤ 10; omega) (by subst hu22; exact prep_to rfl hto2) hmH hH hhi)) sC_X7_generations_180 rfl rfl rfl rfl rfl dX7_generations_31 [0] rfl rfl rfl rfl (Nat.le_of_ble_eq_true rfl) rfl ?_
      show Z _ _ _ []
      refine zr_iconst (v := (nI 0)) (pc2 := 35) O dX7_generations_34 (by decide +kernel) rfl ?_
      refine zr_istore_n (lv2 := [(3, .int (nI 0)), (0, .ref (m 31)), (1, .int z), (2, .int wh)]) (pc2 := 36) O dX7_generations_35 rfl (by decide) rfl rfl ?_
      refine zr_iconst (v := (nI 0)) (pc2 := 37) O dX7_generations_36 (by decide +kernel) rfl ?_
      refine zr_istore (lv2 := [(4, .int (nI 0)), (3, .int (nI 0)), (0, .ref (m 31)), (1, .int z), (2, .int wh)]) (pc2 := 39) O dX7_generations_37 (by decide) rfl rfl ?_
      have lp39 : ∀ (n9 : Nat) (i : Nat) (la : Int32), i + n9 = mP → f_X7_generations_39 u31 mP 0 (nI 0) = f_X7_generations_39 u31 n9 i la → Z [modW cI m mle mpo mfa mrm mrw mP mQ mbk mkp msg u22.1 mrs msd z u31.1 mtx mnu mrd mrl mpe mno mbo mim msi u22.2.2.1 u22.2.2.2 u31.2.1 u31.2.2.1 u31.2.2.2.1 u31.2.2.2.2.1 u31.2.2.2.2.2] [(4, .int (nI i)), (3, .int la), (0, .ref (m 31)), (1, .int z), (2, .int wh)] 39 [] := by
        intro n9
        induction n9 with
        | zero =>
          intro i la hM39 hF39
          have hI39 : mP = i := by omega
          subst hI39
          have e9 : (f_X7_generations_39 u31 mP 0 (nI 0)) = la := hF39
          subst e9
          refine zr_iload (pc2 := 41) O dX7_generations_39 0 rfl rfl ?_
          refine zr_aload_n (pc2 := 42) O dX7_generations_41 rfl 2 rfl rfl ?_
          refine zr_getf (v := .int (nI mP)) (pc2 := 45) O sF_X7_generations_22 0 0 rfl rfl rfl dX7_generations_42 rfl ?_
          refine zn_icmp_ge (tgt := 86) (pc2 := 48) O dX7_generations_45 (by decide) rfl (by omega) (by omega) (fun c45 => ?_) (fun c45 => ?_)
          · refine zr_iload_n (pc2 := 87) O dX7_generations_86 rfl 4 rfl rfl ?_
            refine zr_if_ne (tgt := 97) (pc2 := 90) O dX7_generations_87 (by decide) rfl (fun c87 => ?_) (fun c87 => ?_)
            · refine zr_iload_n (pc2 := 98) O dX7_generations_97 rfl 1 rfl rfl ?_
              have hE : s_X7_generations mP mQ mwm msd mls mhd mpe mno mwi mon mdi mco mgo mbr mca z wh mH = ((f_X7_generations_39 u31 mP 0 (nI 0)), u22.1, z, u31.1, u22.2.2.1, u22.2.2.2, u31.2.1, u31.2.2.1, u31.2.2.2.1, u31.2.2.2.2.1, u31.2.2.2.2.2) := by subst hu31; subst hu22; exact ((zif_t c7).trans ((zif_t c16).trans (if_neg c87)))
              exact hret _ _ _ _ dX7_generations_98 rfl (by rw [hE]) (by rw [hE])
            · refine zr_aload_n (pc2 := 91) O dX7_generations_90 rfl 2 rfl rfl ?_
              refine zr_callV (As := []) (rest := []) (ws2 := [modW cI m mle mpo mfa mrm mrw mP mQ mbk mkp msg u22.1 mrs msd z u31.1 mtx mnu mrd mrl mpe mno mbo mim msi u22.2.2.1 u22.2.2.2 u31.2.1 u31.2.2.1 u31.2.2.2.1 u31.2.2.2.2.1 u31.2.2.2.2.2]) (pc2 := 94) (ci := 7) (g0 := 0) (q0 := 0) O (c_X7_hadMany l D cI cC cJ m mle mpo mfa mrm mrw mP mQ mbk mkp msg u22.1 mrs msd z u31.1 mtx mnu mrd mrl mpe mno mbo mim msi u22.2.2.1 u22.2.2.2 u31.2.1 u31.2.2.1 u31.2.2.2.1 u31.2.2.2.2.1 u31.2.2.2.2.2 (by first | assumption | omega)) sC_X7_generations_192 rfl rfl rfl rfl rfl dX7_generations_91 [0] rfl rfl rfl rfl (Nat.le_of_ble_eq_true rfl) rfl ?_
              show Z _ _ _ [.int (s_X7_hadMany mP u31.1)]
              refine zr_goto (tgt := 98) O dX7_generations_94 (by decide) ?_
              have hE : s_X7_generations mP mQ mwm msd mls mhd mpe mno mwi mon mdi mco mgo mbr mca z wh mH = ((s_X7_hadMany mP u31.1), u22.1, z, u31.1, u22.2.2.1, u22.2.2.2, u31.2.1, u31.2.2.1, u31.2.2.2.1, u31.2.2.2.2.1, u31.2.2.2.2.2) := by subst hu31; subst hu22; exact ((zif_t c7).trans ((zif_t c16).trans (if_pos c87)))
              exact hret _ _ _ _ dX7_generations_98 rfl (by rw [hE]) (by rw [hE])
          · exact absurd c45 (by omega)
        | succ n9 ih39 =>
          intro i la hM39 hF39
          refine zr_iload (pc2 := 41) O dX7_generations_39 0 rfl rfl ?_
          refine zr_aload_n (pc2 := 42) O dX7_generations_41 rfl 2 rfl rfl ?_
          refine zr_getf (v := .int (nI mP)) (pc2 := 45) O sF_X7_generations_22 0 0 rfl rfl rfl dX7_generations_42 rfl ?_
          refine zn_icmp_ge (tgt := 86) (pc2 := 48) O dX7_generations_45 (by decide) rfl (by omega) (by omega) (fun c45 => ?_) (fun c45 => ?_)
          · exact absurd c45 (by omega)
          · refine zr_aload_n (pc2 := 49) O dX7_generations_48 rfl 2 rfl rfl ?_
            refine zr_iload (pc2 := 51) O dX7_generations_49 0 rfl rfl ?_
            refine zr_callV (As := [.int (nI i)]) (rest := []) (ws2 := [modW cI m mle mpo mfa mrm mrw mP mQ mbk mkp msg u22.1 mrs msd z u31.1 mtx mnu mrd mrl mpe mno mbo mim msi u22.2.2.1 u22.2.2.2 u31.2.1 u31.2.2.1 u31.2.2.2.1 u31.2.2.2.2.1 u31.2.2.2.2.2]) (pc2 := 54) (ci := 7) (g0 := 0) (q0 := 0) O (c_X7_has l D cI cC cJ m mle mpo mfa mrm mrw mP mQ mbk mkp msg u22.1 mrs msd z u31.1 mtx mnu mrd mrl mpe mno mbo mim msi u22.2.2.1 u22.2.2.2 u31.2.1 u31.2.2.1 u31.2.2.2.1 u31.2.2.2.2.1 u31.2.2.2.2.2 i) sC_X7_generations_189 rfl rfl rfl rfl rfl dX7_generations_51 [0] rfl rfl rfl rfl (Nat.le_of_ble_eq_true rfl) rfl ?_
            show Z _ _ _ [.int (zb (s_X7_has u31.1 i))]
            refine zb_if_eq (tgt := 78) (pc2 := 57) O dX7_generations_54 (by decide) rfl (fun c54 => ?_) (fun c54 => ?_)
            · refine zr_iload_n (pc2 := 79) O dX7_generations_78 rfl 1 rfl rfl ?_
              refine zr_istore_n (lv2 := [(3, .int la), (4, .int (nI i)), (0, .ref (m 31)), (1, .int z), (2, .int wh)]) (pc2 := 80) O dX7_generations_79 rfl (by decide) rfl rfl ?_
              refine zr_iinc (v := (nI (i + 1))) (lv2 := [(4, .int (nI (i + 1))), (3, .int la), (0, .ref (m 31)), (1, .int z), (2, .int wh)]) (pc2 := 83) O dX7_generations_80 1 rfl (zm_ofInt1 i) (by decide) rfl rfl ?_
              refine zr_goto (tgt := 39) O dX7_generations_83 (by decide) ?_
              have hE : f_X7_generations_39 u31 (n9 + 1) i la = f_X7_generations_39 u31 n9 (i + 1) la := by exact (zif_f c54)
              exact ih39 (i + 1) la (by omega) (hF39.trans hE)
            · refine zr_aload_n (pc2 := 58) O dX7_generations_57 rfl 2 rfl rfl ?_
              refine zr_getf (v := .ref (m 25)) (pc2 := 61) O sF_X7_generations_53 0 0 rfl rfl rfl dX7_generations_58 rfl ?_
              refine zr_iload (pc2 := 63) O dX7_generations_61 0 rfl rfl ?_
              refine zn_iald (j := i) (pc2 := 64) O 0 12 0 rfl rfl rfl rfl (by omega) (by decide) dX7_generations_63 rfl ?_
              refine zr_iload_n (pc2 := 65) O dX7_generations_64 rfl 1 rfl rfl ?_
              refine zr_icmp_le (tgt := 78) (pc2 := 68) O dX7_generations_65 (by decide) rfl (fun c65 => ?_) (fun c65 => ?_)
              · refine zr_iload_n (pc2 := 79) O dX7_generations_78 rfl 1 rfl rfl ?_
                refine zr_istore_n (lv2 := [(3, .int la), (4, .int (nI i)), (0, .ref (m 31)), (1, .int z), (2, .int wh)]) (pc2 := 80) O dX7_generations_79 rfl (by decide) rfl rfl ?_
                refine zr_iinc (v := (nI (i + 1))) (lv2 := [(4, .int (nI (i + 1))), (3, .int la), (0, .ref (m 31)), (1, .int z), (2, .int wh)]) (pc2 := 83) O dX7_generations_80 1 rfl (zm_ofInt1 i) (by decide) rfl rfl ?_
                refine zr_goto (tgt := 39) O dX7_generations_83 (by decide) ?_
                have hE : f_X7_generations_39 u31 (n9 + 1) i la = f_X7_generations_39 u31 n9 (i + 1) la := by exact ((zif_t c54).trans (if_pos c65))
                exact ih39 (i + 1) la (by omega) (hF39.trans hE)
              · refine zr_aload_n (pc2 := 69) O dX7_generations_68 rfl 2 rfl rfl ?_
                refine zr_getf (v := .ref (m 25)) (pc2 := 72) O sF_X7_generations_53 0 0 rfl rfl rfl dX7_generations_69 rfl ?_
                refine zr_iload (pc2 := 74) O dX7_generations_72 0 rfl rfl ?_
                refine zn_iald (j := i) (pc2 := 75) O 0 12 0 rfl rfl rfl rfl (by omega) (by decide) dX7_generations_74 rfl ?_
                refine zr_goto (tgt := 79) O dX7_generations_75 (by decide) ?_
                refine zr_istore_n (lv2 := [(3, .int (u31.2.1 i)), (4, .int (nI i)), (0, .ref (m 31)), (1, .int z), (2, .int wh)]) (pc2 := 80) O dX7_generations_79 rfl (by decide) rfl rfl ?_
                refine zr_iinc (v := (nI (i + 1))) (lv2 := [(4, .int (nI (i + 1))), (3, .int (u31.2.1 i)), (0, .ref (m 31)), (1, .int z), (2, .int wh)]) (pc2 := 83) O dX7_generations_80 1 rfl (zm_ofInt1 i) (by decide) rfl rfl ?_
                refine zr_goto (tgt := 39) O dX7_generations_83 (by decide) ?_
                have hE : f_X7_generations_39 u31 (n9 + 1) i la = f_X7_generations_39 u31 n9 (i + 1) (u31.2.1 i) := by exact ((zif_t c54).trans (if_neg c65))
                exact ih39 (i + 1) (u31.2.1 i) (by omega) (hF39.trans hE)
      exact lp39 mP 0 (nI 0) (by omega) rfl
    · refine zr_iconst (v := (-1)) (pc2 := 20) O dX7_generations_19 (by decide +kernel) rfl ?_
      have hE : s_X7_generations mP mQ mwm msd mls mhd mpe mno mwi mon mdi mco mgo mbr mca z wh mH = ((-1), mwm, mls, mhd, mwi, mon, mdi, mco, mgo, mbr, mca) := by exact ((zif_t c7).trans (zif_f c16))
      exact hret _ _ _ _ dX7_generations_20 rfl (by rw [hE]) (by rw [hE])
