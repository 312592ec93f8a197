/-! X7_prepare -/
def f_X7_prepare_10 (mno : zF) : Nat → Nat → zF → zF
  | 0, _, mwi9 => mwi9
  | n9 + 1, k, mwi9 => f_X7_prepare_10 mno n9 (k + 1) (upd mwi9 k (mno k))
def f_X7_prepare_40 (mpe : zF) : Nat → Nat → zF → zF
  | 0, _, mon9 => mon9
  | n9 + 1, k2, mon9 => f_X7_prepare_40 mpe n9 (k2 + 1) (upd mon9 k2 (mpe k2))
def s_X7_prepare (mP : Nat) (mQ : Nat) (msd : Int32) (mpe : zF) (mno : zF) (mwi : zF) (mon : zF) : Nat × Int32 × zF × zF := (mQ, msd, (f_X7_prepare_10 mno (3 * mQ) 0 mwi), (f_X7_prepare_40 mpe (5 * mP) 0 mon))
set_option maxHeartbeats 4000000 in
set_option maxRecDepth 100000 in
theorem c_X7_prepare (l : Launch) (D : va_G) (cI cC cJ : ClassId) (m : Nat → Nat) (mle : Nat) (mpo : Nat) (mfa : Nat) (mrm : Nat) (mrw : Nat) (mP : Nat) (mQ : Nat) (mbk : Nat) (mkp : Nat) (msg : Nat) (mwm : Nat) (mrs : Int32) (msd : Int32) (mls : Int32) (mhd : Int32) (mtx : zF) (mnu : zF) (mrd : zF) (mrl : zF) (mpe : zF) (mno : zF) (mbo : zF) (mim : zF) (msi : zF) (mwi : zF) (mon : zF) (mdi : zF) (mco : zF) (mgo : zF) (mbr : zF) (mca : zF) (hmP : mP ≤ 6) (hmQ : mQ ≤ 9) : zD l yX7_prepare wsX7_prepare rm_X7_prepare D (zT cI cC cJ) [.ref (m 31)] [modW cI m mle mpo mfa mrm mrw mP mQ mbk mkp msg mwm mrs msd mls mhd mtx mnu mrd mrl mpe mno mbo mim msi mwi mon mdi mco mgo mbr mca] none [modW cI m mle mpo mfa mrm mrw mP mQ mbk mkp msg ((s_X7_prepare mP mQ msd mpe mno mwi mon).1) mrs msd ((s_X7_prepare mP mQ msd mpe mno mwi mon).2.1) mhd mtx mnu mrd mrl mpe mno mbo mim msi ((s_X7_prepare mP mQ msd mpe mno mwi mon).2.2.1) ((s_X7_prepare mP mQ msd mpe mno mwi mon).2.2.2) mdi mco mgo mbr mca] := by
  refine zD_void (cc := cX7_prepare) (maxL := 2) (lv := [(0, .ref (m 31))]) (by decide +kernel) rfl (Nat.le_of_ble_eq_true rfl) rfl (fun Z O hret => ?_)
  refine zr_aload_n (pc2 := 1) O dX7_prepare_0 rfl 0 rfl rfl ?_
  refine zr_aload_n (pc2 := 2) O dX7_prepare_1 rfl 0 rfl rfl ?_
  refine zr_getf (v := .int (nI mQ)) (pc2 := 5) O sF_X7_prepare_29 0 0 rfl rfl rfl dX7_prepare_2 rfl ?_
  refine zr_putf (G2 := modW cI m mle mpo mfa mrm mrw mP mQ mbk mkp msg mQ mrs msd mls mhd mtx mnu mrd mrl mpe mno mbo mim msi mwi mon mdi mco mgo mbr mca) (ws2 := [modW cI m mle mpo mfa mrm mrw mP mQ mbk mkp msg mQ mrs msd mls mhd mtx mnu mrd mrl mpe mno mbo mim msi mwi mon mdi mco mgo mbr mca]) (pc2 := 8) O sP_X7_prepare_138 0 0 rfl rfl rfl rfl (Nat.le_of_ble_eq_true rfl) dX7_prepare_5 rfl rfl rfl ?_
  refine zr_iconst (v := (nI 0)) (pc2 := 9) O dX7_prepare_8 (by decide +kernel) rfl ?_
  refine zr_istore_n (lv2 := [(1, .int (nI 0)), (0, .ref (m 31))]) (pc2 := 10) O dX7_prepare_9 rfl (by decide) rfl rfl ?_
  have lp10 : ∀ (n9 : Nat) (k : Nat) (mwi9 : zF), k + n9 = (3 * mQ) → f_X7_prepare_10 mno (3 * mQ) 0 mwi = f_X7_prepare_10 mno n9 k mwi9 → Z [modW cI m mle mpo mfa mrm mrw mP mQ mbk mkp msg mQ mrs msd mls mhd mtx mnu mrd mrl mpe mno mbo mim msi mwi9 mon mdi mco mgo mbr mca] [(1, .int (nI k)), (0, .ref (m 31))] 10 [] := by
    intro n9
    induction n9 with
    | zero =>
      intro k mwi9 hM10 hF10
      have hI10 : 3 * mQ = k := by omega
      subst hI10
      have e9 : (f_X7_prepare_10 mno (3 * mQ) 0 mwi) = mwi9 := hF10
      subst e9
      refine zr_iload_n (pc2 := 11) O dX7_prepare_10 rfl 0 rfl rfl ?_
      refine zr_iconst (v := (nI 3)) (pc2 := 12) O dX7_prepare_11 (by decide +kernel) rfl ?_
      refine zr_aload_n (pc2 := 13) O dX7_prepare_12 rfl 1 rfl rfl ?_
      refine zr_getf (v := .int (nI mQ)) (pc2 := 16) O sF_X7_prepare_29 0 0 rfl rfl rfl dX7_prepare_13 rfl ?_
      refine zr_imul (v := (nI (3 * mQ))) (pc2 := 17) O dX7_prepare_16 (pk_mul 3 mQ) rfl ?_
      refine zn_icmp_ge (tgt := 38) (pc2 := 20) O dX7_prepare_17 (by decide) rfl (by omega) (by omega) (fun c17 => ?_) (fun c17 => ?_)
      · refine zr_iconst (v := (nI 0)) (pc2 := 39) O dX7_prepare_38 (by decide +kernel) rfl ?_
        refine zr_istore_n (lv2 := [(1, .int (nI 0)), (0, .ref (m 31))]) (pc2 := 40) O dX7_prepare_39 rfl (by decide) rfl rfl ?_
        have lp40 : ∀ (n9 : Nat) (k2 : Nat) (mon9 : zF), k2 + n9 = (5 * mP) → f_X7_prepare_40 mpe (5 * mP) 0 mon = f_X7_prepare_40 mpe n9 k2 mon9 → Z [modW cI m mle mpo mfa mrm mrw mP mQ mbk mkp msg mQ mrs msd mls mhd mtx mnu mrd mrl mpe mno mbo mim msi (f_X7_prepare_10 mno (3 * mQ) 0 mwi) mon9 mdi mco mgo mbr mca] [(1, .int (nI k2)), (0, .ref (m 31))] 40 [] := by
          intro n9
          induction n9 with
          | zero =>
            intro k2 mon9 hM40 hF40
            have hI40 : 5 * mP = k2 := by omega
            subst hI40
            have e9 : (f_X7_prepare_40 mpe (5 * mP) 0 mon) = mon9 := hF40
            subst e9
            refine zr_iload_n (pc2 := 41) O dX7_prepare_40 rfl 0 rfl rfl ?_
            refine zr_iconst (v := (nI 5)) (pc2 := 42) O dX7_prepare_41 (by decide +kernel) rfl ?_
            refine zr_aload_n (pc2 := 43) O dX7_prepare_42 rfl 1 rfl rfl ?_
            refine zr_getf (v := .int (nI mP)) (pc2 := 46) O sF_X7_prepare_22 0 0 rfl rfl rfl dX7_prepare_43 rfl ?_
            refine zr_imul (v := (nI (5 * mP))) (pc2 := 47) O dX7_prepare_46 (pk_mul 5 mP) rfl ?_
            refine zn_icmp_ge (tgt := 68) (pc2 := 50) O dX7_prepare_47 (by decide) rfl (by omega) (by omega) (fun c47 => ?_) (fun c47 => ?_)
            · refine zr_aload_n (pc2 := 69) O dX7_prepare_68 rfl 1 rfl rfl ?_
              refine zr_aload_n (pc2 := 70) O dX7_prepare_69 rfl 1 rfl rfl ?_
              refine zr_getf (v := .int msd) (pc2 := 73) O sF_X7_prepare_32 0 0 rfl rfl rfl dX7_prepare_70 rfl ?_
              refine zr_putf (G2 := modW cI m mle mpo mfa mrm mrw mP mQ mbk mkp msg mQ mrs msd msd mhd mtx mnu mrd mrl mpe mno mbo mim msi (f_X7_prepare_10 mno (3 * mQ) 0 mwi) (f_X7_prepare_40 mpe (5 * mP) 0 mon) mdi mco mgo mbr mca) (ws2 := [modW cI m mle mpo mfa mrm mrw mP mQ mbk mkp msg mQ mrs msd msd mhd mtx mnu mrd mrl mpe mno mbo mim msi (f_X7_prepare_10 mno (3 * mQ) 0 mwi) (f_X7_prepare_40 mpe (5 * mP) 0 mon) mdi mco mgo mbr mca]) (pc2 := 76) O sP_X7_prepare_141 0 0 rfl rfl rfl rfl (Nat.le_of_ble_eq_true rfl) dX7_prepare_73 rfl rfl rfl ?_
              have hE : s_X7_prepare mP mQ msd mpe mno mwi mon = (mQ, msd, (f_X7_prepare_10 mno (3 * mQ) 0 mwi), (f_X7_prepare_40 mpe (5 * mP) 0 mon)) := by exact rfl
              exact hret _ _ _ dX7_prepare_76 (by rw [hE])
            · exact absurd c47 (by omega)
          | succ n9 ih40 =>
            intro k2 mon9 hM40 hF40
            refine zr_iload_n (pc2 := 41) O dX7_prepare_40 rfl 0 rfl rfl ?_
            refine zr_iconst (v := (nI 5)) (pc2 := 42) O dX7_prepare_41 (by decide +kernel) rfl ?_
            refine zr_aload_n (pc2 := 43) O dX7_prepare_42 rfl 1 rfl rfl ?_
            refine zr_getf (v := .int (nI mP)) (pc2 := 46) O sF_X7_prepare_22 0 0 rfl rfl rfl dX7_prepare_43 rfl ?_
            refine zr_imul (v := (nI (5 * mP))) (pc2 := 47) O dX7_prepare_46 (pk_mul 5 mP) rfl ?_
            refine zn_icmp_ge (tgt := 68) (pc2 := 50) O dX7_prepare_47 (by decide) rfl (by omega) (by omega) (fun c47 => ?_) (fun c47 => ?_)
            · exact absurd c47 (by omega)
            · refine zr_aload_n (pc2 := 51) O dX7_prepare_50 rfl 1 rfl rfl ?_
              refine zr_getf (v := .ref (m 23)) (pc2 := 54) O sF_X7_prepare_50 0 0 rfl rfl rfl dX7_prepare_51 rfl ?_
              refine zr_iload_n (pc2 := 55) O dX7_prepare_54 rfl 0 rfl rfl ?_
              refine zr_aload_n (pc2 := 56) O dX7_prepare_55 rfl 1 rfl rfl ?_
              refine zr_getf (v := .ref (m 11)) (pc2 := 59) O sF_X7_prepare_26 0 0 rfl rfl rfl dX7_prepare_56 rfl ?_
              refine zr_iload_n (pc2 := 60) O dX7_prepare_59 rfl 0 rfl rfl ?_
              refine zn_iald (j := k2) (pc2 := 61) O 0 5 0 rfl rfl rfl rfl (by omega) (by decide) dX7_prepare_60 rfl ?_
              refine zn_iast (j := k2) (G2 := modW cI m mle mpo mfa mrm mrw mP mQ mbk mkp msg mQ mrs msd mls mhd mtx mnu mrd mrl mpe mno mbo mim msi (f_X7_prepare_10 mno (3 * mQ) 0 mwi) (upd mon9 k2 (mpe k2)) mdi mco mgo mbr mca) (ws2 := [modW cI m mle mpo mfa mrm mrw mP mQ mbk mkp msg mQ mrs msd mls mhd mtx mnu mrd mrl mpe mno mbo mim msi (f_X7_prepare_10 mno (3 * mQ) 0 mwi) (upd mon9 k2 (mpe k2)) mdi mco mgo mbr mca]) (pc2 := 62) O 0 11 0 rfl rfl rfl rfl (by omega) (by decide) dX7_prepare_61 rfl rfl rfl ?_
              refine zr_iinc (v := (nI (k2 + 1))) (lv2 := [(1, .int (nI (k2 + 1))), (0, .ref (m 31))]) (pc2 := 65) O dX7_prepare_62 0 rfl (zm_ofInt1 k2) (by decide) rfl rfl ?_
              refine zr_goto (tgt := 40) O dX7_prepare_65 (by decide) ?_
              have hE : f_X7_prepare_40 mpe (n9 + 1) k2 mon9 = f_X7_prepare_40 mpe n9 (k2 + 1) (upd mon9 k2 (mpe k2)) := by exact rfl
              exact ih40 (k2 + 1) (upd mon9 k2 (mpe k2)) (by omega) (hF40.trans hE)
        exact lp40 (5 * mP) 0 mon (by omega) rfl
      · exact absurd c17 (by omega)
    | succ n9 ih10 =>
      intro k mwi9 hM10 hF10
      refine zr_iload_n (pc2 := 11) O dX7_prepare_10 rfl 0 rfl rfl ?_
      refine zr_iconst (v := (nI 3)) (pc2 := 12) O dX7_prepare_11 (by decide +kernel) rfl ?_
      refine zr_aload_n (pc2 := 13) O dX7_prepare_12 rfl 1 rfl rfl ?_
      refine zr_getf (v := .int (nI mQ)) (pc2 := 16) O sF_X7_prepare_29 0 0 rfl rfl rfl dX7_prepare_13 rfl ?_
      refine zr_imul (v := (nI (3 * mQ))) (pc2 := 17) O dX7_prepare_16 (pk_mul 3 mQ) rfl ?_
      refine zn_icmp_ge (tgt := 38) (pc2 := 20) O dX7_prepare_17 (by decide) rfl (by omega) (by omega) (fun c17 => ?_) (fun c17 => ?_)
      · exact absurd c17 (by omega)
      · refine zr_aload_n (pc2 := 21) O dX7_prepare_20 rfl 1 rfl rfl ?_
        refine zr_getf (v := .ref (m 21)) (pc2 := 24) O sF_X7_prepare_47 0 0 rfl rfl rfl dX7_prepare_21 rfl ?_
        refine zr_iload_n (pc2 := 25) O dX7_prepare_24 rfl 0 rfl rfl ?_
        refine zr_aload_n (pc2 := 26) O dX7_prepare_25 rfl 1 rfl rfl ?_
        refine zr_getf (v := .ref (m 14)) (pc2 := 29) O sF_X7_prepare_35 0 0 rfl rfl rfl dX7_prepare_26 rfl ?_
        refine zr_iload_n (pc2 := 30) O dX7_prepare_29 rfl 0 rfl rfl ?_
        refine zn_iald (j := k) (pc2 := 31) O 0 6 0 rfl rfl rfl rfl (by omega) (by decide) dX7_prepare_30 rfl ?_
        refine zn_iast (j := k) (G2 := modW cI m mle mpo mfa mrm mrw mP mQ mbk mkp msg mQ mrs msd mls mhd mtx mnu mrd mrl mpe mno mbo mim msi (upd mwi9 k (mno k)) mon mdi mco mgo mbr mca) (ws2 := [modW cI m mle mpo mfa mrm mrw mP mQ mbk mkp msg mQ mrs msd mls mhd mtx mnu mrd mrl mpe mno mbo mim msi (upd mwi9 k (mno k)) mon mdi mco mgo mbr mca]) (pc2 := 32) O 0 10 0 rfl rfl rfl rfl (by omega) (by decide) dX7_prepare_31 rfl rfl rfl ?_
        refine zr_iinc (v := (nI (k + 1))) (lv2 := [(1, .int (nI (k + 1))), (0, .ref (m 31))]) (pc2 := 35) O dX7_prepare_32 0 rfl (zm_ofInt1 k) (by decide) rfl rfl ?_
        refine zr_goto (tgt := 10) O dX7_prepare_35 (by decide) ?_
        have hE : f_X7_prepare_10 mno (n9 + 1) k mwi9 = f_X7_prepare_10 mno n9 (k + 1) (upd mwi9 k (mno k)) := by exact rfl
        exact ih10 (k + 1) (upd mwi9 k (mno k)) (by omega) (hF10.trans hE)
  exact lp10 (3 * mQ) 0 mwi (by omega) rfl
theorem prep10_at (mno : zF) : ∀ (n9 k : Nat) (g : zF) (j : Nat), f_X7_prepare_10 mno n9 k g j = if k ≤ j ∧ j < k + n9 then mno j else g j
  | 0, k, g, j => by
    show g j = _
    rw [if_neg (by omega)]
  | n9 + 1, k, g, j => by
    show f_X7_prepare_10 mno n9 (k + 1) (upd g k (mno k)) j = _
    rw [prep10_at mno n9 (k + 1) _ j]
    by_cases h1 : k + 1 ≤ j ∧ j < k + 1 + n9
    · rw [if_pos h1, if_pos (by omega)]
    · rw [if_neg h1]
      by_cases h2 : j = k
      · subst h2
        rw [if_pos (by omega)]
        simp [upd]
      · rw [if_neg (by omega)]
        simp [upd, h2]
theorem prep40_at (mpe : zF) : ∀ (n9 k : Nat) (g : zF) (j : Nat), f_X7_prepare_40 mpe n9 k g j = if k ≤ j ∧ j < k + n9 then mpe j else g j
  | 0, k, g, j => by
    show g j = _
    rw [if_neg (by omega)]
  | n9 + 1, k, g, j => by
    show f_X7_prepare_40 mpe n9 (k + 1) (upd g k (mpe k)) j = _
    rw [prep40_at mpe n9 (k + 1) _ j]
    by_cases h1 : k + 1 ≤ j ∧ j < k + 1 + n9
    · rw [if_pos h1, if_pos (by omega)]
    · rw [if_neg h1]
      by_cases h2 : j = k
      · subst h2
        rw [if_pos (by omega)]
        simp [upd]
      · rw [if_neg (by omega)]
        simp [upd, h2]
/-! X7_lives -/
def s_X7_lives (mon : zF) (mdi : zF) (i : Nat) (yr : Nat) : Bool := if 0 ≤ (mdi i) then false else if (nI yr) < (mon (5 * i)) then false else true
set_option maxHeartbeats 4000000 in
set_option maxRecDepth 100000 in
theorem c_X7_lives (l : Launch) (D : va_G) (cI cC cJ : ClassId) (m : Nat → Nat) (mle : Nat) (mpo : Nat) (mfa : Nat) (mrm : Nat) (mrw : Nat) (mP : Nat) (mQ : Nat) (mbk : Nat) (mkp : Nat) (msg : Nat) (mwm : Nat) (mrs : Int32) (msd : Int32) (mls : Int32) (mhd : Int32) (mtx : zF) (mnu : zF) (mrd : zF) (mrl : zF) (mpe : zF) (mno : zF) (mbo : zF) (mim : zF) (msi : zF) (mwi : zF) (mon : zF) (mdi : zF) (mco : zF) (mgo : zF) (mbr : zF) (mca : zF) (i : Nat) (yr : Nat) (hi : i < 6) : zD l yX7_lives wsX7_lives rm_X7_lives D (zT cI cC cJ) [.ref (m 31), .int (nI i), .int (nI yr)] [modW cI m mle mpo mfa mrm mrw mP mQ mbk mkp msg mwm mrs msd mls mhd mtx mnu mrd mrl mpe mno mbo mim msi mwi mon mdi mco mgo mbr mca] (some (.int (zb (s_X7_lives mon mdi i yr)))) [modW cI m mle mpo mfa mrm mrw mP mQ mbk mkp msg mwm mrs msd mls mhd mtx mnu mrd mrl mpe mno mbo mim msi mwi mon mdi mco mgo mbr mca] := by
  refine zD_int (cc := cX7_lives) (maxL := 3) (ty := .boolean) (lv := [(0, .ref (m 31)), (1, .int (nI i)), (2, .int (nI yr))]) (by decide +kernel) rfl (Nat.le_of_ble_eq_true rfl) rfl (fun Z O hret => ?_)
  refine zr_aload_n (pc2 := 1) O dX7_lives_0 rfl 0 rfl rfl ?_
  refine zr_getf (v := .ref (m 25)) (pc2 := 4) O sF_X7_lives_53 0 0 rfl rfl rfl dX7_lives_1 rfl ?_
  refine zr_iload_n (pc2 := 5) O dX7_lives_4 rfl 1 rfl rfl ?_
  refine zn_iald (j := i) (pc2 := 6) O 0 12 0 rfl rfl rfl rfl (by omega) (by decide) dX7_lives_5 rfl ?_
  refine zr_if_ge (tgt := 25) (pc2 := 9) O dX7_lives_6 (by decide) rfl (fun c6 => ?_) (fun c6 => ?_)
  · refine zr_iconst (v := (nI 0)) (pc2 := 26) O dX7_lives_25 (by decide +kernel) rfl ?_
    have hE : s_X7_lives mon mdi i yr = false := by exact (if_pos c6)
    exact hret _ _ _ _ dX7_lives_26 (by decide +kernel) (by rw [hE]; rfl) rfl
  · refine zr_aload_n (pc2 := 10) O dX7_lives_9 rfl 0 rfl rfl ?_
    refine zr_getf (v := .ref (m 23)) (pc2 := 13) O sF_X7_lives_50 0 0 rfl rfl rfl dX7_lives_10 rfl ?_
    refine zr_iconst (v := (nI 5)) (pc2 := 14) O dX7_lives_13 (by decide +kernel) rfl ?_
    refine zr_iload_n (pc2 := 15) O dX7_lives_14 rfl 1 rfl rfl ?_
    refine zr_imul (v := (nI (5 * i))) (pc2 := 16) O dX7_lives_15 (pk_mul 5 i) rfl ?_
    refine zn_iald (j := (5 * i)) (pc2 := 17) O 0 11 0 rfl rfl rfl rfl (by omega) (by decide) dX7_lives_16 rfl ?_
    refine zr_iload_n (pc2 := 18) O dX7_lives_17 rfl 2 rfl rfl ?_
    refine zr_icmp_gt (tgt := 25) (pc2 := 21) O dX7_lives_18 (by decide) rfl (fun c18 => ?_) (fun c18 => ?_)
    · refine zr_iconst (v := (nI 0)) (pc2 := 26) O dX7_lives_25 (by decide +kernel) rfl ?_
      have hE : s_X7_lives mon mdi i yr = false := by exact ((if_neg c6).trans (if_pos c18))
      exact hret _ _ _ _ dX7_lives_26 (by decide +kernel) (by rw [hE]; rfl) rfl
    · refine zr_iconst (v := (nI 1)) (pc2 := 22) O dX7_lives_21 (by decide +kernel) rfl ?_
      refine zr_goto (tgt := 26) O dX7_lives_22 (by decide) ?_
      have hE : s_X7_lives mon mdi i yr = true := by exact ((if_neg c6).trans (if_neg c18))
      exact hret _ _ _ _ dX7_lives_26 (by decide +kernel) (by rw [hE]; rfl) rfl
/-! X7_gainOf -/
def s_X7_gainOf (mls : Int32) (mon : zF) (i : Nat) (yr : Nat) : Int32 := if (nI 10) ≤ ((nI yr) - (mon (5 * i))) then if (mon ((5 * i) + 3)) = nI 0 then (mon ((5 * i) + 1)) else if (mon ((5 * i) + 3)) = nI 1 then let x96 := ((((7919 * mls.toInt64) + (6151 * ((nI yr).toInt64))) + (3571 * ((nI i).toInt64))) + 1); if (lg_cmp ((((x96 * x96) - (x96 * x96) / 65521 * 65521) / 8) - (((x96 * x96) - (x96 * x96) / 65521 * 65521) / 8) / 2 * 2) 0) = 0 then ((nI 2) * (mon ((5 * i) + 1))) else (nI 0) else if (mon ((5 * i) + 3)) = nI 2 then ((mon ((5 * i) + 1)) / (nI 2)) else if (nI 30) ≤ ((nI yr) - (mon (5 * i))) then ((nI 2) * (mon ((5 * i) + 1))) else (nI 0) else (nI 0)
set_option maxHeartbeats 4000000 in
set_option maxRecDepth 100000 in
theorem c_X7_gainOf (l : Launch) (D : va_G) (cI cC cJ : ClassId) (m : Nat → Nat) (mle : Nat) (mpo : Nat) (mfa : Nat) (mrm : Nat) (mrw : Nat) (mP : Nat) (mQ : Nat) (mbk : Nat) (mkp : Nat) (msg : Nat) (mwm : Nat) (mrs : Int32) (msd : Int32) (mls : Int32) (mhd : Int32) (mtx : zF) (mnu : zF) (mrd : zF) (mrl : zF) (mpe : zF) (mno : zF) (mbo : zF) (mim : zF) (msi : zF) (mwi : zF) (mon : zF) (mdi : zF) (mco : zF) (mgo : zF) (mbr : zF) (mca : zF) (i : Nat) (yr : Nat) (hi : i < 6) : zD l yX7_gainOf wsX7_gainOf rm_X7_gainOf D (zT cI cC cJ) [.ref (m 31), .int (nI i), .int (nI yr)] [modW cI m mle mpo mfa mrm mrw mP mQ mbk mkp msg mwm mrs msd mls mhd mtx mnu mrd mrl mpe mno mbo mim msi mwi mon mdi mco mgo mbr mca] (some (.int (s_X7_gainOf mls mon i yr))) [modW cI m mle mpo mfa mrm mrw mP mQ mbk mkp msg mwm mrs msd mls mhd mtx mnu mrd mrl mpe mno mbo mim msi mwi mon mdi mco mgo mbr mca] := by
  refine zD_int (cc := cX7_gainOf) (maxL := 7) (ty := .int) (lv := [(0, .ref (m 31)), (1, .int (nI i)), (2, .int (nI yr))]) (by decide +kernel) rfl (Nat.le_of_ble_eq_true rfl) rfl (fun Z O hret => ?_)
  refine zr_iload_n (pc2 := 1) O dX7_gainOf_0 rfl 2 rfl rfl ?_
  refine zr_aload_n (pc2 := 2) O dX7_gainOf_1 rfl 0 rfl rfl ?_
  refine zr_getf (v := .ref (m 23)) (pc2 := 5) O sF_X7_gainOf_50 0 0 rfl rfl rfl dX7_gainOf_2 rfl ?_
  refine zr_iconst (v := (nI 5)) (pc2 := 6) O dX7_gainOf_5 (by decide +kernel) rfl ?_
  refine zr_iload_n (pc2 := 7) O dX7_gainOf_6 rfl 1 rfl rfl ?_
  refine zr_imul (v := (nI (5 * i))) (pc2 := 8) O dX7_gainOf_7 (pk_mul 5 i) rfl ?_
  refine zn_iald (j := (5 * i)) (pc2 := 9) O 0 11 0 rfl rfl rfl rfl (by omega) (by decide) dX7_gainOf_8 rfl ?_
  refine zr_isub (v := ((nI yr) - (mon (5 * i)))) (pc2 := 10) O dX7_gainOf_9 rfl rfl ?_
  refine zr_istore_n (lv2 := [(3, .int ((nI yr) - (mon (5 * i)))), (0, .ref (m 31)), (1, .int (nI i)), (2, .int (nI yr))]) (pc2 := 11) O dX7_gainOf_10 rfl (by decide) rfl rfl ?_
  refine zr_aload_n (pc2 := 12) O dX7_gainOf_11 rfl 1 rfl rfl ?_
  refine zr_getf (v := .ref (m 23)) (pc2 := 15) O sF_X7_gainOf_50 0 0 rfl rfl rfl dX7_gainOf_12 rfl ?_
  refine zr_iconst (v := (nI 5)) (pc2 := 16) O dX7_gainOf_15 (by decide +kernel) rfl ?_
  refine zr_iload_n (pc2 := 17) O dX7_gainOf_16 rfl 2 rfl rfl ?_
  refine zr_imul (v := (nI (5 * i))) (pc2 := 18) O dX7_gainOf_17 (pk_mul 5 i) rfl ?_
  refine zr_iconst (v := (nI 1)) (pc2 := 19) O dX7_gainOf_18 (by decide +kernel) rfl ?_
  refine zr_iadd (v := (nI ((5 * i) + 1))) (pc2 := 20) O dX7_gainOf_19 (nI_add (5 * i) 1) rfl ?_
  refine zn_iald (j := ((5 * i) + 1)) (pc2 := 21) O 0 11 0 rfl rfl rfl rfl (by omega) (by decide) dX7_gainOf_20 rfl ?_
  refine zr_istore (lv2 := [(4, .int (mon ((5 * i) + 1))), (3, .int ((nI yr) - (mon (5 * i)))), (0, .ref (m 31)), (1, .int (nI i)), (2, .int (nI yr))]) (pc2 := 23) O dX7_gainOf_21 (by decide) rfl rfl ?_
  refine zr_iload_n (pc2 := 24) O dX7_gainOf_23 rfl 1 rfl rfl ?_
  refine zr_bipush (v := (nI 10)) (pc2 := 26) O dX7_gainOf_24 (by decide +kernel) rfl ?_
  refine zr_icmp_ge (tgt := 31) (pc2 := 29) O dX7_gainOf_26 (by decide) rfl (fun c26 => ?_) (fun c26 => ?_)
  · refine zr_aload_n (pc2 := 32) O dX7_gainOf_31 rfl 2 rfl rfl ?_
    refine zr_getf (v := .ref (m 23)) (pc2 := 35) O sF_X7_gainOf_50 0 0 rfl rfl rfl dX7_gainOf_32 rfl ?_
    refine zr_iconst (v := (nI 5)) (pc2 := 36) O dX7_gainOf_35 (by decide +kernel) rfl ?_
    refine zr_iload_n (pc2 := 37) O dX7_gainOf_36 rfl 3 rfl rfl ?_
    refine zr_imul (v := (nI (5 * i))) (pc2 := 38) O dX7_gainOf_37 (pk_mul 5 i) rfl ?_
    refine zr_iconst (v := (nI 3)) (pc2 := 39) O dX7_gainOf_38 (by decide +kernel) rfl ?_
    refine zr_iadd (v := (nI ((5 * i) + 3))) (pc2 := 40) O dX7_gainOf_39 (nI_add (5 * i) 3) rfl ?_
    refine zn_iald (j := ((5 * i) + 3)) (pc2 := 41) O 0 11 0 rfl rfl rfl rfl (by omega) (by decide) dX7_gainOf_40 rfl ?_
    by_cases c41_0 : (mon ((5 * i) + 3)) = nI 0
    · refine zn_tabIn (y := nI 0) (off := 27) (tgt := 68) O c41_0 dX7_gainOf_41 (by decide +kernel) (by decide +kernel) (by decide +kernel) (by decide) ?_
      refine zr_iload (pc2 := 70) O dX7_gainOf_68 0 rfl rfl ?_
      have hE : s_X7_gainOf mls mon i yr = (mon ((5 * i) + 1)) := by exact ((if_pos c26).trans (if_pos c41_0))
      exact hret _ _ _ _ dX7_gainOf_70 rfl (by rw [hE]) rfl
    · skip
      by_cases c41_1 : (mon ((5 * i) + 3)) = nI 1
      · refine zn_tabIn (y := nI 1) (off := 30) (tgt := 71) O c41_1 dX7_gainOf_41 (by decide +kernel) (by decide +kernel) (by decide +kernel) (by decide) ?_
        refine zr_ldc2 (v := 7919) (pc2 := 74) O sK_X7_gainOf_144 dX7_gainOf_71 rfl ?_
        refine zr_aload_n (pc2 := 75) O dX7_gainOf_74 rfl 2 rfl rfl ?_
        refine zr_getf (v := .int mls) (pc2 := 78) O sF_X7_gainOf_141 0 0 rfl rfl rfl dX7_gainOf_75 rfl ?_
        refine zr_i2l (v := mls.toInt64) (pc2 := 79) O dX7_gainOf_78 rfl rfl ?_
        refine zr_lmul (v := (7919 * mls.toInt64)) (pc2 := 80) O dX7_gainOf_79 rfl rfl ?_
        refine zr_ldc2 (v := 6151) (pc2 := 83) O sK_X7_gainOf_146 dX7_gainOf_80 rfl ?_
        refine zr_iload_n (pc2 := 84) O dX7_gainOf_83 rfl 4 rfl rfl ?_
        refine zr_i2l (v := ((nI yr).toInt64)) (pc2 := 85) O dX7_gainOf_84 rfl rfl ?_
        refine zr_lmul (v := (6151 * ((nI yr).toInt64))) (pc2 := 86) O dX7_gainOf_85 rfl rfl ?_
        refine zr_ladd (v := ((7919 * mls.toInt64) + (6151 * ((nI yr).toInt64)))) (pc2 := 87) O dX7_gainOf_86 rfl rfl ?_
        refine zr_ldc2 (v := 3571) (pc2 := 90) O sK_X7_gainOf_148 dX7_gainOf_87 rfl ?_
        refine zr_iload_n (pc2 := 91) O dX7_gainOf_90 rfl 3 rfl rfl ?_
        refine zr_i2l (v := ((nI i).toInt64)) (pc2 := 92) O dX7_gainOf_91 rfl rfl ?_
        refine zr_lmul (v := (3571 * ((nI i).toInt64))) (pc2 := 93) O dX7_gainOf_92 rfl rfl ?_
        refine zr_ladd (v := (((7919 * mls.toInt64) + (6151 * ((nI yr).toInt64))) + (3571 * ((nI i).toInt64)))) (pc2 := 94) O dX7_gainOf_93 rfl rfl ?_
        refine zr_lconst (v := 1) (pc2 := 95) O dX7_gainOf_94 (by decide +kernel) rfl ?_
        refine zr_ladd (v := ((((7919 * mls.toInt64) + (6151 * ((nI yr).toInt64))) + (3571 * ((nI i).toInt64))) + 1)) (pc2 := 96) O dX7_gainOf_95 rfl rfl ?_
        obtain ⟨x96, hx96⟩ : ∃ z9 : Int64, z9 = ((((7919 * mls.toInt64) + (6151 * ((nI yr).toInt64))) + (3571 * ((nI i).toInt64))) + 1) := ⟨_, rfl⟩
        rw [← hx96]
        refine zr_lstore (lv2 := [(5, .long x96), (4, .int (mon ((5 * i) + 1))), (3, .int ((nI yr) - (mon (5 * i)))), (0, .ref (m 31)), (1, .int (nI i)), (2, .int (nI yr))]) (pc2 := 98) O dX7_gainOf_96 (by decide) rfl rfl ?_
        refine zr_lload (pc2 := 100) O dX7_gainOf_98 0 rfl rfl ?_
        refine zr_lload (pc2 := 102) O dX7_gainOf_100 0 rfl rfl ?_
        refine zr_lmul (v := (x96 * x96)) (pc2 := 103) O dX7_gainOf_102 rfl rfl ?_
        refine zr_ldc2 (v := 65521) (pc2 := 106) O sK_X7_gainOf_150 dX7_gainOf_103 rfl ?_
        refine zr_lrem (v := ((x96 * x96) - (x96 * x96) / 65521 * 65521)) (pc2 := 107) O dX7_gainOf_106 (by decide +kernel) rfl rfl ?_
        refine zr_ldc2 (v := 8) (pc2 := 110) O sK_X7_gainOf_152 dX7_gainOf_107 rfl ?_
        refine zr_ldiv (v := (((x96 * x96) - (x96 * x96) / 65521 * 65521) / 8)) (pc2 := 111) O dX7_gainOf_110 (by decide +kernel) rfl rfl ?_
        refine zr_ldc2 (v := 2) (pc2 := 114) O sK_X7_gainOf_154 dX7_gainOf_111 rfl ?_
        refine zr_lrem (v := ((((x96 * x96) - (x96 * x96) / 65521 * 65521) / 8) - (((x96 * x96) - (x96 * x96) / 65521 * 65521) / 8) / 2 * 2)) (pc2 := 115) O dX7_gainOf_114 (by decide +kernel) rfl rfl ?_
        refine zr_lconst (v := 0) (pc2 := 116) O dX7_gainOf_115 (by decide +kernel) rfl ?_
        refine zr_lcmp (v := (lg_cmp ((((x96 * x96) - (x96 * x96) / 65521 * 65521) / 8) - (((x96 * x96) - (x96 * x96) / 65521 * 65521) / 8) / 2 * 2) 0)) (pc2 := 117) O dX7_gainOf_116 rfl rfl ?_
        refine zr_if_ne (tgt := 127) (pc2 := 120) O dX7_gainOf_117 (by decide) rfl (fun c117 => ?_) (fun c117 => ?_)
        · refine zr_iconst (v := (nI 0)) (pc2 := 128) O dX7_gainOf_127 (by decide +kernel) rfl ?_
          have hE : s_X7_gainOf mls mon i yr = (nI 0) := by subst hx96; exact ((if_pos c26).trans ((if_neg c41_0).trans ((if_pos c41_1).trans (if_neg c117))))
          exact hret _ _ _ _ dX7_gainOf_128 rfl (by rw [hE]) rfl
        · refine zr_iconst (v := (nI 2)) (pc2 := 121) O dX7_gainOf_120 (by decide +kernel) rfl ?_
          refine zr_iload (pc2 := 123) O dX7_gainOf_121 1 rfl rfl ?_
          refine zr_imul (v := ((nI 2) * (mon ((5 * i) + 1)))) (pc2 := 124) O dX7_gainOf_123 rfl rfl ?_
          refine zr_goto (tgt := 128) O dX7_gainOf_124 (by decide) ?_
          have hE : s_X7_gainOf mls mon i yr = ((nI 2) * (mon ((5 * i) + 1))) := by subst hx96; exact ((if_pos c26).trans ((if_neg c41_0).trans ((if_pos c41_1).trans (if_pos c117))))
          exact hret _ _ _ _ dX7_gainOf_128 rfl (by rw [hE]) rfl
      · skip
        by_cases c41_2 : (mon ((5 * i) + 3)) = nI 2
        · refine zn_tabIn (y := nI 2) (off := 88) (tgt := 129) O c41_2 dX7_gainOf_41 (by decide +kernel) (by decide +kernel) (by decide +kernel) (by decide) ?_
          refine zr_iload (pc2 := 131) O dX7_gainOf_129 0 rfl rfl ?_
          refine zr_iconst (v := (nI 2)) (pc2 := 132) O dX7_gainOf_131 (by decide +kernel) rfl ?_
          refine zr_idiv (v := ((mon ((5 * i) + 1)) / (nI 2))) (pc2 := 133) O dX7_gainOf_132 (by decide +kernel) rfl rfl ?_
          have hE : s_X7_gainOf mls mon i yr = ((mon ((5 * i) + 1)) / (nI 2)) := by exact ((if_pos c26).trans ((if_neg c41_0).trans ((if_neg c41_1).trans (if_pos c41_2))))
          exact hret _ _ _ _ dX7_gainOf_133 rfl (by rw [hE]) rfl
        · skip
          refine zr_tabOut (tgt := 134) O dX7_gainOf_41 (zsw_out (x := (mon ((5 * i) + 3))) 2 (by decide) (zsw_s (zsw_t (zsw_s (zsw_t (zsw_s zsw_0 c41_0)) c41_1)) c41_2)) (by decide) ?_
          refine zr_iload_n (pc2 := 135) O dX7_gainOf_134 rfl 1 rfl rfl ?_
          refine zr_bipush (v := (nI 30)) (pc2 := 137) O dX7_gainOf_135 (by decide +kernel) rfl ?_
          refine zr_icmp_ge (tgt := 144) (pc2 := 140) O dX7_gainOf_137 (by decide) rfl (fun c137 => ?_) (fun c137 => ?_)
          · refine zr_iconst (v := (nI 2)) (pc2 := 145) O dX7_gainOf_144 (by decide +kernel) rfl ?_
            refine zr_iload (pc2 := 147) O dX7_gainOf_145 0 rfl rfl ?_
            refine zr_imul (v := ((nI 2) * (mon ((5 * i) + 1)))) (pc2 := 148) O dX7_gainOf_147 rfl rfl ?_
            have hE : s_X7_gainOf mls mon i yr = ((nI 2) * (mon ((5 * i) + 1))) := by exact ((if_pos c26).trans ((if_neg c41_0).trans ((if_neg c41_1).trans ((if_neg c41_2).trans (if_pos c137)))))
            exact hret _ _ _ _ dX7_gainOf_148 rfl (by rw [hE]) rfl
          · refine zr_iconst (v := (nI 0)) (pc2 := 141) O dX7_gainOf_140 (by decide +kernel) rfl ?_
            refine zr_goto (tgt := 148) O dX7_gainOf_141 (by decide) ?_
            have hE : s_X7_gainOf mls mon i yr = (nI 0) := by exact ((if_pos c26).trans ((if_neg c41_0).trans ((if_neg c41_1).trans ((if_neg c41_2).trans (if_neg c137)))))
            exact hret _ _ _ _ dX7_gainOf_148 rfl (by rw [hE]) rfl
  · refine zr_iconst (v := (nI 0)) (pc2 := 30) O dX7_gainOf_29 (by decide +kernel) rfl ?_
    have hE : s_X7_gainOf mls mon i yr = (nI 0) := by exact (if_neg c26)
    exact hret _ _ _ _ dX7_gainOf_30 rfl (by rw [hE]) rfl
/-! X7_leaving -/
def f_X7_leaving_4 (mwi : zF) (i : Nat) : Nat → Nat → Int32 → Int32
  | 0, _, sum => sum
  | n9 + 1, k, sum => if (mwi (3 * k)) = (nI i) then f_X7_leaving_4 mwi i n9 (k + 1) (sum + (mwi ((3 * k) + 2))) else f_X7_leaving_4 mwi i n9 (k + 1) (sum + (nI 0))
def s_X7_leaving (mwm : Nat) (mwi : zF) (i : Nat) : Int32 := (f_X7_leaving_4 mwi i mwm 0 (nI 0))
set_option maxHeartbeats 4000000 in
set_option maxRecDepth 100000 in
theorem c_X7_leaving (l : Launch) (D : va_G) (cI cC cJ : ClassId) (m : Nat → Nat) (mle : Nat) (mpo : Nat) (mfa : Nat) (mrm : Nat) (mrw : Nat) (mP : Nat) (mQ : Nat) (mbk : Nat) (mkp : Nat) (msg : Nat) (mwm : Nat) (mrs : Int32) (msd : Int32) (mls : Int32) (mhd : Int32) (mtx : zF) (mnu : zF) (mrd : zF) (mrl : zF) (mpe : zF) (mno : zF) (mbo : zF) (mim : zF) (msi : zF) (mwi : zF) (mon : zF) (mdi : zF) (mco : zF) (mgo : zF) (mbr : zF) (mca : zF) (i : Nat) (hmwm : mwm ≤ 10) : zD l yX7_leaving wsX7_leaving rm_X7_leaving D (zT cI cC cJ) [.ref (m 31), .int (nI i)] [modW cI m mle mpo mfa mrm mrw mP mQ mbk mkp msg mwm mrs msd mls mhd mtx mnu mrd mrl mpe mno mbo mim msi mwi mon mdi mco mgo mbr mca] (some (.int (s_X7_leaving mwm mwi i))) [modW cI m mle mpo mfa mrm mrw mP mQ mbk mkp msg mwm mrs msd mls mhd mtx mnu mrd mrl mpe mno mbo mim msi mwi mon mdi mco mgo mbr mca] := by
  refine zD_int (cc := cX7_leaving) (maxL := 4) (ty := .int) (lv := [(0, .ref (m 31)), (1, .int (nI i))]) (by decide +kernel) rfl (Nat.le_of_ble_eq_true rfl) rfl (fun Z O hret => ?_)
  refine zr_iconst (v := (nI 0)) (pc2 := 1) O dX7_leaving_0 (by decide +kernel) rfl ?_
  refine zr_istore_n (lv2 := [(2, .int (nI 0)), (0, .ref (m 31)), (1, .int (nI i))]) (pc2 := 2) O dX7_leaving_1 rfl (by decide) rfl rfl ?_
  refine zr_iconst (v := (nI 0)) (pc2 := 3) O dX7_leaving_2 (by decide +kernel) rfl ?_
  refine zr_istore_n (lv2 := [(3, .int (nI 0)), (2, .int (nI 0)), (0, .ref (m 31)), (1, .int (nI i))]) (pc2 := 4) O dX7_leaving_3 rfl (by decide) rfl rfl ?_
  have lp4 : ∀ (n9 : Nat) (k : Nat) (sum : Int32), k + n9 = mwm → f_X7_leaving_4 mwi i mwm 0 (nI 0) = f_X7_leaving_4 mwi i n9 k sum → Z [modW cI m mle mpo mfa mrm mrw mP mQ mbk mkp msg mwm mrs msd mls mhd mtx mnu mrd mrl mpe mno mbo mim msi mwi mon mdi mco mgo mbr mca] [(3, .int (nI k)), (2, .int sum), (0, .ref (m 31)), (1, .int (nI i))] 4 [] := by
    intro n9
    induction n9 with
    | zero =>
      intro k sum hM4 hF4
      have hI4 : mwm = k := by omega
      subst hI4
      have e9 : (f_X7_leaving_4 mwi i mwm 0 (nI 0)) = sum := hF4
      subst e9
      refine zr_iload_n (pc2 := 5) O dX7_leaving_4 rfl 0 rfl rfl ?_
      refine zr_aload_n (pc2 := 6) O dX7_leaving_5 rfl 2 rfl rfl ?_
      refine zr_getf (v := .int (nI mwm)) (pc2 := 9) O sF_X7_leaving_138 0 0 rfl rfl rfl dX7_leaving_6 rfl ?_
      refine zn_icmp_ge (tgt := 47) (pc2 := 12) O dX7_leaving_9 (by decide) rfl (by omega) (by omega) (fun c9 => ?_) (fun c9 => ?_)
      · refine zr_iload_n (pc2 := 48) O dX7_leaving_47 rfl 1 rfl rfl ?_
        have hE : s_X7_leaving mwm mwi i = (f_X7_leaving_4 mwi i mwm 0 (nI 0)) := by exact rfl
        exact hret _ _ _ _ dX7_leaving_48 rfl (by rw [hE]) rfl
      · exact absurd c9 (by omega)
    | succ n9 ih4 =>
      intro k sum hM4 hF4
      refine zr_iload_n (pc2 := 5) O dX7_leaving_4 rfl 0 rfl rfl ?_
      refine zr_aload_n (pc2 := 6) O dX7_leaving_5 rfl 2 rfl rfl ?_
      refine zr_getf (v := .int (nI mwm)) (pc2 := 9) O sF_X7_leaving_138 0 0 rfl rfl rfl dX7_leaving_6 rfl ?_
      refine zn_icmp_ge (tgt := 47) (pc2 := 12) O dX7_leaving_9 (by decide) rfl (by omega) (by omega) (fun c9 => ?_) (fun c9 => ?_)
      · exact absurd c9 (by omega)
      · refine zr_iload_n (pc2 := 13) O dX7_leaving_12 rfl 1 rfl rfl ?_
        refine zr_aload_n (pc2 := 14) O dX7_leaving_13 rfl 2 rfl rfl ?_
        refine zr_getf (v := .ref (m 21)) (pc2 := 17) O sF_X7_leaving_47 0 0 rfl rfl rfl dX7_leaving_14 rfl ?_
        refine zr_iconst (v := (nI 3)) (pc2 := 18) O dX7_leaving_17 (by decide +kernel) rfl ?_
        refine zr_iload_n (pc2 := 19) O dX7_leaving_18 rfl 0 rfl rfl ?_
        refine zr_imul (v := (nI (3 * k))) (pc2 := 20) O dX7_leaving_19 (pk_mul 3 k) rfl ?_
        refine zn_iald (j := (3 * k)) (pc2 := 21) O 0 10 0 rfl rfl rfl rfl (by omega) (by decide) dX7_leaving_20 rfl ?_
        refine zr_iload_n (pc2 := 22) O dX7_leaving_21 rfl 3 rfl rfl ?_
        refine zr_icmp_ne (tgt := 38) (pc2 := 25) O dX7_leaving_22 (by decide) rfl (fun c22 => ?_) (fun c22 => ?_)
        · refine zr_iconst (v := (nI 0)) (pc2 := 39) O dX7_leaving_38 (by decide +kernel) rfl ?_
          refine zr_iadd (v := (sum + (nI 0))) (pc2 := 40) O dX7_leaving_39 rfl rfl ?_
          refine zr_istore_n (lv2 := [(2, .int (sum + (nI 0))), (3, .int (nI k)), (0, .ref (m 31)), (1, .int (nI i))]) (pc2 := 41) O dX7_leaving_40 rfl (by decide) rfl rfl ?_
          refine zr_iinc (v := (nI (k + 1))) (lv2 := [(3, .int (nI (k + 1))), (2, .int (sum + (nI 0))), (0, .ref (m 31)), (1, .int (nI i))]) (pc2 := 44) O dX7_leaving_41 1 rfl (zm_ofInt1 k) (by decide) rfl rfl ?_
          refine zr_goto (tgt := 4) O dX7_leaving_44 (by decide) ?_
          have hE : f_X7_leaving_4 mwi i (n9 + 1) k sum = f_X7_leaving_4 mwi i n9 (k + 1) (sum + (nI 0)) := by exact (if_neg c22)
          exact ih4 (k + 1) (sum + (nI 0)) (by omega) (hF4.trans hE)
        · refine zr_aload_n (pc2 := 26) O dX7_leaving_25 rfl 2 rfl rfl ?_
          refine zr_getf (v := .ref (m 21)) (pc2 := 29) O sF_X7_leaving_47 0 0 rfl rfl rfl dX7_leaving_26 rfl ?_
          refine zr_iconst (v := (nI 3)) (pc2 := 30) O dX7_leaving_29 (by decide +kernel) rfl ?_
          refine zr_iload_n (pc2 := 31) O dX7_leaving_30 rfl 0 rfl rfl ?_
          refine zr_imul (v := (nI (3 * k))) (pc2 := 32) O dX7_leaving_31 (pk_mul 3 k) rfl ?_
          refine zr_iconst (v := (nI 2)) (pc2 := 33) O dX7_leaving_32 (by decide +kernel) rfl ?_
          refine zr_iadd (v := (nI ((3 * k) + 2))) (pc2 := 34) O dX7_leaving_33 (nI_add (3 * k) 2) rfl ?_
          refine zn_iald (j := ((3 * k) + 2)) (pc2 := 35) O 0 10 0 rfl rfl rfl rfl (by omega) (by decide) dX7_leaving_34 rfl ?_
          refine zr_goto (tgt := 39) O dX7_leaving_35 (by decide) ?_
          refine zr_iadd (v := (sum + (mwi ((3 * k) + 2)))) (pc2 := 40) O dX7_leaving_39 rfl rfl ?_
          refine zr_istore_n (lv2 := [(2, .int (sum + (mwi ((3 * k) + 2)))), (3, .int (nI k)), (0, .ref (m 31)), (1, .int (nI i))]) (pc2 := 41) O dX7_leaving_40 rfl (by decide) rfl rfl ?_
          refine zr_iinc (v := (nI (k + 1))) (lv2 := [(3, .int (nI (k + 1))), (2, .int (sum + (mwi ((3 * k) + 2)))), (0, .ref (m 31)), (1, .int (nI i))]) (pc2 := 44) O dX7_leaving_41 1 rfl (zm_ofInt1 k) (by decide) rfl rfl ?_
          refine zr_goto (tgt := 4) O dX7_leaving_44 (by decide) ?_
          have hE : f_X7_leaving_4 mwi i (n9 + 1) k sum = f_X7_leaving_4 mwi i n9 (k + 1) (sum + (mwi ((3 * k) + 2))) := by exact (if_pos c22)
          exact ih4 (k + 1) (sum + (mwi ((3 * k) + 2))) (by omega) (hF4.trans hE)
  exact lp4 mwm 0 (nI 0) (by omega) rfl
/-! X7_die -/
def f_X7_die_9 (mwi : zF) (mon : zF) (mdi : zF) (i : Nat) (yr : Nat) : Nat → Nat → zF → zF → zF → zF × zF × zF
  | 0, _, mco9, mgo9, mbr9 => (mco9, mgo9, mbr9)
  | n9 + 1, k, mco9, mgo9, mbr9 => if (mwi (3 * k)) = (nI i) then if (mco9 i) ≤ (mwi ((3 * k) + 2)) then if (mwi ((3 * k) + 1)) < 0 then f_X7_die_9 mwi mon mdi i yr n9 (k + 1) (upd mco9 i ((mco9 i) - (mco9 i))) mgo9 mbr9 else if (s_X7_lives mon (upd mdi i (nI yr)) ((mwi ((3 * k) + 1)).toNatClampNeg) yr) = true then f_X7_die_9 mwi mon mdi i yr n9 (k + 1) (upd (upd mco9 i ((mco9 i) - (mco9 i))) ((mwi ((3 * k) + 1)).toNatClampNeg) (((upd mco9 i ((mco9 i) - (mco9 i))) ((mwi ((3 * k) + 1)).toNatClampNeg)) + (mco9 i))) (upd mgo9 ((mwi ((3 * k) + 1)).toNatClampNeg) ((mgo9 ((mwi ((3 * k) + 1)).toNatClampNeg)) + (mco9 i))) (upd mbr9 k ((mbr9 k) + (mco9 i))) else f_X7_die_9 mwi mon mdi i yr n9 (k + 1) (upd mco9 i ((mco9 i) - (mco9 i))) mgo9 mbr9 else if (mwi ((3 * k) + 1)) < 0 then f_X7_die_9 mwi mon mdi i yr n9 (k + 1) (upd mco9 i ((mco9 i) - (mwi ((3 * k) + 2)))) mgo9 mbr9 else if (s_X7_lives mon (upd mdi i (nI yr)) ((mwi ((3 * k) + 1)).toNatClampNeg) yr) = true then f_X7_die_9 mwi mon mdi i yr n9 (k + 1) (upd (upd mco9 i ((mco9 i) - (mwi ((3 * k) + 2)))) ((mwi ((3 * k) + 1)).toNatClampNeg) (((upd mco9 i ((mco9 i) - (mwi ((3 * k) + 2)))) ((mwi ((3 * k) + 1)).toNatClampNeg)) + (mwi ((3 * k) + 2)))) (upd mgo9 ((mwi ((3 * k) + 1)).toNatClampNeg) ((mgo9 ((mwi ((3 * k) + 1)).toNatClampNeg)) + (mwi ((3 * k) + 2)))) (upd mbr9 k ((mbr9 k) + (mwi ((3 * k) + 2)))) else f_X7_die_9 mwi mon mdi i yr n9 (k + 1) (upd mco9 i ((mco9 i) - (mwi ((3 * k) + 2)))) mgo9 mbr9 else f_X7_die_9 mwi mon mdi i yr n9 (k + 1) mco9 mgo9 mbr9
def s_X7_die (mwm : Nat) (mwi : zF) (mon : zF) (mdi : zF) (mco : zF) (mgo : zF) (mbr : zF) (i : Nat) (yr : Nat) : zF × zF × zF × zF := let v14 := f_X7_die_9 mwi mon mdi i yr mwm 0 mco mgo mbr; ((upd mdi i (nI yr)), (upd v14.1 i (nI 0)), v14.2.1, v14.2.2)
set_option maxHeartbeats 4000000 in
set_option maxRecDepth 100000 in
theorem c_X7_die (l : Launch) (D : va_G) (cI cC cJ : ClassId) (m : Nat → Nat) (mle : Nat) (mpo : Nat) (mfa : Nat) (mrm : Nat) (mrw : Nat) (mP : Nat) (mQ : Nat) (mbk : Nat) (mkp : Nat) (msg : Nat) (mwm : Nat) (mrs : Int32) (msd : Int32) (mls : Int32) (mhd : Int32) (mtx : zF) (mnu : zF) (mrd : zF) (mrl : zF) (mpe : zF) (mno : zF) (mbo : zF) (mim : zF) (msi : zF) (mwi : zF) (mon : zF) (mdi : zF) (mco : zF) (mgo : zF) (mbr : zF) (mca : zF) (i : Nat) (yr : Nat) (hi : i < 6) (hmwm : mwm ≤ 10) (hto : ∀ k, k < mwm → ¬ mwi ((3 * k) + 1) < 0 → mwi ((3 * k) + 1) = nI (mwi ((3 * k) + 1)).toNatClampNeg ∧ (mwi ((3 * k) + 1)).toNatClampNeg < 6) : zD l yX7_die wsX7_die rm_X7_die D (zT cI cC cJ) [.ref (m 31), .int (nI i), .int (nI yr)] [modW cI m mle mpo mfa mrm mrw mP mQ mbk mkp msg mwm mrs msd mls mhd mtx mnu mrd mrl mpe mno mbo mim msi mwi mon mdi mco mgo mbr mca] none [modW cI m mle mpo mfa mrm mrw mP mQ mbk mkp msg mwm mrs msd mls mhd mtx mnu mrd mrl mpe mno mbo mim msi mwi mon ((s_X7_die mwm mwi mon mdi mco mgo mbr i yr).1) ((s_X7_die mwm mwi mon mdi mco mgo mbr i yr).2.1) ((s_X7_die mwm mwi mon mdi mco mgo mbr i yr).2.2.1) ((s_X7_die mwm mwi mon mdi mco mgo mbr i yr).2.2.2) mca] := by
  refine zD_void (cc := cX7_die) (maxL := 6) (lv := [(0, .ref (m 31)), (1, .int (nI i)), (2, .int (nI yr))]) (by decide +kernel) rfl (Nat.le_of_ble_eq_true rfl) rfl (fun Z O hret => ?_)
  refine zr_aload_n (pc2 := 1) O dX7_die_0 rfl 0 rfl rfl ?_
  refine zr_getf (v := .ref (m 25)) (pc2 := 4) O sF_X7_die_53 0 0 rfl rfl rfl dX7_die_1 rfl ?_
  refine zr_iload_n (pc2 := 5) O dX7_die_4 rfl 1 rfl rfl ?_
  refine zr_iload_n (pc2 := 6) O dX7_die_5 rfl 2 rfl rfl ?_
  refine zn_iast (j := i) (G2 := modW cI m mle mpo mfa mrm mrw mP mQ mbk mkp msg mwm mrs msd mls mhd mtx mnu mrd mrl mpe mno mbo mim msi mwi mon (upd mdi i (nI yr)) mco mgo mbr mca) (ws2 := [modW cI m mle mpo mfa mrm mrw mP mQ mbk mkp msg mwm mrs msd mls mhd mtx mnu mrd mrl mpe mno mbo mim msi mwi mon (upd mdi i (nI yr)) mco mgo mbr mca]) (pc2 := 7) O 0 12 0 rfl rfl rfl rfl (by omega) (by decide) dX7_die_6 rfl rfl rfl ?_
  refine zr_iconst (v := (nI 0)) (pc2 := 8) O dX7_die_7 (by decide +kernel) rfl ?_
  refine zr_istore_n (lv2 := [(3, .int (nI 0)), (0, .ref (m 31)), (1, .int (nI i)), (2, .int (nI yr))]) (pc2 := 9) O dX7_die_8 rfl (by decide) rfl rfl ?_
  have lp9 : ∀ (n9 : Nat) (k : Nat) (mco9 : zF) (mgo9 : zF) (mbr9 : zF), k + n9 = mwm → f_X7_die_9 mwi mon mdi i yr mwm 0 mco mgo mbr = f_X7_die_9 mwi mon mdi i yr n9 k mco9 mgo9 mbr9 → Z [modW cI m mle mpo mfa mrm mrw mP mQ mbk mkp msg mwm mrs msd mls mhd mtx mnu mrd mrl mpe mno mbo mim msi mwi mon (upd mdi i (nI yr)) mco9 mgo9 mbr9 mca] [(3, .int (nI k)), (0, .ref (m 31)), (1, .int (nI i)), (2, .int (nI yr))] 9 [] := by
    intro n9
    induction n9 with
    | zero =>
      intro k mco9 mgo9 mbr9 hM9 hF9
      have hI9 : mwm = k := by omega
      subst hI9
      obtain ⟨v14, hv14⟩ : ∃ z9, z9 = f_X7_die_9 mwi mon mdi i yr mwm 0 mco mgo mbr := ⟨_, rfl⟩
      rw [← hv14] at hF9
      have e9 : v14.1 = mco9 := congrArg (fun z => z.1) hF9
      subst e9
      have e9 : v14.2.1 = mgo9 := congrArg (fun z => z.2.1) hF9
      subst e9
      have e9 : v14.2.2 = mbr9 := congrArg (fun z => z.2.2) hF9
      subst e9
      refine zr_iload_n (pc2 := 10) O dX7_die_9 rfl 0 rfl rfl ?_
      refine zr_aload_n (pc2 := 11) O dX7_die_10 rfl 1 rfl rfl ?_
      refine zr_getf (v := .int (nI mwm)) (pc2 := 14) O sF_X7_die_138 0 0 rfl rfl rfl dX7_die_11 rfl ?_
      refine zn_icmp_ge (tgt := 148) (pc2 := 17) O dX7_die_14 (by decide) rfl (by omega) (by omega) (fun c14 => ?_) (fun c14 => ?_)
      · refine zr_aload_n (pc2 := 149) O dX7_die_148 rfl 1 rfl rfl ?_
        refine zr_getf (v := .ref (m 26)) (pc2 := 152) O sF_X7_die_56 0 0 rfl rfl rfl dX7_die_149 rfl ?_
        refine zr_iload_n (pc2 := 153) O dX7_die_152 rfl 2 rfl rfl ?_
        refine zr_iconst (v := (nI 0)) (pc2 := 154) O dX7_die_153 (by decide +kernel) rfl ?_
        refine zn_iast (j := i) (G2 := modW cI m mle mpo mfa mrm mrw mP mQ mbk mkp msg mwm mrs msd mls mhd mtx mnu mrd mrl mpe mno mbo mim msi mwi mon (upd mdi i (nI yr)) (upd v14.1 i (nI 0)) v14.2.1 v14.2.2 mca) (ws2 := [modW cI m mle mpo mfa mrm mrw mP mQ mbk mkp msg mwm mrs msd mls mhd mtx mnu mrd mrl mpe mno mbo mim msi mwi mon (upd mdi i (nI yr)) (upd v14.1 i (nI 0)) v14.2.1 v14.2.2 mca]) (pc2 := 155) O 0 13 0 rfl rfl rfl rfl (by omega) (by decide) dX7_die_154 rfl rfl rfl ?_
        have hE : s_X7_die mwm mwi mon mdi mco mgo mbr i yr = ((upd mdi i (nI yr)), (upd v14.1 i (nI 0)), v14.2.1, v14.2.2) := by subst hv14; exact rfl
        exact hret _ _ _ dX7_die_155 (by rw [hE])
      · exact absurd c14 (by omega)
    | succ n9 ih9 =>
      intro k mco9 mgo9 mbr9 hM9 hF9
      refine zr_iload_n (pc2 := 10) O dX7_die_9 rfl 0 rfl rfl ?_
      refine zr_aload_n (pc2 := 11) O dX7_die_10 rfl 1 rfl rfl ?_
      refine zr_getf (v := .int (nI mwm)) (pc2 := 14) O sF_X7_die_138 0 0 rfl rfl rfl dX7_die_11 rfl ?_
      refine zn_icmp_ge (tgt := 148) (pc2 := 17) O dX7_die_14 (by decide) rfl (by omega) (by omega) (fun c14 => ?_) (fun c14 => ?_)
      · exact absurd c14 (by omega)
      · refine zr_aload_n (pc2 := 18) O dX7_die_17 rfl 1 rfl rfl ?_
        refine zr_getf (v := .ref (m 21)) (pc2 := 21) O sF_X7_die_47 0 0 rfl rfl rfl dX7_die_18 rfl ?_
        refine zr_iconst (v := (nI 3)) (pc2 := 22) O dX7_die_21 (by decide +kernel) rfl ?_
        refine zr_iload_n (pc2 := 23) O dX7_die_22 rfl 0 rfl rfl ?_
        refine zr_imul (v := (nI (3 * k))) (pc2 := 24) O dX7_die_23 (pk_mul 3 k) rfl ?_
        refine zn_iald (j := (3 * k)) (pc2 := 25) O 0 10 0 rfl rfl rfl rfl (by omega) (by decide) dX7_die_24 rfl ?_
        refine zr_iload_n (pc2 := 26) O dX7_die_25 rfl 2 rfl rfl ?_
        refine zr_icmp_ne (tgt := 142) (pc2 := 29) O dX7_die_26 (by decide) rfl (fun c26 => ?_) (fun c26 => ?_)
        · refine zr_iinc (v := (nI (k + 1))) (lv2 := [(3, .int (nI (k + 1))), (0, .ref (m 31)), (1, .int (nI i)), (2, .int (nI yr))]) (pc2 := 145) O dX7_die_142 0 rfl (zm_ofInt1 k) (by decide) rfl rfl ?_
          refine zr_goto (tgt := 9) O dX7_die_145 (by decide) ?_
          have hE : f_X7_die_9 mwi mon mdi i yr (n9 + 1) k mco9 mgo9 mbr9 = f_X7_die_9 mwi mon mdi i yr n9 (k + 1) mco9 mgo9 mbr9 := by exact (if_neg c26)
          exact ih9 (k + 1) mco9 mgo9 mbr9 (by omega) (hF9.trans hE)
        · refine zr_aload_n (pc2 := 30) O dX7_die_29 rfl 1 rfl rfl ?_
          refine zr_getf (v := .ref (m 21)) (pc2 := 33) O sF_X7_die_47 0 0 rfl rfl rfl dX7_die_30 rfl ?_
          refine zr_iconst (v := (nI 3)) (pc2 := 34) O dX7_die_33 (by decide +kernel) rfl ?_
          refine zr_iload_n (pc2 := 35) O dX7_die_34 rfl 0 rfl rfl ?_
          refine zr_imul (v := (nI (3 * k))) (pc2 := 36) O dX7_die_35 (pk_mul 3 k) rfl ?_
          refine zr_iconst (v := (nI 1)) (pc2 := 37) O dX7_die_36 (by decide +kernel) rfl ?_
          refine zr_iadd (v := (nI ((3 * k) + 1))) (pc2 := 38) O dX7_die_37 (nI_add (3 * k) 1) rfl ?_
          refine zn_iald (j := ((3 * k) + 1)) (pc2 := 39) O 0 10 0 rfl rfl rfl rfl (by omega) (by decide) dX7_die_38 rfl ?_
          refine zr_istore (lv2 := [(4, .int (mwi ((3 * k) + 1))), (3, .int (nI k)), (0, .ref (m 31)), (1, .int (nI i)), (2, .int (nI yr))]) (pc2 := 41) O dX7_die_39 (by decide) rfl rfl ?_
          refine zr_aload_n (pc2 := 42) O dX7_die_41 rfl 2 rfl rfl ?_
          refine zr_getf (v := .ref (m 21)) (pc2 := 45) O sF_X7_die_47 0 0 rfl rfl rfl dX7_die_42 rfl ?_
          refine zr_iconst (v := (nI 3)) (pc2 := 46) O dX7_die_45 (by decide +kernel) rfl ?_
          refine zr_iload_n (pc2 := 47) O dX7_die_46 rfl 1 rfl rfl ?_
          refine zr_imul (v := (nI (3 * k))) (pc2 := 48) O dX7_die_47 (pk_mul 3 k) rfl ?_
          refine zr_iconst (v := (nI 2)) (pc2 := 49) O dX7_die_48 (by decide +kernel) rfl ?_
          refine zr_iadd (v := (nI ((3 * k) + 2))) (pc2 := 50) O dX7_die_49 (nI_add (3 * k) 2) rfl ?_
          refine zn_iald (j := ((3 * k) + 2)) (pc2 := 51) O 0 10 0 rfl rfl rfl rfl (by omega) (by decide) dX7_die_50 rfl ?_
          refine zr_aload_n (pc2 := 52) O dX7_die_51 rfl 2 rfl rfl ?_
          refine zr_getf (v := .ref (m 26)) (pc2 := 55) O sF_X7_die_56 0 0 rfl rfl rfl dX7_die_52 rfl ?_
          refine zr_iload_n (pc2 := 56) O dX7_die_55 rfl 3 rfl rfl ?_
          refine zn_iald (j := i) (pc2 := 57) O 0 13 0 rfl rfl rfl rfl (by omega) (by decide) dX7_die_56 rfl ?_
          refine zr_icmp_ge (tgt := 73) (pc2 := 60) O dX7_die_57 (by decide) rfl (fun c57 => ?_) (fun c57 => ?_)
          · refine zr_aload_n (pc2 := 74) O dX7_die_73 rfl 2 rfl rfl ?_
            refine zr_getf (v := .ref (m 26)) (pc2 := 77) O sF_X7_die_56 0 0 rfl rfl rfl dX7_die_74 rfl ?_
            refine zr_iload_n (pc2 := 78) O dX7_die_77 rfl 3 rfl rfl ?_
            refine zn_iald (j := i) (pc2 := 79) O 0 13 0 rfl rfl rfl rfl (by omega) (by decide) dX7_die_78 rfl ?_
            refine zr_istore (lv2 := [(5, .int (mco9 i)), (4, .int (mwi ((3 * k) + 1))), (3, .int (nI k)), (0, .ref (m 31)), (1, .int (nI i)), (2, .int (nI yr))]) (pc2 := 81) O dX7_die_79 (by decide) rfl rfl ?_
            refine zr_aload_n (pc2 := 82) O dX7_die_81 rfl 3 rfl rfl ?_
            refine zr_getf (v := .ref (m 26)) (pc2 := 85) O sF_X7_die_56 0 0 rfl rfl rfl dX7_die_82 rfl ?_
            refine zr_iload_n (pc2 := 86) O dX7_die_85 rfl 4 rfl rfl ?_
            refine zr_dup2 (pc2 := 87) O dX7_die_86 rfl rfl rfl ?_
            refine zn_iald (j := i) (pc2 := 88) O 0 13 0 rfl rfl rfl rfl (by omega) (by decide) dX7_die_87 rfl ?_
            refine zr_iload (pc2 := 90) O dX7_die_88 0 rfl rfl ?_
            refine zr_isub (v := ((mco9 i) - (mco9 i))) (pc2 := 91) O dX7_die_90 rfl rfl ?_
            refine zn_iast (j := i) (G2 := modW cI m mle mpo mfa mrm mrw mP mQ mbk mkp msg mwm mrs msd mls mhd mtx mnu mrd mrl mpe mno mbo mim msi mwi mon (upd mdi i (nI yr)) (upd mco9 i ((mco9 i) - (mco9 i))) mgo9 mbr9 mca) (ws2 := [modW cI m mle mpo mfa mrm mrw mP mQ mbk mkp msg mwm mrs msd mls mhd mtx mnu mrd mrl mpe mno mbo mim msi mwi mon (upd mdi i (nI yr)) (upd mco9 i ((mco9 i) - (mco9 i))) mgo9 mbr9 mca]) (pc2 := 92) O 0 13 0 rfl rfl rfl rfl (by omega) (by decide) dX7_die_91 rfl rfl rfl ?_
            refine zr_iload (pc2 := 94) O dX7_die_92 1 rfl rfl ?_
            refine zr_if_lt (tgt := 142) (pc2 := 97) O dX7_die_94 (by decide) rfl (fun c94 => ?_) (fun c94 => ?_)
            · refine zr_iinc (v := (nI (k + 1))) (lv2 := [(3, .int (nI (k + 1))), (5, .int (mco9 i)), (4, .int (mwi ((3 * k) + 1))), (0, .ref (m 31)), (1, .int (nI i)), (2, .int (nI yr))]) (pc2 := 145) O dX7_die_142 2 rfl (zm_ofInt1 k) (by decide) rfl rfl ?_
              refine zr_goto (tgt := 9) O dX7_die_145 (by decide) ?_
              refine zr_sub (lv2 := [(3, .int (nI (k + 1))), (0, .ref (m 31)), (1, .int (nI i)), (2, .int (nI yr))]) O [0, 3, 4, 5] rfl ?_
              have hE : f_X7_die_9 mwi mon mdi i yr (n9 + 1) k mco9 mgo9 mbr9 = f_X7_die_9 mwi mon mdi i yr n9 (k + 1) (upd mco9 i ((mco9 i) - (mco9 i))) mgo9 mbr9 := by exact ((if_pos c26).trans ((if_pos c57).trans (if_pos c94)))
              exact ih9 (k + 1) (upd mco9 i ((mco9 i) - (mco9 i))) mgo9 mbr9 (by omega) (hF9.trans hE)
            · have hc4 := (hto k (by omega) c94)
              rw [hc4.1]
              refine zr_aload_n (pc2 := 98) O dX7_die_97 rfl 3 rfl rfl ?_
              refine zr_iload (pc2 := 100) O dX7_die_98 1 rfl rfl ?_
              refine zr_iload_n (pc2 := 101) O dX7_die_100 rfl 5 rfl rfl ?_
              refine zr_callV (As := [.int (nI ((mwi ((3 * k) + 1)).toNatClampNeg)), .int (nI yr)]) (rest := []) (ws2 := [modW cI m mle mpo mfa mrm mrw mP mQ mbk mkp msg mwm mrs msd mls mhd mtx mnu mrd mrl mpe mno mbo mim msi mwi mon (upd mdi i (nI yr)) (upd mco9 i ((mco9 i) - (mco9 i))) mgo9 mbr9 mca]) (pc2 := 104) (ci := 7) (g0 := 0) (q0 := 0) O (c_X7_lives l D cI cC cJ m mle mpo mfa mrm mrw mP mQ mbk mkp msg mwm mrs msd mls mhd mtx mnu mrd mrl mpe mno mbo mim msi mwi mon (upd mdi i (nI yr)) (upd mco9 i ((mco9 i) - (mco9 i))) mgo9 mbr9 mca ((mwi ((3 * k) + 1)).toNatClampNeg) yr (by first | assumption | omega)) sC_X7_die_156 rfl rfl rfl rfl rfl dX7_die_101 [0] rfl rfl rfl rfl (Nat.le_of_ble_eq_true rfl) rfl ?_
              show Z _ _ _ [.int (zb (s_X7_lives mon (upd mdi i (nI yr)) ((mwi ((3 * k) + 1)).toNatClampNeg) yr))]
              refine zb_if_eq (tgt := 142) (pc2 := 107) O dX7_die_104 (by decide) rfl (fun c104 => ?_) (fun c104 => ?_)
              · refine zr_iinc (v := (nI (k + 1))) (lv2 := [(3, .int (nI (k + 1))), (5, .int (mco9 i)), (4, .int (nI ((mwi ((3 * k) + 1)).toNatClampNeg))), (0, .ref (m 31)), (1, .int (nI i)), (2, .int (nI yr))]) (pc2 := 145) O dX7_die_142 2 rfl (zm_ofInt1 k) (by decide) rfl rfl ?_
                refine zr_goto (tgt := 9) O dX7_die_145 (by decide) ?_
                refine zr_sub (lv2 := [(3, .int (nI (k + 1))), (0, .ref (m 31)), (1, .int (nI i)), (2, .int (nI yr))]) O [0, 3, 4, 5] rfl ?_
                have hE : f_X7_die_9 mwi mon mdi i yr (n9 + 1) k mco9 mgo9 mbr9 = f_X7_die_9 mwi mon mdi i yr n9 (k + 1) (upd mco9 i ((mco9 i) - (mco9 i))) mgo9 mbr9 := by exact ((if_pos c26).trans ((if_pos c57).trans ((if_neg c94).trans (zif_f c104))))
                exact ih9 (k + 1) (upd mco9 i ((mco9 i) - (mco9 i))) mgo9 mbr9 (by omega) (hF9.trans hE)
              · refine zr_aload_n (pc2 := 108) O dX7_die_107 rfl 3 rfl rfl ?_
                refine zr_getf (v := .ref (m 28)) (pc2 := 111) O sF_X7_die_62 0 0 rfl rfl rfl dX7_die_108 rfl ?_
                refine zr_iload_n (pc2 := 112) O dX7_die_111 rfl 2 rfl rfl ?_
                refine zr_dup2 (pc2 := 113) O dX7_die_112 rfl rfl rfl ?_
                refine zn_iald (j := k) (pc2 := 114) O 0 15 0 rfl rfl rfl rfl (by omega) (by decide) dX7_die_113 rfl ?_
                refine zr_iload (pc2 := 116) O dX7_die_114 0 rfl rfl ?_
                refine zr_iadd (v := ((mbr9 k) + (mco9 i))) (pc2 := 117) O dX7_die_116 rfl rfl ?_
                refine zn_iast (j := k) (G2 := modW cI m mle mpo mfa mrm mrw mP mQ mbk mkp msg mwm mrs msd mls mhd mtx mnu mrd mrl mpe mno mbo mim msi mwi mon (upd mdi i (nI yr)) (upd mco9 i ((mco9 i) - (mco9 i))) mgo9 (upd mbr9 k ((mbr9 k) + (mco9 i))) mca) (ws2 := [modW cI m mle mpo mfa mrm mrw mP mQ mbk mkp msg mwm mrs msd mls mhd mtx mnu mrd mrl mpe mno mbo mim msi mwi mon (upd mdi i (nI yr)) (upd mco9 i ((mco9 i) - (mco9 i))) mgo9 (upd mbr9 k ((mbr9 k) + (mco9 i))) mca]) (pc2 := 118) O 0 15 0 rfl rfl rfl rfl (by omega) (by decide) dX7_die_117 rfl rfl rfl ?_
                refine zr_aload_n (pc2 := 119) O dX7_die_118 rfl 3 rfl rfl ?_
                refine zr_getf (v := .ref (m 26)) (pc2 := 122) O sF_X7_die_56 0 0 rfl rfl rfl dX7_die_119 rfl ?_
                refine zr_iload (pc2 := 124) O dX7_die_122 1 rfl rfl ?_
                refine zr_dup2 (pc2 := 125) O dX7_die_124 rfl rfl rfl ?_
                refine zn_iald (j := ((mwi ((3 * k) + 1)).toNatClampNeg)) (pc2 := 126) O 0 13 0 rfl rfl rfl rfl (by omega) (by decide) dX7_die_125 rfl ?_
                refine zr_iload (pc2 := 128) O dX7_die_126 0 rfl rfl ?_
                refine zr_iadd (v := (((upd mco9 i ((mco9 i) - (mco9 i))) ((mwi ((3 * k) + 1)).toNatClampNeg)) + (mco9 i))) (pc2 := 129) O dX7_die_128 rfl rfl ?_
                refine zn_iast (j := ((mwi ((3 * k) + 1)).toNatClampNeg)) (G2 := modW cI m mle mpo mfa mrm mrw mP mQ mbk mkp msg mwm mrs msd mls mhd mtx mnu mrd mrl mpe mno mbo mim msi mwi mon (upd mdi i (nI yr)) (upd (upd mco9 i ((mco9 i) - (mco9 i))) ((mwi ((3 * k) + 1)).toNatClampNeg) (((upd mco9 i ((mco9 i) - (mco9 i))) ((mwi ((3 * k) + 1)).toNatClampNeg)) + (mco9 i))) mgo9 (upd mbr9 k ((mbr9 k) + (mco9 i))) mca) (ws2 := [modW cI m mle mpo mfa mrm mrw mP mQ mbk mkp msg mwm mrs msd mls mhd mtx mnu mrd mrl mpe mno mbo mim msi mwi mon (upd mdi i (nI yr)) (upd (upd mco9 i ((mco9 i) - (mco9 i))) ((mwi ((3 * k) + 1)).toNatClampNeg) (((upd mco9 i ((mco9 i) - (mco9 i))) ((mwi ((3 * k) + 1)).toNatClampNeg)) + (mco9 i))) mgo9 (upd mbr9 k ((mbr9 k) + (mco9 i))) mca]) (pc2 := 130) O 0 13 0 rfl rfl rfl rfl (by omega) (by decide) dX7_die_129 rfl rfl rfl ?_
                refine zr_aload_n (pc2 := 131) O dX7_die_130 rfl 3 rfl rfl ?_
                refine zr_getf (v := .ref (m 27)) (pc2 := 134) O sF_X7_die_59 0 0 rfl rfl rfl dX7_die_131 rfl ?_
                refine zr_iload (pc2 := 136) O dX7_die_134 1 rfl rfl ?_
                refine zr_dup2 (pc2 := 137) O dX7_die_136 rfl rfl rfl ?_
                refine zn_iald (j := ((mwi ((3 * k) + 1)).toNatClampNeg)) (pc2 := 138) O 0 14 0 rfl rfl rfl rfl (by omega) (by decide) dX7_die_137 rfl ?_
                refine zr_iload (pc2 := 140) O dX7_die_138 0 rfl rfl ?_
                refine zr_iadd (v := ((mgo9 ((mwi ((3 * k) + 1)).toNatClampNeg)) + (mco9 i))) (pc2 := 141) O dX7_die_140 rfl rfl ?_
                refine zn_iast (j := ((mwi ((3 * k) + 1)).toNatClampNeg)) (G2 := modW cI m mle mpo mfa mrm mrw mP mQ mbk mkp msg mwm mrs msd mls mhd mtx mnu mrd mrl mpe mno mbo mim msi mwi mon (upd mdi i (nI yr)) (upd (upd mco9 i ((mco9 i) - (mco9 i))) ((mwi ((3 * k) + 1)).toNatClampNeg) (((upd mco9 i ((mco9 i) - (mco9 i))) ((mwi ((3 * k) + 1)).toNatClampNeg)) + (mco9 i))) (upd mgo9 ((mwi ((3 * k) + 1)).toNatClampNeg) ((mgo9 ((mwi ((3 * k) + 1)).toNatClampNeg)) + (mco9 i))) (upd mbr9 k ((mbr9 k) + (mco9 i))) mca) (ws2 := [modW cI m mle mpo mfa mrm mrw mP mQ mbk mkp msg mwm mrs msd mls mhd mtx mnu mrd mrl mpe mno mbo mim msi mwi mon (upd mdi i (nI yr)) (upd (upd mco9 i ((mco9 i) - (mco9 i))) ((mwi ((3 * k) + 1)).toNatClampNeg) (((upd mco9 i ((mco9 i) - (mco9 i))) ((mwi ((3 * k) + 1)).toNatClampNeg)) + (mco9 i))) (upd mgo9 ((mwi ((3 * k) + 1)).toNatClampNeg) ((mgo9 ((mwi ((3 * k) + 1)).toNatClampNeg)) + (mco9 i))) (upd mbr9 k ((mbr9 k) + (mco9 i))) mca]) (pc2 := 142) O 0 14 0 rfl rfl rfl rfl (by omega) (by decide) dX7_die_141 rfl rfl rfl ?_
                refine zr_iinc (v := (nI (k + 1))) (lv2 := [(3, .int (nI (k + 1))), (5, .int (mco9 i)), (4, .int (nI ((mwi ((3 * k) + 1)).toNatClampNeg))), (0, .ref (m 31)), (1, .int (nI i)), (2, .int (nI yr))]) (pc2 := 145) O dX7_die_142 2 rfl (zm_ofInt1 k) (by decide) rfl rfl ?_
                refine zr_goto (tgt := 9) O dX7_die_145 (by decide) ?_
                refine zr_sub (lv2 := [(3, .int (nI (k + 1))), (0, .ref (m 31)), (1, .int (nI i)), (2, .int (nI yr))]) O [0, 3, 4, 5] rfl ?_
                have hE : f_X7_die_9 mwi mon mdi i yr (n9 + 1) k mco9 mgo9 mbr9 = f_X7_die_9 mwi mon mdi i yr n9 (k + 1) (upd (upd mco9 i ((mco9 i) - (mco9 i))) ((mwi ((3 * k) + 1)).toNatClampNeg) (((upd mco9 i ((mco9 i) - (mco9 i))) ((mwi ((3 * k) + 1)).toNatClampNeg)) + (mco9 i))) (upd mgo9 ((mwi ((3 * k) + 1)).toNatClampNeg) ((mgo9 ((mwi ((3 * k) + 1)).toNatClampNeg)) + (mco9 i))) (upd mbr9 k ((mbr9 k) + (mco9 i))) := by exact ((if_pos c26).trans ((if_pos c57).trans ((if_neg c94).trans (zif_t c104))))
                exact ih9 (k + 1) (upd (upd mco9 i ((mco9 i) - (mco9 i))) ((mwi ((3 * k) + 1)).toNatClampNeg) (((upd mco9 i ((mco9 i) - (mco9 i))) ((mwi ((3 * k) + 1)).toNatClampNeg)) + (mco9 i))) (upd mgo9 ((mwi ((3 * k) + 1)).toNatClampNeg) ((mgo9 ((mwi ((3 * k) + 1)).toNatClampNeg)) + (mco9 i))) (upd mbr9 k ((mbr9 k) + (mco9 i))) (by omega) (hF9.trans hE)
          · refine zr_aload_n (pc2 := 61) O dX7_die_60 rfl 2 rfl rfl ?_
            refine zr_getf (v := .ref (m 21)) (pc2 := 64) O sF_X7_die_47 0 0 rfl rfl rfl dX7_die_61 rfl ?_
            refine zr_iconst (v := (nI 3)) (pc2 := 65) O dX7_die_64 (by decide +kernel) rfl ?_
            refine zr_iload_n (pc2 := 66) O dX7_die_65 rfl 1 rfl rfl ?_
            refine zr_imul (v := (nI (3 * k))) (pc2 := 67) O dX7_die_66 (pk_mul 3 k) rfl ?_
            refine zr_iconst (v := (nI 2)) (pc2 := 68) O dX7_die_67 (by decide +kernel) rfl ?_
            refine zr_iadd (v := (nI ((3 * k) + 2))) (pc2 := 69) O dX7_die_68 (nI_add (3 * k) 2) rfl ?_
            refine zn_iald (j := ((3 * k) + 2)) (pc2 := 70) O 0 10 0 rfl rfl rfl rfl (by omega) (by decide) dX7_die_69 rfl ?_
            refine zr_goto (tgt := 79) O dX7_die_70 (by decide) ?_
            refine zr_istore (lv2 := [(5, .int (mwi ((3 * k) + 2))), (4, .int (mwi ((3 * k) + 1))), (3, .int (nI k)), (0, .ref (m 31)), (1, .int (nI i)), (2, .int (nI yr))]) (pc2 := 81) O dX7_die_79 (by decide) rfl rfl ?_
            refine zr_aload_n (pc2 := 82) O dX7_die_81 rfl 3 rfl rfl ?_
            refine zr_getf (v := .ref (m 26)) (pc2 := 85) O sF_X7_die_56 0 0 rfl rfl rfl dX7_die_82 rfl ?_
            refine zr_iload_n (pc2 := 86) O dX7_die_85 rfl 4 rfl rfl ?_
            refine zr_dup2 (pc2 := 87) O dX7_die_86 rfl rfl rfl ?_
            refine zn_iald (j := i) (pc2 := 88) O 0 13 0 rfl rfl rfl rfl (by omega) (by decide) dX7_die_87 rfl ?_
            refine zr_iload (pc2 := 90) O dX7_die_88 0 rfl rfl ?_
            refine zr_isub (v := ((mco9 i) - (mwi ((3 * k) + 2)))) (pc2 := 91) O dX7_die_90 rfl rfl ?_
            refine zn_iast (j := i) (G2 := modW cI m mle mpo mfa mrm mrw mP mQ mbk mkp msg mwm mrs msd mls mhd mtx mnu mrd mrl mpe mno mbo mim msi mwi mon (upd mdi i (nI yr)) (upd mco9 i ((mco9 i) - (mwi ((3 * k) + 2)))) mgo9 mbr9 mca) (ws2 := [modW cI m mle mpo mfa mrm mrw mP mQ mbk mkp msg mwm mrs msd mls mhd mtx mnu mrd mrl mpe mno mbo mim msi mwi mon (upd mdi i (nI yr)) (upd mco9 i ((mco9 i) - (mwi ((3 * k) + 2)))) mgo9 mbr9 mca]) (pc2 := 92) O 0 13 0 rfl rfl rfl rfl (by omega) (by decide) dX7_die_91 rfl rfl rfl ?_
            refine zr_iload (pc2 := 94) O dX7_die_92 1 rfl rfl ?_
            refine zr_if_lt (tgt := 142) (pc2 := 97) O dX7_die_94 (by decide) rfl (fun c94 => ?_) (fun c94 => ?_)
            · refine zr_iinc (v := (nI (k + 1))) (lv2 := [(3, .int (nI (k + 1))), (5, .int (mwi ((3 * k) + 2))), (4, .int (mwi ((3 * k) + 1))), (0, .ref (m 31)), (1, .int (nI i)), (2, .int (nI yr))]) (pc2 := 145) O dX7_die_142 2 rfl (zm_ofInt1 k) (by decide) rfl rfl ?_
              refine zr_goto (tgt := 9) O dX7_die_145 (by decide) ?_
              refine zr_sub (lv2 := [(3, .int (nI (k + 1))), (0, .ref (m 31)), (1, .int (nI i)), (2, .int (nI yr))]) O [0, 3, 4, 5] rfl ?_
              have hE : f_X7_die_9 mwi mon mdi i yr (n9 + 1) k mco9 mgo9 mbr9 = f_X7_die_9 mwi mon mdi i yr n9 (k + 1) (upd mco9 i ((mco9 i) - (mwi ((3 * k) + 2)))) mgo9 mbr9 := by exact ((if_pos c26).trans ((if_neg c57).trans (if_pos c94)))
              exact ih9 (k + 1) (upd mco9 i ((mco9 i) - (mwi ((3 * k) + 2)))) mgo9 mbr9 (by omega) (hF9.trans hE)
            · have hc4 := (hto k (by omega) c94)
              rw [hc4.1]
              refine zr_aload_n (pc2 := 98) O dX7_die_97 rfl 3 rfl rfl ?_
              refine zr_iload (pc2 := 100) O dX7_die_98 1 rfl rfl ?_
              refine zr_iload_n (pc2 := 101) O dX7_die_100 rfl 5 rfl rfl ?_
              refine zr_callV (As := [.int (nI ((mwi ((3 * k) + 1)).toNatClampNeg)), .int (nI yr)]) (rest := []) (ws2 := [modW cI m mle mpo mfa mrm mrw mP mQ mbk mkp msg mwm mrs msd mls mhd mtx mnu mrd mrl mpe mno mbo mim msi mwi mon (upd mdi i (nI yr)) (upd mco9 i ((mco9 i) - (mwi ((3 * k) + 2)))) mgo9 mbr9 mca]) (pc2 := 104) (ci := 7) (g0 := 0) (q0 := 0) O (c_X7_lives l D cI cC cJ m mle mpo mfa mrm mrw mP mQ mbk mkp msg mwm mrs msd mls mhd mtx mnu mrd mrl mpe mno mbo mim msi mwi mon (upd mdi i (nI yr)) (upd mco9 i ((mco9 i) - (mwi ((3 * k) + 2)))) mgo9 mbr9 mca ((mwi ((3 * k) + 1)).toNatClampNeg) yr (by first | assumption | omega)) sC_X7_die_156 rfl rfl rfl rfl rfl dX7_die_101 [0] rfl rfl rfl rfl (Nat.le_of_ble_eq_true rfl) rfl ?_
              show Z _ _ _ [.int (zb (s_X7_lives mon (upd mdi i (nI yr)) ((mwi ((3 * k) + 1)).toNatClampNeg) yr))]
              refine zb_if_eq (tgt := 142) (pc2 := 107) O dX7_die_104 (by decide) rfl (fun c104 => ?_) (fun c104 => ?_)
              · refine zr_iinc (v := (nI (k + 1))) (lv2 := [(3, .int (nI (k + 1))), (5, .int (mwi ((3 * k) + 2))), (4, .int (nI ((mwi ((3 * k) + 1)).toNatClampNeg))), (0, .ref (m 31)), (1, .int (nI i)), (2, .int (nI yr))]) (pc2 := 145) O dX7_die_142 2 rfl (zm_ofInt1 k) (by decide) rfl rfl ?_
                refine zr_goto (tgt := 9) O dX7_die_145 (by decide) ?_
                refine zr_sub (lv2 := [(3, .int (nI (k + 1))), (0, .ref (m 31)), (1, .int (nI i)), (2, .int (nI yr))]) O [0, 3, 4, 5] rfl ?_
                have hE : f_X7_die_9 mwi mon mdi i yr (n9 + 1) k mco9 mgo9 mbr9 = f_X7_die_9 mwi mon mdi i yr n9 (k + 1) (upd mco9 i ((mco9 i) - (mwi ((3 * k) + 2)))) mgo9 mbr9 := by exact ((if_pos c26).trans ((if_neg c57).trans ((if_neg c94).trans (zif_f c104))))
                exact ih9 (k + 1) (upd mco9 i ((mco9 i) - (mwi ((3 * k) + 2)))) mgo9 mbr9 (by omega) (hF9.trans hE)
              · refine zr_aload_n (pc2 := 108) O dX7_die_107 rfl 3 rfl rfl ?_
                refine zr_getf (v := .ref (m 28)) (pc2 := 111) O sF_X7_die_62 0 0 rfl rfl rfl dX7_die_108 rfl ?_
                refine zr_iload_n (pc2 := 112) O dX7_die_111 rfl 2 rfl rfl ?_
                refine zr_dup2 (pc2 := 113) O dX7_die_112 rfl rfl rfl ?_
                refine zn_iald (j := k) (pc2 := 114) O 0 15 0 rfl rfl rfl rfl (by omega) (by decide) dX7_die_113 rfl ?_
                refine zr_iload (pc2 := 116) O dX7_die_114 0 rfl rfl ?_
                refine zr_iadd (v := ((mbr9 k) + (mwi ((3 * k) + 2)))) (pc2 := 117) O dX7_die_116 rfl rfl ?_
                refine zn_iast (j := k) (G2 := modW cI m mle mpo mfa mrm mrw mP mQ mbk mkp msg mwm mrs msd mls mhd mtx mnu mrd mrl mpe mno mbo mim msi mwi mon (upd mdi i (nI yr)) (upd mco9 i ((mco9 i) - (mwi ((3 * k) + 2)))) mgo9 (upd mbr9 k ((mbr9 k) + (mwi ((3 * k) + 2)))) mca) (ws2 := [modW cI m mle mpo mfa mrm mrw mP mQ mbk mkp msg mwm mrs msd mls mhd mtx mnu mrd mrl mpe mno mbo mim msi mwi mon (upd mdi i (nI yr)) (upd mco9 i ((mco9 i) - (mwi ((3 * k) + 2)))) mgo9 (upd mbr9 k ((mbr9 k) + (mwi ((3 * k) + 2)))) mca]) (pc2 := 118) O 0 15 0 rfl rfl rfl rfl (by omega) (by decide) dX7_die_117 rfl rfl rfl ?_
                refine zr_aload_n (pc2 := 119) O dX7_die_118 rfl 3 rfl rfl ?_
                refine zr_getf (v := .ref (m 26)) (pc2 := 122) O sF_X7_die_56 0 0 rfl rfl rfl dX7_die_119 rfl ?_
                refine zr_iload (pc2 := 124) O dX7_die_122 1 rfl rfl ?_
                refine zr_dup2 (pc2 := 125) O dX7_die_124 rfl rfl rfl ?_
                refine zn_iald (j := ((mwi ((3 * k) + 1)).toNatClampNeg)) (pc2 := 126) O 0 13 0 rfl rfl rfl rfl (by omega) (by decide) dX7_die_125 rfl ?_
                refine zr_iload (pc2 := 128) O dX7_die_126 0 rfl rfl ?_
                refine zr_iadd (v := (((upd mco9 i ((mco9 i) - (mwi ((3 * k) + 2)))) ((mwi ((3 * k) + 1)).toNatClampNeg)) + (mwi ((3 * k) + 2)))) (pc2 := 129) O dX7_die_128 rfl rfl ?_
                refine zn_iast (j := ((mwi ((3 * k) + 1)).toNatClampNeg)) (G2 := modW cI m mle mpo mfa mrm mrw mP mQ mbk mkp msg mwm mrs msd mls mhd mtx mnu mrd mrl mpe mno mbo mim msi mwi mon (upd mdi i (nI yr)) (upd (upd mco9 i ((mco9 i) - (mwi ((3 * k) + 2)))) ((mwi ((3 * k) + 1)).toNatClampNeg) (((upd mco9 i ((mco9 i) - (mwi ((3 * k) + 2)))) ((mwi ((3 * k) + 1)).toNatClampNeg)) + (mwi ((3 * k) + 2)))) mgo9 (upd mbr9 k ((mbr9 k) + (mwi ((3 * k) + 2)))) mca) (ws2 := [modW cI m mle mpo mfa mrm mrw mP mQ mbk mkp msg mwm mrs msd mls mhd mtx mnu mrd mrl mpe mno mbo mim msi mwi mon (upd mdi i (nI yr)) (upd (upd mco9 i ((mco9 i) - (mwi ((3 * k) + 2)))) ((mwi ((3 * k) + 1)).toNatClampNeg) (((upd mco9 i ((mco9 i) - (mwi ((3 * k) + 2)))) ((mwi ((3 * k) + 1)).toNatClampNeg)) + (mwi ((3 * k) + 2)))) mgo9 (upd mbr9 k ((mbr9 k) + (mwi ((3 * k) + 2)))) mca]) (pc2 := 130) O 0 13 0 rfl rfl rfl rfl (by omega) (by decide) dX7_die_129 rfl rfl rfl ?_
                refine zr_aload_n (pc2 := 131) O dX7_die_130 rfl 3 rfl rfl ?_
                refine zr_getf (v := .ref (m 27)) (pc2 := 134) O sF_X7_die_59 0 0 rfl rfl rfl dX7_die_131 rfl ?_
                refine zr_iload (pc2 := 136) O dX7_die_134 1 rfl rfl ?_
                refine zr_dup2 (pc2 := 137) O dX7_die_136 rfl rfl rfl ?_
                refine zn_iald (j := ((mwi ((3 * k) + 1)).toNatClampNeg)) (pc2 := 138) O 0 14 0 rfl rfl rfl rfl (by omega) (by decide) dX7_die_137 rfl ?_
                refine zr_iload (pc2 := 140) O dX7_die_138 0 rfl rfl ?_
                refine zr_iadd (v := ((mgo9 ((mwi ((3 * k) + 1)).toNatClampNeg)) + (mwi ((3 * k) + 2)))) (pc2 := 141) O dX7_die_140 rfl rfl ?_
                refine zn_iast (j := ((mwi ((3 * k) + 1)).toNatClampNeg)) (G2 := modW cI m mle mpo mfa mrm mrw mP mQ mbk mkp msg mwm mrs msd mls mhd mtx mnu mrd mrl mpe mno mbo mim msi mwi mon (upd mdi i (nI yr)) (upd (upd mco9 i ((mco9 i) - (mwi ((3 * k) + 2)))) ((mwi ((3 * k) + 1)).toNatClampNeg) (((upd mco9 i ((mco9 i) - (mwi ((3 * k) + 2)))) ((mwi ((3 * k) + 1)).toNatClampNeg)) + (mwi ((3 * k) + 2)))) (upd mgo9 ((mwi ((3 * k) + 1)).toNatClampNeg) ((mgo9 ((mwi ((3 * k) + 1)).toNatClampNeg)) + (mwi ((3 * k) + 2)))) (upd mbr9 k ((mbr9 k) + (mwi ((3 * k) + 2)))) mca) (ws2 := [modW cI m mle mpo mfa mrm mrw mP mQ mbk mkp msg mwm mrs msd mls mhd mtx mnu mrd mrl mpe mno mbo mim msi mwi mon (upd mdi i (nI yr)) (upd (upd mco9 i ((mco9 i) - (mwi ((3 * k) + 2)))) ((mwi ((3 * k) + 1)).toNatClampNeg) (((upd mco9 i ((mco9 i) - (mwi ((3 * k) + 2)))) ((mwi ((3 * k) + 1)).toNatClampNeg)) + (mwi ((3 * k) + 2)))) (upd mgo9 ((mwi ((3 * k) + 1)).toNatClampNeg) ((mgo9 ((mwi ((3 * k) + 1)).toNatClampNeg)) + (mwi ((3 * k) + 2)))) (upd mbr9 k ((mbr9 k) + (mwi ((3 * k) + 2)))) mca]) (pc2 := 142) O 0 14 0 rfl rfl rfl rfl (by omega) (by decide) dX7_die_141 rfl rfl rfl ?_
                refine zr_iinc (v := (nI (k + 1))) (lv2 := [(3, .int (nI (k + 1))), (5, .int (mwi ((3 * k) + 2))), (4, .int (nI ((mwi ((3 * k) + 1)).toNatClampNeg))), (0, .ref (m 31)), (1, .int (nI i)), (2, .int (nI yr))]) (pc2 := 145) O dX7_die_142 2 rfl (zm_ofInt1 k) (by decide) rfl rfl ?_
                refine zr_goto (tgt := 9) O dX7_die_145 (by decide) ?_
                refine zr_sub (lv2 := [(3, .int (nI (k + 1))), (0, .ref (m 31)), (1, .int (nI i)), (2, .int (nI yr))]) O [0, 3, 4, 5] rfl ?_
                have hE : f_X7_die_9 mwi mon mdi i yr (n9 + 1) k mco9 mgo9 mbr9 = f_X7_die_9 mwi mon mdi i yr n9 (k + 1) (upd (upd mco9 i ((mco9 i) - (mwi ((3 * k) + 2)))) ((mwi ((3 * k) + 1)).toNatClampNeg) (((upd mco9 i ((mco9 i) - (mwi ((3 * k) + 2)))) ((mwi ((3 * k) + 1)).toNatClampNeg)) + (mwi ((3 * k) + 2)))) (upd mgo9 ((mwi ((3 * k) + 1)).toNatClampNeg) ((mgo9 ((mwi ((3 * k) + 1)).toNatClampNeg)) + (mwi ((3 * k) + 2)))) (upd mbr9 k ((mbr9 k) + (mwi ((3 * k) + 2)))) := by exact ((if_pos c26).trans ((if_neg c57).trans ((if_neg c94).trans (zif_t c104))))
                exact ih9 (k + 1) (upd (upd mco9 i ((mco9 i) - (mwi ((3 * k) + 2)))) ((mwi ((3 * k) + 1)).toNatClampNeg) (((upd mco9 i ((mco9 i) - (mwi ((3 * k) + 2)))) ((mwi ((3 * k) + 1)).toNatClampNeg)) + (mwi ((3 * k) + 2)))) (upd mgo9 ((mwi ((3 * k) + 1)).toNatClampNeg) ((mgo9 ((mwi ((3 * k) + 1)).toNatClampNeg)) + (mwi ((3 * k) + 2)))) (upd mbr9 k ((mbr9 k) + (mwi ((3 * k) + 2)))) (by omega) (hF9.trans hE)
  exact lp9 mwm 0 mco mgo mbr (by omega) rfl
/-! X7_turn -/
def s_X7_turn (mwm : Nat) (mhd : Int32) (mwi : zF) (mon : zF) (mdi : zF) (mco : zF) (mgo : zF) (mbr : zF) (i : Nat) (yr : Nat) : Int32 × zF × zF × zF × zF := if ((nI yr) - (mon (5 * i))) < (nI 18) then if ((nI yr) - (mon (5 * i))) < (mon ((5 * i) + 2)) then (mhd, mdi, mco, mgo, mbr) else let u78 := s_X7_die mwm mwi mon mdi mco mgo mbr i yr; (mhd, u78.1, u78.2.1, u78.2.2.1, u78.2.2.2) else if (s_X7_leaving mwm mwi i) ≤ 0 then if ((nI yr) - (mon (5 * i))) < (mon ((5 * i) + 2)) then (mhd, mdi, mco, mgo, mbr) else let u78 := s_X7_die mwm mwi mon mdi mco mgo mbr i yr; (mhd, u78.1, u78.2.1, u78.2.2.1, u78.2.2.2) else if (mco i) < (s_X7_leaving mwm mwi i) then if ((nI yr) - (mon (5 * i))) < (mon ((5 * i) + 2)) then (mhd, mdi, mco, mgo, mbr) else let u78 := s_X7_die mwm mwi mon mdi mco mgo mbr i yr; (mhd, u78.1, u78.2.1, u78.2.2.1, u78.2.2.2) else let u55 := s_X7_die mwm mwi mon mdi mco mgo mbr i yr; ((mhd ||| ((nI 1) <<< ((nI i) &&& 31))), u55.1, u55.2.1, u55.2.2.1, u55.2.2.2)
set_option maxHeartbeats 4000000 in
set_option maxRecDepth 100000 in
theorem c_X7_turn (l : Launch) (D : va_G) (cI cC cJ : ClassId) (m : Nat → Nat) (mle : Nat) (mpo : Nat) (mfa : Nat) (mrm : Nat) (mrw : Nat) (mP : Nat) (mQ : Nat) (mbk : Nat) (mkp : Nat) (msg : Nat) (mwm : Nat) (mrs : Int32) (msd : Int32) (mls : Int32) (mhd : Int32) (mtx : zF) (mnu : zF) (mrd : zF) (mrl : zF) (mpe : zF) (mno : zF) (mbo : zF) (mim : zF) (msi : zF) (mwi : zF) (mon : zF) (mdi : zF) (mco : zF) (mgo : zF) (mbr : zF) (mca : zF) (i : Nat) (yr : Nat) (hi : i < 6) (hmwm : mwm ≤ 10) (hto : ∀ k, k < mwm → ¬ mwi ((3 * k) + 1) < 0 → mwi ((3 * k) + 1) = nI (mwi ((3 * k) + 1)).toNatClampNeg ∧ (mwi ((3 * k) + 1)).toNatClampNeg < 6) : zD l yX7_turn wsX7_turn rm_X7_turn D (zT cI cC cJ) [.ref (m 31), .int (nI i), .int (nI yr)] [modW cI m mle mpo mfa mrm mrw mP mQ mbk mkp msg mwm mrs msd mls mhd mtx mnu mrd mrl mpe mno mbo mim msi mwi mon mdi mco mgo mbr mca] none [modW cI m mle mpo mfa mrm mrw mP mQ mbk mkp msg mwm mrs msd mls ((s_X7_turn mwm mhd mwi mon mdi mco mgo mbr i yr).1) mtx mnu mrd mrl mpe mno mbo mim msi mwi mon ((s_X7_turn mwm mhd mwi mon mdi mco mgo mbr i yr).2.1) ((s_X7_turn mwm mhd mwi mon mdi mco mgo mbr i yr).2.2.1) ((s_X7_turn mwm mhd mwi mon mdi mco mgo mbr i yr).2.2.2.1) ((s_X7_turn mwm mhd mwi mon mdi mco mgo mbr i yr).2.2.2.2) mca] := by
  refine zD_void (cc := cX7_turn) (maxL := 5) (lv := [(0, .ref (m 31)), (1, .int (nI i)), (2, .int (nI yr))]) (by decide +kernel) rfl (Nat.le_of_ble_eq_true rfl) rfl (fun Z O hret => ?_)
  refine zr_iload_n (pc2 := 1) O dX7_turn_0 rfl 2 rfl rfl ?_
  refine zr_aload_n (pc2 := 2) O dX7_turn_1 rfl 0 rfl rfl ?_
  refine zr_getf (v := .ref (m 23)) (pc2 := 5) O sF_X7_turn_50 0 0 rfl rfl rfl dX7_turn_2 rfl ?_
  refine zr_iconst (v := (nI 5)) (pc2 := 6) O dX7_turn_5 (by decide +kernel) rfl ?_
  refine zr_iload_n (pc2 := 7) O dX7_turn_6 rfl 1 rfl rfl ?_
  refine zr_imul (v := (nI (5 * i))) (pc2 := 8) O dX7_turn_7 (pk_mul 5 i) rfl ?_
  refine zn_iald (j := (5 * i)) (pc2 := 9) O 0 11 0 rfl rfl rfl rfl (by omega) (by decide) dX7_turn_8 rfl ?_
  refine zr_isub (v := ((nI yr) - (mon (5 * i)))) (pc2 := 10) O dX7_turn_9 rfl rfl ?_
  refine zr_istore_n (lv2 := [(3, .int ((nI yr) - (mon (5 * i)))), (0, .ref (m 31)), (1, .int (nI i)), (2, .int (nI yr))]) (pc2 := 11) O dX7_turn_10 rfl (by decide) rfl rfl ?_
  refine zr_aload_n (pc2 := 12) O dX7_turn_11 rfl 1 rfl rfl ?_
  refine zr_iload_n (pc2 := 13) O dX7_turn_12 rfl 2 rfl rfl ?_
  refine zr_callV (As := [.int (nI i)]) (rest := []) (ws2 := [modW cI m mle mpo mfa mrm mrw mP mQ mbk mkp msg mwm mrs msd mls mhd mtx mnu mrd mrl mpe mno mbo mim msi mwi mon mdi mco mgo mbr mca]) (pc2 := 16) (ci := 7) (g0 := 0) (q0 := 0) O (c_X7_leaving l D cI cC cJ m mle mpo mfa mrm mrw mP mQ mbk mkp msg mwm mrs msd mls mhd mtx mnu mrd mrl mpe mno mbo mim msi mwi mon mdi mco mgo mbr mca i (by first | assumption | omega)) sC_X7_turn_160 rfl rfl rfl rfl rfl dX7_turn_13 [0] rfl rfl rfl rfl (Nat.le_of_ble_eq_true rfl) rfl ?_
  show Z _ _ _ [.int (s_X7_leaving mwm mwi i)]
  refine zr_istore (lv2 := [(4, .int (s_X7_leaving mwm mwi i)), (3, .int ((nI yr) - (mon (5 * i)))), (0, .ref (m 31)), (1, .int (nI i)), (2, .int (nI yr))]) (pc2 := 18) O dX7_turn_16 (by decide) rfl rfl ?_
  refine zr_iload_n (pc2 := 19) O dX7_turn_18 rfl 1 rfl rfl ?_
  refine zr_bipush (v := (nI 18)) (pc2 := 21) O dX7_turn_19 (by decide +kernel) rfl ?_
  refine zr_icmp_lt (tgt := 61) (pc2 := 24) O dX7_turn_21 (by decide) rfl (fun c21 => ?_) (fun c21 => ?_)
  · refine zr_iload_n (pc2 := 62) O dX7_turn_61 rfl 1 rfl rfl ?_
    refine zr_aload_n (pc2 := 63) O dX7_turn_62 rfl 2 rfl rfl ?_
    refine zr_getf (v := .ref (m 23)) (pc2 := 66) O sF_X7_turn_50 0 0 rfl rfl rfl dX7_turn_63 rfl ?_
    refine zr_iconst (v := (nI 5)) (pc2 := 67) O dX7_turn_66 (by decide +kernel) rfl ?_
    refine zr_iload_n (pc2 := 68) O dX7_turn_67 rfl 3 rfl rfl ?_
    refine zr_imul (v := (nI (5 * i))) (pc2 := 69) O dX7_turn_68 (pk_mul 5 i) rfl ?_
    refine zr_iconst (v := (nI 2)) (pc2 := 70) O dX7_turn_69 (by decide +kernel) rfl ?_
    refine zr_iadd (v := (nI ((5 * i) + 2))) (pc2 := 71) O dX7_turn_70 (nI_add (5 * i) 2) rfl ?_
    refine zn_iald (j := ((5 * i) + 2)) (pc2 := 72) O 0 11 0 rfl rfl rfl rfl (by omega) (by decide) dX7_turn_71 rfl ?_
    refine zr_icmp_lt (tgt := 81) (pc2 := 75) O dX7_turn_72 (by decide) rfl (fun c72 => ?_) (fun c72 => ?_)
    · have hE : s_X7_turn mwm mhd mwi mon mdi mco mgo mbr i yr = (mhd, mdi, mco, mgo, mbr) := by exact ((if_pos c21).trans (if_pos c72))
      exact hret _ _ _ dX7_turn_81 (by rw [hE])
    · refine zr_aload_n (pc2 := 76) O dX7_turn_75 rfl 2 rfl rfl ?_
      refine zr_iload_n (pc2 := 77) O dX7_turn_76 rfl 3 rfl rfl ?_
      refine zr_iload_n (pc2 := 78) O dX7_turn_77 rfl 4 rfl rfl ?_
      obtain ⟨u78, hu78⟩ : ∃ z9, z9 = s_X7_die mwm mwi mon mdi mco mgo mbr i yr := ⟨_, rfl⟩
      refine zr_callV (As := [.int (nI i), .int (nI yr)]) (rest := []) (ws2 := [modW cI m mle mpo mfa mrm mrw mP mQ mbk mkp msg mwm mrs msd mls mhd mtx mnu mrd mrl mpe mno mbo mim msi mwi mon u78.1 u78.2.1 u78.2.2.1 u78.2.2.2 mca]) (pc2 := 81) (ci := 7) (g0 := 0) (q0 := 0) (v := none) (W := [modW cI m mle mpo mfa mrm mrw mP mQ mbk mkp msg mwm mrs msd mls mhd mtx mnu mrd mrl mpe mno mbo mim msi mwi mon mdi mco mgo mbr mca]) (W2 := [modW cI m mle mpo mfa mrm mrw mP mQ mbk mkp msg mwm mrs msd mls mhd mtx mnu mrd mrl mpe mno mbo mim msi mwi mon u78.1 u78.2.1 u78.2.2.1 u78.2.2.2 mca]) O (by rw [hu78]; exact (c_X7_die l D cI cC cJ m mle mpo mfa mrm mrw mP mQ mbk mkp msg mwm mrs msd mls mhd mtx mnu mrd mrl mpe mno mbo mim msi mwi mon mdi mco mgo mbr mca i yr (by first | assumption | omega) (by first | assumption | omega) (by first | assumption | omega))) sC_X7_turn_166 rfl rfl rfl rfl rfl dX7_turn_78 [0] rfl rfl rfl rfl (Nat.le_of_ble_eq_true rfl) rfl ?_
      show Z _ _ _ []
      have hE : s_X7_turn mwm mhd mwi mon mdi mco mgo mbr i yr = (mhd, u78.1, u78.2.1, u78.2.2.1, u78.2.2.2) := by subst hu78; exact ((if_pos c21).trans (if_neg c72))
      exact hret _ _ _ dX7_turn_81 (by rw [hE])
  · refine zr_iload (pc2 := 26) O dX7_turn_24 0 rfl rfl ?_
    refine zr_if_le (tgt := 61) (pc2 := 29) O dX7_turn_26 (by decide) rfl (fun c26 => ?_) (fun c26 => ?_)
    · refine zr_iload_n (pc2 := 62) O dX7_turn_61 rfl 1 rfl rfl ?_
      refine zr_aload_n (pc2 := 63) O dX7_turn_62 rfl 2 rfl rfl ?_
      refine zr_getf (v := .ref (m 23)) (pc2 := 66) O sF_X7_turn_50 0 0 rfl rfl rfl dX7_turn_63 rfl ?_
      refine zr_iconst (v := (nI 5)) (pc2 := 67) O dX7_turn_66 (by decide +kernel) rfl ?_
      refine zr_iload_n (pc2 := 68) O dX7_turn_67 rfl 3 rfl rfl ?_
      refine zr_imul (v := (nI (5 * i))) (pc2 := 69) O dX7_turn_68 (pk_mul 5 i) rfl ?_
      refine zr_iconst (v := (nI 2)) (pc2 := 70) O dX7_turn_69 (by decide +kernel) rfl ?_
      refine zr_iadd (v := (nI ((5 * i) + 2))) (pc2 := 71) O dX7_turn_70 (nI_add (5 * i) 2) rfl ?_
      refine zn_iald (j := ((5 * i) + 2)) (pc2 := 72) O 0 11 0 rfl rfl rfl rfl (by omega) (by decide) dX7_turn_71 rfl ?_
      refine zr_icmp_lt (tgt := 81) (pc2 := 75) O dX7_turn_72 (by decide) rfl (fun c72 => ?_) (fun c72 => ?_)
      · have hE : s_X7_turn mwm mhd mwi mon mdi mco mgo mbr i yr = (mhd, mdi, mco, mgo, mbr) := by exact ((if_neg c21).trans ((if_pos c26).trans (if_pos c72)))
        exact hret _ _ _ dX7_turn_81 (by rw [hE])
      · refine zr_aload_n (pc2 := 76) O dX7_turn_75 rfl 2 rfl rfl ?_
        refine zr_iload_n (pc2 := 77) O dX7_turn_76 rfl 3 rfl rfl ?_
        refine zr_iload_n (pc2 := 78) O dX7_turn_77 rfl 4 rfl rfl ?_
        obtain ⟨u78, hu78⟩ : ∃ z9, z9 = s_X7_die mwm mwi mon mdi mco mgo mbr i yr := ⟨_, rfl⟩
        refine zr_callV (As := [.int (nI i), .int (nI yr)]) (rest := []) (ws2 := [modW cI m mle mpo mfa mrm mrw mP mQ mbk mkp msg mwm mrs msd mls mhd mtx mnu mrd mrl mpe mno mbo mim msi mwi mon u78.1 u78.2.1 u78.2.2.1 u78.2.2.2 mca]) (pc2 := 81) (ci := 7) (g0 := 0) (q0 := 0) (v := none) (W := [modW cI m mle mpo mfa mrm mrw mP mQ mbk mkp msg mwm mrs msd mls mhd mtx mnu mrd mrl mpe mno mbo mim msi mwi mon mdi mco mgo mbr mca]) (W2 := [modW cI m mle mpo mfa mrm mrw mP mQ mbk mkp msg mwm mrs msd mls mhd mtx mnu mrd mrl mpe mno mbo mim msi mwi mon u78.1 u78.2.1 u78.2.2.1 u78.2.2.2 mca]) O (by rw [hu78]; exact (c_X7_die l D cI cC cJ m mle mpo mfa mrm mrw mP mQ mbk mkp msg mwm mrs msd mls mhd mtx mnu mrd mrl mpe mno mbo mim msi mwi mon mdi mco mgo mbr mca i yr (by first | assumption | omega) (by first | assumption | omega) (by first | assumption | omega))) sC_X7_turn_166 rfl rfl rfl rfl rfl dX7_turn_78 [0] rfl rfl rfl rfl (Nat.le_of_ble_eq_true rfl) rfl ?_
        show Z _ _ _ []
        have hE : s_X7_turn mwm mhd mwi mon mdi mco mgo mbr i yr = (mhd, u78.1, u78.2.1, u78.2.2.1, u78.2.2.2) := by subst hu78; exact ((if_neg c21).trans ((if_pos c26).trans (if_neg c72)))
        exact hret _ _ _ dX7_turn_81 (by rw [hE])
    · refine zr_aload_n (pc2 := 30) O dX7_turn_29 rfl 2 rfl rfl ?_
      refine zr_getf (v := .ref (m 26)) (pc2 := 33) O sF_X7_turn_56 0 0 rfl rfl rfl dX7_turn_30 rfl ?_
      refine zr_iload_n (pc2 := 34) O dX7_turn_33 rfl 3 rfl rfl ?_
      refine zn_iald (j := i) (pc2 := 35) O 0 13 0 rfl rfl rfl rfl (by omega) (by decide) dX7_turn_34 rfl ?_
      refine zr_iload (pc2 := 37) O dX7_turn_35 0 rfl rfl ?_
      refine zr_icmp_lt (tgt := 61) (pc2 := 40) O dX7_turn_37 (by decide) rfl (fun c37 => ?_) (fun c37 => ?_)
      · refine zr_iload_n (pc2 := 62) O dX7_turn_61 rfl 1 rfl rfl ?_
        refine zr_aload_n (pc2 := 63) O dX7_turn_62 rfl 2 rfl rfl ?_
        refine zr_getf (v := .ref (m 23)) (pc2 := 66) O sF_X7_turn_50 0 0 rfl rfl rfl dX7_turn_63 rfl ?_
        refine zr_iconst (v := (nI 5)) (pc2 := 67) O dX7_turn_66 (by decide +kernel) rfl ?_
        refine zr_iload_n (pc2 := 68) O dX7_turn_67 rfl 3 rfl rfl ?_
        refine zr_imul (v := (nI (5 * i))) (pc2 := 69) O dX7_turn_68 (pk_mul 5 i) rfl ?_
        refine zr_iconst (v := (nI 2)) (pc2 := 70) O dX7_turn_69 (by decide +kernel) rfl ?_
        refine zr_iadd (v := (nI ((5 * i) + 2))) (pc2 := 71) O dX7_turn_70 (nI_add (5 * i) 2) rfl ?_
        refine zn_iald (j := ((5 * i) + 2)) (pc2 := 72) O 0 11 0 rfl rfl rfl rfl (by omega) (by decide) dX7_turn_71 rfl ?_
        refine zr_icmp_lt (tgt := 81) (pc2 := 75) O dX7_turn_72 (by decide) rfl (fun c72 => ?_) (fun c72 => ?_)
        · have hE : s_X7_turn mwm mhd mwi mon mdi mco mgo mbr i yr = (mhd, mdi, mco, mgo, mbr) := by exact ((if_neg c21).trans ((if_neg c26).trans ((if_pos c37).trans (if_pos c72))))
          exact hret _ _ _ dX7_turn_81 (by rw [hE])
        · refine zr_aload_n (pc2 := 76) O dX7_turn_75 rfl 2 rfl rfl ?_
          refine zr_iload_n (pc2 := 77) O dX7_turn_76 rfl 3 rfl rfl ?_
          refine zr_iload_n (pc2 := 78) O dX7_turn_77 rfl 4 rfl rfl ?_
          obtain ⟨u78, hu78⟩ : ∃ z9, z9 = s_X7_die mwm mwi mon mdi mco mgo mbr i yr := ⟨_, rfl⟩
          refine zr_callV (As := [.int (nI i), .int (nI yr)]) (rest := []) (ws2 := [modW cI m mle mpo mfa mrm mrw mP mQ mbk mkp msg mwm mrs msd mls mhd mtx mnu mrd mrl mpe mno mbo mim msi mwi mon u78.1 u78.2.1 u78.2.2.1 u78.2.2.2 mca]) (pc2 := 81) (ci := 7) (g0 := 0) (q0 := 0) (v := none) (W := [modW cI m mle mpo mfa mrm mrw mP mQ mbk mkp msg mwm mrs msd mls mhd mtx mnu mrd mrl mpe mno mbo mim msi mwi mon mdi mco mgo mbr mca]) (W2 := [modW cI m mle mpo mfa mrm mrw mP mQ mbk mkp msg mwm mrs msd mls mhd mtx mnu mrd mrl mpe mno mbo mim msi mwi mon u78.1 u78.2.1 u78.2.2.1 u78.2.2.2 mca]) O (by rw [hu78]; exact (c_X7_die l D cI cC cJ m mle mpo mfa mrm mrw mP mQ mbk mkp msg mwm mrs msd mls mhd mtx mnu mrd mrl mpe mno mbo mim msi mwi mon mdi mco mgo mbr mca i yr (by first | assumption | omega) (by first | assumption | omega) (by first | assumption | omega))) sC_X7_turn_166 rfl rfl rfl rfl rfl dX7_turn_78 [0] rfl rfl rfl rfl (Nat.le_of_ble_eq_true rfl) rfl ?_
          show Z _ _ _ []
          have hE : s_X7_turn mwm mhd mwi mon mdi mco mgo mbr i yr = (mhd, u78.1, u78.2.1, u78.2.2.1, u78.2.2.2) := by subst hu78; exact ((if_neg c21).trans ((if_neg c26).trans ((if_pos c37).trans (if_neg c72))))
          exact hret _ _ _ dX7_turn_81 (by rw [hE])
      · refine zr_aload_n (pc2 := 41) O dX7_turn_40 rfl 2 rfl rfl ?_
        refine zr_aload_n (pc2 := 42) O dX7_turn_41 rfl 2 rfl rfl ?_
        refine zr_getf (v := .int mhd) (pc2 := 45) O sF_X7_turn_163 0 0 rfl rfl rfl dX7_turn_42 rfl ?_
        refine zr_iconst (v := (nI 1)) (pc2 := 46) O dX7_turn_45 (by decide +kernel) rfl ?_
        refine zr_iload_n (pc2 := 47) O dX7_turn_46 rfl 3 rfl rfl ?_
        refine zr_ishl (v := ((nI 1) <<< ((nI i) &&& 31))) (pc2 := 48) O dX7_turn_47 rfl rfl ?_
        refine zr_ior (v := (mhd ||| ((nI 1) <<< ((nI i) &&& 31)))) (pc2 := 49) O dX7_turn_48 rfl rfl ?_
        refine zr_putf (G2 := modW cI m mle mpo mfa mrm mrw mP mQ mbk mkp msg mwm mrs msd mls (mhd ||| ((nI 1) <<< ((nI i) &&& 31))) mtx mnu mrd mrl mpe mno mbo mim msi mwi mon mdi mco mgo mbr mca) (ws2 := [modW cI m mle mpo mfa mrm mrw mP mQ mbk mkp msg mwm mrs msd mls (mhd ||| ((nI 1) <<< ((nI i) &&& 31))) mtx mnu mrd mrl mpe mno mbo mim msi mwi mon mdi mco mgo mbr mca]) (pc2 := 52) O sP_X7_turn_163 0 0 rfl rfl rfl rfl (Nat.le_of_ble_eq_true rfl) dX7_turn_49 rfl rfl rfl ?_
        refine zr_aload_n (pc2 := 53) O dX7_turn_52 rfl 2 rfl rfl ?_
        refine zr_iload_n (pc2 := 54) O dX7_turn_53 rfl 3 rfl rfl ?_
        refine zr_iload_n (pc2 := 55) O dX7_turn_54 rfl 4 rfl rfl ?_
        obtain ⟨u55, hu55⟩ : ∃ z9, z9 = s_X7_die mwm mwi mon mdi mco mgo mbr i yr := ⟨_, rfl⟩
        refine zr_callV (As := [.int (nI i), .int (nI yr)]) (rest := []) (ws2 := [modW cI m mle mpo mfa mrm mrw mP mQ mbk mkp msg mwm mrs msd mls (mhd ||| ((nI 1) <<< ((nI i) &&& 31))) mtx mnu mrd mrl mpe mno mbo mim msi mwi mon u55.1 u55.2.1 u55.2.2.1 u55.2.2.2 mca]) (pc2 := 58) (ci := 7) (g0 := 0) (q0 := 0) (v := none) (W := [modW cI m mle mpo mfa mrm mrw mP mQ mbk mkp msg mwm mrs msd mls (mhd ||| ((nI 1) <<< ((nI i) &&& 31))) mtx mnu mrd mrl mpe mno mbo mim msi mwi mon mdi mco mgo mbr mca]) (W2 := [modW cI m mle mpo mfa mrm mrw mP mQ mbk mkp msg mwm mrs msd mls (mhd ||| ((nI 1) <<< ((nI i) &&& 31))) mtx mnu mrd mrl mpe mno mbo mim msi mwi mon u55.1 u55.2.1 u55.2.2.1 u55.2.2.2 mca]) O (by rw [hu55]; exact (c_X7_die l D cI cC cJ m mle mpo mfa mrm mrw mP mQ mbk mkp msg mwm mrs msd mls (mhd ||| ((nI 1) <<< ((nI i) &&& 31))) mtx mnu mrd mrl mpe mno mbo mim msi mwi mon mdi mco mgo mbr mca i yr (by first | assumption | omega) (by first | assumption | omega) (by first | assumption | omega))) sC_X7_turn_166 rfl rfl rfl rfl rfl dX7_turn_55 [0] rfl rfl rfl rfl (Nat.le_of_ble_eq_true rfl) rfl ?_
        show Z _ _ _ []
        refine zr_goto (tgt := 81) O dX7_turn_58 (by decide) ?_
        have hE : s_X7_turn mwm mhd mwi mon mdi mco mgo mbr i yr = ((mhd ||| ((nI 1) <<< ((nI i) &&& 31))), u55.1, u55.2.1, u55.2.2.1, u55.2.2.2) := by subst hu55; exact ((if_neg c21).trans ((if_neg c26).trans (if_neg c37)))
        exact hret _ _ _ dX7_turn_81 (by rw [hE])
/-! X7_run -/
def f_X7_run_7 : Nat → Nat → zF → zF → zF → zF × zF × zF
  | 0, _, mdi9, mco9, mgo9 => (mdi9, mco9, mgo9)
  | n9 + 1, i, mdi9, mco9, mgo9 => f_X7_run_7 n9 (i + 1) (upd mdi9 i (-1)) (upd mco9 i (nI 0)) (upd mgo9 i (nI 0))
def f_X7_run_42 : Nat → Nat → zF → zF
  | 0, _, mbr9 => mbr9
  | n9 + 1, k, mbr9 => f_X7_run_42 n9 (k + 1) (upd mbr9 k (nI 0))
def f_X7_run_72 (mon : zF) (yr : Nat) : Nat → Nat → zF → zF
  | 0, _, mco7 => mco7
  | n9 + 1, i2, mco7 => if (mon (5 * i2)) = (nI yr) then f_X7_run_72 mon yr n9 (i2 + 1) (upd mco7 i2 ((mco7 i2) + (mon ((5 * i2) + 4)))) else f_X7_run_72 mon yr n9 (i2 + 1) (upd mco7 i2 ((mco7 i2) + (nI 0)))
def f_X7_run_123 (mno : zF) (mon : zF) (yr : Nat) (mdi8 : zF) : Nat → Nat → zF → zF
  | 0, _, mco7 => mco7
  | n9 + 1, h, mco7 => if (mno ((28 + (3 * h)) + 1)) = (nI yr) then if (s_X7_lives mon mdi8 ((mno (28 + (3 * h))).toNatClampNeg) yr) = true then f_X7_run_123 mno mon yr mdi8 n9 (h + 1) (upd mco7 ((mno (28 + (3 * h))).toNatClampNeg) ((mco7 ((mno (28 + (3 * h))).toNatClampNeg)) + (mno ((28 + (3 * h)) + 2)))) else f_X7_run_123 mno mon yr mdi8 n9 (h + 1) (upd mco7 ((mno (28 + (3 * h))).toNatClampNeg) ((mco7 ((mno (28 + (3 * h))).toNatClampNeg)) + (nI 0))) else f_X7_run_123 mno mon yr mdi8 n9 (h + 1) (upd mco7 ((mno (28 + (3 * h))).toNatClampNeg) ((mco7 ((mno (28 + (3 * h))).toNatClampNeg)) + (nI 0)))
def f_X7_run_206 (mls : Int32) (mon : zF) (yr : Nat) (mdi8 : zF) : Nat → Nat → zF → zF
  | 0, _, mco7 => mco7
  | n9 + 1, i2, mco7 => if (s_X7_lives mon mdi8 i2 yr) = true then f_X7_run_206 mls mon yr mdi8 n9 (i2 + 1) (upd mco7 i2 ((mco7 i2) + (s_X7_gainOf mls mon i2 yr))) else f_X7_run_206 mls mon yr mdi8 n9 (i2 + 1) (upd mco7 i2 ((mco7 i2) + (nI 0)))
def f_X7_run_250 (mwm : Nat) (mwi : zF) (mon : zF) (yr : Nat) : Nat → Nat → Int32 → zF → zF → zF → zF → Int32 × zF × zF × zF × zF
  | 0, _, mhd7, mdi7, mco7, mgo7, mbr7 => (mhd7, mdi7, mco7, mgo7, mbr7)
  | n9 + 1, i2, mhd7, mdi7, mco7, mgo7, mbr7 => if (s_X7_lives mon mdi7 i2 yr) = true then let u270 := s_X7_turn mwm mhd7 mwi mon mdi7 mco7 mgo7 mbr7 i2 yr; f_X7_run_250 mwm mwi mon yr n9 (i2 + 1) u270.1 u270.2.1 u270.2.2.1 u270.2.2.2.1 u270.2.2.2.2 else f_X7_run_250 mwm mwi mon yr n9 (i2 + 1) mhd7 mdi7 mco7 mgo7 mbr7
def f_X7_run_281 (v255 : Int32 × zF × zF × zF × zF) (yr : Nat) : Nat → Nat → zF → zF
  | 0, _, mca7 => mca7
  | n9 + 1, i2, mca7 => f_X7_run_281 v255 yr n9 (i2 + 1) (upd mca7 ((6 * yr) + i2) (v255.2.2.1 i2))
def f_X7_run_63 (mP : Nat) (mwm : Nat) (mls : Int32) (mno : zF) (mwi : zF) (mon : zF) (mH : Nat) : Nat → Nat → Int32 → zF → zF → zF → zF → zF → Int32 × zF × zF × zF × zF × zF
  | 0, _, mhd8, mdi8, mco8, mgo8, mbr8, mca8 => (mhd8, mdi8, mco8, mgo8, mbr8, mca8)
  | n9 + 1, yr, mhd8, mdi8, mco8, mgo8, mbr8, mca8 => let v131 := f_X7_run_123 mno mon yr mdi8 mH 0 (f_X7_run_72 mon yr mP 0 mco8); let v255 := f_X7_run_250 mwm mwi mon yr mP 0 mhd8 mdi8 (f_X7_run_206 mls mon yr mdi8 mP 0 v131) mgo8 mbr8; f_X7_run_63 mP mwm mls mno mwi mon mH n9 (yr + 1) v255.1 v255.2.1 v255.2.2.1 v255.2.2.2.1 v255.2.2.2.2 (f_X7_run_281 v255 yr mP 0 mca8)
def s_X7_run (mP : Nat) (mwm : Nat) (mls : Int32) (mno : zF) (mwi : zF) (mon : zF) (mdi : zF) (mco : zF) (mgo : zF) (mbr : zF) (mca : zF) (mH : Nat) : Int32 × zF × zF × zF × zF × zF := let v10 := f_X7_run_7 6 0 mdi mco mgo; let v67 := f_X7_run_63 mP mwm mls mno mwi mon mH 151 0 (nI 0) v10.1 v10.2.1 v10.2.2 (f_X7_run_42 10 0 mbr) mca; (v67.1, v67.2.1, v67.2.2.1, v67.2.2.2.1, v67.2.2.2.2.1, v67.2.2.2.2.2)
set_option maxHeartbeats 4000000 in
set_option maxRecDepth 100000 in
theorem c_X7_run (l : Launch) (D : va_G) (cI cC cJ : ClassId) (m : Nat → Nat) (mle : Nat) (mpo : Nat) (mfa : Nat) (mrm : Nat) (mrw : Nat) (mP : Nat) (mQ : Nat) (mbk : Nat) (mkp : Nat) (msg : Nat) (mwm : Nat) (mrs : Int32) (msd : Int32) (mls : Int32) (mhd : Int32) (mtx : zF) (mnu : zF) (mrd : zF) (mrl : zF) (mpe : zF) (mno : zF) (mbo : zF) (mim : zF) (msi : zF) (mwi : zF) (mon : zF) (mdi : zF) (mco : zF) (mgo : zF) (mbr : zF) (mca : zF) (mH : Nat) (hmP : mP ≤ 6) (hmwm : mwm ≤ 10) (hto : ∀ k, k < mwm → ¬ mwi ((3 * k) + 1) < 0 → mwi ((3 * k) + 1) = nI (mwi ((3 * k) + 1)).toNatClampNeg ∧ (mwi ((3 * k) + 1)).toNatClampNeg < 6) (hmH : mH ≤ 4) (hH : mno 27 = nI mH) (hhi : ∀ h, h < mH → mno (28 + (3 * h)) = nI (mno (28 + (3 * h))).toNatClampNeg ∧ (mno (28 + (3 * h))).toNatClampNeg < 6) : zD l yX7_run wsX7_run rm_X7_run D (zT cI cC cJ) [.ref (m 31)] [modW cI m mle mpo mfa mrm mrw mP mQ mbk mkp msg mwm mrs msd mls mhd mtx mnu mrd mrl mpe mno mbo mim msi mwi mon mdi mco mgo mbr mca] none [modW cI m mle mpo mfa mrm mrw mP mQ mbk mkp msg mwm mrs msd mls ((s_X7_run mP mwm mls mno mwi mon mdi mco mgo mbr mca mH).1) mtx mnu mrd mrl mpe mno mbo mim msi mwi mon ((s_X7_run mP mwm mls mno mwi mon mdi mco mgo mbr mca mH).2.1) ((s_X7_run mP mwm mls mno mwi mon mdi mco mgo mbr mca mH).2.2.1) ((s_X7_run mP mwm mls mno mwi mon mdi mco mgo mbr mca mH).2.2.2.1) ((s_X7_run mP mwm mls mno mwi mon mdi mco mgo mbr mca mH).2.2.2.2.1) ((s_X7_run mP mwm mls mno mwi mon mdi mco mgo mbr mca mH).2.2.2.2.2)] := by
  refine zD_void (cc := cX7_run) (maxL := 4) (lv := [(0, .ref (m 31))]) (by decide +kernel) rfl (Nat.le_of_ble_eq_true rfl) rfl (fun Z O hret => ?_)
  refine zr_aload_n (pc2 := 1) O dX7_run_0 rfl 0 rfl rfl ?_
  refine zr_iconst (v := (nI 0)) (pc2 := 2) O dX7_run_1 (by decide +kernel) rfl ?_
  refine zr_putf (G2 := modW cI m mle mpo mfa mrm mrw mP mQ mbk mkp msg mwm mrs msd mls (nI 0) mtx mnu mrd mrl mpe mno mbo mim msi mwi mon mdi mco mgo mbr mca) (ws2 := [modW cI m mle mpo mfa mrm mrw mP mQ mbk mkp msg mwm mrs msd mls (nI 0) mtx mnu mrd mrl mpe mno mbo mim msi mwi mon mdi mco mgo mbr mca]) (pc2 := 5) O sP_X7_run_163 0 0 rfl rfl rfl rfl (Nat.le_of_ble_eq_true rfl) dX7_run_2 rfl rfl rfl ?_
  refine zr_iconst (v := (nI 0)) (pc2 := 6) O dX7_run_5 (by decide +kernel) rfl ?_
  refine zr_istore_n (lv2 := [(1, .int (nI 0)), (0, .ref (m 31))]) (pc2 := 7) O dX7_run_6 rfl (by decide) rfl rfl ?_
  have lp7 : ∀ (n9 : Nat) (i : Nat) (mdi9 : zF) (mco9 : zF) (mgo9 : zF), i + n9 = 6 → f_X7_run_7 6 0 mdi mco mgo = f_X7_run_7 n9 i mdi9 mco9 mgo9 → Z [modW cI m mle mpo mfa mrm mrw mP mQ mbk mkp msg mwm mrs msd mls (nI 0) mtx mnu mrd mrl mpe mno mbo mim msi mwi mon mdi9 mco9 mgo9 mbr mca] [(1, .int (nI i)), (0, .ref (m 31))] 7 [] := by
    intro n9
    induction n9 with
    | zero =>
      intro i mdi9 mco9 mgo9 hM7 hF7
      have hI7 : 6 = i := by omega
      subst hI7
      obtain ⟨v10, hv10⟩ : ∃ z9, z9 = f_X7_run_7 6 0 mdi mco mgo := ⟨_, rfl⟩
      rw [← hv10] at hF7
      have e9 : v10.1 = mdi9 := congrArg (fun z => z.1) hF7
      subst e9
      have e9 : v10.2.1 = mco9 := congrArg (fun z => z.2.1) hF7
      subst e9
      have e9 : v10.2.2 = mgo9 := congrArg (fun z => z.2.2) hF7
      subst e9
      refine zr_iload_n (pc2 := 8) O dX7_run_7 rfl 0 rfl rfl ?_
      refine zr_bipush (v := (nI 6)) (pc2 := 10) O dX7_run_8 (by decide +kernel) rfl ?_
      refine zn_icmp_ge (tgt := 40) (pc2 := 13) O dX7_run_10 (by decide) rfl (by omega) (by omega) (fun c10 => ?_) (fun c10 => ?_)
      · refine zr_iconst (v := (nI 0)) (pc2 := 41) O dX7_run_40 (by decide +kernel) rfl ?_
        refine zr_istore_n (lv2 := [(1, .int (nI 0)), (0, .ref (m 31))]) (pc2 := 42) O dX7_run_41 rfl (by decide) rfl rfl ?_
        have lp42 : ∀ (n9 : Nat) (k : Nat) (mbr9 : zF), k + n9 = 10 → f_X7_run_42 10 0 mbr = f_X7_run_42 n9 k mbr9 → Z [modW cI m mle mpo mfa mrm mrw mP mQ mbk mkp msg mwm mrs msd mls (nI 0) mtx mnu mrd mrl mpe mno mbo mim msi mwi mon v10.1 v10.2.1 v10.2.2 mbr9 mca] [(1, .int (nI k)), (0, .ref (m 31))] 42 [] := by
          intro n9
          induction n9 with
          | zero =>
            intro k mbr9 hM42 hF42
            have hI42 : 10 = k := by omega
            subst hI42
            have e9 : (f_X7_run_42 10 0 mbr) = mbr9 := hF42
            subst e9
            refine zr_iload_n (pc2 := 43) O dX7_run_42 rfl 0 rfl rfl ?_
            refine zr_bipush (v := (nI 10)) (pc2 := 45) O dX7_run_43 (by decide +kernel) rfl ?_
            refine zn_icmp_ge (tgt := 61) (pc2 := 48) O dX7_run_45 (by decide) rfl (by omega) (by omega) (fun c45 => ?_) (fun c45 => ?_)
            · refine zr_iconst (v := (nI 0)) (pc2 := 62) O dX7_run_61 (by decide +kernel) rfl ?_
              refine zr_istore_n (lv2 := [(1, .int (nI 0)), (0, .ref (m 31))]) (pc2 := 63) O dX7_run_62 rfl (by decide) rfl rfl ?_
              have lp63 : ∀ (n9 : Nat) (yr : Nat) (mhd8 : Int32) (mdi8 : zF) (mco8 : zF) (mgo8 : zF) (mbr8 : zF) (mca8 : zF), yr + n9 = 151 → f_X7_run_63 mP mwm mls mno mwi mon mH 151 0 (nI 0) v10.1 v10.2.1 v10.2.2 (f_X7_run_42 10 0 mbr) mca = f_X7_run_63 mP mwm mls mno mwi mon mH n9 yr mhd8 mdi8 mco8 mgo8 mbr8 mca8 → Z [modW cI m mle mpo mfa mrm mrw mP mQ mbk mkp msg mwm mrs msd mls mhd8 mtx mnu mrd mrl mpe mno mbo mim msi mwi mon mdi8 mco8 mgo8 mbr8 mca8] [(1, .int (nI yr)), (0, .ref (m 31))] 63 [] := by
                intro n9
                induction n9 with
                | zero =>
                  intro yr mhd8 mdi8 mco8 mgo8 mbr8 mca8 hM63 hF63
                  have hI63 : 151 = yr := by omega
                  subst hI63
                  obtain ⟨v67, hv67⟩ : ∃ z9, z9 = f_X7_run_63 mP mwm mls mno mwi mon mH 151 0 (nI 0) v10.1 v10.2.1 v10.2.2 (f_X7_run_42 10 0 mbr) mca := ⟨_, rfl⟩
                  rw [← hv67] at hF63
                  have e9 : v67.1 = mhd8 := congrArg (fun z => z.1) hF63
                  subst e9
                  have e9 : v67.2.1 = mdi8 := congrArg (fun z => z.2.1) hF63
                  subst e9
                  have e9 : v67.2.2.1 = mco8 := congrArg (fun z => z.2.2.1) hF63
                  subst e9
                  have e9 : v67.2.2.2.1 = mgo8 := congrArg (fun z => z.2.2.2.1) hF63
                  subst e9
                  have e9 : v67.2.2.2.2.1 = mbr8 := congrArg (fun z => z.2.2.2.2.1) hF63
                  subst e9
                  have e9 : v67.2.2.2.2.2 = mca8 := congrArg (fun z => z.2.2.2.2.2) hF63
                  subst e9
                  refine zr_iload_n (pc2 := 64) O dX7_run_63 rfl 0 rfl rfl ?_
                  refine zr_sipush (v := (nI 150)) (pc2 := 67) O dX7_run_64 (by decide +kernel) rfl ?_
                  refine zn_icmp_gt (tgt := 318) (pc2 := 70) O dX7_run_67 (by decide) rfl (by omega) (by omega) (fun c67 => ?_) (fun c67 => ?_)
                  · have hE : s_X7_run mP mwm mls mno mwi mon mdi mco mgo mbr mca mH = (v67.1, v67.2.1, v67.2.2.1, v67.2.2.2.1, v67.2.2.2.2.1, v67.2.2.2.2.2) := by subst hv67; subst hv10; exact rfl
                    exact hret _ _ _ dX7_run_318 (by rw [hE])
                  · exact absurd c67 (by decide)
                | succ n9 ih63 =>
                  intro yr mhd8 mdi8 mco8 mgo8 mbr8 mca8 hM63 hF63
                  refine zr_iload_n (pc2 := 64) O dX7_run_63 rfl 0 rfl rfl ?_
                  refine zr_sipush (v := (nI 150)) (pc2 := 67) O dX7_run_64 (by decide +kernel) rfl ?_
                  refine zn_icmp_gt (tgt := 318) (pc2 := 70) O dX7_run_67 (by decide) rfl (by omega) (by omega) (fun c67 => ?_) (fun c67 => ?_)
                  · exact absurd c67 (by omega)
                  · refine zr_iconst (v := (nI 0)) (pc2 := 71) O dX7_run_70 (by decide +kernel) rfl ?_
                    refine zr_istore_n (lv2 := [(2, .int (nI 0)), (1, .int (nI yr)), (0, .ref (m 31))]) (pc2 := 72) O dX7_run_71 rfl (by decide) rfl rfl ?_
                    have lp72 : ∀ (n9 : Nat) (i2 : Nat) (mco7 : zF), i2 + n9 = mP → f_X7_run_72 mon yr mP 0 mco8 = f_X7_run_72 mon yr n9 i2 mco7 → Z [modW cI m mle mpo mfa mrm mrw mP mQ mbk mkp msg mwm mrs msd mls mhd8 mtx mnu mrd mrl mpe mno mbo mim msi mwi mon mdi8 mco7 mgo8 mbr8 mca8] [(2, .int (nI i2)), (1, .int (nI yr)), (0, .ref (m 31))] 72 [] := by
                      intro n9
                      induction n9 with
                      | zero =>
                        intro i2 mco7 hM72 hF72
                        have hI72 : mP = i2 := by omega
                        subst hI72
                        have e9 : (f_X7_run_72 mon yr mP 0 mco8) = mco7 := hF72
                        subst e9
                        refine zr_iload_n (pc2 := 73) O dX7_run_72 rfl 0 rfl rfl ?_
                        refine zr_aload_n (pc2 := 74) O dX7_run_73 rfl 2 rfl rfl ?_
                        refine zr_getf (v := .int (nI mP)) (pc2 := 77) O sF_X7_run_22 0 0 rfl rfl rfl dX7_run_74 rfl ?_
                        refine zn_icmp_ge (tgt := 121) (pc2 := 80) O dX7_run_77 (by decide) rfl (by omega) (by omega) (fun c77 => ?_) (fun c77 => ?_)
                        · refine zr_iconst (v := (nI 0)) (pc2 := 122) O dX7_run_121 (by decide +kernel) rfl ?_
                          refine zr_istore_n (lv2 := [(2, .int (nI 0)), (1, .int (nI yr)), (0, .ref (m 31))]) (pc2 := 123) O dX7_run_122 rfl (by decide) rfl rfl ?_
                          have lp123 : ∀ (n9 : Nat) (h : Nat) (mco7 : zF), h + n9 = mH → f_X7_run_123 mno mon yr mdi8 mH 0 (f_X7_run_72 mon yr mP 0 mco8) = f_X7_run_123 mno mon yr mdi8 n9 h mco7 → Z [modW cI m mle mpo mfa mrm mrw mP mQ mbk mkp msg mwm mrs msd mls mhd8 mtx mnu mrd mrl mpe mno mbo mim msi mwi mon mdi8 mco7 mgo8 mbr8 mca8] [(2, .int (nI h)), (1, .int (nI yr)), (0, .ref (m 31))] 123 [] := by
                            intro n9
                            induction n9 with
                            | zero =>
                              intro h mco7 hM123 hF123
                              have hI123 : mH = h := by omega
                              subst hI123
                              obtain ⟨v131, hv131⟩ : ∃ z9, z9 = f_X7_run_123 mno mon yr mdi8 mH 0 (f_X7_run_72 mon yr mP 0 mco8) := ⟨_, rfl⟩
                              rw [← hv131] at hF123
                              have e9 : v131 = mco7 := hF123
                              subst e9
                              refine zr_iload_n (pc2 := 124) O dX7_run_123 rfl 0 rfl rfl ?_
                              refine zr_aload_n (pc2 := 125) O dX7_run_124 rfl 2 rfl rfl ?_
                              refine zr_getf (v := .ref (m 14)) (pc2 := 128) O sF_X7_run_35 0 0 rfl rfl rfl dX7_run_125 rfl ?_
                              refine zr_bipush (v := (nI 27)) (pc2 := 130) O dX7_run_128 (by decide +kernel) rfl ?_
                              refine zn_iald (j := 27) (pc2 := 131) O 0 6 0 rfl rfl rfl rfl (by omega) (by decide) dX7_run_130 rfl ?_
                              have hc1 := (And.intro hH hmH)
                              rw [hc1.1]
                              refine zn_icmp_ge (tgt := 204) (pc2 := 134) O dX7_run_131 (by decide) rfl (by omega) (by omega) (fun c131 => ?_) (fun c131 => ?_)
                              · refine zr_iconst (v := (nI 0)) (pc2 := 205) O dX7_run_204 (by decide +kernel) rfl ?_
                                refine zr_istore_n (lv2 := [(2, .int (nI 0)), (1, .int (nI yr)), (0, .ref (m 31))]) (pc2 := 206) O dX7_run_205 rfl (by decide) rfl rfl ?_
                                have lp206 : ∀ (n9 : Nat) (i2 : Nat) (mco7 : zF), i2 + n9 = mP → f_X7_run_206 mls mon yr mdi8 mP 0 v131 = f_X7_run_206 mls mon yr mdi8 n9 i2 mco7 → Z [modW cI m mle mpo mfa mrm mrw mP mQ mbk mkp msg mwm mrs msd mls mhd8 mtx mnu mrd mrl mpe mno mbo mim msi mwi mon mdi8 mco7 mgo8 mbr8 mca8] [(2, .int (nI i2)), (1, .int (nI yr)), (0, .ref (m 31))] 206 [] := by
                                  intro n9
                                  induction n9 with
                                  | zero =>
                                    intro i2 mco7 hM206 hF206
                                    have hI206 : mP = i2 := by omega
                                    subst hI206
                                    have e9 : (f_X7_run_206 mls mon yr mdi8 mP 0 v131) = mco7 := hF206
                                    subst e9
                                    refine zr_iload_n (pc2 := 207) O dX7_run_206 rfl 0 rfl rfl ?_
                                    refine zr_aload_n (pc2 := 208) O dX7_run_207 rfl 2 rfl rfl ?_
                                    refine zr_getf (v := .int (nI mP)) (pc2 := 211) O sF_X7_run_22 0 0 rfl rfl rfl dX7_run_208 rfl ?_
                                    refine zn_icmp_ge (tgt := 248) (pc2 := 214) O dX7_run_211 (by decide) rfl (by omega) (by omega) (fun c211 => ?_) (fun c211 => ?_)
                                    · refine zr_iconst (v := (nI 0)) (pc2 := 249) O dX7_run_248 (by decide +kernel) rfl ?_
                                      refine zr_istore_n (lv2 := [(2, .int (nI 0)), (1, .int (nI yr)), (0, .ref (m 31))]) (pc2 := 250) O dX7_run_249 rfl (by decide) rfl rfl ?_
                                      have lp250 : ∀ (n9 : Nat) (i2 : Nat) (mhd7 : Int32) (mdi7 : zF) (mco7 : zF) (mgo7 : zF) (mbr7 : zF), i2 + n9 = mP → f_X7_run_250 mwm mwi mon yr mP 0 mhd8 mdi8 (f_X7_run_206 mls mon yr mdi8 mP 0 v131) mgo8 mbr8 = f_X7_run_250 mwm mwi mon yr n9 i2 mhd7 mdi7 mco7 mgo7 mbr7 → Z [modW cI m mle mpo mfa mrm mrw mP mQ mbk mkp msg mwm mrs msd mls mhd7 mtx mnu mrd mrl mpe mno mbo mim msi mwi mon mdi7 mco7 mgo7 mbr7 mca8] [(2, .int (nI i2)), (1, .int (nI yr)), (0, .ref (m 31))] 250 [] := by
                                        intro n9
                                        induction n9 with
                                        | zero =>
                                          intro i2 mhd7 mdi7 mco7 mgo7 mbr7 hM250 hF250
                                          have hI250 : mP = i2 := by omega
                                          subst hI250
                                          obtain ⟨v255, hv255⟩ : ∃ z9, z9 = f_X7_run_250 mwm mwi mon yr mP 0 mhd8 mdi8 (f_X7_run_206 mls mon yr mdi8 mP 0 v131) mgo8 mbr8 := ⟨_, rfl⟩
                                          rw [← hv255] at hF250
                                          have e9 : v255.1 = mhd7 := congrArg (fun z => z.1) hF250
                                          subst e9
                                          have e9 : v255.2.1 = mdi7 := congrArg (fun z => z.2.1) hF250
                                          subst e9
                                          have e9 : v255.2.2.1 = mco7 := congrArg (fun z => z.2.2.1) hF250
                                          subst e9
                                          have e9 : v255.2.2.2.1 = mgo7 := congrArg (fun z => z.2.2.2.1) hF250
                                          subst e9
                                          have e9 : v255.2.2.2.2 = mbr7 := congrArg (fun z => z.2.2.2.2) hF250
                                          subst e9
                                          refine zr_iload_n (pc2 := 251) O dX7_run_250 rfl 0 rfl rfl ?_
                                          refine zr_aload_n (pc2 := 252) O dX7_run_251 rfl 2 rfl rfl ?_
                                          refine zr_getf (v := .int (nI mP)) (pc2 := 255) O sF_X7_run_22 0 0 rfl rfl rfl dX7_run_252 rfl ?_
                                          refine zn_icmp_ge (tgt := 279) (pc2 := 258) O dX7_run_255 (by decide) rfl (by omega) (by omega) (fun c255 => ?_) (fun c255 => ?_)
                                          · refine zr_iconst (v := (nI 0)) (pc2 := 280) O dX7_run_279 (by decide +kernel) rfl ?_
                                            refine zr_istore_n (lv2 := [(2, .int (nI 0)), (1, .int (nI yr)), (0, .ref (m 31))]) (pc2 := 281) O dX7_run_280 rfl (by decide) rfl rfl ?_
                                            have lp281 : ∀ (n9 : Nat) (i2 : Nat) (mca7 : zF), i2 + n9 = mP → f_X7_run_281 v255 yr mP 0 mca8 = f_X7_run_281 v255 yr n9 i2 mca7 → Z [modW cI m mle mpo mfa mrm mrw mP mQ mbk mkp msg mwm mrs msd mls v255.1 mtx mnu mrd mrl mpe mno mbo mim msi mwi mon v255.2.1 v255.2.2.1 v255.2.2.2.1 v255.2.2.2.2 mca7] [(2, .int (nI i2)), (1, .int (nI yr)), (0, .ref (m 31))] 281 [] := by
                                              intro n9
                                              induction n9 with
                                              | zero =>
                                                intro i2 mca7 hM281 hF281
                                                have hI281 : mP = i2 := by omega
                                                subst hI281
                                                have e9 : (f_X7_run_281 v255 yr mP 0 mca8) = mca7 := hF281
                                                subst e9
                                                refine zr_iload_n (pc2 := 282) O dX7_run_281 rfl 0 rfl rfl ?_
                                                refine zr_aload_n (pc2 := 283) O dX7_run_282 rfl 2 rfl rfl ?_
                                                refine zr_getf (v := .int (nI mP)) (pc2 := 286) O sF_X7_run_22 0 0 rfl rfl rfl dX7_run_283 rfl ?_
                                                refine zn_icmp_ge (tgt := 312) (pc2 := 289) O dX7_run_286 (by decide) rfl (by omega) (by omega) (fun c286 => ?_) (fun c286 => ?_)
                                                · refine zr_iinc (v := (nI (yr + 1))) (lv2 := [(1, .int (nI (yr + 1))), (2, .int (nI mP)), (0, .ref (m 31))]) (pc2 := 315) O dX7_run_312 1 rfl (zm_ofInt1 yr) (by decide) rfl rfl ?_
                                                  refine zr_goto (tgt := 63) O dX7_run_315 (by decide) ?_
                                                  refine zr_sub (lv2 := [(1, .int (nI (yr + 1))), (0, .ref (m 31))]) O [0, 2] rfl ?_
                                                  have hE : f_X7_run_63 mP mwm mls mno mwi mon mH (n9 + 1) yr mhd8 mdi8 mco8 mgo8 mbr8 mca8 = f_X7_run_63 mP mwm mls mno mwi mon mH n9 (yr + 1) v255.1 v255.2.1 v255.2.2.1 v255.2.2.2.1 v255.2.2.2.2 (f_X7_run_281 v255 yr mP 0 mca8) := by subst hv255; subst hv131; exact rfl
                                                  exact ih63 (yr + 1) v255.1 v255.2.1 v255.2.2.1 v255.2.2.2.1 v255.2.2.2.2 (f_X7_run_281 v255 yr mP 0 mca8) (by omega) (hF63.trans hE)
                                                · exact absurd c286 (by omega)
                                              | succ n9 ih281 =>
                                                intro i2 mca7 hM281 hF281
                                                refine zr_iload_n (pc2 := 282) O dX7_run_281 rfl 0 rfl rfl ?_
                                                refine zr_aload_n (pc2 := 283) O dX7_run_282 rfl 2 rfl rfl ?_
                                                refine zr_getf (v := .int (nI mP)) (pc2 := 286) O sF_X7_run_22 0 0 rfl rfl rfl dX7_run_283 rfl ?_
                                                refine zn_icmp_ge (tgt := 312) (pc2 := 289) O dX7_run_286 (by decide) rfl (by omega) (by omega) (fun c286 => ?_) (fun c286 => ?_)
                                                · exact absurd c286 (by omega)
                                                · refine zr_aload_n (pc2 := 290) O dX7_run_289 rfl 2 rfl rfl ?_
                                                  refine zr_getf (v := .ref (m 30)) (pc2 := 293) O sF_X7_run_65 0 0 rfl rfl rfl dX7_run_290 rfl ?_
                                                  refine zr_bipush (v := (nI 6)) (pc2 := 295) O dX7_run_293 (by decide +kernel) rfl ?_
                                                  refine zr_iload_n (pc2 := 296) O dX7_run_295 rfl 1 rfl rfl ?_
                                                  refine zr_imul (v := (nI (6 * yr))) (pc2 := 297) O dX7_run_296 (pk_mul 6 yr) rfl ?_
                                                  refine zr_iload_n (pc2 := 298) O dX7_run_297 rfl 0 rfl rfl ?_
                                                  refine zr_iadd (v := (nI ((6 * yr) + i2))) (pc2 := 299) O dX7_run_298 (nI_add (6 * yr) i2) rfl ?_
                                                  refine zr_aload_n (pc2 := 300) O dX7_run_299 rfl 2 rfl rfl ?_
                                                  refine zr_getf (v := .ref (m 26)) (pc2 := 303) O sF_X7_run_56 0 0 rfl rfl rfl dX7_run_300 rfl ?_
                                                  refine zr_iload_n (pc2 := 304) O dX7_run_303 rfl 0 rfl rfl ?_
                                                  refine zn_iald (j := i2) (pc2 := 305) O 0 13 0 rfl rfl rfl rfl (by omega) (by decide) dX7_run_304 rfl ?_
                                                  refine zn_iast (j := ((6 * yr) + i2)) (G2 := modW cI m mle mpo mfa mrm mrw mP mQ mbk mkp msg mwm mrs msd mls v255.1 mtx mnu mrd mrl mpe mno mbo mim msi mwi mon v255.2.1 v255.2.2.1 v255.2.2.2.1 v255.2.2.2.2 (upd mca7 ((6 * yr) + i2) (v255.2.2.1 i2))) (ws2 := [modW cI m mle mpo mfa mrm mrw mP mQ mbk mkp msg mwm mrs msd mls v255.1 mtx mnu mrd mrl mpe mno mbo mim msi mwi mon v255.2.1 v255.2.2.1 v255.2.2.2.1 v255.2.2.2.2 (upd mca7 ((6 * yr) + i2) (v255.2.2.1 i2))]) (pc2 := 306) O 0 16 0 rfl rfl rfl rfl (by omega) (by decide) dX7_run_305 rfl rfl rfl ?_
                                                  refine zr_iinc (v := (nI (i2 + 1))) (lv2 := [(2, .int (nI (i2 + 1))), (1, .int (nI yr)), (0, .ref (m 31))]) (pc2 := 309) O dX7_run_306 0 rfl (zm_ofInt1 i2) (by decide) rfl rfl ?_
                                                  refine zr_goto (tgt := 281) O dX7_run_309 (by decide) ?_
                                                  have hE : f_X7_run_281 v255 yr (n9 + 1) i2 mca7 = f_X7_run_281 v255 yr n9 (i2 + 1) (upd mca7 ((6 * yr) + i2) (v255.2.2.1 i2)) := by exact rfl
                                                  exact ih281 (i2 + 1) (upd mca7 ((6 * yr) + i2) (v255.2.2.1 i2)) (by omega) (hF281.trans hE)
                                            exact lp281 mP 0 mca8 (by omega) rfl
                                          · exact absurd c255 (by omega)
                                        | succ n9 ih250 =>
                                          intro i2 mhd7 mdi7 mco7 mgo7 mbr7 hM250 hF250
                                          refine zr_iload_n (pc2 := 251) O dX7_run_250 rfl 0 rfl rfl ?_
                                          refine zr_aload_n (pc2 := 252) O dX7_run_251 rfl 2 rfl rfl ?_
                                          refine zr_getf (v := .int (nI mP)) (pc2 := 255) O sF_X7_run_22 0 0 rfl rfl rfl dX7_run_252 rfl ?_
                                          refine zn_icmp_ge (tgt := 279) (pc2 := 258) O dX7_run_255 (by decide) rfl (by omega) (by omega) (fun c255 => ?_) (fun c255 => ?_)
                                          · exact absurd c255 (by omega)
                                          · refine zr_aload_n (pc2 := 259) O dX7_run_258 rfl 2 rfl rfl ?_
                                            refine zr_iload_n (pc2 := 260) O dX7_run_259 rfl 0 rfl rfl ?_
                                            refine zr_iload_n (pc2 := 261) O dX7_run_260 rfl 1 rfl rfl ?_
                                            refine zr_callV (As := [.int (nI i2), .int (nI yr)]) (rest := []) (ws2 := [modW cI m mle mpo mfa mrm mrw mP mQ mbk mkp msg mwm mrs msd mls mhd7 mtx mnu mrd mrl mpe mno mbo mim msi mwi mon mdi7 mco7 mgo7 mbr7 mca8]) (pc2 := 264) (ci := 7) (g0 := 0) (q0 := 0) O (c_X7_lives l D cI cC cJ m mle mpo mfa mrm mrw mP mQ mbk mkp msg mwm mrs msd mls mhd7 mtx mnu mrd mrl mpe mno mbo mim msi mwi mon mdi7 mco7 mgo7 mbr7 mca8 i2 yr (by first | assumption | omega)) sC_X7_run_156 rfl rfl rfl rfl rfl dX7_run_261 [0] rfl rfl rfl rfl (Nat.le_of_ble_eq_true rfl) rfl ?_
                                            show Z _ _ _ [.int (zb (s_X7_lives mon mdi7 i2 yr))]
                                            refine zb_if_eq (tgt := 273) (pc2 := 267) O dX7_run_264 (by decide) rfl (fun c264 => ?_) (fun c264 => ?_)
                                            · refine zr_iinc (v := (nI (i2 + 1))) (lv2 := [(2, .int (nI (i2 + 1))), (1, .int (nI yr)), (0, .ref (m 31))]) (pc2 := 276) O dX7_run_273 0 rfl (zm_ofInt1 i2) (by decide) rfl rfl ?_
                                              refine zr_goto (tgt := 250) O dX7_run_276 (by decide) ?_
                                              have hE : f_X7_run_250 mwm mwi mon yr (n9 + 1) i2 mhd7 mdi7 mco7 mgo7 mbr7 = f_X7_run_250 mwm mwi mon yr n9 (i2 + 1) mhd7 mdi7 mco7 mgo7 mbr7 := by exact (zif_f c264)
                                              exact ih250 (i2 + 1) mhd7 mdi7 mco7 mgo7 mbr7 (by omega) (hF250.trans hE)
                                            · refine zr_aload_n (pc2 := 268) O dX7_run_267 rfl 2 rfl rfl ?_
                                              refine zr_iload_n (pc2 := 269) O dX7_run_268 rfl 0 rfl rfl ?_
                                              refine zr_iload_n (pc2 := 270) O dX7_run_269 rfl 1 rfl rfl ?_
                                              obtain ⟨u270, hu270⟩ : ∃ z9, z9 = s_X7_turn mwm mhd7 mwi mon mdi7 mco7 mgo7 mbr7 i2 yr := ⟨_, rfl⟩
                                              refine zr_callV (As := [.int (nI i2), .int (nI yr)]) (rest := []) (ws2 := [modW cI m mle mpo mfa mrm mrw mP mQ mbk mkp msg mwm mrs msd mls u270.1 mtx mnu mrd mrl mpe mno mbo mim msi mwi mon u270.2.1 u270.2.2.1 u270.2.2.2.1 u270.2.2.2.2 mca8]) (pc2 := 273) (ci := 7) (g0 := 0) (q0 := 0) (v := none) (W := [modW cI m mle mpo mfa mrm mrw mP mQ mbk mkp msg mwm mrs msd mls mhd7 mtx mnu mrd mrl mpe mno mbo mim msi mwi mon mdi7 mco7 mgo7 mbr7 mca8]) (W2 := [modW cI m mle mpo mfa mrm mrw mP mQ mbk mkp msg mwm mrs msd mls u270.1 mtx mnu mrd mrl mpe mno mbo mim msi mwi mon u270.2.1 u270.2.2.1 u270.2.2.2.1 u270.2.2.2.2 mca8]) O (by rw [hu270]; exact (c_X7_turn l D cI cC cJ m mle mpo mfa mrm mrw mP mQ mbk mkp msg mwm mrs msd mls mhd7 mtx mnu mrd mrl mpe mno mbo mim msi mwi mon mdi7 mco7 mgo7 mbr7 mca8 i2 yr (by first | assumption | omega) (by first | assumption | omega) (by first | assumption | omega))) sC_X7_run_174 rfl rfl rfl rfl rfl dX7_run_270 [0] rfl rfl rfl rfl (Nat.le_of_ble_eq_true rfl) rfl ?_
                                              show Z _ _ _ []
                                              refine zr_iinc (v := (nI (i2 + 1))) (lv2 := [(2, .int (nI (i2 + 1))), (1, .int (nI yr)), (0, .ref (m 31))]) (pc2 := 276) O dX7_run_273 0 rfl (zm_ofInt1 i2) (by decide) rfl rfl ?_
                                              refine zr_goto (tgt := 250) O dX7_run_276 (by decide) ?_
                                              have hE : f_X7_run_250 mwm mwi mon yr (n9 + 1) i2 mhd7 mdi7 mco7 mgo7 mbr7 = f_X7_run_250 mwm mwi mon yr n9 (i2 + 1) u270.1 u270.2.1 u270.2.2.1 u270.2.2.2.1 u270.2.2.2.2 := by subst hu270; exact (zif_t c264)
                                              exact ih250 (i2 + 1) u270.1 u270.2.1 u270.2.2.1 u270.2.2.2.1 u270.2.2.2.2 (by omega) (hF250.trans hE)
                                      exact lp250 mP 0 mhd8 mdi8 (f_X7_run_206 mls mon yr mdi8 mP 0 v131) mgo8 mbr8 (by omega) rfl
                                    · exact absurd c211 (by omega)
                                  | succ n9 ih206 =>
                                    intro i2 mco7 hM206 hF206
                                    refine zr_iload_n (pc2 := 207) O dX7_run_206 rfl 0 rfl rfl ?_
                                    refine zr_aload_n (pc2 := 208) O dX7_run_207 rfl 2 rfl rfl ?_
                                    refine zr_getf (v := .int (nI mP)) (pc2 := 211) O sF_X7_run_22 0 0 rfl rfl rfl dX7_run_208 rfl ?_
                                    refine zn_icmp_ge (tgt := 248) (pc2 := 214) O dX7_run_211 (by decide) rfl (by omega) (by omega) (fun c211 => ?_) (fun c211 => ?_)
                                    · exact absurd c211 (by omega)
                                    · refine zr_aload_n (pc2 := 215) O dX7_run_214 rfl 2 rfl rfl ?_
                                      refine zr_getf (v := .ref (m 26)) (pc2 := 218) O sF_X7_run_56 0 0 rfl rfl rfl dX7_run_215 rfl ?_
                                      refine zr_iload_n (pc2 := 219) O dX7_run_218 rfl 0 rfl rfl ?_
                                      refine zr_dup2 (pc2 := 220) O dX7_run_219 rfl rfl rfl ?_
                                      refine zn_iald (j := i2) (pc2 := 221) O 0 13 0 rfl rfl rfl rfl (by omega) (by decide) dX7_run_220 rfl ?_
                                      refine zr_aload_n (pc2 := 222) O dX7_run_221 rfl 2 rfl rfl ?_
                                      refine zr_iload_n (pc2 := 223) O dX7_run_222 rfl 0 rfl rfl ?_
                                      refine zr_iload_n (pc2 := 224) O dX7_run_223 rfl 1 rfl rfl ?_
                                      refine zr_callV (As := [.int (nI i2), .int (nI yr)]) (rest := [.int (mco7 i2), .int (nI i2), .ref (m 26)]) (ws2 := [modW cI m mle mpo mfa mrm mrw mP mQ mbk mkp msg mwm mrs msd mls mhd8 mtx mnu mrd mrl mpe mno mbo mim msi mwi mon mdi8 mco7 mgo8 mbr8 mca8]) (pc2 := 227) (ci := 7) (g0 := 0) (q0 := 0) O (c_X7_lives l D cI cC cJ m mle mpo mfa mrm mrw mP mQ mbk mkp msg mwm mrs msd mls mhd8 mtx mnu mrd mrl mpe mno mbo mim msi mwi mon mdi8 mco7 mgo8 mbr8 mca8 i2 yr (by first | assumption | omega)) sC_X7_run_156 rfl rfl rfl rfl rfl dX7_run_224 [0] rfl rfl rfl rfl (Nat.le_of_ble_eq_true rfl) rfl ?_
                                      show Z _ _ _ [.int (zb (s_X7_lives mon mdi8 i2 yr)), .int (mco7 i2), .int (nI i2), .ref (m 26)]
                                      refine zb_if_eq (tgt := 239) (pc2 := 230) O dX7_run_227 (by decide) rfl (fun c227 => ?_) (fun c227 => ?_)
                                      · refine zr_iconst (v := (nI 0)) (pc2 := 240) O dX7_run_239 (by decide +kernel) rfl ?_
                                        refine zr_iadd (v := ((mco7 i2) + (nI 0))) (pc2 := 241) O dX7_run_240 rfl rfl ?_
                                        refine zn_iast (j := i2) (G2 := modW cI m mle mpo mfa mrm mrw mP mQ mbk mkp msg mwm mrs msd mls mhd8 mtx mnu mrd mrl mpe mno mbo mim msi mwi mon mdi8 (upd mco7 i2 ((mco7 i2) + (nI 0))) mgo8 mbr8 mca8) (ws2 := [modW cI m mle mpo mfa mrm mrw mP mQ mbk mkp msg mwm mrs msd mls mhd8 mtx mnu mrd mrl mpe mno mbo mim msi mwi mon mdi8 (upd mco7 i2 ((mco7 i2) + (nI 0))) mgo8 mbr8 mca8]) (pc2 := 242) O 0 13 0 rfl rfl rfl rfl (by omega) (by decide) dX7_run_241 rfl rfl rfl ?_
                                        refine zr_iinc (v := (nI (i2 + 1))) (lv2 := [(2, .int (nI (i2 + 1))), (1, .int (nI yr)), (0, .ref (m 31))]) (pc2 := 245) O dX7_run_242 0 rfl (zm_ofInt1 i2) (by decide) rfl rfl ?_
                                        refine zr_goto (tgt := 206) O dX7_run_245 (by decide) ?_
                                        have hE : f_X7_run_206 mls mon yr mdi8 (n9 + 1) i2 mco7 = f_X7_run_206 mls mon yr mdi8 n9 (i2 + 1) (upd mco7 i2 ((mco7 i2) + (nI 0))) := by exact (zif_f c227)
                                        exact ih206 (i2 + 1) (upd mco7 i2 ((mco7 i2) + (nI 0))) (by omega) (hF206.trans hE)
                                      · refine zr_aload_n (pc2 := 231) O dX7_run_230 rfl 2 rfl rfl ?_
                                        refine zr_iload_n (pc2 := 232) O dX7_run_231 rfl 0 rfl rfl ?_
                                        refine zr_iload_n (pc2 := 233) O dX7_run_232 rfl 1 rfl rfl ?_
                                        refine zr_callV (As := [.int (nI i2), .int (nI yr)]) (rest := [.int (mco7 i2), .int (nI i2), .ref (m 26)]) (ws2 := [modW cI m mle mpo mfa mrm mrw mP mQ mbk mkp msg mwm mrs msd mls mhd8 mtx mnu mrd mrl mpe mno mbo mim msi mwi mon mdi8 mco7 mgo8 mbr8 mca8]) (pc2 := 236) (ci := 7) (g0 := 0) (q0 := 0) O (c_X7_gainOf l D cI cC cJ m mle mpo mfa mrm mrw mP mQ mbk mkp msg mwm mrs msd mls mhd8 mtx mnu mrd mrl mpe mno mbo mim msi mwi mon mdi8 mco7 mgo8 mbr8 mca8 i2 yr (by first | assumption | omega)) sC_X7_run_170 rfl rfl rfl rfl rfl dX7_run_233 [0] rfl rfl rfl rfl (Nat.le_of_ble_eq_true rfl) rfl ?_
                                        show Z _ _ _ [.int (s_X7_gainOf mls mon i2 yr), .int (mco7 i2), .int (nI i2), .ref (m 26)]
                                        refine zr_goto (tgt := 240) O dX7_run_236 (by decide) ?_
                                        refine zr_iadd (v := ((mco7 i2) + (s_X7_gainOf mls mon i2 yr))) (pc2 := 241) O dX7_run_240 rfl rfl ?_
                                        refine zn_iast (j := i2) (G2 := modW cI m mle mpo mfa mrm mrw mP mQ mbk mkp msg mwm mrs msd mls mhd8 mtx mnu mrd mrl mpe mno mbo mim msi mwi mon mdi8 (upd mco7 i2 ((mco7 i2) + (s_X7_gainOf mls mon i2 yr))) mgo8 mbr8 mca8) (ws2 := [modW cI m mle mpo mfa mrm mrw mP mQ mbk mkp msg mwm mrs msd mls mhd8 mtx mnu mrd mrl mpe mno mbo mim msi mwi mon mdi8 (upd mco7 i2 ((mco7 i2) + (s_X7_gainOf mls mon i2 yr))) mgo8 mbr8 mca8]) (pc2 := 242) O 0 13 0 rfl rfl rfl rfl (by omega) (by decide) dX7_run_241 rfl rfl rfl ?_
                                        refine zr_iinc (v := (nI (i2 + 1))) (lv2 := [(2, .int (nI (i2 + 1))), (1, .int (nI yr)), (0, .ref (m 31))]) (pc2 := 245) O dX7_run_242 0 rfl (zm_ofInt1 i2) (by decide) rfl rfl ?_
                                        refine zr_goto (tgt := 206) O dX7_run_245 (by decide) ?_
                                        have hE : f_X7_run_206 mls mon yr mdi8 (n9 + 1) i2 mco7 = f_X7_run_206 mls mon yr mdi8 n9 (i2 + 1) (upd mco7 i2 ((mco7 i2) + (s_X7_gainOf mls mon i2 yr))) := by exact (zif_t c227)
                                        exact ih206 (i2 + 1) (upd mco7 i2 ((mco7 i2) + (s_X7_gainOf mls mon i2 yr))) (by omega) (hF206.trans hE)
                                exact lp206 mP 0 v131 (by omega) rfl
                              · exact absurd c131 (by omega)
                            | succ n9 ih123 =>
                              intro h mco7 hM123 hF123
                              refine zr_iload_n (pc2 := 124) O dX7_run_123 rfl 0 rfl rfl ?_
                              refine zr_aload_n (pc2 := 125) O dX7_run_124 rfl 2 rfl rfl ?_
                              refine zr_getf (v := .ref (m 14)) (pc2 := 128) O sF_X7_run_35 0 0 rfl rfl rfl dX7_run_125 rfl ?_
                              refine zr_bipush (v := (nI 27)) (pc2 := 130) O dX7_run_128 (by decide +kernel) rfl ?_
                              refine zn_iald (j := 27) (pc2 := 131) O 0 6 0 rfl rfl rfl rfl (by omega) (by decide) dX7_run_130 rfl ?_
                              have hc1 := (And.intro hH hmH)
                              rw [hc1.1]
                              refine zn_icmp_ge (tgt := 204) (pc2 := 134) O dX7_run_131 (by decide) rfl (by omega) (by omega) (fun c131 => ?_) (fun c131 => ?_)
                              · exact absurd c131 (by omega)
                              · refine zr_aload_n (pc2 := 135) O dX7_run_134 rfl 2 rfl rfl ?_
                                refine zr_getf (v := .ref (m 14)) (pc2 := 138) O sF_X7_run_35 0 0 rfl rfl rfl dX7_run_135 rfl ?_
                                refine zr_bipush (v := (nI 28)) (pc2 := 140) O dX7_run_138 (by decide +kernel) rfl ?_
                                refine zr_iconst (v := (nI 3)) (pc2 := 141) O dX7_run_140 (by decide +kernel) rfl ?_
                                refine zr_iload_n (pc2 := 142) O dX7_run_141 rfl 0 rfl rfl ?_
                                refine zr_imul (v := (nI (3 * h))) (pc2 := 143) O dX7_run_142 (pk_mul 3 h) rfl ?_
                                refine zr_iadd (v := (nI (28 + (3 * h)))) (pc2 := 144) O dX7_run_143 (nI_add 28 (3 * h)) rfl ?_
                                refine zn_iald (j := (28 + (3 * h))) (pc2 := 145) O 0 6 0 rfl rfl rfl rfl (by omega) (by decide) dX7_run_144 rfl ?_
                                have hc3 := (hhi h (by omega))
                                rw [hc3.1]
                                refine zr_istore_n (lv2 := [(3, .int (nI ((mno (28 + (3 * h))).toNatClampNeg))), (2, .int (nI h)), (1, .int (nI yr)), (0, .ref (m 31))]) (pc2 := 146) O dX7_run_145 rfl (by decide) rfl rfl ?_
                                refine zr_aload_n (pc2 := 147) O dX7_run_146 rfl 3 rfl rfl ?_
                                refine zr_getf (v := .ref (m 26)) (pc2 := 150) O sF_X7_run_56 0 0 rfl rfl rfl dX7_run_147 rfl ?_
                                refine zr_iload_n (pc2 := 151) O dX7_run_150 rfl 0 rfl rfl ?_
                                refine zr_dup2 (pc2 := 152) O dX7_run_151 rfl rfl rfl ?_
                                refine zn_iald (j := ((mno (28 + (3 * h))).toNatClampNeg)) (pc2 := 153) O 0 13 0 rfl rfl rfl rfl (by omega) (by decide) dX7_run_152 rfl ?_
                                refine zr_aload_n (pc2 := 154) O dX7_run_153 rfl 3 rfl rfl ?_
                                refine zr_getf (v := .ref (m 14)) (pc2 := 157) O sF_X7_run_35 0 0 rfl rfl rfl dX7_run_154 rfl ?_
                                refine zr_bipush (v := (nI 28)) (pc2 := 159) O dX7_run_157 (by decide +kernel) rfl ?_
                                refine zr_iconst (v := (nI 3)) (pc2 := 160) O dX7_run_159 (by decide +kernel) rfl ?_
                                refine zr_iload_n (pc2 := 161) O dX7_run_160 rfl 1 rfl rfl ?_
                                refine zr_imul (v := (nI (3 * h))) (pc2 := 162) O dX7_run_161 (pk_mul 3 h) rfl ?_
                                refine zr_iadd (v := (nI (28 + (3 * h)))) (pc2 := 163) O dX7_run_162 (nI_add 28 (3 * h)) rfl ?_
                                refine zr_iconst (v := (nI 1)) (pc2 := 164) O dX7_run_163 (by decide +kernel) rfl ?_
                                refine zr_iadd (v := (nI ((28 + (3 * h)) + 1))) (pc2 := 165) O dX7_run_164 (nI_add (28 + (3 * h)) 1) rfl ?_
                                refine zn_iald (j := ((28 + (3 * h)) + 1)) (pc2 := 166) O 0 6 0 rfl rfl rfl rfl (by omega) (by decide) dX7_run_165 rfl ?_
                                refine zr_iload_n (pc2 := 167) O dX7_run_166 rfl 2 rfl rfl ?_
                                refine zr_icmp_ne (tgt := 195) (pc2 := 170) O dX7_run_167 (by decide) rfl (fun c167 => ?_) (fun c167 => ?_)
                                · refine zr_iconst (v := (nI 0)) (pc2 := 196) O dX7_run_195 (by decide +kernel) rfl ?_
                                  refine zr_iadd (v := ((mco7 ((mno (28 + (3 * h))).toNatClampNeg)) + (nI 0))) (pc2 := 197) O dX7_run_196 rfl rfl ?_
                                  refine zn_iast (j := ((mno (28 + (3 * h))).toNatClampNeg)) (G2 := modW cI m mle mpo mfa mrm mrw mP mQ mbk mkp msg mwm mrs msd mls mhd8 mtx mnu mrd mrl mpe mno mbo mim msi mwi mon mdi8 (upd mco7 ((mno (28 + (3 * h))).toNatClampNeg) ((mco7 ((mno (28 + (3 * h))).toNatClampNeg)) + (nI 0))) mgo8 mbr8 mca8) (ws2 := [modW cI m mle mpo mfa mrm mrw mP mQ mbk mkp msg mwm mrs msd mls mhd8 mtx mnu mrd mrl mpe mno mbo mim msi mwi mon mdi8 (upd mco7 ((mno (28 + (3 * h))).toNatClampNeg) ((mco7 ((mno (28 + (3 * h))).toNatClampNeg)) + (nI 0))) mgo8 mbr8 mca8]) (pc2 := 198) O 0 13 0 rfl rfl rfl rfl (by omega) (by decide) dX7_run_197 rfl rfl rfl ?_
                                  refine zr_iinc (v := (nI (h + 1))) (lv2 := [(2, .int (nI (h + 1))), (3, .int (nI ((mno (28 + (3 * h))).toNatClampNeg))), (1, .int (nI yr)), (0, .ref (m 31))]) (pc2 := 201) O dX7_run_198 1 rfl (zm_ofInt1 h) (by decide) rfl rfl ?_
                                  refine zr_goto (tgt := 123) O dX7_run_201 (by decide) ?_
                                  refine zr_sub (lv2 := [(2, .int (nI (h + 1))), (1, .int (nI yr)), (0, .ref (m 31))]) O [0, 2, 3] rfl ?_
                                  have hE : f_X7_run_123 mno mon yr mdi8 (n9 + 1) h mco7 = f_X7_run_123 mno mon yr mdi8 n9 (h + 1) (upd mco7 ((mno (28 + (3 * h))).toNatClampNeg) ((mco7 ((mno (28 + (3 * h))).toNatClampNeg)) + (nI 0))) := by exact (if_neg c167)
                                  exact ih123 (h + 1) (upd mco7 ((mno (28 + (3 * h))).toNatClampNeg) ((mco7 ((mno (28 + (3 * h))).toNatClampNeg)) + (nI 0))) (by omega) (hF123.trans hE)
                                · refine zr_aload_n (pc2 := 171) O dX7_run_170 rfl 3 rfl rfl ?_
                                  refine zr_iload_n (pc2 := 172) O dX7_run_171 rfl 0 rfl rfl ?_
                                  refine zr_iload_n (pc2 := 173) O dX7_run_172 rfl 2 rfl rfl ?_
                                  refine zr_callV (As := [.int (nI ((mno (28 + (3 * h))).toNatClampNeg)), .int (nI yr)]) (rest := [.int (mco7 ((mno (28 + (3 * h))).toNatClampNeg)), .int (nI ((mno (28 + (3 * h))).toNatClampNeg)), .ref (m 26)]) (ws2 := [modW cI m mle mpo mfa mrm mrw mP mQ mbk mkp msg mwm mrs msd mls mhd8 mtx mnu mrd mrl mpe mno mbo mim msi mwi mon mdi8 mco7 mgo8 mbr8 mca8]) (pc2 := 176) (ci := 7) (g0 := 0) (q0 := 0) O (c_X7_lives l D cI cC cJ m mle mpo mfa mrm mrw mP mQ mbk mkp msg mwm mrs msd mls mhd8 mtx mnu mrd mrl mpe mno mbo mim msi mwi mon mdi8 mco7 mgo8 mbr8 mca8 ((mno (28 + (3 * h))).toNatClampNeg) yr (by first | assumption | omega)) sC_X7_run_156 rfl rfl rfl rfl rfl dX7_run_173 [0] rfl rfl rfl rfl (Nat.le_of_ble_eq_true rfl) rfl ?_
                                  show Z _ _ _ [.int (zb (s_X7_lives mon mdi8 ((mno (28 + (3 * h))).toNatClampNeg) yr)), .int (mco7 ((mno (28 + (3 * h))).toNatClampNeg)), .int (nI ((mno (28 + (3 * h))).toNatClampNeg)), .ref (m 26)]
                                  refine zb_if_eq (tgt := 195) (pc2 := 179) O dX7_run_176 (by decide) rfl (fun c176 => ?_) (fun c176 => ?_)
                                  · refine zr_iconst (v := (nI 0)) (pc2 := 196) O dX7_run_195 (by decide +kernel) rfl ?_
                                    refine zr_iadd (v := ((mco7 ((mno (28 + (3 * h))).toNatClampNeg)) + (nI 0))) (pc2 := 197) O dX7_run_196 rfl rfl ?_
                                    refine zn_iast (j := ((mno (28 + (3 * h))).toNatClampNeg)) (G2 := modW cI m mle mpo mfa mrm mrw mP mQ mbk mkp msg mwm mrs msd mls mhd8 mtx mnu mrd mrl mpe mno mbo mim msi mwi mon mdi8 (upd mco7 ((mno (28 + (3 * h))).toNatClampNeg) ((mco7 ((mno (28 + (3 * h))).toNatClampNeg)) + (nI 0))) mgo8 mbr8 mca8) (ws2 := [modW cI m mle mpo mfa mrm mrw mP mQ mbk mkp msg mwm mrs msd mls mhd8 mtx mnu mrd mrl mpe mno mbo mim msi mwi mon mdi8 (upd mco7 ((mno (28 + (3 * h))).toNatClampNeg) ((mco7 ((mno (28 + (3 * h))).toNatClampNeg)) + (nI 0))) mgo8 mbr8 mca8]) (pc2 := 198) O 0 13 0 rfl rfl rfl rfl (by omega) (by decide) dX7_run_197 rfl rfl rfl ?_
                                    refine zr_iinc (v := (nI (h + 1))) (lv2 := [(2, .int (nI (h + 1))), (3, .int (nI ((mno (28 + (3 * h))).toNatClampNeg))), (1, .int (nI yr)), (0, .ref (m 31))]) (pc2 := 201) O dX7_run_198 1 rfl (zm_ofInt1 h) (by decide) rfl rfl ?_
                                    refine zr_goto (tgt := 123) O dX7_run_201 (by decide) ?_
                                    refine zr_sub (lv2 := [(2, .int (nI (h + 1))), (1, .int (nI yr)), (0, .ref (m 31))]) O [0, 2, 3] rfl ?_
                                    have hE : f_X7_run_123 mno mon yr mdi8 (n9 + 1) h mco7 = f_X7_run_123 mno mon yr mdi8 n9 (h + 1) (upd mco7 ((mno (28 + (3 * h))).toNatClampNeg) ((mco7 ((mno (28 + (3 * h))).toNatClampNeg)) + (nI 0))) := by exact ((if_pos c167).trans (zif_f c176))
                                    exact ih123 (h + 1) (upd mco7 ((mno (28 + (3 * h))).toNatClampNeg) ((mco7 ((mno (28 + (3 * h))).toNatClampNeg)) + (nI 0))) (by omega) (hF123.trans hE)
                                  · refine zr_aload_n (pc2 := 180) O dX7_run_179 rfl 3 rfl rfl ?_
                                    refine zr_getf (v := .ref (m 14)) (pc2 := 183) O sF_X7_run_35 0 0 rfl rfl rfl dX7_run_180 rfl ?_
                                    refine zr_bipush (v := (nI 28)) (pc2 := 185) O dX7_run_183 (by decide +kernel) rfl ?_
                                    refine zr_iconst (v := (nI 3)) (pc2 := 186) O dX7_run_185 (by decide +kernel) rfl ?_
                                    refine zr_iload_n (pc2 := 187) O dX7_run_186 rfl 1 rfl rfl ?_
                                    refine zr_imul (v := (nI (3 * h))) (pc2 := 188) O dX7_run_187 (pk_mul 3 h) rfl ?_
                                    refine zr_iadd (v := (nI (28 + (3 * h)))) (pc2 := 189) O dX7_run_188 (nI_add 28 (3 * h)) rfl ?_
                                    refine zr_iconst (v := (nI 2)) (pc2 := 190) O dX7_run_189 (by decide +kernel) rfl ?_
                                    refine zr_iadd (v := (nI ((28 + (3 * h)) + 2))) (pc2 := 191) O dX7_run_190 (nI_add (28 + (3 * h)) 2) rfl ?_
                                    refine zn_iald (j := ((28 + (3 * h)) + 2)) (pc2 := 192) O 0 6 0 rfl rfl rfl rfl (by omega) (by decide) dX7_run_191 rfl ?_
                                    refine zr_goto (tgt := 196) O dX7_run_192 (by decide) ?_
                                    refine zr_iadd (v := ((mco7 ((mno (28 + (3 * h))).toNatClampNeg)) + (mno ((28 + (3 * h)) + 2)))) (pc2 := 197) O dX7_run_196 rfl rfl ?_
                                    refine zn_iast (j := ((mno (28 + (3 * h))).toNatClampNeg)) (G2 := modW cI m mle mpo mfa mrm mrw mP mQ mbk mkp msg mwm mrs msd mls mhd8 mtx mnu mrd mrl mpe mno mbo mim msi mwi mon mdi8 (upd mco7 ((mno (28 + (3 * h))).toNatClampNeg) ((mco7 ((mno (28 + (3 * h))).toNatClampNeg)) + (mno ((28 + (3 * h)) + 2)))) mgo8 mbr8 mca8) (ws2 := [modW cI m mle mpo mfa mrm mrw mP mQ mbk mkp msg mwm mrs msd mls mhd8 mtx mnu mrd mrl mpe mno mbo mim msi mwi mon mdi8 (upd mco7 ((mno (28 + (3 * h))).toNatClampNeg) ((mco7 ((mno (28 + (3 * h))).toNatClampNeg)) + (mno ((28 + (3 * h)) + 2)))) mgo8 mbr8 mca8]) (pc2 := 198) O 0 13 0 rfl rfl rfl rfl (by omega) (by decide) dX7_run_197 rfl rfl rfl ?_
                                    refine zr_iinc (v := (nI (h + 1))) (lv2 := [(2, .int (nI (h + 1))), (3, .int (nI ((mno (28 + (3 * h))).toNatClampNeg))), (1, .int (nI yr)), (0, .ref (m 31))]) (pc2 := 201) O dX7_run_198 1 rfl (zm_ofInt1 h) (by decide) rfl rfl ?_
                                    refine zr_goto (tgt := 123) O dX7_run_201 (by decide) ?_
                                    refine zr_sub (lv2 := [(2, .int (nI (h + 1))), (1, .int (nI yr)), (0, .ref (m 31))]) O [0, 2, 3] rfl ?_
                                    have hE : f_X7_run_123 mno mon yr mdi8 (n9 + 1) h mco7 = f_X7_run_123 mno mon yr mdi8 n9 (h + 1) (upd mco7 ((mno (28 + (3 * h))).toNatClampNeg) ((mco7 ((mno (28 + (3 * h))).toNatClampNeg)) + (mno ((28 + (3 * h)) + 2)))) := by exact ((if_pos c167).trans (zif_t c176))
                                    exact ih123 (h + 1) (upd mco7 ((mno (28 + (3 * h))).toNatClampNeg) ((mco7 ((mno (28 + (3 * h))).toNatClampNeg)) + (mno ((28 + (3 * h)) + 2)))) (by omega) (hF123.trans hE)
                          exact lp123 mH 0 (f_X7_run_72 mon yr mP 0 mco8) (by omega) rfl
                        · exact absurd c77 (by omega)
                      | succ n9 ih72 =>
                        intro i2 mco7 hM72 hF72
                        refine zr_iload_n (pc2 := 73) O dX7_run_72 rfl 0 rfl rfl ?_
                        refine zr_aload_n (pc2 := 74) O dX7_run_73 rfl 2 rfl rfl ?_
                        refine zr_getf (v := .int (nI mP)) (pc2 := 77) O sF_X7_run_22 0 0 rfl rfl rfl dX7_run_74 rfl ?_
                        refine zn_icmp_ge (tgt := 121) (pc2 := 80) O dX7_run_77 (by decide) rfl (by omega) (by omega) (fun c77 => ?_) (fun c77 => ?_)
                        · exact absurd c77 (by omega)
                        · refine zr_aload_n (pc2 := 81) O dX7_run_80 rfl 2 rfl rfl ?_
                          refine zr_getf (v := .ref (m 26)) (pc2 := 84) O sF_X7_run_56 0 0 rfl rfl rfl dX7_run_81 rfl ?_
                          refine zr_iload_n (pc2 := 85) O dX7_run_84 rfl 0 rfl rfl ?_
                          refine zr_dup2 (pc2 := 86) O dX7_run_85 rfl rfl rfl ?_
                          refine zn_iald (j := i2) (pc2 := 87) O 0 13 0 rfl rfl rfl rfl (by omega) (by decide) dX7_run_86 rfl ?_
                          refine zr_aload_n (pc2 := 88) O dX7_run_87 rfl 2 rfl rfl ?_
                          refine zr_getf (v := .ref (m 23)) (pc2 := 91) O sF_X7_run_50 0 0 rfl rfl rfl dX7_run_88 rfl ?_
                          refine zr_iconst (v := (nI 5)) (pc2 := 92) O dX7_run_91 (by decide +kernel) rfl ?_
                          refine zr_iload_n (pc2 := 93) O dX7_run_92 rfl 0 rfl rfl ?_
                          refine zr_imul (v := (nI (5 * i2))) (pc2 := 94) O dX7_run_93 (pk_mul 5 i2) rfl ?_
                          refine zn_iald (j := (5 * i2)) (pc2 := 95) O 0 11 0 rfl rfl rfl rfl (by omega) (by decide) dX7_run_94 rfl ?_
                          refine zr_iload_n (pc2 := 96) O dX7_run_95 rfl 1 rfl rfl ?_
                          refine zr_icmp_ne (tgt := 112) (pc2 := 99) O dX7_run_96 (by decide) rfl (fun c96 => ?_) (fun c96 => ?_)
                          · refine zr_iconst (v := (nI 0)) (pc2 := 113) O dX7_run_112 (by decide +kernel) rfl ?_
                            refine zr_iadd (v := ((mco7 i2) + (nI 0))) (pc2 := 114) O dX7_run_113 rfl rfl ?_
                            refine zn_iast (j := i2) (G2 := modW cI m mle mpo mfa mrm mrw mP mQ mbk mkp msg mwm mrs msd mls mhd8 mtx mnu mrd mrl mpe mno mbo mim msi mwi mon mdi8 (upd mco7 i2 ((mco7 i2) + (nI 0))) mgo8 mbr8 mca8) (ws2 := [modW cI m mle mpo mfa mrm mrw mP mQ mbk mkp msg mwm mrs msd mls mhd8 mtx mnu mrd mrl mpe mno mbo mim msi mwi mon mdi8 (upd mco7 i2 ((mco7 i2) + (nI 0))) mgo8 mbr8 mca8]) (pc2 := 115) O 0 13 0 rfl rfl rfl rfl (by omega) (by decide) dX7_run_114 rfl rfl rfl ?_
                            refine zr_iinc (v := (nI (i2 + 1))) (lv2 := [(2, .int (nI (i2 + 1))), (1, .int (nI yr)), (0, .ref (m 31))]) (pc2 := 118) O dX7_run_115 0 rfl (zm_ofInt1 i2) (by decide) rfl rfl ?_
                            refine zr_goto (tgt := 72) O dX7_run_118 (by decide) ?_
                            have hE : f_X7_run_72 mon yr (n9 + 1) i2 mco7 = f_X7_run_72 mon yr n9 (i2 + 1) (upd mco7 i2 ((mco7 i2) + (nI 0))) := by exact (if_neg c96)
                            exact ih72 (i2 + 1) (upd mco7 i2 ((mco7 i2) + (nI 0))) (by omega) (hF72.trans hE)
                          · refine zr_aload_n (pc2 := 100) O dX7_run_99 rfl 2 rfl rfl ?_
                            refine zr_getf (v := .ref (m 23)) (pc2 := 103) O sF_X7_run_50 0 0 rfl rfl rfl dX7_run_100 rfl ?_
                            refine zr_iconst (v := (nI 5)) (pc2 := 104) O dX7_run_103 (by decide +kernel) rfl ?_
                            refine zr_iload_n (pc2 := 105) O dX7_run_104 rfl 0 rfl rfl ?_
                            refine zr_imul (v := (nI (5 * i2))) (pc2 := 106) O dX7_run_105 (pk_mul 5 i2) rfl ?_
                            refine zr_iconst (v := (nI 4)) (pc2 := 107) O dX7_run_106 (by decide +kernel) rfl ?_
                            refine zr_iadd (v := (nI ((5 * i2) + 4))) (pc2 := 108) O dX7_run_107 (nI_add (5 * i2) 4) rfl ?_
                            refine zn_iald (j := ((5 * i2) + 4)) (pc2 := 109) O 0 11 0 rfl rfl rfl rfl (by omega) (by decide) dX7_run_108 rfl ?_
                            refine zr_goto (tgt := 113) O dX7_run_109 (by decide) ?_
                            refine zr_iadd (v := ((mco7 i2) + (mon ((5 * i2) + 4)))) (pc2 := 114) O dX7_run_113 rfl rfl ?_
                            refine zn_iast (j := i2) (G2 := modW cI m mle mpo mfa mrm mrw mP mQ mbk mkp msg mwm mrs msd mls mhd8 mtx mnu mrd mrl mpe mno mbo mim msi mwi mon mdi8 (upd mco7 i2 ((mco7 i2) + (mon ((5 * i2) + 4)))) mgo8 mbr8 mca8) (ws2 := [modW cI m mle mpo mfa mrm mrw mP mQ mbk mkp msg mwm mrs msd mls mhd8 mtx mnu mrd mrl mpe mno mbo mim msi mwi mon mdi8 (upd mco7 i2 ((mco7 i2) + (mon ((5 * i2) + 4)))) mgo8 mbr8 mca8]) (pc2 := 115) O 0 13 0 rfl rfl rfl rfl (by omega) (by decide) dX7_run_114 rfl rfl rfl ?_
                            refine zr_iinc (v := (nI (i2 + 1))) (lv2 := [(2, .int (nI (i2 + 1))), (1, .int (nI yr)), (0, .ref (m 31))]) (pc2 := 118) O dX7_run_115 0 rfl (zm_ofInt1 i2) (by decide) rfl rfl ?_
                            refine zr_goto (tgt := 72) O dX7_run_118 (by decide) ?_
                            have hE : f_X7_run_72 mon yr (n9 + 1) i2 mco7 = f_X7_run_72 mon yr n9 (i2 + 1) (upd mco7 i2 ((mco7 i2) + (mon ((5 * i2) + 4)))) := by exact (if_pos c96)
                            exact ih72 (i2 + 1) (upd mco7 i2 ((mco7 i2) + (mon ((5 * i2) + 4)))) (by omega) (hF72.trans hE)
                    exact lp72 mP 0 mco8 (by omega) rfl
              exact lp63 151 0 (nI 0) v10.1 v10.2.1 v10.2.2 (f_X7_run_42 10 0 mbr) mca (by omega) rfl
            · exact absurd c45 (by decide)
          | succ n9 ih42 =>
            intro k mbr9 hM42 hF42
            refine zr_iload_n (pc2 := 43) O dX7_run_42 rfl 0 rfl rfl ?_
            refine zr_bipush (v := (nI 10)) (pc2 := 45) O dX7_run_43 (by decide +kernel) rfl ?_
            refine zn_icmp_ge (tgt := 61) (pc2 := 48) O dX7_run_45 (by decide) rfl (by omega) (by omega) (fun c45 => ?_) (fun c45 => ?_)
            · exact absurd c45 (by omega)
            · refine zr_aload_n (pc2 := 49) O dX7_run_48 rfl 1 rfl rfl ?_
              refine zr_getf (v := .ref (m 28)) (pc2 := 52) O sF_X7_run_62 0 0 rfl rfl rfl dX7_run_49 rfl ?_
              refine zr_iload_n (pc2 := 53) O dX7_run_52 rfl 0 rfl rfl ?_
              refine zr_iconst (v := (nI 0)) (pc2 := 54) O dX7_run_53 (by decide +kernel) rfl ?_
              refine zn_iast (j := k) (G2 := modW cI m mle mpo mfa mrm mrw mP mQ mbk mkp msg mwm mrs msd mls (nI 0) mtx mnu mrd mrl mpe mno mbo mim msi mwi mon v10.1 v10.2.1 v10.2.2 (upd mbr9 k (nI 0)) mca) (ws2 := [modW cI m mle mpo mfa mrm mrw mP mQ mbk mkp msg mwm mrs msd mls (nI 0) mtx mnu mrd mrl mpe mno mbo mim msi mwi mon v10.1 v10.2.1 v10.2.2 (upd mbr9 k (nI 0)) mca]) (pc2 := 55) O 0 15 0 rfl rfl rfl rfl (by omega) (by decide) dX7_run_54 rfl rfl rfl ?_
              refine zr_iinc (v := (nI (k + 1))) (lv2 := [(1, .int (nI (k + 1))), (0, .ref (m 31))]) (pc2 := 58) O dX7_run_55 0 rfl (zm_ofInt1 k) (by decide) rfl rfl ?_
              refine zr_goto (tgt := 42) O dX7_run_58 (by decide) ?_
              have hE : f_X7_run_42 (n9 + 1) k mbr9 = f_X7_run_42 n9 (k + 1) (upd mbr9 k (nI 0)) := by exact rfl
              exact ih42 (k + 1) (upd mbr9 k (nI 0)) (by omega) (hF42.trans hE)
        exact lp42 10 0 mbr (by omega) rfl
      · exact absurd c10 (by decide)
    | succ n9 ih7 =>
      intro i mdi9 mco9 mgo9 hM7 hF7
      refine zr_iload_n (pc2 := 8) O dX7_run_7 rfl 0 rfl rfl ?_
      refine zr_bipush (v := (nI 6)) (pc2 := 10) O dX7_run_8 (by decide +kernel) rfl ?_
      refine zn_icmp_ge (tgt := 40) (pc2 := 13) O dX7_run_10 (by decide) rfl (by omega) (by omega) (fun c10 => ?_) (fun c10 => ?_)
      · exact absurd c10 (by omega)
      · refine zr_aload_n (pc2 := 14) O dX7_run_13 rfl 1 rfl rfl ?_
        refine zr_getf (v := .ref (m 25)) (pc2 := 17) O sF_X7_run_53 0 0 rfl rfl rfl dX7_run_14 rfl ?_
        refine zr_iload_n (pc2 := 18) O dX7_run_17 rfl 0 rfl rfl ?_
        refine zr_iconst (v := (-1)) (pc2 := 19) O dX7_run_18 (by decide +kernel) rfl ?_
        refine zn_iast (j := i) (G2 := modW cI m mle mpo mfa mrm mrw mP mQ mbk mkp msg mwm mrs msd mls (nI 0) mtx mnu mrd mrl mpe mno mbo mim msi mwi mon (upd mdi9 i (-1)) mco9 mgo9 mbr mca) (ws2 := [modW cI m mle mpo mfa mrm mrw mP mQ mbk mkp msg mwm mrs msd mls (nI 0) mtx mnu mrd mrl mpe mno mbo mim msi mwi mon (upd mdi9 i (-1)) mco9 mgo9 mbr mca]) (pc2 := 20) O 0 12 0 rfl rfl rfl rfl (by omega) (by decide) dX7_run_19 rfl rfl rfl ?_
        refine zr_aload_n (pc2 := 21) O dX7_run_20 rfl 1 rfl rfl ?_
        refine zr_getf (v := .ref (m 26)) (pc2 := 24) O sF_X7_run_56 0 0 rfl rfl rfl dX7_run_21 rfl ?_
        refine zr_iload_n (pc2 := 25) O dX7_run_24 rfl 0 rfl rfl ?_
        refine zr_iconst (v := (nI 0)) (pc2 := 26) O dX7_run_25 (by decide +kernel) rfl ?_
        refine zn_iast (j := i) (G2 := modW cI m mle mpo mfa mrm mrw mP mQ mbk mkp msg mwm mrs msd mls (nI 0) mtx mnu mrd mrl mpe mno mbo mim msi mwi mon (upd mdi9 i (-1)) (upd mco9 i (nI 0)) mgo9 mbr mca) (ws2 := [modW cI m mle mpo mfa mrm mrw mP mQ mbk mkp msg mwm mrs msd mls (nI 0) mtx mnu mrd mrl mpe mno mbo mim msi mwi mon (upd mdi9 i (-1)) (upd mco9 i (nI 0)) mgo9 mbr mca]) (pc2 := 27) O 0 13 0 rfl rfl rfl rfl (by omega) (by decide) dX7_run_26 rfl rfl rfl ?_
        refine zr_aload_n (pc2 := 28) O dX7_run_27 rfl 1 rfl rfl ?_
        refine zr_getf (v := .ref (m 27)) (pc2 := 31) O sF_X7_run_59 0 0 rfl rfl rfl dX7_run_28 rfl ?_
        refine zr_iload_n (pc2 := 32) O dX7_run_31 rfl 0 rfl rfl ?_
        refine zr_iconst (v := (nI 0)) (pc2 := 33) O dX7_run_32 (by decide +kernel) rfl ?_
        refine zn_iast (j := i) (G2 := modW cI m mle mpo mfa mrm mrw mP mQ mbk mkp msg mwm mrs msd mls (nI 0) mtx mnu mrd mrl mpe mno mbo mim msi mwi mon (upd mdi9 i (-1)) (upd mco9 i (nI 0)) (upd mgo9 i (nI 0)) mbr mca) (ws2 := [modW cI m mle mpo mfa mrm mrw mP mQ mbk mkp msg mwm mrs msd mls (nI 0) mtx mnu mrd mrl mpe mno mbo mim msi mwi mon (upd mdi9 i (-1)) (upd mco9 i (nI 0)) (upd mgo9 i (nI 0)) mbr mca]) (pc2 := 34) O 0 14 0 rfl rfl rfl rfl (by omega) (by decide) dX7_run_33 rfl rfl rfl ?_
        refine zr_iinc (v := (nI (i + 1))) (lv2 := [(1, .int (nI (i + 1))), (0, .ref (m 31))]) (pc2 := 37) O dX7_run_34 0 rfl (zm_ofInt1 i) (by decide) rfl rfl ?_
        refine zr_goto (tgt := 7) O dX7_run_37 (by decide) ?_
        have hE : f_X7_run_7 (n9 + 1) i mdi9 mco9 mgo9 = f_X7_run_7 n9 (i + 1) (upd mdi9 i (-1)) (upd mco9 i (nI 0)) (upd mgo9 i (nI 0)) := by exact rfl
        exact ih7 (i + 1) (upd mdi9 i (-1)) (upd mco9 i (nI 0)) (upd mgo9 i (nI 0)) (by omega) (hF7.trans hE)
  exact lp7 6 0 mdi mco mgo (by omega) rfl
