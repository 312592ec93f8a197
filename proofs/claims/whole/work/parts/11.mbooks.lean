def f_X7_copy_3 (f : Nat → Int32) (fr : Nat) (to : Nat) : Nat → Nat → (Nat → Int32) → Nat → Int32
  | 0, _, gk => gk
  | n9 + 1, k, gk => f_X7_copy_3 f fr to n9 (k + 1) (upd gk (to + k) (f (fr + k)))
def s_X7_copy (f : Nat → Int32) (g : Nat → Int32) (fr : Nat) (to : Nat) : Nat → Int32 := (f_X7_copy_3 f fr to 40 0 g)
set_option maxHeartbeats 4000000 in
set_option maxRecDepth 100000 in
theorem c_X7_copy (l : Launch) (D : va_G) (cI cC cJ : ClassId) (p : Nat) (q : Nat) (f : Nat → Int32) (g : Nat → Int32) (fr : Nat) (to : Nat) (n1 : Nat) (n2 : Nat) (h1 : fr + 40 ≤ n1) (h2 : to + 40 ≤ n2) (h3 : n1 ≤ 1000) (h4 : n2 ≤ 1000) : zD l yX7_copy wsX7_copy rm_X7_copy D (zT cI cC cJ) [.ref p, .int (nI fr), .ref q, .int (nI to)] [[(p, .inl (cI, n1, .inl f))], [(q, .inl (cI, n2, .inl g))]] none [[(p, .inl (cI, n1, .inl f))], [(q, .inl (cI, n2, .inl (s_X7_copy f g fr to)))]] := by
  sorry
theorem note11_at : ∀ (n9 k : Nat) (g : zF) (j : Nat), True
  | _, _, _, _ => trivial
/-! X7_leavesOf -/
def f_X7_leavesOf_4 (mno : zF) (i : Int32) : Nat → Nat → Int32 → Int32
  | 0, _, sum => sum
  | n9 + 1, k, sum => if (mno (3 * k)) = i then f_X7_leavesOf_4 mno i n9 (k + 1) (sum + (mno ((3 * k) + 2))) else f_X7_leavesOf_4 mno i n9 (k + 1) (sum + (nI 0))
def s_X7_leavesOf (mQ : Nat) (mno : zF) (i : Int32) : Int32 := (f_X7_leavesOf_4 mno i mQ 0 (nI 0))
set_option maxHeartbeats 4000000 in
set_option maxRecDepth 100000 in
theorem c_X7_leavesOf (l : Launch) (D : va_G) (cI cC cJ : ClassId) (m : Nat → Nat) (mle : Nat) (mpo : Nat) (mfa : Nat) (mrm : Nat) (mrw : Nat) (mP : Nat) (mQ : Nat) (mbk : Nat) (mkp : Nat) (msg : Nat) (mwm : Nat) (mrs : Int32) (msd : Int32) (mls : Int32) (mhd : Int32) (mtx : zF) (mnu : zF) (mrd : zF) (mrl : zF) (mpe : zF) (mno : zF) (mbo : zF) (mim : zF) (msi : zF) (mwi : zF) (mon : zF) (mdi : zF) (mco : zF) (mgo : zF) (mbr : zF) (mca : zF) (i : Int32) (hmQ : mQ ≤ 9) : zD l yX7_leavesOf wsX7_leavesOf rm_X7_leavesOf D (zT cI cC cJ) [.ref (m 31), .int i] [modW cI m mle mpo mfa mrm mrw mP mQ mbk mkp msg mwm mrs msd mls mhd mtx mnu mrd mrl mpe mno mbo mim msi mwi mon mdi mco mgo mbr mca] (some (.int (s_X7_leavesOf mQ mno i))) [modW cI m mle mpo mfa mrm mrw mP mQ mbk mkp msg mwm mrs msd mls mhd mtx mnu mrd mrl mpe mno mbo mim msi mwi mon mdi mco mgo mbr mca] := by
  sorry
/-! X7_note -/
def f_X7_note_11 : Nat → Nat → zF → zF
  | 0, _, mbo9 => mbo9
  | n9 + 1, k, mbo9 => f_X7_note_11 n9 (k + 1) (upd mbo9 k (mbo9 (k + 40)))
def s_X7_note (mbk : Nat) (mno : zF) (mbo : zF) : Nat × zF := if mbk = 8 then ((mbk - 1) + 1, (s_X7_copy mno (f_X7_note_11 280 0 mbo) 0 (40 * (mbk - 1)))) else (mbk + 1, (s_X7_copy mno mbo 0 (40 * mbk)))
set_option maxHeartbeats 4000000 in
set_option maxRecDepth 100000 in
theorem c_X7_note (l : Launch) (D : va_G) (cI cC cJ : ClassId) (m : Nat → Nat) (mle : Nat) (mpo : Nat) (mfa : Nat) (mrm : Nat) (mrw : Nat) (mP : Nat) (mQ : Nat) (mbk : Nat) (mkp : Nat) (msg : Nat) (mwm : Nat) (mrs : Int32) (msd : Int32) (mls : Int32) (mhd : Int32) (mtx : zF) (mnu : zF) (mrd : zF) (mrl : zF) (mpe : zF) (mno : zF) (mbo : zF) (mim : zF) (msi : zF) (mwi : zF) (mon : zF) (mdi : zF) (mco : zF) (mgo : zF) (mbr : zF) (mca : zF) (hbk : mbk ≤ 8) : zD l yX7_note wsX7_note rm_X7_note D (zT cI cC cJ) [.ref (m 31)] [modW cI m mle mpo mfa mrm mrw mP mQ mbk mkp msg mwm mrs msd mls mhd mtx mnu mrd mrl mpe mno mbo mim msi mwi mon mdi mco mgo mbr mca] none [modW cI m mle mpo mfa mrm mrw mP mQ ((s_X7_note mbk mno mbo).1) mkp msg mwm mrs msd mls mhd mtx mnu mrd mrl mpe mno ((s_X7_note mbk mno mbo).2) mim msi mwi mon mdi mco mgo mbr mca] := by
  refine zD_void (cc := cX7_note) (maxL := 2) (lv := [(0, .ref (m 31))]) (by decide +kernel) rfl (Nat.le_of_ble_eq_true rfl) rfl (fun Z O hret => ?_)
  refine zr_aload_n (pc2 := 1) O dX7_note_0 rfl 0 rfl rfl ?_
  refine zr_getf (v := .int (nI mbk)) (pc2 := 4) O sF_X7_note_116 0 0 rfl rfl rfl dX7_note_1 rfl ?_
  refine zr_bipush (v := (nI 8)) (pc2 := 6) O dX7_note_4 (by decide +kernel) rfl ?_
  refine zn_icmp_ne (tgt := 49) (pc2 := 9) O dX7_note_6 (by decide) rfl (by omega) (by omega) (fun c6 => ?_) (fun c6 => ?_)
  · refine zr_aload_n (pc2 := 50) O dX7_note_49 rfl 0 rfl rfl ?_
    refine zr_getf (v := .ref (m 14)) (pc2 := 53) O sF_X7_note_35 0 0 rfl rfl rfl dX7_note_50 rfl ?_
    refine zr_iconst (v := (nI 0)) (pc2 := 54) O dX7_note_53 (by decide +kernel) rfl ?_
    refine zr_aload_n (pc2 := 55) O dX7_note_54 rfl 0 rfl rfl ?_
    refine zr_getf (v := .ref (m 15)) (pc2 := 58) O sF_X7_note_38 0 0 rfl rfl rfl dX7_note_55 rfl ?_
    refine zr_bipush (v := (nI 40)) (pc2 := 60) O dX7_note_58 (by decide +kernel) rfl ?_
    refine zr_aload_n (pc2 := 61) O dX7_note_60 rfl 0 rfl rfl ?_
    refine zr_getf (v := .int (nI mbk)) (pc2 := 64) O sF_X7_note_116 0 0 rfl rfl rfl dX7_note_61 rfl ?_
    refine zr_imul (v := (nI (40 * mbk))) (pc2 := 65) O dX7_note_64 (pk_mul 40 mbk) rfl ?_
    refine zr_flat (ws2 := [[((m 31), .inr (7, [.int (nI mle), .ref (m 1), .int (nI mpo), .ref (m 3), .int (nI mfa), .int (nI mrm), .int (nI mrw), .ref (m 7), .ref (m 8), .int mrs, .int (nI mP), .ref (m 11), .int (nI mQ), .int msd, .ref (m 14), .ref (m 15), .int (nI mbk), .ref (m 17), .int (nI mkp), .int (nI msg), .ref (m 20), .ref (m 21), .int (nI mwm), .ref (m 23), .int mls, .ref (m 25), .ref (m 26), .ref (m 27), .ref (m 28), .int mhd, .ref (m 30)]))], [((m 1), .inl (cI, 200, .inl mtx))], [((m 3), .inl (cI, 4, .inl mnu))], [((m 7), .inl (cI, 30, .inl mrd))], [((m 8), .inl (cI, 27, .inl mrl))], [((m 11), .inl (cI, 30, .inl mpe))], [((m 14), .inl (cI, 40, .inl mno))], [((m 15), .inl (cI, 320, .inl mbo))], [((m 17), .inl (cI, 80, .inl mim))], [((m 20), .inl (cI, 24, .inl msi))], [((m 21), .inl (cI, 30, .inl mwi))], [((m 23), .inl (cI, 30, .inl mon))], [((m 25), .inl (cI, 6, .inl mdi))], [((m 26), .inl (cI, 6, .inl mco))], [((m 27), .inl (cI, 6, .inl mgo))], [((m 28), .inl (cI, 10, .inl mbr))], [((m 30), .inl (cI, 906, .inl mca))]]) O rfl ?_
    refine zr_callS (As := [.ref (m 14), .int (nI 0), .ref (m 15), .int (nI (40 * mbk))]) (rest := []) (ws2 := [[((m 31), .inr (7, [.int (nI mle), .ref (m 1), .int (nI mpo), .ref (m 3), .int (nI mfa), .int (nI mrm), .int (nI mrw), .ref (m 7), .ref (m 8), .int mrs, .int (nI mP), .ref (m 11), .int (nI mQ), .int msd, .ref (m 14), .ref (m 15), .int (nI mbk), .ref (m 17), .int (nI mkp), .int (nI msg), .ref (m 20), .ref (m 21), .int (nI mwm), .ref (m 23), .int mls, .ref (m 25), .ref (m 26), .ref (m 27), .ref (m 28), .int mhd, .ref (m 30)]))], [((m 1), .inl (cI, 200, .inl mtx))], [((m 3), .inl (cI, 4, .inl mnu))], [((m 7), .inl (cI, 30, .inl mrd))], [((m 8), .inl (cI, 27, .inl mrl))], [((m 11), .inl (cI, 30, .inl mpe))], [((m 14), .inl (cI, 40, .inl mno))], [((m 15), .inl (cI, 320, .inl (s_X7_copy mno mbo 0 (40 * mbk))))], [((m 17), .inl (cI, 80, .inl mim))], [((m 20), .inl (cI, 24, .inl msi))], [((m 21), .inl (cI, 30, .inl mwi))], [((m 23), .inl (cI, 30, .inl mon))], [((m 25), .inl (cI, 6, .inl mdi))], [((m 26), .inl (cI, 6, .inl mco))], [((m 27), .inl (cI, 6, .inl mgo))], [((m 28), .inl (cI, 10, .inl mbr))], [((m 30), .inl (cI, 906, .inl mca))]]) (pc2 := 68) O (c_X7_copy l D cI cC cJ (m 14) (m 15) mno mbo 0 (40 * mbk) 40 320 (by omega) (by omega) (by decide) (by decide)) sC_X7_note_131 rfl rfl dX7_note_65 [6, 7] rfl rfl rfl rfl (Nat.le_of_ble_eq_true rfl) rfl ?_
    show Z _ _ _ []
    refine zr_flat (ws2 := [modW cI m mle mpo mfa mrm mrw mP mQ mbk mkp msg mwm mrs msd mls mhd mtx mnu mrd mrl mpe mno (s_X7_copy mno mbo 0 (40 * mbk)) mim msi mwi mon mdi mco mgo mbr mca]) O rfl ?_
    refine zr_aload_n (pc2 := 69) O dX7_note_68 rfl 0 rfl rfl ?_
    refine zr_dup (pc2 := 70) O dX7_note_69 rfl rfl ?_
    refine zr_getf (v := .int (nI mbk)) (pc2 := 73) O sF_X7_note_116 0 0 rfl rfl rfl dX7_note_70 rfl ?_
    refine zr_iconst (v := (nI 1)) (pc2 := 74) O dX7_note_73 (by decide +kernel) rfl ?_
    refine zr_iadd (v := (nI (mbk + 1))) (pc2 := 75) O dX7_note_74 (nI_add mbk 1) rfl ?_
    refine zr_putf (G2 := modW cI m mle mpo mfa mrm mrw mP mQ (mbk + 1) mkp msg mwm mrs msd mls mhd mtx mnu mrd mrl mpe mno (s_X7_copy mno mbo 0 (40 * mbk)) mim msi mwi mon mdi mco mgo mbr mca) (ws2 := [modW cI m mle mpo mfa mrm mrw mP mQ (mbk + 1) mkp msg mwm mrs msd mls mhd mtx mnu mrd mrl mpe mno (s_X7_copy mno mbo 0 (40 * mbk)) mim msi mwi mon mdi mco mgo mbr mca]) (pc2 := 78) O sP_X7_note_116 0 0 rfl rfl rfl rfl (Nat.le_of_ble_eq_true rfl) dX7_note_75 rfl rfl rfl ?_
    have hE : s_X7_note mbk mno mbo = (mbk + 1, (s_X7_copy mno mbo 0 (40 * mbk))) := by exact (if_neg c6)
    exact hret _ _ _ dX7_note_78 (by rw [hE])
  · refine zr_iconst (v := (nI 0)) (pc2 := 10) O dX7_note_9 (by decide +kernel) rfl ?_
    refine zr_istore_n (lv2 := [(1, .int (nI 0)), (0, .ref (m 31))]) (pc2 := 11) O dX7_note_10 rfl (by decide) rfl rfl ?_
    have lp11 : ∀ (n9 : Nat) (k : Nat) (mbo9 : zF), k + n9 = 280 → f_X7_note_11 280 0 mbo = f_X7_note_11 n9 k mbo9 → Z [modW cI m mle mpo mfa mrm mrw mP mQ mbk mkp msg mwm mrs msd mls mhd mtx mnu mrd mrl mpe mno mbo9 mim msi mwi mon mdi mco mgo mbr mca] [(1, .int (nI k)), (0, .ref (m 31))] 11 [] := by
      intro n9
      induction n9 with
      | zero =>
        intro k mbo9 hM11 hF11
        have hI11 : 280 = k := by omega
        subst hI11
        have e9 : (f_X7_note_11 280 0 mbo) = mbo9 := hF11
        subst e9
        refine zr_iload_n (pc2 := 12) O dX7_note_11 rfl 0 rfl rfl ?_
        refine zr_sipush (v := (nI 280)) (pc2 := 15) O dX7_note_12 (by decide +kernel) rfl ?_
        refine zn_icmp_ge (tgt := 39) (pc2 := 18) O dX7_note_15 (by decide) rfl (by omega) (by omega) (fun c15 => ?_) (fun c15 => ?_)
        · refine zr_aload_n (pc2 := 40) O dX7_note_39 rfl 1 rfl rfl ?_
          refine zr_dup (pc2 := 41) O dX7_note_40 rfl rfl ?_
          refine zr_getf (v := .int (nI mbk)) (pc2 := 44) O sF_X7_note_116 0 0 rfl rfl rfl dX7_note_41 rfl ?_
          refine zr_iconst (v := (nI 1)) (pc2 := 45) O dX7_note_44 (by decide +kernel) rfl ?_
          refine zr_isub (v := (nI (mbk - 1))) (pc2 := 46) O dX7_note_45 (pk_sub (by omega)) rfl ?_
          refine zr_putf (G2 := modW cI m mle mpo mfa mrm mrw mP mQ (mbk - 1) mkp msg mwm mrs msd mls mhd mtx mnu mrd mrl mpe mno (f_X7_note_11 280 0 mbo) mim msi mwi mon mdi mco mgo mbr mca) (ws2 := [modW cI m mle mpo mfa mrm mrw mP mQ (mbk - 1) mkp msg mwm mrs msd mls mhd mtx mnu mrd mrl mpe mno (f_X7_note_11 280 0 mbo) mim msi mwi mon mdi mco mgo mbr mca]) (pc2 := 49) O sP_X7_note_116 0 0 rfl rfl rfl rfl (Nat.le_of_ble_eq_true rfl) dX7_note_46 rfl rfl rfl ?_
          refine zr_aload_n (pc2 := 50) O dX7_note_49 rfl 1 rfl rfl ?_
          refine zr_getf (v := .ref (m 14)) (pc2 := 53) O sF_X7_note_35 0 0 rfl rfl rfl dX7_note_50 rfl ?_
          refine zr_iconst (v := (nI 0)) (pc2 := 54) O dX7_note_53 (by decide +kernel) rfl ?_
          refine zr_aload_n (pc2 := 55) O dX7_note_54 rfl 1 rfl rfl ?_
          refine zr_getf (v := .ref (m 15)) (pc2 := 58) O sF_X7_note_38 0 0 rfl rfl rfl dX7_note_55 rfl ?_
          refine zr_bipush (v := (nI 40)) (pc2 := 60) O dX7_note_58 (by decide +kernel) rfl ?_
          refine zr_aload_n (pc2 := 61) O dX7_note_60 rfl 1 rfl rfl ?_
          refine zr_getf (v := .int (nI (mbk - 1))) (pc2 := 64) O sF_X7_note_116 0 0 rfl rfl rfl dX7_note_61 rfl ?_
          refine zr_imul (v := (nI (40 * (mbk - 1)))) (pc2 := 65) O dX7_note_64 (pk_mul 40 (mbk - 1)) rfl ?_
          refine zr_flat (ws2 := [[((m 31), .inr (7, [.int (nI mle), .ref (m 1), .int (nI mpo), .ref (m 3), .int (nI mfa), .int (nI mrm), .int (nI mrw), .ref (m 7), .ref (m 8), .int mrs, .int (nI mP), .ref (m 11), .int (nI mQ), .int msd, .ref (m 14), .ref (m 15), .int (nI (mbk - 1)), .ref (m 17), .int (nI mkp), .int (nI msg), .ref (m 20), .ref (m 21), .int (nI mwm), .ref (m 23), .int mls, .ref (m 25), .ref (m 26), .ref (m 27), .ref (m 28), .int mhd, .ref (m 30)]))], [((m 1), .inl (cI, 200, .inl mtx))], [((m 3), .inl (cI, 4, .inl mnu))], [((m 7), .inl (cI, 30, .inl mrd))], [((m 8), .inl (cI, 27, .inl mrl))], [((m 11), .inl (cI, 30, .inl mpe))], [((m 14), .inl (cI, 40, .inl mno))], [((m 15), .inl (cI, 320, .inl (f_X7_note_11 280 0 mbo)))], [((m 17), .inl (cI, 80, .inl mim))], [((m 20), .inl (cI, 24, .inl msi))], [((m 21), .inl (cI, 30, .inl mwi))], [((m 23), .inl (cI, 30, .inl mon))], [((m 25), .inl (cI, 6, .inl mdi))], [((m 26), .inl (cI, 6, .inl mco))], [((m 27), .inl (cI, 6, .inl mgo))], [((m 28), .inl (cI, 10, .inl mbr))], [((m 30), .inl (cI, 906, .inl mca))]]) O rfl ?_
          refine zr_callS (As := [.ref (m 14), .int (nI 0), .ref (m 15), .int (nI (40 * (mbk - 1)))]) (rest := []) (ws2 := [[((m 31), .inr (7, [.int (nI mle), .ref (m 1), .int (nI mpo), .ref (m 3), .int (nI mfa), .int (nI mrm), .int (nI mrw), .ref (m 7), .ref (m 8), .int mrs, .int (nI mP), .ref (m 11), .int (nI mQ), .int msd, .ref (m 14), .ref (m 15), .int (nI (mbk - 1)), .ref (m 17), .int (nI mkp), .int (nI msg), .ref (m 20), .ref (m 21), .int (nI mwm), .ref (m 23), .int mls, .ref (m 25), .ref (m 26), .ref (m 27), .ref (m 28), .int mhd, .ref (m 30)]))], [((m 1), .inl (cI, 200, .inl mtx))], [((m 3), .inl (cI, 4, .inl mnu))], [((m 7), .inl (cI, 30, .inl mrd))], [((m 8), .inl (cI, 27, .inl mrl))], [((m 11), .inl (cI, 30, .inl mpe))], [((m 14), .inl (cI, 40, .inl mno))], [((m 15), .inl (cI, 320, .inl (s_X7_copy mno (f_X7_note_11 280 0 mbo) 0 (40 * (mbk - 1)))))], [((m 17), .inl (cI, 80, .inl mim))], [((m 20), .inl (cI, 24, .inl msi))], [((m 21), .inl (cI, 30, .inl mwi))], [((m 23), .inl (cI, 30, .inl mon))], [((m 25), .inl (cI, 6, .inl mdi))], [((m 26), .inl (cI, 6, .inl mco))], [((m 27), .inl (cI, 6, .inl mgo))], [((m 28), .inl (cI, 10, .inl mbr))], [((m 30), .inl (cI, 906, .inl mca))]]) (pc2 := 68) O (c_X7_copy l D cI cC cJ (m 14) (m 15) mno (f_X7_note_11 280 0 mbo) 0 (40 * (mbk - 1)) 40 320 (by omega) (by omega) (by decide) (by decide)) sC_X7_note_131 rfl rfl dX7_note_65 [6, 7] rfl rfl rfl rfl (Nat.le_of_ble_eq_true rfl) rfl ?_
          show Z _ _ _ []
          refine zr_flat (ws2 := [modW cI m mle mpo mfa mrm mrw mP mQ (mbk - 1) mkp msg mwm mrs msd mls mhd mtx mnu mrd mrl mpe mno (s_X7_copy mno (f_X7_note_11 280 0 mbo) 0 (40 * (mbk - 1))) mim msi mwi mon mdi mco mgo mbr mca]) O rfl ?_
          refine zr_aload_n (pc2 := 69) O dX7_note_68 rfl 1 rfl rfl ?_
          refine zr_dup (pc2 := 70) O dX7_note_69 rfl rfl ?_
          refine zr_getf (v := .int (nI (mbk - 1))) (pc2 := 73) O sF_X7_note_116 0 0 rfl rfl rfl dX7_note_70 rfl ?_
          refine zr_iconst (v := (nI 1)) (pc2 := 74) O dX7_note_73 (by decide +kernel) rfl ?_
          refine zr_iadd (v := (nI ((mbk - 1) + 1))) (pc2 := 75) O dX7_note_74 (nI_add (mbk - 1) 1) rfl ?_
          refine zr_putf (G2 := modW cI m mle mpo mfa mrm mrw mP mQ ((mbk - 1) + 1) mkp msg mwm mrs msd mls mhd mtx mnu mrd mrl mpe mno (s_X7_copy mno (f_X7_note_11 280 0 mbo) 0 (40 * (mbk - 1))) mim msi mwi mon mdi mco mgo mbr mca) (ws2 := [modW cI m mle mpo mfa mrm mrw mP mQ ((mbk - 1) + 1) mkp msg mwm mrs msd mls mhd mtx mnu mrd mrl mpe mno (s_X7_copy mno (f_X7_note_11 280 0 mbo) 0 (40 * (mbk - 1))) mim msi mwi mon mdi mco mgo mbr mca]) (pc2 := 78) O sP_X7_note_116 0 0 rfl rfl rfl rfl (Nat.le_of_ble_eq_true rfl) dX7_note_75 rfl rfl rfl ?_
          have hE : s_X7_note mbk mno mbo = ((mbk - 1) + 1, (s_X7_copy mno (f_X7_note_11 280 0 mbo) 0 (40 * (mbk - 1)))) := by exact (if_pos c6)
          exact hret _ _ _ dX7_note_78 (by rw [hE])
        · exact absurd c15 (by decide)
      | succ n9 ih11 =>
        intro k mbo9 hM11 hF11
        refine zr_iload_n (pc2 := 12) O dX7_note_11 rfl 0 rfl rfl ?_
        refine zr_sipush (v := (nI 280)) (pc2 := 15) O dX7_note_12 (by decide +kernel) rfl ?_
        refine zn_icmp_ge (tgt := 39) (pc2 := 18) O dX7_note_15 (by decide) rfl (by omega) (by omega) (fun c15 => ?_) (fun c15 => ?_)
        · exact absurd c15 (by omega)
        · refine zr_aload_n (pc2 := 19) O dX7_note_18 rfl 1 rfl rfl ?_
          refine zr_getf (v := .ref (m 15)) (pc2 := 22) O sF_X7_note_38 0 0 rfl rfl rfl dX7_note_19 rfl ?_
          refine zr_iload_n (pc2 := 23) O dX7_note_22 rfl 0 rfl rfl ?_
          refine zr_aload_n (pc2 := 24) O dX7_note_23 rfl 1 rfl rfl ?_
          refine zr_getf (v := .ref (m 15)) (pc2 := 27) O sF_X7_note_38 0 0 rfl rfl rfl dX7_note_24 rfl ?_
          refine zr_iload_n (pc2 := 28) O dX7_note_27 rfl 0 rfl rfl ?_
          refine zr_bipush (v := (nI 40)) (pc2 := 30) O dX7_note_28 (by decide +kernel) rfl ?_
          refine zr_iadd (v := (nI (k + 40))) (pc2 := 31) O dX7_note_30 (nI_add k 40) rfl ?_
          refine zn_iald (j := (k + 40)) (pc2 := 32) O 0 7 0 rfl rfl rfl rfl (by omega) (by decide) dX7_note_31 rfl ?_
          refine zn_iast (j := k) (G2 := modW cI m mle mpo mfa mrm mrw mP mQ mbk mkp msg mwm mrs msd mls mhd mtx mnu mrd mrl mpe mno (upd mbo9 k (mbo9 (k + 40))) mim msi mwi mon mdi mco mgo mbr mca) (ws2 := [modW cI m mle mpo mfa mrm mrw mP mQ mbk mkp msg mwm mrs msd mls mhd mtx mnu mrd mrl mpe mno (upd mbo9 k (mbo9 (k + 40))) mim msi mwi mon mdi mco mgo mbr mca]) (pc2 := 33) O 0 7 0 rfl rfl rfl rfl (by omega) (by decide) dX7_note_32 rfl rfl rfl ?_
          refine zr_iinc (v := (nI (k + 1))) (lv2 := [(1, .int (nI (k + 1))), (0, .ref (m 31))]) (pc2 := 36) O dX7_note_33 0 rfl (zm_ofInt1 k) (by decide) rfl rfl ?_
          refine zr_goto (tgt := 11) O dX7_note_36 (by decide) ?_
          have hE : f_X7_note_11 (n9 + 1) k mbo9 = f_X7_note_11 n9 (k + 1) (upd mbo9 k (mbo9 (k + 40))) := by exact rfl
          exact ih11 (k + 1) (upd mbo9 k (mbo9 (k + 40))) (by omega) (hF11.trans hE)
    sorry
/-! X7_undo -/
def s_X7_undo (mbk : Nat) (mno : zF) (mbo : zF) : Int32 × Nat × zF := if mbk = 0 then ((-2), mbk, mno) else ((nI (mbk - 1)), mbk - 1, (s_X7_copy mbo mno (40 * (mbk - 1)) 0))
set_option maxHeartbeats 4000000 in
set_option maxRecDepth 100000 in
theorem c_X7_undo (l : Launch) (D : va_G) (cI cC cJ : ClassId) (m : Nat → Nat) (mle : Nat) (mpo : Nat) (mfa : Nat) (mrm : Nat) (mrw : Nat) (mP : Nat) (mQ : Nat) (mbk : Nat) (mkp : Nat) (msg : Nat) (mwm : Nat) (mrs : Int32) (msd : Int32) (mls : Int32) (mhd : Int32) (mtx : zF) (mnu : zF) (mrd : zF) (mrl : zF) (mpe : zF) (mno : zF) (mbo : zF) (mim : zF) (msi : zF) (mwi : zF) (mon : zF) (mdi : zF) (mco : zF) (mgo : zF) (mbr : zF) (mca : zF) (hbk : mbk ≤ 8) : zD l yX7_undo wsX7_undo rm_X7_undo D (zT cI cC cJ) [.ref (m 31)] [modW cI m mle mpo mfa mrm mrw mP mQ mbk mkp msg mwm mrs msd mls mhd mtx mnu mrd mrl mpe mno mbo mim msi mwi mon mdi mco mgo mbr mca] (some (.int ((s_X7_undo mbk mno mbo).1))) [modW cI m mle mpo mfa mrm mrw mP mQ ((s_X7_undo mbk mno mbo).2.1) mkp msg mwm mrs msd mls mhd mtx mnu mrd mrl mpe ((s_X7_undo mbk mno mbo).2.2) mbo mim msi mwi mon mdi mco mgo mbr mca] := by
  sorry
/-! X7_keep -/
def s_X7_keep (mkp : Nat) (mno : zF) (mim : zF) : Int32 × Nat × zF := if mkp = 2 then ((-3), mkp, mim) else ((nI (mkp + 1)), mkp + 1, (s_X7_copy mno mim 0 (40 * mkp)))
set_option maxHeartbeats 4000000 in
set_option maxRecDepth 100000 in
theorem c_X7_keep (l : Launch) (D : va_G) (cI cC cJ : ClassId) (m : Nat → Nat) (mle : Nat) (mpo : Nat) (mfa : Nat) (mrm : Nat) (mrw : Nat) (mP : Nat) (mQ : Nat) (mbk : Nat) (mkp : Nat) (msg : Nat) (mwm : Nat) (mrs : Int32) (msd : Int32) (mls : Int32) (mhd : Int32) (mtx : zF) (mnu : zF) (mrd : zF) (mrl : zF) (mpe : zF) (mno : zF) (mbo : zF) (mim : zF) (msi : zF) (mwi : zF) (mon : zF) (mdi : zF) (mco : zF) (mgo : zF) (mbr : zF) (mca : zF) (hkp : mkp ≤ 2) : zD l yX7_keep wsX7_keep rm_X7_keep D (zT cI cC cJ) [.ref (m 31)] [modW cI m mle mpo mfa mrm mrw mP mQ mbk mkp msg mwm mrs msd mls mhd mtx mnu mrd mrl mpe mno mbo mim msi mwi mon mdi mco mgo mbr mca] (some (.int ((s_X7_keep mkp mno mim).1))) [modW cI m mle mpo mfa mrm mrw mP mQ mbk ((s_X7_keep mkp mno mim).2.1) msg mwm mrs msd mls mhd mtx mnu mrd mrl mpe mno mbo ((s_X7_keep mkp mno mim).2.2) msi mwi mon mdi mco mgo mbr mca] := by
  sorry
/-! X7_back -/
def s_X7_back (mbk : Nat) (mkp : Nat) (mno : zF) (mim : zF) : Int32 × Nat × Nat × zF := if mkp = 0 then ((-2), mbk, mkp, mno) else ((nI (mkp - 1)), 0, mkp - 1, (s_X7_copy mim mno (40 * (mkp - 1)) 0))
set_option maxHeartbeats 4000000 in
set_option maxRecDepth 100000 in
theorem c_X7_back (l : Launch) (D : va_G) (cI cC cJ : ClassId) (m : Nat → Nat) (mle : Nat) (mpo : Nat) (mfa : Nat) (mrm : Nat) (mrw : Nat) (mP : Nat) (mQ : Nat) (mbk : Nat) (mkp : Nat) (msg : Nat) (mwm : Nat) (mrs : Int32) (msd : Int32) (mls : Int32) (mhd : Int32) (mtx : zF) (mnu : zF) (mrd : zF) (mrl : zF) (mpe : zF) (mno : zF) (mbo : zF) (mim : zF) (msi : zF) (mwi : zF) (mon : zF) (mdi : zF) (mco : zF) (mgo : zF) (mbr : zF) (mca : zF) (hkp : mkp ≤ 2) : zD l yX7_back wsX7_back rm_X7_back D (zT cI cC cJ) [.ref (m 31)] [modW cI m mle mpo mfa mrm mrw mP mQ mbk mkp msg mwm mrs msd mls mhd mtx mnu mrd mrl mpe mno mbo mim msi mwi mon mdi mco mgo mbr mca] (some (.int ((s_X7_back mbk mkp mno mim).1))) [modW cI m mle mpo mfa mrm mrw mP mQ ((s_X7_back mbk mkp mno mim).2.1) ((s_X7_back mbk mkp mno mim).2.2.1) msg mwm mrs msd mls mhd mtx mnu mrd mrl mpe ((s_X7_back mbk mkp mno mim).2.2.2) mbo mim msi mwi mon mdi mco mgo mbr mca] := by
  sorry
/-! X7_person -/
def s_X7_person (mP : Nat) (mQ : Nat) (mpe : zF) (mno : zF) (i : Int32) (wh : Int32) : Int32 := if (s_X7_in i (nI 0) ((nI mP) - (nI 1))) = true then if (s_X7_in wh (nI 0) (nI 5)) = true then if 5 ≤ wh.toNatClampNeg then (s_X7_leavesOf mQ mno (nI i.toNatClampNeg)) else (mpe ((5 * i.toNatClampNeg) + wh.toNatClampNeg)) else (-1) else (-1)
set_option maxHeartbeats 4000000 in
set_option maxRecDepth 100000 in
theorem c_X7_person (l : Launch) (D : va_G) (cI cC cJ : ClassId) (m : Nat → Nat) (mle : Nat) (mpo : Nat) (mfa : Nat) (mrm : Nat) (mrw : Nat) (mP : Nat) (mQ : Nat) (mbk : Nat) (mkp : Nat) (msg : Nat) (mwm : Nat) (mrs : Int32) (msd : Int32) (mls : Int32) (mhd : Int32) (mtx : zF) (mnu : zF) (mrd : zF) (mrl : zF) (mpe : zF) (mno : zF) (mbo : zF) (mim : zF) (msi : zF) (mwi : zF) (mon : zF) (mdi : zF) (mco : zF) (mgo : zF) (mbr : zF) (mca : zF) (i : Int32) (wh : Int32) (hmP : mP ≤ 6) (hmQ : mQ ≤ 9) : zD l yX7_person wsX7_person rm_X7_person D (zT cI cC cJ) [.ref (m 31), .int i, .int wh] [modW cI m mle mpo mfa mrm mrw mP mQ mbk mkp msg mwm mrs msd mls mhd mtx mnu mrd mrl mpe mno mbo mim msi mwi mon mdi mco mgo mbr mca] (some (.int (s_X7_person mP mQ mpe mno i wh))) [modW cI m mle mpo mfa mrm mrw mP mQ mbk mkp msg mwm mrs msd mls mhd mtx mnu mrd mrl mpe mno mbo mim msi mwi mon mdi mco mgo mbr mca] := by
  sorry
/-! X7_bequest -/
def s_X7_bequest (mQ : Nat) (mno : zF) (k : Int32) (wh : Int32) : Int32 := if (s_X7_in k (nI 0) ((nI mQ) - (nI 1))) = true then if (s_X7_in wh (nI 0) (nI 2)) = true then (mno ((3 * k.toNatClampNeg) + wh.toNatClampNeg)) else (-1) else (-1)
set_option maxHeartbeats 4000000 in
set_option maxRecDepth 100000 in
theorem c_X7_bequest (l : Launch) (D : va_G) (cI cC cJ : ClassId) (m : Nat → Nat) (mle : Nat) (mpo : Nat) (mfa : Nat) (mrm : Nat) (mrw : Nat) (mP : Nat) (mQ : Nat) (mbk : Nat) (mkp : Nat) (msg : Nat) (mwm : Nat) (mrs : Int32) (msd : Int32) (mls : Int32) (mhd : Int32) (mtx : zF) (mnu : zF) (mrd : zF) (mrl : zF) (mpe : zF) (mno : zF) (mbo : zF) (mim : zF) (msi : zF) (mwi : zF) (mon : zF) (mdi : zF) (mco : zF) (mgo : zF) (mbr : zF) (mca : zF) (k : Int32) (wh : Int32) (hmQ : mQ ≤ 9) : zD l yX7_bequest wsX7_bequest rm_X7_bequest D (zT cI cC cJ) [.ref (m 31), .int k, .int wh] [modW cI m mle mpo mfa mrm mrw mP mQ mbk mkp msg mwm mrs msd mls mhd mtx mnu mrd mrl mpe mno mbo mim msi mwi mon mdi mco mgo mbr mca] (some (.int (s_X7_bequest mQ mno k wh))) [modW cI m mle mpo mfa mrm mrw mP mQ mbk mkp msg mwm mrs msd mls mhd mtx mnu mrd mrl mpe mno mbo mim msi mwi mon mdi mco mgo mbr mca] := by
  sorry
/-! X7_reword -/
def s_X7_reword (mQ : Nat) (mbk : Nat) (mno : zF) (mbo : zF) (k : Int32) (x : Int32) : Int32 × Nat × zF × zF := if (s_X7_in k (nI 0) ((nI mQ) - (nI 1))) = true then if (s_X7_in x (nI 1) (nI 99)) = true then let u21 := s_X7_note mbk mno mbo; ((mno ((3 * k.toNatClampNeg) + 2)), u21.1, (upd mno ((3 * k.toNatClampNeg) + 2) x), u21.2) else ((-1), mbk, mno, mbo) else ((-1), mbk, mno, mbo)
set_option maxHeartbeats 4000000 in
set_option maxRecDepth 100000 in
theorem c_X7_reword (l : Launch) (D : va_G) (cI cC cJ : ClassId) (m : Nat → Nat) (mle : Nat) (mpo : Nat) (mfa : Nat) (mrm : Nat) (mrw : Nat) (mP : Nat) (mQ : Nat) (mbk : Nat) (mkp : Nat) (msg : Nat) (mwm : Nat) (mrs : Int32) (msd : Int32) (mls : Int32) (mhd : Int32) (mtx : zF) (mnu : zF) (mrd : zF) (mrl : zF) (mpe : zF) (mno : zF) (mbo : zF) (mim : zF) (msi : zF) (mwi : zF) (mon : zF) (mdi : zF) (mco : zF) (mgo : zF) (mbr : zF) (mca : zF) (k : Int32) (x : Int32) (hmQ : mQ ≤ 9) (hbk : mbk ≤ 8) : zD l yX7_reword wsX7_reword rm_X7_reword D (zT cI cC cJ) [.ref (m 31), .int k, .int x] [modW cI m mle mpo mfa mrm mrw mP mQ mbk mkp msg mwm mrs msd mls mhd mtx mnu mrd mrl mpe mno mbo mim msi mwi mon mdi mco mgo mbr mca] (some (.int ((s_X7_reword mQ mbk mno mbo k x).1))) [modW cI m mle mpo mfa mrm mrw mP mQ ((s_X7_reword mQ mbk mno mbo k x).2.1) mkp msg mwm mrs msd mls mhd mtx mnu mrd mrl mpe ((s_X7_reword mQ mbk mno mbo k x).2.2.1) ((s_X7_reword mQ mbk mno mbo k x).2.2.2) mim msi mwi mon mdi mco mgo mbr mca] := by
  sorry
/-! X7_pass -/
def s_X7_pass (mP : Nat) (mQ : Nat) (mbk : Nat) (mno : zF) (mbo : zF) (k : Int32) (x : Int32) : Int32 × Nat × zF × zF := if (s_X7_in k (nI 0) ((nI mQ) - (nI 1))) = true then if (s_X7_in x (nI 0) ((nI mP) - (nI 1))) = true then if (mno (3 * k.toNatClampNeg)) = x then ((-2), mbk, mno, mbo) else let u34 := s_X7_note mbk mno mbo; ((mno ((3 * k.toNatClampNeg) + 1)), u34.1, (upd mno ((3 * k.toNatClampNeg) + 1) x), u34.2) else ((-1), mbk, mno, mbo) else ((-1), mbk, mno, mbo)
set_option maxHeartbeats 4000000 in
set_option maxRecDepth 100000 in
theorem c_X7_pass (l : Launch) (D : va_G) (cI cC cJ : ClassId) (m : Nat → Nat) (mle : Nat) (mpo : Nat) (mfa : Nat) (mrm : Nat) (mrw : Nat) (mP : Nat) (mQ : Nat) (mbk : Nat) (mkp : Nat) (msg : Nat) (mwm : Nat) (mrs : Int32) (msd : Int32) (mls : Int32) (mhd : Int32) (mtx : zF) (mnu : zF) (mrd : zF) (mrl : zF) (mpe : zF) (mno : zF) (mbo : zF) (mim : zF) (msi : zF) (mwi : zF) (mon : zF) (mdi : zF) (mco : zF) (mgo : zF) (mbr : zF) (mca : zF) (k : Int32) (x : Int32) (hmQ : mQ ≤ 9) (hbk : mbk ≤ 8) : zD l yX7_pass wsX7_pass rm_X7_pass D (zT cI cC cJ) [.ref (m 31), .int k, .int x] [modW cI m mle mpo mfa mrm mrw mP mQ mbk mkp msg mwm mrs msd mls mhd mtx mnu mrd mrl mpe mno mbo mim msi mwi mon mdi mco mgo mbr mca] (some (.int ((s_X7_pass mP mQ mbk mno mbo k x).1))) [modW cI m mle mpo mfa mrm mrw mP mQ ((s_X7_pass mP mQ mbk mno mbo k x).2.1) mkp msg mwm mrs msd mls mhd mtx mnu mrd mrl mpe ((s_X7_pass mP mQ mbk mno mbo k x).2.2.1) ((s_X7_pass mP mQ mbk mno mbo k x).2.2.2) mim msi mwi mon mdi mco mgo mbr mca] := by
  sorry
/-! X7_help -/
def s_X7_help (mP : Nat) (mbk : Nat) (mno : zF) (mbo : zF) (a1 : Int32) (a2 : Int32) (a3 : Int32) (mH : Nat) : Int32 × Nat × zF × zF := if (s_X7_in a1 (nI 0) ((nI mP) - (nI 1))) = true then if (s_X7_in a2 (nI 0) (nI 150)) = true then if (s_X7_in a3 (nI 1) (nI 99)) = true then if mH = 4 then ((-3), mbk, mno, mbo) else let u46 := s_X7_note mbk mno mbo; (((upd (upd (upd (upd mno (28 + (3 * mH)) a1) ((28 + (3 * mH)) + 1) a2) ((28 + (3 * mH)) + 2) a3) 27 (nI (mH + 1))) 27), u46.1, (upd (upd (upd (upd mno (28 + (3 * mH)) a1) ((28 + (3 * mH)) + 1) a2) ((28 + (3 * mH)) + 2) a3) 27 (nI (mH + 1))), u46.2) else ((-1), mbk, mno, mbo) else ((-1), mbk, mno, mbo) else ((-1), mbk, mno, mbo)
set_option maxHeartbeats 4000000 in
set_option maxRecDepth 100000 in
theorem c_X7_help (l : Launch) (D : va_G) (cI cC cJ : ClassId) (m : Nat → Nat) (mle : Nat) (mpo : Nat) (mfa : Nat) (mrm : Nat) (mrw : Nat) (mP : Nat) (mQ : Nat) (mbk : Nat) (mkp : Nat) (msg : Nat) (mwm : Nat) (mrs : Int32) (msd : Int32) (mls : Int32) (mhd : Int32) (mtx : zF) (mnu : zF) (mrd : zF) (mrl : zF) (mpe : zF) (mno : zF) (mbo : zF) (mim : zF) (msi : zF) (mwi : zF) (mon : zF) (mdi : zF) (mco : zF) (mgo : zF) (mbr : zF) (mca : zF) (a1 : Int32) (a2 : Int32) (a3 : Int32) (mH : Nat) (hbk : mbk ≤ 8) (hmH : mH ≤ 4) (hH : mno 27 = nI mH) : zD l yX7_help wsX7_help rm_X7_help D (zT cI cC cJ) [.ref (m 31), .int a1, .int a2, .int a3] [modW cI m mle mpo mfa mrm mrw mP mQ mbk mkp msg mwm mrs msd mls mhd mtx mnu mrd mrl mpe mno mbo mim msi mwi mon mdi mco mgo mbr mca] (some (.int ((s_X7_help mP mbk mno mbo a1 a2 a3 mH).1))) [modW cI m mle mpo mfa mrm mrw mP mQ ((s_X7_help mP mbk mno mbo a1 a2 a3 mH).2.1) mkp msg mwm mrs msd mls mhd mtx mnu mrd mrl mpe ((s_X7_help mP mbk mno mbo a1 a2 a3 mH).2.2.1) ((s_X7_help mP mbk mno mbo a1 a2 a3 mH).2.2.2) mim msi mwi mon mdi mco mgo mbr mca] := by
  sorry
/-! X7_owes -/
def f_X7_owes_16 (mno : zF) (i : Int32) : Nat → Nat → Int32 → Int32
  | 0, _, sum => sum
  | n9 + 1, k, sum => if (mno (3 * k)) = i then if (mno ((3 * k) + 1)) = i then f_X7_owes_16 mno i n9 (k + 1) ((sum + (mno ((3 * k) + 2))) - (mno ((3 * k) + 2))) else f_X7_owes_16 mno i n9 (k + 1) ((sum + (mno ((3 * k) + 2))) - (nI 0)) else if (mno ((3 * k) + 1)) = i then f_X7_owes_16 mno i n9 (k + 1) ((sum + (nI 0)) - (mno ((3 * k) + 2))) else f_X7_owes_16 mno i n9 (k + 1) ((sum + (nI 0)) - (nI 0))
def s_X7_owes (mP : Nat) (mQ : Nat) (mno : zF) (i : Int32) : Int32 := if (s_X7_in i (nI 0) ((nI mP) - (nI 1))) = true then (f_X7_owes_16 mno i mQ 0 (nI 1000)) else (-1)
set_option maxHeartbeats 4000000 in
set_option maxRecDepth 100000 in
theorem c_X7_owes (l : Launch) (D : va_G) (cI cC cJ : ClassId) (m : Nat → Nat) (mle : Nat) (mpo : Nat) (mfa : Nat) (mrm : Nat) (mrw : Nat) (mP : Nat) (mQ : Nat) (mbk : Nat) (mkp : Nat) (msg : Nat) (mwm : Nat) (mrs : Int32) (msd : Int32) (mls : Int32) (mhd : Int32) (mtx : zF) (mnu : zF) (mrd : zF) (mrl : zF) (mpe : zF) (mno : zF) (mbo : zF) (mim : zF) (msi : zF) (mwi : zF) (mon : zF) (mdi : zF) (mco : zF) (mgo : zF) (mbr : zF) (mca : zF) (i : Int32) (hmQ : mQ ≤ 9) : zD l yX7_owes wsX7_owes rm_X7_owes D (zT cI cC cJ) [.ref (m 31), .int i] [modW cI m mle mpo mfa mrm mrw mP mQ mbk mkp msg mwm mrs msd mls mhd mtx mnu mrd mrl mpe mno mbo mim msi mwi mon mdi mco mgo mbr mca] (some (.int (s_X7_owes mP mQ mno i))) [modW cI m mle mpo mfa mrm mrw mP mQ mbk mkp msg mwm mrs msd mls mhd mtx mnu mrd mrl mpe mno mbo mim msi mwi mon mdi mco mgo mbr mca] := by
  sorry
/-! X7_ring -/
def f_X7_ring_30 (mno : zF) (rch : Int32) : Nat → Nat → Int32 → Int32
  | 0, _, nxt => nxt
  | n9 + 1, k, nxt => if ((rch >>> ((mno (3 * k)) &&& 31)) &&& (nI 1)) = (nI 1) then f_X7_ring_30 mno rch n9 (k + 1) (nxt ||| ((nI 1) <<< ((mno ((3 * k) + 1)) &&& 31))) else f_X7_ring_30 mno rch n9 (k + 1) (nxt ||| (nI 0))
def f_X7_ring_16 (mQ : Nat) (mno : zF) (i : Int32) : Nat → Nat → Int32 → Int32
  | 0, _, _ => (-4)
  | n9 + 1, nn, rch => if (((f_X7_ring_30 mno rch mQ 0 (nI 0)) >>> (i &&& 31)) &&& (nI 1)) = (nI 1) then (nI nn) else f_X7_ring_16 mQ mno i n9 (nn + 1) (f_X7_ring_30 mno rch mQ 0 (nI 0))
def s_X7_ring (mP : Nat) (mQ : Nat) (mno : zF) (i : Int32) : Int32 := if (s_X7_in i (nI 0) ((nI mP) - (nI 1))) = true then f_X7_ring_16 mQ mno i mP 1 ((nI 1) <<< (i &&& 31)) else (-1)
set_option maxHeartbeats 4000000 in
set_option maxRecDepth 100000 in
theorem c_X7_ring (l : Launch) (D : va_G) (cI cC cJ : ClassId) (m : Nat → Nat) (mle : Nat) (mpo : Nat) (mfa : Nat) (mrm : Nat) (mrw : Nat) (mP : Nat) (mQ : Nat) (mbk : Nat) (mkp : Nat) (msg : Nat) (mwm : Nat) (mrs : Int32) (msd : Int32) (mls : Int32) (mhd : Int32) (mtx : zF) (mnu : zF) (mrd : zF) (mrl : zF) (mpe : zF) (mno : zF) (mbo : zF) (mim : zF) (msi : zF) (mwi : zF) (mon : zF) (mdi : zF) (mco : zF) (mgo : zF) (mbr : zF) (mca : zF) (i : Int32) (hmP : mP ≤ 6) (hmQ : mQ ≤ 9) : zD l yX7_ring wsX7_ring rm_X7_ring D (zT cI cC cJ) [.ref (m 31), .int i] [modW cI m mle mpo mfa mrm mrw mP mQ mbk mkp msg mwm mrs msd mls mhd mtx mnu mrd mrl mpe mno mbo mim msi mwi mon mdi mco mgo mbr mca] (some (.int (s_X7_ring mP mQ mno i))) [modW cI m mle mpo mfa mrm mrw mP mQ mbk mkp msg mwm mrs msd mls mhd mtx mnu mrd mrl mpe mno mbo mim msi mwi mon mdi mco mgo mbr mca] := by
  sorry
/-! X7_seen -/
def s_X7_seen (mP : Nat) (msg : Nat) (msi : zF) (a1 : Int32) (a2 : Int32) (a3 : Int32) : Int32 × Nat × zF := if (s_X7_in a1 (nI 0) ((nI mP) - (nI 1))) = true then if (s_X7_in a2 (nI 0) (nI 150)) = true then if (s_X7_in a3 (nI 0) (nI 999)) = true then if msg = 8 then ((-3), msg, msi) else ((nI (msg + 1)), msg + 1, (upd (upd (upd msi (3 * msg) a1) ((3 * msg) + 1) a2) ((3 * msg) + 2) a3)) else ((-1), msg, msi) else ((-1), msg, msi) else ((-1), msg, msi)
set_option maxHeartbeats 4000000 in
set_option maxRecDepth 100000 in
theorem c_X7_seen (l : Launch) (D : va_G) (cI cC cJ : ClassId) (m : Nat → Nat) (mle : Nat) (mpo : Nat) (mfa : Nat) (mrm : Nat) (mrw : Nat) (mP : Nat) (mQ : Nat) (mbk : Nat) (mkp : Nat) (msg : Nat) (mwm : Nat) (mrs : Int32) (msd : Int32) (mls : Int32) (mhd : Int32) (mtx : zF) (mnu : zF) (mrd : zF) (mrl : zF) (mpe : zF) (mno : zF) (mbo : zF) (mim : zF) (msi : zF) (mwi : zF) (mon : zF) (mdi : zF) (mco : zF) (mgo : zF) (mbr : zF) (mca : zF) (a1 : Int32) (a2 : Int32) (a3 : Int32) (hmsg : msg ≤ 8) : zD l yX7_seen wsX7_seen rm_X7_seen D (zT cI cC cJ) [.ref (m 31), .int a1, .int a2, .int a3] [modW cI m mle mpo mfa mrm mrw mP mQ mbk mkp msg mwm mrs msd mls mhd mtx mnu mrd mrl mpe mno mbo mim msi mwi mon mdi mco mgo mbr mca] (some (.int ((s_X7_seen mP msg msi a1 a2 a3).1))) [modW cI m mle mpo mfa mrm mrw mP mQ mbk mkp ((s_X7_seen mP msg msi a1 a2 a3).2.1) mwm mrs msd mls mhd mtx mnu mrd mrl mpe mno mbo mim ((s_X7_seen mP msg msi a1 a2 a3).2.2) mwi mon mdi mco mgo mbr mca] := by
  sorry
/-! X7_forget -/
def s_X7_forget (msg : Nat) : Int32 × Nat := ((nI msg), 0)
set_option maxHeartbeats 4000000 in
set_option maxRecDepth 100000 in
theorem c_X7_forget (l : Launch) (D : va_G) (cI cC cJ : ClassId) (m : Nat → Nat) (mle : Nat) (mpo : Nat) (mfa : Nat) (mrm : Nat) (mrw : Nat) (mP : Nat) (mQ : Nat) (mbk : Nat) (mkp : Nat) (msg : Nat) (mwm : Nat) (mrs : Int32) (msd : Int32) (mls : Int32) (mhd : Int32) (mtx : zF) (mnu : zF) (mrd : zF) (mrl : zF) (mpe : zF) (mno : zF) (mbo : zF) (mim : zF) (msi : zF) (mwi : zF) (mon : zF) (mdi : zF) (mco : zF) (mgo : zF) (mbr : zF) (mca : zF) : zD l yX7_forget wsX7_forget rm_X7_forget D (zT cI cC cJ) [.ref (m 31)] [modW cI m mle mpo mfa mrm mrw mP mQ mbk mkp msg mwm mrs msd mls mhd mtx mnu mrd mrl mpe mno mbo mim msi mwi mon mdi mco mgo mbr mca] (some (.int ((s_X7_forget msg).1))) [modW cI m mle mpo mfa mrm mrw mP mQ mbk mkp ((s_X7_forget msg).2) mwm mrs msd mls mhd mtx mnu mrd mrl mpe mno mbo mim msi mwi mon mdi mco mgo mbr mca] := by
  sorry
/-! X7_count -/
def s_X7_count (mle : Nat) (mP : Nat) (mQ : Nat) (mbk : Nat) (mkp : Nat) (msg : Nat) (mno : zF) (wh : Int32) : Int32 := if wh = nI 0 then (nI mP) else if wh = nI 1 then (nI mQ) else if wh = nI 2 then (mno 27) else if wh = nI 3 then (nI msg) else if wh = nI 4 then (nI mbk) else if wh = nI 5 then (nI mkp) else if wh = nI 6 then (nI mle) else (-1)
set_option maxHeartbeats 4000000 in
set_option maxRecDepth 100000 in
theorem c_X7_count (l : Launch) (D : va_G) (cI cC cJ : ClassId) (m : Nat → Nat) (mle : Nat) (mpo : Nat) (mfa : Nat) (mrm : Nat) (mrw : Nat) (mP : Nat) (mQ : Nat) (mbk : Nat) (mkp : Nat) (msg : Nat) (mwm : Nat) (mrs : Int32) (msd : Int32) (mls : Int32) (mhd : Int32) (mtx : zF) (mnu : zF) (mrd : zF) (mrl : zF) (mpe : zF) (mno : zF) (mbo : zF) (mim : zF) (msi : zF) (mwi : zF) (mon : zF) (mdi : zF) (mco : zF) (mgo : zF) (mbr : zF) (mca : zF) (wh : Int32) : zD l yX7_count wsX7_count rm_X7_count D (zT cI cC cJ) [.ref (m 31), .int wh] [modW cI m mle mpo mfa mrm mrw mP mQ mbk mkp msg mwm mrs msd mls mhd mtx mnu mrd mrl mpe mno mbo mim msi mwi mon mdi mco mgo mbr mca] (some (.int (s_X7_count mle mP mQ mbk mkp msg mno wh))) [modW cI m mle mpo mfa mrm mrw mP mQ mbk mkp msg mwm mrs msd mls mhd mtx mnu mrd mrl mpe mno mbo mim msi mwi mon mdi mco mgo mbr mca] := by
  sorry
