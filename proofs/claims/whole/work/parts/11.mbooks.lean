def f_X7_copy_3 (f : Nat → Int32) (fr : Nat) (to : Nat) : Nat → Nat → (Nat → Int32) → Nat → Int32
  | 0, _, gk => gk
  | n9 + 1, k, gk => f_X7_copy_3 f fr to n9 (k + 1) (upd gk (to + k) (f (fr + k)))
def s_X7_copy (f : Nat → Int32) (g : Nat → Int32) (fr : Nat) (to : Nat) : Nat → Int32 := (f_X7_copy_3 f fr to 40 0 g)
set_option maxHeartbeats 4000000 in
set_option maxRecDepth 100000 in
theorem c_X7_copy (l : Launch) (D : va_G) (cI cC cJ : ClassId) (p : Nat) (q : Nat) (f : Nat → Int32) (g : Nat → Int32) (fr : Nat) (to : Nat) (n1 : Nat) (n2 : Nat) (h1 : fr + 40 ≤ n1) (h2 : to + 40 ≤ n2) (h3 : n1 ≤ 1000) (h4 : n2 ≤ 1000) : zD l yX7_copy wsX7_copy rm_X7_copy D (zT cI cC cJ) [.ref p, .int (nI fr), .ref q, .int (nI to)] [[(p, .inl (cI, n1, .inl f))], [(q, .inl (cI, n2, .inl g))]] none [[(p, .inl (cI, n1, .inl f))], [(q, .inl (cI, n2, .inl (s_X7_copy f g fr to)))]] := by
  refine zD_void (cc := cX7_copy) (maxL := 5) (lv := [(0, .ref p), (1, .int (nI fr)), (2, .ref q), (3, .int (nI to))]) (by decide +kernel) rfl (Nat.le_of_ble_eq_true rfl) rfl (fun Z O hret => ?_)
  refine zr_iconst (v := (nI 0)) (pc2 := 1) O dX7_copy_0 (by decide +kernel) rfl ?_
  refine zr_istore (lv2 := [(4, .int (nI 0)), (0, .ref p), (1, .int (nI fr)), (2, .ref q), (3, .int (nI to))]) (pc2 := 3) O dX7_copy_1 (by decide) rfl rfl ?_
  have lp3 : ∀ (n9 : Nat) (k : Nat) (gk : Nat → Int32), k + n9 = 40 → f_X7_copy_3 f fr to 40 0 g = f_X7_copy_3 f fr to n9 k gk → Z [[(p, .inl (cI, n1, .inl f))], [(q, .inl (cI, n2, .inl gk))]] [(4, .int (nI k)), (0, .ref p), (1, .int (nI fr)), (2, .ref q), (3, .int (nI to))] 3 [] := by
    intro n9
    induction n9 with
    | zero =>
      intro k gk hM3 hF3
      have hI3 : 40 = k := by omega
      subst hI3
      have e9 : (f_X7_copy_3 f fr to 40 0 g) = gk := hF3
      subst e9
      refine zr_iload (pc2 := 5) O dX7_copy_3 0 rfl rfl ?_
      refine zr_bipush (v := (nI 40)) (pc2 := 7) O dX7_copy_5 (by decide +kernel) rfl ?_
      refine zn_icmp_ge (tgt := 28) (pc2 := 10) O dX7_copy_7 (by decide) rfl (by omega) (by omega) (fun c7 => ?_) (fun c7 => ?_)
      · have hE : s_X7_copy f g fr to = (f_X7_copy_3 f fr to 40 0 g) := by exact rfl
        exact hret _ _ _ dX7_copy_28 (by rw [hE])
      · exact absurd c7 (by decide)
    | succ n9 ih3 =>
      intro k gk hM3 hF3
      refine zr_iload (pc2 := 5) O dX7_copy_3 0 rfl rfl ?_
      refine zr_bipush (v := (nI 40)) (pc2 := 7) O dX7_copy_5 (by decide +kernel) rfl ?_
      refine zn_icmp_ge (tgt := 28) (pc2 := 10) O dX7_copy_7 (by decide) rfl (by omega) (by omega) (fun c7 => ?_) (fun c7 => ?_)
      · exact absurd c7 (by omega)
      · refine zr_aload_n (pc2 := 11) O dX7_copy_10 rfl 3 rfl rfl ?_
        refine zr_iload_n (pc2 := 12) O dX7_copy_11 rfl 4 rfl rfl ?_
        refine zr_iload (pc2 := 14) O dX7_copy_12 0 rfl rfl ?_
        refine zr_iadd (v := (nI (to + k))) (pc2 := 15) O dX7_copy_14 (nI_add to k) rfl ?_
        refine zr_aload_n (pc2 := 16) O dX7_copy_15 rfl 1 rfl rfl ?_
        refine zr_iload_n (pc2 := 17) O dX7_copy_16 rfl 2 rfl rfl ?_
        refine zr_iload (pc2 := 19) O dX7_copy_17 0 rfl rfl ?_
        refine zr_iadd (v := (nI (fr + k))) (pc2 := 20) O dX7_copy_19 (nI_add fr k) rfl ?_
        refine zn_iald (j := (fr + k)) (pc2 := 21) O 0 0 0 rfl rfl rfl rfl (by omega) (by omega) dX7_copy_20 rfl ?_
        refine zn_iast (j := (to + k)) (G2 := [(q, .inl (cI, n2, .inl (upd gk (to + k) (f (fr + k)))))]) (ws2 := [[(p, .inl (cI, n1, .inl f))], [(q, .inl (cI, n2, .inl (upd gk (to + k) (f (fr + k)))))]]) (pc2 := 22) O 1 0 0 rfl rfl rfl rfl (by omega) (by omega) dX7_copy_21 rfl rfl rfl ?_
        refine zr_iinc (v := (nI (k + 1))) (lv2 := [(4, .int (nI (k + 1))), (0, .ref p), (1, .int (nI fr)), (2, .ref q), (3, .int (nI to))]) (pc2 := 25) O dX7_copy_22 0 rfl (zm_ofInt1 k) (by decide) rfl rfl ?_
        refine zr_goto (tgt := 3) O dX7_copy_25 (by decide) ?_
        have hE : f_X7_copy_3 f fr to (n9 + 1) k gk = f_X7_copy_3 f fr to n9 (k + 1) (upd gk (to + k) (f (fr + k))) := by exact rfl
        exact ih3 (k + 1) (upd gk (to + k) (f (fr + k))) (by omega) (hF3.trans hE)
  exact lp3 40 0 g (by omega) rfl
theorem note11_at : ∀ (n9 k : Nat) (g : zF) (j : Nat), True
  | _, _, _, _ => trivial
/-! X7_leavesOf -/
def f_X7_leavesOf_4 (mno : zF) (i : Int32) : Nat → Nat → Int32 → Int32
  | 0, _, sum => sum
  | n9 + 1, k, sum => if (mno (3 * k)) = i then f_X7_leavesOf_4 mno i n9 (k + 1) (sum + (mno ((3 * k) + 2))) else f_X7_leavesOf_4 mno i n9 (k + 1) (sum + (nI 0))
def s_X7_leavesOf (mQ : Nat) (mno : zF) (i : Int32) : Int32 := (f_X7_leavesOf_4 mno i mQ 0 (nI 0))
set_option maxHeartbeats 4000000 in
set_option maxRecDepth 100000 in
theorem c_X7_leavesOf (l : Launch) (D : va_G) (cI cC cJ : ClassId) (m : Nat → Nat) (mle : Nat) (mpo : Nat) (mfa : Nat) (mrm : Nat) (mrw : Nat) (mP : Nat) (mQ : Nat) (mbk : Nat) (mkp : Nat) (msg : Nat) (mwm : Nat) (mrs : Int32) (msd : Int32) (mls : Int32) (mhd : Int32) (mtx : zF) (mnu : zF) (mrd : zF) (mrl : zF) (mpe : zF) (mno : zF) (mbo : zF) (mim : zF) (msi : zF) (mwi : zF) (mon : zF) (mdi : zF) (mco : zF) (mgo : zF) (mbr : zF) (mca : zF) (i : Int32) (hmQ : mQ ≤ 9) : zD l yX7_leavesOf wsX7_leavesOf rm_X7_leavesOf D (zT cI cC cJ) [.ref (m 31), .int i] [modW cI m mle mpo mfa mrm mrw mP mQ mbk mkp msg mwm mrs msd mls mhd mtx mnu mrd mrl mpe mno mbo mim msi mwi mon mdi mco mgo mbr mca] (some (.int (s_X7_leavesOf mQ mno i))) [modW cI m mle mpo mfa mrm mrw mP mQ mbk mkp msg mwm mrs msd mls mhd mtx mnu mrd mrl mpe mno mbo mim msi mwi mon mdi mco mgo mbr mca] := by
  refine zD_int (cc := cX7_leavesOf) (maxL := 4) (ty := .int) (lv := [(0, .ref (m 31)), (1, .int i)]) (by decide +kernel) rfl (Nat.le_of_ble_eq_true rfl) rfl (fun Z O hret => ?_)
  refine zr_iconst (v := (nI 0)) (pc2 := 1) O dX7_leavesOf_0 (by decide +kernel) rfl ?_
  refine zr_istore_n (lv2 := [(2, .int (nI 0)), (0, .ref (m 31)), (1, .int i)]) (pc2 := 2) O dX7_leavesOf_1 rfl (by decide) rfl rfl ?_
  refine zr_iconst (v := (nI 0)) (pc2 := 3) O dX7_leavesOf_2 (by decide +kernel) rfl ?_
  refine zr_istore_n (lv2 := [(3, .int (nI 0)), (2, .int (nI 0)), (0, .ref (m 31)), (1, .int i)]) (pc2 := 4) O dX7_leavesOf_3 rfl (by decide) rfl rfl ?_
  have lp4 : ∀ (n9 : Nat) (k : Nat) (sum : Int32), k + n9 = mQ → f_X7_leavesOf_4 mno i mQ 0 (nI 0) = f_X7_leavesOf_4 mno i n9 k sum → Z [modW cI m mle mpo mfa mrm mrw mP mQ mbk mkp msg mwm mrs msd mls mhd mtx mnu mrd mrl mpe mno mbo mim msi mwi mon mdi mco mgo mbr mca] [(3, .int (nI k)), (2, .int sum), (0, .ref (m 31)), (1, .int i)] 4 [] := by
    intro n9
    induction n9 with
    | zero =>
      intro k sum hM4 hF4
      have hI4 : mQ = k := by omega
      subst hI4
      have e9 : (f_X7_leavesOf_4 mno i mQ 0 (nI 0)) = sum := hF4
      subst e9
      refine zr_iload_n (pc2 := 5) O dX7_leavesOf_4 rfl 0 rfl rfl ?_
      refine zr_aload_n (pc2 := 6) O dX7_leavesOf_5 rfl 2 rfl rfl ?_
      refine zr_getf (v := .int (nI mQ)) (pc2 := 9) O sF_X7_leavesOf_29 0 0 rfl rfl rfl dX7_leavesOf_6 rfl ?_
      refine zn_icmp_ge (tgt := 47) (pc2 := 12) O dX7_leavesOf_9 (by decide) rfl (by omega) (by omega) (fun c9 => ?_) (fun c9 => ?_)
      · refine zr_iload_n (pc2 := 48) O dX7_leavesOf_47 rfl 1 rfl rfl ?_
        have hE : s_X7_leavesOf mQ mno i = (f_X7_leavesOf_4 mno i mQ 0 (nI 0)) := by exact rfl
        exact hret _ _ _ _ dX7_leavesOf_48 rfl (by rw [hE]) rfl
      · exact absurd c9 (by omega)
    | succ n9 ih4 =>
      intro k sum hM4 hF4
      refine zr_iload_n (pc2 := 5) O dX7_leavesOf_4 rfl 0 rfl rfl ?_
      refine zr_aload_n (pc2 := 6) O dX7_leavesOf_5 rfl 2 rfl rfl ?_
      refine zr_getf (v := .int (nI mQ)) (pc2 := 9) O sF_X7_leavesOf_29 0 0 rfl rfl rfl dX7_leavesOf_6 rfl ?_
      refine zn_icmp_ge (tgt := 47) (pc2 := 12) O dX7_leavesOf_9 (by decide) rfl (by omega) (by omega) (fun c9 => ?_) (fun c9 => ?_)
      · exact absurd c9 (by omega)
      · refine zr_iload_n (pc2 := 13) O dX7_leavesOf_12 rfl 1 rfl rfl ?_
        refine zr_aload_n (pc2 := 14) O dX7_leavesOf_13 rfl 2 rfl rfl ?_
        refine zr_getf (v := .ref (m 14)) (pc2 := 17) O sF_X7_leavesOf_35 0 0 rfl rfl rfl dX7_leavesOf_14 rfl ?_
        refine zr_iconst (v := (nI 3)) (pc2 := 18) O dX7_leavesOf_17 (by decide +kernel) rfl ?_
        refine zr_iload_n (pc2 := 19) O dX7_leavesOf_18 rfl 0 rfl rfl ?_
        refine zr_imul (v := (nI (3 * k))) (pc2 := 20) O dX7_leavesOf_19 (pk_mul 3 k) rfl ?_
        refine zn_iald (j := (3 * k)) (pc2 := 21) O 0 6 0 rfl rfl rfl rfl (by omega) (by decide) dX7_leavesOf_20 rfl ?_
        refine zr_iload_n (pc2 := 22) O dX7_leavesOf_21 rfl 3 rfl rfl ?_
        refine zr_icmp_ne (tgt := 38) (pc2 := 25) O dX7_leavesOf_22 (by decide) rfl (fun c22 => ?_) (fun c22 => ?_)
        · refine zr_iconst (v := (nI 0)) (pc2 := 39) O dX7_leavesOf_38 (by decide +kernel) rfl ?_
          refine zr_iadd (v := (sum + (nI 0))) (pc2 := 40) O dX7_leavesOf_39 rfl rfl ?_
          refine zr_istore_n (lv2 := [(2, .int (sum + (nI 0))), (3, .int (nI k)), (0, .ref (m 31)), (1, .int i)]) (pc2 := 41) O dX7_leavesOf_40 rfl (by decide) rfl rfl ?_
          refine zr_iinc (v := (nI (k + 1))) (lv2 := [(3, .int (nI (k + 1))), (2, .int (sum + (nI 0))), (0, .ref (m 31)), (1, .int i)]) (pc2 := 44) O dX7_leavesOf_41 1 rfl (zm_ofInt1 k) (by decide) rfl rfl ?_
          refine zr_goto (tgt := 4) O dX7_leavesOf_44 (by decide) ?_
          have hE : f_X7_leavesOf_4 mno i (n9 + 1) k sum = f_X7_leavesOf_4 mno i n9 (k + 1) (sum + (nI 0)) := by exact (if_neg c22)
          exact ih4 (k + 1) (sum + (nI 0)) (by omega) (hF4.trans hE)
        · refine zr_aload_n (pc2 := 26) O dX7_leavesOf_25 rfl 2 rfl rfl ?_
          refine zr_getf (v := .ref (m 14)) (pc2 := 29) O sF_X7_leavesOf_35 0 0 rfl rfl rfl dX7_leavesOf_26 rfl ?_
          refine zr_iconst (v := (nI 3)) (pc2 := 30) O dX7_leavesOf_29 (by decide +kernel) rfl ?_
          refine zr_iload_n (pc2 := 31) O dX7_leavesOf_30 rfl 0 rfl rfl ?_
          refine zr_imul (v := (nI (3 * k))) (pc2 := 32) O dX7_leavesOf_31 (pk_mul 3 k) rfl ?_
          refine zr_iconst (v := (nI 2)) (pc2 := 33) O dX7_leavesOf_32 (by decide +kernel) rfl ?_
          refine zr_iadd (v := (nI ((3 * k) + 2))) (pc2 := 34) O dX7_leavesOf_33 (nI_add (3 * k) 2) rfl ?_
          refine zn_iald (j := ((3 * k) + 2)) (pc2 := 35) O 0 6 0 rfl rfl rfl rfl (by omega) (by decide) dX7_leavesOf_34 rfl ?_
          refine zr_goto (tgt := 39) O dX7_leavesOf_35 (by decide) ?_
          refine zr_iadd (v := (sum + (mno ((3 * k) + 2)))) (pc2 := 40) O dX7_leavesOf_39 rfl rfl ?_
          refine zr_istore_n (lv2 := [(2, .int (sum + (mno ((3 * k) + 2)))), (3, .int (nI k)), (0, .ref (m 31)), (1, .int i)]) (pc2 := 41) O dX7_leavesOf_40 rfl (by decide) rfl rfl ?_
          refine zr_iinc (v := (nI (k + 1))) (lv2 := [(3, .int (nI (k + 1))), (2, .int (sum + (mno ((3 * k) + 2)))), (0, .ref (m 31)), (1, .int i)]) (pc2 := 44) O dX7_leavesOf_41 1 rfl (zm_ofInt1 k) (by decide) rfl rfl ?_
          refine zr_goto (tgt := 4) O dX7_leavesOf_44 (by decide) ?_
          have hE : f_X7_leavesOf_4 mno i (n9 + 1) k sum = f_X7_leavesOf_4 mno i n9 (k + 1) (sum + (mno ((3 * k) + 2))) := by exact (if_pos c22)
          exact ih4 (k + 1) (sum + (mno ((3 * k) + 2))) (by omega) (hF4.trans hE)
  exact lp4 mQ 0 (nI 0) (by omega) rfl
/-! X7_note -/
def f_X7_note_11 : Nat → Nat → zF → zF
  | 0, _, mbo9 => mbo9
  | n9 + 1, k, mbo9 => f_X7_note_11 n9 (k + 1) (upd mbo9 k (mbo9 (k + 40)))
def s_X7_note (mbk : Nat) (mno : zF) (mbo : zF) : Nat × zF := if mbk = 8 then ((mbk - 1) + 1, (s_X7_copy mno (f_X7_note_11 280 0 mbo) 0 (40 * (mbk - 1)))) else (mbk + 1, (s_X7_copy mno mbo 0 (40 * mbk)))
set_option maxHeartbeats 4000000 in
set_option maxRecDepth 100000 in
theorem c_X7_note (l : Launch) (D : va_G) (cI cC cJ : ClassId) (m : Nat → Nat) (mle : Nat) (mpo : Nat) (mfa : Nat) (mrm : Nat) (mrw : Nat) (mP : Nat) (mQ : Nat) (mbk : Nat) (mkp : Nat) (msg : Nat) (mwm : Nat) (mrs : Int32) (msd : Int32) (mls : Int32) (mhd : Int32) (mtx : zF) (mnu : zF) (mrd : zF) (mrl : zF) (mpe : zF) (mno : zF) (mbo : zF) (mim : zF) (msi : zF) (mwi : zF) (mon : zF) (mdi : zF) (mco : zF) (mgo : zF) (mbr : zF) (mca : zF) (hbk : mbk ≤ 8) : zD l yX7_note wsX7_note rm_X7_note D (zT cI cC cJ) [.ref (m 31)] [modW cI m mle mpo mfa mrm mrw mP mQ mbk mkp msg mwm mrs msd mls mhd mtx mnu mrd mrl mpe mno mbo mim msi mwi mon mdi mco mgo mbr mca] none [modW cI m mle mpo mfa mrm mrw mP mQ ((s_X7_note mbk mno mbo).1) mkp msg mwm mrs msd mls mhd mtx mnu mrd mrl mpe mno ((s_X7_note mbk mno mbo).2) mim msi mwi mon mdi mco mgo mbr mca] := by
  refine zD_void (cc := cX7_note) (maxL := 2) (lv := [(0, .ref (m 31))]) (by decide +kernel) rfl (Nat.le_of_ble_eq_true rfl) rfl (fun Z O hret => ?_)
  refine zr_aload_n (pc2 := 1) O dX7_note_0 rfl 0 rfl rfl ?_
  refine zr_getf (v := .int (nI mbk)) (pc2 := 4) O sF_X7_note_116 0 0 rfl rfl rfl dX7_note_1 rfl ?_
  refine zr_bipush (v := (nI 8)) (pc2 := 6) O dX7_note_4 (by decide +kernel) rfl ?_
  refine zn_icmp_ne (tgt := 49) (pc2 := 9) O dX7_note_6 (by decide) rfl (by omega) (by omega) (fun c6 => ?_) (fun c6 => ?_)
  · refine zr_aload_n (pc2 := 50) O dX7_note_49 rfl 0 rfl rfl ?_
    refine zr_getf (v := .ref (m 14)) (pc2 := 53) O sF_X7_note_35 0 0 rfl rfl rfl dX7_note_50 rfl ?_
    refine zr_iconst (v := (nI 0)) (pc2 := 54) O dX7_note_53 (by decide +kernel) rfl ?_
    refine zr_aload_n (pc2 := 55) O dX7_note_54 rfl 0 rfl rfl ?_
    refine zr_getf (v := .ref (m 15)) (pc2 := 58) O sF_X7_note_38 0 0 rfl rfl rfl dX7_note_55 rfl ?_
    refine zr_bipush (v := (nI 40)) (pc2 := 60) O dX7_note_58 (by decide +kernel) rfl ?_
    refine zr_aload_n (pc2 := 61) O dX7_note_60 rfl 0 rfl rfl ?_
    refine zr_getf (v := .int (nI mbk)) (pc2 := 64) O sF_X7_note_116 0 0 rfl rfl rfl dX7_note_61 rfl ?_
    refine zr_imul (v := (nI (40 * mbk))) (pc2 := 65) O dX7_note_64 (pk_mul 40 mbk) rfl ?_
    refine zr_flat (ws2 := [[((m 31), .inr (7, [.int (nI mle), .ref (m 1), .int (nI mpo), .ref (m 3), .int (nI mfa), .int (nI mrm), .int (nI mrw), .ref (m 7), .ref (m 8), .int mrs, .int (nI mP), .ref (m 11), .int (nI mQ), .int msd, .ref (m 14), .ref (m 15), .int (nI mbk), .ref (m 17), .int (nI mkp), .int (nI msg), .ref (m 20), .ref (m 21), .int (nI mwm), .ref (m 23), .int mls, .ref (m 25), .ref (m 26), .ref (m 27), .ref (m 28), .int mhd, .ref (m 30)]))], [((m 1), .inl (cI, 200, .inl mtx))], [((m 3), .inl (cI, 4, .inl mnu))], [((m 7), .inl (cI, 30, .inl mrd))], [((m 8), .inl (cI, 27, .inl mrl))], [((m 11), .inl (cI, 30, .inl mpe))], [((m 14), .inl (cI, 40, .inl mno))], [((m 15), .inl (cI, 320, .inl mbo))], [((m 17), .inl (cI, 80, .inl mim))], [((m 20), .inl (cI, 24, .inl msi))], [((m 21), .inl (cI, 30, .inl mwi))], [((m 23), .inl (cI, 30, .inl mon))], [((m 25), .inl (cI, 6, .inl mdi))], [((m 26), .inl (cI, 6, .inl mco))], [((m 27), .inl (cI, 6, .inl mgo))], [((m 28), .inl (cI, 10, .inl mbr))], [((m 30), .inl (cI, 906, .inl mca))]]) O rfl ?_
    refine zr_callS (As := [.ref (m 14), .int (nI 0), .ref (m 15), .int (nI (40 * mbk))]) (rest := []) (ws2 := [[((m 31), .inr (7, [.int (nI mle), .ref (m 1), .int (nI mpo), .ref (m 3), .int (nI mfa), .int (nI mrm), .int (nI mrw), .ref (m 7), .ref (m 8), .int mrs, .int (nI mP), .ref (m 11), .int (nI mQ), .int msd, .ref (m 14), .ref (m 15), .int (nI mbk), .ref (m 17), .int (nI mkp), .int (nI msg), .ref (m 20), .ref (m 21), .int (nI mwm), .ref (m 23), .int mls, .ref (m 25), .ref (m 26), .ref (m 27), .ref (m 28), .int mhd, .ref (m 30)]))], [((m 1), .inl (cI, 200, .inl mtx))], [((m 3), .inl (cI, 4, .inl mnu))], [((m 7), .inl (cI, 30, .inl mrd))], [((m 8), .inl (cI, 27, .inl mrl))], [((m 11), .inl (cI, 30, .inl mpe))], [((m 14), .inl (cI, 40, .inl mno))], [((m 15), .inl (cI, 320, .inl (s_X7_copy mno mbo 0 (40 * mbk))))], [((m 17), .inl (cI, 80, .inl mim))], [((m 20), .inl (cI, 24, .inl msi))], [((m 21), .inl (cI, 30, .inl mwi))], [((m 23), .inl (cI, 30, .inl mon))], [((m 25), .inl (cI, 6, .inl mdi))], [((m 26), .inl (cI, 6, .inl mco))], [((m 27), .inl (cI, 6, .inl mgo))], [((m 28), .inl (cI, 10, .inl mbr))], [((m 30), .inl (cI, 906, .inl mca))]]) (pc2 := 68) O (c_X7_copy l D cI cC cJ (m 14) (m 15) mno mbo 0 (40 * mbk) 40 320 (by omega) (by omega) (by decide) (by decide)) sC_X7_note_131 rfl rfl dX7_note_65 [6, 7] rfl rfl rfl rfl (Nat.le_of_ble_eq_true rfl) rfl ?_
    show Z _ _ _ []
    refine zr_flat (ws2 := [modW cI m mle mpo mfa mrm mrw mP mQ mbk mkp msg mwm mrs msd mls mhd mtx mnu mrd mrl mpe mno (s_X7_copy mno mbo 0 (40 * mbk)) mim msi mwi mon mdi mco mgo mbr mca]) O rfl ?_
    refine zr_aload_n (pc2 := 69) O dX7_note_68 rfl 0 rfl rfl ?_
    refine zr_dup (pc2 := 70) O dX7_note_69 rfl rfl ?_
    refine zr_getf (v := .int (nI mbk)) (pc2 := 73) O sF_X7_note_116 0 0 rfl rfl rfl dX7_note_70 rfl ?_
    refine zr_iconst (v := (nI 1)) (pc2 := 74) O dX7_note_73 (by decide +kernel) rfl ?_
    refine zr_iadd (v := (nI (mbk + 1))) (pc2 := 75) O dX7_note_74 (nI_add mbk 1) rfl ?_
    refine zr_putf (G2 := modW cI m mle mpo mfa mrm mrw mP mQ (mbk + 1) mkp msg mwm mrs msd mls mhd mtx mnu mrd mrl mpe mno (s_X7_copy mno mbo 0 (40 * mbk)) mim msi mwi mon mdi mco mgo mbr mca) (ws2 := [modW cI m mle mpo mfa mrm mrw mP mQ (mbk + 1) mkp msg mwm mrs msd mls mhd mtx mnu mrd mrl mpe mno (s_X7_copy mno mbo 0 (40 * mbk)) mim msi mwi mon mdi mco mgo mbr mca]) (pc2 := 78) O sP_X7_note_116 0 0 rfl rfl rfl rfl (Nat.le_of_ble_eq_true rfl) dX7_note_75 rfl rfl rfl ?_
    have hE : s_X7_note mbk mno mbo = (mbk + 1, (s_X7_copy mno mbo 0 (40 * mbk))) := by exact (if_neg c6)
    exact hret _ _ _ dX7_note_78 (by rw [hE])
  · refine zr_iconst (v := (nI 0)) (pc2 := 10) O dX7_note_9 (by decide +kernel) rfl ?_
    refine zr_istore_n (lv2 := [(1, .int (nI 0)), (0, .ref (m 31))]) (pc2 := 11) O dX7_note_10 rfl (by decide) rfl rfl ?_
    have lp11 : ∀ (n9 : Nat) (k : Nat) (mbo9 : zF), k + n9 = 280 → f_X7_note_11 280 0 mbo = f_X7_note_11 n9 k mbo9 → Z [modW cI m mle mpo mfa mrm mrw mP mQ mbk mkp msg mwm mrs msd mls mhd mtx mnu mrd mrl mpe mno mbo9 mim msi mwi mon mdi mco mgo mbr mca] [(1, .int (nI k)), (0, .ref (m 31))] 11 [] := by
      intro n9
      induction n9 with
      | zero =>
        intro k mbo9 hM11 hF11
        have hI11 : 280 = k := by omega
        subst hI11
        have e9 : (f_X7_note_11 280 0 mbo) = mbo9 := hF11
        subst e9
        refine zr_iload_n (pc2 := 12) O dX7_note_11 rfl 0 rfl rfl ?_
        refine zr_sipush (v := (nI 280)) (pc2 := 15) O dX7_note_12 (by decide +kernel) rfl ?_
        refine zn_icmp_ge (tgt := 39) (pc2 := 18) O dX7_note_15 (by decide) rfl (by omega) (by omega) (fun c15 => ?_) (fun c15 => ?_)
        · refine zr_aload_n (pc2 := 40) O dX7_note_39 rfl 1 rfl rfl ?_
          refine zr_dup (pc2 := 41) O dX7_note_40 rfl rfl ?_
          refine zr_getf (v := .int (nI mbk)) (pc2 := 44) O sF_X7_note_116 0 0 rfl rfl rfl dX7_note_41 rfl ?_
          refine zr_iconst (v := (nI 1)) (pc2 := 45) O dX7_note_44 (by decide +kernel) rfl ?_
          refine zr_isub (v := (nI (mbk - 1))) (pc2 := 46) O dX7_note_45 (pk_sub (by omega)) rfl ?_
          refine zr_putf (G2 := modW cI m mle mpo mfa mrm mrw mP mQ (mbk - 1) mkp msg mwm mrs msd mls mhd mtx mnu mrd mrl mpe mno (f_X7_note_11 280 0 mbo) mim msi mwi mon mdi mco mgo mbr mca) (ws2 := [modW cI m mle mpo mfa mrm mrw mP mQ (mbk - 1) mkp msg mwm mrs msd mls mhd mtx mnu mrd mrl mpe mno (f_X7_note_11 280 0 mbo) mim msi mwi mon mdi mco mgo mbr mca]) (pc2 := 49) O sP_X7_note_116 0 0 rfl rfl rfl rfl (Nat.le_of_ble_eq_true rfl) dX7_note_46 rfl rfl rfl ?_
          refine zr_aload_n (pc2 := 50) O dX7_note_49 rfl 1 rfl rfl ?_
          refine zr_getf (v := .ref (m 14)) (pc2 := 53) O sF_X7_note_35 0 0 rfl rfl rfl dX7_note_50 rfl ?_
          refine zr_iconst (v := (nI 0)) (pc2 := 54) O dX7_note_53 (by decide +kernel) rfl ?_
          refine zr_aload_n (pc2 := 55) O dX7_note_54 rfl 1 rfl rfl ?_
          refine zr_getf (v := .ref (m 15)) (pc2 := 58) O sF_X7_note_38 0 0 rfl rfl rfl dX7_note_55 rfl ?_
          refine zr_bipush (v := (nI 40)) (pc2 := 60) O dX7_note_58 (by decide +kernel) rfl ?_
          refine zr_aload_n (pc2 := 61) O dX7_note_60 rfl 1 rfl rfl ?_
          refine zr_getf (v := .int (nI (mbk - 1))) (pc2 := 64) O sF_X7_note_116 0 0 rfl rfl rfl dX7_note_61 rfl ?_
          refine zr_imul (v := (nI (40 * (mbk - 1)))) (pc2 := 65) O dX7_note_64 (pk_mul 40 (mbk - 1)) rfl ?_
          refine zr_flat (ws2 := [[((m 31), .inr (7, [.int (nI mle), .ref (m 1), .int (nI mpo), .ref (m 3), .int (nI mfa), .int (nI mrm), .int (nI mrw), .ref (m 7), .ref (m 8), .int mrs, .int (nI mP), .ref (m 11), .int (nI mQ), .int msd, .ref (m 14), .ref (m 15), .int (nI (mbk - 1)), .ref (m 17), .int (nI mkp), .int (nI msg), .ref (m 20), .ref (m 21), .int (nI mwm), .ref (m 23), .int mls, .ref (m 25), .ref (m 26), .ref (m 27), .ref (m 28), .int mhd, .ref (m 30)]))], [((m 1), .inl (cI, 200, .inl mtx))], [((m 3), .inl (cI, 4, .inl mnu))], [((m 7), .inl (cI, 30, .inl mrd))], [((m 8), .inl (cI, 27, .inl mrl))], [((m 11), .inl (cI, 30, .inl mpe))], [((m 14), .inl (cI, 40, .inl mno))], [((m 15), .inl (cI, 320, .inl (f_X7_note_11 280 0 mbo)))], [((m 17), .inl (cI, 80, .inl mim))], [((m 20), .inl (cI, 24, .inl msi))], [((m 21), .inl (cI, 30, .inl mwi))], [((m 23), .inl (cI, 30, .inl mon))], [((m 25), .inl (cI, 6, .inl mdi))], [((m 26), .inl (cI, 6, .inl mco))], [((m 27), .inl (cI, 6, .inl mgo))], [((m 28), .inl (cI, 10, .inl mbr))], [((m 30), .inl (cI, 906, .inl mca))]]) O rfl ?_
          refine zr_callS (As := [.ref (m 14), .int (nI 0), .ref (m 15), .int (nI (40 * (mbk - 1)))]) (rest := []) (ws2 := [[((m 31), .inr (7, [.int (nI mle), .ref (m 1), .int (nI mpo), .ref (m 3), .int (nI mfa), .int (nI mrm), .int (nI mrw), .ref (m 7), .ref (m 8), .int mrs, .int (nI mP), .ref (m 11), .int (nI mQ), .int msd, .ref (m 14), .ref (m 15), .int (nI (mbk - 1)), .ref (m 17), .int (nI mkp), .int (nI msg), .ref (m 20), .ref (m 21), .int (nI mwm), .ref (m 23), .int mls, .ref (m 25), .ref (m 26), .ref (m 27), .ref (m 28), .int mhd, .ref (m 30)]))], [((m 1), .inl (cI, 200, .inl mtx))], [((m 3), .inl (cI, 4, .inl mnu))], [((m 7), .inl (cI, 30, .inl mrd))], [((m 8), .inl (cI, 27, .inl mrl))], [((m 11), .inl (cI, 30, .inl mpe))], [((m 14), .inl (cI, 40, .inl mno))], [((m 15), .inl (cI, 320, .inl (s_X7_copy mno (f_X7_note_11 280 0 mbo) 0 (40 * (mbk - 1)))))], [((m 17), .inl (cI, 80, .inl mim))], [((m 20), .inl (cI, 24, .inl msi))], [((m 21), .inl (cI, 30, .inl mwi))], [((m 23), .inl (cI, 30, .inl mon))], [((m 25), .inl (cI, 6, .inl mdi))], [((m 26), .inl (cI, 6, .inl mco))], [((m 27), .inl (cI, 6, .inl mgo))], [((m 28), .inl (cI, 10, .inl mbr))], [((m 30), .inl (cI, 906, .inl mca))]]) (pc2 := 68) O (c_X7_copy l D cI cC cJ (m 14) (m 15) mno (f_X7_note_11 280 0 mbo) 0 (40 * (mbk - 1)) 40 320 (by omega) (by omega) (by decide) (by decide)) sC_X7_note_131 rfl rfl dX7_note_65 [6, 7] rfl rfl rfl rfl (Nat.le_of_ble_eq_true rfl) rfl ?_
          show Z _ _ _ []
          refine zr_flat (ws2 := [modW cI m mle mpo mfa mrm mrw mP mQ (mbk - 1) mkp msg mwm mrs msd mls mhd mtx mnu mrd mrl mpe mno (s_X7_copy mno (f_X7_note_11 280 0 mbo) 0 (40 * (mbk - 1))) mim msi mwi mon mdi mco mgo mbr mca]) O rfl ?_
          refine zr_aload_n (pc2 := 69) O dX7_note_68 rfl 1 rfl rfl ?_
          refine zr_dup (pc2 := 70) O dX7_note_69 rfl rfl ?_
          refine zr_getf (v := .int (nI (mbk - 1))) (pc2 := 73) O sF_X7_note_116 0 0 rfl rfl rfl dX7_note_70 rfl ?_
          refine zr_iconst (v := (nI 1)) (pc2 := 74) O dX7_note_73 (by decide +kernel) rfl ?_
          refine zr_iadd (v := (nI ((mbk - 1) + 1))) (pc2 := 75) O dX7_note_74 (nI_add (mbk - 1) 1) rfl ?_
          refine zr_putf (G2 := modW cI m mle mpo mfa mrm mrw mP mQ ((mbk - 1) + 1) mkp msg mwm mrs msd mls mhd mtx mnu mrd mrl mpe mno (s_X7_copy mno (f_X7_note_11 280 0 mbo) 0 (40 * (mbk - 1))) mim msi mwi mon mdi mco mgo mbr mca) (ws2 := [modW cI m mle mpo mfa mrm mrw mP mQ ((mbk - 1) + 1) mkp msg mwm mrs msd mls mhd mtx mnu mrd mrl mpe mno (s_X7_copy mno (f_X7_note_11 280 0 mbo) 0 (40 * (mbk - 1))) mim msi mwi mon mdi mco mgo mbr mca]) (pc2 := 78) O sP_X7_note_116 0 0 rfl rfl rfl rfl (Nat.le_of_ble_eq_true rfl) dX7_note_75 rfl rfl rfl ?_
          have hE : s_X7_note mbk mno mbo = ((mbk - 1) + 1, (s_X7_copy mno (f_X7_note_11 280 0 mbo) 0 (40 * (mbk - 1)))) := by exact (if_pos c6)
          exact hret _ _ _ dX7_note_78 (by rw [hE])
        · exact absurd c15 (by decide)
      | succ n9 ih11 =>
        intro k mbo9 hM11 hF11
        refine zr_iload_n (pc2 := 12) O dX7_note_11 rfl 0 rfl rfl ?_
        refine zr_sipush (v := (nI 280)) (pc2 := 15) O dX7_note_12 (by decide +kernel) rfl ?_
        refine zn_icmp_ge (tgt := 39) (pc2 := 18) O dX7_note_15 (by decide) rfl (by omega) (by omega) (fun c15 => ?_) (fun c15 => ?_)
        · exact absurd c15 (by omega)
        · refine zr_aload_n (pc2 := 19) O dX7_note_18 rfl 1 rfl rfl ?_
          refine zr_getf (v := .ref (m 15)) (pc2 := 22) O sF_X7_note_38 0 0 rfl rfl rfl dX7_note_19 rfl ?_
          refine zr_iload_n (pc2 := 23) O dX7_note_22 rfl 0 rfl rfl ?_
          refine zr_aload_n (pc2 := 24) O dX7_note_23 rfl 1 rfl rfl ?_
          refine zr_getf (v := .ref (m 15)) (pc2 := 27) O sF_X7_note_38 0 0 rfl rfl rfl dX7_note_24 rfl ?_
          refine zr_iload_n (pc2 := 28) O dX7_note_27 rfl 0 rfl rfl ?_
          refine zr_bipush (v := (nI 40)) (pc2 := 30) O dX7_note_28 (by decide +kernel) rfl ?_
          refine zr_iadd (v := (nI (k + 40))) (pc2 := 31) O dX7_note_30 (nI_add k 40) rfl ?_
          refine zn_iald (j := (k + 40)) (pc2 := 32) O 0 7 0 rfl rfl rfl rfl (by omega) (by decide) dX7_note_31 rfl ?_
          refine zn_iast (j := k) (G2 := modW cI m mle mpo mfa mrm mrw mP mQ mbk mkp msg mwm mrs msd mls mhd mtx mnu mrd mrl mpe mno (upd mbo9 k (mbo9 (k + 40))) mim msi mwi mon mdi mco mgo mbr mca) (ws2 := [modW cI m mle mpo mfa mrm mrw mP mQ mbk mkp msg mwm mrs msd mls mhd mtx mnu mrd mrl mpe mno (upd mbo9 k (mbo9 (k + 40))) mim msi mwi mon mdi mco mgo mbr mca]) (pc2 := 33) O 0 7 0 rfl rfl rfl rfl (by omega) (by decide) dX7_note_32 rfl rfl rfl ?_
          refine zr_iinc (v := (nI (k + 1))) (lv2 := [(1, .int (nI (k + 1))), (0, .ref (m 31))]) (pc2 := 36) O dX7_note_33 0 rfl (zm_ofInt1 k) (by decide) rfl rfl ?_
          refine zr_goto (tgt := 11) O dX7_note_36 (by decide) ?_
          have hE : f_X7_note_11 (n9 + 1) k mbo9 = f_X7_note_11 n9 (k + 1) (upd mbo9 k (mbo9 (k + 40))) := by exact rfl
          exact ih11 (k + 1) (upd mbo9 k (mbo9 (k + 40))) (by omega) (hF11.trans hE)
    exact lp11 280 0 mbo (by omega) rfl
/-! X7_undo -/
def s_X7_undo (mbk : Nat) (mno : zF) (mbo : zF) : Int32 × Nat × zF := if mbk = 0 then ((-2), mbk, mno) else ((nI (mbk - 1)), mbk - 1, (s_X7_copy mbo mno (40 * (mbk - 1)) 0))
set_option maxHeartbeats 4000000 in
set_option maxRecDepth 100000 in
theorem c_X7_undo (l : Launch) (D : va_G) (cI cC cJ : ClassId) (m : Nat → Nat) (mle : Nat) (mpo : Nat) (mfa : Nat) (mrm : Nat) (mrw : Nat) (mP : Nat) (mQ : Nat) (mbk : Nat) (mkp : Nat) (msg : Nat) (mwm : Nat) (mrs : Int32) (msd : Int32) (mls : Int32) (mhd : Int32) (mtx : zF) (mnu : zF) (mrd : zF) (mrl : zF) (mpe : zF) (mno : zF) (mbo : zF) (mim : zF) (msi : zF) (mwi : zF) (mon : zF) (mdi : zF) (mco : zF) (mgo : zF) (mbr : zF) (mca : zF) (hbk : mbk ≤ 8) : zD l yX7_undo wsX7_undo rm_X7_undo D (zT cI cC cJ) [.ref (m 31)] [modW cI m mle mpo mfa mrm mrw mP mQ mbk mkp msg mwm mrs msd mls mhd mtx mnu mrd mrl mpe mno mbo mim msi mwi mon mdi mco mgo mbr mca] (some (.int ((s_X7_undo mbk mno mbo).1))) [modW cI m mle mpo mfa mrm mrw mP mQ ((s_X7_undo mbk mno mbo).2.1) mkp msg mwm mrs msd mls mhd mtx mnu mrd mrl mpe ((s_X7_undo mbk mno mbo).2.2) mbo mim msi mwi mon mdi mco mgo mbr mca] := by
  refine zD_int (cc := cX7_undo) (maxL := 1) (ty := .int) (lv := [(0, .ref (m 31))]) (by decide +kernel) rfl (Nat.le_of_ble_eq_true rfl) rfl (fun Z O hret => ?_)
  refine zr_aload_n (pc2 := 1) O dX7_undo_0 rfl 0 rfl rfl ?_
  refine zr_getf (v := .int (nI mbk)) (pc2 := 4) O sF_X7_undo_116 0 0 rfl rfl rfl dX7_undo_1 rfl ?_
  refine zn_if_ne (tgt := 10) (pc2 := 7) O dX7_undo_4 (by decide) rfl (by omega) (fun c4 => ?_) (fun c4 => ?_)
  · refine zr_aload_n (pc2 := 11) O dX7_undo_10 rfl 0 rfl rfl ?_
    refine zr_dup (pc2 := 12) O dX7_undo_11 rfl rfl ?_
    refine zr_getf (v := .int (nI mbk)) (pc2 := 15) O sF_X7_undo_116 0 0 rfl rfl rfl dX7_undo_12 rfl ?_
    refine zr_iconst (v := (nI 1)) (pc2 := 16) O dX7_undo_15 (by decide +kernel) rfl ?_
    refine zr_isub (v := (nI (mbk - 1))) (pc2 := 17) O dX7_undo_16 (pk_sub (by omega)) rfl ?_
    refine zr_putf (G2 := modW cI m mle mpo mfa mrm mrw mP mQ (mbk - 1) mkp msg mwm mrs msd mls mhd mtx mnu mrd mrl mpe mno mbo mim msi mwi mon mdi mco mgo mbr mca) (ws2 := [modW cI m mle mpo mfa mrm mrw mP mQ (mbk - 1) mkp msg mwm mrs msd mls mhd mtx mnu mrd mrl mpe mno mbo mim msi mwi mon mdi mco mgo mbr mca]) (pc2 := 20) O sP_X7_undo_116 0 0 rfl rfl rfl rfl (Nat.le_of_ble_eq_true rfl) dX7_undo_17 rfl rfl rfl ?_
    refine zr_aload_n (pc2 := 21) O dX7_undo_20 rfl 0 rfl rfl ?_
    refine zr_getf (v := .ref (m 15)) (pc2 := 24) O sF_X7_undo_38 0 0 rfl rfl rfl dX7_undo_21 rfl ?_
    refine zr_bipush (v := (nI 40)) (pc2 := 26) O dX7_undo_24 (by decide +kernel) rfl ?_
    refine zr_aload_n (pc2 := 27) O dX7_undo_26 rfl 0 rfl rfl ?_
    refine zr_getf (v := .int (nI (mbk - 1))) (pc2 := 30) O sF_X7_undo_116 0 0 rfl rfl rfl dX7_undo_27 rfl ?_
    refine zr_imul (v := (nI (40 * (mbk - 1)))) (pc2 := 31) O dX7_undo_30 (pk_mul 40 (mbk - 1)) rfl ?_
    refine zr_aload_n (pc2 := 32) O dX7_undo_31 rfl 0 rfl rfl ?_
    refine zr_getf (v := .ref (m 14)) (pc2 := 35) O sF_X7_undo_35 0 0 rfl rfl rfl dX7_undo_32 rfl ?_
    refine zr_iconst (v := (nI 0)) (pc2 := 36) O dX7_undo_35 (by decide +kernel) rfl ?_
    refine zr_flat (ws2 := [[((m 31), .inr (7, [.int (nI mle), .ref (m 1), .int (nI mpo), .ref (m 3), .int (nI mfa), .int (nI mrm), .int (nI mrw), .ref (m 7), .ref (m 8), .int mrs, .int (nI mP), .ref (m 11), .int (nI mQ), .int msd, .ref (m 14), .ref (m 15), .int (nI (mbk - 1)), .ref (m 17), .int (nI mkp), .int (nI msg), .ref (m 20), .ref (m 21), .int (nI mwm), .ref (m 23), .int mls, .ref (m 25), .ref (m 26), .ref (m 27), .ref (m 28), .int mhd, .ref (m 30)]))], [((m 1), .inl (cI, 200, .inl mtx))], [((m 3), .inl (cI, 4, .inl mnu))], [((m 7), .inl (cI, 30, .inl mrd))], [((m 8), .inl (cI, 27, .inl mrl))], [((m 11), .inl (cI, 30, .inl mpe))], [((m 14), .inl (cI, 40, .inl mno))], [((m 15), .inl (cI, 320, .inl mbo))], [((m 17), .inl (cI, 80, .inl mim))], [((m 20), .inl (cI, 24, .inl msi))], [((m 21), .inl (cI, 30, .inl mwi))], [((m 23), .inl (cI, 30, .inl mon))], [((m 25), .inl (cI, 6, .inl mdi))], [((m 26), .inl (cI, 6, .inl mco))], [((m 27), .inl (cI, 6, .inl mgo))], [((m 28), .inl (cI, 10, .inl mbr))], [((m 30), .inl (cI, 906, .inl mca))]]) O rfl ?_
    refine zr_callS (As := [.ref (m 15), .int (nI (40 * (mbk - 1))), .ref (m 14), .int (nI 0)]) (rest := []) (ws2 := [[((m 31), .inr (7, [.int (nI mle), .ref (m 1), .int (nI mpo), .ref (m 3), .int (nI mfa), .int (nI mrm), .int (nI mrw), .ref (m 7), .ref (m 8), .int mrs, .int (nI mP), .ref (m 11), .int (nI mQ), .int msd, .ref (m 14), .ref (m 15), .int (nI (mbk - 1)), .ref (m 17), .int (nI mkp), .int (nI msg), .ref (m 20), .ref (m 21), .int (nI mwm), .ref (m 23), .int mls, .ref (m 25), .ref (m 26), .ref (m 27), .ref (m 28), .int mhd, .ref (m 30)]))], [((m 1), .inl (cI, 200, .inl mtx))], [((m 3), .inl (cI, 4, .inl mnu))], [((m 7), .inl (cI, 30, .inl mrd))], [((m 8), .inl (cI, 27, .inl mrl))], [((m 11), .inl (cI, 30, .inl mpe))], [((m 14), .inl (cI, 40, .inl (s_X7_copy mbo mno (40 * (mbk - 1)) 0)))], [((m 15), .inl (cI, 320, .inl mbo))], [((m 17), .inl (cI, 80, .inl mim))], [((m 20), .inl (cI, 24, .inl msi))], [((m 21), .inl (cI, 30, .inl mwi))], [((m 23), .inl (cI, 30, .inl mon))], [((m 25), .inl (cI, 6, .inl mdi))], [((m 26), .inl (cI, 6, .inl mco))], [((m 27), .inl (cI, 6, .inl mgo))], [((m 28), .inl (cI, 10, .inl mbr))], [((m 30), .inl (cI, 906, .inl mca))]]) (pc2 := 39) O (c_X7_copy l D cI cC cJ (m 15) (m 14) mbo mno (40 * (mbk - 1)) 0 320 40 (by omega) (by omega) (by decide) (by decide)) sC_X7_undo_131 rfl rfl dX7_undo_36 [7, 6] rfl rfl rfl rfl (Nat.le_of_ble_eq_true rfl) rfl ?_
    show Z _ _ _ []
    refine zr_flat (ws2 := [modW cI m mle mpo mfa mrm mrw mP mQ (mbk - 1) mkp msg mwm mrs msd mls mhd mtx mnu mrd mrl mpe (s_X7_copy mbo mno (40 * (mbk - 1)) 0) mbo mim msi mwi mon mdi mco mgo mbr mca]) O rfl ?_
    refine zr_aload_n (pc2 := 40) O dX7_undo_39 rfl 0 rfl rfl ?_
    refine zr_getf (v := .int (nI (mbk - 1))) (pc2 := 43) O sF_X7_undo_116 0 0 rfl rfl rfl dX7_undo_40 rfl ?_
    have hE : s_X7_undo mbk mno mbo = ((nI (mbk - 1)), mbk - 1, (s_X7_copy mbo mno (40 * (mbk - 1)) 0)) := by exact (if_neg c4)
    exact hret _ _ _ _ dX7_undo_43 rfl (by rw [hE]) (by rw [hE])
  · refine zr_bipush (v := (-2)) (pc2 := 9) O dX7_undo_7 (by decide +kernel) rfl ?_
    have hE : s_X7_undo mbk mno mbo = ((-2), mbk, mno) := by exact (if_pos c4)
    exact hret _ _ _ _ dX7_undo_9 rfl (by rw [hE]) (by rw [hE])
/-! X7_keep -/
def s_X7_keep (mkp : Nat) (mno : zF) (mim : zF) : Int32 × Nat × zF := if mkp = 2 then ((-3), mkp, mim) else ((nI (mkp + 1)), mkp + 1, (s_X7_copy mno mim 0 (40 * mkp)))
set_option maxHeartbeats 4000000 in
set_option maxRecDepth 100000 in
theorem c_X7_keep (l : Launch) (D : va_G) (cI cC cJ : ClassId) (m : Nat → Nat) (mle : Nat) (mpo : Nat) (mfa : Nat) (mrm : Nat) (mrw : Nat) (mP : Nat) (mQ : Nat) (mbk : Nat) (mkp : Nat) (msg : Nat) (mwm : Nat) (mrs : Int32) (msd : Int32) (mls : Int32) (mhd : Int32) (mtx : zF) (mnu : zF) (mrd : zF) (mrl : zF) (mpe : zF) (mno : zF) (mbo : zF) (mim : zF) (msi : zF) (mwi : zF) (mon : zF) (mdi : zF) (mco : zF) (mgo : zF) (mbr : zF) (mca : zF) (hkp : mkp ≤ 2) : zD l yX7_keep wsX7_keep rm_X7_keep D (zT cI cC cJ) [.ref (m 31)] [modW cI m mle mpo mfa mrm mrw mP mQ mbk mkp msg mwm mrs msd mls mhd mtx mnu mrd mrl mpe mno mbo mim msi mwi mon mdi mco mgo mbr mca] (some (.int ((s_X7_keep mkp mno mim).1))) [modW cI m mle mpo mfa mrm mrw mP mQ mbk ((s_X7_keep mkp mno mim).2.1) msg mwm mrs msd mls mhd mtx mnu mrd mrl mpe mno mbo ((s_X7_keep mkp mno mim).2.2) msi mwi mon mdi mco mgo mbr mca] := by
  refine zD_int (cc := cX7_keep) (maxL := 1) (ty := .int) (lv := [(0, .ref (m 31))]) (by decide +kernel) rfl (Nat.le_of_ble_eq_true rfl) rfl (fun Z O hret => ?_)
  refine zr_aload_n (pc2 := 1) O dX7_keep_0 rfl 0 rfl rfl ?_
  refine zr_getf (v := .int (nI mkp)) (pc2 := 4) O sF_X7_keep_119 0 0 rfl rfl rfl dX7_keep_1 rfl ?_
  refine zr_iconst (v := (nI 2)) (pc2 := 5) O dX7_keep_4 (by decide +kernel) rfl ?_
  refine zn_icmp_ne (tgt := 11) (pc2 := 8) O dX7_keep_5 (by decide) rfl (by omega) (by omega) (fun c5 => ?_) (fun c5 => ?_)
  · refine zr_aload_n (pc2 := 12) O dX7_keep_11 rfl 0 rfl rfl ?_
    refine zr_getf (v := .ref (m 14)) (pc2 := 15) O sF_X7_keep_35 0 0 rfl rfl rfl dX7_keep_12 rfl ?_
    refine zr_iconst (v := (nI 0)) (pc2 := 16) O dX7_keep_15 (by decide +kernel) rfl ?_
    refine zr_aload_n (pc2 := 17) O dX7_keep_16 rfl 0 rfl rfl ?_
    refine zr_getf (v := .ref (m 17)) (pc2 := 20) O sF_X7_keep_41 0 0 rfl rfl rfl dX7_keep_17 rfl ?_
    refine zr_bipush (v := (nI 40)) (pc2 := 22) O dX7_keep_20 (by decide +kernel) rfl ?_
    refine zr_aload_n (pc2 := 23) O dX7_keep_22 rfl 0 rfl rfl ?_
    refine zr_getf (v := .int (nI mkp)) (pc2 := 26) O sF_X7_keep_119 0 0 rfl rfl rfl dX7_keep_23 rfl ?_
    refine zr_imul (v := (nI (40 * mkp))) (pc2 := 27) O dX7_keep_26 (pk_mul 40 mkp) rfl ?_
    refine zr_flat (ws2 := [[((m 31), .inr (7, [.int (nI mle), .ref (m 1), .int (nI mpo), .ref (m 3), .int (nI mfa), .int (nI mrm), .int (nI mrw), .ref (m 7), .ref (m 8), .int mrs, .int (nI mP), .ref (m 11), .int (nI mQ), .int msd, .ref (m 14), .ref (m 15), .int (nI mbk), .ref (m 17), .int (nI mkp), .int (nI msg), .ref (m 20), .ref (m 21), .int (nI mwm), .ref (m 23), .int mls, .ref (m 25), .ref (m 26), .ref (m 27), .ref (m 28), .int mhd, .ref (m 30)]))], [((m 1), .inl (cI, 200, .inl mtx))], [((m 3), .inl (cI, 4, .inl mnu))], [((m 7), .inl (cI, 30, .inl mrd))], [((m 8), .inl (cI, 27, .inl mrl))], [((m 11), .inl (cI, 30, .inl mpe))], [((m 14), .inl (cI, 40, .inl mno))], [((m 15), .inl (cI, 320, .inl mbo))], [((m 17), .inl (cI, 80, .inl mim))], [((m 20), .inl (cI, 24, .inl msi))], [((m 21), .inl (cI, 30, .inl mwi))], [((m 23), .inl (cI, 30, .inl mon))], [((m 25), .inl (cI, 6, .inl mdi))], [((m 26), .inl (cI, 6, .inl mco))], [((m 27), .inl (cI, 6, .inl mgo))], [((m 28), .inl (cI, 10, .inl mbr))], [((m 30), .inl (cI, 906, .inl mca))]]) O rfl ?_
    refine zr_callS (As := [.ref (m 14), .int (nI 0), .ref (m 17), .int (nI (40 * mkp))]) (rest := []) (ws2 := [[((m 31), .inr (7, [.int (nI mle), .ref (m 1), .int (nI mpo), .ref (m 3), .int (nI mfa), .int (nI mrm), .int (nI mrw), .ref (m 7), .ref (m 8), .int mrs, .int (nI mP), .ref (m 11), .int (nI mQ), .int msd, .ref (m 14), .ref (m 15), .int (nI mbk), .ref (m 17), .int (nI mkp), .int (nI msg), .ref (m 20), .ref (m 21), .int (nI mwm), .ref (m 23), .int mls, .ref (m 25), .ref (m 26), .ref (m 27), .ref (m 28), .int mhd, .ref (m 30)]))], [((m 1), .inl (cI, 200, .inl mtx))], [((m 3), .inl (cI, 4, .inl mnu))], [((m 7), .inl (cI, 30, .inl mrd))], [((m 8), .inl (cI, 27, .inl mrl))], [((m 11), .inl (cI, 30, .inl mpe))], [((m 14), .inl (cI, 40, .inl mno))], [((m 15), .inl (cI, 320, .inl mbo))], [((m 17), .inl (cI, 80, .inl (s_X7_copy mno mim 0 (40 * mkp))))], [((m 20), .inl (cI, 24, .inl msi))], [((m 21), .inl (cI, 30, .inl mwi))], [((m 23), .inl (cI, 30, .inl mon))], [((m 25), .inl (cI, 6, .inl mdi))], [((m 26), .inl (cI, 6, .inl mco))], [((m 27), .inl (cI, 6, .inl mgo))], [((m 28), .inl (cI, 10, .inl mbr))], [((m 30), .inl (cI, 906, .inl mca))]]) (pc2 := 30) O (c_X7_copy l D cI cC cJ (m 14) (m 17) mno mim 0 (40 * mkp) 40 80 (by omega) (by omega) (by decide) (by decide)) sC_X7_keep_131 rfl rfl dX7_keep_27 [6, 8] rfl rfl rfl rfl (Nat.le_of_ble_eq_true rfl) rfl ?_
    show Z _ _ _ []
    refine zr_flat (ws2 := [modW cI m mle mpo mfa mrm mrw mP mQ mbk mkp msg mwm mrs msd mls mhd mtx mnu mrd mrl mpe mno mbo (s_X7_copy mno mim 0 (40 * mkp)) msi mwi mon mdi mco mgo mbr mca]) O rfl ?_
    refine zr_aload_n (pc2 := 31) O dX7_keep_30 rfl 0 rfl rfl ?_
    refine zr_dup (pc2 := 32) O dX7_keep_31 rfl rfl ?_
    refine zr_getf (v := .int (nI mkp)) (pc2 := 35) O sF_X7_keep_119 0 0 rfl rfl rfl dX7_keep_32 rfl ?_
    refine zr_iconst (v := (nI 1)) (pc2 := 36) O dX7_keep_35 (by decide +kernel) rfl ?_
    refine zr_iadd (v := (nI (mkp + 1))) (pc2 := 37) O dX7_keep_36 (nI_add mkp 1) rfl ?_
    refine zr_putf (G2 := modW cI m mle mpo mfa mrm mrw mP mQ mbk (mkp + 1) msg mwm mrs msd mls mhd mtx mnu mrd mrl mpe mno mbo (s_X7_copy mno mim 0 (40 * mkp)) msi mwi mon mdi mco mgo mbr mca) (ws2 := [modW cI m mle mpo mfa mrm mrw mP mQ mbk (mkp + 1) msg mwm mrs msd mls mhd mtx mnu mrd mrl mpe mno mbo (s_X7_copy mno mim 0 (40 * mkp)) msi mwi mon mdi mco mgo mbr mca]) (pc2 := 40) O sP_X7_keep_119 0 0 rfl rfl rfl rfl (Nat.le_of_ble_eq_true rfl) dX7_keep_37 rfl rfl rfl ?_
    refine zr_aload_n (pc2 := 41) O dX7_keep_40 rfl 0 rfl rfl ?_
    refine zr_getf (v := .int (nI (mkp + 1))) (pc2 := 44) O sF_X7_keep_119 0 0 rfl rfl rfl dX7_keep_41 rfl ?_
    have hE : s_X7_keep mkp mno mim = ((nI (mkp + 1)), mkp + 1, (s_X7_copy mno mim 0 (40 * mkp))) := by exact (if_neg c5)
    exact hret _ _ _ _ dX7_keep_44 rfl (by rw [hE]) (by rw [hE])
  · refine zr_bipush (v := (-3)) (pc2 := 10) O dX7_keep_8 (by decide +kernel) rfl ?_
    have hE : s_X7_keep mkp mno mim = ((-3), mkp, mim) := by exact (if_pos c5)
    exact hret _ _ _ _ dX7_keep_10 rfl (by rw [hE]) (by rw [hE])
/-! X7_back -/
def s_X7_back (mbk : Nat) (mkp : Nat) (mno : zF) (mim : zF) : Int32 × Nat × Nat × zF := if mkp = 0 then ((-2), mbk, mkp, mno) else ((nI (mkp - 1)), 0, mkp - 1, (s_X7_copy mim mno (40 * (mkp - 1)) 0))
set_option maxHeartbeats 4000000 in
set_option maxRecDepth 100000 in
theorem c_X7_back (l : Launch) (D : va_G) (cI cC cJ : ClassId) (m : Nat → Nat) (mle : Nat) (mpo : Nat) (mfa : Nat) (mrm : Nat) (mrw : Nat) (mP : Nat) (mQ : Nat) (mbk : Nat) (mkp : Nat) (msg : Nat) (mwm : Nat) (mrs : Int32) (msd : Int32) (mls : Int32) (mhd : Int32) (mtx : zF) (mnu : zF) (mrd : zF) (mrl : zF) (mpe : zF) (mno : zF) (mbo : zF) (mim : zF) (msi : zF) (mwi : zF) (mon : zF) (mdi : zF) (mco : zF) (mgo : zF) (mbr : zF) (mca : zF) (hkp : mkp ≤ 2) : zD l yX7_back wsX7_back rm_X7_back D (zT cI cC cJ) [.ref (m 31)] [modW cI m mle mpo mfa mrm mrw mP mQ mbk mkp msg mwm mrs msd mls mhd mtx mnu mrd mrl mpe mno mbo mim msi mwi mon mdi mco mgo mbr mca] (some (.int ((s_X7_back mbk mkp mno mim).1))) [modW cI m mle mpo mfa mrm mrw mP mQ ((s_X7_back mbk mkp mno mim).2.1) ((s_X7_back mbk mkp mno mim).2.2.1) msg mwm mrs msd mls mhd mtx mnu mrd mrl mpe ((s_X7_back mbk mkp mno mim).2.2.2) mbo mim msi mwi mon mdi mco mgo mbr mca] := by
  refine zD_int (cc := cX7_back) (maxL := 1) (ty := .int) (lv := [(0, .ref (m 31))]) (by decide +kernel) rfl (Nat.le_of_ble_eq_true rfl) rfl (fun Z O hret => ?_)
  refine zr_aload_n (pc2 := 1) O dX7_back_0 rfl 0 rfl rfl ?_
  refine zr_getf (v := .int (nI mkp)) (pc2 := 4) O sF_X7_back_119 0 0 rfl rfl rfl dX7_back_1 rfl ?_
  refine zn_if_ne (tgt := 10) (pc2 := 7) O dX7_back_4 (by decide) rfl (by omega) (fun c4 => ?_) (fun c4 => ?_)
  · refine zr_aload_n (pc2 := 11) O dX7_back_10 rfl 0 rfl rfl ?_
    refine zr_dup (pc2 := 12) O dX7_back_11 rfl rfl ?_
    refine zr_getf (v := .int (nI mkp)) (pc2 := 15) O sF_X7_back_119 0 0 rfl rfl rfl dX7_back_12 rfl ?_
    refine zr_iconst (v := (nI 1)) (pc2 := 16) O dX7_back_15 (by decide +kernel) rfl ?_
    refine zr_isub (v := (nI (mkp - 1))) (pc2 := 17) O dX7_back_16 (pk_sub (by omega)) rfl ?_
    refine zr_putf (G2 := modW cI m mle mpo mfa mrm mrw mP mQ mbk (mkp - 1) msg mwm mrs msd mls mhd mtx mnu mrd mrl mpe mno mbo mim msi mwi mon mdi mco mgo mbr mca) (ws2 := [modW cI m mle mpo mfa mrm mrw mP mQ mbk (mkp - 1) msg mwm mrs msd mls mhd mtx mnu mrd mrl mpe mno mbo mim msi mwi mon mdi mco mgo mbr mca]) (pc2 := 20) O sP_X7_back_119 0 0 rfl rfl rfl rfl (Nat.le_of_ble_eq_true rfl) dX7_back_17 rfl rfl rfl ?_
    refine zr_aload_n (pc2 := 21) O dX7_back_20 rfl 0 rfl rfl ?_
    refine zr_getf (v := .ref (m 17)) (pc2 := 24) O sF_X7_back_41 0 0 rfl rfl rfl dX7_back_21 rfl ?_
    refine zr_bipush (v := (nI 40)) (pc2 := 26) O dX7_back_24 (by decide +kernel) rfl ?_
    refine zr_aload_n (pc2 := 27) O dX7_back_26 rfl 0 rfl rfl ?_
    refine zr_getf (v := .int (nI (mkp - 1))) (pc2 := 30) O sF_X7_back_119 0 0 rfl rfl rfl dX7_back_27 rfl ?_
    refine zr_imul (v := (nI (40 * (mkp - 1)))) (pc2 := 31) O dX7_back_30 (pk_mul 40 (mkp - 1)) rfl ?_
    refine zr_aload_n (pc2 := 32) O dX7_back_31 rfl 0 rfl rfl ?_
    refine zr_getf (v := .ref (m 14)) (pc2 := 35) O sF_X7_back_35 0 0 rfl rfl rfl dX7_back_32 rfl ?_
    refine zr_iconst (v := (nI 0)) (pc2 := 36) O dX7_back_35 (by decide +kernel) rfl ?_
    refine zr_flat (ws2 := [[((m 31), .inr (7, [.int (nI mle), .ref (m 1), .int (nI mpo), .ref (m 3), .int (nI mfa), .int (nI mrm), .int (nI mrw), .ref (m 7), .ref (m 8), .int mrs, .int (nI mP), .ref (m 11), .int (nI mQ), .int msd, .ref (m 14), .ref (m 15), .int (nI mbk), .ref (m 17), .int (nI (mkp - 1)), .int (nI msg), .ref (m 20), .ref (m 21), .int (nI mwm), .ref (m 23), .int mls, .ref (m 25), .ref (m 26), .ref (m 27), .ref (m 28), .int mhd, .ref (m 30)]))], [((m 1), .inl (cI, 200, .inl mtx))], [((m 3), .inl (cI, 4, .inl mnu))], [((m 7), .inl (cI, 30, .inl mrd))], [((m 8), .inl (cI, 27, .inl mrl))], [((m 11), .inl (cI, 30, .inl mpe))], [((m 14), .inl (cI, 40, .inl mno))], [((m 15), .inl (cI, 320, .inl mbo))], [((m 17), .inl (cI, 80, .inl mim))], [((m 20), .inl (cI, 24, .inl msi))], [((m 21), .inl (cI, 30, .inl mwi))], [((m 23), .inl (cI, 30, .inl mon))], [((m 25), .inl (cI, 6, .inl mdi))], [((m 26), .inl (cI, 6, .inl mco))], [((m 27), .inl (cI, 6, .inl mgo))], [((m 28), .inl (cI, 10, .inl mbr))], [((m 30), .inl (cI, 906, .inl mca))]]) O rfl ?_
    refine zr_callS (As := [.ref (m 17), .int (nI (40 * (mkp - 1))), .ref (m 14), .int (nI 0)]) (rest := []) (ws2 := [[((m 31), .inr (7, [.int (nI mle), .ref (m 1), .int (nI mpo), .ref (m 3), .int (nI mfa), .int (nI mrm), .int (nI mrw), .ref (m 7), .ref (m 8), .int mrs, .int (nI mP), .ref (m 11), .int (nI mQ), .int msd, .ref (m 14), .ref (m 15), .int (nI mbk), .ref (m 17), .int (nI (mkp - 1)), .int (nI msg), .ref (m 20), .ref (m 21), .int (nI mwm), .ref (m 23), .int mls, .ref (m 25), .ref (m 26), .ref (m 27), .ref (m 28), .int mhd, .ref (m 30)]))], [((m 1), .inl (cI, 200, .inl mtx))], [((m 3), .inl (cI, 4, .inl mnu))], [((m 7), .inl (cI, 30, .inl mrd))], [((m 8), .inl (cI, 27, .inl mrl))], [((m 11), .inl (cI, 30, .inl mpe))], [((m 14), .inl (cI, 40, .inl (s_X7_copy mim mno (40 * (mkp - 1)) 0)))], [((m 15), .inl (cI, 320, .inl mbo))], [((m 17), .inl (cI, 80, .inl mim))], [((m 20), .inl (cI, 24, .inl msi))], [((m 21), .inl (cI, 30, .inl mwi))], [((m 23), .inl (cI, 30, .inl mon))], [((m 25), .inl (cI, 6, .inl mdi))], [((m 26), .inl (cI, 6, .inl mco))], [((m 27), .inl (cI, 6, .inl mgo))], [((m 28), .inl (cI, 10, .inl mbr))], [((m 30), .inl (cI, 906, .inl mca))]]) (pc2 := 39) O (c_X7_copy l D cI cC cJ (m 17) (m 14) mim mno (40 * (mkp - 1)) 0 80 40 (by omega) (by omega) (by decide) (by decide)) sC_X7_back_131 rfl rfl dX7_back_36 [8, 6] rfl rfl rfl rfl (Nat.le_of_ble_eq_true rfl) rfl ?_
    show Z _ _ _ []
    refine zr_flat (ws2 := [modW cI m mle mpo mfa mrm mrw mP mQ mbk (mkp - 1) msg mwm mrs msd mls mhd mtx mnu mrd mrl mpe (s_X7_copy mim mno (40 * (mkp - 1)) 0) mbo mim msi mwi mon mdi mco mgo mbr mca]) O rfl ?_
    refine zr_aload_n (pc2 := 40) O dX7_back_39 rfl 0 rfl rfl ?_
    refine zr_iconst (v := (nI 0)) (pc2 := 41) O dX7_back_40 (by decide +kernel) rfl ?_
    refine zr_putf (G2 := modW cI m mle mpo mfa mrm mrw mP mQ 0 (mkp - 1) msg mwm mrs msd mls mhd mtx mnu mrd mrl mpe (s_X7_copy mim mno (40 * (mkp - 1)) 0) mbo mim msi mwi mon mdi mco mgo mbr mca) (ws2 := [modW cI m mle mpo mfa mrm mrw mP mQ 0 (mkp - 1) msg mwm mrs msd mls mhd mtx mnu mrd mrl mpe (s_X7_copy mim mno (40 * (mkp - 1)) 0) mbo mim msi mwi mon mdi mco mgo mbr mca]) (pc2 := 44) O sP_X7_back_116 0 0 rfl rfl rfl rfl (Nat.le_of_ble_eq_true rfl) dX7_back_41 rfl rfl rfl ?_
    refine zr_aload_n (pc2 := 45) O dX7_back_44 rfl 0 rfl rfl ?_
    refine zr_getf (v := .int (nI (mkp - 1))) (pc2 := 48) O sF_X7_back_119 0 0 rfl rfl rfl dX7_back_45 rfl ?_
    have hE : s_X7_back mbk mkp mno mim = ((nI (mkp - 1)), 0, mkp - 1, (s_X7_copy mim mno (40 * (mkp - 1)) 0)) := by exact (if_neg c4)
    exact hret _ _ _ _ dX7_back_48 rfl (by rw [hE]) (by rw [hE])
  · refine zr_bipush (v := (-2)) (pc2 := 9) O dX7_back_7 (by decide +kernel) rfl ?_
    have hE : s_X7_back mbk mkp mno mim = ((-2), mbk, mkp, mno) := by exact (if_pos c4)
    exact hret _ _ _ _ dX7_back_9 rfl (by rw [hE]) (by rw [hE])
/-! X7_person -/
def s_X7_person (mP : Nat) (mQ : Nat) (mpe : zF) (mno : zF) (i : Int32) (wh : Int32) : Int32 := if (s_X7_in i (nI 0) ((nI mP) - (nI 1))) = true then if (s_X7_in wh (nI 0) (nI 5)) = true then if 5 ≤ wh.toNatClampNeg then (s_X7_leavesOf mQ mno (nI i.toNatClampNeg)) else (mpe ((5 * i.toNatClampNeg) + wh.toNatClampNeg)) else (-1) else (-1)
set_option maxHeartbeats 4000000 in
set_option maxRecDepth 100000 in
theorem c_X7_person (l : Launch) (D : va_G) (cI cC cJ : ClassId) (m : Nat → Nat) (mle : Nat) (mpo : Nat) (mfa : Nat) (mrm : Nat) (mrw : Nat) (mP : Nat) (mQ : Nat) (mbk : Nat) (mkp : Nat) (msg : Nat) (mwm : Nat) (mrs : Int32) (msd : Int32) (mls : Int32) (mhd : Int32) (mtx : zF) (mnu : zF) (mrd : zF) (mrl : zF) (mpe : zF) (mno : zF) (mbo : zF) (mim : zF) (msi : zF) (mwi : zF) (mon : zF) (mdi : zF) (mco : zF) (mgo : zF) (mbr : zF) (mca : zF) (i : Int32) (wh : Int32) (hmP : mP ≤ 6) (hmQ : mQ ≤ 9) : zD l yX7_person wsX7_person rm_X7_person D (zT cI cC cJ) [.ref (m 31), .int i, .int wh] [modW cI m mle mpo mfa mrm mrw mP mQ mbk mkp msg mwm mrs msd mls mhd mtx mnu mrd mrl mpe mno mbo mim msi mwi mon mdi mco mgo mbr mca] (some (.int (s_X7_person mP mQ mpe mno i wh))) [modW cI m mle mpo mfa mrm mrw mP mQ mbk mkp msg mwm mrs msd mls mhd mtx mnu mrd mrl mpe mno mbo mim msi mwi mon mdi mco mgo mbr mca] := by
  refine zD_int (cc := cX7_person) (maxL := 3) (ty := .int) (lv := [(0, .ref (m 31)), (1, .int i), (2, .int wh)]) (by decide +kernel) rfl (Nat.le_of_ble_eq_true rfl) rfl (fun Z O hret => ?_)
  refine zr_aload_n (pc2 := 1) O dX7_person_0 rfl 0 rfl rfl ?_
  refine zr_iload_n (pc2 := 2) O dX7_person_1 rfl 1 rfl rfl ?_
  refine zr_callV (As := [.int i]) (rest := []) (ws2 := [modW cI m mle mpo mfa mrm mrw mP mQ mbk mkp msg mwm mrs msd mls mhd mtx mnu mrd mrl mpe mno mbo mim msi mwi mon mdi mco mgo mbr mca]) (pc2 := 5) (ci := 7) (g0 := 0) (q0 := 0) O (c_X7_isOne l D cI cC cJ m mle mpo mfa mrm mrw mP mQ mbk mkp msg mwm mrs msd mls mhd mtx mnu mrd mrl mpe mno mbo mim msi mwi mon mdi mco mgo mbr mca i) sC_X7_person_122 rfl rfl rfl rfl rfl dX7_person_2 [0] rfl rfl rfl rfl (Nat.le_of_ble_eq_true rfl) rfl ?_
  show Z _ _ _ [.int (zb (s_X7_in i (nI 0) ((nI mP) - (nI 1))))]
  refine zb_if_eq (tgt := 17) (pc2 := 8) O dX7_person_5 (by decide) rfl (fun c5 => ?_) (fun c5 => ?_)
  · refine zr_iconst (v := (-1)) (pc2 := 18) O dX7_person_17 (by decide +kernel) rfl ?_
    have hE : s_X7_person mP mQ mpe mno i wh = (-1) := by exact (zif_f c5)
    exact hret _ _ _ _ dX7_person_18 rfl (by rw [hE]) rfl
  · refine zr_iload_n (pc2 := 9) O dX7_person_8 rfl 2 rfl rfl ?_
    refine zr_iconst (v := (nI 0)) (pc2 := 10) O dX7_person_9 (by decide +kernel) rfl ?_
    refine zr_iconst (v := (nI 5)) (pc2 := 11) O dX7_person_10 (by decide +kernel) rfl ?_
    refine zr_callS (As := [.int wh, .int (nI 0), .int (nI 5)]) (rest := []) (ws2 := [modW cI m mle mpo mfa mrm mrw mP mQ mbk mkp msg mwm mrs msd mls mhd mtx mnu mrd mrl mpe mno mbo mim msi mwi mon mdi mco mgo mbr mca]) (pc2 := 14) O (c_X7_in l D cI cC cJ wh (nI 0) (nI 5)) sC_X7_person_76 rfl rfl dX7_person_11 [] rfl rfl rfl rfl (Nat.le_of_ble_eq_true rfl) rfl ?_
    show Z _ _ _ [.int (zb (s_X7_in wh (nI 0) (nI 5)))]
    refine zb_if_ne (tgt := 19) (pc2 := 17) O dX7_person_14 (by decide) rfl (fun c14 => ?_) (fun c14 => ?_)
    · have hc1 := (one_in c5 hmP)
      rw [hc1.1]
      have hc2 := (in_nat c14 (by decide) (by decide))
      rw [hc2.1]
      refine zr_iload_n (pc2 := 20) O dX7_person_19 rfl 2 rfl rfl ?_
      refine zr_iconst (v := (nI 5)) (pc2 := 21) O dX7_person_20 (by decide +kernel) rfl ?_
      refine zn_icmp_ge (tgt := 37) (pc2 := 24) O dX7_person_21 (by decide) rfl (by omega) (by omega) (fun c21 => ?_) (fun c21 => ?_)
      · refine zr_aload_n (pc2 := 38) O dX7_person_37 rfl 0 rfl rfl ?_
        refine zr_iload_n (pc2 := 39) O dX7_person_38 rfl 1 rfl rfl ?_
        refine zr_callV (As := [.int (nI i.toNatClampNeg)]) (rest := []) (ws2 := [modW cI m mle mpo mfa mrm mrw mP mQ mbk mkp msg mwm mrs msd mls mhd mtx mnu mrd mrl mpe mno mbo mim msi mwi mon mdi mco mgo mbr mca]) (pc2 := 42) (ci := 7) (g0 := 0) (q0 := 0) O (c_X7_leavesOf l D cI cC cJ m mle mpo mfa mrm mrw mP mQ mbk mkp msg mwm mrs msd mls mhd mtx mnu mrd mrl mpe mno mbo mim msi mwi mon mdi mco mgo mbr mca (nI i.toNatClampNeg) (by first | assumption | omega)) sC_X7_person_125 rfl rfl rfl rfl rfl dX7_person_39 [0] rfl rfl rfl rfl (Nat.le_of_ble_eq_true rfl) rfl ?_
        show Z _ _ _ [.int (s_X7_leavesOf mQ mno (nI i.toNatClampNeg))]
        have hE : s_X7_person mP mQ mpe mno i wh = (s_X7_leavesOf mQ mno (nI i.toNatClampNeg)) := by exact ((zif_t c5).trans ((zif_t c14).trans (if_pos c21)))
        exact hret _ _ _ _ dX7_person_42 rfl (by rw [hE]) rfl
      · refine zr_aload_n (pc2 := 25) O dX7_person_24 rfl 0 rfl rfl ?_
        refine zr_getf (v := .ref (m 11)) (pc2 := 28) O sF_X7_person_26 0 0 rfl rfl rfl dX7_person_25 rfl ?_
        refine zr_iconst (v := (nI 5)) (pc2 := 29) O dX7_person_28 (by decide +kernel) rfl ?_
        refine zr_iload_n (pc2 := 30) O dX7_person_29 rfl 1 rfl rfl ?_
        refine zr_imul (v := (nI (5 * i.toNatClampNeg))) (pc2 := 31) O dX7_person_30 (pk_mul 5 i.toNatClampNeg) rfl ?_
        refine zr_iload_n (pc2 := 32) O dX7_person_31 rfl 2 rfl rfl ?_
        refine zr_iadd (v := (nI ((5 * i.toNatClampNeg) + wh.toNatClampNeg))) (pc2 := 33) O dX7_person_32 (nI_add (5 * i.toNatClampNeg) wh.toNatClampNeg) rfl ?_
        refine zn_iald (j := ((5 * i.toNatClampNeg) + wh.toNatClampNeg)) (pc2 := 34) O 0 5 0 rfl rfl rfl rfl (by omega) (by decide) dX7_person_33 rfl ?_
        refine zr_goto (tgt := 42) O dX7_person_34 (by decide) ?_
        have hE : s_X7_person mP mQ mpe mno i wh = (mpe ((5 * i.toNatClampNeg) + wh.toNatClampNeg)) := by exact ((zif_t c5).trans ((zif_t c14).trans (if_neg c21)))
        exact hret _ _ _ _ dX7_person_42 rfl (by rw [hE]) rfl
    · refine zr_iconst (v := (-1)) (pc2 := 18) O dX7_person_17 (by decide +kernel) rfl ?_
      have hE : s_X7_person mP mQ mpe mno i wh = (-1) := by exact ((zif_t c5).trans (zif_f c14))
      exact hret _ _ _ _ dX7_person_18 rfl (by rw [hE]) rfl
/-! X7_bequest -/
def s_X7_bequest (mQ : Nat) (mno : zF) (k : Int32) (wh : Int32) : Int32 := if (s_X7_in k (nI 0) ((nI mQ) - (nI 1))) = true then if (s_X7_in wh (nI 0) (nI 2)) = true then (mno ((3 * k.toNatClampNeg) + wh.toNatClampNeg)) else (-1) else (-1)
set_option maxHeartbeats 4000000 in
set_option maxRecDepth 100000 in
theorem c_X7_bequest (l : Launch) (D : va_G) (cI cC cJ : ClassId) (m : Nat → Nat) (mle : Nat) (mpo : Nat) (mfa : Nat) (mrm : Nat) (mrw : Nat) (mP : Nat) (mQ : Nat) (mbk : Nat) (mkp : Nat) (msg : Nat) (mwm : Nat) (mrs : Int32) (msd : Int32) (mls : Int32) (mhd : Int32) (mtx : zF) (mnu : zF) (mrd : zF) (mrl : zF) (mpe : zF) (mno : zF) (mbo : zF) (mim : zF) (msi : zF) (mwi : zF) (mon : zF) (mdi : zF) (mco : zF) (mgo : zF) (mbr : zF) (mca : zF) (k : Int32) (wh : Int32) (hmQ : mQ ≤ 9) : zD l yX7_bequest wsX7_bequest rm_X7_bequest D (zT cI cC cJ) [.ref (m 31), .int k, .int wh] [modW cI m mle mpo mfa mrm mrw mP mQ mbk mkp msg mwm mrs msd mls mhd mtx mnu mrd mrl mpe mno mbo mim msi mwi mon mdi mco mgo mbr mca] (some (.int (s_X7_bequest mQ mno k wh))) [modW cI m mle mpo mfa mrm mrw mP mQ mbk mkp msg mwm mrs msd mls mhd mtx mnu mrd mrl mpe mno mbo mim msi mwi mon mdi mco mgo mbr mca] := by
  refine zD_int (cc := cX7_bequest) (maxL := 3) (ty := .int) (lv := [(0, .ref (m 31)), (1, .int k), (2, .int wh)]) (by decide +kernel) rfl (Nat.le_of_ble_eq_true rfl) rfl (fun Z O hret => ?_)
  refine zr_aload_n (pc2 := 1) O dX7_bequest_0 rfl 0 rfl rfl ?_
  refine zr_iload_n (pc2 := 2) O dX7_bequest_1 rfl 1 rfl rfl ?_
  refine zr_callV (As := [.int k]) (rest := []) (ws2 := [modW cI m mle mpo mfa mrm mrw mP mQ mbk mkp msg mwm mrs msd mls mhd mtx mnu mrd mrl mpe mno mbo mim msi mwi mon mdi mco mgo mbr mca]) (pc2 := 5) (ci := 7) (g0 := 0) (q0 := 0) O (c_X7_isWill l D cI cC cJ m mle mpo mfa mrm mrw mP mQ mbk mkp msg mwm mrs msd mls mhd mtx mnu mrd mrl mpe mno mbo mim msi mwi mon mdi mco mgo mbr mca k) sC_X7_bequest_128 rfl rfl rfl rfl rfl dX7_bequest_2 [0] rfl rfl rfl rfl (Nat.le_of_ble_eq_true rfl) rfl ?_
  show Z _ _ _ [.int (zb (s_X7_in k (nI 0) ((nI mQ) - (nI 1))))]
  refine zb_if_eq (tgt := 30) (pc2 := 8) O dX7_bequest_5 (by decide) rfl (fun c5 => ?_) (fun c5 => ?_)
  · refine zr_iconst (v := (-1)) (pc2 := 31) O dX7_bequest_30 (by decide +kernel) rfl ?_
    have hE : s_X7_bequest mQ mno k wh = (-1) := by exact (zif_f c5)
    exact hret _ _ _ _ dX7_bequest_31 rfl (by rw [hE]) rfl
  · refine zr_iload_n (pc2 := 9) O dX7_bequest_8 rfl 2 rfl rfl ?_
    refine zr_iconst (v := (nI 0)) (pc2 := 10) O dX7_bequest_9 (by decide +kernel) rfl ?_
    refine zr_iconst (v := (nI 2)) (pc2 := 11) O dX7_bequest_10 (by decide +kernel) rfl ?_
    refine zr_callS (As := [.int wh, .int (nI 0), .int (nI 2)]) (rest := []) (ws2 := [modW cI m mle mpo mfa mrm mrw mP mQ mbk mkp msg mwm mrs msd mls mhd mtx mnu mrd mrl mpe mno mbo mim msi mwi mon mdi mco mgo mbr mca]) (pc2 := 14) O (c_X7_in l D cI cC cJ wh (nI 0) (nI 2)) sC_X7_bequest_76 rfl rfl dX7_bequest_11 [] rfl rfl rfl rfl (Nat.le_of_ble_eq_true rfl) rfl ?_
    show Z _ _ _ [.int (zb (s_X7_in wh (nI 0) (nI 2)))]
    refine zb_if_eq (tgt := 30) (pc2 := 17) O dX7_bequest_14 (by decide) rfl (fun c14 => ?_) (fun c14 => ?_)
    · refine zr_iconst (v := (-1)) (pc2 := 31) O dX7_bequest_30 (by decide +kernel) rfl ?_
      have hE : s_X7_bequest mQ mno k wh = (-1) := by exact ((zif_t c5).trans (zif_f c14))
      exact hret _ _ _ _ dX7_bequest_31 rfl (by rw [hE]) rfl
    · have hc1 := (will_in c5 hmQ)
      rw [hc1.1]
      have hc2 := (in_nat c14 (by decide) (by decide))
      rw [hc2.1]
      refine zr_aload_n (pc2 := 18) O dX7_bequest_17 rfl 0 rfl rfl ?_
      refine zr_getf (v := .ref (m 14)) (pc2 := 21) O sF_X7_bequest_35 0 0 rfl rfl rfl dX7_bequest_18 rfl ?_
      refine zr_iconst (v := (nI 3)) (pc2 := 22) O dX7_bequest_21 (by decide +kernel) rfl ?_
      refine zr_iload_n (pc2 := 23) O dX7_bequest_22 rfl 1 rfl rfl ?_
      refine zr_imul (v := (nI (3 * k.toNatClampNeg))) (pc2 := 24) O dX7_bequest_23 (pk_mul 3 k.toNatClampNeg) rfl ?_
      refine zr_iload_n (pc2 := 25) O dX7_bequest_24 rfl 2 rfl rfl ?_
      refine zr_iadd (v := (nI ((3 * k.toNatClampNeg) + wh.toNatClampNeg))) (pc2 := 26) O dX7_bequest_25 (nI_add (3 * k.toNatClampNeg) wh.toNatClampNeg) rfl ?_
      refine zn_iald (j := ((3 * k.toNatClampNeg) + wh.toNatClampNeg)) (pc2 := 27) O 0 6 0 rfl rfl rfl rfl (by omega) (by decide) dX7_bequest_26 rfl ?_
      refine zr_goto (tgt := 31) O dX7_bequest_27 (by decide) ?_
      have hE : s_X7_bequest mQ mno k wh = (mno ((3 * k.toNatClampNeg) + wh.toNatClampNeg)) := by exact ((zif_t c5).trans (zif_t c14))
      exact hret _ _ _ _ dX7_bequest_31 rfl (by rw [hE]) rfl
/-! X7_reword -/
def s_X7_reword (mQ : Nat) (mbk : Nat) (mno : zF) (mbo : zF) (k : Int32) (x : Int32) : Int32 × Nat × zF × zF := if (s_X7_in k (nI 0) ((nI mQ) - (nI 1))) = true then if (s_X7_in x (nI 1) (nI 99)) = true then let u21 := s_X7_note mbk mno mbo; ((mno ((3 * k.toNatClampNeg) + 2)), u21.1, (upd mno ((3 * k.toNatClampNeg) + 2) x), u21.2) else ((-1), mbk, mno, mbo) else ((-1), mbk, mno, mbo)
set_option maxHeartbeats 4000000 in
set_option maxRecDepth 100000 in
theorem c_X7_reword (l : Launch) (D : va_G) (cI cC cJ : ClassId) (m : Nat → Nat) (mle : Nat) (mpo : Nat) (mfa : Nat) (mrm : Nat) (mrw : Nat) (mP : Nat) (mQ : Nat) (mbk : Nat) (mkp : Nat) (msg : Nat) (mwm : Nat) (mrs : Int32) (msd : Int32) (mls : Int32) (mhd : Int32) (mtx : zF) (mnu : zF) (mrd : zF) (mrl : zF) (mpe : zF) (mno : zF) (mbo : zF) (mim : zF) (msi : zF) (mwi : zF) (mon : zF) (mdi : zF) (mco : zF) (mgo : zF) (mbr : zF) (mca : zF) (k : Int32) (x : Int32) (hmQ : mQ ≤ 9) (hbk : mbk ≤ 8) : zD l yX7_reword wsX7_reword rm_X7_reword D (zT cI cC cJ) [.ref (m 31), .int k, .int x] [modW cI m mle mpo mfa mrm mrw mP mQ mbk mkp msg mwm mrs msd mls mhd mtx mnu mrd mrl mpe mno mbo mim msi mwi mon mdi mco mgo mbr mca] (some (.int ((s_X7_reword mQ mbk mno mbo k x).1))) [modW cI m mle mpo mfa mrm mrw mP mQ ((s_X7_reword mQ mbk mno mbo k x).2.1) mkp msg mwm mrs msd mls mhd mtx mnu mrd mrl mpe ((s_X7_reword mQ mbk mno mbo k x).2.2.1) ((s_X7_reword mQ mbk mno mbo k x).2.2.2) mim msi mwi mon mdi mco mgo mbr mca] := by
  refine zD_int (cc := cX7_reword) (maxL := 4) (ty := .int) (lv := [(0, .ref (m 31)), (1, .int k), (2, .int x)]) (by decide +kernel) rfl (Nat.le_of_ble_eq_true rfl) rfl (fun Z O hret => ?_)
  refine zr_aload_n (pc2 := 1) O dX7_reword_0 rfl 0 rfl rfl ?_
  refine zr_iload_n (pc2 := 2) O dX7_reword_1 rfl 1 rfl rfl ?_
  refine zr_callV (As := [.int k]) (rest := []) (ws2 := [modW cI m mle mpo mfa mrm mrw mP mQ mbk mkp msg mwm mrs msd mls mhd mtx mnu mrd mrl mpe mno mbo mim msi mwi mon mdi mco mgo mbr mca]) (pc2 := 5) (ci := 7) (g0 := 0) (q0 := 0) O (c_X7_isWill l D cI cC cJ m mle mpo mfa mrm mrw mP mQ mbk mkp msg mwm mrs msd mls mhd mtx mnu mrd mrl mpe mno mbo mim msi mwi mon mdi mco mgo mbr mca k) sC_X7_reword_128 rfl rfl rfl rfl rfl dX7_reword_2 [0] rfl rfl rfl rfl (Nat.le_of_ble_eq_true rfl) rfl ?_
  show Z _ _ _ [.int (zb (s_X7_in k (nI 0) ((nI mQ) - (nI 1))))]
  refine zb_if_eq (tgt := 18) (pc2 := 8) O dX7_reword_5 (by decide) rfl (fun c5 => ?_) (fun c5 => ?_)
  · refine zr_iconst (v := (-1)) (pc2 := 19) O dX7_reword_18 (by decide +kernel) rfl ?_
    have hE : s_X7_reword mQ mbk mno mbo k x = ((-1), mbk, mno, mbo) := by exact (zif_f c5)
    exact hret _ _ _ _ dX7_reword_19 rfl (by rw [hE]) (by rw [hE])
  · refine zr_iload_n (pc2 := 9) O dX7_reword_8 rfl 2 rfl rfl ?_
    refine zr_iconst (v := (nI 1)) (pc2 := 10) O dX7_reword_9 (by decide +kernel) rfl ?_
    refine zr_bipush (v := (nI 99)) (pc2 := 12) O dX7_reword_10 (by decide +kernel) rfl ?_
    refine zr_callS (As := [.int x, .int (nI 1), .int (nI 99)]) (rest := []) (ws2 := [modW cI m mle mpo mfa mrm mrw mP mQ mbk mkp msg mwm mrs msd mls mhd mtx mnu mrd mrl mpe mno mbo mim msi mwi mon mdi mco mgo mbr mca]) (pc2 := 15) O (c_X7_in l D cI cC cJ x (nI 1) (nI 99)) sC_X7_reword_76 rfl rfl dX7_reword_12 [] rfl rfl rfl rfl (Nat.le_of_ble_eq_true rfl) rfl ?_
    show Z _ _ _ [.int (zb (s_X7_in x (nI 1) (nI 99)))]
    refine zb_if_ne (tgt := 20) (pc2 := 18) O dX7_reword_15 (by decide) rfl (fun c15 => ?_) (fun c15 => ?_)
    · have hc1 := (will_in c5 hmQ)
      rw [hc1.1]
      refine zr_aload_n (pc2 := 21) O dX7_reword_20 rfl 0 rfl rfl ?_
      obtain ⟨u21, hu21⟩ : ∃ z9, z9 = s_X7_note mbk mno mbo := ⟨_, rfl⟩
      refine zr_callV (As := []) (rest := []) (ws2 := [modW cI m mle mpo mfa mrm mrw mP mQ u21.1 mkp msg mwm mrs msd mls mhd mtx mnu mrd mrl mpe mno u21.2 mim msi mwi mon mdi mco mgo mbr mca]) (pc2 := 24) (ci := 7) (g0 := 0) (q0 := 0) (v := none) (W := [modW cI m mle mpo mfa mrm mrw mP mQ mbk mkp msg mwm mrs msd mls mhd mtx mnu mrd mrl mpe mno mbo mim msi mwi mon mdi mco mgo mbr mca]) (W2 := [modW cI m mle mpo mfa mrm mrw mP mQ u21.1 mkp msg mwm mrs msd mls mhd mtx mnu mrd mrl mpe mno u21.2 mim msi mwi mon mdi mco mgo mbr mca]) O (by rw [hu21]; exact (c_X7_note l D cI cC cJ m mle mpo mfa mrm mrw mP mQ mbk mkp msg mwm mrs msd mls mhd mtx mnu mrd mrl mpe mno mbo mim msi mwi mon mdi mco mgo mbr mca (by first | assumption | omega))) sC_X7_reword_135 rfl rfl rfl rfl rfl dX7_reword_21 [0] rfl rfl rfl rfl (Nat.le_of_ble_eq_true rfl) rfl ?_
      show Z _ _ _ []
      refine zr_aload_n (pc2 := 25) O dX7_reword_24 rfl 0 rfl rfl ?_
      refine zr_getf (v := .ref (m 14)) (pc2 := 28) O sF_X7_reword_35 0 0 rfl rfl rfl dX7_reword_25 rfl ?_
      refine zr_iconst (v := (nI 3)) (pc2 := 29) O dX7_reword_28 (by decide +kernel) rfl ?_
      refine zr_iload_n (pc2 := 30) O dX7_reword_29 rfl 1 rfl rfl ?_
      refine zr_imul (v := (nI (3 * k.toNatClampNeg))) (pc2 := 31) O dX7_reword_30 (pk_mul 3 k.toNatClampNeg) rfl ?_
      refine zr_iconst (v := (nI 2)) (pc2 := 32) O dX7_reword_31 (by decide +kernel) rfl ?_
      refine zr_iadd (v := (nI ((3 * k.toNatClampNeg) + 2))) (pc2 := 33) O dX7_reword_32 (nI_add (3 * k.toNatClampNeg) 2) rfl ?_
      refine zn_iald (j := ((3 * k.toNatClampNeg) + 2)) (pc2 := 34) O 0 6 0 rfl rfl rfl rfl (by omega) (by decide) dX7_reword_33 rfl ?_
      refine zr_istore_n (lv2 := [(3, .int (mno ((3 * k.toNatClampNeg) + 2))), (0, .ref (m 31)), (1, .int (nI k.toNatClampNeg)), (2, .int x)]) (pc2 := 35) O dX7_reword_34 rfl (by decide) rfl rfl ?_
      refine zr_aload_n (pc2 := 36) O dX7_reword_35 rfl 1 rfl rfl ?_
      refine zr_getf (v := .ref (m 14)) (pc2 := 39) O sF_X7_reword_35 0 0 rfl rfl rfl dX7_reword_36 rfl ?_
      refine zr_iconst (v := (nI 3)) (pc2 := 40) O dX7_reword_39 (by decide +kernel) rfl ?_
      refine zr_iload_n (pc2 := 41) O dX7_reword_40 rfl 2 rfl rfl ?_
      refine zr_imul (v := (nI (3 * k.toNatClampNeg))) (pc2 := 42) O dX7_reword_41 (pk_mul 3 k.toNatClampNeg) rfl ?_
      refine zr_iconst (v := (nI 2)) (pc2 := 43) O dX7_reword_42 (by decide +kernel) rfl ?_
      refine zr_iadd (v := (nI ((3 * k.toNatClampNeg) + 2))) (pc2 := 44) O dX7_reword_43 (nI_add (3 * k.toNatClampNeg) 2) rfl ?_
      refine zr_iload_n (pc2 := 45) O dX7_reword_44 rfl 3 rfl rfl ?_
      refine zn_iast (j := ((3 * k.toNatClampNeg) + 2)) (G2 := modW cI m mle mpo mfa mrm mrw mP mQ u21.1 mkp msg mwm mrs msd mls mhd mtx mnu mrd mrl mpe (upd mno ((3 * k.toNatClampNeg) + 2) x) u21.2 mim msi mwi mon mdi mco mgo mbr mca) (ws2 := [modW cI m mle mpo mfa mrm mrw mP mQ u21.1 mkp msg mwm mrs msd mls mhd mtx mnu mrd mrl mpe (upd mno ((3 * k.toNatClampNeg) + 2) x) u21.2 mim msi mwi mon mdi mco mgo mbr mca]) (pc2 := 46) O 0 6 0 rfl rfl rfl rfl (by omega) (by decide) dX7_reword_45 rfl rfl rfl ?_
      refine zr_iload_n (pc2 := 47) O dX7_reword_46 rfl 0 rfl rfl ?_
      have hE : s_X7_reword mQ mbk mno mbo k x = ((mno ((3 * k.toNatClampNeg) + 2)), u21.1, (upd mno ((3 * k.toNatClampNeg) + 2) x), u21.2) := by subst hu21; exact ((zif_t c5).trans (zif_t c15))
      exact hret _ _ _ _ dX7_reword_47 rfl (by rw [hE]) (by rw [hE])
    · refine zr_iconst (v := (-1)) (pc2 := 19) O dX7_reword_18 (by decide +kernel) rfl ?_
      have hE : s_X7_reword mQ mbk mno mbo k x = ((-1), mbk, mno, mbo) := by exact ((zif_t c5).trans (zif_f c15))
      exact hret _ _ _ _ dX7_reword_19 rfl (by rw [hE]) (by rw [hE])
/-! X7_pass -/
def s_X7_pass (mP : Nat) (mQ : Nat) (mbk : Nat) (mno : zF) (mbo : zF) (k : Int32) (x : Int32) : Int32 × Nat × zF × zF := if (s_X7_in k (nI 0) ((nI mQ) - (nI 1))) = true then if (s_X7_in x (nI 0) ((nI mP) - (nI 1))) = true then if (mno (3 * k.toNatClampNeg)) = x then ((-2), mbk, mno, mbo) else let u34 := s_X7_note mbk mno mbo; ((mno ((3 * k.toNatClampNeg) + 1)), u34.1, (upd mno ((3 * k.toNatClampNeg) + 1) x), u34.2) else ((-1), mbk, mno, mbo) else ((-1), mbk, mno, mbo)
set_option maxHeartbeats 4000000 in
set_option maxRecDepth 100000 in
theorem c_X7_pass (l : Launch) (D : va_G) (cI cC cJ : ClassId) (m : Nat → Nat) (mle : Nat) (mpo : Nat) (mfa : Nat) (mrm : Nat) (mrw : Nat) (mP : Nat) (mQ : Nat) (mbk : Nat) (mkp : Nat) (msg : Nat) (mwm : Nat) (mrs : Int32) (msd : Int32) (mls : Int32) (mhd : Int32) (mtx : zF) (mnu : zF) (mrd : zF) (mrl : zF) (mpe : zF) (mno : zF) (mbo : zF) (mim : zF) (msi : zF) (mwi : zF) (mon : zF) (mdi : zF) (mco : zF) (mgo : zF) (mbr : zF) (mca : zF) (k : Int32) (x : Int32) (hmQ : mQ ≤ 9) (hbk : mbk ≤ 8) : zD l yX7_pass wsX7_pass rm_X7_pass D (zT cI cC cJ) [.ref (m 31), .int k, .int x] [modW cI m mle mpo mfa mrm mrw mP mQ mbk mkp msg mwm mrs msd mls mhd mtx mnu mrd mrl mpe mno mbo mim msi mwi mon mdi mco mgo mbr mca] (some (.int ((s_X7_pass mP mQ mbk mno mbo k x).1))) [modW cI m mle mpo mfa mrm mrw mP mQ ((s_X7_pass mP mQ mbk mno mbo k x).2.1) mkp msg mwm mrs msd mls mhd mtx mnu mrd mrl mpe ((s_X7_pass mP mQ mbk mno mbo k x).2.2.1) ((s_X7_pass mP mQ mbk mno mbo k x).2.2.2) mim msi mwi mon mdi mco mgo mbr mca] := by
  refine zD_int (cc := cX7_pass) (maxL := 4) (ty := .int) (lv := [(0, .ref (m 31)), (1, .int k), (2, .int x)]) (by decide +kernel) rfl (Nat.le_of_ble_eq_true rfl) rfl (fun Z O hret => ?_)
  refine zr_aload_n (pc2 := 1) O dX7_pass_0 rfl 0 rfl rfl ?_
  refine zr_iload_n (pc2 := 2) O dX7_pass_1 rfl 1 rfl rfl ?_
  refine zr_callV (As := [.int k]) (rest := []) (ws2 := [modW cI m mle mpo mfa mrm mrw mP mQ mbk mkp msg mwm mrs msd mls mhd mtx mnu mrd mrl mpe mno mbo mim msi mwi mon mdi mco mgo mbr mca]) (pc2 := 5) (ci := 7) (g0 := 0) (q0 := 0) O (c_X7_isWill l D cI cC cJ m mle mpo mfa mrm mrw mP mQ mbk mkp msg mwm mrs msd mls mhd mtx mnu mrd mrl mpe mno mbo mim msi mwi mon mdi mco mgo mbr mca k) sC_X7_pass_128 rfl rfl rfl rfl rfl dX7_pass_2 [0] rfl rfl rfl rfl (Nat.le_of_ble_eq_true rfl) rfl ?_
  show Z _ _ _ [.int (zb (s_X7_in k (nI 0) ((nI mQ) - (nI 1))))]
  refine zb_if_eq (tgt := 16) (pc2 := 8) O dX7_pass_5 (by decide) rfl (fun c5 => ?_) (fun c5 => ?_)
  · refine zr_iconst (v := (-1)) (pc2 := 17) O dX7_pass_16 (by decide +kernel) rfl ?_
    have hE : s_X7_pass mP mQ mbk mno mbo k x = ((-1), mbk, mno, mbo) := by exact (zif_f c5)
    exact hret _ _ _ _ dX7_pass_17 rfl (by rw [hE]) (by rw [hE])
  · refine zr_aload_n (pc2 := 9) O dX7_pass_8 rfl 0 rfl rfl ?_
    refine zr_iload_n (pc2 := 10) O dX7_pass_9 rfl 2 rfl rfl ?_
    refine zr_callV (As := [.int x]) (rest := []) (ws2 := [modW cI m mle mpo mfa mrm mrw mP mQ mbk mkp msg mwm mrs msd mls mhd mtx mnu mrd mrl mpe mno mbo mim msi mwi mon mdi mco mgo mbr mca]) (pc2 := 13) (ci := 7) (g0 := 0) (q0 := 0) O (c_X7_isOne l D cI cC cJ m mle mpo mfa mrm mrw mP mQ mbk mkp msg mwm mrs msd mls mhd mtx mnu mrd mrl mpe mno mbo mim msi mwi mon mdi mco mgo mbr mca x) sC_X7_pass_122 rfl rfl rfl rfl rfl dX7_pass_10 [0] rfl rfl rfl rfl (Nat.le_of_ble_eq_true rfl) rfl ?_
    show Z _ _ _ [.int (zb (s_X7_in x (nI 0) ((nI mP) - (nI 1))))]
    refine zb_if_ne (tgt := 18) (pc2 := 16) O dX7_pass_13 (by decide) rfl (fun c13 => ?_) (fun c13 => ?_)
    · have hc1 := (will_in c5 hmQ)
      rw [hc1.1]
      refine zr_aload_n (pc2 := 19) O dX7_pass_18 rfl 0 rfl rfl ?_
      refine zr_getf (v := .ref (m 14)) (pc2 := 22) O sF_X7_pass_35 0 0 rfl rfl rfl dX7_pass_19 rfl ?_
      refine zr_iconst (v := (nI 3)) (pc2 := 23) O dX7_pass_22 (by decide +kernel) rfl ?_
      refine zr_iload_n (pc2 := 24) O dX7_pass_23 rfl 1 rfl rfl ?_
      refine zr_imul (v := (nI (3 * k.toNatClampNeg))) (pc2 := 25) O dX7_pass_24 (pk_mul 3 k.toNatClampNeg) rfl ?_
      refine zn_iald (j := (3 * k.toNatClampNeg)) (pc2 := 26) O 0 6 0 rfl rfl rfl rfl (by omega) (by decide) dX7_pass_25 rfl ?_
      refine zr_iload_n (pc2 := 27) O dX7_pass_26 rfl 2 rfl rfl ?_
      refine zr_icmp_ne (tgt := 33) (pc2 := 30) O dX7_pass_27 (by decide) rfl (fun c27 => ?_) (fun c27 => ?_)
      · refine zr_aload_n (pc2 := 34) O dX7_pass_33 rfl 0 rfl rfl ?_
        obtain ⟨u34, hu34⟩ : ∃ z9, z9 = s_X7_note mbk mno mbo := ⟨_, rfl⟩
        refine zr_callV (As := []) (rest := []) (ws2 := [modW cI m mle mpo mfa mrm mrw mP mQ u34.1 mkp msg mwm mrs msd mls mhd mtx mnu mrd mrl mpe mno u34.2 mim msi mwi mon mdi mco mgo mbr mca]) (pc2 := 37) (ci := 7) (g0 := 0) (q0 := 0) (v := none) (W := [modW cI m mle mpo mfa mrm mrw mP mQ mbk mkp msg mwm mrs msd mls mhd mtx mnu mrd mrl mpe mno mbo mim msi mwi mon mdi mco mgo mbr mca]) (W2 := [modW cI m mle mpo mfa mrm mrw mP mQ u34.1 mkp msg mwm mrs msd mls mhd mtx mnu mrd mrl mpe mno u34.2 mim msi mwi mon mdi mco mgo mbr mca]) O (by rw [hu34]; exact (c_X7_note l D cI cC cJ m mle mpo mfa mrm mrw mP mQ mbk mkp msg mwm mrs msd mls mhd mtx mnu mrd mrl mpe mno mbo mim msi mwi mon mdi mco mgo mbr mca (by first | assumption | omega))) sC_X7_pass_135 rfl rfl rfl rfl rfl dX7_pass_34 [0] rfl rfl rfl rfl (Nat.le_of_ble_eq_true rfl) rfl ?_
        show Z _ _ _ []
        refine zr_aload_n (pc2 := 38) O dX7_pass_37 rfl 0 rfl rfl ?_
        refine zr_getf (v := .ref (m 14)) (pc2 := 41) O sF_X7_pass_35 0 0 rfl rfl rfl dX7_pass_38 rfl ?_
        refine zr_iconst (v := (nI 3)) (pc2 := 42) O dX7_pass_41 (by decide +kernel) rfl ?_
        refine zr_iload_n (pc2 := 43) O dX7_pass_42 rfl 1 rfl rfl ?_
        refine zr_imul (v := (nI (3 * k.toNatClampNeg))) (pc2 := 44) O dX7_pass_43 (pk_mul 3 k.toNatClampNeg) rfl ?_
        refine zr_iconst (v := (nI 1)) (pc2 := 45) O dX7_pass_44 (by decide +kernel) rfl ?_
        refine zr_iadd (v := (nI ((3 * k.toNatClampNeg) + 1))) (pc2 := 46) O dX7_pass_45 (nI_add (3 * k.toNatClampNeg) 1) rfl ?_
        refine zn_iald (j := ((3 * k.toNatClampNeg) + 1)) (pc2 := 47) O 0 6 0 rfl rfl rfl rfl (by omega) (by decide) dX7_pass_46 rfl ?_
        refine zr_istore_n (lv2 := [(3, .int (mno ((3 * k.toNatClampNeg) + 1))), (0, .ref (m 31)), (1, .int (nI k.toNatClampNeg)), (2, .int x)]) (pc2 := 48) O dX7_pass_47 rfl (by decide) rfl rfl ?_
        refine zr_aload_n (pc2 := 49) O dX7_pass_48 rfl 1 rfl rfl ?_
        refine zr_getf (v := .ref (m 14)) (pc2 := 52) O sF_X7_pass_35 0 0 rfl rfl rfl dX7_pass_49 rfl ?_
        refine zr_iconst (v := (nI 3)) (pc2 := 53) O dX7_pass_52 (by decide +kernel) rfl ?_
        refine zr_iload_n (pc2 := 54) O dX7_pass_53 rfl 2 rfl rfl ?_
        refine zr_imul (v := (nI (3 * k.toNatClampNeg))) (pc2 := 55) O dX7_pass_54 (pk_mul 3 k.toNatClampNeg) rfl ?_
        refine zr_iconst (v := (nI 1)) (pc2 := 56) O dX7_pass_55 (by decide +kernel) rfl ?_
        refine zr_iadd (v := (nI ((3 * k.toNatClampNeg) + 1))) (pc2 := 57) O dX7_pass_56 (nI_add (3 * k.toNatClampNeg) 1) rfl ?_
        refine zr_iload_n (pc2 := 58) O dX7_pass_57 rfl 3 rfl rfl ?_
        refine zn_iast (j := ((3 * k.toNatClampNeg) + 1)) (G2 := modW cI m mle mpo mfa mrm mrw mP mQ u34.1 mkp msg mwm mrs msd mls mhd mtx mnu mrd mrl mpe (upd mno ((3 * k.toNatClampNeg) + 1) x) u34.2 mim msi mwi mon mdi mco mgo mbr mca) (ws2 := [modW cI m mle mpo mfa mrm mrw mP mQ u34.1 mkp msg mwm mrs msd mls mhd mtx mnu mrd mrl mpe (upd mno ((3 * k.toNatClampNeg) + 1) x) u34.2 mim msi mwi mon mdi mco mgo mbr mca]) (pc2 := 59) O 0 6 0 rfl rfl rfl rfl (by omega) (by decide) dX7_pass_58 rfl rfl rfl ?_
        refine zr_iload_n (pc2 := 60) O dX7_pass_59 rfl 0 rfl rfl ?_
        have hE : s_X7_pass mP mQ mbk mno mbo k x = ((mno ((3 * k.toNatClampNeg) + 1)), u34.1, (upd mno ((3 * k.toNatClampNeg) + 1) x), u34.2) := by subst hu34; exact ((zif_t c5).trans ((zif_t c13).trans (if_neg c27)))
        exact hret _ _ _ _ dX7_pass_60 rfl (by rw [hE]) (by rw [hE])
      · refine zr_bipush (v := (-2)) (pc2 := 32) O dX7_pass_30 (by decide +kernel) rfl ?_
        have hE : s_X7_pass mP mQ mbk mno mbo k x = ((-2), mbk, mno, mbo) := by exact ((zif_t c5).trans ((zif_t c13).trans (if_pos c27)))
        exact hret _ _ _ _ dX7_pass_32 rfl (by rw [hE]) (by rw [hE])
    · refine zr_iconst (v := (-1)) (pc2 := 17) O dX7_pass_16 (by decide +kernel) rfl ?_
      have hE : s_X7_pass mP mQ mbk mno mbo k x = ((-1), mbk, mno, mbo) := by exact ((zif_t c5).trans (zif_f c13))
      exact hret _ _ _ _ dX7_pass_17 rfl (by rw [hE]) (by rw [hE])
/-! X7_help -/
def s_X7_help (mP : Nat) (mbk : Nat) (mno : zF) (mbo : zF) (a1 : Int32) (a2 : Int32) (a3 : Int32) (mH : Nat) : Int32 × Nat × zF × zF := if (s_X7_in a1 (nI 0) ((nI mP) - (nI 1))) = true then if (s_X7_in a2 (nI 0) (nI 150)) = true then if (s_X7_in a3 (nI 1) (nI 99)) = true then if mH = 4 then ((-3), mbk, mno, mbo) else let u46 := s_X7_note mbk mno mbo; (((upd (upd (upd (upd mno (28 + (3 * mH)) a1) ((28 + (3 * mH)) + 1) a2) ((28 + (3 * mH)) + 2) a3) 27 (nI (mH + 1))) 27), u46.1, (upd (upd (upd (upd mno (28 + (3 * mH)) a1) ((28 + (3 * mH)) + 1) a2) ((28 + (3 * mH)) + 2) a3) 27 (nI (mH + 1))), u46.2) else ((-1), mbk, mno, mbo) else ((-1), mbk, mno, mbo) else ((-1), mbk, mno, mbo)
set_option maxHeartbeats 4000000 in
set_option maxRecDepth 100000 in
theorem c_X7_help (l : Launch) (D : va_G) (cI cC cJ : ClassId) (m : Nat → Nat) (mle : Nat) (mpo : Nat) (mfa : Nat) (mrm : Nat) (mrw : Nat) (mP : Nat) (mQ : Nat) (mbk : Nat) (mkp : Nat) (msg : Nat) (mwm : Nat) (mrs : Int32) (msd : Int32) (mls : Int32) (mhd : Int32) (mtx : zF) (mnu : zF) (mrd : zF) (mrl : zF) (mpe : zF) (mno : zF) (mbo : zF) (mim : zF) (msi : zF) (mwi : zF) (mon : zF) (mdi : zF) (mco : zF) (mgo : zF) (mbr : zF) (mca : zF) (a1 : Int32) (a2 : Int32) (a3 : Int32) (mH : Nat) (hbk : mbk ≤ 8) (hmH : mH ≤ 4) (hH : mno 27 = nI mH) : zD l yX7_help wsX7_help rm_X7_help D (zT cI cC cJ) [.ref (m 31), .int a1, .int a2, .int a3] [modW cI m mle mpo mfa mrm mrw mP mQ mbk mkp msg mwm mrs msd mls mhd mtx mnu mrd mrl mpe mno mbo mim msi mwi mon mdi mco mgo mbr mca] (some (.int ((s_X7_help mP mbk mno mbo a1 a2 a3 mH).1))) [modW cI m mle mpo mfa mrm mrw mP mQ ((s_X7_help mP mbk mno mbo a1 a2 a3 mH).2.1) mkp msg mwm mrs msd mls mhd mtx mnu mrd mrl mpe ((s_X7_help mP mbk mno mbo a1 a2 a3 mH).2.2.1) ((s_X7_help mP mbk mno mbo a1 a2 a3 mH).2.2.2) mim msi mwi mon mdi mco mgo mbr mca] := by
  refine zD_int (cc := cX7_help) (maxL := 5) (ty := .int) (lv := [(0, .ref (m 31)), (1, .int a1), (2, .int a2), (3, .int a3)]) (by decide +kernel) rfl (Nat.le_of_ble_eq_true rfl) rfl (fun Z O hret => ?_)
  refine zr_aload_n (pc2 := 1) O dX7_help_0 rfl 0 rfl rfl ?_
  refine zr_iload_n (pc2 := 2) O dX7_help_1 rfl 1 rfl rfl ?_
  refine zr_callV (As := [.int a1]) (rest := []) (ws2 := [modW cI m mle mpo mfa mrm mrw mP mQ mbk mkp msg mwm mrs msd mls mhd mtx mnu mrd mrl mpe mno mbo mim msi mwi mon mdi mco mgo mbr mca]) (pc2 := 5) (ci := 7) (g0 := 0) (q0 := 0) O (c_X7_isOne l D cI cC cJ m mle mpo mfa mrm mrw mP mQ mbk mkp msg mwm mrs msd mls mhd mtx mnu mrd mrl mpe mno mbo mim msi mwi mon mdi mco mgo mbr mca a1) sC_X7_help_122 rfl rfl rfl rfl rfl dX7_help_2 [0] rfl rfl rfl rfl (Nat.le_of_ble_eq_true rfl) rfl ?_
  show Z _ _ _ [.int (zb (s_X7_in a1 (nI 0) ((nI mP) - (nI 1))))]
  refine zb_if_eq (tgt := 29) (pc2 := 8) O dX7_help_5 (by decide) rfl (fun c5 => ?_) (fun c5 => ?_)
  · refine zr_iconst (v := (-1)) (pc2 := 30) O dX7_help_29 (by decide +kernel) rfl ?_
    have hE : s_X7_help mP mbk mno mbo a1 a2 a3 mH = ((-1), mbk, mno, mbo) := by exact (zif_f c5)
    exact hret _ _ _ _ dX7_help_30 rfl (by rw [hE]) (by rw [hE])
  · refine zr_iload_n (pc2 := 9) O dX7_help_8 rfl 2 rfl rfl ?_
    refine zr_iconst (v := (nI 0)) (pc2 := 10) O dX7_help_9 (by decide +kernel) rfl ?_
    refine zr_sipush (v := (nI 150)) (pc2 := 13) O dX7_help_10 (by decide +kernel) rfl ?_
    refine zr_callS (As := [.int a2, .int (nI 0), .int (nI 150)]) (rest := []) (ws2 := [modW cI m mle mpo mfa mrm mrw mP mQ mbk mkp msg mwm mrs msd mls mhd mtx mnu mrd mrl mpe mno mbo mim msi mwi mon mdi mco mgo mbr mca]) (pc2 := 16) O (c_X7_in l D cI cC cJ a2 (nI 0) (nI 150)) sC_X7_help_76 rfl rfl dX7_help_13 [] rfl rfl rfl rfl (Nat.le_of_ble_eq_true rfl) rfl ?_
    show Z _ _ _ [.int (zb (s_X7_in a2 (nI 0) (nI 150)))]
    refine zb_if_eq (tgt := 29) (pc2 := 19) O dX7_help_16 (by decide) rfl (fun c16 => ?_) (fun c16 => ?_)
    · refine zr_iconst (v := (-1)) (pc2 := 30) O dX7_help_29 (by decide +kernel) rfl ?_
      have hE : s_X7_help mP mbk mno mbo a1 a2 a3 mH = ((-1), mbk, mno, mbo) := by exact ((zif_t c5).trans (zif_f c16))
      exact hret _ _ _ _ dX7_help_30 rfl (by rw [hE]) (by rw [hE])
    · refine zr_iload_n (pc2 := 20) O dX7_help_19 rfl 3 rfl rfl ?_
      refine zr_iconst (v := (nI 1)) (pc2 := 21) O dX7_help_20 (by decide +kernel) rfl ?_
      refine zr_bipush (v := (nI 99)) (pc2 := 23) O dX7_help_21 (by decide +kernel) rfl ?_
      refine zr_callS (As := [.int a3, .int (nI 1), .int (nI 99)]) (rest := []) (ws2 := [modW cI m mle mpo mfa mrm mrw mP mQ mbk mkp msg mwm mrs msd mls mhd mtx mnu mrd mrl mpe mno mbo mim msi mwi mon mdi mco mgo mbr mca]) (pc2 := 26) O (c_X7_in l D cI cC cJ a3 (nI 1) (nI 99)) sC_X7_help_76 rfl rfl dX7_help_23 [] rfl rfl rfl rfl (Nat.le_of_ble_eq_true rfl) rfl ?_
      show Z _ _ _ [.int (zb (s_X7_in a3 (nI 1) (nI 99)))]
      refine zb_if_ne (tgt := 31) (pc2 := 29) O dX7_help_26 (by decide) rfl (fun c26 => ?_) (fun c26 => ?_)
      · refine zr_aload_n (pc2 := 32) O dX7_help_31 rfl 0 rfl rfl ?_
        refine zr_getf (v := .ref (m 14)) (pc2 := 35) O sF_X7_help_35 0 0 rfl rfl rfl dX7_help_32 rfl ?_
        refine zr_bipush (v := (nI 27)) (pc2 := 37) O dX7_help_35 (by decide +kernel) rfl ?_
        refine zn_iald (j := 27) (pc2 := 38) O 0 6 0 rfl rfl rfl rfl (by omega) (by decide) dX7_help_37 rfl ?_
        have hc1 := (And.intro hH hmH)
        rw [hc1.1]
        refine zr_iconst (v := (nI 4)) (pc2 := 39) O dX7_help_38 (by decide +kernel) rfl ?_
        refine zn_icmp_ne (tgt := 45) (pc2 := 42) O dX7_help_39 (by decide) rfl (by omega) (by omega) (fun c39 => ?_) (fun c39 => ?_)
        · refine zr_aload_n (pc2 := 46) O dX7_help_45 rfl 0 rfl rfl ?_
          obtain ⟨u46, hu46⟩ : ∃ z9, z9 = s_X7_note mbk mno mbo := ⟨_, rfl⟩
          refine zr_callV (As := []) (rest := []) (ws2 := [modW cI m mle mpo mfa mrm mrw mP mQ u46.1 mkp msg mwm mrs msd mls mhd mtx mnu mrd mrl mpe mno u46.2 mim msi mwi mon mdi mco mgo mbr mca]) (pc2 := 49) (ci := 7) (g0 := 0) (q0 := 0) (v := none) (W := [modW cI m mle mpo mfa mrm mrw mP mQ mbk mkp msg mwm mrs msd mls mhd mtx mnu mrd mrl mpe mno mbo mim msi mwi mon mdi mco mgo mbr mca]) (W2 := [modW cI m mle mpo mfa mrm mrw mP mQ u46.1 mkp msg mwm mrs msd mls mhd mtx mnu mrd mrl mpe mno u46.2 mim msi mwi mon mdi mco mgo mbr mca]) O (by rw [hu46]; exact (c_X7_note l D cI cC cJ m mle mpo mfa mrm mrw mP mQ mbk mkp msg mwm mrs msd mls mhd mtx mnu mrd mrl mpe mno mbo mim msi mwi mon mdi mco mgo mbr mca (by first | assumption | omega))) sC_X7_help_135 rfl rfl rfl rfl rfl dX7_help_46 [0] rfl rfl rfl rfl (Nat.le_of_ble_eq_true rfl) rfl ?_
          show Z _ _ _ []
          refine zr_bipush (v := (nI 28)) (pc2 := 51) O dX7_help_49 (by decide +kernel) rfl ?_
          refine zr_iconst (v := (nI 3)) (pc2 := 52) O dX7_help_51 (by decide +kernel) rfl ?_
          refine zr_aload_n (pc2 := 53) O dX7_help_52 rfl 0 rfl rfl ?_
          refine zr_getf (v := .ref (m 14)) (pc2 := 56) O sF_X7_help_35 0 0 rfl rfl rfl dX7_help_53 rfl ?_
          refine zr_bipush (v := (nI 27)) (pc2 := 58) O dX7_help_56 (by decide +kernel) rfl ?_
          refine zn_iald (j := 27) (pc2 := 59) O 0 6 0 rfl rfl rfl rfl (by omega) (by decide) dX7_help_58 rfl ?_
          have hc2 := (And.intro hH hmH)
          rw [hc2.1]
          refine zr_imul (v := (nI (3 * mH))) (pc2 := 60) O dX7_help_59 (pk_mul 3 mH) rfl ?_
          refine zr_iadd (v := (nI (28 + (3 * mH)))) (pc2 := 61) O dX7_help_60 (nI_add 28 (3 * mH)) rfl ?_
          refine zr_istore (lv2 := [(4, .int (nI (28 + (3 * mH)))), (0, .ref (m 31)), (1, .int a1), (2, .int a2), (3, .int a3)]) (pc2 := 63) O dX7_help_61 (by decide) rfl rfl ?_
          refine zr_aload_n (pc2 := 64) O dX7_help_63 rfl 1 rfl rfl ?_
          refine zr_getf (v := .ref (m 14)) (pc2 := 67) O sF_X7_help_35 0 0 rfl rfl rfl dX7_help_64 rfl ?_
          refine zr_iload (pc2 := 69) O dX7_help_67 0 rfl rfl ?_
          refine zr_iload_n (pc2 := 70) O dX7_help_69 rfl 2 rfl rfl ?_
          refine zn_iast (j := (28 + (3 * mH))) (G2 := modW cI m mle mpo mfa mrm mrw mP mQ u46.1 mkp msg mwm mrs msd mls mhd mtx mnu mrd mrl mpe (upd mno (28 + (3 * mH)) a1) u46.2 mim msi mwi mon mdi mco mgo mbr mca) (ws2 := [modW cI m mle mpo mfa mrm mrw mP mQ u46.1 mkp msg mwm mrs msd mls mhd mtx mnu mrd mrl mpe (upd mno (28 + (3 * mH)) a1) u46.2 mim msi mwi mon mdi mco mgo mbr mca]) (pc2 := 71) O 0 6 0 rfl rfl rfl rfl (by omega) (by decide) dX7_help_70 rfl rfl rfl ?_
          refine zr_aload_n (pc2 := 72) O dX7_help_71 rfl 1 rfl rfl ?_
          refine zr_getf (v := .ref (m 14)) (pc2 := 75) O sF_X7_help_35 0 0 rfl rfl rfl dX7_help_72 rfl ?_
          refine zr_iload (pc2 := 77) O dX7_help_75 0 rfl rfl ?_
          refine zr_iconst (v := (nI 1)) (pc2 := 78) O dX7_help_77 (by decide +kernel) rfl ?_
          refine zr_iadd (v := (nI ((28 + (3 * mH)) + 1))) (pc2 := 79) O dX7_help_78 (nI_add (28 + (3 * mH)) 1) rfl ?_
          refine zr_iload_n (pc2 := 80) O dX7_help_79 rfl 3 rfl rfl ?_
          refine zn_iast (j := ((28 + (3 * mH)) + 1)) (G2 := modW cI m mle mpo mfa mrm mrw mP mQ u46.1 mkp msg mwm mrs msd mls mhd mtx mnu mrd mrl mpe (upd (upd mno (28 + (3 * mH)) a1) ((28 + (3 * mH)) + 1) a2) u46.2 mim msi mwi mon mdi mco mgo mbr mca) (ws2 := [modW cI m mle mpo mfa mrm mrw mP mQ u46.1 mkp msg mwm mrs msd mls mhd mtx mnu mrd mrl mpe (upd (upd mno (28 + (3 * mH)) a1) ((28 + (3 * mH)) + 1) a2) u46.2 mim msi mwi mon mdi mco mgo mbr mca]) (pc2 := 81) O 0 6 0 rfl rfl rfl rfl (by omega) (by decide) dX7_help_80 rfl rfl rfl ?_
          refine zr_aload_n (pc2 := 82) O dX7_help_81 rfl 1 rfl rfl ?_
          refine zr_getf (v := .ref (m 14)) (pc2 := 85) O sF_X7_help_35 0 0 rfl rfl rfl dX7_help_82 rfl ?_
          refine zr_iload (pc2 := 87) O dX7_help_85 0 rfl rfl ?_
          refine zr_iconst (v := (nI 2)) (pc2 := 88) O dX7_help_87 (by decide +kernel) rfl ?_
          refine zr_iadd (v := (nI ((28 + (3 * mH)) + 2))) (pc2 := 89) O dX7_help_88 (nI_add (28 + (3 * mH)) 2) rfl ?_
          refine zr_iload_n (pc2 := 90) O dX7_help_89 rfl 4 rfl rfl ?_
          refine zn_iast (j := ((28 + (3 * mH)) + 2)) (G2 := modW cI m mle mpo mfa mrm mrw mP mQ u46.1 mkp msg mwm mrs msd mls mhd mtx mnu mrd mrl mpe (upd (upd (upd mno (28 + (3 * mH)) a1) ((28 + (3 * mH)) + 1) a2) ((28 + (3 * mH)) + 2) a3) u46.2 mim msi mwi mon mdi mco mgo mbr mca) (ws2 := [modW cI m mle mpo mfa mrm mrw mP mQ u46.1 mkp msg mwm mrs msd mls mhd mtx mnu mrd mrl mpe (upd (upd (upd mno (28 + (3 * mH)) a1) ((28 + (3 * mH)) + 1) a2) ((28 + (3 * mH)) + 2) a3) u46.2 mim msi mwi mon mdi mco mgo mbr mca]) (pc2 := 91) O 0 6 0 rfl rfl rfl rfl (by omega) (by decide) dX7_help_90 rfl rfl rfl ?_
          refine zr_aload_n (pc2 := 92) O dX7_help_91 rfl 1 rfl rfl ?_
          refine zr_getf (v := .ref (m 14)) (pc2 := 95) O sF_X7_help_35 0 0 rfl rfl rfl dX7_help_92 rfl ?_
          refine zr_bipush (v := (nI 27)) (pc2 := 97) O dX7_help_95 (by decide +kernel) rfl ?_
          refine zr_dup2 (pc2 := 98) O dX7_help_97 rfl rfl rfl ?_
          refine zn_iald (j := 27) (pc2 := 99) O 0 6 0 rfl rfl rfl rfl (by omega) (by decide) dX7_help_98 rfl ?_
          rw [show ((upd (upd (upd mno (28 + (3 * mH)) a1) ((28 + (3 * mH)) + 1) a2) ((28 + (3 * mH)) + 2) a3) 27) = nI mH from by rw [pk_un (by omega), pk_un (by omega), pk_un (by omega)]; exact hH]
          refine zr_iconst (v := (nI 1)) (pc2 := 100) O dX7_help_99 (by decide +kernel) rfl ?_
          refine zr_iadd (v := (nI (mH + 1))) (pc2 := 101) O dX7_help_100 (nI_add mH 1) rfl ?_
          refine zn_iast (j := 27) (G2 := modW cI m mle mpo mfa mrm mrw mP mQ u46.1 mkp msg mwm mrs msd mls mhd mtx mnu mrd mrl mpe (upd (upd (upd (upd mno (28 + (3 * mH)) a1) ((28 + (3 * mH)) + 1) a2) ((28 + (3 * mH)) + 2) a3) 27 (nI (mH + 1))) u46.2 mim msi mwi mon mdi mco mgo mbr mca) (ws2 := [modW cI m mle mpo mfa mrm mrw mP mQ u46.1 mkp msg mwm mrs msd mls mhd mtx mnu mrd mrl mpe (upd (upd (upd (upd mno (28 + (3 * mH)) a1) ((28 + (3 * mH)) + 1) a2) ((28 + (3 * mH)) + 2) a3) 27 (nI (mH + 1))) u46.2 mim msi mwi mon mdi mco mgo mbr mca]) (pc2 := 102) O 0 6 0 rfl rfl rfl rfl (by omega) (by decide) dX7_help_101 rfl rfl rfl ?_
          refine zr_aload_n (pc2 := 103) O dX7_help_102 rfl 1 rfl rfl ?_
          refine zr_getf (v := .ref (m 14)) (pc2 := 106) O sF_X7_help_35 0 0 rfl rfl rfl dX7_help_103 rfl ?_
          refine zr_bipush (v := (nI 27)) (pc2 := 108) O dX7_help_106 (by decide +kernel) rfl ?_
          refine zn_iald (j := 27) (pc2 := 109) O 0 6 0 rfl rfl rfl rfl (by omega) (by decide) dX7_help_108 rfl ?_
          have hE : s_X7_help mP mbk mno mbo a1 a2 a3 mH = (((upd (upd (upd (upd mno (28 + (3 * mH)) a1) ((28 + (3 * mH)) + 1) a2) ((28 + (3 * mH)) + 2) a3) 27 (nI (mH + 1))) 27), u46.1, (upd (upd (upd (upd mno (28 + (3 * mH)) a1) ((28 + (3 * mH)) + 1) a2) ((28 + (3 * mH)) + 2) a3) 27 (nI (mH + 1))), u46.2) := by subst hu46; exact ((zif_t c5).trans ((zif_t c16).trans ((zif_t c26).trans (if_neg c39))))
          exact hret _ _ _ _ dX7_help_109 rfl (by rw [hE]) (by rw [hE])
        · refine zr_bipush (v := (-3)) (pc2 := 44) O dX7_help_42 (by decide +kernel) rfl ?_
          have hE : s_X7_help mP mbk mno mbo a1 a2 a3 mH = ((-3), mbk, mno, mbo) := by exact ((zif_t c5).trans ((zif_t c16).trans ((zif_t c26).trans (if_pos c39))))
          exact hret _ _ _ _ dX7_help_44 rfl (by rw [hE]) (by rw [hE])
      · refine zr_iconst (v := (-1)) (pc2 := 30) O dX7_help_29 (by decide +kernel) rfl ?_
        have hE : s_X7_help mP mbk mno mbo a1 a2 a3 mH = ((-1), mbk, mno, mbo) := by exact ((zif_t c5).trans ((zif_t c16).trans (zif_f c26)))
        exact hret _ _ _ _ dX7_help_30 rfl (by rw [hE]) (by rw [hE])
/-! X7_owes -/
def f_X7_owes_16 (mno : zF) (i : Int32) : Nat → Nat → Int32 → Int32
  | 0, _, sum => sum
  | n9 + 1, k, sum => if (mno (3 * k)) = i then if (mno ((3 * k) + 1)) = i then f_X7_owes_16 mno i n9 (k + 1) ((sum + (mno ((3 * k) + 2))) - (mno ((3 * k) + 2))) else f_X7_owes_16 mno i n9 (k + 1) ((sum + (mno ((3 * k) + 2))) - (nI 0)) else if (mno ((3 * k) + 1)) = i then f_X7_owes_16 mno i n9 (k + 1) ((sum + (nI 0)) - (mno ((3 * k) + 2))) else f_X7_owes_16 mno i n9 (k + 1) ((sum + (nI 0)) - (nI 0))
def s_X7_owes (mP : Nat) (mQ : Nat) (mno : zF) (i : Int32) : Int32 := if (s_X7_in i (nI 0) ((nI mP) - (nI 1))) = true then (f_X7_owes_16 mno i mQ 0 (nI 1000)) else (-1)
set_option maxHeartbeats 4000000 in
set_option maxRecDepth 100000 in
theorem c_X7_owes (l : Launch) (D : va_G) (cI cC cJ : ClassId) (m : Nat → Nat) (mle : Nat) (mpo : Nat) (mfa : Nat) (mrm : Nat) (mrw : Nat) (mP : Nat) (mQ : Nat) (mbk : Nat) (mkp : Nat) (msg : Nat) (mwm : Nat) (mrs : Int32) (msd : Int32) (mls : Int32) (mhd : Int32) (mtx : zF) (mnu : zF) (mrd : zF) (mrl : zF) (mpe : zF) (mno : zF) (mbo : zF) (mim : zF) (msi : zF) (mwi : zF) (mon : zF) (mdi : zF) (mco : zF) (mgo : zF) (mbr : zF) (mca : zF) (i : Int32) (hmQ : mQ ≤ 9) : zD l yX7_owes wsX7_owes rm_X7_owes D (zT cI cC cJ) [.ref (m 31), .int i] [modW cI m mle mpo mfa mrm mrw mP mQ mbk mkp msg mwm mrs msd mls mhd mtx mnu mrd mrl mpe mno mbo mim msi mwi mon mdi mco mgo mbr mca] (some (.int (s_X7_owes mP mQ mno i))) [modW cI m mle mpo mfa mrm mrw mP mQ mbk mkp msg mwm mrs msd mls mhd mtx mnu mrd mrl mpe mno mbo mim msi mwi mon mdi mco mgo mbr mca] := by
  refine zD_int (cc := cX7_owes) (maxL := 4) (ty := .int) (lv := [(0, .ref (m 31)), (1, .int i)]) (by decide +kernel) rfl (Nat.le_of_ble_eq_true rfl) rfl (fun Z O hret => ?_)
  refine zr_aload_n (pc2 := 1) O dX7_owes_0 rfl 0 rfl rfl ?_
  refine zr_iload_n (pc2 := 2) O dX7_owes_1 rfl 1 rfl rfl ?_
  refine zr_callV (As := [.int i]) (rest := []) (ws2 := [modW cI m mle mpo mfa mrm mrw mP mQ mbk mkp msg mwm mrs msd mls mhd mtx mnu mrd mrl mpe mno mbo mim msi mwi mon mdi mco mgo mbr mca]) (pc2 := 5) (ci := 7) (g0 := 0) (q0 := 0) O (c_X7_isOne l D cI cC cJ m mle mpo mfa mrm mrw mP mQ mbk mkp msg mwm mrs msd mls mhd mtx mnu mrd mrl mpe mno mbo mim msi mwi mon mdi mco mgo mbr mca i) sC_X7_owes_122 rfl rfl rfl rfl rfl dX7_owes_2 [0] rfl rfl rfl rfl (Nat.le_of_ble_eq_true rfl) rfl ?_
  show Z _ _ _ [.int (zb (s_X7_in i (nI 0) ((nI mP) - (nI 1))))]
  refine zb_if_ne (tgt := 10) (pc2 := 8) O dX7_owes_5 (by decide) rfl (fun c5 => ?_) (fun c5 => ?_)
  · refine zr_sipush (v := (nI 1000)) (pc2 := 13) O dX7_owes_10 (by decide +kernel) rfl ?_
    refine zr_istore_n (lv2 := [(2, .int (nI 1000)), (0, .ref (m 31)), (1, .int i)]) (pc2 := 14) O dX7_owes_13 rfl (by decide) rfl rfl ?_
    refine zr_iconst (v := (nI 0)) (pc2 := 15) O dX7_owes_14 (by decide +kernel) rfl ?_
    refine zr_istore_n (lv2 := [(3, .int (nI 0)), (2, .int (nI 1000)), (0, .ref (m 31)), (1, .int i)]) (pc2 := 16) O dX7_owes_15 rfl (by decide) rfl rfl ?_
    have lp16 : ∀ (n9 : Nat) (k : Nat) (sum : Int32), k + n9 = mQ → f_X7_owes_16 mno i mQ 0 (nI 1000) = f_X7_owes_16 mno i n9 k sum → Z [modW cI m mle mpo mfa mrm mrw mP mQ mbk mkp msg mwm mrs msd mls mhd mtx mnu mrd mrl mpe mno mbo mim msi mwi mon mdi mco mgo mbr mca] [(3, .int (nI k)), (2, .int sum), (0, .ref (m 31)), (1, .int i)] 16 [] := by
      intro n9
      induction n9 with
      | zero =>
        intro k sum hM16 hF16
        have hI16 : mQ = k := by omega
        subst hI16
        have e9 : (f_X7_owes_16 mno i mQ 0 (nI 1000)) = sum := hF16
        subst e9
        refine zr_iload_n (pc2 := 17) O dX7_owes_16 rfl 0 rfl rfl ?_
        refine zr_aload_n (pc2 := 18) O dX7_owes_17 rfl 2 rfl rfl ?_
        refine zr_getf (v := .int (nI mQ)) (pc2 := 21) O sF_X7_owes_29 0 0 rfl rfl rfl dX7_owes_18 rfl ?_
        refine zn_icmp_ge (tgt := 90) (pc2 := 24) O dX7_owes_21 (by decide) rfl (by omega) (by omega) (fun c21 => ?_) (fun c21 => ?_)
        · refine zr_iload_n (pc2 := 91) O dX7_owes_90 rfl 1 rfl rfl ?_
          have hE : s_X7_owes mP mQ mno i = (f_X7_owes_16 mno i mQ 0 (nI 1000)) := by exact (zif_t c5)
          exact hret _ _ _ _ dX7_owes_91 rfl (by rw [hE]) rfl
        · exact absurd c21 (by omega)
      | succ n9 ih16 =>
        intro k sum hM16 hF16
        refine zr_iload_n (pc2 := 17) O dX7_owes_16 rfl 0 rfl rfl ?_
        refine zr_aload_n (pc2 := 18) O dX7_owes_17 rfl 2 rfl rfl ?_
        refine zr_getf (v := .int (nI mQ)) (pc2 := 21) O sF_X7_owes_29 0 0 rfl rfl rfl dX7_owes_18 rfl ?_
        refine zn_icmp_ge (tgt := 90) (pc2 := 24) O dX7_owes_21 (by decide) rfl (by omega) (by omega) (fun c21 => ?_) (fun c21 => ?_)
        · exact absurd c21 (by omega)
        · refine zr_iload_n (pc2 := 25) O dX7_owes_24 rfl 1 rfl rfl ?_
          refine zr_aload_n (pc2 := 26) O dX7_owes_25 rfl 2 rfl rfl ?_
          refine zr_getf (v := .ref (m 14)) (pc2 := 29) O sF_X7_owes_35 0 0 rfl rfl rfl dX7_owes_26 rfl ?_
          refine zr_iconst (v := (nI 3)) (pc2 := 30) O dX7_owes_29 (by decide +kernel) rfl ?_
          refine zr_iload_n (pc2 := 31) O dX7_owes_30 rfl 0 rfl rfl ?_
          refine zr_imul (v := (nI (3 * k))) (pc2 := 32) O dX7_owes_31 (pk_mul 3 k) rfl ?_
          refine zn_iald (j := (3 * k)) (pc2 := 33) O 0 6 0 rfl rfl rfl rfl (by omega) (by decide) dX7_owes_32 rfl ?_
          refine zr_iload_n (pc2 := 34) O dX7_owes_33 rfl 3 rfl rfl ?_
          refine zr_icmp_ne (tgt := 50) (pc2 := 37) O dX7_owes_34 (by decide) rfl (fun c34 => ?_) (fun c34 => ?_)
          · refine zr_iconst (v := (nI 0)) (pc2 := 51) O dX7_owes_50 (by decide +kernel) rfl ?_
            refine zr_iadd (v := (sum + (nI 0))) (pc2 := 52) O dX7_owes_51 rfl rfl ?_
            refine zr_istore_n (lv2 := [(2, .int (sum + (nI 0))), (3, .int (nI k)), (0, .ref (m 31)), (1, .int i)]) (pc2 := 53) O dX7_owes_52 rfl (by decide) rfl rfl ?_
            refine zr_iload_n (pc2 := 54) O dX7_owes_53 rfl 0 rfl rfl ?_
            refine zr_aload_n (pc2 := 55) O dX7_owes_54 rfl 2 rfl rfl ?_
            refine zr_getf (v := .ref (m 14)) (pc2 := 58) O sF_X7_owes_35 0 0 rfl rfl rfl dX7_owes_55 rfl ?_
            refine zr_iconst (v := (nI 3)) (pc2 := 59) O dX7_owes_58 (by decide +kernel) rfl ?_
            refine zr_iload_n (pc2 := 60) O dX7_owes_59 rfl 1 rfl rfl ?_
            refine zr_imul (v := (nI (3 * k))) (pc2 := 61) O dX7_owes_60 (pk_mul 3 k) rfl ?_
            refine zr_iconst (v := (nI 1)) (pc2 := 62) O dX7_owes_61 (by decide +kernel) rfl ?_
            refine zr_iadd (v := (nI ((3 * k) + 1))) (pc2 := 63) O dX7_owes_62 (nI_add (3 * k) 1) rfl ?_
            refine zn_iald (j := ((3 * k) + 1)) (pc2 := 64) O 0 6 0 rfl rfl rfl rfl (by omega) (by decide) dX7_owes_63 rfl ?_
            refine zr_iload_n (pc2 := 65) O dX7_owes_64 rfl 3 rfl rfl ?_
            refine zr_icmp_ne (tgt := 81) (pc2 := 68) O dX7_owes_65 (by decide) rfl (fun c65 => ?_) (fun c65 => ?_)
            · refine zr_iconst (v := (nI 0)) (pc2 := 82) O dX7_owes_81 (by decide +kernel) rfl ?_
              refine zr_isub (v := ((sum + (nI 0)) - (nI 0))) (pc2 := 83) O dX7_owes_82 rfl rfl ?_
              refine zr_istore_n (lv2 := [(2, .int ((sum + (nI 0)) - (nI 0))), (3, .int (nI k)), (0, .ref (m 31)), (1, .int i)]) (pc2 := 84) O dX7_owes_83 rfl (by decide) rfl rfl ?_
              refine zr_iinc (v := (nI (k + 1))) (lv2 := [(3, .int (nI (k + 1))), (2, .int ((sum + (nI 0)) - (nI 0))), (0, .ref (m 31)), (1, .int i)]) (pc2 := 87) O dX7_owes_84 1 rfl (zm_ofInt1 k) (by decide) rfl rfl ?_
              refine zr_goto (tgt := 16) O dX7_owes_87 (by decide) ?_
              have hE : f_X7_owes_16 mno i (n9 + 1) k sum = f_X7_owes_16 mno i n9 (k + 1) ((sum + (nI 0)) - (nI 0)) := by exact ((if_neg c34).trans (if_neg c65))
              exact ih16 (k + 1) ((sum + (nI 0)) - (nI 0)) (by omega) (hF16.trans hE)
            · refine zr_aload_n (pc2 := 69) O dX7_owes_68 rfl 2 rfl rfl ?_
              refine zr_getf (v := .ref (m 14)) (pc2 := 72) O sF_X7_owes_35 0 0 rfl rfl rfl dX7_owes_69 rfl ?_
              refine zr_iconst (v := (nI 3)) (pc2 := 73) O dX7_owes_72 (by decide +kernel) rfl ?_
              refine zr_iload_n (pc2 := 74) O dX7_owes_73 rfl 1 rfl rfl ?_
              refine zr_imul (v := (nI (3 * k))) (pc2 := 75) O dX7_owes_74 (pk_mul 3 k) rfl ?_
              refine zr_iconst (v := (nI 2)) (pc2 := 76) O dX7_owes_75 (by decide +kernel) rfl ?_
              refine zr_iadd (v := (nI ((3 * k) + 2))) (pc2 := 77) O dX7_owes_76 (nI_add (3 * k) 2) rfl ?_
              refine zn_iald (j := ((3 * k) + 2)) (pc2 := 78) O 0 6 0 rfl rfl rfl rfl (by omega) (by decide) dX7_owes_77 rfl ?_
              refine zr_goto (tgt := 82) O dX7_owes_78 (by decide) ?_
              refine zr_isub (v := ((sum + (nI 0)) - (mno ((3 * k) + 2)))) (pc2 := 83) O dX7_owes_82 rfl rfl ?_
              refine zr_istore_n (lv2 := [(2, .int ((sum + (nI 0)) - (mno ((3 * k) + 2)))), (3, .int (nI k)), (0, .ref (m 31)), (1, .int i)]) (pc2 := 84) O dX7_owes_83 rfl (by decide) rfl rfl ?_
              refine zr_iinc (v := (nI (k + 1))) (lv2 := [(3, .int (nI (k + 1))), (2, .int ((sum + (nI 0)) - (mno ((3 * k) + 2)))), (0, .ref (m 31)), (1, .int i)]) (pc2 := 87) O dX7_owes_84 1 rfl (zm_ofInt1 k) (by decide) rfl rfl ?_
              refine zr_goto (tgt := 16) O dX7_owes_87 (by decide) ?_
              have hE : f_X7_owes_16 mno i (n9 + 1) k sum = f_X7_owes_16 mno i n9 (k + 1) ((sum + (nI 0)) - (mno ((3 * k) + 2))) := by exact ((if_neg c34).trans (if_pos c65))
              exact ih16 (k + 1) ((sum + (nI 0)) - (mno ((3 * k) + 2))) (by omega) (hF16.trans hE)
          · refine zr_aload_n (pc2 := 38) O dX7_owes_37 rfl 2 rfl rfl ?_
            refine zr_getf (v := .ref (m 14)) (pc2 := 41) O sF_X7_owes_35 0 0 rfl rfl rfl dX7_owes_38 rfl ?_
            refine zr_iconst (v := (nI 3)) (pc2 := 42) O dX7_owes_41 (by decide +kernel) rfl ?_
            refine zr_iload_n (pc2 := 43) O dX7_owes_42 rfl 0 rfl rfl ?_
            refine zr_imul (v := (nI (3 * k))) (pc2 := 44) O dX7_owes_43 (pk_mul 3 k) rfl ?_
            refine zr_iconst (v := (nI 2)) (pc2 := 45) O dX7_owes_44 (by decide +kernel) rfl ?_
            refine zr_iadd (v := (nI ((3 * k) + 2))) (pc2 := 46) O dX7_owes_45 (nI_add (3 * k) 2) rfl ?_
            refine zn_iald (j := ((3 * k) + 2)) (pc2 := 47) O 0 6 0 rfl rfl rfl rfl (by omega) (by decide) dX7_owes_46 rfl ?_
            refine zr_goto (tgt := 51) O dX7_owes_47 (by decide) ?_
            refine zr_iadd (v := (sum + (mno ((3 * k) + 2)))) (pc2 := 52) O dX7_owes_51 rfl rfl ?_
            refine zr_istore_n (lv2 := [(2, .int (sum + (mno ((3 * k) + 2)))), (3, .int (nI k)), (0, .ref (m 31)), (1, .int i)]) (pc2 := 53) O dX7_owes_52 rfl (by decide) rfl rfl ?_
            refine zr_iload_n (pc2 := 54) O dX7_owes_53 rfl 0 rfl rfl ?_
            refine zr_aload_n (pc2 := 55) O dX7_owes_54 rfl 2 rfl rfl ?_
            refine zr_getf (v := .ref (m 14)) (pc2 := 58) O sF_X7_owes_35 0 0 rfl rfl rfl dX7_owes_55 rfl ?_
            refine zr_iconst (v := (nI 3)) (pc2 := 59) O dX7_owes_58 (by decide +kernel) rfl ?_
            refine zr_iload_n (pc2 := 60) O dX7_owes_59 rfl 1 rfl rfl ?_
            refine zr_imul (v := (nI (3 * k))) (pc2 := 61) O dX7_owes_60 (pk_mul 3 k) rfl ?_
            refine zr_iconst (v := (nI 1)) (pc2 := 62) O dX7_owes_61 (by decide +kernel) rfl ?_
            refine zr_iadd (v := (nI ((3 * k) + 1))) (pc2 := 63) O dX7_owes_62 (nI_add (3 * k) 1) rfl ?_
            refine zn_iald (j := ((3 * k) + 1)) (pc2 := 64) O 0 6 0 rfl rfl rfl rfl (by omega) (by decide) dX7_owes_63 rfl ?_
            refine zr_iload_n (pc2 := 65) O dX7_owes_64 rfl 3 rfl rfl ?_
            refine zr_icmp_ne (tgt := 81) (pc2 := 68) O dX7_owes_65 (by decide) rfl (fun c65 => ?_) (fun c65 => ?_)
            · refine zr_iconst (v := (nI 0)) (pc2 := 82) O dX7_owes_81 (by decide +kernel) rfl ?_
              refine zr_isub (v := ((sum + (mno ((3 * k) + 2))) - (nI 0))) (pc2 := 83) O dX7_owes_82 rfl rfl ?_
              refine zr_istore_n (lv2 := [(2, .int ((sum + (mno ((3 * k) + 2))) - (nI 0))), (3, .int (nI k)), (0, .ref (m 31)), (1, .int i)]) (pc2 := 84) O dX7_owes_83 rfl (by decide) rfl rfl ?_
              refine zr_iinc (v := (nI (k + 1))) (lv2 := [(3, .int (nI (k + 1))), (2, .int ((sum + (mno ((3 * k) + 2))) - (nI 0))), (0, .ref (m 31)), (1, .int i)]) (pc2 := 87) O dX7_owes_84 1 rfl (zm_ofInt1 k) (by decide) rfl rfl ?_
              refine zr_goto (tgt := 16) O dX7_owes_87 (by decide) ?_
              have hE : f_X7_owes_16 mno i (n9 + 1) k sum = f_X7_owes_16 mno i n9 (k + 1) ((sum + (mno ((3 * k) + 2))) - (nI 0)) := by exact ((if_pos c34).trans (if_neg c65))
              exact ih16 (k + 1) ((sum + (mno ((3 * k) + 2))) - (nI 0)) (by omega) (hF16.trans hE)
            · refine zr_aload_n (pc2 := 69) O dX7_owes_68 rfl 2 rfl rfl ?_
              refine zr_getf (v := .ref (m 14)) (pc2 := 72) O sF_X7_owes_35 0 0 rfl rfl rfl dX7_owes_69 rfl ?_
              refine zr_iconst (v := (nI 3)) (pc2 := 73) O dX7_owes_72 (by decide +kernel) rfl ?_
              refine zr_iload_n (pc2 := 74) O dX7_owes_73 rfl 1 rfl rfl ?_
              refine zr_imul (v := (nI (3 * k))) (pc2 := 75) O dX7_owes_74 (pk_mul 3 k) rfl ?_
              refine zr_iconst (v := (nI 2)) (pc2 := 76) O dX7_owes_75 (by decide +kernel) rfl ?_
              refine zr_iadd (v := (nI ((3 * k) + 2))) (pc2 := 77) O dX7_owes_76 (nI_add (3 * k) 2) rfl ?_
              refine zn_iald (j := ((3 * k) + 2)) (pc2 := 78) O 0 6 0 rfl rfl rfl rfl (by omega) (by decide) dX7_owes_77 rfl ?_
              refine zr_goto (tgt := 82) O dX7_owes_78 (by decide) ?_
              refine zr_isub (v := ((sum + (mno ((3 * k) + 2))) - (mno ((3 * k) + 2)))) (pc2 := 83) O dX7_owes_82 rfl rfl ?_
              refine zr_istore_n (lv2 := [(2, .int ((sum + (mno ((3 * k) + 2))) - (mno ((3 * k) + 2)))), (3, .int (nI k)), (0, .ref (m 31)), (1, .int i)]) (pc2 := 84) O dX7_owes_83 rfl (by decide) rfl rfl ?_
              refine zr_iinc (v := (nI (k + 1))) (lv2 := [(3, .int (nI (k + 1))), (2, .int ((sum + (mno ((3 * k) + 2))) - (mno ((3 * k) + 2)))), (0, .ref (m 31)), (1, .int i)]) (pc2 := 87) O dX7_owes_84 1 rfl (zm_ofInt1 k) (by decide) rfl rfl ?_
              refine zr_goto (tgt := 16) O dX7_owes_87 (by decide) ?_
              have hE : f_X7_owes_16 mno i (n9 + 1) k sum = f_X7_owes_16 mno i n9 (k + 1) ((sum + (mno ((3 * k) + 2))) - (mno ((3 * k) + 2))) := by exact ((if_pos c34).trans (if_pos c65))
              exact ih16 (k + 1) ((sum + (mno ((3 * k) + 2))) - (mno ((3 * k) + 2))) (by omega) (hF16.trans hE)
    exact lp16 mQ 0 (nI 1000) (by omega) rfl
  · refine zr_iconst (v := (-1)) (pc2 := 9) O dX7_owes_8 (by decide +kernel) rfl ?_
    have hE : s_X7_owes mP mQ mno i = (-1) := by exact (zif_f c5)
    exact hret _ _ _ _ dX7_owes_9 rfl (by rw [hE]) rfl
/-! X7_ring -/
def f_X7_ring_30 (mno : zF) (rch : Int32) : Nat → Nat → Int32 → Int32
  | 0, _, nxt => nxt
  | n9 + 1, k, nxt => if ((rch >>> ((mno (3 * k)) &&& 31)) &&& (nI 1)) = (nI 1) then f_X7_ring_30 mno rch n9 (k + 1) (nxt ||| ((nI 1) <<< ((mno ((3 * k) + 1)) &&& 31))) else f_X7_ring_30 mno rch n9 (k + 1) (nxt ||| (nI 0))
def f_X7_ring_16 (mQ : Nat) (mno : zF) (i : Int32) : Nat → Nat → Int32 → Int32
  | 0, _, _ => (-4)
  | n9 + 1, nn, rch => if (((f_X7_ring_30 mno rch mQ 0 (nI 0)) >>> (i &&& 31)) &&& (nI 1)) = (nI 1) then (nI nn) else f_X7_ring_16 mQ mno i n9 (nn + 1) (f_X7_ring_30 mno rch mQ 0 (nI 0))
def s_X7_ring (mP : Nat) (mQ : Nat) (mno : zF) (i : Int32) : Int32 := if (s_X7_in i (nI 0) ((nI mP) - (nI 1))) = true then f_X7_ring_16 mQ mno i mP 1 ((nI 1) <<< (i &&& 31)) else (-1)
set_option maxHeartbeats 4000000 in
set_option maxRecDepth 100000 in
theorem c_X7_ring (l : Launch) (D : va_G) (cI cC cJ : ClassId) (m : Nat → Nat) (mle : Nat) (mpo : Nat) (mfa : Nat) (mrm : Nat) (mrw : Nat) (mP : Nat) (mQ : Nat) (mbk : Nat) (mkp : Nat) (msg : Nat) (mwm : Nat) (mrs : Int32) (msd : Int32) (mls : Int32) (mhd : Int32) (mtx : zF) (mnu : zF) (mrd : zF) (mrl : zF) (mpe : zF) (mno : zF) (mbo : zF) (mim : zF) (msi : zF) (mwi : zF) (mon : zF) (mdi : zF) (mco : zF) (mgo : zF) (mbr : zF) (mca : zF) (i : Int32) (hmP : mP ≤ 6) (hmQ : mQ ≤ 9) : zD l yX7_ring wsX7_ring rm_X7_ring D (zT cI cC cJ) [.ref (m 31), .int i] [modW cI m mle mpo mfa mrm mrw mP mQ mbk mkp msg mwm mrs msd mls mhd mtx mnu mrd mrl mpe mno mbo mim msi mwi mon mdi mco mgo mbr mca] (some (.int (s_X7_ring mP mQ mno i))) [modW cI m mle mpo mfa mrm mrw mP mQ mbk mkp msg mwm mrs msd mls mhd mtx mnu mrd mrl mpe mno mbo mim msi mwi mon mdi mco mgo mbr mca] := by
  refine zD_int (cc := cX7_ring) (maxL := 6) (ty := .int) (lv := [(0, .ref (m 31)), (1, .int i)]) (by decide +kernel) rfl (Nat.le_of_ble_eq_true rfl) rfl (fun Z O hret => ?_)
  refine zr_aload_n (pc2 := 1) O dX7_ring_0 rfl 0 rfl rfl ?_
  refine zr_iload_n (pc2 := 2) O dX7_ring_1 rfl 1 rfl rfl ?_
  refine zr_callV (As := [.int i]) (rest := []) (ws2 := [modW cI m mle mpo mfa mrm mrw mP mQ mbk mkp msg mwm mrs msd mls mhd mtx mnu mrd mrl mpe mno mbo mim msi mwi mon mdi mco mgo mbr mca]) (pc2 := 5) (ci := 7) (g0 := 0) (q0 := 0) O (c_X7_isOne l D cI cC cJ m mle mpo mfa mrm mrw mP mQ mbk mkp msg mwm mrs msd mls mhd mtx mnu mrd mrl mpe mno mbo mim msi mwi mon mdi mco mgo mbr mca i) sC_X7_ring_122 rfl rfl rfl rfl rfl dX7_ring_2 [0] rfl rfl rfl rfl (Nat.le_of_ble_eq_true rfl) rfl ?_
  show Z _ _ _ [.int (zb (s_X7_in i (nI 0) ((nI mP) - (nI 1))))]
  refine zb_if_ne (tgt := 10) (pc2 := 8) O dX7_ring_5 (by decide) rfl (fun c5 => ?_) (fun c5 => ?_)
  · refine zr_iconst (v := (nI 1)) (pc2 := 11) O dX7_ring_10 (by decide +kernel) rfl ?_
    refine zr_iload_n (pc2 := 12) O dX7_ring_11 rfl 1 rfl rfl ?_
    refine zr_ishl (v := ((nI 1) <<< (i &&& 31))) (pc2 := 13) O dX7_ring_12 rfl rfl ?_
    refine zr_istore_n (lv2 := [(2, .int ((nI 1) <<< (i &&& 31))), (0, .ref (m 31)), (1, .int i)]) (pc2 := 14) O dX7_ring_13 rfl (by decide) rfl rfl ?_
    refine zr_iconst (v := (nI 1)) (pc2 := 15) O dX7_ring_14 (by decide +kernel) rfl ?_
    refine zr_istore_n (lv2 := [(3, .int (nI 1)), (2, .int ((nI 1) <<< (i &&& 31))), (0, .ref (m 31)), (1, .int i)]) (pc2 := 16) O dX7_ring_15 rfl (by decide) rfl rfl ?_
    have hS16 : s_X7_ring mP mQ mno i = f_X7_ring_16 mQ mno i mP 1 ((nI 1) <<< (i &&& 31)) := by exact (zif_t c5)
    have lp16 : ∀ (n9 : Nat) (nn : Nat) (rch : Int32), nn + n9 = (mP + 1) → f_X7_ring_16 mQ mno i mP 1 ((nI 1) <<< (i &&& 31)) = f_X7_ring_16 mQ mno i n9 nn rch → Z [modW cI m mle mpo mfa mrm mrw mP mQ mbk mkp msg mwm mrs msd mls mhd mtx mnu mrd mrl mpe mno mbo mim msi mwi mon mdi mco mgo mbr mca] [(3, .int (nI nn)), (2, .int rch), (0, .ref (m 31)), (1, .int i)] 16 [] := by
      intro n9
      induction n9 with
      | zero =>
        intro nn rch hM16 hF16
        refine zr_iload_n (pc2 := 17) O dX7_ring_16 rfl 0 rfl rfl ?_
        refine zr_aload_n (pc2 := 18) O dX7_ring_17 rfl 2 rfl rfl ?_
        refine zr_getf (v := .int (nI mP)) (pc2 := 21) O sF_X7_ring_22 0 0 rfl rfl rfl dX7_ring_18 rfl ?_
        refine zn_icmp_gt (tgt := 105) (pc2 := 24) O dX7_ring_21 (by decide) rfl (by omega) (by omega) (fun c21 => ?_) (fun c21 => ?_)
        · refine zr_bipush (v := (-4)) (pc2 := 107) O dX7_ring_105 (by decide +kernel) rfl ?_
          have hE : f_X7_ring_16 mQ mno i 0 nn rch = (-4) := by exact rfl
          have hE := hS16.trans (hF16.trans hE)
          exact hret _ _ _ _ dX7_ring_107 rfl (by rw [hE]) rfl
        · exact absurd c21 (by omega)
      | succ n9 ih16 =>
        intro nn rch hM16 hF16
        refine zr_iload_n (pc2 := 17) O dX7_ring_16 rfl 0 rfl rfl ?_
        refine zr_aload_n (pc2 := 18) O dX7_ring_17 rfl 2 rfl rfl ?_
        refine zr_getf (v := .int (nI mP)) (pc2 := 21) O sF_X7_ring_22 0 0 rfl rfl rfl dX7_ring_18 rfl ?_
        refine zn_icmp_gt (tgt := 105) (pc2 := 24) O dX7_ring_21 (by decide) rfl (by omega) (by omega) (fun c21 => ?_) (fun c21 => ?_)
        · exact absurd c21 (by omega)
        · refine zr_iconst (v := (nI 0)) (pc2 := 25) O dX7_ring_24 (by decide +kernel) rfl ?_
          refine zr_istore (lv2 := [(4, .int (nI 0)), (3, .int (nI nn)), (2, .int rch), (0, .ref (m 31)), (1, .int i)]) (pc2 := 27) O dX7_ring_25 (by decide) rfl rfl ?_
          refine zr_iconst (v := (nI 0)) (pc2 := 28) O dX7_ring_27 (by decide +kernel) rfl ?_
          refine zr_istore (lv2 := [(5, .int (nI 0)), (4, .int (nI 0)), (3, .int (nI nn)), (2, .int rch), (0, .ref (m 31)), (1, .int i)]) (pc2 := 30) O dX7_ring_28 (by decide) rfl rfl ?_
          have lp30 : ∀ (n9 : Nat) (k : Nat) (nxt : Int32), k + n9 = mQ → f_X7_ring_30 mno rch mQ 0 (nI 0) = f_X7_ring_30 mno rch n9 k nxt → Z [modW cI m mle mpo mfa mrm mrw mP mQ mbk mkp msg mwm mrs msd mls mhd mtx mnu mrd mrl mpe mno mbo mim msi mwi mon mdi mco mgo mbr mca] [(5, .int (nI k)), (4, .int nxt), (3, .int (nI nn)), (2, .int rch), (0, .ref (m 31)), (1, .int i)] 30 [] := by
            intro n9
            induction n9 with
            | zero =>
              intro k nxt hM30 hF30
              have hI30 : mQ = k := by omega
              subst hI30
              have e9 : (f_X7_ring_30 mno rch mQ 0 (nI 0)) = nxt := hF30
              subst e9
              refine zr_iload (pc2 := 32) O dX7_ring_30 0 rfl rfl ?_
              refine zr_aload_n (pc2 := 33) O dX7_ring_32 rfl 4 rfl rfl ?_
              refine zr_getf (v := .int (nI mQ)) (pc2 := 36) O sF_X7_ring_29 0 0 rfl rfl rfl dX7_ring_33 rfl ?_
              refine zn_icmp_ge (tgt := 84) (pc2 := 39) O dX7_ring_36 (by decide) rfl (by omega) (by omega) (fun c36 => ?_) (fun c36 => ?_)
              · refine zr_iload (pc2 := 86) O dX7_ring_84 1 rfl rfl ?_
                refine zr_iload_n (pc2 := 87) O dX7_ring_86 rfl 5 rfl rfl ?_
                refine zr_ishr (v := ((f_X7_ring_30 mno rch mQ 0 (nI 0)) >>> (i &&& 31))) (pc2 := 88) O dX7_ring_87 rfl rfl ?_
                refine zr_iconst (v := (nI 1)) (pc2 := 89) O dX7_ring_88 (by decide +kernel) rfl ?_
                refine zr_iand (v := (((f_X7_ring_30 mno rch mQ 0 (nI 0)) >>> (i &&& 31)) &&& (nI 1))) (pc2 := 90) O dX7_ring_89 rfl rfl ?_
                refine zr_iconst (v := (nI 1)) (pc2 := 91) O dX7_ring_90 (by decide +kernel) rfl ?_
                refine zr_icmp_ne (tgt := 96) (pc2 := 94) O dX7_ring_91 (by decide) rfl (fun c91 => ?_) (fun c91 => ?_)
                · refine zr_iload (pc2 := 98) O dX7_ring_96 1 rfl rfl ?_
                  refine zr_istore_n (lv2 := [(2, .int (f_X7_ring_30 mno rch mQ 0 (nI 0))), (5, .int (nI mQ)), (4, .int (f_X7_ring_30 mno rch mQ 0 (nI 0))), (3, .int (nI nn)), (0, .ref (m 31)), (1, .int i)]) (pc2 := 99) O dX7_ring_98 rfl (by decide) rfl rfl ?_
                  refine zr_iinc (v := (nI (nn + 1))) (lv2 := [(3, .int (nI (nn + 1))), (2, .int (f_X7_ring_30 mno rch mQ 0 (nI 0))), (5, .int (nI mQ)), (4, .int (f_X7_ring_30 mno rch mQ 0 (nI 0))), (0, .ref (m 31)), (1, .int i)]) (pc2 := 102) O dX7_ring_99 3 rfl (zm_ofInt1 nn) (by decide) rfl rfl ?_
                  refine zr_goto (tgt := 16) O dX7_ring_102 (by decide) ?_
                  refine zr_sub (lv2 := [(3, .int (nI (nn + 1))), (2, .int (f_X7_ring_30 mno rch mQ 0 (nI 0))), (0, .ref (m 31)), (1, .int i)]) O [0, 1, 4, 5] rfl ?_
                  have hE : f_X7_ring_16 mQ mno i (n9 + 1) nn rch = f_X7_ring_16 mQ mno i n9 (nn + 1) (f_X7_ring_30 mno rch mQ 0 (nI 0)) := by exact (if_neg c91)
                  exact ih16 (nn + 1) (f_X7_ring_30 mno rch mQ 0 (nI 0)) (by omega) (hF16.trans hE)
                · refine zr_iload_n (pc2 := 95) O dX7_ring_94 rfl 2 rfl rfl ?_
                  have hE : f_X7_ring_16 mQ mno i (n9 + 1) nn rch = (nI nn) := by exact (if_pos c91)
                  have hE := hS16.trans (hF16.trans hE)
                  exact hret _ _ _ _ dX7_ring_95 rfl (by rw [hE]) rfl
              · exact absurd c36 (by omega)
            | succ n9 ih30 =>
              intro k nxt hM30 hF30
              refine zr_iload (pc2 := 32) O dX7_ring_30 0 rfl rfl ?_
              refine zr_aload_n (pc2 := 33) O dX7_ring_32 rfl 4 rfl rfl ?_
              refine zr_getf (v := .int (nI mQ)) (pc2 := 36) O sF_X7_ring_29 0 0 rfl rfl rfl dX7_ring_33 rfl ?_
              refine zn_icmp_ge (tgt := 84) (pc2 := 39) O dX7_ring_36 (by decide) rfl (by omega) (by omega) (fun c36 => ?_) (fun c36 => ?_)
              · exact absurd c36 (by omega)
              · refine zr_iload (pc2 := 41) O dX7_ring_39 1 rfl rfl ?_
                refine zr_iload_n (pc2 := 42) O dX7_ring_41 rfl 3 rfl rfl ?_
                refine zr_aload_n (pc2 := 43) O dX7_ring_42 rfl 4 rfl rfl ?_
                refine zr_getf (v := .ref (m 14)) (pc2 := 46) O sF_X7_ring_35 0 0 rfl rfl rfl dX7_ring_43 rfl ?_
                refine zr_iconst (v := (nI 3)) (pc2 := 47) O dX7_ring_46 (by decide +kernel) rfl ?_
                refine zr_iload (pc2 := 49) O dX7_ring_47 0 rfl rfl ?_
                refine zr_imul (v := (nI (3 * k))) (pc2 := 50) O dX7_ring_49 (pk_mul 3 k) rfl ?_
                refine zn_iald (j := (3 * k)) (pc2 := 51) O 0 6 0 rfl rfl rfl rfl (by omega) (by decide) dX7_ring_50 rfl ?_
                refine zr_ishr (v := (rch >>> ((mno (3 * k)) &&& 31))) (pc2 := 52) O dX7_ring_51 rfl rfl ?_
                refine zr_iconst (v := (nI 1)) (pc2 := 53) O dX7_ring_52 (by decide +kernel) rfl ?_
                refine zr_iand (v := ((rch >>> ((mno (3 * k)) &&& 31)) &&& (nI 1))) (pc2 := 54) O dX7_ring_53 rfl rfl ?_
                refine zr_iconst (v := (nI 1)) (pc2 := 55) O dX7_ring_54 (by decide +kernel) rfl ?_
                refine zr_icmp_ne (tgt := 74) (pc2 := 58) O dX7_ring_55 (by decide) rfl (fun c55 => ?_) (fun c55 => ?_)
                · refine zr_iconst (v := (nI 0)) (pc2 := 75) O dX7_ring_74 (by decide +kernel) rfl ?_
                  refine zr_ior (v := (nxt ||| (nI 0))) (pc2 := 76) O dX7_ring_75 rfl rfl ?_
                  refine zr_istore (lv2 := [(4, .int (nxt ||| (nI 0))), (5, .int (nI k)), (3, .int (nI nn)), (2, .int rch), (0, .ref (m 31)), (1, .int i)]) (pc2 := 78) O dX7_ring_76 (by decide) rfl rfl ?_
                  refine zr_iinc (v := (nI (k + 1))) (lv2 := [(5, .int (nI (k + 1))), (4, .int (nxt ||| (nI 0))), (3, .int (nI nn)), (2, .int rch), (0, .ref (m 31)), (1, .int i)]) (pc2 := 81) O dX7_ring_78 1 rfl (zm_ofInt1 k) (by decide) rfl rfl ?_
                  refine zr_goto (tgt := 30) O dX7_ring_81 (by decide) ?_
                  have hE : f_X7_ring_30 mno rch (n9 + 1) k nxt = f_X7_ring_30 mno rch n9 (k + 1) (nxt ||| (nI 0)) := by exact (if_neg c55)
                  exact ih30 (k + 1) (nxt ||| (nI 0)) (by omega) (hF30.trans hE)
                · refine zr_iconst (v := (nI 1)) (pc2 := 59) O dX7_ring_58 (by decide +kernel) rfl ?_
                  refine zr_aload_n (pc2 := 60) O dX7_ring_59 rfl 4 rfl rfl ?_
                  refine zr_getf (v := .ref (m 14)) (pc2 := 63) O sF_X7_ring_35 0 0 rfl rfl rfl dX7_ring_60 rfl ?_
                  refine zr_iconst (v := (nI 3)) (pc2 := 64) O dX7_ring_63 (by decide +kernel) rfl ?_
                  refine zr_iload (pc2 := 66) O dX7_ring_64 0 rfl rfl ?_
                  refine zr_imul (v := (nI (3 * k))) (pc2 := 67) O dX7_ring_66 (pk_mul 3 k) rfl ?_
                  refine zr_iconst (v := (nI 1)) (pc2 := 68) O dX7_ring_67 (by decide +kernel) rfl ?_
                  refine zr_iadd (v := (nI ((3 * k) + 1))) (pc2 := 69) O dX7_ring_68 (nI_add (3 * k) 1) rfl ?_
                  refine zn_iald (j := ((3 * k) + 1)) (pc2 := 70) O 0 6 0 rfl rfl rfl rfl (by omega) (by decide) dX7_ring_69 rfl ?_
                  refine zr_ishl (v := ((nI 1) <<< ((mno ((3 * k) + 1)) &&& 31))) (pc2 := 71) O dX7_ring_70 rfl rfl ?_
                  refine zr_goto (tgt := 75) O dX7_ring_71 (by decide) ?_
                  refine zr_ior (v := (nxt ||| ((nI 1) <<< ((mno ((3 * k) + 1)) &&& 31)))) (pc2 := 76) O dX7_ring_75 rfl rfl ?_
                  refine zr_istore (lv2 := [(4, .int (nxt ||| ((nI 1) <<< ((mno ((3 * k) + 1)) &&& 31)))), (5, .int (nI k)), (3, .int (nI nn)), (2, .int rch), (0, .ref (m 31)), (1, .int i)]) (pc2 := 78) O dX7_ring_76 (by decide) rfl rfl ?_
                  refine zr_iinc (v := (nI (k + 1))) (lv2 := [(5, .int (nI (k + 1))), (4, .int (nxt ||| ((nI 1) <<< ((mno ((3 * k) + 1)) &&& 31)))), (3, .int (nI nn)), (2, .int rch), (0, .ref (m 31)), (1, .int i)]) (pc2 := 81) O dX7_ring_78 1 rfl (zm_ofInt1 k) (by decide) rfl rfl ?_
                  refine zr_goto (tgt := 30) O dX7_ring_81 (by decide) ?_
                  have hE : f_X7_ring_30 mno rch (n9 + 1) k nxt = f_X7_ring_30 mno rch n9 (k + 1) (nxt ||| ((nI 1) <<< ((mno ((3 * k) + 1)) &&& 31))) := by exact (if_pos c55)
                  exact ih30 (k + 1) (nxt ||| ((nI 1) <<< ((mno ((3 * k) + 1)) &&& 31))) (by omega) (hF30.trans hE)
          exact lp30 mQ 0 (nI 0) (by omega) rfl
    exact lp16 mP 1 ((nI 1) <<< (i &&& 31)) (by omega) rfl
  · refine zr_iconst (v := (-1)) (pc2 := 9) O dX7_ring_8 (by decide +kernel) rfl ?_
    have hE : s_X7_ring mP mQ mno i = (-1) := by exact (zif_f c5)
    exact hret _ _ _ _ dX7_ring_9 rfl (by rw [hE]) rfl
/-! X7_seen -/
def s_X7_seen (mP : Nat) (msg : Nat) (msi : zF) (a1 : Int32) (a2 : Int32) (a3 : Int32) : Int32 × Nat × zF := if (s_X7_in a1 (nI 0) ((nI mP) - (nI 1))) = true then if (s_X7_in a2 (nI 0) (nI 150)) = true then if (s_X7_in a3 (nI 0) (nI 999)) = true then if msg = 8 then ((-3), msg, msi) else ((nI (msg + 1)), msg + 1, (upd (upd (upd msi (3 * msg) a1) ((3 * msg) + 1) a2) ((3 * msg) + 2) a3)) else ((-1), msg, msi) else ((-1), msg, msi) else ((-1), msg, msi)
set_option maxHeartbeats 4000000 in
set_option maxRecDepth 100000 in
theorem c_X7_seen (l : Launch) (D : va_G) (cI cC cJ : ClassId) (m : Nat → Nat) (mle : Nat) (mpo : Nat) (mfa : Nat) (mrm : Nat) (mrw : Nat) (mP : Nat) (mQ : Nat) (mbk : Nat) (mkp : Nat) (msg : Nat) (mwm : Nat) (mrs : Int32) (msd : Int32) (mls : Int32) (mhd : Int32) (mtx : zF) (mnu : zF) (mrd : zF) (mrl : zF) (mpe : zF) (mno : zF) (mbo : zF) (mim : zF) (msi : zF) (mwi : zF) (mon : zF) (mdi : zF) (mco : zF) (mgo : zF) (mbr : zF) (mca : zF) (a1 : Int32) (a2 : Int32) (a3 : Int32) (hmsg : msg ≤ 8) : zD l yX7_seen wsX7_seen rm_X7_seen D (zT cI cC cJ) [.ref (m 31), .int a1, .int a2, .int a3] [modW cI m mle mpo mfa mrm mrw mP mQ mbk mkp msg mwm mrs msd mls mhd mtx mnu mrd mrl mpe mno mbo mim msi mwi mon mdi mco mgo mbr mca] (some (.int ((s_X7_seen mP msg msi a1 a2 a3).1))) [modW cI m mle mpo mfa mrm mrw mP mQ mbk mkp ((s_X7_seen mP msg msi a1 a2 a3).2.1) mwm mrs msd mls mhd mtx mnu mrd mrl mpe mno mbo mim ((s_X7_seen mP msg msi a1 a2 a3).2.2) mwi mon mdi mco mgo mbr mca] := by
  refine zD_int (cc := cX7_seen) (maxL := 4) (ty := .int) (lv := [(0, .ref (m 31)), (1, .int a1), (2, .int a2), (3, .int a3)]) (by decide +kernel) rfl (Nat.le_of_ble_eq_true rfl) rfl (fun Z O hret => ?_)
  refine zr_aload_n (pc2 := 1) O dX7_seen_0 rfl 0 rfl rfl ?_
  refine zr_iload_n (pc2 := 2) O dX7_seen_1 rfl 1 rfl rfl ?_
  refine zr_callV (As := [.int a1]) (rest := []) (ws2 := [modW cI m mle mpo mfa mrm mrw mP mQ mbk mkp msg mwm mrs msd mls mhd mtx mnu mrd mrl mpe mno mbo mim msi mwi mon mdi mco mgo mbr mca]) (pc2 := 5) (ci := 7) (g0 := 0) (q0 := 0) O (c_X7_isOne l D cI cC cJ m mle mpo mfa mrm mrw mP mQ mbk mkp msg mwm mrs msd mls mhd mtx mnu mrd mrl mpe mno mbo mim msi mwi mon mdi mco mgo mbr mca a1) sC_X7_seen_122 rfl rfl rfl rfl rfl dX7_seen_2 [0] rfl rfl rfl rfl (Nat.le_of_ble_eq_true rfl) rfl ?_
  show Z _ _ _ [.int (zb (s_X7_in a1 (nI 0) ((nI mP) - (nI 1))))]
  refine zb_if_eq (tgt := 30) (pc2 := 8) O dX7_seen_5 (by decide) rfl (fun c5 => ?_) (fun c5 => ?_)
  · refine zr_iconst (v := (-1)) (pc2 := 31) O dX7_seen_30 (by decide +kernel) rfl ?_
    have hE : s_X7_seen mP msg msi a1 a2 a3 = ((-1), msg, msi) := by exact (zif_f c5)
    exact hret _ _ _ _ dX7_seen_31 rfl (by rw [hE]) (by rw [hE])
  · refine zr_iload_n (pc2 := 9) O dX7_seen_8 rfl 2 rfl rfl ?_
    refine zr_iconst (v := (nI 0)) (pc2 := 10) O dX7_seen_9 (by decide +kernel) rfl ?_
    refine zr_sipush (v := (nI 150)) (pc2 := 13) O dX7_seen_10 (by decide +kernel) rfl ?_
    refine zr_callS (As := [.int a2, .int (nI 0), .int (nI 150)]) (rest := []) (ws2 := [modW cI m mle mpo mfa mrm mrw mP mQ mbk mkp msg mwm mrs msd mls mhd mtx mnu mrd mrl mpe mno mbo mim msi mwi mon mdi mco mgo mbr mca]) (pc2 := 16) O (c_X7_in l D cI cC cJ a2 (nI 0) (nI 150)) sC_X7_seen_76 rfl rfl dX7_seen_13 [] rfl rfl rfl rfl (Nat.le_of_ble_eq_true rfl) rfl ?_
    show Z _ _ _ [.int (zb (s_X7_in a2 (nI 0) (nI 150)))]
    refine zb_if_eq (tgt := 30) (pc2 := 19) O dX7_seen_16 (by decide) rfl (fun c16 => ?_) (fun c16 => ?_)
    · refine zr_iconst (v := (-1)) (pc2 := 31) O dX7_seen_30 (by decide +kernel) rfl ?_
      have hE : s_X7_seen mP msg msi a1 a2 a3 = ((-1), msg, msi) := by exact ((zif_t c5).trans (zif_f c16))
      exact hret _ _ _ _ dX7_seen_31 rfl (by rw [hE]) (by rw [hE])
    · refine zr_iload_n (pc2 := 20) O dX7_seen_19 rfl 3 rfl rfl ?_
      refine zr_iconst (v := (nI 0)) (pc2 := 21) O dX7_seen_20 (by decide +kernel) rfl ?_
      refine zr_sipush (v := (nI 999)) (pc2 := 24) O dX7_seen_21 (by decide +kernel) rfl ?_
      refine zr_callS (As := [.int a3, .int (nI 0), .int (nI 999)]) (rest := []) (ws2 := [modW cI m mle mpo mfa mrm mrw mP mQ mbk mkp msg mwm mrs msd mls mhd mtx mnu mrd mrl mpe mno mbo mim msi mwi mon mdi mco mgo mbr mca]) (pc2 := 27) O (c_X7_in l D cI cC cJ a3 (nI 0) (nI 999)) sC_X7_seen_76 rfl rfl dX7_seen_24 [] rfl rfl rfl rfl (Nat.le_of_ble_eq_true rfl) rfl ?_
      show Z _ _ _ [.int (zb (s_X7_in a3 (nI 0) (nI 999)))]
      refine zb_if_ne (tgt := 32) (pc2 := 30) O dX7_seen_27 (by decide) rfl (fun c27 => ?_) (fun c27 => ?_)
      · refine zr_aload_n (pc2 := 33) O dX7_seen_32 rfl 0 rfl rfl ?_
        refine zr_getf (v := .int (nI msg)) (pc2 := 36) O sF_X7_seen_113 0 0 rfl rfl rfl dX7_seen_33 rfl ?_
        refine zr_bipush (v := (nI 8)) (pc2 := 38) O dX7_seen_36 (by decide +kernel) rfl ?_
        refine zn_icmp_ne (tgt := 44) (pc2 := 41) O dX7_seen_38 (by decide) rfl (by omega) (by omega) (fun c38 => ?_) (fun c38 => ?_)
        · refine zr_aload_n (pc2 := 45) O dX7_seen_44 rfl 0 rfl rfl ?_
          refine zr_getf (v := .ref (m 20)) (pc2 := 48) O sF_X7_seen_44 0 0 rfl rfl rfl dX7_seen_45 rfl ?_
          refine zr_iconst (v := (nI 3)) (pc2 := 49) O dX7_seen_48 (by decide +kernel) rfl ?_
          refine zr_aload_n (pc2 := 50) O dX7_seen_49 rfl 0 rfl rfl ?_
          refine zr_getf (v := .int (nI msg)) (pc2 := 53) O sF_X7_seen_113 0 0 rfl rfl rfl dX7_seen_50 rfl ?_
          refine zr_imul (v := (nI (3 * msg))) (pc2 := 54) O dX7_seen_53 (pk_mul 3 msg) rfl ?_
          refine zr_iload_n (pc2 := 55) O dX7_seen_54 rfl 1 rfl rfl ?_
          refine zn_iast (j := (3 * msg)) (G2 := modW cI m mle mpo mfa mrm mrw mP mQ mbk mkp msg mwm mrs msd mls mhd mtx mnu mrd mrl mpe mno mbo mim (upd msi (3 * msg) a1) mwi mon mdi mco mgo mbr mca) (ws2 := [modW cI m mle mpo mfa mrm mrw mP mQ mbk mkp msg mwm mrs msd mls mhd mtx mnu mrd mrl mpe mno mbo mim (upd msi (3 * msg) a1) mwi mon mdi mco mgo mbr mca]) (pc2 := 56) O 0 9 0 rfl rfl rfl rfl (by omega) (by decide) dX7_seen_55 rfl rfl rfl ?_
          refine zr_aload_n (pc2 := 57) O dX7_seen_56 rfl 0 rfl rfl ?_
          refine zr_getf (v := .ref (m 20)) (pc2 := 60) O sF_X7_seen_44 0 0 rfl rfl rfl dX7_seen_57 rfl ?_
          refine zr_iconst (v := (nI 3)) (pc2 := 61) O dX7_seen_60 (by decide +kernel) rfl ?_
          refine zr_aload_n (pc2 := 62) O dX7_seen_61 rfl 0 rfl rfl ?_
          refine zr_getf (v := .int (nI msg)) (pc2 := 65) O sF_X7_seen_113 0 0 rfl rfl rfl dX7_seen_62 rfl ?_
          refine zr_imul (v := (nI (3 * msg))) (pc2 := 66) O dX7_seen_65 (pk_mul 3 msg) rfl ?_
          refine zr_iconst (v := (nI 1)) (pc2 := 67) O dX7_seen_66 (by decide +kernel) rfl ?_
          refine zr_iadd (v := (nI ((3 * msg) + 1))) (pc2 := 68) O dX7_seen_67 (nI_add (3 * msg) 1) rfl ?_
          refine zr_iload_n (pc2 := 69) O dX7_seen_68 rfl 2 rfl rfl ?_
          refine zn_iast (j := ((3 * msg) + 1)) (G2 := modW cI m mle mpo mfa mrm mrw mP mQ mbk mkp msg mwm mrs msd mls mhd mtx mnu mrd mrl mpe mno mbo mim (upd (upd msi (3 * msg) a1) ((3 * msg) + 1) a2) mwi mon mdi mco mgo mbr mca) (ws2 := [modW cI m mle mpo mfa mrm mrw mP mQ mbk mkp msg mwm mrs msd mls mhd mtx mnu mrd mrl mpe mno mbo mim (upd (upd msi (3 * msg) a1) ((3 * msg) + 1) a2) mwi mon mdi mco mgo mbr mca]) (pc2 := 70) O 0 9 0 rfl rfl rfl rfl (by omega) (by decide) dX7_seen_69 rfl rfl rfl ?_
          refine zr_aload_n (pc2 := 71) O dX7_seen_70 rfl 0 rfl rfl ?_
          refine zr_getf (v := .ref (m 20)) (pc2 := 74) O sF_X7_seen_44 0 0 rfl rfl rfl dX7_seen_71 rfl ?_
          refine zr_iconst (v := (nI 3)) (pc2 := 75) O dX7_seen_74 (by decide +kernel) rfl ?_
          refine zr_aload_n (pc2 := 76) O dX7_seen_75 rfl 0 rfl rfl ?_
          refine zr_getf (v := .int (nI msg)) (pc2 := 79) O sF_X7_seen_113 0 0 rfl rfl rfl dX7_seen_76 rfl ?_
          refine zr_imul (v := (nI (3 * msg))) (pc2 := 80) O dX7_seen_79 (pk_mul 3 msg) rfl ?_
          refine zr_iconst (v := (nI 2)) (pc2 := 81) O dX7_seen_80 (by decide +kernel) rfl ?_
          refine zr_iadd (v := (nI ((3 * msg) + 2))) (pc2 := 82) O dX7_seen_81 (nI_add (3 * msg) 2) rfl ?_
          refine zr_iload_n (pc2 := 83) O dX7_seen_82 rfl 3 rfl rfl ?_
          refine zn_iast (j := ((3 * msg) + 2)) (G2 := modW cI m mle mpo mfa mrm mrw mP mQ mbk mkp msg mwm mrs msd mls mhd mtx mnu mrd mrl mpe mno mbo mim (upd (upd (upd msi (3 * msg) a1) ((3 * msg) + 1) a2) ((3 * msg) + 2) a3) mwi mon mdi mco mgo mbr mca) (ws2 := [modW cI m mle mpo mfa mrm mrw mP mQ mbk mkp msg mwm mrs msd mls mhd mtx mnu mrd mrl mpe mno mbo mim (upd (upd (upd msi (3 * msg) a1) ((3 * msg) + 1) a2) ((3 * msg) + 2) a3) mwi mon mdi mco mgo mbr mca]) (pc2 := 84) O 0 9 0 rfl rfl rfl rfl (by omega) (by decide) dX7_seen_83 rfl rfl rfl ?_
          refine zr_aload_n (pc2 := 85) O dX7_seen_84 rfl 0 rfl rfl ?_
          refine zr_dup (pc2 := 86) O dX7_seen_85 rfl rfl ?_
          refine zr_getf (v := .int (nI msg)) (pc2 := 89) O sF_X7_seen_113 0 0 rfl rfl rfl dX7_seen_86 rfl ?_
          refine zr_iconst (v := (nI 1)) (pc2 := 90) O dX7_seen_89 (by decide +kernel) rfl ?_
          refine zr_iadd (v := (nI (msg + 1))) (pc2 := 91) O dX7_seen_90 (nI_add msg 1) rfl ?_
          refine zr_putf (G2 := modW cI m mle mpo mfa mrm mrw mP mQ mbk mkp (msg + 1) mwm mrs msd mls mhd mtx mnu mrd mrl mpe mno mbo mim (upd (upd (upd msi (3 * msg) a1) ((3 * msg) + 1) a2) ((3 * msg) + 2) a3) mwi mon mdi mco mgo mbr mca) (ws2 := [modW cI m mle mpo mfa mrm mrw mP mQ mbk mkp (msg + 1) mwm mrs msd mls mhd mtx mnu mrd mrl mpe mno mbo mim (upd (upd (upd msi (3 * msg) a1) ((3 * msg) + 1) a2) ((3 * msg) + 2) a3) mwi mon mdi mco mgo mbr mca]) (pc2 := 94) O sP_X7_seen_113 0 0 rfl rfl rfl rfl (Nat.le_of_ble_eq_true rfl) dX7_seen_91 rfl rfl rfl ?_
          refine zr_aload_n (pc2 := 95) O dX7_seen_94 rfl 0 rfl rfl ?_
          refine zr_getf (v := .int (nI (msg + 1))) (pc2 := 98) O sF_X7_seen_113 0 0 rfl rfl rfl dX7_seen_95 rfl ?_
          have hE : s_X7_seen mP msg msi a1 a2 a3 = ((nI (msg + 1)), msg + 1, (upd (upd (upd msi (3 * msg) a1) ((3 * msg) + 1) a2) ((3 * msg) + 2) a3)) := by exact ((zif_t c5).trans ((zif_t c16).trans ((zif_t c27).trans (if_neg c38))))
          exact hret _ _ _ _ dX7_seen_98 rfl (by rw [hE]) (by rw [hE])
        · refine zr_bipush (v := (-3)) (pc2 := 43) O dX7_seen_41 (by decide +kernel) rfl ?_
          have hE : s_X7_seen mP msg msi a1 a2 a3 = ((-3), msg, msi) := by exact ((zif_t c5).trans ((zif_t c16).trans ((zif_t c27).trans (if_pos c38))))
          exact hret _ _ _ _ dX7_seen_43 rfl (by rw [hE]) (by rw [hE])
      · refine zr_iconst (v := (-1)) (pc2 := 31) O dX7_seen_30 (by decide +kernel) rfl ?_
        have hE : s_X7_seen mP msg msi a1 a2 a3 = ((-1), msg, msi) := by exact ((zif_t c5).trans ((zif_t c16).trans (zif_f c27)))
        exact hret _ _ _ _ dX7_seen_31 rfl (by rw [hE]) (by rw [hE])
/-! X7_forget -/
def s_X7_forget (msg : Nat) : Int32 × Nat := ((nI msg), 0)
set_option maxHeartbeats 4000000 in
set_option maxRecDepth 100000 in
theorem c_X7_forget (l : Launch) (D : va_G) (cI cC cJ : ClassId) (m : Nat → Nat) (mle : Nat) (mpo : Nat) (mfa : Nat) (mrm : Nat) (mrw : Nat) (mP : Nat) (mQ : Nat) (mbk : Nat) (mkp : Nat) (msg : Nat) (mwm : Nat) (mrs : Int32) (msd : Int32) (mls : Int32) (mhd : Int32) (mtx : zF) (mnu : zF) (mrd : zF) (mrl : zF) (mpe : zF) (mno : zF) (mbo : zF) (mim : zF) (msi : zF) (mwi : zF) (mon : zF) (mdi : zF) (mco : zF) (mgo : zF) (mbr : zF) (mca : zF) : zD l yX7_forget wsX7_forget rm_X7_forget D (zT cI cC cJ) [.ref (m 31)] [modW cI m mle mpo mfa mrm mrw mP mQ mbk mkp msg mwm mrs msd mls mhd mtx mnu mrd mrl mpe mno mbo mim msi mwi mon mdi mco mgo mbr mca] (some (.int ((s_X7_forget msg).1))) [modW cI m mle mpo mfa mrm mrw mP mQ mbk mkp ((s_X7_forget msg).2) mwm mrs msd mls mhd mtx mnu mrd mrl mpe mno mbo mim msi mwi mon mdi mco mgo mbr mca] := by
  refine zD_int (cc := cX7_forget) (maxL := 2) (ty := .int) (lv := [(0, .ref (m 31))]) (by decide +kernel) rfl (Nat.le_of_ble_eq_true rfl) rfl (fun Z O hret => ?_)
  refine zr_aload_n (pc2 := 1) O dX7_forget_0 rfl 0 rfl rfl ?_
  refine zr_getf (v := .int (nI msg)) (pc2 := 4) O sF_X7_forget_113 0 0 rfl rfl rfl dX7_forget_1 rfl ?_
  refine zr_istore_n (lv2 := [(1, .int (nI msg)), (0, .ref (m 31))]) (pc2 := 5) O dX7_forget_4 rfl (by decide) rfl rfl ?_
  refine zr_aload_n (pc2 := 6) O dX7_forget_5 rfl 1 rfl rfl ?_
  refine zr_iconst (v := (nI 0)) (pc2 := 7) O dX7_forget_6 (by decide +kernel) rfl ?_
  refine zr_putf (G2 := modW cI m mle mpo mfa mrm mrw mP mQ mbk mkp 0 mwm mrs msd mls mhd mtx mnu mrd mrl mpe mno mbo mim msi mwi mon mdi mco mgo mbr mca) (ws2 := [modW cI m mle mpo mfa mrm mrw mP mQ mbk mkp 0 mwm mrs msd mls mhd mtx mnu mrd mrl mpe mno mbo mim msi mwi mon mdi mco mgo mbr mca]) (pc2 := 10) O sP_X7_forget_113 0 0 rfl rfl rfl rfl (Nat.le_of_ble_eq_true rfl) dX7_forget_7 rfl rfl rfl ?_
  refine zr_iload_n (pc2 := 11) O dX7_forget_10 rfl 0 rfl rfl ?_
  have hE : s_X7_forget msg = ((nI msg), 0) := by exact rfl
  exact hret _ _ _ _ dX7_forget_11 rfl (by rw [hE]) (by rw [hE])
/-! X7_count -/
def s_X7_count (mle : Nat) (mP : Nat) (mQ : Nat) (mbk : Nat) (mkp : Nat) (msg : Nat) (mno : zF) (wh : Int32) : Int32 := if wh = nI 0 then (nI mP) else if wh = nI 1 then (nI mQ) else if wh = nI 2 then (mno 27) else if wh = nI 3 then (nI msg) else if wh = nI 4 then (nI mbk) else if wh = nI 5 then (nI mkp) else if wh = nI 6 then (nI mle) else (-1)
set_option maxHeartbeats 4000000 in
set_option maxRecDepth 100000 in
theorem c_X7_count (l : Launch) (D : va_G) (cI cC cJ : ClassId) (m : Nat → Nat) (mle : Nat) (mpo : Nat) (mfa : Nat) (mrm : Nat) (mrw : Nat) (mP : Nat) (mQ : Nat) (mbk : Nat) (mkp : Nat) (msg : Nat) (mwm : Nat) (mrs : Int32) (msd : Int32) (mls : Int32) (mhd : Int32) (mtx : zF) (mnu : zF) (mrd : zF) (mrl : zF) (mpe : zF) (mno : zF) (mbo : zF) (mim : zF) (msi : zF) (mwi : zF) (mon : zF) (mdi : zF) (mco : zF) (mgo : zF) (mbr : zF) (mca : zF) (wh : Int32) : zD l yX7_count wsX7_count rm_X7_count D (zT cI cC cJ) [.ref (m 31), .int wh] [modW cI m mle mpo mfa mrm mrw mP mQ mbk mkp msg mwm mrs msd mls mhd mtx mnu mrd mrl mpe mno mbo mim msi mwi mon mdi mco mgo mbr mca] (some (.int (s_X7_count mle mP mQ mbk mkp msg mno wh))) [modW cI m mle mpo mfa mrm mrw mP mQ mbk mkp msg mwm mrs msd mls mhd mtx mnu mrd mrl mpe mno mbo mim msi mwi mon mdi mco mgo mbr mca] := by
  refine zD_int (cc := cX7_count) (maxL := 2) (ty := .int) (lv := [(0, .ref (m 31)), (1, .int wh)]) (by decide +kernel) rfl (Nat.le_of_ble_eq_true rfl) rfl (fun Z O hret => ?_)
  refine zr_iload_n (pc2 := 1) O dX7_count_0 rfl 1 rfl rfl ?_
  by_cases c1_0 : wh = nI 0
  · refine zn_tabIn (y := nI 0) (off := 43) (tgt := 44) O c1_0 dX7_count_1 (by decide +kernel) (by decide +kernel) (by decide +kernel) (by decide) ?_
    refine zr_aload_n (pc2 := 45) O dX7_count_44 rfl 0 rfl rfl ?_
    refine zr_getf (v := .int (nI mP)) (pc2 := 48) O sF_X7_count_22 0 0 rfl rfl rfl dX7_count_45 rfl ?_
    have hE : s_X7_count mle mP mQ mbk mkp msg mno wh = (nI mP) := by exact (if_pos c1_0)
    exact hret _ _ _ _ dX7_count_48 rfl (by rw [hE]) rfl
  · skip
    by_cases c1_1 : wh = nI 1
    · refine zn_tabIn (y := nI 1) (off := 48) (tgt := 49) O c1_1 dX7_count_1 (by decide +kernel) (by decide +kernel) (by decide +kernel) (by decide) ?_
      refine zr_aload_n (pc2 := 50) O dX7_count_49 rfl 0 rfl rfl ?_
      refine zr_getf (v := .int (nI mQ)) (pc2 := 53) O sF_X7_count_29 0 0 rfl rfl rfl dX7_count_50 rfl ?_
      have hE : s_X7_count mle mP mQ mbk mkp msg mno wh = (nI mQ) := by exact ((if_neg c1_0).trans (if_pos c1_1))
      exact hret _ _ _ _ dX7_count_53 rfl (by rw [hE]) rfl
    · skip
      by_cases c1_2 : wh = nI 2
      · refine zn_tabIn (y := nI 2) (off := 53) (tgt := 54) O c1_2 dX7_count_1 (by decide +kernel) (by decide +kernel) (by decide +kernel) (by decide) ?_
        refine zr_aload_n (pc2 := 55) O dX7_count_54 rfl 0 rfl rfl ?_
        refine zr_getf (v := .ref (m 14)) (pc2 := 58) O sF_X7_count_35 0 0 rfl rfl rfl dX7_count_55 rfl ?_
        refine zr_bipush (v := (nI 27)) (pc2 := 60) O dX7_count_58 (by decide +kernel) rfl ?_
        refine zn_iald (j := 27) (pc2 := 61) O 0 6 0 rfl rfl rfl rfl (by omega) (by decide) dX7_count_60 rfl ?_
        have hE : s_X7_count mle mP mQ mbk mkp msg mno wh = (mno 27) := by exact ((if_neg c1_0).trans ((if_neg c1_1).trans (if_pos c1_2)))
        exact hret _ _ _ _ dX7_count_61 rfl (by rw [hE]) rfl
      · skip
        by_cases c1_3 : wh = nI 3
        · refine zn_tabIn (y := nI 3) (off := 61) (tgt := 62) O c1_3 dX7_count_1 (by decide +kernel) (by decide +kernel) (by decide +kernel) (by decide) ?_
          refine zr_aload_n (pc2 := 63) O dX7_count_62 rfl 0 rfl rfl ?_
          refine zr_getf (v := .int (nI msg)) (pc2 := 66) O sF_X7_count_113 0 0 rfl rfl rfl dX7_count_63 rfl ?_
          have hE : s_X7_count mle mP mQ mbk mkp msg mno wh = (nI msg) := by exact ((if_neg c1_0).trans ((if_neg c1_1).trans ((if_neg c1_2).trans (if_pos c1_3))))
          exact hret _ _ _ _ dX7_count_66 rfl (by rw [hE]) rfl
        · skip
          by_cases c1_4 : wh = nI 4
          · refine zn_tabIn (y := nI 4) (off := 66) (tgt := 67) O c1_4 dX7_count_1 (by decide +kernel) (by decide +kernel) (by decide +kernel) (by decide) ?_
            refine zr_aload_n (pc2 := 68) O dX7_count_67 rfl 0 rfl rfl ?_
            refine zr_getf (v := .int (nI mbk)) (pc2 := 71) O sF_X7_count_116 0 0 rfl rfl rfl dX7_count_68 rfl ?_
            have hE : s_X7_count mle mP mQ mbk mkp msg mno wh = (nI mbk) := by exact ((if_neg c1_0).trans ((if_neg c1_1).trans ((if_neg c1_2).trans ((if_neg c1_3).trans (if_pos c1_4)))))
            exact hret _ _ _ _ dX7_count_71 rfl (by rw [hE]) rfl
          · skip
            by_cases c1_5 : wh = nI 5
            · refine zn_tabIn (y := nI 5) (off := 71) (tgt := 72) O c1_5 dX7_count_1 (by decide +kernel) (by decide +kernel) (by decide +kernel) (by decide) ?_
              refine zr_aload_n (pc2 := 73) O dX7_count_72 rfl 0 rfl rfl ?_
              refine zr_getf (v := .int (nI mkp)) (pc2 := 76) O sF_X7_count_119 0 0 rfl rfl rfl dX7_count_73 rfl ?_
              have hE : s_X7_count mle mP mQ mbk mkp msg mno wh = (nI mkp) := by exact ((if_neg c1_0).trans ((if_neg c1_1).trans ((if_neg c1_2).trans ((if_neg c1_3).trans ((if_neg c1_4).trans (if_pos c1_5))))))
              exact hret _ _ _ _ dX7_count_76 rfl (by rw [hE]) rfl
            · skip
              by_cases c1_6 : wh = nI 6
              · refine zn_tabIn (y := nI 6) (off := 76) (tgt := 77) O c1_6 dX7_count_1 (by decide +kernel) (by decide +kernel) (by decide +kernel) (by decide) ?_
                refine zr_aload_n (pc2 := 78) O dX7_count_77 rfl 0 rfl rfl ?_
                refine zr_getf (v := .int (nI mle)) (pc2 := 81) O sF_X7_count_80 0 0 rfl rfl rfl dX7_count_78 rfl ?_
                have hE : s_X7_count mle mP mQ mbk mkp msg mno wh = (nI mle) := by exact ((if_neg c1_0).trans ((if_neg c1_1).trans ((if_neg c1_2).trans ((if_neg c1_3).trans ((if_neg c1_4).trans ((if_neg c1_5).trans (if_pos c1_6)))))))
                exact hret _ _ _ _ dX7_count_81 rfl (by rw [hE]) rfl
              · skip
                refine zr_tabOut (tgt := 82) O dX7_count_1 (zsw_out (x := wh) 6 (by decide) (zsw_s (zsw_t (zsw_s (zsw_t (zsw_s (zsw_t (zsw_s (zsw_t (zsw_s (zsw_t (zsw_s (zsw_t (zsw_s zsw_0 c1_0)) c1_1)) c1_2)) c1_3)) c1_4)) c1_5)) c1_6)) (by decide) ?_
                refine zr_iconst (v := (-1)) (pc2 := 83) O dX7_count_82 (by decide +kernel) rfl ?_
                have hE : s_X7_count mle mP mQ mbk mkp msg mno wh = (-1) := by exact ((if_neg c1_0).trans ((if_neg c1_1).trans ((if_neg c1_2).trans ((if_neg c1_3).trans ((if_neg c1_4).trans ((if_neg c1_5).trans (if_neg c1_6)))))))
                exact hret _ _ _ _ dX7_count_83 rfl (by rw [hE]) rfl
