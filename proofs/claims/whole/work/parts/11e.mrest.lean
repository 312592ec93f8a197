/-! X7_owes -/
def f_X7_owes_16 (mno : zF) (i : Int32) : Nat → Nat → Int32 → Int32
  | 0, _, sum => sum
  | n9 + 1, k, sum => if (mno (3 * k)) = i then if (mno ((3 * k) + 1)) = i then f_X7_owes_16 mno i n9 (k + 1) ((sum + (mno ((3 * k) + 2))) - (mno ((3 * k) + 2))) else f_X7_owes_16 mno i n9 (k + 1) ((sum + (mno ((3 * k) + 2))) - (nI 0)) else if (mno ((3 * k) + 1)) = i then f_X7_owes_16 mno i n9 (k + 1) ((sum + (nI 0)) - (mno ((3 * k) + 2))) else f_X7_owes_16 mno i n9 (k + 1) ((sum + (nI 0)) - (nI 0))
def s_X7_owes (mP : Nat) (mQ : Nat) (mno : zF) (i : Int32) : Int32 := if (s_X7_in i (nI 0) ((nI mP) - (nI 1))) = true then (f_X7_owes_16 mno i mQ 0 (nI 1000)) else (-1)
set_option maxHeartbeats 4000000 in
set_option maxRecDepth 100000 in
theorem c_X7_owes (l : Launch) (D : va_G) (cI cC cJ : ClassId) (m : Nat → Nat) (mle : Nat) (mpo : Nat) (mfa : Nat) (mrm : Nat) (mrw : Nat) (mP : Nat) (mQ : Nat) (mbk : Nat) (mkp : Nat) (msg : Nat) (mwm : Nat) (mrs : Int32) (msd : Int32) (mls : Int32) (mhd : Int32) (mtx : zF) (mnu : zF) (mrd : zF) (mrl : zF) (mpe : zF) (mno : zF) (mbo : zF) (mim : zF) (msi : zF) (mwi : zF) (mon : zF) (mdi : zF) (mco : zF) (mgo : zF) (mbr : zF) (mca : zF) (i : Int32) (hmQ : mQ ≤ 9) : zD l yX7_owes wsX7_owes rm_X7_owes D (zT cI cC cJ) [.ref (m 31), .int i] [modW cI m mle mpo mfa mrm mrw mP mQ mbk mkp msg mwm mrs msd mls mhd mtx mnu mrd mrl mpe mno mbo mim msi mwi mon mdi mco mgo mbr mca] (some (.int (s_X7_owes mP mQ mno i))) [modW cI m mle mpo mfa mrm mrw mP mQ mbk mkp msg mwm mrs msd mls mhd mtx mnu mrd mrl mpe mno mbo mim msi mwi mon mdi mco mgo mbr mca] := by
  refine zD_int (cc := cX7_owes) (maxL := 4) (ty := .int) (lv := [(0, .ref (m 31)), (1, .int i)]) (by decide +kernel) rfl (Nat.le_of_ble_eq_true rfl) rfl (fun Z O hret => ?_)
  refine zr_aload_n (pc2 := 1) O dX7_owes_0 rfl 0 rfl rfl ?_
  refine zr_iload_n (pc2 := 2) O dX7_owes_1 rfl 1 rfl rfl ?_
  refine zr_callV (As := [.int i]) (rest := []) (ws2 := [modW cI m mle mpo mfa mrm mrw mP mQ mbk mkp msg mwm mrs msd mls mhd mtx mnu mrd mrl mpe mno mbo mim msi mwi mon mdi mco mgo mbr mca]) (pc2 := 5) (ci := 7) (g0 := 0) (q0 := 0) O (c_X7_isOne l D cI cC cJ m mle mpo mfa mrm mrw mP mQ mbk mkp msg mwm mrs msd mls mhd mtx mnu mrd mrl mpe mno mbo mim msi mwi mon mdi mco mgo mbr mca i) sC_X7_owes_122 rfl rfl rfl rfl rfl dX7_owes_2 [0] rfl rfl rfl rfl (Nat.le_of_ble_eq_true rfl) rfl ?_
  show Z _ _ _ [.int (zb (s_X7_in i (nI 0) ((nI mP) - (nI 1))))]
  refine zb_if_ne (tgt := 10) (pc2 := 8) O dX7_owes_5 (by decide) rfl (fun c5 => ?_) (fun c5 => ?_)
  · refine zr_sipush (v := (nI 1000)) (pc2 := 13) O dX7_owes_10 (by decide +kernel) rfl ?_
    refine zr_istore_n (lv2 := [(2, .int (nI 1000)), (0, .ref (m 31)), (1, .int i)]) (pc2 := 14) O dX7_owes_13 rfl (by decide) rfl rfl ?_
    refine zr_iconst (v := (nI 0)) (pc2 := 15) O dX7_owes_14 (by decide +kernel) rfl ?_
    refine zr_istore_n (lv2 := [(3, .int (nI 0)), (2, .int (nI 1000)), (0, .ref (m 31)), (1, .int i)]) (pc2 := 16) O dX7_owes_15 rfl (by decide) rfl rfl ?_
    have lp16 : ∀ (n9 : Nat) (k : Nat) (sum : Int32), k + n9 = mQ → f_X7_owes_16 mno i mQ 0 (nI 1000) = f_X7_owes_16 mno i n9 k sum → Z [modW cI m mle mpo mfa mrm mrw mP mQ mbk mkp msg mwm mrs msd mls mhd mtx mnu mrd mrl mpe mno mbo mim msi mwi mon mdi mco mgo mbr mca] [(3, .int (nI k)), (2, .int sum), (0, .ref (m 31)), (1, .int i)] 16 [] := by
      intro n9
      induction n9 with
      | zero =>
        intro k sum hM16 hF16
        have hI16 : mQ = k := by omega
        subst hI16
        have e9 : (f_X7_owes_16 mno i mQ 0 (nI 1000)) = sum := hF16
        subst e9
        refine zr_iload_n (pc2 := 17) O dX7_owes_16 rfl 0 rfl rfl ?_
        refine zr_aload_n (pc2 := 18) O dX7_owes_17 rfl 2 rfl rfl ?_
        refine zr_getf (v := .int (nI mQ)) (pc2 := 21) O sF_X7_owes_29 0 0 rfl rfl rfl dX7_owes_18 rfl ?_
        refine zn_icmp_ge (tgt := 90) (pc2 := 24) O dX7_owes_21 (by decide) rfl (by omega) (by omega) (fun c21 => ?_) (fun c21 => ?_)
        · refine zr_iload_n (pc2 := 91) O dX7_owes_90 rfl 1 rfl rfl ?_
          have hE : s_X7_owes mP mQ mno i = (f_X7_owes_16 mno i mQ 0 (nI 1000)) := by exact (zif_t c5)
          exact hret _ _ _ _ dX7_owes_91 rfl (by rw [hE]) rfl
        · exact absurd c21 (by omega)
      | succ n9 ih16 =>
        intro k sum hM16 hF16
        refine zr_iload_n (pc2 := 17) O dX7_owes_16 rfl 0 rfl rfl ?_
        refine zr_aload_n (pc2 := 18) O dX7_owes_17 rfl 2 rfl rfl ?_
        refine zr_getf (v := .int (nI mQ)) (pc2 := 21) O sF_X7_owes_29 0 0 rfl rfl rfl dX7_owes_18 rfl ?_
        refine zn_icmp_ge (tgt := 90) (pc2 := 24) O dX7_owes_21 (by decide) rfl (by omega) (by omega) (fun c21 => ?_) (fun c21 => ?_)
        · exact absurd c21 (by omega)
        · refine zr_iload_n (pc2 := 25) O dX7_owes_24 rfl 1 rfl rfl ?_
          refine zr_aload_n (pc2 := 26) O dX7_owes_25 rfl 2 rfl rfl ?_
          refine zr_getf (v := .ref (m 14)) (pc2 := 29) O sF_X7_owes_35 0 0 rfl rfl rfl dX7_owes_26 rfl ?_
          refine zr_iconst (v := (nI 3)) (pc2 := 30) O dX7_owes_29 (by decide +kernel) rfl ?_
          refine zr_iload_n (pc2 := 31) O dX7_owes_30 rfl 0 rfl rfl ?_
          refine zr_imul (v := (nI (3 * k))) (pc2 := 32) O dX7_owes_31 (pk_mul 3 k) rfl ?_
          refine zn_iald (j := (3 * k)) (pc2 := 33) O 0 6 0 rfl rfl rfl rfl (by omega) (by decide) dX7_owes_32 rfl ?_
          refine zr_iload_n (pc2 := 34) O dX7_owes_33 rfl 3 rfl rfl ?_
          refine zr_icmp_ne (tgt := 50) (pc2 := 37) O dX7_owes_34 (by decide) rfl (fun c34 => ?_) (fun c34 => ?_)
          · refine zr_iconst (v := (nI 0)) (pc2 := 51) O dX7_owes_50 (by decide +kernel) rfl ?_
            refine zr_iadd (v := (sum + (nI 0))) (pc2 := 52) O dX7_owes_51 rfl rfl ?_
            refine zr_istore_n (lv2 := [(2, .int (sum + (nI 0))), (3, .int (nI k)), (0, .ref (m 31)), (1, .int i)]) (pc2 := 53) O dX7_owes_52 rfl (by decide) rfl rfl ?_
            refine zr_iload_n (pc2 := 54) O dX7_owes_53 rfl 0 rfl rfl ?_
            refine zr_aload_n (pc2 := 55) O dX7_owes_54 rfl 2 rfl rfl ?_
            refine zr_getf (v := .ref (m 14)) (pc2 := 58) O sF_X7_owes_35 0 0 rfl rfl rfl dX7_owes_55 rfl ?_
            refine zr_iconst (v := (nI 3)) (pc2 := 59) O dX7_owes_58 (by decide +kernel) rfl ?_
            refine zr_iload_n (pc2 := 60) O dX7_owes_59 rfl 1 rfl rfl ?_
            refine zr_imul (v := (nI (3 * k))) (pc2 := 61) O dX7_owes_60 (pk_mul 3 k) rfl ?_
            refine zr_iconst (v := (nI 1)) (pc2 := 62) O dX7_owes_61 (by decide +kernel) rfl ?_
            refine zr_iadd (v := (nI ((3 * k) + 1))) (pc2 := 63) O dX7_owes_62 (nI_add (3 * k) 1) rfl ?_
            refine zn_iald (j := ((3 * k) + 1)) (pc2 := 64) O 0 6 0 rfl rfl rfl rfl (by omega) (by decide) dX7_owes_63 rfl ?_
            refine zr_iload_n (pc2 := 65) O dX7_owes_64 rfl 3 rfl rfl ?_
            refine zr_icmp_ne (tgt := 81) (pc2 := 68) O dX7_owes_65 (by decide) rfl (fun c65 => ?_) (fun c65 => ?_)
            · refine zr_iconst (v := (nI 0)) (pc2 := 82) O dX7_owes_81 (by decide +kernel) rfl ?_
              refine zr_isub (v := ((sum + (nI 0)) - (nI 0))) (pc2 := 83) O dX7_owes_82 rfl rfl ?_
              refine zr_istore_n (lv2 := [(2, .int ((sum + (nI 0)) - (nI 0))), (3, .int (nI k)), (0, .ref (m 31)), (1, .int i)]) (pc2 := 84) O dX7_owes_83 rfl (by decide) rfl rfl ?_
              refine zr_iinc (v := (nI (k + 1))) (lv2 := [(3, .int (nI (k + 1))), (2, .int ((sum + (nI 0)) - (nI 0))), (0, .ref (m 31)), (1, .int i)]) (pc2 := 87) O dX7_owes_84 1 rfl (zm_ofInt1 k) (by decide) rfl rfl ?_
              refine zr_goto (tgt := 16) O dX7_owes_87 (by decide) ?_
              have hE : f_X7_owes_16 mno i (n9 + 1) k sum = f_X7_owes_16 mno i n9 (k + 1) ((sum + (nI 0)) - (nI 0)) := by exact ((if_neg c34).trans (if_neg c65))
              exact ih16 (k + 1) ((sum + (nI 0)) - (nI 0)) (by omega) (hF16.trans hE)
            · refine zr_aload_n (pc2 := 69) O dX7_owes_68 rfl 2 rfl rfl ?_
              refine zr_getf (v := .ref (m 14)) (pc2 := 72) O sF_X7_owes_35 0 0 rfl rfl rfl dX7_owes_69 rfl ?_
              refine zr_iconst (v := (nI 3)) (pc2 := 73) O dX7_owes_72 (by decide +kernel) rfl ?_
              refine zr_iload_n (pc2 := 74) O dX7_owes_73 rfl 1 rfl rfl ?_
              refine zr_imul (v := (nI (3 * k))) (pc2 := 75) O dX7_owes_74 (pk_mul 3 k) rfl ?_
              refine zr_iconst (v := (nI 2)) (pc2 := 76) O dX7_owes_75 (by decide +kernel) rfl ?_
              refine zr_iadd (v := (nI ((3 * k) + 2))) (pc2 := 77) O dX7_owes_76 (nI_add (3 * k) 2) rfl ?_
              refine zn_iald (j := ((3 * k) + 2)) (pc2 := 78) O 0 6 0 rfl rfl rfl rfl (by omega) (by decide) dX7_owes_77 rfl ?_
              refine zr_goto (tgt := 82) O dX7_owes_78 (by decide) ?_
              refine zr_isub (v := ((sum + (nI 0)) - (mno ((3 * k) + 2)))) (pc2 := 83) O dX7_owes_82 rfl rfl ?_
              refine zr_istore_n (lv2 := [(2, .int ((sum + (nI 0)) - (mno ((3 * k) + 2)))), (3, .int (nI k)), (0, .ref (m 31)), (1, .int i)]) (pc2 := 84) O dX7_owes_83 rfl (by decide) rfl rfl ?_
              refine zr_iinc (v := (nI (k + 1))) (lv2 := [(3, .int (nI (k + 1))), (2, .int ((sum + (nI 0)) - (mno ((3 * k) + 2)))), (0, .ref (m 31)), (1, .int i)]) (pc2 := 87) O dX7_owes_84 1 rfl (zm_ofInt1 k) (by decide) rfl rfl ?_
              refine zr_goto (tgt := 16) O dX7_owes_87 (by decide) ?_
              have hE : f_X7_owes_16 mno i (n9 + 1) k sum = f_X7_owes_16 mno i n9 (k + 1) ((sum + (nI 0)) - (mno ((3 * k) + 2))) := by exact ((if_neg c34).trans (if_pos c65))
              exact ih16 (k + 1) ((sum + (nI 0)) - (mno ((3 * k) + 2))) (by omega) (hF16.trans hE)
          · refine zr_aload_n (pc2 := 38) O dX7_owes_37 rfl 2 rfl rfl ?_
            refine zr_getf (v := .ref (m 14)) (pc2 := 41) O sF_X7_owes_35 0 0 rfl rfl rfl dX7_owes_38 rfl ?_
            refine zr_iconst (v := (nI 3)) (pc2 := 42) O dX7_owes_41 (by decide +kernel) rfl ?_
            refine zr_iload_n (pc2 := 43) O dX7_owes_42 rfl 0 rfl rfl ?_
            refine zr_imul (v := (nI (3 * k))) (pc2 := 44) O dX7_owes_43 (pk_mul 3 k) rfl ?_
            refine zr_iconst (v := (nI 2)) (pc2 := 45) O dX7_owes_44 (by decide +kernel) rfl ?_
            refine zr_iadd (v := (nI ((3 * k) + 2))) (pc2 := 46) O dX7_owes_45 (nI_add (3 * k) 2) rfl ?_
            refine zn_iald (j := ((3 * k) + 2)) (pc2 := 47) O 0 6 0 rfl rfl rfl rfl (by omega) (by decide) dX7_owes_46 rfl ?_
            refine zr_goto (tgt := 51) O dX7_owes_47 (by decide) ?_
            refine zr_iadd (v := (sum + (mno ((3 * k) + 2)))) (pc2 := 52) O dX7_owes_51 rfl rfl ?_
            refine zr_istore_n (lv2 := [(2, .int (sum + (mno ((3 * k) + 2)))), (3, .int (nI k)), (0, .ref (m 31)), (1, .int i)]) (pc2 := 53) O dX7_owes_52 rfl (by decide) rfl rfl ?_
            refine zr_iload_n (pc2 := 54) O dX7_owes_53 rfl 0 rfl rfl ?_
            refine zr_aload_n (pc2 := 55) O dX7_owes_54 rfl 2 rfl rfl ?_
            refine zr_getf (v := .ref (m 14)) (pc2 := 58) O sF_X7_owes_35 0 0 rfl rfl rfl dX7_owes_55 rfl ?_
            refine zr_iconst (v := (nI 3)) (pc2 := 59) O dX7_owes_58 (by decide +kernel) rfl ?_
            refine zr_iload_n (pc2 := 60) O dX7_owes_59 rfl 1 rfl rfl ?_
            refine zr_imul (v := (nI (3 * k))) (pc2 := 61) O dX7_owes_60 (pk_mul 3 k) rfl ?_
            refine zr_iconst (v := (nI 1)) (pc2 := 62) O dX7_owes_61 (by decide +kernel) rfl ?_
            refine zr_iadd (v := (nI ((3 * k) + 1))) (pc2 := 63) O dX7_owes_62 (nI_add (3 * k) 1) rfl ?_
            refine zn_iald (j := ((3 * k) + 1)) (pc2 := 64) O 0 6 0 rfl rfl rfl rfl (by omega) (by decide) dX7_owes_63 rfl ?_
            refine zr_iload_n (pc2 := 65) O dX7_owes_64 rfl 3 rfl rfl ?_
            refine zr_icmp_ne (tgt := 81) (pc2 := 68) O dX7_owes_65 (by decide) rfl (fun c65 => ?_) (fun c65 => ?_)
            · refine zr_iconst (v := (nI 0)) (pc2 := 82) O dX7_owes_81 (by decide +kernel) rfl ?_
              refine zr_isub (v := ((sum + (mno ((3 * k) + 2))) - (nI 0))) (pc2 := 83) O dX7_owes_82 rfl rfl ?_
              refine zr_istore_n (lv2 := [(2, .int ((sum + (mno ((3 * k) + 2))) - (nI 0))), (3, .int (nI k)), (0, .ref (m 31)), (1, .int i)]) (pc2 := 84) O dX7_owes_83 rfl (by decide) rfl rfl ?_
              refine zr_iinc (v := (nI (k + 1))) (lv2 := [(3, .int (nI (k + 1))), (2, .int ((sum + (mno ((3 * k) + 2))) - (nI 0))), (0, .ref (m 31)), (1, .int i)]) (pc2 := 87) O dX7_owes_84 1 rfl (zm_ofInt1 k) (by decide) rfl rfl ?_
              refine zr_goto (tgt := 16) O dX7_owes_87 (by decide) ?_
              have hE : f_X7_owes_16 mno i (n9 + 1) k sum = f_X7_owes_16 mno i n9 (k + 1) ((sum + (mno ((3 * k) + 2))) - (nI 0)) := by exact ((if_pos c34).trans (if_neg c65))
              exact ih16 (k + 1) ((sum + (mno ((3 * k) + 2))) - (nI 0)) (by omega) (hF16.trans hE)
            · refine zr_aload_n (pc2 := 69) O dX7_owes_68 rfl 2 rfl rfl ?_
              refine zr_getf (v := .ref (m 14)) (pc2 := 72) O sF_X7_owes_35 0 0 rfl rfl rfl dX7_owes_69 rfl ?_
              refine zr_iconst (v := (nI 3)) (pc2 := 73) O dX7_owes_72 (by decide +kernel) rfl ?_
              refine zr_iload_n (pc2 := 74) O dX7_owes_73 rfl 1 rfl rfl ?_
              refine zr_imul (v := (nI (3 * k))) (pc2 := 75) O dX7_owes_74 (pk_mul 3 k) rfl ?_
              refine zr_iconst (v := (nI 2)) (pc2 := 76) O dX7_owes_75 (by decide +kernel) rfl ?_
              refine zr_iadd (v := (nI ((3 * k) + 2))) (pc2 := 77) O dX7_owes_76 (nI_add (3 * k) 2) rfl ?_
              refine zn_iald (j := ((3 * k) + 2)) (pc2 := 78) O 0 6 0 rfl rfl rfl rfl (by omega) (by decide) dX7_owes_77 rfl ?_
              refine zr_goto (tgt := 82) O dX7_owes_78 (by decide) ?_
              refine zr_isub (v := ((sum + (mno ((3 * k) + 2))) - (mno ((3 * k) + 2)))) (pc2 := 83) O dX7_owes_82 rfl rfl ?_
              refine zr_istore_n (lv2 := [(2, .int ((sum + (mno ((3 * k) + 2))) - (mno ((3 * k) + 2)))), (3, .int (nI k)), (0, .ref (m 31)), (1, .int i)]) (pc2 := 84) O dX7_owes_83 rfl (by decide) rfl rfl ?_
              refine zr_iinc (v := (nI (k + 1))) (lv2 := [(3, .int (nI (k + 1))), (2, .int ((sum + (mno ((3 * k) + 2))) - (mno ((3 * k) + 2)))), (0, .ref (m 31)), (1, .int i)]) (pc2 := 87) O dX7_owes_84 1 rfl (zm_ofInt1 k) (by decide) rfl rfl ?_
              refine zr_goto (tgt := 16) O dX7_owes_87 (by decide) ?_
              have hE : f_X7_owes_16 mno i (n9 + 1) k sum = f_X7_owes_16 mno i n9 (k + 1) ((sum + (mno ((3 * k) + 2))) - (mno ((3 * k) + 2))) := by exact ((if_pos c34).trans (if_pos c65))
              exact ih16 (k + 1) ((sum + (mno ((3 * k) + 2))) - (mno ((3 * k) + 2))) (by omega) (hF16.trans hE)
    exact lp16 mQ 0 (nI 1000) (by omega) rfl
  · refine zr_iconst (v := (-1)) (pc2 := 9) O dX7_owes_8 (by decide +kernel) rfl ?_
    have hE : s_X7_owes mP mQ mno i = (-1) := by exact (zif_f c5)
    exact hret _ _ _ _ dX7_owes_9 rfl (by rw [hE]) rfl
/-! X7_ring -/
def f_X7_ring_30 (mno : zF) (rch : Int32) : Nat → Nat → Int32 → Int32
  | 0, _, nxt => nxt
  | n9 + 1, k, nxt => if ((rch >>> ((mno (3 * k)) &&& 31)) &&& (nI 1)) = (nI 1) then f_X7_ring_30 mno rch n9 (k + 1) (nxt ||| ((nI 1) <<< ((mno ((3 * k) + 1)) &&& 31))) else f_X7_ring_30 mno rch n9 (k + 1) (nxt ||| (nI 0))
def f_X7_ring_16 (mQ : Nat) (mno : zF) (i : Int32) : Nat → Nat → Int32 → Int32
  | 0, _, _ => (-4)
  | n9 + 1, nn, rch => if (((f_X7_ring_30 mno rch mQ 0 (nI 0)) >>> (i &&& 31)) &&& (nI 1)) = (nI 1) then (nI nn) else f_X7_ring_16 mQ mno i n9 (nn + 1) (f_X7_ring_30 mno rch mQ 0 (nI 0))
def s_X7_ring (mP : Nat) (mQ : Nat) (mno : zF) (i : Int32) : Int32 := if (s_X7_in i (nI 0) ((nI mP) - (nI 1))) = true then f_X7_ring_16 mQ mno i mP 1 ((nI 1) <<< (i &&& 31)) else (-1)
set_option maxHeartbeats 4000000 in
set_option maxRecDepth 100000 in
theorem c_X7_ring (l : Launch) (D : va_G) (cI cC cJ : ClassId) (m : Nat → Nat) (mle : Nat) (mpo : Nat) (mfa : Nat) (mrm : Nat) (mrw : Nat) (mP : Nat) (mQ : Nat) (mbk : Nat) (mkp : Nat) (msg : Nat) (mwm : Nat) (mrs : Int32) (msd : Int32) (mls : Int32) (mhd : Int32) (mtx : zF) (mnu : zF) (mrd : zF) (mrl : zF) (mpe : zF) (mno : zF) (mbo : zF) (mim : zF) (msi : zF) (mwi : zF) (mon : zF) (mdi : zF) (mco : zF) (mgo : zF) (mbr : zF) (mca : zF) (i : Int32) (hmP : mP ≤ 6) (hmQ : mQ ≤ 9) : zD l yX7_ring wsX7_ring rm_X7_ring D (zT cI cC cJ) [.ref (m 31), .int i] [modW cI m mle mpo mfa mrm mrw mP mQ mbk mkp msg mwm mrs msd mls mhd mtx mnu mrd mrl mpe mno mbo mim msi mwi mon mdi mco mgo mbr mca] (some (.int (s_X7_ring mP mQ mno i))) [modW cI m mle mpo mfa mrm mrw mP mQ mbk mkp msg mwm mrs msd mls mhd mtx mnu mrd mrl mpe mno mbo mim msi mwi mon mdi mco mgo mbr mca] := by
  refine zD_int (cc := cX7_ring) (maxL := 6) (ty := .int) (lv := [(0, .ref (m 31)), (1, .int i)]) (by decide +kernel) rfl (Nat.le_of_ble_eq_true rfl) rfl (fun Z O hret => ?_)
  refine zr_aload_n (pc2 := 1) O dX7_ring_0 rfl 0 rfl rfl ?_
  refine zr_iload_n (pc2 := 2) O dX7_ring_1 rfl 1 rfl rfl ?_
  refine zr_callV (As := [.int i]) (rest := []) (ws2 := [modW cI m mle mpo mfa mrm mrw mP mQ mbk mkp msg mwm mrs msd mls mhd mtx mnu mrd mrl mpe mno mbo mim msi mwi mon mdi mco mgo mbr mca]) (pc2 := 5) (ci := 7) (g0 := 0) (q0 := 0) O (c_X7_isOne l D cI cC cJ m mle mpo mfa mrm mrw mP mQ mbk mkp msg mwm mrs msd mls mhd mtx mnu mrd mrl mpe mno mbo mim msi mwi mon mdi mco mgo mbr mca i) sC_X7_ring_122 rfl rfl rfl rfl rfl dX7_ring_2 [0] rfl rfl rfl rfl (Nat.le_of_ble_eq_true rfl) rfl ?_
  show Z _ _ _ [.int (zb (s_X7_in i (nI 0) ((nI mP) - (nI 1))))]
  refine zb_if_ne (tgt := 10) (pc2 := 8) O dX7_ring_5 (by decide) rfl (fun c5 => ?_) (fun c5 => ?_)
  · refine zr_iconst (v := (nI 1)) (pc2 := 11) O dX7_ring_10 (by decide +kernel) rfl ?_
    refine zr_iload_n (pc2 := 12) O dX7_ring_11 rfl 1 rfl rfl ?_
    refine zr_ishl (v := ((nI 1) <<< (i &&& 31))) (pc2 := 13) O dX7_ring_12 rfl rfl ?_
    refine zr_istore_n (lv2 := [(2, .int ((nI 1) <<< (i &&& 31))), (0, .ref (m 31)), (1, .int i)]) (pc2 := 14) O dX7_ring_13 rfl (by decide) rfl rfl ?_
    refine zr_iconst (v := (nI 1)) (pc2 := 15) O dX7_ring_14 (by decide +kernel) rfl ?_
    refine zr_istore_n (lv2 := [(3, .int (nI 1)), (2, .int ((nI 1) <<< (i &&& 31))), (0, .ref (m 31)), (1, .int i)]) (pc2 := 16) O dX7_ring_15 rfl (by decide) rfl rfl ?_
    have hS16 : s_X7_ring mP mQ mno i = f_X7_ring_16 mQ mno i mP 1 ((nI 1) <<< (i &&& 31)) := by exact (zif_t c5)
    have lp16 : ∀ (n9 : Nat) (nn : Nat) (rch : Int32), nn + n9 = (mP + 1) → f_X7_ring_16 mQ mno i mP 1 ((nI 1) <<< (i &&& 31)) = f_X7_ring_16 mQ mno i n9 nn rch → Z [modW cI m mle mpo mfa mrm mrw mP mQ mbk mkp msg mwm mrs msd mls mhd mtx mnu mrd mrl mpe mno mbo mim msi mwi mon mdi mco mgo mbr mca] [(3, .int (nI nn)), (2, .int rch), (0, .ref (m 31)), (1, .int i)] 16 [] := by
      intro n9
      induction n9 with
      | zero =>
        intro nn rch hM16 hF16
        refine zr_iload_n (pc2 := 17) O dX7_ring_16 rfl 0 rfl rfl ?_
        refine zr_aload_n (pc2 := 18) O dX7_ring_17 rfl 2 rfl rfl ?_
        refine zr_getf (v := .int (nI mP)) (pc2 := 21) O sF_X7_ring_22 0 0 rfl rfl rfl dX7_ring_18 rfl ?_
        refine zn_icmp_gt (tgt := 105) (pc2 := 24) O dX7_ring_21 (by decide) rfl (by omega) (by omega) (fun c21 => ?_) (fun c21 => ?_)
        · refine zr_bipush (v := (-4)) (pc2 := 107) O dX7_ring_105 (by decide +kernel) rfl ?_
          have hE : f_X7_ring_16 mQ mno i 0 nn rch = (-4) := by exact rfl
          have hE := hS16.trans (hF16.trans hE)
          exact hret _ _ _ _ dX7_ring_107 rfl (by rw [hE]) rfl
        · exact absurd c21 (by omega)
      | succ n9 ih16 =>
        intro nn rch hM16 hF16
        refine zr_iload_n (pc2 := 17) O dX7_ring_16 rfl 0 rfl rfl ?_
        refine zr_aload_n (pc2 := 18) O dX7_ring_17 rfl 2 rfl rfl ?_
        refine zr_getf (v := .int (nI mP)) (pc2 := 21) O sF_X7_ring_22 0 0 rfl rfl rfl dX7_ring_18 rfl ?_
        refine zn_icmp_gt (tgt := 105) (pc2 := 24) O dX7_ring_21 (by decide) rfl (by omega) (by omega) (fun c21 => ?_) (fun c21 => ?_)
        · exact absurd c21 (by omega)
        · refine zr_iconst (v := (nI 0)) (pc2 := 25) O dX7_ring_24 (by decide +kernel) rfl ?_
          refine zr_istore (lv2 := [(4, .int (nI 0)), (3, .int (nI nn)), (2, .int rch), (0, .ref (m 31)), (1, .int i)]) (pc2 := 27) O dX7_ring_25 (by decide) rfl rfl ?_
          refine zr_iconst (v := (nI 0)) (pc2 := 28) O dX7_ring_27 (by decide +kernel) rfl ?_
          refine zr_istore (lv2 := [(5, .int (nI 0)), (4, .int (nI 0)), (3, .int (nI nn)), (2, .int rch), (0, .ref (m 31)), (1, .int i)]) (pc2 := 30) O dX7_ring_28 (by decide) rfl rfl ?_
          have lp30 : ∀ (n9 : Nat) (k : Nat) (nxt : Int32), k + n9 = mQ → f_X7_ring_30 mno rch mQ 0 (nI 0) = f_X7_ring_30 mno rch n9 k nxt → Z [modW cI m mle mpo mfa mrm mrw mP mQ mbk mkp msg mwm mrs msd mls mhd mtx mnu mrd mrl mpe mno mbo mim msi mwi mon mdi mco mgo mbr mca] [(5, .int (nI k)), (4, .int nxt), (3, .int (nI nn)), (2, .int rch), (0, .ref (m 31)), (1, .int i)] 30 [] := by
            intro n9
            induction n9 with
            | zero =>
              intro k nxt hM30 hF30
              have hI30 : mQ = k := by omega
              subst hI30
              have e9 : (f_X7_ring_30 mno rch mQ 0 (nI 0)) = nxt := hF30
              subst e9
              refine zr_iload (pc2 := 32) O dX7_ring_30 0 rfl rfl ?_
              refine zr_aload_n (pc2 := 33) O dX7_ring_32 rfl 4 rfl rfl ?_
              refine zr_getf (v := .int (nI mQ)) (pc2 := 36) O sF_X7_ring_29 0 0 rfl rfl rfl dX7_ring_33 rfl ?_
              refine zn_icmp_ge (tgt := 84) (pc2 := 39) O dX7_ring_36 (by decide) rfl (by omega) (by omega) (fun c36 => ?_) (fun c36 => ?_)
              · refine zr_iload (pc2 := 86) O dX7_ring_84 1 rfl rfl ?_
                refine zr_iload_n (pc2 := 87) O dX7_ring_86 rfl 5 rfl rfl ?_
                refine zr_ishr (v := ((f_X7_ring_30 mno rch mQ 0 (nI 0)) >>> (i &&& 31))) (pc2 := 88) O dX7_ring_87 rfl rfl ?_
                refine zr_iconst (v := (nI 1)) (pc2 := 89) O dX7_ring_88 (by decide +kernel) rfl ?_
                refine zr_iand (v := (((f_X7_ring_30 mno rch mQ 0 (nI 0)) >>> (i &&& 31)) &&& (nI 1))) (pc2 := 90) O dX7_ring_89 rfl rfl ?_
                refine zr_iconst (v := (nI 1)) (pc2 := 91) O dX7_ring_90 (by decide +kernel) rfl ?_
                refine zr_icmp_ne (tgt := 96) (pc2 := 94) O dX7_ring_91 (by decide) rfl (fun c91 => ?_) (fun c91 => ?_)
                · refine zr_iload (pc2 := 98) O dX7_ring_96 1 rfl rfl ?_
                  refine zr_istore_n (lv2 := [(2, .int (f_X7_ring_30 mno rch mQ 0 (nI 0))), (5, .int (nI mQ)), (4, .int (f_X7_ring_30 mno rch mQ 0 (nI 0))), (3, .int (nI nn)), (0, .ref (m 31)), (1, .int i)]) (pc2 := 99) O dX7_ring_98 rfl (by decide) rfl rfl ?_
                  refine zr_iinc (v := (nI (nn + 1))) (lv2 := [(3, .int (nI (nn + 1))), (2, .int (f_X7_ring_30 mno rch mQ 0 (nI 0))), (5, .int (nI mQ)), (4, .int (f_X7_ring_30 mno rch mQ 0 (nI 0))), (0, .ref (m 31)), (1, .int i)]) (pc2 := 102) O dX7_ring_99 3 rfl (zm_ofInt1 nn) (by decide) rfl rfl ?_
                  refine zr_goto (tgt := 16) O dX7_ring_102 (by decide) ?_
                  refine zr_sub (lv2 := [(3, .int (nI (nn + 1))), (2, .int (f_X7_ring_30 mno rch mQ 0 (nI 0))), (0, .ref (m 31)), (1, .int i)]) O [0, 1, 4, 5] rfl ?_
                  have hE : f_X7_ring_16 mQ mno i (n9 + 1) nn rch = f_X7_ring_16 mQ mno i n9 (nn + 1) (f_X7_ring_30 mno rch mQ 0 (nI 0)) := by exact (if_neg c91)
                  exact ih16 (nn + 1) (f_X7_ring_30 mno rch mQ 0 (nI 0)) (by omega) (hF16.trans hE)
                · refine zr_iload_n (pc2 := 95) O dX7_ring_94 rfl 2 rfl rfl ?_
                  have hE : f_X7_ring_16 mQ mno i (n9 + 1) nn rch = (nI nn) := by exact (if_pos c91)
                  have hE := hS16.trans (hF16.trans hE)
                  exact hret _ _ _ _ dX7_ring_95 rfl (by rw [hE]) rfl
              · exact absurd c36 (by omega)
            | succ n9 ih30 =>
              intro k nxt hM30 hF30
              refine zr_iload (pc2 := 32) O dX7_ring_30 0 rfl rfl ?_
              refine zr_aload_n (pc2 := 33) O dX7_ring_32 rfl 4 rfl rfl ?_
              refine zr_getf (v := .int (nI mQ)) (pc2 := 36) O sF_X7_ring_29 0 0 rfl rfl rfl dX7_ring_33 rfl ?_
              refine zn_icmp_ge (tgt := 84) (pc2 := 39) O dX7_ring_36 (by decide) rfl (by omega) (by omega) (fun c36 => ?_) (fun c36 => ?_)
              · exact absurd c36 (by omega)
              · refine zr_iload (pc2 := 41) O dX7_ring_39 1 rfl rfl ?_
                refine zr_iload_n (pc2 := 42) O dX7_ring_41 rfl 3 rfl rfl ?_
                refine zr_aload_n (pc2 := 43) O dX7_ring_42 rfl 4 rfl rfl ?_
                refine zr_getf (v := .ref (m 14)) (pc2 := 46) O sF_X7_ring_35 0 0 rfl rfl rfl dX7_ring_43 rfl ?_
                refine zr_iconst (v := (nI 3)) (pc2 := 47) O dX7_ring_46 (by decide +kernel) rfl ?_
                refine zr_iload (pc2 := 49) O dX7_ring_47 0 rfl rfl ?_
                refine zr_imul (v := (nI (3 * k))) (pc2 := 50) O dX7_ring_49 (pk_mul 3 k) rfl ?_
                refine zn_iald (j := (3 * k)) (pc2 := 51) O 0 6 0 rfl rfl rfl rfl (by omega) (by decide) dX7_ring_50 rfl ?_
                refine zr_ishr (v := (rch >>> ((mno (3 * k)) &&& 31))) (pc2 := 52) O dX7_ring_51 rfl rfl ?_
                refine zr_iconst (v := (nI 1)) (pc2 := 53) O dX7_ring_52 (by decide +kernel) rfl ?_
                refine zr_iand (v := ((rch >>> ((mno (3 * k)) &&& 31)) &&& (nI 1))) (pc2 := 54) O dX7_ring_53 rfl rfl ?_
                refine zr_iconst (v := (nI 1)) (pc2 := 55) O dX7_ring_54 (by decide +kernel) rfl ?_
                refine zr_icmp_ne (tgt := 74) (pc2 := 58) O dX7_ring_55 (by decide) rfl (fun c55 => ?_) (fun c55 => ?_)
                · refine zr_iconst (v := (nI 0)) (pc2 := 75) O dX7_ring_74 (by decide +kernel) rfl ?_
                  refine zr_ior (v := (nxt ||| (nI 0))) (pc2 := 76) O dX7_ring_75 rfl rfl ?_
                  refine zr_istore (lv2 := [(4, .int (nxt ||| (nI 0))), (5, .int (nI k)), (3, .int (nI nn)), (2, .int rch), (0, .ref (m 31)), (1, .int i)]) (pc2 := 78) O dX7_ring_76 (by decide) rfl rfl ?_
                  refine zr_iinc (v := (nI (k + 1))) (lv2 := [(5, .int (nI (k + 1))), (4, .int (nxt ||| (nI 0))), (3, .int (nI nn)), (2, .int rch), (0, .ref (m 31)), (1, .int i)]) (pc2 := 81) O dX7_ring_78 1 rfl (zm_ofInt1 k) (by decide) rfl rfl ?_
                  refine zr_goto (tgt := 30) O dX7_ring_81 (by decide) ?_
                  have hE : f_X7_ring_30 mno rch (n9 + 1) k nxt = f_X7_ring_30 mno rch n9 (k + 1) (nxt ||| (nI 0)) := by exact (if_neg c55)
                  exact ih30 (k + 1) (nxt ||| (nI 0)) (by omega) (hF30.trans hE)
                · refine zr_iconst (v := (nI 1)) (pc2 := 59) O dX7_ring_58 (by decide +kernel) rfl ?_
                  refine zr_aload_n (pc2 := 60) O dX7_ring_59 rfl 4 rfl rfl ?_
                  refine zr_getf (v := .ref (m 14)) (pc2 := 63) O sF_X7_ring_35 0 0 rfl rfl rfl dX7_ring_60 rfl ?_
                  refine zr_iconst (v := (nI 3)) (pc2 := 64) O dX7_ring_63 (by decide +kernel) rfl ?_
                  refine zr_iload (pc2 := 66) O dX7_ring_64 0 rfl rfl ?_
                  refine zr_imul (v := (nI (3 * k))) (pc2 := 67) O dX7_ring_66 (pk_mul 3 k) rfl ?_
                  refine zr_iconst (v := (nI 1)) (pc2 := 68) O dX7_ring_67 (by decide +kernel) rfl ?_
                  refine zr_iadd (v := (nI ((3 * k) + 1))) (pc2 := 69) O dX7_ring_68 (nI_add (3 * k) 1) rfl ?_
                  refine zn_iald (j := ((3 * k) + 1)) (pc2 := 70) O 0 6 0 rfl rfl rfl rfl (by omega) (by decide) dX7_ring_69 rfl ?_
                  refine zr_ishl (v := ((nI 1) <<< ((mno ((3 * k) + 1)) &&& 31))) (pc2 := 71) O dX7_ring_70 rfl rfl ?_
                  refine zr_goto (tgt := 75) O dX7_ring_71 (by decide) ?_
                  refine zr_ior (v := (nxt ||| ((nI 1) <<< ((mno ((3 * k) + 1)) &&& 31)))) (pc2 := 76) O dX7_ring_75 rfl rfl ?_
                  refine zr_istore (lv2 := [(4, .int (nxt ||| ((nI 1) <<< ((mno ((3 * k) + 1)) &&& 31)))), (5, .int (nI k)), (3, .int (nI nn)), (2, .int rch), (0, .ref (m 31)), (1, .int i)]) (pc2 := 78) O dX7_ring_76 (by decide) rfl rfl ?_
                  refine zr_iinc (v := (nI (k + 1))) (lv2 := [(5, .int (nI (k + 1))), (4, .int (nxt ||| ((nI 1) <<< ((mno ((3 * k) + 1)) &&& 31)))), (3, .int (nI nn)), (2, .int rch), (0, .ref (m 31)), (1, .int i)]) (pc2 := 81) O dX7_ring_78 1 rfl (zm_ofInt1 k) (by decide) rfl rfl ?_
                  refine zr_goto (tgt := 30) O dX7_ring_81 (by decide) ?_
                  have hE : f_X7_ring_30 mno rch (n9 + 1) k nxt = f_X7_ring_30 mno rch n9 (k + 1) (nxt ||| ((nI 1) <<< ((mno ((3 * k) + 1)) &&& 31))) := by exact (if_pos c55)
                  exact ih30 (k + 1) (nxt ||| ((nI 1) <<< ((mno ((3 * k) + 1)) &&& 31))) (by omega) (hF30.trans hE)
          exact lp30 mQ 0 (nI 0) (by omega) rfl
    exact lp16 mP 1 ((nI 1) <<< (i &&& 31)) (by omega) rfl
  · refine zr_iconst (v := (-1)) (pc2 := 9) O dX7_ring_8 (by decide +kernel) rfl ?_
    have hE : s_X7_ring mP mQ mno i = (-1) := by exact (zif_f c5)
    exact hret _ _ _ _ dX7_ring_9 rfl (by rw [hE]) rfl
/-! X7_seen -/
def s_X7_seen (mP : Nat) (msg : Nat) (msi : zF) (a1 : Int32) (a2 : Int32) (a3 : Int32) : Int32 × Nat × zF := if (s_X7_in a1 (nI 0) ((nI mP) - (nI 1))) = true then if (s_X7_in a2 (nI 0) (nI 150)) = true then if (s_X7_in a3 (nI 0) (nI 999)) = true then if msg = 8 then ((-3), msg, msi) else ((nI (msg + 1)), msg + 1, (upd (upd (upd msi (3 * msg) a1) ((3 * msg) + 1) a2) ((3 * msg) + 2) a3)) else ((-1), msg, msi) else ((-1), msg, msi) else ((-1), msg, msi)
set_option maxHeartbeats 4000000 in
set_option maxRecDepth 100000 in
theorem c_X7_seen (l : Launch) (D : va_G) (cI cC cJ : ClassId) (m : Nat → Nat) (mle : Nat) (mpo : Nat) (mfa : Nat) (mrm : Nat) (mrw : Nat) (mP : Nat) (mQ : Nat) (mbk : Nat) (mkp : Nat) (msg : Nat) (mwm : Nat) (mrs : Int32) (msd : Int32) (mls : Int32) (mhd : Int32) (mtx : zF) (mnu : zF) (mrd : zF) (mrl : zF) (mpe : zF) (mno : zF) (mbo : zF) (mim : zF) (msi : zF) (mwi : zF) (mon : zF) (mdi : zF) (mco : zF) (mgo : zF) (mbr : zF) (mca : zF) (a1 : Int32) (a2 : Int32) (a3 : Int32) (hmsg : msg ≤ 8) : zD l yX7_seen wsX7_seen rm_X7_seen D (zT cI cC cJ) [.ref (m 31), .int a1, .int a2, .int a3] [modW cI m mle mpo mfa mrm mrw mP mQ mbk mkp msg mwm mrs msd mls mhd mtx mnu mrd mrl mpe mno mbo mim msi mwi mon mdi mco mgo mbr mca] (some (.int ((s_X7_seen mP msg msi a1 a2 a3).1))) [modW cI m mle mpo mfa mrm mrw mP mQ mbk mkp ((s_X7_seen mP msg msi a1 a2 a3).2.1) mwm mrs msd mls mhd mtx mnu mrd mrl mpe mno mbo mim ((s_X7_seen mP msg msi a1 a2 a3).2.2) mwi mon mdi mco mgo mbr mca] := by
  refine zD_int (cc := cX7_seen) (maxL := 4) (ty := .int) (lv := [(0, .ref (m 31)), (1, .int a1), (2, .int a2), (3, .int a3)]) (by decide +kernel) rfl (Nat.le_of_ble_eq_true rfl) rfl (fun Z O hret => ?_)
  refine zr_aload_n (pc2 := 1) O dX7_seen_0 rfl 0 rfl rfl ?_
  refine zr_iload_n (pc2 := 2) O dX7_seen_1 rfl 1 rfl rfl ?_
  refine zr_callV (As := [.int a1]) (rest := []) (ws2 := [modW cI m mle mpo mfa mrm mrw mP mQ mbk mkp msg mwm mrs msd mls mhd mtx mnu mrd mrl mpe mno mbo mim msi mwi mon mdi mco mgo mbr mca]) (pc2 := 5) (ci := 7) (g0 := 0) (q0 := 0) O (c_X7_isOne l D cI cC cJ m mle mpo mfa mrm mrw mP mQ mbk mkp msg mwm mrs msd mls mhd mtx mnu mrd mrl mpe mno mbo mim msi mwi mon mdi mco mgo mbr mca a1) sC_X7_seen_122 rfl rfl rfl rfl rfl dX7_seen_2 [0] rfl rfl rfl rfl (Nat.le_of_ble_eq_true rfl) rfl ?_
  show Z _ _ _ [.int (zb (s_X7_in a1 (nI 0) ((nI mP) - (nI 1))))]
  refine zb_if_eq (tgt := 30) (pc2 := 8) O dX7_seen_5 (by decide) rfl (fun c5 => ?_) (fun c5 => ?_)
  · refine zr_iconst (v := (-1)) (pc2 := 31) O dX7_seen_30 (by decide +kernel) rfl ?_
    have hE : s_X7_seen mP msg msi a1 a2 a3 = ((-1), msg, msi) := by exact (zif_f c5)
    exact hret _ _ _ _ dX7_seen_31 rfl (by rw [hE]) (by rw [hE])
  · refine zr_iload_n (pc2 := 9) O dX7_seen_8 rfl 2 rfl rfl ?_
    refine zr_iconst (v := (nI 0)) (pc2 := 10) O dX7_seen_9 (by decide +kernel) rfl ?_
    refine zr_sipush (v := (nI 150)) (pc2 := 13) O dX7_seen_10 (by decide +kernel) rfl ?_
    refine zr_callS (As := [.int a2, .int (nI 0), .int (nI 150)]) (rest := []) (ws2 := [modW cI m mle mpo mfa mrm mrw mP mQ mbk mkp msg mwm mrs msd mls mhd mtx mnu mrd mrl mpe mno mbo mim msi mwi mon mdi mco mgo mbr mca]) (pc2 := 16) O (c_X7_in l D cI cC cJ a2 (nI 0) (nI 150)) sC_X7_seen_76 rfl rfl dX7_seen_13 [] rfl rfl rfl rfl (Nat.le_of_ble_eq_true rfl) rfl ?_
    show Z _ _ _ [.int (zb (s_X7_in a2 (nI 0) (nI 150)))]
    refine zb_if_eq (tgt := 30) (pc2 := 19) O dX7_seen_16 (by decide) rfl (fun c16 => ?_) (fun c16 => ?_)
    · refine zr_iconst (v := (-1)) (pc2 := 31) O dX7_seen_30 (by decide +kernel) rfl ?_
      have hE : s_X7_seen mP msg msi a1 a2 a3 = ((-1), msg, msi) := by exact ((zif_t c5).trans (zif_f c16))
      exact hret _ _ _ _ dX7_seen_31 rfl (by rw [hE]) (by rw [hE])
    · refine zr_iload_n (pc2 := 20) O dX7_seen_19 rfl 3 rfl rfl ?_
      refine zr_iconst (v := (nI 0)) (pc2 := 21) O dX7_seen_20 (by decide +kernel) rfl ?_
      refine zr_sipush (v := (nI 999)) (pc2 := 24) O dX7_seen_21 (by decide +kernel) rfl ?_
      refine zr_callS (As := [.int a3, .int (nI 0), .int (nI 999)]) (rest := []) (ws2 := [modW cI m mle mpo mfa mrm mrw mP mQ mbk mkp msg mwm mrs msd mls mhd mtx mnu mrd mrl mpe mno mbo mim msi mwi mon mdi mco mgo mbr mca]) (pc2 := 27) O (c_X7_in l D cI cC cJ a3 (nI 0) (nI 999)) sC_X7_seen_76 rfl rfl dX7_seen_24 [] rfl rfl rfl rfl (Nat.le_of_ble_eq_true rfl) rfl ?_
      show Z _ _ _ [.int (zb (s_X7_in a3 (nI 0) (nI 999)))]
      refine zb_if_ne (tgt := 32) (pc2 := 30) O dX7_seen_27 (by decide) rfl (fun c27 => ?_) (fun c27 => ?_)
      · refine zr_aload_n (pc2 := 33) O dX7_seen_32 rfl 0 rfl rfl ?_
        refine zr_getf (v := .int (nI msg)) (pc2 := 36) O sF_X7_seen_113 0 0 rfl rfl rfl dX7_seen_33 rfl ?_
        refine zr_bipush (v := (nI 8)) (pc2 := 38) O dX7_seen_36 (by decide +kernel) rfl ?_
        refine zn_icmp_ne (tgt := 44) (pc2 := 41) O dX7_seen_38 (by decide) rfl (by omega) (by omega) (fun c38 => ?_) (fun c38 => ?_)
        · refine zr_aload_n (pc2 := 45) O dX7_seen_44 rfl 0 rfl rfl ?_
          refine zr_getf (v := .ref (m 20)) (pc2 := 48) O sF_X7_seen_44 0 0 rfl rfl rfl dX7_seen_45 rfl ?_
          refine zr_iconst (v := (nI 3)) (pc2 := 49) O dX7_seen_48 (by decide +kernel) rfl ?_
          refine zr_aload_n (pc2 := 50) O dX7_seen_49 rfl 0 rfl rfl ?_
          refine zr_getf (v := .int (nI msg)) (pc2 := 53) O sF_X7_seen_113 0 0 rfl rfl rfl dX7_seen_50 rfl ?_
          refine zr_imul (v := (nI (3 * msg))) (pc2 := 54) O dX7_seen_53 (pk_mul 3 msg) rfl ?_
          refine zr_iload_n (pc2 := 55) O dX7_seen_54 rfl 1 rfl rfl ?_
          refine zn_iast (j := (3 * msg)) (G2 := modW cI m mle mpo mfa mrm mrw mP mQ mbk mkp msg mwm mrs msd mls mhd mtx mnu mrd mrl mpe mno mbo mim (upd msi (3 * msg) a1) mwi mon mdi mco mgo mbr mca) (ws2 := [modW cI m mle mpo mfa mrm mrw mP mQ mbk mkp msg mwm mrs msd mls mhd mtx mnu mrd mrl mpe mno mbo mim (upd msi (3 * msg) a1) mwi mon mdi mco mgo mbr mca]) (pc2 := 56) O 0 9 0 rfl rfl rfl rfl (by omega) (by decide) dX7_seen_55 rfl rfl rfl ?_
          refine zr_aload_n (pc2 := 57) O dX7_seen_56 rfl 0 rfl rfl ?_
          refine zr_getf (v := .ref (m 20)) (pc2 := 60) O sF_X7_seen_44 0 0 rfl rfl rfl dX7_seen_57 rfl ?_
          refine zr_iconst (v := (nI 3)) (pc2 := 61) O dX7_seen_60 (by decide +kernel) rfl ?_
          refine zr_aload_n (pc2 := 62) O dX7_seen_61 rfl 0 rfl rfl ?_
          refine zr_getf (v := .int (nI msg)) (pc2 := 65) O sF_X7_seen_113 0 0 rfl rfl rfl dX7_seen_62 rfl ?_
          refine zr_imul (v := (nI (3 * msg))) (pc2 := 66) O dX7_seen_65 (pk_mul 3 msg) rfl ?_
          refine zr_iconst (v := (nI 1)) (pc2 := 67) O dX7_seen_66 (by decide +kernel) rfl ?_
          refine zr_iadd (v := (nI ((3 * msg) + 1))) (pc2 := 68) O dX7_seen_67 (nI_add (3 * msg) 1) rfl ?_
          refine zr_iload_n (pc2 := 69) O dX7_seen_68 rfl 2 rfl rfl ?_
          refine zn_iast (j := ((3 * msg) + 1)) (G2 := modW cI m mle mpo mfa mrm mrw mP mQ mbk mkp msg mwm mrs msd mls mhd mtx mnu mrd mrl mpe mno mbo mim (upd (upd msi (3 * msg) a1) ((3 * msg) + 1) a2) mwi mon mdi mco mgo mbr mca) (ws2 := [modW cI m mle mpo mfa mrm mrw mP mQ mbk mkp msg mwm mrs msd mls mhd mtx mnu mrd mrl mpe mno mbo mim (upd (upd msi (3 * msg) a1) ((3 * msg) + 1) a2) mwi mon mdi mco mgo mbr mca]) (pc2 := 70) O 0 9 0 rfl rfl rfl rfl (by omega) (by decide) dX7_seen_69 rfl rfl rfl ?_
          refine zr_aload_n (pc2 := 71) O dX7_seen_70 rfl 0 rfl rfl ?_
          refine zr_getf (v := .ref (m 20)) (pc2 := 74) O sF_X7_seen_44 0 0 rfl rfl rfl dX7_seen_71 rfl ?_
          refine zr_iconst (v := (nI 3)) (pc2 := 75) O dX7_seen_74 (by decide +kernel) rfl ?_
          refine zr_aload_n (pc2 := 76) O dX7_seen_75 rfl 0 rfl rfl ?_
          refine zr_getf (v := .int (nI msg)) (pc2 := 79) O sF_X7_seen_113 0 0 rfl rfl rfl dX7_seen_76 rfl ?_
          refine zr_imul (v := (nI (3 * msg))) (pc2 := 80) O dX7_seen_79 (pk_mul 3 msg) rfl ?_
          refine zr_iconst (v := (nI 2)) (pc2 := 81) O dX7_seen_80 (by decide +kernel) rfl ?_
          refine zr_iadd (v := (nI ((3 * msg) + 2))) (pc2 := 82) O dX7_seen_81 (nI_add (3 * msg) 2) rfl ?_
          refine zr_iload_n (pc2 := 83) O dX7_seen_82 rfl 3 rfl rfl ?_
          refine zn_iast (j := ((3 * msg) + 2)) (G2 := modW cI m mle mpo mfa mrm mrw mP mQ mbk mkp msg mwm mrs msd mls mhd mtx mnu mrd mrl mpe mno mbo mim (upd (upd (upd msi (3 * msg) a1) ((3 * msg) + 1) a2) ((3 * msg) + 2) a3) mwi mon mdi mco mgo mbr mca) (ws2 := [modW cI m mle mpo mfa mrm mrw mP mQ mbk mkp msg mwm mrs msd mls mhd mtx mnu mrd mrl mpe mno mbo mim (upd (upd (upd msi (3 * msg) a1) ((3 * msg) + 1) a2) ((3 * msg) + 2) a3) mwi mon mdi mco mgo mbr mca]) (pc2 := 84) O 0 9 0 rfl rfl rfl rfl (by omega) (by decide) dX7_seen_83 rfl rfl rfl ?_
          refine zr_aload_n (pc2 := 85) O dX7_seen_84 rfl 0 rfl rfl ?_
          refine zr_dup (pc2 := 86) O dX7_seen_85 rfl rfl ?_
          refine zr_getf (v := .int (nI msg)) (pc2 := 89) O sF_X7_seen_113 0 0 rfl rfl rfl dX7_seen_86 rfl ?_
          refine zr_iconst (v := (nI 1)) (pc2 := 90) O dX7_seen_89 (by decide +kernel) rfl ?_
          refine zr_iadd (v := (nI (msg + 1))) (pc2 := 91) O dX7_seen_90 (nI_add msg 1) rfl ?_
          refine zr_putf (G2 := modW cI m mle mpo mfa mrm mrw mP mQ mbk mkp (msg + 1) mwm mrs msd mls mhd mtx mnu mrd mrl mpe mno mbo mim (upd (upd (upd msi (3 * msg) a1) ((3 * msg) + 1) a2) ((3 * msg) + 2) a3) mwi mon mdi mco mgo mbr mca) (ws2 := [modW cI m mle mpo mfa mrm mrw mP mQ mbk mkp (msg + 1) mwm mrs msd mls mhd mtx mnu mrd mrl mpe mno mbo mim (upd (upd (upd msi (3 * msg) a1) ((3 * msg) + 1) a2) ((3 * msg) + 2) a3) mwi mon mdi mco mgo mbr mca]) (pc2 := 94) O sP_X7_seen_113 0 0 rfl rfl rfl rfl (Nat.le_of_ble_eq_true rfl) dX7_seen_91 rfl rfl rfl ?_
          refine zr_aload_n (pc2 := 95) O dX7_seen_94 rfl 0 rfl rfl ?_
          refine zr_getf (v := .int (nI (msg + 1))) (pc2 := 98) O sF_X7_seen_113 0 0 rfl rfl rfl dX7_seen_95 rfl ?_
          have hE : s_X7_seen mP msg msi a1 a2 a3 = ((nI (msg + 1)), msg + 1, (upd (upd (upd msi (3 * msg) a1) ((3 * msg) + 1) a2) ((3 * msg) + 2) a3)) := by exact ((zif_t c5).trans ((zif_t c16).trans ((zif_t c27).trans (if_neg c38))))
          exact hret _ _ _ _ dX7_seen_98 rfl (by rw [hE]) (by rw [hE])
        · refine zr_bipush (v := (-3)) (pc2 := 43) O dX7_seen_41 (by decide +kernel) rfl ?_
          have hE : s_X7_seen mP msg msi a1 a2 a3 = ((-3), msg, msi) := by exact ((zif_t c5).trans ((zif_t c16).trans ((zif_t c27).trans (if_pos c38))))
          exact hret _ _ _ _ dX7_seen_43 rfl (by rw [hE]) (by rw [hE])
      · refine zr_iconst (v := (-1)) (pc2 := 31) O dX7_seen_30 (by decide +kernel) rfl ?_
        have hE : s_X7_seen mP msg msi a1 a2 a3 = ((-1), msg, msi) := by exact ((zif_t c5).trans ((zif_t c16).trans (zif_f c27)))
        exact hret _ _ _ _ dX7_seen_31 rfl (by rw [hE]) (by rw [hE])
/-! X7_forget -/
def s_X7_forget (msg : Nat) : Int32 × Nat := ((nI msg), 0)
set_option maxHeartbeats 4000000 in
set_option maxRecDepth 100000 in
theorem c_X7_forget (l : Launch) (D : va_G) (cI cC cJ : ClassId) (m : Nat → Nat) (mle : Nat) (mpo : Nat) (mfa : Nat) (mrm : Nat) (mrw : Nat) (mP : Nat) (mQ : Nat) (mbk : Nat) (mkp : Nat) (msg : Nat) (mwm : Nat) (mrs : Int32) (msd : Int32) (mls : Int32) (mhd : Int32) (mtx : zF) (mnu : zF) (mrd : zF) (mrl : zF) (mpe : zF) (mno : zF) (mbo : zF) (mim : zF) (msi : zF) (mwi : zF) (mon : zF) (mdi : zF) (mco : zF) (mgo : zF) (mbr : zF) (mca : zF) : zD l yX7_forget wsX7_forget rm_X7_forget D (zT cI cC cJ) [.ref (m 31)] [modW cI m mle mpo mfa mrm mrw mP mQ mbk mkp msg mwm mrs msd mls mhd mtx mnu mrd mrl mpe mno mbo mim msi mwi mon mdi mco mgo mbr mca] (some (.int ((s_X7_forget msg).1))) [modW cI m mle mpo mfa mrm mrw mP mQ mbk mkp ((s_X7_forget msg).2) mwm mrs msd mls mhd mtx mnu mrd mrl mpe mno mbo mim msi mwi mon mdi mco mgo mbr mca] := by
  refine zD_int (cc := cX7_forget) (maxL := 2) (ty := .int) (lv := [(0, .ref (m 31))]) (by decide +kernel) rfl (Nat.le_of_ble_eq_true rfl) rfl (fun Z O hret => ?_)
  refine zr_aload_n (pc2 := 1) O dX7_forget_0 rfl 0 rfl rfl ?_
  refine zr_getf (v := .int (nI msg)) (pc2 := 4) O sF_X7_forget_113 0 0 rfl rfl rfl dX7_forget_1 rfl ?_
  refine zr_istore_n (lv2 := [(1, .int (nI msg)), (0, .ref (m 31))]) (pc2 := 5) O dX7_forget_4 rfl (by decide) rfl rfl ?_
  refine zr_aload_n (pc2 := 6) O dX7_forget_5 rfl 1 rfl rfl ?_
  refine zr_iconst (v := (nI 0)) (pc2 := 7) O dX7_forget_6 (by decide +kernel) rfl ?_
  refine zr_putf (G2 := modW cI m mle mpo mfa mrm mrw mP mQ mbk mkp 0 mwm mrs msd mls mhd mtx mnu mrd mrl mpe mno mbo mim msi mwi mon mdi mco mgo mbr mca) (ws2 := [modW cI m mle mpo mfa mrm mrw mP mQ mbk mkp 0 mwm mrs msd mls mhd mtx mnu mrd mrl mpe mno mbo mim msi mwi mon mdi mco mgo mbr mca]) (pc2 := 10) O sP_X7_forget_113 0 0 rfl rfl rfl rfl (Nat.le_of_ble_eq_true rfl) dX7_forget_7 rfl rfl rfl ?_
  refine zr_iload_n (pc2 := 11) O dX7_forget_10 rfl 0 rfl rfl ?_
  have hE : s_X7_forget msg = ((nI msg), 0) := by exact rfl
  exact hret _ _ _ _ dX7_forget_11 rfl (by rw [hE]) (by rw [hE])
/-! X7_count -/
def s_X7_count (mle : Nat) (mP : Nat) (mQ : Nat) (mbk : Nat) (mkp : Nat) (msg : Nat) (mno : zF) (wh : Int32) : Int32 := if wh = nI 0 then (nI mP) else if wh = nI 1 then (nI mQ) else if wh = nI 2 then (mno 27) else if wh = nI 3 then (nI msg) else if wh = nI 4 then (nI mbk) else if wh = nI 5 then (nI mkp) else if wh = nI 6 then (nI mle) else (-1)
set_option maxHeartbeats 4000000 in
set_option maxRecDepth 100000 in
theorem c_X7_count (l : Launch) (D : va_G) (cI cC cJ : ClassId) (m : Nat → Nat) (mle : Nat) (mpo : Nat) (mfa : Nat) (mrm : Nat) (mrw : Nat) (mP : Nat) (mQ : Nat) (mbk : Nat) (mkp : Nat) (msg : Nat) (mwm : Nat) (mrs : Int32) (msd : Int32) (mls : Int32) (mhd : Int32) (mtx : zF) (mnu : zF) (mrd : zF) (mrl : zF) (mpe : zF) (mno : zF) (mbo : zF) (mim : zF) (msi : zF) (mwi : zF) (mon : zF) (mdi : zF) (mco : zF) (mgo : zF) (mbr : zF) (mca : zF) (wh : Int32) : zD l yX7_count wsX7_count rm_X7_count D (zT cI cC cJ) [.ref (m 31), .int wh] [modW cI m mle mpo mfa mrm mrw mP mQ mbk mkp msg mwm mrs msd mls mhd mtx mnu mrd mrl mpe mno mbo mim msi mwi mon mdi mco mgo mbr mca] (some (.int (s_X7_count mle mP mQ mbk mkp msg mno wh))) [modW cI m mle mpo mfa mrm mrw mP mQ mbk mkp msg mwm mrs msd mls mhd mtx mnu mrd mrl mpe mno mbo mim msi mwi mon mdi mco mgo mbr mca] := by
  refine zD_int (cc := cX7_count) (maxL := 2) (ty := .int) (lv := [(0, .ref (m 31)), (1, .int wh)]) (by decide +kernel) rfl (Nat.le_of_ble_eq_true rfl) rfl (fun Z O hret => ?_)
  refine zr_iload_n (pc2 := 1) O dX7_count_0 rfl 1 rfl rfl ?_
  by_cases c1_0 : wh = nI 0
  · refine zn_tabIn (y := nI 0) (off := 43) (tgt := 44) O c1_0 dX7_count_1 (by decide +kernel) (by decide +kernel) (by decide +kernel) (by decide) ?_
    refine zr_aload_n (pc2 := 45) O dX7_count_44 rfl 0 rfl rfl ?_
    refine zr_getf (v := .int (nI mP)) (pc2 := 48) O sF_X7_count_22 0 0 rfl rfl rfl dX7_count_45 rfl ?_
    have hE : s_X7_count mle mP mQ mbk mkp msg mno wh = (nI mP) := by exact (if_pos c1_0)
    exact hret _ _ _ _ dX7_count_48 rfl (by rw [hE]) rfl
  · skip
    by_cases c1_1 : wh = nI 1
    · refine zn_tabIn (y := nI 1) (off := 48) (tgt := 49) O c1_1 dX7_count_1 (by decide +kernel) (by decide +kernel) (by decide +kernel) (by decide) ?_
      refine zr_aload_n (pc2 := 50) O dX7_count_49 rfl 0 rfl rfl ?_
      refine zr_getf (v := .int (nI mQ)) (pc2 := 53) O sF_X7_count_29 0 0 rfl rfl rfl dX7_count_50 rfl ?_
      have hE : s_X7_count mle mP mQ mbk mkp msg mno wh = (nI mQ) := by exact ((if_neg c1_0).trans (if_pos c1_1))
      exact hret _ _ _ _ dX7_count_53 rfl (by rw [hE]) rfl
    · skip
      by_cases c1_2 : wh = nI 2
      · refine zn_tabIn (y := nI 2) (off := 53) (tgt := 54) O c1_2 dX7_count_1 (by decide +kernel) (by decide +kernel) (by decide +kernel) (by decide) ?_
        refine zr_aload_n (pc2 := 55) O dX7_count_54 rfl 0 rfl rfl ?_
        refine zr_getf (v := .ref (m 14)) (pc2 := 58) O sF_X7_count_35 0 0 rfl rfl rfl dX7_count_55 rfl ?_
        refine zr_bipush (v := (nI 27)) (pc2 := 60) O dX7_count_58 (by decide +kernel) rfl ?_
        refine zn_iald (j := 27) (pc2 := 61) O 0 6 0 rfl rfl rfl rfl (by omega) (by decide) dX7_count_60 rfl ?_
        have hE : s_X7_count mle mP mQ mbk mkp msg mno wh = (mno 27) := by exact ((if_neg c1_0).trans ((if_neg c1_1).trans (if_pos c1_2)))
        exact hret _ _ _ _ dX7_count_61 rfl (by rw [hE]) rfl
      · skip
        by_cases c1_3 : wh = nI 3
        · refine zn_tabIn (y := nI 3) (off := 61) (tgt := 62) O c1_3 dX7_count_1 (by decide +kernel) (by decide +kernel) (by decide +kernel) (by decide) ?_
          refine zr_aload_n (pc2 := 63) O dX7_count_62 rfl 0 rfl rfl ?_
          refine zr_getf (v := .int (nI msg)) (pc2 := 66) O sF_X7_count_113 0 0 rfl rfl rfl dX7_count_63 rfl ?_
          have hE : s_X7_count mle mP mQ mbk mkp msg mno wh = (nI msg) := by exact ((if_neg c1_0).trans ((if_neg c1_1).trans ((if_neg c1_2).trans (if_pos c1_3))))
          exact hret _ _ _ _ dX7_count_66 rfl (by rw [hE]) rfl
        · skip
          by_cases c1_4 : wh = nI 4
          · refine zn_tabIn (y := nI 4) (off := 66) (tgt := 67) O c1_4 dX7_count_1 (by decide +kernel) (by decide +kernel) (by decide +kernel) (by decide) ?_
            refine zr_aload_n (pc2 := 68) O dX7_count_67 rfl 0 rfl rfl ?_
            refine zr_getf (v := .int (nI mbk)) (pc2 := 71) O sF_X7_count_116 0 0 rfl rfl rfl dX7_count_68 rfl ?_
            have hE : s_X7_count mle mP mQ mbk mkp msg mno wh = (nI mbk) := by exact ((if_neg c1_0).trans ((if_neg c1_1).trans ((if_neg c1_2).trans ((if_neg c1_3).trans (if_pos c1_4)))))
            exact hret _ _ _ _ dX7_count_71 rfl (by rw [hE]) rfl
          · skip
            by_cases c1_5 : wh = nI 5
            · refine zn_tabIn (y := nI 5) (off := 71) (tgt := 72) O c1_5 dX7_count_1 (by decide +kernel) (by decide +kernel) (by decide +kernel) (by decide) ?_
              refine zr_aload_n (pc2 := 73) O dX7_count_72 rfl 0 rfl rfl ?_
              refine zr_getf (v := .int (nI mkp)) (pc2 := 76) O sF_X7_count_119 0 0 rfl rfl rfl dX7_count_73 rfl ?_
              have hE : s_X7_count mle mP mQ mbk mkp msg mno wh = (nI mkp) := by exact ((if_neg c1_0).trans ((if_neg c1_1).trans ((if_neg c1_2).trans ((if_neg c1_3).trans ((if_neg c1_4).trans (if_pos c1_5))))))
              exact hret _ _ _ _ dX7_count_76 rfl (by rw [hE]) rfl
            · skip
              by_cases c1_6 : wh = nI 6
              · refine zn_tabIn (y := nI 6) (off := 76) (tgt := 77) O c1_6 dX7_count_1 (by decide +kernel) (by decide +kernel) (by decide +kernel) (by decide) ?_
                refine zr_aload_n (pc2 := 78) O dX7_count_77 rfl 0 rfl rfl ?_
                refine zr_getf (v := .int (nI mle)) (pc2 := 81) O sF_X7_count_80 0 0 rfl rfl rfl dX7_count_78 rfl ?_
                have hE : s_X7_count mle mP mQ mbk mkp msg mno wh = (nI mle) := by exact ((if_neg c1_0).trans ((if_neg c1_1).trans ((if_neg c1_2).trans ((if_neg c1_3).trans ((if_neg c1_4).trans ((if_neg c1_5).trans (if_pos c1_6)))))))
                exact hret _ _ _ _ dX7_count_81 rfl (by rw [hE]) rfl
              · skip
                refine zr_tabOut (tgt := 82) O dX7_count_1 (zsw_out (x := wh) 6 (by decide) (zsw_s (zsw_t (zsw_s (zsw_t (zsw_s (zsw_t (zsw_s (zsw_t (zsw_s (zsw_t (zsw_s (zsw_t (zsw_s zsw_0 c1_0)) c1_1)) c1_2)) c1_3)) c1_4)) c1_5)) c1_6)) (by decide) ?_
                refine zr_iconst (v := (-1)) (pc2 := 83) O dX7_count_82 (by decide +kernel) rfl ?_
                have hE : s_X7_count mle mP mQ mbk mkp msg mno wh = (-1) := by exact ((if_neg c1_0).trans ((if_neg c1_1).trans ((if_neg c1_2).trans ((if_neg c1_3).trans ((if_neg c1_4).trans ((if_neg c1_5).trans (if_neg c1_6)))))))
                exact hret _ _ _ _ dX7_count_83 rfl (by rw [hE]) rfl
