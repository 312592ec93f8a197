/-! X5_diedHaving -/
def s_X5_diedHaving (hav : Int32) (i : Nat) : Bool := if (hav &&& ((nI 1) <<< ((nI i) &&& 31))) = 0 then false else true
set_option maxHeartbeats 4000000 in
set_option maxRecDepth 100000 in
theorem c_X5_diedHaving (l : Launch) (D : va_G) (cI cC cJ : ClassId) (y : Nat → Nat) (hav : Int32) (Y : zY) (PA : Nat → Nat → Int32) (i : Nat) (bk : Nat) : zD l yX5_diedHaving wsX5_diedHaving rm_X5_diedHaving D (zT cI cC cJ) [.ref (y 0), .int (nI i)] [yearsW cI cJ y bk hav Y PA] (some (.int (zb (s_X5_diedHaving hav i)))) [yearsW cI cJ y bk hav Y PA] := by
  refine zD_int (cc := cX5_diedHaving) (maxL := 2) (ty := .boolean) (lv := [(0, .ref (y 0)), (1, .int (nI i))]) (by decide +kernel) rfl (Nat.le_of_ble_eq_true rfl) rfl (fun Z O hret => ?_)
  refine zr_aload_n (pc2 := 1) O dX5_diedHaving_0 rfl 0 rfl rfl ?_
  refine zr_getf (v := .int hav) (pc2 := 4) O sF_X5_diedHaving_38 0 0 rfl rfl rfl dX5_diedHaving_1 rfl ?_
  refine zr_iconst (v := (nI 1)) (pc2 := 5) O dX5_diedHaving_4 (by decide +kernel) rfl ?_
  refine zr_iload_n (pc2 := 6) O dX5_diedHaving_5 rfl 1 rfl rfl ?_
  refine zr_ishl (v := ((nI 1) <<< ((nI i) &&& 31))) (pc2 := 7) O dX5_diedHaving_6 rfl rfl ?_
  refine zr_iand (v := (hav &&& ((nI 1) <<< ((nI i) &&& 31)))) (pc2 := 8) O dX5_diedHaving_7 rfl rfl ?_
  refine zr_if_eq (tgt := 15) (pc2 := 11) O dX5_diedHaving_8 (by decide) rfl (fun c8 => ?_) (fun c8 => ?_)
  · refine zr_iconst (v := (nI 0)) (pc2 := 16) O dX5_diedHaving_15 (by decide +kernel) rfl ?_
    have hE : s_X5_diedHaving hav i = false := by exact (if_pos c8)
    exact hret _ _ _ _ dX5_diedHaving_16 (by decide +kernel) (by rw [hE]; rfl) rfl
  · refine zr_iconst (v := (nI 1)) (pc2 := 12) O dX5_diedHaving_11 (by decide +kernel) rfl ?_
    refine zr_goto (tgt := 16) O dX5_diedHaving_12 (by decide) ?_
    have hE : s_X5_diedHaving hav i = true := by exact (if_neg c8)
    exact hret _ _ _ _ dX5_diedHaving_16 (by decide +kernel) (by rw [hE]; rfl) rfl
/-! X5_isLiving -/
def s_X5_isLiving (Y : zY) (P : Nat) (i : Int32) : Bool := if i < 0 then false else if (nI P) ≤ i then false else if (Y.1 i.toNatClampNeg) = (nI 1) then true else false
set_option maxHeartbeats 4000000 in
set_option maxRecDepth 100000 in
theorem c_X5_isLiving (l : Launch) (D : va_G) (cI cC cJ : ClassId) (y : Nat → Nat) (b : Nat → Nat) (hav : Int32) (Y : zY) (PA : Nat → Nat → Int32) (P : Nat) (Q : Nat) (Hn : Nat) (sd : Int32) (B : zB) (i : Int32) (hP : P ≤ 6) : zD l yX5_isLiving wsX5_isLiving rm_X5_isLiving D (zT cI cC cJ) [.ref (y 0), .int i] [yearsW cI cJ y (b 0) hav Y PA, bookW cI b P Q Hn sd B] (some (.int (zb (s_X5_isLiving Y P i)))) [yearsW cI cJ y (b 0) hav Y PA, bookW cI b P Q Hn sd B] := by
  refine zD_int (cc := cX5_isLiving) (maxL := 2) (ty := .boolean) (lv := [(0, .ref (y 0)), (1, .int i)]) (by decide +kernel) rfl (Nat.le_of_ble_eq_true rfl) rfl (fun Z O hret => ?_)
  refine zr_iload_n (pc2 := 1) O dX5_isLiving_0 rfl 1 rfl rfl ?_
  refine zr_if_lt (tgt := 29) (pc2 := 4) O dX5_isLiving_1 (by decide) rfl (fun c1 => ?_) (fun c1 => ?_)
  · refine zr_iconst (v := (nI 0)) (pc2 := 30) O dX5_isLiving_29 (by decide +kernel) rfl ?_
    have hE : s_X5_isLiving Y P i = false := by exact (if_pos c1)
    exact hret _ _ _ _ dX5_isLiving_30 (by decide +kernel) (by rw [hE]; rfl) rfl
  · refine zr_iload_n (pc2 := 5) O dX5_isLiving_4 rfl 1 rfl rfl ?_
    refine zr_aload_n (pc2 := 6) O dX5_isLiving_5 rfl 0 rfl rfl ?_
    refine zr_getf (v := .ref (b 0)) (pc2 := 9) O sF_X5_isLiving_42 0 0 rfl rfl rfl dX5_isLiving_6 rfl ?_
    refine zr_getf (v := .int (nI P)) (pc2 := 12) O sF_X5_isLiving_59 1 0 rfl rfl rfl dX5_isLiving_9 rfl ?_
    refine zr_icmp_ge (tgt := 29) (pc2 := 15) O dX5_isLiving_12 (by decide) rfl (fun c12 => ?_) (fun c12 => ?_)
    · refine zr_iconst (v := (nI 0)) (pc2 := 30) O dX5_isLiving_29 (by decide +kernel) rfl ?_
      have hE : s_X5_isLiving Y P i = false := by exact ((if_neg c1).trans (if_pos c12))
      exact hret _ _ _ _ dX5_isLiving_30 (by decide +kernel) (by rw [hE]; rfl) rfl
    · refine zr_aload_n (pc2 := 16) O dX5_isLiving_15 rfl 0 rfl rfl ?_
      refine zr_getf (v := .ref (y 1)) (pc2 := 19) O sF_X5_isLiving_9 0 0 rfl rfl rfl dX5_isLiving_16 rfl ?_
      refine zr_iload_n (pc2 := 20) O dX5_isLiving_19 rfl 1 rfl rfl ?_
      refine zr_iald (pc2 := 21) O 0 1 0 rfl rfl rfl (by first | assumption | exact zin_of (by assumption) (by assumption) (by assumption) (by decide) | exact hp_in (by assumption) (by assumption) (by decide) | exact hb_in (by assumption) (by assumption) (by decide) | exact il_in (by assumption) (by assumption) (by decide)) dX5_isLiving_20 rfl ?_
      refine zr_iconst (v := (nI 1)) (pc2 := 22) O dX5_isLiving_21 (by decide +kernel) rfl ?_
      refine zr_icmp_ne (tgt := 29) (pc2 := 25) O dX5_isLiving_22 (by decide) rfl (fun c22 => ?_) (fun c22 => ?_)
      · refine zr_iconst (v := (nI 0)) (pc2 := 30) O dX5_isLiving_29 (by decide +kernel) rfl ?_
        have hE : s_X5_isLiving Y P i = false := by exact ((if_neg c1).trans ((if_neg c12).trans (if_neg c22)))
        exact hret _ _ _ _ dX5_isLiving_30 (by decide +kernel) (by rw [hE]; rfl) rfl
      · refine zr_iconst (v := (nI 1)) (pc2 := 26) O dX5_isLiving_25 (by decide +kernel) rfl ?_
        refine zr_goto (tgt := 30) O dX5_isLiving_26 (by decide) ?_
        have hE : s_X5_isLiving Y P i = true := by exact ((if_neg c1).trans ((if_neg c12).trans (if_pos c22)))
        exact hret _ _ _ _ dX5_isLiving_30 (by decide +kernel) (by rw [hE]; rfl) rfl
theorem il_in {P n : Nat} {Y : zY} {i : Int32} (h : s_X5_isLiving Y P i = true) (hP : P ≤ n) (hn : n < 2 ^ 31) : vp_in i n := by
  unfold s_X5_isLiving at h
  split at h
  · cases h
  · split at h
    · cases h
    · exact zin_of (by assumption) (by assumption) hP hn
/-! X5_pay -/
def s_X5_pay (Y : zY) (P : Nat) (B : zB) (i : Nat) (k : Nat) : zY := let x18 := (if (B.2.2.2.2.2.2.2.1 k) < (Y.2.1 i) then (B.2.2.2.2.2.2.2.1 k) else (Y.2.1 i)); if (s_X5_isLiving (Y.1, (upd Y.2.1 i ((Y.2.1 i) - x18)), Y.2.2) P (B.2.2.2.2.2.2.1 k)) = true then (Y.1, (upd (upd Y.2.1 i ((Y.2.1 i) - x18)) (B.2.2.2.2.2.2.1 k).toNatClampNeg (((upd Y.2.1 i ((Y.2.1 i) - x18)) (B.2.2.2.2.2.2.1 k).toNatClampNeg) + x18)), Y.2.2.1, Y.2.2.2.1, Y.2.2.2.2.1, (upd Y.2.2.2.2.2.1 (B.2.2.2.2.2.2.1 k).toNatClampNeg ((Y.2.2.2.2.2.1 (B.2.2.2.2.2.2.1 k).toNatClampNeg) + x18)), (upd Y.2.2.2.2.2.2 k x18)) else (Y.1, (upd Y.2.1 i ((Y.2.1 i) - x18)), Y.2.2)
set_option maxHeartbeats 4000000 in
set_option maxRecDepth 100000 in
theorem c_X5_pay (l : Launch) (D : va_G) (cI cC cJ : ClassId) (y : Nat → Nat) (b : Nat → Nat) (hav : Int32) (Y : zY) (PA : Nat → Nat → Int32) (P : Nat) (Q : Nat) (Hn : Nat) (sd : Int32) (B : zB) (i : Nat) (k : Nat) (hP : P ≤ 6) (hi : i < 6) (hk : k < 9) : zD l yX5_pay wsX5_pay rm_X5_pay D (zT cI cC cJ) [.ref (y 0), .int (nI i), .int (nI k)] [yearsW cI cJ y (b 0) hav Y PA, bookW cI b P Q Hn sd B] none [yearsW cI cJ y (b 0) hav (s_X5_pay Y P B i k) PA, bookW cI b P Q Hn sd B] := by
  refine zD_void (cc := cX5_pay) (maxL := 5) (lv := [(0, .ref (y 0)), (1, .int (nI i)), (2, .int (nI k))]) (by decide +kernel) rfl (Nat.le_of_ble_eq_true rfl) rfl (fun Z O hret => ?_)
  refine zr_aload_n (pc2 := 1) O dX5_pay_0 rfl 0 rfl rfl ?_
  refine zr_getf (v := .ref (y 2)) (pc2 := 4) O sF_X5_pay_15 0 0 rfl rfl rfl dX5_pay_1 rfl ?_
  refine zr_iload_n (pc2 := 5) O dX5_pay_4 rfl 1 rfl rfl ?_
  refine zn_iald (j := i) (pc2 := 6) O 0 2 0 rfl rfl rfl rfl (by omega) (by decide) dX5_pay_5 rfl ?_
  refine zr_aload_n (pc2 := 7) O dX5_pay_6 rfl 0 rfl rfl ?_
  refine zr_getf (v := .ref (b 0)) (pc2 := 10) O sF_X5_pay_42 0 0 rfl rfl rfl dX5_pay_7 rfl ?_
  refine zr_getf (v := .ref (b 9)) (pc2 := 13) O sF_X5_pay_138 1 0 rfl rfl rfl dX5_pay_10 rfl ?_
  refine zr_iload_n (pc2 := 14) O dX5_pay_13 rfl 2 rfl rfl ?_
  refine zn_iald (j := k) (pc2 := 15) O 1 8 0 rfl rfl rfl rfl (by omega) (by decide) dX5_pay_14 rfl ?_
  refine zr_min (v := (if (B.2.2.2.2.2.2.2.1 k) < (Y.2.1 i) then (B.2.2.2.2.2.2.2.1 k) else (Y.2.1 i))) (pc2 := 18) O sM_X5_pay_141.1 sM_X5_pay_141.2.1 sM_X5_pay_141.2.2.1 sM_X5_pay_141.2.2.2 (by decide) (Nat.le_of_ble_eq_true rfl) dX5_pay_15 rfl rfl ?_
  obtain ⟨x18, hx18⟩ : ∃ z9 : Int32, z9 = (if (B.2.2.2.2.2.2.2.1 k) < (Y.2.1 i) then (B.2.2.2.2.2.2.2.1 k) else (Y.2.1 i)) := ⟨_, rfl⟩
  rw [← hx18]
  refine zr_istore_n (lv2 := [(3, .int x18), (0, .ref (y 0)), (1, .int (nI i)), (2, .int (nI k))]) (pc2 := 19) O dX5_pay_18 rfl (by decide) rfl rfl ?_
  refine zr_aload_n (pc2 := 20) O dX5_pay_19 rfl 1 rfl rfl ?_
  refine zr_getf (v := .ref (b 0)) (pc2 := 23) O sF_X5_pay_42 0 0 rfl rfl rfl dX5_pay_20 rfl ?_
  refine zr_getf (v := .ref (b 8)) (pc2 := 26) O sF_X5_pay_146 1 0 rfl rfl rfl dX5_pay_23 rfl ?_
  refine zr_iload_n (pc2 := 27) O dX5_pay_26 rfl 3 rfl rfl ?_
  refine zn_iald (j := k) (pc2 := 28) O 1 7 0 rfl rfl rfl rfl (by omega) (by decide) dX5_pay_27 rfl ?_
  refine zr_istore (lv2 := [(4, .int (B.2.2.2.2.2.2.1 k)), (3, .int x18), (0, .ref (y 0)), (1, .int (nI i)), (2, .int (nI k))]) (pc2 := 30) O dX5_pay_28 (by decide) rfl rfl ?_
  refine zr_aload_n (pc2 := 31) O dX5_pay_30 rfl 2 rfl rfl ?_
  refine zr_getf (v := .ref (y 2)) (pc2 := 34) O sF_X5_pay_15 0 0 rfl rfl rfl dX5_pay_31 rfl ?_
  refine zr_iload_n (pc2 := 35) O dX5_pay_34 rfl 3 rfl rfl ?_
  refine zr_dup2 (pc2 := 36) O dX5_pay_35 rfl rfl rfl ?_
  refine zn_iald (j := i) (pc2 := 37) O 0 2 0 rfl rfl rfl rfl (by omega) (by decide) dX5_pay_36 rfl ?_
  refine zr_iload_n (pc2 := 38) O dX5_pay_37 rfl 1 rfl rfl ?_
  refine zr_isub (v := ((Y.2.1 i) - x18)) (pc2 := 39) O dX5_pay_38 rfl rfl ?_
  refine zn_iast (j := i) (G2 := yearsW cI cJ y (b 0) hav (Y.1, (upd Y.2.1 i ((Y.2.1 i) - x18)), Y.2.2) PA) (ws2 := [yearsW cI cJ y (b 0) hav (Y.1, (upd Y.2.1 i ((Y.2.1 i) - x18)), Y.2.2) PA, bookW cI b P Q Hn sd B]) (pc2 := 40) O 0 2 0 rfl rfl rfl rfl (by omega) (by decide) dX5_pay_39 rfl rfl rfl ?_
  refine zr_aload_n (pc2 := 41) O dX5_pay_40 rfl 2 rfl rfl ?_
  refine zr_iload (pc2 := 43) O dX5_pay_41 0 rfl rfl ?_
  refine zr_callV (As := [.int (B.2.2.2.2.2.2.1 k)]) (rest := []) (ws2 := [yearsW cI cJ y (b 0) hav (Y.1, (upd Y.2.1 i ((Y.2.1 i) - x18)), Y.2.2) PA, bookW cI b P Q Hn sd B]) (pc2 := 46) (ci := 5) (g0 := 0) (q0 := 0) O (c_X5_isLiving l D cI cC cJ y b hav (Y.1, (upd Y.2.1 i ((Y.2.1 i) - x18)), Y.2.2) PA P Q Hn sd B (B.2.2.2.2.2.2.1 k) (by first | assumption | omega)) sC_X5_pay_90 rfl rfl rfl rfl rfl dX5_pay_43 [0, 1] rfl rfl rfl rfl (Nat.le_of_ble_eq_true rfl) rfl ?_
  show Z _ _ _ [.int (zb (s_X5_isLiving (Y.1, (upd Y.2.1 i ((Y.2.1 i) - x18)), Y.2.2) P (B.2.2.2.2.2.2.1 k)))]
  refine zb_if_eq (tgt := 78) (pc2 := 49) O dX5_pay_46 (by decide) rfl (fun c46 => ?_) (fun c46 => ?_)
  · have hE : s_X5_pay Y P B i k = (Y.1, (upd Y.2.1 i ((Y.2.1 i) - x18)), Y.2.2) := by subst hx18; exact (zif_f c46)
    exact hret _ _ _ dX5_pay_78 (by rw [hE])
  · refine zr_aload_n (pc2 := 50) O dX5_pay_49 rfl 2 rfl rfl ?_
    refine zr_getf (v := .ref (y 2)) (pc2 := 53) O sF_X5_pay_15 0 0 rfl rfl rfl dX5_pay_50 rfl ?_
    refine zr_iload (pc2 := 55) O dX5_pay_53 0 rfl rfl ?_
    refine zr_dup2 (pc2 := 56) O dX5_pay_55 rfl rfl rfl ?_
    refine zr_iald (pc2 := 57) O 0 2 0 rfl rfl rfl (il_in c46 hP (by decide)) dX5_pay_56 rfl ?_
    refine zr_iload_n (pc2 := 58) O dX5_pay_57 rfl 1 rfl rfl ?_
    refine zr_iadd (v := (((upd Y.2.1 i ((Y.2.1 i) - x18)) (B.2.2.2.2.2.2.1 k).toNatClampNeg) + x18)) (pc2 := 59) O dX5_pay_58 rfl rfl ?_
    refine zr_iast (G2 := yearsW cI cJ y (b 0) hav (Y.1, (upd (upd Y.2.1 i ((Y.2.1 i) - x18)) (B.2.2.2.2.2.2.1 k).toNatClampNeg (((upd Y.2.1 i ((Y.2.1 i) - x18)) (B.2.2.2.2.2.2.1 k).toNatClampNeg) + x18)), Y.2.2) PA) (ws2 := [yearsW cI cJ y (b 0) hav (Y.1, (upd (upd Y.2.1 i ((Y.2.1 i) - x18)) (B.2.2.2.2.2.2.1 k).toNatClampNeg (((upd Y.2.1 i ((Y.2.1 i) - x18)) (B.2.2.2.2.2.2.1 k).toNatClampNeg) + x18)), Y.2.2) PA, bookW cI b P Q Hn sd B]) (pc2 := 60) O 0 2 0 rfl rfl rfl (il_in c46 hP (by decide)) dX5_pay_59 rfl rfl rfl ?_
    refine zr_aload_n (pc2 := 61) O dX5_pay_60 rfl 2 rfl rfl ?_
    refine zr_getf (v := .ref (y 6)) (pc2 := 64) O sF_X5_pay_27 0 0 rfl rfl rfl dX5_pay_61 rfl ?_
    refine zr_iload (pc2 := 66) O dX5_pay_64 0 rfl rfl ?_
    refine zr_dup2 (pc2 := 67) O dX5_pay_66 rfl rfl rfl ?_
    refine zr_iald (pc2 := 68) O 0 6 0 rfl rfl rfl (il_in c46 hP (by decide)) dX5_pay_67 rfl ?_
    refine zr_iload_n (pc2 := 69) O dX5_pay_68 rfl 1 rfl rfl ?_
    refine zr_iadd (v := ((Y.2.2.2.2.2.1 (B.2.2.2.2.2.2.1 k).toNatClampNeg) + x18)) (pc2 := 70) O dX5_pay_69 rfl rfl ?_
    refine zr_iast (G2 := yearsW cI cJ y (b 0) hav (Y.1, (upd (upd Y.2.1 i ((Y.2.1 i) - x18)) (B.2.2.2.2.2.2.1 k).toNatClampNeg (((upd Y.2.1 i ((Y.2.1 i) - x18)) (B.2.2.2.2.2.2.1 k).toNatClampNeg) + x18)), Y.2.2.1, Y.2.2.2.1, Y.2.2.2.2.1, (upd Y.2.2.2.2.2.1 (B.2.2.2.2.2.2.1 k).toNatClampNeg ((Y.2.2.2.2.2.1 (B.2.2.2.2.2.2.1 k).toNatClampNeg) + x18)), Y.2.2.2.2.2.2) PA) (ws2 := [yearsW cI cJ y (b 0) hav (Y.1, (upd (upd Y.2.1 i ((Y.2.1 i) - x18)) (B.2.2.2.2.2.2.1 k).toNatClampNeg (((upd Y.2.1 i ((Y.2.1 i) - x18)) (B.2.2.2.2.2.2.1 k).toNatClampNeg) + x18)), Y.2.2.1, Y.2.2.2.1, Y.2.2.2.2.1, (upd Y.2.2.2.2.2.1 (B.2.2.2.2.2.2.1 k).toNatClampNeg ((Y.2.2.2.2.2.1 (B.2.2.2.2.2.2.1 k).toNatClampNeg) + x18)), Y.2.2.2.2.2.2) PA, bookW cI b P Q Hn sd B]) (pc2 := 71) O 0 6 0 rfl rfl rfl (il_in c46 hP (by decide)) dX5_pay_70 rfl rfl rfl ?_
    refine zr_aload_n (pc2 := 72) O dX5_pay_71 rfl 2 rfl rfl ?_
    refine zr_getf (v := .ref (y 7)) (pc2 := 75) O sF_X5_pay_30 0 0 rfl rfl rfl dX5_pay_72 rfl ?_
    refine zr_iload_n (pc2 := 76) O dX5_pay_75 rfl 4 rfl rfl ?_
    refine zr_iload_n (pc2 := 77) O dX5_pay_76 rfl 1 rfl rfl ?_
    refine zn_iast (j := k) (G2 := yearsW cI cJ y (b 0) hav (Y.1, (upd (upd Y.2.1 i ((Y.2.1 i) - x18)) (B.2.2.2.2.2.2.1 k).toNatClampNeg (((upd Y.2.1 i ((Y.2.1 i) - x18)) (B.2.2.2.2.2.2.1 k).toNatClampNeg) + x18)), Y.2.2.1, Y.2.2.2.1, Y.2.2.2.2.1, (upd Y.2.2.2.2.2.1 (B.2.2.2.2.2.2.1 k).toNatClampNeg ((Y.2.2.2.2.2.1 (B.2.2.2.2.2.2.1 k).toNatClampNeg) + x18)), (upd Y.2.2.2.2.2.2 k x18)) PA) (ws2 := [yearsW cI cJ y (b 0) hav (Y.1, (upd (upd Y.2.1 i ((Y.2.1 i) - x18)) (B.2.2.2.2.2.2.1 k).toNatClampNeg (((upd Y.2.1 i ((Y.2.1 i) - x18)) (B.2.2.2.2.2.2.1 k).toNatClampNeg) + x18)), Y.2.2.1, Y.2.2.2.1, Y.2.2.2.2.1, (upd Y.2.2.2.2.2.1 (B.2.2.2.2.2.2.1 k).toNatClampNeg ((Y.2.2.2.2.2.1 (B.2.2.2.2.2.2.1 k).toNatClampNeg) + x18)), (upd Y.2.2.2.2.2.2 k x18)) PA, bookW cI b P Q Hn sd B]) (pc2 := 78) O 0 7 0 rfl rfl rfl rfl (by omega) (by decide) dX5_pay_77 rfl rfl rfl ?_
    have hE : s_X5_pay Y P B i k = (Y.1, (upd (upd Y.2.1 i ((Y.2.1 i) - x18)) (B.2.2.2.2.2.2.1 k).toNatClampNeg (((upd Y.2.1 i ((Y.2.1 i) - x18)) (B.2.2.2.2.2.2.1 k).toNatClampNeg) + x18)), Y.2.2.1, Y.2.2.2.1, Y.2.2.2.2.1, (upd Y.2.2.2.2.2.1 (B.2.2.2.2.2.2.1 k).toNatClampNeg ((Y.2.2.2.2.2.1 (B.2.2.2.2.2.2.1 k).toNatClampNeg) + x18)), (upd Y.2.2.2.2.2.2 k x18)) := by subst hx18; exact (zif_t c46)
    exact hret _ _ _ dX5_pay_78 (by rw [hE])
/-! X5_die -/
def f_X5_die_16 (P : Nat) (B : zB) (i : Nat) : Nat → Nat → zY → zY
  | 0, _, Y9 => Y9
  | n9 + 1, k, Y9 => if (B.2.2.2.2.2.1 k) = (nI i) then f_X5_die_16 P B i n9 (k + 1) (s_X5_pay Y9 P B i k) else f_X5_die_16 P B i n9 (k + 1) Y9
def s_X5_die (Y : zY) (P : Nat) (Q : Nat) (B : zB) (i : Nat) (yr : Nat) : zY := let v24 := f_X5_die_16 P B i Q 0 ((upd Y.1 i (nI 2)), Y.2.1, Y.2.2.1, Y.2.2.2.1, (upd Y.2.2.2.2.1 i (nI yr)), Y.2.2.2.2.2); (v24.1, (upd v24.2.1 i (nI 0)), v24.2.2)
set_option maxHeartbeats 4000000 in
set_option maxRecDepth 100000 in
theorem c_X5_die (l : Launch) (D : va_G) (cI cC cJ : ClassId) (y : Nat → Nat) (b : Nat → Nat) (hav : Int32) (Y : zY) (PA : Nat → Nat → Int32) (P : Nat) (Q : Nat) (Hn : Nat) (sd : Int32) (B : zB) (i : Nat) (yr : Nat) (hP : P ≤ 6) (hQ : Q ≤ 9) (hi : i < 6) : zD l yX5_die wsX5_die rm_X5_die D (zT cI cC cJ) [.ref (y 0), .int (nI i), .int (nI yr)] [yearsW cI cJ y (b 0) hav Y PA, bookW cI b P Q Hn sd B] none [yearsW cI cJ y (b 0) hav (s_X5_die Y P Q B i yr) PA, bookW cI b P Q Hn sd B] := by
  refine zD_void (cc := cX5_die) (maxL := 4) (lv := [(0, .ref (y 0)), (1, .int (nI i)), (2, .int (nI yr))]) (by decide +kernel) rfl (Nat.le_of_ble_eq_true rfl) rfl (fun Z O hret => ?_)
  refine zr_aload_n (pc2 := 1) O dX5_die_0 rfl 0 rfl rfl ?_
  refine zr_getf (v := .ref (y 1)) (pc2 := 4) O sF_X5_die_9 0 0 rfl rfl rfl dX5_die_1 rfl ?_
  refine zr_iload_n (pc2 := 5) O dX5_die_4 rfl 1 rfl rfl ?_
  refine zr_iconst (v := (nI 2)) (pc2 := 6) O dX5_die_5 (by decide +kernel) rfl ?_
  refine zn_iast (j := i) (G2 := yearsW cI cJ y (b 0) hav ((upd Y.1 i (nI 2)), Y.2) PA) (ws2 := [yearsW cI cJ y (b 0) hav ((upd Y.1 i (nI 2)), Y.2) PA, bookW cI b P Q Hn sd B]) (pc2 := 7) O 0 1 0 rfl rfl rfl rfl (by omega) (by decide) dX5_die_6 rfl rfl rfl ?_
  refine zr_aload_n (pc2 := 8) O dX5_die_7 rfl 0 rfl rfl ?_
  refine zr_getf (v := .ref (y 5)) (pc2 := 11) O sF_X5_die_24 0 0 rfl rfl rfl dX5_die_8 rfl ?_
  refine zr_iload_n (pc2 := 12) O dX5_die_11 rfl 1 rfl rfl ?_
  refine zr_iload_n (pc2 := 13) O dX5_die_12 rfl 2 rfl rfl ?_
  refine zn_iast (j := i) (G2 := yearsW cI cJ y (b 0) hav ((upd Y.1 i (nI 2)), Y.2.1, Y.2.2.1, Y.2.2.2.1, (upd Y.2.2.2.2.1 i (nI yr)), Y.2.2.2.2.2) PA) (ws2 := [yearsW cI cJ y (b 0) hav ((upd Y.1 i (nI 2)), Y.2.1, Y.2.2.1, Y.2.2.2.1, (upd Y.2.2.2.2.1 i (nI yr)), Y.2.2.2.2.2) PA, bookW cI b P Q Hn sd B]) (pc2 := 14) O 0 5 0 rfl rfl rfl rfl (by omega) (by decide) dX5_die_13 rfl rfl rfl ?_
  refine zr_iconst (v := (nI 0)) (pc2 := 15) O dX5_die_14 (by decide +kernel) rfl ?_
  refine zr_istore_n (lv2 := [(3, .int (nI 0)), (0, .ref (y 0)), (1, .int (nI i)), (2, .int (nI yr))]) (pc2 := 16) O dX5_die_15 rfl (by decide) rfl rfl ?_
  have lp16 : ∀ (n9 : Nat) (k : Nat) (Y9 : zY), k + n9 = Q → f_X5_die_16 P B i Q 0 ((upd Y.1 i (nI 2)), Y.2.1, Y.2.2.1, Y.2.2.2.1, (upd Y.2.2.2.2.1 i (nI yr)), Y.2.2.2.2.2) = f_X5_die_16 P B i n9 k Y9 → Z [yearsW cI cJ y (b 0) hav Y9 PA, bookW cI b P Q Hn sd B] [(3, .int (nI k)), (0, .ref (y 0)), (1, .int (nI i)), (2, .int (nI yr))] 16 [] := by
    intro n9
    induction n9 with
    | zero =>
      intro k Y9 hM16 hF16
      have hI16 : Q = k := by omega
      subst hI16
      obtain ⟨v24, hv24⟩ : ∃ z9, z9 = f_X5_die_16 P B i Q 0 ((upd Y.1 i (nI 2)), Y.2.1, Y.2.2.1, Y.2.2.2.1, (upd Y.2.2.2.2.1 i (nI yr)), Y.2.2.2.2.2) := ⟨_, rfl⟩
      rw [← hv24] at hF16
      have e9 : v24 = Y9 := hF16
      subst e9
      refine zr_iload_n (pc2 := 17) O dX5_die_16 rfl 0 rfl rfl ?_
      refine zr_aload_n (pc2 := 18) O dX5_die_17 rfl 1 rfl rfl ?_
      refine zr_getf (v := .ref (b 0)) (pc2 := 21) O sF_X5_die_42 0 0 rfl rfl rfl dX5_die_18 rfl ?_
      refine zr_getf (v := .int (nI Q)) (pc2 := 24) O sF_X5_die_72 1 0 rfl rfl rfl dX5_die_21 rfl ?_
      refine zn_icmp_ge (tgt := 52) (pc2 := 27) O dX5_die_24 (by decide) rfl (by omega) (by omega) (fun c24 => ?_) (fun c24 => ?_)
      · refine zr_aload_n (pc2 := 53) O dX5_die_52 rfl 1 rfl rfl ?_
        refine zr_getf (v := .ref (y 2)) (pc2 := 56) O sF_X5_die_15 0 0 rfl rfl rfl dX5_die_53 rfl ?_
        refine zr_iload_n (pc2 := 57) O dX5_die_56 rfl 2 rfl rfl ?_
        refine zr_iconst (v := (nI 0)) (pc2 := 58) O dX5_die_57 (by decide +kernel) rfl ?_
        refine zn_iast (j := i) (G2 := yearsW cI cJ y (b 0) hav (v24.1, (upd v24.2.1 i (nI 0)), v24.2.2) PA) (ws2 := [yearsW cI cJ y (b 0) hav (v24.1, (upd v24.2.1 i (nI 0)), v24.2.2) PA, bookW cI b P Q Hn sd B]) (pc2 := 59) O 0 2 0 rfl rfl rfl rfl (by omega) (by decide) dX5_die_58 rfl rfl rfl ?_
        have hE : s_X5_die Y P Q B i yr = (v24.1, (upd v24.2.1 i (nI 0)), v24.2.2) := by subst hv24; exact rfl
        exact hret _ _ _ dX5_die_59 (by rw [hE])
      · exact absurd c24 (by omega)
    | succ n9 ih16 =>
      intro k Y9 hM16 hF16
      refine zr_iload_n (pc2 := 17) O dX5_die_16 rfl 0 rfl rfl ?_
      refine zr_aload_n (pc2 := 18) O dX5_die_17 rfl 1 rfl rfl ?_
      refine zr_getf (v := .ref (b 0)) (pc2 := 21) O sF_X5_die_42 0 0 rfl rfl rfl dX5_die_18 rfl ?_
      refine zr_getf (v := .int (nI Q)) (pc2 := 24) O sF_X5_die_72 1 0 rfl rfl rfl dX5_die_21 rfl ?_
      refine zn_icmp_ge (tgt := 52) (pc2 := 27) O dX5_die_24 (by decide) rfl (by omega) (by omega) (fun c24 => ?_) (fun c24 => ?_)
      · exact absurd c24 (by omega)
      · refine zr_aload_n (pc2 := 28) O dX5_die_27 rfl 1 rfl rfl ?_
        refine zr_getf (v := .ref (b 0)) (pc2 := 31) O sF_X5_die_42 0 0 rfl rfl rfl dX5_die_28 rfl ?_
        refine zr_getf (v := .ref (b 7)) (pc2 := 34) O sF_X5_die_132 1 0 rfl rfl rfl dX5_die_31 rfl ?_
        refine zr_iload_n (pc2 := 35) O dX5_die_34 rfl 0 rfl rfl ?_
        refine zn_iald (j := k) (pc2 := 36) O 1 6 0 rfl rfl rfl rfl (by omega) (by decide) dX5_die_35 rfl ?_
        refine zr_iload_n (pc2 := 37) O dX5_die_36 rfl 2 rfl rfl ?_
        refine zr_icmp_ne (tgt := 46) (pc2 := 40) O dX5_die_37 (by decide) rfl (fun c37 => ?_) (fun c37 => ?_)
        · refine zr_iinc (v := (nI (k + 1))) (lv2 := [(3, .int (nI (k + 1))), (0, .ref (y 0)), (1, .int (nI i)), (2, .int (nI yr))]) (pc2 := 49) O dX5_die_46 0 rfl (zm_ofInt1 k) (by decide) rfl rfl ?_
          refine zr_goto (tgt := 16) O dX5_die_49 (by decide) ?_
          have hE : f_X5_die_16 P B i (n9 + 1) k Y9 = f_X5_die_16 P B i n9 (k + 1) Y9 := by exact (if_neg c37)
          exact ih16 (k + 1) Y9 (by omega) (hF16.trans hE)
        · refine zr_aload_n (pc2 := 41) O dX5_die_40 rfl 1 rfl rfl ?_
          refine zr_iload_n (pc2 := 42) O dX5_die_41 rfl 2 rfl rfl ?_
          refine zr_iload_n (pc2 := 43) O dX5_die_42 rfl 0 rfl rfl ?_
          refine zr_callV (As := [.int (nI i), .int (nI k)]) (rest := []) (ws2 := [yearsW cI cJ y (b 0) hav (s_X5_pay Y9 P B i k) PA, bookW cI b P Q Hn sd B]) (pc2 := 46) (ci := 5) (g0 := 0) (q0 := 0) O (c_X5_pay l D cI cC cJ y b hav Y9 PA P Q Hn sd B i k (by first | assumption | omega) (by first | assumption | omega) (by first | assumption | omega)) sC_X5_die_135 rfl rfl rfl rfl rfl dX5_die_43 [0, 1] rfl rfl rfl rfl (Nat.le_of_ble_eq_true rfl) rfl ?_
          show Z _ _ _ []
          refine zr_iinc (v := (nI (k + 1))) (lv2 := [(3, .int (nI (k + 1))), (0, .ref (y 0)), (1, .int (nI i)), (2, .int (nI yr))]) (pc2 := 49) O dX5_die_46 0 rfl (zm_ofInt1 k) (by decide) rfl rfl ?_
          refine zr_goto (tgt := 16) O dX5_die_49 (by decide) ?_
          have hE : f_X5_die_16 P B i (n9 + 1) k Y9 = f_X5_die_16 P B i n9 (k + 1) (s_X5_pay Y9 P B i k) := by exact (if_pos c37)
          exact ih16 (k + 1) (s_X5_pay Y9 P B i k) (by omega) (hF16.trans hE)
  exact lp16 Q 0 ((upd Y.1 i (nI 2)), Y.2.1, Y.2.2.1, Y.2.2.2.1, (upd Y.2.2.2.2.1 i (nI yr)), Y.2.2.2.2.2) (by omega) rfl
/-! X5_takeTurn -/
def s_X5_takeTurn (hav : Int32) (Y : zY) (P : Nat) (Q : Nat) (B : zB) (i : Nat) (yr : Nat) : Int32 × zY := if (Y.1 i) = (nI 1) then if (Y.2.2.1 i) ≤ 0 then if ((nI yr) - (B.1 i)) < (nI 18) then if ((nI yr) - (B.1 i)) < (B.2.2.1 i) then (hav, (Y.1, Y.2.1, Y.2.2.1, (upd Y.2.2.2.1 i (Y.2.1 i)), Y.2.2.2.2)) else let u114 := s_X5_die (Y.1, Y.2.1, Y.2.2.1, (upd Y.2.2.2.1 i (Y.2.1 i)), Y.2.2.2.2) P Q B i yr; (hav, u114) else if ((nI yr) - (B.1 i)) < (B.2.2.1 i) then (hav, (Y.1, Y.2.1, Y.2.2.1, (upd Y.2.2.2.1 i (Y.2.1 i)), Y.2.2.2.2)) else let u114 := s_X5_die (Y.1, Y.2.1, Y.2.2.1, (upd Y.2.2.2.1 i (Y.2.1 i)), Y.2.2.2.2) P Q B i yr; (hav, u114) else if (Y.2.1 i) < (Y.2.2.1 i) then if ((nI yr) - (B.1 i)) < (nI 18) then if ((nI yr) - (B.1 i)) < (B.2.2.1 i) then (hav, (Y.1, Y.2.1, Y.2.2.1, (upd Y.2.2.2.1 i (Y.2.1 i)), Y.2.2.2.2)) else let u114 := s_X5_die (Y.1, Y.2.1, Y.2.2.1, (upd Y.2.2.2.1 i (Y.2.1 i)), Y.2.2.2.2) P Q B i yr; (hav, u114) else if ((nI yr) - (B.1 i)) < (B.2.2.1 i) then (hav, (Y.1, Y.2.1, Y.2.2.1, (upd Y.2.2.2.1 i (Y.2.1 i)), Y.2.2.2.2)) else let u114 := s_X5_die (Y.1, Y.2.1, Y.2.2.1, (upd Y.2.2.2.1 i (Y.2.1 i)), Y.2.2.2.2) P Q B i yr; (hav, u114) else if ((nI yr) - (B.1 i)) < (nI 18) then if ((nI yr) - (B.1 i)) < (B.2.2.1 i) then (hav, (Y.1, Y.2.1, Y.2.2.1, (upd Y.2.2.2.1 i (Y.2.1 i)), Y.2.2.2.2)) else let u114 := s_X5_die (Y.1, Y.2.1, Y.2.2.1, (upd Y.2.2.2.1 i (Y.2.1 i)), Y.2.2.2.2) P Q B i yr; (hav, u114) else let u92 := s_X5_die (Y.1, Y.2.1, Y.2.2.1, (upd Y.2.2.2.1 i (Y.2.1 i)), Y.2.2.2.2) P Q B i yr; ((hav ||| ((nI 1) <<< ((nI i) &&& 31))), u92) else (hav, Y)
set_option maxHeartbeats 4000000 in
set_option maxRecDepth 100000 in
theorem c_X5_takeTurn (l : Launch) (D : va_G) (cI cC cJ : ClassId) (y : Nat → Nat) (b : Nat → Nat) (hav : Int32) (Y : zY) (PA : Nat → Nat → Int32) (P : Nat) (Q : Nat) (Hn : Nat) (sd : Int32) (B : zB) (i : Nat) (yr : Nat) (hP : P ≤ 6) (hQ : Q ≤ 9) (hi : i < 6) : zD l yX5_takeTurn wsX5_takeTurn rm_X5_takeTurn D (zT cI cC cJ) [.ref (y 0), .int (nI i), .int (nI yr)] [yearsW cI cJ y (b 0) hav Y PA, bookW cI b P Q Hn sd B] none [yearsW cI cJ y (b 0) ((s_X5_takeTurn hav Y P Q B i yr).1) ((s_X5_takeTurn hav Y P Q B i yr).2) PA, bookW cI b P Q Hn sd B] := by
  refine zD_void (cc := cX5_takeTurn) (maxL := 5) (lv := [(0, .ref (y 0)), (1, .int (nI i)), (2, .int (nI yr))]) (by decide +kernel) rfl (Nat.le_of_ble_eq_true rfl) rfl (fun Z O hret => ?_)
  refine zr_aload_n (pc2 := 1) O dX5_takeTurn_0 rfl 0 rfl rfl ?_
  refine zr_getf (v := .ref (y 1)) (pc2 := 4) O sF_X5_takeTurn_9 0 0 rfl rfl rfl dX5_takeTurn_1 rfl ?_
  refine zr_iload_n (pc2 := 5) O dX5_takeTurn_4 rfl 1 rfl rfl ?_
  refine zn_iald (j := i) (pc2 := 6) O 0 1 0 rfl rfl rfl rfl (by omega) (by decide) dX5_takeTurn_5 rfl ?_
  refine zr_iconst (v := (nI 1)) (pc2 := 7) O dX5_takeTurn_6 (by decide +kernel) rfl ?_
  refine zr_icmp_eq (tgt := 11) (pc2 := 10) O dX5_takeTurn_7 (by decide) rfl (fun c7 => ?_) (fun c7 => ?_)
  · refine zr_aload_n (pc2 := 12) O dX5_takeTurn_11 rfl 0 rfl rfl ?_
    refine zr_getf (v := .ref (y 4)) (pc2 := 15) O sF_X5_takeTurn_21 0 0 rfl rfl rfl dX5_takeTurn_12 rfl ?_
    refine zr_iload_n (pc2 := 16) O dX5_takeTurn_15 rfl 1 rfl rfl ?_
    refine zr_aload_n (pc2 := 17) O dX5_takeTurn_16 rfl 0 rfl rfl ?_
    refine zr_getf (v := .ref (y 2)) (pc2 := 20) O sF_X5_takeTurn_15 0 0 rfl rfl rfl dX5_takeTurn_17 rfl ?_
    refine zr_iload_n (pc2 := 21) O dX5_takeTurn_20 rfl 1 rfl rfl ?_
    refine zn_iald (j := i) (pc2 := 22) O 0 2 0 rfl rfl rfl rfl (by omega) (by decide) dX5_takeTurn_21 rfl ?_
    refine zn_iast (j := i) (G2 := yearsW cI cJ y (b 0) hav (Y.1, Y.2.1, Y.2.2.1, (upd Y.2.2.2.1 i (Y.2.1 i)), Y.2.2.2.2) PA) (ws2 := [yearsW cI cJ y (b 0) hav (Y.1, Y.2.1, Y.2.2.1, (upd Y.2.2.2.1 i (Y.2.1 i)), Y.2.2.2.2) PA, bookW cI b P Q Hn sd B]) (pc2 := 23) O 0 4 0 rfl rfl rfl rfl (by omega) (by decide) dX5_takeTurn_22 rfl rfl rfl ?_
    refine zr_iload_n (pc2 := 24) O dX5_takeTurn_23 rfl 2 rfl rfl ?_
    refine zr_aload_n (pc2 := 25) O dX5_takeTurn_24 rfl 0 rfl rfl ?_
    refine zr_getf (v := .ref (b 0)) (pc2 := 28) O sF_X5_takeTurn_42 0 0 rfl rfl rfl dX5_takeTurn_25 rfl ?_
    refine zr_getf (v := .ref (b 1)) (pc2 := 31) O sF_X5_takeTurn_75 1 0 rfl rfl rfl dX5_takeTurn_28 rfl ?_
    refine zr_iload_n (pc2 := 32) O dX5_takeTurn_31 rfl 1 rfl rfl ?_
    refine zn_iald (j := i) (pc2 := 33) O 1 1 0 rfl rfl rfl rfl (by omega) (by decide) dX5_takeTurn_32 rfl ?_
    refine zr_isub (v := ((nI yr) - (B.1 i))) (pc2 := 34) O dX5_takeTurn_33 rfl rfl ?_
    refine zr_istore_n (lv2 := [(3, .int ((nI yr) - (B.1 i))), (0, .ref (y 0)), (1, .int (nI i)), (2, .int (nI yr))]) (pc2 := 35) O dX5_takeTurn_34 rfl (by decide) rfl rfl ?_
    refine zr_aload_n (pc2 := 36) O dX5_takeTurn_35 rfl 1 rfl rfl ?_
    refine zr_getf (v := .ref (y 3)) (pc2 := 39) O sF_X5_takeTurn_18 0 0 rfl rfl rfl dX5_takeTurn_36 rfl ?_
    refine zr_iload_n (pc2 := 40) O dX5_takeTurn_39 rfl 2 rfl rfl ?_
    refine zn_iald (j := i) (pc2 := 41) O 0 3 0 rfl rfl rfl rfl (by omega) (by decide) dX5_takeTurn_40 rfl ?_
    refine zr_if_le (tgt := 63) (pc2 := 44) O dX5_takeTurn_41 (by decide) rfl (fun c41 => ?_) (fun c41 => ?_)
    · refine zr_iconst (v := (nI 0)) (pc2 := 64) O dX5_takeTurn_63 (by decide +kernel) rfl ?_
      refine zr_istore (lv2 := [(4, .int (nI 0)), (3, .int ((nI yr) - (B.1 i))), (0, .ref (y 0)), (1, .int (nI i)), (2, .int (nI yr))]) (pc2 := 66) O dX5_takeTurn_64 (by decide) rfl rfl ?_
      refine zr_iload_n (pc2 := 67) O dX5_takeTurn_66 rfl 1 rfl rfl ?_
      refine zr_bipush (v := (nI 18)) (pc2 := 69) O dX5_takeTurn_67 (by decide +kernel) rfl ?_
      refine zr_icmp_lt (tgt := 98) (pc2 := 72) O dX5_takeTurn_69 (by decide) rfl (fun c69 => ?_) (fun c69 => ?_)
      · refine zr_iload_n (pc2 := 99) O dX5_takeTurn_98 rfl 1 rfl rfl ?_
        refine zr_aload_n (pc2 := 100) O dX5_takeTurn_99 rfl 2 rfl rfl ?_
        refine zr_getf (v := .ref (b 0)) (pc2 := 103) O sF_X5_takeTurn_42 0 0 rfl rfl rfl dX5_takeTurn_100 rfl ?_
        refine zr_getf (v := .ref (b 3)) (pc2 := 106) O sF_X5_takeTurn_129 1 0 rfl rfl rfl dX5_takeTurn_103 rfl ?_
        refine zr_iload_n (pc2 := 107) O dX5_takeTurn_106 rfl 3 rfl rfl ?_
        refine zn_iald (j := i) (pc2 := 108) O 1 3 0 rfl rfl rfl rfl (by omega) (by decide) dX5_takeTurn_107 rfl ?_
        refine zr_icmp_lt (tgt := 117) (pc2 := 111) O dX5_takeTurn_108 (by decide) rfl (fun c108 => ?_) (fun c108 => ?_)
        · have hE : s_X5_takeTurn hav Y P Q B i yr = (hav, (Y.1, Y.2.1, Y.2.2.1, (upd Y.2.2.2.1 i (Y.2.1 i)), Y.2.2.2.2)) := by exact ((if_pos c7).trans ((if_pos c41).trans ((if_pos c69).trans (if_pos c108))))
          exact hret _ _ _ dX5_takeTurn_117 (by rw [hE])
        · refine zr_aload_n (pc2 := 112) O dX5_takeTurn_111 rfl 2 rfl rfl ?_
          refine zr_iload_n (pc2 := 113) O dX5_takeTurn_112 rfl 3 rfl rfl ?_
          refine zr_iload_n (pc2 := 114) O dX5_takeTurn_113 rfl 4 rfl rfl ?_
          obtain ⟨u114, hu114⟩ : ∃ z9, z9 = s_X5_die (Y.1, Y.2.1, Y.2.2.1, (upd Y.2.2.2.1 i (Y.2.1 i)), Y.2.2.2.2) P Q B i yr := ⟨_, rfl⟩
          refine zr_callV (As := [.int (nI i), .int (nI yr)]) (rest := []) (ws2 := [yearsW cI cJ y (b 0) hav u114 PA, bookW cI b P Q Hn sd B]) (pc2 := 117) (ci := 5) (g0 := 0) (q0 := 0) (v := none) (W := [yearsW cI cJ y (b 0) hav (Y.1, Y.2.1, Y.2.2.1, (upd Y.2.2.2.1 i (Y.2.1 i)), Y.2.2.2.2) PA, bookW cI b P Q Hn sd B]) (W2 := [yearsW cI cJ y (b 0) hav u114 PA, bookW cI b P Q Hn sd B]) O (by rw [hu114]; exact (c_X5_die l D cI cC cJ y b hav (Y.1, Y.2.1, Y.2.2.1, (upd Y.2.2.2.1 i (Y.2.1 i)), Y.2.2.2.2) PA P Q Hn sd B i yr (by first | assumption | omega) (by first | assumption | omega) (by first | assumption | omega))) sC_X5_takeTurn_126 rfl rfl rfl rfl rfl dX5_takeTurn_114 [0, 1] rfl rfl rfl rfl (Nat.le_of_ble_eq_true rfl) rfl ?_
          show Z _ _ _ []
          have hE : s_X5_takeTurn hav Y P Q B i yr = (hav, u114) := by subst hu114; exact ((if_pos c7).trans ((if_pos c41).trans ((if_pos c69).trans (if_neg c108))))
          exact hret _ _ _ dX5_takeTurn_117 (by rw [hE])
      · refine zr_iload (pc2 := 74) O dX5_takeTurn_72 0 rfl rfl ?_
        refine zn_if_eq (tgt := 98) (pc2 := 77) O dX5_takeTurn_74 (by decide) rfl (by omega) (fun c74 => ?_) (fun c74 => ?_)
        · refine zr_iload_n (pc2 := 99) O dX5_takeTurn_98 rfl 1 rfl rfl ?_
          refine zr_aload_n (pc2 := 100) O dX5_takeTurn_99 rfl 2 rfl rfl ?_
          refine zr_getf (v := .ref (b 0)) (pc2 := 103) O sF_X5_takeTurn_42 0 0 rfl rfl rfl dX5_takeTurn_100 rfl ?_
          refine zr_getf (v := .ref (b 3)) (pc2 := 106) O sF_X5_takeTurn_129 1 0 rfl rfl rfl dX5_takeTurn_103 rfl ?_
          refine zr_iload_n (pc2 := 107) O dX5_takeTurn_106 rfl 3 rfl rfl ?_
          refine zn_iald (j := i) (pc2 := 108) O 1 3 0 rfl rfl rfl rfl (by omega) (by decide) dX5_takeTurn_107 rfl ?_
          refine zr_icmp_lt (tgt := 117) (pc2 := 111) O dX5_takeTurn_108 (by decide) rfl (fun c108 => ?_) (fun c108 => ?_)
          · have hE : s_X5_takeTurn hav Y P Q B i yr = (hav, (Y.1, Y.2.1, Y.2.2.1, (upd Y.2.2.2.1 i (Y.2.1 i)), Y.2.2.2.2)) := by exact ((if_pos c7).trans ((if_pos c41).trans ((if_neg c69).trans (if_pos c108))))
            exact hret _ _ _ dX5_takeTurn_117 (by rw [hE])
          · refine zr_aload_n (pc2 := 112) O dX5_takeTurn_111 rfl 2 rfl rfl ?_
            refine zr_iload_n (pc2 := 113) O dX5_takeTurn_112 rfl 3 rfl rfl ?_
            refine zr_iload_n (pc2 := 114) O dX5_takeTurn_113 rfl 4 rfl rfl ?_
            obtain ⟨u114, hu114⟩ : ∃ z9, z9 = s_X5_die (Y.1, Y.2.1, Y.2.2.1, (upd Y.2.2.2.1 i (Y.2.1 i)), Y.2.2.2.2) P Q B i yr := ⟨_, rfl⟩
            refine zr_callV (As := [.int (nI i), .int (nI yr)]) (rest := []) (ws2 := [yearsW cI cJ y (b 0) hav u114 PA, bookW cI b P Q Hn sd B]) (pc2 := 117) (ci := 5) (g0 := 0) (q0 := 0) (v := none) (W := [yearsW cI cJ y (b 0) hav (Y.1, Y.2.1, Y.2.2.1, (upd Y.2.2.2.1 i (Y.2.1 i)), Y.2.2.2.2) PA, bookW cI b P Q Hn sd B]) (W2 := [yearsW cI cJ y (b 0) hav u114 PA, bookW cI b P Q Hn sd B]) O (by rw [hu114]; exact (c_X5_die l D cI cC cJ y b hav (Y.1, Y.2.1, Y.2.2.1, (upd Y.2.2.2.1 i (Y.2.1 i)), Y.2.2.2.2) PA P Q Hn sd B i yr (by first | assumption | omega) (by first | assumption | omega) (by first | assumption | omega))) sC_X5_takeTurn_126 rfl rfl rfl rfl rfl dX5_takeTurn_114 [0, 1] rfl rfl rfl rfl (Nat.le_of_ble_eq_true rfl) rfl ?_
            show Z _ _ _ []
            have hE : s_X5_takeTurn hav Y P Q B i yr = (hav, u114) := by subst hu114; exact ((if_pos c7).trans ((if_pos c41).trans ((if_neg c69).trans (if_neg c108))))
            exact hret _ _ _ dX5_takeTurn_117 (by rw [hE])
        · exact absurd c74 (by decide)
    · refine zr_aload_n (pc2 := 45) O dX5_takeTurn_44 rfl 1 rfl rfl ?_
      refine zr_getf (v := .ref (y 2)) (pc2 := 48) O sF_X5_takeTurn_15 0 0 rfl rfl rfl dX5_takeTurn_45 rfl ?_
      refine zr_iload_n (pc2 := 49) O dX5_takeTurn_48 rfl 2 rfl rfl ?_
      refine zn_iald (j := i) (pc2 := 50) O 0 2 0 rfl rfl rfl rfl (by omega) (by decide) dX5_takeTurn_49 rfl ?_
      refine zr_aload_n (pc2 := 51) O dX5_takeTurn_50 rfl 1 rfl rfl ?_
      refine zr_getf (v := .ref (y 3)) (pc2 := 54) O sF_X5_takeTurn_18 0 0 rfl rfl rfl dX5_takeTurn_51 rfl ?_
      refine zr_iload_n (pc2 := 55) O dX5_takeTurn_54 rfl 2 rfl rfl ?_
      refine zn_iald (j := i) (pc2 := 56) O 0 3 0 rfl rfl rfl rfl (by omega) (by decide) dX5_takeTurn_55 rfl ?_
      refine zr_icmp_lt (tgt := 63) (pc2 := 59) O dX5_takeTurn_56 (by decide) rfl (fun c56 => ?_) (fun c56 => ?_)
      · refine zr_iconst (v := (nI 0)) (pc2 := 64) O dX5_takeTurn_63 (by decide +kernel) rfl ?_
        refine zr_istore (lv2 := [(4, .int (nI 0)), (3, .int ((nI yr) - (B.1 i))), (0, .ref (y 0)), (1, .int (nI i)), (2, .int (nI yr))]) (pc2 := 66) O dX5_takeTurn_64 (by decide) rfl rfl ?_
        refine zr_iload_n (pc2 := 67) O dX5_takeTurn_66 rfl 1 rfl rfl ?_
        refine zr_bipush (v := (nI 18)) (pc2 := 69) O dX5_takeTurn_67 (by decide +kernel) rfl ?_
        refine zr_icmp_lt (tgt := 98) (pc2 := 72) O dX5_takeTurn_69 (by decide) rfl (fun c69 => ?_) (fun c69 => ?_)
        · refine zr_iload_n (pc2 := 99) O dX5_takeTurn_98 rfl 1 rfl rfl ?_
          refine zr_aload_n (pc2 := 100) O dX5_takeTurn_99 rfl 2 rfl rfl ?_
          refine zr_getf (v := .ref (b 0)) (pc2 := 103) O sF_X5_takeTurn_42 0 0 rfl rfl rfl dX5_takeTurn_100 rfl ?_
          refine zr_getf (v := .ref (b 3)) (pc2 := 106) O sF_X5_takeTurn_129 1 0 rfl rfl rfl dX5_takeTurn_103 rfl ?_
          refine zr_iload_n (pc2 := 107) O dX5_takeTurn_106 rfl 3 rfl rfl ?_
          refine zn_iald (j := i) (pc2 := 108) O 1 3 0 rfl rfl rfl rfl (by omega) (by decide) dX5_takeTurn_107 rfl ?_
          refine zr_icmp_lt (tgt := 117) (pc2 := 111) O dX5_takeTurn_108 (by decide) rfl (fun c108 => ?_) (fun c108 => ?_)
          · have hE : s_X5_takeTurn hav Y P Q B i yr = (hav, (Y.1, Y.2.1, Y.2.2.1, (upd Y.2.2.2.1 i (Y.2.1 i)), Y.2.2.2.2)) := by exact ((if_pos c7).trans ((if_neg c41).trans ((if_pos c56).trans ((if_pos c69).trans (if_pos c108)))))
            exact hret _ _ _ dX5_takeTurn_117 (by rw [hE])
          · refine zr_aload_n (pc2 := 112) O dX5_takeTurn_111 rfl 2 rfl rfl ?_
            refine zr_iload_n (pc2 := 113) O dX5_takeTurn_112 rfl 3 rfl rfl ?_
            refine zr_iload_n (pc2 := 114) O dX5_takeTurn_113 rfl 4 rfl rfl ?_
            obtain ⟨u114, hu114⟩ : ∃ z9, z9 = s_X5_die (Y.1, Y.2.1, Y.2.2.1, (upd Y.2.2.2.1 i (Y.2.1 i)), Y.2.2.2.2) P Q B i yr := ⟨_, rfl⟩
            refine zr_callV (As := [.int (nI i), .int (nI yr)]) (rest := []) (ws2 := [yearsW cI cJ y (b 0) hav u114 PA, bookW cI b P Q Hn sd B]) (pc2 := 117) (ci := 5) (g0 := 0) (q0 := 0) (v := none) (W := [yearsW cI cJ y (b 0) hav (Y.1, Y.2.1, Y.2.2.1, (upd Y.2.2.2.1 i (Y.2.1 i)), Y.2.2.2.2) PA, bookW cI b P Q Hn sd B]) (W2 := [yearsW cI cJ y (b 0) hav u114 PA, bookW cI b P Q Hn sd B]) O (by rw [hu114]; exact (c_X5_die l D cI cC cJ y b hav (Y.1, Y.2.1, Y.2.2.1, (upd Y.2.2.2.1 i (Y.2.1 i)), Y.2.2.2.2) PA P Q Hn sd B i yr (by first | assumption | omega) (by first | assumption | omega) (by first | assumption | omega))) sC_X5_takeTurn_126 rfl rfl rfl rfl rfl dX5_takeTurn_114 [0, 1] rfl rfl rfl rfl (Nat.le_of_ble_eq_true rfl) rfl ?_
            show Z _ _ _ []
            have hE : s_X5_takeTurn hav Y P Q B i yr = (hav, u114) := by subst hu114; exact ((if_pos c7).trans ((if_neg c41).trans ((if_pos c56).trans ((if_pos c69).trans (if_neg c108)))))
            exact hret _ _ _ dX5_takeTurn_117 (by rw [hE])
        · refine zr_iload (pc2 := 74) O dX5_takeTurn_72 0 rfl rfl ?_
          refine zn_if_eq (tgt := 98) (pc2 := 77) O dX5_takeTurn_74 (by decide) rfl (by omega) (fun c74 => ?_) (fun c74 => ?_)
          · refine zr_iload_n (pc2 := 99) O dX5_takeTurn_98 rfl 1 rfl rfl ?_
            refine zr_aload_n (pc2 := 100) O dX5_takeTurn_99 rfl 2 rfl rfl ?_
            refine zr_getf (v := .ref (b 0)) (pc2 := 103) O sF_X5_takeTurn_42 0 0 rfl rfl rfl dX5_takeTurn_100 rfl ?_
            refine zr_getf (v := .ref (b 3)) (pc2 := 106) O sF_X5_takeTurn_129 1 0 rfl rfl rfl dX5_takeTurn_103 rfl ?_
            refine zr_iload_n (pc2 := 107) O dX5_takeTurn_106 rfl 3 rfl rfl ?_
            refine zn_iald (j := i) (pc2 := 108) O 1 3 0 rfl rfl rfl rfl (by omega) (by decide) dX5_takeTurn_107 rfl ?_
            refine zr_icmp_lt (tgt := 117) (pc2 := 111) O dX5_takeTurn_108 (by decide) rfl (fun c108 => ?_) (fun c108 => ?_)
            · have hE : s_X5_takeTurn hav Y P Q B i yr = (hav, (Y.1, Y.2.1, Y.2.2.1, (upd Y.2.2.2.1 i (Y.2.1 i)), Y.2.2.2.2)) := by exact ((if_pos c7).trans ((if_neg c41).trans ((if_pos c56).trans ((if_neg c69).trans (if_pos c108)))))
              exact hret _ _ _ dX5_takeTurn_117 (by rw [hE])
            · refine zr_aload_n (pc2 := 112) O dX5_takeTurn_111 rfl 2 rfl rfl ?_
              refine zr_iload_n (pc2 := 113) O dX5_takeTurn_112 rfl 3 rfl rfl ?_
              refine zr_iload_n (pc2 := 114) O dX5_takeTurn_113 rfl 4 rfl rfl ?_
              obtain ⟨u114, hu114⟩ : ∃ z9, z9 = s_X5_die (Y.1, Y.2.1, Y.2.2.1, (upd Y.2.2.2.1 i (Y.2.1 i)), Y.2.2.2.2) P Q B i yr := ⟨_, rfl⟩
              refine zr_callV (As := [.int (nI i), .int (nI yr)]) (rest := []) (ws2 := [yearsW cI cJ y (b 0) hav u114 PA, bookW cI b P Q Hn sd B]) (pc2 := 117) (ci := 5) (g0 := 0) (q0 := 0) (v := none) (W := [yearsW cI cJ y (b 0) hav (Y.1, Y.2.1, Y.2.2.1, (upd Y.2.2.2.1 i (Y.2.1 i)), Y.2.2.2.2) PA, bookW cI b P Q Hn sd B]) (W2 := [yearsW cI cJ y (b 0) hav u114 PA, bookW cI b P Q Hn sd B]) O (by rw [hu114]; exact (c_X5_die l D cI cC cJ y b hav (Y.1, Y.2.1, Y.2.2.1, (upd Y.2.2.2.1 i (Y.2.1 i)), Y.2.2.2.2) PA P Q Hn sd B i yr (by first | assumption | omega) (by first | assumption | omega) (by first | assumption | omega))) sC_X5_takeTurn_126 rfl rfl rfl rfl rfl dX5_takeTurn_114 [0, 1] rfl rfl rfl rfl (Nat.le_of_ble_eq_true rfl) rfl ?_
              show Z _ _ _ []
              have hE : s_X5_takeTurn hav Y P Q B i yr = (hav, u114) := by subst hu114; exact ((if_pos c7).trans ((if_neg c41).trans ((if_pos c56).trans ((if_neg c69).trans (if_neg c108)))))
              exact hret _ _ _ dX5_takeTurn_117 (by rw [hE])
          · exact absurd c74 (by decide)
      · refine zr_iconst (v := (nI 1)) (pc2 := 60) O dX5_takeTurn_59 (by decide +kernel) rfl ?_
        refine zr_goto (tgt := 64) O dX5_takeTurn_60 (by decide) ?_
        refine zr_istore (lv2 := [(4, .int (nI 1)), (3, .int ((nI yr) - (B.1 i))), (0, .ref (y 0)), (1, .int (nI i)), (2, .int (nI yr))]) (pc2 := 66) O dX5_takeTurn_64 (by decide) rfl rfl ?_
        refine zr_iload_n (pc2 := 67) O dX5_takeTurn_66 rfl 1 rfl rfl ?_
        refine zr_bipush (v := (nI 18)) (pc2 := 69) O dX5_takeTurn_67 (by decide +kernel) rfl ?_
        refine zr_icmp_lt (tgt := 98) (pc2 := 72) O dX5_takeTurn_69 (by decide) rfl (fun c69 => ?_) (fun c69 => ?_)
        · refine zr_iload_n (pc2 := 99) O dX5_takeTurn_98 rfl 1 rfl rfl ?_
          refine zr_aload_n (pc2 := 100) O dX5_takeTurn_99 rfl 2 rfl rfl ?_
          refine zr_getf (v := .ref (b 0)) (pc2 := 103) O sF_X5_takeTurn_42 0 0 rfl rfl rfl dX5_takeTurn_100 rfl ?_
          refine zr_getf (v := .ref (b 3)) (pc2 := 106) O sF_X5_takeTurn_129 1 0 rfl rfl rfl dX5_takeTurn_103 rfl ?_
          refine zr_iload_n (pc2 := 107) O dX5_takeTurn_106 rfl 3 rfl rfl ?_
          refine zn_iald (j := i) (pc2 := 108) O 1 3 0 rfl rfl rfl rfl (by omega) (by decide) dX5_takeTurn_107 rfl ?_
          refine zr_icmp_lt (tgt := 117) (pc2 := 111) O dX5_takeTurn_108 (by decide) rfl (fun c108 => ?_) (fun c108 => ?_)
          · have hE : s_X5_takeTurn hav Y P Q B i yr = (hav, (Y.1, Y.2.1, Y.2.2.1, (upd Y.2.2.2.1 i (Y.2.1 i)), Y.2.2.2.2)) := by exact ((if_pos c7).trans ((if_neg c41).trans ((if_neg c56).trans ((if_pos c69).trans (if_pos c108)))))
            exact hret _ _ _ dX5_takeTurn_117 (by rw [hE])
          · refine zr_aload_n (pc2 := 112) O dX5_takeTurn_111 rfl 2 rfl rfl ?_
            refine zr_iload_n (pc2 := 113) O dX5_takeTurn_112 rfl 3 rfl rfl ?_
            refine zr_iload_n (pc2 := 114) O dX5_takeTurn_113 rfl 4 rfl rfl ?_
            obtain ⟨u114, hu114⟩ : ∃ z9, z9 = s_X5_die (Y.1, Y.2.1, Y.2.2.1, (upd Y.2.2.2.1 i (Y.2.1 i)), Y.2.2.2.2) P Q B i yr := ⟨_, rfl⟩
            refine zr_callV (As := [.int (nI i), .int (nI yr)]) (rest := []) (ws2 := [yearsW cI cJ y (b 0) hav u114 PA, bookW cI b P Q Hn sd B]) (pc2 := 117) (ci := 5) (g0 := 0) (q0 := 0) (v := none) (W := [yearsW cI cJ y (b 0) hav (Y.1, Y.2.1, Y.2.2.1, (upd Y.2.2.2.1 i (Y.2.1 i)), Y.2.2.2.2) PA, bookW cI b P Q Hn sd B]) (W2 := [yearsW cI cJ y (b 0) hav u114 PA, bookW cI b P Q Hn sd B]) O (by rw [hu114]; exact (c_X5_die l D cI cC cJ y b hav (Y.1, Y.2.1, Y.2.2.1, (upd Y.2.2.2.1 i (Y.2.1 i)), Y.2.2.2.2) PA P Q Hn sd B i yr (by first | assumption | omega) (by first | assumption | omega) (by first | assumption | omega))) sC_X5_takeTurn_126 rfl rfl rfl rfl rfl dX5_takeTurn_114 [0, 1] rfl rfl rfl rfl (Nat.le_of_ble_eq_true rfl) rfl ?_
            show Z _ _ _ []
            have hE : s_X5_takeTurn hav Y P Q B i yr = (hav, u114) := by subst hu114; exact ((if_pos c7).trans ((if_neg c41).trans ((if_neg c56).trans ((if_pos c69).trans (if_neg c108)))))
            exact hret _ _ _ dX5_takeTurn_117 (by rw [hE])
        · refine zr_iload (pc2 := 74) O dX5_takeTurn_72 0 rfl rfl ?_
          refine zn_if_eq (tgt := 98) (pc2 := 77) O dX5_takeTurn_74 (by decide) rfl (by omega) (fun c74 => ?_) (fun c74 => ?_)
          · exact absurd c74 (by decide)
          · refine zr_aload_n (pc2 := 78) O dX5_takeTurn_77 rfl 2 rfl rfl ?_
            refine zr_dup (pc2 := 79) O dX5_takeTurn_78 rfl rfl ?_
            refine zr_getf (v := .int hav) (pc2 := 82) O sF_X5_takeTurn_38 0 0 rfl rfl rfl dX5_takeTurn_79 rfl ?_
            refine zr_iconst (v := (nI 1)) (pc2 := 83) O dX5_takeTurn_82 (by decide +kernel) rfl ?_
            refine zr_iload_n (pc2 := 84) O dX5_takeTurn_83 rfl 3 rfl rfl ?_
            refine zr_ishl (v := ((nI 1) <<< ((nI i) &&& 31))) (pc2 := 85) O dX5_takeTurn_84 rfl rfl ?_
            refine zr_ior (v := (hav ||| ((nI 1) <<< ((nI i) &&& 31)))) (pc2 := 86) O dX5_takeTurn_85 rfl rfl ?_
            refine zr_putf (G2 := yearsW cI cJ y (b 0) (hav ||| ((nI 1) <<< ((nI i) &&& 31))) (Y.1, Y.2.1, Y.2.2.1, (upd Y.2.2.2.1 i (Y.2.1 i)), Y.2.2.2.2) PA) (ws2 := [yearsW cI cJ y (b 0) (hav ||| ((nI 1) <<< ((nI i) &&& 31))) (Y.1, Y.2.1, Y.2.2.1, (upd Y.2.2.2.1 i (Y.2.1 i)), Y.2.2.2.2) PA, bookW cI b P Q Hn sd B]) (pc2 := 89) O sP_X5_takeTurn_38 0 0 rfl rfl rfl rfl (Nat.le_of_ble_eq_true rfl) dX5_takeTurn_86 rfl rfl rfl ?_
            refine zr_aload_n (pc2 := 90) O dX5_takeTurn_89 rfl 2 rfl rfl ?_
            refine zr_iload_n (pc2 := 91) O dX5_takeTurn_90 rfl 3 rfl rfl ?_
            refine zr_iload_n (pc2 := 92) O dX5_takeTurn_91 rfl 4 rfl rfl ?_
            obtain ⟨u92, hu92⟩ : ∃ z9, z9 = s_X5_die (Y.1, Y.2.1, Y.2.2.1, (upd Y.2.2.2.1 i (Y.2.1 i)), Y.2.2.2.2) P Q B i yr := ⟨_, rfl⟩
            refine zr_callV (As := [.int (nI i), .int (nI yr)]) (rest := []) (ws2 := [yearsW cI cJ y (b 0) (hav ||| ((nI 1) <<< ((nI i) &&& 31))) u92 PA, bookW cI b P Q Hn sd B]) (pc2 := 95) (ci := 5) (g0 := 0) (q0 := 0) (v := none) (W := [yearsW cI cJ y (b 0) (hav ||| ((nI 1) <<< ((nI i) &&& 31))) (Y.1, Y.2.1, Y.2.2.1, (upd Y.2.2.2.1 i (Y.2.1 i)), Y.2.2.2.2) PA, bookW cI b P Q Hn sd B]) (W2 := [yearsW cI cJ y (b 0) (hav ||| ((nI 1) <<< ((nI i) &&& 31))) u92 PA, bookW cI b P Q Hn sd B]) O (by rw [hu92]; exact (c_X5_die l D cI cC cJ y b (hav ||| ((nI 1) <<< ((nI i) &&& 31))) (Y.1, Y.2.1, Y.2.2.1, (upd Y.2.2.2.1 i (Y.2.1 i)), Y.2.2.2.2) PA P Q Hn sd B i yr (by first | assumption | omega) (by first | assumption | omega) (by first | assumption | omega))) sC_X5_takeTurn_126 rfl rfl rfl rfl rfl dX5_takeTurn_92 [0, 1] rfl rfl rfl rfl (Nat.le_of_ble_eq_true rfl) rfl ?_
            show Z _ _ _ []
            refine zr_goto (tgt := 117) O dX5_takeTurn_95 (by decide) ?_
            have hE : s_X5_takeTurn hav Y P Q B i yr = ((hav ||| ((nI 1) <<< ((nI i) &&& 31))), u92) := by subst hu92; exact ((if_pos c7).trans ((if_neg c41).trans ((if_neg c56).trans (if_neg c69))))
            exact hret _ _ _ dX5_takeTurn_117 (by rw [hE])
  · have hE : s_X5_takeTurn hav Y P Q B i yr = (hav, Y) := by exact (if_neg c7)
    exact hret _ _ _ dX5_takeTurn_10 (by rw [hE])
/-! X5_drawIsEven -/
def s_X5_drawIsEven (sd : Int32) (i : Nat) (yr : Nat) : Bool := let x28 := ((((7919 * sd.toInt64) + (6151 * ((nI yr).toInt64))) + (3571 * ((nI i).toInt64))) + 1); if (lg_cmp ((((x28 * x28) - (x28 * x28) / 65521 * 65521) / 8) - (((x28 * x28) - (x28 * x28) / 65521 * 65521) / 8) / 2 * 2) 0) = 0 then true else false
set_option maxHeartbeats 4000000 in
set_option maxRecDepth 100000 in
theorem c_X5_drawIsEven (l : Launch) (D : va_G) (cI cC cJ : ClassId) (y : Nat → Nat) (b : Nat → Nat) (hav : Int32) (Y : zY) (PA : Nat → Nat → Int32) (P : Nat) (Q : Nat) (Hn : Nat) (sd : Int32) (B : zB) (i : Nat) (yr : Nat) : zD l yX5_drawIsEven wsX5_drawIsEven rm_X5_drawIsEven D (zT cI cC cJ) [.ref (y 0), .int (nI i), .int (nI yr)] [yearsW cI cJ y (b 0) hav Y PA, bookW cI b P Q Hn sd B] (some (.int (zb (s_X5_drawIsEven sd i yr)))) [yearsW cI cJ y (b 0) hav Y PA, bookW cI b P Q Hn sd B] := by
  refine zD_int (cc := cX5_drawIsEven) (maxL := 5) (ty := .boolean) (lv := [(0, .ref (y 0)), (1, .int (nI i)), (2, .int (nI yr))]) (by decide +kernel) rfl (Nat.le_of_ble_eq_true rfl) rfl (fun Z O hret => ?_)
  refine zr_ldc2 (v := 7919) (pc2 := 3) O sK_X5_drawIsEven_111 dX5_drawIsEven_0 rfl ?_
  refine zr_aload_n (pc2 := 4) O dX5_drawIsEven_3 rfl 0 rfl rfl ?_
  refine zr_getf (v := .ref (b 0)) (pc2 := 7) O sF_X5_drawIsEven_42 0 0 rfl rfl rfl dX5_drawIsEven_4 rfl ?_
  refine zr_getf (v := .int sd) (pc2 := 10) O sF_X5_drawIsEven_113 1 0 rfl rfl rfl dX5_drawIsEven_7 rfl ?_
  refine zr_i2l (v := sd.toInt64) (pc2 := 11) O dX5_drawIsEven_10 rfl rfl ?_
  refine zr_lmul (v := (7919 * sd.toInt64)) (pc2 := 12) O dX5_drawIsEven_11 rfl rfl ?_
  refine zr_ldc2 (v := 6151) (pc2 := 15) O sK_X5_drawIsEven_116 dX5_drawIsEven_12 rfl ?_
  refine zr_iload_n (pc2 := 16) O dX5_drawIsEven_15 rfl 2 rfl rfl ?_
  refine zr_i2l (v := ((nI yr).toInt64)) (pc2 := 17) O dX5_drawIsEven_16 rfl rfl ?_
  refine zr_lmul (v := (6151 * ((nI yr).toInt64))) (pc2 := 18) O dX5_drawIsEven_17 rfl rfl ?_
  refine zr_ladd (v := ((7919 * sd.toInt64) + (6151 * ((nI yr).toInt64)))) (pc2 := 19) O dX5_drawIsEven_18 rfl rfl ?_
  refine zr_ldc2 (v := 3571) (pc2 := 22) O sK_X5_drawIsEven_118 dX5_drawIsEven_19 rfl ?_
  refine zr_iload_n (pc2 := 23) O dX5_drawIsEven_22 rfl 1 rfl rfl ?_
  refine zr_i2l (v := ((nI i).toInt64)) (pc2 := 24) O dX5_drawIsEven_23 rfl rfl ?_
  refine zr_lmul (v := (3571 * ((nI i).toInt64))) (pc2 := 25) O dX5_drawIsEven_24 rfl rfl ?_
  refine zr_ladd (v := (((7919 * sd.toInt64) + (6151 * ((nI yr).toInt64))) + (3571 * ((nI i).toInt64)))) (pc2 := 26) O dX5_drawIsEven_25 rfl rfl ?_
  refine zr_lconst (v := 1) (pc2 := 27) O dX5_drawIsEven_26 (by decide +kernel) rfl ?_
  refine zr_ladd (v := ((((7919 * sd.toInt64) + (6151 * ((nI yr).toInt64))) + (3571 * ((nI i).toInt64))) + 1)) (pc2 := 28) O dX5_drawIsEven_27 rfl rfl ?_
  obtain ⟨x28, hx28⟩ : ∃ z9 : Int64, z9 = ((((7919 * sd.toInt64) + (6151 * ((nI yr).toInt64))) + (3571 * ((nI i).toInt64))) + 1) := ⟨_, rfl⟩
  rw [← hx28]
  refine zr_lstore_n (lv2 := [(3, .long x28), (0, .ref (y 0)), (1, .int (nI i)), (2, .int (nI yr))]) (pc2 := 29) O dX5_drawIsEven_28 rfl (by decide) rfl rfl ?_
  refine zr_lload_n (pc2 := 30) O dX5_drawIsEven_29 rfl 0 rfl rfl ?_
  refine zr_lload_n (pc2 := 31) O dX5_drawIsEven_30 rfl 0 rfl rfl ?_
  refine zr_lmul (v := (x28 * x28)) (pc2 := 32) O dX5_drawIsEven_31 rfl rfl ?_
  refine zr_ldc2 (v := 65521) (pc2 := 35) O sK_X5_drawIsEven_120 dX5_drawIsEven_32 rfl ?_
  refine zr_lrem (v := ((x28 * x28) - (x28 * x28) / 65521 * 65521)) (pc2 := 36) O dX5_drawIsEven_35 (by decide +kernel) rfl rfl ?_
  refine zr_ldc2 (v := 8) (pc2 := 39) O sK_X5_drawIsEven_122 dX5_drawIsEven_36 rfl ?_
  refine zr_ldiv (v := (((x28 * x28) - (x28 * x28) / 65521 * 65521) / 8)) (pc2 := 40) O dX5_drawIsEven_39 (by decide +kernel) rfl rfl ?_
  refine zr_ldc2 (v := 2) (pc2 := 43) O sK_X5_drawIsEven_124 dX5_drawIsEven_40 rfl ?_
  refine zr_lrem (v := ((((x28 * x28) - (x28 * x28) / 65521 * 65521) / 8) - (((x28 * x28) - (x28 * x28) / 65521 * 65521) / 8) / 2 * 2)) (pc2 := 44) O dX5_drawIsEven_43 (by decide +kernel) rfl rfl ?_
  refine zr_lconst (v := 0) (pc2 := 45) O dX5_drawIsEven_44 (by decide +kernel) rfl ?_
  refine zr_lcmp (v := (lg_cmp ((((x28 * x28) - (x28 * x28) / 65521 * 65521) / 8) - (((x28 * x28) - (x28 * x28) / 65521 * 65521) / 8) / 2 * 2) 0)) (pc2 := 46) O dX5_drawIsEven_45 rfl rfl ?_
  refine zr_if_ne (tgt := 53) (pc2 := 49) O dX5_drawIsEven_46 (by decide) rfl (fun c46 => ?_) (fun c46 => ?_)
  · refine zr_iconst (v := (nI 0)) (pc2 := 54) O dX5_drawIsEven_53 (by decide +kernel) rfl ?_
    have hE : s_X5_drawIsEven sd i yr = false := by subst hx28; exact (if_neg c46)
    exact hret _ _ _ _ dX5_drawIsEven_54 (by decide +kernel) (by rw [hE]; rfl) rfl
  · refine zr_iconst (v := (nI 1)) (pc2 := 50) O dX5_drawIsEven_49 (by decide +kernel) rfl ?_
    refine zr_goto (tgt := 54) O dX5_drawIsEven_50 (by decide) ?_
    have hE : s_X5_drawIsEven sd i yr = true := by subst hx28; exact (if_pos c46)
    exact hret _ _ _ _ dX5_drawIsEven_54 (by decide +kernel) (by rw [hE]; rfl) rfl
/-! X5_wages -/
def s_X5_wages (sd : Int32) (B : zB) (i : Nat) (yr : Nat) : Int32 := if (B.2.2.2.1 i) = nI 0 then (B.2.1 i) else if (B.2.2.2.1 i) = nI 1 then if (s_X5_drawIsEven sd i yr) = true then ((nI 2) * (B.2.1 i)) else (nI 0) else if (B.2.2.2.1 i) = nI 2 then ((B.2.1 i) / (nI 2)) else if (B.2.2.2.1 i) = nI 3 then if ((nI yr) - (B.1 i)) < (nI 30) then (nI 0) else ((nI 2) * (B.2.1 i)) else (nI 0)
set_option maxHeartbeats 4000000 in
set_option maxRecDepth 100000 in
theorem c_X5_wages (l : Launch) (D : va_G) (cI cC cJ : ClassId) (y : Nat → Nat) (b : Nat → Nat) (hav : Int32) (Y : zY) (PA : Nat → Nat → Int32) (P : Nat) (Q : Nat) (Hn : Nat) (sd : Int32) (B : zB) (i : Nat) (yr : Nat) (hi : i < 6) : zD l yX5_wages wsX5_wages rm_X5_wages D (zT cI cC cJ) [.ref (y 0), .int (nI i), .int (nI yr)] [yearsW cI cJ y (b 0) hav Y PA, bookW cI b P Q Hn sd B] (some (.int (s_X5_wages sd B i yr))) [yearsW cI cJ y (b 0) hav Y PA, bookW cI b P Q Hn sd B] := by
  refine zD_int (cc := cX5_wages) (maxL := 4) (ty := .int) (lv := [(0, .ref (y 0)), (1, .int (nI i)), (2, .int (nI yr))]) (by decide +kernel) rfl (Nat.le_of_ble_eq_true rfl) rfl (fun Z O hret => ?_)
  refine zr_aload_n (pc2 := 1) O dX5_wages_0 rfl 0 rfl rfl ?_
  refine zr_getf (v := .ref (b 0)) (pc2 := 4) O sF_X5_wages_42 0 0 rfl rfl rfl dX5_wages_1 rfl ?_
  refine zr_getf (v := .ref (b 2)) (pc2 := 7) O sF_X5_wages_101 1 0 rfl rfl rfl dX5_wages_4 rfl ?_
  refine zr_iload_n (pc2 := 8) O dX5_wages_7 rfl 1 rfl rfl ?_
  refine zn_iald (j := i) (pc2 := 9) O 1 2 0 rfl rfl rfl rfl (by omega) (by decide) dX5_wages_8 rfl ?_
  refine zr_istore_n (lv2 := [(3, .int (B.2.1 i)), (0, .ref (y 0)), (1, .int (nI i)), (2, .int (nI yr))]) (pc2 := 10) O dX5_wages_9 rfl (by decide) rfl rfl ?_
  refine zr_aload_n (pc2 := 11) O dX5_wages_10 rfl 1 rfl rfl ?_
  refine zr_getf (v := .ref (b 0)) (pc2 := 14) O sF_X5_wages_42 0 0 rfl rfl rfl dX5_wages_11 rfl ?_
  refine zr_getf (v := .ref (b 4)) (pc2 := 17) O sF_X5_wages_104 1 0 rfl rfl rfl dX5_wages_14 rfl ?_
  refine zr_iload_n (pc2 := 18) O dX5_wages_17 rfl 2 rfl rfl ?_
  refine zn_iald (j := i) (pc2 := 19) O 1 4 0 rfl rfl rfl rfl (by omega) (by decide) dX5_wages_18 rfl ?_
  by_cases c19_0 : (B.2.2.2.1 i) = nI 0
  · refine zn_tabIn (y := nI 0) (off := 29) (tgt := 48) O c19_0 dX5_wages_19 (by decide +kernel) (by decide +kernel) (by decide +kernel) (by decide) ?_
    refine zr_iload_n (pc2 := 49) O dX5_wages_48 rfl 0 rfl rfl ?_
    have hE : s_X5_wages sd B i yr = (B.2.1 i) := by exact (if_pos c19_0)
    exact hret _ _ _ _ dX5_wages_49 rfl (by rw [hE]) rfl
  · skip
    by_cases c19_1 : (B.2.2.2.1 i) = nI 1
    · refine zn_tabIn (y := nI 1) (off := 31) (tgt := 50) O c19_1 dX5_wages_19 (by decide +kernel) (by decide +kernel) (by decide +kernel) (by decide) ?_
      refine zr_aload_n (pc2 := 51) O dX5_wages_50 rfl 1 rfl rfl ?_
      refine zr_iload_n (pc2 := 52) O dX5_wages_51 rfl 2 rfl rfl ?_
      refine zr_iload_n (pc2 := 53) O dX5_wages_52 rfl 3 rfl rfl ?_
      refine zr_callV (As := [.int (nI i), .int (nI yr)]) (rest := []) (ws2 := [yearsW cI cJ y (b 0) hav Y PA, bookW cI b P Q Hn sd B]) (pc2 := 56) (ci := 5) (g0 := 0) (q0 := 0) O (c_X5_drawIsEven l D cI cC cJ y b hav Y PA P Q Hn sd B i yr) sC_X5_wages_107 rfl rfl rfl rfl rfl dX5_wages_53 [0, 1] rfl rfl rfl rfl (Nat.le_of_ble_eq_true rfl) rfl ?_
      show Z _ _ _ [.int (zb (s_X5_drawIsEven sd i yr))]
      refine zb_if_eq (tgt := 65) (pc2 := 59) O dX5_wages_56 (by decide) rfl (fun c56 => ?_) (fun c56 => ?_)
      · refine zr_iconst (v := (nI 0)) (pc2 := 66) O dX5_wages_65 (by decide +kernel) rfl ?_
        have hE : s_X5_wages sd B i yr = (nI 0) := by exact ((if_neg c19_0).trans ((if_pos c19_1).trans (zif_f c56)))
        exact hret _ _ _ _ dX5_wages_66 rfl (by rw [hE]) rfl
      · refine zr_iconst (v := (nI 2)) (pc2 := 60) O dX5_wages_59 (by decide +kernel) rfl ?_
        refine zr_iload_n (pc2 := 61) O dX5_wages_60 rfl 0 rfl rfl ?_
        refine zr_imul (v := ((nI 2) * (B.2.1 i))) (pc2 := 62) O dX5_wages_61 rfl rfl ?_
        refine zr_goto (tgt := 66) O dX5_wages_62 (by decide) ?_
        have hE : s_X5_wages sd B i yr = ((nI 2) * (B.2.1 i)) := by exact ((if_neg c19_0).trans ((if_pos c19_1).trans (zif_t c56)))
        exact hret _ _ _ _ dX5_wages_66 rfl (by rw [hE]) rfl
    · skip
      by_cases c19_2 : (B.2.2.2.1 i) = nI 2
      · refine zn_tabIn (y := nI 2) (off := 48) (tgt := 67) O c19_2 dX5_wages_19 (by decide +kernel) (by decide +kernel) (by decide +kernel) (by decide) ?_
        refine zr_iload_n (pc2 := 68) O dX5_wages_67 rfl 0 rfl rfl ?_
        refine zr_iconst (v := (nI 2)) (pc2 := 69) O dX5_wages_68 (by decide +kernel) rfl ?_
        refine zr_idiv (v := ((B.2.1 i) / (nI 2))) (pc2 := 70) O dX5_wages_69 (by decide +kernel) rfl rfl ?_
        have hE : s_X5_wages sd B i yr = ((B.2.1 i) / (nI 2)) := by exact ((if_neg c19_0).trans ((if_neg c19_1).trans (if_pos c19_2)))
        exact hret _ _ _ _ dX5_wages_70 rfl (by rw [hE]) rfl
      · skip
        by_cases c19_3 : (B.2.2.2.1 i) = nI 3
        · refine zn_tabIn (y := nI 3) (off := 52) (tgt := 71) O c19_3 dX5_wages_19 (by decide +kernel) (by decide +kernel) (by decide +kernel) (by decide) ?_
          refine zr_iload_n (pc2 := 72) O dX5_wages_71 rfl 3 rfl rfl ?_
          refine zr_aload_n (pc2 := 73) O dX5_wages_72 rfl 1 rfl rfl ?_
          refine zr_getf (v := .ref (b 0)) (pc2 := 76) O sF_X5_wages_42 0 0 rfl rfl rfl dX5_wages_73 rfl ?_
          refine zr_getf (v := .ref (b 1)) (pc2 := 79) O sF_X5_wages_75 1 0 rfl rfl rfl dX5_wages_76 rfl ?_
          refine zr_iload_n (pc2 := 80) O dX5_wages_79 rfl 2 rfl rfl ?_
          refine zn_iald (j := i) (pc2 := 81) O 1 1 0 rfl rfl rfl rfl (by omega) (by decide) dX5_wages_80 rfl ?_
          refine zr_isub (v := ((nI yr) - (B.1 i))) (pc2 := 82) O dX5_wages_81 rfl rfl ?_
          refine zr_bipush (v := (nI 30)) (pc2 := 84) O dX5_wages_82 (by decide +kernel) rfl ?_
          refine zr_icmp_lt (tgt := 93) (pc2 := 87) O dX5_wages_84 (by decide) rfl (fun c84 => ?_) (fun c84 => ?_)
          · refine zr_iconst (v := (nI 0)) (pc2 := 94) O dX5_wages_93 (by decide +kernel) rfl ?_
            have hE : s_X5_wages sd B i yr = (nI 0) := by exact ((if_neg c19_0).trans ((if_neg c19_1).trans ((if_neg c19_2).trans ((if_pos c19_3).trans (if_pos c84)))))
            exact hret _ _ _ _ dX5_wages_94 rfl (by rw [hE]) rfl
          · refine zr_iconst (v := (nI 2)) (pc2 := 88) O dX5_wages_87 (by decide +kernel) rfl ?_
            refine zr_iload_n (pc2 := 89) O dX5_wages_88 rfl 0 rfl rfl ?_
            refine zr_imul (v := ((nI 2) * (B.2.1 i))) (pc2 := 90) O dX5_wages_89 rfl rfl ?_
            refine zr_goto (tgt := 94) O dX5_wages_90 (by decide) ?_
            have hE : s_X5_wages sd B i yr = ((nI 2) * (B.2.1 i)) := by exact ((if_neg c19_0).trans ((if_neg c19_1).trans ((if_neg c19_2).trans ((if_pos c19_3).trans (if_neg c84)))))
            exact hret _ _ _ _ dX5_wages_94 rfl (by rw [hE]) rfl
        · skip
          refine zr_tabOut (tgt := 95) O dX5_wages_19 (zsw_out (x := (B.2.2.2.1 i)) 3 (by decide) (zsw_s (zsw_t (zsw_s (zsw_t (zsw_s (zsw_t (zsw_s zsw_0 c19_0)) c19_1)) c19_2)) c19_3)) (by decide) ?_
          refine zr_iconst (v := (nI 0)) (pc2 := 96) O dX5_wages_95 (by decide +kernel) rfl ?_
          have hE : s_X5_wages sd B i yr = (nI 0) := by exact ((if_neg c19_0).trans ((if_neg c19_1).trans ((if_neg c19_2).trans (if_neg c19_3))))
          exact hret _ _ _ _ dX5_wages_96 rfl (by rw [hE]) rfl
/-! X5_work -/
def f_X5_work_2 (sd : Int32) (B : zB) (yr : Nat) : Nat → Nat → zY → zY
  | 0, _, Y9 => Y9
  | n9 + 1, i, Y9 => if (Y9.1 i) = (nI 1) then if ((nI yr) - (B.1 i)) < (nI 10) then f_X5_work_2 sd B yr n9 (i + 1) Y9 else f_X5_work_2 sd B yr n9 (i + 1) (Y9.1, (upd Y9.2.1 i ((Y9.2.1 i) + (s_X5_wages sd B i yr))), Y9.2.2) else f_X5_work_2 sd B yr n9 (i + 1) Y9
def s_X5_work (Y : zY) (P : Nat) (sd : Int32) (B : zB) (yr : Nat) : zY := (f_X5_work_2 sd B yr P 0 Y)
set_option maxHeartbeats 4000000 in
set_option maxRecDepth 100000 in
theorem c_X5_work (l : Launch) (D : va_G) (cI cC cJ : ClassId) (y : Nat → Nat) (b : Nat → Nat) (hav : Int32) (Y : zY) (PA : Nat → Nat → Int32) (P : Nat) (Q : Nat) (Hn : Nat) (sd : Int32) (B : zB) (yr : Nat) (hP : P ≤ 6) : zD l yX5_work wsX5_work rm_X5_work D (zT cI cC cJ) [.ref (y 0), .int (nI yr)] [yearsW cI cJ y (b 0) hav Y PA, bookW cI b P Q Hn sd B] none [yearsW cI cJ y (b 0) hav (s_X5_work Y P sd B yr) PA, bookW cI b P Q Hn sd B] := by
  refine zD_void (cc := cX5_work) (maxL := 3) (lv := [(0, .ref (y 0)), (1, .int (nI yr))]) (by decide +kernel) rfl (Nat.le_of_ble_eq_true rfl) rfl (fun Z O hret => ?_)
  refine zr_iconst (v := (nI 0)) (pc2 := 1) O dX5_work_0 (by decide +kernel) rfl ?_
  refine zr_istore_n (lv2 := [(2, .int (nI 0)), (0, .ref (y 0)), (1, .int (nI yr))]) (pc2 := 2) O dX5_work_1 rfl (by decide) rfl rfl ?_
  have lp2 : ∀ (n9 : Nat) (i : Nat) (Y9 : zY), i + n9 = P → f_X5_work_2 sd B yr P 0 Y = f_X5_work_2 sd B yr n9 i Y9 → Z [yearsW cI cJ y (b 0) hav Y9 PA, bookW cI b P Q Hn sd B] [(2, .int (nI i)), (0, .ref (y 0)), (1, .int (nI yr))] 2 [] := by
    intro n9
    induction n9 with
    | zero =>
      intro i Y9 hM2 hF2
      have hI2 : P = i := by omega
      subst hI2
      have e9 : (f_X5_work_2 sd B yr P 0 Y) = Y9 := hF2
      subst e9
      refine zr_iload_n (pc2 := 3) O dX5_work_2 rfl 0 rfl rfl ?_
      refine zr_aload_n (pc2 := 4) O dX5_work_3 rfl 1 rfl rfl ?_
      refine zr_getf (v := .ref (b 0)) (pc2 := 7) O sF_X5_work_42 0 0 rfl rfl rfl dX5_work_4 rfl ?_
      refine zr_getf (v := .int (nI P)) (pc2 := 10) O sF_X5_work_59 1 0 rfl rfl rfl dX5_work_7 rfl ?_
      refine zn_icmp_ge (tgt := 60) (pc2 := 13) O dX5_work_10 (by decide) rfl (by omega) (by omega) (fun c10 => ?_) (fun c10 => ?_)
      · have hE : s_X5_work Y P sd B yr = (f_X5_work_2 sd B yr P 0 Y) := by exact rfl
        exact hret _ _ _ dX5_work_60 (by rw [hE])
      · exact absurd c10 (by omega)
    | succ n9 ih2 =>
      intro i Y9 hM2 hF2
      refine zr_iload_n (pc2 := 3) O dX5_work_2 rfl 0 rfl rfl ?_
      refine zr_aload_n (pc2 := 4) O dX5_work_3 rfl 1 rfl rfl ?_
      refine zr_getf (v := .ref (b 0)) (pc2 := 7) O sF_X5_work_42 0 0 rfl rfl rfl dX5_work_4 rfl ?_
      refine zr_getf (v := .int (nI P)) (pc2 := 10) O sF_X5_work_59 1 0 rfl rfl rfl dX5_work_7 rfl ?_
      refine zn_icmp_ge (tgt := 60) (pc2 := 13) O dX5_work_10 (by decide) rfl (by omega) (by omega) (fun c10 => ?_) (fun c10 => ?_)
      · exact absurd c10 (by omega)
      · refine zr_aload_n (pc2 := 14) O dX5_work_13 rfl 1 rfl rfl ?_
        refine zr_getf (v := .ref (y 1)) (pc2 := 17) O sF_X5_work_9 0 0 rfl rfl rfl dX5_work_14 rfl ?_
        refine zr_iload_n (pc2 := 18) O dX5_work_17 rfl 0 rfl rfl ?_
        refine zn_iald (j := i) (pc2 := 19) O 0 1 0 rfl rfl rfl rfl (by omega) (by decide) dX5_work_18 rfl ?_
        refine zr_iconst (v := (nI 1)) (pc2 := 20) O dX5_work_19 (by decide +kernel) rfl ?_
        refine zr_icmp_ne (tgt := 54) (pc2 := 23) O dX5_work_20 (by decide) rfl (fun c20 => ?_) (fun c20 => ?_)
        · refine zr_iinc (v := (nI (i + 1))) (lv2 := [(2, .int (nI (i + 1))), (0, .ref (y 0)), (1, .int (nI yr))]) (pc2 := 57) O dX5_work_54 0 rfl (zm_ofInt1 i) (by decide) rfl rfl ?_
          refine zr_goto (tgt := 2) O dX5_work_57 (by decide) ?_
          have hE : f_X5_work_2 sd B yr (n9 + 1) i Y9 = f_X5_work_2 sd B yr n9 (i + 1) Y9 := by exact (if_neg c20)
          exact ih2 (i + 1) Y9 (by omega) (hF2.trans hE)
        · refine zr_iload_n (pc2 := 24) O dX5_work_23 rfl 2 rfl rfl ?_
          refine zr_aload_n (pc2 := 25) O dX5_work_24 rfl 1 rfl rfl ?_
          refine zr_getf (v := .ref (b 0)) (pc2 := 28) O sF_X5_work_42 0 0 rfl rfl rfl dX5_work_25 rfl ?_
          refine zr_getf (v := .ref (b 1)) (pc2 := 31) O sF_X5_work_75 1 0 rfl rfl rfl dX5_work_28 rfl ?_
          refine zr_iload_n (pc2 := 32) O dX5_work_31 rfl 0 rfl rfl ?_
          refine zn_iald (j := i) (pc2 := 33) O 1 1 0 rfl rfl rfl rfl (by omega) (by decide) dX5_work_32 rfl ?_
          refine zr_isub (v := ((nI yr) - (B.1 i))) (pc2 := 34) O dX5_work_33 rfl rfl ?_
          refine zr_bipush (v := (nI 10)) (pc2 := 36) O dX5_work_34 (by decide +kernel) rfl ?_
          refine zr_icmp_lt (tgt := 54) (pc2 := 39) O dX5_work_36 (by decide) rfl (fun c36 => ?_) (fun c36 => ?_)
          · refine zr_iinc (v := (nI (i + 1))) (lv2 := [(2, .int (nI (i + 1))), (0, .ref (y 0)), (1, .int (nI yr))]) (pc2 := 57) O dX5_work_54 0 rfl (zm_ofInt1 i) (by decide) rfl rfl ?_
            refine zr_goto (tgt := 2) O dX5_work_57 (by decide) ?_
            have hE : f_X5_work_2 sd B yr (n9 + 1) i Y9 = f_X5_work_2 sd B yr n9 (i + 1) Y9 := by exact ((if_pos c20).trans (if_pos c36))
            exact ih2 (i + 1) Y9 (by omega) (hF2.trans hE)
          · refine zr_aload_n (pc2 := 40) O dX5_work_39 rfl 1 rfl rfl ?_
            refine zr_getf (v := .ref (y 2)) (pc2 := 43) O sF_X5_work_15 0 0 rfl rfl rfl dX5_work_40 rfl ?_
            refine zr_iload_n (pc2 := 44) O dX5_work_43 rfl 0 rfl rfl ?_
            refine zr_dup2 (pc2 := 45) O dX5_work_44 rfl rfl rfl ?_
            refine zn_iald (j := i) (pc2 := 46) O 0 2 0 rfl rfl rfl rfl (by omega) (by decide) dX5_work_45 rfl ?_
            refine zr_aload_n (pc2 := 47) O dX5_work_46 rfl 1 rfl rfl ?_
            refine zr_iload_n (pc2 := 48) O dX5_work_47 rfl 0 rfl rfl ?_
            refine zr_iload_n (pc2 := 49) O dX5_work_48 rfl 2 rfl rfl ?_
            refine zr_callV (As := [.int (nI i), .int (nI yr)]) (rest := [.int (Y9.2.1 i), .int (nI i), .ref (y 2)]) (ws2 := [yearsW cI cJ y (b 0) hav Y9 PA, bookW cI b P Q Hn sd B]) (pc2 := 52) (ci := 5) (g0 := 0) (q0 := 0) O (c_X5_wages l D cI cC cJ y b hav Y9 PA P Q Hn sd B i yr (by first | assumption | omega)) sC_X5_work_97 rfl rfl rfl rfl rfl dX5_work_49 [0, 1] rfl rfl rfl rfl (Nat.le_of_ble_eq_true rfl) rfl ?_
            show Z _ _ _ [.int (s_X5_wages sd B i yr), .int (Y9.2.1 i), .int (nI i), .ref (y 2)]
            refine zr_iadd (v := ((Y9.2.1 i) + (s_X5_wages sd B i yr))) (pc2 := 53) O dX5_work_52 rfl rfl ?_
            refine zn_iast (j := i) (G2 := yearsW cI cJ y (b 0) hav (Y9.1, (upd Y9.2.1 i ((Y9.2.1 i) + (s_X5_wages sd B i yr))), Y9.2.2) PA) (ws2 := [yearsW cI cJ y (b 0) hav (Y9.1, (upd Y9.2.1 i ((Y9.2.1 i) + (s_X5_wages sd B i yr))), Y9.2.2) PA, bookW cI b P Q Hn sd B]) (pc2 := 54) O 0 2 0 rfl rfl rfl rfl (by omega) (by decide) dX5_work_53 rfl rfl rfl ?_
            refine zr_iinc (v := (nI (i + 1))) (lv2 := [(2, .int (nI (i + 1))), (0, .ref (y 0)), (1, .int (nI yr))]) (pc2 := 57) O dX5_work_54 0 rfl (zm_ofInt1 i) (by decide) rfl rfl ?_
            refine zr_goto (tgt := 2) O dX5_work_57 (by decide) ?_
            have hE : f_X5_work_2 sd B yr (n9 + 1) i Y9 = f_X5_work_2 sd B yr n9 (i + 1) (Y9.1, (upd Y9.2.1 i ((Y9.2.1 i) + (s_X5_wages sd B i yr))), Y9.2.2) := by exact ((if_pos c20).trans (if_neg c36))
            exact ih2 (i + 1) (Y9.1, (upd Y9.2.1 i ((Y9.2.1 i) + (s_X5_wages sd B i yr))), Y9.2.2) (by omega) (hF2.trans hE)
  exact lp2 P 0 Y (by omega) rfl
/-! X5_bringHelp -/
def f_X5_bringHelp_2 (P : Nat) (B : zB) (yr : Nat) : Nat → Nat → zY → zY
  | 0, _, Y9 => Y9
  | n9 + 1, i, Y9 => if (B.2.2.2.2.2.2.2.2.2.1 i) = (nI yr) then if (s_X5_isLiving Y9 P (B.2.2.2.2.2.2.2.2.1 i)) = true then f_X5_bringHelp_2 P B yr n9 (i + 1) (Y9.1, (upd Y9.2.1 (B.2.2.2.2.2.2.2.2.1 i).toNatClampNeg ((Y9.2.1 (B.2.2.2.2.2.2.2.2.1 i).toNatClampNeg) + (B.2.2.2.2.2.2.2.2.2.2 i))), Y9.2.2) else f_X5_bringHelp_2 P B yr n9 (i + 1) Y9 else f_X5_bringHelp_2 P B yr n9 (i + 1) Y9
def s_X5_bringHelp (Y : zY) (P : Nat) (Hn : Nat) (B : zB) (yr : Nat) : zY := (f_X5_bringHelp_2 P B yr Hn 0 Y)
set_option maxHeartbeats 4000000 in
set_option maxRecDepth 100000 in
theorem c_X5_bringHelp (l : Launch) (D : va_G) (cI cC cJ : ClassId) (y : Nat → Nat) (b : Nat → Nat) (hav : Int32) (Y : zY) (PA : Nat → Nat → Int32) (P : Nat) (Q : Nat) (Hn : Nat) (sd : Int32) (B : zB) (yr : Nat) (hP : P ≤ 6) (hH : Hn ≤ 4) : zD l yX5_bringHelp wsX5_bringHelp rm_X5_bringHelp D (zT cI cC cJ) [.ref (y 0), .int (nI yr)] [yearsW cI cJ y (b 0) hav Y PA, bookW cI b P Q Hn sd B] none [yearsW cI cJ y (b 0) hav (s_X5_bringHelp Y P Hn B yr) PA, bookW cI b P Q Hn sd B] := by
  refine zD_void (cc := cX5_bringHelp) (maxL := 3) (lv := [(0, .ref (y 0)), (1, .int (nI yr))]) (by decide +kernel) rfl (Nat.le_of_ble_eq_true rfl) rfl (fun Z O hret => ?_)
  refine zr_iconst (v := (nI 0)) (pc2 := 1) O dX5_bringHelp_0 (by decide +kernel) rfl ?_
  refine zr_istore_n (lv2 := [(2, .int (nI 0)), (0, .ref (y 0)), (1, .int (nI yr))]) (pc2 := 2) O dX5_bringHelp_1 rfl (by decide) rfl rfl ?_
  have lp2 : ∀ (n9 : Nat) (i : Nat) (Y9 : zY), i + n9 = Hn → f_X5_bringHelp_2 P B yr Hn 0 Y = f_X5_bringHelp_2 P B yr n9 i Y9 → Z [yearsW cI cJ y (b 0) hav Y9 PA, bookW cI b P Q Hn sd B] [(2, .int (nI i)), (0, .ref (y 0)), (1, .int (nI yr))] 2 [] := by
    intro n9
    induction n9 with
    | zero =>
      intro i Y9 hM2 hF2
      have hI2 : Hn = i := by omega
      subst hI2
      have e9 : (f_X5_bringHelp_2 P B yr Hn 0 Y) = Y9 := hF2
      subst e9
      refine zr_iload_n (pc2 := 3) O dX5_bringHelp_2 rfl 0 rfl rfl ?_
      refine zr_aload_n (pc2 := 4) O dX5_bringHelp_3 rfl 1 rfl rfl ?_
      refine zr_getf (v := .ref (b 0)) (pc2 := 7) O sF_X5_bringHelp_42 0 0 rfl rfl rfl dX5_bringHelp_4 rfl ?_
      refine zr_getf (v := .int (nI Hn)) (pc2 := 10) O sF_X5_bringHelp_81 1 0 rfl rfl rfl dX5_bringHelp_7 rfl ?_
      refine zn_icmp_ge (tgt := 74) (pc2 := 13) O dX5_bringHelp_10 (by decide) rfl (by omega) (by omega) (fun c10 => ?_) (fun c10 => ?_)
      · have hE : s_X5_bringHelp Y P Hn B yr = (f_X5_bringHelp_2 P B yr Hn 0 Y) := by exact rfl
        exact hret _ _ _ dX5_bringHelp_74 (by rw [hE])
      · exact absurd c10 (by omega)
    | succ n9 ih2 =>
      intro i Y9 hM2 hF2
      refine zr_iload_n (pc2 := 3) O dX5_bringHelp_2 rfl 0 rfl rfl ?_
      refine zr_aload_n (pc2 := 4) O dX5_bringHelp_3 rfl 1 rfl rfl ?_
      refine zr_getf (v := .ref (b 0)) (pc2 := 7) O sF_X5_bringHelp_42 0 0 rfl rfl rfl dX5_bringHelp_4 rfl ?_
      refine zr_getf (v := .int (nI Hn)) (pc2 := 10) O sF_X5_bringHelp_81 1 0 rfl rfl rfl dX5_bringHelp_7 rfl ?_
      refine zn_icmp_ge (tgt := 74) (pc2 := 13) O dX5_bringHelp_10 (by decide) rfl (by omega) (by omega) (fun c10 => ?_) (fun c10 => ?_)
      · exact absurd c10 (by omega)
      · refine zr_aload_n (pc2 := 14) O dX5_bringHelp_13 rfl 1 rfl rfl ?_
        refine zr_getf (v := .ref (b 0)) (pc2 := 17) O sF_X5_bringHelp_42 0 0 rfl rfl rfl dX5_bringHelp_14 rfl ?_
        refine zr_getf (v := .ref (b 12)) (pc2 := 20) O sF_X5_bringHelp_84 1 0 rfl rfl rfl dX5_bringHelp_17 rfl ?_
        refine zr_iload_n (pc2 := 21) O dX5_bringHelp_20 rfl 0 rfl rfl ?_
        refine zn_iald (j := i) (pc2 := 22) O 1 10 0 rfl rfl rfl rfl (by omega) (by decide) dX5_bringHelp_21 rfl ?_
        refine zr_iload_n (pc2 := 23) O dX5_bringHelp_22 rfl 2 rfl rfl ?_
        refine zr_icmp_ne (tgt := 68) (pc2 := 26) O dX5_bringHelp_23 (by decide) rfl (fun c23 => ?_) (fun c23 => ?_)
        · refine zr_iinc (v := (nI (i + 1))) (lv2 := [(2, .int (nI (i + 1))), (0, .ref (y 0)), (1, .int (nI yr))]) (pc2 := 71) O dX5_bringHelp_68 0 rfl (zm_ofInt1 i) (by decide) rfl rfl ?_
          refine zr_goto (tgt := 2) O dX5_bringHelp_71 (by decide) ?_
          have hE : f_X5_bringHelp_2 P B yr (n9 + 1) i Y9 = f_X5_bringHelp_2 P B yr n9 (i + 1) Y9 := by exact (if_neg c23)
          exact ih2 (i + 1) Y9 (by omega) (hF2.trans hE)
        · refine zr_aload_n (pc2 := 27) O dX5_bringHelp_26 rfl 1 rfl rfl ?_
          refine zr_aload_n (pc2 := 28) O dX5_bringHelp_27 rfl 1 rfl rfl ?_
          refine zr_getf (v := .ref (b 0)) (pc2 := 31) O sF_X5_bringHelp_42 0 0 rfl rfl rfl dX5_bringHelp_28 rfl ?_
          refine zr_getf (v := .ref (b 11)) (pc2 := 34) O sF_X5_bringHelp_87 1 0 rfl rfl rfl dX5_bringHelp_31 rfl ?_
          refine zr_iload_n (pc2 := 35) O dX5_bringHelp_34 rfl 0 rfl rfl ?_
          refine zn_iald (j := i) (pc2 := 36) O 1 9 0 rfl rfl rfl rfl (by omega) (by decide) dX5_bringHelp_35 rfl ?_
          refine zr_callV (As := [.int (B.2.2.2.2.2.2.2.2.1 i)]) (rest := []) (ws2 := [yearsW cI cJ y (b 0) hav Y9 PA, bookW cI b P Q Hn sd B]) (pc2 := 39) (ci := 5) (g0 := 0) (q0 := 0) O (c_X5_isLiving l D cI cC cJ y b hav Y9 PA P Q Hn sd B (B.2.2.2.2.2.2.2.2.1 i) (by first | assumption | omega)) sC_X5_bringHelp_90 rfl rfl rfl rfl rfl dX5_bringHelp_36 [0, 1] rfl rfl rfl rfl (Nat.le_of_ble_eq_true rfl) rfl ?_
          show Z _ _ _ [.int (zb (s_X5_isLiving Y9 P (B.2.2.2.2.2.2.2.2.1 i)))]
          refine zb_if_eq (tgt := 68) (pc2 := 42) O dX5_bringHelp_39 (by decide) rfl (fun c39 => ?_) (fun c39 => ?_)
          · refine zr_iinc (v := (nI (i + 1))) (lv2 := [(2, .int (nI (i + 1))), (0, .ref (y 0)), (1, .int (nI yr))]) (pc2 := 71) O dX5_bringHelp_68 0 rfl (zm_ofInt1 i) (by decide) rfl rfl ?_
            refine zr_goto (tgt := 2) O dX5_bringHelp_71 (by decide) ?_
            have hE : f_X5_bringHelp_2 P B yr (n9 + 1) i Y9 = f_X5_bringHelp_2 P B yr n9 (i + 1) Y9 := by exact ((if_pos c23).trans (zif_f c39))
            exact ih2 (i + 1) Y9 (by omega) (hF2.trans hE)
          · refine zr_aload_n (pc2 := 43) O dX5_bringHelp_42 rfl 1 rfl rfl ?_
            refine zr_getf (v := .ref (y 2)) (pc2 := 46) O sF_X5_bringHelp_15 0 0 rfl rfl rfl dX5_bringHelp_43 rfl ?_
            refine zr_aload_n (pc2 := 47) O dX5_bringHelp_46 rfl 1 rfl rfl ?_
            refine zr_getf (v := .ref (b 0)) (pc2 := 50) O sF_X5_bringHelp_42 0 0 rfl rfl rfl dX5_bringHelp_47 rfl ?_
            refine zr_getf (v := .ref (b 11)) (pc2 := 53) O sF_X5_bringHelp_87 1 0 rfl rfl rfl dX5_bringHelp_50 rfl ?_
            refine zr_iload_n (pc2 := 54) O dX5_bringHelp_53 rfl 0 rfl rfl ?_
            refine zn_iald (j := i) (pc2 := 55) O 1 9 0 rfl rfl rfl rfl (by omega) (by decide) dX5_bringHelp_54 rfl ?_
            refine zr_dup2 (pc2 := 56) O dX5_bringHelp_55 rfl rfl rfl ?_
            refine zr_iald (pc2 := 57) O 0 2 0 rfl rfl rfl (by first | assumption | exact zin_of (by assumption) (by assumption) (by assumption) (by decide) | exact hp_in (by assumption) (by assumption) (by decide) | exact hb_in (by assumption) (by assumption) (by decide) | exact il_in (by assumption) (by assumption) (by decide)) dX5_bringHelp_56 rfl ?_
            refine zr_aload_n (pc2 := 58) O dX5_bringHelp_57 rfl 1 rfl rfl ?_
            refine zr_getf (v := .ref (b 0)) (pc2 := 61) O sF_X5_bringHelp_42 0 0 rfl rfl rfl dX5_bringHelp_58 rfl ?_
            refine zr_getf (v := .ref (b 13)) (pc2 := 64) O sF_X5_bringHelp_94 1 0 rfl rfl rfl dX5_bringHelp_61 rfl ?_
            refine zr_iload_n (pc2 := 65) O dX5_bringHelp_64 rfl 0 rfl rfl ?_
            refine zn_iald (j := i) (pc2 := 66) O 1 11 0 rfl rfl rfl rfl (by omega) (by decide) dX5_bringHelp_65 rfl ?_
            refine zr_iadd (v := ((Y9.2.1 (B.2.2.2.2.2.2.2.2.1 i).toNatClampNeg) + (B.2.2.2.2.2.2.2.2.2.2 i))) (pc2 := 67) O dX5_bringHelp_66 rfl rfl ?_
            refine zr_iast (G2 := yearsW cI cJ y (b 0) hav (Y9.1, (upd Y9.2.1 (B.2.2.2.2.2.2.2.2.1 i).toNatClampNeg ((Y9.2.1 (B.2.2.2.2.2.2.2.2.1 i).toNatClampNeg) + (B.2.2.2.2.2.2.2.2.2.2 i))), Y9.2.2) PA) (ws2 := [yearsW cI cJ y (b 0) hav (Y9.1, (upd Y9.2.1 (B.2.2.2.2.2.2.2.2.1 i).toNatClampNeg ((Y9.2.1 (B.2.2.2.2.2.2.2.2.1 i).toNatClampNeg) + (B.2.2.2.2.2.2.2.2.2.2 i))), Y9.2.2) PA, bookW cI b P Q Hn sd B]) (pc2 := 68) O 0 2 0 rfl rfl rfl (by first | assumption | exact zin_of (by assumption) (by assumption) (by assumption) (by decide) | exact hp_in (by assumption) (by assumption) (by decide) | exact hb_in (by assumption) (by assumption) (by decide) | exact il_in (by assumption) (by assumption) (by decide)) dX5_bringHelp_67 rfl rfl rfl ?_
            refine zr_iinc (v := (nI (i + 1))) (lv2 := [(2, .int (nI (i + 1))), (0, .ref (y 0)), (1, .int (nI yr))]) (pc2 := 71) O dX5_bringHelp_68 0 rfl (zm_ofInt1 i) (by decide) rfl rfl ?_
            refine zr_goto (tgt := 2) O dX5_bringHelp_71 (by decide) ?_
            have hE : f_X5_bringHelp_2 P B yr (n9 + 1) i Y9 = f_X5_bringHelp_2 P B yr n9 (i + 1) (Y9.1, (upd Y9.2.1 (B.2.2.2.2.2.2.2.2.1 i).toNatClampNeg ((Y9.2.1 (B.2.2.2.2.2.2.2.2.1 i).toNatClampNeg) + (B.2.2.2.2.2.2.2.2.2.2 i))), Y9.2.2) := by exact ((if_pos c23).trans (zif_t c39))
            exact ih2 (i + 1) (Y9.1, (upd Y9.2.1 (B.2.2.2.2.2.2.2.2.1 i).toNatClampNeg ((Y9.2.1 (B.2.2.2.2.2.2.2.2.1 i).toNatClampNeg) + (B.2.2.2.2.2.2.2.2.2.2 i))), Y9.2.2) (by omega) (hF2.trans hE)
  exact lp2 Hn 0 Y (by omega) rfl
/-! X5_bear -/
def f_X5_bear_2 (B : zB) (yr : Nat) : Nat → Nat → zY → zY
  | 0, _, Y9 => Y9
  | n9 + 1, i, Y9 => if (B.1 i) = (nI yr) then f_X5_bear_2 B yr n9 (i + 1) ((upd Y9.1 i (nI 1)), (upd Y9.2.1 i (B.2.2.2.2.1 i)), Y9.2.2) else f_X5_bear_2 B yr n9 (i + 1) Y9
def s_X5_bear (Y : zY) (P : Nat) (B : zB) (yr : Nat) : zY := (f_X5_bear_2 B yr P 0 Y)
set_option maxHeartbeats 4000000 in
set_option maxRecDepth 100000 in
theorem c_X5_bear (l : Launch) (D : va_G) (cI cC cJ : ClassId) (y : Nat → Nat) (b : Nat → Nat) (hav : Int32) (Y : zY) (PA : Nat → Nat → Int32) (P : Nat) (Q : Nat) (Hn : Nat) (sd : Int32) (B : zB) (yr : Nat) (hP : P ≤ 6) : zD l yX5_bear wsX5_bear rm_X5_bear D (zT cI cC cJ) [.ref (y 0), .int (nI yr)] [yearsW cI cJ y (b 0) hav Y PA, bookW cI b P Q Hn sd B] none [yearsW cI cJ y (b 0) hav (s_X5_bear Y P B yr) PA, bookW cI b P Q Hn sd B] := by
  refine zD_void (cc := cX5_bear) (maxL := 3) (lv := [(0, .ref (y 0)), (1, .int (nI yr))]) (by decide +kernel) rfl (Nat.le_of_ble_eq_true rfl) rfl (fun Z O hret => ?_)
  refine zr_iconst (v := (nI 0)) (pc2 := 1) O dX5_bear_0 (by decide +kernel) rfl ?_
  refine zr_istore_n (lv2 := [(2, .int (nI 0)), (0, .ref (y 0)), (1, .int (nI yr))]) (pc2 := 2) O dX5_bear_1 rfl (by decide) rfl rfl ?_
  have lp2 : ∀ (n9 : Nat) (i : Nat) (Y9 : zY), i + n9 = P → f_X5_bear_2 B yr P 0 Y = f_X5_bear_2 B yr n9 i Y9 → Z [yearsW cI cJ y (b 0) hav Y9 PA, bookW cI b P Q Hn sd B] [(2, .int (nI i)), (0, .ref (y 0)), (1, .int (nI yr))] 2 [] := by
    intro n9
    induction n9 with
    | zero =>
      intro i Y9 hM2 hF2
      have hI2 : P = i := by omega
      subst hI2
      have e9 : (f_X5_bear_2 B yr P 0 Y) = Y9 := hF2
      subst e9
      refine zr_iload_n (pc2 := 3) O dX5_bear_2 rfl 0 rfl rfl ?_
      refine zr_aload_n (pc2 := 4) O dX5_bear_3 rfl 1 rfl rfl ?_
      refine zr_getf (v := .ref (b 0)) (pc2 := 7) O sF_X5_bear_42 0 0 rfl rfl rfl dX5_bear_4 rfl ?_
      refine zr_getf (v := .int (nI P)) (pc2 := 10) O sF_X5_bear_59 1 0 rfl rfl rfl dX5_bear_7 rfl ?_
      refine zn_icmp_ge (tgt := 54) (pc2 := 13) O dX5_bear_10 (by decide) rfl (by omega) (by omega) (fun c10 => ?_) (fun c10 => ?_)
      · have hE : s_X5_bear Y P B yr = (f_X5_bear_2 B yr P 0 Y) := by exact rfl
        exact hret _ _ _ dX5_bear_54 (by rw [hE])
      · exact absurd c10 (by omega)
    | succ n9 ih2 =>
      intro i Y9 hM2 hF2
      refine zr_iload_n (pc2 := 3) O dX5_bear_2 rfl 0 rfl rfl ?_
      refine zr_aload_n (pc2 := 4) O dX5_bear_3 rfl 1 rfl rfl ?_
      refine zr_getf (v := .ref (b 0)) (pc2 := 7) O sF_X5_bear_42 0 0 rfl rfl rfl dX5_bear_4 rfl ?_
      refine zr_getf (v := .int (nI P)) (pc2 := 10) O sF_X5_bear_59 1 0 rfl rfl rfl dX5_bear_7 rfl ?_
      refine zn_icmp_ge (tgt := 54) (pc2 := 13) O dX5_bear_10 (by decide) rfl (by omega) (by omega) (fun c10 => ?_) (fun c10 => ?_)
      · exact absurd c10 (by omega)
      · refine zr_aload_n (pc2 := 14) O dX5_bear_13 rfl 1 rfl rfl ?_
        refine zr_getf (v := .ref (b 0)) (pc2 := 17) O sF_X5_bear_42 0 0 rfl rfl rfl dX5_bear_14 rfl ?_
        refine zr_getf (v := .ref (b 1)) (pc2 := 20) O sF_X5_bear_75 1 0 rfl rfl rfl dX5_bear_17 rfl ?_
        refine zr_iload_n (pc2 := 21) O dX5_bear_20 rfl 0 rfl rfl ?_
        refine zn_iald (j := i) (pc2 := 22) O 1 1 0 rfl rfl rfl rfl (by omega) (by decide) dX5_bear_21 rfl ?_
        refine zr_iload_n (pc2 := 23) O dX5_bear_22 rfl 2 rfl rfl ?_
        refine zr_icmp_ne (tgt := 48) (pc2 := 26) O dX5_bear_23 (by decide) rfl (fun c23 => ?_) (fun c23 => ?_)
        · refine zr_iinc (v := (nI (i + 1))) (lv2 := [(2, .int (nI (i + 1))), (0, .ref (y 0)), (1, .int (nI yr))]) (pc2 := 51) O dX5_bear_48 0 rfl (zm_ofInt1 i) (by decide) rfl rfl ?_
          refine zr_goto (tgt := 2) O dX5_bear_51 (by decide) ?_
          have hE : f_X5_bear_2 B yr (n9 + 1) i Y9 = f_X5_bear_2 B yr n9 (i + 1) Y9 := by exact (if_neg c23)
          exact ih2 (i + 1) Y9 (by omega) (hF2.trans hE)
        · refine zr_aload_n (pc2 := 27) O dX5_bear_26 rfl 1 rfl rfl ?_
          refine zr_getf (v := .ref (y 1)) (pc2 := 30) O sF_X5_bear_9 0 0 rfl rfl rfl dX5_bear_27 rfl ?_
          refine zr_iload_n (pc2 := 31) O dX5_bear_30 rfl 0 rfl rfl ?_
          refine zr_iconst (v := (nI 1)) (pc2 := 32) O dX5_bear_31 (by decide +kernel) rfl ?_
          refine zn_iast (j := i) (G2 := yearsW cI cJ y (b 0) hav ((upd Y9.1 i (nI 1)), Y9.2) PA) (ws2 := [yearsW cI cJ y (b 0) hav ((upd Y9.1 i (nI 1)), Y9.2) PA, bookW cI b P Q Hn sd B]) (pc2 := 33) O 0 1 0 rfl rfl rfl rfl (by omega) (by decide) dX5_bear_32 rfl rfl rfl ?_
          refine zr_aload_n (pc2 := 34) O dX5_bear_33 rfl 1 rfl rfl ?_
          refine zr_getf (v := .ref (y 2)) (pc2 := 37) O sF_X5_bear_15 0 0 rfl rfl rfl dX5_bear_34 rfl ?_
          refine zr_iload_n (pc2 := 38) O dX5_bear_37 rfl 0 rfl rfl ?_
          refine zr_aload_n (pc2 := 39) O dX5_bear_38 rfl 1 rfl rfl ?_
          refine zr_getf (v := .ref (b 0)) (pc2 := 42) O sF_X5_bear_42 0 0 rfl rfl rfl dX5_bear_39 rfl ?_
          refine zr_getf (v := .ref (b 5)) (pc2 := 45) O sF_X5_bear_78 1 0 rfl rfl rfl dX5_bear_42 rfl ?_
          refine zr_iload_n (pc2 := 46) O dX5_bear_45 rfl 0 rfl rfl ?_
          refine zn_iald (j := i) (pc2 := 47) O 1 5 0 rfl rfl rfl rfl (by omega) (by decide) dX5_bear_46 rfl ?_
          refine zn_iast (j := i) (G2 := yearsW cI cJ y (b 0) hav ((upd Y9.1 i (nI 1)), (upd Y9.2.1 i (B.2.2.2.2.1 i)), Y9.2.2) PA) (ws2 := [yearsW cI cJ y (b 0) hav ((upd Y9.1 i (nI 1)), (upd Y9.2.1 i (B.2.2.2.2.1 i)), Y9.2.2) PA, bookW cI b P Q Hn sd B]) (pc2 := 48) O 0 2 0 rfl rfl rfl rfl (by omega) (by decide) dX5_bear_47 rfl rfl rfl ?_
          refine zr_iinc (v := (nI (i + 1))) (lv2 := [(2, .int (nI (i + 1))), (0, .ref (y 0)), (1, .int (nI yr))]) (pc2 := 51) O dX5_bear_48 0 rfl (zm_ofInt1 i) (by decide) rfl rfl ?_
          refine zr_goto (tgt := 2) O dX5_bear_51 (by decide) ?_
          have hE : f_X5_bear_2 B yr (n9 + 1) i Y9 = f_X5_bear_2 B yr n9 (i + 1) ((upd Y9.1 i (nI 1)), (upd Y9.2.1 i (B.2.2.2.2.1 i)), Y9.2.2) := by exact (if_pos c23)
          exact ih2 (i + 1) ((upd Y9.1 i (nI 1)), (upd Y9.2.1 i (B.2.2.2.2.1 i)), Y9.2.2) (by omega) (hF2.trans hE)
  exact lp2 P 0 Y (by omega) rfl
/-! X5_prepare -/
def f_X5_prepare_7 (Q : Nat) (B : zB) : Nat → Nat → zY → zY
  | 0, _, Y9 => Y9
  | n9 + 1, i, Y9 => f_X5_prepare_7 Q B n9 (i + 1) ((upd Y9.1 i (nI 0)), (upd Y9.2.1 i (nI 0)), (upd Y9.2.2.1 i (s_X0_leaves Q B (nI i))), (upd Y9.2.2.2.1 i (nI 0)), (upd Y9.2.2.2.2.1 i (-4)), (upd Y9.2.2.2.2.2.1 i (nI 0)), Y9.2.2.2.2.2.2)
def f_X5_prepare_76 : Nat → Nat → zY → zY
  | 0, _, Y8 => Y8
  | n9 + 1, k, Y8 => f_X5_prepare_76 n9 (k + 1) (Y8.1, Y8.2.1, Y8.2.2.1, Y8.2.2.2.1, Y8.2.2.2.2.1, Y8.2.2.2.2.2.1, (upd Y8.2.2.2.2.2.2 k (nI 0)))
def s_X5_prepare (Y : zY) (P : Nat) (Q : Nat) (B : zB) : Int32 × zY := ((nI 0), (f_X5_prepare_76 Q 0 (f_X5_prepare_7 Q B P 0 Y)))
set_option maxHeartbeats 4000000 in
set_option maxRecDepth 100000 in
theorem c_X5_prepare (l : Launch) (D : va_G) (cI cC cJ : ClassId) (y : Nat → Nat) (b : Nat → Nat) (hav : Int32) (Y : zY) (PA : Nat → Nat → Int32) (P : Nat) (Q : Nat) (Hn : Nat) (sd : Int32) (B : zB) (hP : P ≤ 6) (hQ : Q ≤ 9) : zD l yX5_prepare wsX5_prepare rm_X5_prepare D (zT cI cC cJ) [.ref (y 0)] [yearsW cI cJ y (b 0) hav Y PA, bookW cI b P Q Hn sd B] none [yearsW cI cJ y (b 0) ((s_X5_prepare Y P Q B).1) ((s_X5_prepare Y P Q B).2) PA, bookW cI b P Q Hn sd B] := by
  refine zD_void (cc := cX5_prepare) (maxL := 2) (lv := [(0, .ref (y 0))]) (by decide +kernel) rfl (Nat.le_of_ble_eq_true rfl) rfl (fun Z O hret => ?_)
  refine zr_aload_n (pc2 := 1) O dX5_prepare_0 rfl 0 rfl rfl ?_
  refine zr_iconst (v := (nI 0)) (pc2 := 2) O dX5_prepare_1 (by decide +kernel) rfl ?_
  refine zr_putf (G2 := yearsW cI cJ y (b 0) (nI 0) Y PA) (ws2 := [yearsW cI cJ y (b 0) (nI 0) Y PA, bookW cI b P Q Hn sd B]) (pc2 := 5) O sP_X5_prepare_38 0 0 rfl rfl rfl rfl (Nat.le_of_ble_eq_true rfl) dX5_prepare_2 rfl rfl rfl ?_
  refine zr_iconst (v := (nI 0)) (pc2 := 6) O dX5_prepare_5 (by decide +kernel) rfl ?_
  refine zr_istore_n (lv2 := [(1, .int (nI 0)), (0, .ref (y 0))]) (pc2 := 7) O dX5_prepare_6 rfl (by decide) rfl rfl ?_
  have lp7 : ∀ (n9 : Nat) (i : Nat) (Y9 : zY), i + n9 = P → f_X5_prepare_7 Q B P 0 Y = f_X5_prepare_7 Q B n9 i Y9 → Z [yearsW cI cJ y (b 0) (nI 0) Y9 PA, bookW cI b P Q Hn sd B] [(1, .int (nI i)), (0, .ref (y 0))] 7 [] := by
    intro n9
    induction n9 with
    | zero =>
      intro i Y9 hM7 hF7
      have hI7 : P = i := by omega
      subst hI7
      have e9 : (f_X5_prepare_7 Q B P 0 Y) = Y9 := hF7
      subst e9
      refine zr_iload_n (pc2 := 8) O dX5_prepare_7 rfl 0 rfl rfl ?_
      refine zr_aload_n (pc2 := 9) O dX5_prepare_8 rfl 1 rfl rfl ?_
      refine zr_getf (v := .ref (b 0)) (pc2 := 12) O sF_X5_prepare_42 0 0 rfl rfl rfl dX5_prepare_9 rfl ?_
      refine zr_getf (v := .int (nI P)) (pc2 := 15) O sF_X5_prepare_59 1 0 rfl rfl rfl dX5_prepare_12 rfl ?_
      refine zn_icmp_ge (tgt := 74) (pc2 := 18) O dX5_prepare_15 (by decide) rfl (by omega) (by omega) (fun c15 => ?_) (fun c15 => ?_)
      · refine zr_iconst (v := (nI 0)) (pc2 := 75) O dX5_prepare_74 (by decide +kernel) rfl ?_
        refine zr_istore_n (lv2 := [(1, .int (nI 0)), (0, .ref (y 0))]) (pc2 := 76) O dX5_prepare_75 rfl (by decide) rfl rfl ?_
        have lp76 : ∀ (n9 : Nat) (k : Nat) (Y8 : zY), k + n9 = Q → f_X5_prepare_76 Q 0 (f_X5_prepare_7 Q B P 0 Y) = f_X5_prepare_76 n9 k Y8 → Z [yearsW cI cJ y (b 0) (nI 0) Y8 PA, bookW cI b P Q Hn sd B] [(1, .int (nI k)), (0, .ref (y 0))] 76 [] := by
          intro n9
          induction n9 with
          | zero =>
            intro k Y8 hM76 hF76
            have hI76 : Q = k := by omega
            subst hI76
            have e9 : (f_X5_prepare_76 Q 0 (f_X5_prepare_7 Q B P 0 Y)) = Y8 := hF76
            subst e9
            refine zr_iload_n (pc2 := 77) O dX5_prepare_76 rfl 0 rfl rfl ?_
            refine zr_aload_n (pc2 := 78) O dX5_prepare_77 rfl 1 rfl rfl ?_
            refine zr_getf (v := .ref (b 0)) (pc2 := 81) O sF_X5_prepare_42 0 0 rfl rfl rfl dX5_prepare_78 rfl ?_
            refine zr_getf (v := .int (nI Q)) (pc2 := 84) O sF_X5_prepare_72 1 0 rfl rfl rfl dX5_prepare_81 rfl ?_
            refine zn_icmp_ge (tgt := 100) (pc2 := 87) O dX5_prepare_84 (by decide) rfl (by omega) (by omega) (fun c84 => ?_) (fun c84 => ?_)
            · have hE : s_X5_prepare Y P Q B = ((nI 0), (f_X5_prepare_76 Q 0 (f_X5_prepare_7 Q B P 0 Y))) := by exact rfl
              exact hret _ _ _ dX5_prepare_100 (by rw [hE])
            · exact absurd c84 (by omega)
          | succ n9 ih76 =>
            intro k Y8 hM76 hF76
            refine zr_iload_n (pc2 := 77) O dX5_prepare_76 rfl 0 rfl rfl ?_
            refine zr_aload_n (pc2 := 78) O dX5_prepare_77 rfl 1 rfl rfl ?_
            refine zr_getf (v := .ref (b 0)) (pc2 := 81) O sF_X5_prepare_42 0 0 rfl rfl rfl dX5_prepare_78 rfl ?_
            refine zr_getf (v := .int (nI Q)) (pc2 := 84) O sF_X5_prepare_72 1 0 rfl rfl rfl dX5_prepare_81 rfl ?_
            refine zn_icmp_ge (tgt := 100) (pc2 := 87) O dX5_prepare_84 (by decide) rfl (by omega) (by omega) (fun c84 => ?_) (fun c84 => ?_)
            · exact absurd c84 (by omega)
            · refine zr_aload_n (pc2 := 88) O dX5_prepare_87 rfl 1 rfl rfl ?_
              refine zr_getf (v := .ref (y 7)) (pc2 := 91) O sF_X5_prepare_30 0 0 rfl rfl rfl dX5_prepare_88 rfl ?_
              refine zr_iload_n (pc2 := 92) O dX5_prepare_91 rfl 0 rfl rfl ?_
              refine zr_iconst (v := (nI 0)) (pc2 := 93) O dX5_prepare_92 (by decide +kernel) rfl ?_
              refine zn_iast (j := k) (G2 := yearsW cI cJ y (b 0) (nI 0) (Y8.1, Y8.2.1, Y8.2.2.1, Y8.2.2.2.1, Y8.2.2.2.2.1, Y8.2.2.2.2.2.1, (upd Y8.2.2.2.2.2.2 k (nI 0))) PA) (ws2 := [yearsW cI cJ y (b 0) (nI 0) (Y8.1, Y8.2.1, Y8.2.2.1, Y8.2.2.2.1, Y8.2.2.2.2.1, Y8.2.2.2.2.2.1, (upd Y8.2.2.2.2.2.2 k (nI 0))) PA, bookW cI b P Q Hn sd B]) (pc2 := 94) O 0 7 0 rfl rfl rfl rfl (by omega) (by decide) dX5_prepare_93 rfl rfl rfl ?_
              refine zr_iinc (v := (nI (k + 1))) (lv2 := [(1, .int (nI (k + 1))), (0, .ref (y 0))]) (pc2 := 97) O dX5_prepare_94 0 rfl (zm_ofInt1 k) (by decide) rfl rfl ?_
              refine zr_goto (tgt := 76) O dX5_prepare_97 (by decide) ?_
              have hE : f_X5_prepare_76 (n9 + 1) k Y8 = f_X5_prepare_76 n9 (k + 1) (Y8.1, Y8.2.1, Y8.2.2.1, Y8.2.2.2.1, Y8.2.2.2.2.1, Y8.2.2.2.2.2.1, (upd Y8.2.2.2.2.2.2 k (nI 0))) := by exact rfl
              exact ih76 (k + 1) (Y8.1, Y8.2.1, Y8.2.2.1, Y8.2.2.2.1, Y8.2.2.2.2.1, Y8.2.2.2.2.2.1, (upd Y8.2.2.2.2.2.2 k (nI 0))) (by omega) (hF76.trans hE)
        exact lp76 Q 0 (f_X5_prepare_7 Q B P 0 Y) (by omega) rfl
      · exact absurd c15 (by omega)
    | succ n9 ih7 =>
      intro i Y9 hM7 hF7
      refine zr_iload_n (pc2 := 8) O dX5_prepare_7 rfl 0 rfl rfl ?_
      refine zr_aload_n (pc2 := 9) O dX5_prepare_8 rfl 1 rfl rfl ?_
      refine zr_getf (v := .ref (b 0)) (pc2 := 12) O sF_X5_prepare_42 0 0 rfl rfl rfl dX5_prepare_9 rfl ?_
      refine zr_getf (v := .int (nI P)) (pc2 := 15) O sF_X5_prepare_59 1 0 rfl rfl rfl dX5_prepare_12 rfl ?_
      refine zn_icmp_ge (tgt := 74) (pc2 := 18) O dX5_prepare_15 (by decide) rfl (by omega) (by omega) (fun c15 => ?_) (fun c15 => ?_)
      · exact absurd c15 (by omega)
      · refine zr_aload_n (pc2 := 19) O dX5_prepare_18 rfl 1 rfl rfl ?_
        refine zr_getf (v := .ref (y 1)) (pc2 := 22) O sF_X5_prepare_9 0 0 rfl rfl rfl dX5_prepare_19 rfl ?_
        refine zr_iload_n (pc2 := 23) O dX5_prepare_22 rfl 0 rfl rfl ?_
        refine zr_iconst (v := (nI 0)) (pc2 := 24) O dX5_prepare_23 (by decide +kernel) rfl ?_
        refine zn_iast (j := i) (G2 := yearsW cI cJ y (b 0) (nI 0) ((upd Y9.1 i (nI 0)), Y9.2) PA) (ws2 := [yearsW cI cJ y (b 0) (nI 0) ((upd Y9.1 i (nI 0)), Y9.2) PA, bookW cI b P Q Hn sd B]) (pc2 := 25) O 0 1 0 rfl rfl rfl rfl (by omega) (by decide) dX5_prepare_24 rfl rfl rfl ?_
        refine zr_aload_n (pc2 := 26) O dX5_prepare_25 rfl 1 rfl rfl ?_
        refine zr_getf (v := .ref (y 2)) (pc2 := 29) O sF_X5_prepare_15 0 0 rfl rfl rfl dX5_prepare_26 rfl ?_
        refine zr_iload_n (pc2 := 30) O dX5_prepare_29 rfl 0 rfl rfl ?_
        refine zr_iconst (v := (nI 0)) (pc2 := 31) O dX5_prepare_30 (by decide +kernel) rfl ?_
        refine zn_iast (j := i) (G2 := yearsW cI cJ y (b 0) (nI 0) ((upd Y9.1 i (nI 0)), (upd Y9.2.1 i (nI 0)), Y9.2.2) PA) (ws2 := [yearsW cI cJ y (b 0) (nI 0) ((upd Y9.1 i (nI 0)), (upd Y9.2.1 i (nI 0)), Y9.2.2) PA, bookW cI b P Q Hn sd B]) (pc2 := 32) O 0 2 0 rfl rfl rfl rfl (by omega) (by decide) dX5_prepare_31 rfl rfl rfl ?_
        refine zr_aload_n (pc2 := 33) O dX5_prepare_32 rfl 1 rfl rfl ?_
        refine zr_getf (v := .ref (y 3)) (pc2 := 36) O sF_X5_prepare_18 0 0 rfl rfl rfl dX5_prepare_33 rfl ?_
        refine zr_iload_n (pc2 := 37) O dX5_prepare_36 rfl 0 rfl rfl ?_
        refine zr_aload_n (pc2 := 38) O dX5_prepare_37 rfl 1 rfl rfl ?_
        refine zr_getf (v := .ref (b 0)) (pc2 := 41) O sF_X5_prepare_42 0 0 rfl rfl rfl dX5_prepare_38 rfl ?_
        refine zr_iload_n (pc2 := 42) O dX5_prepare_41 rfl 0 rfl rfl ?_
        refine zr_callV (As := [.int (nI i)]) (rest := [.int (nI i), .ref (y 3)]) (ws2 := [yearsW cI cJ y (b 0) (nI 0) ((upd Y9.1 i (nI 0)), (upd Y9.2.1 i (nI 0)), Y9.2.2) PA, bookW cI b P Q Hn sd B]) (pc2 := 45) (ci := 0) (g0 := 1) (q0 := 0) O (c_X0_leaves l D cI cC cJ b P Q Hn sd B (nI i) (by first | assumption | omega)) sC_X5_prepare_68 rfl rfl rfl rfl rfl dX5_prepare_42 [1] rfl rfl rfl rfl (Nat.le_of_ble_eq_true rfl) rfl ?_
        show Z _ _ _ [.int (s_X0_leaves Q B (nI i)), .int (nI i), .ref (y 3)]
        refine zn_iast (j := i) (G2 := yearsW cI cJ y (b 0) (nI 0) ((upd Y9.1 i (nI 0)), (upd Y9.2.1 i (nI 0)), (upd Y9.2.2.1 i (s_X0_leaves Q B (nI i))), Y9.2.2.2) PA) (ws2 := [yearsW cI cJ y (b 0) (nI 0) ((upd Y9.1 i (nI 0)), (upd Y9.2.1 i (nI 0)), (upd Y9.2.2.1 i (s_X0_leaves Q B (nI i))), Y9.2.2.2) PA, bookW cI b P Q Hn sd B]) (pc2 := 46) O 0 3 0 rfl rfl rfl rfl (by omega) (by decide) dX5_prepare_45 rfl rfl rfl ?_
        refine zr_aload_n (pc2 := 47) O dX5_prepare_46 rfl 1 rfl rfl ?_
        refine zr_getf (v := .ref (y 4)) (pc2 := 50) O sF_X5_prepare_21 0 0 rfl rfl rfl dX5_prepare_47 rfl ?_
        refine zr_iload_n (pc2 := 51) O dX5_prepare_50 rfl 0 rfl rfl ?_
        refine zr_iconst (v := (nI 0)) (pc2 := 52) O dX5_prepare_51 (by decide +kernel) rfl ?_
        refine zn_iast (j := i) (G2 := yearsW cI cJ y (b 0) (nI 0) ((upd Y9.1 i (nI 0)), (upd Y9.2.1 i (nI 0)), (upd Y9.2.2.1 i (s_X0_leaves Q B (nI i))), (upd Y9.2.2.2.1 i (nI 0)), Y9.2.2.2.2) PA) (ws2 := [yearsW cI cJ y (b 0) (nI 0) ((upd Y9.1 i (nI 0)), (upd Y9.2.1 i (nI 0)), (upd Y9.2.2.1 i (s_X0_leaves Q B (nI i))), (upd Y9.2.2.2.1 i (nI 0)), Y9.2.2.2.2) PA, bookW cI b P Q Hn sd B]) (pc2 := 53) O 0 4 0 rfl rfl rfl rfl (by omega) (by decide) dX5_prepare_52 rfl rfl rfl ?_
        refine zr_aload_n (pc2 := 54) O dX5_prepare_53 rfl 1 rfl rfl ?_
        refine zr_getf (v := .ref (y 5)) (pc2 := 57) O sF_X5_prepare_24 0 0 rfl rfl rfl dX5_prepare_54 rfl ?_
        refine zr_iload_n (pc2 := 58) O dX5_prepare_57 rfl 0 rfl rfl ?_
        refine zr_bipush (v := (-4)) (pc2 := 60) O dX5_prepare_58 (by decide +kernel) rfl ?_
        refine zn_iast (j := i) (G2 := yearsW cI cJ y (b 0) (nI 0) ((upd Y9.1 i (nI 0)), (upd Y9.2.1 i (nI 0)), (upd Y9.2.2.1 i (s_X0_leaves Q B (nI i))), (upd Y9.2.2.2.1 i (nI 0)), (upd Y9.2.2.2.2.1 i (-4)), Y9.2.2.2.2.2) PA) (ws2 := [yearsW cI cJ y (b 0) (nI 0) ((upd Y9.1 i (nI 0)), (upd Y9.2.1 i (nI 0)), (upd Y9.2.2.1 i (s_X0_leaves Q B (nI i))), (upd Y9.2.2.2.1 i (nI 0)), (upd Y9.2.2.2.2.1 i (-4)), Y9.2.2.2.2.2) PA, bookW cI b P Q Hn sd B]) (pc2 := 61) O 0 5 0 rfl rfl rfl rfl (by omega) (by decide) dX5_prepare_60 rfl rfl rfl ?_
        refine zr_aload_n (pc2 := 62) O dX5_prepare_61 rfl 1 rfl rfl ?_
        refine zr_getf (v := .ref (y 6)) (pc2 := 65) O sF_X5_prepare_27 0 0 rfl rfl rfl dX5_prepare_62 rfl ?_
        refine zr_iload_n (pc2 := 66) O dX5_prepare_65 rfl 0 rfl rfl ?_
        refine zr_iconst (v := (nI 0)) (pc2 := 67) O dX5_prepare_66 (by decide +kernel) rfl ?_
        refine zn_iast (j := i) (G2 := yearsW cI cJ y (b 0) (nI 0) ((upd Y9.1 i (nI 0)), (upd Y9.2.1 i (nI 0)), (upd Y9.2.2.1 i (s_X0_leaves Q B (nI i))), (upd Y9.2.2.2.1 i (nI 0)), (upd Y9.2.2.2.2.1 i (-4)), (upd Y9.2.2.2.2.2.1 i (nI 0)), Y9.2.2.2.2.2.2) PA) (ws2 := [yearsW cI cJ y (b 0) (nI 0) ((upd Y9.1 i (nI 0)), (upd Y9.2.1 i (nI 0)), (upd Y9.2.2.1 i (s_X0_leaves Q B (nI i))), (upd Y9.2.2.2.1 i (nI 0)), (upd Y9.2.2.2.2.1 i (-4)), (upd Y9.2.2.2.2.2.1 i (nI 0)), Y9.2.2.2.2.2.2) PA, bookW cI b P Q Hn sd B]) (pc2 := 68) O 0 6 0 rfl rfl rfl rfl (by omega) (by decide) dX5_prepare_67 rfl rfl rfl ?_
        refine zr_iinc (v := (nI (i + 1))) (lv2 := [(1, .int (nI (i + 1))), (0, .ref (y 0))]) (pc2 := 71) O dX5_prepare_68 0 rfl (zm_ofInt1 i) (by decide) rfl rfl ?_
        refine zr_goto (tgt := 7) O dX5_prepare_71 (by decide) ?_
        have hE : f_X5_prepare_7 Q B (n9 + 1) i Y9 = f_X5_prepare_7 Q B n9 (i + 1) ((upd Y9.1 i (nI 0)), (upd Y9.2.1 i (nI 0)), (upd Y9.2.2.1 i (s_X0_leaves Q B (nI i))), (upd Y9.2.2.2.1 i (nI 0)), (upd Y9.2.2.2.2.1 i (-4)), (upd Y9.2.2.2.2.2.1 i (nI 0)), Y9.2.2.2.2.2.2) := by exact rfl
        exact ih7 (i + 1) ((upd Y9.1 i (nI 0)), (upd Y9.2.1 i (nI 0)), (upd Y9.2.2.1 i (s_X0_leaves Q B (nI i))), (upd Y9.2.2.2.1 i (nI 0)), (upd Y9.2.2.2.2.1 i (-4)), (upd Y9.2.2.2.2.2.1 i (nI 0)), Y9.2.2.2.2.2.2) (by omega) (hF7.trans hE)
  exact lp7 P 0 Y (by omega) rfl
/-! X5_run -/
def f_X5_run_30 (P : Nat) (Q : Nat) (B : zB) (yr : Nat) : Nat → Nat → Int32 → zY → Int32 × zY
  | 0, _, hav8, Y8 => (hav8, Y8)
  | n9 + 1, i, hav8, Y8 => let u44 := s_X5_takeTurn hav8 Y8 P Q B i yr; f_X5_run_30 P Q B yr n9 (i + 1) u44.1 u44.2
def f_X5_run_55 (v38 : Int32 × zY) (yr : Nat) : Nat → Nat → (Nat → Nat → Int32) → Nat → Nat → Int32
  | 0, _, PA8 => PA8
  | n9 + 1, i2, PA8 => f_X5_run_55 v38 yr n9 (i2 + 1) (va_up PA8 i2 (upd (PA8 i2) yr (v38.2.2.1 i2)))
def f_X5_run_6 (P : Nat) (Q : Nat) (Hn : Nat) (sd : Int32) (B : zB) : Nat → Nat → Int32 → zY → (Nat → Nat → Int32) → Int32 × zY × (Nat → Nat → Int32)
  | 0, _, hav9, Y9, PA9 => (hav9, Y9, PA9)
  | n9 + 1, yr, hav9, Y9, PA9 => let u25 := s_X5_work (s_X5_bringHelp (s_X5_bear Y9 P B yr) P Hn B yr) P sd B yr; let v38 := f_X5_run_30 P Q B yr P 0 hav9 u25; f_X5_run_6 P Q Hn sd B n9 (yr + 1) v38.1 v38.2 (f_X5_run_55 v38 yr P 0 PA9)
def s_X5_run (Y : zY) (PA : Nat → Nat → Int32) (P : Nat) (Q : Nat) (Hn : Nat) (sd : Int32) (B : zB) : Int32 × zY × (Nat → Nat → Int32) := let u1 := s_X5_prepare Y P Q B; let v10 := f_X5_run_6 P Q Hn sd B 151 0 u1.1 u1.2 PA; (v10.1, v10.2.1, v10.2.2)
set_option maxHeartbeats 4000000 in
set_option maxRecDepth 100000 in
theorem c_X5_run (l : Launch) (D : va_G) (cI cC cJ : ClassId) (y : Nat → Nat) (b : Nat → Nat) (hav : Int32) (Y : zY) (PA : Nat → Nat → Int32) (P : Nat) (Q : Nat) (Hn : Nat) (sd : Int32) (B : zB) (hP : P ≤ 6) (hQ : Q ≤ 9) (hH : Hn ≤ 4) : zD l yX5_run wsX5_run rm_X5_run D (zT cI cC cJ) [.ref (y 0)] [yearsW cI cJ y (b 0) hav Y PA, bookW cI b P Q Hn sd B] none [yearsW cI cJ y (b 0) ((s_X5_run Y PA P Q Hn sd B).1) ((s_X5_run Y PA P Q Hn sd B).2.1) ((s_X5_run Y PA P Q Hn sd B).2.2), bookW cI b P Q Hn sd B] := by
  refine zD_void (cc := cX5_run) (maxL := 3) (lv := [(0, .ref (y 0))]) (by decide +kernel) rfl (Nat.le_of_ble_eq_true rfl) rfl (fun Z O hret => ?_)
  refine zr_aload_n (pc2 := 1) O dX5_run_0 rfl 0 rfl rfl ?_
  obtain ⟨u1, hu1⟩ : ∃ z9, z9 = s_X5_prepare Y P Q B := ⟨_, rfl⟩
  refine zr_callV (As := []) (rest := []) (ws2 := [yearsW cI cJ y (b 0) u1.1 u1.2 PA, bookW cI b P Q Hn sd B]) (pc2 := 4) (ci := 5) (g0 := 0) (q0 := 0) (v := none) (W := [yearsW cI cJ y (b 0) hav Y PA, bookW cI b P Q Hn sd B]) (W2 := [yearsW cI cJ y (b 0) u1.1 u1.2 PA, bookW cI b P Q Hn sd B]) O (by rw [hu1]; exact (c_X5_prepare l D cI cC cJ y b hav Y PA P Q Hn sd B (by first | assumption | omega) (by first | assumption | omega))) sC_X5_run_46 rfl rfl rfl rfl rfl dX5_run_1 [0, 1] rfl rfl rfl rfl (Nat.le_of_ble_eq_true rfl) rfl ?_
  show Z _ _ _ []
  refine zr_iconst (v := (nI 0)) (pc2 := 5) O dX5_run_4 (by decide +kernel) rfl ?_
  refine zr_istore_n (lv2 := [(1, .int (nI 0)), (0, .ref (y 0))]) (pc2 := 6) O dX5_run_5 rfl (by decide) rfl rfl ?_
  have lp6 : ∀ (n9 : Nat) (yr : Nat) (hav9 : Int32) (Y9 : zY) (PA9 : Nat → Nat → Int32), yr + n9 = 151 → f_X5_run_6 P Q Hn sd B 151 0 u1.1 u1.2 PA = f_X5_run_6 P Q Hn sd B n9 yr hav9 Y9 PA9 → Z [yearsW cI cJ y (b 0) hav9 Y9 PA9, bookW cI b P Q Hn sd B] [(1, .int (nI yr)), (0, .ref (y 0))] 6 [] := by
    intro n9
    induction n9 with
    | zero =>
      intro yr hav9 Y9 PA9 hM6 hF6
      have hI6 : 151 = yr := by omega
      subst hI6
      obtain ⟨v10, hv10⟩ : ∃ z9, z9 = f_X5_run_6 P Q Hn sd B 151 0 u1.1 u1.2 PA := ⟨_, rfl⟩
      rw [← hv10] at hF6
      have e9 : v10.1 = hav9 := congrArg (fun z => z.1) hF6
      subst e9
      have e9 : v10.2.1 = Y9 := congrArg (fun z => z.2.1) hF6
      subst e9
      have e9 : v10.2.2 = PA9 := congrArg (fun z => z.2.2) hF6
      subst e9
      refine zr_iload_n (pc2 := 7) O dX5_run_6 rfl 0 rfl rfl ?_
      refine zr_sipush (v := (nI 150)) (pc2 := 10) O dX5_run_7 (by decide +kernel) rfl ?_
      refine zn_icmp_gt (tgt := 92) (pc2 := 13) O dX5_run_10 (by decide) rfl (by omega) (by omega) (fun c10 => ?_) (fun c10 => ?_)
      · have hE : s_X5_run Y PA P Q Hn sd B = (v10.1, v10.2.1, v10.2.2) := by subst hv10; subst hu1; exact rfl
        exact hret _ _ _ dX5_run_92 (by rw [hE])
      · exact absurd c10 (by decide)
    | succ n9 ih6 =>
      intro yr hav9 Y9 PA9 hM6 hF6
      refine zr_iload_n (pc2 := 7) O dX5_run_6 rfl 0 rfl rfl ?_
      refine zr_sipush (v := (nI 150)) (pc2 := 10) O dX5_run_7 (by decide +kernel) rfl ?_
      refine zn_icmp_gt (tgt := 92) (pc2 := 13) O dX5_run_10 (by decide) rfl (by omega) (by omega) (fun c10 => ?_) (fun c10 => ?_)
      · exact absurd c10 (by omega)
      · refine zr_aload_n (pc2 := 14) O dX5_run_13 rfl 1 rfl rfl ?_
        refine zr_iload_n (pc2 := 15) O dX5_run_14 rfl 0 rfl rfl ?_
        refine zr_callV (As := [.int (nI yr)]) (rest := []) (ws2 := [yearsW cI cJ y (b 0) hav9 (s_X5_bear Y9 P B yr) PA9, bookW cI b P Q Hn sd B]) (pc2 := 18) (ci := 5) (g0 := 0) (q0 := 0) O (c_X5_bear l D cI cC cJ y b hav9 Y9 PA9 P Q Hn sd B yr (by first | assumption | omega)) sC_X5_run_49 rfl rfl rfl rfl rfl dX5_run_15 [0, 1] rfl rfl rfl rfl (Nat.le_of_ble_eq_true rfl) rfl ?_
        show Z _ _ _ []
        refine zr_aload_n (pc2 := 19) O dX5_run_18 rfl 1 rfl rfl ?_
        refine zr_iload_n (pc2 := 20) O dX5_run_19 rfl 0 rfl rfl ?_
        refine zr_callV (As := [.int (nI yr)]) (rest := []) (ws2 := [yearsW cI cJ y (b 0) hav9 (s_X5_bringHelp (s_X5_bear Y9 P B yr) P Hn B yr) PA9, bookW cI b P Q Hn sd B]) (pc2 := 23) (ci := 5) (g0 := 0) (q0 := 0) O (c_X5_bringHelp l D cI cC cJ y b hav9 (s_X5_bear Y9 P B yr) PA9 P Q Hn sd B yr (by first | assumption | omega) (by first | assumption | omega)) sC_X5_run_53 rfl rfl rfl rfl rfl dX5_run_20 [0, 1] rfl rfl rfl rfl (Nat.le_of_ble_eq_true rfl) rfl ?_
        show Z _ _ _ []
        refine zr_aload_n (pc2 := 24) O dX5_run_23 rfl 1 rfl rfl ?_
        refine zr_iload_n (pc2 := 25) O dX5_run_24 rfl 0 rfl rfl ?_
        obtain ⟨u25, hu25⟩ : ∃ z9, z9 = s_X5_work (s_X5_bringHelp (s_X5_bear Y9 P B yr) P Hn B yr) P sd B yr := ⟨_, rfl⟩
        refine zr_callV (As := [.int (nI yr)]) (rest := []) (ws2 := [yearsW cI cJ y (b 0) hav9 u25 PA9, bookW cI b P Q Hn sd B]) (pc2 := 28) (ci := 5) (g0 := 0) (q0 := 0) (v := none) (W := [yearsW cI cJ y (b 0) hav9 (s_X5_bringHelp (s_X5_bear Y9 P B yr) P Hn B yr) PA9, bookW cI b P Q Hn sd B]) (W2 := [yearsW cI cJ y (b 0) hav9 u25 PA9, bookW cI b P Q Hn sd B]) O (by rw [hu25]; exact (c_X5_work l D cI cC cJ y b hav9 (s_X5_bringHelp (s_X5_bear Y9 P B yr) P Hn B yr) PA9 P Q Hn sd B yr (by first | assumption | omega))) sC_X5_run_56 rfl rfl rfl rfl rfl dX5_run_25 [0, 1] rfl rfl rfl rfl (Nat.le_of_ble_eq_true rfl) rfl ?_
        show Z _ _ _ []
        refine zr_iconst (v := (nI 0)) (pc2 := 29) O dX5_run_28 (by decide +kernel) rfl ?_
        refine zr_istore_n (lv2 := [(2, .int (nI 0)), (1, .int (nI yr)), (0, .ref (y 0))]) (pc2 := 30) O dX5_run_29 rfl (by decide) rfl rfl ?_
        have lp30 : ∀ (n9 : Nat) (i : Nat) (hav8 : Int32) (Y8 : zY), i + n9 = P → f_X5_run_30 P Q B yr P 0 hav9 u25 = f_X5_run_30 P Q B yr n9 i hav8 Y8 → Z [yearsW cI cJ y (b 0) hav8 Y8 PA9, bookW cI b P Q Hn sd B] [(2, .int (nI i)), (1, .int (nI yr)), (0, .ref (y 0))] 30 [] := by
          intro n9
          induction n9 with
          | zero =>
            intro i hav8 Y8 hM30 hF30
            have hI30 : P = i := by omega
            subst hI30
            obtain ⟨v38, hv38⟩ : ∃ z9, z9 = f_X5_run_30 P Q B yr P 0 hav9 u25 := ⟨_, rfl⟩
            rw [← hv38] at hF30
            have e9 : v38.1 = hav8 := congrArg (fun z => z.1) hF30
            subst e9
            have e9 : v38.2 = Y8 := congrArg (fun z => z.2) hF30
            subst e9
            refine zr_iload_n (pc2 := 31) O dX5_run_30 rfl 0 rfl rfl ?_
            refine zr_aload_n (pc2 := 32) O dX5_run_31 rfl 2 rfl rfl ?_
            refine zr_getf (v := .ref (b 0)) (pc2 := 35) O sF_X5_run_42 0 0 rfl rfl rfl dX5_run_32 rfl ?_
            refine zr_getf (v := .int (nI P)) (pc2 := 38) O sF_X5_run_59 1 0 rfl rfl rfl dX5_run_35 rfl ?_
            refine zn_icmp_ge (tgt := 53) (pc2 := 41) O dX5_run_38 (by decide) rfl (by omega) (by omega) (fun c38 => ?_) (fun c38 => ?_)
            · refine zr_iconst (v := (nI 0)) (pc2 := 54) O dX5_run_53 (by decide +kernel) rfl ?_
              refine zr_istore_n (lv2 := [(2, .int (nI 0)), (1, .int (nI yr)), (0, .ref (y 0))]) (pc2 := 55) O dX5_run_54 rfl (by decide) rfl rfl ?_
              have lp55 : ∀ (n9 : Nat) (i2 : Nat) (PA8 : Nat → Nat → Int32), i2 + n9 = P → f_X5_run_55 v38 yr P 0 PA9 = f_X5_run_55 v38 yr n9 i2 PA8 → Z [yearsW cI cJ y (b 0) v38.1 v38.2 PA8, bookW cI b P Q Hn sd B] [(2, .int (nI i2)), (1, .int (nI yr)), (0, .ref (y 0))] 55 [] := by
                intro n9
                induction n9 with
                | zero =>
                  intro i2 PA8 hM55 hF55
                  have hI55 : P = i2 := by omega
                  subst hI55
                  have e9 : (f_X5_run_55 v38 yr P 0 PA9) = PA8 := hF55
                  subst e9
                  refine zr_iload_n (pc2 := 56) O dX5_run_55 rfl 0 rfl rfl ?_
                  refine zr_aload_n (pc2 := 57) O dX5_run_56 rfl 2 rfl rfl ?_
                  refine zr_getf (v := .ref (b 0)) (pc2 := 60) O sF_X5_run_42 0 0 rfl rfl rfl dX5_run_57 rfl ?_
                  refine zr_getf (v := .int (nI P)) (pc2 := 63) O sF_X5_run_59 1 0 rfl rfl rfl dX5_run_60 rfl ?_
                  refine zn_icmp_ge (tgt := 86) (pc2 := 66) O dX5_run_63 (by decide) rfl (by omega) (by omega) (fun c63 => ?_) (fun c63 => ?_)
                  · refine zr_iinc (v := (nI (yr + 1))) (lv2 := [(1, .int (nI (yr + 1))), (2, .int (nI P)), (0, .ref (y 0))]) (pc2 := 89) O dX5_run_86 1 rfl (zm_ofInt1 yr) (by decide) rfl rfl ?_
                    refine zr_goto (tgt := 6) O dX5_run_89 (by decide) ?_
                    refine zr_sub (lv2 := [(1, .int (nI (yr + 1))), (0, .ref (y 0))]) O [0, 2] rfl ?_
                    have hE : f_X5_run_6 P Q Hn sd B (n9 + 1) yr hav9 Y9 PA9 = f_X5_run_6 P Q Hn sd B n9 (yr + 1) v38.1 v38.2 (f_X5_run_55 v38 yr P 0 PA9) := by subst hv38; subst hu25; exact rfl
                    exact ih6 (yr + 1) v38.1 v38.2 (f_X5_run_55 v38 yr P 0 PA9) (by omega) (hF6.trans hE)
                  · exact absurd c63 (by omega)
                | succ n9 ih55 =>
                  intro i2 PA8 hM55 hF55
                  refine zr_iload_n (pc2 := 56) O dX5_run_55 rfl 0 rfl rfl ?_
                  refine zr_aload_n (pc2 := 57) O dX5_run_56 rfl 2 rfl rfl ?_
                  refine zr_getf (v := .ref (b 0)) (pc2 := 60) O sF_X5_run_42 0 0 rfl rfl rfl dX5_run_57 rfl ?_
                  refine zr_getf (v := .int (nI P)) (pc2 := 63) O sF_X5_run_59 1 0 rfl rfl rfl dX5_run_60 rfl ?_
                  refine zn_icmp_ge (tgt := 86) (pc2 := 66) O dX5_run_63 (by decide) rfl (by omega) (by omega) (fun c63 => ?_) (fun c63 => ?_)
                  · exact absurd c63 (by omega)
                  · refine zr_aload_n (pc2 := 67) O dX5_run_66 rfl 2 rfl rfl ?_
                    refine zr_getf (v := .ref (y 8)) (pc2 := 70) O sF_X5_run_35 0 0 rfl rfl rfl dX5_run_67 rfl ?_
                    refine zr_iload_n (pc2 := 71) O dX5_run_70 rfl 0 rfl rfl ?_
                    refine zn_aald (j := i2) (r := (y (10 + i2))) (pc2 := 72) O 0 8 2 rfl rfl rfl rfl (by omega) (by decide) (if_pos (by omega)) dX5_run_71 rfl ?_
                    refine zr_iload_n (pc2 := 73) O dX5_run_72 rfl 1 rfl rfl ?_
                    refine zr_aload_n (pc2 := 74) O dX5_run_73 rfl 2 rfl rfl ?_
                    refine zr_getf (v := .ref (y 2)) (pc2 := 77) O sF_X5_run_15 0 0 rfl rfl rfl dX5_run_74 rfl ?_
                    refine zr_iload_n (pc2 := 78) O dX5_run_77 rfl 0 rfl rfl ?_
                    refine zn_iald (j := i2) (pc2 := 79) O 0 2 0 rfl rfl rfl rfl (by omega) (by decide) dX5_run_78 rfl ?_
                    refine zn_iast (j := yr) (G2 := yearsW cI cJ y (b 0) v38.1 v38.2 (va_up PA8 i2 (upd (PA8 i2) yr (v38.2.2.1 i2)))) (ws2 := [yearsW cI cJ y (b 0) v38.1 v38.2 (va_up PA8 i2 (upd (PA8 i2) yr (v38.2.2.1 i2))), bookW cI b P Q Hn sd B]) (pc2 := 80) O 0 (9 + i2) 0 rfl (zrow_at (a := y) (PA := PA8) (by omega) rfl rfl rfl rfl rfl rfl) rfl rfl (by omega) (by decide) dX5_run_79 (by rcases (show i2 = 0 ∨ i2 = 1 ∨ i2 = 2 ∨ i2 = 3 ∨ i2 = 4 ∨ i2 = 5 by omega) with rfl | rfl | rfl | rfl | rfl | rfl <;> rfl) rfl rfl ?_
                    refine zr_iinc (v := (nI (i2 + 1))) (lv2 := [(2, .int (nI (i2 + 1))), (1, .int (nI yr)), (0, .ref (y 0))]) (pc2 := 83) O dX5_run_80 0 rfl (zm_ofInt1 i2) (by decide) rfl rfl ?_
                    refine zr_goto (tgt := 55) O dX5_run_83 (by decide) ?_
                    have hE : f_X5_run_55 v38 yr (n9 + 1) i2 PA8 = f_X5_run_55 v38 yr n9 (i2 + 1) (va_up PA8 i2 (upd (PA8 i2) yr (v38.2.2.1 i2))) := by exact rfl
                    exact ih55 (i2 + 1) (va_up PA8 i2 (upd (PA8 i2) yr (v38.2.2.1 i2))) (by omega) (hF55.trans hE)
              exact lp55 P 0 PA9 (by omega) rfl
            · exact absurd c38 (by omega)
          | succ n9 ih30 =>
            intro i hav8 Y8 hM30 hF30
            refine zr_iload_n (pc2 := 31) O dX5_run_30 rfl 0 rfl rfl ?_
            refine zr_aload_n (pc2 := 32) O dX5_run_31 rfl 2 rfl rfl ?_
            refine zr_getf (v := .ref (b 0)) (pc2 := 35) O sF_X5_run_42 0 0 rfl rfl rfl dX5_run_32 rfl ?_
            refine zr_getf (v := .int (nI P)) (pc2 := 38) O sF_X5_run_59 1 0 rfl rfl rfl dX5_run_35 rfl ?_
            refine zn_icmp_ge (tgt := 53) (pc2 := 41) O dX5_run_38 (by decide) rfl (by omega) (by omega) (fun c38 => ?_) (fun c38 => ?_)
            · exact absurd c38 (by omega)
            · refine zr_aload_n (pc2 := 42) O dX5_run_41 rfl 2 rfl rfl ?_
              refine zr_iload_n (pc2 := 43) O dX5_run_42 rfl 0 rfl rfl ?_
              refine zr_iload_n (pc2 := 44) O dX5_run_43 rfl 1 rfl rfl ?_
              obtain ⟨u44, hu44⟩ : ∃ z9, z9 = s_X5_takeTurn hav8 Y8 P Q B i yr := ⟨_, rfl⟩
              refine zr_callV (As := [.int (nI i), .int (nI yr)]) (rest := []) (ws2 := [yearsW cI cJ y (b 0) u44.1 u44.2 PA9, bookW cI b P Q Hn sd B]) (pc2 := 47) (ci := 5) (g0 := 0) (q0 := 0) (v := none) (W := [yearsW cI cJ y (b 0) hav8 Y8 PA9, bookW cI b P Q Hn sd B]) (W2 := [yearsW cI cJ y (b 0) u44.1 u44.2 PA9, bookW cI b P Q Hn sd B]) O (by rw [hu44]; exact (c_X5_takeTurn l D cI cC cJ y b hav8 Y8 PA9 P Q Hn sd B i yr (by first | assumption | omega) (by first | assumption | omega) (by first | assumption | omega))) sC_X5_run_64 rfl rfl rfl rfl rfl dX5_run_44 [0, 1] rfl rfl rfl rfl (Nat.le_of_ble_eq_true rfl) rfl ?_
              show Z _ _ _ []
              refine zr_iinc (v := (nI (i + 1))) (lv2 := [(2, .int (nI (i + 1))), (1, .int (nI yr)), (0, .ref (y 0))]) (pc2 := 50) O dX5_run_47 0 rfl (zm_ofInt1 i) (by decide) rfl rfl ?_
              refine zr_goto (tgt := 30) O dX5_run_50 (by decide) ?_
              have hE : f_X5_run_30 P Q B yr (n9 + 1) i hav8 Y8 = f_X5_run_30 P Q B yr n9 (i + 1) u44.1 u44.2 := by subst hu44; exact rfl
              exact ih30 (i + 1) u44.1 u44.2 (by omega) (hF30.trans hE)
        exact lp30 P 0 hav9 u25 (by omega) rfl
  exact lp6 151 0 u1.1 u1.2 PA (by omega) rfl
/-! X5_ageReached -/
def s_X5_ageReached (Y : zY) (P : Nat) (B : zB) (i : Int32) : Int32 := if (s_X0_hasPerson P i) = true then if (Y.2.2.2.2.1 i.toNatClampNeg) = (-4) then ((nI 150) - (B.1 i.toNatClampNeg)) else ((Y.2.2.2.2.1 i.toNatClampNeg) - (B.1 i.toNatClampNeg)) else (nI 0)
set_option maxHeartbeats 4000000 in
set_option maxRecDepth 100000 in
theorem c_X5_ageReached (l : Launch) (D : va_G) (cI cC cJ : ClassId) (y : Nat → Nat) (b : Nat → Nat) (hav : Int32) (Y : zY) (PA : Nat → Nat → Int32) (P : Nat) (Q : Nat) (Hn : Nat) (sd : Int32) (B : zB) (i : Int32) (hP : P ≤ 6) : zD l yX5_ageReached wsX5_ageReached rm_X5_ageReached D (zT cI cC cJ) [.ref (y 0), .int i] [yearsW cI cJ y (b 0) hav Y PA, bookW cI b P Q Hn sd B] (some (.int (s_X5_ageReached Y P B i))) [yearsW cI cJ y (b 0) hav Y PA, bookW cI b P Q Hn sd B] := by
  refine zD_int (cc := cX5_ageReached) (maxL := 2) (ty := .int) (lv := [(0, .ref (y 0)), (1, .int i)]) (by decide +kernel) rfl (Nat.le_of_ble_eq_true rfl) rfl (fun Z O hret => ?_)
  refine zr_aload_n (pc2 := 1) O dX5_ageReached_0 rfl 0 rfl rfl ?_
  refine zr_getf (v := .ref (b 0)) (pc2 := 4) O sF_X5_ageReached_42 0 0 rfl rfl rfl dX5_ageReached_1 rfl ?_
  refine zr_iload_n (pc2 := 5) O dX5_ageReached_4 rfl 1 rfl rfl ?_
  refine zr_callV (As := [.int i]) (rest := []) (ws2 := [yearsW cI cJ y (b 0) hav Y PA, bookW cI b P Q Hn sd B]) (pc2 := 8) (ci := 0) (g0 := 1) (q0 := 0) O (c_X0_hasPerson l D cI cC cJ b P Q Hn sd B i) sC_X5_ageReached_155 rfl rfl rfl rfl rfl dX5_ageReached_5 [1] rfl rfl rfl rfl (Nat.le_of_ble_eq_true rfl) rfl ?_
  show Z _ _ _ [.int (zb (s_X0_hasPerson P i))]
  refine zb_if_ne (tgt := 13) (pc2 := 11) O dX5_ageReached_8 (by decide) rfl (fun c8 => ?_) (fun c8 => ?_)
  · refine zr_aload_n (pc2 := 14) O dX5_ageReached_13 rfl 0 rfl rfl ?_
    refine zr_getf (v := .ref (y 5)) (pc2 := 17) O sF_X5_ageReached_24 0 0 rfl rfl rfl dX5_ageReached_14 rfl ?_
    refine zr_iload_n (pc2 := 18) O dX5_ageReached_17 rfl 1 rfl rfl ?_
    refine zr_iald (pc2 := 19) O 0 5 0 rfl rfl rfl (by first | assumption | exact zin_of (by assumption) (by assumption) (by assumption) (by decide) | exact hp_in (by assumption) (by assumption) (by decide) | exact hb_in (by assumption) (by assumption) (by decide) | exact il_in (by assumption) (by assumption) (by decide)) dX5_ageReached_18 rfl ?_
    refine zr_bipush (v := (-4)) (pc2 := 21) O dX5_ageReached_19 (by decide +kernel) rfl ?_
    refine zr_icmp_ne (tgt := 30) (pc2 := 24) O dX5_ageReached_21 (by decide) rfl (fun c21 => ?_) (fun c21 => ?_)
    · refine zr_aload_n (pc2 := 31) O dX5_ageReached_30 rfl 0 rfl rfl ?_
      refine zr_getf (v := .ref (y 5)) (pc2 := 34) O sF_X5_ageReached_24 0 0 rfl rfl rfl dX5_ageReached_31 rfl ?_
      refine zr_iload_n (pc2 := 35) O dX5_ageReached_34 rfl 1 rfl rfl ?_
      refine zr_iald (pc2 := 36) O 0 5 0 rfl rfl rfl (by first | assumption | exact zin_of (by assumption) (by assumption) (by assumption) (by decide) | exact hp_in (by assumption) (by assumption) (by decide) | exact hb_in (by assumption) (by assumption) (by decide) | exact il_in (by assumption) (by assumption) (by decide)) dX5_ageReached_35 rfl ?_
      refine zr_aload_n (pc2 := 37) O dX5_ageReached_36 rfl 0 rfl rfl ?_
      refine zr_getf (v := .ref (b 0)) (pc2 := 40) O sF_X5_ageReached_42 0 0 rfl rfl rfl dX5_ageReached_37 rfl ?_
      refine zr_getf (v := .ref (b 1)) (pc2 := 43) O sF_X5_ageReached_75 1 0 rfl rfl rfl dX5_ageReached_40 rfl ?_
      refine zr_iload_n (pc2 := 44) O dX5_ageReached_43 rfl 1 rfl rfl ?_
      refine zr_iald (pc2 := 45) O 1 1 0 rfl rfl rfl (by first | assumption | exact zin_of (by assumption) (by assumption) (by assumption) (by decide) | exact hp_in (by assumption) (by assumption) (by decide) | exact hb_in (by assumption) (by assumption) (by decide) | exact il_in (by assumption) (by assumption) (by decide)) dX5_ageReached_44 rfl ?_
      refine zr_isub (v := ((Y.2.2.2.2.1 i.toNatClampNeg) - (B.1 i.toNatClampNeg))) (pc2 := 46) O dX5_ageReached_45 rfl rfl ?_
      have hE : s_X5_ageReached Y P B i = ((Y.2.2.2.2.1 i.toNatClampNeg) - (B.1 i.toNatClampNeg)) := by exact ((zif_t c8).trans (if_neg c21))
      exact hret _ _ _ _ dX5_ageReached_46 rfl (by rw [hE]) rfl
    · refine zr_sipush (v := (nI 150)) (pc2 := 27) O dX5_ageReached_24 (by decide +kernel) rfl ?_
      refine zr_goto (tgt := 36) O dX5_ageReached_27 (by decide) ?_
      refine zr_aload_n (pc2 := 37) O dX5_ageReached_36 rfl 0 rfl rfl ?_
      refine zr_getf (v := .ref (b 0)) (pc2 := 40) O sF_X5_ageReached_42 0 0 rfl rfl rfl dX5_ageReached_37 rfl ?_
      refine zr_getf (v := .ref (b 1)) (pc2 := 43) O sF_X5_ageReached_75 1 0 rfl rfl rfl dX5_ageReached_40 rfl ?_
      refine zr_iload_n (pc2 := 44) O dX5_ageReached_43 rfl 1 rfl rfl ?_
      refine zr_iald (pc2 := 45) O 1 1 0 rfl rfl rfl (by first | assumption | exact zin_of (by assumption) (by assumption) (by assumption) (by decide) | exact hp_in (by assumption) (by assumption) (by decide) | exact hb_in (by assumption) (by assumption) (by decide) | exact il_in (by assumption) (by assumption) (by decide)) dX5_ageReached_44 rfl ?_
      refine zr_isub (v := ((nI 150) - (B.1 i.toNatClampNeg))) (pc2 := 46) O dX5_ageReached_45 rfl rfl ?_
      have hE : s_X5_ageReached Y P B i = ((nI 150) - (B.1 i.toNatClampNeg)) := by exact ((zif_t c8).trans (if_pos c21))
      exact hret _ _ _ _ dX5_ageReached_46 rfl (by rw [hE]) rfl
  · refine zr_iconst (v := (nI 0)) (pc2 := 12) O dX5_ageReached_11 (by decide +kernel) rfl ?_
    have hE : s_X5_ageReached Y P B i = (nI 0) := by exact (zif_f c8)
    exact hret _ _ _ _ dX5_ageReached_12 rfl (by rw [hE]) rfl
/-! X5_firstWithout -/
def f_X5_firstWithout_9 (hav : Int32) (Y : zY) : Nat → Nat → Int32 → Int32 → Int32 × Int32
  | 0, _, who, wn => (who, wn)
  | n9 + 1, i, who, wn => if (Y.2.2.2.2.1 i) = (-4) then f_X5_firstWithout_9 hav Y n9 (i + 1) who wn else if (s_X5_diedHaving hav i) = true then f_X5_firstWithout_9 hav Y n9 (i + 1) who wn else if wn ≤ (Y.2.2.2.2.1 i) then f_X5_firstWithout_9 hav Y n9 (i + 1) who wn else f_X5_firstWithout_9 hav Y n9 (i + 1) (nI i) (Y.2.2.2.2.1 i)
def s_X5_firstWithout (hav : Int32) (Y : zY) (P : Nat) : Int32 := let v17 := f_X5_firstWithout_9 hav Y P 0 (-4) (nI 151); v17.1
set_option maxHeartbeats 4000000 in
set_option maxRecDepth 100000 in
theorem c_X5_firstWithout (l : Launch) (D : va_G) (cI cC cJ : ClassId) (y : Nat → Nat) (b : Nat → Nat) (hav : Int32) (Y : zY) (PA : Nat → Nat → Int32) (P : Nat) (Q : Nat) (Hn : Nat) (sd : Int32) (B : zB) (hP : P ≤ 6) : zD l yX5_firstWithout wsX5_firstWithout rm_X5_firstWithout D (zT cI cC cJ) [.ref (y 0)] [yearsW cI cJ y (b 0) hav Y PA, bookW cI b P Q Hn sd B] (some (.int (s_X5_firstWithout hav Y P))) [yearsW cI cJ y (b 0) hav Y PA, bookW cI b P Q Hn sd B] := by
  refine zD_int (cc := cX5_firstWithout) (maxL := 4) (ty := .int) (lv := [(0, .ref (y 0))]) (by decide +kernel) rfl (Nat.le_of_ble_eq_true rfl) rfl (fun Z O hret => ?_)
  refine zr_bipush (v := (-4)) (pc2 := 2) O dX5_firstWithout_0 (by decide +kernel) rfl ?_
  refine zr_istore_n (lv2 := [(1, .int (-4)), (0, .ref (y 0))]) (pc2 := 3) O dX5_firstWithout_2 rfl (by decide) rfl rfl ?_
  refine zr_sipush (v := (nI 151)) (pc2 := 6) O dX5_firstWithout_3 (by decide +kernel) rfl ?_
  refine zr_istore_n (lv2 := [(2, .int (nI 151)), (1, .int (-4)), (0, .ref (y 0))]) (pc2 := 7) O dX5_firstWithout_6 rfl (by decide) rfl rfl ?_
  refine zr_iconst (v := (nI 0)) (pc2 := 8) O dX5_firstWithout_7 (by decide +kernel) rfl ?_
  refine zr_istore_n (lv2 := [(3, .int (nI 0)), (2, .int (nI 151)), (1, .int (-4)), (0, .ref (y 0))]) (pc2 := 9) O dX5_firstWithout_8 rfl (by decide) rfl rfl ?_
  have lp9 : ∀ (n9 : Nat) (i : Nat) (who : Int32) (wn : Int32), i + n9 = P → f_X5_firstWithout_9 hav Y P 0 (-4) (nI 151) = f_X5_firstWithout_9 hav Y n9 i who wn → Z [yearsW cI cJ y (b 0) hav Y PA, bookW cI b P Q Hn sd B] [(3, .int (nI i)), (2, .int wn), (1, .int who), (0, .ref (y 0))] 9 [] := by
    intro n9
    induction n9 with
    | zero =>
      intro i who wn hM9 hF9
      have hI9 : P = i := by omega
      subst hI9
      obtain ⟨v17, hv17⟩ : ∃ z9, z9 = f_X5_firstWithout_9 hav Y P 0 (-4) (nI 151) := ⟨_, rfl⟩
      rw [← hv17] at hF9
      have e9 : v17.1 = who := congrArg (fun z => z.1) hF9
      subst e9
      have e9 : v17.2 = wn := congrArg (fun z => z.2) hF9
      subst e9
      refine zr_iload_n (pc2 := 10) O dX5_firstWithout_9 rfl 0 rfl rfl ?_
      refine zr_aload_n (pc2 := 11) O dX5_firstWithout_10 rfl 3 rfl rfl ?_
      refine zr_getf (v := .ref (b 0)) (pc2 := 14) O sF_X5_firstWithout_42 0 0 rfl rfl rfl dX5_firstWithout_11 rfl ?_
      refine zr_getf (v := .int (nI P)) (pc2 := 17) O sF_X5_firstWithout_59 1 0 rfl rfl rfl dX5_firstWithout_14 rfl ?_
      refine zn_icmp_ge (tgt := 64) (pc2 := 20) O dX5_firstWithout_17 (by decide) rfl (by omega) (by omega) (fun c17 => ?_) (fun c17 => ?_)
      · refine zr_iload_n (pc2 := 65) O dX5_firstWithout_64 rfl 2 rfl rfl ?_
        have hE : s_X5_firstWithout hav Y P = v17.1 := by subst hv17; exact rfl
        exact hret _ _ _ _ dX5_firstWithout_65 rfl (by rw [hE]) rfl
      · exact absurd c17 (by omega)
    | succ n9 ih9 =>
      intro i who wn hM9 hF9
      refine zr_iload_n (pc2 := 10) O dX5_firstWithout_9 rfl 0 rfl rfl ?_
      refine zr_aload_n (pc2 := 11) O dX5_firstWithout_10 rfl 3 rfl rfl ?_
      refine zr_getf (v := .ref (b 0)) (pc2 := 14) O sF_X5_firstWithout_42 0 0 rfl rfl rfl dX5_firstWithout_11 rfl ?_
      refine zr_getf (v := .int (nI P)) (pc2 := 17) O sF_X5_firstWithout_59 1 0 rfl rfl rfl dX5_firstWithout_14 rfl ?_
      refine zn_icmp_ge (tgt := 64) (pc2 := 20) O dX5_firstWithout_17 (by decide) rfl (by omega) (by omega) (fun c17 => ?_) (fun c17 => ?_)
      · exact absurd c17 (by omega)
      · refine zr_aload_n (pc2 := 21) O dX5_firstWithout_20 rfl 3 rfl rfl ?_
        refine zr_getf (v := .ref (y 5)) (pc2 := 24) O sF_X5_firstWithout_24 0 0 rfl rfl rfl dX5_firstWithout_21 rfl ?_
        refine zr_iload_n (pc2 := 25) O dX5_firstWithout_24 rfl 0 rfl rfl ?_
        refine zn_iald (j := i) (pc2 := 26) O 0 5 0 rfl rfl rfl rfl (by omega) (by decide) dX5_firstWithout_25 rfl ?_
        refine zr_bipush (v := (-4)) (pc2 := 28) O dX5_firstWithout_26 (by decide +kernel) rfl ?_
        refine zr_icmp_eq (tgt := 58) (pc2 := 31) O dX5_firstWithout_28 (by decide) rfl (fun c28 => ?_) (fun c28 => ?_)
        · refine zr_iinc (v := (nI (i + 1))) (lv2 := [(3, .int (nI (i + 1))), (2, .int wn), (1, .int who), (0, .ref (y 0))]) (pc2 := 61) O dX5_firstWithout_58 0 rfl (zm_ofInt1 i) (by decide) rfl rfl ?_
          refine zr_goto (tgt := 9) O dX5_firstWithout_61 (by decide) ?_
          have hE : f_X5_firstWithout_9 hav Y (n9 + 1) i who wn = f_X5_firstWithout_9 hav Y n9 (i + 1) who wn := by exact (if_pos c28)
          exact ih9 (i + 1) who wn (by omega) (hF9.trans hE)
        · refine zr_aload_n (pc2 := 32) O dX5_firstWithout_31 rfl 3 rfl rfl ?_
          refine zr_iload_n (pc2 := 33) O dX5_firstWithout_32 rfl 0 rfl rfl ?_
          refine zr_callV (As := [.int (nI i)]) (rest := []) (ws2 := [yearsW cI cJ y (b 0) hav Y PA, bookW cI b P Q Hn sd B]) (pc2 := 36) (ci := 5) (g0 := 0) (q0 := 0) O (c_X5_diedHaving l D cI cC cJ y hav Y PA i (b 0)) sC_X5_firstWithout_149 rfl rfl rfl rfl rfl dX5_firstWithout_33 [0] rfl rfl rfl rfl (Nat.le_of_ble_eq_true rfl) rfl ?_
          show Z _ _ _ [.int (zb (s_X5_diedHaving hav i))]
          refine zb_if_ne (tgt := 58) (pc2 := 39) O dX5_firstWithout_36 (by decide) rfl (fun c36 => ?_) (fun c36 => ?_)
          · refine zr_iinc (v := (nI (i + 1))) (lv2 := [(3, .int (nI (i + 1))), (2, .int wn), (1, .int who), (0, .ref (y 0))]) (pc2 := 61) O dX5_firstWithout_58 0 rfl (zm_ofInt1 i) (by decide) rfl rfl ?_
            refine zr_goto (tgt := 9) O dX5_firstWithout_61 (by decide) ?_
            have hE : f_X5_firstWithout_9 hav Y (n9 + 1) i who wn = f_X5_firstWithout_9 hav Y n9 (i + 1) who wn := by exact ((if_neg c28).trans (zif_t c36))
            exact ih9 (i + 1) who wn (by omega) (hF9.trans hE)
          · refine zr_aload_n (pc2 := 40) O dX5_firstWithout_39 rfl 3 rfl rfl ?_
            refine zr_getf (v := .ref (y 5)) (pc2 := 43) O sF_X5_firstWithout_24 0 0 rfl rfl rfl dX5_firstWithout_40 rfl ?_
            refine zr_iload_n (pc2 := 44) O dX5_firstWithout_43 rfl 0 rfl rfl ?_
            refine zn_iald (j := i) (pc2 := 45) O 0 5 0 rfl rfl rfl rfl (by omega) (by decide) dX5_firstWithout_44 rfl ?_
            refine zr_iload_n (pc2 := 46) O dX5_firstWithout_45 rfl 1 rfl rfl ?_
            refine zr_icmp_ge (tgt := 58) (pc2 := 49) O dX5_firstWithout_46 (by decide) rfl (fun c46 => ?_) (fun c46 => ?_)
            · refine zr_iinc (v := (nI (i + 1))) (lv2 := [(3, .int (nI (i + 1))), (2, .int wn), (1, .int who), (0, .ref (y 0))]) (pc2 := 61) O dX5_firstWithout_58 0 rfl (zm_ofInt1 i) (by decide) rfl rfl ?_
              refine zr_goto (tgt := 9) O dX5_firstWithout_61 (by decide) ?_
              have hE : f_X5_firstWithout_9 hav Y (n9 + 1) i who wn = f_X5_firstWithout_9 hav Y n9 (i + 1) who wn := by exact ((if_neg c28).trans ((zif_f c36).trans (if_pos c46)))
              exact ih9 (i + 1) who wn (by omega) (hF9.trans hE)
            · refine zr_iload_n (pc2 := 50) O dX5_firstWithout_49 rfl 0 rfl rfl ?_
              refine zr_istore_n (lv2 := [(1, .int (nI i)), (3, .int (nI i)), (2, .int wn), (0, .ref (y 0))]) (pc2 := 51) O dX5_firstWithout_50 rfl (by decide) rfl rfl ?_
              refine zr_aload_n (pc2 := 52) O dX5_firstWithout_51 rfl 3 rfl rfl ?_
              refine zr_getf (v := .ref (y 5)) (pc2 := 55) O sF_X5_firstWithout_24 0 0 rfl rfl rfl dX5_firstWithout_52 rfl ?_
              refine zr_iload_n (pc2 := 56) O dX5_firstWithout_55 rfl 1 rfl rfl ?_
              refine zn_iald (j := i) (pc2 := 57) O 0 5 0 rfl rfl rfl rfl (by omega) (by decide) dX5_firstWithout_56 rfl ?_
              refine zr_istore_n (lv2 := [(2, .int (Y.2.2.2.2.1 i)), (1, .int (nI i)), (3, .int (nI i)), (0, .ref (y 0))]) (pc2 := 58) O dX5_firstWithout_57 rfl (by decide) rfl rfl ?_
              refine zr_iinc (v := (nI (i + 1))) (lv2 := [(3, .int (nI (i + 1))), (2, .int (Y.2.2.2.2.1 i)), (1, .int (nI i)), (0, .ref (y 0))]) (pc2 := 61) O dX5_firstWithout_58 2 rfl (zm_ofInt1 i) (by decide) rfl rfl ?_
              refine zr_goto (tgt := 9) O dX5_firstWithout_61 (by decide) ?_
              have hE : f_X5_firstWithout_9 hav Y (n9 + 1) i who wn = f_X5_firstWithout_9 hav Y n9 (i + 1) (nI i) (Y.2.2.2.2.1 i) := by exact ((if_neg c28).trans ((zif_f c36).trans (if_neg c46)))
              exact ih9 (i + 1) (nI i) (Y.2.2.2.2.1 i) (by omega) (hF9.trans hE)
  exact lp9 P 0 (-4) (nI 151) (by omega) rfl
/-! X5_oldest -/
def f_X5_oldest_4 (Y : zY) (P : Nat) (B : zB) : Nat → Nat → Int32 → Int32
  | 0, _, who => who
  | n9 + 1, i, who => if (s_X5_ageReached Y P B (nI i)) ≤ (s_X5_ageReached Y P B who) then f_X5_oldest_4 Y P B n9 (i + 1) who else f_X5_oldest_4 Y P B n9 (i + 1) (nI i)
def s_X5_oldest (Y : zY) (P : Nat) (B : zB) : Int32 := (f_X5_oldest_4 Y P B (P - 1) 1 (nI 0))
set_option maxHeartbeats 4000000 in
set_option maxRecDepth 100000 in
theorem c_X5_oldest (l : Launch) (D : va_G) (cI cC cJ : ClassId) (y : Nat → Nat) (b : Nat → Nat) (hav : Int32) (Y : zY) (PA : Nat → Nat → Int32) (P : Nat) (Q : Nat) (Hn : Nat) (sd : Int32) (B : zB) (hP : P ≤ 6) (hP1 : 1 ≤ P) : zD l yX5_oldest wsX5_oldest rm_X5_oldest D (zT cI cC cJ) [.ref (y 0)] [yearsW cI cJ y (b 0) hav Y PA, bookW cI b P Q Hn sd B] (some (.int (s_X5_oldest Y P B))) [yearsW cI cJ y (b 0) hav Y PA, bookW cI b P Q Hn sd B] := by
  refine zD_int (cc := cX5_oldest) (maxL := 3) (ty := .int) (lv := [(0, .ref (y 0))]) (by decide +kernel) rfl (Nat.le_of_ble_eq_true rfl) rfl (fun Z O hret => ?_)
  refine zr_iconst (v := (nI 0)) (pc2 := 1) O dX5_oldest_0 (by decide +kernel) rfl ?_
  refine zr_istore_n (lv2 := [(1, .int (nI 0)), (0, .ref (y 0))]) (pc2 := 2) O dX5_oldest_1 rfl (by decide) rfl rfl ?_
  refine zr_iconst (v := (nI 1)) (pc2 := 3) O dX5_oldest_2 (by decide +kernel) rfl ?_
  refine zr_istore_n (lv2 := [(2, .int (nI 1)), (1, .int (nI 0)), (0, .ref (y 0))]) (pc2 := 4) O dX5_oldest_3 rfl (by decide) rfl rfl ?_
  have lp4 : ∀ (n9 : Nat) (i : Nat) (who : Int32), i + n9 = P → f_X5_oldest_4 Y P B (P - 1) 1 (nI 0) = f_X5_oldest_4 Y P B n9 i who → Z [yearsW cI cJ y (b 0) hav Y PA, bookW cI b P Q Hn sd B] [(2, .int (nI i)), (1, .int who), (0, .ref (y 0))] 4 [] := by
    intro n9
    induction n9 with
    | zero =>
      intro i who hM4 hF4
      have hI4 : P = i := by omega
      subst hI4
      have e9 : (f_X5_oldest_4 Y P B (P - 1) 1 (nI 0)) = who := hF4
      subst e9
      refine zr_iload_n (pc2 := 5) O dX5_oldest_4 rfl 0 rfl rfl ?_
      refine zr_aload_n (pc2 := 6) O dX5_oldest_5 rfl 2 rfl rfl ?_
      refine zr_getf (v := .ref (b 0)) (pc2 := 9) O sF_X5_oldest_42 0 0 rfl rfl rfl dX5_oldest_6 rfl ?_
      refine zr_getf (v := .int (nI P)) (pc2 := 12) O sF_X5_oldest_59 1 0 rfl rfl rfl dX5_oldest_9 rfl ?_
      refine zn_icmp_ge (tgt := 36) (pc2 := 15) O dX5_oldest_12 (by decide) rfl (by omega) (by omega) (fun c12 => ?_) (fun c12 => ?_)
      · refine zr_iload_n (pc2 := 37) O dX5_oldest_36 rfl 1 rfl rfl ?_
        have hE : s_X5_oldest Y P B = (f_X5_oldest_4 Y P B (P - 1) 1 (nI 0)) := by exact rfl
        exact hret _ _ _ _ dX5_oldest_37 rfl (by rw [hE]) rfl
      · exact absurd c12 (by omega)
    | succ n9 ih4 =>
      intro i who hM4 hF4
      refine zr_iload_n (pc2 := 5) O dX5_oldest_4 rfl 0 rfl rfl ?_
      refine zr_aload_n (pc2 := 6) O dX5_oldest_5 rfl 2 rfl rfl ?_
      refine zr_getf (v := .ref (b 0)) (pc2 := 9) O sF_X5_oldest_42 0 0 rfl rfl rfl dX5_oldest_6 rfl ?_
      refine zr_getf (v := .int (nI P)) (pc2 := 12) O sF_X5_oldest_59 1 0 rfl rfl rfl dX5_oldest_9 rfl ?_
      refine zn_icmp_ge (tgt := 36) (pc2 := 15) O dX5_oldest_12 (by decide) rfl (by omega) (by omega) (fun c12 => ?_) (fun c12 => ?_)
      · exact absurd c12 (by omega)
      · refine zr_aload_n (pc2 := 16) O dX5_oldest_15 rfl 2 rfl rfl ?_
        refine zr_iload_n (pc2 := 17) O dX5_oldest_16 rfl 0 rfl rfl ?_
        refine zr_callV (As := [.int (nI i)]) (rest := []) (ws2 := [yearsW cI cJ y (b 0) hav Y PA, bookW cI b P Q Hn sd B]) (pc2 := 20) (ci := 5) (g0 := 0) (q0 := 0) O (c_X5_ageReached l D cI cC cJ y b hav Y PA P Q Hn sd B (nI i) (by first | assumption | omega)) sC_X5_oldest_152 rfl rfl rfl rfl rfl dX5_oldest_17 [0, 1] rfl rfl rfl rfl (Nat.le_of_ble_eq_true rfl) rfl ?_
        show Z _ _ _ [.int (s_X5_ageReached Y P B (nI i))]
        refine zr_aload_n (pc2 := 21) O dX5_oldest_20 rfl 2 rfl rfl ?_
        refine zr_iload_n (pc2 := 22) O dX5_oldest_21 rfl 1 rfl rfl ?_
        refine zr_callV (As := [.int who]) (rest := [.int (s_X5_ageReached Y P B (nI i))]) (ws2 := [yearsW cI cJ y (b 0) hav Y PA, bookW cI b P Q Hn sd B]) (pc2 := 25) (ci := 5) (g0 := 0) (q0 := 0) O (c_X5_ageReached l D cI cC cJ y b hav Y PA P Q Hn sd B who (by first | assumption | omega)) sC_X5_oldest_152 rfl rfl rfl rfl rfl dX5_oldest_22 [0, 1] rfl rfl rfl rfl (Nat.le_of_ble_eq_true rfl) rfl ?_
        show Z _ _ _ [.int (s_X5_ageReached Y P B who), .int (s_X5_ageReached Y P B (nI i))]
        refine zr_icmp_le (tgt := 30) (pc2 := 28) O dX5_oldest_25 (by decide) rfl (fun c25 => ?_) (fun c25 => ?_)
        · refine zr_iinc (v := (nI (i + 1))) (lv2 := [(2, .int (nI (i + 1))), (1, .int who), (0, .ref (y 0))]) (pc2 := 33) O dX5_oldest_30 0 rfl (zm_ofInt1 i) (by decide) rfl rfl ?_
          refine zr_goto (tgt := 4) O dX5_oldest_33 (by decide) ?_
          have hE : f_X5_oldest_4 Y P B (n9 + 1) i who = f_X5_oldest_4 Y P B n9 (i + 1) who := by exact (if_pos c25)
          exact ih4 (i + 1) who (by omega) (hF4.trans hE)
        · refine zr_iload_n (pc2 := 29) O dX5_oldest_28 rfl 0 rfl rfl ?_
          refine zr_istore_n (lv2 := [(1, .int (nI i)), (2, .int (nI i)), (0, .ref (y 0))]) (pc2 := 30) O dX5_oldest_29 rfl (by decide) rfl rfl ?_
          refine zr_iinc (v := (nI (i + 1))) (lv2 := [(2, .int (nI (i + 1))), (1, .int (nI i)), (0, .ref (y 0))]) (pc2 := 33) O dX5_oldest_30 1 rfl (zm_ofInt1 i) (by decide) rfl rfl ?_
          refine zr_goto (tgt := 4) O dX5_oldest_33 (by decide) ?_
          have hE : f_X5_oldest_4 Y P B (n9 + 1) i who = f_X5_oldest_4 Y P B n9 (i + 1) (nI i) := by exact (if_neg c25)
          exact ih4 (i + 1) (nI i) (by omega) (hF4.trans hE)
  exact lp4 (P - 1) 1 (nI 0) (by omega) rfl
/-! X5_lastHaving -/
def f_X5_lastHaving_4 (hav : Int32) (Y : zY) : Nat → Nat → Int32 → Int32
  | 0, _, la => la
  | n9 + 1, i, la => if (s_X5_diedHaving hav i) = true then let x33 := (if la < (Y.2.2.2.2.1 i) then (Y.2.2.2.2.1 i) else la); f_X5_lastHaving_4 hav Y n9 (i + 1) x33 else f_X5_lastHaving_4 hav Y n9 (i + 1) la
def s_X5_lastHaving (hav : Int32) (Y : zY) (P : Nat) : Int32 := (f_X5_lastHaving_4 hav Y P 0 (nI 0))
set_option maxHeartbeats 4000000 in
set_option maxRecDepth 100000 in
theorem c_X5_lastHaving (l : Launch) (D : va_G) (cI cC cJ : ClassId) (y : Nat → Nat) (b : Nat → Nat) (hav : Int32) (Y : zY) (PA : Nat → Nat → Int32) (P : Nat) (Q : Nat) (Hn : Nat) (sd : Int32) (B : zB) (hP : P ≤ 6) : zD l yX5_lastHaving wsX5_lastHaving rm_X5_lastHaving D (zT cI cC cJ) [.ref (y 0)] [yearsW cI cJ y (b 0) hav Y PA, bookW cI b P Q Hn sd B] (some (.int (s_X5_lastHaving hav Y P))) [yearsW cI cJ y (b 0) hav Y PA, bookW cI b P Q Hn sd B] := by
  refine zD_int (cc := cX5_lastHaving) (maxL := 3) (ty := .int) (lv := [(0, .ref (y 0))]) (by decide +kernel) rfl (Nat.le_of_ble_eq_true rfl) rfl (fun Z O hret => ?_)
  refine zr_iconst (v := (nI 0)) (pc2 := 1) O dX5_lastHaving_0 (by decide +kernel) rfl ?_
  refine zr_istore_n (lv2 := [(1, .int (nI 0)), (0, .ref (y 0))]) (pc2 := 2) O dX5_lastHaving_1 rfl (by decide) rfl rfl ?_
  refine zr_iconst (v := (nI 0)) (pc2 := 3) O dX5_lastHaving_2 (by decide +kernel) rfl ?_
  refine zr_istore_n (lv2 := [(2, .int (nI 0)), (1, .int (nI 0)), (0, .ref (y 0))]) (pc2 := 4) O dX5_lastHaving_3 rfl (by decide) rfl rfl ?_
  have lp4 : ∀ (n9 : Nat) (i : Nat) (la : Int32), i + n9 = P → f_X5_lastHaving_4 hav Y P 0 (nI 0) = f_X5_lastHaving_4 hav Y n9 i la → Z [yearsW cI cJ y (b 0) hav Y PA, bookW cI b P Q Hn sd B] [(2, .int (nI i)), (1, .int la), (0, .ref (y 0))] 4 [] := by
    intro n9
    induction n9 with
    | zero =>
      intro i la hM4 hF4
      have hI4 : P = i := by omega
      subst hI4
      have e9 : (f_X5_lastHaving_4 hav Y P 0 (nI 0)) = la := hF4
      subst e9
      refine zr_iload_n (pc2 := 5) O dX5_lastHaving_4 rfl 0 rfl rfl ?_
      refine zr_aload_n (pc2 := 6) O dX5_lastHaving_5 rfl 2 rfl rfl ?_
      refine zr_getf (v := .ref (b 0)) (pc2 := 9) O sF_X5_lastHaving_42 0 0 rfl rfl rfl dX5_lastHaving_6 rfl ?_
      refine zr_getf (v := .int (nI P)) (pc2 := 12) O sF_X5_lastHaving_59 1 0 rfl rfl rfl dX5_lastHaving_9 rfl ?_
      refine zn_icmp_ge (tgt := 40) (pc2 := 15) O dX5_lastHaving_12 (by decide) rfl (by omega) (by omega) (fun c12 => ?_) (fun c12 => ?_)
      · refine zr_iload_n (pc2 := 41) O dX5_lastHaving_40 rfl 1 rfl rfl ?_
        have hE : s_X5_lastHaving hav Y P = (f_X5_lastHaving_4 hav Y P 0 (nI 0)) := by exact rfl
        exact hret _ _ _ _ dX5_lastHaving_41 rfl (by rw [hE]) rfl
      · exact absurd c12 (by omega)
    | succ n9 ih4 =>
      intro i la hM4 hF4
      refine zr_iload_n (pc2 := 5) O dX5_lastHaving_4 rfl 0 rfl rfl ?_
      refine zr_aload_n (pc2 := 6) O dX5_lastHaving_5 rfl 2 rfl rfl ?_
      refine zr_getf (v := .ref (b 0)) (pc2 := 9) O sF_X5_lastHaving_42 0 0 rfl rfl rfl dX5_lastHaving_6 rfl ?_
      refine zr_getf (v := .int (nI P)) (pc2 := 12) O sF_X5_lastHaving_59 1 0 rfl rfl rfl dX5_lastHaving_9 rfl ?_
      refine zn_icmp_ge (tgt := 40) (pc2 := 15) O dX5_lastHaving_12 (by decide) rfl (by omega) (by omega) (fun c12 => ?_) (fun c12 => ?_)
      · exact absurd c12 (by omega)
      · refine zr_aload_n (pc2 := 16) O dX5_lastHaving_15 rfl 2 rfl rfl ?_
        refine zr_iload_n (pc2 := 17) O dX5_lastHaving_16 rfl 0 rfl rfl ?_
        refine zr_callV (As := [.int (nI i)]) (rest := []) (ws2 := [yearsW cI cJ y (b 0) hav Y PA, bookW cI b P Q Hn sd B]) (pc2 := 20) (ci := 5) (g0 := 0) (q0 := 0) O (c_X5_diedHaving l D cI cC cJ y hav Y PA i (b 0)) sC_X5_lastHaving_149 rfl rfl rfl rfl rfl dX5_lastHaving_17 [0] rfl rfl rfl rfl (Nat.le_of_ble_eq_true rfl) rfl ?_
        show Z _ _ _ [.int (zb (s_X5_diedHaving hav i))]
        refine zb_if_eq (tgt := 34) (pc2 := 23) O dX5_lastHaving_20 (by decide) rfl (fun c20 => ?_) (fun c20 => ?_)
        · refine zr_iinc (v := (nI (i + 1))) (lv2 := [(2, .int (nI (i + 1))), (1, .int la), (0, .ref (y 0))]) (pc2 := 37) O dX5_lastHaving_34 0 rfl (zm_ofInt1 i) (by decide) rfl rfl ?_
          refine zr_goto (tgt := 4) O dX5_lastHaving_37 (by decide) ?_
          have hE : f_X5_lastHaving_4 hav Y (n9 + 1) i la = f_X5_lastHaving_4 hav Y n9 (i + 1) la := by exact (zif_f c20)
          exact ih4 (i + 1) la (by omega) (hF4.trans hE)
        · refine zr_iload_n (pc2 := 24) O dX5_lastHaving_23 rfl 1 rfl rfl ?_
          refine zr_aload_n (pc2 := 25) O dX5_lastHaving_24 rfl 2 rfl rfl ?_
          refine zr_getf (v := .ref (y 5)) (pc2 := 28) O sF_X5_lastHaving_24 0 0 rfl rfl rfl dX5_lastHaving_25 rfl ?_
          refine zr_iload_n (pc2 := 29) O dX5_lastHaving_28 rfl 0 rfl rfl ?_
          refine zn_iald (j := i) (pc2 := 30) O 0 5 0 rfl rfl rfl rfl (by omega) (by decide) dX5_lastHaving_29 rfl ?_
          refine zr_max (v := (if la < (Y.2.2.2.2.1 i) then (Y.2.2.2.2.1 i) else la)) (pc2 := 33) O sM_X5_lastHaving_158.1 sM_X5_lastHaving_158.2.1 sM_X5_lastHaving_158.2.2.1 sM_X5_lastHaving_158.2.2.2 (by decide) (Nat.le_of_ble_eq_true rfl) dX5_lastHaving_30 rfl rfl ?_
          obtain ⟨x33, hx33⟩ : ∃ z9 : Int32, z9 = (if la < (Y.2.2.2.2.1 i) then (Y.2.2.2.2.1 i) else la) := ⟨_, rfl⟩
          rw [← hx33]
          refine zr_istore_n (lv2 := [(1, .int x33), (2, .int (nI i)), (0, .ref (y 0))]) (pc2 := 34) O dX5_lastHaving_33 rfl (by decide) rfl rfl ?_
          refine zr_iinc (v := (nI (i + 1))) (lv2 := [(2, .int (nI (i + 1))), (1, .int x33), (0, .ref (y 0))]) (pc2 := 37) O dX5_lastHaving_34 1 rfl (zm_ofInt1 i) (by decide) rfl rfl ?_
          refine zr_goto (tgt := 4) O dX5_lastHaving_37 (by decide) ?_
          have hE : f_X5_lastHaving_4 hav Y (n9 + 1) i la = f_X5_lastHaving_4 hav Y n9 (i + 1) x33 := by subst hx33; exact (zif_t c20)
          exact ih4 (i + 1) x33 (by omega) (hF4.trans hE)
  exact lp4 P 0 (nI 0) (by omega) rfl
