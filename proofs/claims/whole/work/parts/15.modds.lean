theorem shl_nat {n : Nat} (h : n ≤ 10) : ((nI 1) <<< ((nI n) &&& 31)) = nI (2 ^ n) ∧ 2 ^ n ≤ 1024 ∧ 0 < 2 ^ n := by
  have : n = 0 ∨ n = 1 ∨ n = 2 ∨ n = 3 ∨ n = 4 ∨ n = 5 ∨ n = 6 ∨ n = 7 ∨ n = 8 ∨ n = 9 ∨ n = 10 := by omega
  rcases this with rfl | rfl | rfl | rfl | rfl | rfl | rfl | rfl | rfl | rfl | rfl <;> exact ⟨by decide +kernel, by decide, by decide⟩
/-! X7_odds -/
def f_X7_odds_61 (mpe : zF) (i : Int32) (t : Nat) : Nat → Nat → Int32 → Int32
  | 0, _, ga => ga
  | n9 + 1, k, ga => let x90 := (ga + (((((nI t) >>> ((nI k) &&& 31)) &&& (nI 1)) * (nI 2)) * (mpe ((5 * i.toNatClampNeg) + 1)))); f_X7_odds_61 mpe i t n9 (k + 1) x90
def f_X7_odds_47 (mpe : zF) (i : Int32) (n : Int32) (c : Int32) : Nat → Nat → Int32 → Int32
  | 0, _, up => up
  | n9 + 1, t, up => if (f_X7_odds_61 mpe i t n.toNatClampNeg 0 (nI 0)) < c then f_X7_odds_47 mpe i n c n9 (t + 1) (up + (nI 0)) else f_X7_odds_47 mpe i n c n9 (t + 1) (up + (nI 1))
def f_X7_odds_125 : Nat → Int32 → Nat → Int32 × Nat
  | 0, up, dn => (up, dn)
  | n9 + 1, up, dn => if dn ≤ 1 then (up, dn) else if (up - up / (nI 2) * (nI 2)) = 0 then f_X7_odds_125 n9 (up / (nI 2)) (dn / 2) else (up, dn)
def s_X7_odds (mP : Nat) (mpe : zF) (i : Int32) (n : Int32) (c : Int32) (pa : Int32) : Int32 := if (s_X7_in i (nI 0) ((nI mP) - (nI 1))) = true then if (s_X7_in n (nI 0) (nI 10)) = true then if (s_X7_in c (nI 0) (nI 200)) = true then if (s_X7_in pa (nI 0) (nI 1)) = true then let v128 := f_X7_odds_125 n.toNatClampNeg (f_X7_odds_47 mpe i n c (2 ^ n.toNatClampNeg) 0 (nI 0)) (2 ^ n.toNatClampNeg); if pa = 0 then v128.1 else (nI v128.2) else (-1) else (-1) else (-1) else (-1)
set_option maxHeartbeats 4000000 in
set_option maxRecDepth 100000 in
theorem c_X7_odds (l : Launch) (D : va_G) (cI cC cJ : ClassId) (m : Nat → Nat) (mle : Nat) (mpo : Nat) (mfa : Nat) (mrm : Nat) (mrw : Nat) (mP : Nat) (mQ : Nat) (mbk : Nat) (mkp : Nat) (msg : Nat) (mwm : Nat) (mrs : Int32) (msd : Int32) (mls : Int32) (mhd : Int32) (mtx : zF) (mnu : zF) (mrd : zF) (mrl : zF) (mpe : zF) (mno : zF) (mbo : zF) (mim : zF) (msi : zF) (mwi : zF) (mon : zF) (mdi : zF) (mco : zF) (mgo : zF) (mbr : zF) (mca : zF) (i : Int32) (n : Int32) (c : Int32) (pa : Int32) (hmP : mP ≤ 6) : zD l yX7_odds wsX7_odds rm_X7_odds D (zT cI cC cJ) [.ref (m 31), .int i, .int n, .int c, .int pa] [modW cI m mle mpo mfa mrm mrw mP mQ mbk mkp msg mwm mrs msd mls mhd mtx mnu mrd mrl mpe mno mbo mim msi mwi mon mdi mco mgo mbr mca] (some (.int (s_X7_odds mP mpe i n c pa))) [modW cI m mle mpo mfa mrm mrw mP mQ mbk mkp msg mwm mrs msd mls mhd mtx mnu mrd mrl mpe mno mbo mim msi mwi mon mdi mco mgo mbr mca] := by
  refine zD_int (cc := cX7_odds) (maxL := 9) (ty := .int) (lv := [(0, .ref (m 31)), (1, .int i), (2, .int n), (3, .int c), (4, .int pa)]) (by decide +kernel) rfl (Nat.le_of_ble_eq_true rfl) rfl (fun Z O hret => ?_)
  refine zr_aload_n (pc2 := 1) O dX7_odds_0 rfl 0 rfl rfl ?_
  refine zr_iload_n (pc2 := 2) O dX7_odds_1 rfl 1 rfl rfl ?_
  refine zr_callV (As := [.int i]) (rest := []) (ws2 := [modW cI m mle mpo mfa mrm mrw mP mQ mbk mkp msg mwm mrs msd mls mhd mtx mnu mrd mrl mpe mno mbo mim msi mwi mon mdi mco mgo mbr mca]) (pc2 := 5) (ci := 7) (g0 := 0) (q0 := 0) O (c_X7_isOne l D cI cC cJ m mle mpo mfa mrm mrw mP mQ mbk mkp msg mwm mrs msd mls mhd mtx mnu mrd mrl mpe mno mbo mim msi mwi mon mdi mco mgo mbr mca i) sC_X7_odds_122 rfl rfl rfl rfl rfl dX7_odds_2 [0] rfl rfl rfl rfl (Nat.le_of_ble_eq_true rfl) rfl ?_
  show Z _ _ _ [.int (zb (s_X7_in i (nI 0) ((nI mP) - (nI 1))))]
  refine zb_if_eq (tgt := 39) (pc2 := 8) O dX7_odds_5 (by decide) rfl (fun c5 => ?_) (fun c5 => ?_)
  · refine zr_iconst (v := (-1)) (pc2 := 40) O dX7_odds_39 (by decide +kernel) rfl ?_
    have hE : s_X7_odds mP mpe i n c pa = (-1) := by exact (zif_f c5)
    exact hret _ _ _ _ dX7_odds_40 rfl (by rw [hE]) rfl
  · refine zr_iload_n (pc2 := 9) O dX7_odds_8 rfl 2 rfl rfl ?_
    refine zr_iconst (v := (nI 0)) (pc2 := 10) O dX7_odds_9 (by decide +kernel) rfl ?_
    refine zr_bipush (v := (nI 10)) (pc2 := 12) O dX7_odds_10 (by decide +kernel) rfl ?_
    refine zr_callS (As := [.int n, .int (nI 0), .int (nI 10)]) (rest := []) (ws2 := [modW cI m mle mpo mfa mrm mrw mP mQ mbk mkp msg mwm mrs msd mls mhd mtx mnu mrd mrl mpe mno mbo mim msi mwi mon mdi mco mgo mbr mca]) (pc2 := 15) O (c_X7_in l D cI cC cJ n (nI 0) (nI 10)) sC_X7_odds_76 rfl rfl dX7_odds_12 [] rfl rfl rfl rfl (Nat.le_of_ble_eq_true rfl) rfl ?_
    show Z _ _ _ [.int (zb (s_X7_in n (nI 0) (nI 10)))]
    refine zb_if_eq (tgt := 39) (pc2 := 18) O dX7_odds_15 (by decide) rfl (fun c15 => ?_) (fun c15 => ?_)
    · refine zr_iconst (v := (-1)) (pc2 := 40) O dX7_odds_39 (by decide +kernel) rfl ?_
      have hE : s_X7_odds mP mpe i n c pa = (-1) := by exact ((zif_t c5).trans (zif_f c15))
      exact hret _ _ _ _ dX7_odds_40 rfl (by rw [hE]) rfl
    · refine zr_iload_n (pc2 := 19) O dX7_odds_18 rfl 3 rfl rfl ?_
      refine zr_iconst (v := (nI 0)) (pc2 := 20) O dX7_odds_19 (by decide +kernel) rfl ?_
      refine zr_sipush (v := (nI 200)) (pc2 := 23) O dX7_odds_20 (by decide +kernel) rfl ?_
      refine zr_callS (As := [.int c, .int (nI 0), .int (nI 200)]) (rest := []) (ws2 := [modW cI m mle mpo mfa mrm mrw mP mQ mbk mkp msg mwm mrs msd mls mhd mtx mnu mrd mrl mpe mno mbo mim msi mwi mon mdi mco mgo mbr mca]) (pc2 := 26) O (c_X7_in l D cI cC cJ c (nI 0) (nI 200)) sC_X7_odds_76 rfl rfl dX7_odds_23 [] rfl rfl rfl rfl (Nat.le_of_ble_eq_true rfl) rfl ?_
      show Z _ _ _ [.int (zb (s_X7_in c (nI 0) (nI 200)))]
      refine zb_if_eq (tgt := 39) (pc2 := 29) O dX7_odds_26 (by decide) rfl (fun c26 => ?_) (fun c26 => ?_)
      · refine zr_iconst (v := (-1)) (pc2 := 40) O dX7_odds_39 (by decide +kernel) rfl ?_
        have hE : s_X7_odds mP mpe i n c pa = (-1) := by exact ((zif_t c5).trans ((zif_t c15).trans (zif_f c26)))
        exact hret _ _ _ _ dX7_odds_40 rfl (by rw [hE]) rfl
      · refine zr_iload (pc2 := 31) O dX7_odds_29 4 rfl rfl ?_
        refine zr_iconst (v := (nI 0)) (pc2 := 32) O dX7_odds_31 (by decide +kernel) rfl ?_
        refine zr_iconst (v := (nI 1)) (pc2 := 33) O dX7_odds_32 (by decide +kernel) rfl ?_
        refine zr_callS (As := [.int pa, .int (nI 0), .int (nI 1)]) (rest := []) (ws2 := [modW cI m mle mpo mfa mrm mrw mP mQ mbk mkp msg mwm mrs msd mls mhd mtx mnu mrd mrl mpe mno mbo mim msi mwi mon mdi mco mgo mbr mca]) (pc2 := 36) O (c_X7_in l D cI cC cJ pa (nI 0) (nI 1)) sC_X7_odds_76 rfl rfl dX7_odds_33 [] rfl rfl rfl rfl (Nat.le_of_ble_eq_true rfl) rfl ?_
        show Z _ _ _ [.int (zb (s_X7_in pa (nI 0) (nI 1)))]
        refine zb_if_ne (tgt := 41) (pc2 := 39) O dX7_odds_36 (by decide) rfl (fun c36 => ?_) (fun c36 => ?_)
        · have hc1 := (one_in c5 hmP)
          rw [hc1.1]
          have hc2 := (in_nat c15 (by decide) (by decide))
          rw [hc2.1]
          refine zr_iconst (v := (nI 0)) (pc2 := 42) O dX7_odds_41 (by decide +kernel) rfl ?_
          refine zr_istore (lv2 := [(5, .int (nI 0)), (0, .ref (m 31)), (1, .int (nI i.toNatClampNeg)), (2, .int (nI n.toNatClampNeg)), (3, .int c), (4, .int pa)]) (pc2 := 44) O dX7_odds_42 (by decide) rfl rfl ?_
          refine zr_iconst (v := (nI 0)) (pc2 := 45) O dX7_odds_44 (by decide +kernel) rfl ?_
          refine zr_istore (lv2 := [(6, .int (nI 0)), (5, .int (nI 0)), (0, .ref (m 31)), (1, .int (nI i.toNatClampNeg)), (2, .int (nI n.toNatClampNeg)), (3, .int c), (4, .int pa)]) (pc2 := 47) O dX7_odds_45 (by decide) rfl rfl ?_
          have lp47 : ∀ (n9 : Nat) (t : Nat) (up : Int32), t + n9 = (2 ^ n.toNatClampNeg) → f_X7_odds_47 mpe i n c (2 ^ n.toNatClampNeg) 0 (nI 0) = f_X7_odds_47 mpe i n c n9 t up → Z [modW cI m mle mpo mfa mrm mrw mP mQ mbk mkp msg mwm mrs msd mls mhd mtx mnu mrd mrl mpe mno mbo mim msi mwi mon mdi mco mgo mbr mca] [(6, .int (nI t)), (5, .int up), (0, .ref (m 31)), (1, .int (nI i.toNatClampNeg)), (2, .int (nI n.toNatClampNeg)), (3, .int c), (4, .int pa)] 47 [] := by
            intro n9
            induction n9 with
            | zero =>
              intro t up hM47 hF47
              have hp9 := (shl_nat hc2.2).2.1
              have hI47 : 2 ^ n.toNatClampNeg = t := by omega
              subst hI47
              have e9 : (f_X7_odds_47 mpe i n c (2 ^ n.toNatClampNeg) 0 (nI 0)) = up := hF47
              subst e9
              refine zr_iload (pc2 := 49) O dX7_odds_47 0 rfl rfl ?_
              refine zr_iconst (v := (nI 1)) (pc2 := 50) O dX7_odds_49 (by decide +kernel) rfl ?_
              refine zr_iload_n (pc2 := 51) O dX7_odds_50 rfl 4 rfl rfl ?_
              refine zr_ishl (v := ((nI 1) <<< ((nI n.toNatClampNeg) &&& 31))) (pc2 := 52) O dX7_odds_51 rfl rfl ?_
              have hc3 := (shl_nat hc2.2)
              rw [hc3.1]
              refine zn_icmp_ge (tgt := 120) (pc2 := 55) O dX7_odds_52 (by decide) rfl (by omega) (by omega) (fun c52 => ?_) (fun c52 => ?_)
              · refine zr_iconst (v := (nI 1)) (pc2 := 121) O dX7_odds_120 (by decide +kernel) rfl ?_
                refine zr_iload_n (pc2 := 122) O dX7_odds_121 rfl 4 rfl rfl ?_
                refine zr_ishl (v := ((nI 1) <<< ((nI n.toNatClampNeg) &&& 31))) (pc2 := 123) O dX7_odds_122 rfl rfl ?_
                have hc4 := (shl_nat hc2.2)
                rw [hc4.1]
                refine zr_istore (lv2 := [(6, .int (nI (2 ^ n.toNatClampNeg))), (5, .int (f_X7_odds_47 mpe i n c (2 ^ n.toNatClampNeg) 0 (nI 0))), (0, .ref (m 31)), (1, .int (nI i.toNatClampNeg)), (2, .int (nI n.toNatClampNeg)), (3, .int c), (4, .int pa)]) (pc2 := 125) O dX7_odds_123 (by decide) rfl rfl ?_
                have K125 : ∀ (up : Int32) (dn : Nat), f_X7_odds_125 n.toNatClampNeg (f_X7_odds_47 mpe i n c (2 ^ n.toNatClampNeg) 0 (nI 0)) (2 ^ n.toNatClampNeg) = (up, dn) → Z [modW cI m mle mpo mfa mrm mrw mP mQ mbk mkp msg mwm mrs msd mls mhd mtx mnu mrd mrl mpe mno mbo mim msi mwi mon mdi mco mgo mbr mca] [(6, .int (nI dn)), (5, .int up), (0, .ref (m 31)), (1, .int (nI i.toNatClampNeg)), (2, .int (nI n.toNatClampNeg)), (3, .int c), (4, .int pa)] 153 [] := by
                  intro up dn hF125
                  obtain ⟨v128, hv128⟩ : ∃ z9, z9 = f_X7_odds_125 n.toNatClampNeg (f_X7_odds_47 mpe i n c (2 ^ n.toNatClampNeg) 0 (nI 0)) (2 ^ n.toNatClampNeg) := ⟨_, rfl⟩
                  rw [← hv128] at hF125
                  have e9 : v128.1 = up := congrArg (fun z => z.1) hF125
                  subst e9
                  have e9 : v128.2 = dn := congrArg (fun z => z.2) hF125
                  subst e9
                  refine zr_iload (pc2 := 155) O dX7_odds_153 6 rfl rfl ?_
                  refine zr_if_ne (tgt := 163) (pc2 := 158) O dX7_odds_155 (by decide) rfl (fun c155 => ?_) (fun c155 => ?_)
                  · refine zr_iload (pc2 := 165) O dX7_odds_163 0 rfl rfl ?_
                    have hE : s_X7_odds mP mpe i n c pa = (nI v128.2) := by subst hv128; exact ((zif_t c5).trans ((zif_t c15).trans ((zif_t c26).trans ((zif_t c36).trans (if_neg c155)))))
                    exact hret _ _ _ _ dX7_odds_165 rfl (by rw [hE]) rfl
                  · refine zr_iload (pc2 := 160) O dX7_odds_158 1 rfl rfl ?_
                    refine zr_goto (tgt := 165) O dX7_odds_160 (by decide) ?_
                    have hE : s_X7_odds mP mpe i n c pa = v128.1 := by subst hv128; exact ((zif_t c5).trans ((zif_t c15).trans ((zif_t c26).trans ((zif_t c36).trans (if_pos c155)))))
                    exact hret _ _ _ _ dX7_odds_165 rfl (by rw [hE]) rfl
                have lp125 : ∀ (n9 : Nat) (up : Int32) (dn : Nat), dn = 2 ^ n9 → (dn ≤ 1024) → f_X7_odds_125 n.toNatClampNeg (f_X7_odds_47 mpe i n c (2 ^ n.toNatClampNeg) 0 (nI 0)) (2 ^ n.toNatClampNeg) = f_X7_odds_125 n9 up dn → Z [modW cI m mle mpo mfa mrm mrw mP mQ mbk mkp msg mwm mrs msd mls mhd mtx mnu mrd mrl mpe mno mbo mim msi mwi mon mdi mco mgo mbr mca] [(6, .int (nI dn)), (5, .int up), (0, .ref (m 31)), (1, .int (nI i.toNatClampNeg)), (2, .int (nI n.toNatClampNeg)), (3, .int c), (4, .int pa)] 125 [] := by
                  intro n9
                  induction n9 with
                  | zero =>
                    intro up dn hM125 hd9 hF125
                    refine zr_iload (pc2 := 127) O dX7_odds_125 0 rfl rfl ?_
                    refine zr_iconst (v := (nI 1)) (pc2 := 128) O dX7_odds_127 (by decide +kernel) rfl ?_
                    refine zn_icmp_le (tgt := 153) (pc2 := 131) O dX7_odds_128 (by decide) rfl (by omega) (by omega) (fun c128 => ?_) (fun c128 => ?_)
                    · have hE : f_X7_odds_125 0 up dn = (up, dn) := by exact rfl
                      exact K125 up dn (hF125.trans hE)
                    · exact absurd c128 (by omega)
                  | succ n9 ih125 =>
                    intro up dn hM125 hd9 hF125
                    refine zr_iload (pc2 := 127) O dX7_odds_125 0 rfl rfl ?_
                    refine zr_iconst (v := (nI 1)) (pc2 := 128) O dX7_odds_127 (by decide +kernel) rfl ?_
                    refine zn_icmp_le (tgt := 153) (pc2 := 131) O dX7_odds_128 (by decide) rfl (by omega) (by omega) (fun c128 => ?_) (fun c128 => ?_)
                    · have hE : f_X7_odds_125 (n9 + 1) up dn = (up, dn) := by exact (if_pos c128)
                      exact K125 up dn (hF125.trans hE)
                    · refine zr_iload (pc2 := 133) O dX7_odds_131 1 rfl rfl ?_
                      refine zr_iconst (v := (nI 2)) (pc2 := 134) O dX7_odds_133 (by decide +kernel) rfl ?_
                      refine zr_irem (v := (up - up / (nI 2) * (nI 2))) (pc2 := 135) O dX7_odds_134 (by decide +kernel) rfl rfl ?_
                      refine zr_if_ne (tgt := 153) (pc2 := 138) O dX7_odds_135 (by decide) rfl (fun c135 => ?_) (fun c135 => ?_)
                      · have hE : f_X7_odds_125 (n9 + 1) up dn = (up, dn) := by exact ((if_neg c128).trans (if_neg c135))
                        exact K125 up dn (hF125.trans hE)
                      · refine zr_iload (pc2 := 140) O dX7_odds_138 1 rfl rfl ?_
                        refine zr_iconst (v := (nI 2)) (pc2 := 141) O dX7_odds_140 (by decide +kernel) rfl ?_
                        refine zr_idiv (v := (up / (nI 2))) (pc2 := 142) O dX7_odds_141 (by decide +kernel) rfl rfl ?_
                        refine zr_istore (lv2 := [(5, .int (up / (nI 2))), (6, .int (nI dn)), (0, .ref (m 31)), (1, .int (nI i.toNatClampNeg)), (2, .int (nI n.toNatClampNeg)), (3, .int c), (4, .int pa)]) (pc2 := 144) O dX7_odds_142 (by decide) rfl rfl ?_
                        refine zr_iload (pc2 := 146) O dX7_odds_144 1 rfl rfl ?_
                        refine zr_iconst (v := (nI 2)) (pc2 := 147) O dX7_odds_146 (by decide +kernel) rfl ?_
                        refine zr_idiv (v := (nI (dn / 2))) (pc2 := 148) O dX7_odds_147 (by decide +kernel) (pk_div (by omega) (by decide) (by decide)) rfl ?_
                        refine zr_istore (lv2 := [(6, .int (nI (dn / 2))), (5, .int (up / (nI 2))), (0, .ref (m 31)), (1, .int (nI i.toNatClampNeg)), (2, .int (nI n.toNatClampNeg)), (3, .int c), (4, .int pa)]) (pc2 := 150) O dX7_odds_148 (by decide) rfl rfl ?_
                        refine zr_goto (tgt := 125) O dX7_odds_150 (by decide) ?_
                        have hE : f_X7_odds_125 (n9 + 1) up dn = f_X7_odds_125 n9 (up / (nI 2)) (dn / 2) := by exact ((if_neg c128).trans (if_pos c135))
                        exact ih125 (up / (nI 2)) (dn / 2) (by rw [hM125, Nat.pow_succ]; omega) (by omega) (hF125.trans hE)
                exact lp125 n.toNatClampNeg (f_X7_odds_47 mpe i n c (2 ^ n.toNatClampNeg) 0 (nI 0)) (2 ^ n.toNatClampNeg) rfl (shl_nat hc2.2).2.1 rfl
              · exact absurd c52 (by omega)
            | succ n9 ih47 =>
              intro t up hM47 hF47
              have hp9 := (shl_nat hc2.2).2.1
              refine zr_iload (pc2 := 49) O dX7_odds_47 0 rfl rfl ?_
              refine zr_iconst (v := (nI 1)) (pc2 := 50) O dX7_odds_49 (by decide +kernel) rfl ?_
              refine zr_iload_n (pc2 := 51) O dX7_odds_50 rfl 4 rfl rfl ?_
              refine zr_ishl (v := ((nI 1) <<< ((nI n.toNatClampNeg) &&& 31))) (pc2 := 52) O dX7_odds_51 rfl rfl ?_
              have hc3 := (shl_nat hc2.2)
              rw [hc3.1]
              refine zn_icmp_ge (tgt := 120) (pc2 := 55) O dX7_odds_52 (by decide) rfl (by omega) (by omega) (fun c52 => ?_) (fun c52 => ?_)
              · exact absurd c52 (by omega)
              · refine zr_iconst (v := (nI 0)) (pc2 := 56) O dX7_odds_55 (by decide +kernel) rfl ?_
                refine zr_istore (lv2 := [(7, .int (nI 0)), (6, .int (nI t)), (5, .int up), (0, .ref (m 31)), (1, .int (nI i.toNatClampNeg)), (2, .int (nI n.toNatClampNeg)), (3, .int c), (4, .int pa)]) (pc2 := 58) O dX7_odds_56 (by decide) rfl rfl ?_
                refine zr_iconst (v := (nI 0)) (pc2 := 59) O dX7_odds_58 (by decide +kernel) rfl ?_
                refine zr_istore (lv2 := [(8, .int (nI 0)), (7, .int (nI 0)), (6, .int (nI t)), (5, .int up), (0, .ref (m 31)), (1, .int (nI i.toNatClampNeg)), (2, .int (nI n.toNatClampNeg)), (3, .int c), (4, .int pa)]) (pc2 := 61) O dX7_odds_59 (by decide) rfl rfl ?_
                have lp61 : ∀ (n9 : Nat) (k : Nat) (ga : Int32), k + n9 = n.toNatClampNeg → f_X7_odds_61 mpe i t n.toNatClampNeg 0 (nI 0) = f_X7_odds_61 mpe i t n9 k ga → Z [modW cI m mle mpo mfa mrm mrw mP mQ mbk mkp msg mwm mrs msd mls mhd mtx mnu mrd mrl mpe mno mbo mim msi mwi mon mdi mco mgo mbr mca] [(8, .int (nI k)), (7, .int ga), (6, .int (nI t)), (5, .int up), (0, .ref (m 31)), (1, .int (nI i.toNatClampNeg)), (2, .int (nI n.toNatClampNeg)), (3, .int c), (4, .int pa)] 61 [] := by
                  intro n9
                  induction n9 with
                  | zero =>
                    intro k ga hM61 hF61
                    have hI61 : n.toNatClampNeg = k := by omega
                    subst hI61
                    have e9 : (f_X7_odds_61 mpe i t n.toNatClampNeg 0 (nI 0)) = ga := hF61
                    subst e9
                    refine zr_iload (pc2 := 63) O dX7_odds_61 0 rfl rfl ?_
                    refine zr_iload_n (pc2 := 64) O dX7_odds_63 rfl 6 rfl rfl ?_
                    refine zn_icmp_ge (tgt := 98) (pc2 := 67) O dX7_odds_64 (by decide) rfl (by omega) (by omega) (fun c64 => ?_) (fun c64 => ?_)
                    · refine zr_iload (pc2 := 100) O dX7_odds_98 3 rfl rfl ?_
                      refine zr_iload (pc2 := 102) O dX7_odds_100 1 rfl rfl ?_
                      refine zr_iload_n (pc2 := 103) O dX7_odds_102 rfl 7 rfl rfl ?_
                      refine zr_icmp_lt (tgt := 110) (pc2 := 106) O dX7_odds_103 (by decide) rfl (fun c103 => ?_) (fun c103 => ?_)
                      · refine zr_iconst (v := (nI 0)) (pc2 := 111) O dX7_odds_110 (by decide +kernel) rfl ?_
                        refine zr_iadd (v := (up + (nI 0))) (pc2 := 112) O dX7_odds_111 rfl rfl ?_
                        refine zr_istore (lv2 := [(5, .int (up + (nI 0))), (8, .int (nI n.toNatClampNeg)), (7, .int (f_X7_odds_61 mpe i t n.toNatClampNeg 0 (nI 0))), (6, .int (nI t)), (0, .ref (m 31)), (1, .int (nI i.toNatClampNeg)), (2, .int (nI n.toNatClampNeg)), (3, .int c), (4, .int pa)]) (pc2 := 114) O dX7_odds_112 (by decide) rfl rfl ?_
                        refine zr_iinc (v := (nI (t + 1))) (lv2 := [(6, .int (nI (t + 1))), (5, .int (up + (nI 0))), (8, .int (nI n.toNatClampNeg)), (7, .int (f_X7_odds_61 mpe i t n.toNatClampNeg 0 (nI 0))), (0, .ref (m 31)), (1, .int (nI i.toNatClampNeg)), (2, .int (nI n.toNatClampNeg)), (3, .int c), (4, .int pa)]) (pc2 := 117) O dX7_odds_114 3 rfl (zm_ofInt1 t) (by decide) rfl rfl ?_
                        refine zr_goto (tgt := 47) O dX7_odds_117 (by decide) ?_
                        refine zr_sub (lv2 := [(6, .int (nI (t + 1))), (5, .int (up + (nI 0))), (0, .ref (m 31)), (1, .int (nI i.toNatClampNeg)), (2, .int (nI n.toNatClampNeg)), (3, .int c), (4, .int pa)]) O [0, 1, 4, 5, 6, 7, 8] rfl ?_
                        have hE : f_X7_odds_47 mpe i n c (n9 + 1) t up = f_X7_odds_47 mpe i n c n9 (t + 1) (up + (nI 0)) := by exact (if_pos c103)
                        exact ih47 (t + 1) (up + (nI 0)) (by omega) (hF47.trans hE)
                      · refine zr_iconst (v := (nI 1)) (pc2 := 107) O dX7_odds_106 (by decide +kernel) rfl ?_
                        refine zr_goto (tgt := 111) O dX7_odds_107 (by decide) ?_
                        refine zr_iadd (v := (up + (nI 1))) (pc2 := 112) O dX7_odds_111 rfl rfl ?_
                        refine zr_istore (lv2 := [(5, .int (up + (nI 1))), (8, .int (nI n.toNatClampNeg)), (7, .int (f_X7_odds_61 mpe i t n.toNatClampNeg 0 (nI 0))), (6, .int (nI t)), (0, .ref (m 31)), (1, .int (nI i.toNatClampNeg)), (2, .int (nI n.toNatClampNeg)), (3, .int c), (4, .int pa)]) (pc2 := 114) O dX7_odds_112 (by decide) rfl rfl ?_
                        refine zr_iinc (v := (nI (t + 1))) (lv2 := [(6, .int (nI (t + 1))), (5, .int (up + (nI 1))), (8, .int (nI n.toNatClampNeg)), (7, .int (f_X7_odds_61 mpe i t n.toNatClampNeg 0 (nI 0))), (0, .ref (m 31)), (1, .int (nI i.toNatClampNeg)), (2, .int (nI n.toNatClampNeg)), (3, .int c), (4, .int pa)]) (pc2 := 117) O dX7_odds_114 3 rfl (zm_ofInt1 t) (by decide) rfl rfl ?_
                        refine zr_goto (tgt := 47) O dX7_odds_117 (by decide) ?_
                        refine zr_sub (lv2 := [(6, .int (nI (t + 1))), (5, .int (up + (nI 1))), (0, .ref (m 31)), (1, .int (nI i.toNatClampNeg)), (2, .int (nI n.toNatClampNeg)), (3, .int c), (4, .int pa)]) O [0, 1, 4, 5, 6, 7, 8] rfl ?_
                        have hE : f_X7_odds_47 mpe i n c (n9 + 1) t up = f_X7_odds_47 mpe i n c n9 (t + 1) (up + (nI 1)) := by exact (if_neg c103)
                        exact ih47 (t + 1) (up + (nI 1)) (by omega) (hF47.trans hE)
                    · exact absurd c64 (by omega)
                  | succ n9 ih61 =>
                    intro k ga hM61 hF61
                    refine zr_iload (pc2 := 63) O dX7_odds_61 0 rfl rfl ?_
                    refine zr_iload_n (pc2 := 64) O dX7_odds_63 rfl 6 rfl rfl ?_
                    refine zn_icmp_ge (tgt := 98) (pc2 := 67) O dX7_odds_64 (by decide) rfl (by omega) (by omega) (fun c64 => ?_) (fun c64 => ?_)
                    · exact absurd c64 (by omega)
                    · refine zr_iload (pc2 := 69) O dX7_odds_67 1 rfl rfl ?_
                      refine zr_iload (pc2 := 71) O dX7_odds_69 2 rfl rfl ?_
                      refine zr_iload (pc2 := 73) O dX7_odds_71 0 rfl rfl ?_
                      refine zr_ishr (v := ((nI t) >>> ((nI k) &&& 31))) (pc2 := 74) O dX7_odds_73 rfl rfl ?_
                      refine zr_iconst (v := (nI 1)) (pc2 := 75) O dX7_odds_74 (by decide +kernel) rfl ?_
                      refine zr_iand (v := (((nI t) >>> ((nI k) &&& 31)) &&& (nI 1))) (pc2 := 76) O dX7_odds_75 rfl rfl ?_
                      refine zr_iconst (v := (nI 2)) (pc2 := 77) O dX7_odds_76 (by decide +kernel) rfl ?_
                      refine zr_imul (v := ((((nI t) >>> ((nI k) &&& 31)) &&& (nI 1)) * (nI 2))) (pc2 := 78) O dX7_odds_77 rfl rfl ?_
                      refine zr_aload_n (pc2 := 79) O dX7_odds_78 rfl 4 rfl rfl ?_
                      refine zr_getf (v := .ref (m 11)) (pc2 := 82) O sF_X7_odds_26 0 0 rfl rfl rfl dX7_odds_79 rfl ?_
                      refine zr_iconst (v := (nI 5)) (pc2 := 83) O dX7_odds_82 (by decide +kernel) rfl ?_
                      refine zr_iload_n (pc2 := 84) O dX7_odds_83 rfl 5 rfl rfl ?_
                      refine zr_imul (v := (nI (5 * i.toNatClampNeg))) (pc2 := 85) O dX7_odds_84 (pk_mul 5 i.toNatClampNeg) rfl ?_
                      refine zr_iconst (v := (nI 1)) (pc2 := 86) O dX7_odds_85 (by decide +kernel) rfl ?_
                      refine zr_iadd (v := (nI ((5 * i.toNatClampNeg) + 1))) (pc2 := 87) O dX7_odds_86 (nI_add (5 * i.toNatClampNeg) 1) rfl ?_
                      refine zn_iald (j := ((5 * i.toNatClampNeg) + 1)) (pc2 := 88) O 0 5 0 rfl rfl rfl rfl (by omega) (by decide) dX7_odds_87 rfl ?_
                      refine zr_imul (v := (((((nI t) >>> ((nI k) &&& 31)) &&& (nI 1)) * (nI 2)) * (mpe ((5 * i.toNatClampNeg) + 1)))) (pc2 := 89) O dX7_odds_88 rfl rfl ?_
                      refine zr_iadd (v := (ga + (((((nI t) >>> ((nI k) &&& 31)) &&& (nI 1)) * (nI 2)) * (mpe ((5 * i.toNatClampNeg) + 1))))) (pc2 := 90) O dX7_odds_89 rfl rfl ?_
                      obtain ⟨x90, hx90⟩ : ∃ z9 : Int32, z9 = (ga + (((((nI t) >>> ((nI k) &&& 31)) &&& (nI 1)) * (nI 2)) * (mpe ((5 * i.toNatClampNeg) + 1)))) := ⟨_, rfl⟩
                      rw [← hx90]
                      refine zr_istore (lv2 := [(7, .int x90), (8, .int (nI k)), (6, .int (nI t)), (5, .int up), (0, .ref (m 31)), (1, .int (nI i.toNatClampNeg)), (2, .int (nI n.toNatClampNeg)), (3, .int c), (4, .int pa)]) (pc2 := 92) O dX7_odds_90 (by decide) rfl rfl ?_
                      refine zr_iinc (v := (nI (k + 1))) (lv2 := [(8, .int (nI (k + 1))), (7, .int x90), (6, .int (nI t)), (5, .int up), (0, .ref (m 31)), (1, .int (nI i.toNatClampNeg)), (2, .int (nI n.toNatClampNeg)), (3, .int c), (4, .int pa)]) (pc2 := 95) O dX7_odds_92 1 rfl (zm_ofInt1 k) (by decide) rfl rfl ?_
                      refine zr_goto (tgt := 61) O dX7_odds_95 (by decide) ?_
                      have hE : f_X7_odds_61 mpe i t (n9 + 1) k ga = f_X7_odds_61 mpe i t n9 (k + 1) x90 := by subst hx90; exact rfl
                      exact ih61 (k + 1) x90 (by omega) (hF61.trans hE)
                exact lp61 n.toNatClampNeg 0 (nI 0) (by omega) rfl
          exact lp47 (2 ^ n.toNatClampNeg) 0 (nI 0) (by omega) rfl
        · refine zr_iconst (v := (-1)) (pc2 := 40) O dX7_odds_39 (by decide +kernel) rfl ?_
          have hE : s_X7_odds mP mpe i n c pa = (-1) := by exact ((zif_t c5).trans ((zif_t c15).trans ((zif_t c26).trans (zif_f c36))))
          exact hret _ _ _ _ dX7_odds_40 rfl (by rw [hE]) rfl
