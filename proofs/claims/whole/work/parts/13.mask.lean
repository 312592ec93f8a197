theorem prep_to {mQ n9 : Nat} {mno mwi : zF} (hn : n9 = 3 * mQ) (hto2 : ∀ k, k < mQ → mno ((3 * k) + 1) = nI (mno ((3 * k) + 1)).toNatClampNeg ∧ (mno ((3 * k) + 1)).toNatClampNeg < 6) : ∀ k, k < mQ → ¬ f_X7_prepare_10 mno n9 0 mwi ((3 * k) + 1) < 0 → f_X7_prepare_10 mno n9 0 mwi ((3 * k) + 1) = nI (f_X7_prepare_10 mno n9 0 mwi ((3 * k) + 1)).toNatClampNeg ∧ (f_X7_prepare_10 mno n9 0 mwi ((3 * k) + 1)).toNatClampNeg < 6 := by
  intro k hk _
  rw [prep10_at, if_pos (by omega)]
  exact hto2 k hk
/-! X7_runPlain -/
def s_X7_runPlain (mP : Nat) (mQ : Nat) (msd : Int32) (mpe : zF) (mno : zF) (mwi : zF) (mon : zF) (mdi : zF) (mco : zF) (mgo : zF) (mbr : zF) (mca : zF) (mH : Nat) : Nat × Int32 × Int32 × zF × zF × zF × zF × zF × zF × zF := let u1 := s_X7_prepare mP mQ msd mpe mno mwi mon; let u5 := s_X7_run mP u1.1 u1.2.1 mno u1.2.2.1 u1.2.2.2 mdi mco mgo mbr mca mH; (u1.1, u1.2.1, u5.1, u1.2.2.1, u1.2.2.2, u5.2.1, u5.2.2.1, u5.2.2.2.1, u5.2.2.2.2.1, u5.2.2.2.2.2)
set_option maxHeartbeats 4000000 in
set_option maxRecDepth 100000 in
theorem c_X7_runPlain (l : Launch) (D : va_G) (cI cC cJ : ClassId) (m : Nat → Nat) (mle : Nat) (mpo : Nat) (mfa : Nat) (mrm : Nat) (mrw : Nat) (mP : Nat) (mQ : Nat) (mbk : Nat) (mkp : Nat) (msg : Nat) (mwm : Nat) (mrs : Int32) (msd : Int32) (mls : Int32) (mhd : Int32) (mtx : zF) (mnu : zF) (mrd : zF) (mrl : zF) (mpe : zF) (mno : zF) (mbo : zF) (mim : zF) (msi : zF) (mwi : zF) (mon : zF) (mdi : zF) (mco : zF) (mgo : zF) (mbr : zF) (mca : zF) (mH : Nat) (hmP : mP ≤ 6) (hmQ : mQ ≤ 9) (hto2 : ∀ k, k < mQ → mno ((3 * k) + 1) = nI (mno ((3 * k) + 1)).toNatClampNeg ∧ (mno ((3 * k) + 1)).toNatClampNeg < 6) (hmH : mH ≤ 4) (hH : mno 27 = nI mH) (hhi : ∀ h, h < mH → mno (28 + (3 * h)) = nI (mno (28 + (3 * h))).toNatClampNeg ∧ (mno (28 + (3 * h))).toNatClampNeg < 6) : zD l yX7_runPlain wsX7_runPlain rm_X7_runPlain D (zT cI cC cJ) [.ref (m 31)] [modW cI m mle mpo mfa mrm mrw mP mQ mbk mkp msg mwm mrs msd mls mhd mtx mnu mrd mrl mpe mno mbo mim msi mwi mon mdi mco mgo mbr mca] none [modW cI m mle mpo mfa mrm mrw mP mQ mbk mkp msg ((s_X7_runPlain mP mQ msd mpe mno mwi mon mdi mco mgo mbr mca mH).1) mrs msd ((s_X7_runPlain mP mQ msd mpe mno mwi mon mdi mco mgo mbr mca mH).2.1) ((s_X7_runPlain mP mQ msd mpe mno mwi mon mdi mco mgo mbr mca mH).2.2.1) mtx mnu mrd mrl mpe mno mbo mim msi ((s_X7_runPlain mP mQ msd mpe mno mwi mon mdi mco mgo mbr mca mH).2.2.2.1) ((s_X7_runPlain mP mQ msd mpe mno mwi mon mdi mco mgo mbr mca mH).2.2.2.2.1) ((s_X7_runPlain mP mQ msd mpe mno mwi mon mdi mco mgo mbr mca mH).2.2.2.2.2.1) ((s_X7_runPlain mP mQ msd mpe mno mwi mon mdi mco mgo mbr mca mH).2.2.2.2.2.2.1) ((s_X7_runPlain mP mQ msd mpe mno mwi mon mdi mco mgo mbr mca mH).2.2.2.2.2.2.2.1) ((s_X7_runPlain mP mQ msd mpe mno mwi mon mdi mco mgo mbr mca mH).2.2.2.2.2.2.2.2.1) ((s_X7_runPlain mP mQ msd mpe mno mwi mon mdi mco mgo mbr mca mH).2.2.2.2.2.2.2.2.2)] := by
  refine zD_void (cc := cX7_runPlain) (maxL := 1) (lv := [(0, .ref (m 31))]) (by decide +kernel) rfl (Nat.le_of_ble_eq_true rfl) rfl (fun Z O hret => ?_)
  refine zr_aload_n (pc2 := 1) O dX7_runPlain_0 rfl 0 rfl rfl ?_
  obtain ⟨u1, hu1⟩ : ∃ z9, z9 = s_X7_prepare mP mQ msd mpe mno mwi mon := ⟨_, rfl⟩
  refine zr_callV (As := []) (rest := []) (ws2 := [modW cI m mle mpo mfa mrm mrw mP mQ mbk mkp msg u1.1 mrs msd u1.2.1 mhd mtx mnu mrd mrl mpe mno mbo mim msi u1.2.2.1 u1.2.2.2 mdi mco mgo mbr mca]) (pc2 := 4) (ci := 7) (g0 := 0) (q0 := 0) (v := none) (W := [modW cI m mle mpo mfa mrm mrw mP mQ mbk mkp msg mwm mrs msd mls mhd mtx mnu mrd mrl mpe mno mbo mim msi mwi mon mdi mco mgo mbr mca]) (W2 := [modW cI m mle mpo mfa mrm mrw mP mQ mbk mkp msg u1.1 mrs msd u1.2.1 mhd mtx mnu mrd mrl mpe mno mbo mim msi u1.2.2.1 u1.2.2.2 mdi mco mgo mbr mca]) O (by rw [hu1]; exact (c_X7_prepare l D cI cC cJ m mle mpo mfa mrm mrw mP mQ mbk mkp msg mwm mrs msd mls mhd mtx mnu mrd mrl mpe mno mbo mim msi mwi mon mdi mco mgo mbr mca (by first | assumption | omega) (by first | assumption | omega))) sC_X7_runPlain_177 rfl rfl rfl rfl rfl dX7_runPlain_1 [0] rfl rfl rfl rfl (Nat.le_of_ble_eq_true rfl) rfl ?_
  show Z _ _ _ []
  refine zr_aload_n (pc2 := 5) O dX7_runPlain_4 rfl 0 rfl rfl ?_
  obtain ⟨u5, hu5⟩ : ∃ z9, z9 = s_X7_run mP u1.1 u1.2.1 mno u1.2.2.1 u1.2.2.2 mdi mco mgo mbr mca mH := ⟨_, rfl⟩
  refine zr_callV (As := []) (rest := []) (ws2 := [modW cI m mle mpo mfa mrm mrw mP mQ mbk mkp msg u1.1 mrs msd u1.2.1 u5.1 mtx mnu mrd mrl mpe mno mbo mim msi u1.2.2.1 u1.2.2.2 u5.2.1 u5.2.2.1 u5.2.2.2.1 u5.2.2.2.2.1 u5.2.2.2.2.2]) (pc2 := 8) (ci := 7) (g0 := 0) (q0 := 0) (v := none) (W := [modW cI m mle mpo mfa mrm mrw mP mQ mbk mkp msg u1.1 mrs msd u1.2.1 mhd mtx mnu mrd mrl mpe mno mbo mim msi u1.2.2.1 u1.2.2.2 mdi mco mgo mbr mca]) (W2 := [modW cI m mle mpo mfa mrm mrw mP mQ mbk mkp msg u1.1 mrs msd u1.2.1 u5.1 mtx mnu mrd mrl mpe mno mbo mim msi u1.2.2.1 u1.2.2.2 u5.2.1 u5.2.2.1 u5.2.2.2.1 u5.2.2.2.2.1 u5.2.2.2.2.2]) O (by rw [hu5]; exact (c_X7_run l D cI cC cJ m mle mpo mfa mrm mrw mP mQ mbk mkp msg u1.1 mrs msd u1.2.1 mhd mtx mnu mrd mrl mpe mno mbo mim msi u1.2.2.1 u1.2.2.2 mdi mco mgo mbr mca mH hmP (by subst hu1; show mQ ≤ 10; omega) (by subst hu1; exact prep_to rfl hto2) hmH hH hhi)) sC_X7_runPlain_180 rfl rfl rfl rfl rfl dX7_runPlain_5 [0] rfl rfl rfl rfl (Nat.le_of_ble_eq_true rfl) rfl ?_
  show Z _ _ _ []
  have hE : s_X7_runPlain mP mQ msd mpe mno mwi mon mdi mco mgo mbr mca mH = (u1.1, u1.2.1, u5.1, u1.2.2.1, u1.2.2.2, u5.2.1, u5.2.2.1, u5.2.2.2.1, u5.2.2.2.2.1, u5.2.2.2.2.2) := by subst hu5; subst hu1; exact rfl
  exact hret _ _ _ dX7_runPlain_8 (by rw [hE])
/-! X7_dies -/
def s_X7_dies (mP : Nat) (mQ : Nat) (mwm : Nat) (msd : Int32) (mls : Int32) (mhd : Int32) (mpe : zF) (mno : zF) (mwi : zF) (mon : zF) (mdi : zF) (mco : zF) (mgo : zF) (mbr : zF) (mca : zF) (i : Int32) (mH : Nat) : Int32 × Nat × Int32 × Int32 × zF × zF × zF × zF × zF × zF × zF := if (s_X7_in i (nI 0) ((nI mP) - (nI 1))) = true then let u11 := s_X7_runPlain mP mQ msd mpe mno mwi mon mdi mco mgo mbr mca mH; if 0 ≤ (u11.2.2.2.2.2.1 i.toNatClampNeg) then ((u11.2.2.2.2.2.1 i.toNatClampNeg), u11.1, u11.2.1, u11.2.2.1, u11.2.2.2.1, u11.2.2.2.2.1, u11.2.2.2.2.2.1, u11.2.2.2.2.2.2.1, u11.2.2.2.2.2.2.2.1, u11.2.2.2.2.2.2.2.2.1, u11.2.2.2.2.2.2.2.2.2) else ((-4), u11.1, u11.2.1, u11.2.2.1, u11.2.2.2.1, u11.2.2.2.2.1, u11.2.2.2.2.2.1, u11.2.2.2.2.2.2.1, u11.2.2.2.2.2.2.2.1, u11.2.2.2.2.2.2.2.2.1, u11.2.2.2.2.2.2.2.2.2) else ((-1), mwm, mls, mhd, mwi, mon, mdi, mco, mgo, mbr, mca)
set_option maxHeartbeats 4000000 in
set_option maxRecDepth 100000 in
theorem c_X7_dies (l : Launch) (D : va_G) (cI cC cJ : ClassId) (m : Nat → Nat) (mle : Nat) (mpo : Nat) (mfa : Nat) (mrm : Nat) (mrw : Nat) (mP : Nat) (mQ : Nat) (mbk : Nat) (mkp : Nat) (msg : Nat) (mwm : Nat) (mrs : Int32) (msd : Int32) (mls : Int32) (mhd : Int32) (mtx : zF) (mnu : zF) (mrd : zF) (mrl : zF) (mpe : zF) (mno : zF) (mbo : zF) (mim : zF) (msi : zF) (mwi : zF) (mon : zF) (mdi : zF) (mco : zF) (mgo : zF) (mbr : zF) (mca : zF) (i : Int32) (mH : Nat) (hmP : mP ≤ 6) (hmQ : mQ ≤ 9) (hto2 : ∀ k, k < mQ → mno ((3 * k) + 1) = nI (mno ((3 * k) + 1)).toNatClampNeg ∧ (mno ((3 * k) + 1)).toNatClampNeg < 6) (hmH : mH ≤ 4) (hH : mno 27 = nI mH) (hhi : ∀ h, h < mH → mno (28 + (3 * h)) = nI (mno (28 + (3 * h))).toNatClampNeg ∧ (mno (28 + (3 * h))).toNatClampNeg < 6) : zD l yX7_dies wsX7_dies rm_X7_dies D (zT cI cC cJ) [.ref (m 31), .int i] [modW cI m mle mpo mfa mrm mrw mP mQ mbk mkp msg mwm mrs msd mls mhd mtx mnu mrd mrl mpe mno mbo mim msi mwi mon mdi mco mgo mbr mca] (some (.int ((s_X7_dies mP mQ mwm msd mls mhd mpe mno mwi mon mdi mco mgo mbr mca i mH).1))) [modW cI m mle mpo mfa mrm mrw mP mQ mbk mkp msg ((s_X7_dies mP mQ mwm msd mls mhd mpe mno mwi mon mdi mco mgo mbr mca i mH).2.1) mrs msd ((s_X7_dies mP mQ mwm msd mls mhd mpe mno mwi mon mdi mco mgo mbr mca i mH).2.2.1) ((s_X7_dies mP mQ mwm msd mls mhd mpe mno mwi mon mdi mco mgo mbr mca i mH).2.2.2.1) mtx mnu mrd mrl mpe mno mbo mim msi ((s_X7_dies mP mQ mwm msd mls mhd mpe mno mwi mon mdi mco mgo mbr mca i mH).2.2.2.2.1) ((s_X7_dies mP mQ mwm msd mls mhd mpe mno mwi mon mdi mco mgo mbr mca i mH).2.2.2.2.2.1) ((s_X7_dies mP mQ mwm msd mls mhd mpe mno mwi mon mdi mco mgo mbr mca i mH).2.2.2.2.2.2.1) ((s_X7_dies mP mQ mwm msd mls mhd mpe mno mwi mon mdi mco mgo mbr mca i mH).2.2.2.2.2.2.2.1) ((s_X7_dies mP mQ mwm msd mls mhd mpe mno mwi mon mdi mco mgo mbr mca i mH).2.2.2.2.2.2.2.2.1) ((s_X7_dies mP mQ mwm msd mls mhd mpe mno mwi mon mdi mco mgo mbr mca i mH).2.2.2.2.2.2.2.2.2.1) ((s_X7_dies mP mQ mwm msd mls mhd mpe mno mwi mon mdi mco mgo mbr mca i mH).2.2.2.2.2.2.2.2.2.2)] := by
  refine zD_int (cc := cX7_dies) (maxL := 2) (ty := .int) (lv := [(0, .ref (m 31)), (1, .int i)]) (by decide +kernel) rfl (Nat.le_of_ble_eq_true rfl) rfl (fun Z O hret => ?_)
  refine zr_aload_n (pc2 := 1) O dX7_dies_0 rfl 0 rfl rfl ?_
  refine zr_iload_n (pc2 := 2) O dX7_dies_1 rfl 1 rfl rfl ?_
  refine zr_callV (As := [.int i]) (rest := []) (ws2 := [modW cI m mle mpo mfa mrm mrw mP mQ mbk mkp msg mwm mrs msd mls mhd mtx mnu mrd mrl mpe mno mbo mim msi mwi mon mdi mco mgo mbr mca]) (pc2 := 5) (ci := 7) (g0 := 0) (q0 := 0) O (c_X7_isOne l D cI cC cJ m mle mpo mfa mrm mrw mP mQ mbk mkp msg mwm mrs msd mls mhd mtx mnu mrd mrl mpe mno mbo mim msi mwi mon mdi mco mgo mbr mca i) sC_X7_dies_122 rfl rfl rfl rfl rfl dX7_dies_2 [0] rfl rfl rfl rfl (Nat.le_of_ble_eq_true rfl) rfl ?_
  show Z _ _ _ [.int (zb (s_X7_in i (nI 0) ((nI mP) - (nI 1))))]
  refine zb_if_ne (tgt := 10) (pc2 := 8) O dX7_dies_5 (by decide) rfl (fun c5 => ?_) (fun c5 => ?_)
  · have hc1 := (one_in c5 hmP)
    rw [hc1.1]
    refine zr_aload_n (pc2 := 11) O dX7_dies_10 rfl 0 rfl rfl ?_
    obtain ⟨u11, hu11⟩ : ∃ z9, z9 = s_X7_runPlain mP mQ msd mpe mno mwi mon mdi mco mgo mbr mca mH := ⟨_, rfl⟩
    refine zr_callV (As := []) (rest := []) (ws2 := [modW cI m mle mpo mfa mrm mrw mP mQ mbk mkp msg u11.1 mrs msd u11.2.1 u11.2.2.1 mtx mnu mrd mrl mpe mno mbo mim msi u11.2.2.2.1 u11.2.2.2.2.1 u11.2.2.2.2.2.1 u11.2.2.2.2.2.2.1 u11.2.2.2.2.2.2.2.1 u11.2.2.2.2.2.2.2.2.1 u11.2.2.2.2.2.2.2.2.2]) (pc2 := 14) (ci := 7) (g0 := 0) (q0 := 0) (v := none) (W := [modW cI m mle mpo mfa mrm mrw mP mQ mbk mkp msg mwm mrs msd mls mhd mtx mnu mrd mrl mpe mno mbo mim msi mwi mon mdi mco mgo mbr mca]) (W2 := [modW cI m mle mpo mfa mrm mrw mP mQ mbk mkp msg u11.1 mrs msd u11.2.1 u11.2.2.1 mtx mnu mrd mrl mpe mno mbo mim msi u11.2.2.2.1 u11.2.2.2.2.1 u11.2.2.2.2.2.1 u11.2.2.2.2.2.2.1 u11.2.2.2.2.2.2.2.1 u11.2.2.2.2.2.2.2.2.1 u11.2.2.2.2.2.2.2.2.2]) O (by rw [hu11]; exact (c_X7_runPlain l D cI cC cJ m mle mpo mfa mrm mrw mP mQ mbk mkp msg mwm mrs msd mls mhd mtx mnu mrd mrl mpe mno mbo mim msi mwi mon mdi mco mgo mbr mca mH (by first | assumption | omega) (by first | assumption | omega) (by first | assumption | omega) (by first | assumption | omega) (by first | assumption | omega) (by first | assumption | omega))) sC_X7_dies_183 rfl rfl rfl rfl rfl dX7_dies_11 [0] rfl rfl rfl rfl (Nat.le_of_ble_eq_true rfl) rfl ?_
    show Z _ _ _ []
    refine zr_aload_n (pc2 := 15) O dX7_dies_14 rfl 0 rfl rfl ?_
    refine zr_getf (v := .ref (m 25)) (pc2 := 18) O sF_X7_dies_53 0 0 rfl rfl rfl dX7_dies_15 rfl ?_
    refine zr_iload_n (pc2 := 19) O dX7_dies_18 rfl 1 rfl rfl ?_
    refine zn_iald (j := i.toNatClampNeg) (pc2 := 20) O 0 12 0 rfl rfl rfl rfl (by omega) (by decide) dX7_dies_19 rfl ?_
    refine zr_if_ge (tgt := 28) (pc2 := 23) O dX7_dies_20 (by decide) rfl (fun c20 => ?_) (fun c20 => ?_)
    · refine zr_aload_n (pc2 := 29) O dX7_dies_28 rfl 0 rfl rfl ?_
      refine zr_getf (v := .ref (m 25)) (pc2 := 32) O sF_X7_dies_53 0 0 rfl rfl rfl dX7_dies_29 rfl ?_
      refine zr_iload_n (pc2 := 33) O dX7_dies_32 rfl 1 rfl rfl ?_
      refine zn_iald (j := i.toNatClampNeg) (pc2 := 34) O 0 12 0 rfl rfl rfl rfl (by omega) (by decide) dX7_dies_33 rfl ?_
      have hE : s_X7_dies mP mQ mwm msd mls mhd mpe mno mwi mon mdi mco mgo mbr mca i mH = ((u11.2.2.2.2.2.1 i.toNatClampNeg), u11.1, u11.2.1, u11.2.2.1, u11.2.2.2.1, u11.2.2.2.2.1, u11.2.2.2.2.2.1, u11.2.2.2.2.2.2.1, u11.2.2.2.2.2.2.2.1, u11.2.2.2.2.2.2.2.2.1, u11.2.2.2.2.2.2.2.2.2) := by subst hu11; exact ((zif_t c5).trans (if_pos c20))
      exact hret _ _ _ _ dX7_dies_34 rfl (by rw [hE]) (by rw [hE])
    · refine zr_bipush (v := (-4)) (pc2 := 25) O dX7_dies_23 (by decide +kernel) rfl ?_
      refine zr_goto (tgt := 34) O dX7_dies_25 (by decide) ?_
      have hE : s_X7_dies mP mQ mwm msd mls mhd mpe mno mwi mon mdi mco mgo mbr mca i mH = ((-4), u11.1, u11.2.1, u11.2.2.1, u11.2.2.2.1, u11.2.2.2.2.1, u11.2.2.2.2.2.1, u11.2.2.2.2.2.2.1, u11.2.2.2.2.2.2.2.1, u11.2.2.2.2.2.2.2.2.1, u11.2.2.2.2.2.2.2.2.2) := by subst hu11; exact ((zif_t c5).trans (if_neg c20))
      exact hret _ _ _ _ dX7_dies_34 rfl (by rw [hE]) (by rw [hE])
  · refine zr_iconst (v := (-1)) (pc2 := 9) O dX7_dies_8 (by decide +kernel) rfl ?_
    have hE : s_X7_dies mP mQ mwm msd mls mhd mpe mno mwi mon mdi mco mgo mbr mca i mH = ((-1), mwm, mls, mhd, mwi, mon, mdi, mco, mgo, mbr, mca) := by exact (zif_f c5)
    exact hret _ _ _ _ dX7_dies_9 rfl (by rw [hE]) (by rw [hE])
/-! X7_having -/
def s_X7_having (mP : Nat) (mQ : Nat) (msd : Int32) (mpe : zF) (mno : zF) (mwi : zF) (mon : zF) (mdi : zF) (mco : zF) (mgo : zF) (mbr : zF) (mca : zF) (mH : Nat) : Int32 × Nat × Int32 × Int32 × zF × zF × zF × zF × zF × zF × zF := let u1 := s_X7_runPlain mP mQ msd mpe mno mwi mon mdi mco mgo mbr mca mH; (u1.2.2.1, u1.1, u1.2.1, u1.2.2.1, u1.2.2.2.1, u1.2.2.2.2.1, u1.2.2.2.2.2.1, u1.2.2.2.2.2.2.1, u1.2.2.2.2.2.2.2.1, u1.2.2.2.2.2.2.2.2.1, u1.2.2.2.2.2.2.2.2.2)
set_option maxHeartbeats 4000000 in
set_option maxRecDepth 100000 in
theorem c_X7_having (l : Launch) (D : va_G) (cI cC cJ : ClassId) (m : Nat → Nat) (mle : Nat) (mpo : Nat) (mfa : Nat) (mrm : Nat) (mrw : Nat) (mP : Nat) (mQ : Nat) (mbk : Nat) (mkp : Nat) (msg : Nat) (mwm : Nat) (mrs : Int32) (msd : Int32) (mls : Int32) (mhd : Int32) (mtx : zF) (mnu : zF) (mrd : zF) (mrl : zF) (mpe : zF) (mno : zF) (mbo : zF) (mim : zF) (msi : zF) (mwi : zF) (mon : zF) (mdi : zF) (mco : zF) (mgo : zF) (mbr : zF) (mca : zF) (mH : Nat) (hmP : mP ≤ 6) (hmQ : mQ ≤ 9) (hto2 : ∀ k, k < mQ → mno ((3 * k) + 1) = nI (mno ((3 * k) + 1)).toNatClampNeg ∧ (mno ((3 * k) + 1)).toNatClampNeg < 6) (hmH : mH ≤ 4) (hH : mno 27 = nI mH) (hhi : ∀ h, h < mH → mno (28 + (3 * h)) = nI (mno (28 + (3 * h))).toNatClampNeg ∧ (mno (28 + (3 * h))).toNatClampNeg < 6) : zD l yX7_having wsX7_having rm_X7_having D (zT cI cC cJ) [.ref (m 31)] [modW cI m mle mpo mfa mrm mrw mP mQ mbk mkp msg mwm mrs msd mls mhd mtx mnu mrd mrl mpe mno mbo mim msi mwi mon mdi mco mgo mbr mca] (some (.int ((s_X7_having mP mQ msd mpe mno mwi mon mdi mco mgo mbr mca mH).1))) [modW cI m mle mpo mfa mrm mrw mP mQ mbk mkp msg ((s_X7_having mP mQ msd mpe mno mwi mon mdi mco mgo mbr mca mH).2.1) mrs msd ((s_X7_having mP mQ msd mpe mno mwi mon mdi mco mgo mbr mca mH).2.2.1) ((s_X7_having mP mQ msd mpe mno mwi mon mdi mco mgo mbr mca mH).2.2.2.1) mtx mnu mrd mrl mpe mno mbo mim msi ((s_X7_having mP mQ msd mpe mno mwi mon mdi mco mgo mbr mca mH).2.2.2.2.1) ((s_X7_having mP mQ msd mpe mno mwi mon mdi mco mgo mbr mca mH).2.2.2.2.2.1) ((s_X7_having mP mQ msd mpe mno mwi mon mdi mco mgo mbr mca mH).2.2.2.2.2.2.1) ((s_X7_having mP mQ msd mpe mno mwi mon mdi mco mgo mbr mca mH).2.2.2.2.2.2.2.1) ((s_X7_having mP mQ msd mpe mno mwi mon mdi mco mgo mbr mca mH).2.2.2.2.2.2.2.2.1) ((s_X7_having mP mQ msd mpe mno mwi mon mdi mco mgo mbr mca mH).2.2.2.2.2.2.2.2.2.1) ((s_X7_having mP mQ msd mpe mno mwi mon mdi mco mgo mbr mca mH).2.2.2.2.2.2.2.2.2.2)] := by
  refine zD_int (cc := cX7_having) (maxL := 1) (ty := .int) (lv := [(0, .ref (m 31))]) (by decide +kernel) rfl (Nat.le_of_ble_eq_true rfl) rfl (fun Z O hret => ?_)
  refine zr_aload_n (pc2 := 1) O dX7_having_0 rfl 0 rfl rfl ?_
  obtain ⟨u1, hu1⟩ : ∃ z9, z9 = s_X7_runPlain mP mQ msd mpe mno mwi mon mdi mco mgo mbr mca mH := ⟨_, rfl⟩
  refine zr_callV (As := []) (rest := []) (ws2 := [modW cI m mle mpo mfa mrm mrw mP mQ mbk mkp msg u1.1 mrs msd u1.2.1 u1.2.2.1 mtx mnu mrd mrl mpe mno mbo mim msi u1.2.2.2.1 u1.2.2.2.2.1 u1.2.2.2.2.2.1 u1.2.2.2.2.2.2.1 u1.2.2.2.2.2.2.2.1 u1.2.2.2.2.2.2.2.2.1 u1.2.2.2.2.2.2.2.2.2]) (pc2 := 4) (ci := 7) (g0 := 0) (q0 := 0) (v := none) (W := [modW cI m mle mpo mfa mrm mrw mP mQ mbk mkp msg mwm mrs msd mls mhd mtx mnu mrd mrl mpe mno mbo mim msi mwi mon mdi mco mgo mbr mca]) (W2 := [modW cI m mle mpo mfa mrm mrw mP mQ mbk mkp msg u1.1 mrs msd u1.2.1 u1.2.2.1 mtx mnu mrd mrl mpe mno mbo mim msi u1.2.2.2.1 u1.2.2.2.2.1 u1.2.2.2.2.2.1 u1.2.2.2.2.2.2.1 u1.2.2.2.2.2.2.2.1 u1.2.2.2.2.2.2.2.2.1 u1.2.2.2.2.2.2.2.2.2]) O (by rw [hu1]; exact (c_X7_runPlain l D cI cC cJ m mle mpo mfa mrm mrw mP mQ mbk mkp msg mwm mrs msd mls mhd mtx mnu mrd mrl mpe mno mbo mim msi mwi mon mdi mco mgo mbr mca mH (by first | assumption | omega) (by first | assumption | omega) (by first | assumption | omega) (by first | assumption | omega) (by first | assumption | omega) (by first | assumption | omega))) sC_X7_having_183 rfl rfl rfl rfl rfl dX7_having_1 [0] rfl rfl rfl rfl (Nat.le_of_ble_eq_true rfl) rfl ?_
  show Z _ _ _ []
  refine zr_aload_n (pc2 := 5) O dX7_having_4 rfl 0 rfl rfl ?_
  refine zr_getf (v := .int u1.2.2.1) (pc2 := 8) O sF_X7_having_163 0 0 rfl rfl rfl dX7_having_5 rfl ?_
  have hE : s_X7_having mP mQ msd mpe mno mwi mon mdi mco mgo mbr mca mH = (u1.2.2.1, u1.1, u1.2.1, u1.2.2.1, u1.2.2.2.1, u1.2.2.2.2.1, u1.2.2.2.2.2.1, u1.2.2.2.2.2.2.1, u1.2.2.2.2.2.2.2.1, u1.2.2.2.2.2.2.2.2.1, u1.2.2.2.2.2.2.2.2.2) := by subst hu1; exact rfl
  exact hret _ _ _ _ dX7_having_8 rfl (by rw [hE]) (by rw [hE])
/-! X7_coins -/
def s_X7_coins (mP : Nat) (mQ : Nat) (mwm : Nat) (msd : Int32) (mls : Int32) (mhd : Int32) (mpe : zF) (mno : zF) (mwi : zF) (mon : zF) (mdi : zF) (mco : zF) (mgo : zF) (mbr : zF) (mca : zF) (i : Int32) (yr : Int32) (mH : Nat) : Int32 × Nat × Int32 × Int32 × zF × zF × zF × zF × zF × zF × zF := if (s_X7_in i (nI 0) ((nI mP) - (nI 1))) = true then if (s_X7_in yr (nI 0) (nI 150)) = true then let u22 := s_X7_runPlain mP mQ msd mpe mno mwi mon mdi mco mgo mbr mca mH; ((u22.2.2.2.2.2.2.2.2.2 ((6 * yr.toNatClampNeg) + i.toNatClampNeg)), u22.1, u22.2.1, u22.2.2.1, u22.2.2.2.1, u22.2.2.2.2.1, u22.2.2.2.2.2.1, u22.2.2.2.2.2.2.1, u22.2.2.2.2.2.2.2.1, u22.2.2.2.2.2.2.2.2.1, u22.2.2.2.2.2.2.2.2.2) else ((-1), mwm, mls, mhd, mwi, mon, mdi, mco, mgo, mbr, mca) else ((-1), mwm, mls, mhd, mwi, mon, mdi, mco, mgo, mbr, mca)
set_option maxHeartbeats 4000000 in
set_option maxRecDepth 100000 in
theorem c_X7_coins (l : Launch) (D : va_G) (cI cC cJ : ClassId) (m : Nat → Nat) (mle : Nat) (mpo : Nat) (mfa : Nat) (mrm : Nat) (mrw : Nat) (mP : Nat) (mQ : Nat) (mbk : Nat) (mkp : Nat) (msg : Nat) (mwm : Nat) (mrs : Int32) (msd : Int32) (mls : Int32) (mhd : Int32) (mtx : zF) (mnu : zF) (mrd : zF) (mrl : zF) (mpe : zF) (mno : zF) (mbo : zF) (mim : zF) (msi : zF) (mwi : zF) (mon : zF) (mdi : zF) (mco : zF) (mgo : zF) (mbr : zF) (mca : zF) (i : Int32) (yr : Int32) (mH : Nat) (hmP : mP ≤ 6) (hmQ : mQ ≤ 9) (hto2 : ∀ k, k < mQ → mno ((3 * k) + 1) = nI (mno ((3 * k) + 1)).toNatClampNeg ∧ (mno ((3 * k) + 1)).toNatClampNeg < 6) (hmH : mH ≤ 4) (hH : mno 27 = nI mH) (hhi : ∀ h, h < mH → mno (28 + (3 * h)) = nI (mno (28 + (3 * h))).toNatClampNeg ∧ (mno (28 + (3 * h))).toNatClampNeg < 6) : zD l yX7_coins wsX7_coins rm_X7_coins D (zT cI cC cJ) [.ref (m 31), .int i, .int yr] [modW cI m mle mpo mfa mrm mrw mP mQ mbk mkp msg mwm mrs msd mls mhd mtx mnu mrd mrl mpe mno mbo mim msi mwi mon mdi mco mgo mbr mca] (some (.int ((s_X7_coins mP mQ mwm msd mls mhd mpe mno mwi mon mdi mco mgo mbr mca i yr mH).1))) [modW cI m mle mpo mfa mrm mrw mP mQ mbk mkp msg ((s_X7_coins mP mQ mwm msd mls mhd mpe mno mwi mon mdi mco mgo mbr mca i yr mH).2.1) mrs msd ((s_X7_coins mP mQ mwm msd mls mhd mpe mno mwi mon mdi mco mgo mbr mca i yr mH).2.2.1) ((s_X7_coins mP mQ mwm msd mls mhd mpe mno mwi mon mdi mco mgo mbr mca i yr mH).2.2.2.1) mtx mnu mrd mrl mpe mno mbo mim msi ((s_X7_coins mP mQ mwm msd mls mhd mpe mno mwi mon mdi mco mgo mbr mca i yr mH).2.2.2.2.1) ((s_X7_coins mP mQ mwm msd mls mhd mpe mno mwi mon mdi mco mgo mbr mca i yr mH).2.2.2.2.2.1) ((s_X7_coins mP mQ mwm msd mls mhd mpe mno mwi mon mdi mco mgo mbr mca i yr mH).2.2.2.2.2.2.1) ((s_X7_coins mP mQ mwm msd mls mhd mpe mno mwi mon mdi mco mgo mbr mca i yr mH).2.2.2.2.2.2.2.1) ((s_X7_coins mP mQ mwm msd mls mhd mpe mno mwi mon mdi mco mgo mbr mca i yr mH).2.2.2.2.2.2.2.2.1) ((s_X7_coins mP mQ mwm msd mls mhd mpe mno mwi mon mdi mco mgo mbr mca i yr mH).2.2.2.2.2.2.2.2.2.1) ((s_X7_coins mP mQ mwm msd mls mhd mpe mno mwi mon mdi mco mgo mbr mca i yr mH).2.2.2.2.2.2.2.2.2.2)] := by
  refine zD_int (cc := cX7_coins) (maxL := 3) (ty := .int) (lv := [(0, .ref (m 31)), (1, .int i), (2, .int yr)]) (by decide +kernel) rfl (Nat.le_of_ble_eq_true rfl) rfl (fun Z O hret => ?_)
  refine zr_aload_n (pc2 := 1) O dX7_coins_0 rfl 0 rfl rfl ?_
  refine zr_iload_n (pc2 := 2) O dX7_coins_1 rfl 1 rfl rfl ?_
  refine zr_callV (As := [.int i]) (rest := []) (ws2 := [modW cI m mle mpo mfa mrm mrw mP mQ mbk mkp msg mwm mrs msd mls mhd mtx mnu mrd mrl mpe mno mbo mim msi mwi mon mdi mco mgo mbr mca]) (pc2 := 5) (ci := 7) (g0 := 0) (q0 := 0) O (c_X7_isOne l D cI cC cJ m mle mpo mfa mrm mrw mP mQ mbk mkp msg mwm mrs msd mls mhd mtx mnu mrd mrl mpe mno mbo mim msi mwi mon mdi mco mgo mbr mca i) sC_X7_coins_122 rfl rfl rfl rfl rfl dX7_coins_2 [0] rfl rfl rfl rfl (Nat.le_of_ble_eq_true rfl) rfl ?_
  show Z _ _ _ [.int (zb (s_X7_in i (nI 0) ((nI mP) - (nI 1))))]
  refine zb_if_eq (tgt := 19) (pc2 := 8) O dX7_coins_5 (by decide) rfl (fun c5 => ?_) (fun c5 => ?_)
  · refine zr_iconst (v := (-1)) (pc2 := 20) O dX7_coins_19 (by decide +kernel) rfl ?_
    have hE : s_X7_coins mP mQ mwm msd mls mhd mpe mno mwi mon mdi mco mgo mbr mca i yr mH = ((-1), mwm, mls, mhd, mwi, mon, mdi, mco, mgo, mbr, mca) := by exact (zif_f c5)
    exact hret _ _ _ _ dX7_coins_20 rfl (by rw [hE]) (by rw [hE])
  · refine zr_iload_n (pc2 := 9) O dX7_coins_8 rfl 2 rfl rfl ?_
    refine zr_iconst (v := (nI 0)) (pc2 := 10) O dX7_coins_9 (by decide +kernel) rfl ?_
    refine zr_sipush (v := (nI 150)) (pc2 := 13) O dX7_coins_10 (by decide +kernel) rfl ?_
    refine zr_callS (As := [.int yr, .int (nI 0), .int (nI 150)]) (rest := []) (ws2 := [modW cI m mle mpo mfa mrm mrw mP mQ mbk mkp msg mwm mrs msd mls mhd mtx mnu mrd mrl mpe mno mbo mim msi mwi mon mdi mco mgo mbr mca]) (pc2 := 16) O (c_X7_in l D cI cC cJ yr (nI 0) (nI 150)) sC_X7_coins_76 rfl rfl dX7_coins_13 [] rfl rfl rfl rfl (Nat.le_of_ble_eq_true rfl) rfl ?_
    show Z _ _ _ [.int (zb (s_X7_in yr (nI 0) (nI 150)))]
    refine zb_if_ne (tgt := 21) (pc2 := 19) O dX7_coins_16 (by decide) rfl (fun c16 => ?_) (fun c16 => ?_)
    · have hc1 := (one_in c5 hmP)
      rw [hc1.1]
      have hc2 := (in_nat c16 (by decide) (by decide))
      rw [hc2.1]
      refine zr_aload_n (pc2 := 22) O dX7_coins_21 rfl 0 rfl rfl ?_
      obtain ⟨u22, hu22⟩ : ∃ z9, z9 = s_X7_runPlain mP mQ msd mpe mno mwi mon mdi mco mgo mbr mca mH := ⟨_, rfl⟩
      refine zr_callV (As := []) (rest := []) (ws2 := [modW cI m mle mpo mfa mrm mrw mP mQ mbk mkp msg u22.1 mrs msd u22.2.1 u22.2.2.1 mtx mnu mrd mrl mpe mno mbo mim msi u22.2.2.2.1 u22.2.2.2.2.1 u22.2.2.2.2.2.1 u22.2.2.2.2.2.2.1 u22.2.2.2.2.2.2.2.1 u22.2.2.2.2.2.2.2.2.1 u22.2.2.2.2.2.2.2.2.2]) (pc2 := 25) (ci := 7) (g0 := 0) (q0 := 0) (v := none) (W := [modW cI m mle mpo mfa mrm mrw mP mQ mbk mkp msg mwm mrs msd mls mhd mtx mnu mrd mrl mpe mno mbo mim msi mwi mon mdi mco mgo mbr mca]) (W2 := [modW cI m mle mpo mfa mrm mrw mP mQ mbk mkp msg u22.1 mrs msd u22.2.1 u22.2.2.1 mtx mnu mrd mrl mpe mno mbo mim msi u22.2.2.2.1 u22.2.2.2.2.1 u22.2.2.2.2.2.1 u22.2.2.2.2.2.2.1 u22.2.2.2.2.2.2.2.1 u22.2.2.2.2.2.2.2.2.1 u22.2.2.2.2.2.2.2.2.2]) O (by rw [hu22]; exact (c_X7_runPlain l D cI cC cJ m mle mpo mfa mrm mrw mP mQ mbk mkp msg mwm mrs msd mls mhd mtx mnu mrd mrl mpe mno mbo mim msi mwi mon mdi mco mgo mbr mca mH (by first | assumption | omega) (by first | assumption | omega) (by first | assumption | omega) (by first | assumption | omega) (by first | assumption | omega) (by first | assumption | omega))) sC_X7_coins_183 rfl rfl rfl rfl rfl dX7_coins_22 [0] rfl rfl rfl rfl (Nat.le_of_ble_eq_true rfl) rfl ?_
      show Z _ _ _ []
      refine zr_aload_n (pc2 := 26) O dX7_coins_25 rfl 0 rfl rfl ?_
      refine zr_getf (v := .ref (m 30)) (pc2 := 29) O sF_X7_coins_65 0 0 rfl rfl rfl dX7_coins_26 rfl ?_
      refine zr_bipush (v := (nI 6)) (pc2 := 31) O dX7_coins_29 (by decide +kernel) rfl ?_
      refine zr_iload_n (pc2 := 32) O dX7_coins_31 rfl 2 rfl rfl ?_
      refine zr_imul (v := (nI (6 * yr.toNatClampNeg))) (pc2 := 33) O dX7_coins_32 (pk_mul 6 yr.toNatClampNeg) rfl ?_
      refine zr_iload_n (pc2 := 34) O dX7_coins_33 rfl 1 rfl rfl ?_
      refine zr_iadd (v := (nI ((6 * yr.toNatClampNeg) + i.toNatClampNeg))) (pc2 := 35) O dX7_coins_34 (nI_add (6 * yr.toNatClampNeg) i.toNatClampNeg) rfl ?_
      refine zn_iald (j := ((6 * yr.toNatClampNeg) + i.toNatClampNeg)) (pc2 := 36) O 0 16 0 rfl rfl rfl rfl (by omega) (by decide) dX7_coins_35 rfl ?_
      have hE : s_X7_coins mP mQ mwm msd mls mhd mpe mno mwi mon mdi mco mgo mbr mca i yr mH = ((u22.2.2.2.2.2.2.2.2.2 ((6 * yr.toNatClampNeg) + i.toNatClampNeg)), u22.1, u22.2.1, u22.2.2.1, u22.2.2.2.1, u22.2.2.2.2.1, u22.2.2.2.2.2.1, u22.2.2.2.2.2.2.1, u22.2.2.2.2.2.2.2.1, u22.2.2.2.2.2.2.2.2.1, u22.2.2.2.2.2.2.2.2.2) := by subst hu22; exact ((zif_t c5).trans (zif_t c16))
      exact hret _ _ _ _ dX7_coins_36 rfl (by rw [hE]) (by rw [hE])
    · refine zr_iconst (v := (-1)) (pc2 := 20) O dX7_coins_19 (by decide +kernel) rfl ?_
      have hE : s_X7_coins mP mQ mwm msd mls mhd mpe mno mwi mon mdi mco mgo mbr mca i yr mH = ((-1), mwm, mls, mhd, mwi, mon, mdi, mco, mgo, mbr, mca) := by exact ((zif_t c5).trans (zif_f c16))
      exact hret _ _ _ _ dX7_coins_20 rfl (by rw [hE]) (by rw [hE])
/-! X7_brought -/
def s_X7_brought (mP : Nat) (mQ : Nat) (mwm : Nat) (msd : Int32) (mls : Int32) (mhd : Int32) (mpe : zF) (mno : zF) (mwi : zF) (mon : zF) (mdi : zF) (mco : zF) (mgo : zF) (mbr : zF) (mca : zF) (k : Int32) (mH : Nat) : Int32 × Nat × Int32 × Int32 × zF × zF × zF × zF × zF × zF × zF := if (s_X7_in k (nI 0) ((nI mQ) - (nI 1))) = true then let u11 := s_X7_runPlain mP mQ msd mpe mno mwi mon mdi mco mgo mbr mca mH; ((u11.2.2.2.2.2.2.2.2.1 k.toNatClampNeg), u11.1, u11.2.1, u11.2.2.1, u11.2.2.2.1, u11.2.2.2.2.1, u11.2.2.2.2.2.1, u11.2.2.2.2.2.2.1, u11.2.2.2.2.2.2.2.1, u11.2.2.2.2.2.2.2.2.1, u11.2.2.2.2.2.2.2.2.2) else ((-1), mwm, mls, mhd, mwi, mon, mdi, mco, mgo, mbr, mca)
set_option maxHeartbeats 4000000 in
set_option maxRecDepth 100000 in
theorem c_X7_brought (l : Launch) (D : va_G) (cI cC cJ : ClassId) (m : Nat → Nat) (mle : Nat) (mpo : Nat) (mfa : Nat) (mrm : Nat) (mrw : Nat) (mP : Nat) (mQ : Nat) (mbk : Nat) (mkp : Nat) (msg : Nat) (mwm : Nat) (mrs : Int32) (msd : Int32) (mls : Int32) (mhd : Int32) (mtx : zF) (mnu : zF) (mrd : zF) (mrl : zF) (mpe : zF) (mno : zF) (mbo : zF) (mim : zF) (msi : zF) (mwi : zF) (mon : zF) (mdi : zF) (mco : zF) (mgo : zF) (mbr : zF) (mca : zF) (k : Int32) (mH : Nat) (hmP : mP ≤ 6) (hmQ : mQ ≤ 9) (hto2 : ∀ k, k < mQ → mno ((3 * k) + 1) = nI (mno ((3 * k) + 1)).toNatClampNeg ∧ (mno ((3 * k) + 1)).toNatClampNeg < 6) (hmH : mH ≤ 4) (hH : mno 27 = nI mH) (hhi : ∀ h, h < mH → mno (28 + (3 * h)) = nI (mno (28 + (3 * h))).toNatClampNeg ∧ (mno (28 + (3 * h))).toNatClampNeg < 6) : zD l yX7_brought wsX7_brought rm_X7_brought D (zT cI cC cJ) [.ref (m 31), .int k] [modW cI m mle mpo mfa mrm mrw mP mQ mbk mkp msg mwm mrs msd mls mhd mtx mnu mrd mrl mpe mno mbo mim msi mwi mon mdi mco mgo mbr mca] (some (.int ((s_X7_brought mP mQ mwm msd mls mhd mpe mno mwi mon mdi mco mgo mbr mca k mH).1))) [modW cI m mle mpo mfa mrm mrw mP mQ mbk mkp msg ((s_X7_brought mP mQ mwm msd mls mhd mpe mno mwi mon mdi mco mgo mbr mca k mH).2.1) mrs msd ((s_X7_brought mP mQ mwm msd mls mhd mpe mno mwi mon mdi mco mgo mbr mca k mH).2.2.1) ((s_X7_brought mP mQ mwm msd mls mhd mpe mno mwi mon mdi mco mgo mbr mca k mH).2.2.2.1) mtx mnu mrd mrl mpe mno mbo mim msi ((s_X7_brought mP mQ mwm msd mls mhd mpe mno mwi mon mdi mco mgo mbr mca k mH).2.2.2.2.1) ((s_X7_brought mP mQ mwm msd mls mhd mpe mno mwi mon mdi mco mgo mbr mca k mH).2.2.2.2.2.1) ((s_X7_brought mP mQ mwm msd mls mhd mpe mno mwi mon mdi mco mgo mbr mca k mH).2.2.2.2.2.2.1) ((s_X7_brought mP mQ mwm msd mls mhd mpe mno mwi mon mdi mco mgo mbr mca k mH).2.2.2.2.2.2.2.1) ((s_X7_brought mP mQ mwm msd mls mhd mpe mno mwi mon mdi mco mgo mbr mca k mH).2.2.2.2.2.2.2.2.1) ((s_X7_brought mP mQ mwm msd mls mhd mpe mno mwi mon mdi mco mgo mbr mca k mH).2.2.2.2.2.2.2.2.2.1) ((s_X7_brought mP mQ mwm msd mls mhd mpe mno mwi mon mdi mco mgo mbr mca k mH).2.2.2.2.2.2.2.2.2.2)] := by
  refine zD_int (cc := cX7_brought) (maxL := 2) (ty := .int) (lv := [(0, .ref (m 31)), (1, .int k)]) (by decide +kernel) rfl (Nat.le_of_ble_eq_true rfl) rfl (fun Z O hret => ?_)
  refine zr_aload_n (pc2 := 1) O dX7_brought_0 rfl 0 rfl rfl ?_
  refine zr_iload_n (pc2 := 2) O dX7_brought_1 rfl 1 rfl rfl ?_
  refine zr_callV (As := [.int k]) (rest := []) (ws2 := [modW cI m mle mpo mfa mrm mrw mP mQ mbk mkp msg mwm mrs msd mls mhd mtx mnu mrd mrl mpe mno mbo mim msi mwi mon mdi mco mgo mbr mca]) (pc2 := 5) (ci := 7) (g0 := 0) (q0 := 0) O (c_X7_isWill l D cI cC cJ m mle mpo mfa mrm mrw mP mQ mbk mkp msg mwm mrs msd mls mhd mtx mnu mrd mrl mpe mno mbo mim msi mwi mon mdi mco mgo mbr mca k) sC_X7_brought_128 rfl rfl rfl rfl rfl dX7_brought_2 [0] rfl rfl rfl rfl (Nat.le_of_ble_eq_true rfl) rfl ?_
  show Z _ _ _ [.int (zb (s_X7_in k (nI 0) ((nI mQ) - (nI 1))))]
  refine zb_if_ne (tgt := 10) (pc2 := 8) O dX7_brought_5 (by decide) rfl (fun c5 => ?_) (fun c5 => ?_)
  · have hc1 := (will_in c5 hmQ)
    rw [hc1.1]
    refine zr_aload_n (pc2 := 11) O dX7_brought_10 rfl 0 rfl rfl ?_
    obtain ⟨u11, hu11⟩ : ∃ z9, z9 = s_X7_runPlain mP mQ msd mpe mno mwi mon mdi mco mgo mbr mca mH := ⟨_, rfl⟩
    refine zr_callV (As := []) (rest := []) (ws2 := [modW cI m mle mpo mfa mrm mrw mP mQ mbk mkp msg u11.1 mrs msd u11.2.1 u11.2.2.1 mtx mnu mrd mrl mpe mno mbo mim msi u11.2.2.2.1 u11.2.2.2.2.1 u11.2.2.2.2.2.1 u11.2.2.2.2.2.2.1 u11.2.2.2.2.2.2.2.1 u11.2.2.2.2.2.2.2.2.1 u11.2.2.2.2.2.2.2.2.2]) (pc2 := 14) (ci := 7) (g0 := 0) (q0 := 0) (v := none) (W := [modW cI m mle mpo mfa mrm mrw mP mQ mbk mkp msg mwm mrs msd mls mhd mtx mnu mrd mrl mpe mno mbo mim msi mwi mon mdi mco mgo mbr mca]) (W2 := [modW cI m mle mpo mfa mrm mrw mP mQ mbk mkp msg u11.1 mrs msd u11.2.1 u11.2.2.1 mtx mnu mrd mrl mpe mno mbo mim msi u11.2.2.2.1 u11.2.2.2.2.1 u11.2.2.2.2.2.1 u11.2.2.2.2.2.2.1 u11.2.2.2.2.2.2.2.1 u11.2.2.2.2.2.2.2.2.1 u11.2.2.2.2.2.2.2.2.2]) O (by rw [hu11]; exact (c_X7_runPlain l D cI cC cJ m mle mpo mfa mrm mrw mP mQ mbk mkp msg mwm mrs msd mls mhd mtx mnu mrd mrl mpe mno mbo mim msi mwi mon mdi mco mgo mbr mca mH (by first | assumption | omega) (by first | assumption | omega) (by first | assumption | omega) (by first | assumption | omega) (by first | assumption | omega) (by first | assumption | omega))) sC_X7_brought_183 rfl rfl rfl rfl rfl dX7_brought_11 [0] rfl rfl rfl rfl (Nat.le_of_ble_eq_true rfl) rfl ?_
    show Z _ _ _ []
    refine zr_aload_n (pc2 := 15) O dX7_brought_14 rfl 0 rfl rfl ?_
    refine zr_getf (v := .ref (m 28)) (pc2 := 18) O sF_X7_brought_62 0 0 rfl rfl rfl dX7_brought_15 rfl ?_
    refine zr_iload_n (pc2 := 19) O dX7_brought_18 rfl 1 rfl rfl ?_
    refine zn_iald (j := k.toNatClampNeg) (pc2 := 20) O 0 15 0 rfl rfl rfl rfl (by omega) (by decide) dX7_brought_19 rfl ?_
    have hE : s_X7_brought mP mQ mwm msd mls mhd mpe mno mwi mon mdi mco mgo mbr mca k mH = ((u11.2.2.2.2.2.2.2.2.1 k.toNatClampNeg), u11.1, u11.2.1, u11.2.2.1, u11.2.2.2.1, u11.2.2.2.2.1, u11.2.2.2.2.2.1, u11.2.2.2.2.2.2.1, u11.2.2.2.2.2.2.2.1, u11.2.2.2.2.2.2.2.2.1, u11.2.2.2.2.2.2.2.2.2) := by subst hu11; exact (zif_t c5)
    exact hret _ _ _ _ dX7_brought_20 rfl (by rw [hE]) (by rw [hE])
  · refine zr_iconst (v := (-1)) (pc2 := 9) O dX7_brought_8 (by decide +kernel) rfl ?_
    have hE : s_X7_brought mP mQ mwm msd mls mhd mpe mno mwi mon mdi mco mgo mbr mca k mH = ((-1), mwm, mls, mhd, mwi, mon, mdi, mco, mgo, mbr, mca) := by exact (zif_f c5)
    exact hret _ _ _ _ dX7_brought_9 rfl (by rw [hE]) (by rw [hE])
/-! X7_inherited -/
def s_X7_inherited (mP : Nat) (mQ : Nat) (mwm : Nat) (msd : Int32) (mls : Int32) (mhd : Int32) (mpe : zF) (mno : zF) (mwi : zF) (mon : zF) (mdi : zF) (mco : zF) (mgo : zF) (mbr : zF) (mca : zF) (i : Int32) (mH : Nat) : Int32 × Nat × Int32 × Int32 × zF × zF × zF × zF × zF × zF × zF := if (s_X7_in i (nI 0) ((nI mP) - (nI 1))) = true then let u11 := s_X7_runPlain mP mQ msd mpe mno mwi mon mdi mco mgo mbr mca mH; ((u11.2.2.2.2.2.2.2.1 i.toNatClampNeg), u11.1, u11.2.1, u11.2.2.1, u11.2.2.2.1, u11.2.2.2.2.1, u11.2.2.2.2.2.1, u11.2.2.2.2.2.2.1, u11.2.2.2.2.2.2.2.1, u11.2.2.2.2.2.2.2.2.1, u11.2.2.2.2.2.2.2.2.2) else ((-1), mwm, mls, mhd, mwi, mon, mdi, mco, mgo, mbr, mca)
set_option maxHeartbeats 4000000 in
set_option maxRecDepth 100000 in
theorem c_X7_inherited (l : Launch) (D : va_G) (cI cC cJ : ClassId) (m : Nat → Nat) (mle : Nat) (mpo : Nat) (mfa : Nat) (mrm : Nat) (mrw : Nat) (mP : Nat) (mQ : Nat) (mbk : Nat) (mkp : Nat) (msg : Nat) (mwm : Nat) (mrs : Int32) (msd : Int32) (mls : Int32) (mhd : Int32) (mtx : zF) (mnu : zF) (mrd : zF) (mrl : zF) (mpe : zF) (mno : zF) (mbo : zF) (mim : zF) (msi : zF) (mwi : zF) (mon : zF) (mdi : zF) (mco : zF) (mgo : zF) (mbr : zF) (mca : zF) (i : Int32) (mH : Nat) (hmP : mP ≤ 6) (hmQ : mQ ≤ 9) (hto2 : ∀ k, k < mQ → mno ((3 * k) + 1) = nI (mno ((3 * k) + 1)).toNatClampNeg ∧ (mno ((3 * k) + 1)).toNatClampNeg < 6) (hmH : mH ≤ 4) (hH : mno 27 = nI mH) (hhi : ∀ h, h < mH → mno (28 + (3 * h)) = nI (mno (28 + (3 * h))).toNatClampNeg ∧ (mno (28 + (3 * h))).toNatClampNeg < 6) : zD l yX7_inherited wsX7_inherited rm_X7_inherited D (zT cI cC cJ) [.ref (m 31), .int i] [modW cI m mle mpo mfa mrm mrw mP mQ mbk mkp msg mwm mrs msd mls mhd mtx mnu mrd mrl mpe mno mbo mim msi mwi mon mdi mco mgo mbr mca] (some (.int ((s_X7_inherited mP mQ mwm msd mls mhd mpe mno mwi mon mdi mco mgo mbr mca i mH).1))) [modW cI m mle mpo mfa mrm mrw mP mQ mbk mkp msg ((s_X7_inherited mP mQ mwm msd mls mhd mpe mno mwi mon mdi mco mgo mbr mca i mH).2.1) mrs msd ((s_X7_inherited mP mQ mwm msd mls mhd mpe mno mwi mon mdi mco mgo mbr mca i mH).2.2.1) ((s_X7_inherited mP mQ mwm msd mls mhd mpe mno mwi mon mdi mco mgo mbr mca i mH).2.2.2.1) mtx mnu mrd mrl mpe mno mbo mim msi ((s_X7_inherited mP mQ mwm msd mls mhd mpe mno mwi mon mdi mco mgo mbr mca i mH).2.2.2.2.1) ((s_X7_inherited mP mQ mwm msd mls mhd mpe mno mwi mon mdi mco mgo mbr mca i mH).2.2.2.2.2.1) ((s_X7_inherited mP mQ mwm msd mls mhd mpe mno mwi mon mdi mco mgo mbr mca i mH).2.2.2.2.2.2.1) ((s_X7_inherited mP mQ mwm msd mls mhd mpe mno mwi mon mdi mco mgo mbr mca i mH).2.2.2.2.2.2.2.1) ((s_X7_inherited mP mQ mwm msd mls mhd mpe mno mwi mon mdi mco mgo mbr mca i mH).2.2.2.2.2.2.2.2.1) ((s_X7_inherited mP mQ mwm msd mls mhd mpe mno mwi mon mdi mco mgo mbr mca i mH).2.2.2.2.2.2.2.2.2.1) ((s_X7_inherited mP mQ mwm msd mls mhd mpe mno mwi mon mdi mco mgo mbr mca i mH).2.2.2.2.2.2.2.2.2.2)] := by
  refine zD_int (cc := cX7_inherited) (maxL := 2) (ty := .int) (lv := [(0, .ref (m 31)), (1, .int i)]) (by decide +kernel) rfl (Nat.le_of_ble_eq_true rfl) rfl (fun Z O hret => ?_)
  refine zr_aload_n (pc2 := 1) O dX7_inherited_0 rfl 0 rfl rfl ?_
  refine zr_iload_n (pc2 := 2) O dX7_inherited_1 rfl 1 rfl rfl ?_
  refine zr_callV (As := [.int i]) (rest := []) (ws2 := [modW cI m mle mpo mfa mrm mrw mP mQ mbk mkp msg mwm mrs msd mls mhd mtx mnu mrd mrl mpe mno mbo mim msi mwi mon mdi mco mgo mbr mca]) (pc2 := 5) (ci := 7) (g0 := 0) (q0 := 0) O (c_X7_isOne l D cI cC cJ m mle mpo mfa mrm mrw mP mQ mbk mkp msg mwm mrs msd mls mhd mtx mnu mrd mrl mpe mno mbo mim msi mwi mon mdi mco mgo mbr mca i) sC_X7_inherited_122 rfl rfl rfl rfl rfl dX7_inherited_2 [0] rfl rfl rfl rfl (Nat.le_of_ble_eq_true rfl) rfl ?_
  show Z _ _ _ [.int (zb (s_X7_in i (nI 0) ((nI mP) - (nI 1))))]
  refine zb_if_ne (tgt := 10) (pc2 := 8) O dX7_inherited_5 (by decide) rfl (fun c5 => ?_) (fun c5 => ?_)
  · have hc1 := (one_in c5 hmP)
    rw [hc1.1]
    refine zr_aload_n (pc2 := 11) O dX7_inherited_10 rfl 0 rfl rfl ?_
    obtain ⟨u11, hu11⟩ : ∃ z9, z9 = s_X7_runPlain mP mQ msd mpe mno mwi mon mdi mco mgo mbr mca mH := ⟨_, rfl⟩
    refine zr_callV (As := []) (rest := []) (ws2 := [modW cI m mle mpo mfa mrm mrw mP mQ mbk mkp msg u11.1 mrs msd u11.2.1 u11.2.2.1 mtx mnu mrd mrl mpe mno mbo mim msi u11.2.2.2.1 u11.2.2.2.2.1 u11.2.2.2.2.2.1 u11.2.2.2.2.2.2.1 u11.2.2.2.2.2.2.2.1 u11.2.2.2.2.2.2.2.2.1 u11.2.2.2.2.2.2.2.2.2]) (pc2 := 14) (ci := 7) (g0 := 0) (q0 := 0) (v := none) (W := [modW cI m mle mpo mfa mrm mrw mP mQ mbk mkp msg mwm mrs msd mls mhd mtx mnu mrd mrl mpe mno mbo mim msi mwi mon mdi mco mgo mbr mca]) (W2 := [modW cI m mle mpo mfa mrm mrw mP mQ mbk mkp msg u11.1 mrs msd u11.2.1 u11.2.2.1 mtx mnu mrd mrl mpe mno mbo mim msi u11.2.2.2.1 u11.2.2.2.2.1 u11.2.2.2.2.2.1 u11.2.2.2.2.2.2.1 u11.2.2.2.2.2.2.2.1 u11.2.2.2.2.2.2.2.2.1 u11.2.2.2.2.2.2.2.2.2]) O (by rw [hu11]; exact (c_X7_runPlain l D cI cC cJ m mle mpo mfa mrm mrw mP mQ mbk mkp msg mwm mrs msd mls mhd mtx mnu mrd mrl mpe mno mbo mim msi mwi mon mdi mco mgo mbr mca mH (by first | assumption | omega) (by first | assumption | omega) (by first | assumption | omega) (by first | assumption | omega) (by first | assumption | omega) (by first | assumption | omega))) sC_X7_inherited_183 rfl rfl rfl rfl rfl dX7_inherited_11 [0] rfl rfl rfl rfl (Nat.le_of_ble_eq_true rfl) rfl ?_
    show Z _ _ _ []
    refine zr_aload_n (pc2 := 15) O dX7_inherited_14 rfl 0 rfl rfl ?_
    refine zr_getf (v := .ref (m 27)) (pc2 := 18) O sF_X7_inherited_59 0 0 rfl rfl rfl dX7_inherited_15 rfl ?_
    refine zr_iload_n (pc2 := 19) O dX7_inherited_18 rfl 1 rfl rfl ?_
    refine zn_iald (j := i.toNatClampNeg) (pc2 := 20) O 0 14 0 rfl rfl rfl rfl (by omega) (by decide) dX7_inherited_19 rfl ?_
    have hE : s_X7_inherited mP mQ mwm msd mls mhd mpe mno mwi mon mdi mco mgo mbr mca i mH = ((u11.2.2.2.2.2.2.2.1 i.toNatClampNeg), u11.1, u11.2.1, u11.2.2.1, u11.2.2.2.1, u11.2.2.2.2.1, u11.2.2.2.2.2.1, u11.2.2.2.2.2.2.1, u11.2.2.2.2.2.2.2.1, u11.2.2.2.2.2.2.2.2.1, u11.2.2.2.2.2.2.2.2.2) := by subst hu11; exact (zif_t c5)
    exact hret _ _ _ _ dX7_inherited_20 rfl (by rw [hE]) (by rw [hE])
  · refine zr_iconst (v := (-1)) (pc2 := 9) O dX7_inherited_8 (by decide +kernel) rfl ?_
    have hE : s_X7_inherited mP mQ mwm msd mls mhd mpe mno mwi mon mdi mco mgo mbr mca i mH = ((-1), mwm, mls, mhd, mwi, mon, mdi, mco, mgo, mbr, mca) := by exact (zif_f c5)
    exact hret _ _ _ _ dX7_inherited_9 rfl (by rw [hE]) (by rw [hE])
/-! X7_first -/
def f_X7_first_9 (u1 : Nat × Int32 × Int32 × zF × zF × zF × zF × zF × zF × zF) : Nat → Nat → Int32 → Int32
  | 0, _, be => be
  | n9 + 1, i, be => if (u1.2.2.2.2.2.1 i) < 0 then f_X7_first_9 u1 n9 (i + 1) be else if ((u1.2.2.1 >>> ((nI i) &&& 31)) &&& (nI 1)) = 0 then if be < 0 then f_X7_first_9 u1 n9 (i + 1) (nI i) else if (u1.2.2.2.2.2.1 be.toNatClampNeg) ≤ (u1.2.2.2.2.2.1 i) then f_X7_first_9 u1 n9 (i + 1) be else f_X7_first_9 u1 n9 (i + 1) (nI i) else f_X7_first_9 u1 n9 (i + 1) be
def s_X7_first (mP : Nat) (mQ : Nat) (msd : Int32) (mpe : zF) (mno : zF) (mwi : zF) (mon : zF) (mdi : zF) (mco : zF) (mgo : zF) (mbr : zF) (mca : zF) (mH : Nat) : Int32 × Nat × Int32 × Int32 × zF × zF × zF × zF × zF × zF × zF := let u1 := s_X7_runPlain mP mQ msd mpe mno mwi mon mdi mco mgo mbr mca mH; ((f_X7_first_9 u1 mP 0 (-4)), u1.1, u1.2.1, u1.2.2.1, u1.2.2.2.1, u1.2.2.2.2.1, u1.2.2.2.2.2.1, u1.2.2.2.2.2.2.1, u1.2.2.2.2.2.2.2.1, u1.2.2.2.2.2.2.2.2.1, u1.2.2.2.2.2.2.2.2.2)
set_option maxHeartbeats 4000000 in
set_option maxRecDepth 100000 in
theorem c_X7_first (l : Launch) (D : va_G) (cI cC cJ : ClassId) (m : Nat → Nat) (mle : Nat) (mpo : Nat) (mfa : Nat) (mrm : Nat) (mrw : Nat) (mP : Nat) (mQ : Nat) (mbk : Nat) (mkp : Nat) (msg : Nat) (mwm : Nat) (mrs : Int32) (msd : Int32) (mls : Int32) (mhd : Int32) (mtx : zF) (mnu : zF) (mrd : zF) (mrl : zF) (mpe : zF) (mno : zF) (mbo : zF) (mim : zF) (msi : zF) (mwi : zF) (mon : zF) (mdi : zF) (mco : zF) (mgo : zF) (mbr : zF) (mca : zF) (mH : Nat) (hmP : mP ≤ 6) (hmQ : mQ ≤ 9) (hto2 : ∀ k, k < mQ → mno ((3 * k) + 1) = nI (mno ((3 * k) + 1)).toNatClampNeg ∧ (mno ((3 * k) + 1)).toNatClampNeg < 6) (hmH : mH ≤ 4) (hH : mno 27 = nI mH) (hhi : ∀ h, h < mH → mno (28 + (3 * h)) = nI (mno (28 + (3 * h))).toNatClampNeg ∧ (mno (28 + (3 * h))).toNatClampNeg < 6) : zD l yX7_first wsX7_first rm_X7_first D (zT cI cC cJ) [.ref (m 31)] [modW cI m mle mpo mfa mrm mrw mP mQ mbk mkp msg mwm mrs msd mls mhd mtx mnu mrd mrl mpe mno mbo mim msi mwi mon mdi mco mgo mbr mca] (some (.int ((s_X7_first mP mQ msd mpe mno mwi mon mdi mco mgo mbr mca mH).1))) [modW cI m mle mpo mfa mrm mrw mP mQ mbk mkp msg ((s_X7_first mP mQ msd mpe mno mwi mon mdi mco mgo mbr mca mH).2.1) mrs msd ((s_X7_first mP mQ msd mpe mno mwi mon mdi mco mgo mbr mca mH).2.2.1) ((s_X7_first mP mQ msd mpe mno mwi mon mdi mco mgo mbr mca mH).2.2.2.1) mtx mnu mrd mrl mpe mno mbo mim msi ((s_X7_first mP mQ msd mpe mno mwi mon mdi mco mgo mbr mca mH).2.2.2.2.1) ((s_X7_first mP mQ msd mpe mno mwi mon mdi mco mgo mbr mca mH).2.2.2.2.2.1) ((s_X7_first mP mQ msd mpe mno mwi mon mdi mco mgo mbr mca mH).2.2.2.2.2.2.1) ((s_X7_first mP mQ msd mpe mno mwi mon mdi mco mgo mbr mca mH).2.2.2.2.2.2.2.1) ((s_X7_first mP mQ msd mpe mno mwi mon mdi mco mgo mbr mca mH).2.2.2.2.2.2.2.2.1) ((s_X7_first mP mQ msd mpe mno mwi mon mdi mco mgo mbr mca mH).2.2.2.2.2.2.2.2.2.1) ((s_X7_first mP mQ msd mpe mno mwi mon mdi mco mgo mbr mca mH).2.2.2.2.2.2.2.2.2.2)] := by
  refine zD_int (cc := cX7_first) (maxL := 4) (ty := .int) (lv := [(0, .ref (m 31))]) (by decide +kernel) rfl (Nat.le_of_ble_eq_true rfl) rfl (fun Z O hret => ?_)
  refine zr_aload_n (pc2 := 1) O dX7_first_0 rfl 0 rfl rfl ?_
  obtain ⟨u1, hu1⟩ : ∃ z9, z9 = s_X7_runPlain mP mQ msd mpe mno mwi mon mdi mco mgo mbr mca mH := ⟨_, rfl⟩
  refine zr_callV (As := []) (rest := []) (ws2 := [modW cI m mle mpo mfa mrm mrw mP mQ mbk mkp msg u1.1 mrs msd u1.2.1 u1.2.2.1 mtx mnu mrd mrl mpe mno mbo mim msi u1.2.2.2.1 u1.2.2.2.2.1 u1.2.2.2.2.2.1 u1.2.2.2.2.2.2.1 u1.2.2.2.2.2.2.2.1 u1.2.2.2.2.2.2.2.2.1 u1.2.2.2.2.2.2.2.2.2]) (pc2 := 4) (ci := 7) (g0 := 0) (q0 := 0) (v := none) (W := [modW cI m mle mpo mfa mrm mrw mP mQ mbk mkp msg mwm mrs msd mls mhd mtx mnu mrd mrl mpe mno mbo mim msi mwi mon mdi mco mgo mbr mca]) (W2 := [modW cI m mle mpo mfa mrm mrw mP mQ mbk mkp msg u1.1 mrs msd u1.2.1 u1.2.2.1 mtx mnu mrd mrl mpe mno mbo mim msi u1.2.2.2.1 u1.2.2.2.2.1 u1.2.2.2.2.2.1 u1.2.2.2.2.2.2.1 u1.2.2.2.2.2.2.2.1 u1.2.2.2.2.2.2.2.2.1 u1.2.2.2.2.2.2.2.2.2]) O (by rw [hu1]; exact (c_X7_runPlain l D cI cC cJ m mle mpo mfa mrm mrw mP mQ mbk mkp msg mwm mrs msd mls mhd mtx mnu mrd mrl mpe mno mbo mim msi mwi mon mdi mco mgo mbr mca mH (by first | assumption | omega) (by first | assumption | omega) (by first | assumption | omega) (by first | assumption | omega) (by first | assumption | omega) (by first | assumption | omega))) sC_X7_first_183 rfl rfl rfl rfl rfl dX7_first_1 [0] rfl rfl rfl rfl (Nat.le_of_ble_eq_true rfl) rfl ?_
  show Z _ _ _ []
  refine zr_bipush (v := (-4)) (pc2 := 6) O dX7_first_4 (by decide +kernel) rfl ?_
  refine zr_istore_n (lv2 := [(1, .int (-4)), (0, .ref (m 31))]) (pc2 := 7) O dX7_first_6 rfl (by decide) rfl rfl ?_
  refine zr_iconst (v := (nI 0)) (pc2 := 8) O dX7_first_7 (by decide +kernel) rfl ?_
  refine zr_istore_n (lv2 := [(2, .int (nI 0)), (1, .int (-4)), (0, .ref (m 31))]) (pc2 := 9) O dX7_first_8 rfl (by decide) rfl rfl ?_
  have lp9 : ∀ (n9 : Nat) (i : Nat) (be : Int32), i + n9 = mP → (be < 0 ∨ vp_in be 6) → f_X7_first_9 u1 mP 0 (-4) = f_X7_first_9 u1 n9 i be → Z [modW cI m mle mpo mfa mrm mrw mP mQ mbk mkp msg u1.1 mrs msd u1.2.1 u1.2.2.1 mtx mnu mrd mrl mpe mno mbo mim msi u1.2.2.2.1 u1.2.2.2.2.1 u1.2.2.2.2.2.1 u1.2.2.2.2.2.2.1 u1.2.2.2.2.2.2.2.1 u1.2.2.2.2.2.2.2.2.1 u1.2.2.2.2.2.2.2.2.2] [(2, .int (nI i)), (1, .int be), (0, .ref (m 31))] 9 [] := by
    intro n9
    induction n9 with
    | zero =>
      intro i be hM9 hb hF9
      have hI9 : mP = i := by omega
      subst hI9
      have e9 : (f_X7_first_9 u1 mP 0 (-4)) = be := hF9
      subst e9
      refine zr_iload_n (pc2 := 10) O dX7_first_9 rfl 0 rfl rfl ?_
      refine zr_aload_n (pc2 := 11) O dX7_first_10 rfl 2 rfl rfl ?_
      refine zr_getf (v := .int (nI mP)) (pc2 := 14) O sF_X7_first_22 0 0 rfl rfl rfl dX7_first_11 rfl ?_
      refine zn_icmp_ge (tgt := 78) (pc2 := 17) O dX7_first_14 (by decide) rfl (by omega) (by omega) (fun c14 => ?_) (fun c14 => ?_)
      · refine zr_iload_n (pc2 := 79) O dX7_first_78 rfl 1 rfl rfl ?_
        have hE : s_X7_first mP mQ msd mpe mno mwi mon mdi mco mgo mbr mca mH = ((f_X7_first_9 u1 mP 0 (-4)), u1.1, u1.2.1, u1.2.2.1, u1.2.2.2.1, u1.2.2.2.2.1, u1.2.2.2.2.2.1, u1.2.2.2.2.2.2.1, u1.2.2.2.2.2.2.2.1, u1.2.2.2.2.2.2.2.2.1, u1.2.2.2.2.2.2.2.2.2) := by subst hu1; exact rfl
        exact hret _ _ _ _ dX7_first_79 rfl (by rw [hE]) (by rw [hE])
      · exact absurd c14 (by omega)
    | succ n9 ih9 =>
      intro i be hM9 hb hF9
      refine zr_iload_n (pc2 := 10) O dX7_first_9 rfl 0 rfl rfl ?_
      refine zr_aload_n (pc2 := 11) O dX7_first_10 rfl 2 rfl rfl ?_
      refine zr_getf (v := .int (nI mP)) (pc2 := 14) O sF_X7_first_22 0 0 rfl rfl rfl dX7_first_11 rfl ?_
      refine zn_icmp_ge (tgt := 78) (pc2 := 17) O dX7_first_14 (by decide) rfl (by omega) (by omega) (fun c14 => ?_) (fun c14 => ?_)
      · exact absurd c14 (by omega)
      · refine zr_aload_n (pc2 := 18) O dX7_first_17 rfl 2 rfl rfl ?_
        refine zr_getf (v := .ref (m 25)) (pc2 := 21) O sF_X7_first_53 0 0 rfl rfl rfl dX7_first_18 rfl ?_
        refine zr_iload_n (pc2 := 22) O dX7_first_21 rfl 0 rfl rfl ?_
        refine zn_iald (j := i) (pc2 := 23) O 0 12 0 rfl rfl rfl rfl (by omega) (by decide) dX7_first_22 rfl ?_
        refine zr_if_lt (tgt := 41) (pc2 := 26) O dX7_first_23 (by decide) rfl (fun c23 => ?_) (fun c23 => ?_)
        · refine zr_iconst (v := (nI 0)) (pc2 := 42) O dX7_first_41 (by decide +kernel) rfl ?_
          refine zr_istore_n (lv2 := [(3, .int (nI 0)), (2, .int (nI i)), (1, .int be), (0, .ref (m 31))]) (pc2 := 43) O dX7_first_42 rfl (by decide) rfl rfl ?_
          refine zr_iload_n (pc2 := 44) O dX7_first_43 rfl 0 rfl rfl ?_
          refine zn_if_eq (tgt := 70) (pc2 := 47) O dX7_first_44 (by decide) rfl (by omega) (fun c44 => ?_) (fun c44 => ?_)
          · refine zr_iload_n (pc2 := 71) O dX7_first_70 rfl 2 rfl rfl ?_
            refine zr_istore_n (lv2 := [(1, .int be), (3, .int (nI 0)), (2, .int (nI i)), (0, .ref (m 31))]) (pc2 := 72) O dX7_first_71 rfl (by decide) rfl rfl ?_
            refine zr_iinc (v := (nI (i + 1))) (lv2 := [(2, .int (nI (i + 1))), (1, .int be), (3, .int (nI 0)), (0, .ref (m 31))]) (pc2 := 75) O dX7_first_72 2 rfl (zm_ofInt1 i) (by decide) rfl rfl ?_
            refine zr_goto (tgt := 9) O dX7_first_75 (by decide) ?_
            refine zr_sub (lv2 := [(2, .int (nI (i + 1))), (1, .int be), (0, .ref (m 31))]) O [0, 1, 3] rfl ?_
            have hE : f_X7_first_9 u1 (n9 + 1) i be = f_X7_first_9 u1 n9 (i + 1) be := by exact (if_pos c23)
            exact ih9 (i + 1) be (by omega) (by first | assumption | exact Or.inr (vp_in_nI (by omega) (by decide))) (hF9.trans hE)
          · exact absurd c44 (by decide)
        · refine zr_aload_n (pc2 := 27) O dX7_first_26 rfl 2 rfl rfl ?_
          refine zr_getf (v := .int u1.2.2.1) (pc2 := 30) O sF_X7_first_163 0 0 rfl rfl rfl dX7_first_27 rfl ?_
          refine zr_iload_n (pc2 := 31) O dX7_first_30 rfl 0 rfl rfl ?_
          refine zr_ishr (v := (u1.2.2.1 >>> ((nI i) &&& 31))) (pc2 := 32) O dX7_first_31 rfl rfl ?_
          refine zr_iconst (v := (nI 1)) (pc2 := 33) O dX7_first_32 (by decide +kernel) rfl ?_
          refine zr_iand (v := ((u1.2.2.1 >>> ((nI i) &&& 31)) &&& (nI 1))) (pc2 := 34) O dX7_first_33 rfl rfl ?_
          refine zr_if_ne (tgt := 41) (pc2 := 37) O dX7_first_34 (by decide) rfl (fun c34 => ?_) (fun c34 => ?_)
          · refine zr_iconst (v := (nI 0)) (pc2 := 42) O dX7_first_41 (by decide +kernel) rfl ?_
            refine zr_istore_n (lv2 := [(3, .int (nI 0)), (2, .int (nI i)), (1, .int be), (0, .ref (m 31))]) (pc2 := 43) O dX7_first_42 rfl (by decide) rfl rfl ?_
            refine zr_iload_n (pc2 := 44) O dX7_first_43 rfl 0 rfl rfl ?_
            refine zn_if_eq (tgt := 70) (pc2 := 47) O dX7_first_44 (by decide) rfl (by omega) (fun c44 => ?_) (fun c44 => ?_)
            · refine zr_iload_n (pc2 := 71) O dX7_first_70 rfl 2 rfl rfl ?_
              refine zr_istore_n (lv2 := [(1, .int be), (3, .int (nI 0)), (2, .int (nI i)), (0, .ref (m 31))]) (pc2 := 72) O dX7_first_71 rfl (by decide) rfl rfl ?_
              refine zr_iinc (v := (nI (i + 1))) (lv2 := [(2, .int (nI (i + 1))), (1, .int be), (3, .int (nI 0)), (0, .ref (m 31))]) (pc2 := 75) O dX7_first_72 2 rfl (zm_ofInt1 i) (by decide) rfl rfl ?_
              refine zr_goto (tgt := 9) O dX7_first_75 (by decide) ?_
              refine zr_sub (lv2 := [(2, .int (nI (i + 1))), (1, .int be), (0, .ref (m 31))]) O [0, 1, 3] rfl ?_
              have hE : f_X7_first_9 u1 (n9 + 1) i be = f_X7_first_9 u1 n9 (i + 1) be := by exact ((if_neg c23).trans (if_neg c34))
              exact ih9 (i + 1) be (by omega) (by first | assumption | exact Or.inr (vp_in_nI (by omega) (by decide))) (hF9.trans hE)
            · exact absurd c44 (by decide)
          · refine zr_iconst (v := (nI 1)) (pc2 := 38) O dX7_first_37 (by decide +kernel) rfl ?_
            refine zr_goto (tgt := 42) O dX7_first_38 (by decide) ?_
            refine zr_istore_n (lv2 := [(3, .int (nI 1)), (2, .int (nI i)), (1, .int be), (0, .ref (m 31))]) (pc2 := 43) O dX7_first_42 rfl (by decide) rfl rfl ?_
            refine zr_iload_n (pc2 := 44) O dX7_first_43 rfl 0 rfl rfl ?_
            refine zn_if_eq (tgt := 70) (pc2 := 47) O dX7_first_44 (by decide) rfl (by omega) (fun c44 => ?_) (fun c44 => ?_)
            · exact absurd c44 (by decide)
            · refine zr_iload_n (pc2 := 48) O dX7_first_47 rfl 2 rfl rfl ?_
              refine zr_if_lt (tgt := 66) (pc2 := 51) O dX7_first_48 (by decide) rfl (fun c48 => ?_) (fun c48 => ?_)
              · refine zr_iload_n (pc2 := 67) O dX7_first_66 rfl 1 rfl rfl ?_
                refine zr_goto (tgt := 71) O dX7_first_67 (by decide) ?_
                refine zr_istore_n (lv2 := [(1, .int (nI i)), (3, .int (nI 1)), (2, .int (nI i)), (0, .ref (m 31))]) (pc2 := 72) O dX7_first_71 rfl (by decide) rfl rfl ?_
                refine zr_iinc (v := (nI (i + 1))) (lv2 := [(2, .int (nI (i + 1))), (1, .int (nI i)), (3, .int (nI 1)), (0, .ref (m 31))]) (pc2 := 75) O dX7_first_72 2 rfl (zm_ofInt1 i) (by decide) rfl rfl ?_
                refine zr_goto (tgt := 9) O dX7_first_75 (by decide) ?_
                refine zr_sub (lv2 := [(2, .int (nI (i + 1))), (1, .int (nI i)), (0, .ref (m 31))]) O [0, 1, 3] rfl ?_
                have hE : f_X7_first_9 u1 (n9 + 1) i be = f_X7_first_9 u1 n9 (i + 1) (nI i) := by exact ((if_neg c23).trans ((if_pos c34).trans (if_pos c48)))
                exact ih9 (i + 1) (nI i) (by omega) (by first | assumption | exact Or.inr (vp_in_nI (by omega) (by decide))) (hF9.trans hE)
              · refine zr_aload_n (pc2 := 52) O dX7_first_51 rfl 3 rfl rfl ?_
                refine zr_getf (v := .ref (m 25)) (pc2 := 55) O sF_X7_first_53 0 0 rfl rfl rfl dX7_first_52 rfl ?_
                refine zr_iload_n (pc2 := 56) O dX7_first_55 rfl 1 rfl rfl ?_
                refine zn_iald (j := i) (pc2 := 57) O 0 12 0 rfl rfl rfl rfl (by omega) (by decide) dX7_first_56 rfl ?_
                refine zr_aload_n (pc2 := 58) O dX7_first_57 rfl 3 rfl rfl ?_
                refine zr_getf (v := .ref (m 25)) (pc2 := 61) O sF_X7_first_53 0 0 rfl rfl rfl dX7_first_58 rfl ?_
                refine zr_iload_n (pc2 := 62) O dX7_first_61 rfl 2 rfl rfl ?_
                refine zr_iald (pc2 := 63) O 0 12 0 rfl rfl rfl (hb.resolve_left c48) dX7_first_62 rfl ?_
                refine zr_icmp_ge (tgt := 70) (pc2 := 66) O dX7_first_63 (by decide) rfl (fun c63 => ?_) (fun c63 => ?_)
                · refine zr_iload_n (pc2 := 71) O dX7_first_70 rfl 2 rfl rfl ?_
                  refine zr_istore_n (lv2 := [(1, .int be), (3, .int (nI 1)), (2, .int (nI i)), (0, .ref (m 31))]) (pc2 := 72) O dX7_first_71 rfl (by decide) rfl rfl ?_
                  refine zr_iinc (v := (nI (i + 1))) (lv2 := [(2, .int (nI (i + 1))), (1, .int be), (3, .int (nI 1)), (0, .ref (m 31))]) (pc2 := 75) O dX7_first_72 2 rfl (zm_ofInt1 i) (by decide) rfl rfl ?_
                  refine zr_goto (tgt := 9) O dX7_first_75 (by decide) ?_
                  refine zr_sub (lv2 := [(2, .int (nI (i + 1))), (1, .int be), (0, .ref (m 31))]) O [0, 1, 3] rfl ?_
                  have hE : f_X7_first_9 u1 (n9 + 1) i be = f_X7_first_9 u1 n9 (i + 1) be := by exact ((if_neg c23).trans ((if_pos c34).trans ((if_neg c48).trans (if_pos c63))))
                  exact ih9 (i + 1) be (by omega) (by first | assumption | exact Or.inr (vp_in_nI (by omega) (by decide))) (hF9.trans hE)
                · refine zr_iload_n (pc2 := 67) O dX7_first_66 rfl 1 rfl rfl ?_
                  refine zr_goto (tgt := 71) O dX7_first_67 (by decide) ?_
                  refine zr_istore_n (lv2 := [(1, .int (nI i)), (3, .int (nI 1)), (2, .int (nI i)), (0, .ref (m 31))]) (pc2 := 72) O dX7_first_71 rfl (by decide) rfl rfl ?_
                  refine zr_iinc (v := (nI (i + 1))) (lv2 := [(2, .int (nI (i + 1))), (1, .int (nI i)), (3, .int (nI 1)), (0, .ref (m 31))]) (pc2 := 75) O dX7_first_72 2 rfl (zm_ofInt1 i) (by decide) rfl rfl ?_
                  refine zr_goto (tgt := 9) O dX7_first_75 (by decide) ?_
                  refine zr_sub (lv2 := [(2, .int (nI (i + 1))), (1, .int (nI i)), (0, .ref (m 31))]) O [0, 1, 3] rfl ?_
                  have hE : f_X7_first_9 u1 (n9 + 1) i be = f_X7_first_9 u1 n9 (i + 1) (nI i) := by exact ((if_neg c23).trans ((if_pos c34).trans ((if_neg c48).trans (if_neg c63))))
                  exact ih9 (i + 1) (nI i) (by omega) (by first | assumption | exact Or.inr (vp_in_nI (by omega) (by decide))) (hF9.trans hE)
  exact lp9 mP 0 (-4) (by omega) (Or.inl (by decide)) rfl
/-! X7_longest -/
def f_X7_longest_22 (u12 : Nat × Int32 × Int32 × zF × zF × zF × zF × zF × zF × zF) : Nat → Nat → Int32 → Int32 → Int32 × Int32
  | 0, _, be, mo => (be, mo)
  | n9 + 1, i, be, mo => if 0 ≤ (u12.2.2.2.2.2.1 i) then if ((u12.2.2.2.2.2.1 i) - (u12.2.2.2.2.1 (5 * i))) ≤ mo then if ((u12.2.2.2.2.2.1 i) - (u12.2.2.2.2.1 (5 * i))) ≤ mo then f_X7_longest_22 u12 n9 (i + 1) be mo else f_X7_longest_22 u12 n9 (i + 1) be ((u12.2.2.2.2.2.1 i) - (u12.2.2.2.2.1 (5 * i))) else if ((u12.2.2.2.2.2.1 i) - (u12.2.2.2.2.1 (5 * i))) ≤ mo then f_X7_longest_22 u12 n9 (i + 1) (nI i) mo else f_X7_longest_22 u12 n9 (i + 1) (nI i) ((u12.2.2.2.2.2.1 i) - (u12.2.2.2.2.1 (5 * i))) else if ((nI 150) - (u12.2.2.2.2.1 (5 * i))) ≤ mo then if ((nI 150) - (u12.2.2.2.2.1 (5 * i))) ≤ mo then f_X7_longest_22 u12 n9 (i + 1) be mo else f_X7_longest_22 u12 n9 (i + 1) be ((nI 150) - (u12.2.2.2.2.1 (5 * i))) else if ((nI 150) - (u12.2.2.2.2.1 (5 * i))) ≤ mo then f_X7_longest_22 u12 n9 (i + 1) (nI i) mo else f_X7_longest_22 u12 n9 (i + 1) (nI i) ((nI 150) - (u12.2.2.2.2.1 (5 * i)))
def s_X7_longest (mP : Nat) (mQ : Nat) (mwm : Nat) (msd : Int32) (mls : Int32) (mhd : Int32) (mpe : zF) (mno : zF) (mwi : zF) (mon : zF) (mdi : zF) (mco : zF) (mgo : zF) (mbr : zF) (mca : zF) (wh : Int32) (mH : Nat) : Int32 × Nat × Int32 × Int32 × zF × zF × zF × zF × zF × zF × zF := if (s_X7_in wh (nI 0) (nI 1)) = true then let u12 := s_X7_runPlain mP mQ msd mpe mno mwi mon mdi mco mgo mbr mca mH; let v28 := f_X7_longest_22 u12 mP 0 (nI 0) (-1); if wh = 0 then (v28.1, u12.1, u12.2.1, u12.2.2.1, u12.2.2.2.1, u12.2.2.2.2.1, u12.2.2.2.2.2.1, u12.2.2.2.2.2.2.1, u12.2.2.2.2.2.2.2.1, u12.2.2.2.2.2.2.2.2.1, u12.2.2.2.2.2.2.2.2.2) else (v28.2, u12.1, u12.2.1, u12.2.2.1, u12.2.2.2.1, u12.2.2.2.2.1, u12.2.2.2.2.2.1, u12.2.2.2.2.2.2.1, u12.2.2.2.2.2.2.2.1, u12.2.2.2.2.2.2.2.2.1, u12.2.2.2.2.2.2.2.2.2) else ((-1), mwm, mls, mhd, mwi, mon, mdi, mco, mgo, mbr, mca)
set_option maxHeartbeats 4000000 in
set_option maxRecDepth 100000 in
theorem c_X7_longest (l : Launch) (D : va_G) (cI cC cJ : ClassId) (m : Nat → Nat) (mle : Nat) (mpo : Nat) (mfa : Nat) (mrm : Nat) (mrw : Nat) (mP : Nat) (mQ : Nat) (mbk : Nat) (mkp : Nat) (msg : Nat) (mwm : Nat) (mrs : Int32) (msd : Int32) (mls : Int32) (mhd : Int32) (mtx : zF) (mnu : zF) (mrd : zF) (mrl : zF) (mpe : zF) (mno : zF) (mbo : zF) (mim : zF) (msi : zF) (mwi : zF) (mon : zF) (mdi : zF) (mco : zF) (mgo : zF) (mbr : zF) (mca : zF) (wh : Int32) (mH : Nat) (hmP : mP ≤ 6) (hmQ : mQ ≤ 9) (hto2 : ∀ k, k < mQ → mno ((3 * k) + 1) = nI (mno ((3 * k) + 1)).toNatClampNeg ∧ (mno ((3 * k) + 1)).toNatClampNeg < 6) (hmH : mH ≤ 4) (hH : mno 27 = nI mH) (hhi : ∀ h, h < mH → mno (28 + (3 * h)) = nI (mno (28 + (3 * h))).toNatClampNeg ∧ (mno (28 + (3 * h))).toNatClampNeg < 6) : zD l yX7_longest wsX7_longest rm_X7_longest D (zT cI cC cJ) [.ref (m 31), .int wh] [modW cI m mle mpo mfa mrm mrw mP mQ mbk mkp msg mwm mrs msd mls mhd mtx mnu mrd mrl mpe mno mbo mim msi mwi mon mdi mco mgo mbr mca] (some (.int ((s_X7_longest mP mQ mwm msd mls mhd mpe mno mwi mon mdi mco mgo mbr mca wh mH).1))) [modW cI m mle mpo mfa mrm mrw mP mQ mbk mkp msg ((s_X7_longest mP mQ mwm msd mls mhd mpe mno mwi mon mdi mco mgo mbr mca wh mH).2.1) mrs msd ((s_X7_longest mP mQ mwm msd mls mhd mpe mno mwi mon mdi mco mgo mbr mca wh mH).2.2.1) ((s_X7_longest mP mQ mwm msd mls mhd mpe mno mwi mon mdi mco mgo mbr mca wh mH).2.2.2.1) mtx mnu mrd mrl mpe mno mbo mim msi ((s_X7_longest mP mQ mwm msd mls mhd mpe mno mwi mon mdi mco mgo mbr mca wh mH).2.2.2.2.1) ((s_X7_longest mP mQ mwm msd mls mhd mpe mno mwi mon mdi mco mgo mbr mca wh mH).2.2.2.2.2.1) ((s_X7_longest mP mQ mwm msd mls mhd mpe mno mwi mon mdi mco mgo mbr mca wh mH).2.2.2.2.2.2.1) ((s_X7_longest mP mQ mwm msd mls mhd mpe mno mwi mon mdi mco mgo mbr mca wh mH).2.2.2.2.2.2.2.1) ((s_X7_longest mP mQ mwm msd mls mhd mpe mno mwi mon mdi mco mgo mbr mca wh mH).2.2.2.2.2.2.2.2.1) ((s_X7_longest mP mQ mwm msd mls mhd mpe mno mwi mon mdi mco mgo mbr mca wh mH).2.2.2.2.2.2.2.2.2.1) ((s_X7_longest mP mQ mwm msd mls mhd mpe mno mwi mon mdi mco mgo mbr mca wh mH).2.2.2.2.2.2.2.2.2.2)] := by
  refine zD_int (cc := cX7_longest) (maxL := 6) (ty := .int) (lv := [(0, .ref (m 31)), (1, .int wh)]) (by decide +kernel) rfl (Nat.le_of_ble_eq_true rfl) rfl (fun Z O hret => ?_)
  refine zr_iload_n (pc2 := 1) O dX7_longest_0 rfl 1 rfl rfl ?_
  refine zr_iconst (v := (nI 0)) (pc2 := 2) O dX7_longest_1 (by decide +kernel) rfl ?_
  refine zr_iconst (v := (nI 1)) (pc2 := 3) O dX7_longest_2 (by decide +kernel) rfl ?_
  refine zr_callS (As := [.int wh, .int (nI 0), .int (nI 1)]) (rest := []) (ws2 := [modW cI m mle mpo mfa mrm mrw mP mQ mbk mkp msg mwm mrs msd mls mhd mtx mnu mrd mrl mpe mno mbo mim msi mwi mon mdi mco mgo mbr mca]) (pc2 := 6) O (c_X7_in l D cI cC cJ wh (nI 0) (nI 1)) sC_X7_longest_76 rfl rfl dX7_longest_3 [] rfl rfl rfl rfl (Nat.le_of_ble_eq_true rfl) rfl ?_
  show Z _ _ _ [.int (zb (s_X7_in wh (nI 0) (nI 1)))]
  refine zb_if_ne (tgt := 11) (pc2 := 9) O dX7_longest_6 (by decide) rfl (fun c6 => ?_) (fun c6 => ?_)
  · refine zr_aload_n (pc2 := 12) O dX7_longest_11 rfl 0 rfl rfl ?_
    obtain ⟨u12, hu12⟩ : ∃ z9, z9 = s_X7_runPlain mP mQ msd mpe mno mwi mon mdi mco mgo mbr mca mH := ⟨_, rfl⟩
    refine zr_callV (As := []) (rest := []) (ws2 := [modW cI m mle mpo mfa mrm mrw mP mQ mbk mkp msg u12.1 mrs msd u12.2.1 u12.2.2.1 mtx mnu mrd mrl mpe mno mbo mim msi u12.2.2.2.1 u12.2.2.2.2.1 u12.2.2.2.2.2.1 u12.2.2.2.2.2.2.1 u12.2.2.2.2.2.2.2.1 u12.2.2.2.2.2.2.2.2.1 u12.2.2.2.2.2.2.2.2.2]) (pc2 := 15) (ci := 7) (g0 := 0) (q0 := 0) (v := none) (W := [modW cI m mle mpo mfa mrm mrw mP mQ mbk mkp msg mwm mrs msd mls mhd mtx mnu mrd mrl mpe mno mbo mim msi mwi mon mdi mco mgo mbr mca]) (W2 := [modW cI m mle mpo mfa mrm mrw mP mQ mbk mkp msg u12.1 mrs msd u12.2.1 u12.2.2.1 mtx mnu mrd mrl mpe mno mbo mim msi u12.2.2.2.1 u12.2.2.2.2.1 u12.2.2.2.2.2.1 u12.2.2.2.2.2.2.1 u12.2.2.2.2.2.2.2.1 u12.2.2.2.2.2.2.2.2.1 u12.2.2.2.2.2.2.2.2.2]) O (by rw [hu12]; exact (c_X7_runPlain l D cI cC cJ m mle mpo mfa mrm mrw mP mQ mbk mkp msg mwm mrs msd mls mhd mtx mnu mrd mrl mpe mno mbo mim msi mwi mon mdi mco mgo mbr mca mH (by first | assumption | omega) (by first | assumption | omega) (by first | assumption | omega) (by first | assumption | omega) (by first | assumption | omega) (by first | assumption | omega))) sC_X7_longest_183 rfl rfl rfl rfl rfl dX7_longest_12 [0] rfl rfl rfl rfl (Nat.le_of_ble_eq_true rfl) rfl ?_
    show Z _ _ _ []
    refine zr_iconst (v := (nI 0)) (pc2 := 16) O dX7_longest_15 (by decide +kernel) rfl ?_
    refine zr_istore_n (lv2 := [(2, .int (nI 0)), (0, .ref (m 31)), (1, .int wh)]) (pc2 := 17) O dX7_longest_16 rfl (by decide) rfl rfl ?_
    refine zr_iconst (v := (-1)) (pc2 := 18) O dX7_longest_17 (by decide +kernel) rfl ?_
    refine zr_istore_n (lv2 := [(3, .int (-1)), (2, .int (nI 0)), (0, .ref (m 31)), (1, .int wh)]) (pc2 := 19) O dX7_longest_18 rfl (by decide) rfl rfl ?_
    refine zr_iconst (v := (nI 0)) (pc2 := 20) O dX7_longest_19 (by decide +kernel) rfl ?_
    refine zr_istore (lv2 := [(4, .int (nI 0)), (3, .int (-1)), (2, .int (nI 0)), (0, .ref (m 31)), (1, .int wh)]) (pc2 := 22) O dX7_longest_20 (by decide) rfl rfl ?_
    have lp22 : ∀ (n9 : Nat) (i : Nat) (be : Int32) (mo : Int32), i + n9 = mP → f_X7_longest_22 u12 mP 0 (nI 0) (-1) = f_X7_longest_22 u12 n9 i be mo → Z [modW cI m mle mpo mfa mrm mrw mP mQ mbk mkp msg u12.1 mrs msd u12.2.1 u12.2.2.1 mtx mnu mrd mrl mpe mno mbo mim msi u12.2.2.2.1 u12.2.2.2.2.1 u12.2.2.2.2.2.1 u12.2.2.2.2.2.2.1 u12.2.2.2.2.2.2.2.1 u12.2.2.2.2.2.2.2.2.1 u12.2.2.2.2.2.2.2.2.2] [(4, .int (nI i)), (3, .int mo), (2, .int be), (0, .ref (m 31)), (1, .int wh)] 22 [] := by
      intro n9
      induction n9 with
      | zero =>
        intro i be mo hM22 hF22
        have hI22 : mP = i := by omega
        subst hI22
        obtain ⟨v28, hv28⟩ : ∃ z9, z9 = f_X7_longest_22 u12 mP 0 (nI 0) (-1) := ⟨_, rfl⟩
        rw [← hv28] at hF22
        have e9 : v28.1 = be := congrArg (fun z => z.1) hF22
        subst e9
        have e9 : v28.2 = mo := congrArg (fun z => z.2) hF22
        subst e9
        refine zr_iload (pc2 := 24) O dX7_longest_22 0 rfl rfl ?_
        refine zr_aload_n (pc2 := 25) O dX7_longest_24 rfl 3 rfl rfl ?_
        refine zr_getf (v := .int (nI mP)) (pc2 := 28) O sF_X7_longest_22 0 0 rfl rfl rfl dX7_longest_25 rfl ?_
        refine zn_icmp_ge (tgt := 98) (pc2 := 31) O dX7_longest_28 (by decide) rfl (by omega) (by omega) (fun c28 => ?_) (fun c28 => ?_)
        · refine zr_iload_n (pc2 := 99) O dX7_longest_98 rfl 4 rfl rfl ?_
          refine zr_if_ne (tgt := 106) (pc2 := 102) O dX7_longest_99 (by decide) rfl (fun c99 => ?_) (fun c99 => ?_)
          · refine zr_iload_n (pc2 := 107) O dX7_longest_106 rfl 1 rfl rfl ?_
            have hE : s_X7_longest mP mQ mwm msd mls mhd mpe mno mwi mon mdi mco mgo mbr mca wh mH = (v28.2, u12.1, u12.2.1, u12.2.2.1, u12.2.2.2.1, u12.2.2.2.2.1, u12.2.2.2.2.2.1, u12.2.2.2.2.2.2.1, u12.2.2.2.2.2.2.2.1, u12.2.2.2.2.2.2.2.2.1, u12.2.2.2.2.2.2.2.2.2) := by subst hv28; subst hu12; exact ((zif_t c6).trans (if_neg c99))
            exact hret _ _ _ _ dX7_longest_107 rfl (by rw [hE]) (by rw [hE])
          · refine zr_iload_n (pc2 := 103) O dX7_longest_102 rfl 2 rfl rfl ?_
            refine zr_goto (tgt := 107) O dX7_longest_103 (by decide) ?_
            have hE : s_X7_longest mP mQ mwm msd mls mhd mpe mno mwi mon mdi mco mgo mbr mca wh mH = (v28.1, u12.1, u12.2.1, u12.2.2.1, u12.2.2.2.1, u12.2.2.2.2.1, u12.2.2.2.2.2.1, u12.2.2.2.2.2.2.1, u12.2.2.2.2.2.2.2.1, u12.2.2.2.2.2.2.2.2.1, u12.2.2.2.2.2.2.2.2.2) := by subst hv28; subst hu12; exact ((zif_t c6).trans (if_pos c99))
            exact hret _ _ _ _ dX7_longest_107 rfl (by rw [hE]) (by rw [hE])
        · exact absurd c28 (by omega)
      | succ n9 ih22 =>
        intro i be mo hM22 hF22
        refine zr_iload (pc2 := 24) O dX7_longest_22 0 rfl rfl ?_
        refine zr_aload_n (pc2 := 25) O dX7_longest_24 rfl 3 rfl rfl ?_
        refine zr_getf (v := .int (nI mP)) (pc2 := 28) O sF_X7_longest_22 0 0 rfl rfl rfl dX7_longest_25 rfl ?_
        refine zn_icmp_ge (tgt := 98) (pc2 := 31) O dX7_longest_28 (by decide) rfl (by omega) (by omega) (fun c28 => ?_) (fun c28 => ?_)
        · exact absurd c28 (by omega)
        · refine zr_aload_n (pc2 := 32) O dX7_longest_31 rfl 3 rfl rfl ?_
          refine zr_getf (v := .ref (m 25)) (pc2 := 35) O sF_X7_longest_53 0 0 rfl rfl rfl dX7_longest_32 rfl ?_
          refine zr_iload (pc2 := 37) O dX7_longest_35 0 rfl rfl ?_
          refine zn_iald (j := i) (pc2 := 38) O 0 12 0 rfl rfl rfl rfl (by omega) (by decide) dX7_longest_37 rfl ?_
          refine zr_if_ge (tgt := 47) (pc2 := 41) O dX7_longest_38 (by decide) rfl (fun c38 => ?_) (fun c38 => ?_)
          · refine zr_aload_n (pc2 := 48) O dX7_longest_47 rfl 3 rfl rfl ?_
            refine zr_getf (v := .ref (m 25)) (pc2 := 51) O sF_X7_longest_53 0 0 rfl rfl rfl dX7_longest_48 rfl ?_
            refine zr_iload (pc2 := 53) O dX7_longest_51 0 rfl rfl ?_
            refine zn_iald (j := i) (pc2 := 54) O 0 12 0 rfl rfl rfl rfl (by omega) (by decide) dX7_longest_53 rfl ?_
            refine zr_aload_n (pc2 := 55) O dX7_longest_54 rfl 3 rfl rfl ?_
            refine zr_getf (v := .ref (m 23)) (pc2 := 58) O sF_X7_longest_50 0 0 rfl rfl rfl dX7_longest_55 rfl ?_
            refine zr_iconst (v := (nI 5)) (pc2 := 59) O dX7_longest_58 (by decide +kernel) rfl ?_
            refine zr_iload (pc2 := 61) O dX7_longest_59 0 rfl rfl ?_
            refine zr_imul (v := (nI (5 * i))) (pc2 := 62) O dX7_longest_61 (pk_mul 5 i) rfl ?_
            refine zn_iald (j := (5 * i)) (pc2 := 63) O 0 11 0 rfl rfl rfl rfl (by omega) (by decide) dX7_longest_62 rfl ?_
            refine zr_isub (v := ((u12.2.2.2.2.2.1 i) - (u12.2.2.2.2.1 (5 * i)))) (pc2 := 64) O dX7_longest_63 rfl rfl ?_
            refine zr_istore (lv2 := [(5, .int ((u12.2.2.2.2.2.1 i) - (u12.2.2.2.2.1 (5 * i)))), (4, .int (nI i)), (3, .int mo), (2, .int be), (0, .ref (m 31)), (1, .int wh)]) (pc2 := 66) O dX7_longest_64 (by decide) rfl rfl ?_
            refine zr_iload (pc2 := 68) O dX7_longest_66 0 rfl rfl ?_
            refine zr_iload_n (pc2 := 69) O dX7_longest_68 rfl 2 rfl rfl ?_
            refine zr_icmp_le (tgt := 77) (pc2 := 72) O dX7_longest_69 (by decide) rfl (fun c69 => ?_) (fun c69 => ?_)
            · refine zr_iload_n (pc2 := 78) O dX7_longest_77 rfl 3 rfl rfl ?_
              refine zr_istore_n (lv2 := [(2, .int be), (5, .int ((u12.2.2.2.2.2.1 i) - (u12.2.2.2.2.1 (5 * i)))), (4, .int (nI i)), (3, .int mo), (0, .ref (m 31)), (1, .int wh)]) (pc2 := 79) O dX7_longest_78 rfl (by decide) rfl rfl ?_
              refine zr_iload (pc2 := 81) O dX7_longest_79 1 rfl rfl ?_
              refine zr_iload_n (pc2 := 82) O dX7_longest_81 rfl 3 rfl rfl ?_
              refine zr_icmp_le (tgt := 90) (pc2 := 85) O dX7_longest_82 (by decide) rfl (fun c82 => ?_) (fun c82 => ?_)
              · refine zr_iload_n (pc2 := 91) O dX7_longest_90 rfl 3 rfl rfl ?_
                refine zr_istore_n (lv2 := [(3, .int mo), (2, .int be), (5, .int ((u12.2.2.2.2.2.1 i) - (u12.2.2.2.2.1 (5 * i)))), (4, .int (nI i)), (0, .ref (m 31)), (1, .int wh)]) (pc2 := 92) O dX7_longest_91 rfl (by decide) rfl rfl ?_
                refine zr_iinc (v := (nI (i + 1))) (lv2 := [(4, .int (nI (i + 1))), (3, .int mo), (2, .int be), (5, .int ((u12.2.2.2.2.2.1 i) - (u12.2.2.2.2.1 (5 * i)))), (0, .ref (m 31)), (1, .int wh)]) (pc2 := 95) O dX7_longest_92 3 rfl (zm_ofInt1 i) (by decide) rfl rfl ?_
                refine zr_goto (tgt := 22) O dX7_longest_95 (by decide) ?_
                refine zr_sub (lv2 := [(4, .int (nI (i + 1))), (3, .int mo), (2, .int be), (0, .ref (m 31)), (1, .int wh)]) O [0, 1, 2, 4, 5] rfl ?_
                have hE : f_X7_longest_22 u12 (n9 + 1) i be mo = f_X7_longest_22 u12 n9 (i + 1) be mo := by exact ((if_pos c38).trans ((if_pos c69).trans (if_pos c82)))
                exact ih22 (i + 1) be mo (by omega) (hF22.trans hE)
              · refine zr_iload (pc2 := 87) O dX7_longest_85 1 rfl rfl ?_
                refine zr_goto (tgt := 91) O dX7_longest_87 (by decide) ?_
                refine zr_istore_n (lv2 := [(3, .int ((u12.2.2.2.2.2.1 i) - (u12.2.2.2.2.1 (5 * i)))), (2, .int be), (5, .int ((u12.2.2.2.2.2.1 i) - (u12.2.2.2.2.1 (5 * i)))), (4, .int (nI i)), (0, .ref (m 31)), (1, .int wh)]) (pc2 := 92) O dX7_longest_91 rfl (by decide) rfl rfl ?_
                refine zr_iinc (v := (nI (i + 1))) (lv2 := [(4, .int (nI (i + 1))), (3, .int ((u12.2.2.2.2.2.1 i) - (u12.2.2.2.2.1 (5 * i)))), (2, .int be), (5, .int ((u12.2.2.2.2.2.1 i) - (u12.2.2.2.2.1 (5 * i)))), (0, .ref (m 31)), (1, .int wh)]) (pc2 := 95) O dX7_longest_92 3 rfl (zm_ofInt1 i) (by decide) rfl rfl ?_
                refine zr_goto (tgt := 22) O dX7_longest_95 (by decide) ?_
                refine zr_sub (lv2 := [(4, .int (nI (i + 1))), (3, .int ((u12.2.2.2.2.2.1 i) - (u12.2.2.2.2.1 (5 * i)))), (2, .int be), (0, .ref (m 31)), (1, .int wh)]) O [0, 1, 2, 4, 5] rfl ?_
                have hE : f_X7_longest_22 u12 (n9 + 1) i be mo = f_X7_longest_22 u12 n9 (i + 1) be ((u12.2.2.2.2.2.1 i) - (u12.2.2.2.2.1 (5 * i))) := by exact ((if_pos c38).trans ((if_pos c69).trans (if_neg c82)))
                exact ih22 (i + 1) be ((u12.2.2.2.2.2.1 i) - (u12.2.2.2.2.1 (5 * i))) (by omega) (hF22.trans hE)
            · refine zr_iload (pc2 := 74) O dX7_longest_72 1 rfl rfl ?_
              refine zr_goto (tgt := 78) O dX7_longest_74 (by decide) ?_
              refine zr_istore_n (lv2 := [(2, .int (nI i)), (5, .int ((u12.2.2.2.2.2.1 i) - (u12.2.2.2.2.1 (5 * i)))), (4, .int (nI i)), (3, .int mo), (0, .ref (m 31)), (1, .int wh)]) (pc2 := 79) O dX7_longest_78 rfl (by decide) rfl rfl ?_
              refine zr_iload (pc2 := 81) O dX7_longest_79 1 rfl rfl ?_
              refine zr_iload_n (pc2 := 82) O dX7_longest_81 rfl 3 rfl rfl ?_
              refine zr_icmp_le (tgt := 90) (pc2 := 85) O dX7_longest_82 (by decide) rfl (fun c82 => ?_) (fun c82 => ?_)
              · refine zr_iload_n (pc2 := 91) O dX7_longest_90 rfl 3 rfl rfl ?_
                refine zr_istore_n (lv2 := [(3, .int mo), (2, .int (nI i)), (5, .int ((u12.2.2.2.2.2.1 i) - (u12.2.2.2.2.1 (5 * i)))), (4, .int (nI i)), (0, .ref (m 31)), (1, .int wh)]) (pc2 := 92) O dX7_longest_91 rfl (by decide) rfl rfl ?_
                refine zr_iinc (v := (nI (i + 1))) (lv2 := [(4, .int (nI (i + 1))), (3, .int mo), (2, .int (nI i)), (5, .int ((u12.2.2.2.2.2.1 i) - (u12.2.2.2.2.1 (5 * i)))), (0, .ref (m 31)), (1, .int wh)]) (pc2 := 95) O dX7_longest_92 3 rfl (zm_ofInt1 i) (by decide) rfl rfl ?_
                refine zr_goto (tgt := 22) O dX7_longest_95 (by decide) ?_
                refine zr_sub (lv2 := [(4, .int (nI (i + 1))), (3, .int mo), (2, .int (nI i)), (0, .ref (m 31)), (1, .int wh)]) O [0, 1, 2, 4, 5] rfl ?_
                have hE : f_X7_longest_22 u12 (n9 + 1) i be mo = f_X7_longest_22 u12 n9 (i + 1) (nI i) mo := by exact ((if_pos c38).trans ((if_neg c69).trans (if_pos c82)))
                exact ih22 (i + 1) (nI i) mo (by omega) (hF22.trans hE)
              · refine zr_iload (pc2 := 87) O dX7_longest_85 1 rfl rfl ?_
                refine zr_goto (tgt := 91) O dX7_longest_87 (by decide) ?_
                refine zr_istore_n (lv2 := [(3, .int ((u12.2.2.2.2.2.1 i) - (u12.2.2.2.2.1 (5 * i)))), (2, .int (nI i)), (5, .int ((u12.2.2.2.2.2.1 i) - (u12.2.2.2.2.1 (5 * i)))), (4, .int (nI i)), (0, .ref (m 31)), (1, .int wh)]) (pc2 := 92) O dX7_longest_91 rfl (by decide) rfl rfl ?_
                refine zr_iinc (v := (nI (i + 1))) (lv2 := [(4, .int (nI (i + 1))), (3, .int ((u12.2.2.2.2.2.1 i) - (u12.2.2.2.2.1 (5 * i)))), (2, .int (nI i)), (5, .int ((u12.2.2.2.2.2.1 i) - (u12.2.2.2.2.1 (5 * i)))), (0, .ref (m 31)), (1, .int wh)]) (pc2 := 95) O dX7_longest_92 3 rfl (zm_ofInt1 i) (by decide) rfl rfl ?_
                refine zr_goto (tgt := 22) O dX7_longest_95 (by decide) ?_
                refine zr_sub (lv2 := [(4, .int (nI (i + 1))), (3, .int ((u12.2.2.2.2.2.1 i) - (u12.2.2.2.2.1 (5 * i)))), (2, .int (nI i)), (0, .ref (m 31)), (1, .int wh)]) O [0, 1, 2, 4, 5] rfl ?_
                have hE : f_X7_longest_22 u12 (n9 + 1) i be mo = f_X7_longest_22 u12 n9 (i + 1) (nI i) ((u12.2.2.2.2.2.1 i) - (u12.2.2.2.2.1 (5 * i))) := by exact ((if_pos c38).trans ((if_neg c69).trans (if_neg c82)))
                exact ih22 (i + 1) (nI i) ((u12.2.2.2.2.2.1 i) - (u12.2.2.2.2.1 (5 * i))) (by omega) (hF22.trans hE)
          · refine zr_sipush (v := (nI 150)) (pc2 := 44) O dX7_longest_41 (by decide +kernel) rfl ?_
            refine zr_goto (tgt := 54) O dX7_longest_44 (by decide) ?_
            refine zr_aload_n (pc2 := 55) O dX7_longest_54 rfl 3 rfl rfl ?_
            refine zr_getf (v := .ref (m 23)) (pc2 := 58) O sF_X7_longest_50 0 0 rfl rfl rfl dX7_longest_55 rfl ?_
            refine zr_iconst (v := (nI 5)) (pc2 := 59) O dX7_longest_58 (by decide +kernel) rfl ?_
            refine zr_iload (pc2 := 61) O dX7_longest_59 0 rfl rfl ?_
            refine zr_imul (v := (nI (5 * i))) (pc2 := 62) O dX7_longest_61 (pk_mul 5 i) rfl ?_
            refine zn_iald (j := (5 * i)) (pc2 := 63) O 0 11 0 rfl rfl rfl rfl (by omega) (by decide) dX7_longest_62 rfl ?_
            refine zr_isub (v := ((nI 150) - (u12.2.2.2.2.1 (5 * i)))) (pc2 := 64) O dX7_longest_63 rfl rfl ?_
            refine zr_istore (lv2 := [(5, .int ((nI 150) - (u12.2.2.2.2.1 (5 * i)))), (4, .int (nI i)), (3, .int mo), (2, .int be), (0, .ref (m 31)), (1, .int wh)]) (pc2 := 66) O dX7_longest_64 (by decide) rfl rfl ?_
            refine zr_iload (pc2 := 68) O dX7_longest_66 0 rfl rfl ?_
            refine zr_iload_n (pc2 := 69) O dX7_longest_68 rfl 2 rfl rfl ?_
            refine zr_icmp_le (tgt := 77) (pc2 := 72) O dX7_longest_69 (by decide) rfl (fun c69 => ?_) (fun c69 => ?_)
            · refine zr_iload_n (pc2 := 78) O dX7_longest_77 rfl 3 rfl rfl ?_
              refine zr_istore_n (lv2 := [(2, .int be), (5, .int ((nI 150) - (u12.2.2.2.2.1 (5 * i)))), (4, .int (nI i)), (3, .int mo), (0, .ref (m 31)), (1, .int wh)]) (pc2 := 79) O dX7_longest_78 rfl (by decide) rfl rfl ?_
              refine zr_iload (pc2 := 81) O dX7_longest_79 1 rfl rfl ?_
              refine zr_iload_n (pc2 := 82) O dX7_longest_81 rfl 3 rfl rfl ?_
              refine zr_icmp_le (tgt := 90) (pc2 := 85) O dX7_longest_82 (by decide) rfl (fun c82 => ?_) (fun c82 => ?_)
              · refine zr_iload_n (pc2 := 91) O dX7_longest_90 rfl 3 rfl rfl ?_
                refine zr_istore_n (lv2 := [(3, .int mo), (2, .int be), (5, .int ((nI 150) - (u12.2.2.2.2.1 (5 * i)))), (4, .int (nI i)), (0, .ref (m 31)), (1, .int wh)]) (pc2 := 92) O dX7_longest_91 rfl (by decide) rfl rfl ?_
                refine zr_iinc (v := (nI (i + 1))) (lv2 := [(4, .int (nI (i + 1))), (3, .int mo), (2, .int be), (5, .int ((nI 150) - (u12.2.2.2.2.1 (5 * i)))), (0, .ref (m 31)), (1, .int wh)]) (pc2 := 95) O dX7_longest_92 3 rfl (zm_ofInt1 i) (by decide) rfl rfl ?_
                refine zr_goto (tgt := 22) O dX7_longest_95 (by decide) ?_
                refine zr_sub (lv2 := [(4, .int (nI (i + 1))), (3, .int mo), (2, .int be), (0, .ref (m 31)), (1, .int wh)]) O [0, 1, 2, 4, 5] rfl ?_
                have hE : f_X7_longest_22 u12 (n9 + 1) i be mo = f_X7_longest_22 u12 n9 (i + 1) be mo := by exact ((if_neg c38).trans ((if_pos c69).trans (if_pos c82)))
                exact ih22 (i + 1) be mo (by omega) (hF22.trans hE)
              · refine zr_iload (pc2 := 87) O dX7_longest_85 1 rfl rfl ?_
                refine zr_goto (tgt := 91) O dX7_longest_87 (by decide) ?_
                refine zr_istore_n (lv2 := [(3, .int ((nI 150) - (u12.2.2.2.2.1 (5 * i)))), (2, .int be), (5, .int ((nI 150) - (u12.2.2.2.2.1 (5 * i)))), (4, .int (nI i)), (0, .ref (m 31)), (1, .int wh)]) (pc2 := 92) O dX7_longest_91 rfl (by decide) rfl rfl ?_
                refine zr_iinc (v := (nI (i + 1))) (lv2 := [(4, .int (nI (i + 1))), (3, .int ((nI 150) - (u12.2.2.2.2.1 (5 * i)))), (2, .int be), (5, .int ((nI 150) - (u12.2.2.2.2.1 (5 * i)))), (0, .ref (m 31)), (1, .int wh)]) (pc2 := 95) O dX7_longest_92 3 rfl (zm_ofInt1 i) (by decide) rfl rfl ?_
                refine zr_goto (tgt := 22) O dX7_longest_95 (by decide) ?_
                refine zr_sub (lv2 := [(4, .int (nI (i + 1))), (3, .int ((nI 150) - (u12.2.2.2.2.1 (5 * i)))), (2, .int be), (0, .ref (m 31)), (1, .int wh)]) O [0, 1, 2, 4, 5] rfl ?_
                have hE : f_X7_longest_22 u12 (n9 + 1) i be mo = f_X7_longest_22 u12 n9 (i + 1) be ((nI 150) - (u12.2.2.2.2.1 (5 * i))) := by exact ((if_neg c38).trans ((if_pos c69).trans (if_neg c82)))
                exact ih22 (i + 1) be ((nI 150) - (u12.2.2.2.2.1 (5 * i))) (by omega) (hF22.trans hE)
            · refine zr_iload (pc2 := 74) O dX7_longest_72 1 rfl rfl ?_
              refine zr_goto (tgt := 78) O dX7_longest_74 (by decide) ?_
              refine zr_istore_n (lv2 := [(2, .int (nI i)), (5, .int ((nI 150) - (u12.2.2.2.2.1 (5 * i)))), (4, .int (nI i)), (3, .int mo), (0, .ref (m 31)), (1, .int wh)]) (pc2 := 79) O dX7_longest_78 rfl (by decide) rfl rfl ?_
              refine zr_iload (pc2 := 81) O dX7_longest_79 1 rfl rfl ?_
              refine zr_iload_n (pc2 := 82) O dX7_longest_81 rfl 3 rfl rfl ?_
              refine zr_icmp_le (tgt := 90) (pc2 := 85) O dX7_longest_82 (by decide) rfl (fun c82 => ?_) (fun c82 => ?_)
              · refine zr_iload_n (pc2 := 91) O dX7_longest_90 rfl 3 rfl rfl ?_
                refine zr_istore_n (lv2 := [(3, .int mo), (2, .int (nI i)), (5, .int ((nI 150) - (u12.2.2.2.2.1 (5 * i)))), (4, .int (nI i)), (0, .ref (m 31)), (1, .int wh)]) (pc2 := 92) O dX7_longest_91 rfl (by decide) rfl rfl ?_
                refine zr_iinc (v := (nI (i + 1))) (lv2 := [(4, .int (nI (i + 1))), (3, .int mo), (2, .int (nI i)), (5, .int ((nI 150) - (u12.2.2.2.2.1 (5 * i)))), (0, .ref (m 31)), (1, .int wh)]) (pc2 := 95) O dX7_longest_92 3 rfl (zm_ofInt1 i) (by decide) rfl rfl ?_
                refine zr_goto (tgt := 22) O dX7_longest_95 (by decide) ?_
                refine zr_sub (lv2 := [(4, .int (nI (i + 1))), (3, .int mo), (2, .int (nI i)), (0, .ref (m 31)), (1, .int wh)]) O [0, 1, 2, 4, 5] rfl ?_
                have hE : f_X7_longest_22 u12 (n9 + 1) i be mo = f_X7_longest_22 u12 n9 (i + 1) (nI i) mo := by exact ((if_neg c38).trans ((if_neg c69).trans (if_pos c82)))
                exact ih22 (i + 1) (nI i) mo (by omega) (hF22.trans hE)
              · refine zr_iload (pc2 := 87) O dX7_longest_85 1 rfl rfl ?_
                refine zr_goto (tgt := 91) O dX7_longest_87 (by decide) ?_
                refine zr_istore_n (lv2 := [(3, .int ((nI 150) - (u12.2.2.2.2.1 (5 * i)))), (2, .int (nI i)), (5, .int ((nI 150) - (u12.2.2.2.2.1 (5 * i)))), (4, .int (nI i)), (0, .ref (m 31)), (1, .int wh)]) (pc2 := 92) O dX7_longest_91 rfl (by decide) rfl rfl ?_
                refine zr_iinc (v := (nI (i + 1))) (lv2 := [(4, .int (nI (i + 1))), (3, .int ((nI 150) - (u12.2.2.2.2.1 (5 * i)))), (2, .int (nI i)), (5, .int ((nI 150) - (u12.2.2.2.2.1 (5 * i)))), (0, .ref (m 31)), (1, .int wh)]) (pc2 := 95) O dX7_longest_92 3 rfl (zm_ofInt1 i) (by decide) rfl rfl ?_
                refine zr_goto (tgt := 22) O dX7_longest_95 (by decide) ?_
                refine zr_sub (lv2 := [(4, .int (nI (i + 1))), (3, .int ((nI 150) - (u12.2.2.2.2.1 (5 * i)))), (2, .int (nI i)), (0, .ref (m 31)), (1, .int wh)]) O [0, 1, 2, 4, 5] rfl ?_
                have hE : f_X7_longest_22 u12 (n9 + 1) i be mo = f_X7_longest_22 u12 n9 (i + 1) (nI i) ((nI 150) - (u12.2.2.2.2.1 (5 * i))) := by exact ((if_neg c38).trans ((if_neg c69).trans (if_neg c82)))
                exact ih22 (i + 1) (nI i) ((nI 150) - (u12.2.2.2.2.1 (5 * i))) (by omega) (hF22.trans hE)
    exact lp22 mP 0 (nI 0) (-1) (by omega) rfl
  · refine zr_iconst (v := (-1)) (pc2 := 10) O dX7_longest_9 (by decide +kernel) rfl ?_
    have hE : s_X7_longest mP mQ mwm msd mls mhd mpe mno mwi mon mdi mco mgo mbr mca wh mH = ((-1), mwm, mls, mhd, mwi, mon, mdi, mco, mgo, mbr, mca) := by exact (zif_f c6)
    exact hret _ _ _ _ dX7_longest_10 rfl (by rw [hE]) (by rw [hE])
/-! X7_prepareBut -/
def f_X7_prepareBut_39 (mno : zF) (k : Nat) (mwm9 : Nat) : Nat → Nat → zF → zF
  | 0, _, mwi8 => mwi8
  | n9 + 1, c, mwi8 => f_X7_prepareBut_39 mno k mwm9 n9 (c + 1) (upd mwi8 ((3 * mwm9) + c) (mno ((3 * k) + c)))
def f_X7_prepareBut_11 (mno : zF) (who : Int32) (left : Int32) : Nat → Nat → Nat → zF → Nat × zF
  | 0, _, mwm9, mwi9 => (mwm9, mwi9)
  | n9 + 1, k, mwm9, mwi9 => if (mno (3 * k)) = who then f_X7_prepareBut_11 mno who left n9 (k + 1) mwm9 mwi9 else if (nI k) = left then f_X7_prepareBut_11 mno who left n9 (k + 1) mwm9 mwi9 else f_X7_prepareBut_11 mno who left n9 (k + 1) (mwm9 + 1) (f_X7_prepareBut_39 mno k mwm9 3 0 mwi9)
def s_X7_prepareBut (mP : Nat) (mQ : Nat) (msd : Int32) (mpe : zF) (mno : zF) (mwi : zF) (mon : zF) (who : Int32) (left : Int32) : Nat × Int32 × zF × zF := let u1 := s_X7_prepare mP mQ msd mpe mno mwi mon; let v16 := f_X7_prepareBut_11 mno who left mQ 0 0 u1.2.2.1; (v16.1, u1.2.1, v16.2, u1.2.2.2)
set_option maxHeartbeats 4000000 in
set_option maxRecDepth 100000 in
theorem c_X7_prepareBut (l : Launch) (D : va_G) (cI cC cJ : ClassId) (m : Nat → Nat) (mle : Nat) (mpo : Nat) (mfa : Nat) (mrm : Nat) (mrw : Nat) (mP : Nat) (mQ : Nat) (mbk : Nat) (mkp : Nat) (msg : Nat) (mwm : Nat) (mrs : Int32) (msd : Int32) (mls : Int32) (mhd : Int32) (mtx : zF) (mnu : zF) (mrd : zF) (mrl : zF) (mpe : zF) (mno : zF) (mbo : zF) (mim : zF) (msi : zF) (mwi : zF) (mon : zF) (mdi : zF) (mco : zF) (mgo : zF) (mbr : zF) (mca : zF) (who : Int32) (left : Int32) (hmP : mP ≤ 6) (hmQ : mQ ≤ 9) : zD l yX7_prepareBut wsX7_prepareBut rm_X7_prepareBut D (zT cI cC cJ) [.ref (m 31), .int who, .int left] [modW cI m mle mpo mfa mrm mrw mP mQ mbk mkp msg mwm mrs msd mls mhd mtx mnu mrd mrl mpe mno mbo mim msi mwi mon mdi mco mgo mbr mca] none [modW cI m mle mpo mfa mrm mrw mP mQ mbk mkp msg ((s_X7_prepareBut mP mQ msd mpe mno mwi mon who left).1) mrs msd ((s_X7_prepareBut mP mQ msd mpe mno mwi mon who left).2.1) mhd mtx mnu mrd mrl mpe mno mbo mim msi ((s_X7_prepareBut mP mQ msd mpe mno mwi mon who left).2.2.1) ((s_X7_prepareBut mP mQ msd mpe mno mwi mon who left).2.2.2) mdi mco mgo mbr mca] := by
  refine zD_void (cc := cX7_prepareBut) (maxL := 5) (lv := [(0, .ref (m 31)), (1, .int who), (2, .int left)]) (by decide +kernel) rfl (Nat.le_of_ble_eq_true rfl) rfl (fun Z O hret => ?_)
  refine zr_aload_n (pc2 := 1) O dX7_prepareBut_0 rfl 0 rfl rfl ?_
  obtain ⟨u1, hu1⟩ : ∃ z9, z9 = s_X7_prepare mP mQ msd mpe mno mwi mon := ⟨_, rfl⟩
  refine zr_callV (As := []) (rest := []) (ws2 := [modW cI m mle mpo mfa mrm mrw mP mQ mbk mkp msg u1.1 mrs msd u1.2.1 mhd mtx mnu mrd mrl mpe mno mbo mim msi u1.2.2.1 u1.2.2.2 mdi mco mgo mbr mca]) (pc2 := 4) (ci := 7) (g0 := 0) (q0 := 0) (v := none) (W := [modW cI m mle mpo mfa mrm mrw mP mQ mbk mkp msg mwm mrs msd mls mhd mtx mnu mrd mrl mpe mno mbo mim msi mwi mon mdi mco mgo mbr mca]) (W2 := [modW cI m mle mpo mfa mrm mrw mP mQ mbk mkp msg u1.1 mrs msd u1.2.1 mhd mtx mnu mrd mrl mpe mno mbo mim msi u1.2.2.1 u1.2.2.2 mdi mco mgo mbr mca]) O (by rw [hu1]; exact (c_X7_prepare l D cI cC cJ m mle mpo mfa mrm mrw mP mQ mbk mkp msg mwm mrs msd mls mhd mtx mnu mrd mrl mpe mno mbo mim msi mwi mon mdi mco mgo mbr mca (by first | assumption | omega) (by first | assumption | omega))) sC_X7_prepareBut_177 rfl rfl rfl rfl rfl dX7_prepareBut_1 [0] rfl rfl rfl rfl (Nat.le_of_ble_eq_true rfl) rfl ?_
  show Z _ _ _ []
  refine zr_aload_n (pc2 := 5) O dX7_prepareBut_4 rfl 0 rfl rfl ?_
  refine zr_iconst (v := (nI 0)) (pc2 := 6) O dX7_prepareBut_5 (by decide +kernel) rfl ?_
  refine zr_putf (G2 := modW cI m mle mpo mfa mrm mrw mP mQ mbk mkp msg 0 mrs msd u1.2.1 mhd mtx mnu mrd mrl mpe mno mbo mim msi u1.2.2.1 u1.2.2.2 mdi mco mgo mbr mca) (ws2 := [modW cI m mle mpo mfa mrm mrw mP mQ mbk mkp msg 0 mrs msd u1.2.1 mhd mtx mnu mrd mrl mpe mno mbo mim msi u1.2.2.1 u1.2.2.2 mdi mco mgo mbr mca]) (pc2 := 9) O sP_X7_prepareBut_138 0 0 rfl rfl rfl rfl (Nat.le_of_ble_eq_true rfl) dX7_prepareBut_6 rfl rfl rfl ?_
  refine zr_iconst (v := (nI 0)) (pc2 := 10) O dX7_prepareBut_9 (by decide +kernel) rfl ?_
  refine zr_istore_n (lv2 := [(3, .int (nI 0)), (0, .ref (m 31)), (1, .int who), (2, .int left)]) (pc2 := 11) O dX7_prepareBut_10 rfl (by decide) rfl rfl ?_
  have lp11 : ∀ (n9 : Nat) (k : Nat) (mwm9 : Nat) (mwi9 : zF), k + n9 = mQ → (mwm9 ≤ k) → f_X7_prepareBut_11 mno who left mQ 0 0 u1.2.2.1 = f_X7_prepareBut_11 mno who left n9 k mwm9 mwi9 → Z [modW cI m mle mpo mfa mrm mrw mP mQ mbk mkp msg mwm9 mrs msd u1.2.1 mhd mtx mnu mrd mrl mpe mno mbo mim msi mwi9 u1.2.2.2 mdi mco mgo mbr mca] [(3, .int (nI k)), (0, .ref (m 31)), (1, .int who), (2, .int left)] 11 [] := by
    intro n9
    induction n9 with
    | zero =>
      intro k mwm9 mwi9 hM11 hw hF11
      have hI11 : mQ = k := by omega
      subst hI11
      obtain ⟨v16, hv16⟩ : ∃ z9, z9 = f_X7_prepareBut_11 mno who left mQ 0 0 u1.2.2.1 := ⟨_, rfl⟩
      rw [← hv16] at hF11
      have e9 : v16.1 = mwm9 := congrArg (fun z => z.1) hF11
      subst e9
      have e9 : v16.2 = mwi9 := congrArg (fun z => z.2) hF11
      subst e9
      refine zr_iload_n (pc2 := 12) O dX7_prepareBut_11 rfl 0 rfl rfl ?_
      refine zr_aload_n (pc2 := 13) O dX7_prepareBut_12 rfl 1 rfl rfl ?_
      refine zr_getf (v := .int (nI mQ)) (pc2 := 16) O sF_X7_prepareBut_29 0 0 rfl rfl rfl dX7_prepareBut_13 rfl ?_
      refine zn_icmp_ge (tgt := 92) (pc2 := 19) O dX7_prepareBut_16 (by decide) rfl (by omega) (by omega) (fun c16 => ?_) (fun c16 => ?_)
      · have hE : s_X7_prepareBut mP mQ msd mpe mno mwi mon who left = (v16.1, u1.2.1, v16.2, u1.2.2.2) := by subst hv16; subst hu1; exact rfl
        exact hret _ _ _ dX7_prepareBut_92 (by rw [hE])
      · exact absurd c16 (by omega)
    | succ n9 ih11 =>
      intro k mwm9 mwi9 hM11 hw hF11
      refine zr_iload_n (pc2 := 12) O dX7_prepareBut_11 rfl 0 rfl rfl ?_
      refine zr_aload_n (pc2 := 13) O dX7_prepareBut_12 rfl 1 rfl rfl ?_
      refine zr_getf (v := .int (nI mQ)) (pc2 := 16) O sF_X7_prepareBut_29 0 0 rfl rfl rfl dX7_prepareBut_13 rfl ?_
      refine zn_icmp_ge (tgt := 92) (pc2 := 19) O dX7_prepareBut_16 (by decide) rfl (by omega) (by omega) (fun c16 => ?_) (fun c16 => ?_)
      · exact absurd c16 (by omega)
      · refine zr_aload_n (pc2 := 20) O dX7_prepareBut_19 rfl 1 rfl rfl ?_
        refine zr_getf (v := .ref (m 14)) (pc2 := 23) O sF_X7_prepareBut_35 0 0 rfl rfl rfl dX7_prepareBut_20 rfl ?_
        refine zr_iconst (v := (nI 3)) (pc2 := 24) O dX7_prepareBut_23 (by decide +kernel) rfl ?_
        refine zr_iload_n (pc2 := 25) O dX7_prepareBut_24 rfl 0 rfl rfl ?_
        refine zr_imul (v := (nI (3 * k))) (pc2 := 26) O dX7_prepareBut_25 (pk_mul 3 k) rfl ?_
        refine zn_iald (j := (3 * k)) (pc2 := 27) O 0 6 0 rfl rfl rfl rfl (by omega) (by decide) dX7_prepareBut_26 rfl ?_
        refine zr_iload_n (pc2 := 28) O dX7_prepareBut_27 rfl 2 rfl rfl ?_
        refine zr_icmp_eq (tgt := 86) (pc2 := 31) O dX7_prepareBut_28 (by decide) rfl (fun c28 => ?_) (fun c28 => ?_)
        · refine zr_iinc (v := (nI (k + 1))) (lv2 := [(3, .int (nI (k + 1))), (0, .ref (m 31)), (1, .int who), (2, .int left)]) (pc2 := 89) O dX7_prepareBut_86 0 rfl (zm_ofInt1 k) (by decide) rfl rfl ?_
          refine zr_goto (tgt := 11) O dX7_prepareBut_89 (by decide) ?_
          have hE : f_X7_prepareBut_11 mno who left (n9 + 1) k mwm9 mwi9 = f_X7_prepareBut_11 mno who left n9 (k + 1) mwm9 mwi9 := by exact (if_pos c28)
          exact ih11 (k + 1) mwm9 mwi9 (by omega) (by omega) (hF11.trans hE)
        · refine zr_iload_n (pc2 := 32) O dX7_prepareBut_31 rfl 0 rfl rfl ?_
          refine zr_iload_n (pc2 := 33) O dX7_prepareBut_32 rfl 3 rfl rfl ?_
          refine zr_icmp_eq (tgt := 86) (pc2 := 36) O dX7_prepareBut_33 (by decide) rfl (fun c33 => ?_) (fun c33 => ?_)
          · refine zr_iinc (v := (nI (k + 1))) (lv2 := [(3, .int (nI (k + 1))), (0, .ref (m 31)), (1, .int who), (2, .int left)]) (pc2 := 89) O dX7_prepareBut_86 0 rfl (zm_ofInt1 k) (by decide) rfl rfl ?_
            refine zr_goto (tgt := 11) O dX7_prepareBut_89 (by decide) ?_
            have hE : f_X7_prepareBut_11 mno who left (n9 + 1) k mwm9 mwi9 = f_X7_prepareBut_11 mno who left n9 (k + 1) mwm9 mwi9 := by exact ((if_neg c28).trans (if_pos c33))
            exact ih11 (k + 1) mwm9 mwi9 (by omega) (by omega) (hF11.trans hE)
          · refine zr_iconst (v := (nI 0)) (pc2 := 37) O dX7_prepareBut_36 (by decide +kernel) rfl ?_
            refine zr_istore (lv2 := [(4, .int (nI 0)), (3, .int (nI k)), (0, .ref (m 31)), (1, .int who), (2, .int left)]) (pc2 := 39) O dX7_prepareBut_37 (by decide) rfl rfl ?_
            have lp39 : ∀ (n9 : Nat) (c : Nat) (mwi8 : zF), c + n9 = 3 → f_X7_prepareBut_39 mno k mwm9 3 0 mwi9 = f_X7_prepareBut_39 mno k mwm9 n9 c mwi8 → Z [modW cI m mle mpo mfa mrm mrw mP mQ mbk mkp msg mwm9 mrs msd u1.2.1 mhd mtx mnu mrd mrl mpe mno mbo mim msi mwi8 u1.2.2.2 mdi mco mgo mbr mca] [(4, .int (nI c)), (3, .int (nI k)), (0, .ref (m 31)), (1, .int who), (2, .int left)] 39 [] := by
              intro n9
              induction n9 with
              | zero =>
                intro c mwi8 hM39 hF39
                have hI39 : 3 = c := by omega
                subst hI39
                have e9 : (f_X7_prepareBut_39 mno k mwm9 3 0 mwi9) = mwi8 := hF39
                subst e9
                refine zr_iload (pc2 := 41) O dX7_prepareBut_39 0 rfl rfl ?_
                refine zr_iconst (v := (nI 3)) (pc2 := 42) O dX7_prepareBut_41 (by decide +kernel) rfl ?_
                refine zn_icmp_ge (tgt := 76) (pc2 := 45) O dX7_prepareBut_42 (by decide) rfl (by omega) (by omega) (fun c42 => ?_) (fun c42 => ?_)
                · refine zr_aload_n (pc2 := 77) O dX7_prepareBut_76 rfl 2 rfl rfl ?_
                  refine zr_dup (pc2 := 78) O dX7_prepareBut_77 rfl rfl ?_
                  refine zr_getf (v := .int (nI mwm9)) (pc2 := 81) O sF_X7_prepareBut_138 0 0 rfl rfl rfl dX7_prepareBut_78 rfl ?_
                  refine zr_iconst (v := (nI 1)) (pc2 := 82) O dX7_prepareBut_81 (by decide +kernel) rfl ?_
                  refine zr_iadd (v := (nI (mwm9 + 1))) (pc2 := 83) O dX7_prepareBut_82 (nI_add mwm9 1) rfl ?_
                  refine zr_putf (G2 := modW cI m mle mpo mfa mrm mrw mP mQ mbk mkp msg (mwm9 + 1) mrs msd u1.2.1 mhd mtx mnu mrd mrl mpe mno mbo mim msi (f_X7_prepareBut_39 mno k mwm9 3 0 mwi9) u1.2.2.2 mdi mco mgo mbr mca) (ws2 := [modW cI m mle mpo mfa mrm mrw mP mQ mbk mkp msg (mwm9 + 1) mrs msd u1.2.1 mhd mtx mnu mrd mrl mpe mno mbo mim msi (f_X7_prepareBut_39 mno k mwm9 3 0 mwi9) u1.2.2.2 mdi mco mgo mbr mca]) (pc2 := 86) O sP_X7_prepareBut_138 0 0 rfl rfl rfl rfl (Nat.le_of_ble_eq_true rfl) dX7_prepareBut_83 rfl rfl rfl ?_
                  refine zr_iinc (v := (nI (k + 1))) (lv2 := [(3, .int (nI (k + 1))), (4, .int (nI 3)), (0, .ref (m 31)), (1, .int who), (2, .int left)]) (pc2 := 89) O dX7_prepareBut_86 1 rfl (zm_ofInt1 k) (by decide) rfl rfl ?_
                  refine zr_goto (tgt := 11) O dX7_prepareBut_89 (by decide) ?_
                  refine zr_sub (lv2 := [(3, .int (nI (k + 1))), (0, .ref (m 31)), (1, .int who), (2, .int left)]) O [0, 2, 3, 4] rfl ?_
                  have hE : f_X7_prepareBut_11 mno who left (n9 + 1) k mwm9 mwi9 = f_X7_prepareBut_11 mno who left n9 (k + 1) (mwm9 + 1) (f_X7_prepareBut_39 mno k mwm9 3 0 mwi9) := by exact ((if_neg c28).trans (if_neg c33))
                  exact ih11 (k + 1) (mwm9 + 1) (f_X7_prepareBut_39 mno k mwm9 3 0 mwi9) (by omega) (by omega) (hF11.trans hE)
                · exact absurd c42 (by decide)
              | succ n9 ih39 =>
                intro c mwi8 hM39 hF39
                refine zr_iload (pc2 := 41) O dX7_prepareBut_39 0 rfl rfl ?_
                refine zr_iconst (v := (nI 3)) (pc2 := 42) O dX7_prepareBut_41 (by decide +kernel) rfl ?_
                refine zn_icmp_ge (tgt := 76) (pc2 := 45) O dX7_prepareBut_42 (by decide) rfl (by omega) (by omega) (fun c42 => ?_) (fun c42 => ?_)
                · exact absurd c42 (by omega)
                · refine zr_aload_n (pc2 := 46) O dX7_prepareBut_45 rfl 2 rfl rfl ?_
                  refine zr_getf (v := .ref (m 21)) (pc2 := 49) O sF_X7_prepareBut_47 0 0 rfl rfl rfl dX7_prepareBut_46 rfl ?_
                  refine zr_iconst (v := (nI 3)) (pc2 := 50) O dX7_prepareBut_49 (by decide +kernel) rfl ?_
                  refine zr_aload_n (pc2 := 51) O dX7_prepareBut_50 rfl 2 rfl rfl ?_
                  refine zr_getf (v := .int (nI mwm9)) (pc2 := 54) O sF_X7_prepareBut_138 0 0 rfl rfl rfl dX7_prepareBut_51 rfl ?_
                  refine zr_imul (v := (nI (3 * mwm9))) (pc2 := 55) O dX7_prepareBut_54 (pk_mul 3 mwm9) rfl ?_
                  refine zr_iload (pc2 := 57) O dX7_prepareBut_55 0 rfl rfl ?_
                  refine zr_iadd (v := (nI ((3 * mwm9) + c))) (pc2 := 58) O dX7_prepareBut_57 (nI_add (3 * mwm9) c) rfl ?_
                  refine zr_aload_n (pc2 := 59) O dX7_prepareBut_58 rfl 2 rfl rfl ?_
                  refine zr_getf (v := .ref (m 14)) (pc2 := 62) O sF_X7_prepareBut_35 0 0 rfl rfl rfl dX7_prepareBut_59 rfl ?_
                  refine zr_iconst (v := (nI 3)) (pc2 := 63) O dX7_prepareBut_62 (by decide +kernel) rfl ?_
                  refine zr_iload_n (pc2 := 64) O dX7_prepareBut_63 rfl 1 rfl rfl ?_
                  refine zr_imul (v := (nI (3 * k))) (pc2 := 65) O dX7_prepareBut_64 (pk_mul 3 k) rfl ?_
                  refine zr_iload (pc2 := 67) O dX7_prepareBut_65 0 rfl rfl ?_
                  refine zr_iadd (v := (nI ((3 * k) + c))) (pc2 := 68) O dX7_prepareBut_67 (nI_add (3 * k) c) rfl ?_
                  refine zn_iald (j := ((3 * k) + c)) (pc2 := 69) O 0 6 0 rfl rfl rfl rfl (by omega) (by decide) dX7_prepareBut_68 rfl ?_
                  refine zn_iast (j := ((3 * mwm9) + c)) (G2 := modW cI m mle mpo mfa mrm mrw mP mQ mbk mkp msg mwm9 mrs msd u1.2.1 mhd mtx mnu mrd mrl mpe mno mbo mim msi (upd mwi8 ((3 * mwm9) + c) (mno ((3 * k) + c))) u1.2.2.2 mdi mco mgo mbr mca) (ws2 := [modW cI m mle mpo mfa mrm mrw mP mQ mbk mkp msg mwm9 mrs msd u1.2.1 mhd mtx mnu mrd mrl mpe mno mbo mim msi (upd mwi8 ((3 * mwm9) + c) (mno ((3 * k) + c))) u1.2.2.2 mdi mco mgo mbr mca]) (pc2 := 70) O 0 10 0 rfl rfl rfl rfl (by omega) (by decide) dX7_prepareBut_69 rfl rfl rfl ?_
                  refine zr_iinc (v := (nI (c + 1))) (lv2 := [(4, .int (nI (c + 1))), (3, .int (nI k)), (0, .ref (m 31)), (1, .int who), (2, .int left)]) (pc2 := 73) O dX7_prepareBut_70 0 rfl (zm_ofInt1 c) (by decide) rfl rfl ?_
                  refine zr_goto (tgt := 39) O dX7_prepareBut_73 (by decide) ?_
                  have hE : f_X7_prepareBut_39 mno k mwm9 (n9 + 1) c mwi8 = f_X7_prepareBut_39 mno k mwm9 n9 (c + 1) (upd mwi8 ((3 * mwm9) + c) (mno ((3 * k) + c))) := by exact rfl
                  exact ih39 (c + 1) (upd mwi8 ((3 * mwm9) + c) (mno ((3 * k) + c))) (by omega) (hF39.trans hE)
            exact lp39 3 0 mwi9 (by omega) rfl
  exact lp11 mQ 0 0 u1.2.2.1 (by omega) (by decide) rfl
/-! X7_has -/
def s_X7_has (mhd : Int32) (i : Nat) : Bool := if ((mhd >>> ((nI i) &&& 31)) &&& (nI 1)) = (nI 1) then true else false
set_option maxHeartbeats 4000000 in
set_option maxRecDepth 100000 in
theorem c_X7_has (l : Launch) (D : va_G) (cI cC cJ : ClassId) (m : Nat → Nat) (mle : Nat) (mpo : Nat) (mfa : Nat) (mrm : Nat) (mrw : Nat) (mP : Nat) (mQ : Nat) (mbk : Nat) (mkp : Nat) (msg : Nat) (mwm : Nat) (mrs : Int32) (msd : Int32) (mls : Int32) (mhd : Int32) (mtx : zF) (mnu : zF) (mrd : zF) (mrl : zF) (mpe : zF) (mno : zF) (mbo : zF) (mim : zF) (msi : zF) (mwi : zF) (mon : zF) (mdi : zF) (mco : zF) (mgo : zF) (mbr : zF) (mca : zF) (i : Nat) : zD l yX7_has wsX7_has rm_X7_has D (zT cI cC cJ) [.ref (m 31), .int (nI i)] [modW cI m mle mpo mfa mrm mrw mP mQ mbk mkp msg mwm mrs msd mls mhd mtx mnu mrd mrl mpe mno mbo mim msi mwi mon mdi mco mgo mbr mca] (some (.int (zb (s_X7_has mhd i)))) [modW cI m mle mpo mfa mrm mrw mP mQ mbk mkp msg mwm mrs msd mls mhd mtx mnu mrd mrl mpe mno mbo mim msi mwi mon mdi mco mgo mbr mca] := by
  refine zD_int (cc := cX7_has) (maxL := 2) (ty := .boolean) (lv := [(0, .ref (m 31)), (1, .int (nI i))]) (by decide +kernel) rfl (Nat.le_of_ble_eq_true rfl) rfl (fun Z O hret => ?_)
  refine zr_aload_n (pc2 := 1) O dX7_has_0 rfl 0 rfl rfl ?_
  refine zr_getf (v := .int mhd) (pc2 := 4) O sF_X7_has_163 0 0 rfl rfl rfl dX7_has_1 rfl ?_
  refine zr_iload_n (pc2 := 5) O dX7_has_4 rfl 1 rfl rfl ?_
  refine zr_ishr (v := (mhd >>> ((nI i) &&& 31))) (pc2 := 6) O dX7_has_5 rfl rfl ?_
  refine zr_iconst (v := (nI 1)) (pc2 := 7) O dX7_has_6 (by decide +kernel) rfl ?_
  refine zr_iand (v := ((mhd >>> ((nI i) &&& 31)) &&& (nI 1))) (pc2 := 8) O dX7_has_7 rfl rfl ?_
  refine zr_iconst (v := (nI 1)) (pc2 := 9) O dX7_has_8 (by decide +kernel) rfl ?_
  refine zr_icmp_ne (tgt := 16) (pc2 := 12) O dX7_has_9 (by decide) rfl (fun c9 => ?_) (fun c9 => ?_)
  · refine zr_iconst (v := (nI 0)) (pc2 := 17) O dX7_has_16 (by decide +kernel) rfl ?_
    have hE : s_X7_has mhd i = false := by exact (if_neg c9)
    exact hret _ _ _ _ dX7_has_17 (by decide +kernel) (by rw [hE]; rfl) rfl
  · refine zr_iconst (v := (nI 1)) (pc2 := 13) O dX7_has_12 (by decide +kernel) rfl ?_
    refine zr_goto (tgt := 17) O dX7_has_13 (by decide) ?_
    have hE : s_X7_has mhd i = true := by exact (if_pos c9)
    exact hret _ _ _ _ dX7_has_17 (by decide +kernel) (by rw [hE]; rfl) rfl
/-! X7_hadMany -/
def f_X7_hadMany_4 (mhd : Int32) : Nat → Nat → Int32 → Int32
  | 0, _, n => n
  | n9 + 1, i, n => f_X7_hadMany_4 mhd n9 (i + 1) (n + ((mhd >>> ((nI i) &&& 31)) &&& (nI 1)))
def s_X7_hadMany (mP : Nat) (mhd : Int32) : Int32 := (f_X7_hadMany_4 mhd mP 0 (nI 0))
set_option maxHeartbeats 4000000 in
set_option maxRecDepth 100000 in
theorem c_X7_hadMany (l : Launch) (D : va_G) (cI cC cJ : ClassId) (m : Nat → Nat) (mle : Nat) (mpo : Nat) (mfa : Nat) (mrm : Nat) (mrw : Nat) (mP : Nat) (mQ : Nat) (mbk : Nat) (mkp : Nat) (msg : Nat) (mwm : Nat) (mrs : Int32) (msd : Int32) (mls : Int32) (mhd : Int32) (mtx : zF) (mnu : zF) (mrd : zF) (mrl : zF) (mpe : zF) (mno : zF) (mbo : zF) (mim : zF) (msi : zF) (mwi : zF) (mon : zF) (mdi : zF) (mco : zF) (mgo : zF) (mbr : zF) (mca : zF) (hmP : mP ≤ 6) : zD l yX7_hadMany wsX7_hadMany rm_X7_hadMany D (zT cI cC cJ) [.ref (m 31)] [modW cI m mle mpo mfa mrm mrw mP mQ mbk mkp msg mwm mrs msd mls mhd mtx mnu mrd mrl mpe mno mbo mim msi mwi mon mdi mco mgo mbr mca] (some (.int (s_X7_hadMany mP mhd))) [modW cI m mle mpo mfa mrm mrw mP mQ mbk mkp msg mwm mrs msd mls mhd mtx mnu mrd mrl mpe mno mbo mim msi mwi mon mdi mco mgo mbr mca] := by
  refine zD_int (cc := cX7_hadMany) (maxL := 3) (ty := .int) (lv := [(0, .ref (m 31))]) (by decide +kernel) rfl (Nat.le_of_ble_eq_true rfl) rfl (fun Z O hret => ?_)
  refine zr_iconst (v := (nI 0)) (pc2 := 1) O dX7_hadMany_0 (by decide +kernel) rfl ?_
  refine zr_istore_n (lv2 := [(1, .int (nI 0)), (0, .ref (m 31))]) (pc2 := 2) O dX7_hadMany_1 rfl (by decide) rfl rfl ?_
  refine zr_iconst (v := (nI 0)) (pc2 := 3) O dX7_hadMany_2 (by decide +kernel) rfl ?_
  refine zr_istore_n (lv2 := [(2, .int (nI 0)), (1, .int (nI 0)), (0, .ref (m 31))]) (pc2 := 4) O dX7_hadMany_3 rfl (by decide) rfl rfl ?_
  have lp4 : ∀ (n9 : Nat) (i : Nat) (n : Int32), i + n9 = mP → f_X7_hadMany_4 mhd mP 0 (nI 0) = f_X7_hadMany_4 mhd n9 i n → Z [modW cI m mle mpo mfa mrm mrw mP mQ mbk mkp msg mwm mrs msd mls mhd mtx mnu mrd mrl mpe mno mbo mim msi mwi mon mdi mco mgo mbr mca] [(2, .int (nI i)), (1, .int n), (0, .ref (m 31))] 4 [] := by
    intro n9
    induction n9 with
    | zero =>
      intro i n hM4 hF4
      have hI4 : mP = i := by omega
      subst hI4
      have e9 : (f_X7_hadMany_4 mhd mP 0 (nI 0)) = n := hF4
      subst e9
      refine zr_iload_n (pc2 := 5) O dX7_hadMany_4 rfl 0 rfl rfl ?_
      refine zr_aload_n (pc2 := 6) O dX7_hadMany_5 rfl 2 rfl rfl ?_
      refine zr_getf (v := .int (nI mP)) (pc2 := 9) O sF_X7_hadMany_22 0 0 rfl rfl rfl dX7_hadMany_6 rfl ?_
      refine zn_icmp_ge (tgt := 29) (pc2 := 12) O dX7_hadMany_9 (by decide) rfl (by omega) (by omega) (fun c9 => ?_) (fun c9 => ?_)
      · refine zr_iload_n (pc2 := 30) O dX7_hadMany_29 rfl 1 rfl rfl ?_
        have hE : s_X7_hadMany mP mhd = (f_X7_hadMany_4 mhd mP 0 (nI 0)) := by exact rfl
        exact hret _ _ _ _ dX7_hadMany_30 rfl (by rw [hE]) rfl
      · exact absurd c9 (by omega)
    | succ n9 ih4 =>
      intro i n hM4 hF4
      refine zr_iload_n (pc2 := 5) O dX7_hadMany_4 rfl 0 rfl rfl ?_
      refine zr_aload_n (pc2 := 6) O dX7_hadMany_5 rfl 2 rfl rfl ?_
      refine zr_getf (v := .int (nI mP)) (pc2 := 9) O sF_X7_hadMany_22 0 0 rfl rfl rfl dX7_hadMany_6 rfl ?_
      refine zn_icmp_ge (tgt := 29) (pc2 := 12) O dX7_hadMany_9 (by decide) rfl (by omega) (by omega) (fun c9 => ?_) (fun c9 => ?_)
      · exact absurd c9 (by omega)
      · refine zr_iload_n (pc2 := 13) O dX7_hadMany_12 rfl 1 rfl rfl ?_
        refine zr_aload_n (pc2 := 14) O dX7_hadMany_13 rfl 2 rfl rfl ?_
        refine zr_getf (v := .int mhd) (pc2 := 17) O sF_X7_hadMany_163 0 0 rfl rfl rfl dX7_hadMany_14 rfl ?_
        refine zr_iload_n (pc2 := 18) O dX7_hadMany_17 rfl 0 rfl rfl ?_
        refine zr_ishr (v := (mhd >>> ((nI i) &&& 31))) (pc2 := 19) O dX7_hadMany_18 rfl rfl ?_
        refine zr_iconst (v := (nI 1)) (pc2 := 20) O dX7_hadMany_19 (by decide +kernel) rfl ?_
        refine zr_iand (v := ((mhd >>> ((nI i) &&& 31)) &&& (nI 1))) (pc2 := 21) O dX7_hadMany_20 rfl rfl ?_
        refine zr_iadd (v := (n + ((mhd >>> ((nI i) &&& 31)) &&& (nI 1)))) (pc2 := 22) O dX7_hadMany_21 rfl rfl ?_
        refine zr_istore_n (lv2 := [(1, .int (n + ((mhd >>> ((nI i) &&& 31)) &&& (nI 1)))), (2, .int (nI i)), (0, .ref (m 31))]) (pc2 := 23) O dX7_hadMany_22 rfl (by decide) rfl rfl ?_
        refine zr_iinc (v := (nI (i + 1))) (lv2 := [(2, .int (nI (i + 1))), (1, .int (n + ((mhd >>> ((nI i) &&& 31)) &&& (nI 1)))), (0, .ref (m 31))]) (pc2 := 26) O dX7_hadMany_23 1 rfl (zm_ofInt1 i) (by decide) rfl rfl ?_
        refine zr_goto (tgt := 4) O dX7_hadMany_26 (by decide) ?_
        have hE : f_X7_hadMany_4 mhd (n9 + 1) i n = f_X7_hadMany_4 mhd n9 (i + 1) (n + ((mhd >>> ((nI i) &&& 31)) &&& (nI 1))) := by exact rfl
        exact ih4 (i + 1) (n + ((mhd >>> ((nI i) &&& 31)) &&& (nI 1))) (by omega) (hF4.trans hE)
  exact lp4 mP 0 (nI 0) (by omega) rfl
theorem but11_le (mno : zF) (who left : Int32) : ∀ (n9 k mwm : Nat) (mwi : zF), (f_X7_prepareBut_11 mno who left n9 k mwm mwi).1 ≤ mwm + n9
  | 0, k, mwm, mwi => Nat.le_refl _
  | n9 + 1, k, mwm, mwi => by
    unfold f_X7_prepareBut_11
    try dsimp only
    repeat' split
    all_goals first
      | exact Nat.le_trans (but11_le mno who left n9 (k + 1) _ _) (by omega)
theorem but_le (mP mQ : Nat) (msd : Int32) (mpe mno mwi mon : zF) (who left : Int32) : (s_X7_prepareBut mP mQ msd mpe mno mwi mon who left).1 ≤ mQ := by
  have := but11_le mno who left mQ 0 0 (s_X7_prepare mP mQ msd mpe mno mwi mon).2.2.1
  have e : (s_X7_prepareBut mP mQ msd mpe mno mwi mon who left).1 = (f_X7_prepareBut_11 mno who left mQ 0 0 (s_X7_prepare mP mQ msd mpe mno mwi mon).2.2.1).1 := rfl
  omega
theorem but39_eq (mno : zF) (k mwm : Nat) (g : zF) : f_X7_prepareBut_39 mno k mwm 3 0 g = upd (upd (upd g (3 * mwm + 0) (mno (3 * k + 0))) (3 * mwm + (0 + 1)) (mno (3 * k + (0 + 1)))) (3 * mwm + (0 + 1 + 1)) (mno (3 * k + (0 + 1 + 1))) := rfl
def toOk (mwm : Nat) (mwi : zF) : Prop := ∀ k, k < mwm → ¬ mwi ((3 * k) + 1) < 0 → mwi ((3 * k) + 1) = nI (mwi ((3 * k) + 1)).toNatClampNeg ∧ (mwi ((3 * k) + 1)).toNatClampNeg < 6
theorem toOk_add {mwm : Nat} {mwi : zF} (h : toOk mwm mwi) {x y z : Int32} (hy : ¬ y < 0 → y = nI y.toNatClampNeg ∧ y.toNatClampNeg < 6) : toOk (mwm + 1) (upd (upd (upd mwi (3 * mwm) x) (3 * mwm + 1) y) (3 * mwm + 2) z) := by
  intro k hk
  by_cases e : k = mwm
  · subst e
    rw [pk_un (by omega), pk_us]
    exact hy
  · rw [pk_un (by omega), pk_un (by omega), pk_un (by omega)]
    exact h k (by omega)
theorem but11_to (mno : zF) (who left : Int32) (mQ : Nat) (hto2 : ∀ k, k < mQ → mno ((3 * k) + 1) = nI (mno ((3 * k) + 1)).toNatClampNeg ∧ (mno ((3 * k) + 1)).toNatClampNeg < 6) : ∀ (n9 k mwm : Nat) (mwi : zF), k + n9 = mQ → toOk mwm mwi → toOk (f_X7_prepareBut_11 mno who left n9 k mwm mwi).1 (f_X7_prepareBut_11 mno who left n9 k mwm mwi).2
  | 0, k, mwm, mwi, _, h => h
  | n9 + 1, k, mwm, mwi, hk, h => by
    unfold f_X7_prepareBut_11
    try dsimp only
    repeat' split
    all_goals first
      | exact but11_to mno who left mQ hto2 n9 (k + 1) _ _ (by omega) h
      | exact but11_to mno who left mQ hto2 n9 (k + 1) _ _ (by omega) (toOk_add h (fun _ => hto2 k (by omega)))
theorem but_to (mP mQ : Nat) (msd : Int32) (mpe mno mwi mon : zF) (who left : Int32) (hto2 : ∀ k, k < mQ → mno ((3 * k) + 1) = nI (mno ((3 * k) + 1)).toNatClampNeg ∧ (mno ((3 * k) + 1)).toNatClampNeg < 6) : toOk (s_X7_prepareBut mP mQ msd mpe mno mwi mon who left).1 (s_X7_prepareBut mP mQ msd mpe mno mwi mon who left).2.2.1 := by
  exact but11_to mno who left mQ hto2 mQ 0 0 _ (by omega) (fun k hk => absurd hk (Nat.not_lt_zero k))
theorem neg1_lt : ((-1 : Int32) < 0) := by decide
