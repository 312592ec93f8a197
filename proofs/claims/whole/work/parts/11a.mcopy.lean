def f_X7_copy_3 (f : Nat → Int32) (fr : Nat) (to : Nat) : Nat → Nat → (Nat → Int32) → Nat → Int32
  | 0, _, gk => gk
  | n9 + 1, k, gk => f_X7_copy_3 f fr to n9 (k + 1) (upd gk (to + k) (f (fr + k)))
def s_X7_copy (f : Nat → Int32) (g : Nat → Int32) (fr : Nat) (to : Nat) : Nat → Int32 := (f_X7_copy_3 f fr to 40 0 g)
set_option maxHeartbeats 4000000 in
set_option maxRecDepth 100000 in
theorem c_X7_copy (l : Launch) (D : va_G) (cI cC cJ : ClassId) (p : Nat) (q : Nat) (f : Nat → Int32) (g : Nat → Int32) (fr : Nat) (to : Nat) (n1 : Nat) (n2 : Nat) (h1 : fr + 40 ≤ n1) (h2 : to + 40 ≤ n2) (h3 : n1 ≤ 1000) (h4 : n2 ≤ 1000) : zD l yX7_copy wsX7_copy rm_X7_copy D (zT cI cC cJ) [.ref p, .int (nI fr), .ref q, .int (nI to)] [[(p, .inl (cI, n1, .inl f))], [(q, .inl (cI, n2, .inl g))]] none [[(p, .inl (cI, n1, .inl f))], [(q, .inl (cI, n2, .inl (s_X7_copy f g fr to)))]] := by
  refine zD_void (cc := cX7_copy) (maxL := 5) (lv := [(0, .ref p), (1, .int (nI fr)), (2, .ref q), (3, .int (nI to))]) (by decide +kernel) rfl (Nat.le_of_ble_eq_true rfl) rfl (fun Z O hret => ?_)
  refine zr_iconst (v := (nI 0)) (pc2 := 1) O dX7_copy_0 (by decide +kernel) rfl ?_
  refine zr_istore (lv2 := [(4, .int (nI 0)), (0, .ref p), (1, .int (nI fr)), (2, .ref q), (3, .int (nI to))]) (pc2 := 3) O dX7_copy_1 (by decide) rfl rfl ?_
  have lp3 : ∀ (n9 : Nat) (k : Nat) (gk : Nat → Int32), k + n9 = 40 → f_X7_copy_3 f fr to 40 0 g = f_X7_copy_3 f fr to n9 k gk → Z [[(p, .inl (cI, n1, .inl f))], [(q, .inl (cI, n2, .inl gk))]] [(4, .int (nI k)), (0, .ref p), (1, .int (nI fr)), (2, .ref q), (3, .int (nI to))] 3 [] := by
    intro n9
    induction n9 with
    | zero =>
      intro k gk hM3 hF3
      have hI3 : 40 = k := by omega
      subst hI3
      have e9 : (f_X7_copy_3 f fr to 40 0 g) = gk := hF3
      subst e9
      refine zr_iload (pc2 := 5) O dX7_copy_3 0 rfl rfl ?_
      refine zr_bipush (v := (nI 40)) (pc2 := 7) O dX7_copy_5 (by decide +kernel) rfl ?_
      refine zn_icmp_ge (tgt := 28) (pc2 := 10) O dX7_copy_7 (by decide) rfl (by omega) (by omega) (fun c7 => ?_) (fun c7 => ?_)
      · have hE : s_X7_copy f g fr to = (f_X7_copy_3 f fr to 40 0 g) := by exact rfl
        exact hret _ _ _ dX7_copy_28 (by rw [hE])
      · exact absurd c7 (by decide)
    | succ n9 ih3 =>
      intro k gk hM3 hF3
      refine zr_iload (pc2 := 5) O dX7_copy_3 0 rfl rfl ?_
      refine zr_bipush (v := (nI 40)) (pc2 := 7) O dX7_copy_5 (by decide +kernel) rfl ?_
      refine zn_icmp_ge (tgt := 28) (pc2 := 10) O dX7_copy_7 (by decide) rfl (by omega) (by omega) (fun c7 => ?_) (fun c7 => ?_)
      · exact absurd c7 (by omega)
      · refine zr_aload_n (pc2 := 11) O dX7_copy_10 rfl 3 rfl rfl ?_
        refine zr_iload_n (pc2 := 12) O dX7_copy_11 rfl 4 rfl rfl ?_
        refine zr_iload (pc2 := 14) O dX7_copy_12 0 rfl rfl ?_
        refine zr_iadd (v := (nI (to + k))) (pc2 := 15) O dX7_copy_14 (nI_add to k) rfl ?_
        refine zr_aload_n (pc2 := 16) O dX7_copy_15 rfl 1 rfl rfl ?_
        refine zr_iload_n (pc2 := 17) O dX7_copy_16 rfl 2 rfl rfl ?_
        refine zr_iload (pc2 := 19) O dX7_copy_17 0 rfl rfl ?_
        refine zr_iadd (v := (nI (fr + k))) (pc2 := 20) O dX7_copy_19 (nI_add fr k) rfl ?_
        refine zn_iald (j := (fr + k)) (pc2 := 21) O 0 0 0 rfl rfl rfl rfl (by omega) (by omega) dX7_copy_20 rfl ?_
        refine zn_iast (j := (to + k)) (G2 := [(q, .inl (cI, n2, .inl (upd gk (to + k) (f (fr + k)))))]) (ws2 := [[(p, .inl (cI, n1, .inl f))], [(q, .inl (cI, n2, .inl (upd gk (to + k) (f (fr + k)))))]]) (pc2 := 22) O 1 0 0 rfl rfl rfl rfl (by omega) (by omega) dX7_copy_21 rfl rfl rfl ?_
        refine zr_iinc (v := (nI (k + 1))) (lv2 := [(4, .int (nI (k + 1))), (0, .ref p), (1, .int (nI fr)), (2, .ref q), (3, .int (nI to))]) (pc2 := 25) O dX7_copy_22 0 rfl (zm_ofInt1 k) (by decide) rfl rfl ?_
        refine zr_goto (tgt := 3) O dX7_copy_25 (by decide) ?_
        have hE : f_X7_copy_3 f fr to (n9 + 1) k gk = f_X7_copy_3 f fr to n9 (k + 1) (upd gk (to + k) (f (fr + k))) := by exact rfl
        exact ih3 (k + 1) (upd gk (to + k) (f (fr + k))) (by omega) (hF3.trans hE)
  exact lp3 40 0 g (by omega) rfl
theorem note11_at : ∀ (n9 k : Nat) (g : zF) (j : Nat), True
  | _, _, _, _ => trivial
/-! X7_leavesOf -/
def f_X7_leavesOf_4 (mno : zF) (i : Int32) : Nat → Nat → Int32 → Int32
  | 0, _, sum => sum
  | n9 + 1, k, sum => if (mno (3 * k)) = i then f_X7_leavesOf_4 mno i n9 (k + 1) (sum + (mno ((3 * k) + 2))) else f_X7_leavesOf_4 mno i n9 (k + 1) (sum + (nI 0))
def s_X7_leavesOf (mQ : Nat) (mno : zF) (i : Int32) : Int32 := (f_X7_leavesOf_4 mno i mQ 0 (nI 0))
set_option maxHeartbeats 4000000 in
set_option maxRecDepth 100000 in
theorem c_X7_leavesOf (l : Launch) (D : va_G) (cI cC cJ : ClassId) (m : Nat → Nat) (mle : Nat) (mpo : Nat) (mfa : Nat) (mrm : Nat) (mrw : Nat) (mP : Nat) (mQ : Nat) (mbk : Nat) (mkp : Nat) (msg : Nat) (mwm : Nat) (mrs : Int32) (msd : Int32) (mls : Int32) (mhd : Int32) (mtx : zF) (mnu : zF) (mrd : zF) (mrl : zF) (mpe : zF) (mno : zF) (mbo : zF) (mim : zF) (msi : zF) (mwi : zF) (mon : zF) (mdi : zF) (mco : zF) (mgo : zF) (mbr : zF) (mca : zF) (i : Int32) (hmQ : mQ ≤ 9) : zD l yX7_leavesOf wsX7_leavesOf rm_X7_leavesOf D (zT cI cC cJ) [.ref (m 31), .int i] [modW cI m mle mpo mfa mrm mrw mP mQ mbk mkp msg mwm mrs msd mls mhd mtx mnu mrd mrl mpe mno mbo mim msi mwi mon mdi mco mgo mbr mca] (some (.int (s_X7_leavesOf mQ mno i))) [modW cI m mle mpo mfa mrm mrw mP mQ mbk mkp msg mwm mrs msd mls mhd mtx mnu mrd mrl mpe mno mbo mim msi mwi mon mdi mco mgo mbr mca] := by
  refine zD_int (cc := cX7_leavesOf) (maxL := 4) (ty := .int) (lv := [(0, .ref (m 31)), (1, .int i)]) (by decide +kernel) rfl (Nat.le_of_ble_eq_true rfl) rfl (fun Z O hret => ?_)
  refine zr_iconst (v := (nI 0)) (pc2 := 1) O dX7_leavesOf_0 (by decide +kernel) rfl ?_
  refine zr_istore_n (lv2 := [(2, .int (nI 0)), (0, .ref (m 31)), (1, .int i)]) (pc2 := 2) O dX7_leavesOf_1 rfl (by decide) rfl rfl ?_
  refine zr_iconst (v := (nI 0)) (pc2 := 3) O dX7_leavesOf_2 (by decide +kernel) rfl ?_
  refine zr_istore_n (lv2 := [(3, .int (nI 0)), (2, .int (nI 0)), (0, .ref (m 31)), (1, .int i)]) (pc2 := 4) O dX7_leavesOf_3 rfl (by decide) rfl rfl ?_
  have lp4 : ∀ (n9 : Nat) (k : Nat) (sum : Int32), k + n9 = mQ → f_X7_leavesOf_4 mno i mQ 0 (nI 0) = f_X7_leavesOf_4 mno i n9 k sum → Z [modW cI m mle mpo mfa mrm mrw mP mQ mbk mkp msg mwm mrs msd mls mhd mtx mnu mrd mrl mpe mno mbo mim msi mwi mon mdi mco mgo mbr mca] [(3, .int (nI k)), (2, .int sum), (0, .ref (m 31)), (1, .int i)] 4 [] := by
    intro n9
    induction n9 with
    | zero =>
      intro k sum hM4 hF4
      have hI4 : mQ = k := by omega
      subst hI4
      have e9 : (f_X7_leavesOf_4 mno i mQ 0 (nI 0)) = sum := hF4
      subst e9
      refine zr_iload_n (pc2 := 5) O dX7_leavesOf_4 rfl 0 rfl rfl ?_
      refine zr_aload_n (pc2 := 6) O dX7_leavesOf_5 rfl 2 rfl rfl ?_
      refine zr_getf (v := .int (nI mQ)) (pc2 := 9) O sF_X7_leavesOf_29 0 0 rfl rfl rfl dX7_leavesOf_6 rfl ?_
      refine zn_icmp_ge (tgt := 47) (pc2 := 12) O dX7_leavesOf_9 (by decide) rfl (by omega) (by omega) (fun c9 => ?_) (fun c9 => ?_)
      · refine zr_iload_n (pc2 := 48) O dX7_leavesOf_47 rfl 1 rfl rfl ?_
        have hE : s_X7_leavesOf mQ mno i = (f_X7_leavesOf_4 mno i mQ 0 (nI 0)) := by exact rfl
        exact hret _ _ _ _ dX7_leavesOf_48 rfl (by rw [hE]) rfl
      · exact absurd c9 (by omega)
    | succ n9 ih4 =>
      intro k sum hM4 hF4
      refine zr_iload_n (pc2 := 5) O dX7_leavesOf_4 rfl 0 rfl rfl ?_
      refine zr_aload_n (pc2 := 6) O dX7_leavesOf_5 rfl 2 rfl rfl ?_
      refine zr_getf (v := .int (nI mQ)) (pc2 := 9) O sF_X7_leavesOf_29 0 0 rfl rfl rfl dX7_leavesOf_6 rfl ?_
      refine zn_icmp_ge (tgt := 47) (pc2 := 12) O dX7_leavesOf_9 (by decide) rfl (by omega) (by omega) (fun c9 => ?_) (fun c9 => ?_)
      · exact absurd c9 (by omega)
      · refine zr_iload_n (pc2 := 13) O dX7_leavesOf_12 rfl 1 rfl rfl ?_
        refine zr_aload_n (pc2 := 14) O dX7_leavesOf_13 rfl 2 rfl rfl ?_
        refine zr_getf (v := .ref (m 14)) (pc2 := 17) O sF_X7_leavesOf_35 0 0 rfl rfl rfl dX7_leavesOf_14 rfl ?_
        refine zr_iconst (v := (nI 3)) (pc2 := 18) O dX7_leavesOf_17 (by decide +kernel) rfl ?_
        refine zr_iload_n (pc2 := 19) O dX7_leavesOf_18 rfl 0 rfl rfl ?_
        refine zr_imul (v := (nI (3 * k))) (pc2 := 20) O dX7_leavesOf_19 (pk_mul 3 k) rfl ?_
        refine zn_iald (j := (3 * k)) (pc2 := 21) O 0 6 0 rfl rfl rfl rfl (by omega) (by decide) dX7_leavesOf_20 rfl ?_
        refine zr_iload_n (pc2 := 22) O dX7_leavesOf_21 rfl 3 rfl rfl ?_
        refine zr_icmp_ne (tgt := 38) (pc2 := 25) O dX7_leavesOf_22 (by decide) rfl (fun c22 => ?_) (fun c22 => ?_)
        · refine zr_iconst (v := (nI 0)) (pc2 := 39) O dX7_leavesOf_38 (by decide +kernel) rfl ?_
          refine zr_iadd (v := (sum + (nI 0))) (pc2 := 40) O dX7_leavesOf_39 rfl rfl ?_
          refine zr_istore_n (lv2 := [(2, .int (sum + (nI 0))), (3, .int (nI k)), (0, .ref (m 31)), (1, .int i)]) (pc2 := 41) O dX7_leavesOf_40 rfl (by decide) rfl rfl ?_
          refine zr_iinc (v := (nI (k + 1))) (lv2 := [(3, .int (nI (k + 1))), (2, .int (sum + (nI 0))), (0, .ref (m 31)), (1, .int i)]) (pc2 := 44) O dX7_leavesOf_41 1 rfl (zm_ofInt1 k) (by decide) rfl rfl ?_
          refine zr_goto (tgt := 4) O dX7_leavesOf_44 (by decide) ?_
          have hE : f_X7_leavesOf_4 mno i (n9 + 1) k sum = f_X7_leavesOf_4 mno i n9 (k + 1) (sum + (nI 0)) := by exact (if_neg c22)
          exact ih4 (k + 1) (sum + (nI 0)) (by omega) (hF4.trans hE)
        · refine zr_aload_n (pc2 := 26) O dX7_leavesOf_25 rfl 2 rfl rfl ?_
          refine zr_getf (v := .ref (m 14)) (pc2 := 29) O sF_X7_leavesOf_35 0 0 rfl rfl rfl dX7_leavesOf_26 rfl ?_
          refine zr_iconst (v := (nI 3)) (pc2 := 30) O dX7_leavesOf_29 (by decide +kernel) rfl ?_
          refine zr_iload_n (pc2 := 31) O dX7_leavesOf_30 rfl 0 rfl rfl ?_
          refine zr_imul (v := (nI (3 * k))) (pc2 := 32) O dX7_leavesOf_31 (pk_mul 3 k) rfl ?_
          refine zr_iconst (v := (nI 2)) (pc2 := 33) O dX7_leavesOf_32 (by decide +kernel) rfl ?_
          refine zr_iadd (v := (nI ((3 * k) + 2))) (pc2 := 34) O dX7_leavesOf_33 (nI_add (3 * k) 2) rfl ?_
          refine zn_iald (j := ((3 * k) + 2)) (pc2 := 35) O 0 6 0 rfl rfl rfl rfl (by omega) (by decide) dX7_leavesOf_34 rfl ?_
          refine zr_goto (tgt := 39) O dX7_leavesOf_35 (by decide) ?_
          refine zr_iadd (v := (sum + (mno ((3 * k) + 2)))) (pc2 := 40) O dX7_leavesOf_39 rfl rfl ?_
          refine zr_istore_n (lv2 := [(2, .int (sum + (mno ((3 * k) + 2)))), (3, .int (nI k)), (0, .ref (m 31)), (1, .int i)]) (pc2 := 41) O dX7_leavesOf_40 rfl (by decide) rfl rfl ?_
          refine zr_iinc (v := (nI (k + 1))) (lv2 := [(3, .int (nI (k + 1))), (2, .int (sum + (mno ((3 * k) + 2)))), (0, .ref (m 31)), (1, .int i)]) (pc2 := 44) O dX7_leavesOf_41 1 rfl (zm_ofInt1 k) (by decide) rfl rfl ?_
          refine zr_goto (tgt := 4) O dX7_leavesOf_44 (by decide) ?_
          have hE : f_X7_leavesOf_4 mno i (n9 + 1) k sum = f_X7_leavesOf_4 mno i n9 (k + 1) (sum + (mno ((3 * k) + 2))) := by exact (if_pos c22)
          exact ih4 (k + 1) (sum + (mno ((3 * k) + 2))) (by omega) (hF4.trans hE)
  exact lp4 mQ 0 (nI 0) (by omega) rfl
