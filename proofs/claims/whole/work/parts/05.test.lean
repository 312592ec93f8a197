def f_X0_leaves_4 (B : Nat → Nat → Int32) (i : Int32) : Nat → Nat → Int32 → Int32
  | 0, _, sum => sum
  | n9 + 1, k, sum => if ((B 7) k) = i then f_X0_leaves_4 B i n9 (k + 1) (sum + ((B 9) k)) else f_X0_leaves_4 B i n9 (k + 1) sum
def s_X0_leaves (Q : Nat) (B : Nat → Nat → Int32) (i : Int32) : Int32 := (f_X0_leaves_4 B i Q 0 (nI 0))
set_option maxHeartbeats 4000000 in
set_option maxRecDepth 100000 in
theorem c_X0_leaves (l : Launch) (D : va_G) (cI cC cJ : ClassId) (b : Nat → Nat) (P : Nat) (Q : Nat) (Hn : Nat) (sd : Int32) (B : Nat → Nat → Int32) (i : Int32) (hQ : Q ≤ 9) : zD l yX0_leaves wsX0_leaves rm_X0_leaves D (zT cI cC cJ) [.ref (b 0), .int i] (bookW cI b P Q Hn sd B) (some (.int (s_X0_leaves Q B i))) (bookW cI b P Q Hn sd B) := by
  refine zD_int (cc := cX0_leaves) (maxL := 4) (ty := .int) (lv := [(0, .ref (b 0)), (1, .int i)]) (by decide +kernel) rfl (Nat.le_of_ble_eq_true rfl) rfl (fun Z O hret => ?_)
  refine zr_iconst (v := (nI 0)) (pc2 := 1) O dX0_leaves_0 (by decide +kernel) rfl ?_
  refine zr_istore_n (lv2 := [(2, .int (nI 0)), (0, .ref (b 0)), (1, .int i)]) (pc2 := 2) O dX0_leaves_1 rfl (by decide) rfl rfl ?_
  refine zr_iconst (v := (nI 0)) (pc2 := 3) O dX0_leaves_2 (by decide +kernel) rfl ?_
  refine zr_istore_n (lv2 := [(3, .int (nI 0)), (2, .int (nI 0)), (0, .ref (b 0)), (1, .int i)]) (pc2 := 4) O dX0_leaves_3 rfl (by decide) rfl rfl ?_
  have lp4 : ∀ (n9 : Nat) (k : Nat) (sum : Int32), k + n9 = Q → f_X0_leaves_4 B i Q 0 (nI 0) = f_X0_leaves_4 B i n9 k sum → Z (bookW cI b P Q Hn sd B) [(3, .int (nI k)), (2, .int sum), (0, .ref (b 0)), (1, .int i)] 4 [] := by
    intro n9
    induction n9 with
    | zero =>
      intro k sum hM4 hF4
      have hI4 : Q = k := by omega
      subst hI4
      have e9 : (f_X0_leaves_4 B i Q 0 (nI 0)) = sum := hF4
      subst e9
      refine zr_iload_n (pc2 := 5) O dX0_leaves_4 rfl 0 rfl rfl ?_
      refine zr_aload_n (pc2 := 6) O dX0_leaves_5 rfl 2 rfl rfl ?_
      refine zr_getf (v := .int (nI Q)) (pc2 := 9) O sF_X0_leaves_31 0 rfl rfl dX0_leaves_6 rfl ?_
      refine zn_icmp_ge (tgt := 37) (pc2 := 12) O dX0_leaves_9 (by decide) rfl (by omega) (by omega) (fun c9 => ?_) (fun c9 => ?_)
      · refine zr_iload_n (pc2 := 38) O dX0_leaves_37 rfl 1 rfl rfl ?_
        have hE := (show s_X0_leaves Q B i = (f_X0_leaves_4 B i Q 0 (nI 0)) from rfl)
        exact hret _ _ _ _ dX0_leaves_38 rfl (by rw [hE]) rfl
      · exact absurd c9 (by omega)
    | succ n9 ih4 =>
      intro k sum hM4 hF4
      refine zr_iload_n (pc2 := 5) O dX0_leaves_4 rfl 0 rfl rfl ?_
      refine zr_aload_n (pc2 := 6) O dX0_leaves_5 rfl 2 rfl rfl ?_
      refine zr_getf (v := .int (nI Q)) (pc2 := 9) O sF_X0_leaves_31 0 rfl rfl dX0_leaves_6 rfl ?_
      refine zn_icmp_ge (tgt := 37) (pc2 := 12) O dX0_leaves_9 (by decide) rfl (by omega) (by omega) (fun c9 => ?_) (fun c9 => ?_)
      · exact absurd c9 (by omega)
      · refine zr_aload_n (pc2 := 13) O dX0_leaves_12 rfl 2 rfl rfl ?_
        refine zr_getf (v := .ref (b 7)) (pc2 := 16) O sF_X0_leaves_34 0 rfl rfl dX0_leaves_13 rfl ?_
        refine zr_iload_n (pc2 := 17) O dX0_leaves_16 rfl 0 rfl rfl ?_
        refine zn_iald (j := k) (pc2 := 18) O 6 0 rfl rfl rfl (by omega) (by decide) dX0_leaves_17 rfl ?_
        refine zr_iload_n (pc2 := 19) O dX0_leaves_18 rfl 3 rfl rfl ?_
        refine zr_icmp_ne (tgt := 31) (pc2 := 22) O dX0_leaves_19 (by decide) rfl (fun c19 => ?_) (fun c19 => ?_)
        · refine zr_iinc (v := (nI (k + 1))) (lv2 := [(3, .int (nI (k + 1))), (2, .int sum), (0, .ref (b 0)), (1, .int i)]) (pc2 := 34) O dX0_leaves_31 0 rfl (zm_ofInt1 k) (by decide) rfl rfl ?_
          refine zr_goto (tgt := 4) O dX0_leaves_34 (by decide) ?_
          exact ih4 (k + 1) sum (by omega) (hF4.trans (show f_X0_leaves_4 B i (n9 + 1) k sum = f_X0_leaves_4 B i n9 (k + 1) sum from (if_neg c19)))
        · refine zr_iload_n (pc2 := 23) O dX0_leaves_22 rfl 1 rfl rfl ?_
          refine zr_aload_n (pc2 := 24) O dX0_leaves_23 rfl 2 rfl rfl ?_
          refine zr_getf (v := .ref (b 9)) (pc2 := 27) O sF_X0_leaves_40 0 rfl rfl dX0_leaves_24 rfl ?_
          refine zr_iload_n (pc2 := 28) O dX0_leaves_27 rfl 0 rfl rfl ?_
          refine zn_iald (j := k) (pc2 := 29) O 8 0 rfl rfl rfl (by omega) (by decide) dX0_leaves_28 rfl ?_
          refine zr_iadd (v := (sum + ((B 9) k))) (pc2 := 30) O dX0_leaves_29 rfl rfl ?_
          refine zr_istore_n (lv2 := [(2, .int (sum + ((B 9) k))), (3, .int (nI k)), (0, .ref (b 0)), (1, .int i)]) (pc2 := 31) O dX0_leaves_30 rfl (by decide) rfl rfl ?_
          refine zr_iinc (v := (nI (k + 1))) (lv2 := [(3, .int (nI (k + 1))), (2, .int (sum + ((B 9) k))), (0, .ref (b 0)), (1, .int i)]) (pc2 := 34) O dX0_leaves_31 1 rfl (zm_ofInt1 k) (by decide) rfl rfl ?_
          refine zr_goto (tgt := 4) O dX0_leaves_34 (by decide) ?_
          exact ih4 (k + 1) (sum + ((B 9) k)) (by omega) (hF4.trans (show f_X0_leaves_4 B i (n9 + 1) k sum = f_X0_leaves_4 B i n9 (k + 1) (sum + ((B 9) k)) from (if_pos c19)))
  exact lp4 Q 0 (nI 0) (by omega) rfl
