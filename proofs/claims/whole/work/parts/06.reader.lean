/-! X3_clear -/
def s_X3_clear : Nat := 0
set_option maxHeartbeats 4000000 in
set_option maxRecDepth 100000 in
theorem c_X3_clear (l : Launch) (D : va_G) (cI cC cJ : ClassId) (c : Nat → Nat) (n : Nat) (Le : Nat → Int32) : zD l yX3_clear wsX3_clear rm_X3_clear D (zT cI cC cJ) [.ref (c 1)] [scrollW cC c n Le] none [scrollW cC c (s_X3_clear) Le] := by
  refine zD_void (cc := cX3_clear) (maxL := 1) (lv := [(0, .ref (c 1))]) (by decide +kernel) rfl (Nat.le_of_ble_eq_true rfl) rfl (fun Z O hret => ?_)
  refine zr_aload_n (pc2 := 1) O dX3_clear_0 rfl 0 rfl rfl ?_
  refine zr_iconst (v := (nI 0)) (pc2 := 2) O dX3_clear_1 (by decide +kernel) rfl ?_
  refine zr_putf (G2 := scrollW cC c 0 Le) (ws2 := [scrollW cC c 0 Le]) (pc2 := 5) O sP_X3_clear_15 0 0 rfl rfl rfl rfl (Nat.le_of_ble_eq_true rfl) dX3_clear_2 rfl rfl rfl ?_
  have hE : s_X3_clear = 0 := by exact rfl
  exact hret _ _ _ dX3_clear_5 (by rw [hE])
/-! X3_append -/
def s_X3_append (n : Nat) (Le : Nat → Int32) (x : Int32) : Bool × Nat × (Nat → Int32) := if n < 200 then (true, n + 1, (upd Le n x)) else (false, n, Le)
set_option maxHeartbeats 4000000 in
set_option maxRecDepth 100000 in
theorem c_X3_append (l : Launch) (D : va_G) (cI cC cJ : ClassId) (c : Nat → Nat) (n : Nat) (Le : Nat → Int32) (x : Int32) (hn : n ≤ 200) (hx : vp_nar .char x = x) : zD l yX3_append wsX3_append rm_X3_append D (zT cI cC cJ) [.ref (c 1), .int x] [scrollW cC c n Le] (some (.int (zb ((s_X3_append n Le x).1)))) [scrollW cC c ((s_X3_append n Le x).2.1) ((s_X3_append n Le x).2.2)] := by
  refine zD_int (cc := cX3_append) (maxL := 2) (ty := .boolean) (lv := [(0, .ref (c 1)), (1, .int x)]) (by decide +kernel) rfl (Nat.le_of_ble_eq_true rfl) rfl (fun Z O hret => ?_)
  refine zr_aload_n (pc2 := 1) O dX3_append_0 rfl 0 rfl rfl ?_
  refine zr_getf (v := .int (nI n)) (pc2 := 4) O sF_X3_append_15 0 0 rfl rfl rfl dX3_append_1 rfl ?_
  refine zr_aload_n (pc2 := 5) O dX3_append_4 rfl 0 rfl rfl ?_
  refine zr_getf (v := .ref (c 0)) (pc2 := 8) O sF_X3_append_9 0 0 rfl rfl rfl dX3_append_5 rfl ?_
  refine zn_alen (v := (nI 200)) (pc2 := 9) O 0 1 1 rfl rfl rfl rfl dX3_append_8 rfl ?_
  refine zn_icmp_lt (tgt := 14) (pc2 := 12) O dX3_append_9 (by decide) rfl (by omega) (by omega) (fun c9 => ?_) (fun c9 => ?_)
  · refine zr_aload_n (pc2 := 15) O dX3_append_14 rfl 0 rfl rfl ?_
    refine zr_getf (v := .ref (c 0)) (pc2 := 18) O sF_X3_append_9 0 0 rfl rfl rfl dX3_append_15 rfl ?_
    refine zr_aload_n (pc2 := 19) O dX3_append_18 rfl 0 rfl rfl ?_
    refine zr_getf (v := .int (nI n)) (pc2 := 22) O sF_X3_append_15 0 0 rfl rfl rfl dX3_append_19 rfl ?_
    refine zr_iload_n (pc2 := 23) O dX3_append_22 rfl 1 rfl rfl ?_
    refine zn_cast (j := n) (v2 := x) (G2 := scrollW cC c n (upd Le n x)) (ws2 := [scrollW cC c n (upd Le n x)]) (pc2 := 24) O 0 1 1 rfl rfl rfl rfl (by omega) (by decide) hx dX3_append_23 rfl rfl rfl ?_
    refine zr_aload_n (pc2 := 25) O dX3_append_24 rfl 0 rfl rfl ?_
    refine zr_dup (pc2 := 26) O dX3_append_25 rfl rfl ?_
    refine zr_getf (v := .int (nI n)) (pc2 := 29) O sF_X3_append_15 0 0 rfl rfl rfl dX3_append_26 rfl ?_
    refine zr_iconst (v := (nI 1)) (pc2 := 30) O dX3_append_29 (by decide +kernel) rfl ?_
    refine zr_iadd (v := (nI (n + 1))) (pc2 := 31) O dX3_append_30 (nI_add n 1) rfl ?_
    refine zr_putf (G2 := scrollW cC c (n + 1) (upd Le n x)) (ws2 := [scrollW cC c (n + 1) (upd Le n x)]) (pc2 := 34) O sP_X3_append_15 0 0 rfl rfl rfl rfl (Nat.le_of_ble_eq_true rfl) dX3_append_31 rfl rfl rfl ?_
    refine zr_iconst (v := (nI 1)) (pc2 := 35) O dX3_append_34 (by decide +kernel) rfl ?_
    have hE : s_X3_append n Le x = (true, n + 1, (upd Le n x)) := by exact (if_pos c9)
    exact hret _ _ _ _ dX3_append_35 (by decide +kernel) (by rw [hE]; rfl) (by rw [hE])
  · refine zr_iconst (v := (nI 0)) (pc2 := 13) O dX3_append_12 (by decide +kernel) rfl ?_
    have hE : s_X3_append n Le x = (false, n, Le) := by exact (if_neg c9)
    exact hret _ _ _ _ dX3_append_13 (by decide +kernel) (by rw [hE]; rfl) (by rw [hE])
/-! X3_at -/
def s_X3_at (n : Nat) (Le : Nat → Int32) (p : Nat) : Int32 := if n ≤ p then (nI 0) else (Le p)
set_option maxHeartbeats 4000000 in
set_option maxRecDepth 100000 in
theorem c_X3_at (l : Launch) (D : va_G) (cI cC cJ : ClassId) (c : Nat → Nat) (n : Nat) (Le : Nat → Int32) (p : Nat) (hn : n ≤ 200) (hp : p ≤ 1000) (hL : ∀ j, narrow .char (.int (Le j)) = .int (Le j)) : zD l yX3_at wsX3_at rm_X3_at D (zT cI cC cJ) [.ref (c 1), .int (nI p)] [scrollW cC c n Le] (some (.int (s_X3_at n Le p))) [scrollW cC c n Le] := by
  refine zD_int (cc := cX3_at) (maxL := 2) (ty := .char) (lv := [(0, .ref (c 1)), (1, .int (nI p))]) (by decide +kernel) rfl (Nat.le_of_ble_eq_true rfl) rfl (fun Z O hret => ?_)
  refine zr_iload_n (pc2 := 1) O dX3_at_0 rfl 1 rfl rfl ?_
  refine zn_if_lt (tgt := 21) (pc2 := 4) O dX3_at_1 (by decide) rfl (by omega) (fun c1 => ?_) (fun c1 => ?_)
  · exact False.elim c1
  · refine zr_iload_n (pc2 := 5) O dX3_at_4 rfl 1 rfl rfl ?_
    refine zr_aload_n (pc2 := 6) O dX3_at_5 rfl 0 rfl rfl ?_
    refine zr_getf (v := .int (nI n)) (pc2 := 9) O sF_X3_at_15 0 0 rfl rfl rfl dX3_at_6 rfl ?_
    refine zn_icmp_ge (tgt := 21) (pc2 := 12) O dX3_at_9 (by decide) rfl (by omega) (by omega) (fun c9 => ?_) (fun c9 => ?_)
    · refine zr_iconst (v := (nI 0)) (pc2 := 22) O dX3_at_21 (by decide +kernel) rfl ?_
      have hE : s_X3_at n Le p = (nI 0) := by exact (if_pos c9)
      exact hret _ _ _ _ dX3_at_22 (by first | exact hL _ | decide +kernel) (by rw [hE]) rfl
    · refine zr_aload_n (pc2 := 13) O dX3_at_12 rfl 0 rfl rfl ?_
      refine zr_getf (v := .ref (c 0)) (pc2 := 16) O sF_X3_at_9 0 0 rfl rfl rfl dX3_at_13 rfl ?_
      refine zr_iload_n (pc2 := 17) O dX3_at_16 rfl 1 rfl rfl ?_
      refine zn_cald (j := p) (pc2 := 18) O 0 1 1 rfl rfl rfl rfl (by omega) (by decide) dX3_at_17 rfl ?_
      refine zr_goto (tgt := 22) O dX3_at_18 (by decide) ?_
      have hE : s_X3_at n Le p = (Le p) := by exact (if_neg c9)
      exact hret _ _ _ _ dX3_at_22 (by first | exact hL _ | decide +kernel) (by rw [hE]) rfl
/-! X2_isFigure -/
def s_X2_isFigure (x : Int32) : Bool := if x < (nI 48) then false else if (nI 57) < x then false else true
set_option maxHeartbeats 4000000 in
set_option maxRecDepth 100000 in
theorem c_X2_isFigure (l : Launch) (D : va_G) (cI cC cJ : ClassId) (x : Int32) : zD l yX2_isFigure wsX2_isFigure rm_X2_isFigure D (zT cI cC cJ) [.int x] [] (some (.int (zb (s_X2_isFigure x)))) [] := by
  refine zD_int (cc := cX2_isFigure) (maxL := 1) (ty := .boolean) (lv := [(0, .int x)]) (by decide +kernel) rfl (Nat.le_of_ble_eq_true rfl) rfl (fun Z O hret => ?_)
  refine zr_iload_n (pc2 := 1) O dX2_isFigure_0 rfl 0 rfl rfl ?_
  refine zr_bipush (v := (nI 48)) (pc2 := 3) O dX2_isFigure_1 (by decide +kernel) rfl ?_
  refine zr_icmp_lt (tgt := 16) (pc2 := 6) O dX2_isFigure_3 (by decide) rfl (fun c3 => ?_) (fun c3 => ?_)
  · refine zr_iconst (v := (nI 0)) (pc2 := 17) O dX2_isFigure_16 (by decide +kernel) rfl ?_
    have hE : s_X2_isFigure x = false := by exact (if_pos c3)
    exact hret _ _ _ _ dX2_isFigure_17 (by decide +kernel) (by rw [hE]; rfl) rfl
  · refine zr_iload_n (pc2 := 7) O dX2_isFigure_6 rfl 0 rfl rfl ?_
    refine zr_bipush (v := (nI 57)) (pc2 := 9) O dX2_isFigure_7 (by decide +kernel) rfl ?_
    refine zr_icmp_gt (tgt := 16) (pc2 := 12) O dX2_isFigure_9 (by decide) rfl (fun c9 => ?_) (fun c9 => ?_)
    · refine zr_iconst (v := (nI 0)) (pc2 := 17) O dX2_isFigure_16 (by decide +kernel) rfl ?_
      have hE : s_X2_isFigure x = false := by exact ((if_neg c3).trans (if_pos c9))
      exact hret _ _ _ _ dX2_isFigure_17 (by decide +kernel) (by rw [hE]; rfl) rfl
    · refine zr_iconst (v := (nI 1)) (pc2 := 13) O dX2_isFigure_12 (by decide +kernel) rfl ?_
      refine zr_goto (tgt := 17) O dX2_isFigure_13 (by decide) ?_
      have hE : s_X2_isFigure x = true := by exact ((if_neg c3).trans (if_neg c9))
      exact hret _ _ _ _ dX2_isFigure_17 (by decide +kernel) (by rw [hE]; rfl) rfl
/-! X2_numbersOf -/
def s_X2_numbersOf (x : Int32) : Nat := if x = nI 103 then 2 else if x = nI 112 then 4 else if x = nI 119 then 3 else if x = nI 122 then 1 else 0
set_option maxHeartbeats 4000000 in
set_option maxRecDepth 100000 in
theorem c_X2_numbersOf (l : Launch) (D : va_G) (cI cC cJ : ClassId) (x : Int32) : zD l yX2_numbersOf wsX2_numbersOf rm_X2_numbersOf D (zT cI cC cJ) [.int x] [] (some (.int (nI (s_X2_numbersOf x)))) [] := by
  refine zD_int (cc := cX2_numbersOf) (maxL := 1) (ty := .int) (lv := [(0, .int x)]) (by decide +kernel) rfl (Nat.le_of_ble_eq_true rfl) rfl (fun Z O hret => ?_)
  refine zr_iload_n (pc2 := 1) O dX2_numbersOf_0 rfl 0 rfl rfl ?_
  by_cases c1_103 : x = nI 103
  · refine zn_lookup (y := nI 103) (off := 47) (tgt := 48) O c1_103 dX2_numbersOf_1 (by decide +kernel) (by decide +kernel) (by decide) ?_
    refine zr_iconst (v := (nI 2)) (pc2 := 49) O dX2_numbersOf_48 (by decide +kernel) rfl ?_
    have hE : s_X2_numbersOf x = 2 := by exact (if_pos c1_103)
    exact hret _ _ _ _ dX2_numbersOf_49 rfl (by rw [hE]) rfl
  · skip
    by_cases c1_112 : x = nI 112
    · refine zn_lookup (y := nI 112) (off := 43) (tgt := 44) O c1_112 dX2_numbersOf_1 (by decide +kernel) (by decide +kernel) (by decide) ?_
      refine zr_iconst (v := (nI 4)) (pc2 := 45) O dX2_numbersOf_44 (by decide +kernel) rfl ?_
      have hE : s_X2_numbersOf x = 4 := by exact ((if_neg c1_103).trans (if_pos c1_112))
      exact hret _ _ _ _ dX2_numbersOf_45 rfl (by rw [hE]) rfl
    · skip
      by_cases c1_119 : x = nI 119
      · refine zn_lookup (y := nI 119) (off := 45) (tgt := 46) O c1_119 dX2_numbersOf_1 (by decide +kernel) (by decide +kernel) (by decide) ?_
        refine zr_iconst (v := (nI 3)) (pc2 := 47) O dX2_numbersOf_46 (by decide +kernel) rfl ?_
        have hE : s_X2_numbersOf x = 3 := by exact ((if_neg c1_103).trans ((if_neg c1_112).trans (if_pos c1_119)))
        exact hret _ _ _ _ dX2_numbersOf_47 rfl (by rw [hE]) rfl
      · skip
        by_cases c1_122 : x = nI 122
        · refine zn_lookup (y := nI 122) (off := 49) (tgt := 50) O c1_122 dX2_numbersOf_1 (by decide +kernel) (by decide +kernel) (by decide) ?_
          refine zr_iconst (v := (nI 1)) (pc2 := 51) O dX2_numbersOf_50 (by decide +kernel) rfl ?_
          have hE : s_X2_numbersOf x = 1 := by exact ((if_neg c1_103).trans ((if_neg c1_112).trans ((if_neg c1_119).trans (if_pos c1_122))))
          exact hret _ _ _ _ dX2_numbersOf_51 rfl (by rw [hE]) rfl
        · skip
          refine zr_lookup (off := 51) (tgt := 52) O dX2_numbersOf_1 (by decide +kernel) ((lv_osw c1_103 (by decide +kernel)).trans ((lv_osw c1_112 (by decide +kernel)).trans ((lv_osw c1_119 (by decide +kernel)).trans ((lv_osw c1_122 (by decide +kernel)).trans rfl)))) (by decide) ?_
          refine zr_iconst (v := (nI 0)) (pc2 := 53) O dX2_numbersOf_52 (by decide +kernel) rfl ?_
          have hE : s_X2_numbersOf x = 0 := by exact ((if_neg c1_103).trans ((if_neg c1_112).trans ((if_neg c1_119).trans (if_neg c1_122))))
          exact hret _ _ _ _ dX2_numbersOf_53 rfl (by rw [hE]) rfl
theorem numbersOf_le (x : Int32) : s_X2_numbersOf x ≤ 4 := by
  unfold s_X2_numbersOf
  repeat' split
  all_goals decide
/-! X2_readNumber -/
def s_X2_readNumber (pl : Nat) (n : Nat) (Le : Nat → Int32) : Int32 × Nat := if (s_X2_isFigure (s_X3_at n Le (pl + 1))) = true then let x61 := ((((s_X3_at n Le pl) - (nI 48)) * (nI 10)) + ((s_X3_at n Le (pl + 1)) - (nI 48))); (x61, (pl + 1) + 1) else (((s_X3_at n Le pl) - (nI 48)), pl + 1)
set_option maxHeartbeats 4000000 in
set_option maxRecDepth 100000 in
theorem c_X2_readNumber (l : Launch) (D : va_G) (cI cC cJ : ClassId) (r : Nat → Nat) (c : Nat → Nat) (pl : Nat) (Nu : Nat → Int32) (n : Nat) (Le : Nat → Int32) (hn : n ≤ 200) (hL : ∀ j, narrow .char (.int (Le j)) = .int (Le j)) (hpl : pl ≤ 400) : zD l yX2_readNumber wsX2_readNumber rm_X2_readNumber D (zT cI cC cJ) [.ref (r 0)] [readerW cI r (c 1) pl Nu, scrollW cC c n Le] (some (.int ((s_X2_readNumber pl n Le).1))) [readerW cI r (c 1) ((s_X2_readNumber pl n Le).2) Nu, scrollW cC c n Le] := by
  refine zD_int (cc := cX2_readNumber) (maxL := 2) (ty := .int) (lv := [(0, .ref (r 0))]) (by decide +kernel) rfl (Nat.le_of_ble_eq_true rfl) rfl (fun Z O hret => ?_)
  refine zr_aload_n (pc2 := 1) O dX2_readNumber_0 rfl 0 rfl rfl ?_
  refine zr_getf (v := .ref (c 1)) (pc2 := 4) O sF_X2_readNumber_19 0 0 rfl rfl rfl dX2_readNumber_1 rfl ?_
  refine zr_aload_n (pc2 := 5) O dX2_readNumber_4 rfl 0 rfl rfl ?_
  refine zr_getf (v := .int (nI pl)) (pc2 := 8) O sF_X2_readNumber_15 0 0 rfl rfl rfl dX2_readNumber_5 rfl ?_
  refine zr_callV (As := [.int (nI pl)]) (rest := []) (ws2 := [readerW cI r (c 1) pl Nu, scrollW cC c n Le]) (pc2 := 11) (ci := 3) (g0 := 1) (q0 := 0) O (c_X3_at l D cI cC cJ c n Le pl (by first | assumption | omega) (by first | assumption | omega) (by first | assumption | omega)) sC_X2_readNumber_37 rfl rfl rfl rfl rfl dX2_readNumber_8 [1] rfl rfl rfl rfl (Nat.le_of_ble_eq_true rfl) rfl ?_
  show Z _ _ _ [.int (s_X3_at n Le pl)]
  refine zr_bipush (v := (nI 48)) (pc2 := 13) O dX2_readNumber_11 (by decide +kernel) rfl ?_
  refine zr_isub (v := ((s_X3_at n Le pl) - (nI 48))) (pc2 := 14) O dX2_readNumber_13 rfl rfl ?_
  refine zr_istore_n (lv2 := [(1, .int ((s_X3_at n Le pl) - (nI 48))), (0, .ref (r 0))]) (pc2 := 15) O dX2_readNumber_14 rfl (by decide) rfl rfl ?_
  refine zr_aload_n (pc2 := 16) O dX2_readNumber_15 rfl 1 rfl rfl ?_
  refine zr_dup (pc2 := 17) O dX2_readNumber_16 rfl rfl ?_
  refine zr_getf (v := .int (nI pl)) (pc2 := 20) O sF_X2_readNumber_15 0 0 rfl rfl rfl dX2_readNumber_17 rfl ?_
  refine zr_iconst (v := (nI 1)) (pc2 := 21) O dX2_readNumber_20 (by decide +kernel) rfl ?_
  refine zr_iadd (v := (nI (pl + 1))) (pc2 := 22) O dX2_readNumber_21 (nI_add pl 1) rfl ?_
  refine zr_putf (G2 := readerW cI r (c 1) (pl + 1) Nu) (ws2 := [readerW cI r (c 1) (pl + 1) Nu, scrollW cC c n Le]) (pc2 := 25) O sP_X2_readNumber_15 0 0 rfl rfl rfl rfl (Nat.le_of_ble_eq_true rfl) dX2_readNumber_22 rfl rfl rfl ?_
  refine zr_aload_n (pc2 := 26) O dX2_readNumber_25 rfl 1 rfl rfl ?_
  refine zr_getf (v := .ref (c 1)) (pc2 := 29) O sF_X2_readNumber_19 0 0 rfl rfl rfl dX2_readNumber_26 rfl ?_
  refine zr_aload_n (pc2 := 30) O dX2_readNumber_29 rfl 1 rfl rfl ?_
  refine zr_getf (v := .int (nI (pl + 1))) (pc2 := 33) O sF_X2_readNumber_15 0 0 rfl rfl rfl dX2_readNumber_30 rfl ?_
  refine zr_callV (As := [.int (nI (pl + 1))]) (rest := []) (ws2 := [readerW cI r (c 1) (pl + 1) Nu, scrollW cC c n Le]) (pc2 := 36) (ci := 3) (g0 := 1) (q0 := 0) O (c_X3_at l D cI cC cJ c n Le (pl + 1) (by first | assumption | omega) (by first | assumption | omega) (by first | assumption | omega)) sC_X2_readNumber_37 rfl rfl rfl rfl rfl dX2_readNumber_33 [1] rfl rfl rfl rfl (Nat.le_of_ble_eq_true rfl) rfl ?_
  show Z _ _ _ [.int (s_X3_at n Le (pl + 1))]
  refine zr_callS (As := [.int (s_X3_at n Le (pl + 1))]) (rest := []) (ws2 := [readerW cI r (c 1) (pl + 1) Nu, scrollW cC c n Le]) (pc2 := 39) O (c_X2_isFigure l D cI cC cJ (s_X3_at n Le (pl + 1))) sC_X2_readNumber_64 rfl rfl dX2_readNumber_36 [] rfl rfl rfl rfl (Nat.le_of_ble_eq_true rfl) rfl ?_
  show Z _ _ _ [.int (zb (s_X2_isFigure (s_X3_at n Le (pl + 1))))]
  refine zb_if_eq (tgt := 72) (pc2 := 42) O dX2_readNumber_39 (by decide) rfl (fun c39 => ?_) (fun c39 => ?_)
  · refine zr_iload_n (pc2 := 73) O dX2_readNumber_72 rfl 0 rfl rfl ?_
    have hE : s_X2_readNumber pl n Le = (((s_X3_at n Le pl) - (nI 48)), pl + 1) := by exact (zif_f c39)
    exact hret _ _ _ _ dX2_readNumber_73 rfl (by rw [hE]) (by rw [hE])
  · refine zr_iload_n (pc2 := 43) O dX2_readNumber_42 rfl 0 rfl rfl ?_
    refine zr_bipush (v := (nI 10)) (pc2 := 45) O dX2_readNumber_43 (by decide +kernel) rfl ?_
    refine zr_imul (v := (((s_X3_at n Le pl) - (nI 48)) * (nI 10))) (pc2 := 46) O dX2_readNumber_45 rfl rfl ?_
    refine zr_aload_n (pc2 := 47) O dX2_readNumber_46 rfl 1 rfl rfl ?_
    refine zr_getf (v := .ref (c 1)) (pc2 := 50) O sF_X2_readNumber_19 0 0 rfl rfl rfl dX2_readNumber_47 rfl ?_
    refine zr_aload_n (pc2 := 51) O dX2_readNumber_50 rfl 1 rfl rfl ?_
    refine zr_getf (v := .int (nI (pl + 1))) (pc2 := 54) O sF_X2_readNumber_15 0 0 rfl rfl rfl dX2_readNumber_51 rfl ?_
    refine zr_callV (As := [.int (nI (pl + 1))]) (rest := [.int (((s_X3_at n Le pl) - (nI 48)) * (nI 10))]) (ws2 := [readerW cI r (c 1) (pl + 1) Nu, scrollW cC c n Le]) (pc2 := 57) (ci := 3) (g0 := 1) (q0 := 0) O (c_X3_at l D cI cC cJ c n Le (pl + 1) (by first | assumption | omega) (by first | assumption | omega) (by first | assumption | omega)) sC_X2_readNumber_37 rfl rfl rfl rfl rfl dX2_readNumber_54 [1] rfl rfl rfl rfl (Nat.le_of_ble_eq_true rfl) rfl ?_
    show Z _ _ _ [.int (s_X3_at n Le (pl + 1)), .int (((s_X3_at n Le pl) - (nI 48)) * (nI 10))]
    refine zr_bipush (v := (nI 48)) (pc2 := 59) O dX2_readNumber_57 (by decide +kernel) rfl ?_
    refine zr_isub (v := ((s_X3_at n Le (pl + 1)) - (nI 48))) (pc2 := 60) O dX2_readNumber_59 rfl rfl ?_
    refine zr_iadd (v := ((((s_X3_at n Le pl) - (nI 48)) * (nI 10)) + ((s_X3_at n Le (pl + 1)) - (nI 48)))) (pc2 := 61) O dX2_readNumber_60 rfl rfl ?_
    obtain ⟨x61, hx61⟩ : ∃ z9 : Int32, z9 = ((((s_X3_at n Le pl) - (nI 48)) * (nI 10)) + ((s_X3_at n Le (pl + 1)) - (nI 48))) := ⟨_, rfl⟩
    rw [← hx61]
    refine zr_istore_n (lv2 := [(1, .int x61), (0, .ref (r 0))]) (pc2 := 62) O dX2_readNumber_61 rfl (by decide) rfl rfl ?_
    refine zr_aload_n (pc2 := 63) O dX2_readNumber_62 rfl 1 rfl rfl ?_
    refine zr_dup (pc2 := 64) O dX2_readNumber_63 rfl rfl ?_
    refine zr_getf (v := .int (nI (pl + 1))) (pc2 := 67) O sF_X2_readNumber_15 0 0 rfl rfl rfl dX2_readNumber_64 rfl ?_
    refine zr_iconst (v := (nI 1)) (pc2 := 68) O dX2_readNumber_67 (by decide +kernel) rfl ?_
    refine zr_iadd (v := (nI ((pl + 1) + 1))) (pc2 := 69) O dX2_readNumber_68 (nI_add (pl + 1) 1) rfl ?_
    refine zr_putf (G2 := readerW cI r (c 1) ((pl + 1) + 1) Nu) (ws2 := [readerW cI r (c 1) ((pl + 1) + 1) Nu, scrollW cC c n Le]) (pc2 := 72) O sP_X2_readNumber_15 0 0 rfl rfl rfl rfl (Nat.le_of_ble_eq_true rfl) dX2_readNumber_69 rfl rfl rfl ?_
    refine zr_iload_n (pc2 := 73) O dX2_readNumber_72 rfl 0 rfl rfl ?_
    have hE : s_X2_readNumber pl n Le = (x61, (pl + 1) + 1) := by subst hx61; exact (zif_t c39)
    exact hret _ _ _ _ dX2_readNumber_73 rfl (by rw [hE]) (by rw [hE])
theorem readNumber_le (pl n : Nat) (Le : Nat → Int32) : (s_X2_readNumber pl n Le).2 ≤ pl + 2 := by
  unfold s_X2_readNumber
  repeat' split
  all_goals (dsimp only; omega)
/-! X2_readNumbers -/
def f_X2_readNumbers_2 (n : Nat) (Le : Nat → Int32) (wd : Nat) : Nat → Nat → Nat → (Nat → Int32) → Bool × Nat × (Nat → Int32)
  | 0, _, pl9, Nu9 => (true, pl9, Nu9)
  | n9 + 1, k, pl9, Nu9 => if (s_X2_isFigure (s_X3_at n Le pl9)) = true then let u41 := s_X2_readNumber pl9 n Le; if k = (wd - 1) then if (s_X3_at n Le u41.2) = (nI 59) then f_X2_readNumbers_2 n Le wd n9 (k + 1) (u41.2 + 1) (upd Nu9 k u41.1) else (false, u41.2, (upd Nu9 k u41.1)) else if (s_X3_at n Le u41.2) = (nI 44) then f_X2_readNumbers_2 n Le wd n9 (k + 1) (u41.2 + 1) (upd Nu9 k u41.1) else (false, u41.2, (upd Nu9 k u41.1)) else (false, pl9, Nu9)
def s_X2_readNumbers (pl : Nat) (Nu : Nat → Int32) (n : Nat) (Le : Nat → Int32) (wd : Nat) : Bool × Nat × (Nat → Int32) := f_X2_readNumbers_2 n Le wd wd 0 pl Nu
set_option maxHeartbeats 4000000 in
set_option maxRecDepth 100000 in
theorem c_X2_readNumbers (l : Launch) (D : va_G) (cI cC cJ : ClassId) (r : Nat → Nat) (c : Nat → Nat) (pl : Nat) (Nu : Nat → Int32) (n : Nat) (Le : Nat → Int32) (wd : Nat) (hn : n ≤ 200) (hL : ∀ j, narrow .char (.int (Le j)) = .int (Le j)) (hpl : pl ≤ 300) (hw : wd ≤ 4) : zD l yX2_readNumbers wsX2_readNumbers rm_X2_readNumbers D (zT cI cC cJ) [.ref (r 0), .int (nI wd)] [readerW cI r (c 1) pl Nu, scrollW cC c n Le] (some (.int (zb ((s_X2_readNumbers pl Nu n Le wd).1)))) [readerW cI r (c 1) ((s_X2_readNumbers pl Nu n Le wd).2.1) ((s_X2_readNumbers pl Nu n Le wd).2.2), scrollW cC c n Le] := by
  refine zD_int (cc := cX2_readNumbers) (maxL := 4) (ty := .boolean) (lv := [(0, .ref (r 0)), (1, .int (nI wd))]) (by decide +kernel) rfl (Nat.le_of_ble_eq_true rfl) rfl (fun Z O hret => ?_)
  refine zr_iconst (v := (nI 0)) (pc2 := 1) O dX2_readNumbers_0 (by decide +kernel) rfl ?_
  refine zr_istore_n (lv2 := [(2, .int (nI 0)), (0, .ref (r 0)), (1, .int (nI wd))]) (pc2 := 2) O dX2_readNumbers_1 rfl (by decide) rfl rfl ?_
  have hS2 : s_X2_readNumbers pl Nu n Le wd = f_X2_readNumbers_2 n Le wd wd 0 pl Nu := by exact rfl
  have lp2 : ∀ (n9 : Nat) (k : Nat) (pl9 : Nat) (Nu9 : Nat → Int32), k + n9 = wd → (pl9 ≤ pl + 3 * k) → f_X2_readNumbers_2 n Le wd wd 0 pl Nu = f_X2_readNumbers_2 n Le wd n9 k pl9 Nu9 → Z [readerW cI r (c 1) pl9 Nu9, scrollW cC c n Le] [(2, .int (nI k)), (0, .ref (r 0)), (1, .int (nI wd))] 2 [] := by
    intro n9
    induction n9 with
    | zero =>
      intro k pl9 Nu9 hM2 hi9 hF2
      refine zr_iload_n (pc2 := 3) O dX2_readNumbers_2 rfl 0 rfl rfl ?_
      refine zr_iload_n (pc2 := 4) O dX2_readNumbers_3 rfl 2 rfl rfl ?_
      refine zn_icmp_ge (tgt := 93) (pc2 := 7) O dX2_readNumbers_4 (by decide) rfl (by omega) (by omega) (fun c4 => ?_) (fun c4 => ?_)
      · refine zr_iconst (v := (nI 1)) (pc2 := 94) O dX2_readNumbers_93 (by decide +kernel) rfl ?_
        have hE : f_X2_readNumbers_2 n Le wd 0 k pl9 Nu9 = (true, pl9, Nu9) := by exact rfl
        have hE := hS2.trans (hF2.trans hE)
        exact hret _ _ _ _ dX2_readNumbers_94 (by decide +kernel) (by rw [hE]; rfl) (by rw [hE])
      · exact absurd c4 (by omega)
    | succ n9 ih2 =>
      intro k pl9 Nu9 hM2 hi9 hF2
      refine zr_iload_n (pc2 := 3) O dX2_readNumbers_2 rfl 0 rfl rfl ?_
      refine zr_iload_n (pc2 := 4) O dX2_readNumbers_3 rfl 2 rfl rfl ?_
      refine zn_icmp_ge (tgt := 93) (pc2 := 7) O dX2_readNumbers_4 (by decide) rfl (by omega) (by omega) (fun c4 => ?_) (fun c4 => ?_)
      · exact absurd c4 (by omega)
      · refine zr_iload_n (pc2 := 8) O dX2_readNumbers_7 rfl 0 rfl rfl ?_
        refine zr_aload_n (pc2 := 9) O dX2_readNumbers_8 rfl 1 rfl rfl ?_
        refine zr_getf (v := .ref (r 1)) (pc2 := 12) O sF_X2_readNumbers_9 0 0 rfl rfl rfl dX2_readNumbers_9 rfl ?_
        refine zn_alen (v := (nI 4)) (pc2 := 13) O 0 1 0 rfl rfl rfl rfl dX2_readNumbers_12 rfl ?_
        refine zn_icmp_ge (tgt := 93) (pc2 := 16) O dX2_readNumbers_13 (by decide) rfl (by omega) (by omega) (fun c13 => ?_) (fun c13 => ?_)
        · exact absurd c13 (by omega)
        · refine zr_aload_n (pc2 := 17) O dX2_readNumbers_16 rfl 1 rfl rfl ?_
          refine zr_getf (v := .ref (c 1)) (pc2 := 20) O sF_X2_readNumbers_19 0 0 rfl rfl rfl dX2_readNumbers_17 rfl ?_
          refine zr_aload_n (pc2 := 21) O dX2_readNumbers_20 rfl 1 rfl rfl ?_
          refine zr_getf (v := .int (nI pl9)) (pc2 := 24) O sF_X2_readNumbers_15 0 0 rfl rfl rfl dX2_readNumbers_21 rfl ?_
          refine zr_callV (As := [.int (nI pl9)]) (rest := []) (ws2 := [readerW cI r (c 1) pl9 Nu9, scrollW cC c n Le]) (pc2 := 27) (ci := 3) (g0 := 1) (q0 := 0) O (c_X3_at l D cI cC cJ c n Le pl9 (by first | assumption | omega) (by first | assumption | omega) (by first | assumption | omega)) sC_X2_readNumbers_37 rfl rfl rfl rfl rfl dX2_readNumbers_24 [1] rfl rfl rfl rfl (Nat.le_of_ble_eq_true rfl) rfl ?_
          show Z _ _ _ [.int (s_X3_at n Le pl9)]
          refine zr_callS (As := [.int (s_X3_at n Le pl9)]) (rest := []) (ws2 := [readerW cI r (c 1) pl9 Nu9, scrollW cC c n Le]) (pc2 := 30) O (c_X2_isFigure l D cI cC cJ (s_X3_at n Le pl9)) sC_X2_readNumbers_64 rfl rfl dX2_readNumbers_27 [] rfl rfl rfl rfl (Nat.le_of_ble_eq_true rfl) rfl ?_
          show Z _ _ _ [.int (zb (s_X2_isFigure (s_X3_at n Le pl9)))]
          refine zb_if_ne (tgt := 35) (pc2 := 33) O dX2_readNumbers_30 (by decide) rfl (fun c30 => ?_) (fun c30 => ?_)
          · refine zr_aload_n (pc2 := 36) O dX2_readNumbers_35 rfl 1 rfl rfl ?_
            refine zr_getf (v := .ref (r 1)) (pc2 := 39) O sF_X2_readNumbers_9 0 0 rfl rfl rfl dX2_readNumbers_36 rfl ?_
            refine zr_iload_n (pc2 := 40) O dX2_readNumbers_39 rfl 0 rfl rfl ?_
            refine zr_aload_n (pc2 := 41) O dX2_readNumbers_40 rfl 1 rfl rfl ?_
            obtain ⟨u41, hu41⟩ : ∃ z9, z9 = s_X2_readNumber pl9 n Le := ⟨_, rfl⟩
            refine zr_callV (As := []) (rest := [.int (nI k), .ref (r 1)]) (ws2 := [readerW cI r (c 1) u41.2 Nu9, scrollW cC c n Le]) (pc2 := 44) (ci := 2) (g0 := 0) (q0 := 0) (v := (some (.int u41.1))) (W := [readerW cI r (c 1) pl9 Nu9, scrollW cC c n Le]) (W2 := [readerW cI r (c 1) u41.2 Nu9, scrollW cC c n Le]) O (by rw [hu41]; exact (c_X2_readNumber l D cI cC cJ r c pl9 Nu9 n Le (by first | assumption | omega) (by first | assumption | omega) (by first | assumption | omega))) sC_X2_readNumbers_68 rfl rfl rfl rfl rfl dX2_readNumbers_41 [0, 1] rfl rfl rfl rfl (Nat.le_of_ble_eq_true rfl) rfl ?_
            show Z _ _ _ [.int u41.1, .int (nI k), .ref (r 1)]
            refine zn_iast (j := k) (G2 := readerW cI r (c 1) u41.2 (upd Nu9 k u41.1)) (ws2 := [readerW cI r (c 1) u41.2 (upd Nu9 k u41.1), scrollW cC c n Le]) (pc2 := 45) O 0 1 0 rfl rfl rfl rfl (by omega) (by decide) dX2_readNumbers_44 rfl rfl rfl ?_
            refine zr_iload_n (pc2 := 46) O dX2_readNumbers_45 rfl 0 rfl rfl ?_
            refine zr_iload_n (pc2 := 47) O dX2_readNumbers_46 rfl 2 rfl rfl ?_
            refine zr_iconst (v := (nI 1)) (pc2 := 48) O dX2_readNumbers_47 (by decide +kernel) rfl ?_
            refine zr_isub (v := (nI (wd - 1))) (pc2 := 49) O dX2_readNumbers_48 (pk_sub (by omega)) rfl ?_
            refine zn_icmp_ne (tgt := 57) (pc2 := 52) O dX2_readNumbers_49 (by decide) rfl (by omega) (by omega) (fun c49 => ?_) (fun c49 => ?_)
            · refine zr_bipush (v := (nI 44)) (pc2 := 59) O dX2_readNumbers_57 (by decide +kernel) rfl ?_
              refine zr_istore_n (lv2 := [(3, .int (nI 44)), (2, .int (nI k)), (0, .ref (r 0)), (1, .int (nI wd))]) (pc2 := 60) O dX2_readNumbers_59 rfl (by decide) rfl rfl ?_
              refine zr_aload_n (pc2 := 61) O dX2_readNumbers_60 rfl 2 rfl rfl ?_
              refine zr_getf (v := .ref (c 1)) (pc2 := 64) O sF_X2_readNumbers_19 0 0 rfl rfl rfl dX2_readNumbers_61 rfl ?_
              refine zr_aload_n (pc2 := 65) O dX2_readNumbers_64 rfl 2 rfl rfl ?_
              refine zr_getf (v := .int (nI u41.2)) (pc2 := 68) O sF_X2_readNumbers_15 0 0 rfl rfl rfl dX2_readNumbers_65 rfl ?_
              refine zr_callV (As := [.int (nI u41.2)]) (rest := []) (ws2 := [readerW cI r (c 1) u41.2 (upd Nu9 k u41.1), scrollW cC c n Le]) (pc2 := 71) (ci := 3) (g0 := 1) (q0 := 0) O (c_X3_at l D cI cC cJ c n Le u41.2 hn (by subst hu41; have h9 := readNumber_le pl9 n Le; omega) hL) sC_X2_readNumbers_37 rfl rfl rfl rfl rfl dX2_readNumbers_68 [1] rfl rfl rfl rfl (Nat.le_of_ble_eq_true rfl) rfl ?_
              show Z _ _ _ [.int (s_X3_at n Le u41.2)]
              refine zr_iload_n (pc2 := 72) O dX2_readNumbers_71 rfl 0 rfl rfl ?_
              refine zr_icmp_eq (tgt := 77) (pc2 := 75) O dX2_readNumbers_72 (by decide) rfl (fun c72 => ?_) (fun c72 => ?_)
              · refine zr_aload_n (pc2 := 78) O dX2_readNumbers_77 rfl 2 rfl rfl ?_
                refine zr_dup (pc2 := 79) O dX2_readNumbers_78 rfl rfl ?_
                refine zr_getf (v := .int (nI u41.2)) (pc2 := 82) O sF_X2_readNumbers_15 0 0 rfl rfl rfl dX2_readNumbers_79 rfl ?_
                refine zr_iconst (v := (nI 1)) (pc2 := 83) O dX2_readNumbers_82 (by decide +kernel) rfl ?_
                refine zr_iadd (v := (nI (u41.2 + 1))) (pc2 := 84) O dX2_readNumbers_83 (nI_add u41.2 1) rfl ?_
                refine zr_putf (G2 := readerW cI r (c 1) (u41.2 + 1) (upd Nu9 k u41.1)) (ws2 := [readerW cI r (c 1) (u41.2 + 1) (upd Nu9 k u41.1), scrollW cC c n Le]) (pc2 := 87) O sP_X2_readNumbers_15 0 0 rfl rfl rfl rfl (Nat.le_of_ble_eq_true rfl) dX2_readNumbers_84 rfl rfl rfl ?_
                refine zr_iinc (v := (nI (k + 1))) (lv2 := [(2, .int (nI (k + 1))), (3, .int (nI 44)), (0, .ref (r 0)), (1, .int (nI wd))]) (pc2 := 90) O dX2_readNumbers_87 1 rfl (zm_ofInt1 k) (by decide) rfl rfl ?_
                refine zr_goto (tgt := 2) O dX2_readNumbers_90 (by decide) ?_
                refine zr_sub (lv2 := [(2, .int (nI (k + 1))), (0, .ref (r 0)), (1, .int (nI wd))]) O [0, 2, 3] rfl ?_
                have hE : f_X2_readNumbers_2 n Le wd (n9 + 1) k pl9 Nu9 = f_X2_readNumbers_2 n Le wd n9 (k + 1) (u41.2 + 1) (upd Nu9 k u41.1) := by subst hu41; exact ((zif_t c30).trans ((if_neg c49).trans (if_pos c72)))
                exact ih2 (k + 1) (u41.2 + 1) (upd Nu9 k u41.1) (by omega) (by subst hu41; have h9 := readNumber_le pl9 n Le; omega) (hF2.trans hE)
              · refine zr_iconst (v := (nI 0)) (pc2 := 76) O dX2_readNumbers_75 (by decide +kernel) rfl ?_
                have hE : f_X2_readNumbers_2 n Le wd (n9 + 1) k pl9 Nu9 = (false, u41.2, (upd Nu9 k u41.1)) := by subst hu41; exact ((zif_t c30).trans ((if_neg c49).trans (if_neg c72)))
                have hE := hS2.trans (hF2.trans hE)
                exact hret _ _ _ _ dX2_readNumbers_76 (by decide +kernel) (by rw [hE]; rfl) (by rw [hE])
            · refine zr_bipush (v := (nI 59)) (pc2 := 54) O dX2_readNumbers_52 (by decide +kernel) rfl ?_
              refine zr_goto (tgt := 59) O dX2_readNumbers_54 (by decide) ?_
              refine zr_istore_n (lv2 := [(3, .int (nI 59)), (2, .int (nI k)), (0, .ref (r 0)), (1, .int (nI wd))]) (pc2 := 60) O dX2_readNumbers_59 rfl (by decide) rfl rfl ?_
              refine zr_aload_n (pc2 := 61) O dX2_readNumbers_60 rfl 2 rfl rfl ?_
              refine zr_getf (v := .ref (c 1)) (pc2 := 64) O sF_X2_readNumbers_19 0 0 rfl rfl rfl dX2_readNumbers_61 rfl ?_
              refine zr_aload_n (pc2 := 65) O dX2_readNumbers_64 rfl 2 rfl rfl ?_
              refine zr_getf (v := .int (nI u41.2)) (pc2 := 68) O sF_X2_readNumbers_15 0 0 rfl rfl rfl dX2_readNumbers_65 rfl ?_
              refine zr_callV (As := [.int (nI u41.2)]) (rest := []) (ws2 := [readerW cI r (c 1) u41.2 (upd Nu9 k u41.1), scrollW cC c n Le]) (pc2 := 71) (ci := 3) (g0 := 1) (q0 := 0) O (c_X3_at l D cI cC cJ c n Le u41.2 hn (by subst hu41; have h9 := readNumber_le pl9 n Le; omega) hL) sC_X2_readNumbers_37 rfl rfl rfl rfl rfl dX2_readNumbers_68 [1] rfl rfl rfl rfl (Nat.le_of_ble_eq_true rfl) rfl ?_
              show Z _ _ _ [.int (s_X3_at n Le u41.2)]
              refine zr_iload_n (pc2 := 72) O dX2_readNumbers_71 rfl 0 rfl rfl ?_
              refine zr_icmp_eq (tgt := 77) (pc2 := 75) O dX2_readNumbers_72 (by decide) rfl (fun c72 => ?_) (fun c72 => ?_)
              · refine zr_aload_n (pc2 := 78) O dX2_readNumbers_77 rfl 2 rfl rfl ?_
                refine zr_dup (pc2 := 79) O dX2_readNumbers_78 rfl rfl ?_
                refine zr_getf (v := .int (nI u41.2)) (pc2 := 82) O sF_X2_readNumbers_15 0 0 rfl rfl rfl dX2_readNumbers_79 rfl ?_
                refine zr_iconst (v := (nI 1)) (pc2 := 83) O dX2_readNumbers_82 (by decide +kernel) rfl ?_
                refine zr_iadd (v := (nI (u41.2 + 1))) (pc2 := 84) O dX2_readNumbers_83 (nI_add u41.2 1) rfl ?_
                refine zr_putf (G2 := readerW cI r (c 1) (u41.2 + 1) (upd Nu9 k u41.1)) (ws2 := [readerW cI r (c 1) (u41.2 + 1) (upd Nu9 k u41.1), scrollW cC c n Le]) (pc2 := 87) O sP_X2_readNumbers_15 0 0 rfl rfl rfl rfl (Nat.le_of_ble_eq_true rfl) dX2_readNumbers_84 rfl rfl rfl ?_
                refine zr_iinc (v := (nI (k + 1))) (lv2 := [(2, .int (nI (k + 1))), (3, .int (nI 59)), (0, .ref (r 0)), (1, .int (nI wd))]) (pc2 := 90) O dX2_readNumbers_87 1 rfl (zm_ofInt1 k) (by decide) rfl rfl ?_
                refine zr_goto (tgt := 2) O dX2_readNumbers_90 (by decide) ?_
                refine zr_sub (lv2 := [(2, .int (nI (k + 1))), (0, .ref (r 0)), (1, .int (nI wd))]) O [0, 2, 3] rfl ?_
                have hE : f_X2_readNumbers_2 n Le wd (n9 + 1) k pl9 Nu9 = f_X2_readNumbers_2 n Le wd n9 (k + 1) (u41.2 + 1) (upd Nu9 k u41.1) := by subst hu41; exact ((zif_t c30).trans ((if_pos c49).trans (if_pos c72)))
                exact ih2 (k + 1) (u41.2 + 1) (upd Nu9 k u41.1) (by omega) (by subst hu41; have h9 := readNumber_le pl9 n Le; omega) (hF2.trans hE)
              · refine zr_iconst (v := (nI 0)) (pc2 := 76) O dX2_readNumbers_75 (by decide +kernel) rfl ?_
                have hE : f_X2_readNumbers_2 n Le wd (n9 + 1) k pl9 Nu9 = (false, u41.2, (upd Nu9 k u41.1)) := by subst hu41; exact ((zif_t c30).trans ((if_pos c49).trans (if_neg c72)))
                have hE := hS2.trans (hF2.trans hE)
                exact hret _ _ _ _ dX2_readNumbers_76 (by decide +kernel) (by rw [hE]; rfl) (by rw [hE])
          · refine zr_iconst (v := (nI 0)) (pc2 := 34) O dX2_readNumbers_33 (by decide +kernel) rfl ?_
            have hE : f_X2_readNumbers_2 n Le wd (n9 + 1) k pl9 Nu9 = (false, pl9, Nu9) := by exact (zif_f c30)
            have hE := hS2.trans (hF2.trans hE)
            exact hret _ _ _ _ dX2_readNumbers_34 (by decide +kernel) (by rw [hE]; rfl) (by rw [hE])
  exact lp2 wd 0 pl Nu (by omega) (by omega) rfl
theorem readNumbers_le (n : Nat) (Le : Nat → Int32) (wd : Nat) : ∀ (n9 k pl : Nat) (Nu : Nat → Int32), (f_X2_readNumbers_2 n Le wd n9 k pl Nu).2.1 ≤ pl + 3 * n9
  | 0, k, pl, Nu => by show pl ≤ _; omega
  | n9 + 1, k, pl, Nu => by
    have h9 := readNumber_le pl n Le
    unfold f_X2_readNumbers_2
    dsimp only
    repeat' split
    all_goals first
      | (dsimp only; omega)
      | exact Nat.le_trans (readNumbers_le n Le wd n9 (k + 1) _ _) (by omega)
theorem readNumbers_le2 {pl : Nat} {Nu : Nat → Int32} (n : Nat) (Le : Nat → Int32) {wd : Nat} (h : wd ≤ 4) : (s_X2_readNumbers pl Nu n Le wd).2.1 ≤ pl + 12 := by
  have h1 := readNumbers_le n Le wd wd 0 pl Nu
  have h2 : (s_X2_readNumbers pl Nu n Le wd) = f_X2_readNumbers_2 n Le wd wd 0 pl Nu := rfl
  rw [h2]; omega
/-! X2_readItem -/
def s_X2_readItem (pl : Nat) (Nu : Nat → Int32) (n : Nat) (Le : Nat → Int32) (P : Nat) (Q : Nat) (sd : Int32) (B : zB) : Bool × Nat × (Nat → Int32) × Nat × Nat × Int32 × zB := if (s_X2_numbersOf (s_X3_at n Le pl)) = 0 then (false, pl + 1, Nu, P, Q, sd, B) else let u33 := s_X2_readNumbers (pl + 1) Nu n Le (s_X2_numbersOf (s_X3_at n Le pl)); if u33.1 = true then if (s_X3_at n Le pl) = nI 103 then let u141 := s_X0_addGift P B (u33.2.2 0) (u33.2.2 1); (u141.1, u33.2.1, u33.2.2, P, Q, sd, u141.2) else if (s_X3_at n Le pl) = nI 112 then let u101 := s_X0_addPerson P B (u33.2.2 0) (u33.2.2 1) (u33.2.2 2) (u33.2.2 3); (u101.1, u33.2.1, u33.2.2, u101.2.1, Q, sd, u101.2.2) else if (s_X3_at n Le pl) = nI 119 then let u124 := s_X0_addBequest P Q B (u33.2.2 0) (u33.2.2 1) (u33.2.2 2); (u124.1, u33.2.1, u33.2.2, P, u124.2.1, sd, u124.2.2) else let u152 := s_X0_putSeed sd (u33.2.2 0); (u152.1, u33.2.1, u33.2.2, P, Q, u152.2, B) else (false, u33.2.1, u33.2.2, P, Q, sd, B)
set_option maxHeartbeats 4000000 in
set_option maxRecDepth 100000 in
theorem c_X2_readItem (l : Launch) (D : va_G) (cI cC cJ : ClassId) (r : Nat → Nat) (c : Nat → Nat) (b : Nat → Nat) (pl : Nat) (Nu : Nat → Int32) (n : Nat) (Le : Nat → Int32) (P : Nat) (Q : Nat) (Hn : Nat) (sd : Int32) (B : zB) (hn : n ≤ 200) (hL : ∀ j, narrow .char (.int (Le j)) = .int (Le j)) (hpl : pl ≤ 250) (hP : P ≤ 6) (hQ : Q ≤ 9) : zD l yX2_readItem wsX2_readItem rm_X2_readItem D (zT cI cC cJ) [.ref (r 0), .ref (b 0)] [readerW cI r (c 1) pl Nu, scrollW cC c n Le, bookW cI b P Q Hn sd B] (some (.int (zb ((s_X2_readItem pl Nu n Le P Q sd B).1)))) [readerW cI r (c 1) ((s_X2_readItem pl Nu n Le P Q sd B).2.1) ((s_X2_readItem pl Nu n Le P Q sd B).2.2.1), scrollW cC c n Le, bookW cI b ((s_X2_readItem pl Nu n Le P Q sd B).2.2.2.1) ((s_X2_readItem pl Nu n Le P Q sd B).2.2.2.2.1) Hn ((s_X2_readItem pl Nu n Le P Q sd B).2.2.2.2.2.1) ((s_X2_readItem pl Nu n Le P Q sd B).2.2.2.2.2.2)] := by
  refine zD_int (cc := cX2_readItem) (maxL := 4) (ty := .boolean) (lv := [(0, .ref (r 0)), (1, .ref (b 0))]) (by decide +kernel) rfl (Nat.le_of_ble_eq_true rfl) rfl (fun Z O hret => ?_)
  refine zr_aload_n (pc2 := 1) O dX2_readItem_0 rfl 0 rfl rfl ?_
  refine zr_getf (v := .ref (c 1)) (pc2 := 4) O sF_X2_readItem_19 0 0 rfl rfl rfl dX2_readItem_1 rfl ?_
  refine zr_aload_n (pc2 := 5) O dX2_readItem_4 rfl 0 rfl rfl ?_
  refine zr_getf (v := .int (nI pl)) (pc2 := 8) O sF_X2_readItem_15 0 0 rfl rfl rfl dX2_readItem_5 rfl ?_
  refine zr_callV (As := [.int (nI pl)]) (rest := []) (ws2 := [readerW cI r (c 1) pl Nu, scrollW cC c n Le, bookW cI b P Q Hn sd B]) (pc2 := 11) (ci := 3) (g0 := 1) (q0 := 0) O (c_X3_at l D cI cC cJ c n Le pl (by first | assumption | omega) (by first | assumption | omega) (by first | assumption | omega)) sC_X2_readItem_37 rfl rfl rfl rfl rfl dX2_readItem_8 [1] rfl rfl rfl rfl (Nat.le_of_ble_eq_true rfl) rfl ?_
  show Z _ _ _ [.int (s_X3_at n Le pl)]
  refine zr_istore_n (lv2 := [(2, .int (s_X3_at n Le pl)), (0, .ref (r 0)), (1, .ref (b 0))]) (pc2 := 12) O dX2_readItem_11 rfl (by decide) rfl rfl ?_
  refine zr_aload_n (pc2 := 13) O dX2_readItem_12 rfl 1 rfl rfl ?_
  refine zr_dup (pc2 := 14) O dX2_readItem_13 rfl rfl ?_
  refine zr_getf (v := .int (nI pl)) (pc2 := 17) O sF_X2_readItem_15 0 0 rfl rfl rfl dX2_readItem_14 rfl ?_
  refine zr_iconst (v := (nI 1)) (pc2 := 18) O dX2_readItem_17 (by decide +kernel) rfl ?_
  refine zr_iadd (v := (nI (pl + 1))) (pc2 := 19) O dX2_readItem_18 (nI_add pl 1) rfl ?_
  refine zr_putf (G2 := readerW cI r (c 1) (pl + 1) Nu) (ws2 := [readerW cI r (c 1) (pl + 1) Nu, scrollW cC c n Le, bookW cI b P Q Hn sd B]) (pc2 := 22) O sP_X2_readItem_15 0 0 rfl rfl rfl rfl (Nat.le_of_ble_eq_true rfl) dX2_readItem_19 rfl rfl rfl ?_
  refine zr_iload_n (pc2 := 23) O dX2_readItem_22 rfl 0 rfl rfl ?_
  refine zr_callS (As := [.int (s_X3_at n Le pl)]) (rest := []) (ws2 := [readerW cI r (c 1) (pl + 1) Nu, scrollW cC c n Le, bookW cI b P Q Hn sd B]) (pc2 := 26) O (c_X2_numbersOf l D cI cC cJ (s_X3_at n Le pl)) sC_X2_readItem_41 rfl rfl dX2_readItem_23 [] rfl rfl rfl rfl (Nat.le_of_ble_eq_true rfl) rfl ?_
  show Z _ _ _ [.int (nI (s_X2_numbersOf (s_X3_at n Le pl)))]
  refine zr_istore_n (lv2 := [(3, .int (nI (s_X2_numbersOf (s_X3_at n Le pl)))), (2, .int (s_X3_at n Le pl)), (0, .ref (r 0)), (1, .ref (b 0))]) (pc2 := 27) O dX2_readItem_26 rfl (by decide) rfl rfl ?_
  refine zr_iload_n (pc2 := 28) O dX2_readItem_27 rfl 0 rfl rfl ?_
  refine zn_if_eq (tgt := 39) (pc2 := 31) O dX2_readItem_28 (by decide) rfl (by have h9 := numbersOf_le (s_X3_at n Le pl); omega) (fun c28 => ?_) (fun c28 => ?_)
  · refine zr_iconst (v := (nI 0)) (pc2 := 40) O dX2_readItem_39 (by decide +kernel) rfl ?_
    have hE : s_X2_readItem pl Nu n Le P Q sd B = (false, pl + 1, Nu, P, Q, sd, B) := by exact (if_pos c28)
    exact hret _ _ _ _ dX2_readItem_40 (by decide +kernel) (by rw [hE]; rfl) (by rw [hE])
  · refine zr_aload_n (pc2 := 32) O dX2_readItem_31 rfl 2 rfl rfl ?_
    refine zr_iload_n (pc2 := 33) O dX2_readItem_32 rfl 0 rfl rfl ?_
    obtain ⟨u33, hu33⟩ : ∃ z9, z9 = s_X2_readNumbers (pl + 1) Nu n Le (s_X2_numbersOf (s_X3_at n Le pl)) := ⟨_, rfl⟩
    refine zr_callV (As := [.int (nI (s_X2_numbersOf (s_X3_at n Le pl)))]) (rest := []) (ws2 := [readerW cI r (c 1) u33.2.1 u33.2.2, scrollW cC c n Le, bookW cI b P Q Hn sd B]) (pc2 := 36) (ci := 2) (g0 := 0) (q0 := 0) (v := (some (.int (zb u33.1)))) (W := [readerW cI r (c 1) (pl + 1) Nu, scrollW cC c n Le]) (W2 := [readerW cI r (c 1) u33.2.1 u33.2.2, scrollW cC c n Le]) O (by rw [hu33]; exact (c_X2_readNumbers l D cI cC cJ r c (pl + 1) Nu n Le (s_X2_numbersOf (s_X3_at n Le pl)) hn hL (by omega) (numbersOf_le _))) sC_X2_readItem_45 rfl rfl rfl rfl rfl dX2_readItem_33 [0, 1] rfl rfl rfl rfl (Nat.le_of_ble_eq_true rfl) rfl ?_
    show Z _ _ _ [.int (zb u33.1)]
    refine zb_if_ne (tgt := 41) (pc2 := 39) O dX2_readItem_36 (by decide) rfl (fun c36 => ?_) (fun c36 => ?_)
    · refine zr_iload_n (pc2 := 42) O dX2_readItem_41 rfl 1 rfl rfl ?_
      by_cases c42_103 : (s_X3_at n Le pl) = nI 103
      · refine zn_lookup (y := nI 103) (off := 86) (tgt := 128) O c42_103 dX2_readItem_42 (by decide +kernel) (by decide +kernel) (by decide) ?_
        refine zr_aload_n (pc2 := 129) O dX2_readItem_128 rfl 3 rfl rfl ?_
        refine zr_aload_n (pc2 := 130) O dX2_readItem_129 rfl 2 rfl rfl ?_
        refine zr_getf (v := .ref (r 1)) (pc2 := 133) O sF_X2_readItem_9 0 0 rfl rfl rfl dX2_readItem_130 rfl ?_
        refine zr_iconst (v := (nI 0)) (pc2 := 134) O dX2_readItem_133 (by decide +kernel) rfl ?_
        refine zn_iald (j := 0) (pc2 := 135) O 0 1 0 rfl rfl rfl rfl (by omega) (by decide) dX2_readItem_134 rfl ?_
        refine zr_aload_n (pc2 := 136) O dX2_readItem_135 rfl 2 rfl rfl ?_
        refine zr_getf (v := .ref (r 1)) (pc2 := 139) O sF_X2_readItem_9 0 0 rfl rfl rfl dX2_readItem_136 rfl ?_
        refine zr_iconst (v := (nI 1)) (pc2 := 140) O dX2_readItem_139 (by decide +kernel) rfl ?_
        refine zn_iald (j := 1) (pc2 := 141) O 0 1 0 rfl rfl rfl rfl (by omega) (by decide) dX2_readItem_140 rfl ?_
        obtain ⟨u141, hu141⟩ : ∃ z9, z9 = s_X0_addGift P B (u33.2.2 0) (u33.2.2 1) := ⟨_, rfl⟩
        refine zr_callV (As := [.int (u33.2.2 0), .int (u33.2.2 1)]) (rest := []) (ws2 := [readerW cI r (c 1) u33.2.1 u33.2.2, scrollW cC c n Le, bookW cI b P Q Hn sd u141.2]) (pc2 := 144) (ci := 0) (g0 := 2) (q0 := 0) (v := (some (.int (zb u141.1)))) (W := [bookW cI b P Q Hn sd B]) (W2 := [bookW cI b P Q Hn sd u141.2]) O (by rw [hu141]; exact (c_X0_addGift l D cI cC cJ b P Q Hn sd B (u33.2.2 0) (u33.2.2 1) (by first | assumption | omega))) sC_X2_readItem_57 rfl rfl rfl rfl rfl dX2_readItem_141 [2] rfl rfl rfl rfl (Nat.le_of_ble_eq_true rfl) rfl ?_
        show Z _ _ _ [.int (zb u141.1)]
        have hE : s_X2_readItem pl Nu n Le P Q sd B = (u141.1, u33.2.1, u33.2.2, P, Q, sd, u141.2) := by subst hu141; subst hu33; exact ((if_neg c28).trans ((zif_t c36).trans (if_pos c42_103)))
        exact hret _ _ _ _ dX2_readItem_144 (zb_nar _) (by rw [hE]) (by rw [hE])
      · skip
        by_cases c42_112 : (s_X3_at n Le pl) = nI 112
        · refine zn_lookup (y := nI 112) (off := 34) (tgt := 76) O c42_112 dX2_readItem_42 (by decide +kernel) (by decide +kernel) (by decide) ?_
          refine zr_aload_n (pc2 := 77) O dX2_readItem_76 rfl 3 rfl rfl ?_
          refine zr_aload_n (pc2 := 78) O dX2_readItem_77 rfl 2 rfl rfl ?_
          refine zr_getf (v := .ref (r 1)) (pc2 := 81) O sF_X2_readItem_9 0 0 rfl rfl rfl dX2_readItem_78 rfl ?_
          refine zr_iconst (v := (nI 0)) (pc2 := 82) O dX2_readItem_81 (by decide +kernel) rfl ?_
          refine zn_iald (j := 0) (pc2 := 83) O 0 1 0 rfl rfl rfl rfl (by omega) (by decide) dX2_readItem_82 rfl ?_
          refine zr_aload_n (pc2 := 84) O dX2_readItem_83 rfl 2 rfl rfl ?_
          refine zr_getf (v := .ref (r 1)) (pc2 := 87) O sF_X2_readItem_9 0 0 rfl rfl rfl dX2_readItem_84 rfl ?_
          refine zr_iconst (v := (nI 1)) (pc2 := 88) O dX2_readItem_87 (by decide +kernel) rfl ?_
          refine zn_iald (j := 1) (pc2 := 89) O 0 1 0 rfl rfl rfl rfl (by omega) (by decide) dX2_readItem_88 rfl ?_
          refine zr_aload_n (pc2 := 90) O dX2_readItem_89 rfl 2 rfl rfl ?_
          refine zr_getf (v := .ref (r 1)) (pc2 := 93) O sF_X2_readItem_9 0 0 rfl rfl rfl dX2_readItem_90 rfl ?_
          refine zr_iconst (v := (nI 2)) (pc2 := 94) O dX2_readItem_93 (by decide +kernel) rfl ?_
          refine zn_iald (j := 2) (pc2 := 95) O 0 1 0 rfl rfl rfl rfl (by omega) (by decide) dX2_readItem_94 rfl ?_
          refine zr_aload_n (pc2 := 96) O dX2_readItem_95 rfl 2 rfl rfl ?_
          refine zr_getf (v := .ref (r 1)) (pc2 := 99) O sF_X2_readItem_9 0 0 rfl rfl rfl dX2_readItem_96 rfl ?_
          refine zr_iconst (v := (nI 3)) (pc2 := 100) O dX2_readItem_99 (by decide +kernel) rfl ?_
          refine zn_iald (j := 3) (pc2 := 101) O 0 1 0 rfl rfl rfl rfl (by omega) (by decide) dX2_readItem_100 rfl ?_
          obtain ⟨u101, hu101⟩ : ∃ z9, z9 = s_X0_addPerson P B (u33.2.2 0) (u33.2.2 1) (u33.2.2 2) (u33.2.2 3) := ⟨_, rfl⟩
          refine zr_callV (As := [.int (u33.2.2 0), .int (u33.2.2 1), .int (u33.2.2 2), .int (u33.2.2 3)]) (rest := []) (ws2 := [readerW cI r (c 1) u33.2.1 u33.2.2, scrollW cC c n Le, bookW cI b u101.2.1 Q Hn sd u101.2.2]) (pc2 := 104) (ci := 0) (g0 := 2) (q0 := 0) (v := (some (.int (zb u101.1)))) (W := [bookW cI b P Q Hn sd B]) (W2 := [bookW cI b u101.2.1 Q Hn sd u101.2.2]) O (by rw [hu101]; exact (c_X0_addPerson l D cI cC cJ b P Q Hn sd B (u33.2.2 0) (u33.2.2 1) (u33.2.2 2) (u33.2.2 3) (by first | assumption | omega))) sC_X2_readItem_49 rfl rfl rfl rfl rfl dX2_readItem_101 [2] rfl rfl rfl rfl (Nat.le_of_ble_eq_true rfl) rfl ?_
          show Z _ _ _ [.int (zb u101.1)]
          have hE : s_X2_readItem pl Nu n Le P Q sd B = (u101.1, u33.2.1, u33.2.2, u101.2.1, Q, sd, u101.2.2) := by subst hu101; subst hu33; exact ((if_neg c28).trans ((zif_t c36).trans ((if_neg c42_103).trans (if_pos c42_112))))
          exact hret _ _ _ _ dX2_readItem_104 (zb_nar _) (by rw [hE]) (by rw [hE])
        · skip
          by_cases c42_119 : (s_X3_at n Le pl) = nI 119
          · refine zn_lookup (y := nI 119) (off := 63) (tgt := 105) O c42_119 dX2_readItem_42 (by decide +kernel) (by decide +kernel) (by decide) ?_
            refine zr_aload_n (pc2 := 106) O dX2_readItem_105 rfl 3 rfl rfl ?_
            refine zr_aload_n (pc2 := 107) O dX2_readItem_106 rfl 2 rfl rfl ?_
            refine zr_getf (v := .ref (r 1)) (pc2 := 110) O sF_X2_readItem_9 0 0 rfl rfl rfl dX2_readItem_107 rfl ?_
            refine zr_iconst (v := (nI 0)) (pc2 := 111) O dX2_readItem_110 (by decide +kernel) rfl ?_
            refine zn_iald (j := 0) (pc2 := 112) O 0 1 0 rfl rfl rfl rfl (by omega) (by decide) dX2_readItem_111 rfl ?_
            refine zr_aload_n (pc2 := 113) O dX2_readItem_112 rfl 2 rfl rfl ?_
            refine zr_getf (v := .ref (r 1)) (pc2 := 116) O sF_X2_readItem_9 0 0 rfl rfl rfl dX2_readItem_113 rfl ?_
            refine zr_iconst (v := (nI 1)) (pc2 := 117) O dX2_readItem_116 (by decide +kernel) rfl ?_
            refine zn_iald (j := 1) (pc2 := 118) O 0 1 0 rfl rfl rfl rfl (by omega) (by decide) dX2_readItem_117 rfl ?_
            refine zr_aload_n (pc2 := 119) O dX2_readItem_118 rfl 2 rfl rfl ?_
            refine zr_getf (v := .ref (r 1)) (pc2 := 122) O sF_X2_readItem_9 0 0 rfl rfl rfl dX2_readItem_119 rfl ?_
            refine zr_iconst (v := (nI 2)) (pc2 := 123) O dX2_readItem_122 (by decide +kernel) rfl ?_
            refine zn_iald (j := 2) (pc2 := 124) O 0 1 0 rfl rfl rfl rfl (by omega) (by decide) dX2_readItem_123 rfl ?_
            obtain ⟨u124, hu124⟩ : ∃ z9, z9 = s_X0_addBequest P Q B (u33.2.2 0) (u33.2.2 1) (u33.2.2 2) := ⟨_, rfl⟩
            refine zr_callV (As := [.int (u33.2.2 0), .int (u33.2.2 1), .int (u33.2.2 2)]) (rest := []) (ws2 := [readerW cI r (c 1) u33.2.1 u33.2.2, scrollW cC c n Le, bookW cI b P u124.2.1 Hn sd u124.2.2]) (pc2 := 127) (ci := 0) (g0 := 2) (q0 := 0) (v := (some (.int (zb u124.1)))) (W := [bookW cI b P Q Hn sd B]) (W2 := [bookW cI b P u124.2.1 Hn sd u124.2.2]) O (by rw [hu124]; exact (c_X0_addBequest l D cI cC cJ b P Q Hn sd B (u33.2.2 0) (u33.2.2 1) (u33.2.2 2) (by first | assumption | omega))) sC_X2_readItem_53 rfl rfl rfl rfl rfl dX2_readItem_124 [2] rfl rfl rfl rfl (Nat.le_of_ble_eq_true rfl) rfl ?_
            show Z _ _ _ [.int (zb u124.1)]
            have hE : s_X2_readItem pl Nu n Le P Q sd B = (u124.1, u33.2.1, u33.2.2, P, u124.2.1, sd, u124.2.2) := by subst hu124; subst hu33; exact ((if_neg c28).trans ((zif_t c36).trans ((if_neg c42_103).trans ((if_neg c42_112).trans (if_pos c42_119)))))
            exact hret _ _ _ _ dX2_readItem_127 (zb_nar _) (by rw [hE]) (by rw [hE])
          · skip
            refine zr_lookup (off := 103) (tgt := 145) O dX2_readItem_42 (by decide +kernel) ((lv_osw c42_103 (by decide +kernel)).trans ((lv_osw c42_112 (by decide +kernel)).trans ((lv_osw c42_119 (by decide +kernel)).trans rfl))) (by decide) ?_
            refine zr_aload_n (pc2 := 146) O dX2_readItem_145 rfl 3 rfl rfl ?_
            refine zr_aload_n (pc2 := 147) O dX2_readItem_146 rfl 2 rfl rfl ?_
            refine zr_getf (v := .ref (r 1)) (pc2 := 150) O sF_X2_readItem_9 0 0 rfl rfl rfl dX2_readItem_147 rfl ?_
            refine zr_iconst (v := (nI 0)) (pc2 := 151) O dX2_readItem_150 (by decide +kernel) rfl ?_
            refine zn_iald (j := 0) (pc2 := 152) O 0 1 0 rfl rfl rfl rfl (by omega) (by decide) dX2_readItem_151 rfl ?_
            obtain ⟨u152, hu152⟩ : ∃ z9, z9 = s_X0_putSeed sd (u33.2.2 0) := ⟨_, rfl⟩
            refine zr_callV (As := [.int (u33.2.2 0)]) (rest := []) (ws2 := [readerW cI r (c 1) u33.2.1 u33.2.2, scrollW cC c n Le, bookW cI b P Q Hn u152.2 B]) (pc2 := 155) (ci := 0) (g0 := 2) (q0 := 0) (v := (some (.int (zb u152.1)))) (W := [bookW cI b P Q Hn sd B]) (W2 := [bookW cI b P Q Hn u152.2 B]) O (by rw [hu152]; exact (c_X0_putSeed l D cI cC cJ b P Q Hn sd B (u33.2.2 0))) sC_X2_readItem_61 rfl rfl rfl rfl rfl dX2_readItem_152 [2] rfl rfl rfl rfl (Nat.le_of_ble_eq_true rfl) rfl ?_
            show Z _ _ _ [.int (zb u152.1)]
            have hE : s_X2_readItem pl Nu n Le P Q sd B = (u152.1, u33.2.1, u33.2.2, P, Q, u152.2, B) := by subst hu152; subst hu33; exact ((if_neg c28).trans ((zif_t c36).trans ((if_neg c42_103).trans ((if_neg c42_112).trans (if_neg c42_119)))))
            exact hret _ _ _ _ dX2_readItem_155 (zb_nar _) (by rw [hE]) (by rw [hE])
    · refine zr_iconst (v := (nI 0)) (pc2 := 40) O dX2_readItem_39 (by decide +kernel) rfl ?_
      have hE : s_X2_readItem pl Nu n Le P Q sd B = (false, u33.2.1, u33.2.2, P, Q, sd, B) := by subst hu33; exact ((if_neg c28).trans (zif_f c36))
      exact hret _ _ _ _ dX2_readItem_40 (by decide +kernel) (by rw [hE]; rfl) (by rw [hE])
theorem addPerson_P {P : Nat} {B : zB} {a1 a2 a3 a4 : Int32} (h : P ≤ 6) : (s_X0_addPerson P B a1 a2 a3 a4).2.1 ≤ 6 := by
  unfold s_X0_addPerson
  repeat' split
  all_goals (dsimp only; omega)
theorem addBequest_Q {P Q : Nat} {B : zB} {a1 a2 a3 : Int32} (h : Q ≤ 9) : (s_X0_addBequest P Q B a1 a2 a3).2.1 ≤ 9 := by
  unfold s_X0_addBequest
  repeat' split
  all_goals (dsimp only; omega)
theorem readItem_ok {pl : Nat} {Nu : Nat → Int32} {n : Nat} {Le : Nat → Int32} {P Q : Nat} {sd : Int32} {B : zB} (hP : P ≤ 6) (hQ : Q ≤ 9) :
    (s_X2_readItem pl Nu n Le P Q sd B).2.1 ≤ pl + 13 ∧ (s_X2_readItem pl Nu n Le P Q sd B).2.2.2.1 ≤ 6 ∧ (s_X2_readItem pl Nu n Le P Q sd B).2.2.2.2.1 ≤ 9 := by
  have h1 := readNumbers_le2 (pl := pl + 1) (Nu := Nu) n Le (numbersOf_le (s_X3_at n Le pl))
  unfold s_X2_readItem
  dsimp only
  repeat' split
  all_goals (dsimp only; refine ⟨by omega, ?_, ?_⟩)
  all_goals first
    | assumption
    | exact addPerson_P hP
    | exact addBequest_Q hQ
/-! X2_readInto -/
def f_X2_readInto_11 (n : Nat) (Le : Nat → Int32) : Nat → Nat → Nat → (Nat → Int32) → Nat → Nat → Int32 → zB → Int32 × Nat × (Nat → Int32) × Nat × Nat × Nat × Int32 × zB
  | 0, _, pl9, Nu9, P9, Q9, sd9, B9 => ((-4), pl9, Nu9, P9, Q9, 0, sd9, B9)
  | n9 + 1, it, pl9, Nu9, P9, Q9, sd9, B9 => if n ≤ pl9 then ((-4), pl9, Nu9, P9, Q9, 0, sd9, B9) else let u39 := s_X2_readItem pl9 Nu9 n Le P9 Q9 sd9 B9; if u39.1 = true then f_X2_readInto_11 n Le n9 (it + 1) u39.2.1 u39.2.2.1 u39.2.2.2.1 u39.2.2.2.2.1 u39.2.2.2.2.2.1 u39.2.2.2.2.2.2 else ((nI pl9), u39.2.1, u39.2.2.1, u39.2.2.2.1, u39.2.2.2.2.1, 0, u39.2.2.2.2.2.1, u39.2.2.2.2.2.2)
def s_X2_readInto (Nu : Nat → Int32) (n : Nat) (Le : Nat → Int32) (B : zB) : Int32 × Nat × (Nat → Int32) × Nat × Nat × Nat × Int32 × zB := f_X2_readInto_11 n Le 200 0 0 Nu 0 0 (nI 0) B
set_option maxHeartbeats 4000000 in
set_option maxRecDepth 100000 in
theorem c_X2_readInto (l : Launch) (D : va_G) (cI cC cJ : ClassId) (r : Nat → Nat) (c : Nat → Nat) (b : Nat → Nat) (pl : Nat) (Nu : Nat → Int32) (n : Nat) (Le : Nat → Int32) (P : Nat) (Q : Nat) (Hn : Nat) (sd : Int32) (B : zB) (hn : n ≤ 200) (hL : ∀ j, narrow .char (.int (Le j)) = .int (Le j)) : zD l yX2_readInto wsX2_readInto rm_X2_readInto D (zT cI cC cJ) [.ref (r 0), .ref (b 0)] [readerW cI r (c 1) pl Nu, scrollW cC c n Le, bookW cI b P Q Hn sd B] (some (.int ((s_X2_readInto Nu n Le B).1))) [readerW cI r (c 1) ((s_X2_readInto Nu n Le B).2.1) ((s_X2_readInto Nu n Le B).2.2.1), scrollW cC c n Le, bookW cI b ((s_X2_readInto Nu n Le B).2.2.2.1) ((s_X2_readInto Nu n Le B).2.2.2.2.1) ((s_X2_readInto Nu n Le B).2.2.2.2.2.1) ((s_X2_readInto Nu n Le B).2.2.2.2.2.2.1) ((s_X2_readInto Nu n Le B).2.2.2.2.2.2.2)] := by
  refine zD_int (cc := cX2_readInto) (maxL := 4) (ty := .int) (lv := [(0, .ref (r 0)), (1, .ref (b 0))]) (by decide +kernel) rfl (Nat.le_of_ble_eq_true rfl) rfl (fun Z O hret => ?_)
  refine zr_aload_n (pc2 := 1) O dX2_readInto_0 rfl 1 rfl rfl ?_
  refine zr_callV (As := []) (rest := []) (ws2 := [readerW cI r (c 1) pl Nu, scrollW cC c n Le, bookW cI b 0 0 0 (nI 0) B]) (pc2 := 4) (ci := 0) (g0 := 2) (q0 := 0) O (c_X0_clear l D cI cC cJ b P Q Hn sd B) sC_X2_readInto_23 rfl rfl rfl rfl rfl dX2_readInto_1 [2] rfl rfl rfl rfl (Nat.le_of_ble_eq_true rfl) rfl ?_
  show Z _ _ _ []
  refine zr_aload_n (pc2 := 5) O dX2_readInto_4 rfl 0 rfl rfl ?_
  refine zr_iconst (v := (nI 0)) (pc2 := 6) O dX2_readInto_5 (by decide +kernel) rfl ?_
  refine zr_putf (G2 := readerW cI r (c 1) 0 Nu) (ws2 := [readerW cI r (c 1) 0 Nu, scrollW cC c n Le, bookW cI b 0 0 0 (nI 0) B]) (pc2 := 9) O sP_X2_readInto_15 0 0 rfl rfl rfl rfl (Nat.le_of_ble_eq_true rfl) dX2_readInto_6 rfl rfl rfl ?_
  refine zr_iconst (v := (nI 0)) (pc2 := 10) O dX2_readInto_9 (by decide +kernel) rfl ?_
  refine zr_istore_n (lv2 := [(2, .int (nI 0)), (0, .ref (r 0)), (1, .ref (b 0))]) (pc2 := 11) O dX2_readInto_10 rfl (by decide) rfl rfl ?_
  have hS11 : s_X2_readInto Nu n Le B = f_X2_readInto_11 n Le 200 0 0 Nu 0 0 (nI 0) B := by exact rfl
  have lp11 : ∀ (n9 : Nat) (it : Nat) (pl9 : Nat) (Nu9 : Nat → Int32) (P9 : Nat) (Q9 : Nat) (sd9 : Int32) (B9 : zB), it + n9 = 200 → (pl9 ≤ 230) → (P9 ≤ 6) → (Q9 ≤ 9) → f_X2_readInto_11 n Le 200 0 0 Nu 0 0 (nI 0) B = f_X2_readInto_11 n Le n9 it pl9 Nu9 P9 Q9 sd9 B9 → Z [readerW cI r (c 1) pl9 Nu9, scrollW cC c n Le, bookW cI b P9 Q9 0 sd9 B9] [(2, .int (nI it)), (0, .ref (r 0)), (1, .ref (b 0))] 11 [] := by
    intro n9
    induction n9 with
    | zero =>
      intro it pl9 Nu9 P9 Q9 sd9 B9 hM11 hi1 hi2 hi3 hF11
      refine zr_iload_n (pc2 := 12) O dX2_readInto_11 rfl 0 rfl rfl ?_
      refine zr_sipush (v := (nI 200)) (pc2 := 15) O dX2_readInto_12 (by decide +kernel) rfl ?_
      refine zn_icmp_ge (tgt := 53) (pc2 := 18) O dX2_readInto_15 (by decide) rfl (by omega) (by omega) (fun c15 => ?_) (fun c15 => ?_)
      · refine zr_bipush (v := (-4)) (pc2 := 55) O dX2_readInto_53 (by decide +kernel) rfl ?_
        have hE : f_X2_readInto_11 n Le 0 it pl9 Nu9 P9 Q9 sd9 B9 = ((-4), pl9, Nu9, P9, Q9, 0, sd9, B9) := by exact rfl
        have hE := hS11.trans (hF11.trans hE)
        exact hret _ _ _ _ dX2_readInto_55 rfl (by rw [hE]) (by rw [hE])
      · exact absurd c15 (by omega)
    | succ n9 ih11 =>
      intro it pl9 Nu9 P9 Q9 sd9 B9 hM11 hi1 hi2 hi3 hF11
      refine zr_iload_n (pc2 := 12) O dX2_readInto_11 rfl 0 rfl rfl ?_
      refine zr_sipush (v := (nI 200)) (pc2 := 15) O dX2_readInto_12 (by decide +kernel) rfl ?_
      refine zn_icmp_ge (tgt := 53) (pc2 := 18) O dX2_readInto_15 (by decide) rfl (by omega) (by omega) (fun c15 => ?_) (fun c15 => ?_)
      · exact absurd c15 (by omega)
      · refine zr_aload_n (pc2 := 19) O dX2_readInto_18 rfl 1 rfl rfl ?_
        refine zr_getf (v := .int (nI pl9)) (pc2 := 22) O sF_X2_readInto_15 0 0 rfl rfl rfl dX2_readInto_19 rfl ?_
        refine zr_aload_n (pc2 := 23) O dX2_readInto_22 rfl 1 rfl rfl ?_
        refine zr_getf (v := .ref (c 1)) (pc2 := 26) O sF_X2_readInto_19 0 0 rfl rfl rfl dX2_readInto_23 rfl ?_
        refine zr_getf (v := .int (nI n)) (pc2 := 29) O sF_X2_readInto_28 1 0 rfl rfl rfl dX2_readInto_26 rfl ?_
        refine zn_icmp_ge (tgt := 53) (pc2 := 32) O dX2_readInto_29 (by decide) rfl (by omega) (by omega) (fun c29 => ?_) (fun c29 => ?_)
        · refine zr_bipush (v := (-4)) (pc2 := 55) O dX2_readInto_53 (by decide +kernel) rfl ?_
          have hE : f_X2_readInto_11 n Le (n9 + 1) it pl9 Nu9 P9 Q9 sd9 B9 = ((-4), pl9, Nu9, P9, Q9, 0, sd9, B9) := by exact (if_pos c29)
          have hE := hS11.trans (hF11.trans hE)
          exact hret _ _ _ _ dX2_readInto_55 rfl (by rw [hE]) (by rw [hE])
        · refine zr_aload_n (pc2 := 33) O dX2_readInto_32 rfl 1 rfl rfl ?_
          refine zr_getf (v := .int (nI pl9)) (pc2 := 36) O sF_X2_readInto_15 0 0 rfl rfl rfl dX2_readInto_33 rfl ?_
          refine zr_istore_n (lv2 := [(3, .int (nI pl9)), (2, .int (nI it)), (0, .ref (r 0)), (1, .ref (b 0))]) (pc2 := 37) O dX2_readInto_36 rfl (by decide) rfl rfl ?_
          refine zr_aload_n (pc2 := 38) O dX2_readInto_37 rfl 2 rfl rfl ?_
          refine zr_aload_n (pc2 := 39) O dX2_readInto_38 rfl 3 rfl rfl ?_
          obtain ⟨u39, hu39⟩ : ∃ z9, z9 = s_X2_readItem pl9 Nu9 n Le P9 Q9 sd9 B9 := ⟨_, rfl⟩
          refine zr_callV (As := [.ref (b 0)]) (rest := []) (ws2 := [readerW cI r (c 1) u39.2.1 u39.2.2.1, scrollW cC c n Le, bookW cI b u39.2.2.2.1 u39.2.2.2.2.1 0 u39.2.2.2.2.2.1 u39.2.2.2.2.2.2]) (pc2 := 42) (ci := 2) (g0 := 0) (q0 := 0) (v := (some (.int (zb u39.1)))) (W := [readerW cI r (c 1) pl9 Nu9, scrollW cC c n Le, bookW cI b P9 Q9 0 sd9 B9]) (W2 := [readerW cI r (c 1) u39.2.1 u39.2.2.1, scrollW cC c n Le, bookW cI b u39.2.2.2.1 u39.2.2.2.2.1 0 u39.2.2.2.2.2.1 u39.2.2.2.2.2.2]) O (by rw [hu39]; exact (c_X2_readItem l D cI cC cJ r c b pl9 Nu9 n Le P9 Q9 0 sd9 B9 (by first | assumption | omega) (by first | assumption | omega) (by first | assumption | omega) (by first | assumption | omega) (by first | assumption | omega))) sC_X2_readInto_33 rfl rfl rfl rfl rfl dX2_readInto_39 [0, 1, 2] rfl rfl rfl rfl (Nat.le_of_ble_eq_true rfl) rfl ?_
          show Z _ _ _ [.int (zb u39.1)]
          refine zb_if_ne (tgt := 47) (pc2 := 45) O dX2_readInto_42 (by decide) rfl (fun c42 => ?_) (fun c42 => ?_)
          · refine zr_iinc (v := (nI (it + 1))) (lv2 := [(2, .int (nI (it + 1))), (3, .int (nI pl9)), (0, .ref (r 0)), (1, .ref (b 0))]) (pc2 := 50) O dX2_readInto_47 1 rfl (zm_ofInt1 it) (by decide) rfl rfl ?_
            refine zr_goto (tgt := 11) O dX2_readInto_50 (by decide) ?_
            refine zr_sub (lv2 := [(2, .int (nI (it + 1))), (0, .ref (r 0)), (1, .ref (b 0))]) O [0, 2, 3] rfl ?_
            have hE : f_X2_readInto_11 n Le (n9 + 1) it pl9 Nu9 P9 Q9 sd9 B9 = f_X2_readInto_11 n Le n9 (it + 1) u39.2.1 u39.2.2.1 u39.2.2.2.1 u39.2.2.2.2.1 u39.2.2.2.2.2.1 u39.2.2.2.2.2.2 := by subst hu39; exact ((if_neg c29).trans (zif_t c42))
            exact ih11 (it + 1) u39.2.1 u39.2.2.1 u39.2.2.2.1 u39.2.2.2.2.1 u39.2.2.2.2.2.1 u39.2.2.2.2.2.2 (by omega) (by subst hu39; have h9 := readItem_ok (pl := pl9) (Nu := Nu9) (n := n) (Le := Le) (sd := sd9) (B := B9) hi2 hi3; omega) (by subst hu39; exact (readItem_ok hi2 hi3).2.1) (by subst hu39; exact (readItem_ok hi2 hi3).2.2) (hF11.trans hE)
          · refine zr_iload_n (pc2 := 46) O dX2_readInto_45 rfl 0 rfl rfl ?_
            have hE : f_X2_readInto_11 n Le (n9 + 1) it pl9 Nu9 P9 Q9 sd9 B9 = ((nI pl9), u39.2.1, u39.2.2.1, u39.2.2.2.1, u39.2.2.2.2.1, 0, u39.2.2.2.2.2.1, u39.2.2.2.2.2.2) := by subst hu39; exact ((if_neg c29).trans (zif_f c42))
            have hE := hS11.trans (hF11.trans hE)
            exact hret _ _ _ _ dX2_readInto_46 rfl (by rw [hE]) (by rw [hE])
  exact lp11 200 0 0 Nu 0 0 (nI 0) B (by omega) (by decide) (by decide) (by decide) rfl
