/-! X1_clear -/
def s_X1_clear : Nat := 0
set_option maxHeartbeats 4000000 in
set_option maxRecDepth 100000 in
theorem c_X1_clear (l : Launch) (D : va_G) (cI cC cJ : ClassId) (h : Nat → Nat) (cn : Nat) (Ch : zC) : zD l yX1_clear wsX1_clear rm_X1_clear D (zT cI cC cJ) [.ref (h 3)] [changesW cI h cn Ch] none [changesW cI h (s_X1_clear) Ch] := by
  refine zD_void (cc := cX1_clear) (maxL := 1) (lv := [(0, .ref (h 3))]) (by decide +kernel) rfl (Nat.le_of_ble_eq_true rfl) rfl (fun Z O hret => ?_)
  refine zr_aload_n (pc2 := 1) O dX1_clear_0 rfl 0 rfl rfl ?_
  refine zr_iconst (v := (nI 0)) (pc2 := 2) O dX1_clear_1 (by decide +kernel) rfl ?_
  refine zr_putf (G2 := changesW cI h 0 Ch) (ws2 := [changesW cI h 0 Ch]) (pc2 := 5) O sP_X1_clear_21 0 0 rfl rfl rfl rfl (Nat.le_of_ble_eq_true rfl) dX1_clear_2 rfl rfl rfl ?_
  have hE : s_X1_clear = 0 := by exact rfl
  exact hret _ _ _ dX1_clear_5 (by rw [hE])
/-! X1_loseOldest -/
def f_X1_loseOldest_2 : Nat → Nat → zC → zC
  | 0, _, Ch9 => Ch9
  | n9 + 1, k, Ch9 => f_X1_loseOldest_2 n9 (k + 1) ((upd Ch9.1 (k - 1) (Ch9.1 k)), (upd Ch9.2.1 (k - 1) (Ch9.2.1 k)), (upd Ch9.2.2 (k - 1) (Ch9.2.2 k)))
def s_X1_loseOldest (Ch : zC) : Nat × zC := (7, (f_X1_loseOldest_2 7 1 Ch))
set_option maxHeartbeats 4000000 in
set_option maxRecDepth 100000 in
theorem c_X1_loseOldest (l : Launch) (D : va_G) (cI cC cJ : ClassId) (h : Nat → Nat) (cn : Nat) (Ch : zC) : zD l yX1_loseOldest wsX1_loseOldest rm_X1_loseOldest D (zT cI cC cJ) [.ref (h 3)] [changesW cI h cn Ch] none [changesW cI h ((s_X1_loseOldest Ch).1) ((s_X1_loseOldest Ch).2)] := by
  refine zD_void (cc := cX1_loseOldest) (maxL := 2) (lv := [(0, .ref (h 3))]) (by decide +kernel) rfl (Nat.le_of_ble_eq_true rfl) rfl (fun Z O hret => ?_)
  refine zr_iconst (v := (nI 1)) (pc2 := 1) O dX1_loseOldest_0 (by decide +kernel) rfl ?_
  refine zr_istore_n (lv2 := [(1, .int (nI 1)), (0, .ref (h 3))]) (pc2 := 2) O dX1_loseOldest_1 rfl (by decide) rfl rfl ?_
  have lp2 : ∀ (n9 : Nat) (k : Nat) (Ch9 : zC), k + n9 = 8 → (1 ≤ k) → f_X1_loseOldest_2 7 1 Ch = f_X1_loseOldest_2 n9 k Ch9 → Z [changesW cI h cn Ch9] [(1, .int (nI k)), (0, .ref (h 3))] 2 [] := by
    intro n9
    induction n9 with
    | zero =>
      intro k Ch9 hM2 h1 hF2
      have hI2 : 8 = k := by omega
      subst hI2
      have e9 : (f_X1_loseOldest_2 7 1 Ch) = Ch9 := hF2
      subst e9
      refine zr_iload_n (pc2 := 3) O dX1_loseOldest_2 rfl 0 rfl rfl ?_
      refine zr_bipush (v := (nI 8)) (pc2 := 5) O dX1_loseOldest_3 (by decide +kernel) rfl ?_
      refine zn_icmp_ge (tgt := 56) (pc2 := 8) O dX1_loseOldest_5 (by decide) rfl (by omega) (by omega) (fun c5 => ?_) (fun c5 => ?_)
      · refine zr_aload_n (pc2 := 57) O dX1_loseOldest_56 rfl 1 rfl rfl ?_
        refine zr_bipush (v := (nI 7)) (pc2 := 59) O dX1_loseOldest_57 (by decide +kernel) rfl ?_
        refine zr_putf (G2 := changesW cI h 7 (f_X1_loseOldest_2 7 1 Ch)) (ws2 := [changesW cI h 7 (f_X1_loseOldest_2 7 1 Ch)]) (pc2 := 62) O sP_X1_loseOldest_21 0 0 rfl rfl rfl rfl (Nat.le_of_ble_eq_true rfl) dX1_loseOldest_59 rfl rfl rfl ?_
        have hE : s_X1_loseOldest Ch = (7, (f_X1_loseOldest_2 7 1 Ch)) := by exact rfl
        exact hret _ _ _ dX1_loseOldest_62 (by rw [hE])
      · exact absurd c5 (by decide)
    | succ n9 ih2 =>
      intro k Ch9 hM2 h1 hF2
      refine zr_iload_n (pc2 := 3) O dX1_loseOldest_2 rfl 0 rfl rfl ?_
      refine zr_bipush (v := (nI 8)) (pc2 := 5) O dX1_loseOldest_3 (by decide +kernel) rfl ?_
      refine zn_icmp_ge (tgt := 56) (pc2 := 8) O dX1_loseOldest_5 (by decide) rfl (by omega) (by omega) (fun c5 => ?_) (fun c5 => ?_)
      · exact absurd c5 (by omega)
      · refine zr_aload_n (pc2 := 9) O dX1_loseOldest_8 rfl 1 rfl rfl ?_
        refine zr_getf (v := .ref (h 0)) (pc2 := 12) O sF_X1_loseOldest_9 0 0 rfl rfl rfl dX1_loseOldest_9 rfl ?_
        refine zr_iload_n (pc2 := 13) O dX1_loseOldest_12 rfl 0 rfl rfl ?_
        refine zr_iconst (v := (nI 1)) (pc2 := 14) O dX1_loseOldest_13 (by decide +kernel) rfl ?_
        refine zr_isub (v := (nI (k - 1))) (pc2 := 15) O dX1_loseOldest_14 (pk_sub (by omega)) rfl ?_
        refine zr_aload_n (pc2 := 16) O dX1_loseOldest_15 rfl 1 rfl rfl ?_
        refine zr_getf (v := .ref (h 0)) (pc2 := 19) O sF_X1_loseOldest_9 0 0 rfl rfl rfl dX1_loseOldest_16 rfl ?_
        refine zr_iload_n (pc2 := 20) O dX1_loseOldest_19 rfl 0 rfl rfl ?_
        refine zn_iald (j := k) (pc2 := 21) O 0 1 0 rfl rfl rfl rfl (by omega) (by decide) dX1_loseOldest_20 rfl ?_
        refine zn_iast (j := (k - 1)) (G2 := changesW cI h cn ((upd Ch9.1 (k - 1) (Ch9.1 k)), Ch9.2)) (ws2 := [changesW cI h cn ((upd Ch9.1 (k - 1) (Ch9.1 k)), Ch9.2)]) (pc2 := 22) O 0 1 0 rfl rfl rfl rfl (by omega) (by decide) dX1_loseOldest_21 rfl rfl rfl ?_
        refine zr_aload_n (pc2 := 23) O dX1_loseOldest_22 rfl 1 rfl rfl ?_
        refine zr_getf (v := .ref (h 1)) (pc2 := 26) O sF_X1_loseOldest_15 0 0 rfl rfl rfl dX1_loseOldest_23 rfl ?_
        refine zr_iload_n (pc2 := 27) O dX1_loseOldest_26 rfl 0 rfl rfl ?_
        refine zr_iconst (v := (nI 1)) (pc2 := 28) O dX1_loseOldest_27 (by decide +kernel) rfl ?_
        refine zr_isub (v := (nI (k - 1))) (pc2 := 29) O dX1_loseOldest_28 (pk_sub (by omega)) rfl ?_
        refine zr_aload_n (pc2 := 30) O dX1_loseOldest_29 rfl 1 rfl rfl ?_
        refine zr_getf (v := .ref (h 1)) (pc2 := 33) O sF_X1_loseOldest_15 0 0 rfl rfl rfl dX1_loseOldest_30 rfl ?_
        refine zr_iload_n (pc2 := 34) O dX1_loseOldest_33 rfl 0 rfl rfl ?_
        refine zn_iald (j := k) (pc2 := 35) O 0 2 0 rfl rfl rfl rfl (by omega) (by decide) dX1_loseOldest_34 rfl ?_
        refine zn_iast (j := (k - 1)) (G2 := changesW cI h cn ((upd Ch9.1 (k - 1) (Ch9.1 k)), (upd Ch9.2.1 (k - 1) (Ch9.2.1 k)), Ch9.2.2)) (ws2 := [changesW cI h cn ((upd Ch9.1 (k - 1) (Ch9.1 k)), (upd Ch9.2.1 (k - 1) (Ch9.2.1 k)), Ch9.2.2)]) (pc2 := 36) O 0 2 0 rfl rfl rfl rfl (by omega) (by decide) dX1_loseOldest_35 rfl rfl rfl ?_
        refine zr_aload_n (pc2 := 37) O dX1_loseOldest_36 rfl 1 rfl rfl ?_
        refine zr_getf (v := .ref (h 2)) (pc2 := 40) O sF_X1_loseOldest_18 0 0 rfl rfl rfl dX1_loseOldest_37 rfl ?_
        refine zr_iload_n (pc2 := 41) O dX1_loseOldest_40 rfl 0 rfl rfl ?_
        refine zr_iconst (v := (nI 1)) (pc2 := 42) O dX1_loseOldest_41 (by decide +kernel) rfl ?_
        refine zr_isub (v := (nI (k - 1))) (pc2 := 43) O dX1_loseOldest_42 (pk_sub (by omega)) rfl ?_
        refine zr_aload_n (pc2 := 44) O dX1_loseOldest_43 rfl 1 rfl rfl ?_
        refine zr_getf (v := .ref (h 2)) (pc2 := 47) O sF_X1_loseOldest_18 0 0 rfl rfl rfl dX1_loseOldest_44 rfl ?_
        refine zr_iload_n (pc2 := 48) O dX1_loseOldest_47 rfl 0 rfl rfl ?_
        refine zn_iald (j := k) (pc2 := 49) O 0 3 0 rfl rfl rfl rfl (by omega) (by decide) dX1_loseOldest_48 rfl ?_
        refine zn_iast (j := (k - 1)) (G2 := changesW cI h cn ((upd Ch9.1 (k - 1) (Ch9.1 k)), (upd Ch9.2.1 (k - 1) (Ch9.2.1 k)), (upd Ch9.2.2 (k - 1) (Ch9.2.2 k)))) (ws2 := [changesW cI h cn ((upd Ch9.1 (k - 1) (Ch9.1 k)), (upd Ch9.2.1 (k - 1) (Ch9.2.1 k)), (upd Ch9.2.2 (k - 1) (Ch9.2.2 k)))]) (pc2 := 50) O 0 3 0 rfl rfl rfl rfl (by omega) (by decide) dX1_loseOldest_49 rfl rfl rfl ?_
        refine zr_iinc (v := (nI (k + 1))) (lv2 := [(1, .int (nI (k + 1))), (0, .ref (h 3))]) (pc2 := 53) O dX1_loseOldest_50 0 rfl (zm_ofInt1 k) (by decide) rfl rfl ?_
        refine zr_goto (tgt := 2) O dX1_loseOldest_53 (by decide) ?_
        have hE : f_X1_loseOldest_2 (n9 + 1) k Ch9 = f_X1_loseOldest_2 n9 (k + 1) ((upd Ch9.1 (k - 1) (Ch9.1 k)), (upd Ch9.2.1 (k - 1) (Ch9.2.1 k)), (upd Ch9.2.2 (k - 1) (Ch9.2.2 k))) := by exact rfl
        exact ih2 (k + 1) ((upd Ch9.1 (k - 1) (Ch9.1 k)), (upd Ch9.2.1 (k - 1) (Ch9.2.1 k)), (upd Ch9.2.2 (k - 1) (Ch9.2.2 k))) (by omega) (by omega) (hF2.trans hE)
  exact lp2 7 1 Ch (by omega) (by decide) rfl
/-! X1_note -/
def s_X1_note (cn : Nat) (Ch : zC) (a1 : Int32) (a2 : Int32) (a3 : Int32) : Nat × zC := if cn < 8 then (cn + 1, ((upd Ch.1 cn a1), (upd Ch.2.1 cn a2), (upd Ch.2.2 cn a3))) else (((s_X1_loseOldest Ch).1) + 1, ((upd (((s_X1_loseOldest Ch).2).1) ((s_X1_loseOldest Ch).1) a1), (upd (((s_X1_loseOldest Ch).2).2.1) ((s_X1_loseOldest Ch).1) a2), (upd (((s_X1_loseOldest Ch).2).2.2) ((s_X1_loseOldest Ch).1) a3)))
set_option maxHeartbeats 4000000 in
set_option maxRecDepth 100000 in
theorem c_X1_note (l : Launch) (D : va_G) (cI cC cJ : ClassId) (h : Nat → Nat) (cn : Nat) (Ch : zC) (a1 : Int32) (a2 : Int32) (a3 : Int32) (hcn : cn ≤ 8) : zD l yX1_note wsX1_note rm_X1_note D (zT cI cC cJ) [.ref (h 3), .int a1, .int a2, .int a3] [changesW cI h cn Ch] none [changesW cI h ((s_X1_note cn Ch a1 a2 a3).1) ((s_X1_note cn Ch a1 a2 a3).2)] := by
  refine zD_void (cc := cX1_note) (maxL := 4) (lv := [(0, .ref (h 3)), (1, .int a1), (2, .int a2), (3, .int a3)]) (by decide +kernel) rfl (Nat.le_of_ble_eq_true rfl) rfl (fun Z O hret => ?_)
  refine zr_aload_n (pc2 := 1) O dX1_note_0 rfl 0 rfl rfl ?_
  refine zr_getf (v := .int (nI cn)) (pc2 := 4) O sF_X1_note_21 0 0 rfl rfl rfl dX1_note_1 rfl ?_
  refine zr_bipush (v := (nI 8)) (pc2 := 6) O dX1_note_4 (by decide +kernel) rfl ?_
  refine zn_icmp_lt (tgt := 13) (pc2 := 9) O dX1_note_6 (by decide) rfl (by omega) (by omega) (fun c6 => ?_) (fun c6 => ?_)
  · refine zr_aload_n (pc2 := 14) O dX1_note_13 rfl 0 rfl rfl ?_
    refine zr_getf (v := .ref (h 0)) (pc2 := 17) O sF_X1_note_9 0 0 rfl rfl rfl dX1_note_14 rfl ?_
    refine zr_aload_n (pc2 := 18) O dX1_note_17 rfl 0 rfl rfl ?_
    refine zr_getf (v := .int (nI cn)) (pc2 := 21) O sF_X1_note_21 0 0 rfl rfl rfl dX1_note_18 rfl ?_
    refine zr_iload_n (pc2 := 22) O dX1_note_21 rfl 1 rfl rfl ?_
    refine zn_iast (j := cn) (G2 := changesW cI h cn ((upd Ch.1 cn a1), Ch.2)) (ws2 := [changesW cI h cn ((upd Ch.1 cn a1), Ch.2)]) (pc2 := 23) O 0 1 0 rfl rfl rfl rfl (by first | omega | exact (by decide : (7 : Nat) < 8)) (by decide) dX1_note_22 rfl rfl rfl ?_
    refine zr_aload_n (pc2 := 24) O dX1_note_23 rfl 0 rfl rfl ?_
    refine zr_getf (v := .ref (h 1)) (pc2 := 27) O sF_X1_note_15 0 0 rfl rfl rfl dX1_note_24 rfl ?_
    refine zr_aload_n (pc2 := 28) O dX1_note_27 rfl 0 rfl rfl ?_
    refine zr_getf (v := .int (nI cn)) (pc2 := 31) O sF_X1_note_21 0 0 rfl rfl rfl dX1_note_28 rfl ?_
    refine zr_iload_n (pc2 := 32) O dX1_note_31 rfl 2 rfl rfl ?_
    refine zn_iast (j := cn) (G2 := changesW cI h cn ((upd Ch.1 cn a1), (upd Ch.2.1 cn a2), Ch.2.2)) (ws2 := [changesW cI h cn ((upd Ch.1 cn a1), (upd Ch.2.1 cn a2), Ch.2.2)]) (pc2 := 33) O 0 2 0 rfl rfl rfl rfl (by first | omega | exact (by decide : (7 : Nat) < 8)) (by decide) dX1_note_32 rfl rfl rfl ?_
    refine zr_aload_n (pc2 := 34) O dX1_note_33 rfl 0 rfl rfl ?_
    refine zr_getf (v := .ref (h 2)) (pc2 := 37) O sF_X1_note_18 0 0 rfl rfl rfl dX1_note_34 rfl ?_
    refine zr_aload_n (pc2 := 38) O dX1_note_37 rfl 0 rfl rfl ?_
    refine zr_getf (v := .int (nI cn)) (pc2 := 41) O sF_X1_note_21 0 0 rfl rfl rfl dX1_note_38 rfl ?_
    refine zr_iload_n (pc2 := 42) O dX1_note_41 rfl 3 rfl rfl ?_
    refine zn_iast (j := cn) (G2 := changesW cI h cn ((upd Ch.1 cn a1), (upd Ch.2.1 cn a2), (upd Ch.2.2 cn a3))) (ws2 := [changesW cI h cn ((upd Ch.1 cn a1), (upd Ch.2.1 cn a2), (upd Ch.2.2 cn a3))]) (pc2 := 43) O 0 3 0 rfl rfl rfl rfl (by first | omega | exact (by decide : (7 : Nat) < 8)) (by decide) dX1_note_42 rfl rfl rfl ?_
    refine zr_aload_n (pc2 := 44) O dX1_note_43 rfl 0 rfl rfl ?_
    refine zr_dup (pc2 := 45) O dX1_note_44 rfl rfl ?_
    refine zr_getf (v := .int (nI cn)) (pc2 := 48) O sF_X1_note_21 0 0 rfl rfl rfl dX1_note_45 rfl ?_
    refine zr_iconst (v := (nI 1)) (pc2 := 49) O dX1_note_48 (by decide +kernel) rfl ?_
    refine zr_iadd (v := (nI (cn + 1))) (pc2 := 50) O dX1_note_49 (nI_add cn 1) rfl ?_
    refine zr_putf (G2 := changesW cI h (cn + 1) ((upd Ch.1 cn a1), (upd Ch.2.1 cn a2), (upd Ch.2.2 cn a3))) (ws2 := [changesW cI h (cn + 1) ((upd Ch.1 cn a1), (upd Ch.2.1 cn a2), (upd Ch.2.2 cn a3))]) (pc2 := 53) O sP_X1_note_21 0 0 rfl rfl rfl rfl (Nat.le_of_ble_eq_true rfl) dX1_note_50 rfl rfl rfl ?_
    have hE : s_X1_note cn Ch a1 a2 a3 = (cn + 1, ((upd Ch.1 cn a1), (upd Ch.2.1 cn a2), (upd Ch.2.2 cn a3))) := by exact (if_pos c6)
    exact hret _ _ _ dX1_note_53 (by rw [hE])
  · refine zr_aload_n (pc2 := 10) O dX1_note_9 rfl 0 rfl rfl ?_
    refine zr_callV (As := []) (rest := []) (ws2 := [changesW cI h ((s_X1_loseOldest Ch).1) ((s_X1_loseOldest Ch).2)]) (pc2 := 13) (ci := 1) (g0 := 0) (q0 := 0) O (c_X1_loseOldest l D cI cC cJ h cn Ch) sC_X1_note_25 rfl rfl rfl rfl rfl dX1_note_10 [0] rfl rfl rfl rfl (Nat.le_of_ble_eq_true rfl) rfl ?_
    show Z _ _ _ []
    refine zr_aload_n (pc2 := 14) O dX1_note_13 rfl 0 rfl rfl ?_
    refine zr_getf (v := .ref (h 0)) (pc2 := 17) O sF_X1_note_9 0 0 rfl rfl rfl dX1_note_14 rfl ?_
    refine zr_aload_n (pc2 := 18) O dX1_note_17 rfl 0 rfl rfl ?_
    refine zr_getf (v := .int (nI ((s_X1_loseOldest Ch).1))) (pc2 := 21) O sF_X1_note_21 0 0 rfl rfl rfl dX1_note_18 rfl ?_
    refine zr_iload_n (pc2 := 22) O dX1_note_21 rfl 1 rfl rfl ?_
    refine zn_iast (j := ((s_X1_loseOldest Ch).1)) (G2 := changesW cI h ((s_X1_loseOldest Ch).1) ((upd (((s_X1_loseOldest Ch).2).1) ((s_X1_loseOldest Ch).1) a1), ((s_X1_loseOldest Ch).2).2)) (ws2 := [changesW cI h ((s_X1_loseOldest Ch).1) ((upd (((s_X1_loseOldest Ch).2).1) ((s_X1_loseOldest Ch).1) a1), ((s_X1_loseOldest Ch).2).2)]) (pc2 := 23) O 0 1 0 rfl rfl rfl rfl (by first | omega | exact (by decide : (7 : Nat) < 8)) (by decide) dX1_note_22 rfl rfl rfl ?_
    refine zr_aload_n (pc2 := 24) O dX1_note_23 rfl 0 rfl rfl ?_
    refine zr_getf (v := .ref (h 1)) (pc2 := 27) O sF_X1_note_15 0 0 rfl rfl rfl dX1_note_24 rfl ?_
    refine zr_aload_n (pc2 := 28) O dX1_note_27 rfl 0 rfl rfl ?_
    refine zr_getf (v := .int (nI ((s_X1_loseOldest Ch).1))) (pc2 := 31) O sF_X1_note_21 0 0 rfl rfl rfl dX1_note_28 rfl ?_
    refine zr_iload_n (pc2 := 32) O dX1_note_31 rfl 2 rfl rfl ?_
    refine zn_iast (j := ((s_X1_loseOldest Ch).1)) (G2 := changesW cI h ((s_X1_loseOldest Ch).1) ((upd (((s_X1_loseOldest Ch).2).1) ((s_X1_loseOldest Ch).1) a1), (upd (((s_X1_loseOldest Ch).2).2.1) ((s_X1_loseOldest Ch).1) a2), ((s_X1_loseOldest Ch).2).2.2)) (ws2 := [changesW cI h ((s_X1_loseOldest Ch).1) ((upd (((s_X1_loseOldest Ch).2).1) ((s_X1_loseOldest Ch).1) a1), (upd (((s_X1_loseOldest Ch).2).2.1) ((s_X1_loseOldest Ch).1) a2), ((s_X1_loseOldest Ch).2).2.2)]) (pc2 := 33) O 0 2 0 rfl rfl rfl rfl (by first | omega | exact (by decide : (7 : Nat) < 8)) (by decide) dX1_note_32 rfl rfl rfl ?_
    refine zr_aload_n (pc2 := 34) O dX1_note_33 rfl 0 rfl rfl ?_
    refine zr_getf (v := .ref (h 2)) (pc2 := 37) O sF_X1_note_18 0 0 rfl rfl rfl dX1_note_34 rfl ?_
    refine zr_aload_n (pc2 := 38) O dX1_note_37 rfl 0 rfl rfl ?_
    refine zr_getf (v := .int (nI ((s_X1_loseOldest Ch).1))) (pc2 := 41) O sF_X1_note_21 0 0 rfl rfl rfl dX1_note_38 rfl ?_
    refine zr_iload_n (pc2 := 42) O dX1_note_41 rfl 3 rfl rfl ?_
    refine zn_iast (j := ((s_X1_loseOldest Ch).1)) (G2 := changesW cI h ((s_X1_loseOldest Ch).1) ((upd (((s_X1_loseOldest Ch).2).1) ((s_X1_loseOldest Ch).1) a1), (upd (((s_X1_loseOldest Ch).2).2.1) ((s_X1_loseOldest Ch).1) a2), (upd (((s_X1_loseOldest Ch).2).2.2) ((s_X1_loseOldest Ch).1) a3))) (ws2 := [changesW cI h ((s_X1_loseOldest Ch).1) ((upd (((s_X1_loseOldest Ch).2).1) ((s_X1_loseOldest Ch).1) a1), (upd (((s_X1_loseOldest Ch).2).2.1) ((s_X1_loseOldest Ch).1) a2), (upd (((s_X1_loseOldest Ch).2).2.2) ((s_X1_loseOldest Ch).1) a3))]) (pc2 := 43) O 0 3 0 rfl rfl rfl rfl (by first | omega | exact (by decide : (7 : Nat) < 8)) (by decide) dX1_note_42 rfl rfl rfl ?_
    refine zr_aload_n (pc2 := 44) O dX1_note_43 rfl 0 rfl rfl ?_
    refine zr_dup (pc2 := 45) O dX1_note_44 rfl rfl ?_
    refine zr_getf (v := .int (nI ((s_X1_loseOldest Ch).1))) (pc2 := 48) O sF_X1_note_21 0 0 rfl rfl rfl dX1_note_45 rfl ?_
    refine zr_iconst (v := (nI 1)) (pc2 := 49) O dX1_note_48 (by decide +kernel) rfl ?_
    refine zr_iadd (v := (nI (((s_X1_loseOldest Ch).1) + 1))) (pc2 := 50) O dX1_note_49 (nI_add ((s_X1_loseOldest Ch).1) 1) rfl ?_
    refine zr_putf (G2 := changesW cI h (((s_X1_loseOldest Ch).1) + 1) ((upd (((s_X1_loseOldest Ch).2).1) ((s_X1_loseOldest Ch).1) a1), (upd (((s_X1_loseOldest Ch).2).2.1) ((s_X1_loseOldest Ch).1) a2), (upd (((s_X1_loseOldest Ch).2).2.2) ((s_X1_loseOldest Ch).1) a3))) (ws2 := [changesW cI h (((s_X1_loseOldest Ch).1) + 1) ((upd (((s_X1_loseOldest Ch).2).1) ((s_X1_loseOldest Ch).1) a1), (upd (((s_X1_loseOldest Ch).2).2.1) ((s_X1_loseOldest Ch).1) a2), (upd (((s_X1_loseOldest Ch).2).2.2) ((s_X1_loseOldest Ch).1) a3))]) (pc2 := 53) O sP_X1_note_21 0 0 rfl rfl rfl rfl (Nat.le_of_ble_eq_true rfl) dX1_note_50 rfl rfl rfl ?_
    have hE : s_X1_note cn Ch a1 a2 a3 = (((s_X1_loseOldest Ch).1) + 1, ((upd (((s_X1_loseOldest Ch).2).1) ((s_X1_loseOldest Ch).1) a1), (upd (((s_X1_loseOldest Ch).2).2.1) ((s_X1_loseOldest Ch).1) a2), (upd (((s_X1_loseOldest Ch).2).2.2) ((s_X1_loseOldest Ch).1) a3))) := by exact (if_neg c6)
    exact hret _ _ _ dX1_note_53 (by rw [hE])
/-! X1_takeBack -/
def s_X1_takeBack (cn : Nat) (Ch : zC) (Q : Nat) (Hn : Nat) (B : zB) : Bool × Nat × Nat × zB := if cn = 0 then (false, cn, Hn, B) else if (Ch.1 (cn - 1)) = (nI 2) then (true, cn - 1, (s_X0_dropLastHelp Hn), B) else if (s_X0_hasBequest Q (Ch.2.1 (cn - 1))) = true then if (Ch.1 (cn - 1)) = 0 then (true, cn - 1, Hn, (B.1, B.2.1, B.2.2.1, B.2.2.2.1, B.2.2.2.2.1, B.2.2.2.2.2.1, B.2.2.2.2.2.2.1, (upd B.2.2.2.2.2.2.2.1 (Ch.2.1 (cn - 1)).toNatClampNeg (Ch.2.2 (cn - 1))), B.2.2.2.2.2.2.2.2)) else if (s_X0_hasBequest Q (Ch.2.1 (cn - 1))) = true then if (Ch.1 (cn - 1)) = (nI 1) then (true, cn - 1, Hn, (B.1, B.2.1, B.2.2.1, B.2.2.2.1, B.2.2.2.2.1, B.2.2.2.2.2.1, (upd B.2.2.2.2.2.2.1 (Ch.2.1 (cn - 1)).toNatClampNeg (Ch.2.2 (cn - 1))), B.2.2.2.2.2.2.2)) else (true, cn - 1, Hn, B) else (true, cn - 1, Hn, B) else if (s_X0_hasBequest Q (Ch.2.1 (cn - 1))) = true then if (Ch.1 (cn - 1)) = (nI 1) then (true, cn - 1, Hn, (B.1, B.2.1, B.2.2.1, B.2.2.2.1, B.2.2.2.2.1, B.2.2.2.2.2.1, (upd B.2.2.2.2.2.2.1 (Ch.2.1 (cn - 1)).toNatClampNeg (Ch.2.2 (cn - 1))), B.2.2.2.2.2.2.2)) else (true, cn - 1, Hn, B) else (true, cn - 1, Hn, B)
set_option maxHeartbeats 4000000 in
set_option maxRecDepth 100000 in
theorem c_X1_takeBack (l : Launch) (D : va_G) (cI cC cJ : ClassId) (h : Nat → Nat) (b : Nat → Nat) (cn : Nat) (Ch : zC) (P : Nat) (Q : Nat) (Hn : Nat) (sd : Int32) (B : zB) (hcn : cn ≤ 8) (hQ : Q ≤ 9) (hH : Hn ≤ 4) : zD l yX1_takeBack wsX1_takeBack rm_X1_takeBack D (zT cI cC cJ) [.ref (h 3), .ref (b 0)] [changesW cI h cn Ch, bookW cI b P Q Hn sd B] (some (.int (zb ((s_X1_takeBack cn Ch Q Hn B).1)))) [changesW cI h ((s_X1_takeBack cn Ch Q Hn B).2.1) Ch, bookW cI b P Q ((s_X1_takeBack cn Ch Q Hn B).2.2.1) sd ((s_X1_takeBack cn Ch Q Hn B).2.2.2)] := by
  refine zD_int (cc := cX1_takeBack) (maxL := 3) (ty := .boolean) (lv := [(0, .ref (h 3)), (1, .ref (b 0))]) (by decide +kernel) rfl (Nat.le_of_ble_eq_true rfl) rfl (fun Z O hret => ?_)
  refine zr_aload_n (pc2 := 1) O dX1_takeBack_0 rfl 0 rfl rfl ?_
  refine zr_getf (v := .int (nI cn)) (pc2 := 4) O sF_X1_takeBack_21 0 0 rfl rfl rfl dX1_takeBack_1 rfl ?_
  refine zn_if_ne (tgt := 9) (pc2 := 7) O dX1_takeBack_4 (by decide) rfl (by omega) (fun c4 => ?_) (fun c4 => ?_)
  · refine zr_aload_n (pc2 := 10) O dX1_takeBack_9 rfl 0 rfl rfl ?_
    refine zr_dup (pc2 := 11) O dX1_takeBack_10 rfl rfl ?_
    refine zr_getf (v := .int (nI cn)) (pc2 := 14) O sF_X1_takeBack_21 0 0 rfl rfl rfl dX1_takeBack_11 rfl ?_
    refine zr_iconst (v := (nI 1)) (pc2 := 15) O dX1_takeBack_14 (by decide +kernel) rfl ?_
    refine zr_isub (v := (nI (cn - 1))) (pc2 := 16) O dX1_takeBack_15 (pk_sub (by omega)) rfl ?_
    refine zr_putf (G2 := changesW cI h (cn - 1) Ch) (ws2 := [changesW cI h (cn - 1) Ch, bookW cI b P Q Hn sd B]) (pc2 := 19) O sP_X1_takeBack_21 0 0 rfl rfl rfl rfl (Nat.le_of_ble_eq_true rfl) dX1_takeBack_16 rfl rfl rfl ?_
    refine zr_aload_n (pc2 := 20) O dX1_takeBack_19 rfl 0 rfl rfl ?_
    refine zr_getf (v := .ref (h 1)) (pc2 := 23) O sF_X1_takeBack_15 0 0 rfl rfl rfl dX1_takeBack_20 rfl ?_
    refine zr_aload_n (pc2 := 24) O dX1_takeBack_23 rfl 0 rfl rfl ?_
    refine zr_getf (v := .int (nI (cn - 1))) (pc2 := 27) O sF_X1_takeBack_21 0 0 rfl rfl rfl dX1_takeBack_24 rfl ?_
    refine zn_iald (j := (cn - 1)) (pc2 := 28) O 0 2 0 rfl rfl rfl rfl (by omega) (by decide) dX1_takeBack_27 rfl ?_
    refine zr_istore_n (lv2 := [(2, .int (Ch.2.1 (cn - 1))), (0, .ref (h 3)), (1, .ref (b 0))]) (pc2 := 29) O dX1_takeBack_28 rfl (by decide) rfl rfl ?_
    refine zr_aload_n (pc2 := 30) O dX1_takeBack_29 rfl 1 rfl rfl ?_
    refine zr_getf (v := .ref (h 0)) (pc2 := 33) O sF_X1_takeBack_9 0 0 rfl rfl rfl dX1_takeBack_30 rfl ?_
    refine zr_aload_n (pc2 := 34) O dX1_takeBack_33 rfl 1 rfl rfl ?_
    refine zr_getf (v := .int (nI (cn - 1))) (pc2 := 37) O sF_X1_takeBack_21 0 0 rfl rfl rfl dX1_takeBack_34 rfl ?_
    refine zn_iald (j := (cn - 1)) (pc2 := 38) O 0 1 0 rfl rfl rfl rfl (by omega) (by decide) dX1_takeBack_37 rfl ?_
    refine zr_iconst (v := (nI 2)) (pc2 := 39) O dX1_takeBack_38 (by decide +kernel) rfl ?_
    refine zr_icmp_ne (tgt := 49) (pc2 := 42) O dX1_takeBack_39 (by decide) rfl (fun c39 => ?_) (fun c39 => ?_)
    · refine zr_aload_n (pc2 := 50) O dX1_takeBack_49 rfl 2 rfl rfl ?_
      refine zr_iload_n (pc2 := 51) O dX1_takeBack_50 rfl 0 rfl rfl ?_
      refine zr_callV (As := [.int (Ch.2.1 (cn - 1))]) (rest := []) (ws2 := [changesW cI h (cn - 1) Ch, bookW cI b P Q Hn sd B]) (pc2 := 54) (ci := 0) (g0 := 1) (q0 := 0) O (c_X0_hasBequest l D cI cC cJ b P Q Hn sd B (Ch.2.1 (cn - 1))) sC_X1_takeBack_33 rfl rfl rfl rfl rfl dX1_takeBack_51 [1] rfl rfl rfl rfl (Nat.le_of_ble_eq_true rfl) rfl ?_
      show Z _ _ _ [.int (zb (s_X0_hasBequest Q (Ch.2.1 (cn - 1))))]
      refine zb_if_eq (tgt := 87) (pc2 := 57) O dX1_takeBack_54 (by decide) rfl (fun c54 => ?_) (fun c54 => ?_)
      · refine zr_aload_n (pc2 := 88) O dX1_takeBack_87 rfl 2 rfl rfl ?_
        refine zr_iload_n (pc2 := 89) O dX1_takeBack_88 rfl 0 rfl rfl ?_
        refine zr_callV (As := [.int (Ch.2.1 (cn - 1))]) (rest := []) (ws2 := [changesW cI h (cn - 1) Ch, bookW cI b P Q Hn sd B]) (pc2 := 92) (ci := 0) (g0 := 1) (q0 := 0) O (c_X0_hasBequest l D cI cC cJ b P Q Hn sd B (Ch.2.1 (cn - 1))) sC_X1_takeBack_33 rfl rfl rfl rfl rfl dX1_takeBack_89 [1] rfl rfl rfl rfl (Nat.le_of_ble_eq_true rfl) rfl ?_
        show Z _ _ _ [.int (zb (s_X0_hasBequest Q (Ch.2.1 (cn - 1))))]
        refine zb_if_eq (tgt := 123) (pc2 := 95) O dX1_takeBack_92 (by decide) rfl (fun c92 => ?_) (fun c92 => ?_)
        · refine zr_iconst (v := (nI 1)) (pc2 := 124) O dX1_takeBack_123 (by decide +kernel) rfl ?_
          have hE : s_X1_takeBack cn Ch Q Hn B = (true, cn - 1, Hn, B) := by exact ((if_neg c4).trans ((if_neg c39).trans ((zif_f c54).trans (zif_f c92))))
          exact hret _ _ _ _ dX1_takeBack_124 (by decide +kernel) (by rw [hE]; rfl) (by rw [hE])
        · refine zr_aload_n (pc2 := 96) O dX1_takeBack_95 rfl 1 rfl rfl ?_
          refine zr_getf (v := .ref (h 0)) (pc2 := 99) O sF_X1_takeBack_9 0 0 rfl rfl rfl dX1_takeBack_96 rfl ?_
          refine zr_aload_n (pc2 := 100) O dX1_takeBack_99 rfl 1 rfl rfl ?_
          refine zr_getf (v := .int (nI (cn - 1))) (pc2 := 103) O sF_X1_takeBack_21 0 0 rfl rfl rfl dX1_takeBack_100 rfl ?_
          refine zn_iald (j := (cn - 1)) (pc2 := 104) O 0 1 0 rfl rfl rfl rfl (by omega) (by decide) dX1_takeBack_103 rfl ?_
          refine zr_iconst (v := (nI 1)) (pc2 := 105) O dX1_takeBack_104 (by decide +kernel) rfl ?_
          refine zr_icmp_ne (tgt := 123) (pc2 := 108) O dX1_takeBack_105 (by decide) rfl (fun c105 => ?_) (fun c105 => ?_)
          · refine zr_iconst (v := (nI 1)) (pc2 := 124) O dX1_takeBack_123 (by decide +kernel) rfl ?_
            have hE : s_X1_takeBack cn Ch Q Hn B = (true, cn - 1, Hn, B) := by exact ((if_neg c4).trans ((if_neg c39).trans ((zif_f c54).trans ((zif_t c92).trans (if_neg c105)))))
            exact hret _ _ _ _ dX1_takeBack_124 (by decide +kernel) (by rw [hE]; rfl) (by rw [hE])
          · refine zr_aload_n (pc2 := 109) O dX1_takeBack_108 rfl 2 rfl rfl ?_
            refine zr_getf (v := .ref (b 8)) (pc2 := 112) O sF_X1_takeBack_40 1 0 rfl rfl rfl dX1_takeBack_109 rfl ?_
            refine zr_iload_n (pc2 := 113) O dX1_takeBack_112 rfl 0 rfl rfl ?_
            refine zr_aload_n (pc2 := 114) O dX1_takeBack_113 rfl 1 rfl rfl ?_
            refine zr_getf (v := .ref (h 2)) (pc2 := 117) O sF_X1_takeBack_18 0 0 rfl rfl rfl dX1_takeBack_114 rfl ?_
            refine zr_aload_n (pc2 := 118) O dX1_takeBack_117 rfl 1 rfl rfl ?_
            refine zr_getf (v := .int (nI (cn - 1))) (pc2 := 121) O sF_X1_takeBack_21 0 0 rfl rfl rfl dX1_takeBack_118 rfl ?_
            refine zn_iald (j := (cn - 1)) (pc2 := 122) O 0 3 0 rfl rfl rfl rfl (by omega) (by decide) dX1_takeBack_121 rfl ?_
            refine zr_iast (G2 := bookW cI b P Q Hn sd (B.1, B.2.1, B.2.2.1, B.2.2.2.1, B.2.2.2.2.1, B.2.2.2.2.2.1, (upd B.2.2.2.2.2.2.1 (Ch.2.1 (cn - 1)).toNatClampNeg (Ch.2.2 (cn - 1))), B.2.2.2.2.2.2.2)) (ws2 := [changesW cI h (cn - 1) Ch, bookW cI b P Q Hn sd (B.1, B.2.1, B.2.2.1, B.2.2.2.1, B.2.2.2.2.1, B.2.2.2.2.2.1, (upd B.2.2.2.2.2.2.1 (Ch.2.1 (cn - 1)).toNatClampNeg (Ch.2.2 (cn - 1))), B.2.2.2.2.2.2.2)]) (pc2 := 123) O 1 7 0 rfl rfl rfl (by first | assumption | exact zin_of (by assumption) (by assumption) (by assumption) (by decide) | exact hp_in (by assumption) (by assumption) (by decide) | exact hb_in (by assumption) (by assumption) (by decide) | exact il_in (by assumption) (by assumption) (by decide)) dX1_takeBack_122 rfl rfl rfl ?_
            refine zr_iconst (v := (nI 1)) (pc2 := 124) O dX1_takeBack_123 (by decide +kernel) rfl ?_
            have hE : s_X1_takeBack cn Ch Q Hn B = (true, cn - 1, Hn, (B.1, B.2.1, B.2.2.1, B.2.2.2.1, B.2.2.2.2.1, B.2.2.2.2.2.1, (upd B.2.2.2.2.2.2.1 (Ch.2.1 (cn - 1)).toNatClampNeg (Ch.2.2 (cn - 1))), B.2.2.2.2.2.2.2)) := by exact ((if_neg c4).trans ((if_neg c39).trans ((zif_f c54).trans ((zif_t c92).trans (if_pos c105)))))
            exact hret _ _ _ _ dX1_takeBack_124 (by decide +kernel) (by rw [hE]; rfl) (by rw [hE])
      · refine zr_aload_n (pc2 := 58) O dX1_takeBack_57 rfl 1 rfl rfl ?_
        refine zr_getf (v := .ref (h 0)) (pc2 := 61) O sF_X1_takeBack_9 0 0 rfl rfl rfl dX1_takeBack_58 rfl ?_
        refine zr_aload_n (pc2 := 62) O dX1_takeBack_61 rfl 1 rfl rfl ?_
        refine zr_getf (v := .int (nI (cn - 1))) (pc2 := 65) O sF_X1_takeBack_21 0 0 rfl rfl rfl dX1_takeBack_62 rfl ?_
        refine zn_iald (j := (cn - 1)) (pc2 := 66) O 0 1 0 rfl rfl rfl rfl (by omega) (by decide) dX1_takeBack_65 rfl ?_
        refine zr_if_ne (tgt := 87) (pc2 := 69) O dX1_takeBack_66 (by decide) rfl (fun c66 => ?_) (fun c66 => ?_)
        · refine zr_aload_n (pc2 := 88) O dX1_takeBack_87 rfl 2 rfl rfl ?_
          refine zr_iload_n (pc2 := 89) O dX1_takeBack_88 rfl 0 rfl rfl ?_
          refine zr_callV (As := [.int (Ch.2.1 (cn - 1))]) (rest := []) (ws2 := [changesW cI h (cn - 1) Ch, bookW cI b P Q Hn sd B]) (pc2 := 92) (ci := 0) (g0 := 1) (q0 := 0) O (c_X0_hasBequest l D cI cC cJ b P Q Hn sd B (Ch.2.1 (cn - 1))) sC_X1_takeBack_33 rfl rfl rfl rfl rfl dX1_takeBack_89 [1] rfl rfl rfl rfl (Nat.le_of_ble_eq_true rfl) rfl ?_
          show Z _ _ _ [.int (zb (s_X0_hasBequest Q (Ch.2.1 (cn - 1))))]
          refine zb_if_eq (tgt := 123) (pc2 := 95) O dX1_takeBack_92 (by decide) rfl (fun c92 => ?_) (fun c92 => ?_)
          · refine zr_iconst (v := (nI 1)) (pc2 := 124) O dX1_takeBack_123 (by decide +kernel) rfl ?_
            have hE : s_X1_takeBack cn Ch Q Hn B = (true, cn - 1, Hn, B) := by exact ((if_neg c4).trans ((if_neg c39).trans ((zif_t c54).trans ((if_neg c66).trans (zif_f c92)))))
            exact hret _ _ _ _ dX1_takeBack_124 (by decide +kernel) (by rw [hE]; rfl) (by rw [hE])
          · refine zr_aload_n (pc2 := 96) O dX1_takeBack_95 rfl 1 rfl rfl ?_
            refine zr_getf (v := .ref (h 0)) (pc2 := 99) O sF_X1_takeBack_9 0 0 rfl rfl rfl dX1_takeBack_96 rfl ?_
            refine zr_aload_n (pc2 := 100) O dX1_takeBack_99 rfl 1 rfl rfl ?_
            refine zr_getf (v := .int (nI (cn - 1))) (pc2 := 103) O sF_X1_takeBack_21 0 0 rfl rfl rfl dX1_takeBack_100 rfl ?_
            refine zn_iald (j := (cn - 1)) (pc2 := 104) O 0 1 0 rfl rfl rfl rfl (by omega) (by decide) dX1_takeBack_103 rfl ?_
            refine zr_iconst (v := (nI 1)) (pc2 := 105) O dX1_takeBack_104 (by decide +kernel) rfl ?_
            refine zr_icmp_ne (tgt := 123) (pc2 := 108) O dX1_takeBack_105 (by decide) rfl (fun c105 => ?_) (fun c105 => ?_)
            · refine zr_iconst (v := (nI 1)) (pc2 := 124) O dX1_takeBack_123 (by decide +kernel) rfl ?_
              have hE : s_X1_takeBack cn Ch Q Hn B = (true, cn - 1, Hn, B) := by exact ((if_neg c4).trans ((if_neg c39).trans ((zif_t c54).trans ((if_neg c66).trans ((zif_t c92).trans (if_neg c105))))))
              exact hret _ _ _ _ dX1_takeBack_124 (by decide +kernel) (by rw [hE]; rfl) (by rw [hE])
            · refine zr_aload_n (pc2 := 109) O dX1_takeBack_108 rfl 2 rfl rfl ?_
              refine zr_getf (v := .ref (b 8)) (pc2 := 112) O sF_X1_takeBack_40 1 0 rfl rfl rfl dX1_takeBack_109 rfl ?_
              refine zr_iload_n (pc2 := 113) O dX1_takeBack_112 rfl 0 rfl rfl ?_
              refine zr_aload_n (pc2 := 114) O dX1_takeBack_113 rfl 1 rfl rfl ?_
              refine zr_getf (v := .ref (h 2)) (pc2 := 117) O sF_X1_takeBack_18 0 0 rfl rfl rfl dX1_takeBack_114 rfl ?_
              refine zr_aload_n (pc2 := 118) O dX1_takeBack_117 rfl 1 rfl rfl ?_
              refine zr_getf (v := .int (nI (cn - 1))) (pc2 := 121) O sF_X1_takeBack_21 0 0 rfl rfl rfl dX1_takeBack_118 rfl ?_
              refine zn_iald (j := (cn - 1)) (pc2 := 122) O 0 3 0 rfl rfl rfl rfl (by omega) (by decide) dX1_takeBack_121 rfl ?_
              refine zr_iast (G2 := bookW cI b P Q Hn sd (B.1, B.2.1, B.2.2.1, B.2.2.2.1, B.2.2.2.2.1, B.2.2.2.2.2.1, (upd B.2.2.2.2.2.2.1 (Ch.2.1 (cn - 1)).toNatClampNeg (Ch.2.2 (cn - 1))), B.2.2.2.2.2.2.2)) (ws2 := [changesW cI h (cn - 1) Ch, bookW cI b P Q Hn sd (B.1, B.2.1, B.2.2.1, B.2.2.2.1, B.2.2.2.2.1, B.2.2.2.2.2.1, (upd B.2.2.2.2.2.2.1 (Ch.2.1 (cn - 1)).toNatClampNeg (Ch.2.2 (cn - 1))), B.2.2.2.2.2.2.2)]) (pc2 := 123) O 1 7 0 rfl rfl rfl (by first | assumption | exact zin_of (by assumption) (by assumption) (by assumption) (by decide) | exact hp_in (by assumption) (by assumption) (by decide) | exact hb_in (by assumption) (by assumption) (by decide) | exact il_in (by assumption) (by assumption) (by decide)) dX1_takeBack_122 rfl rfl rfl ?_
              refine zr_iconst (v := (nI 1)) (pc2 := 124) O dX1_takeBack_123 (by decide +kernel) rfl ?_
              have hE : s_X1_takeBack cn Ch Q Hn B = (true, cn - 1, Hn, (B.1, B.2.1, B.2.2.1, B.2.2.2.1, B.2.2.2.2.1, B.2.2.2.2.2.1, (upd B.2.2.2.2.2.2.1 (Ch.2.1 (cn - 1)).toNatClampNeg (Ch.2.2 (cn - 1))), B.2.2.2.2.2.2.2)) := by exact ((if_neg c4).trans ((if_neg c39).trans ((zif_t c54).trans ((if_neg c66).trans ((zif_t c92).trans (if_pos c105))))))
              exact hret _ _ _ _ dX1_takeBack_124 (by decide +kernel) (by rw [hE]; rfl) (by rw [hE])
        · refine zr_aload_n (pc2 := 70) O dX1_takeBack_69 rfl 2 rfl rfl ?_
          refine zr_getf (v := .ref (b 9)) (pc2 := 73) O sF_X1_takeBack_37 1 0 rfl rfl rfl dX1_takeBack_70 rfl ?_
          refine zr_iload_n (pc2 := 74) O dX1_takeBack_73 rfl 0 rfl rfl ?_
          refine zr_aload_n (pc2 := 75) O dX1_takeBack_74 rfl 1 rfl rfl ?_
          refine zr_getf (v := .ref (h 2)) (pc2 := 78) O sF_X1_takeBack_18 0 0 rfl rfl rfl dX1_takeBack_75 rfl ?_
          refine zr_aload_n (pc2 := 79) O dX1_takeBack_78 rfl 1 rfl rfl ?_
          refine zr_getf (v := .int (nI (cn - 1))) (pc2 := 82) O sF_X1_takeBack_21 0 0 rfl rfl rfl dX1_takeBack_79 rfl ?_
          refine zn_iald (j := (cn - 1)) (pc2 := 83) O 0 3 0 rfl rfl rfl rfl (by omega) (by decide) dX1_takeBack_82 rfl ?_
          refine zr_iast (G2 := bookW cI b P Q Hn sd (B.1, B.2.1, B.2.2.1, B.2.2.2.1, B.2.2.2.2.1, B.2.2.2.2.2.1, B.2.2.2.2.2.2.1, (upd B.2.2.2.2.2.2.2.1 (Ch.2.1 (cn - 1)).toNatClampNeg (Ch.2.2 (cn - 1))), B.2.2.2.2.2.2.2.2)) (ws2 := [changesW cI h (cn - 1) Ch, bookW cI b P Q Hn sd (B.1, B.2.1, B.2.2.1, B.2.2.2.1, B.2.2.2.2.1, B.2.2.2.2.2.1, B.2.2.2.2.2.2.1, (upd B.2.2.2.2.2.2.2.1 (Ch.2.1 (cn - 1)).toNatClampNeg (Ch.2.2 (cn - 1))), B.2.2.2.2.2.2.2.2)]) (pc2 := 84) O 1 8 0 rfl rfl rfl (by first | assumption | exact zin_of (by assumption) (by assumption) (by assumption) (by decide) | exact hp_in (by assumption) (by assumption) (by decide) | exact hb_in (by assumption) (by assumption) (by decide) | exact il_in (by assumption) (by assumption) (by decide)) dX1_takeBack_83 rfl rfl rfl ?_
          refine zr_goto (tgt := 123) O dX1_takeBack_84 (by decide) ?_
          refine zr_iconst (v := (nI 1)) (pc2 := 124) O dX1_takeBack_123 (by decide +kernel) rfl ?_
          have hE : s_X1_takeBack cn Ch Q Hn B = (true, cn - 1, Hn, (B.1, B.2.1, B.2.2.1, B.2.2.2.1, B.2.2.2.2.1, B.2.2.2.2.2.1, B.2.2.2.2.2.2.1, (upd B.2.2.2.2.2.2.2.1 (Ch.2.1 (cn - 1)).toNatClampNeg (Ch.2.2 (cn - 1))), B.2.2.2.2.2.2.2.2)) := by exact ((if_neg c4).trans ((if_neg c39).trans ((zif_t c54).trans (if_pos c66))))
          exact hret _ _ _ _ dX1_takeBack_124 (by decide +kernel) (by rw [hE]; rfl) (by rw [hE])
    · refine zr_aload_n (pc2 := 43) O dX1_takeBack_42 rfl 2 rfl rfl ?_
      refine zr_callV (As := []) (rest := []) (ws2 := [changesW cI h (cn - 1) Ch, bookW cI b P Q (s_X0_dropLastHelp Hn) sd B]) (pc2 := 46) (ci := 0) (g0 := 1) (q0 := 0) O (c_X0_dropLastHelp l D cI cC cJ b P Q Hn sd B (by first | assumption | omega)) sC_X1_takeBack_28 rfl rfl rfl rfl rfl dX1_takeBack_43 [1] rfl rfl rfl rfl (Nat.le_of_ble_eq_true rfl) rfl ?_
      show Z _ _ _ []
      refine zr_goto (tgt := 123) O dX1_takeBack_46 (by decide) ?_
      refine zr_iconst (v := (nI 1)) (pc2 := 124) O dX1_takeBack_123 (by decide +kernel) rfl ?_
      have hE : s_X1_takeBack cn Ch Q Hn B = (true, cn - 1, (s_X0_dropLastHelp Hn), B) := by exact ((if_neg c4).trans (if_pos c39))
      exact hret _ _ _ _ dX1_takeBack_124 (by decide +kernel) (by rw [hE]; rfl) (by rw [hE])
  · refine zr_iconst (v := (nI 0)) (pc2 := 8) O dX1_takeBack_7 (by decide +kernel) rfl ?_
    have hE : s_X1_takeBack cn Ch Q Hn B = (false, cn, Hn, B) := by exact (if_pos c4)
    exact hret _ _ _ _ dX1_takeBack_8 (by decide +kernel) (by rw [hE]; rfl) (by rw [hE])
/-! X4_clear -/
def s_X4_clear : Nat := 0
set_option maxHeartbeats 4000000 in
set_option maxRecDepth 100000 in
theorem c_X4_clear (l : Launch) (D : va_G) (cI cC cJ : ClassId) (g : Nat → Nat) (sn : Nat) (Sg : zC) : zD l yX4_clear wsX4_clear rm_X4_clear D (zT cI cC cJ) [.ref (g 3)] [sightsW cI g sn Sg] none [sightsW cI g (s_X4_clear) Sg] := by
  refine zD_void (cc := cX4_clear) (maxL := 1) (lv := [(0, .ref (g 3))]) (by decide +kernel) rfl (Nat.le_of_ble_eq_true rfl) rfl (fun Z O hret => ?_)
  refine zr_aload_n (pc2 := 1) O dX4_clear_0 rfl 0 rfl rfl ?_
  refine zr_iconst (v := (nI 0)) (pc2 := 2) O dX4_clear_1 (by decide +kernel) rfl ?_
  refine zr_putf (G2 := sightsW cI g 0 Sg) (ws2 := [sightsW cI g 0 Sg]) (pc2 := 5) O sP_X4_clear_21 0 0 rfl rfl rfl rfl (Nat.le_of_ble_eq_true rfl) dX4_clear_2 rfl rfl rfl ?_
  have hE : s_X4_clear = 0 := by exact rfl
  exact hret _ _ _ dX4_clear_5 (by rw [hE])
/-! X4_add -/
def s_X4_add (sn : Nat) (Sg : zC) (a1 : Int32) (a2 : Int32) (a3 : Int32) : Bool × Nat × zC := if sn < 8 then (true, sn + 1, ((upd Sg.1 sn a1), (upd Sg.2.1 sn a2), (upd Sg.2.2 sn a3))) else (false, sn, Sg)
set_option maxHeartbeats 4000000 in
set_option maxRecDepth 100000 in
theorem c_X4_add (l : Launch) (D : va_G) (cI cC cJ : ClassId) (g : Nat → Nat) (sn : Nat) (Sg : zC) (a1 : Int32) (a2 : Int32) (a3 : Int32) (hsn : sn ≤ 8) : zD l yX4_add wsX4_add rm_X4_add D (zT cI cC cJ) [.ref (g 3), .int a1, .int a2, .int a3] [sightsW cI g sn Sg] (some (.int (zb ((s_X4_add sn Sg a1 a2 a3).1)))) [sightsW cI g ((s_X4_add sn Sg a1 a2 a3).2.1) ((s_X4_add sn Sg a1 a2 a3).2.2)] := by
  refine zD_int (cc := cX4_add) (maxL := 4) (ty := .boolean) (lv := [(0, .ref (g 3)), (1, .int a1), (2, .int a2), (3, .int a3)]) (by decide +kernel) rfl (Nat.le_of_ble_eq_true rfl) rfl (fun Z O hret => ?_)
  refine zr_aload_n (pc2 := 1) O dX4_add_0 rfl 0 rfl rfl ?_
  refine zr_getf (v := .int (nI sn)) (pc2 := 4) O sF_X4_add_21 0 0 rfl rfl rfl dX4_add_1 rfl ?_
  refine zr_bipush (v := (nI 8)) (pc2 := 6) O dX4_add_4 (by decide +kernel) rfl ?_
  refine zn_icmp_lt (tgt := 11) (pc2 := 9) O dX4_add_6 (by decide) rfl (by omega) (by omega) (fun c6 => ?_) (fun c6 => ?_)
  · refine zr_aload_n (pc2 := 12) O dX4_add_11 rfl 0 rfl rfl ?_
    refine zr_getf (v := .ref (g 0)) (pc2 := 15) O sF_X4_add_9 0 0 rfl rfl rfl dX4_add_12 rfl ?_
    refine zr_aload_n (pc2 := 16) O dX4_add_15 rfl 0 rfl rfl ?_
    refine zr_getf (v := .int (nI sn)) (pc2 := 19) O sF_X4_add_21 0 0 rfl rfl rfl dX4_add_16 rfl ?_
    refine zr_iload_n (pc2 := 20) O dX4_add_19 rfl 1 rfl rfl ?_
    refine zn_iast (j := sn) (G2 := sightsW cI g sn ((upd Sg.1 sn a1), Sg.2)) (ws2 := [sightsW cI g sn ((upd Sg.1 sn a1), Sg.2)]) (pc2 := 21) O 0 1 0 rfl rfl rfl rfl (by omega) (by decide) dX4_add_20 rfl rfl rfl ?_
    refine zr_aload_n (pc2 := 22) O dX4_add_21 rfl 0 rfl rfl ?_
    refine zr_getf (v := .ref (g 1)) (pc2 := 25) O sF_X4_add_15 0 0 rfl rfl rfl dX4_add_22 rfl ?_
    refine zr_aload_n (pc2 := 26) O dX4_add_25 rfl 0 rfl rfl ?_
    refine zr_getf (v := .int (nI sn)) (pc2 := 29) O sF_X4_add_21 0 0 rfl rfl rfl dX4_add_26 rfl ?_
    refine zr_iload_n (pc2 := 30) O dX4_add_29 rfl 2 rfl rfl ?_
    refine zn_iast (j := sn) (G2 := sightsW cI g sn ((upd Sg.1 sn a1), (upd Sg.2.1 sn a2), Sg.2.2)) (ws2 := [sightsW cI g sn ((upd Sg.1 sn a1), (upd Sg.2.1 sn a2), Sg.2.2)]) (pc2 := 31) O 0 2 0 rfl rfl rfl rfl (by omega) (by decide) dX4_add_30 rfl rfl rfl ?_
    refine zr_aload_n (pc2 := 32) O dX4_add_31 rfl 0 rfl rfl ?_
    refine zr_getf (v := .ref (g 2)) (pc2 := 35) O sF_X4_add_18 0 0 rfl rfl rfl dX4_add_32 rfl ?_
    refine zr_aload_n (pc2 := 36) O dX4_add_35 rfl 0 rfl rfl ?_
    refine zr_getf (v := .int (nI sn)) (pc2 := 39) O sF_X4_add_21 0 0 rfl rfl rfl dX4_add_36 rfl ?_
    refine zr_iload_n (pc2 := 40) O dX4_add_39 rfl 3 rfl rfl ?_
    refine zn_iast (j := sn) (G2 := sightsW cI g sn ((upd Sg.1 sn a1), (upd Sg.2.1 sn a2), (upd Sg.2.2 sn a3))) (ws2 := [sightsW cI g sn ((upd Sg.1 sn a1), (upd Sg.2.1 sn a2), (upd Sg.2.2 sn a3))]) (pc2 := 41) O 0 3 0 rfl rfl rfl rfl (by omega) (by decide) dX4_add_40 rfl rfl rfl ?_
    refine zr_aload_n (pc2 := 42) O dX4_add_41 rfl 0 rfl rfl ?_
    refine zr_dup (pc2 := 43) O dX4_add_42 rfl rfl ?_
    refine zr_getf (v := .int (nI sn)) (pc2 := 46) O sF_X4_add_21 0 0 rfl rfl rfl dX4_add_43 rfl ?_
    refine zr_iconst (v := (nI 1)) (pc2 := 47) O dX4_add_46 (by decide +kernel) rfl ?_
    refine zr_iadd (v := (nI (sn + 1))) (pc2 := 48) O dX4_add_47 (nI_add sn 1) rfl ?_
    refine zr_putf (G2 := sightsW cI g (sn + 1) ((upd Sg.1 sn a1), (upd Sg.2.1 sn a2), (upd Sg.2.2 sn a3))) (ws2 := [sightsW cI g (sn + 1) ((upd Sg.1 sn a1), (upd Sg.2.1 sn a2), (upd Sg.2.2 sn a3))]) (pc2 := 51) O sP_X4_add_21 0 0 rfl rfl rfl rfl (Nat.le_of_ble_eq_true rfl) dX4_add_48 rfl rfl rfl ?_
    refine zr_iconst (v := (nI 1)) (pc2 := 52) O dX4_add_51 (by decide +kernel) rfl ?_
    have hE : s_X4_add sn Sg a1 a2 a3 = (true, sn + 1, ((upd Sg.1 sn a1), (upd Sg.2.1 sn a2), (upd Sg.2.2 sn a3))) := by exact (if_pos c6)
    exact hret _ _ _ _ dX4_add_52 (by decide +kernel) (by rw [hE]; rfl) (by rw [hE])
  · refine zr_iconst (v := (nI 0)) (pc2 := 10) O dX4_add_9 (by decide +kernel) rfl ?_
    have hE : s_X4_add sn Sg a1 a2 a3 = (false, sn, Sg) := by exact (if_neg c6)
    exact hret _ _ _ _ dX4_add_10 (by decide +kernel) (by rw [hE]; rfl) (by rw [hE])
/-! X4_fit -/
def f_X4_fit_2 (Sg : zC) (PA : Nat → Nat → Int32) (i : Int32) : Nat → Nat → Bool
  | 0, _ => true
  | n9 + 1, k => if (Sg.1 k) = i then if ((PA i.toNatClampNeg) (Sg.2.1 k).toNatClampNeg) = (Sg.2.2 k) then f_X4_fit_2 Sg PA i n9 (k + 1) else false else f_X4_fit_2 Sg PA i n9 (k + 1)
def s_X4_fit (sn : Nat) (Sg : zC) (PA : Nat → Nat → Int32) (i : Int32) : Bool := f_X4_fit_2 Sg PA i sn 0
set_option maxHeartbeats 4000000 in
set_option maxRecDepth 100000 in
theorem c_X4_fit (l : Launch) (D : va_G) (cI cC cJ : ClassId) (g : Nat → Nat) (w : Nat → Nat) (sn : Nat) (Sg : zC) (hav : Int32) (Y : zY) (PA : Nat → Nat → Int32) (i : Int32) (bk : Nat) (hsn : sn ≤ 8) (hsg : ∀ k, k < sn → vp_in (Sg.2.1 k) 151) (hi : vp_in i 6) (hi6 : i.toNatClampNeg < 6) : zD l yX4_fit wsX4_fit rm_X4_fit D (zT cI cC cJ) [.ref (g 3), .int i, .ref (w 0)] [sightsW cI g sn Sg, yearsW cI cJ w bk hav Y PA] (some (.int (zb (s_X4_fit sn Sg PA i)))) [sightsW cI g sn Sg, yearsW cI cJ w bk hav Y PA] := by
  refine zD_int (cc := cX4_fit) (maxL := 4) (ty := .boolean) (lv := [(0, .ref (g 3)), (1, .int i), (2, .ref (w 0))]) (by decide +kernel) rfl (Nat.le_of_ble_eq_true rfl) rfl (fun Z O hret => ?_)
  refine zr_iconst (v := (nI 0)) (pc2 := 1) O dX4_fit_0 (by decide +kernel) rfl ?_
  refine zr_istore_n (lv2 := [(3, .int (nI 0)), (0, .ref (g 3)), (1, .int i), (2, .ref (w 0))]) (pc2 := 2) O dX4_fit_1 rfl (by decide) rfl rfl ?_
  have hS2 : s_X4_fit sn Sg PA i = f_X4_fit_2 Sg PA i sn 0 := by exact rfl
  have lp2 : ∀ (n9 : Nat) (k : Nat), k + n9 = sn → f_X4_fit_2 Sg PA i sn 0 = f_X4_fit_2 Sg PA i n9 k → Z [sightsW cI g sn Sg, yearsW cI cJ w bk hav Y PA] [(3, .int (nI k)), (0, .ref (g 3)), (1, .int i), (2, .ref (w 0))] 2 [] := by
    intro n9
    induction n9 with
    | zero =>
      intro k hM2 hF2
      refine zr_iload_n (pc2 := 3) O dX4_fit_2 rfl 0 rfl rfl ?_
      refine zr_aload_n (pc2 := 4) O dX4_fit_3 rfl 1 rfl rfl ?_
      refine zr_getf (v := .int (nI sn)) (pc2 := 7) O sF_X4_fit_21 0 0 rfl rfl rfl dX4_fit_4 rfl ?_
      refine zn_icmp_ge (tgt := 50) (pc2 := 10) O dX4_fit_7 (by decide) rfl (by omega) (by omega) (fun c7 => ?_) (fun c7 => ?_)
      · refine zr_iconst (v := (nI 1)) (pc2 := 51) O dX4_fit_50 (by decide +kernel) rfl ?_
        have hE : f_X4_fit_2 Sg PA i 0 k = true := by exact rfl
        have hE := hS2.trans (hF2.trans hE)
        exact hret _ _ _ _ dX4_fit_51 (by decide +kernel) (by rw [hE]; rfl) rfl
      · exact absurd c7 (by omega)
    | succ n9 ih2 =>
      intro k hM2 hF2
      refine zr_iload_n (pc2 := 3) O dX4_fit_2 rfl 0 rfl rfl ?_
      refine zr_aload_n (pc2 := 4) O dX4_fit_3 rfl 1 rfl rfl ?_
      refine zr_getf (v := .int (nI sn)) (pc2 := 7) O sF_X4_fit_21 0 0 rfl rfl rfl dX4_fit_4 rfl ?_
      refine zn_icmp_ge (tgt := 50) (pc2 := 10) O dX4_fit_7 (by decide) rfl (by omega) (by omega) (fun c7 => ?_) (fun c7 => ?_)
      · exact absurd c7 (by omega)
      · refine zr_aload_n (pc2 := 11) O dX4_fit_10 rfl 1 rfl rfl ?_
        refine zr_getf (v := .ref (g 0)) (pc2 := 14) O sF_X4_fit_9 0 0 rfl rfl rfl dX4_fit_11 rfl ?_
        refine zr_iload_n (pc2 := 15) O dX4_fit_14 rfl 0 rfl rfl ?_
        refine zn_iald (j := k) (pc2 := 16) O 0 1 0 rfl rfl rfl rfl (by omega) (by decide) dX4_fit_15 rfl ?_
        refine zr_iload_n (pc2 := 17) O dX4_fit_16 rfl 2 rfl rfl ?_
        refine zr_icmp_ne (tgt := 44) (pc2 := 20) O dX4_fit_17 (by decide) rfl (fun c17 => ?_) (fun c17 => ?_)
        · refine zr_iinc (v := (nI (k + 1))) (lv2 := [(3, .int (nI (k + 1))), (0, .ref (g 3)), (1, .int i), (2, .ref (w 0))]) (pc2 := 47) O dX4_fit_44 0 rfl (zm_ofInt1 k) (by decide) rfl rfl ?_
          refine zr_goto (tgt := 2) O dX4_fit_47 (by decide) ?_
          have hE : f_X4_fit_2 Sg PA i (n9 + 1) k = f_X4_fit_2 Sg PA i n9 (k + 1) := by exact (if_neg c17)
          exact ih2 (k + 1) (by omega) (hF2.trans hE)
        · refine zr_aload_n (pc2 := 21) O dX4_fit_20 rfl 3 rfl rfl ?_
          refine zr_getf (v := .ref (w 8)) (pc2 := 24) O sF_X4_fit_25 1 0 rfl rfl rfl dX4_fit_21 rfl ?_
          refine zr_iload_n (pc2 := 25) O dX4_fit_24 rfl 2 rfl rfl ?_
          refine zr_aald (r := (w (10 + i.toNatClampNeg))) (pc2 := 26) O 1 8 2 rfl rfl rfl (by first | assumption | exact zin_of (by assumption) (by assumption) (by assumption) (by decide) | exact hp_in (by assumption) (by assumption) (by decide) | exact hb_in (by assumption) (by assumption) (by decide) | exact il_in (by assumption) (by assumption) (by decide)) (if_pos (by omega)) dX4_fit_25 rfl ?_
          refine zr_aload_n (pc2 := 27) O dX4_fit_26 rfl 1 rfl rfl ?_
          refine zr_getf (v := .ref (g 1)) (pc2 := 30) O sF_X4_fit_15 0 0 rfl rfl rfl dX4_fit_27 rfl ?_
          refine zr_iload_n (pc2 := 31) O dX4_fit_30 rfl 0 rfl rfl ?_
          refine zn_iald (j := k) (pc2 := 32) O 0 2 0 rfl rfl rfl rfl (by omega) (by decide) dX4_fit_31 rfl ?_
          refine zr_iald (pc2 := 33) O 1 (9 + i.toNatClampNeg) 0 rfl (zrow_at (a := w) (PA := PA) (by omega) rfl rfl rfl rfl rfl rfl) rfl (hsg k (by omega)) dX4_fit_32 rfl ?_
          refine zr_aload_n (pc2 := 34) O dX4_fit_33 rfl 1 rfl rfl ?_
          refine zr_getf (v := .ref (g 2)) (pc2 := 37) O sF_X4_fit_18 0 0 rfl rfl rfl dX4_fit_34 rfl ?_
          refine zr_iload_n (pc2 := 38) O dX4_fit_37 rfl 0 rfl rfl ?_
          refine zn_iald (j := k) (pc2 := 39) O 0 3 0 rfl rfl rfl rfl (by omega) (by decide) dX4_fit_38 rfl ?_
          refine zr_icmp_eq (tgt := 44) (pc2 := 42) O dX4_fit_39 (by decide) rfl (fun c39 => ?_) (fun c39 => ?_)
          · refine zr_iinc (v := (nI (k + 1))) (lv2 := [(3, .int (nI (k + 1))), (0, .ref (g 3)), (1, .int i), (2, .ref (w 0))]) (pc2 := 47) O dX4_fit_44 0 rfl (zm_ofInt1 k) (by decide) rfl rfl ?_
            refine zr_goto (tgt := 2) O dX4_fit_47 (by decide) ?_
            have hE : f_X4_fit_2 Sg PA i (n9 + 1) k = f_X4_fit_2 Sg PA i n9 (k + 1) := by exact ((if_pos c17).trans (if_pos c39))
            exact ih2 (k + 1) (by omega) (hF2.trans hE)
          · refine zr_iconst (v := (nI 0)) (pc2 := 43) O dX4_fit_42 (by decide +kernel) rfl ?_
            have hE : f_X4_fit_2 Sg PA i (n9 + 1) k = false := by exact ((if_pos c17).trans (if_neg c39))
            have hE := hS2.trans (hF2.trans hE)
            exact hret _ _ _ _ dX4_fit_43 (by decide +kernel) (by rw [hE]; rfl) rfl
  exact lp2 sn 0 (by omega) rfl
