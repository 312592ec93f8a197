theorem chr_ok {x : Int32} (h1 : ¬ x < nI 32) (h2 : x ≤ nI 126) : (x.toUInt32 % 65536).toInt32 = x ∧ vp_nar .char x = x := by
  have h3 : ¬ x.toInt < (nI 32).toInt := fun h => h1 (Int32.lt_iff_toInt_lt.mpr h)
  have h4 : x.toInt ≤ (nI 126).toInt := Int32.le_iff_toInt_le.mp h2
  rw [nI_toInt (by decide)] at h3 h4
  obtain ⟨j, hj, rfl⟩ := nI_of (x := x) (by rw [Int32.lt_iff_toInt_lt, Int32.toInt_zero]; omega)
  rw [nI_toInt hj] at h3 h4
  have key : ∀ j : Fin 127, ((nI j.val).toUInt32 % 65536).toInt32 = nI j.val ∧ vp_nar .char (nI j.val) = nI j.val := by decide +kernel
  exact key ⟨j, by omega⟩
theorem hasP_nat {P : Nat} {i : Int32} (h : s_X0_hasPerson P i = true) (hP : P ≤ 6) : i = nI i.toNatClampNeg ∧ i.toNatClampNeg < P := by
  unfold s_X0_hasPerson at h
  split at h
  · cases h
  · rename_i h1
    split at h
    · cases h
    · rename_i h2
      obtain ⟨j, hj, rfl⟩ := nI_of h1
      rw [nI_leI (by omega) hj] at h2
      rw [nI_clamp hj]
      exact ⟨rfl, by omega⟩
theorem within_nat {v : Int32} {a b : Nat} (h : s_X6_isWithin v (nI a) (nI b) = true) (ha : a < 2 ^ 31) (hb : b < 2 ^ 31) : v = nI v.toNatClampNeg ∧ v.toNatClampNeg ≤ b := in_nat (v := v) h ha hb
theorem readInto11_ok (n : Nat) (Le : Nat → Int32) : ∀ (n9 it pl : Nat) (Nu : Nat → Int32) (P Q : Nat) (sd : Int32) (B : zB), P ≤ 6 → Q ≤ 9 → (f_X2_readInto_11 n Le n9 it pl Nu P Q sd B).2.2.2.1 ≤ 6 ∧ (f_X2_readInto_11 n Le n9 it pl Nu P Q sd B).2.2.2.2.1 ≤ 9
  | 0, it, pl, Nu, P, Q, sd, B, h1, h2 => ⟨h1, h2⟩
  | n9 + 1, it, pl, Nu, P, Q, sd, B, h1, h2 => by
    have h3 := readItem_ok (pl := pl) (Nu := Nu) (n := n) (Le := Le) (sd := sd) (B := B) h1 h2
    unfold f_X2_readInto_11
    dsimp only
    split
    · exact ⟨h1, h2⟩
    · split
      · exact readInto11_ok n Le n9 (it + 1) _ _ _ _ _ _ h3.2.1 h3.2.2
      · exact ⟨h3.2.1, h3.2.2⟩
/-! X6_write -/
def s_X6_write (n : Nat) (Le : Nat → Int32) (x0 : Int32) : Int32 × Nat × (Nat → Int32) := if x0 < (nI 32) then ((-1), n, Le) else if x0 ≤ (nI 126) then let u20 := s_X3_append n Le x0; if u20.1 = true then ((nI u20.2.1), u20.2.1, u20.2.2) else ((-3), u20.2.1, u20.2.2) else ((-1), n, Le)
set_option maxHeartbeats 4000000 in
set_option maxRecDepth 100000 in
theorem c_X6_write (l : Launch) (D : va_G) (cI cC cJ : ClassId) (x : Nat) (c : Nat → Nat) (old : Bool) (kb : Nat) (n : Nat) (Le : Nat → Int32) (x0 : Int32) (r0 : Nat) (b0 : Nat) (y0 : Nat) (t0 : Nat) (w0 : Nat) (h0 : Nat) (g0 : Nat) (k0 : Nat) (j0 : Nat) (hn : n ≤ 200) : zD l yX6_write wsX6_write rm_X6_write D (zT cI cC cJ) [.ref x, .int x0] [mainW x (c 1) r0 b0 y0 old t0 w0 h0 g0 k0 j0 kb, scrollW cC c n Le] (some (.int ((s_X6_write n Le x0).1))) [mainW x (c 1) r0 b0 y0 old t0 w0 h0 g0 k0 j0 kb, scrollW cC c ((s_X6_write n Le x0).2.1) ((s_X6_write n Le x0).2.2)] := by
  refine zD_int (cc := cX6_write) (maxL := 2) (ty := .int) (lv := [(0, .ref x), (1, .int x0)]) (by decide +kernel) rfl (Nat.le_of_ble_eq_true rfl) rfl (fun Z O hret => ?_)
  refine zr_iload_n (pc2 := 1) O dX6_write_0 rfl 1 rfl rfl ?_
  refine zr_bipush (v := (nI 32)) (pc2 := 3) O dX6_write_1 (by decide +kernel) rfl ?_
  refine zr_icmp_lt (tgt := 12) (pc2 := 6) O dX6_write_3 (by decide) rfl (fun c3 => ?_) (fun c3 => ?_)
  · refine zr_iconst (v := (-1)) (pc2 := 13) O dX6_write_12 (by decide +kernel) rfl ?_
    have hE : s_X6_write n Le x0 = ((-1), n, Le) := by exact (if_pos c3)
    exact hret _ _ _ _ dX6_write_13 rfl (by rw [hE]) (by rw [hE])
  · refine zr_iload_n (pc2 := 7) O dX6_write_6 rfl 1 rfl rfl ?_
    refine zr_bipush (v := (nI 126)) (pc2 := 9) O dX6_write_7 (by decide +kernel) rfl ?_
    refine zr_icmp_le (tgt := 14) (pc2 := 12) O dX6_write_9 (by decide) rfl (fun c9 => ?_) (fun c9 => ?_)
    · refine zr_aload_n (pc2 := 15) O dX6_write_14 rfl 0 rfl rfl ?_
      refine zr_getf (v := .ref (c 1)) (pc2 := 18) O sF_X6_write_10 0 0 rfl rfl rfl dX6_write_15 rfl ?_
      refine zr_iload_n (pc2 := 19) O dX6_write_18 rfl 1 rfl rfl ?_
      refine zr_i2c (v := ((x0.toUInt32 % 65536).toInt32)) (pc2 := 20) O dX6_write_19 rfl rfl ?_
      have hc1 := chr_ok c3 c9
      rw [hc1.1]
      obtain ⟨u20, hu20⟩ : ∃ z9, z9 = s_X3_append n Le x0 := ⟨_, rfl⟩
      refine zr_callV (As := [.int x0]) (rest := []) (ws2 := [mainW x (c 1) r0 b0 y0 old t0 w0 h0 g0 k0 j0 kb, scrollW cC c u20.2.1 u20.2.2]) (pc2 := 23) (ci := 3) (g0 := 1) (q0 := 0) (v := (some (.int (zb u20.1)))) (W := [scrollW cC c n Le]) (W2 := [scrollW cC c u20.2.1 u20.2.2]) O (by rw [hu20]; exact (c_X3_append l D cI cC cJ c n Le x0 hn hc1.2)) sC_X6_write_87 rfl rfl rfl rfl rfl dX6_write_20 [1] rfl rfl rfl rfl (Nat.le_of_ble_eq_true rfl) rfl ?_
      show Z _ _ _ [.int (zb u20.1)]
      refine zb_if_eq (tgt := 36) (pc2 := 26) O dX6_write_23 (by decide) rfl (fun c23 => ?_) (fun c23 => ?_)
      · refine zr_bipush (v := (-3)) (pc2 := 38) O dX6_write_36 (by decide +kernel) rfl ?_
        have hE : s_X6_write n Le x0 = ((-3), u20.2.1, u20.2.2) := by subst hu20; exact ((if_neg c3).trans ((if_pos c9).trans (zif_f c23)))
        exact hret _ _ _ _ dX6_write_38 rfl (by rw [hE]) (by rw [hE])
      · refine zr_aload_n (pc2 := 27) O dX6_write_26 rfl 0 rfl rfl ?_
        refine zr_getf (v := .ref (c 1)) (pc2 := 30) O sF_X6_write_10 0 0 rfl rfl rfl dX6_write_27 rfl ?_
        refine zr_getf (v := .int (nI u20.2.1)) (pc2 := 33) O sF_X6_write_98 1 0 rfl rfl rfl dX6_write_30 rfl ?_
        refine zr_goto (tgt := 38) O dX6_write_33 (by decide) ?_
        have hE : s_X6_write n Le x0 = ((nI u20.2.1), u20.2.1, u20.2.2) := by subst hu20; exact ((if_neg c3).trans ((if_pos c9).trans (zif_t c23)))
        exact hret _ _ _ _ dX6_write_38 rfl (by rw [hE]) (by rw [hE])
    · refine zr_iconst (v := (-1)) (pc2 := 13) O dX6_write_12 (by decide +kernel) rfl ?_
      have hE : s_X6_write n Le x0 = ((-1), n, Le) := by exact ((if_neg c3).trans (if_neg c9))
      exact hret _ _ _ _ dX6_write_13 rfl (by rw [hE]) (by rw [hE])
/-! X6_wipe -/
def s_X6_wipe (n : Nat) : Int32 × Nat := ((nI n), 0)
set_option maxHeartbeats 4000000 in
set_option maxRecDepth 100000 in
theorem c_X6_wipe (l : Launch) (D : va_G) (cI cC cJ : ClassId) (x : Nat) (c : Nat → Nat) (old : Bool) (kb : Nat) (n : Nat) (Le : Nat → Int32) (r0 : Nat) (b0 : Nat) (y0 : Nat) (t0 : Nat) (w0 : Nat) (h0 : Nat) (g0 : Nat) (k0 : Nat) (j0 : Nat) : zD l yX6_wipe wsX6_wipe rm_X6_wipe D (zT cI cC cJ) [.ref x] [mainW x (c 1) r0 b0 y0 old t0 w0 h0 g0 k0 j0 kb, scrollW cC c n Le] (some (.int ((s_X6_wipe n).1))) [mainW x (c 1) r0 b0 y0 old t0 w0 h0 g0 k0 j0 kb, scrollW cC c ((s_X6_wipe n).2) Le] := by
  refine zD_int (cc := cX6_wipe) (maxL := 2) (ty := .int) (lv := [(0, .ref x)]) (by decide +kernel) rfl (Nat.le_of_ble_eq_true rfl) rfl (fun Z O hret => ?_)
  refine zr_aload_n (pc2 := 1) O dX6_wipe_0 rfl 0 rfl rfl ?_
  refine zr_getf (v := .ref (c 1)) (pc2 := 4) O sF_X6_wipe_10 0 0 rfl rfl rfl dX6_wipe_1 rfl ?_
  refine zr_getf (v := .int (nI n)) (pc2 := 7) O sF_X6_wipe_98 1 0 rfl rfl rfl dX6_wipe_4 rfl ?_
  refine zr_istore_n (lv2 := [(1, .int (nI n)), (0, .ref x)]) (pc2 := 8) O dX6_wipe_7 rfl (by decide) rfl rfl ?_
  refine zr_aload_n (pc2 := 9) O dX6_wipe_8 rfl 1 rfl rfl ?_
  refine zr_getf (v := .ref (c 1)) (pc2 := 12) O sF_X6_wipe_10 0 0 rfl rfl rfl dX6_wipe_9 rfl ?_
  refine zr_callV (As := []) (rest := []) (ws2 := [mainW x (c 1) r0 b0 y0 old t0 w0 h0 g0 k0 j0 kb, scrollW cC c 0 Le]) (pc2 := 15) (ci := 3) (g0 := 1) (q0 := 0) O (c_X3_clear l D cI cC cJ c n Le) sC_X6_wipe_95 rfl rfl rfl rfl rfl dX6_wipe_12 [1] rfl rfl rfl rfl (Nat.le_of_ble_eq_true rfl) rfl ?_
  show Z _ _ _ []
  refine zr_iload_n (pc2 := 16) O dX6_wipe_15 rfl 0 rfl rfl ?_
  have hE : s_X6_wipe n = ((nI n), 0) := by exact rfl
  exact hret _ _ _ _ dX6_wipe_16 rfl (by rw [hE]) (by rw [hE])
/-! X6_fault -/
def s_X6_fault (Nu : Nat → Int32) (n : Nat) (Le : Nat → Int32) (B2 : zB) : Int32 × Nat × (Nat → Int32) × Nat × Nat × Nat × Int32 × zB := let u8 := s_X2_readInto Nu n Le B2; (u8.1, u8.2.1, u8.2.2.1, u8.2.2.2.1, u8.2.2.2.2.1, u8.2.2.2.2.2.1, u8.2.2.2.2.2.2.1, u8.2.2.2.2.2.2.2)
set_option maxHeartbeats 4000000 in
set_option maxRecDepth 100000 in
theorem c_X6_fault (l : Launch) (D : va_G) (cI cC cJ : ClassId) (x : Nat) (r : Nat → Nat) (c : Nat → Nat) (t : Nat → Nat) (old : Bool) (kb : Nat) (pl : Nat) (Nu : Nat → Int32) (n : Nat) (Le : Nat → Int32) (P2 : Nat) (Q2 : Nat) (H2 : Nat) (sd2 : Int32) (B2 : zB) (b0 : Nat) (y0 : Nat) (w0 : Nat) (h0 : Nat) (g0 : Nat) (k0 : Nat) (j0 : Nat) (hn : n ≤ 200) (hL : ∀ j, narrow .char (.int (Le j)) = .int (Le j)) : zD l yX6_fault wsX6_fault rm_X6_fault D (zT cI cC cJ) [.ref x] [mainW x (c 1) (r 0) b0 y0 old (t 0) w0 h0 g0 k0 j0 kb, readerW cI r (c 1) pl Nu, scrollW cC c n Le, bookW cI t P2 Q2 H2 sd2 B2] (some (.int ((s_X6_fault Nu n Le B2).1))) [mainW x (c 1) (r 0) b0 y0 old (t 0) w0 h0 g0 k0 j0 kb, readerW cI r (c 1) ((s_X6_fault Nu n Le B2).2.1) ((s_X6_fault Nu n Le B2).2.2.1), scrollW cC c n Le, bookW cI t ((s_X6_fault Nu n Le B2).2.2.2.1) ((s_X6_fault Nu n Le B2).2.2.2.2.1) ((s_X6_fault Nu n Le B2).2.2.2.2.2.1) ((s_X6_fault Nu n Le B2).2.2.2.2.2.2.1) ((s_X6_fault Nu n Le B2).2.2.2.2.2.2.2)] := by
  refine zD_int (cc := cX6_fault) (maxL := 1) (ty := .int) (lv := [(0, .ref x)]) (by decide +kernel) rfl (Nat.le_of_ble_eq_true rfl) rfl (fun Z O hret => ?_)
  refine zr_aload_n (pc2 := 1) O dX6_fault_0 rfl 0 rfl rfl ?_
  refine zr_getf (v := .ref (r 0)) (pc2 := 4) O sF_X6_fault_21 0 0 rfl rfl rfl dX6_fault_1 rfl ?_
  refine zr_aload_n (pc2 := 5) O dX6_fault_4 rfl 0 rfl rfl ?_
  refine zr_getf (v := .ref (t 0)) (pc2 := 8) O sF_X6_fault_45 0 0 rfl rfl rfl dX6_fault_5 rfl ?_
  obtain ⟨u8, hu8⟩ : ∃ z9, z9 = s_X2_readInto Nu n Le B2 := ⟨_, rfl⟩
  refine zr_callV (As := [.ref (t 0)]) (rest := []) (ws2 := [mainW x (c 1) (r 0) b0 y0 old (t 0) w0 h0 g0 k0 j0 kb, readerW cI r (c 1) u8.2.1 u8.2.2.1, scrollW cC c n Le, bookW cI t u8.2.2.2.1 u8.2.2.2.2.1 u8.2.2.2.2.2.1 u8.2.2.2.2.2.2.1 u8.2.2.2.2.2.2.2]) (pc2 := 11) (ci := 2) (g0 := 1) (q0 := 0) (v := (some (.int u8.1))) (W := [readerW cI r (c 1) pl Nu, scrollW cC c n Le, bookW cI t P2 Q2 H2 sd2 B2]) (W2 := [readerW cI r (c 1) u8.2.1 u8.2.2.1, scrollW cC c n Le, bookW cI t u8.2.2.2.1 u8.2.2.2.2.1 u8.2.2.2.2.2.1 u8.2.2.2.2.2.2.1 u8.2.2.2.2.2.2.2]) O (by rw [hu8]; exact (c_X2_readInto l D cI cC cJ r c t pl Nu n Le P2 Q2 H2 sd2 B2 (by first | assumption | omega) (by first | assumption | omega))) sC_X6_fault_91 rfl rfl rfl rfl rfl dX6_fault_8 [1, 2, 3] rfl rfl rfl rfl (Nat.le_of_ble_eq_true rfl) rfl ?_
  show Z _ _ _ [.int u8.1]
  have hE : s_X6_fault Nu n Le B2 = (u8.1, u8.2.1, u8.2.2.1, u8.2.2.2.1, u8.2.2.2.2.1, u8.2.2.2.2.2.1, u8.2.2.2.2.2.2.1, u8.2.2.2.2.2.2.2) := by subst hu8; exact rfl
  exact hret _ _ _ _ dX6_fault_11 rfl (by rw [hE]) (by rw [hE])
/-! X6_lay -/
def s_X6_lay (old : Bool) (kb : Nat) (Nu : Nat → Int32) (n : Nat) (Le : Nat → Int32) (P : Nat) (Q : Nat) (Hn : Nat) (sd : Int32) (B : zB) (B2 : zB) (cn : Nat) (sn : Nat) : Int32 × Bool × Nat × Nat × (Nat → Int32) × Nat × Nat × Nat × Int32 × zB × Nat × Nat × Nat × Int32 × zB × Nat × Nat := let u8 := s_X2_readInto Nu n Le B2; if u8.1 = (-4) then if u8.2.2.2.1 = 0 then ((-2), old, kb, u8.2.1, u8.2.2.1, P, Q, Hn, sd, B, u8.2.2.2.1, u8.2.2.2.2.1, u8.2.2.2.2.2.1, u8.2.2.2.2.2.2.1, u8.2.2.2.2.2.2.2, cn, sn) else ((nI u8.2.2.2.1), true, 0, u8.2.1, u8.2.2.1, u8.2.2.2.1, u8.2.2.2.2.1, u8.2.2.2.2.2.1, u8.2.2.2.2.2.2.1, u8.2.2.2.2.2.2.2, u8.2.2.2.1, u8.2.2.2.2.1, u8.2.2.2.2.2.1, u8.2.2.2.2.2.2.1, u8.2.2.2.2.2.2.2, 0, 0) else ((-2), old, kb, u8.2.1, u8.2.2.1, P, Q, Hn, sd, B, u8.2.2.2.1, u8.2.2.2.2.1, u8.2.2.2.2.2.1, u8.2.2.2.2.2.2.1, u8.2.2.2.2.2.2.2, cn, sn)
set_option maxHeartbeats 4000000 in
set_option maxRecDepth 100000 in
theorem c_X6_lay (l : Launch) (D : va_G) (cI cC cJ : ClassId) (x : Nat) (r : Nat → Nat) (c : Nat → Nat) (b : Nat → Nat) (t : Nat → Nat) (h : Nat → Nat) (g : Nat → Nat) (old : Bool) (kb : Nat) (pl : Nat) (Nu : Nat → Int32) (n : Nat) (Le : Nat → Int32) (P : Nat) (Q : Nat) (Hn : Nat) (sd : Int32) (B : zB) (P2 : Nat) (Q2 : Nat) (H2 : Nat) (sd2 : Int32) (B2 : zB) (cn : Nat) (Ch : zC) (sn : Nat) (Sg : zC) (y0 : Nat) (w0 : Nat) (k0 : Nat) (j0 : Nat) (hn : n ≤ 200) (hL : ∀ j, narrow .char (.int (Le j)) = .int (Le j)) : zD l yX6_lay wsX6_lay rm_X6_lay D (zT cI cC cJ) [.ref x] [mainW x (c 1) (r 0) (b 0) y0 old (t 0) w0 (h 3) (g 3) k0 j0 kb, readerW cI r (c 1) pl Nu, scrollW cC c n Le, bookW cI b P Q Hn sd B, bookW cI t P2 Q2 H2 sd2 B2, changesW cI h cn Ch, sightsW cI g sn Sg] (some (.int ((s_X6_lay old kb Nu n Le P Q Hn sd B B2 cn sn).1))) [mainW x (c 1) (r 0) (b 0) y0 ((s_X6_lay old kb Nu n Le P Q Hn sd B B2 cn sn).2.1) (t 0) w0 (h 3) (g 3) k0 j0 ((s_X6_lay old kb Nu n Le P Q Hn sd B B2 cn sn).2.2.1), readerW cI r (c 1) ((s_X6_lay old kb Nu n Le P Q Hn sd B B2 cn sn).2.2.2.1) ((s_X6_lay old kb Nu n Le P Q Hn sd B B2 cn sn).2.2.2.2.1), scrollW cC c n Le, bookW cI b ((s_X6_lay old kb Nu n Le P Q Hn sd B B2 cn sn).2.2.2.2.2.1) ((s_X6_lay old kb Nu n Le P Q Hn sd B B2 cn sn).2.2.2.2.2.2.1) ((s_X6_lay old kb Nu n Le P Q Hn sd B B2 cn sn).2.2.2.2.2.2.2.1) ((s_X6_lay old kb Nu n Le P Q Hn sd B B2 cn sn).2.2.2.2.2.2.2.2.1) ((s_X6_lay old kb Nu n Le P Q Hn sd B B2 cn sn).2.2.2.2.2.2.2.2.2.1), bookW cI t ((s_X6_lay old kb Nu n Le P Q Hn sd B B2 cn sn).2.2.2.2.2.2.2.2.2.2.1) ((s_X6_lay old kb Nu n Le P Q Hn sd B B2 cn sn).2.2.2.2.2.2.2.2.2.2.2.1) ((s_X6_lay old kb Nu n Le P Q Hn sd B B2 cn sn).2.2.2.2.2.2.2.2.2.2.2.2.1) ((s_X6_lay old kb Nu n Le P Q Hn sd B B2 cn sn).2.2.2.2.2.2.2.2.2.2.2.2.2.1) ((s_X6_lay old kb Nu n Le P Q Hn sd B B2 cn sn).2.2.2.2.2.2.2.2.2.2.2.2.2.2.1), changesW cI h ((s_X6_lay old kb Nu n Le P Q Hn sd B B2 cn sn).2.2.2.2.2.2.2.2.2.2.2.2.2.2.2.1) Ch, sightsW cI g ((s_X6_lay old kb Nu n Le P Q Hn sd B B2 cn sn).2.2.2.2.2.2.2.2.2.2.2.2.2.2.2.2) Sg] := by
  refine zD_int (cc := cX6_lay) (maxL := 1) (ty := .int) (lv := [(0, .ref x)]) (by decide +kernel) rfl (Nat.le_of_ble_eq_true rfl) rfl (fun Z O hret => ?_)
  refine zr_aload_n (pc2 := 1) O dX6_lay_0 rfl 0 rfl rfl ?_
  refine zr_getf (v := .ref (r 0)) (pc2 := 4) O sF_X6_lay_21 0 0 rfl rfl rfl dX6_lay_1 rfl ?_
  refine zr_aload_n (pc2 := 5) O dX6_lay_4 rfl 0 rfl rfl ?_
  refine zr_getf (v := .ref (t 0)) (pc2 := 8) O sF_X6_lay_45 0 0 rfl rfl rfl dX6_lay_5 rfl ?_
  obtain ⟨u8, hu8⟩ : ∃ z9, z9 = s_X2_readInto Nu n Le B2 := ⟨_, rfl⟩
  refine zr_callV (As := [.ref (t 0)]) (rest := []) (ws2 := [mainW x (c 1) (r 0) (b 0) y0 old (t 0) w0 (h 3) (g 3) k0 j0 kb, readerW cI r (c 1) u8.2.1 u8.2.2.1, scrollW cC c n Le, bookW cI b P Q Hn sd B, bookW cI t u8.2.2.2.1 u8.2.2.2.2.1 u8.2.2.2.2.2.1 u8.2.2.2.2.2.2.1 u8.2.2.2.2.2.2.2, changesW cI h cn Ch, sightsW cI g sn Sg]) (pc2 := 11) (ci := 2) (g0 := 1) (q0 := 0) (v := (some (.int u8.1))) (W := [readerW cI r (c 1) pl Nu, scrollW cC c n Le, bookW cI t P2 Q2 H2 sd2 B2]) (W2 := [readerW cI r (c 1) u8.2.1 u8.2.2.1, scrollW cC c n Le, bookW cI t u8.2.2.2.1 u8.2.2.2.2.1 u8.2.2.2.2.2.1 u8.2.2.2.2.2.2.1 u8.2.2.2.2.2.2.2]) O (by rw [hu8]; exact (c_X2_readInto l D cI cC cJ r c t pl Nu n Le P2 Q2 H2 sd2 B2 (by first | assumption | omega) (by first | assumption | omega))) sC_X6_lay_91 rfl rfl rfl rfl rfl dX6_lay_8 [1, 2, 4] rfl rfl rfl rfl (Nat.le_of_ble_eq_true rfl) rfl ?_
  show Z _ _ _ [.int u8.1]
  refine zr_bipush (v := (-4)) (pc2 := 13) O dX6_lay_11 (by decide +kernel) rfl ?_
  refine zr_icmp_ne (tgt := 26) (pc2 := 16) O dX6_lay_13 (by decide) rfl (fun c13 => ?_) (fun c13 => ?_)
  · refine zr_bipush (v := (-2)) (pc2 := 28) O dX6_lay_26 (by decide +kernel) rfl ?_
    have hE : s_X6_lay old kb Nu n Le P Q Hn sd B B2 cn sn = ((-2), old, kb, u8.2.1, u8.2.2.1, P, Q, Hn, sd, B, u8.2.2.2.1, u8.2.2.2.2.1, u8.2.2.2.2.2.1, u8.2.2.2.2.2.2.1, u8.2.2.2.2.2.2.2, cn, sn) := by subst hu8; exact (if_neg c13)
    exact hret _ _ _ _ dX6_lay_28 rfl (by rw [hE]) (by rw [hE])
  · refine zr_aload_n (pc2 := 17) O dX6_lay_16 rfl 0 rfl rfl ?_
    refine zr_getf (v := .ref (t 0)) (pc2 := 20) O sF_X6_lay_45 0 0 rfl rfl rfl dX6_lay_17 rfl ?_
    refine zr_getf (v := .int (nI u8.2.2.2.1)) (pc2 := 23) O sF_X6_lay_100 4 0 rfl rfl rfl dX6_lay_20 rfl ?_
    refine zn_if_ne (tgt := 29) (pc2 := 26) O dX6_lay_23 (by decide) rfl (by subst hu8; have h9 := (readInto11_ok n Le 200 0 0 Nu 0 0 (nI 0) B2 (by decide) (by decide)).1; show (s_X2_readInto Nu n Le B2).2.2.2.1 < 2 ^ 31; exact Nat.lt_of_le_of_lt h9 (by decide)) (fun c23 => ?_) (fun c23 => ?_)
    · refine zr_aload_n (pc2 := 30) O dX6_lay_29 rfl 0 rfl rfl ?_
      refine zr_getf (v := .ref (b 0)) (pc2 := 33) O sF_X6_lay_28 0 0 rfl rfl rfl dX6_lay_30 rfl ?_
      refine zr_aload_n (pc2 := 34) O dX6_lay_33 rfl 0 rfl rfl ?_
      refine zr_getf (v := .ref (t 0)) (pc2 := 37) O sF_X6_lay_45 0 0 rfl rfl rfl dX6_lay_34 rfl ?_
      refine zr_callV (As := [.ref (t 0)]) (rest := []) (ws2 := [mainW x (c 1) (r 0) (b 0) y0 old (t 0) w0 (h 3) (g 3) k0 j0 kb, readerW cI r (c 1) u8.2.1 u8.2.2.1, scrollW cC c n Le, bookW cI b u8.2.2.2.1 u8.2.2.2.2.1 u8.2.2.2.2.2.1 u8.2.2.2.2.2.2.1 u8.2.2.2.2.2.2.2, bookW cI t u8.2.2.2.1 u8.2.2.2.2.1 u8.2.2.2.2.2.1 u8.2.2.2.2.2.2.1 u8.2.2.2.2.2.2.2, changesW cI h cn Ch, sightsW cI g sn Sg]) (pc2 := 40) (ci := 0) (g0 := 3) (q0 := 0) O (c_X0_copyFrom l D cI cC cJ b t P Q Hn sd B u8.2.2.2.1 u8.2.2.2.2.1 u8.2.2.2.2.2.1 u8.2.2.2.2.2.2.1 u8.2.2.2.2.2.2.2) sC_X6_lay_103 rfl rfl rfl rfl rfl dX6_lay_37 [3, 4] rfl rfl rfl rfl (Nat.le_of_ble_eq_true rfl) rfl ?_
      show Z _ _ _ []
      refine zr_aload_n (pc2 := 41) O dX6_lay_40 rfl 0 rfl rfl ?_
      refine zr_getf (v := .ref (h 3)) (pc2 := 44) O sF_X6_lay_54 0 0 rfl rfl rfl dX6_lay_41 rfl ?_
      refine zr_callV (As := []) (rest := []) (ws2 := [mainW x (c 1) (r 0) (b 0) y0 old (t 0) w0 (h 3) (g 3) k0 j0 kb, readerW cI r (c 1) u8.2.1 u8.2.2.1, scrollW cC c n Le, bookW cI b u8.2.2.2.1 u8.2.2.2.2.1 u8.2.2.2.2.2.1 u8.2.2.2.2.2.2.1 u8.2.2.2.2.2.2.2, bookW cI t u8.2.2.2.1 u8.2.2.2.2.1 u8.2.2.2.2.2.1 u8.2.2.2.2.2.2.1 u8.2.2.2.2.2.2.2, changesW cI h 0 Ch, sightsW cI g sn Sg]) (pc2 := 47) (ci := 1) (g0 := 5) (q0 := 0) O (c_X1_clear l D cI cC cJ h cn Ch) sC_X6_lay_106 rfl rfl rfl rfl rfl dX6_lay_44 [5] rfl rfl rfl rfl (Nat.le_of_ble_eq_true rfl) rfl ?_
      show Z _ _ _ []
      refine zr_aload_n (pc2 := 48) O dX6_lay_47 rfl 0 rfl rfl ?_
      refine zr_getf (v := .ref (g 3)) (pc2 := 51) O sF_X6_lay_61 0 0 rfl rfl rfl dX6_lay_48 rfl ?_
      refine zr_callV (As := []) (rest := []) (ws2 := [mainW x (c 1) (r 0) (b 0) y0 old (t 0) w0 (h 3) (g 3) k0 j0 kb, readerW cI r (c 1) u8.2.1 u8.2.2.1, scrollW cC c n Le, bookW cI b u8.2.2.2.1 u8.2.2.2.2.1 u8.2.2.2.2.2.1 u8.2.2.2.2.2.2.1 u8.2.2.2.2.2.2.2, bookW cI t u8.2.2.2.1 u8.2.2.2.2.1 u8.2.2.2.2.2.1 u8.2.2.2.2.2.2.1 u8.2.2.2.2.2.2.2, changesW cI h 0 Ch, sightsW cI g 0 Sg]) (pc2 := 54) (ci := 4) (g0 := 6) (q0 := 0) O (c_X4_clear l D cI cC cJ g sn Sg) sC_X6_lay_107 rfl rfl rfl rfl rfl dX6_lay_51 [6] rfl rfl rfl rfl (Nat.le_of_ble_eq_true rfl) rfl ?_
      show Z _ _ _ []
      refine zr_aload_n (pc2 := 55) O dX6_lay_54 rfl 0 rfl rfl ?_
      refine zr_iconst (v := (nI 0)) (pc2 := 56) O dX6_lay_55 (by decide +kernel) rfl ?_
      refine zr_putf (G2 := mainW x (c 1) (r 0) (b 0) y0 old (t 0) w0 (h 3) (g 3) k0 j0 0) (ws2 := [mainW x (c 1) (r 0) (b 0) y0 old (t 0) w0 (h 3) (g 3) k0 j0 0, readerW cI r (c 1) u8.2.1 u8.2.2.1, scrollW cC c n Le, bookW cI b u8.2.2.2.1 u8.2.2.2.2.1 u8.2.2.2.2.2.1 u8.2.2.2.2.2.2.1 u8.2.2.2.2.2.2.2, bookW cI t u8.2.2.2.1 u8.2.2.2.2.1 u8.2.2.2.2.2.1 u8.2.2.2.2.2.2.1 u8.2.2.2.2.2.2.2, changesW cI h 0 Ch, sightsW cI g 0 Sg]) (pc2 := 59) O sP_X6_lay_71 0 0 rfl rfl rfl rfl (Nat.le_of_ble_eq_true rfl) dX6_lay_56 rfl rfl rfl ?_
      refine zr_aload_n (pc2 := 60) O dX6_lay_59 rfl 0 rfl rfl ?_
      refine zr_iconst (v := (nI 1)) (pc2 := 61) O dX6_lay_60 (by decide +kernel) rfl ?_
      refine zr_putf (G2 := mainW x (c 1) (r 0) (b 0) y0 true (t 0) w0 (h 3) (g 3) k0 j0 0) (ws2 := [mainW x (c 1) (r 0) (b 0) y0 true (t 0) w0 (h 3) (g 3) k0 j0 0, readerW cI r (c 1) u8.2.1 u8.2.2.1, scrollW cC c n Le, bookW cI b u8.2.2.2.1 u8.2.2.2.2.1 u8.2.2.2.2.2.1 u8.2.2.2.2.2.2.1 u8.2.2.2.2.2.2.2, bookW cI t u8.2.2.2.1 u8.2.2.2.2.1 u8.2.2.2.2.2.1 u8.2.2.2.2.2.2.1 u8.2.2.2.2.2.2.2, changesW cI h 0 Ch, sightsW cI g 0 Sg]) (pc2 := 64) O sP_X6_lay_41 0 0 rfl rfl (by decide +kernel) (by decide +kernel) (Nat.le_of_ble_eq_true rfl) dX6_lay_61 rfl rfl rfl ?_
      refine zr_aload_n (pc2 := 65) O dX6_lay_64 rfl 0 rfl rfl ?_
      refine zr_getf (v := .ref (b 0)) (pc2 := 68) O sF_X6_lay_28 0 0 rfl rfl rfl dX6_lay_65 rfl ?_
      refine zr_getf (v := .int (nI u8.2.2.2.1)) (pc2 := 71) O sF_X6_lay_100 3 0 rfl rfl rfl dX6_lay_68 rfl ?_
      have hE : s_X6_lay old kb Nu n Le P Q Hn sd B B2 cn sn = ((nI u8.2.2.2.1), true, 0, u8.2.1, u8.2.2.1, u8.2.2.2.1, u8.2.2.2.2.1, u8.2.2.2.2.2.1, u8.2.2.2.2.2.2.1, u8.2.2.2.2.2.2.2, u8.2.2.2.1, u8.2.2.2.2.1, u8.2.2.2.2.2.1, u8.2.2.2.2.2.2.1, u8.2.2.2.2.2.2.2, 0, 0) := by subst hu8; exact ((if_pos c13).trans (if_neg c23))
      exact hret _ _ _ _ dX6_lay_71 rfl (by rw [hE]) (by rw [hE])
    · refine zr_bipush (v := (-2)) (pc2 := 28) O dX6_lay_26 (by decide +kernel) rfl ?_
      have hE : s_X6_lay old kb Nu n Le P Q Hn sd B B2 cn sn = ((-2), old, kb, u8.2.1, u8.2.2.1, P, Q, Hn, sd, B, u8.2.2.2.1, u8.2.2.2.2.1, u8.2.2.2.2.2.1, u8.2.2.2.2.2.2.1, u8.2.2.2.2.2.2.2, cn, sn) := by subst hu8; exact ((if_pos c13).trans (if_pos c23))
      exact hret _ _ _ _ dX6_lay_28 rfl (by rw [hE]) (by rw [hE])
/-! X6_person -/
def s_X6_person (P : Nat) (Q : Nat) (B : zB) (i : Int32) (wh : Int32) : Int32 := if (s_X0_hasPerson P i) = true then if wh = nI 0 then (B.1 i.toNatClampNeg) else if wh = nI 1 then (B.2.1 i.toNatClampNeg) else if wh = nI 2 then (B.2.2.1 i.toNatClampNeg) else if wh = nI 3 then (B.2.2.2.1 i.toNatClampNeg) else if wh = nI 4 then (B.2.2.2.2.1 i.toNatClampNeg) else if wh = nI 5 then (s_X0_leaves Q B i) else (-1) else (-1)
set_option maxHeartbeats 4000000 in
set_option maxRecDepth 100000 in
theorem c_X6_person (l : Launch) (D : va_G) (cI cC cJ : ClassId) (x : Nat) (b : Nat → Nat) (old : Bool) (kb : Nat) (P : Nat) (Q : Nat) (Hn : Nat) (sd : Int32) (B : zB) (i : Int32) (wh : Int32) (c0 : Nat) (r0 : Nat) (y0 : Nat) (t0 : Nat) (w0 : Nat) (h0 : Nat) (g0 : Nat) (k0 : Nat) (j0 : Nat) (hP : P ≤ 6) (hQ : Q ≤ 9) : zD l yX6_person wsX6_person rm_X6_person D (zT cI cC cJ) [.ref x, .int i, .int wh] [mainW x c0 r0 (b 0) y0 old t0 w0 h0 g0 k0 j0 kb, bookW cI b P Q Hn sd B] (some (.int (s_X6_person P Q B i wh))) [mainW x c0 r0 (b 0) y0 old t0 w0 h0 g0 k0 j0 kb, bookW cI b P Q Hn sd B] := by
  refine zD_int (cc := cX6_person) (maxL := 3) (ty := .int) (lv := [(0, .ref x), (1, .int i), (2, .int wh)]) (by decide +kernel) rfl (Nat.le_of_ble_eq_true rfl) rfl (fun Z O hret => ?_)
  refine zr_aload_n (pc2 := 1) O dX6_person_0 rfl 0 rfl rfl ?_
  refine zr_getf (v := .ref (b 0)) (pc2 := 4) O sF_X6_person_28 0 0 rfl rfl rfl dX6_person_1 rfl ?_
  refine zr_iload_n (pc2 := 5) O dX6_person_4 rfl 1 rfl rfl ?_
  refine zr_callV (As := [.int i]) (rest := []) (ws2 := [mainW x c0 r0 (b 0) y0 old t0 w0 h0 g0 k0 j0 kb, bookW cI b P Q Hn sd B]) (pc2 := 8) (ci := 0) (g0 := 1) (q0 := 0) O (c_X0_hasPerson l D cI cC cJ b P Q Hn sd B i) sC_X6_person_108 rfl rfl rfl rfl rfl dX6_person_5 [1] rfl rfl rfl rfl (Nat.le_of_ble_eq_true rfl) rfl ?_
  show Z _ _ _ [.int (zb (s_X0_hasPerson P i))]
  refine zb_if_ne (tgt := 13) (pc2 := 11) O dX6_person_8 (by decide) rfl (fun c8 => ?_) (fun c8 => ?_)
  · refine zr_iload_n (pc2 := 14) O dX6_person_13 rfl 2 rfl rfl ?_
    by_cases c14_0 : wh = nI 0
    · refine zn_tabIn (y := nI 0) (off := 38) (tgt := 52) O c14_0 dX6_person_14 (by decide +kernel) (by decide +kernel) (by decide +kernel) (by decide) ?_
      refine zr_aload_n (pc2 := 53) O dX6_person_52 rfl 0 rfl rfl ?_
      refine zr_getf (v := .ref (b 0)) (pc2 := 56) O sF_X6_person_28 0 0 rfl rfl rfl dX6_person_53 rfl ?_
      refine zr_getf (v := .ref (b 1)) (pc2 := 59) O sF_X6_person_112 1 0 rfl rfl rfl dX6_person_56 rfl ?_
      refine zr_iload_n (pc2 := 60) O dX6_person_59 rfl 1 rfl rfl ?_
      refine zr_iald (pc2 := 61) O 1 1 0 rfl rfl rfl (by first | assumption | exact zin_of (by assumption) (by assumption) (by assumption) (by decide) | exact hp_in (by assumption) (by assumption) (by decide) | exact hb_in (by assumption) (by assumption) (by decide) | exact il_in (by assumption) (by assumption) (by decide)) dX6_person_60 rfl ?_
      have hE : s_X6_person P Q B i wh = (B.1 i.toNatClampNeg) := by exact ((zif_t c8).trans (if_pos c14_0))
      exact hret _ _ _ _ dX6_person_61 rfl (by rw [hE]) rfl
    · skip
      by_cases c14_1 : wh = nI 1
      · refine zn_tabIn (y := nI 1) (off := 48) (tgt := 62) O c14_1 dX6_person_14 (by decide +kernel) (by decide +kernel) (by decide +kernel) (by decide) ?_
        refine zr_aload_n (pc2 := 63) O dX6_person_62 rfl 0 rfl rfl ?_
        refine zr_getf (v := .ref (b 0)) (pc2 := 66) O sF_X6_person_28 0 0 rfl rfl rfl dX6_person_63 rfl ?_
        refine zr_getf (v := .ref (b 2)) (pc2 := 69) O sF_X6_person_116 1 0 rfl rfl rfl dX6_person_66 rfl ?_
        refine zr_iload_n (pc2 := 70) O dX6_person_69 rfl 1 rfl rfl ?_
        refine zr_iald (pc2 := 71) O 1 2 0 rfl rfl rfl (by first | assumption | exact zin_of (by assumption) (by assumption) (by assumption) (by decide) | exact hp_in (by assumption) (by assumption) (by decide) | exact hb_in (by assumption) (by assumption) (by decide) | exact il_in (by assumption) (by assumption) (by decide)) dX6_person_70 rfl ?_
        have hE : s_X6_person P Q B i wh = (B.2.1 i.toNatClampNeg) := by exact ((zif_t c8).trans ((if_neg c14_0).trans (if_pos c14_1)))
        exact hret _ _ _ _ dX6_person_71 rfl (by rw [hE]) rfl
      · skip
        by_cases c14_2 : wh = nI 2
        · refine zn_tabIn (y := nI 2) (off := 58) (tgt := 72) O c14_2 dX6_person_14 (by decide +kernel) (by decide +kernel) (by decide +kernel) (by decide) ?_
          refine zr_aload_n (pc2 := 73) O dX6_person_72 rfl 0 rfl rfl ?_
          refine zr_getf (v := .ref (b 0)) (pc2 := 76) O sF_X6_person_28 0 0 rfl rfl rfl dX6_person_73 rfl ?_
          refine zr_getf (v := .ref (b 3)) (pc2 := 79) O sF_X6_person_119 1 0 rfl rfl rfl dX6_person_76 rfl ?_
          refine zr_iload_n (pc2 := 80) O dX6_person_79 rfl 1 rfl rfl ?_
          refine zr_iald (pc2 := 81) O 1 3 0 rfl rfl rfl (by first | assumption | exact zin_of (by assumption) (by assumption) (by assumption) (by decide) | exact hp_in (by assumption) (by assumption) (by decide) | exact hb_in (by assumption) (by assumption) (by decide) | exact il_in (by assumption) (by assumption) (by decide)) dX6_person_80 rfl ?_
          have hE : s_X6_person P Q B i wh = (B.2.2.1 i.toNatClampNeg) := by exact ((zif_t c8).trans ((if_neg c14_0).trans ((if_neg c14_1).trans (if_pos c14_2))))
          exact hret _ _ _ _ dX6_person_81 rfl (by rw [hE]) rfl
        · skip
          by_cases c14_3 : wh = nI 3
          · refine zn_tabIn (y := nI 3) (off := 68) (tgt := 82) O c14_3 dX6_person_14 (by decide +kernel) (by decide +kernel) (by decide +kernel) (by decide) ?_
            refine zr_aload_n (pc2 := 83) O dX6_person_82 rfl 0 rfl rfl ?_
            refine zr_getf (v := .ref (b 0)) (pc2 := 86) O sF_X6_person_28 0 0 rfl rfl rfl dX6_person_83 rfl ?_
            refine zr_getf (v := .ref (b 4)) (pc2 := 89) O sF_X6_person_122 1 0 rfl rfl rfl dX6_person_86 rfl ?_
            refine zr_iload_n (pc2 := 90) O dX6_person_89 rfl 1 rfl rfl ?_
            refine zr_iald (pc2 := 91) O 1 4 0 rfl rfl rfl (by first | assumption | exact zin_of (by assumption) (by assumption) (by assumption) (by decide) | exact hp_in (by assumption) (by assumption) (by decide) | exact hb_in (by assumption) (by assumption) (by decide) | exact il_in (by assumption) (by assumption) (by decide)) dX6_person_90 rfl ?_
            have hE : s_X6_person P Q B i wh = (B.2.2.2.1 i.toNatClampNeg) := by exact ((zif_t c8).trans ((if_neg c14_0).trans ((if_neg c14_1).trans ((if_neg c14_2).trans (if_pos c14_3)))))
            exact hret _ _ _ _ dX6_person_91 rfl (by rw [hE]) rfl
          · skip
            by_cases c14_4 : wh = nI 4
            · refine zn_tabIn (y := nI 4) (off := 78) (tgt := 92) O c14_4 dX6_person_14 (by decide +kernel) (by decide +kernel) (by decide +kernel) (by decide) ?_
              refine zr_aload_n (pc2 := 93) O dX6_person_92 rfl 0 rfl rfl ?_
              refine zr_getf (v := .ref (b 0)) (pc2 := 96) O sF_X6_person_28 0 0 rfl rfl rfl dX6_person_93 rfl ?_
              refine zr_getf (v := .ref (b 5)) (pc2 := 99) O sF_X6_person_125 1 0 rfl rfl rfl dX6_person_96 rfl ?_
              refine zr_iload_n (pc2 := 100) O dX6_person_99 rfl 1 rfl rfl ?_
              refine zr_iald (pc2 := 101) O 1 5 0 rfl rfl rfl (by first | assumption | exact zin_of (by assumption) (by assumption) (by assumption) (by decide) | exact hp_in (by assumption) (by assumption) (by decide) | exact hb_in (by assumption) (by assumption) (by decide) | exact il_in (by assumption) (by assumption) (by decide)) dX6_person_100 rfl ?_
              have hE : s_X6_person P Q B i wh = (B.2.2.2.2.1 i.toNatClampNeg) := by exact ((zif_t c8).trans ((if_neg c14_0).trans ((if_neg c14_1).trans ((if_neg c14_2).trans ((if_neg c14_3).trans (if_pos c14_4))))))
              exact hret _ _ _ _ dX6_person_101 rfl (by rw [hE]) rfl
            · skip
              by_cases c14_5 : wh = nI 5
              · refine zn_tabIn (y := nI 5) (off := 88) (tgt := 102) O c14_5 dX6_person_14 (by decide +kernel) (by decide +kernel) (by decide +kernel) (by decide) ?_
                refine zr_aload_n (pc2 := 103) O dX6_person_102 rfl 0 rfl rfl ?_
                refine zr_getf (v := .ref (b 0)) (pc2 := 106) O sF_X6_person_28 0 0 rfl rfl rfl dX6_person_103 rfl ?_
                refine zr_iload_n (pc2 := 107) O dX6_person_106 rfl 1 rfl rfl ?_
                refine zr_callV (As := [.int i]) (rest := []) (ws2 := [mainW x c0 r0 (b 0) y0 old t0 w0 h0 g0 k0 j0 kb, bookW cI b P Q Hn sd B]) (pc2 := 110) (ci := 0) (g0 := 1) (q0 := 0) O (c_X0_leaves l D cI cC cJ b P Q Hn sd B i (by first | assumption | omega)) sC_X6_person_128 rfl rfl rfl rfl rfl dX6_person_107 [1] rfl rfl rfl rfl (Nat.le_of_ble_eq_true rfl) rfl ?_
                show Z _ _ _ [.int (s_X0_leaves Q B i)]
                have hE : s_X6_person P Q B i wh = (s_X0_leaves Q B i) := by exact ((zif_t c8).trans ((if_neg c14_0).trans ((if_neg c14_1).trans ((if_neg c14_2).trans ((if_neg c14_3).trans ((if_neg c14_4).trans (if_pos c14_5)))))))
                exact hret _ _ _ _ dX6_person_110 rfl (by rw [hE]) rfl
              · skip
                refine zr_tabOut (tgt := 111) O dX6_person_14 (zsw_out (x := wh) 5 (by decide) (zsw_s (zsw_t (zsw_s (zsw_t (zsw_s (zsw_t (zsw_s (zsw_t (zsw_s (zsw_t (zsw_s zsw_0 c14_0)) c14_1)) c14_2)) c14_3)) c14_4)) c14_5)) (by decide) ?_
                refine zr_iconst (v := (-1)) (pc2 := 112) O dX6_person_111 (by decide +kernel) rfl ?_
                have hE : s_X6_person P Q B i wh = (-1) := by exact ((zif_t c8).trans ((if_neg c14_0).trans ((if_neg c14_1).trans ((if_neg c14_2).trans ((if_neg c14_3).trans ((if_neg c14_4).trans (if_neg c14_5)))))))
                exact hret _ _ _ _ dX6_person_112 rfl (by rw [hE]) rfl
  · refine zr_iconst (v := (-1)) (pc2 := 12) O dX6_person_11 (by decide +kernel) rfl ?_
    have hE : s_X6_person P Q B i wh = (-1) := by exact (zif_f c8)
    exact hret _ _ _ _ dX6_person_12 rfl (by rw [hE]) rfl
/-! X6_bequest -/
def s_X6_bequest (Q : Nat) (B : zB) (i : Int32) (wh : Int32) : Int32 := if (s_X0_hasBequest Q i) = true then if wh = nI 0 then (B.2.2.2.2.2.1 i.toNatClampNeg) else if wh = nI 1 then (B.2.2.2.2.2.2.1 i.toNatClampNeg) else if wh = nI 2 then (B.2.2.2.2.2.2.2.1 i.toNatClampNeg) else (-1) else (-1)
set_option maxHeartbeats 4000000 in
set_option maxRecDepth 100000 in
theorem c_X6_bequest (l : Launch) (D : va_G) (cI cC cJ : ClassId) (x : Nat) (b : Nat → Nat) (old : Bool) (kb : Nat) (P : Nat) (Q : Nat) (Hn : Nat) (sd : Int32) (B : zB) (i : Int32) (wh : Int32) (c0 : Nat) (r0 : Nat) (y0 : Nat) (t0 : Nat) (w0 : Nat) (h0 : Nat) (g0 : Nat) (k0 : Nat) (j0 : Nat) (hQ : Q ≤ 9) : zD l yX6_bequest wsX6_bequest rm_X6_bequest D (zT cI cC cJ) [.ref x, .int i, .int wh] [mainW x c0 r0 (b 0) y0 old t0 w0 h0 g0 k0 j0 kb, bookW cI b P Q Hn sd B] (some (.int (s_X6_bequest Q B i wh))) [mainW x c0 r0 (b 0) y0 old t0 w0 h0 g0 k0 j0 kb, bookW cI b P Q Hn sd B] := by
  refine zD_int (cc := cX6_bequest) (maxL := 3) (ty := .int) (lv := [(0, .ref x), (1, .int i), (2, .int wh)]) (by decide +kernel) rfl (Nat.le_of_ble_eq_true rfl) rfl (fun Z O hret => ?_)
  refine zr_aload_n (pc2 := 1) O dX6_bequest_0 rfl 0 rfl rfl ?_
  refine zr_getf (v := .ref (b 0)) (pc2 := 4) O sF_X6_bequest_28 0 0 rfl rfl rfl dX6_bequest_1 rfl ?_
  refine zr_iload_n (pc2 := 5) O dX6_bequest_4 rfl 1 rfl rfl ?_
  refine zr_callV (As := [.int i]) (rest := []) (ws2 := [mainW x c0 r0 (b 0) y0 old t0 w0 h0 g0 k0 j0 kb, bookW cI b P Q Hn sd B]) (pc2 := 8) (ci := 0) (g0 := 1) (q0 := 0) O (c_X0_hasBequest l D cI cC cJ b P Q Hn sd B i) sC_X6_bequest_132 rfl rfl rfl rfl rfl dX6_bequest_5 [1] rfl rfl rfl rfl (Nat.le_of_ble_eq_true rfl) rfl ?_
  show Z _ _ _ [.int (zb (s_X0_hasBequest Q i))]
  refine zb_if_ne (tgt := 13) (pc2 := 11) O dX6_bequest_8 (by decide) rfl (fun c8 => ?_) (fun c8 => ?_)
  · refine zr_iload_n (pc2 := 14) O dX6_bequest_13 rfl 2 rfl rfl ?_
    by_cases c14_0 : wh = nI 0
    · refine zn_tabIn (y := nI 0) (off := 26) (tgt := 40) O c14_0 dX6_bequest_14 (by decide +kernel) (by decide +kernel) (by decide +kernel) (by decide) ?_
      refine zr_aload_n (pc2 := 41) O dX6_bequest_40 rfl 0 rfl rfl ?_
      refine zr_getf (v := .ref (b 0)) (pc2 := 44) O sF_X6_bequest_28 0 0 rfl rfl rfl dX6_bequest_41 rfl ?_
      refine zr_getf (v := .ref (b 7)) (pc2 := 47) O sF_X6_bequest_135 1 0 rfl rfl rfl dX6_bequest_44 rfl ?_
      refine zr_iload_n (pc2 := 48) O dX6_bequest_47 rfl 1 rfl rfl ?_
      refine zr_iald (pc2 := 49) O 1 6 0 rfl rfl rfl (by first | assumption | exact zin_of (by assumption) (by assumption) (by assumption) (by decide) | exact hp_in (by assumption) (by assumption) (by decide) | exact hb_in (by assumption) (by assumption) (by decide) | exact il_in (by assumption) (by assumption) (by decide)) dX6_bequest_48 rfl ?_
      have hE : s_X6_bequest Q B i wh = (B.2.2.2.2.2.1 i.toNatClampNeg) := by exact ((zif_t c8).trans (if_pos c14_0))
      exact hret _ _ _ _ dX6_bequest_49 rfl (by rw [hE]) rfl
    · skip
      by_cases c14_1 : wh = nI 1
      · refine zn_tabIn (y := nI 1) (off := 36) (tgt := 50) O c14_1 dX6_bequest_14 (by decide +kernel) (by decide +kernel) (by decide +kernel) (by decide) ?_
        refine zr_aload_n (pc2 := 51) O dX6_bequest_50 rfl 0 rfl rfl ?_
        refine zr_getf (v := .ref (b 0)) (pc2 := 54) O sF_X6_bequest_28 0 0 rfl rfl rfl dX6_bequest_51 rfl ?_
        refine zr_getf (v := .ref (b 8)) (pc2 := 57) O sF_X6_bequest_138 1 0 rfl rfl rfl dX6_bequest_54 rfl ?_
        refine zr_iload_n (pc2 := 58) O dX6_bequest_57 rfl 1 rfl rfl ?_
        refine zr_iald (pc2 := 59) O 1 7 0 rfl rfl rfl (by first | assumption | exact zin_of (by assumption) (by assumption) (by assumption) (by decide) | exact hp_in (by assumption) (by assumption) (by decide) | exact hb_in (by assumption) (by assumption) (by decide) | exact il_in (by assumption) (by assumption) (by decide)) dX6_bequest_58 rfl ?_
        have hE : s_X6_bequest Q B i wh = (B.2.2.2.2.2.2.1 i.toNatClampNeg) := by exact ((zif_t c8).trans ((if_neg c14_0).trans (if_pos c14_1)))
        exact hret _ _ _ _ dX6_bequest_59 rfl (by rw [hE]) rfl
      · skip
        by_cases c14_2 : wh = nI 2
        · refine zn_tabIn (y := nI 2) (off := 46) (tgt := 60) O c14_2 dX6_bequest_14 (by decide +kernel) (by decide +kernel) (by decide +kernel) (by decide) ?_
          refine zr_aload_n (pc2 := 61) O dX6_bequest_60 rfl 0 rfl rfl ?_
          refine zr_getf (v := .ref (b 0)) (pc2 := 64) O sF_X6_bequest_28 0 0 rfl rfl rfl dX6_bequest_61 rfl ?_
          refine zr_getf (v := .ref (b 9)) (pc2 := 67) O sF_X6_bequest_141 1 0 rfl rfl rfl dX6_bequest_64 rfl ?_
          refine zr_iload_n (pc2 := 68) O dX6_bequest_67 rfl 1 rfl rfl ?_
          refine zr_iald (pc2 := 69) O 1 8 0 rfl rfl rfl (by first | assumption | exact zin_of (by assumption) (by assumption) (by assumption) (by decide) | exact hp_in (by assumption) (by assumption) (by decide) | exact hb_in (by assumption) (by assumption) (by decide) | exact il_in (by assumption) (by assumption) (by decide)) dX6_bequest_68 rfl ?_
          have hE : s_X6_bequest Q B i wh = (B.2.2.2.2.2.2.2.1 i.toNatClampNeg) := by exact ((zif_t c8).trans ((if_neg c14_0).trans ((if_neg c14_1).trans (if_pos c14_2))))
          exact hret _ _ _ _ dX6_bequest_69 rfl (by rw [hE]) rfl
        · skip
          refine zr_tabOut (tgt := 70) O dX6_bequest_14 (zsw_out (x := wh) 2 (by decide) (zsw_s (zsw_t (zsw_s (zsw_t (zsw_s zsw_0 c14_0)) c14_1)) c14_2)) (by decide) ?_
          refine zr_iconst (v := (-1)) (pc2 := 71) O dX6_bequest_70 (by decide +kernel) rfl ?_
          have hE : s_X6_bequest Q B i wh = (-1) := by exact ((zif_t c8).trans ((if_neg c14_0).trans ((if_neg c14_1).trans (if_neg c14_2))))
          exact hret _ _ _ _ dX6_bequest_71 rfl (by rw [hE]) rfl
  · refine zr_iconst (v := (-1)) (pc2 := 12) O dX6_bequest_11 (by decide +kernel) rfl ?_
    have hE : s_X6_bequest Q B i wh = (-1) := by exact (zif_f c8)
    exact hret _ _ _ _ dX6_bequest_12 rfl (by rw [hE]) rfl
/-! X6_reword -/
def s_X6_reword (old : Bool) (Q : Nat) (B : zB) (cn : Nat) (Ch : zC) (i : Int32) (v : Int32) : Int32 × Bool × zB × Nat × zC := if (s_X0_hasBequest Q i) = true then if (s_X6_isWithin v (nI 1) (nI 99)) = true then let u50 := s_X1_note cn Ch (nI 0) i (B.2.2.2.2.2.2.2.1 i.toNatClampNeg); ((B.2.2.2.2.2.2.2.1 i.toNatClampNeg), true, (B.1, B.2.1, B.2.2.1, B.2.2.2.1, B.2.2.2.2.1, B.2.2.2.2.2.1, B.2.2.2.2.2.2.1, (upd B.2.2.2.2.2.2.2.1 i.toNatClampNeg v), B.2.2.2.2.2.2.2.2), u50.1, u50.2) else ((-1), old, B, cn, Ch) else ((-1), old, B, cn, Ch)
set_option maxHeartbeats 4000000 in
set_option maxRecDepth 100000 in
theorem c_X6_reword (l : Launch) (D : va_G) (cI cC cJ : ClassId) (x : Nat) (b : Nat → Nat) (h : Nat → Nat) (old : Bool) (kb : Nat) (P : Nat) (Q : Nat) (Hn : Nat) (sd : Int32) (B : zB) (cn : Nat) (Ch : zC) (i : Int32) (v : Int32) (c0 : Nat) (r0 : Nat) (y0 : Nat) (t0 : Nat) (w0 : Nat) (g0 : Nat) (k0 : Nat) (j0 : Nat) (hQ : Q ≤ 9) (hcn : cn ≤ 8) : zD l yX6_reword wsX6_reword rm_X6_reword D (zT cI cC cJ) [.ref x, .int i, .int v] [mainW x c0 r0 (b 0) y0 old t0 w0 (h 3) g0 k0 j0 kb, bookW cI b P Q Hn sd B, changesW cI h cn Ch] (some (.int ((s_X6_reword old Q B cn Ch i v).1))) [mainW x c0 r0 (b 0) y0 ((s_X6_reword old Q B cn Ch i v).2.1) t0 w0 (h 3) g0 k0 j0 kb, bookW cI b P Q Hn sd ((s_X6_reword old Q B cn Ch i v).2.2.1), changesW cI h ((s_X6_reword old Q B cn Ch i v).2.2.2.1) ((s_X6_reword old Q B cn Ch i v).2.2.2.2)] := by
  refine zD_int (cc := cX6_reword) (maxL := 4) (ty := .int) (lv := [(0, .ref x), (1, .int i), (2, .int v)]) (by decide +kernel) rfl (Nat.le_of_ble_eq_true rfl) rfl (fun Z O hret => ?_)
  refine zr_aload_n (pc2 := 1) O dX6_reword_0 rfl 0 rfl rfl ?_
  refine zr_getf (v := .ref (b 0)) (pc2 := 4) O sF_X6_reword_28 0 0 rfl rfl rfl dX6_reword_1 rfl ?_
  refine zr_iload_n (pc2 := 5) O dX6_reword_4 rfl 1 rfl rfl ?_
  refine zr_callV (As := [.int i]) (rest := []) (ws2 := [mainW x c0 r0 (b 0) y0 old t0 w0 (h 3) g0 k0 j0 kb, bookW cI b P Q Hn sd B, changesW cI h cn Ch]) (pc2 := 8) (ci := 0) (g0 := 1) (q0 := 0) O (c_X0_hasBequest l D cI cC cJ b P Q Hn sd B i) sC_X6_reword_132 rfl rfl rfl rfl rfl dX6_reword_5 [1] rfl rfl rfl rfl (Nat.le_of_ble_eq_true rfl) rfl ?_
  show Z _ _ _ [.int (zb (s_X0_hasBequest Q i))]
  refine zb_if_eq (tgt := 21) (pc2 := 11) O dX6_reword_8 (by decide) rfl (fun c8 => ?_) (fun c8 => ?_)
  · refine zr_iconst (v := (-1)) (pc2 := 22) O dX6_reword_21 (by decide +kernel) rfl ?_
    have hE : s_X6_reword old Q B cn Ch i v = ((-1), old, B, cn, Ch) := by exact (zif_f c8)
    exact hret _ _ _ _ dX6_reword_22 rfl (by rw [hE]) (by rw [hE])
  · refine zr_iload_n (pc2 := 12) O dX6_reword_11 rfl 2 rfl rfl ?_
    refine zr_iconst (v := (nI 1)) (pc2 := 13) O dX6_reword_12 (by decide +kernel) rfl ?_
    refine zr_bipush (v := (nI 99)) (pc2 := 15) O dX6_reword_13 (by decide +kernel) rfl ?_
    refine zr_callS (As := [.int v, .int (nI 1), .int (nI 99)]) (rest := []) (ws2 := [mainW x c0 r0 (b 0) y0 old t0 w0 (h 3) g0 k0 j0 kb, bookW cI b P Q Hn sd B, changesW cI h cn Ch]) (pc2 := 18) O (c_X6_isWithin l D cI cC cJ v (nI 1) (nI 99)) sC_X6_reword_144 rfl rfl dX6_reword_15 [] rfl rfl rfl rfl (Nat.le_of_ble_eq_true rfl) rfl ?_
    show Z _ _ _ [.int (zb (s_X6_isWithin v (nI 1) (nI 99)))]
    refine zb_if_ne (tgt := 23) (pc2 := 21) O dX6_reword_18 (by decide) rfl (fun c18 => ?_) (fun c18 => ?_)
    · refine zr_aload_n (pc2 := 24) O dX6_reword_23 rfl 0 rfl rfl ?_
      refine zr_getf (v := .ref (b 0)) (pc2 := 27) O sF_X6_reword_28 0 0 rfl rfl rfl dX6_reword_24 rfl ?_
      refine zr_getf (v := .ref (b 9)) (pc2 := 30) O sF_X6_reword_141 1 0 rfl rfl rfl dX6_reword_27 rfl ?_
      refine zr_iload_n (pc2 := 31) O dX6_reword_30 rfl 1 rfl rfl ?_
      refine zr_iald (pc2 := 32) O 1 8 0 rfl rfl rfl (by first | assumption | exact zin_of (by assumption) (by assumption) (by assumption) (by decide) | exact hp_in (by assumption) (by assumption) (by decide) | exact hb_in (by assumption) (by assumption) (by decide) | exact il_in (by assumption) (by assumption) (by decide)) dX6_reword_31 rfl ?_
      refine zr_istore_n (lv2 := [(3, .int (B.2.2.2.2.2.2.2.1 i.toNatClampNeg)), (0, .ref x), (1, .int i), (2, .int v)]) (pc2 := 33) O dX6_reword_32 rfl (by decide) rfl rfl ?_
      refine zr_aload_n (pc2 := 34) O dX6_reword_33 rfl 1 rfl rfl ?_
      refine zr_getf (v := .ref (b 0)) (pc2 := 37) O sF_X6_reword_28 0 0 rfl rfl rfl dX6_reword_34 rfl ?_
      refine zr_getf (v := .ref (b 9)) (pc2 := 40) O sF_X6_reword_141 1 0 rfl rfl rfl dX6_reword_37 rfl ?_
      refine zr_iload_n (pc2 := 41) O dX6_reword_40 rfl 2 rfl rfl ?_
      refine zr_iload_n (pc2 := 42) O dX6_reword_41 rfl 3 rfl rfl ?_
      refine zr_iast (G2 := bookW cI b P Q Hn sd (B.1, B.2.1, B.2.2.1, B.2.2.2.1, B.2.2.2.2.1, B.2.2.2.2.2.1, B.2.2.2.2.2.2.1, (upd B.2.2.2.2.2.2.2.1 i.toNatClampNeg v), B.2.2.2.2.2.2.2.2)) (ws2 := [mainW x c0 r0 (b 0) y0 old t0 w0 (h 3) g0 k0 j0 kb, bookW cI b P Q Hn sd (B.1, B.2.1, B.2.2.1, B.2.2.2.1, B.2.2.2.2.1, B.2.2.2.2.2.1, B.2.2.2.2.2.2.1, (upd B.2.2.2.2.2.2.2.1 i.toNatClampNeg v), B.2.2.2.2.2.2.2.2), changesW cI h cn Ch]) (pc2 := 43) O 1 8 0 rfl rfl rfl (by first | assumption | exact zin_of (by assumption) (by assumption) (by assumption) (by decide) | exact hp_in (by assumption) (by assumption) (by decide) | exact hb_in (by assumption) (by assumption) (by decide) | exact il_in (by assumption) (by assumption) (by decide)) dX6_reword_42 rfl rfl rfl ?_
      refine zr_aload_n (pc2 := 44) O dX6_reword_43 rfl 1 rfl rfl ?_
      refine zr_getf (v := .ref (h 3)) (pc2 := 47) O sF_X6_reword_54 0 0 rfl rfl rfl dX6_reword_44 rfl ?_
      refine zr_iconst (v := (nI 0)) (pc2 := 48) O dX6_reword_47 (by decide +kernel) rfl ?_
      refine zr_iload_n (pc2 := 49) O dX6_reword_48 rfl 2 rfl rfl ?_
      refine zr_iload_n (pc2 := 50) O dX6_reword_49 rfl 0 rfl rfl ?_
      obtain ⟨u50, hu50⟩ : ∃ z9, z9 = s_X1_note cn Ch (nI 0) i (B.2.2.2.2.2.2.2.1 i.toNatClampNeg) := ⟨_, rfl⟩
      refine zr_callV (As := [.int (nI 0), .int i, .int (B.2.2.2.2.2.2.2.1 i.toNatClampNeg)]) (rest := []) (ws2 := [mainW x c0 r0 (b 0) y0 old t0 w0 (h 3) g0 k0 j0 kb, bookW cI b P Q Hn sd (B.1, B.2.1, B.2.2.1, B.2.2.2.1, B.2.2.2.2.1, B.2.2.2.2.2.1, B.2.2.2.2.2.2.1, (upd B.2.2.2.2.2.2.2.1 i.toNatClampNeg v), B.2.2.2.2.2.2.2.2), changesW cI h u50.1 u50.2]) (pc2 := 53) (ci := 1) (g0 := 2) (q0 := 0) (v := none) (W := [changesW cI h cn Ch]) (W2 := [changesW cI h u50.1 u50.2]) O (by rw [hu50]; exact (c_X1_note l D cI cC cJ h cn Ch (nI 0) i (B.2.2.2.2.2.2.2.1 i.toNatClampNeg) (by first | assumption | omega))) sC_X6_reword_148 rfl rfl rfl rfl rfl dX6_reword_50 [2] rfl rfl rfl rfl (Nat.le_of_ble_eq_true rfl) rfl ?_
      show Z _ _ _ []
      refine zr_aload_n (pc2 := 54) O dX6_reword_53 rfl 1 rfl rfl ?_
      refine zr_iconst (v := (nI 1)) (pc2 := 55) O dX6_reword_54 (by decide +kernel) rfl ?_
      refine zr_putf (G2 := mainW x c0 r0 (b 0) y0 true t0 w0 (h 3) g0 k0 j0 kb) (ws2 := [mainW x c0 r0 (b 0) y0 true t0 w0 (h 3) g0 k0 j0 kb, bookW cI b P Q Hn sd (B.1, B.2.1, B.2.2.1, B.2.2.2.1, B.2.2.2.2.1, B.2.2.2.2.2.1, B.2.2.2.2.2.2.1, (upd B.2.2.2.2.2.2.2.1 i.toNatClampNeg v), B.2.2.2.2.2.2.2.2), changesW cI h u50.1 u50.2]) (pc2 := 58) O sP_X6_reword_41 0 0 rfl rfl (by decide +kernel) (by decide +kernel) (Nat.le_of_ble_eq_true rfl) dX6_reword_55 rfl rfl rfl ?_
      refine zr_iload_n (pc2 := 59) O dX6_reword_58 rfl 0 rfl rfl ?_
      have hE : s_X6_reword old Q B cn Ch i v = ((B.2.2.2.2.2.2.2.1 i.toNatClampNeg), true, (B.1, B.2.1, B.2.2.1, B.2.2.2.1, B.2.2.2.2.1, B.2.2.2.2.2.1, B.2.2.2.2.2.2.1, (upd B.2.2.2.2.2.2.2.1 i.toNatClampNeg v), B.2.2.2.2.2.2.2.2), u50.1, u50.2) := by subst hu50; exact ((zif_t c8).trans (zif_t c18))
      exact hret _ _ _ _ dX6_reword_59 rfl (by rw [hE]) (by rw [hE])
    · refine zr_iconst (v := (-1)) (pc2 := 22) O dX6_reword_21 (by decide +kernel) rfl ?_
      have hE : s_X6_reword old Q B cn Ch i v = ((-1), old, B, cn, Ch) := by exact ((zif_t c8).trans (zif_f c18))
      exact hret _ _ _ _ dX6_reword_22 rfl (by rw [hE]) (by rw [hE])
/-! X6_pass -/
def s_X6_pass (old : Bool) (P : Nat) (Q : Nat) (B : zB) (cn : Nat) (Ch : zC) (i : Int32) (v : Int32) : Int32 × Bool × zB × Nat × zC := if (s_X0_hasBequest Q i) = true then if (s_X0_hasPerson P v) = true then if (B.2.2.2.2.2.1 i.toNatClampNeg) = v then ((-2), old, B, cn, Ch) else let u67 := s_X1_note cn Ch (nI 1) i (B.2.2.2.2.2.2.1 i.toNatClampNeg); ((B.2.2.2.2.2.2.1 i.toNatClampNeg), true, (B.1, B.2.1, B.2.2.1, B.2.2.2.1, B.2.2.2.2.1, B.2.2.2.2.2.1, (upd B.2.2.2.2.2.2.1 i.toNatClampNeg v), B.2.2.2.2.2.2.2), u67.1, u67.2) else ((-1), old, B, cn, Ch) else ((-1), old, B, cn, Ch)
set_option maxHeartbeats 4000000 in
set_option maxRecDepth 100000 in
theorem c_X6_pass (l : Launch) (D : va_G) (cI cC cJ : ClassId) (x : Nat) (b : Nat → Nat) (h : Nat → Nat) (old : Bool) (kb : Nat) (P : Nat) (Q : Nat) (Hn : Nat) (sd : Int32) (B : zB) (cn : Nat) (Ch : zC) (i : Int32) (v : Int32) (c0 : Nat) (r0 : Nat) (y0 : Nat) (t0 : Nat) (w0 : Nat) (g0 : Nat) (k0 : Nat) (j0 : Nat) (hQ : Q ≤ 9) (hcn : cn ≤ 8) : zD l yX6_pass wsX6_pass rm_X6_pass D (zT cI cC cJ) [.ref x, .int i, .int v] [mainW x c0 r0 (b 0) y0 old t0 w0 (h 3) g0 k0 j0 kb, bookW cI b P Q Hn sd B, changesW cI h cn Ch] (some (.int ((s_X6_pass old P Q B cn Ch i v).1))) [mainW x c0 r0 (b 0) y0 ((s_X6_pass old P Q B cn Ch i v).2.1) t0 w0 (h 3) g0 k0 j0 kb, bookW cI b P Q Hn sd ((s_X6_pass old P Q B cn Ch i v).2.2.1), changesW cI h ((s_X6_pass old P Q B cn Ch i v).2.2.2.1) ((s_X6_pass old P Q B cn Ch i v).2.2.2.2)] := by
  refine zD_int (cc := cX6_pass) (maxL := 4) (ty := .int) (lv := [(0, .ref x), (1, .int i), (2, .int v)]) (by decide +kernel) rfl (Nat.le_of_ble_eq_true rfl) rfl (fun Z O hret => ?_)
  refine zr_aload_n (pc2 := 1) O dX6_pass_0 rfl 0 rfl rfl ?_
  refine zr_getf (v := .ref (b 0)) (pc2 := 4) O sF_X6_pass_28 0 0 rfl rfl rfl dX6_pass_1 rfl ?_
  refine zr_iload_n (pc2 := 5) O dX6_pass_4 rfl 1 rfl rfl ?_
  refine zr_callV (As := [.int i]) (rest := []) (ws2 := [mainW x c0 r0 (b 0) y0 old t0 w0 (h 3) g0 k0 j0 kb, bookW cI b P Q Hn sd B, changesW cI h cn Ch]) (pc2 := 8) (ci := 0) (g0 := 1) (q0 := 0) O (c_X0_hasBequest l D cI cC cJ b P Q Hn sd B i) sC_X6_pass_132 rfl rfl rfl rfl rfl dX6_pass_5 [1] rfl rfl rfl rfl (Nat.le_of_ble_eq_true rfl) rfl ?_
  show Z _ _ _ [.int (zb (s_X0_hasBequest Q i))]
  refine zb_if_eq (tgt := 22) (pc2 := 11) O dX6_pass_8 (by decide) rfl (fun c8 => ?_) (fun c8 => ?_)
  · refine zr_iconst (v := (-1)) (pc2 := 23) O dX6_pass_22 (by decide +kernel) rfl ?_
    have hE : s_X6_pass old P Q B cn Ch i v = ((-1), old, B, cn, Ch) := by exact (zif_f c8)
    exact hret _ _ _ _ dX6_pass_23 rfl (by rw [hE]) (by rw [hE])
  · refine zr_aload_n (pc2 := 12) O dX6_pass_11 rfl 0 rfl rfl ?_
    refine zr_getf (v := .ref (b 0)) (pc2 := 15) O sF_X6_pass_28 0 0 rfl rfl rfl dX6_pass_12 rfl ?_
    refine zr_iload_n (pc2 := 16) O dX6_pass_15 rfl 2 rfl rfl ?_
    refine zr_callV (As := [.int v]) (rest := []) (ws2 := [mainW x c0 r0 (b 0) y0 old t0 w0 (h 3) g0 k0 j0 kb, bookW cI b P Q Hn sd B, changesW cI h cn Ch]) (pc2 := 19) (ci := 0) (g0 := 1) (q0 := 0) O (c_X0_hasPerson l D cI cC cJ b P Q Hn sd B v) sC_X6_pass_108 rfl rfl rfl rfl rfl dX6_pass_16 [1] rfl rfl rfl rfl (Nat.le_of_ble_eq_true rfl) rfl ?_
    show Z _ _ _ [.int (zb (s_X0_hasPerson P v))]
    refine zb_if_ne (tgt := 24) (pc2 := 22) O dX6_pass_19 (by decide) rfl (fun c19 => ?_) (fun c19 => ?_)
    · refine zr_aload_n (pc2 := 25) O dX6_pass_24 rfl 0 rfl rfl ?_
      refine zr_getf (v := .ref (b 0)) (pc2 := 28) O sF_X6_pass_28 0 0 rfl rfl rfl dX6_pass_25 rfl ?_
      refine zr_getf (v := .ref (b 7)) (pc2 := 31) O sF_X6_pass_135 1 0 rfl rfl rfl dX6_pass_28 rfl ?_
      refine zr_iload_n (pc2 := 32) O dX6_pass_31 rfl 1 rfl rfl ?_
      refine zr_iald (pc2 := 33) O 1 6 0 rfl rfl rfl (by first | assumption | exact zin_of (by assumption) (by assumption) (by assumption) (by decide) | exact hp_in (by assumption) (by assumption) (by decide) | exact hb_in (by assumption) (by assumption) (by decide) | exact il_in (by assumption) (by assumption) (by decide)) dX6_pass_32 rfl ?_
      refine zr_iload_n (pc2 := 34) O dX6_pass_33 rfl 2 rfl rfl ?_
      refine zr_icmp_ne (tgt := 40) (pc2 := 37) O dX6_pass_34 (by decide) rfl (fun c34 => ?_) (fun c34 => ?_)
      · refine zr_aload_n (pc2 := 41) O dX6_pass_40 rfl 0 rfl rfl ?_
        refine zr_getf (v := .ref (b 0)) (pc2 := 44) O sF_X6_pass_28 0 0 rfl rfl rfl dX6_pass_41 rfl ?_
        refine zr_getf (v := .ref (b 8)) (pc2 := 47) O sF_X6_pass_138 1 0 rfl rfl rfl dX6_pass_44 rfl ?_
        refine zr_iload_n (pc2 := 48) O dX6_pass_47 rfl 1 rfl rfl ?_
        refine zr_iald (pc2 := 49) O 1 7 0 rfl rfl rfl (by first | assumption | exact zin_of (by assumption) (by assumption) (by assumption) (by decide) | exact hp_in (by assumption) (by assumption) (by decide) | exact hb_in (by assumption) (by assumption) (by decide) | exact il_in (by assumption) (by assumption) (by decide)) dX6_pass_48 rfl ?_
        refine zr_istore_n (lv2 := [(3, .int (B.2.2.2.2.2.2.1 i.toNatClampNeg)), (0, .ref x), (1, .int i), (2, .int v)]) (pc2 := 50) O dX6_pass_49 rfl (by decide) rfl rfl ?_
        refine zr_aload_n (pc2 := 51) O dX6_pass_50 rfl 1 rfl rfl ?_
        refine zr_getf (v := .ref (b 0)) (pc2 := 54) O sF_X6_pass_28 0 0 rfl rfl rfl dX6_pass_51 rfl ?_
        refine zr_getf (v := .ref (b 8)) (pc2 := 57) O sF_X6_pass_138 1 0 rfl rfl rfl dX6_pass_54 rfl ?_
        refine zr_iload_n (pc2 := 58) O dX6_pass_57 rfl 2 rfl rfl ?_
        refine zr_iload_n (pc2 := 59) O dX6_pass_58 rfl 3 rfl rfl ?_
        refine zr_iast (G2 := bookW cI b P Q Hn sd (B.1, B.2.1, B.2.2.1, B.2.2.2.1, B.2.2.2.2.1, B.2.2.2.2.2.1, (upd B.2.2.2.2.2.2.1 i.toNatClampNeg v), B.2.2.2.2.2.2.2)) (ws2 := [mainW x c0 r0 (b 0) y0 old t0 w0 (h 3) g0 k0 j0 kb, bookW cI b P Q Hn sd (B.1, B.2.1, B.2.2.1, B.2.2.2.1, B.2.2.2.2.1, B.2.2.2.2.2.1, (upd B.2.2.2.2.2.2.1 i.toNatClampNeg v), B.2.2.2.2.2.2.2), changesW cI h cn Ch]) (pc2 := 60) O 1 7 0 rfl rfl rfl (by first | assumption | exact zin_of (by assumption) (by assumption) (by assumption) (by decide) | exact hp_in (by assumption) (by assumption) (by decide) | exact hb_in (by assumption) (by assumption) (by decide) | exact il_in (by assumption) (by assumption) (by decide)) dX6_pass_59 rfl rfl rfl ?_
        refine zr_aload_n (pc2 := 61) O dX6_pass_60 rfl 1 rfl rfl ?_
        refine zr_getf (v := .ref (h 3)) (pc2 := 64) O sF_X6_pass_54 0 0 rfl rfl rfl dX6_pass_61 rfl ?_
        refine zr_iconst (v := (nI 1)) (pc2 := 65) O dX6_pass_64 (by decide +kernel) rfl ?_
        refine zr_iload_n (pc2 := 66) O dX6_pass_65 rfl 2 rfl rfl ?_
        refine zr_iload_n (pc2 := 67) O dX6_pass_66 rfl 0 rfl rfl ?_
        obtain ⟨u67, hu67⟩ : ∃ z9, z9 = s_X1_note cn Ch (nI 1) i (B.2.2.2.2.2.2.1 i.toNatClampNeg) := ⟨_, rfl⟩
        refine zr_callV (As := [.int (nI 1), .int i, .int (B.2.2.2.2.2.2.1 i.toNatClampNeg)]) (rest := []) (ws2 := [mainW x c0 r0 (b 0) y0 old t0 w0 (h 3) g0 k0 j0 kb, bookW cI b P Q Hn sd (B.1, B.2.1, B.2.2.1, B.2.2.2.1, B.2.2.2.2.1, B.2.2.2.2.2.1, (upd B.2.2.2.2.2.2.1 i.toNatClampNeg v), B.2.2.2.2.2.2.2), changesW cI h u67.1 u67.2]) (pc2 := 70) (ci := 1) (g0 := 2) (q0 := 0) (v := none) (W := [changesW cI h cn Ch]) (W2 := [changesW cI h u67.1 u67.2]) O (by rw [hu67]; exact (c_X1_note l D cI cC cJ h cn Ch (nI 1) i (B.2.2.2.2.2.2.1 i.toNatClampNeg) (by first | assumption | omega))) sC_X6_pass_148 rfl rfl rfl rfl rfl dX6_pass_67 [2] rfl rfl rfl rfl (Nat.le_of_ble_eq_true rfl) rfl ?_
        show Z _ _ _ []
        refine zr_aload_n (pc2 := 71) O dX6_pass_70 rfl 1 rfl rfl ?_
        refine zr_iconst (v := (nI 1)) (pc2 := 72) O dX6_pass_71 (by decide +kernel) rfl ?_
        refine zr_putf (G2 := mainW x c0 r0 (b 0) y0 true t0 w0 (h 3) g0 k0 j0 kb) (ws2 := [mainW x c0 r0 (b 0) y0 true t0 w0 (h 3) g0 k0 j0 kb, bookW cI b P Q Hn sd (B.1, B.2.1, B.2.2.1, B.2.2.2.1, B.2.2.2.2.1, B.2.2.2.2.2.1, (upd B.2.2.2.2.2.2.1 i.toNatClampNeg v), B.2.2.2.2.2.2.2), changesW cI h u67.1 u67.2]) (pc2 := 75) O sP_X6_pass_41 0 0 rfl rfl (by decide +kernel) (by decide +kernel) (Nat.le_of_ble_eq_true rfl) dX6_pass_72 rfl rfl rfl ?_
        refine zr_iload_n (pc2 := 76) O dX6_pass_75 rfl 0 rfl rfl ?_
        have hE : s_X6_pass old P Q B cn Ch i v = ((B.2.2.2.2.2.2.1 i.toNatClampNeg), true, (B.1, B.2.1, B.2.2.1, B.2.2.2.1, B.2.2.2.2.1, B.2.2.2.2.2.1, (upd B.2.2.2.2.2.2.1 i.toNatClampNeg v), B.2.2.2.2.2.2.2), u67.1, u67.2) := by subst hu67; exact ((zif_t c8).trans ((zif_t c19).trans (if_neg c34)))
        exact hret _ _ _ _ dX6_pass_76 rfl (by rw [hE]) (by rw [hE])
      · refine zr_bipush (v := (-2)) (pc2 := 39) O dX6_pass_37 (by decide +kernel) rfl ?_
        have hE : s_X6_pass old P Q B cn Ch i v = ((-2), old, B, cn, Ch) := by exact ((zif_t c8).trans ((zif_t c19).trans (if_pos c34)))
        exact hret _ _ _ _ dX6_pass_39 rfl (by rw [hE]) (by rw [hE])
    · refine zr_iconst (v := (-1)) (pc2 := 23) O dX6_pass_22 (by decide +kernel) rfl ?_
      have hE : s_X6_pass old P Q B cn Ch i v = ((-1), old, B, cn, Ch) := by exact ((zif_t c8).trans (zif_f c19))
      exact hret _ _ _ _ dX6_pass_23 rfl (by rw [hE]) (by rw [hE])
/-! X6_help -/
def s_X6_help (old : Bool) (P : Nat) (Hn : Nat) (B : zB) (cn : Nat) (Ch : zC) (a1 : Int32) (a2 : Int32) (a3 : Int32) : Int32 × Bool × Nat × zB × Nat × zC := if (s_X0_hasPerson P a1) = true then if (s_X6_isWithin a2 (nI 0) (nI 150)) = true then if (s_X6_isWithin a3 (nI 1) (nI 99)) = true then let u41 := s_X0_addHelp Hn B a1 a2 a3; if u41.1 = true then let u57 := s_X1_note cn Ch (nI 2) (nI 0) (nI 0); ((nI u41.2.1), true, u41.2.1, u41.2.2, u57.1, u57.2) else ((-3), old, u41.2.1, u41.2.2, cn, Ch) else ((-1), old, Hn, B, cn, Ch) else ((-1), old, Hn, B, cn, Ch) else ((-1), old, Hn, B, cn, Ch)
set_option maxHeartbeats 4000000 in
set_option maxRecDepth 100000 in
theorem c_X6_help (l : Launch) (D : va_G) (cI cC cJ : ClassId) (x : Nat) (b : Nat → Nat) (h : Nat → Nat) (old : Bool) (kb : Nat) (P : Nat) (Q : Nat) (Hn : Nat) (sd : Int32) (B : zB) (cn : Nat) (Ch : zC) (a1 : Int32) (a2 : Int32) (a3 : Int32) (c0 : Nat) (r0 : Nat) (y0 : Nat) (t0 : Nat) (w0 : Nat) (g0 : Nat) (k0 : Nat) (j0 : Nat) (hH : Hn ≤ 4) (hcn : cn ≤ 8) : zD l yX6_help wsX6_help rm_X6_help D (zT cI cC cJ) [.ref x, .int a1, .int a2, .int a3] [mainW x c0 r0 (b 0) y0 old t0 w0 (h 3) g0 k0 j0 kb, bookW cI b P Q Hn sd B, changesW cI h cn Ch] (some (.int ((s_X6_help old P Hn B cn Ch a1 a2 a3).1))) [mainW x c0 r0 (b 0) y0 ((s_X6_help old P Hn B cn Ch a1 a2 a3).2.1) t0 w0 (h 3) g0 k0 j0 kb, bookW cI b P Q ((s_X6_help old P Hn B cn Ch a1 a2 a3).2.2.1) sd ((s_X6_help old P Hn B cn Ch a1 a2 a3).2.2.2.1), changesW cI h ((s_X6_help old P Hn B cn Ch a1 a2 a3).2.2.2.2.1) ((s_X6_help old P Hn B cn Ch a1 a2 a3).2.2.2.2.2)] := by
  refine zD_int (cc := cX6_help) (maxL := 4) (ty := .int) (lv := [(0, .ref x), (1, .int a1), (2, .int a2), (3, .int a3)]) (by decide +kernel) rfl (Nat.le_of_ble_eq_true rfl) rfl (fun Z O hret => ?_)
  refine zr_aload_n (pc2 := 1) O dX6_help_0 rfl 0 rfl rfl ?_
  refine zr_getf (v := .ref (b 0)) (pc2 := 4) O sF_X6_help_28 0 0 rfl rfl rfl dX6_help_1 rfl ?_
  refine zr_iload_n (pc2 := 5) O dX6_help_4 rfl 1 rfl rfl ?_
  refine zr_callV (As := [.int a1]) (rest := []) (ws2 := [mainW x c0 r0 (b 0) y0 old t0 w0 (h 3) g0 k0 j0 kb, bookW cI b P Q Hn sd B, changesW cI h cn Ch]) (pc2 := 8) (ci := 0) (g0 := 1) (q0 := 0) O (c_X0_hasPerson l D cI cC cJ b P Q Hn sd B a1) sC_X6_help_108 rfl rfl rfl rfl rfl dX6_help_5 [1] rfl rfl rfl rfl (Nat.le_of_ble_eq_true rfl) rfl ?_
  show Z _ _ _ [.int (zb (s_X0_hasPerson P a1))]
  refine zb_if_eq (tgt := 32) (pc2 := 11) O dX6_help_8 (by decide) rfl (fun c8 => ?_) (fun c8 => ?_)
  · refine zr_iconst (v := (-1)) (pc2 := 33) O dX6_help_32 (by decide +kernel) rfl ?_
    have hE : s_X6_help old P Hn B cn Ch a1 a2 a3 = ((-1), old, Hn, B, cn, Ch) := by exact (zif_f c8)
    exact hret _ _ _ _ dX6_help_33 rfl (by rw [hE]) (by rw [hE])
  · refine zr_iload_n (pc2 := 12) O dX6_help_11 rfl 2 rfl rfl ?_
    refine zr_iconst (v := (nI 0)) (pc2 := 13) O dX6_help_12 (by decide +kernel) rfl ?_
    refine zr_sipush (v := (nI 150)) (pc2 := 16) O dX6_help_13 (by decide +kernel) rfl ?_
    refine zr_callS (As := [.int a2, .int (nI 0), .int (nI 150)]) (rest := []) (ws2 := [mainW x c0 r0 (b 0) y0 old t0 w0 (h 3) g0 k0 j0 kb, bookW cI b P Q Hn sd B, changesW cI h cn Ch]) (pc2 := 19) O (c_X6_isWithin l D cI cC cJ a2 (nI 0) (nI 150)) sC_X6_help_144 rfl rfl dX6_help_16 [] rfl rfl rfl rfl (Nat.le_of_ble_eq_true rfl) rfl ?_
    show Z _ _ _ [.int (zb (s_X6_isWithin a2 (nI 0) (nI 150)))]
    refine zb_if_eq (tgt := 32) (pc2 := 22) O dX6_help_19 (by decide) rfl (fun c19 => ?_) (fun c19 => ?_)
    · refine zr_iconst (v := (-1)) (pc2 := 33) O dX6_help_32 (by decide +kernel) rfl ?_
      have hE : s_X6_help old P Hn B cn Ch a1 a2 a3 = ((-1), old, Hn, B, cn, Ch) := by exact ((zif_t c8).trans (zif_f c19))
      exact hret _ _ _ _ dX6_help_33 rfl (by rw [hE]) (by rw [hE])
    · refine zr_iload_n (pc2 := 23) O dX6_help_22 rfl 3 rfl rfl ?_
      refine zr_iconst (v := (nI 1)) (pc2 := 24) O dX6_help_23 (by decide +kernel) rfl ?_
      refine zr_bipush (v := (nI 99)) (pc2 := 26) O dX6_help_24 (by decide +kernel) rfl ?_
      refine zr_callS (As := [.int a3, .int (nI 1), .int (nI 99)]) (rest := []) (ws2 := [mainW x c0 r0 (b 0) y0 old t0 w0 (h 3) g0 k0 j0 kb, bookW cI b P Q Hn sd B, changesW cI h cn Ch]) (pc2 := 29) O (c_X6_isWithin l D cI cC cJ a3 (nI 1) (nI 99)) sC_X6_help_144 rfl rfl dX6_help_26 [] rfl rfl rfl rfl (Nat.le_of_ble_eq_true rfl) rfl ?_
      show Z _ _ _ [.int (zb (s_X6_isWithin a3 (nI 1) (nI 99)))]
      refine zb_if_ne (tgt := 34) (pc2 := 32) O dX6_help_29 (by decide) rfl (fun c29 => ?_) (fun c29 => ?_)
      · refine zr_aload_n (pc2 := 35) O dX6_help_34 rfl 0 rfl rfl ?_
        refine zr_getf (v := .ref (b 0)) (pc2 := 38) O sF_X6_help_28 0 0 rfl rfl rfl dX6_help_35 rfl ?_
        refine zr_iload_n (pc2 := 39) O dX6_help_38 rfl 1 rfl rfl ?_
        refine zr_iload_n (pc2 := 40) O dX6_help_39 rfl 2 rfl rfl ?_
        refine zr_iload_n (pc2 := 41) O dX6_help_40 rfl 3 rfl rfl ?_
        obtain ⟨u41, hu41⟩ : ∃ z9, z9 = s_X0_addHelp Hn B a1 a2 a3 := ⟨_, rfl⟩
        refine zr_callV (As := [.int a1, .int a2, .int a3]) (rest := []) (ws2 := [mainW x c0 r0 (b 0) y0 old t0 w0 (h 3) g0 k0 j0 kb, bookW cI b P Q u41.2.1 sd u41.2.2, changesW cI h cn Ch]) (pc2 := 44) (ci := 0) (g0 := 1) (q0 := 0) (v := (some (.int (zb u41.1)))) (W := [bookW cI b P Q Hn sd B]) (W2 := [bookW cI b P Q u41.2.1 sd u41.2.2]) O (by rw [hu41]; exact (c_X0_addHelp l D cI cC cJ b P Q Hn sd B a1 a2 a3 (by first | assumption | omega))) sC_X6_help_152 rfl rfl rfl rfl rfl dX6_help_41 [1] rfl rfl rfl rfl (Nat.le_of_ble_eq_true rfl) rfl ?_
        show Z _ _ _ [.int (zb u41.1)]
        refine zb_if_ne (tgt := 50) (pc2 := 47) O dX6_help_44 (by decide) rfl (fun c44 => ?_) (fun c44 => ?_)
        · refine zr_aload_n (pc2 := 51) O dX6_help_50 rfl 0 rfl rfl ?_
          refine zr_getf (v := .ref (h 3)) (pc2 := 54) O sF_X6_help_54 0 0 rfl rfl rfl dX6_help_51 rfl ?_
          refine zr_iconst (v := (nI 2)) (pc2 := 55) O dX6_help_54 (by decide +kernel) rfl ?_
          refine zr_iconst (v := (nI 0)) (pc2 := 56) O dX6_help_55 (by decide +kernel) rfl ?_
          refine zr_iconst (v := (nI 0)) (pc2 := 57) O dX6_help_56 (by decide +kernel) rfl ?_
          obtain ⟨u57, hu57⟩ : ∃ z9, z9 = s_X1_note cn Ch (nI 2) (nI 0) (nI 0) := ⟨_, rfl⟩
          refine zr_callV (As := [.int (nI 2), .int (nI 0), .int (nI 0)]) (rest := []) (ws2 := [mainW x c0 r0 (b 0) y0 old t0 w0 (h 3) g0 k0 j0 kb, bookW cI b P Q u41.2.1 sd u41.2.2, changesW cI h u57.1 u57.2]) (pc2 := 60) (ci := 1) (g0 := 2) (q0 := 0) (v := none) (W := [changesW cI h cn Ch]) (W2 := [changesW cI h u57.1 u57.2]) O (by rw [hu57]; exact (c_X1_note l D cI cC cJ h cn Ch (nI 2) (nI 0) (nI 0) (by first | assumption | omega))) sC_X6_help_148 rfl rfl rfl rfl rfl dX6_help_57 [2] rfl rfl rfl rfl (Nat.le_of_ble_eq_true rfl) rfl ?_
          show Z _ _ _ []
          refine zr_aload_n (pc2 := 61) O dX6_help_60 rfl 0 rfl rfl ?_
          refine zr_iconst (v := (nI 1)) (pc2 := 62) O dX6_help_61 (by decide +kernel) rfl ?_
          refine zr_putf (G2 := mainW x c0 r0 (b 0) y0 true t0 w0 (h 3) g0 k0 j0 kb) (ws2 := [mainW x c0 r0 (b 0) y0 true t0 w0 (h 3) g0 k0 j0 kb, bookW cI b P Q u41.2.1 sd u41.2.2, changesW cI h u57.1 u57.2]) (pc2 := 65) O sP_X6_help_41 0 0 rfl rfl (by decide +kernel) (by decide +kernel) (Nat.le_of_ble_eq_true rfl) dX6_help_62 rfl rfl rfl ?_
          refine zr_aload_n (pc2 := 66) O dX6_help_65 rfl 0 rfl rfl ?_
          refine zr_getf (v := .ref (b 0)) (pc2 := 69) O sF_X6_help_28 0 0 rfl rfl rfl dX6_help_66 rfl ?_
          refine zr_getf (v := .int (nI u41.2.1)) (pc2 := 72) O sF_X6_help_155 1 0 rfl rfl rfl dX6_help_69 rfl ?_
          have hE : s_X6_help old P Hn B cn Ch a1 a2 a3 = ((nI u41.2.1), true, u41.2.1, u41.2.2, u57.1, u57.2) := by subst hu57; subst hu41; exact ((zif_t c8).trans ((zif_t c19).trans ((zif_t c29).trans (zif_t c44))))
          exact hret _ _ _ _ dX6_help_72 rfl (by rw [hE]) (by rw [hE])
        · refine zr_bipush (v := (-3)) (pc2 := 49) O dX6_help_47 (by decide +kernel) rfl ?_
          have hE : s_X6_help old P Hn B cn Ch a1 a2 a3 = ((-3), old, u41.2.1, u41.2.2, cn, Ch) := by subst hu41; exact ((zif_t c8).trans ((zif_t c19).trans ((zif_t c29).trans (zif_f c44))))
          exact hret _ _ _ _ dX6_help_49 rfl (by rw [hE]) (by rw [hE])
      · refine zr_iconst (v := (-1)) (pc2 := 33) O dX6_help_32 (by decide +kernel) rfl ?_
        have hE : s_X6_help old P Hn B cn Ch a1 a2 a3 = ((-1), old, Hn, B, cn, Ch) := by exact ((zif_t c8).trans ((zif_t c19).trans (zif_f c29)))
        exact hret _ _ _ _ dX6_help_33 rfl (by rw [hE]) (by rw [hE])
/-! X6_undo -/
def s_X6_undo (old : Bool) (cn : Nat) (Ch : zC) (Q : Nat) (Hn : Nat) (B : zB) : Int32 × Bool × Nat × Nat × zB := let u8 := s_X1_takeBack cn Ch Q Hn B; if u8.1 = true then ((nI u8.2.1), true, u8.2.1, u8.2.2.1, u8.2.2.2) else ((-2), old, u8.2.1, u8.2.2.1, u8.2.2.2)
set_option maxHeartbeats 4000000 in
set_option maxRecDepth 100000 in
theorem c_X6_undo (l : Launch) (D : va_G) (cI cC cJ : ClassId) (x : Nat) (h : Nat → Nat) (b : Nat → Nat) (old : Bool) (kb : Nat) (cn : Nat) (Ch : zC) (P : Nat) (Q : Nat) (Hn : Nat) (sd : Int32) (B : zB) (c0 : Nat) (r0 : Nat) (y0 : Nat) (t0 : Nat) (w0 : Nat) (g0 : Nat) (k0 : Nat) (j0 : Nat) (hcn : cn ≤ 8) (hQ : Q ≤ 9) (hH : Hn ≤ 4) : zD l yX6_undo wsX6_undo rm_X6_undo D (zT cI cC cJ) [.ref x] [mainW x c0 r0 (b 0) y0 old t0 w0 (h 3) g0 k0 j0 kb, changesW cI h cn Ch, bookW cI b P Q Hn sd B] (some (.int ((s_X6_undo old cn Ch Q Hn B).1))) [mainW x c0 r0 (b 0) y0 ((s_X6_undo old cn Ch Q Hn B).2.1) t0 w0 (h 3) g0 k0 j0 kb, changesW cI h ((s_X6_undo old cn Ch Q Hn B).2.2.1) Ch, bookW cI b P Q ((s_X6_undo old cn Ch Q Hn B).2.2.2.1) sd ((s_X6_undo old cn Ch Q Hn B).2.2.2.2)] := by
  refine zD_int (cc := cX6_undo) (maxL := 1) (ty := .int) (lv := [(0, .ref x)]) (by decide +kernel) rfl (Nat.le_of_ble_eq_true rfl) rfl (fun Z O hret => ?_)
  refine zr_aload_n (pc2 := 1) O dX6_undo_0 rfl 0 rfl rfl ?_
  refine zr_getf (v := .ref (h 3)) (pc2 := 4) O sF_X6_undo_54 0 0 rfl rfl rfl dX6_undo_1 rfl ?_
  refine zr_aload_n (pc2 := 5) O dX6_undo_4 rfl 0 rfl rfl ?_
  refine zr_getf (v := .ref (b 0)) (pc2 := 8) O sF_X6_undo_28 0 0 rfl rfl rfl dX6_undo_5 rfl ?_
  obtain ⟨u8, hu8⟩ : ∃ z9, z9 = s_X1_takeBack cn Ch Q Hn B := ⟨_, rfl⟩
  refine zr_callV (As := [.ref (b 0)]) (rest := []) (ws2 := [mainW x c0 r0 (b 0) y0 old t0 w0 (h 3) g0 k0 j0 kb, changesW cI h u8.2.1 Ch, bookW cI b P Q u8.2.2.1 sd u8.2.2.2]) (pc2 := 11) (ci := 1) (g0 := 1) (q0 := 0) (v := (some (.int (zb u8.1)))) (W := [changesW cI h cn Ch, bookW cI b P Q Hn sd B]) (W2 := [changesW cI h u8.2.1 Ch, bookW cI b P Q u8.2.2.1 sd u8.2.2.2]) O (by rw [hu8]; exact (c_X1_takeBack l D cI cC cJ h b cn Ch P Q Hn sd B (by first | assumption | omega) (by first | assumption | omega) (by first | assumption | omega))) sC_X6_undo_158 rfl rfl rfl rfl rfl dX6_undo_8 [1, 2] rfl rfl rfl rfl (Nat.le_of_ble_eq_true rfl) rfl ?_
  show Z _ _ _ [.int (zb u8.1)]
  refine zb_if_ne (tgt := 17) (pc2 := 14) O dX6_undo_11 (by decide) rfl (fun c11 => ?_) (fun c11 => ?_)
  · refine zr_aload_n (pc2 := 18) O dX6_undo_17 rfl 0 rfl rfl ?_
    refine zr_iconst (v := (nI 1)) (pc2 := 19) O dX6_undo_18 (by decide +kernel) rfl ?_
    refine zr_putf (G2 := mainW x c0 r0 (b 0) y0 true t0 w0 (h 3) g0 k0 j0 kb) (ws2 := [mainW x c0 r0 (b 0) y0 true t0 w0 (h 3) g0 k0 j0 kb, changesW cI h u8.2.1 Ch, bookW cI b P Q u8.2.2.1 sd u8.2.2.2]) (pc2 := 22) O sP_X6_undo_41 0 0 rfl rfl (by decide +kernel) (by decide +kernel) (Nat.le_of_ble_eq_true rfl) dX6_undo_19 rfl rfl rfl ?_
    refine zr_aload_n (pc2 := 23) O dX6_undo_22 rfl 0 rfl rfl ?_
    refine zr_getf (v := .ref (h 3)) (pc2 := 26) O sF_X6_undo_54 0 0 rfl rfl rfl dX6_undo_23 rfl ?_
    refine zr_getf (v := .int (nI u8.2.1)) (pc2 := 29) O sF_X6_undo_162 1 0 rfl rfl rfl dX6_undo_26 rfl ?_
    have hE : s_X6_undo old cn Ch Q Hn B = ((nI u8.2.1), true, u8.2.1, u8.2.2.1, u8.2.2.2) := by subst hu8; exact (zif_t c11)
    exact hret _ _ _ _ dX6_undo_29 rfl (by rw [hE]) (by rw [hE])
  · refine zr_bipush (v := (-2)) (pc2 := 16) O dX6_undo_14 (by decide +kernel) rfl ?_
    have hE : s_X6_undo old cn Ch Q Hn B = ((-2), old, u8.2.1, u8.2.2.1, u8.2.2.2) := by subst hu8; exact (zif_f c11)
    exact hret _ _ _ _ dX6_undo_16 rfl (by rw [hE]) (by rw [hE])
/-! X6_lived -/
def s_X6_lived (y : Nat → Nat) (old : Bool) (P : Nat) (Q : Nat) (Hn : Nat) (sd : Int32) (B : zB) (hav : Int32) (Y : zY) (PA : Nat → Nat → Int32) : Nat × Bool × Int32 × zY × (Nat → Nat → Int32) := if old = true then let u11 := s_X5_run Y PA P Q Hn sd B; ((y 0), false, u11.1, u11.2.1, u11.2.2) else ((y 0), old, hav, Y, PA)
set_option maxHeartbeats 4000000 in
set_option maxRecDepth 100000 in
theorem c_X6_lived (l : Launch) (D : va_G) (cI cC cJ : ClassId) (x : Nat) (b : Nat → Nat) (y : Nat → Nat) (old : Bool) (kb : Nat) (P : Nat) (Q : Nat) (Hn : Nat) (sd : Int32) (B : zB) (hav : Int32) (Y : zY) (PA : Nat → Nat → Int32) (c0 : Nat) (r0 : Nat) (t0 : Nat) (w0 : Nat) (h0 : Nat) (g0 : Nat) (k0 : Nat) (j0 : Nat) (hP : P ≤ 6) (hQ : Q ≤ 9) (hH : Hn ≤ 4) : zD l yX6_lived wsX6_lived rm_X6_lived D (zT cI cC cJ) [.ref x] [mainW x c0 r0 (b 0) (y 0) old t0 w0 h0 g0 k0 j0 kb, bookW cI b P Q Hn sd B, yearsW cI cJ y (b 0) hav Y PA] (some (.ref (y 0))) [mainW x c0 r0 (b 0) (y 0) ((s_X6_lived y old P Q Hn sd B hav Y PA).2.1) t0 w0 h0 g0 k0 j0 kb, bookW cI b P Q Hn sd B, yearsW cI cJ y (b 0) ((s_X6_lived y old P Q Hn sd B hav Y PA).2.2.1) ((s_X6_lived y old P Q Hn sd B hav Y PA).2.2.2.1) ((s_X6_lived y old P Q Hn sd B hav Y PA).2.2.2.2)] := by
  refine zD_ref (cc := cX6_lived) (maxL := 1) (lv := [(0, .ref x)]) (by decide +kernel) rfl (Nat.le_of_ble_eq_true rfl) rfl (fun Z O hret => ?_)
  refine zr_aload_n (pc2 := 1) O dX6_lived_0 rfl 0 rfl rfl ?_
  refine zr_getf (v := .int (zb old)) (pc2 := 4) O sF_X6_lived_41 0 0 rfl rfl rfl dX6_lived_1 rfl ?_
  refine zb_if_eq (tgt := 19) (pc2 := 7) O dX6_lived_4 (by decide) rfl (fun c4 => ?_) (fun c4 => ?_)
  · refine zr_aload_n (pc2 := 20) O dX6_lived_19 rfl 0 rfl rfl ?_
    refine zr_getf (v := .ref (y 0)) (pc2 := 23) O sF_X6_lived_37 0 0 rfl rfl rfl dX6_lived_20 rfl ?_
    have hE : s_X6_lived y old P Q Hn sd B hav Y PA = ((y 0), old, hav, Y, PA) := by exact (zif_f c4)
    exact hret _ _ _ _ dX6_lived_23 rfl (by rw [hE])
  · refine zr_aload_n (pc2 := 8) O dX6_lived_7 rfl 0 rfl rfl ?_
    refine zr_getf (v := .ref (y 0)) (pc2 := 11) O sF_X6_lived_37 0 0 rfl rfl rfl dX6_lived_8 rfl ?_
    obtain ⟨u11, hu11⟩ : ∃ z9, z9 = s_X5_run Y PA P Q Hn sd B := ⟨_, rfl⟩
    refine zr_callV (As := []) (rest := []) (ws2 := [mainW x c0 r0 (b 0) (y 0) old t0 w0 h0 g0 k0 j0 kb, bookW cI b P Q Hn sd B, yearsW cI cJ y (b 0) u11.1 u11.2.1 u11.2.2]) (pc2 := 14) (ci := 5) (g0 := 2) (q0 := 0) (v := none) (W := [yearsW cI cJ y (b 0) hav Y PA, bookW cI b P Q Hn sd B]) (W2 := [yearsW cI cJ y (b 0) u11.1 u11.2.1 u11.2.2, bookW cI b P Q Hn sd B]) O (by rw [hu11]; exact (c_X5_run l D cI cC cJ y b hav Y PA P Q Hn sd B (by first | assumption | omega) (by first | assumption | omega) (by first | assumption | omega))) sC_X6_lived_213 rfl rfl rfl rfl rfl dX6_lived_11 [2, 1] rfl rfl rfl rfl (Nat.le_of_ble_eq_true rfl) rfl ?_
    show Z _ _ _ []
    refine zr_aload_n (pc2 := 15) O dX6_lived_14 rfl 0 rfl rfl ?_
    refine zr_iconst (v := (nI 0)) (pc2 := 16) O dX6_lived_15 (by decide +kernel) rfl ?_
    refine zr_putf (G2 := mainW x c0 r0 (b 0) (y 0) false t0 w0 h0 g0 k0 j0 kb) (ws2 := [mainW x c0 r0 (b 0) (y 0) false t0 w0 h0 g0 k0 j0 kb, bookW cI b P Q Hn sd B, yearsW cI cJ y (b 0) u11.1 u11.2.1 u11.2.2]) (pc2 := 19) O sP_X6_lived_41 0 0 rfl rfl (by decide +kernel) (by decide +kernel) (Nat.le_of_ble_eq_true rfl) dX6_lived_16 rfl rfl rfl ?_
    refine zr_aload_n (pc2 := 20) O dX6_lived_19 rfl 0 rfl rfl ?_
    refine zr_getf (v := .ref (y 0)) (pc2 := 23) O sF_X6_lived_37 0 0 rfl rfl rfl dX6_lived_20 rfl ?_
    have hE : s_X6_lived y old P Q Hn sd B hav Y PA = ((y 0), false, u11.1, u11.2.1, u11.2.2) := by subst hu11; exact (zif_t c4)
    exact hret _ _ _ _ dX6_lived_23 rfl (by rw [hE])
/-! X6_dies -/
def s_X6_dies (y : Nat → Nat) (old : Bool) (P : Nat) (Q : Nat) (Hn : Nat) (sd : Int32) (B : zB) (hav : Int32) (Y : zY) (PA : Nat → Nat → Int32) (i : Int32) : Int32 × Bool × Int32 × zY × (Nat → Nat → Int32) := if (s_X0_hasPerson P i) = true then let u12 := s_X6_lived y old P Q Hn sd B hav Y PA; ((u12.2.2.2.1.2.2.2.2.1 i.toNatClampNeg), u12.2.1, u12.2.2.1, u12.2.2.2.1, u12.2.2.2.2) else ((-1), old, hav, Y, PA)
set_option maxHeartbeats 4000000 in
set_option maxRecDepth 100000 in
theorem c_X6_dies (l : Launch) (D : va_G) (cI cC cJ : ClassId) (x : Nat) (b : Nat → Nat) (y : Nat → Nat) (old : Bool) (kb : Nat) (P : Nat) (Q : Nat) (Hn : Nat) (sd : Int32) (B : zB) (hav : Int32) (Y : zY) (PA : Nat → Nat → Int32) (i : Int32) (c0 : Nat) (r0 : Nat) (t0 : Nat) (w0 : Nat) (h0 : Nat) (g0 : Nat) (k0 : Nat) (j0 : Nat) (hP : P ≤ 6) (hQ : Q ≤ 9) (hH : Hn ≤ 4) : zD l yX6_dies wsX6_dies rm_X6_dies D (zT cI cC cJ) [.ref x, .int i] [mainW x c0 r0 (b 0) (y 0) old t0 w0 h0 g0 k0 j0 kb, bookW cI b P Q Hn sd B, yearsW cI cJ y (b 0) hav Y PA] (some (.int ((s_X6_dies y old P Q Hn sd B hav Y PA i).1))) [mainW x c0 r0 (b 0) (y 0) ((s_X6_dies y old P Q Hn sd B hav Y PA i).2.1) t0 w0 h0 g0 k0 j0 kb, bookW cI b P Q Hn sd B, yearsW cI cJ y (b 0) ((s_X6_dies y old P Q Hn sd B hav Y PA i).2.2.1) ((s_X6_dies y old P Q Hn sd B hav Y PA i).2.2.2.1) ((s_X6_dies y old P Q Hn sd B hav Y PA i).2.2.2.2)] := by
  refine zD_int (cc := cX6_dies) (maxL := 2) (ty := .int) (lv := [(0, .ref x), (1, .int i)]) (by decide +kernel) rfl (Nat.le_of_ble_eq_true rfl) rfl (fun Z O hret => ?_)
  refine zr_aload_n (pc2 := 1) O dX6_dies_0 rfl 0 rfl rfl ?_
  refine zr_getf (v := .ref (b 0)) (pc2 := 4) O sF_X6_dies_28 0 0 rfl rfl rfl dX6_dies_1 rfl ?_
  refine zr_iload_n (pc2 := 5) O dX6_dies_4 rfl 1 rfl rfl ?_
  refine zr_callV (As := [.int i]) (rest := []) (ws2 := [mainW x c0 r0 (b 0) (y 0) old t0 w0 h0 g0 k0 j0 kb, bookW cI b P Q Hn sd B, yearsW cI cJ y (b 0) hav Y PA]) (pc2 := 8) (ci := 0) (g0 := 1) (q0 := 0) O (c_X0_hasPerson l D cI cC cJ b P Q Hn sd B i) sC_X6_dies_108 rfl rfl rfl rfl rfl dX6_dies_5 [1] rfl rfl rfl rfl (Nat.le_of_ble_eq_true rfl) rfl ?_
  show Z _ _ _ [.int (zb (s_X0_hasPerson P i))]
  refine zb_if_eq (tgt := 23) (pc2 := 11) O dX6_dies_8 (by decide) rfl (fun c8 => ?_) (fun c8 => ?_)
  · refine zr_iconst (v := (-1)) (pc2 := 24) O dX6_dies_23 (by decide +kernel) rfl ?_
    have hE : s_X6_dies y old P Q Hn sd B hav Y PA i = ((-1), old, hav, Y, PA) := by exact (zif_f c8)
    exact hret _ _ _ _ dX6_dies_24 rfl (by rw [hE]) (by rw [hE])
  · refine zr_aload_n (pc2 := 12) O dX6_dies_11 rfl 0 rfl rfl ?_
    obtain ⟨u12, hu12⟩ : ∃ z9, z9 = s_X6_lived y old P Q Hn sd B hav Y PA := ⟨_, rfl⟩
    refine zr_callV (As := []) (rest := []) (ws2 := [mainW x c0 r0 (b 0) (y 0) u12.2.1 t0 w0 h0 g0 k0 j0 kb, bookW cI b P Q Hn sd B, yearsW cI cJ y (b 0) u12.2.2.1 u12.2.2.2.1 u12.2.2.2.2]) (pc2 := 15) (ci := 6) (g0 := 0) (q0 := 0) (v := (some (.ref (y 0)))) (W := [mainW x c0 r0 (b 0) (y 0) old t0 w0 h0 g0 k0 j0 kb, bookW cI b P Q Hn sd B, yearsW cI cJ y (b 0) hav Y PA]) (W2 := [mainW x c0 r0 (b 0) (y 0) u12.2.1 t0 w0 h0 g0 k0 j0 kb, bookW cI b P Q Hn sd B, yearsW cI cJ y (b 0) u12.2.2.1 u12.2.2.2.1 u12.2.2.2.2]) O (by rw [hu12]; exact (c_X6_lived l D cI cC cJ x b y old kb P Q Hn sd B hav Y PA c0 r0 t0 w0 h0 g0 k0 j0 (by first | assumption | omega) (by first | assumption | omega) (by first | assumption | omega))) sC_X6_dies_165 rfl rfl rfl rfl rfl dX6_dies_12 [0, 1, 2] rfl rfl rfl rfl (Nat.le_of_ble_eq_true rfl) rfl ?_
    show Z _ _ _ [.ref (y 0)]
    refine zr_getf (v := .ref (y 5)) (pc2 := 18) O sF_X6_dies_169 2 0 rfl rfl rfl dX6_dies_15 rfl ?_
    refine zr_iload_n (pc2 := 19) O dX6_dies_18 rfl 1 rfl rfl ?_
    refine zr_iald (pc2 := 20) O 2 5 0 rfl rfl rfl (by first | assumption | exact zin_of (by assumption) (by assumption) (by assumption) (by decide) | exact hp_in (by assumption) (by assumption) (by decide) | exact hb_in (by assumption) (by assumption) (by decide) | exact il_in (by assumption) (by assumption) (by decide)) dX6_dies_19 rfl ?_
    refine zr_goto (tgt := 24) O dX6_dies_20 (by decide) ?_
    have hE : s_X6_dies y old P Q Hn sd B hav Y PA i = ((u12.2.2.2.1.2.2.2.2.1 i.toNatClampNeg), u12.2.1, u12.2.2.1, u12.2.2.2.1, u12.2.2.2.2) := by subst hu12; exact (zif_t c8)
    exact hret _ _ _ _ dX6_dies_24 rfl (by rw [hE]) (by rw [hE])
/-! X6_having -/
def s_X6_having (y : Nat → Nat) (old : Bool) (P : Nat) (Q : Nat) (Hn : Nat) (sd : Int32) (B : zB) (hav : Int32) (Y : zY) (PA : Nat → Nat → Int32) : Int32 × Bool × Int32 × zY × (Nat → Nat → Int32) := let u1 := s_X6_lived y old P Q Hn sd B hav Y PA; (u1.2.2.1, u1.2.1, u1.2.2.1, u1.2.2.2.1, u1.2.2.2.2)
set_option maxHeartbeats 4000000 in
set_option maxRecDepth 100000 in
theorem c_X6_having (l : Launch) (D : va_G) (cI cC cJ : ClassId) (x : Nat) (b : Nat → Nat) (y : Nat → Nat) (old : Bool) (kb : Nat) (P : Nat) (Q : Nat) (Hn : Nat) (sd : Int32) (B : zB) (hav : Int32) (Y : zY) (PA : Nat → Nat → Int32) (c0 : Nat) (r0 : Nat) (t0 : Nat) (w0 : Nat) (h0 : Nat) (g0 : Nat) (k0 : Nat) (j0 : Nat) (hP : P ≤ 6) (hQ : Q ≤ 9) (hH : Hn ≤ 4) : zD l yX6_having wsX6_having rm_X6_having D (zT cI cC cJ) [.ref x] [mainW x c0 r0 (b 0) (y 0) old t0 w0 h0 g0 k0 j0 kb, bookW cI b P Q Hn sd B, yearsW cI cJ y (b 0) hav Y PA] (some (.int ((s_X6_having y old P Q Hn sd B hav Y PA).1))) [mainW x c0 r0 (b 0) (y 0) ((s_X6_having y old P Q Hn sd B hav Y PA).2.1) t0 w0 h0 g0 k0 j0 kb, bookW cI b P Q Hn sd B, yearsW cI cJ y (b 0) ((s_X6_having y old P Q Hn sd B hav Y PA).2.2.1) ((s_X6_having y old P Q Hn sd B hav Y PA).2.2.2.1) ((s_X6_having y old P Q Hn sd B hav Y PA).2.2.2.2)] := by
  refine zD_int (cc := cX6_having) (maxL := 1) (ty := .int) (lv := [(0, .ref x)]) (by decide +kernel) rfl (Nat.le_of_ble_eq_true rfl) rfl (fun Z O hret => ?_)
  refine zr_aload_n (pc2 := 1) O dX6_having_0 rfl 0 rfl rfl ?_
  obtain ⟨u1, hu1⟩ : ∃ z9, z9 = s_X6_lived y old P Q Hn sd B hav Y PA := ⟨_, rfl⟩
  refine zr_callV (As := []) (rest := []) (ws2 := [mainW x c0 r0 (b 0) (y 0) u1.2.1 t0 w0 h0 g0 k0 j0 kb, bookW cI b P Q Hn sd B, yearsW cI cJ y (b 0) u1.2.2.1 u1.2.2.2.1 u1.2.2.2.2]) (pc2 := 4) (ci := 6) (g0 := 0) (q0 := 0) (v := (some (.ref (y 0)))) (W := [mainW x c0 r0 (b 0) (y 0) old t0 w0 h0 g0 k0 j0 kb, bookW cI b P Q Hn sd B, yearsW cI cJ y (b 0) hav Y PA]) (W2 := [mainW x c0 r0 (b 0) (y 0) u1.2.1 t0 w0 h0 g0 k0 j0 kb, bookW cI b P Q Hn sd B, yearsW cI cJ y (b 0) u1.2.2.1 u1.2.2.2.1 u1.2.2.2.2]) O (by rw [hu1]; exact (c_X6_lived l D cI cC cJ x b y old kb P Q Hn sd B hav Y PA c0 r0 t0 w0 h0 g0 k0 j0 (by first | assumption | omega) (by first | assumption | omega) (by first | assumption | omega))) sC_X6_having_165 rfl rfl rfl rfl rfl dX6_having_1 [0, 1, 2] rfl rfl rfl rfl (Nat.le_of_ble_eq_true rfl) rfl ?_
  show Z _ _ _ [.ref (y 0)]
  refine zr_getf (v := .int u1.2.2.1) (pc2 := 7) O sF_X6_having_172 2 0 rfl rfl rfl dX6_having_4 rfl ?_
  have hE : s_X6_having y old P Q Hn sd B hav Y PA = (u1.2.2.1, u1.2.1, u1.2.2.1, u1.2.2.2.1, u1.2.2.2.2) := by subst hu1; exact rfl
  exact hret _ _ _ _ dX6_having_7 rfl (by rw [hE]) (by rw [hE])
/-! X6_coins -/
def s_X6_coins (y : Nat → Nat) (old : Bool) (P : Nat) (Q : Nat) (Hn : Nat) (sd : Int32) (B : zB) (hav : Int32) (Y : zY) (PA : Nat → Nat → Int32) (i : Int32) (yr : Int32) : Int32 × Bool × Int32 × zY × (Nat → Nat → Int32) := if (s_X0_hasPerson P i) = true then if (s_X6_isWithin yr (nI 0) (nI 150)) = true then let u25 := s_X6_lived y old P Q Hn sd B hav Y PA; (((u25.2.2.2.2 i.toNatClampNeg) yr.toNatClampNeg), u25.2.1, u25.2.2.1, u25.2.2.2.1, u25.2.2.2.2) else ((-1), old, hav, Y, PA) else ((-1), old, hav, Y, PA)
set_option maxHeartbeats 4000000 in
set_option maxRecDepth 100000 in
theorem c_X6_coins (l : Launch) (D : va_G) (cI cC cJ : ClassId) (x : Nat) (b : Nat → Nat) (y : Nat → Nat) (old : Bool) (kb : Nat) (P : Nat) (Q : Nat) (Hn : Nat) (sd : Int32) (B : zB) (hav : Int32) (Y : zY) (PA : Nat → Nat → Int32) (i : Int32) (yr : Int32) (c0 : Nat) (r0 : Nat) (t0 : Nat) (w0 : Nat) (h0 : Nat) (g0 : Nat) (k0 : Nat) (j0 : Nat) (hP : P ≤ 6) (hQ : Q ≤ 9) (hH : Hn ≤ 4) : zD l yX6_coins wsX6_coins rm_X6_coins D (zT cI cC cJ) [.ref x, .int i, .int yr] [mainW x c0 r0 (b 0) (y 0) old t0 w0 h0 g0 k0 j0 kb, bookW cI b P Q Hn sd B, yearsW cI cJ y (b 0) hav Y PA] (some (.int ((s_X6_coins y old P Q Hn sd B hav Y PA i yr).1))) [mainW x c0 r0 (b 0) (y 0) ((s_X6_coins y old P Q Hn sd B hav Y PA i yr).2.1) t0 w0 h0 g0 k0 j0 kb, bookW cI b P Q Hn sd B, yearsW cI cJ y (b 0) ((s_X6_coins y old P Q Hn sd B hav Y PA i yr).2.2.1) ((s_X6_coins y old P Q Hn sd B hav Y PA i yr).2.2.2.1) ((s_X6_coins y old P Q Hn sd B hav Y PA i yr).2.2.2.2)] := by
  refine zD_int (cc := cX6_coins) (maxL := 3) (ty := .int) (lv := [(0, .ref x), (1, .int i), (2, .int yr)]) (by decide +kernel) rfl (Nat.le_of_ble_eq_true rfl) rfl (fun Z O hret => ?_)
  refine zr_aload_n (pc2 := 1) O dX6_coins_0 rfl 0 rfl rfl ?_
  refine zr_getf (v := .ref (b 0)) (pc2 := 4) O sF_X6_coins_28 0 0 rfl rfl rfl dX6_coins_1 rfl ?_
  refine zr_iload_n (pc2 := 5) O dX6_coins_4 rfl 1 rfl rfl ?_
  refine zr_callV (As := [.int i]) (rest := []) (ws2 := [mainW x c0 r0 (b 0) (y 0) old t0 w0 h0 g0 k0 j0 kb, bookW cI b P Q Hn sd B, yearsW cI cJ y (b 0) hav Y PA]) (pc2 := 8) (ci := 0) (g0 := 1) (q0 := 0) O (c_X0_hasPerson l D cI cC cJ b P Q Hn sd B i) sC_X6_coins_108 rfl rfl rfl rfl rfl dX6_coins_5 [1] rfl rfl rfl rfl (Nat.le_of_ble_eq_true rfl) rfl ?_
  show Z _ _ _ [.int (zb (s_X0_hasPerson P i))]
  refine zb_if_eq (tgt := 22) (pc2 := 11) O dX6_coins_8 (by decide) rfl (fun c8 => ?_) (fun c8 => ?_)
  · refine zr_iconst (v := (-1)) (pc2 := 23) O dX6_coins_22 (by decide +kernel) rfl ?_
    have hE : s_X6_coins y old P Q Hn sd B hav Y PA i yr = ((-1), old, hav, Y, PA) := by exact (zif_f c8)
    exact hret _ _ _ _ dX6_coins_23 rfl (by rw [hE]) (by rw [hE])
  · refine zr_iload_n (pc2 := 12) O dX6_coins_11 rfl 2 rfl rfl ?_
    refine zr_iconst (v := (nI 0)) (pc2 := 13) O dX6_coins_12 (by decide +kernel) rfl ?_
    refine zr_sipush (v := (nI 150)) (pc2 := 16) O dX6_coins_13 (by decide +kernel) rfl ?_
    refine zr_callS (As := [.int yr, .int (nI 0), .int (nI 150)]) (rest := []) (ws2 := [mainW x c0 r0 (b 0) (y 0) old t0 w0 h0 g0 k0 j0 kb, bookW cI b P Q Hn sd B, yearsW cI cJ y (b 0) hav Y PA]) (pc2 := 19) O (c_X6_isWithin l D cI cC cJ yr (nI 0) (nI 150)) sC_X6_coins_144 rfl rfl dX6_coins_16 [] rfl rfl rfl rfl (Nat.le_of_ble_eq_true rfl) rfl ?_
    show Z _ _ _ [.int (zb (s_X6_isWithin yr (nI 0) (nI 150)))]
    refine zb_if_ne (tgt := 24) (pc2 := 22) O dX6_coins_19 (by decide) rfl (fun c19 => ?_) (fun c19 => ?_)
    · have hc1 := (hasP_nat c8 hP)
      rw [hc1.1]
      have hc2 := (within_nat c19 (by decide) (by decide))
      rw [hc2.1]
      refine zr_aload_n (pc2 := 25) O dX6_coins_24 rfl 0 rfl rfl ?_
      obtain ⟨u25, hu25⟩ : ∃ z9, z9 = s_X6_lived y old P Q Hn sd B hav Y PA := ⟨_, rfl⟩
      refine zr_callV (As := []) (rest := []) (ws2 := [mainW x c0 r0 (b 0) (y 0) u25.2.1 t0 w0 h0 g0 k0 j0 kb, bookW cI b P Q Hn sd B, yearsW cI cJ y (b 0) u25.2.2.1 u25.2.2.2.1 u25.2.2.2.2]) (pc2 := 28) (ci := 6) (g0 := 0) (q0 := 0) (v := (some (.ref (y 0)))) (W := [mainW x c0 r0 (b 0) (y 0) old t0 w0 h0 g0 k0 j0 kb, bookW cI b P Q Hn sd B, yearsW cI cJ y (b 0) hav Y PA]) (W2 := [mainW x c0 r0 (b 0) (y 0) u25.2.1 t0 w0 h0 g0 k0 j0 kb, bookW cI b P Q Hn sd B, yearsW cI cJ y (b 0) u25.2.2.1 u25.2.2.2.1 u25.2.2.2.2]) O (by rw [hu25]; exact (c_X6_lived l D cI cC cJ x b y old kb P Q Hn sd B hav Y PA c0 r0 t0 w0 h0 g0 k0 j0 (by first | assumption | omega) (by first | assumption | omega) (by first | assumption | omega))) sC_X6_coins_165 rfl rfl rfl rfl rfl dX6_coins_25 [0, 1, 2] rfl rfl rfl rfl (Nat.le_of_ble_eq_true rfl) rfl ?_
      show Z _ _ _ [.ref (y 0)]
      refine zr_getf (v := .ref (y 8)) (pc2 := 31) O sF_X6_coins_175 2 0 rfl rfl rfl dX6_coins_28 rfl ?_
      refine zr_iload_n (pc2 := 32) O dX6_coins_31 rfl 1 rfl rfl ?_
      refine zn_aald (j := i.toNatClampNeg) (r := (y (10 + i.toNatClampNeg))) (pc2 := 33) O 2 8 2 rfl rfl rfl rfl (by omega) (by decide) (if_pos (by omega)) dX6_coins_32 rfl ?_
      refine zr_iload_n (pc2 := 34) O dX6_coins_33 rfl 2 rfl rfl ?_
      refine zn_iald (j := yr.toNatClampNeg) (pc2 := 35) O 2 (9 + i.toNatClampNeg) 0 rfl (zrow_at (a := y) (PA := u25.2.2.2.2) (by omega) rfl rfl rfl rfl rfl rfl) rfl rfl (by omega) (by decide) dX6_coins_34 rfl ?_
      have hE : s_X6_coins y old P Q Hn sd B hav Y PA i yr = (((u25.2.2.2.2 i.toNatClampNeg) yr.toNatClampNeg), u25.2.1, u25.2.2.1, u25.2.2.2.1, u25.2.2.2.2) := by subst hu25; exact ((zif_t c8).trans (zif_t c19))
      exact hret _ _ _ _ dX6_coins_35 rfl (by rw [hE]) (by rw [hE])
    · refine zr_iconst (v := (-1)) (pc2 := 23) O dX6_coins_22 (by decide +kernel) rfl ?_
      have hE : s_X6_coins y old P Q Hn sd B hav Y PA i yr = ((-1), old, hav, Y, PA) := by exact ((zif_t c8).trans (zif_f c19))
      exact hret _ _ _ _ dX6_coins_23 rfl (by rw [hE]) (by rw [hE])
/-! X6_brought -/
def s_X6_brought (y : Nat → Nat) (old : Bool) (P : Nat) (Q : Nat) (Hn : Nat) (sd : Int32) (B : zB) (hav : Int32) (Y : zY) (PA : Nat → Nat → Int32) (i : Int32) : Int32 × Bool × Int32 × zY × (Nat → Nat → Int32) := if (s_X0_hasBequest Q i) = true then let u12 := s_X6_lived y old P Q Hn sd B hav Y PA; ((u12.2.2.2.1.2.2.2.2.2.2 i.toNatClampNeg), u12.2.1, u12.2.2.1, u12.2.2.2.1, u12.2.2.2.2) else ((-1), old, hav, Y, PA)
set_option maxHeartbeats 4000000 in
set_option maxRecDepth 100000 in
theorem c_X6_brought (l : Launch) (D : va_G) (cI cC cJ : ClassId) (x : Nat) (b : Nat → Nat) (y : Nat → Nat) (old : Bool) (kb : Nat) (P : Nat) (Q : Nat) (Hn : Nat) (sd : Int32) (B : zB) (hav : Int32) (Y : zY) (PA : Nat → Nat → Int32) (i : Int32) (c0 : Nat) (r0 : Nat) (t0 : Nat) (w0 : Nat) (h0 : Nat) (g0 : Nat) (k0 : Nat) (j0 : Nat) (hP : P ≤ 6) (hQ : Q ≤ 9) (hH : Hn ≤ 4) : zD l yX6_brought wsX6_brought rm_X6_brought D (zT cI cC cJ) [.ref x, .int i] [mainW x c0 r0 (b 0) (y 0) old t0 w0 h0 g0 k0 j0 kb, bookW cI b P Q Hn sd B, yearsW cI cJ y (b 0) hav Y PA] (some (.int ((s_X6_brought y old P Q Hn sd B hav Y PA i).1))) [mainW x c0 r0 (b 0) (y 0) ((s_X6_brought y old P Q Hn sd B hav Y PA i).2.1) t0 w0 h0 g0 k0 j0 kb, bookW cI b P Q Hn sd B, yearsW cI cJ y (b 0) ((s_X6_brought y old P Q Hn sd B hav Y PA i).2.2.1) ((s_X6_brought y old P Q Hn sd B hav Y PA i).2.2.2.1) ((s_X6_brought y old P Q Hn sd B hav Y PA i).2.2.2.2)] := by
  refine zD_int (cc := cX6_brought) (maxL := 2) (ty := .int) (lv := [(0, .ref x), (1, .int i)]) (by decide +kernel) rfl (Nat.le_of_ble_eq_true rfl) rfl (fun Z O hret => ?_)
  refine zr_aload_n (pc2 := 1) O dX6_brought_0 rfl 0 rfl rfl ?_
  refine zr_getf (v := .ref (b 0)) (pc2 := 4) O sF_X6_brought_28 0 0 rfl rfl rfl dX6_brought_1 rfl ?_
  refine zr_iload_n (pc2 := 5) O dX6_brought_4 rfl 1 rfl rfl ?_
  refine zr_callV (As := [.int i]) (rest := []) (ws2 := [mainW x c0 r0 (b 0) (y 0) old t0 w0 h0 g0 k0 j0 kb, bookW cI b P Q Hn sd B, yearsW cI cJ y (b 0) hav Y PA]) (pc2 := 8) (ci := 0) (g0 := 1) (q0 := 0) O (c_X0_hasBequest l D cI cC cJ b P Q Hn sd B i) sC_X6_brought_132 rfl rfl rfl rfl rfl dX6_brought_5 [1] rfl rfl rfl rfl (Nat.le_of_ble_eq_true rfl) rfl ?_
  show Z _ _ _ [.int (zb (s_X0_hasBequest Q i))]
  refine zb_if_eq (tgt := 23) (pc2 := 11) O dX6_brought_8 (by decide) rfl (fun c8 => ?_) (fun c8 => ?_)
  · refine zr_iconst (v := (-1)) (pc2 := 24) O dX6_brought_23 (by decide +kernel) rfl ?_
    have hE : s_X6_brought y old P Q Hn sd B hav Y PA i = ((-1), old, hav, Y, PA) := by exact (zif_f c8)
    exact hret _ _ _ _ dX6_brought_24 rfl (by rw [hE]) (by rw [hE])
  · refine zr_aload_n (pc2 := 12) O dX6_brought_11 rfl 0 rfl rfl ?_
    obtain ⟨u12, hu12⟩ : ∃ z9, z9 = s_X6_lived y old P Q Hn sd B hav Y PA := ⟨_, rfl⟩
    refine zr_callV (As := []) (rest := []) (ws2 := [mainW x c0 r0 (b 0) (y 0) u12.2.1 t0 w0 h0 g0 k0 j0 kb, bookW cI b P Q Hn sd B, yearsW cI cJ y (b 0) u12.2.2.1 u12.2.2.2.1 u12.2.2.2.2]) (pc2 := 15) (ci := 6) (g0 := 0) (q0 := 0) (v := (some (.ref (y 0)))) (W := [mainW x c0 r0 (b 0) (y 0) old t0 w0 h0 g0 k0 j0 kb, bookW cI b P Q Hn sd B, yearsW cI cJ y (b 0) hav Y PA]) (W2 := [mainW x c0 r0 (b 0) (y 0) u12.2.1 t0 w0 h0 g0 k0 j0 kb, bookW cI b P Q Hn sd B, yearsW cI cJ y (b 0) u12.2.2.1 u12.2.2.2.1 u12.2.2.2.2]) O (by rw [hu12]; exact (c_X6_lived l D cI cC cJ x b y old kb P Q Hn sd B hav Y PA c0 r0 t0 w0 h0 g0 k0 j0 (by first | assumption | omega) (by first | assumption | omega) (by first | assumption | omega))) sC_X6_brought_165 rfl rfl rfl rfl rfl dX6_brought_12 [0, 1, 2] rfl rfl rfl rfl (Nat.le_of_ble_eq_true rfl) rfl ?_
    show Z _ _ _ [.ref (y 0)]
    refine zr_getf (v := .ref (y 7)) (pc2 := 18) O sF_X6_brought_179 2 0 rfl rfl rfl dX6_brought_15 rfl ?_
    refine zr_iload_n (pc2 := 19) O dX6_brought_18 rfl 1 rfl rfl ?_
    refine zr_iald (pc2 := 20) O 2 7 0 rfl rfl rfl (by first | assumption | exact zin_of (by assumption) (by assumption) (by assumption) (by decide) | exact hp_in (by assumption) (by assumption) (by decide) | exact hb_in (by assumption) (by assumption) (by decide) | exact il_in (by assumption) (by assumption) (by decide)) dX6_brought_19 rfl ?_
    refine zr_goto (tgt := 24) O dX6_brought_20 (by decide) ?_
    have hE : s_X6_brought y old P Q Hn sd B hav Y PA i = ((u12.2.2.2.1.2.2.2.2.2.2 i.toNatClampNeg), u12.2.1, u12.2.2.1, u12.2.2.2.1, u12.2.2.2.2) := by subst hu12; exact (zif_t c8)
    exact hret _ _ _ _ dX6_brought_24 rfl (by rw [hE]) (by rw [hE])
/-! X6_inherited -/
def s_X6_inherited (y : Nat → Nat) (old : Bool) (P : Nat) (Q : Nat) (Hn : Nat) (sd : Int32) (B : zB) (hav : Int32) (Y : zY) (PA : Nat → Nat → Int32) (i : Int32) : Int32 × Bool × Int32 × zY × (Nat → Nat → Int32) := if (s_X0_hasPerson P i) = true then let u12 := s_X6_lived y old P Q Hn sd B hav Y PA; ((u12.2.2.2.1.2.2.2.2.2.1 i.toNatClampNeg), u12.2.1, u12.2.2.1, u12.2.2.2.1, u12.2.2.2.2) else ((-1), old, hav, Y, PA)
set_option maxHeartbeats 4000000 in
set_option maxRecDepth 100000 in
theorem c_X6_inherited (l : Launch) (D : va_G) (cI cC cJ : ClassId) (x : Nat) (b : Nat → Nat) (y : Nat → Nat) (old : Bool) (kb : Nat) (P : Nat) (Q : Nat) (Hn : Nat) (sd : Int32) (B : zB) (hav : Int32) (Y : zY) (PA : Nat → Nat → Int32) (i : Int32) (c0 : Nat) (r0 : Nat) (t0 : Nat) (w0 : Nat) (h0 : Nat) (g0 : Nat) (k0 : Nat) (j0 : Nat) (hP : P ≤ 6) (hQ : Q ≤ 9) (hH : Hn ≤ 4) : zD l yX6_inherited wsX6_inherited rm_X6_inherited D (zT cI cC cJ) [.ref x, .int i] [mainW x c0 r0 (b 0) (y 0) old t0 w0 h0 g0 k0 j0 kb, bookW cI b P Q Hn sd B, yearsW cI cJ y (b 0) hav Y PA] (some (.int ((s_X6_inherited y old P Q Hn sd B hav Y PA i).1))) [mainW x c0 r0 (b 0) (y 0) ((s_X6_inherited y old P Q Hn sd B hav Y PA i).2.1) t0 w0 h0 g0 k0 j0 kb, bookW cI b P Q Hn sd B, yearsW cI cJ y (b 0) ((s_X6_inherited y old P Q Hn sd B hav Y PA i).2.2.1) ((s_X6_inherited y old P Q Hn sd B hav Y PA i).2.2.2.1) ((s_X6_inherited y old P Q Hn sd B hav Y PA i).2.2.2.2)] := by
  refine zD_int (cc := cX6_inherited) (maxL := 2) (ty := .int) (lv := [(0, .ref x), (1, .int i)]) (by decide +kernel) rfl (Nat.le_of_ble_eq_true rfl) rfl (fun Z O hret => ?_)
  refine zr_aload_n (pc2 := 1) O dX6_inherited_0 rfl 0 rfl rfl ?_
  refine zr_getf (v := .ref (b 0)) (pc2 := 4) O sF_X6_inherited_28 0 0 rfl rfl rfl dX6_inherited_1 rfl ?_
  refine zr_iload_n (pc2 := 5) O dX6_inherited_4 rfl 1 rfl rfl ?_
  refine zr_callV (As := [.int i]) (rest := []) (ws2 := [mainW x c0 r0 (b 0) (y 0) old t0 w0 h0 g0 k0 j0 kb, bookW cI b P Q Hn sd B, yearsW cI cJ y (b 0) hav Y PA]) (pc2 := 8) (ci := 0) (g0 := 1) (q0 := 0) O (c_X0_hasPerson l D cI cC cJ b P Q Hn sd B i) sC_X6_inherited_108 rfl rfl rfl rfl rfl dX6_inherited_5 [1] rfl rfl rfl rfl (Nat.le_of_ble_eq_true rfl) rfl ?_
  show Z _ _ _ [.int (zb (s_X0_hasPerson P i))]
  refine zb_if_eq (tgt := 23) (pc2 := 11) O dX6_inherited_8 (by decide) rfl (fun c8 => ?_) (fun c8 => ?_)
  · refine zr_iconst (v := (-1)) (pc2 := 24) O dX6_inherited_23 (by decide +kernel) rfl ?_
    have hE : s_X6_inherited y old P Q Hn sd B hav Y PA i = ((-1), old, hav, Y, PA) := by exact (zif_f c8)
    exact hret _ _ _ _ dX6_inherited_24 rfl (by rw [hE]) (by rw [hE])
  · refine zr_aload_n (pc2 := 12) O dX6_inherited_11 rfl 0 rfl rfl ?_
    obtain ⟨u12, hu12⟩ : ∃ z9, z9 = s_X6_lived y old P Q Hn sd B hav Y PA := ⟨_, rfl⟩
    refine zr_callV (As := []) (rest := []) (ws2 := [mainW x c0 r0 (b 0) (y 0) u12.2.1 t0 w0 h0 g0 k0 j0 kb, bookW cI b P Q Hn sd B, yearsW cI cJ y (b 0) u12.2.2.1 u12.2.2.2.1 u12.2.2.2.2]) (pc2 := 15) (ci := 6) (g0 := 0) (q0 := 0) (v := (some (.ref (y 0)))) (W := [mainW x c0 r0 (b 0) (y 0) old t0 w0 h0 g0 k0 j0 kb, bookW cI b P Q Hn sd B, yearsW cI cJ y (b 0) hav Y PA]) (W2 := [mainW x c0 r0 (b 0) (y 0) u12.2.1 t0 w0 h0 g0 k0 j0 kb, bookW cI b P Q Hn sd B, yearsW cI cJ y (b 0) u12.2.2.1 u12.2.2.2.1 u12.2.2.2.2]) O (by rw [hu12]; exact (c_X6_lived l D cI cC cJ x b y old kb P Q Hn sd B hav Y PA c0 r0 t0 w0 h0 g0 k0 j0 (by first | assumption | omega) (by first | assumption | omega) (by first | assumption | omega))) sC_X6_inherited_165 rfl rfl rfl rfl rfl dX6_inherited_12 [0, 1, 2] rfl rfl rfl rfl (Nat.le_of_ble_eq_true rfl) rfl ?_
    show Z _ _ _ [.ref (y 0)]
    refine zr_getf (v := .ref (y 6)) (pc2 := 18) O sF_X6_inherited_182 2 0 rfl rfl rfl dX6_inherited_15 rfl ?_
    refine zr_iload_n (pc2 := 19) O dX6_inherited_18 rfl 1 rfl rfl ?_
    refine zr_iald (pc2 := 20) O 2 6 0 rfl rfl rfl (by first | assumption | exact zin_of (by assumption) (by assumption) (by assumption) (by decide) | exact hp_in (by assumption) (by assumption) (by decide) | exact hb_in (by assumption) (by assumption) (by decide) | exact il_in (by assumption) (by assumption) (by decide)) dX6_inherited_19 rfl ?_
    refine zr_goto (tgt := 24) O dX6_inherited_20 (by decide) ?_
    have hE : s_X6_inherited y old P Q Hn sd B hav Y PA i = ((u12.2.2.2.1.2.2.2.2.2.1 i.toNatClampNeg), u12.2.1, u12.2.2.1, u12.2.2.2.1, u12.2.2.2.2) := by subst hu12; exact (zif_t c8)
    exact hret _ _ _ _ dX6_inherited_24 rfl (by rw [hE]) (by rw [hE])
/-! X6_first -/
def s_X6_first (y : Nat → Nat) (old : Bool) (P : Nat) (Q : Nat) (Hn : Nat) (sd : Int32) (B : zB) (hav : Int32) (Y : zY) (PA : Nat → Nat → Int32) : Int32 × Bool × Int32 × zY × (Nat → Nat → Int32) := let u1 := s_X6_lived y old P Q Hn sd B hav Y PA; ((s_X5_firstWithout u1.2.2.1 u1.2.2.2.1 P), u1.2.1, u1.2.2.1, u1.2.2.2.1, u1.2.2.2.2)
set_option maxHeartbeats 4000000 in
set_option maxRecDepth 100000 in
theorem c_X6_first (l : Launch) (D : va_G) (cI cC cJ : ClassId) (x : Nat) (b : Nat → Nat) (y : Nat → Nat) (old : Bool) (kb : Nat) (P : Nat) (Q : Nat) (Hn : Nat) (sd : Int32) (B : zB) (hav : Int32) (Y : zY) (PA : Nat → Nat → Int32) (c0 : Nat) (r0 : Nat) (t0 : Nat) (w0 : Nat) (h0 : Nat) (g0 : Nat) (k0 : Nat) (j0 : Nat) (hP : P ≤ 6) (hQ : Q ≤ 9) (hH : Hn ≤ 4) : zD l yX6_first wsX6_first rm_X6_first D (zT cI cC cJ) [.ref x] [mainW x c0 r0 (b 0) (y 0) old t0 w0 h0 g0 k0 j0 kb, bookW cI b P Q Hn sd B, yearsW cI cJ y (b 0) hav Y PA] (some (.int ((s_X6_first y old P Q Hn sd B hav Y PA).1))) [mainW x c0 r0 (b 0) (y 0) ((s_X6_first y old P Q Hn sd B hav Y PA).2.1) t0 w0 h0 g0 k0 j0 kb, bookW cI b P Q Hn sd B, yearsW cI cJ y (b 0) ((s_X6_first y old P Q Hn sd B hav Y PA).2.2.1) ((s_X6_first y old P Q Hn sd B hav Y PA).2.2.2.1) ((s_X6_first y old P Q Hn sd B hav Y PA).2.2.2.2)] := by
  refine zD_int (cc := cX6_first) (maxL := 1) (ty := .int) (lv := [(0, .ref x)]) (by decide +kernel) rfl (Nat.le_of_ble_eq_true rfl) rfl (fun Z O hret => ?_)
  refine zr_aload_n (pc2 := 1) O dX6_first_0 rfl 0 rfl rfl ?_
  obtain ⟨u1, hu1⟩ : ∃ z9, z9 = s_X6_lived y old P Q Hn sd B hav Y PA := ⟨_, rfl⟩
  refine zr_callV (As := []) (rest := []) (ws2 := [mainW x c0 r0 (b 0) (y 0) u1.2.1 t0 w0 h0 g0 k0 j0 kb, bookW cI b P Q Hn sd B, yearsW cI cJ y (b 0) u1.2.2.1 u1.2.2.2.1 u1.2.2.2.2]) (pc2 := 4) (ci := 6) (g0 := 0) (q0 := 0) (v := (some (.ref (y 0)))) (W := [mainW x c0 r0 (b 0) (y 0) old t0 w0 h0 g0 k0 j0 kb, bookW cI b P Q Hn sd B, yearsW cI cJ y (b 0) hav Y PA]) (W2 := [mainW x c0 r0 (b 0) (y 0) u1.2.1 t0 w0 h0 g0 k0 j0 kb, bookW cI b P Q Hn sd B, yearsW cI cJ y (b 0) u1.2.2.1 u1.2.2.2.1 u1.2.2.2.2]) O (by rw [hu1]; exact (c_X6_lived l D cI cC cJ x b y old kb P Q Hn sd B hav Y PA c0 r0 t0 w0 h0 g0 k0 j0 (by first | assumption | omega) (by first | assumption | omega) (by first | assumption | omega))) sC_X6_first_165 rfl rfl rfl rfl rfl dX6_first_1 [0, 1, 2] rfl rfl rfl rfl (Nat.le_of_ble_eq_true rfl) rfl ?_
  show Z _ _ _ [.ref (y 0)]
  refine zr_callV (As := []) (rest := []) (ws2 := [mainW x c0 r0 (b 0) (y 0) u1.2.1 t0 w0 h0 g0 k0 j0 kb, bookW cI b P Q Hn sd B, yearsW cI cJ y (b 0) u1.2.2.1 u1.2.2.2.1 u1.2.2.2.2]) (pc2 := 7) (ci := 5) (g0 := 2) (q0 := 0) O (c_X5_firstWithout l D cI cC cJ y b u1.2.2.1 u1.2.2.2.1 u1.2.2.2.2 P Q Hn sd B (by first | assumption | omega)) sC_X6_first_185 rfl rfl rfl rfl rfl dX6_first_4 [2, 1] rfl rfl rfl rfl (Nat.le_of_ble_eq_true rfl) rfl ?_
  show Z _ _ _ [.int (s_X5_firstWithout u1.2.2.1 u1.2.2.2.1 P)]
  have hE : s_X6_first y old P Q Hn sd B hav Y PA = ((s_X5_firstWithout u1.2.2.1 u1.2.2.2.1 P), u1.2.1, u1.2.2.1, u1.2.2.2.1, u1.2.2.2.2) := by subst hu1; exact rfl
  exact hret _ _ _ _ dX6_first_7 rfl (by rw [hE]) (by rw [hE])
/-! X6_longest -/
def s_X6_longest (y : Nat → Nat) (old : Bool) (P : Nat) (Q : Nat) (Hn : Nat) (sd : Int32) (B : zB) (hav : Int32) (Y : zY) (PA : Nat → Nat → Int32) (wh : Int32) : Int32 × Bool × Int32 × zY × (Nat → Nat → Int32) := if wh = 0 then let u12 := s_X6_lived y old P Q Hn sd B hav Y PA; if wh = 0 then ((s_X5_oldest u12.2.2.2.1 P B), u12.2.1, u12.2.2.1, u12.2.2.2.1, u12.2.2.2.2) else let u28 := s_X6_lived y u12.2.1 P Q Hn sd B u12.2.2.1 u12.2.2.2.1 u12.2.2.2.2; let u32 := s_X5_ageReached u28.2.2.2.1 P B (s_X5_oldest u12.2.2.2.1 P B); (u32, u28.2.1, u28.2.2.1, u28.2.2.2.1, u28.2.2.2.2) else if wh = (nI 1) then let u12 := s_X6_lived y old P Q Hn sd B hav Y PA; if wh = 0 then ((s_X5_oldest u12.2.2.2.1 P B), u12.2.1, u12.2.2.1, u12.2.2.2.1, u12.2.2.2.2) else let u28 := s_X6_lived y u12.2.1 P Q Hn sd B u12.2.2.1 u12.2.2.2.1 u12.2.2.2.2; let u32 := s_X5_ageReached u28.2.2.2.1 P B (s_X5_oldest u12.2.2.2.1 P B); (u32, u28.2.1, u28.2.2.1, u28.2.2.2.1, u28.2.2.2.2) else ((-1), old, hav, Y, PA)
set_option maxHeartbeats 4000000 in
set_option maxRecDepth 100000 in
theorem c_X6_longest (l : Launch) (D : va_G) (cI cC cJ : ClassId) (x : Nat) (b : Nat → Nat) (y : Nat → Nat) (old : Bool) (kb : Nat) (P : Nat) (Q : Nat) (Hn : Nat) (sd : Int32) (B : zB) (hav : Int32) (Y : zY) (PA : Nat → Nat → Int32) (wh : Int32) (c0 : Nat) (r0 : Nat) (t0 : Nat) (w0 : Nat) (h0 : Nat) (g0 : Nat) (k0 : Nat) (j0 : Nat) (hP : P ≤ 6) (hQ : Q ≤ 9) (hH : Hn ≤ 4) (hP1 : 1 ≤ P) : zD l yX6_longest wsX6_longest rm_X6_longest D (zT cI cC cJ) [.ref x, .int wh] [mainW x c0 r0 (b 0) (y 0) old t0 w0 h0 g0 k0 j0 kb, bookW cI b P Q Hn sd B, yearsW cI cJ y (b 0) hav Y PA] (some (.int ((s_X6_longest y old P Q Hn sd B hav Y PA wh).1))) [mainW x c0 r0 (b 0) (y 0) ((s_X6_longest y old P Q Hn sd B hav Y PA wh).2.1) t0 w0 h0 g0 k0 j0 kb, bookW cI b P Q Hn sd B, yearsW cI cJ y (b 0) ((s_X6_longest y old P Q Hn sd B hav Y PA wh).2.2.1) ((s_X6_longest y old P Q Hn sd B hav Y PA wh).2.2.2.1) ((s_X6_longest y old P Q Hn sd B hav Y PA wh).2.2.2.2)] := by
  refine zD_int (cc := cX6_longest) (maxL := 3) (ty := .int) (lv := [(0, .ref x), (1, .int wh)]) (by decide +kernel) rfl (Nat.le_of_ble_eq_true rfl) rfl (fun Z O hret => ?_)
  refine zr_iload_n (pc2 := 1) O dX6_longest_0 rfl 1 rfl rfl ?_
  refine zr_if_eq (tgt := 11) (pc2 := 4) O dX6_longest_1 (by decide) rfl (fun c1 => ?_) (fun c1 => ?_)
  · refine zr_aload_n (pc2 := 12) O dX6_longest_11 rfl 0 rfl rfl ?_
    obtain ⟨u12, hu12⟩ : ∃ z9, z9 = s_X6_lived y old P Q Hn sd B hav Y PA := ⟨_, rfl⟩
    refine zr_callV (As := []) (rest := []) (ws2 := [mainW x c0 r0 (b 0) (y 0) u12.2.1 t0 w0 h0 g0 k0 j0 kb, bookW cI b P Q Hn sd B, yearsW cI cJ y (b 0) u12.2.2.1 u12.2.2.2.1 u12.2.2.2.2]) (pc2 := 15) (ci := 6) (g0 := 0) (q0 := 0) (v := (some (.ref (y 0)))) (W := [mainW x c0 r0 (b 0) (y 0) old t0 w0 h0 g0 k0 j0 kb, bookW cI b P Q Hn sd B, yearsW cI cJ y (b 0) hav Y PA]) (W2 := [mainW x c0 r0 (b 0) (y 0) u12.2.1 t0 w0 h0 g0 k0 j0 kb, bookW cI b P Q Hn sd B, yearsW cI cJ y (b 0) u12.2.2.1 u12.2.2.2.1 u12.2.2.2.2]) O (by rw [hu12]; exact (c_X6_lived l D cI cC cJ x b y old kb P Q Hn sd B hav Y PA c0 r0 t0 w0 h0 g0 k0 j0 (by first | assumption | omega) (by first | assumption | omega) (by first | assumption | omega))) sC_X6_longest_165 rfl rfl rfl rfl rfl dX6_longest_12 [0, 1, 2] rfl rfl rfl rfl (Nat.le_of_ble_eq_true rfl) rfl ?_
    show Z _ _ _ [.ref (y 0)]
    refine zr_callV (As := []) (rest := []) (ws2 := [mainW x c0 r0 (b 0) (y 0) u12.2.1 t0 w0 h0 g0 k0 j0 kb, bookW cI b P Q Hn sd B, yearsW cI cJ y (b 0) u12.2.2.1 u12.2.2.2.1 u12.2.2.2.2]) (pc2 := 18) (ci := 5) (g0 := 2) (q0 := 0) O (c_X5_oldest l D cI cC cJ y b u12.2.2.1 u12.2.2.2.1 u12.2.2.2.2 P Q Hn sd B (by first | assumption | omega) (by first | assumption | omega)) sC_X6_longest_188 rfl rfl rfl rfl rfl dX6_longest_15 [2, 1] rfl rfl rfl rfl (Nat.le_of_ble_eq_true rfl) rfl ?_
    show Z _ _ _ [.int (s_X5_oldest u12.2.2.2.1 P B)]
    refine zr_istore_n (lv2 := [(2, .int (s_X5_oldest u12.2.2.2.1 P B)), (0, .ref x), (1, .int wh)]) (pc2 := 19) O dX6_longest_18 rfl (by decide) rfl rfl ?_
    refine zr_iload_n (pc2 := 20) O dX6_longest_19 rfl 2 rfl rfl ?_
    refine zr_if_ne (tgt := 27) (pc2 := 23) O dX6_longest_20 (by decide) rfl (fun c20 => ?_) (fun c20 => ?_)
    · refine zr_aload_n (pc2 := 28) O dX6_longest_27 rfl 1 rfl rfl ?_
      obtain ⟨u28, hu28⟩ : ∃ z9, z9 = s_X6_lived y u12.2.1 P Q Hn sd B u12.2.2.1 u12.2.2.2.1 u12.2.2.2.2 := ⟨_, rfl⟩
      refine zr_callV (As := []) (rest := []) (ws2 := [mainW x c0 r0 (b 0) (y 0) u28.2.1 t0 w0 h0 g0 k0 j0 kb, bookW cI b P Q Hn sd B, yearsW cI cJ y (b 0) u28.2.2.1 u28.2.2.2.1 u28.2.2.2.2]) (pc2 := 31) (ci := 6) (g0 := 0) (q0 := 0) (v := (some (.ref (y 0)))) (W := [mainW x c0 r0 (b 0) (y 0) u12.2.1 t0 w0 h0 g0 k0 j0 kb, bookW cI b P Q Hn sd B, yearsW cI cJ y (b 0) u12.2.2.1 u12.2.2.2.1 u12.2.2.2.2]) (W2 := [mainW x c0 r0 (b 0) (y 0) u28.2.1 t0 w0 h0 g0 k0 j0 kb, bookW cI b P Q Hn sd B, yearsW cI cJ y (b 0) u28.2.2.1 u28.2.2.2.1 u28.2.2.2.2]) O (by rw [hu28]; exact (c_X6_lived l D cI cC cJ x b y u12.2.1 kb P Q Hn sd B u12.2.2.1 u12.2.2.2.1 u12.2.2.2.2 c0 r0 t0 w0 h0 g0 k0 j0 (by first | assumption | omega) (by first | assumption | omega) (by first | assumption | omega))) sC_X6_longest_165 rfl rfl rfl rfl rfl dX6_longest_28 [0, 1, 2] rfl rfl rfl rfl (Nat.le_of_ble_eq_true rfl) rfl ?_
      show Z _ _ _ [.ref (y 0)]
      refine zr_iload_n (pc2 := 32) O dX6_longest_31 rfl 0 rfl rfl ?_
      obtain ⟨u32, hu32⟩ : ∃ z9, z9 = s_X5_ageReached u28.2.2.2.1 P B (s_X5_oldest u12.2.2.2.1 P B) := ⟨_, rfl⟩
      refine zr_callV (As := [.int (s_X5_oldest u12.2.2.2.1 P B)]) (rest := []) (ws2 := [mainW x c0 r0 (b 0) (y 0) u28.2.1 t0 w0 h0 g0 k0 j0 kb, bookW cI b P Q Hn sd B, yearsW cI cJ y (b 0) u28.2.2.1 u28.2.2.2.1 u28.2.2.2.2]) (pc2 := 35) (ci := 5) (g0 := 2) (q0 := 0) (v := (some (.int u32))) (W := [yearsW cI cJ y (b 0) u28.2.2.1 u28.2.2.2.1 u28.2.2.2.2, bookW cI b P Q Hn sd B]) (W2 := [yearsW cI cJ y (b 0) u28.2.2.1 u28.2.2.2.1 u28.2.2.2.2, bookW cI b P Q Hn sd B]) O (by rw [hu32]; exact (c_X5_ageReached l D cI cC cJ y b u28.2.2.1 u28.2.2.2.1 u28.2.2.2.2 P Q Hn sd B (s_X5_oldest u12.2.2.2.1 P B) (by first | assumption | omega))) sC_X6_longest_191 rfl rfl rfl rfl rfl dX6_longest_32 [2, 1] rfl rfl rfl rfl (Nat.le_of_ble_eq_true rfl) rfl ?_
      show Z _ _ _ [.int u32]
      have hE : s_X6_longest y old P Q Hn sd B hav Y PA wh = (u32, u28.2.1, u28.2.2.1, u28.2.2.2.1, u28.2.2.2.2) := by subst hu32; subst hu28; subst hu12; exact ((if_pos c1).trans (if_neg c20))
      exact hret _ _ _ _ dX6_longest_35 rfl (by rw [hE]) (by rw [hE])
    · refine zr_iload_n (pc2 := 24) O dX6_longest_23 rfl 0 rfl rfl ?_
      refine zr_goto (tgt := 35) O dX6_longest_24 (by decide) ?_
      have hE : s_X6_longest y old P Q Hn sd B hav Y PA wh = ((s_X5_oldest u12.2.2.2.1 P B), u12.2.1, u12.2.2.1, u12.2.2.2.1, u12.2.2.2.2) := by subst hu12; exact ((if_pos c1).trans (if_pos c20))
      exact hret _ _ _ _ dX6_longest_35 rfl (by rw [hE]) (by rw [hE])
  · refine zr_iload_n (pc2 := 5) O dX6_longest_4 rfl 1 rfl rfl ?_
    refine zr_iconst (v := (nI 1)) (pc2 := 6) O dX6_longest_5 (by decide +kernel) rfl ?_
    refine zr_icmp_eq (tgt := 11) (pc2 := 9) O dX6_longest_6 (by decide) rfl (fun c6 => ?_) (fun c6 => ?_)
    · refine zr_aload_n (pc2 := 12) O dX6_longest_11 rfl 0 rfl rfl ?_
      obtain ⟨u12, hu12⟩ : ∃ z9, z9 = s_X6_lived y old P Q Hn sd B hav Y PA := ⟨_, rfl⟩
      refine zr_callV (As := []) (rest := []) (ws2 := [mainW x c0 r0 (b 0) (y 0) u12.2.1 t0 w0 h0 g0 k0 j0 kb, bookW cI b P Q Hn sd B, yearsW cI cJ y (b 0) u12.2.2.1 u12.2.2.2.1 u12.2.2.2.2]) (pc2 := 15) (ci := 6) (g0 := 0) (q0 := 0) (v := (some (.ref (y 0)))) (W := [mainW x c0 r0 (b 0) (y 0) old t0 w0 h0 g0 k0 j0 kb, bookW cI b P Q Hn sd B, yearsW cI cJ y (b 0) hav Y PA]) (W2 := [mainW x c0 r0 (b 0) (y 0) u12.2.1 t0 w0 h0 g0 k0 j0 kb, bookW cI b P Q Hn sd B, yearsW cI cJ y (b 0) u12.2.2.1 u12.2.2.2.1 u12.2.2.2.2]) O (by rw [hu12]; exact (c_X6_lived l D cI cC cJ x b y old kb P Q Hn sd B hav Y PA c0 r0 t0 w0 h0 g0 k0 j0 (by first | assumption | omega) (by first | assumption | omega) (by first | assumption | omega))) sC_X6_longest_165 rfl rfl rfl rfl rfl dX6_longest_12 [0, 1, 2] rfl rfl rfl rfl (Nat.le_of_ble_eq_true rfl) rfl ?_
      show Z _ _ _ [.ref (y 0)]
      refine zr_callV (As := []) (rest := []) (ws2 := [mainW x c0 r0 (b 0) (y 0) u12.2.1 t0 w0 h0 g0 k0 j0 kb, bookW cI b P Q Hn sd B, yearsW cI cJ y (b 0) u12.2.2.1 u12.2.2.2.1 u12.2.2.2.2]) (pc2 := 18) (ci := 5) (g0 := 2) (q0 := 0) O (c_X5_oldest l D cI cC cJ y b u12.2.2.1 u12.2.2.2.1 u12.2.2.2.2 P Q Hn sd B (by first | assumption | omega) (by first | assumption | omega)) sC_X6_longest_188 rfl rfl rfl rfl rfl dX6_longest_15 [2, 1] rfl rfl rfl rfl (Nat.le_of_ble_eq_true rfl) rfl ?_
      show Z _ _ _ [.int (s_X5_oldest u12.2.2.2.1 P B)]
      refine zr_istore_n (lv2 := [(2, .int (s_X5_oldest u12.2.2.2.1 P B)), (0, .ref x), (1, .int wh)]) (pc2 := 19) O dX6_longest_18 rfl (by decide) rfl rfl ?_
      refine zr_iload_n (pc2 := 20) O dX6_longest_19 rfl 2 rfl rfl ?_
      refine zr_if_ne (tgt := 27) (pc2 := 23) O dX6_longest_20 (by decide) rfl (fun c20 => ?_) (fun c20 => ?_)
      · refine zr_aload_n (pc2 := 28) O dX6_longest_27 rfl 1 rfl rfl ?_
        obtain ⟨u28, hu28⟩ : ∃ z9, z9 = s_X6_lived y u12.2.1 P Q Hn sd B u12.2.2.1 u12.2.2.2.1 u12.2.2.2.2 := ⟨_, rfl⟩
        refine zr_callV (As := []) (rest := []) (ws2 := [mainW x c0 r0 (b 0) (y 0) u28.2.1 t0 w0 h0 g0 k0 j0 kb, bookW cI b P Q Hn sd B, yearsW cI cJ y (b 0) u28.2.2.1 u28.2.2.2.1 u28.2.2.2.2]) (pc2 := 31) (ci := 6) (g0 := 0) (q0 := 0) (v := (some (.ref (y 0)))) (W := [mainW x c0 r0 (b 0) (y 0) u12.2.1 t0 w0 h0 g0 k0 j0 kb, bookW cI b P Q Hn sd B, yearsW cI cJ y (b 0) u12.2.2.1 u12.2.2.2.1 u12.2.2.2.2]) (W2 := [mainW x c0 r0 (b 0) (y 0) u28.2.1 t0 w0 h0 g0 k0 j0 kb, bookW cI b P Q Hn sd B, yearsW cI cJ y (b 0) u28.2.2.1 u28.2.2.2.1 u28.2.2.2.2]) O (by rw [hu28]; exact (c_X6_lived l D cI cC cJ x b y u12.2.1 kb P Q Hn sd B u12.2.2.1 u12.2.2.2.1 u12.2.2.2.2 c0 r0 t0 w0 h0 g0 k0 j0 (by first | assumption | omega) (by first | assumption | omega) (by first | assumption | omega))) sC_X6_longest_165 rfl rfl rfl rfl rfl dX6_longest_28 [0, 1, 2] rfl rfl rfl rfl (Nat.le_of_ble_eq_true rfl) rfl ?_
        show Z _ _ _ [.ref (y 0)]
        refine zr_iload_n (pc2 := 32) O dX6_longest_31 rfl 0 rfl rfl ?_
        obtain ⟨u32, hu32⟩ : ∃ z9, z9 = s_X5_ageReached u28.2.2.2.1 P B (s_X5_oldest u12.2.2.2.1 P B) := ⟨_, rfl⟩
        refine zr_callV (As := [.int (s_X5_oldest u12.2.2.2.1 P B)]) (rest := []) (ws2 := [mainW x c0 r0 (b 0) (y 0) u28.2.1 t0 w0 h0 g0 k0 j0 kb, bookW cI b P Q Hn sd B, yearsW cI cJ y (b 0) u28.2.2.1 u28.2.2.2.1 u28.2.2.2.2]) (pc2 := 35) (ci := 5) (g0 := 2) (q0 := 0) (v := (some (.int u32))) (W := [yearsW cI cJ y (b 0) u28.2.2.1 u28.2.2.2.1 u28.2.2.2.2, bookW cI b P Q Hn sd B]) (W2 := [yearsW cI cJ y (b 0) u28.2.2.1 u28.2.2.2.1 u28.2.2.2.2, bookW cI b P Q Hn sd B]) O (by rw [hu32]; exact (c_X5_ageReached l D cI cC cJ y b u28.2.2.1 u28.2.2.2.1 u28.2.2.2.2 P Q Hn sd B (s_X5_oldest u12.2.2.2.1 P B) (by first | assumption | omega))) sC_X6_longest_191 rfl rfl rfl rfl rfl dX6_longest_32 [2, 1] rfl rfl rfl rfl (Nat.le_of_ble_eq_true rfl) rfl ?_
        show Z _ _ _ [.int u32]
        have hE : s_X6_longest y old P Q Hn sd B hav Y PA wh = (u32, u28.2.1, u28.2.2.1, u28.2.2.2.1, u28.2.2.2.2) := by subst hu32; subst hu28; subst hu12; exact ((if_neg c1).trans ((if_pos c6).trans (if_neg c20)))
        exact hret _ _ _ _ dX6_longest_35 rfl (by rw [hE]) (by rw [hE])
      · refine zr_iload_n (pc2 := 24) O dX6_longest_23 rfl 0 rfl rfl ?_
        refine zr_goto (tgt := 35) O dX6_longest_24 (by decide) ?_
        have hE : s_X6_longest y old P Q Hn sd B hav Y PA wh = ((s_X5_oldest u12.2.2.2.1 P B), u12.2.1, u12.2.2.1, u12.2.2.2.1, u12.2.2.2.2) := by subst hu12; exact ((if_neg c1).trans ((if_pos c6).trans (if_pos c20)))
        exact hret _ _ _ _ dX6_longest_35 rfl (by rw [hE]) (by rw [hE])
    · refine zr_iconst (v := (-1)) (pc2 := 10) O dX6_longest_9 (by decide +kernel) rfl ?_
      have hE : s_X6_longest y old P Q Hn sd B hav Y PA wh = ((-1), old, hav, Y, PA) := by exact ((if_neg c1).trans (if_neg c6))
      exact hret _ _ _ _ dX6_longest_10 rfl (by rw [hE]) (by rw [hE])
/-! X6_mostEverHeld -/
def s_X6_mostEverHeld (P : Nat) (Q : Nat) (Hn : Nat) (sd : Int32) (B : zB) (Y2 : zY) (PA2 : Nat → Nat → Int32) (i : Int32) : Int32 × Nat × Nat × Nat × Int32 × zB × Int32 × zY × (Nat → Nat → Int32) := let u23 := s_X5_run Y2 PA2 P Q Hn sd (s_X0_voidBequestsOf Q B i); ((u23.2.1.2.2.2.1 i.toNatClampNeg), P, Q, Hn, sd, (s_X0_voidBequestsOf Q B i), u23.1, u23.2.1, u23.2.2)
set_option maxHeartbeats 4000000 in
set_option maxRecDepth 100000 in
theorem c_X6_mostEverHeld (l : Launch) (D : va_G) (cI cC cJ : ClassId) (x : Nat) (b : Nat → Nat) (t : Nat → Nat) (w : Nat → Nat) (old : Bool) (kb : Nat) (P : Nat) (Q : Nat) (Hn : Nat) (sd : Int32) (B : zB) (P2 : Nat) (Q2 : Nat) (H2 : Nat) (sd2 : Int32) (B2 : zB) (hav2 : Int32) (Y2 : zY) (PA2 : Nat → Nat → Int32) (i : Int32) (c0 : Nat) (r0 : Nat) (y0 : Nat) (h0 : Nat) (g0 : Nat) (k0 : Nat) (j0 : Nat) (hP : P ≤ 6) (hQ : Q ≤ 9) (hH : Hn ≤ 4) (hi : vp_in i 6) : zD l yX6_mostEverHeld wsX6_mostEverHeld rm_X6_mostEverHeld D (zT cI cC cJ) [.ref x, .int i] [mainW x c0 r0 (b 0) y0 old (t 0) (w 0) h0 g0 k0 j0 kb, bookW cI b P Q Hn sd B, bookW cI t P2 Q2 H2 sd2 B2, yearsW cI cJ w (t 0) hav2 Y2 PA2] (some (.int ((s_X6_mostEverHeld P Q Hn sd B Y2 PA2 i).1))) [mainW x c0 r0 (b 0) y0 old (t 0) (w 0) h0 g0 k0 j0 kb, bookW cI b P Q Hn sd B, bookW cI t ((s_X6_mostEverHeld P Q Hn sd B Y2 PA2 i).2.1) ((s_X6_mostEverHeld P Q Hn sd B Y2 PA2 i).2.2.1) ((s_X6_mostEverHeld P Q Hn sd B Y2 PA2 i).2.2.2.1) ((s_X6_mostEverHeld P Q Hn sd B Y2 PA2 i).2.2.2.2.1) ((s_X6_mostEverHeld P Q Hn sd B Y2 PA2 i).2.2.2.2.2.1), yearsW cI cJ w (t 0) ((s_X6_mostEverHeld P Q Hn sd B Y2 PA2 i).2.2.2.2.2.2.1) ((s_X6_mostEverHeld P Q Hn sd B Y2 PA2 i).2.2.2.2.2.2.2.1) ((s_X6_mostEverHeld P Q Hn sd B Y2 PA2 i).2.2.2.2.2.2.2.2)] := by
  refine zD_int (cc := cX6_mostEverHeld) (maxL := 2) (ty := .int) (lv := [(0, .ref x), (1, .int i)]) (by decide +kernel) rfl (Nat.le_of_ble_eq_true rfl) rfl (fun Z O hret => ?_)
  refine zr_aload_n (pc2 := 1) O dX6_mostEverHeld_0 rfl 0 rfl rfl ?_
  refine zr_getf (v := .ref (t 0)) (pc2 := 4) O sF_X6_mostEverHeld_45 0 0 rfl rfl rfl dX6_mostEverHeld_1 rfl ?_
  refine zr_aload_n (pc2 := 5) O dX6_mostEverHeld_4 rfl 0 rfl rfl ?_
  refine zr_getf (v := .ref (b 0)) (pc2 := 8) O sF_X6_mostEverHeld_28 0 0 rfl rfl rfl dX6_mostEverHeld_5 rfl ?_
  refine zr_callV (As := [.ref (b 0)]) (rest := []) (ws2 := [mainW x c0 r0 (b 0) y0 old (t 0) (w 0) h0 g0 k0 j0 kb, bookW cI b P Q Hn sd B, bookW cI t P Q Hn sd B, yearsW cI cJ w (t 0) hav2 Y2 PA2]) (pc2 := 11) (ci := 0) (g0 := 2) (q0 := 0) O (c_X0_copyFrom l D cI cC cJ t b P2 Q2 H2 sd2 B2 P Q Hn sd B) sC_X6_mostEverHeld_103 rfl rfl rfl rfl rfl dX6_mostEverHeld_8 [2, 1] rfl rfl rfl rfl (Nat.le_of_ble_eq_true rfl) rfl ?_
  show Z _ _ _ []
  refine zr_aload_n (pc2 := 12) O dX6_mostEverHeld_11 rfl 0 rfl rfl ?_
  refine zr_getf (v := .ref (t 0)) (pc2 := 15) O sF_X6_mostEverHeld_45 0 0 rfl rfl rfl dX6_mostEverHeld_12 rfl ?_
  refine zr_iload_n (pc2 := 16) O dX6_mostEverHeld_15 rfl 1 rfl rfl ?_
  refine zr_callV (As := [.int i]) (rest := []) (ws2 := [mainW x c0 r0 (b 0) y0 old (t 0) (w 0) h0 g0 k0 j0 kb, bookW cI b P Q Hn sd B, bookW cI t P Q Hn sd (s_X0_voidBequestsOf Q B i), yearsW cI cJ w (t 0) hav2 Y2 PA2]) (pc2 := 19) (ci := 0) (g0 := 2) (q0 := 0) O (c_X0_voidBequestsOf l D cI cC cJ t P Q Hn sd B i (by first | assumption | omega)) sC_X6_mostEverHeld_250 rfl rfl rfl rfl rfl dX6_mostEverHeld_16 [2] rfl rfl rfl rfl (Nat.le_of_ble_eq_true rfl) rfl ?_
  show Z _ _ _ []
  refine zr_aload_n (pc2 := 20) O dX6_mostEverHeld_19 rfl 0 rfl rfl ?_
  refine zr_getf (v := .ref (w 0)) (pc2 := 23) O sF_X6_mostEverHeld_48 0 0 rfl rfl rfl dX6_mostEverHeld_20 rfl ?_
  obtain ⟨u23, hu23⟩ : ∃ z9, z9 = s_X5_run Y2 PA2 P Q Hn sd (s_X0_voidBequestsOf Q B i) := ⟨_, rfl⟩
  refine zr_callV (As := []) (rest := []) (ws2 := [mainW x c0 r0 (b 0) y0 old (t 0) (w 0) h0 g0 k0 j0 kb, bookW cI b P Q Hn sd B, bookW cI t P Q Hn sd (s_X0_voidBequestsOf Q B i), yearsW cI cJ w (t 0) u23.1 u23.2.1 u23.2.2]) (pc2 := 26) (ci := 5) (g0 := 3) (q0 := 0) (v := none) (W := [yearsW cI cJ w (t 0) hav2 Y2 PA2, bookW cI t P Q Hn sd (s_X0_voidBequestsOf Q B i)]) (W2 := [yearsW cI cJ w (t 0) u23.1 u23.2.1 u23.2.2, bookW cI t P Q Hn sd (s_X0_voidBequestsOf Q B i)]) O (by rw [hu23]; exact (c_X5_run l D cI cC cJ w t hav2 Y2 PA2 P Q Hn sd (s_X0_voidBequestsOf Q B i) (by first | assumption | omega) (by first | assumption | omega) (by first | assumption | omega))) sC_X6_mostEverHeld_213 rfl rfl rfl rfl rfl dX6_mostEverHeld_23 [3, 2] rfl rfl rfl rfl (Nat.le_of_ble_eq_true rfl) rfl ?_
  show Z _ _ _ []
  refine zr_aload_n (pc2 := 27) O dX6_mostEverHeld_26 rfl 0 rfl rfl ?_
  refine zr_getf (v := .ref (w 0)) (pc2 := 30) O sF_X6_mostEverHeld_48 0 0 rfl rfl rfl dX6_mostEverHeld_27 rfl ?_
  refine zr_getf (v := .ref (w 4)) (pc2 := 33) O sF_X6_mostEverHeld_253 3 0 rfl rfl rfl dX6_mostEverHeld_30 rfl ?_
  refine zr_iload_n (pc2 := 34) O dX6_mostEverHeld_33 rfl 1 rfl rfl ?_
  refine zr_iald (pc2 := 35) O 3 4 0 rfl rfl rfl (by first | assumption | exact zin_of (by assumption) (by assumption) (by assumption) (by decide) | exact hp_in (by assumption) (by assumption) (by decide) | exact hb_in (by assumption) (by assumption) (by decide) | exact il_in (by assumption) (by assumption) (by decide)) dX6_mostEverHeld_34 rfl ?_
  have hE : s_X6_mostEverHeld P Q Hn sd B Y2 PA2 i = ((u23.2.1.2.2.2.1 i.toNatClampNeg), P, Q, Hn, sd, (s_X0_voidBequestsOf Q B i), u23.1, u23.2.1, u23.2.2) := by subst hu23; exact rfl
  exact hret _ _ _ _ dX6_mostEverHeld_35 rfl (by rw [hE]) (by rw [hE])
/-! X6_greatest -/
def s_X6_greatest (P : Nat) (Q : Nat) (Hn : Nat) (sd : Int32) (B : zB) (P2 : Nat) (Q2 : Nat) (H2 : Nat) (sd2 : Int32) (B2 : zB) (hav2 : Int32) (Y2 : zY) (PA2 : Nat → Nat → Int32) (i : Int32) : Int32 × Nat × Nat × Nat × Int32 × zB × Int32 × zY × (Nat → Nat → Int32) := if (s_X0_hasPerson P i) = true then let u15 := s_X6_mostEverHeld P Q Hn sd B Y2 PA2 i; if (if (nI 300) < u15.1 then (nI 300) else u15.1) < (nI 1) then ((-4), u15.2.1, u15.2.2.1, u15.2.2.2.1, u15.2.2.2.2.1, u15.2.2.2.2.2.1, u15.2.2.2.2.2.2.1, u15.2.2.2.2.2.2.2.1, u15.2.2.2.2.2.2.2.2) else ((if (nI 300) < u15.1 then (nI 300) else u15.1), u15.2.1, u15.2.2.1, u15.2.2.2.1, u15.2.2.2.2.1, u15.2.2.2.2.2.1, u15.2.2.2.2.2.2.1, u15.2.2.2.2.2.2.2.1, u15.2.2.2.2.2.2.2.2) else ((-1), P2, Q2, H2, sd2, B2, hav2, Y2, PA2)
set_option maxHeartbeats 4000000 in
set_option maxRecDepth 100000 in
theorem c_X6_greatest (l : Launch) (D : va_G) (cI cC cJ : ClassId) (x : Nat) (b : Nat → Nat) (t : Nat → Nat) (w : Nat → Nat) (old : Bool) (kb : Nat) (P : Nat) (Q : Nat) (Hn : Nat) (sd : Int32) (B : zB) (P2 : Nat) (Q2 : Nat) (H2 : Nat) (sd2 : Int32) (B2 : zB) (hav2 : Int32) (Y2 : zY) (PA2 : Nat → Nat → Int32) (i : Int32) (c0 : Nat) (r0 : Nat) (y0 : Nat) (h0 : Nat) (g0 : Nat) (k0 : Nat) (j0 : Nat) (hP : P ≤ 6) (hQ : Q ≤ 9) (hH : Hn ≤ 4) : zD l yX6_greatest wsX6_greatest rm_X6_greatest D (zT cI cC cJ) [.ref x, .int i] [mainW x c0 r0 (b 0) y0 old (t 0) (w 0) h0 g0 k0 j0 kb, bookW cI b P Q Hn sd B, bookW cI t P2 Q2 H2 sd2 B2, yearsW cI cJ w (t 0) hav2 Y2 PA2] (some (.int ((s_X6_greatest P Q Hn sd B P2 Q2 H2 sd2 B2 hav2 Y2 PA2 i).1))) [mainW x c0 r0 (b 0) y0 old (t 0) (w 0) h0 g0 k0 j0 kb, bookW cI b P Q Hn sd B, bookW cI t ((s_X6_greatest P Q Hn sd B P2 Q2 H2 sd2 B2 hav2 Y2 PA2 i).2.1) ((s_X6_greatest P Q Hn sd B P2 Q2 H2 sd2 B2 hav2 Y2 PA2 i).2.2.1) ((s_X6_greatest P Q Hn sd B P2 Q2 H2 sd2 B2 hav2 Y2 PA2 i).2.2.2.1) ((s_X6_greatest P Q Hn sd B P2 Q2 H2 sd2 B2 hav2 Y2 PA2 i).2.2.2.2.1) ((s_X6_greatest P Q Hn sd B P2 Q2 H2 sd2 B2 hav2 Y2 PA2 i).2.2.2.2.2.1), yearsW cI cJ w (t 0) ((s_X6_greatest P Q Hn sd B P2 Q2 H2 sd2 B2 hav2 Y2 PA2 i).2.2.2.2.2.2.1) ((s_X6_greatest P Q Hn sd B P2 Q2 H2 sd2 B2 hav2 Y2 PA2 i).2.2.2.2.2.2.2.1) ((s_X6_greatest P Q Hn sd B P2 Q2 H2 sd2 B2 hav2 Y2 PA2 i).2.2.2.2.2.2.2.2)] := by
  refine zD_int (cc := cX6_greatest) (maxL := 3) (ty := .int) (lv := [(0, .ref x), (1, .int i)]) (by decide +kernel) rfl (Nat.le_of_ble_eq_true rfl) rfl (fun Z O hret => ?_)
  refine zr_aload_n (pc2 := 1) O dX6_greatest_0 rfl 0 rfl rfl ?_
  refine zr_getf (v := .ref (b 0)) (pc2 := 4) O sF_X6_greatest_28 0 0 rfl rfl rfl dX6_greatest_1 rfl ?_
  refine zr_iload_n (pc2 := 5) O dX6_greatest_4 rfl 1 rfl rfl ?_
  refine zr_callV (As := [.int i]) (rest := []) (ws2 := [mainW x c0 r0 (b 0) y0 old (t 0) (w 0) h0 g0 k0 j0 kb, bookW cI b P Q Hn sd B, bookW cI t P2 Q2 H2 sd2 B2, yearsW cI cJ w (t 0) hav2 Y2 PA2]) (pc2 := 8) (ci := 0) (g0 := 1) (q0 := 0) O (c_X0_hasPerson l D cI cC cJ b P Q Hn sd B i) sC_X6_greatest_108 rfl rfl rfl rfl rfl dX6_greatest_5 [1] rfl rfl rfl rfl (Nat.le_of_ble_eq_true rfl) rfl ?_
  show Z _ _ _ [.int (zb (s_X0_hasPerson P i))]
  refine zb_if_ne (tgt := 13) (pc2 := 11) O dX6_greatest_8 (by decide) rfl (fun c8 => ?_) (fun c8 => ?_)
  · refine zr_aload_n (pc2 := 14) O dX6_greatest_13 rfl 0 rfl rfl ?_
    refine zr_iload_n (pc2 := 15) O dX6_greatest_14 rfl 1 rfl rfl ?_
    obtain ⟨u15, hu15⟩ : ∃ z9, z9 = s_X6_mostEverHeld P Q Hn sd B Y2 PA2 i := ⟨_, rfl⟩
    refine zr_callV (As := [.int i]) (rest := []) (ws2 := [mainW x c0 r0 (b 0) y0 old (t 0) (w 0) h0 g0 k0 j0 kb, bookW cI b P Q Hn sd B, bookW cI t u15.2.1 u15.2.2.1 u15.2.2.2.1 u15.2.2.2.2.1 u15.2.2.2.2.2.1, yearsW cI cJ w (t 0) u15.2.2.2.2.2.2.1 u15.2.2.2.2.2.2.2.1 u15.2.2.2.2.2.2.2.2]) (pc2 := 18) (ci := 6) (g0 := 0) (q0 := 0) (v := (some (.int u15.1))) (W := [mainW x c0 r0 (b 0) y0 old (t 0) (w 0) h0 g0 k0 j0 kb, bookW cI b P Q Hn sd B, bookW cI t P2 Q2 H2 sd2 B2, yearsW cI cJ w (t 0) hav2 Y2 PA2]) (W2 := [mainW x c0 r0 (b 0) y0 old (t 0) (w 0) h0 g0 k0 j0 kb, bookW cI b P Q Hn sd B, bookW cI t u15.2.1 u15.2.2.1 u15.2.2.2.1 u15.2.2.2.2.1 u15.2.2.2.2.2.1, yearsW cI cJ w (t 0) u15.2.2.2.2.2.2.1 u15.2.2.2.2.2.2.2.1 u15.2.2.2.2.2.2.2.2]) O (by rw [hu15]; exact (c_X6_mostEverHeld l D cI cC cJ x b t w old kb P Q Hn sd B P2 Q2 H2 sd2 B2 hav2 Y2 PA2 i c0 r0 y0 h0 g0 k0 j0 hP hQ hH (hp_in c8 hP (by decide)))) sC_X6_greatest_194 rfl rfl rfl rfl rfl dX6_greatest_15 [0, 1, 2, 3] rfl rfl rfl rfl (Nat.le_of_ble_eq_true rfl) rfl ?_
    show Z _ _ _ [.int u15.1]
    refine zr_sipush (v := (nI 300)) (pc2 := 21) O dX6_greatest_18 (by decide +kernel) rfl ?_
    refine zr_min (v := (if (nI 300) < u15.1 then (nI 300) else u15.1)) (pc2 := 24) O sM_X6_greatest_197.1 sM_X6_greatest_197.2.1 sM_X6_greatest_197.2.2.1 sM_X6_greatest_197.2.2.2 (by decide) (Nat.le_of_ble_eq_true rfl) dX6_greatest_21 rfl rfl ?_
    refine zr_istore_n (lv2 := [(2, .int (if (nI 300) < u15.1 then (nI 300) else u15.1)), (0, .ref x), (1, .int i)]) (pc2 := 25) O dX6_greatest_24 rfl (by decide) rfl rfl ?_
    refine zr_iload_n (pc2 := 26) O dX6_greatest_25 rfl 0 rfl rfl ?_
    refine zr_iconst (v := (nI 1)) (pc2 := 27) O dX6_greatest_26 (by decide +kernel) rfl ?_
    refine zr_icmp_lt (tgt := 34) (pc2 := 30) O dX6_greatest_27 (by decide) rfl (fun c27 => ?_) (fun c27 => ?_)
    · refine zr_bipush (v := (-4)) (pc2 := 36) O dX6_greatest_34 (by decide +kernel) rfl ?_
      have hE : s_X6_greatest P Q Hn sd B P2 Q2 H2 sd2 B2 hav2 Y2 PA2 i = ((-4), u15.2.1, u15.2.2.1, u15.2.2.2.1, u15.2.2.2.2.1, u15.2.2.2.2.2.1, u15.2.2.2.2.2.2.1, u15.2.2.2.2.2.2.2.1, u15.2.2.2.2.2.2.2.2) := by subst hu15; exact ((zif_t c8).trans (if_pos c27))
      exact hret _ _ _ _ dX6_greatest_36 rfl (by rw [hE]) (by rw [hE])
    · refine zr_iload_n (pc2 := 31) O dX6_greatest_30 rfl 0 rfl rfl ?_
      refine zr_goto (tgt := 36) O dX6_greatest_31 (by decide) ?_
      have hE : s_X6_greatest P Q Hn sd B P2 Q2 H2 sd2 B2 hav2 Y2 PA2 i = ((if (nI 300) < u15.1 then (nI 300) else u15.1), u15.2.1, u15.2.2.1, u15.2.2.2.1, u15.2.2.2.2.1, u15.2.2.2.2.2.1, u15.2.2.2.2.2.2.1, u15.2.2.2.2.2.2.2.1, u15.2.2.2.2.2.2.2.2) := by subst hu15; exact ((zif_t c8).trans (if_neg c27))
      exact hret _ _ _ _ dX6_greatest_36 rfl (by rw [hE]) (by rw [hE])
  · refine zr_iconst (v := (-1)) (pc2 := 12) O dX6_greatest_11 (by decide +kernel) rfl ?_
    have hE : s_X6_greatest P Q Hn sd B P2 Q2 H2 sd2 B2 hav2 Y2 PA2 i = ((-1), P2, Q2, H2, sd2, B2, hav2, Y2, PA2) := by exact (zif_f c8)
    exact hret _ _ _ _ dX6_greatest_12 rfl (by rw [hE]) (by rw [hE])
/-! X6_needs -/
def s_X6_needs (P : Nat) (Q : Nat) (Hn : Nat) (sd : Int32) (B : zB) (P2 : Nat) (Q2 : Nat) (H2 : Nat) (sd2 : Int32) (B2 : zB) (hav2 : Int32) (Y2 : zY) (PA2 : Nat → Nat → Int32) (i : Int32) : Int32 × Nat × Nat × Nat × Int32 × zB × Int32 × zY × (Nat → Nat → Int32) := if (s_X0_hasPerson P i) = true then if (s_X0_leaves Q B i) = 0 then ((-4), P2, Q2, H2, sd2, B2, hav2, Y2, PA2) else let u32 := s_X6_mostEverHeld P Q Hn sd B Y2 PA2 i; let x40 := (if ((s_X0_leaves Q B i) - u32.1) < (nI 0) then (nI 0) else ((s_X0_leaves Q B i) - u32.1)); if (nI 300) < x40 then ((-4), u32.2.1, u32.2.2.1, u32.2.2.2.1, u32.2.2.2.2.1, u32.2.2.2.2.2.1, u32.2.2.2.2.2.2.1, u32.2.2.2.2.2.2.2.1, u32.2.2.2.2.2.2.2.2) else (x40, u32.2.1, u32.2.2.1, u32.2.2.2.1, u32.2.2.2.2.1, u32.2.2.2.2.2.1, u32.2.2.2.2.2.2.1, u32.2.2.2.2.2.2.2.1, u32.2.2.2.2.2.2.2.2) else ((-1), P2, Q2, H2, sd2, B2, hav2, Y2, PA2)
set_option maxHeartbeats 4000000 in
set_option maxRecDepth 100000 in
theorem c_X6_needs (l : Launch) (D : va_G) (cI cC cJ : ClassId) (x : Nat) (b : Nat → Nat) (t : Nat → Nat) (w : Nat → Nat) (old : Bool) (kb : Nat) (P : Nat) (Q : Nat) (Hn : Nat) (sd : Int32) (B : zB) (P2 : Nat) (Q2 : Nat) (H2 : Nat) (sd2 : Int32) (B2 : zB) (hav2 : Int32) (Y2 : zY) (PA2 : Nat → Nat → Int32) (i : Int32) (c0 : Nat) (r0 : Nat) (y0 : Nat) (h0 : Nat) (g0 : Nat) (k0 : Nat) (j0 : Nat) (hP : P ≤ 6) (hQ : Q ≤ 9) (hH : Hn ≤ 4) : zD l yX6_needs wsX6_needs rm_X6_needs D (zT cI cC cJ) [.ref x, .int i] [mainW x c0 r0 (b 0) y0 old (t 0) (w 0) h0 g0 k0 j0 kb, bookW cI b P Q Hn sd B, bookW cI t P2 Q2 H2 sd2 B2, yearsW cI cJ w (t 0) hav2 Y2 PA2] (some (.int ((s_X6_needs P Q Hn sd B P2 Q2 H2 sd2 B2 hav2 Y2 PA2 i).1))) [mainW x c0 r0 (b 0) y0 old (t 0) (w 0) h0 g0 k0 j0 kb, bookW cI b P Q Hn sd B, bookW cI t ((s_X6_needs P Q Hn sd B P2 Q2 H2 sd2 B2 hav2 Y2 PA2 i).2.1) ((s_X6_needs P Q Hn sd B P2 Q2 H2 sd2 B2 hav2 Y2 PA2 i).2.2.1) ((s_X6_needs P Q Hn sd B P2 Q2 H2 sd2 B2 hav2 Y2 PA2 i).2.2.2.1) ((s_X6_needs P Q Hn sd B P2 Q2 H2 sd2 B2 hav2 Y2 PA2 i).2.2.2.2.1) ((s_X6_needs P Q Hn sd B P2 Q2 H2 sd2 B2 hav2 Y2 PA2 i).2.2.2.2.2.1), yearsW cI cJ w (t 0) ((s_X6_needs P Q Hn sd B P2 Q2 H2 sd2 B2 hav2 Y2 PA2 i).2.2.2.2.2.2.1) ((s_X6_needs P Q Hn sd B P2 Q2 H2 sd2 B2 hav2 Y2 PA2 i).2.2.2.2.2.2.2.1) ((s_X6_needs P Q Hn sd B P2 Q2 H2 sd2 B2 hav2 Y2 PA2 i).2.2.2.2.2.2.2.2)] := by
  refine zD_int (cc := cX6_needs) (maxL := 4) (ty := .int) (lv := [(0, .ref x), (1, .int i)]) (by decide +kernel) rfl (Nat.le_of_ble_eq_true rfl) rfl (fun Z O hret => ?_)
  refine zr_aload_n (pc2 := 1) O dX6_needs_0 rfl 0 rfl rfl ?_
  refine zr_getf (v := .ref (b 0)) (pc2 := 4) O sF_X6_needs_28 0 0 rfl rfl rfl dX6_needs_1 rfl ?_
  refine zr_iload_n (pc2 := 5) O dX6_needs_4 rfl 1 rfl rfl ?_
  refine zr_callV (As := [.int i]) (rest := []) (ws2 := [mainW x c0 r0 (b 0) y0 old (t 0) (w 0) h0 g0 k0 j0 kb, bookW cI b P Q Hn sd B, bookW cI t P2 Q2 H2 sd2 B2, yearsW cI cJ w (t 0) hav2 Y2 PA2]) (pc2 := 8) (ci := 0) (g0 := 1) (q0 := 0) O (c_X0_hasPerson l D cI cC cJ b P Q Hn sd B i) sC_X6_needs_108 rfl rfl rfl rfl rfl dX6_needs_5 [1] rfl rfl rfl rfl (Nat.le_of_ble_eq_true rfl) rfl ?_
  show Z _ _ _ [.int (zb (s_X0_hasPerson P i))]
  refine zb_if_ne (tgt := 13) (pc2 := 11) O dX6_needs_8 (by decide) rfl (fun c8 => ?_) (fun c8 => ?_)
  · refine zr_aload_n (pc2 := 14) O dX6_needs_13 rfl 0 rfl rfl ?_
    refine zr_getf (v := .ref (b 0)) (pc2 := 17) O sF_X6_needs_28 0 0 rfl rfl rfl dX6_needs_14 rfl ?_
    refine zr_iload_n (pc2 := 18) O dX6_needs_17 rfl 1 rfl rfl ?_
    refine zr_callV (As := [.int i]) (rest := []) (ws2 := [mainW x c0 r0 (b 0) y0 old (t 0) (w 0) h0 g0 k0 j0 kb, bookW cI b P Q Hn sd B, bookW cI t P2 Q2 H2 sd2 B2, yearsW cI cJ w (t 0) hav2 Y2 PA2]) (pc2 := 21) (ci := 0) (g0 := 1) (q0 := 0) O (c_X0_leaves l D cI cC cJ b P Q Hn sd B i (by first | assumption | omega)) sC_X6_needs_128 rfl rfl rfl rfl rfl dX6_needs_18 [1] rfl rfl rfl rfl (Nat.le_of_ble_eq_true rfl) rfl ?_
    show Z _ _ _ [.int (s_X0_leaves Q B i)]
    refine zr_istore_n (lv2 := [(2, .int (s_X0_leaves Q B i)), (0, .ref x), (1, .int i)]) (pc2 := 22) O dX6_needs_21 rfl (by decide) rfl rfl ?_
    refine zr_iload_n (pc2 := 23) O dX6_needs_22 rfl 0 rfl rfl ?_
    refine zr_if_ne (tgt := 29) (pc2 := 26) O dX6_needs_23 (by decide) rfl (fun c23 => ?_) (fun c23 => ?_)
    · refine zr_iload_n (pc2 := 30) O dX6_needs_29 rfl 0 rfl rfl ?_
      refine zr_aload_n (pc2 := 31) O dX6_needs_30 rfl 1 rfl rfl ?_
      refine zr_iload_n (pc2 := 32) O dX6_needs_31 rfl 2 rfl rfl ?_
      obtain ⟨u32, hu32⟩ : ∃ z9, z9 = s_X6_mostEverHeld P Q Hn sd B Y2 PA2 i := ⟨_, rfl⟩
      refine zr_callV (As := [.int i]) (rest := [.int (s_X0_leaves Q B i)]) (ws2 := [mainW x c0 r0 (b 0) y0 old (t 0) (w 0) h0 g0 k0 j0 kb, bookW cI b P Q Hn sd B, bookW cI t u32.2.1 u32.2.2.1 u32.2.2.2.1 u32.2.2.2.2.1 u32.2.2.2.2.2.1, yearsW cI cJ w (t 0) u32.2.2.2.2.2.2.1 u32.2.2.2.2.2.2.2.1 u32.2.2.2.2.2.2.2.2]) (pc2 := 35) (ci := 6) (g0 := 0) (q0 := 0) (v := (some (.int u32.1))) (W := [mainW x c0 r0 (b 0) y0 old (t 0) (w 0) h0 g0 k0 j0 kb, bookW cI b P Q Hn sd B, bookW cI t P2 Q2 H2 sd2 B2, yearsW cI cJ w (t 0) hav2 Y2 PA2]) (W2 := [mainW x c0 r0 (b 0) y0 old (t 0) (w 0) h0 g0 k0 j0 kb, bookW cI b P Q Hn sd B, bookW cI t u32.2.1 u32.2.2.1 u32.2.2.2.1 u32.2.2.2.2.1 u32.2.2.2.2.2.1, yearsW cI cJ w (t 0) u32.2.2.2.2.2.2.1 u32.2.2.2.2.2.2.2.1 u32.2.2.2.2.2.2.2.2]) O (by rw [hu32]; exact (c_X6_mostEverHeld l D cI cC cJ x b t w old kb P Q Hn sd B P2 Q2 H2 sd2 B2 hav2 Y2 PA2 i c0 r0 y0 h0 g0 k0 j0 hP hQ hH (hp_in c8 hP (by decide)))) sC_X6_needs_194 rfl rfl rfl rfl rfl dX6_needs_32 [0, 1, 2, 3] rfl rfl rfl rfl (Nat.le_of_ble_eq_true rfl) rfl ?_
      show Z _ _ _ [.int u32.1, .int (s_X0_leaves Q B i)]
      refine zr_isub (v := ((s_X0_leaves Q B i) - u32.1)) (pc2 := 36) O dX6_needs_35 rfl rfl ?_
      refine zr_iconst (v := (nI 0)) (pc2 := 37) O dX6_needs_36 (by decide +kernel) rfl ?_
      refine zr_max (v := (if ((s_X0_leaves Q B i) - u32.1) < (nI 0) then (nI 0) else ((s_X0_leaves Q B i) - u32.1))) (pc2 := 40) O sM_X6_needs_203.1 sM_X6_needs_203.2.1 sM_X6_needs_203.2.2.1 sM_X6_needs_203.2.2.2 (by decide) (Nat.le_of_ble_eq_true rfl) dX6_needs_37 rfl rfl ?_
      obtain ⟨x40, hx40⟩ : ∃ z9 : Int32, z9 = (if ((s_X0_leaves Q B i) - u32.1) < (nI 0) then (nI 0) else ((s_X0_leaves Q B i) - u32.1)) := ⟨_, rfl⟩
      rw [← hx40]
      refine zr_istore_n (lv2 := [(3, .int x40), (2, .int (s_X0_leaves Q B i)), (0, .ref x), (1, .int i)]) (pc2 := 41) O dX6_needs_40 rfl (by decide) rfl rfl ?_
      refine zr_iload_n (pc2 := 42) O dX6_needs_41 rfl 0 rfl rfl ?_
      refine zr_sipush (v := (nI 300)) (pc2 := 45) O dX6_needs_42 (by decide +kernel) rfl ?_
      refine zr_icmp_gt (tgt := 52) (pc2 := 48) O dX6_needs_45 (by decide) rfl (fun c45 => ?_) (fun c45 => ?_)
      · refine zr_bipush (v := (-4)) (pc2 := 54) O dX6_needs_52 (by decide +kernel) rfl ?_
        have hE : s_X6_needs P Q Hn sd B P2 Q2 H2 sd2 B2 hav2 Y2 PA2 i = ((-4), u32.2.1, u32.2.2.1, u32.2.2.2.1, u32.2.2.2.2.1, u32.2.2.2.2.2.1, u32.2.2.2.2.2.2.1, u32.2.2.2.2.2.2.2.1, u32.2.2.2.2.2.2.2.2) := by subst hx40; subst hu32; exact ((zif_t c8).trans ((if_neg c23).trans (if_pos c45)))
        exact hret _ _ _ _ dX6_needs_54 rfl (by rw [hE]) (by rw [hE])
      · refine zr_iload_n (pc2 := 49) O dX6_needs_48 rfl 0 rfl rfl ?_
        refine zr_goto (tgt := 54) O dX6_needs_49 (by decide) ?_
        have hE : s_X6_needs P Q Hn sd B P2 Q2 H2 sd2 B2 hav2 Y2 PA2 i = (x40, u32.2.1, u32.2.2.1, u32.2.2.2.1, u32.2.2.2.2.1, u32.2.2.2.2.2.1, u32.2.2.2.2.2.2.1, u32.2.2.2.2.2.2.2.1, u32.2.2.2.2.2.2.2.2) := by subst hx40; subst hu32; exact ((zif_t c8).trans ((if_neg c23).trans (if_neg c45)))
        exact hret _ _ _ _ dX6_needs_54 rfl (by rw [hE]) (by rw [hE])
    · refine zr_bipush (v := (-4)) (pc2 := 28) O dX6_needs_26 (by decide +kernel) rfl ?_
      have hE : s_X6_needs P Q Hn sd B P2 Q2 H2 sd2 B2 hav2 Y2 PA2 i = ((-4), P2, Q2, H2, sd2, B2, hav2, Y2, PA2) := by exact ((zif_t c8).trans (if_pos c23))
      exact hret _ _ _ _ dX6_needs_28 rfl (by rw [hE]) (by rw [hE])
  · refine zr_iconst (v := (-1)) (pc2 := 12) O dX6_needs_11 (by decide +kernel) rfl ?_
    have hE : s_X6_needs P Q Hn sd B P2 Q2 H2 sd2 B2 hav2 Y2 PA2 i = ((-1), P2, Q2, H2, sd2, B2, hav2, Y2, PA2) := by exact (zif_f c8)
    exact hret _ _ _ _ dX6_needs_12 rfl (by rw [hE]) (by rw [hE])
/-! X6_mend -/
def f_X6_mend_20 (P : Nat) (Q : Nat) (Hn : Nat) (sd : Int32) (B : zB) : Nat → Nat → Int32 → Int32 → Nat → Nat → Nat → Int32 → zB → Int32 → zY → (Nat → Nat → Int32) → Int32 × Int32 × Nat × Nat × Nat × Int32 × zB × Int32 × zY × (Nat → Nat → Int32)
  | 0, _, be, mo, P9, Q9, H9, sd9, B9, hav9, Y9, PA9 => (be, mo, P9, Q9, H9, sd9, B9, hav9, Y9, PA9)
  | n9 + 1, kk, be, mo, P9, Q9, H9, sd9, B9, hav9, Y9, PA9 => let u56 := s_X5_run Y9 PA9 P Q Hn sd (s_X0_voidBequest Q B (nI kk)); if (s_J6_bitCount_0f7a4 u56.1) ≤ mo then f_X6_mend_20 P Q Hn sd B n9 (kk + 1) be mo P Q Hn sd (s_X0_voidBequest Q B (nI kk)) u56.1 u56.2.1 u56.2.2 else f_X6_mend_20 P Q Hn sd B n9 (kk + 1) (nI kk) (s_J6_bitCount_0f7a4 u56.1) P Q Hn sd (s_X0_voidBequest Q B (nI kk)) u56.1 u56.2.1 u56.2.2
def s_X6_mend (P : Nat) (Q : Nat) (Hn : Nat) (sd : Int32) (B : zB) (P2 : Nat) (Q2 : Nat) (H2 : Nat) (sd2 : Int32) (B2 : zB) (hav2 : Int32) (Y2 : zY) (PA2 : Nat → Nat → Int32) (wh : Int32) : Int32 × Nat × Nat × Nat × Int32 × zB × Int32 × zY × (Nat → Nat → Int32) := if wh = 0 then let v29 := f_X6_mend_20 P Q Hn sd B Q 0 (-4) (-4) P2 Q2 H2 sd2 B2 hav2 Y2 PA2; if wh = 0 then (v29.1, v29.2.2.1, v29.2.2.2.1, v29.2.2.2.2.1, v29.2.2.2.2.2.1, v29.2.2.2.2.2.2.1, v29.2.2.2.2.2.2.2.1, v29.2.2.2.2.2.2.2.2.1, v29.2.2.2.2.2.2.2.2.2) else (v29.2.1, v29.2.2.1, v29.2.2.2.1, v29.2.2.2.2.1, v29.2.2.2.2.2.1, v29.2.2.2.2.2.2.1, v29.2.2.2.2.2.2.2.1, v29.2.2.2.2.2.2.2.2.1, v29.2.2.2.2.2.2.2.2.2) else if wh = (nI 1) then let v29 := f_X6_mend_20 P Q Hn sd B Q 0 (-4) (-4) P2 Q2 H2 sd2 B2 hav2 Y2 PA2; if wh = 0 then (v29.1, v29.2.2.1, v29.2.2.2.1, v29.2.2.2.2.1, v29.2.2.2.2.2.1, v29.2.2.2.2.2.2.1, v29.2.2.2.2.2.2.2.1, v29.2.2.2.2.2.2.2.2.1, v29.2.2.2.2.2.2.2.2.2) else (v29.2.1, v29.2.2.1, v29.2.2.2.1, v29.2.2.2.2.1, v29.2.2.2.2.2.1, v29.2.2.2.2.2.2.1, v29.2.2.2.2.2.2.2.1, v29.2.2.2.2.2.2.2.2.1, v29.2.2.2.2.2.2.2.2.2) else ((-1), P2, Q2, H2, sd2, B2, hav2, Y2, PA2)
set_option maxHeartbeats 4000000 in
set_option maxRecDepth 100000 in
theorem c_X6_mend (l : Launch) (D : va_G) (cI cC cJ : ClassId) (x : Nat) (b : Nat → Nat) (t : Nat → Nat) (w : Nat → Nat) (old : Bool) (kb : Nat) (P : Nat) (Q : Nat) (Hn : Nat) (sd : Int32) (B : zB) (P2 : Nat) (Q2 : Nat) (H2 : Nat) (sd2 : Int32) (B2 : zB) (hav2 : Int32) (Y2 : zY) (PA2 : Nat → Nat → Int32) (wh : Int32) (c0 : Nat) (r0 : Nat) (y0 : Nat) (h0 : Nat) (g0 : Nat) (k0 : Nat) (j0 : Nat) (hP : P ≤ 6) (hQ : Q ≤ 9) (hH : Hn ≤ 4) : zD l yX6_mend wsX6_mend rm_X6_mend D (zT cI cC cJ) [.ref x, .int wh] [mainW x c0 r0 (b 0) y0 old (t 0) (w 0) h0 g0 k0 j0 kb, bookW cI b P Q Hn sd B, bookW cI t P2 Q2 H2 sd2 B2, yearsW cI cJ w (t 0) hav2 Y2 PA2] (some (.int ((s_X6_mend P Q Hn sd B P2 Q2 H2 sd2 B2 hav2 Y2 PA2 wh).1))) [mainW x c0 r0 (b 0) y0 old (t 0) (w 0) h0 g0 k0 j0 kb, bookW cI b P Q Hn sd B, bookW cI t ((s_X6_mend P Q Hn sd B P2 Q2 H2 sd2 B2 hav2 Y2 PA2 wh).2.1) ((s_X6_mend P Q Hn sd B P2 Q2 H2 sd2 B2 hav2 Y2 PA2 wh).2.2.1) ((s_X6_mend P Q Hn sd B P2 Q2 H2 sd2 B2 hav2 Y2 PA2 wh).2.2.2.1) ((s_X6_mend P Q Hn sd B P2 Q2 H2 sd2 B2 hav2 Y2 PA2 wh).2.2.2.2.1) ((s_X6_mend P Q Hn sd B P2 Q2 H2 sd2 B2 hav2 Y2 PA2 wh).2.2.2.2.2.1), yearsW cI cJ w (t 0) ((s_X6_mend P Q Hn sd B P2 Q2 H2 sd2 B2 hav2 Y2 PA2 wh).2.2.2.2.2.2.1) ((s_X6_mend P Q Hn sd B P2 Q2 H2 sd2 B2 hav2 Y2 PA2 wh).2.2.2.2.2.2.2.1) ((s_X6_mend P Q Hn sd B P2 Q2 H2 sd2 B2 hav2 Y2 PA2 wh).2.2.2.2.2.2.2.2)] := by
  refine zD_int (cc := cX6_mend) (maxL := 6) (ty := .int) (lv := [(0, .ref x), (1, .int wh)]) (by decide +kernel) rfl (Nat.le_of_ble_eq_true rfl) rfl (fun Z O hret => ?_)
  refine zr_iload_n (pc2 := 1) O dX6_mend_0 rfl 1 rfl rfl ?_
  refine zr_if_eq (tgt := 11) (pc2 := 4) O dX6_mend_1 (by decide) rfl (fun c1 => ?_) (fun c1 => ?_)
  · refine zr_bipush (v := (-4)) (pc2 := 13) O dX6_mend_11 (by decide +kernel) rfl ?_
    refine zr_istore_n (lv2 := [(2, .int (-4)), (0, .ref x), (1, .int wh)]) (pc2 := 14) O dX6_mend_13 rfl (by decide) rfl rfl ?_
    refine zr_bipush (v := (-4)) (pc2 := 16) O dX6_mend_14 (by decide +kernel) rfl ?_
    refine zr_istore_n (lv2 := [(3, .int (-4)), (2, .int (-4)), (0, .ref x), (1, .int wh)]) (pc2 := 17) O dX6_mend_16 rfl (by decide) rfl rfl ?_
    refine zr_iconst (v := (nI 0)) (pc2 := 18) O dX6_mend_17 (by decide +kernel) rfl ?_
    refine zr_istore (lv2 := [(4, .int (nI 0)), (3, .int (-4)), (2, .int (-4)), (0, .ref x), (1, .int wh)]) (pc2 := 20) O dX6_mend_18 (by decide) rfl rfl ?_
    have lp20 : ∀ (n9 : Nat) (kk : Nat) (be : Int32) (mo : Int32) (P9 : Nat) (Q9 : Nat) (H9 : Nat) (sd9 : Int32) (B9 : zB) (hav9 : Int32) (Y9 : zY) (PA9 : Nat → Nat → Int32), kk + n9 = Q → f_X6_mend_20 P Q Hn sd B Q 0 (-4) (-4) P2 Q2 H2 sd2 B2 hav2 Y2 PA2 = f_X6_mend_20 P Q Hn sd B n9 kk be mo P9 Q9 H9 sd9 B9 hav9 Y9 PA9 → Z [mainW x c0 r0 (b 0) y0 old (t 0) (w 0) h0 g0 k0 j0 kb, bookW cI b P Q Hn sd B, bookW cI t P9 Q9 H9 sd9 B9, yearsW cI cJ w (t 0) hav9 Y9 PA9] [(4, .int (nI kk)), (3, .int mo), (2, .int be), (0, .ref x), (1, .int wh)] 20 [] := by
      intro n9
      induction n9 with
      | zero =>
        intro kk be mo P9 Q9 H9 sd9 B9 hav9 Y9 PA9 hM20 hF20
        have hI20 : Q = kk := by omega
        subst hI20
        obtain ⟨v29, hv29⟩ : ∃ z9, z9 = f_X6_mend_20 P Q Hn sd B Q 0 (-4) (-4) P2 Q2 H2 sd2 B2 hav2 Y2 PA2 := ⟨_, rfl⟩
        rw [← hv29] at hF20
        have e9 : v29.1 = be := congrArg (fun z => z.1) hF20
        subst e9
        have e9 : v29.2.1 = mo := congrArg (fun z => z.2.1) hF20
        subst e9
        have e9 : v29.2.2.1 = P9 := congrArg (fun z => z.2.2.1) hF20
        subst e9
        have e9 : v29.2.2.2.1 = Q9 := congrArg (fun z => z.2.2.2.1) hF20
        subst e9
        have e9 : v29.2.2.2.2.1 = H9 := congrArg (fun z => z.2.2.2.2.1) hF20
        subst e9
        have e9 : v29.2.2.2.2.2.1 = sd9 := congrArg (fun z => z.2.2.2.2.2.1) hF20
        subst e9
        have e9 : v29.2.2.2.2.2.2.1 = B9 := congrArg (fun z => z.2.2.2.2.2.2.1) hF20
        subst e9
        have e9 : v29.2.2.2.2.2.2.2.1 = hav9 := congrArg (fun z => z.2.2.2.2.2.2.2.1) hF20
        subst e9
        have e9 : v29.2.2.2.2.2.2.2.2.1 = Y9 := congrArg (fun z => z.2.2.2.2.2.2.2.2.1) hF20
        subst e9
        have e9 : v29.2.2.2.2.2.2.2.2.2 = PA9 := congrArg (fun z => z.2.2.2.2.2.2.2.2.2) hF20
        subst e9
        refine zr_iload (pc2 := 22) O dX6_mend_20 0 rfl rfl ?_
        refine zr_aload_n (pc2 := 23) O dX6_mend_22 rfl 3 rfl rfl ?_
        refine zr_getf (v := .ref (b 0)) (pc2 := 26) O sF_X6_mend_28 0 0 rfl rfl rfl dX6_mend_23 rfl ?_
        refine zr_getf (v := .int (nI Q)) (pc2 := 29) O sF_X6_mend_206 1 0 rfl rfl rfl dX6_mend_26 rfl ?_
        refine zn_icmp_ge (tgt := 89) (pc2 := 32) O dX6_mend_29 (by decide) rfl (by omega) (by omega) (fun c29 => ?_) (fun c29 => ?_)
        · refine zr_iload_n (pc2 := 90) O dX6_mend_89 rfl 4 rfl rfl ?_
          refine zr_if_ne (tgt := 97) (pc2 := 93) O dX6_mend_90 (by decide) rfl (fun c90 => ?_) (fun c90 => ?_)
          · refine zr_iload_n (pc2 := 98) O dX6_mend_97 rfl 1 rfl rfl ?_
            have hE : s_X6_mend P Q Hn sd B P2 Q2 H2 sd2 B2 hav2 Y2 PA2 wh = (v29.2.1, v29.2.2.1, v29.2.2.2.1, v29.2.2.2.2.1, v29.2.2.2.2.2.1, v29.2.2.2.2.2.2.1, v29.2.2.2.2.2.2.2.1, v29.2.2.2.2.2.2.2.2.1, v29.2.2.2.2.2.2.2.2.2) := by subst hv29; exact ((if_pos c1).trans (if_neg c90))
            exact hret _ _ _ _ dX6_mend_98 rfl (by rw [hE]) (by rw [hE])
          · refine zr_iload_n (pc2 := 94) O dX6_mend_93 rfl 2 rfl rfl ?_
            refine zr_goto (tgt := 98) O dX6_mend_94 (by decide) ?_
            have hE : s_X6_mend P Q Hn sd B P2 Q2 H2 sd2 B2 hav2 Y2 PA2 wh = (v29.1, v29.2.2.1, v29.2.2.2.1, v29.2.2.2.2.1, v29.2.2.2.2.2.1, v29.2.2.2.2.2.2.1, v29.2.2.2.2.2.2.2.1, v29.2.2.2.2.2.2.2.2.1, v29.2.2.2.2.2.2.2.2.2) := by subst hv29; exact ((if_pos c1).trans (if_pos c90))
            exact hret _ _ _ _ dX6_mend_98 rfl (by rw [hE]) (by rw [hE])
        · exact absurd c29 (by omega)
      | succ n9 ih20 =>
        intro kk be mo P9 Q9 H9 sd9 B9 hav9 Y9 PA9 hM20 hF20
        refine zr_iload (pc2 := 22) O dX6_mend_20 0 rfl rfl ?_
        refine zr_aload_n (pc2 := 23) O dX6_mend_22 rfl 3 rfl rfl ?_
        refine zr_getf (v := .ref (b 0)) (pc2 := 26) O sF_X6_mend_28 0 0 rfl rfl rfl dX6_mend_23 rfl ?_
        refine zr_getf (v := .int (nI Q)) (pc2 := 29) O sF_X6_mend_206 1 0 rfl rfl rfl dX6_mend_26 rfl ?_
        refine zn_icmp_ge (tgt := 89) (pc2 := 32) O dX6_mend_29 (by decide) rfl (by omega) (by omega) (fun c29 => ?_) (fun c29 => ?_)
        · exact absurd c29 (by omega)
        · refine zr_aload_n (pc2 := 33) O dX6_mend_32 rfl 3 rfl rfl ?_
          refine zr_getf (v := .ref (t 0)) (pc2 := 36) O sF_X6_mend_45 0 0 rfl rfl rfl dX6_mend_33 rfl ?_
          refine zr_aload_n (pc2 := 37) O dX6_mend_36 rfl 3 rfl rfl ?_
          refine zr_getf (v := .ref (b 0)) (pc2 := 40) O sF_X6_mend_28 0 0 rfl rfl rfl dX6_mend_37 rfl ?_
          refine zr_callV (As := [.ref (b 0)]) (rest := []) (ws2 := [mainW x c0 r0 (b 0) y0 old (t 0) (w 0) h0 g0 k0 j0 kb, bookW cI b P Q Hn sd B, bookW cI t P Q Hn sd B, yearsW cI cJ w (t 0) hav9 Y9 PA9]) (pc2 := 43) (ci := 0) (g0 := 2) (q0 := 0) O (c_X0_copyFrom l D cI cC cJ t b P9 Q9 H9 sd9 B9 P Q Hn sd B) sC_X6_mend_103 rfl rfl rfl rfl rfl dX6_mend_40 [2, 1] rfl rfl rfl rfl (Nat.le_of_ble_eq_true rfl) rfl ?_
          show Z _ _ _ []
          refine zr_aload_n (pc2 := 44) O dX6_mend_43 rfl 3 rfl rfl ?_
          refine zr_getf (v := .ref (t 0)) (pc2 := 47) O sF_X6_mend_45 0 0 rfl rfl rfl dX6_mend_44 rfl ?_
          refine zr_iload (pc2 := 49) O dX6_mend_47 0 rfl rfl ?_
          refine zr_callV (As := [.int (nI kk)]) (rest := []) (ws2 := [mainW x c0 r0 (b 0) y0 old (t 0) (w 0) h0 g0 k0 j0 kb, bookW cI b P Q Hn sd B, bookW cI t P Q Hn sd (s_X0_voidBequest Q B (nI kk)), yearsW cI cJ w (t 0) hav9 Y9 PA9]) (pc2 := 52) (ci := 0) (g0 := 2) (q0 := 0) O (c_X0_voidBequest l D cI cC cJ t P Q Hn sd B (nI kk) (by first | assumption | omega)) sC_X6_mend_209 rfl rfl rfl rfl rfl dX6_mend_49 [2] rfl rfl rfl rfl (Nat.le_of_ble_eq_true rfl) rfl ?_
          show Z _ _ _ []
          refine zr_aload_n (pc2 := 53) O dX6_mend_52 rfl 3 rfl rfl ?_
          refine zr_getf (v := .ref (w 0)) (pc2 := 56) O sF_X6_mend_48 0 0 rfl rfl rfl dX6_mend_53 rfl ?_
          obtain ⟨u56, hu56⟩ : ∃ z9, z9 = s_X5_run Y9 PA9 P Q Hn sd (s_X0_voidBequest Q B (nI kk)) := ⟨_, rfl⟩
          refine zr_callV (As := []) (rest := []) (ws2 := [mainW x c0 r0 (b 0) y0 old (t 0) (w 0) h0 g0 k0 j0 kb, bookW cI b P Q Hn sd B, bookW cI t P Q Hn sd (s_X0_voidBequest Q B (nI kk)), yearsW cI cJ w (t 0) u56.1 u56.2.1 u56.2.2]) (pc2 := 59) (ci := 5) (g0 := 3) (q0 := 0) (v := none) (W := [yearsW cI cJ w (t 0) hav9 Y9 PA9, bookW cI t P Q Hn sd (s_X0_voidBequest Q B (nI kk))]) (W2 := [yearsW cI cJ w (t 0) u56.1 u56.2.1 u56.2.2, bookW cI t P Q Hn sd (s_X0_voidBequest Q B (nI kk))]) O (by rw [hu56]; exact (c_X5_run l D cI cC cJ w t hav9 Y9 PA9 P Q Hn sd (s_X0_voidBequest Q B (nI kk)) (by first | assumption | omega) (by first | assumption | omega) (by first | assumption | omega))) sC_X6_mend_213 rfl rfl rfl rfl rfl dX6_mend_56 [3, 2] rfl rfl rfl rfl (Nat.le_of_ble_eq_true rfl) rfl ?_
          show Z _ _ _ []
          refine zr_aload_n (pc2 := 60) O dX6_mend_59 rfl 3 rfl rfl ?_
          refine zr_getf (v := .ref (w 0)) (pc2 := 63) O sF_X6_mend_48 0 0 rfl rfl rfl dX6_mend_60 rfl ?_
          refine zr_getf (v := .int u56.1) (pc2 := 66) O sF_X6_mend_172 3 0 rfl rfl rfl dX6_mend_63 rfl ?_
          refine zr_callS (As := [.int u56.1]) (rest := []) (ws2 := [mainW x c0 r0 (b 0) y0 old (t 0) (w 0) h0 g0 k0 j0 kb, bookW cI b P Q Hn sd B, bookW cI t P Q Hn sd (s_X0_voidBequest Q B (nI kk)), yearsW cI cJ w (t 0) u56.1 u56.2.1 u56.2.2]) (pc2 := 69) O (c_J6_bitCount_0f7a4 l D cI cC cJ u56.1) sC_X6_mend_216 rfl rfl dX6_mend_66 [] rfl rfl rfl rfl (Nat.le_of_ble_eq_true rfl) rfl ?_
          show Z _ _ _ [.int (s_J6_bitCount_0f7a4 u56.1)]
          refine zr_istore (lv2 := [(5, .int (s_J6_bitCount_0f7a4 u56.1)), (4, .int (nI kk)), (3, .int mo), (2, .int be), (0, .ref x), (1, .int wh)]) (pc2 := 71) O dX6_mend_69 (by decide) rfl rfl ?_
          refine zr_iload (pc2 := 73) O dX6_mend_71 0 rfl rfl ?_
          refine zr_iload_n (pc2 := 74) O dX6_mend_73 rfl 2 rfl rfl ?_
          refine zr_icmp_le (tgt := 83) (pc2 := 77) O dX6_mend_74 (by decide) rfl (fun c74 => ?_) (fun c74 => ?_)
          · refine zr_iinc (v := (nI (kk + 1))) (lv2 := [(4, .int (nI (kk + 1))), (5, .int (s_J6_bitCount_0f7a4 u56.1)), (3, .int mo), (2, .int be), (0, .ref x), (1, .int wh)]) (pc2 := 86) O dX6_mend_83 1 rfl (zm_ofInt1 kk) (by decide) rfl rfl ?_
            refine zr_goto (tgt := 20) O dX6_mend_86 (by decide) ?_
            refine zr_sub (lv2 := [(4, .int (nI (kk + 1))), (3, .int mo), (2, .int be), (0, .ref x), (1, .int wh)]) O [0, 2, 3, 4, 5] rfl ?_
            have hE : f_X6_mend_20 P Q Hn sd B (n9 + 1) kk be mo P9 Q9 H9 sd9 B9 hav9 Y9 PA9 = f_X6_mend_20 P Q Hn sd B n9 (kk + 1) be mo P Q Hn sd (s_X0_voidBequest Q B (nI kk)) u56.1 u56.2.1 u56.2.2 := by subst hu56; exact (if_pos c74)
            exact ih20 (kk + 1) be mo P Q Hn sd (s_X0_voidBequest Q B (nI kk)) u56.1 u56.2.1 u56.2.2 (by omega) (hF20.trans hE)
          · refine zr_iload (pc2 := 79) O dX6_mend_77 1 rfl rfl ?_
            refine zr_istore_n (lv2 := [(2, .int (nI kk)), (5, .int (s_J6_bitCount_0f7a4 u56.1)), (4, .int (nI kk)), (3, .int mo), (0, .ref x), (1, .int wh)]) (pc2 := 80) O dX6_mend_79 rfl (by decide) rfl rfl ?_
            refine zr_iload (pc2 := 82) O dX6_mend_80 1 rfl rfl ?_
            refine zr_istore_n (lv2 := [(3, .int (s_J6_bitCount_0f7a4 u56.1)), (2, .int (nI kk)), (5, .int (s_J6_bitCount_0f7a4 u56.1)), (4, .int (nI kk)), (0, .ref x), (1, .int wh)]) (pc2 := 83) O dX6_mend_82 rfl (by decide) rfl rfl ?_
            refine zr_iinc (v := (nI (kk + 1))) (lv2 := [(4, .int (nI (kk + 1))), (3, .int (s_J6_bitCount_0f7a4 u56.1)), (2, .int (nI kk)), (5, .int (s_J6_bitCount_0f7a4 u56.1)), (0, .ref x), (1, .int wh)]) (pc2 := 86) O dX6_mend_83 3 rfl (zm_ofInt1 kk) (by decide) rfl rfl ?_
            refine zr_goto (tgt := 20) O dX6_mend_86 (by decide) ?_
            refine zr_sub (lv2 := [(4, .int (nI (kk + 1))), (3, .int (s_J6_bitCount_0f7a4 u56.1)), (2, .int (nI kk)), (0, .ref x), (1, .int wh)]) O [0, 1, 2, 4, 5] rfl ?_
            have hE : f_X6_mend_20 P Q Hn sd B (n9 + 1) kk be mo P9 Q9 H9 sd9 B9 hav9 Y9 PA9 = f_X6_mend_20 P Q Hn sd B n9 (kk + 1) (nI kk) (s_J6_bitCount_0f7a4 u56.1) P Q Hn sd (s_X0_voidBequest Q B (nI kk)) u56.1 u56.2.1 u56.2.2 := by subst hu56; exact (if_neg c74)
            exact ih20 (kk + 1) (nI kk) (s_J6_bitCount_0f7a4 u56.1) P Q Hn sd (s_X0_voidBequest Q B (nI kk)) u56.1 u56.2.1 u56.2.2 (by omega) (hF20.trans hE)
    exact lp20 Q 0 (-4) (-4) P2 Q2 H2 sd2 B2 hav2 Y2 PA2 (by omega) rfl
  · refine zr_iload_n (pc2 := 5) O dX6_mend_4 rfl 1 rfl rfl ?_
    refine zr_iconst (v := (nI 1)) (pc2 := 6) O dX6_mend_5 (by decide +kernel) rfl ?_
    refine zr_icmp_eq (tgt := 11) (pc2 := 9) O dX6_mend_6 (by decide) rfl (fun c6 => ?_) (fun c6 => ?_)
    · refine zr_bipush (v := (-4)) (pc2 := 13) O dX6_mend_11 (by decide +kernel) rfl ?_
      refine zr_istore_n (lv2 := [(2, .int (-4)), (0, .ref x), (1, .int wh)]) (pc2 := 14) O dX6_mend_13 rfl (by decide) rfl rfl ?_
      refine zr_bipush (v := (-4)) (pc2 := 16) O dX6_mend_14 (by decide +kernel) rfl ?_
      refine zr_istore_n (lv2 := [(3, .int (-4)), (2, .int (-4)), (0, .ref x), (1, .int wh)]) (pc2 := 17) O dX6_mend_16 rfl (by decide) rfl rfl ?_
      refine zr_iconst (v := (nI 0)) (pc2 := 18) O dX6_mend_17 (by decide +kernel) rfl ?_
      refine zr_istore (lv2 := [(4, .int (nI 0)), (3, .int (-4)), (2, .int (-4)), (0, .ref x), (1, .int wh)]) (pc2 := 20) O dX6_mend_18 (by decide) rfl rfl ?_
      have lp20 : ∀ (n9 : Nat) (kk : Nat) (be : Int32) (mo : Int32) (P9 : Nat) (Q9 : Nat) (H9 : Nat) (sd9 : Int32) (B9 : zB) (hav9 : Int32) (Y9 : zY) (PA9 : Nat → Nat → Int32), kk + n9 = Q → f_X6_mend_20 P Q Hn sd B Q 0 (-4) (-4) P2 Q2 H2 sd2 B2 hav2 Y2 PA2 = f_X6_mend_20 P Q Hn sd B n9 kk be mo P9 Q9 H9 sd9 B9 hav9 Y9 PA9 → Z [mainW x c0 r0 (b 0) y0 old (t 0) (w 0) h0 g0 k0 j0 kb, bookW cI b P Q Hn sd B, bookW cI t P9 Q9 H9 sd9 B9, yearsW cI cJ w (t 0) hav9 Y9 PA9] [(4, .int (nI kk)), (3, .int mo), (2, .int be), (0, .ref x), (1, .int wh)] 20 [] := by
        intro n9
        induction n9 with
        | zero =>
          intro kk be mo P9 Q9 H9 sd9 B9 hav9 Y9 PA9 hM20 hF20
          have hI20 : Q = kk := by omega
          subst hI20
          obtain ⟨v29, hv29⟩ : ∃ z9, z9 = f_X6_mend_20 P Q Hn sd B Q 0 (-4) (-4) P2 Q2 H2 sd2 B2 hav2 Y2 PA2 := ⟨_, rfl⟩
          rw [← hv29] at hF20
          have e9 : v29.1 = be := congrArg (fun z => z.1) hF20
          subst e9
          have e9 : v29.2.1 = mo := congrArg (fun z => z.2.1) hF20
          subst e9
          have e9 : v29.2.2.1 = P9 := congrArg (fun z => z.2.2.1) hF20
          subst e9
          have e9 : v29.2.2.2.1 = Q9 := congrArg (fun z => z.2.2.2.1) hF20
          subst e9
          have e9 : v29.2.2.2.2.1 = H9 := congrArg (fun z => z.2.2.2.2.1) hF20
          subst e9
          have e9 : v29.2.2.2.2.2.1 = sd9 := congrArg (fun z => z.2.2.2.2.2.1) hF20
          subst e9
          have e9 : v29.2.2.2.2.2.2.1 = B9 := congrArg (fun z => z.2.2.2.2.2.2.1) hF20
          subst e9
          have e9 : v29.2.2.2.2.2.2.2.1 = hav9 := congrArg (fun z => z.2.2.2.2.2.2.2.1) hF20
          subst e9
          have e9 : v29.2.2.2.2.2.2.2.2.1 = Y9 := congrArg (fun z => z.2.2.2.2.2.2.2.2.1) hF20
          subst e9
          have e9 : v29.2.2.2.2.2.2.2.2.2 = PA9 := congrArg (fun z => z.2.2.2.2.2.2.2.2.2) hF20
          subst e9
          refine zr_iload (pc2 := 22) O dX6_mend_20 0 rfl rfl ?_
          refine zr_aload_n (pc2 := 23) O dX6_mend_22 rfl 3 rfl rfl ?_
          refine zr_getf (v := .ref (b 0)) (pc2 := 26) O sF_X6_mend_28 0 0 rfl rfl rfl dX6_mend_23 rfl ?_
          refine zr_getf (v := .int (nI Q)) (pc2 := 29) O sF_X6_mend_206 1 0 rfl rfl rfl dX6_mend_26 rfl ?_
          refine zn_icmp_ge (tgt := 89) (pc2 := 32) O dX6_mend_29 (by decide) rfl (by omega) (by omega) (fun c29 => ?_) (fun c29 => ?_)
          · refine zr_iload_n (pc2 := 90) O dX6_mend_89 rfl 4 rfl rfl ?_
            refine zr_if_ne (tgt := 97) (pc2 := 93) O dX6_mend_90 (by decide) rfl (fun c90 => ?_) (fun c90 => ?_)
            · refine zr_iload_n (pc2 := 98) O dX6_mend_97 rfl 1 rfl rfl ?_
              have hE : s_X6_mend P Q Hn sd B P2 Q2 H2 sd2 B2 hav2 Y2 PA2 wh = (v29.2.1, v29.2.2.1, v29.2.2.2.1, v29.2.2.2.2.1, v29.2.2.2.2.2.1, v29.2.2.2.2.2.2.1, v29.2.2.2.2.2.2.2.1, v29.2.2.2.2.2.2.2.2.1, v29.2.2.2.2.2.2.2.2.2) := by subst hv29; exact ((if_neg c1).trans ((if_pos c6).trans (if_neg c90)))
              exact hret _ _ _ _ dX6_mend_98 rfl (by rw [hE]) (by rw [hE])
            · refine zr_iload_n (pc2 := 94) O dX6_mend_93 rfl 2 rfl rfl ?_
              refine zr_goto (tgt := 98) O dX6_mend_94 (by decide) ?_
              have hE : s_X6_mend P Q Hn sd B P2 Q2 H2 sd2 B2 hav2 Y2 PA2 wh = (v29.1, v29.2.2.1, v29.2.2.2.1, v29.2.2.2.2.1, v29.2.2.2.2.2.1, v29.2.2.2.2.2.2.1, v29.2.2.2.2.2.2.2.1, v29.2.2.2.2.2.2.2.2.1, v29.2.2.2.2.2.2.2.2.2) := by subst hv29; exact ((if_neg c1).trans ((if_pos c6).trans (if_pos c90)))
              exact hret _ _ _ _ dX6_mend_98 rfl (by rw [hE]) (by rw [hE])
          · exact absurd c29 (by omega)
        | succ n9 ih20 =>
          intro kk be mo P9 Q9 H9 sd9 B9 hav9 Y9 PA9 hM20 hF20
          refine zr_iload (pc2 := 22) O dX6_mend_20 0 rfl rfl ?_
          refine zr_aload_n (pc2 := 23) O dX6_mend_22 rfl 3 rfl rfl ?_
          refine zr_getf (v := .ref (b 0)) (pc2 := 26) O sF_X6_mend_28 0 0 rfl rfl rfl dX6_mend_23 rfl ?_
          refine zr_getf (v := .int (nI Q)) (pc2 := 29) O sF_X6_mend_206 1 0 rfl rfl rfl dX6_mend_26 rfl ?_
          refine zn_icmp_ge (tgt := 89) (pc2 := 32) O dX6_mend_29 (by decide) rfl (by omega) (by omega) (fun c29 => ?_) (fun c29 => ?_)
          · exact absurd c29 (by omega)
          · refine zr_aload_n (pc2 := 33) O dX6_mend_32 rfl 3 rfl rfl ?_
            refine zr_getf (v := .ref (t 0)) (pc2 := 36) O sF_X6_mend_45 0 0 rfl rfl rfl dX6_mend_33 rfl ?_
            refine zr_aload_n (pc2 := 37) O dX6_mend_36 rfl 3 rfl rfl ?_
            refine zr_getf (v := .ref (b 0)) (pc2 := 40) O sF_X6_mend_28 0 0 rfl rfl rfl dX6_mend_37 rfl ?_
            refine zr_callV (As := [.ref (b 0)]) (rest := []) (ws2 := [mainW x c0 r0 (b 0) y0 old (t 0) (w 0) h0 g0 k0 j0 kb, bookW cI b P Q Hn sd B, bookW cI t P Q Hn sd B, yearsW cI cJ w (t 0) hav9 Y9 PA9]) (pc2 := 43) (ci := 0) (g0 := 2) (q0 := 0) O (c_X0_copyFrom l D cI cC cJ t b P9 Q9 H9 sd9 B9 P Q Hn sd B) sC_X6_mend_103 rfl rfl rfl rfl rfl dX6_mend_40 [2, 1] rfl rfl rfl rfl (Nat.le_of_ble_eq_true rfl) rfl ?_
            show Z _ _ _ []
            refine zr_aload_n (pc2 := 44) O dX6_mend_43 rfl 3 rfl rfl ?_
            refine zr_getf (v := .ref (t 0)) (pc2 := 47) O sF_X6_mend_45 0 0 rfl rfl rfl dX6_mend_44 rfl ?_
            refine zr_iload (pc2 := 49) O dX6_mend_47 0 rfl rfl ?_
            refine zr_callV (As := [.int (nI kk)]) (rest := []) (ws2 := [mainW x c0 r0 (b 0) y0 old (t 0) (w 0) h0 g0 k0 j0 kb, bookW cI b P Q Hn sd B, bookW cI t P Q Hn sd (s_X0_voidBequest Q B (nI kk)), yearsW cI cJ w (t 0) hav9 Y9 PA9]) (pc2 := 52) (ci := 0) (g0 := 2) (q0 := 0) O (c_X0_voidBequest l D cI cC cJ t P Q Hn sd B (nI kk) (by first | assumption | omega)) sC_X6_mend_209 rfl rfl rfl rfl rfl dX6_mend_49 [2] rfl rfl rfl rfl (Nat.le_of_ble_eq_true rfl) rfl ?_
            show Z _ _ _ []
            refine zr_aload_n (pc2 := 53) O dX6_mend_52 rfl 3 rfl rfl ?_
            refine zr_getf (v := .ref (w 0)) (pc2 := 56) O sF_X6_mend_48 0 0 rfl rfl rfl dX6_mend_53 rfl ?_
            obtain ⟨u56, hu56⟩ : ∃ z9, z9 = s_X5_run Y9 PA9 P Q Hn sd (s_X0_voidBequest Q B (nI kk)) := ⟨_, rfl⟩
            refine zr_callV (As := []) (rest := []) (ws2 := [mainW x c0 r0 (b 0) y0 old (t 0) (w 0) h0 g0 k0 j0 kb, bookW cI b P Q Hn sd B, bookW cI t P Q Hn sd (s_X0_voidBequest Q B (nI kk)), yearsW cI cJ w (t 0) u56.1 u56.2.1 u56.2.2]) (pc2 := 59) (ci := 5) (g0 := 3) (q0 := 0) (v := none) (W := [yearsW cI cJ w (t 0) hav9 Y9 PA9, bookW cI t P Q Hn sd (s_X0_voidBequest Q B (nI kk))]) (W2 := [yearsW cI cJ w (t 0) u56.1 u56.2.1 u56.2.2, bookW cI t P Q Hn sd (s_X0_voidBequest Q B (nI kk))]) O (by rw [hu56]; exact (c_X5_run l D cI cC cJ w t hav9 Y9 PA9 P Q Hn sd (s_X0_voidBequest Q B (nI kk)) (by first | assumption | omega) (by first | assumption | omega) (by first | assumption | omega))) sC_X6_mend_213 rfl rfl rfl rfl rfl dX6_mend_56 [3, 2] rfl rfl rfl rfl (Nat.le_of_ble_eq_true rfl) rfl ?_
            show Z _ _ _ []
            refine zr_aload_n (pc2 := 60) O dX6_mend_59 rfl 3 rfl rfl ?_
            refine zr_getf (v := .ref (w 0)) (pc2 := 63) O sF_X6_mend_48 0 0 rfl rfl rfl dX6_mend_60 rfl ?_
            refine zr_getf (v := .int u56.1) (pc2 := 66) O sF_X6_mend_172 3 0 rfl rfl rfl dX6_mend_63 rfl ?_
            refine zr_callS (As := [.int u56.1]) (rest := []) (ws2 := [mainW x c0 r0 (b 0) y0 old (t 0) (w 0) h0 g0 k0 j0 kb, bookW cI b P Q Hn sd B, bookW cI t P Q Hn sd (s_X0_voidBequest Q B (nI kk)), yearsW cI cJ w (t 0) u56.1 u56.2.1 u56.2.2]) (pc2 := 69) O (c_J6_bitCount_0f7a4 l D cI cC cJ u56.1) sC_X6_mend_216 rfl rfl dX6_mend_66 [] rfl rfl rfl rfl (Nat.le_of_ble_eq_true rfl) rfl ?_
            show Z _ _ _ [.int (s_J6_bitCount_0f7a4 u56.1)]
            refine zr_istore (lv2 := [(5, .int (s_J6_bitCount_0f7a4 u56.1)), (4, .int (nI kk)), (3, .int mo), (2, .int be), (0, .ref x), (1, .int wh)]) (pc2 := 71) O dX6_mend_69 (by decide) rfl rfl ?_
            refine zr_iload (pc2 := 73) O dX6_mend_71 0 rfl rfl ?_
            refine zr_iload_n (pc2 := 74) O dX6_mend_73 rfl 2 rfl rfl ?_
            refine zr_icmp_le (tgt := 83) (pc2 := 77) O dX6_mend_74 (by decide) rfl (fun c74 => ?_) (fun c74 => ?_)
            · refine zr_iinc (v := (nI (kk + 1))) (lv2 := [(4, .int (nI (kk + 1))), (5, .int (s_J6_bitCount_0f7a4 u56.1)), (3, .int mo), (2, .int be), (0, .ref x), (1, .int wh)]) (pc2 := 86) O dX6_mend_83 1 rfl (zm_ofInt1 kk) (by decide) rfl rfl ?_
              refine zr_goto (tgt := 20) O dX6_mend_86 (by decide) ?_
              refine zr_sub (lv2 := [(4, .int (nI (kk + 1))), (3, .int mo), (2, .int be), (0, .ref x), (1, .int wh)]) O [0, 2, 3, 4, 5] rfl ?_
              have hE : f_X6_mend_20 P Q Hn sd B (n9 + 1) kk be mo P9 Q9 H9 sd9 B9 hav9 Y9 PA9 = f_X6_mend_20 P Q Hn sd B n9 (kk + 1) be mo P Q Hn sd (s_X0_voidBequest Q B (nI kk)) u56.1 u56.2.1 u56.2.2 := by subst hu56; exact (if_pos c74)
              exact ih20 (kk + 1) be mo P Q Hn sd (s_X0_voidBequest Q B (nI kk)) u56.1 u56.2.1 u56.2.2 (by omega) (hF20.trans hE)
            · refine zr_iload (pc2 := 79) O dX6_mend_77 1 rfl rfl ?_
              refine zr_istore_n (lv2 := [(2, .int (nI kk)), (5, .int (s_J6_bitCount_0f7a4 u56.1)), (4, .int (nI kk)), (3, .int mo), (0, .ref x), (1, .int wh)]) (pc2 := 80) O dX6_mend_79 rfl (by decide) rfl rfl ?_
              refine zr_iload (pc2 := 82) O dX6_mend_80 1 rfl rfl ?_
              refine zr_istore_n (lv2 := [(3, .int (s_J6_bitCount_0f7a4 u56.1)), (2, .int (nI kk)), (5, .int (s_J6_bitCount_0f7a4 u56.1)), (4, .int (nI kk)), (0, .ref x), (1, .int wh)]) (pc2 := 83) O dX6_mend_82 rfl (by decide) rfl rfl ?_
              refine zr_iinc (v := (nI (kk + 1))) (lv2 := [(4, .int (nI (kk + 1))), (3, .int (s_J6_bitCount_0f7a4 u56.1)), (2, .int (nI kk)), (5, .int (s_J6_bitCount_0f7a4 u56.1)), (0, .ref x), (1, .int wh)]) (pc2 := 86) O dX6_mend_83 3 rfl (zm_ofInt1 kk) (by decide) rfl rfl ?_
              refine zr_goto (tgt := 20) O dX6_mend_86 (by decide) ?_
              refine zr_sub (lv2 := [(4, .int (nI (kk + 1))), (3, .int (s_J6_bitCount_0f7a4 u56.1)), (2, .int (nI kk)), (0, .ref x), (1, .int wh)]) O [0, 1, 2, 4, 5] rfl ?_
              have hE : f_X6_mend_20 P Q Hn sd B (n9 + 1) kk be mo P9 Q9 H9 sd9 B9 hav9 Y9 PA9 = f_X6_mend_20 P Q Hn sd B n9 (kk + 1) (nI kk) (s_J6_bitCount_0f7a4 u56.1) P Q Hn sd (s_X0_voidBequest Q B (nI kk)) u56.1 u56.2.1 u56.2.2 := by subst hu56; exact (if_neg c74)
              exact ih20 (kk + 1) (nI kk) (s_J6_bitCount_0f7a4 u56.1) P Q Hn sd (s_X0_voidBequest Q B (nI kk)) u56.1 u56.2.1 u56.2.2 (by omega) (hF20.trans hE)
      exact lp20 Q 0 (-4) (-4) P2 Q2 H2 sd2 B2 hav2 Y2 PA2 (by omega) rfl
    · refine zr_iconst (v := (-1)) (pc2 := 10) O dX6_mend_9 (by decide +kernel) rfl ?_
      have hE : s_X6_mend P Q Hn sd B P2 Q2 H2 sd2 B2 hav2 Y2 PA2 wh = ((-1), P2, Q2, H2, sd2, B2, hav2, Y2, PA2) := by exact ((if_neg c1).trans (if_neg c6))
      exact hret _ _ _ _ dX6_mend_10 rfl (by rw [hE]) (by rw [hE])
/-! X6_limits -/
def f_X6_limits_26 (v : Int32) : Nat → Nat → zB → zB
  | 0, _, B9 => B9
  | n9 + 1, i, B9 => f_X6_limits_26 v n9 (i + 1) (B9.1, B9.2.1, (upd B9.2.2.1 i v), B9.2.2.2)
def s_X6_limits (P : Nat) (Q : Nat) (Hn : Nat) (sd : Int32) (B : zB) (P2 : Nat) (Q2 : Nat) (H2 : Nat) (sd2 : Int32) (B2 : zB) (hav2 : Int32) (Y2 : zY) (PA2 : Nat → Nat → Int32) (v : Int32) : Int32 × Nat × Nat × Nat × Int32 × zB × Int32 × zY × (Nat → Nat → Int32) := if (s_X6_isWithin v (nI 20) (nI 99)) = true then let u57 := s_X5_run Y2 PA2 P Q Hn sd (f_X6_limits_26 v P 0 B); ((s_J6_bitCount_0f7a4 u57.1), P, Q, Hn, sd, (f_X6_limits_26 v P 0 B), u57.1, u57.2.1, u57.2.2) else ((-1), P2, Q2, H2, sd2, B2, hav2, Y2, PA2)
set_option maxHeartbeats 4000000 in
set_option maxRecDepth 100000 in
theorem c_X6_limits (l : Launch) (D : va_G) (cI cC cJ : ClassId) (x : Nat) (b : Nat → Nat) (t : Nat → Nat) (w : Nat → Nat) (old : Bool) (kb : Nat) (P : Nat) (Q : Nat) (Hn : Nat) (sd : Int32) (B : zB) (P2 : Nat) (Q2 : Nat) (H2 : Nat) (sd2 : Int32) (B2 : zB) (hav2 : Int32) (Y2 : zY) (PA2 : Nat → Nat → Int32) (v : Int32) (c0 : Nat) (r0 : Nat) (y0 : Nat) (h0 : Nat) (g0 : Nat) (k0 : Nat) (j0 : Nat) (hP : P ≤ 6) (hQ : Q ≤ 9) (hH : Hn ≤ 4) : zD l yX6_limits wsX6_limits rm_X6_limits D (zT cI cC cJ) [.ref x, .int v] [mainW x c0 r0 (b 0) y0 old (t 0) (w 0) h0 g0 k0 j0 kb, bookW cI b P Q Hn sd B, bookW cI t P2 Q2 H2 sd2 B2, yearsW cI cJ w (t 0) hav2 Y2 PA2] (some (.int ((s_X6_limits P Q Hn sd B P2 Q2 H2 sd2 B2 hav2 Y2 PA2 v).1))) [mainW x c0 r0 (b 0) y0 old (t 0) (w 0) h0 g0 k0 j0 kb, bookW cI b P Q Hn sd B, bookW cI t ((s_X6_limits P Q Hn sd B P2 Q2 H2 sd2 B2 hav2 Y2 PA2 v).2.1) ((s_X6_limits P Q Hn sd B P2 Q2 H2 sd2 B2 hav2 Y2 PA2 v).2.2.1) ((s_X6_limits P Q Hn sd B P2 Q2 H2 sd2 B2 hav2 Y2 PA2 v).2.2.2.1) ((s_X6_limits P Q Hn sd B P2 Q2 H2 sd2 B2 hav2 Y2 PA2 v).2.2.2.2.1) ((s_X6_limits P Q Hn sd B P2 Q2 H2 sd2 B2 hav2 Y2 PA2 v).2.2.2.2.2.1), yearsW cI cJ w (t 0) ((s_X6_limits P Q Hn sd B P2 Q2 H2 sd2 B2 hav2 Y2 PA2 v).2.2.2.2.2.2.1) ((s_X6_limits P Q Hn sd B P2 Q2 H2 sd2 B2 hav2 Y2 PA2 v).2.2.2.2.2.2.2.1) ((s_X6_limits P Q Hn sd B P2 Q2 H2 sd2 B2 hav2 Y2 PA2 v).2.2.2.2.2.2.2.2)] := by
  refine zD_int (cc := cX6_limits) (maxL := 3) (ty := .int) (lv := [(0, .ref x), (1, .int v)]) (by decide +kernel) rfl (Nat.le_of_ble_eq_true rfl) rfl (fun Z O hret => ?_)
  refine zr_iload_n (pc2 := 1) O dX6_limits_0 rfl 1 rfl rfl ?_
  refine zr_bipush (v := (nI 20)) (pc2 := 3) O dX6_limits_1 (by decide +kernel) rfl ?_
  refine zr_bipush (v := (nI 99)) (pc2 := 5) O dX6_limits_3 (by decide +kernel) rfl ?_
  refine zr_callS (As := [.int v, .int (nI 20), .int (nI 99)]) (rest := []) (ws2 := [mainW x c0 r0 (b 0) y0 old (t 0) (w 0) h0 g0 k0 j0 kb, bookW cI b P Q Hn sd B, bookW cI t P2 Q2 H2 sd2 B2, yearsW cI cJ w (t 0) hav2 Y2 PA2]) (pc2 := 8) O (c_X6_isWithin l D cI cC cJ v (nI 20) (nI 99)) sC_X6_limits_144 rfl rfl dX6_limits_5 [] rfl rfl rfl rfl (Nat.le_of_ble_eq_true rfl) rfl ?_
  show Z _ _ _ [.int (zb (s_X6_isWithin v (nI 20) (nI 99)))]
  refine zb_if_ne (tgt := 13) (pc2 := 11) O dX6_limits_8 (by decide) rfl (fun c8 => ?_) (fun c8 => ?_)
  · refine zr_aload_n (pc2 := 14) O dX6_limits_13 rfl 0 rfl rfl ?_
    refine zr_getf (v := .ref (t 0)) (pc2 := 17) O sF_X6_limits_45 0 0 rfl rfl rfl dX6_limits_14 rfl ?_
    refine zr_aload_n (pc2 := 18) O dX6_limits_17 rfl 0 rfl rfl ?_
    refine zr_getf (v := .ref (b 0)) (pc2 := 21) O sF_X6_limits_28 0 0 rfl rfl rfl dX6_limits_18 rfl ?_
    refine zr_callV (As := [.ref (b 0)]) (rest := []) (ws2 := [mainW x c0 r0 (b 0) y0 old (t 0) (w 0) h0 g0 k0 j0 kb, bookW cI b P Q Hn sd B, bookW cI t P Q Hn sd B, yearsW cI cJ w (t 0) hav2 Y2 PA2]) (pc2 := 24) (ci := 0) (g0 := 2) (q0 := 0) O (c_X0_copyFrom l D cI cC cJ t b P2 Q2 H2 sd2 B2 P Q Hn sd B) sC_X6_limits_103 rfl rfl rfl rfl rfl dX6_limits_21 [2, 1] rfl rfl rfl rfl (Nat.le_of_ble_eq_true rfl) rfl ?_
    show Z _ _ _ []
    refine zr_iconst (v := (nI 0)) (pc2 := 25) O dX6_limits_24 (by decide +kernel) rfl ?_
    refine zr_istore_n (lv2 := [(2, .int (nI 0)), (0, .ref x), (1, .int v)]) (pc2 := 26) O dX6_limits_25 rfl (by decide) rfl rfl ?_
    have lp26 : ∀ (n9 : Nat) (i : Nat) (B9 : zB), i + n9 = P → f_X6_limits_26 v P 0 B = f_X6_limits_26 v n9 i B9 → Z [mainW x c0 r0 (b 0) y0 old (t 0) (w 0) h0 g0 k0 j0 kb, bookW cI b P Q Hn sd B, bookW cI t P Q Hn sd B9, yearsW cI cJ w (t 0) hav2 Y2 PA2] [(2, .int (nI i)), (0, .ref x), (1, .int v)] 26 [] := by
      intro n9
      induction n9 with
      | zero =>
        intro i B9 hM26 hF26
        have hI26 : P = i := by omega
        subst hI26
        have e9 : (f_X6_limits_26 v P 0 B) = B9 := hF26
        subst e9
        refine zr_iload_n (pc2 := 27) O dX6_limits_26 rfl 0 rfl rfl ?_
        refine zr_aload_n (pc2 := 28) O dX6_limits_27 rfl 1 rfl rfl ?_
        refine zr_getf (v := .ref (t 0)) (pc2 := 31) O sF_X6_limits_45 0 0 rfl rfl rfl dX6_limits_28 rfl ?_
        refine zr_getf (v := .int (nI P)) (pc2 := 34) O sF_X6_limits_100 2 0 rfl rfl rfl dX6_limits_31 rfl ?_
        refine zn_icmp_ge (tgt := 53) (pc2 := 37) O dX6_limits_34 (by decide) rfl (by omega) (by omega) (fun c34 => ?_) (fun c34 => ?_)
        · refine zr_aload_n (pc2 := 54) O dX6_limits_53 rfl 1 rfl rfl ?_
          refine zr_getf (v := .ref (w 0)) (pc2 := 57) O sF_X6_limits_48 0 0 rfl rfl rfl dX6_limits_54 rfl ?_
          obtain ⟨u57, hu57⟩ : ∃ z9, z9 = s_X5_run Y2 PA2 P Q Hn sd (f_X6_limits_26 v P 0 B) := ⟨_, rfl⟩
          refine zr_callV (As := []) (rest := []) (ws2 := [mainW x c0 r0 (b 0) y0 old (t 0) (w 0) h0 g0 k0 j0 kb, bookW cI b P Q Hn sd B, bookW cI t P Q Hn sd (f_X6_limits_26 v P 0 B), yearsW cI cJ w (t 0) u57.1 u57.2.1 u57.2.2]) (pc2 := 60) (ci := 5) (g0 := 3) (q0 := 0) (v := none) (W := [yearsW cI cJ w (t 0) hav2 Y2 PA2, bookW cI t P Q Hn sd (f_X6_limits_26 v P 0 B)]) (W2 := [yearsW cI cJ w (t 0) u57.1 u57.2.1 u57.2.2, bookW cI t P Q Hn sd (f_X6_limits_26 v P 0 B)]) O (by rw [hu57]; exact (c_X5_run l D cI cC cJ w t hav2 Y2 PA2 P Q Hn sd (f_X6_limits_26 v P 0 B) (by first | assumption | omega) (by first | assumption | omega) (by first | assumption | omega))) sC_X6_limits_213 rfl rfl rfl rfl rfl dX6_limits_57 [3, 2] rfl rfl rfl rfl (Nat.le_of_ble_eq_true rfl) rfl ?_
          show Z _ _ _ []
          refine zr_aload_n (pc2 := 61) O dX6_limits_60 rfl 1 rfl rfl ?_
          refine zr_getf (v := .ref (w 0)) (pc2 := 64) O sF_X6_limits_48 0 0 rfl rfl rfl dX6_limits_61 rfl ?_
          refine zr_getf (v := .int u57.1) (pc2 := 67) O sF_X6_limits_172 3 0 rfl rfl rfl dX6_limits_64 rfl ?_
          refine zr_callS (As := [.int u57.1]) (rest := []) (ws2 := [mainW x c0 r0 (b 0) y0 old (t 0) (w 0) h0 g0 k0 j0 kb, bookW cI b P Q Hn sd B, bookW cI t P Q Hn sd (f_X6_limits_26 v P 0 B), yearsW cI cJ w (t 0) u57.1 u57.2.1 u57.2.2]) (pc2 := 70) O (c_J6_bitCount_0f7a4 l D cI cC cJ u57.1) sC_X6_limits_216 rfl rfl dX6_limits_67 [] rfl rfl rfl rfl (Nat.le_of_ble_eq_true rfl) rfl ?_
          show Z _ _ _ [.int (s_J6_bitCount_0f7a4 u57.1)]
          have hE : s_X6_limits P Q Hn sd B P2 Q2 H2 sd2 B2 hav2 Y2 PA2 v = ((s_J6_bitCount_0f7a4 u57.1), P, Q, Hn, sd, (f_X6_limits_26 v P 0 B), u57.1, u57.2.1, u57.2.2) := by subst hu57; exact (zif_t c8)
          exact hret _ _ _ _ dX6_limits_70 rfl (by rw [hE]) (by rw [hE])
        · exact absurd c34 (by omega)
      | succ n9 ih26 =>
        intro i B9 hM26 hF26
        refine zr_iload_n (pc2 := 27) O dX6_limits_26 rfl 0 rfl rfl ?_
        refine zr_aload_n (pc2 := 28) O dX6_limits_27 rfl 1 rfl rfl ?_
        refine zr_getf (v := .ref (t 0)) (pc2 := 31) O sF_X6_limits_45 0 0 rfl rfl rfl dX6_limits_28 rfl ?_
        refine zr_getf (v := .int (nI P)) (pc2 := 34) O sF_X6_limits_100 2 0 rfl rfl rfl dX6_limits_31 rfl ?_
        refine zn_icmp_ge (tgt := 53) (pc2 := 37) O dX6_limits_34 (by decide) rfl (by omega) (by omega) (fun c34 => ?_) (fun c34 => ?_)
        · exact absurd c34 (by omega)
        · refine zr_aload_n (pc2 := 38) O dX6_limits_37 rfl 1 rfl rfl ?_
          refine zr_getf (v := .ref (t 0)) (pc2 := 41) O sF_X6_limits_45 0 0 rfl rfl rfl dX6_limits_38 rfl ?_
          refine zr_getf (v := .ref (t 3)) (pc2 := 44) O sF_X6_limits_119 2 0 rfl rfl rfl dX6_limits_41 rfl ?_
          refine zr_iload_n (pc2 := 45) O dX6_limits_44 rfl 0 rfl rfl ?_
          refine zr_iload_n (pc2 := 46) O dX6_limits_45 rfl 2 rfl rfl ?_
          refine zn_iast (j := i) (G2 := bookW cI t P Q Hn sd (B9.1, B9.2.1, (upd B9.2.2.1 i v), B9.2.2.2)) (ws2 := [mainW x c0 r0 (b 0) y0 old (t 0) (w 0) h0 g0 k0 j0 kb, bookW cI b P Q Hn sd B, bookW cI t P Q Hn sd (B9.1, B9.2.1, (upd B9.2.2.1 i v), B9.2.2.2), yearsW cI cJ w (t 0) hav2 Y2 PA2]) (pc2 := 47) O 2 3 0 rfl rfl rfl rfl (by omega) (by decide) dX6_limits_46 rfl rfl rfl ?_
          refine zr_iinc (v := (nI (i + 1))) (lv2 := [(2, .int (nI (i + 1))), (0, .ref x), (1, .int v)]) (pc2 := 50) O dX6_limits_47 0 rfl (zm_ofInt1 i) (by decide) rfl rfl ?_
          refine zr_goto (tgt := 26) O dX6_limits_50 (by decide) ?_
          have hE : f_X6_limits_26 v (n9 + 1) i B9 = f_X6_limits_26 v n9 (i + 1) (B9.1, B9.2.1, (upd B9.2.2.1 i v), B9.2.2.2) := by exact rfl
          exact ih26 (i + 1) (B9.1, B9.2.1, (upd B9.2.2.1 i v), B9.2.2.2) (by omega) (hF26.trans hE)
    exact lp26 P 0 B (by omega) rfl
  · refine zr_iconst (v := (-1)) (pc2 := 12) O dX6_limits_11 (by decide +kernel) rfl ?_
    have hE : s_X6_limits P Q Hn sd B P2 Q2 H2 sd2 B2 hav2 Y2 PA2 v = ((-1), P2, Q2, H2, sd2, B2, hav2, Y2, PA2) := by exact (zif_f c8)
    exact hret _ _ _ _ dX6_limits_12 rfl (by rw [hE]) (by rw [hE])
/-! X6_fewestBack -/
def f_X6_fewestBack_6 (Q : Nat) (B : zB) (i : Int32) : Nat → Nat → Int32 → Int32
  | 0, _, _ => (-4)
  | n9 + 1, st, rch => if ((s_X0_heirsOf Q B rch) &&& ((nI 1) <<< (i &&& 31))) = 0 then f_X6_fewestBack_6 Q B i n9 (st + 1) (s_X0_heirsOf Q B rch) else (nI st)
def s_X6_fewestBack (P : Nat) (Q : Nat) (B : zB) (i : Int32) : Int32 := f_X6_fewestBack_6 Q B i P 1 ((nI 1) <<< (i &&& 31))
set_option maxHeartbeats 4000000 in
set_option maxRecDepth 100000 in
theorem c_X6_fewestBack (l : Launch) (D : va_G) (cI cC cJ : ClassId) (x : Nat) (b : Nat → Nat) (old : Bool) (kb : Nat) (P : Nat) (Q : Nat) (Hn : Nat) (sd : Int32) (B : zB) (i : Int32) (c0 : Nat) (r0 : Nat) (y0 : Nat) (t0 : Nat) (w0 : Nat) (h0 : Nat) (g0 : Nat) (k0 : Nat) (j0 : Nat) (hP : P ≤ 6) (hQ : Q ≤ 9) : zD l yX6_fewestBack wsX6_fewestBack rm_X6_fewestBack D (zT cI cC cJ) [.ref x, .int i] [mainW x c0 r0 (b 0) y0 old t0 w0 h0 g0 k0 j0 kb, bookW cI b P Q Hn sd B] (some (.int (s_X6_fewestBack P Q B i))) [mainW x c0 r0 (b 0) y0 old t0 w0 h0 g0 k0 j0 kb, bookW cI b P Q Hn sd B] := by
  refine zD_int (cc := cX6_fewestBack) (maxL := 4) (ty := .int) (lv := [(0, .ref x), (1, .int i)]) (by decide +kernel) rfl (Nat.le_of_ble_eq_true rfl) rfl (fun Z O hret => ?_)
  refine zr_iconst (v := (nI 1)) (pc2 := 1) O dX6_fewestBack_0 (by decide +kernel) rfl ?_
  refine zr_iload_n (pc2 := 2) O dX6_fewestBack_1 rfl 1 rfl rfl ?_
  refine zr_ishl (v := ((nI 1) <<< (i &&& 31))) (pc2 := 3) O dX6_fewestBack_2 rfl rfl ?_
  refine zr_istore_n (lv2 := [(2, .int ((nI 1) <<< (i &&& 31))), (0, .ref x), (1, .int i)]) (pc2 := 4) O dX6_fewestBack_3 rfl (by decide) rfl rfl ?_
  refine zr_iconst (v := (nI 1)) (pc2 := 5) O dX6_fewestBack_4 (by decide +kernel) rfl ?_
  refine zr_istore_n (lv2 := [(3, .int (nI 1)), (2, .int ((nI 1) <<< (i &&& 31))), (0, .ref x), (1, .int i)]) (pc2 := 6) O dX6_fewestBack_5 rfl (by decide) rfl rfl ?_
  have hS6 : s_X6_fewestBack P Q B i = f_X6_fewestBack_6 Q B i P 1 ((nI 1) <<< (i &&& 31)) := by exact rfl
  have lp6 : ∀ (n9 : Nat) (st : Nat) (rch : Int32), st + n9 = (P + 1) → f_X6_fewestBack_6 Q B i P 1 ((nI 1) <<< (i &&& 31)) = f_X6_fewestBack_6 Q B i n9 st rch → Z [mainW x c0 r0 (b 0) y0 old t0 w0 h0 g0 k0 j0 kb, bookW cI b P Q Hn sd B] [(3, .int (nI st)), (2, .int rch), (0, .ref x), (1, .int i)] 6 [] := by
    intro n9
    induction n9 with
    | zero =>
      intro st rch hM6 hF6
      refine zr_iload_n (pc2 := 7) O dX6_fewestBack_6 rfl 0 rfl rfl ?_
      refine zr_aload_n (pc2 := 8) O dX6_fewestBack_7 rfl 2 rfl rfl ?_
      refine zr_getf (v := .ref (b 0)) (pc2 := 11) O sF_X6_fewestBack_28 0 0 rfl rfl rfl dX6_fewestBack_8 rfl ?_
      refine zr_getf (v := .int (nI P)) (pc2 := 14) O sF_X6_fewestBack_100 1 0 rfl rfl rfl dX6_fewestBack_11 rfl ?_
      refine zn_icmp_gt (tgt := 42) (pc2 := 17) O dX6_fewestBack_14 (by decide) rfl (by omega) (by omega) (fun c14 => ?_) (fun c14 => ?_)
      · refine zr_bipush (v := (-4)) (pc2 := 44) O dX6_fewestBack_42 (by decide +kernel) rfl ?_
        have hE : f_X6_fewestBack_6 Q B i 0 st rch = (-4) := by exact rfl
        have hE := hS6.trans (hF6.trans hE)
        exact hret _ _ _ _ dX6_fewestBack_44 rfl (by rw [hE]) rfl
      · exact absurd c14 (by omega)
    | succ n9 ih6 =>
      intro st rch hM6 hF6
      refine zr_iload_n (pc2 := 7) O dX6_fewestBack_6 rfl 0 rfl rfl ?_
      refine zr_aload_n (pc2 := 8) O dX6_fewestBack_7 rfl 2 rfl rfl ?_
      refine zr_getf (v := .ref (b 0)) (pc2 := 11) O sF_X6_fewestBack_28 0 0 rfl rfl rfl dX6_fewestBack_8 rfl ?_
      refine zr_getf (v := .int (nI P)) (pc2 := 14) O sF_X6_fewestBack_100 1 0 rfl rfl rfl dX6_fewestBack_11 rfl ?_
      refine zn_icmp_gt (tgt := 42) (pc2 := 17) O dX6_fewestBack_14 (by decide) rfl (by omega) (by omega) (fun c14 => ?_) (fun c14 => ?_)
      · exact absurd c14 (by omega)
      · refine zr_aload_n (pc2 := 18) O dX6_fewestBack_17 rfl 2 rfl rfl ?_
        refine zr_getf (v := .ref (b 0)) (pc2 := 21) O sF_X6_fewestBack_28 0 0 rfl rfl rfl dX6_fewestBack_18 rfl ?_
        refine zr_iload_n (pc2 := 22) O dX6_fewestBack_21 rfl 1 rfl rfl ?_
        refine zr_callV (As := [.int rch]) (rest := []) (ws2 := [mainW x c0 r0 (b 0) y0 old t0 w0 h0 g0 k0 j0 kb, bookW cI b P Q Hn sd B]) (pc2 := 25) (ci := 0) (g0 := 1) (q0 := 0) O (c_X0_heirsOf l D cI cC cJ b P Q Hn sd B rch (by first | assumption | omega)) sC_X6_fewestBack_256 rfl rfl rfl rfl rfl dX6_fewestBack_22 [1] rfl rfl rfl rfl (Nat.le_of_ble_eq_true rfl) rfl ?_
        show Z _ _ _ [.int (s_X0_heirsOf Q B rch)]
        refine zr_istore_n (lv2 := [(2, .int (s_X0_heirsOf Q B rch)), (3, .int (nI st)), (0, .ref x), (1, .int i)]) (pc2 := 26) O dX6_fewestBack_25 rfl (by decide) rfl rfl ?_
        refine zr_iload_n (pc2 := 27) O dX6_fewestBack_26 rfl 0 rfl rfl ?_
        refine zr_iconst (v := (nI 1)) (pc2 := 28) O dX6_fewestBack_27 (by decide +kernel) rfl ?_
        refine zr_iload_n (pc2 := 29) O dX6_fewestBack_28 rfl 3 rfl rfl ?_
        refine zr_ishl (v := ((nI 1) <<< (i &&& 31))) (pc2 := 30) O dX6_fewestBack_29 rfl rfl ?_
        refine zr_iand (v := ((s_X0_heirsOf Q B rch) &&& ((nI 1) <<< (i &&& 31)))) (pc2 := 31) O dX6_fewestBack_30 rfl rfl ?_
        refine zr_if_eq (tgt := 36) (pc2 := 34) O dX6_fewestBack_31 (by decide) rfl (fun c31 => ?_) (fun c31 => ?_)
        · refine zr_iinc (v := (nI (st + 1))) (lv2 := [(3, .int (nI (st + 1))), (2, .int (s_X0_heirsOf Q B rch)), (0, .ref x), (1, .int i)]) (pc2 := 39) O dX6_fewestBack_36 1 rfl (zm_ofInt1 st) (by decide) rfl rfl ?_
          refine zr_goto (tgt := 6) O dX6_fewestBack_39 (by decide) ?_
          have hE : f_X6_fewestBack_6 Q B i (n9 + 1) st rch = f_X6_fewestBack_6 Q B i n9 (st + 1) (s_X0_heirsOf Q B rch) := by exact (if_pos c31)
          exact ih6 (st + 1) (s_X0_heirsOf Q B rch) (by omega) (hF6.trans hE)
        · refine zr_iload_n (pc2 := 35) O dX6_fewestBack_34 rfl 1 rfl rfl ?_
          have hE : f_X6_fewestBack_6 Q B i (n9 + 1) st rch = (nI st) := by exact (if_neg c31)
          have hE := hS6.trans (hF6.trans hE)
          exact hret _ _ _ _ dX6_fewestBack_35 rfl (by rw [hE]) rfl
  exact lp6 P 1 ((nI 1) <<< (i &&& 31)) (by omega) rfl
/-! X6_ring -/
def s_X6_ring (P : Nat) (Q : Nat) (B : zB) (i : Int32) : Int32 := if (s_X0_hasPerson P i) = true then (s_X6_fewestBack P Q B i) else (-1)
set_option maxHeartbeats 4000000 in
set_option maxRecDepth 100000 in
theorem c_X6_ring (l : Launch) (D : va_G) (cI cC cJ : ClassId) (x : Nat) (b : Nat → Nat) (old : Bool) (kb : Nat) (P : Nat) (Q : Nat) (Hn : Nat) (sd : Int32) (B : zB) (i : Int32) (c0 : Nat) (r0 : Nat) (y0 : Nat) (t0 : Nat) (w0 : Nat) (h0 : Nat) (g0 : Nat) (k0 : Nat) (j0 : Nat) (hP : P ≤ 6) (hQ : Q ≤ 9) : zD l yX6_ring wsX6_ring rm_X6_ring D (zT cI cC cJ) [.ref x, .int i] [mainW x c0 r0 (b 0) y0 old t0 w0 h0 g0 k0 j0 kb, bookW cI b P Q Hn sd B] (some (.int (s_X6_ring P Q B i))) [mainW x c0 r0 (b 0) y0 old t0 w0 h0 g0 k0 j0 kb, bookW cI b P Q Hn sd B] := by
  refine zD_int (cc := cX6_ring) (maxL := 2) (ty := .int) (lv := [(0, .ref x), (1, .int i)]) (by decide +kernel) rfl (Nat.le_of_ble_eq_true rfl) rfl (fun Z O hret => ?_)
  refine zr_aload_n (pc2 := 1) O dX6_ring_0 rfl 0 rfl rfl ?_
  refine zr_getf (v := .ref (b 0)) (pc2 := 4) O sF_X6_ring_28 0 0 rfl rfl rfl dX6_ring_1 rfl ?_
  refine zr_iload_n (pc2 := 5) O dX6_ring_4 rfl 1 rfl rfl ?_
  refine zr_callV (As := [.int i]) (rest := []) (ws2 := [mainW x c0 r0 (b 0) y0 old t0 w0 h0 g0 k0 j0 kb, bookW cI b P Q Hn sd B]) (pc2 := 8) (ci := 0) (g0 := 1) (q0 := 0) O (c_X0_hasPerson l D cI cC cJ b P Q Hn sd B i) sC_X6_ring_108 rfl rfl rfl rfl rfl dX6_ring_5 [1] rfl rfl rfl rfl (Nat.le_of_ble_eq_true rfl) rfl ?_
  show Z _ _ _ [.int (zb (s_X0_hasPerson P i))]
  refine zb_if_eq (tgt := 19) (pc2 := 11) O dX6_ring_8 (by decide) rfl (fun c8 => ?_) (fun c8 => ?_)
  · refine zr_iconst (v := (-1)) (pc2 := 20) O dX6_ring_19 (by decide +kernel) rfl ?_
    have hE : s_X6_ring P Q B i = (-1) := by exact (zif_f c8)
    exact hret _ _ _ _ dX6_ring_20 rfl (by rw [hE]) rfl
  · refine zr_aload_n (pc2 := 12) O dX6_ring_11 rfl 0 rfl rfl ?_
    refine zr_iload_n (pc2 := 13) O dX6_ring_12 rfl 1 rfl rfl ?_
    refine zr_callV (As := [.int i]) (rest := []) (ws2 := [mainW x c0 r0 (b 0) y0 old t0 w0 h0 g0 k0 j0 kb, bookW cI b P Q Hn sd B]) (pc2 := 16) (ci := 6) (g0 := 0) (q0 := 0) O (c_X6_fewestBack l D cI cC cJ x b old kb P Q Hn sd B i c0 r0 y0 t0 w0 h0 g0 k0 j0 (by first | assumption | omega) (by first | assumption | omega)) sC_X6_ring_221 rfl rfl rfl rfl rfl dX6_ring_13 [0, 1] rfl rfl rfl rfl (Nat.le_of_ble_eq_true rfl) rfl ?_
    show Z _ _ _ [.int (s_X6_fewestBack P Q B i)]
    refine zr_goto (tgt := 20) O dX6_ring_16 (by decide) ?_
    have hE : s_X6_ring P Q B i = (s_X6_fewestBack P Q B i) := by exact (zif_t c8)
    exact hret _ _ _ _ dX6_ring_20 rfl (by rw [hE]) rfl
/-! X6_owes -/
def s_X6_owes (P : Nat) (Q : Nat) (B : zB) (i : Int32) : Int32 := if (s_X0_hasPerson P i) = true then (((s_X0_leaves Q B i) - (s_X0_isLeft Q B i)) + (nI 1000)) else (-1)
set_option maxHeartbeats 4000000 in
set_option maxRecDepth 100000 in
theorem c_X6_owes (l : Launch) (D : va_G) (cI cC cJ : ClassId) (x : Nat) (b : Nat → Nat) (old : Bool) (kb : Nat) (P : Nat) (Q : Nat) (Hn : Nat) (sd : Int32) (B : zB) (i : Int32) (c0 : Nat) (r0 : Nat) (y0 : Nat) (t0 : Nat) (w0 : Nat) (h0 : Nat) (g0 : Nat) (k0 : Nat) (j0 : Nat) (hP : P ≤ 6) (hQ : Q ≤ 9) : zD l yX6_owes wsX6_owes rm_X6_owes D (zT cI cC cJ) [.ref x, .int i] [mainW x c0 r0 (b 0) y0 old t0 w0 h0 g0 k0 j0 kb, bookW cI b P Q Hn sd B] (some (.int (s_X6_owes P Q B i))) [mainW x c0 r0 (b 0) y0 old t0 w0 h0 g0 k0 j0 kb, bookW cI b P Q Hn sd B] := by
  refine zD_int (cc := cX6_owes) (maxL := 2) (ty := .int) (lv := [(0, .ref x), (1, .int i)]) (by decide +kernel) rfl (Nat.le_of_ble_eq_true rfl) rfl (fun Z O hret => ?_)
  refine zr_aload_n (pc2 := 1) O dX6_owes_0 rfl 0 rfl rfl ?_
  refine zr_getf (v := .ref (b 0)) (pc2 := 4) O sF_X6_owes_28 0 0 rfl rfl rfl dX6_owes_1 rfl ?_
  refine zr_iload_n (pc2 := 5) O dX6_owes_4 rfl 1 rfl rfl ?_
  refine zr_callV (As := [.int i]) (rest := []) (ws2 := [mainW x c0 r0 (b 0) y0 old t0 w0 h0 g0 k0 j0 kb, bookW cI b P Q Hn sd B]) (pc2 := 8) (ci := 0) (g0 := 1) (q0 := 0) O (c_X0_hasPerson l D cI cC cJ b P Q Hn sd B i) sC_X6_owes_108 rfl rfl rfl rfl rfl dX6_owes_5 [1] rfl rfl rfl rfl (Nat.le_of_ble_eq_true rfl) rfl ?_
  show Z _ _ _ [.int (zb (s_X0_hasPerson P i))]
  refine zb_if_ne (tgt := 13) (pc2 := 11) O dX6_owes_8 (by decide) rfl (fun c8 => ?_) (fun c8 => ?_)
  · refine zr_aload_n (pc2 := 14) O dX6_owes_13 rfl 0 rfl rfl ?_
    refine zr_getf (v := .ref (b 0)) (pc2 := 17) O sF_X6_owes_28 0 0 rfl rfl rfl dX6_owes_14 rfl ?_
    refine zr_iload_n (pc2 := 18) O dX6_owes_17 rfl 1 rfl rfl ?_
    refine zr_callV (As := [.int i]) (rest := []) (ws2 := [mainW x c0 r0 (b 0) y0 old t0 w0 h0 g0 k0 j0 kb, bookW cI b P Q Hn sd B]) (pc2 := 21) (ci := 0) (g0 := 1) (q0 := 0) O (c_X0_leaves l D cI cC cJ b P Q Hn sd B i (by first | assumption | omega)) sC_X6_owes_128 rfl rfl rfl rfl rfl dX6_owes_18 [1] rfl rfl rfl rfl (Nat.le_of_ble_eq_true rfl) rfl ?_
    show Z _ _ _ [.int (s_X0_leaves Q B i)]
    refine zr_aload_n (pc2 := 22) O dX6_owes_21 rfl 0 rfl rfl ?_
    refine zr_getf (v := .ref (b 0)) (pc2 := 25) O sF_X6_owes_28 0 0 rfl rfl rfl dX6_owes_22 rfl ?_
    refine zr_iload_n (pc2 := 26) O dX6_owes_25 rfl 1 rfl rfl ?_
    refine zr_callV (As := [.int i]) (rest := [.int (s_X0_leaves Q B i)]) (ws2 := [mainW x c0 r0 (b 0) y0 old t0 w0 h0 g0 k0 j0 kb, bookW cI b P Q Hn sd B]) (pc2 := 29) (ci := 0) (g0 := 1) (q0 := 0) O (c_X0_isLeft l D cI cC cJ b P Q Hn sd B i (by first | assumption | omega)) sC_X6_owes_224 rfl rfl rfl rfl rfl dX6_owes_26 [1] rfl rfl rfl rfl (Nat.le_of_ble_eq_true rfl) rfl ?_
    show Z _ _ _ [.int (s_X0_isLeft Q B i), .int (s_X0_leaves Q B i)]
    refine zr_isub (v := ((s_X0_leaves Q B i) - (s_X0_isLeft Q B i))) (pc2 := 30) O dX6_owes_29 rfl rfl ?_
    refine zr_sipush (v := (nI 1000)) (pc2 := 33) O dX6_owes_30 (by decide +kernel) rfl ?_
    refine zr_iadd (v := (((s_X0_leaves Q B i) - (s_X0_isLeft Q B i)) + (nI 1000))) (pc2 := 34) O dX6_owes_33 rfl rfl ?_
    have hE : s_X6_owes P Q B i = (((s_X0_leaves Q B i) - (s_X0_isLeft Q B i)) + (nI 1000)) := by exact (zif_t c8)
    exact hret _ _ _ _ dX6_owes_34 rfl (by rw [hE]) rfl
  · refine zr_iconst (v := (-1)) (pc2 := 12) O dX6_owes_11 (by decide +kernel) rfl ?_
    have hE : s_X6_owes P Q B i = (-1) := by exact (zif_f c8)
    exact hret _ _ _ _ dX6_owes_12 rfl (by rw [hE]) rfl
/-! X6_seen -/
def s_X6_seen (P : Nat) (sn : Nat) (Sg : zC) (a1 : Int32) (a2 : Int32) (a3 : Int32) : Int32 × Nat × zC := if (s_X0_hasPerson P a1) = true then if (s_X6_isWithin a2 (nI 0) (nI 150)) = true then if (s_X6_isWithin a3 (nI 0) (nI 999)) = true then let u42 := s_X4_add sn Sg a1 a2 a3; if u42.1 = true then ((nI u42.2.1), u42.2.1, u42.2.2) else ((-3), u42.2.1, u42.2.2) else ((-1), sn, Sg) else ((-1), sn, Sg) else ((-1), sn, Sg)
set_option maxHeartbeats 4000000 in
set_option maxRecDepth 100000 in
theorem c_X6_seen (l : Launch) (D : va_G) (cI cC cJ : ClassId) (x : Nat) (b : Nat → Nat) (g : Nat → Nat) (old : Bool) (kb : Nat) (P : Nat) (Q : Nat) (Hn : Nat) (sd : Int32) (B : zB) (sn : Nat) (Sg : zC) (a1 : Int32) (a2 : Int32) (a3 : Int32) (c0 : Nat) (r0 : Nat) (y0 : Nat) (t0 : Nat) (w0 : Nat) (h0 : Nat) (k0 : Nat) (j0 : Nat) (hsn : sn ≤ 8) : zD l yX6_seen wsX6_seen rm_X6_seen D (zT cI cC cJ) [.ref x, .int a1, .int a2, .int a3] [mainW x c0 r0 (b 0) y0 old t0 w0 h0 (g 3) k0 j0 kb, bookW cI b P Q Hn sd B, sightsW cI g sn Sg] (some (.int ((s_X6_seen P sn Sg a1 a2 a3).1))) [mainW x c0 r0 (b 0) y0 old t0 w0 h0 (g 3) k0 j0 kb, bookW cI b P Q Hn sd B, sightsW cI g ((s_X6_seen P sn Sg a1 a2 a3).2.1) ((s_X6_seen P sn Sg a1 a2 a3).2.2)] := by
  refine zD_int (cc := cX6_seen) (maxL := 4) (ty := .int) (lv := [(0, .ref x), (1, .int a1), (2, .int a2), (3, .int a3)]) (by decide +kernel) rfl (Nat.le_of_ble_eq_true rfl) rfl (fun Z O hret => ?_)
  refine zr_aload_n (pc2 := 1) O dX6_seen_0 rfl 0 rfl rfl ?_
  refine zr_getf (v := .ref (b 0)) (pc2 := 4) O sF_X6_seen_28 0 0 rfl rfl rfl dX6_seen_1 rfl ?_
  refine zr_iload_n (pc2 := 5) O dX6_seen_4 rfl 1 rfl rfl ?_
  refine zr_callV (As := [.int a1]) (rest := []) (ws2 := [mainW x c0 r0 (b 0) y0 old t0 w0 h0 (g 3) k0 j0 kb, bookW cI b P Q Hn sd B, sightsW cI g sn Sg]) (pc2 := 8) (ci := 0) (g0 := 1) (q0 := 0) O (c_X0_hasPerson l D cI cC cJ b P Q Hn sd B a1) sC_X6_seen_108 rfl rfl rfl rfl rfl dX6_seen_5 [1] rfl rfl rfl rfl (Nat.le_of_ble_eq_true rfl) rfl ?_
  show Z _ _ _ [.int (zb (s_X0_hasPerson P a1))]
  refine zb_if_eq (tgt := 33) (pc2 := 11) O dX6_seen_8 (by decide) rfl (fun c8 => ?_) (fun c8 => ?_)
  · refine zr_iconst (v := (-1)) (pc2 := 34) O dX6_seen_33 (by decide +kernel) rfl ?_
    have hE : s_X6_seen P sn Sg a1 a2 a3 = ((-1), sn, Sg) := by exact (zif_f c8)
    exact hret _ _ _ _ dX6_seen_34 rfl (by rw [hE]) (by rw [hE])
  · refine zr_iload_n (pc2 := 12) O dX6_seen_11 rfl 2 rfl rfl ?_
    refine zr_iconst (v := (nI 0)) (pc2 := 13) O dX6_seen_12 (by decide +kernel) rfl ?_
    refine zr_sipush (v := (nI 150)) (pc2 := 16) O dX6_seen_13 (by decide +kernel) rfl ?_
    refine zr_callS (As := [.int a2, .int (nI 0), .int (nI 150)]) (rest := []) (ws2 := [mainW x c0 r0 (b 0) y0 old t0 w0 h0 (g 3) k0 j0 kb, bookW cI b P Q Hn sd B, sightsW cI g sn Sg]) (pc2 := 19) O (c_X6_isWithin l D cI cC cJ a2 (nI 0) (nI 150)) sC_X6_seen_144 rfl rfl dX6_seen_16 [] rfl rfl rfl rfl (Nat.le_of_ble_eq_true rfl) rfl ?_
    show Z _ _ _ [.int (zb (s_X6_isWithin a2 (nI 0) (nI 150)))]
    refine zb_if_eq (tgt := 33) (pc2 := 22) O dX6_seen_19 (by decide) rfl (fun c19 => ?_) (fun c19 => ?_)
    · refine zr_iconst (v := (-1)) (pc2 := 34) O dX6_seen_33 (by decide +kernel) rfl ?_
      have hE : s_X6_seen P sn Sg a1 a2 a3 = ((-1), sn, Sg) := by exact ((zif_t c8).trans (zif_f c19))
      exact hret _ _ _ _ dX6_seen_34 rfl (by rw [hE]) (by rw [hE])
    · refine zr_iload_n (pc2 := 23) O dX6_seen_22 rfl 3 rfl rfl ?_
      refine zr_iconst (v := (nI 0)) (pc2 := 24) O dX6_seen_23 (by decide +kernel) rfl ?_
      refine zr_sipush (v := (nI 999)) (pc2 := 27) O dX6_seen_24 (by decide +kernel) rfl ?_
      refine zr_callS (As := [.int a3, .int (nI 0), .int (nI 999)]) (rest := []) (ws2 := [mainW x c0 r0 (b 0) y0 old t0 w0 h0 (g 3) k0 j0 kb, bookW cI b P Q Hn sd B, sightsW cI g sn Sg]) (pc2 := 30) O (c_X6_isWithin l D cI cC cJ a3 (nI 0) (nI 999)) sC_X6_seen_144 rfl rfl dX6_seen_27 [] rfl rfl rfl rfl (Nat.le_of_ble_eq_true rfl) rfl ?_
      show Z _ _ _ [.int (zb (s_X6_isWithin a3 (nI 0) (nI 999)))]
      refine zb_if_ne (tgt := 35) (pc2 := 33) O dX6_seen_30 (by decide) rfl (fun c30 => ?_) (fun c30 => ?_)
      · refine zr_aload_n (pc2 := 36) O dX6_seen_35 rfl 0 rfl rfl ?_
        refine zr_getf (v := .ref (g 3)) (pc2 := 39) O sF_X6_seen_61 0 0 rfl rfl rfl dX6_seen_36 rfl ?_
        refine zr_iload_n (pc2 := 40) O dX6_seen_39 rfl 1 rfl rfl ?_
        refine zr_iload_n (pc2 := 41) O dX6_seen_40 rfl 2 rfl rfl ?_
        refine zr_iload_n (pc2 := 42) O dX6_seen_41 rfl 3 rfl rfl ?_
        obtain ⟨u42, hu42⟩ : ∃ z9, z9 = s_X4_add sn Sg a1 a2 a3 := ⟨_, rfl⟩
        refine zr_callV (As := [.int a1, .int a2, .int a3]) (rest := []) (ws2 := [mainW x c0 r0 (b 0) y0 old t0 w0 h0 (g 3) k0 j0 kb, bookW cI b P Q Hn sd B, sightsW cI g u42.2.1 u42.2.2]) (pc2 := 45) (ci := 4) (g0 := 2) (q0 := 0) (v := (some (.int (zb u42.1)))) (W := [sightsW cI g sn Sg]) (W2 := [sightsW cI g u42.2.1 u42.2.2]) O (by rw [hu42]; exact (c_X4_add l D cI cC cJ g sn Sg a1 a2 a3 (by first | assumption | omega))) sC_X6_seen_227 rfl rfl rfl rfl rfl dX6_seen_42 [2] rfl rfl rfl rfl (Nat.le_of_ble_eq_true rfl) rfl ?_
        show Z _ _ _ [.int (zb u42.1)]
        refine zb_if_eq (tgt := 58) (pc2 := 48) O dX6_seen_45 (by decide) rfl (fun c45 => ?_) (fun c45 => ?_)
        · refine zr_bipush (v := (-3)) (pc2 := 60) O dX6_seen_58 (by decide +kernel) rfl ?_
          have hE : s_X6_seen P sn Sg a1 a2 a3 = ((-3), u42.2.1, u42.2.2) := by subst hu42; exact ((zif_t c8).trans ((zif_t c19).trans ((zif_t c30).trans (zif_f c45))))
          exact hret _ _ _ _ dX6_seen_60 rfl (by rw [hE]) (by rw [hE])
        · refine zr_aload_n (pc2 := 49) O dX6_seen_48 rfl 0 rfl rfl ?_
          refine zr_getf (v := .ref (g 3)) (pc2 := 52) O sF_X6_seen_61 0 0 rfl rfl rfl dX6_seen_49 rfl ?_
          refine zr_getf (v := .int (nI u42.2.1)) (pc2 := 55) O sF_X6_seen_230 2 0 rfl rfl rfl dX6_seen_52 rfl ?_
          refine zr_goto (tgt := 60) O dX6_seen_55 (by decide) ?_
          have hE : s_X6_seen P sn Sg a1 a2 a3 = ((nI u42.2.1), u42.2.1, u42.2.2) := by subst hu42; exact ((zif_t c8).trans ((zif_t c19).trans ((zif_t c30).trans (zif_t c45))))
          exact hret _ _ _ _ dX6_seen_60 rfl (by rw [hE]) (by rw [hE])
      · refine zr_iconst (v := (-1)) (pc2 := 34) O dX6_seen_33 (by decide +kernel) rfl ?_
        have hE : s_X6_seen P sn Sg a1 a2 a3 = ((-1), sn, Sg) := by exact ((zif_t c8).trans ((zif_t c19).trans (zif_f c30)))
        exact hret _ _ _ _ dX6_seen_34 rfl (by rw [hE]) (by rw [hE])
/-! X6_forget -/
def s_X6_forget (sn : Nat) : Int32 × Nat := ((nI sn), 0)
set_option maxHeartbeats 4000000 in
set_option maxRecDepth 100000 in
theorem c_X6_forget (l : Launch) (D : va_G) (cI cC cJ : ClassId) (x : Nat) (g : Nat → Nat) (old : Bool) (kb : Nat) (sn : Nat) (Sg : zC) (c0 : Nat) (r0 : Nat) (b0 : Nat) (y0 : Nat) (t0 : Nat) (w0 : Nat) (h0 : Nat) (k0 : Nat) (j0 : Nat) : zD l yX6_forget wsX6_forget rm_X6_forget D (zT cI cC cJ) [.ref x] [mainW x c0 r0 b0 y0 old t0 w0 h0 (g 3) k0 j0 kb, sightsW cI g sn Sg] (some (.int ((s_X6_forget sn).1))) [mainW x c0 r0 b0 y0 old t0 w0 h0 (g 3) k0 j0 kb, sightsW cI g ((s_X6_forget sn).2) Sg] := by
  refine zD_int (cc := cX6_forget) (maxL := 2) (ty := .int) (lv := [(0, .ref x)]) (by decide +kernel) rfl (Nat.le_of_ble_eq_true rfl) rfl (fun Z O hret => ?_)
  refine zr_aload_n (pc2 := 1) O dX6_forget_0 rfl 0 rfl rfl ?_
  refine zr_getf (v := .ref (g 3)) (pc2 := 4) O sF_X6_forget_61 0 0 rfl rfl rfl dX6_forget_1 rfl ?_
  refine zr_getf (v := .int (nI sn)) (pc2 := 7) O sF_X6_forget_230 1 0 rfl rfl rfl dX6_forget_4 rfl ?_
  refine zr_istore_n (lv2 := [(1, .int (nI sn)), (0, .ref x)]) (pc2 := 8) O dX6_forget_7 rfl (by decide) rfl rfl ?_
  refine zr_aload_n (pc2 := 9) O dX6_forget_8 rfl 1 rfl rfl ?_
  refine zr_getf (v := .ref (g 3)) (pc2 := 12) O sF_X6_forget_61 0 0 rfl rfl rfl dX6_forget_9 rfl ?_
  refine zr_callV (As := []) (rest := []) (ws2 := [mainW x c0 r0 b0 y0 old t0 w0 h0 (g 3) k0 j0 kb, sightsW cI g 0 Sg]) (pc2 := 15) (ci := 4) (g0 := 1) (q0 := 0) O (c_X4_clear l D cI cC cJ g sn Sg) sC_X6_forget_107 rfl rfl rfl rfl rfl dX6_forget_12 [1] rfl rfl rfl rfl (Nat.le_of_ble_eq_true rfl) rfl ?_
  show Z _ _ _ []
  refine zr_iload_n (pc2 := 16) O dX6_forget_15 rfl 0 rfl rfl ?_
  have hE : s_X6_forget sn = ((nI sn), 0) := by exact rfl
  exact hret _ _ _ _ dX6_forget_16 rfl (by rw [hE]) (by rw [hE])
/-! X6_kinds -/
def f_X6_kinds_17 (P : Nat) (Q : Nat) (Hn : Nat) (sd : Int32) (B : zB) (sn : Nat) (Sg : zC) (i : Int32) : Nat → Nat → Int32 → Nat → Nat → Nat → Int32 → zB → Int32 → zY → (Nat → Nat → Int32) → Int32 × Nat × Nat × Nat × Int32 × zB × Int32 × zY × (Nat → Nat → Int32)
  | 0, _, bits, P9, Q9, H9, sd9, B9, hav9, Y9, PA9 => (bits, P9, Q9, H9, sd9, B9, hav9, Y9, PA9)
  | n9 + 1, kd, bits, P9, Q9, H9, sd9, B9, hav9, Y9, PA9 => let u47 := s_X5_run Y9 PA9 P Q Hn sd (B.1, B.2.1, B.2.2.1, (upd B.2.2.2.1 i.toNatClampNeg (nI kd)), B.2.2.2.2); if (s_X4_fit sn Sg u47.2.2 i) = true then f_X6_kinds_17 P Q Hn sd B sn Sg i n9 (kd + 1) (bits ||| ((nI 1) <<< ((nI kd) &&& 31))) P Q Hn sd (B.1, B.2.1, B.2.2.1, (upd B.2.2.2.1 i.toNatClampNeg (nI kd)), B.2.2.2.2) u47.1 u47.2.1 u47.2.2 else f_X6_kinds_17 P Q Hn sd B sn Sg i n9 (kd + 1) bits P Q Hn sd (B.1, B.2.1, B.2.2.1, (upd B.2.2.2.1 i.toNatClampNeg (nI kd)), B.2.2.2.2) u47.1 u47.2.1 u47.2.2
def s_X6_kinds (P : Nat) (Q : Nat) (Hn : Nat) (sd : Int32) (B : zB) (P2 : Nat) (Q2 : Nat) (H2 : Nat) (sd2 : Int32) (B2 : zB) (hav2 : Int32) (Y2 : zY) (PA2 : Nat → Nat → Int32) (sn : Nat) (Sg : zC) (i : Int32) : Int32 × Nat × Nat × Nat × Int32 × zB × Int32 × zY × (Nat → Nat → Int32) := if (s_X0_hasPerson P i) = true then let v19 := f_X6_kinds_17 P Q Hn sd B sn Sg i 4 0 (nI 0) P2 Q2 H2 sd2 B2 hav2 Y2 PA2; (v19.1, v19.2.1, v19.2.2.1, v19.2.2.2.1, v19.2.2.2.2.1, v19.2.2.2.2.2.1, v19.2.2.2.2.2.2.1, v19.2.2.2.2.2.2.2.1, v19.2.2.2.2.2.2.2.2) else ((-1), P2, Q2, H2, sd2, B2, hav2, Y2, PA2)
set_option maxHeartbeats 4000000 in
set_option maxRecDepth 100000 in
theorem c_X6_kinds (l : Launch) (D : va_G) (cI cC cJ : ClassId) (x : Nat) (b : Nat → Nat) (t : Nat → Nat) (w : Nat → Nat) (g : Nat → Nat) (old : Bool) (kb : Nat) (P : Nat) (Q : Nat) (Hn : Nat) (sd : Int32) (B : zB) (P2 : Nat) (Q2 : Nat) (H2 : Nat) (sd2 : Int32) (B2 : zB) (hav2 : Int32) (Y2 : zY) (PA2 : Nat → Nat → Int32) (sn : Nat) (Sg : zC) (i : Int32) (c0 : Nat) (r0 : Nat) (y0 : Nat) (h0 : Nat) (k0 : Nat) (j0 : Nat) (hP : P ≤ 6) (hQ : Q ≤ 9) (hH : Hn ≤ 4) (hsn : sn ≤ 8) (hsg : ∀ k, k < sn → vp_in (Sg.2.1 k) 151) : zD l yX6_kinds wsX6_kinds rm_X6_kinds D (zT cI cC cJ) [.ref x, .int i] [mainW x c0 r0 (b 0) y0 old (t 0) (w 0) h0 (g 3) k0 j0 kb, bookW cI b P Q Hn sd B, bookW cI t P2 Q2 H2 sd2 B2, yearsW cI cJ w (t 0) hav2 Y2 PA2, sightsW cI g sn Sg] (some (.int ((s_X6_kinds P Q Hn sd B P2 Q2 H2 sd2 B2 hav2 Y2 PA2 sn Sg i).1))) [mainW x c0 r0 (b 0) y0 old (t 0) (w 0) h0 (g 3) k0 j0 kb, bookW cI b P Q Hn sd B, bookW cI t ((s_X6_kinds P Q Hn sd B P2 Q2 H2 sd2 B2 hav2 Y2 PA2 sn Sg i).2.1) ((s_X6_kinds P Q Hn sd B P2 Q2 H2 sd2 B2 hav2 Y2 PA2 sn Sg i).2.2.1) ((s_X6_kinds P Q Hn sd B P2 Q2 H2 sd2 B2 hav2 Y2 PA2 sn Sg i).2.2.2.1) ((s_X6_kinds P Q Hn sd B P2 Q2 H2 sd2 B2 hav2 Y2 PA2 sn Sg i).2.2.2.2.1) ((s_X6_kinds P Q Hn sd B P2 Q2 H2 sd2 B2 hav2 Y2 PA2 sn Sg i).2.2.2.2.2.1), yearsW cI cJ w (t 0) ((s_X6_kinds P Q Hn sd B P2 Q2 H2 sd2 B2 hav2 Y2 PA2 sn Sg i).2.2.2.2.2.2.1) ((s_X6_kinds P Q Hn sd B P2 Q2 H2 sd2 B2 hav2 Y2 PA2 sn Sg i).2.2.2.2.2.2.2.1) ((s_X6_kinds P Q Hn sd B P2 Q2 H2 sd2 B2 hav2 Y2 PA2 sn Sg i).2.2.2.2.2.2.2.2), sightsW cI g sn Sg] := by
  refine zD_int (cc := cX6_kinds) (maxL := 4) (ty := .int) (lv := [(0, .ref x), (1, .int i)]) (by decide +kernel) rfl (Nat.le_of_ble_eq_true rfl) rfl (fun Z O hret => ?_)
  refine zr_aload_n (pc2 := 1) O dX6_kinds_0 rfl 0 rfl rfl ?_
  refine zr_getf (v := .ref (b 0)) (pc2 := 4) O sF_X6_kinds_28 0 0 rfl rfl rfl dX6_kinds_1 rfl ?_
  refine zr_iload_n (pc2 := 5) O dX6_kinds_4 rfl 1 rfl rfl ?_
  refine zr_callV (As := [.int i]) (rest := []) (ws2 := [mainW x c0 r0 (b 0) y0 old (t 0) (w 0) h0 (g 3) k0 j0 kb, bookW cI b P Q Hn sd B, bookW cI t P2 Q2 H2 sd2 B2, yearsW cI cJ w (t 0) hav2 Y2 PA2, sightsW cI g sn Sg]) (pc2 := 8) (ci := 0) (g0 := 1) (q0 := 0) O (c_X0_hasPerson l D cI cC cJ b P Q Hn sd B i) sC_X6_kinds_108 rfl rfl rfl rfl rfl dX6_kinds_5 [1] rfl rfl rfl rfl (Nat.le_of_ble_eq_true rfl) rfl ?_
  show Z _ _ _ [.int (zb (s_X0_hasPerson P i))]
  refine zb_if_ne (tgt := 13) (pc2 := 11) O dX6_kinds_8 (by decide) rfl (fun c8 => ?_) (fun c8 => ?_)
  · refine zr_iconst (v := (nI 0)) (pc2 := 14) O dX6_kinds_13 (by decide +kernel) rfl ?_
    refine zr_istore_n (lv2 := [(2, .int (nI 0)), (0, .ref x), (1, .int i)]) (pc2 := 15) O dX6_kinds_14 rfl (by decide) rfl rfl ?_
    refine zr_iconst (v := (nI 0)) (pc2 := 16) O dX6_kinds_15 (by decide +kernel) rfl ?_
    refine zr_istore_n (lv2 := [(3, .int (nI 0)), (2, .int (nI 0)), (0, .ref x), (1, .int i)]) (pc2 := 17) O dX6_kinds_16 rfl (by decide) rfl rfl ?_
    have lp17 : ∀ (n9 : Nat) (kd : Nat) (bits : Int32) (P9 : Nat) (Q9 : Nat) (H9 : Nat) (sd9 : Int32) (B9 : zB) (hav9 : Int32) (Y9 : zY) (PA9 : Nat → Nat → Int32), kd + n9 = 4 → f_X6_kinds_17 P Q Hn sd B sn Sg i 4 0 (nI 0) P2 Q2 H2 sd2 B2 hav2 Y2 PA2 = f_X6_kinds_17 P Q Hn sd B sn Sg i n9 kd bits P9 Q9 H9 sd9 B9 hav9 Y9 PA9 → Z [mainW x c0 r0 (b 0) y0 old (t 0) (w 0) h0 (g 3) k0 j0 kb, bookW cI b P Q Hn sd B, bookW cI t P9 Q9 H9 sd9 B9, yearsW cI cJ w (t 0) hav9 Y9 PA9, sightsW cI g sn Sg] [(3, .int (nI kd)), (2, .int bits), (0, .ref x), (1, .int i)] 17 [] := by
      intro n9
      induction n9 with
      | zero =>
        intro kd bits P9 Q9 H9 sd9 B9 hav9 Y9 PA9 hM17 hF17
        have hI17 : 4 = kd := by omega
        subst hI17
        obtain ⟨v19, hv19⟩ : ∃ z9, z9 = f_X6_kinds_17 P Q Hn sd B sn Sg i 4 0 (nI 0) P2 Q2 H2 sd2 B2 hav2 Y2 PA2 := ⟨_, rfl⟩
        rw [← hv19] at hF17
        have e9 : v19.1 = bits := congrArg (fun z => z.1) hF17
        subst e9
        have e9 : v19.2.1 = P9 := congrArg (fun z => z.2.1) hF17
        subst e9
        have e9 : v19.2.2.1 = Q9 := congrArg (fun z => z.2.2.1) hF17
        subst e9
        have e9 : v19.2.2.2.1 = H9 := congrArg (fun z => z.2.2.2.1) hF17
        subst e9
        have e9 : v19.2.2.2.2.1 = sd9 := congrArg (fun z => z.2.2.2.2.1) hF17
        subst e9
        have e9 : v19.2.2.2.2.2.1 = B9 := congrArg (fun z => z.2.2.2.2.2.1) hF17
        subst e9
        have e9 : v19.2.2.2.2.2.2.1 = hav9 := congrArg (fun z => z.2.2.2.2.2.2.1) hF17
        subst e9
        have e9 : v19.2.2.2.2.2.2.2.1 = Y9 := congrArg (fun z => z.2.2.2.2.2.2.2.1) hF17
        subst e9
        have e9 : v19.2.2.2.2.2.2.2.2 = PA9 := congrArg (fun z => z.2.2.2.2.2.2.2.2) hF17
        subst e9
        refine zr_iload_n (pc2 := 18) O dX6_kinds_17 rfl 0 rfl rfl ?_
        refine zr_iconst (v := (nI 4)) (pc2 := 19) O dX6_kinds_18 (by decide +kernel) rfl ?_
        refine zn_icmp_ge (tgt := 77) (pc2 := 22) O dX6_kinds_19 (by decide) rfl (by omega) (by omega) (fun c19 => ?_) (fun c19 => ?_)
        · refine zr_iload_n (pc2 := 78) O dX6_kinds_77 rfl 1 rfl rfl ?_
          have hE : s_X6_kinds P Q Hn sd B P2 Q2 H2 sd2 B2 hav2 Y2 PA2 sn Sg i = (v19.1, v19.2.1, v19.2.2.1, v19.2.2.2.1, v19.2.2.2.2.1, v19.2.2.2.2.2.1, v19.2.2.2.2.2.2.1, v19.2.2.2.2.2.2.2.1, v19.2.2.2.2.2.2.2.2) := by subst hv19; exact (zif_t c8)
          exact hret _ _ _ _ dX6_kinds_78 rfl (by rw [hE]) (by rw [hE])
        · exact absurd c19 (by decide)
      | succ n9 ih17 =>
        intro kd bits P9 Q9 H9 sd9 B9 hav9 Y9 PA9 hM17 hF17
        refine zr_iload_n (pc2 := 18) O dX6_kinds_17 rfl 0 rfl rfl ?_
        refine zr_iconst (v := (nI 4)) (pc2 := 19) O dX6_kinds_18 (by decide +kernel) rfl ?_
        refine zn_icmp_ge (tgt := 77) (pc2 := 22) O dX6_kinds_19 (by decide) rfl (by omega) (by omega) (fun c19 => ?_) (fun c19 => ?_)
        · exact absurd c19 (by omega)
        · refine zr_aload_n (pc2 := 23) O dX6_kinds_22 rfl 2 rfl rfl ?_
          refine zr_getf (v := .ref (t 0)) (pc2 := 26) O sF_X6_kinds_45 0 0 rfl rfl rfl dX6_kinds_23 rfl ?_
          refine zr_aload_n (pc2 := 27) O dX6_kinds_26 rfl 2 rfl rfl ?_
          refine zr_getf (v := .ref (b 0)) (pc2 := 30) O sF_X6_kinds_28 0 0 rfl rfl rfl dX6_kinds_27 rfl ?_
          refine zr_callV (As := [.ref (b 0)]) (rest := []) (ws2 := [mainW x c0 r0 (b 0) y0 old (t 0) (w 0) h0 (g 3) k0 j0 kb, bookW cI b P Q Hn sd B, bookW cI t P Q Hn sd B, yearsW cI cJ w (t 0) hav9 Y9 PA9, sightsW cI g sn Sg]) (pc2 := 33) (ci := 0) (g0 := 2) (q0 := 0) O (c_X0_copyFrom l D cI cC cJ t b P9 Q9 H9 sd9 B9 P Q Hn sd B) sC_X6_kinds_103 rfl rfl rfl rfl rfl dX6_kinds_30 [2, 1] rfl rfl rfl rfl (Nat.le_of_ble_eq_true rfl) rfl ?_
          show Z _ _ _ []
          refine zr_aload_n (pc2 := 34) O dX6_kinds_33 rfl 2 rfl rfl ?_
          refine zr_getf (v := .ref (t 0)) (pc2 := 37) O sF_X6_kinds_45 0 0 rfl rfl rfl dX6_kinds_34 rfl ?_
          refine zr_getf (v := .ref (t 4)) (pc2 := 40) O sF_X6_kinds_122 2 0 rfl rfl rfl dX6_kinds_37 rfl ?_
          refine zr_iload_n (pc2 := 41) O dX6_kinds_40 rfl 3 rfl rfl ?_
          refine zr_iload_n (pc2 := 42) O dX6_kinds_41 rfl 0 rfl rfl ?_
          refine zr_iast (G2 := bookW cI t P Q Hn sd (B.1, B.2.1, B.2.2.1, (upd B.2.2.2.1 i.toNatClampNeg (nI kd)), B.2.2.2.2)) (ws2 := [mainW x c0 r0 (b 0) y0 old (t 0) (w 0) h0 (g 3) k0 j0 kb, bookW cI b P Q Hn sd B, bookW cI t P Q Hn sd (B.1, B.2.1, B.2.2.1, (upd B.2.2.2.1 i.toNatClampNeg (nI kd)), B.2.2.2.2), yearsW cI cJ w (t 0) hav9 Y9 PA9, sightsW cI g sn Sg]) (pc2 := 43) O 2 4 0 rfl rfl rfl (hp_in c8 hP (by decide)) dX6_kinds_42 rfl rfl rfl ?_
          refine zr_aload_n (pc2 := 44) O dX6_kinds_43 rfl 2 rfl rfl ?_
          refine zr_getf (v := .ref (w 0)) (pc2 := 47) O sF_X6_kinds_48 0 0 rfl rfl rfl dX6_kinds_44 rfl ?_
          obtain ⟨u47, hu47⟩ : ∃ z9, z9 = s_X5_run Y9 PA9 P Q Hn sd (B.1, B.2.1, B.2.2.1, (upd B.2.2.2.1 i.toNatClampNeg (nI kd)), B.2.2.2.2) := ⟨_, rfl⟩
          refine zr_callV (As := []) (rest := []) (ws2 := [mainW x c0 r0 (b 0) y0 old (t 0) (w 0) h0 (g 3) k0 j0 kb, bookW cI b P Q Hn sd B, bookW cI t P Q Hn sd (B.1, B.2.1, B.2.2.1, (upd B.2.2.2.1 i.toNatClampNeg (nI kd)), B.2.2.2.2), yearsW cI cJ w (t 0) u47.1 u47.2.1 u47.2.2, sightsW cI g sn Sg]) (pc2 := 50) (ci := 5) (g0 := 3) (q0 := 0) (v := none) (W := [yearsW cI cJ w (t 0) hav9 Y9 PA9, bookW cI t P Q Hn sd (B.1, B.2.1, B.2.2.1, (upd B.2.2.2.1 i.toNatClampNeg (nI kd)), B.2.2.2.2)]) (W2 := [yearsW cI cJ w (t 0) u47.1 u47.2.1 u47.2.2, bookW cI t P Q Hn sd (B.1, B.2.1, B.2.2.1, (upd B.2.2.2.1 i.toNatClampNeg (nI kd)), B.2.2.2.2)]) O (by rw [hu47]; exact (c_X5_run l D cI cC cJ w t hav9 Y9 PA9 P Q Hn sd (B.1, B.2.1, B.2.2.1, (upd B.2.2.2.1 i.toNatClampNeg (nI kd)), B.2.2.2.2) (by first | assumption | omega) (by first | assumption | omega) (by first | assumption | omega))) sC_X6_kinds_213 rfl rfl rfl rfl rfl dX6_kinds_47 [3, 2] rfl rfl rfl rfl (Nat.le_of_ble_eq_true rfl) rfl ?_
          show Z _ _ _ []
          refine zr_aload_n (pc2 := 51) O dX6_kinds_50 rfl 2 rfl rfl ?_
          refine zr_getf (v := .ref (g 3)) (pc2 := 54) O sF_X6_kinds_61 0 0 rfl rfl rfl dX6_kinds_51 rfl ?_
          refine zr_iload_n (pc2 := 55) O dX6_kinds_54 rfl 3 rfl rfl ?_
          refine zr_aload_n (pc2 := 56) O dX6_kinds_55 rfl 2 rfl rfl ?_
          refine zr_getf (v := .ref (w 0)) (pc2 := 59) O sF_X6_kinds_48 0 0 rfl rfl rfl dX6_kinds_56 rfl ?_
          refine zr_callV (As := [.int i, .ref (w 0)]) (rest := []) (ws2 := [mainW x c0 r0 (b 0) y0 old (t 0) (w 0) h0 (g 3) k0 j0 kb, bookW cI b P Q Hn sd B, bookW cI t P Q Hn sd (B.1, B.2.1, B.2.2.1, (upd B.2.2.2.1 i.toNatClampNeg (nI kd)), B.2.2.2.2), yearsW cI cJ w (t 0) u47.1 u47.2.1 u47.2.2, sightsW cI g sn Sg]) (pc2 := 62) (ci := 4) (g0 := 4) (q0 := 0) O (c_X4_fit l D cI cC cJ g w sn Sg u47.1 u47.2.1 u47.2.2 i (t 0) hsn hsg (hp_in c8 hP (by decide)) (by have h9 := hp_in c8 hP (by decide : 6 < 2 ^ 31); unfold vp_in at h9; omega)) sC_X6_kinds_232 rfl rfl rfl rfl rfl dX6_kinds_59 [4, 3] rfl rfl rfl rfl (Nat.le_of_ble_eq_true rfl) rfl ?_
          show Z _ _ _ [.int (zb (s_X4_fit sn Sg u47.2.2 i))]
          refine zb_if_eq (tgt := 71) (pc2 := 65) O dX6_kinds_62 (by decide) rfl (fun c62 => ?_) (fun c62 => ?_)
          · refine zr_iinc (v := (nI (kd + 1))) (lv2 := [(3, .int (nI (kd + 1))), (2, .int bits), (0, .ref x), (1, .int i)]) (pc2 := 74) O dX6_kinds_71 0 rfl (zm_ofInt1 kd) (by decide) rfl rfl ?_
            refine zr_goto (tgt := 17) O dX6_kinds_74 (by decide) ?_
            have hE : f_X6_kinds_17 P Q Hn sd B sn Sg i (n9 + 1) kd bits P9 Q9 H9 sd9 B9 hav9 Y9 PA9 = f_X6_kinds_17 P Q Hn sd B sn Sg i n9 (kd + 1) bits P Q Hn sd (B.1, B.2.1, B.2.2.1, (upd B.2.2.2.1 i.toNatClampNeg (nI kd)), B.2.2.2.2) u47.1 u47.2.1 u47.2.2 := by subst hu47; exact (zif_f c62)
            exact ih17 (kd + 1) bits P Q Hn sd (B.1, B.2.1, B.2.2.1, (upd B.2.2.2.1 i.toNatClampNeg (nI kd)), B.2.2.2.2) u47.1 u47.2.1 u47.2.2 (by omega) (hF17.trans hE)
          · refine zr_iload_n (pc2 := 66) O dX6_kinds_65 rfl 1 rfl rfl ?_
            refine zr_iconst (v := (nI 1)) (pc2 := 67) O dX6_kinds_66 (by decide +kernel) rfl ?_
            refine zr_iload_n (pc2 := 68) O dX6_kinds_67 rfl 0 rfl rfl ?_
            refine zr_ishl (v := ((nI 1) <<< ((nI kd) &&& 31))) (pc2 := 69) O dX6_kinds_68 rfl rfl ?_
            refine zr_ior (v := (bits ||| ((nI 1) <<< ((nI kd) &&& 31)))) (pc2 := 70) O dX6_kinds_69 rfl rfl ?_
            refine zr_istore_n (lv2 := [(2, .int (bits ||| ((nI 1) <<< ((nI kd) &&& 31)))), (3, .int (nI kd)), (0, .ref x), (1, .int i)]) (pc2 := 71) O dX6_kinds_70 rfl (by decide) rfl rfl ?_
            refine zr_iinc (v := (nI (kd + 1))) (lv2 := [(3, .int (nI (kd + 1))), (2, .int (bits ||| ((nI 1) <<< ((nI kd) &&& 31)))), (0, .ref x), (1, .int i)]) (pc2 := 74) O dX6_kinds_71 1 rfl (zm_ofInt1 kd) (by decide) rfl rfl ?_
            refine zr_goto (tgt := 17) O dX6_kinds_74 (by decide) ?_
            have hE : f_X6_kinds_17 P Q Hn sd B sn Sg i (n9 + 1) kd bits P9 Q9 H9 sd9 B9 hav9 Y9 PA9 = f_X6_kinds_17 P Q Hn sd B sn Sg i n9 (kd + 1) (bits ||| ((nI 1) <<< ((nI kd) &&& 31))) P Q Hn sd (B.1, B.2.1, B.2.2.1, (upd B.2.2.2.1 i.toNatClampNeg (nI kd)), B.2.2.2.2) u47.1 u47.2.1 u47.2.2 := by subst hu47; exact (zif_t c62)
            exact ih17 (kd + 1) (bits ||| ((nI 1) <<< ((nI kd) &&& 31))) P Q Hn sd (B.1, B.2.1, B.2.2.1, (upd B.2.2.2.1 i.toNatClampNeg (nI kd)), B.2.2.2.2) u47.1 u47.2.1 u47.2.2 (by omega) (hF17.trans hE)
    exact lp17 4 0 (nI 0) P2 Q2 H2 sd2 B2 hav2 Y2 PA2 (by omega) rfl
  · refine zr_iconst (v := (-1)) (pc2 := 12) O dX6_kinds_11 (by decide +kernel) rfl ?_
    have hE : s_X6_kinds P Q Hn sd B P2 Q2 H2 sd2 B2 hav2 Y2 PA2 sn Sg i = ((-1), P2, Q2, H2, sd2, B2, hav2, Y2, PA2) := by exact (zif_f c8)
    exact hret _ _ _ _ dX6_kinds_12 rfl (by rw [hE]) (by rw [hE])
theorem nI_s0 {n : Nat} (h : n ≤ 1000) : ¬ nI (n + 1) = 0 := nI_ne0 (by omega) (by omega)
/-! X6_waysToGain -/
def f_X6_waysToGain_8 (n : Nat) (wn : Int32) (c : Int32) : Nat → Nat → Int32 → Int32 → Int32 × Int32
  | 0, _, sum, ways => (sum, ways)
  | n9 + 1, wi, sum, ways => if ((nI wi) * wn) < c then f_X6_waysToGain_8 n wn c n9 (wi + 1) sum ((ways * (nI (n - wi))) / (nI (wi + 1))) else f_X6_waysToGain_8 n wn c n9 (wi + 1) (sum + ways) ((ways * (nI (n - wi))) / (nI (wi + 1)))
def s_X6_waysToGain (n : Nat) (wn : Int32) (c : Int32) : Int32 := let v11 := f_X6_waysToGain_8 n wn c (n + 1) 0 (nI 0) (nI 1); v11.1
set_option maxHeartbeats 4000000 in
set_option maxRecDepth 100000 in
theorem c_X6_waysToGain (l : Launch) (D : va_G) (cI cC cJ : ClassId) (n : Nat) (wn : Int32) (c : Int32) (hn10 : n ≤ 10) : zD l yX6_waysToGain wsX6_waysToGain rm_X6_waysToGain D (zT cI cC cJ) [.int (nI n), .int wn, .int c] [] (some (.int (s_X6_waysToGain n wn c))) [] := by
  refine zD_int (cc := cX6_waysToGain) (maxL := 6) (ty := .int) (lv := [(0, .int (nI n)), (1, .int wn), (2, .int c)]) (by decide +kernel) rfl (Nat.le_of_ble_eq_true rfl) rfl (fun Z O hret => ?_)
  refine zr_iconst (v := (nI 0)) (pc2 := 1) O dX6_waysToGain_0 (by decide +kernel) rfl ?_
  refine zr_istore_n (lv2 := [(3, .int (nI 0)), (0, .int (nI n)), (1, .int wn), (2, .int c)]) (pc2 := 2) O dX6_waysToGain_1 rfl (by decide) rfl rfl ?_
  refine zr_iconst (v := (nI 1)) (pc2 := 3) O dX6_waysToGain_2 (by decide +kernel) rfl ?_
  refine zr_istore (lv2 := [(4, .int (nI 1)), (3, .int (nI 0)), (0, .int (nI n)), (1, .int wn), (2, .int c)]) (pc2 := 5) O dX6_waysToGain_3 (by decide) rfl rfl ?_
  refine zr_iconst (v := (nI 0)) (pc2 := 6) O dX6_waysToGain_5 (by decide +kernel) rfl ?_
  refine zr_istore (lv2 := [(5, .int (nI 0)), (4, .int (nI 1)), (3, .int (nI 0)), (0, .int (nI n)), (1, .int wn), (2, .int c)]) (pc2 := 8) O dX6_waysToGain_6 (by decide) rfl rfl ?_
  have lp8 : ∀ (n9 : Nat) (wi : Nat) (sum : Int32) (ways : Int32), wi + n9 = (n + 1) → f_X6_waysToGain_8 n wn c (n + 1) 0 (nI 0) (nI 1) = f_X6_waysToGain_8 n wn c n9 wi sum ways → Z [] [(5, .int (nI wi)), (4, .int ways), (3, .int sum), (0, .int (nI n)), (1, .int wn), (2, .int c)] 8 [] := by
    intro n9
    induction n9 with
    | zero =>
      intro wi sum ways hM8 hF8
      have hI8 : n + 1 = wi := by omega
      subst hI8
      obtain ⟨v11, hv11⟩ : ∃ z9, z9 = f_X6_waysToGain_8 n wn c (n + 1) 0 (nI 0) (nI 1) := ⟨_, rfl⟩
      rw [← hv11] at hF8
      have e9 : v11.1 = sum := congrArg (fun z => z.1) hF8
      subst e9
      have e9 : v11.2 = ways := congrArg (fun z => z.2) hF8
      subst e9
      refine zr_iload (pc2 := 10) O dX6_waysToGain_8 0 rfl rfl ?_
      refine zr_iload_n (pc2 := 11) O dX6_waysToGain_10 rfl 3 rfl rfl ?_
      refine zn_icmp_gt (tgt := 47) (pc2 := 14) O dX6_waysToGain_11 (by decide) rfl (by omega) (by omega) (fun c11 => ?_) (fun c11 => ?_)
      · refine zr_iload_n (pc2 := 48) O dX6_waysToGain_47 rfl 2 rfl rfl ?_
        have hE : s_X6_waysToGain n wn c = v11.1 := by subst hv11; exact rfl
        exact hret _ _ _ _ dX6_waysToGain_48 rfl (by rw [hE]) rfl
      · exact absurd c11 (by omega)
    | succ n9 ih8 =>
      intro wi sum ways hM8 hF8
      refine zr_iload (pc2 := 10) O dX6_waysToGain_8 0 rfl rfl ?_
      refine zr_iload_n (pc2 := 11) O dX6_waysToGain_10 rfl 3 rfl rfl ?_
      refine zn_icmp_gt (tgt := 47) (pc2 := 14) O dX6_waysToGain_11 (by decide) rfl (by omega) (by omega) (fun c11 => ?_) (fun c11 => ?_)
      · exact absurd c11 (by omega)
      · refine zr_iload (pc2 := 16) O dX6_waysToGain_14 0 rfl rfl ?_
        refine zr_iload_n (pc2 := 17) O dX6_waysToGain_16 rfl 4 rfl rfl ?_
        refine zr_imul (v := ((nI wi) * wn)) (pc2 := 18) O dX6_waysToGain_17 rfl rfl ?_
        refine zr_iload_n (pc2 := 19) O dX6_waysToGain_18 rfl 5 rfl rfl ?_
        refine zr_icmp_lt (tgt := 27) (pc2 := 22) O dX6_waysToGain_19 (by decide) rfl (fun c19 => ?_) (fun c19 => ?_)
        · refine zr_iload (pc2 := 29) O dX6_waysToGain_27 1 rfl rfl ?_
          refine zr_iload_n (pc2 := 30) O dX6_waysToGain_29 rfl 3 rfl rfl ?_
          refine zr_iload (pc2 := 32) O dX6_waysToGain_30 0 rfl rfl ?_
          refine zr_isub (v := (nI (n - wi))) (pc2 := 33) O dX6_waysToGain_32 (pk_sub (by omega)) rfl ?_
          refine zr_imul (v := (ways * (nI (n - wi)))) (pc2 := 34) O dX6_waysToGain_33 rfl rfl ?_
          refine zr_iload (pc2 := 36) O dX6_waysToGain_34 0 rfl rfl ?_
          refine zr_iconst (v := (nI 1)) (pc2 := 37) O dX6_waysToGain_36 (by decide +kernel) rfl ?_
          refine zr_iadd (v := (nI (wi + 1))) (pc2 := 38) O dX6_waysToGain_37 (nI_add wi 1) rfl ?_
          refine zr_idiv (v := ((ways * (nI (n - wi))) / (nI (wi + 1)))) (pc2 := 39) O dX6_waysToGain_38 (nI_s0 (by omega)) rfl rfl ?_
          refine zr_istore (lv2 := [(4, .int ((ways * (nI (n - wi))) / (nI (wi + 1)))), (5, .int (nI wi)), (3, .int sum), (0, .int (nI n)), (1, .int wn), (2, .int c)]) (pc2 := 41) O dX6_waysToGain_39 (by decide) rfl rfl ?_
          refine zr_iinc (v := (nI (wi + 1))) (lv2 := [(5, .int (nI (wi + 1))), (4, .int ((ways * (nI (n - wi))) / (nI (wi + 1)))), (3, .int sum), (0, .int (nI n)), (1, .int wn), (2, .int c)]) (pc2 := 44) O dX6_waysToGain_41 1 rfl (zm_ofInt1 wi) (by decide) rfl rfl ?_
          refine zr_goto (tgt := 8) O dX6_waysToGain_44 (by decide) ?_
          have hE : f_X6_waysToGain_8 n wn c (n9 + 1) wi sum ways = f_X6_waysToGain_8 n wn c n9 (wi + 1) sum ((ways * (nI (n - wi))) / (nI (wi + 1))) := by exact (if_pos c19)
          exact ih8 (wi + 1) sum ((ways * (nI (n - wi))) / (nI (wi + 1))) (by omega) (hF8.trans hE)
        · refine zr_iload_n (pc2 := 23) O dX6_waysToGain_22 rfl 2 rfl rfl ?_
          refine zr_iload (pc2 := 25) O dX6_waysToGain_23 1 rfl rfl ?_
          refine zr_iadd (v := (sum + ways)) (pc2 := 26) O dX6_waysToGain_25 rfl rfl ?_
          refine zr_istore_n (lv2 := [(3, .int (sum + ways)), (5, .int (nI wi)), (4, .int ways), (0, .int (nI n)), (1, .int wn), (2, .int c)]) (pc2 := 27) O dX6_waysToGain_26 rfl (by decide) rfl rfl ?_
          refine zr_iload (pc2 := 29) O dX6_waysToGain_27 2 rfl rfl ?_
          refine zr_iload_n (pc2 := 30) O dX6_waysToGain_29 rfl 3 rfl rfl ?_
          refine zr_iload (pc2 := 32) O dX6_waysToGain_30 1 rfl rfl ?_
          refine zr_isub (v := (nI (n - wi))) (pc2 := 33) O dX6_waysToGain_32 (pk_sub (by omega)) rfl ?_
          refine zr_imul (v := (ways * (nI (n - wi)))) (pc2 := 34) O dX6_waysToGain_33 rfl rfl ?_
          refine zr_iload (pc2 := 36) O dX6_waysToGain_34 1 rfl rfl ?_
          refine zr_iconst (v := (nI 1)) (pc2 := 37) O dX6_waysToGain_36 (by decide +kernel) rfl ?_
          refine zr_iadd (v := (nI (wi + 1))) (pc2 := 38) O dX6_waysToGain_37 (nI_add wi 1) rfl ?_
          refine zr_idiv (v := ((ways * (nI (n - wi))) / (nI (wi + 1)))) (pc2 := 39) O dX6_waysToGain_38 (nI_s0 (by omega)) rfl rfl ?_
          refine zr_istore (lv2 := [(4, .int ((ways * (nI (n - wi))) / (nI (wi + 1)))), (3, .int (sum + ways)), (5, .int (nI wi)), (0, .int (nI n)), (1, .int wn), (2, .int c)]) (pc2 := 41) O dX6_waysToGain_39 (by decide) rfl rfl ?_
          refine zr_iinc (v := (nI (wi + 1))) (lv2 := [(5, .int (nI (wi + 1))), (4, .int ((ways * (nI (n - wi))) / (nI (wi + 1)))), (3, .int (sum + ways)), (0, .int (nI n)), (1, .int wn), (2, .int c)]) (pc2 := 44) O dX6_waysToGain_41 2 rfl (zm_ofInt1 wi) (by decide) rfl rfl ?_
          refine zr_goto (tgt := 8) O dX6_waysToGain_44 (by decide) ?_
          have hE : f_X6_waysToGain_8 n wn c (n9 + 1) wi sum ways = f_X6_waysToGain_8 n wn c n9 (wi + 1) (sum + ways) ((ways * (nI (n - wi))) / (nI (wi + 1))) := by exact (if_neg c19)
          exact ih8 (wi + 1) (sum + ways) ((ways * (nI (n - wi))) / (nI (wi + 1))) (by omega) (hF8.trans hE)
  exact lp8 (n + 1) 0 (nI 0) (nI 1) (by omega) rfl
/-! X6_odds -/
def f_X6_odds_73 (n : Int32) : Nat → Nat → Int32 → Int32 → Int32 × Int32
  | 0, _, ab, be => (ab, be)
  | n9 + 1, st, ab, be => if n.toNatClampNeg ≤ st then (ab, be) else if (ab - ab / (nI 2) * (nI 2)) = 0 then f_X6_odds_73 n n9 (st + 1) (ab / (nI 2)) (be / (nI 2)) else (ab, be)
def s_X6_odds (P : Nat) (B : zB) (i : Int32) (n : Int32) (c : Int32) (pa : Int32) : Int32 := if (s_X0_hasPerson P i) = true then if (s_X6_isWithin n (nI 0) (nI 10)) = true then if (s_X6_isWithin c (nI 0) (nI 200)) = true then if pa = 0 then let u60 := s_X6_waysToGain n.toNatClampNeg ((nI 2) * (B.2.1 i.toNatClampNeg)) c; let v76 := f_X6_odds_73 n n.toNatClampNeg 0 u60 ((nI 1) <<< ((nI n.toNatClampNeg) &&& 31)); if pa = 0 then v76.1 else v76.2 else if pa = (nI 1) then let u60 := s_X6_waysToGain n.toNatClampNeg ((nI 2) * (B.2.1 i.toNatClampNeg)) c; let v76 := f_X6_odds_73 n n.toNatClampNeg 0 u60 ((nI 1) <<< ((nI n.toNatClampNeg) &&& 31)); if pa = 0 then v76.1 else v76.2 else (-1) else (-1) else (-1) else (-1)
set_option maxHeartbeats 4000000 in
set_option maxRecDepth 100000 in
theorem c_X6_odds (l : Launch) (D : va_G) (cI cC cJ : ClassId) (x : Nat) (b : Nat → Nat) (old : Bool) (kb : Nat) (P : Nat) (Q : Nat) (Hn : Nat) (sd : Int32) (B : zB) (i : Int32) (n : Int32) (c : Int32) (pa : Int32) (c0 : Nat) (r0 : Nat) (y0 : Nat) (t0 : Nat) (w0 : Nat) (h0 : Nat) (g0 : Nat) (k0 : Nat) (j0 : Nat) (hP : P ≤ 6) : zD l yX6_odds wsX6_odds rm_X6_odds D (zT cI cC cJ) [.ref x, .int i, .int n, .int c, .int pa] [mainW x c0 r0 (b 0) y0 old t0 w0 h0 g0 k0 j0 kb, bookW cI b P Q Hn sd B] (some (.int (s_X6_odds P B i n c pa))) [mainW x c0 r0 (b 0) y0 old t0 w0 h0 g0 k0 j0 kb, bookW cI b P Q Hn sd B] := by
  refine zD_int (cc := cX6_odds) (maxL := 8) (ty := .int) (lv := [(0, .ref x), (1, .int i), (2, .int n), (3, .int c), (4, .int pa)]) (by decide +kernel) rfl (Nat.le_of_ble_eq_true rfl) rfl (fun Z O hret => ?_)
  refine zr_aload_n (pc2 := 1) O dX6_odds_0 rfl 0 rfl rfl ?_
  refine zr_getf (v := .ref (b 0)) (pc2 := 4) O sF_X6_odds_28 0 0 rfl rfl rfl dX6_odds_1 rfl ?_
  refine zr_iload_n (pc2 := 5) O dX6_odds_4 rfl 1 rfl rfl ?_
  refine zr_callV (As := [.int i]) (rest := []) (ws2 := [mainW x c0 r0 (b 0) y0 old t0 w0 h0 g0 k0 j0 kb, bookW cI b P Q Hn sd B]) (pc2 := 8) (ci := 0) (g0 := 1) (q0 := 0) O (c_X0_hasPerson l D cI cC cJ b P Q Hn sd B i) sC_X6_odds_108 rfl rfl rfl rfl rfl dX6_odds_5 [1] rfl rfl rfl rfl (Nat.le_of_ble_eq_true rfl) rfl ?_
  show Z _ _ _ [.int (zb (s_X0_hasPerson P i))]
  refine zb_if_eq (tgt := 32) (pc2 := 11) O dX6_odds_8 (by decide) rfl (fun c8 => ?_) (fun c8 => ?_)
  · refine zr_iconst (v := (-1)) (pc2 := 33) O dX6_odds_32 (by decide +kernel) rfl ?_
    have hE : s_X6_odds P B i n c pa = (-1) := by exact (zif_f c8)
    exact hret _ _ _ _ dX6_odds_33 rfl (by rw [hE]) rfl
  · refine zr_iload_n (pc2 := 12) O dX6_odds_11 rfl 2 rfl rfl ?_
    refine zr_iconst (v := (nI 0)) (pc2 := 13) O dX6_odds_12 (by decide +kernel) rfl ?_
    refine zr_bipush (v := (nI 10)) (pc2 := 15) O dX6_odds_13 (by decide +kernel) rfl ?_
    refine zr_callS (As := [.int n, .int (nI 0), .int (nI 10)]) (rest := []) (ws2 := [mainW x c0 r0 (b 0) y0 old t0 w0 h0 g0 k0 j0 kb, bookW cI b P Q Hn sd B]) (pc2 := 18) O (c_X6_isWithin l D cI cC cJ n (nI 0) (nI 10)) sC_X6_odds_144 rfl rfl dX6_odds_15 [] rfl rfl rfl rfl (Nat.le_of_ble_eq_true rfl) rfl ?_
    show Z _ _ _ [.int (zb (s_X6_isWithin n (nI 0) (nI 10)))]
    refine zb_if_eq (tgt := 32) (pc2 := 21) O dX6_odds_18 (by decide) rfl (fun c18 => ?_) (fun c18 => ?_)
    · refine zr_iconst (v := (-1)) (pc2 := 33) O dX6_odds_32 (by decide +kernel) rfl ?_
      have hE : s_X6_odds P B i n c pa = (-1) := by exact ((zif_t c8).trans (zif_f c18))
      exact hret _ _ _ _ dX6_odds_33 rfl (by rw [hE]) rfl
    · refine zr_iload_n (pc2 := 22) O dX6_odds_21 rfl 3 rfl rfl ?_
      refine zr_iconst (v := (nI 0)) (pc2 := 23) O dX6_odds_22 (by decide +kernel) rfl ?_
      refine zr_sipush (v := (nI 200)) (pc2 := 26) O dX6_odds_23 (by decide +kernel) rfl ?_
      refine zr_callS (As := [.int c, .int (nI 0), .int (nI 200)]) (rest := []) (ws2 := [mainW x c0 r0 (b 0) y0 old t0 w0 h0 g0 k0 j0 kb, bookW cI b P Q Hn sd B]) (pc2 := 29) O (c_X6_isWithin l D cI cC cJ c (nI 0) (nI 200)) sC_X6_odds_144 rfl rfl dX6_odds_26 [] rfl rfl rfl rfl (Nat.le_of_ble_eq_true rfl) rfl ?_
      show Z _ _ _ [.int (zb (s_X6_isWithin c (nI 0) (nI 200)))]
      refine zb_if_ne (tgt := 34) (pc2 := 32) O dX6_odds_29 (by decide) rfl (fun c29 => ?_) (fun c29 => ?_)
      · have hc2 := (within_nat c18 (by decide) (by decide))
        rw [hc2.1]
        refine zr_iload (pc2 := 36) O dX6_odds_34 4 rfl rfl ?_
        refine zr_if_eq (tgt := 47) (pc2 := 39) O dX6_odds_36 (by decide) rfl (fun c36 => ?_) (fun c36 => ?_)
        · refine zr_iload_n (pc2 := 48) O dX6_odds_47 rfl 2 rfl rfl ?_
          refine zr_iconst (v := (nI 2)) (pc2 := 49) O dX6_odds_48 (by decide +kernel) rfl ?_
          refine zr_aload_n (pc2 := 50) O dX6_odds_49 rfl 0 rfl rfl ?_
          refine zr_getf (v := .ref (b 0)) (pc2 := 53) O sF_X6_odds_28 0 0 rfl rfl rfl dX6_odds_50 rfl ?_
          refine zr_getf (v := .ref (b 2)) (pc2 := 56) O sF_X6_odds_116 1 0 rfl rfl rfl dX6_odds_53 rfl ?_
          refine zr_iload_n (pc2 := 57) O dX6_odds_56 rfl 1 rfl rfl ?_
          refine zr_iald (pc2 := 58) O 1 2 0 rfl rfl rfl (by first | assumption | exact zin_of (by assumption) (by assumption) (by assumption) (by decide) | exact hp_in (by assumption) (by assumption) (by decide) | exact hb_in (by assumption) (by assumption) (by decide) | exact il_in (by assumption) (by assumption) (by decide)) dX6_odds_57 rfl ?_
          refine zr_imul (v := ((nI 2) * (B.2.1 i.toNatClampNeg))) (pc2 := 59) O dX6_odds_58 rfl rfl ?_
          refine zr_iload_n (pc2 := 60) O dX6_odds_59 rfl 3 rfl rfl ?_
          obtain ⟨u60, hu60⟩ : ∃ z9, z9 = s_X6_waysToGain n.toNatClampNeg ((nI 2) * (B.2.1 i.toNatClampNeg)) c := ⟨_, rfl⟩
          refine zr_callS (As := [.int (nI n.toNatClampNeg), .int ((nI 2) * (B.2.1 i.toNatClampNeg)), .int c]) (rest := []) (ws2 := [mainW x c0 r0 (b 0) y0 old t0 w0 h0 g0 k0 j0 kb, bookW cI b P Q Hn sd B]) (pc2 := 63) (v := (some (.int u60))) (W := []) (W2 := []) O (by rw [hu60]; exact (c_X6_waysToGain l D cI cC cJ n.toNatClampNeg ((nI 2) * (B.2.1 i.toNatClampNeg)) c hc2.2)) sC_X6_odds_236 rfl rfl dX6_odds_60 [] rfl rfl rfl rfl (Nat.le_of_ble_eq_true rfl) rfl ?_
          show Z _ _ _ [.int u60]
          refine zr_istore (lv2 := [(5, .int u60), (0, .ref x), (1, .int i), (2, .int (nI n.toNatClampNeg)), (3, .int c), (4, .int pa)]) (pc2 := 65) O dX6_odds_63 (by decide) rfl rfl ?_
          refine zr_iconst (v := (nI 1)) (pc2 := 66) O dX6_odds_65 (by decide +kernel) rfl ?_
          refine zr_iload_n (pc2 := 67) O dX6_odds_66 rfl 3 rfl rfl ?_
          refine zr_ishl (v := ((nI 1) <<< ((nI n.toNatClampNeg) &&& 31))) (pc2 := 68) O dX6_odds_67 rfl rfl ?_
          refine zr_istore (lv2 := [(6, .int ((nI 1) <<< ((nI n.toNatClampNeg) &&& 31))), (5, .int u60), (0, .ref x), (1, .int i), (2, .int (nI n.toNatClampNeg)), (3, .int c), (4, .int pa)]) (pc2 := 70) O dX6_odds_68 (by decide) rfl rfl ?_
          refine zr_iconst (v := (nI 0)) (pc2 := 71) O dX6_odds_70 (by decide +kernel) rfl ?_
          refine zr_istore (lv2 := [(7, .int (nI 0)), (6, .int ((nI 1) <<< ((nI n.toNatClampNeg) &&& 31))), (5, .int u60), (0, .ref x), (1, .int i), (2, .int (nI n.toNatClampNeg)), (3, .int c), (4, .int pa)]) (pc2 := 73) O dX6_odds_71 (by decide) rfl rfl ?_
          have K73 : ∀ (ab : Int32) (be : Int32), f_X6_odds_73 n n.toNatClampNeg 0 u60 ((nI 1) <<< ((nI n.toNatClampNeg) &&& 31)) = (ab, be) → Z [mainW x c0 r0 (b 0) y0 old t0 w0 h0 g0 k0 j0 kb, bookW cI b P Q Hn sd B] [(6, .int be), (5, .int ab), (0, .ref x), (1, .int i), (2, .int (nI n.toNatClampNeg)), (3, .int c), (4, .int pa)] 104 [] := by
            intro ab be hF73
            obtain ⟨v76, hv76⟩ : ∃ z9, z9 = f_X6_odds_73 n n.toNatClampNeg 0 u60 ((nI 1) <<< ((nI n.toNatClampNeg) &&& 31)) := ⟨_, rfl⟩
            rw [← hv76] at hF73
            have e9 : v76.1 = ab := congrArg (fun z => z.1) hF73
            subst e9
            have e9 : v76.2 = be := congrArg (fun z => z.2) hF73
            subst e9
            refine zr_iload (pc2 := 106) O dX6_odds_104 6 rfl rfl ?_
            refine zr_if_ne (tgt := 114) (pc2 := 109) O dX6_odds_106 (by decide) rfl (fun c106 => ?_) (fun c106 => ?_)
            · refine zr_iload (pc2 := 116) O dX6_odds_114 0 rfl rfl ?_
              have hE : s_X6_odds P B i n c pa = v76.2 := by subst hv76; subst hu60; exact ((zif_t c8).trans ((zif_t c18).trans ((zif_t c29).trans ((if_pos c36).trans (if_neg c106)))))
              exact hret _ _ _ _ dX6_odds_116 rfl (by rw [hE]) rfl
            · refine zr_iload (pc2 := 111) O dX6_odds_109 1 rfl rfl ?_
              refine zr_goto (tgt := 116) O dX6_odds_111 (by decide) ?_
              have hE : s_X6_odds P B i n c pa = v76.1 := by subst hv76; subst hu60; exact ((zif_t c8).trans ((zif_t c18).trans ((zif_t c29).trans ((if_pos c36).trans (if_pos c106)))))
              exact hret _ _ _ _ dX6_odds_116 rfl (by rw [hE]) rfl
          have lp73 : ∀ (n9 : Nat) (st : Nat) (ab : Int32) (be : Int32), st + n9 = n.toNatClampNeg → f_X6_odds_73 n n.toNatClampNeg 0 u60 ((nI 1) <<< ((nI n.toNatClampNeg) &&& 31)) = f_X6_odds_73 n n9 st ab be → Z [mainW x c0 r0 (b 0) y0 old t0 w0 h0 g0 k0 j0 kb, bookW cI b P Q Hn sd B] [(7, .int (nI st)), (6, .int be), (5, .int ab), (0, .ref x), (1, .int i), (2, .int (nI n.toNatClampNeg)), (3, .int c), (4, .int pa)] 73 [] := by
            intro n9
            induction n9 with
            | zero =>
              intro st ab be hM73 hF73
              refine zr_iload (pc2 := 75) O dX6_odds_73 0 rfl rfl ?_
              refine zr_iload_n (pc2 := 76) O dX6_odds_75 rfl 5 rfl rfl ?_
              refine zn_icmp_ge (tgt := 104) (pc2 := 79) O dX6_odds_76 (by decide) rfl (by omega) (by omega) (fun c76 => ?_) (fun c76 => ?_)
              · refine zr_sub (lv2 := [(6, .int be), (5, .int ab), (0, .ref x), (1, .int i), (2, .int (nI n.toNatClampNeg)), (3, .int c), (4, .int pa)]) O [1, 2, 3, 4, 5, 6, 7] rfl ?_
                have hE : f_X6_odds_73 n 0 st ab be = (ab, be) := by exact rfl
                exact K73 ab be (hF73.trans hE)
              · exact absurd c76 (by omega)
            | succ n9 ih73 =>
              intro st ab be hM73 hF73
              refine zr_iload (pc2 := 75) O dX6_odds_73 0 rfl rfl ?_
              refine zr_iload_n (pc2 := 76) O dX6_odds_75 rfl 5 rfl rfl ?_
              refine zn_icmp_ge (tgt := 104) (pc2 := 79) O dX6_odds_76 (by decide) rfl (by omega) (by omega) (fun c76 => ?_) (fun c76 => ?_)
              · refine zr_sub (lv2 := [(6, .int be), (5, .int ab), (0, .ref x), (1, .int i), (2, .int (nI n.toNatClampNeg)), (3, .int c), (4, .int pa)]) O [1, 2, 3, 4, 5, 6, 7] rfl ?_
                have hE : f_X6_odds_73 n (n9 + 1) st ab be = (ab, be) := by exact (if_pos c76)
                exact K73 ab be (hF73.trans hE)
              · refine zr_iload (pc2 := 81) O dX6_odds_79 2 rfl rfl ?_
                refine zr_iconst (v := (nI 2)) (pc2 := 82) O dX6_odds_81 (by decide +kernel) rfl ?_
                refine zr_irem (v := (ab - ab / (nI 2) * (nI 2))) (pc2 := 83) O dX6_odds_82 (by decide +kernel) rfl rfl ?_
                refine zr_if_ne (tgt := 104) (pc2 := 86) O dX6_odds_83 (by decide) rfl (fun c83 => ?_) (fun c83 => ?_)
                · refine zr_sub (lv2 := [(6, .int be), (5, .int ab), (0, .ref x), (1, .int i), (2, .int (nI n.toNatClampNeg)), (3, .int c), (4, .int pa)]) O [1, 2, 3, 4, 5, 6, 7] rfl ?_
                  have hE : f_X6_odds_73 n (n9 + 1) st ab be = (ab, be) := by exact ((if_neg c76).trans (if_neg c83))
                  exact K73 ab be (hF73.trans hE)
                · refine zr_iload (pc2 := 88) O dX6_odds_86 2 rfl rfl ?_
                  refine zr_iconst (v := (nI 2)) (pc2 := 89) O dX6_odds_88 (by decide +kernel) rfl ?_
                  refine zr_idiv (v := (ab / (nI 2))) (pc2 := 90) O dX6_odds_89 (by decide +kernel) rfl rfl ?_
                  refine zr_istore (lv2 := [(5, .int (ab / (nI 2))), (7, .int (nI st)), (6, .int be), (0, .ref x), (1, .int i), (2, .int (nI n.toNatClampNeg)), (3, .int c), (4, .int pa)]) (pc2 := 92) O dX6_odds_90 (by decide) rfl rfl ?_
                  refine zr_iload (pc2 := 94) O dX6_odds_92 2 rfl rfl ?_
                  refine zr_iconst (v := (nI 2)) (pc2 := 95) O dX6_odds_94 (by decide +kernel) rfl ?_
                  refine zr_idiv (v := (be / (nI 2))) (pc2 := 96) O dX6_odds_95 (by decide +kernel) rfl rfl ?_
                  refine zr_istore (lv2 := [(6, .int (be / (nI 2))), (5, .int (ab / (nI 2))), (7, .int (nI st)), (0, .ref x), (1, .int i), (2, .int (nI n.toNatClampNeg)), (3, .int c), (4, .int pa)]) (pc2 := 98) O dX6_odds_96 (by decide) rfl rfl ?_
                  refine zr_iinc (v := (nI (st + 1))) (lv2 := [(7, .int (nI (st + 1))), (6, .int (be / (nI 2))), (5, .int (ab / (nI 2))), (0, .ref x), (1, .int i), (2, .int (nI n.toNatClampNeg)), (3, .int c), (4, .int pa)]) (pc2 := 101) O dX6_odds_98 2 rfl (zm_ofInt1 st) (by decide) rfl rfl ?_
                  refine zr_goto (tgt := 73) O dX6_odds_101 (by decide) ?_
                  have hE : f_X6_odds_73 n (n9 + 1) st ab be = f_X6_odds_73 n n9 (st + 1) (ab / (nI 2)) (be / (nI 2)) := by exact ((if_neg c76).trans (if_pos c83))
                  exact ih73 (st + 1) (ab / (nI 2)) (be / (nI 2)) (by omega) (hF73.trans hE)
          exact lp73 n.toNatClampNeg 0 u60 ((nI 1) <<< ((nI n.toNatClampNeg) &&& 31)) (by omega) rfl
        · refine zr_iload (pc2 := 41) O dX6_odds_39 4 rfl rfl ?_
          refine zr_iconst (v := (nI 1)) (pc2 := 42) O dX6_odds_41 (by decide +kernel) rfl ?_
          refine zr_icmp_eq (tgt := 47) (pc2 := 45) O dX6_odds_42 (by decide) rfl (fun c42 => ?_) (fun c42 => ?_)
          · refine zr_iload_n (pc2 := 48) O dX6_odds_47 rfl 2 rfl rfl ?_
            refine zr_iconst (v := (nI 2)) (pc2 := 49) O dX6_odds_48 (by decide +kernel) rfl ?_
            refine zr_aload_n (pc2 := 50) O dX6_odds_49 rfl 0 rfl rfl ?_
            refine zr_getf (v := .ref (b 0)) (pc2 := 53) O sF_X6_odds_28 0 0 rfl rfl rfl dX6_odds_50 rfl ?_
            refine zr_getf (v := .ref (b 2)) (pc2 := 56) O sF_X6_odds_116 1 0 rfl rfl rfl dX6_odds_53 rfl ?_
            refine zr_iload_n (pc2 := 57) O dX6_odds_56 rfl 1 rfl rfl ?_
            refine zr_iald (pc2 := 58) O 1 2 0 rfl rfl rfl (by first | assumption | exact zin_of (by assumption) (by assumption) (by assumption) (by decide) | exact hp_in (by assumption) (by assumption) (by decide) | exact hb_in (by assumption) (by assumption) (by decide) | exact il_in (by assumption) (by assumption) (by decide)) dX6_odds_57 rfl ?_
            refine zr_imul (v := ((nI 2) * (B.2.1 i.toNatClampNeg))) (pc2 := 59) O dX6_odds_58 rfl rfl ?_
            refine zr_iload_n (pc2 := 60) O dX6_odds_59 rfl 3 rfl rfl ?_
            obtain ⟨u60, hu60⟩ : ∃ z9, z9 = s_X6_waysToGain n.toNatClampNeg ((nI 2) * (B.2.1 i.toNatClampNeg)) c := ⟨_, rfl⟩
            refine zr_callS (As := [.int (nI n.toNatClampNeg), .int ((nI 2) * (B.2.1 i.toNatClampNeg)), .int c]) (rest := []) (ws2 := [mainW x c0 r0 (b 0) y0 old t0 w0 h0 g0 k0 j0 kb, bookW cI b P Q Hn sd B]) (pc2 := 63) (v := (some (.int u60))) (W := []) (W2 := []) O (by rw [hu60]; exact (c_X6_waysToGain l D cI cC cJ n.toNatClampNeg ((nI 2) * (B.2.1 i.toNatClampNeg)) c hc2.2)) sC_X6_odds_236 rfl rfl dX6_odds_60 [] rfl rfl rfl rfl (Nat.le_of_ble_eq_true rfl) rfl ?_
            show Z _ _ _ [.int u60]
            refine zr_istore (lv2 := [(5, .int u60), (0, .ref x), (1, .int i), (2, .int (nI n.toNatClampNeg)), (3, .int c), (4, .int pa)]) (pc2 := 65) O dX6_odds_63 (by decide) rfl rfl ?_
            refine zr_iconst (v := (nI 1)) (pc2 := 66) O dX6_odds_65 (by decide +kernel) rfl ?_
            refine zr_iload_n (pc2 := 67) O dX6_odds_66 rfl 3 rfl rfl ?_
            refine zr_ishl (v := ((nI 1) <<< ((nI n.toNatClampNeg) &&& 31))) (pc2 := 68) O dX6_odds_67 rfl rfl ?_
            refine zr_istore (lv2 := [(6, .int ((nI 1) <<< ((nI n.toNatClampNeg) &&& 31))), (5, .int u60), (0, .ref x), (1, .int i), (2, .int (nI n.toNatClampNeg)), (3, .int c), (4, .int pa)]) (pc2 := 70) O dX6_odds_68 (by decide) rfl rfl ?_
            refine zr_iconst (v := (nI 0)) (pc2 := 71) O dX6_odds_70 (by decide +kernel) rfl ?_
            refine zr_istore (lv2 := [(7, .int (nI 0)), (6, .int ((nI 1) <<< ((nI n.toNatClampNeg) &&& 31))), (5, .int u60), (0, .ref x), (1, .int i), (2, .int (nI n.toNatClampNeg)), (3, .int c), (4, .int pa)]) (pc2 := 73) O dX6_odds_71 (by decide) rfl rfl ?_
            have K73 : ∀ (ab : Int32) (be : Int32), f_X6_odds_73 n n.toNatClampNeg 0 u60 ((nI 1) <<< ((nI n.toNatClampNeg) &&& 31)) = (ab, be) → Z [mainW x c0 r0 (b 0) y0 old t0 w0 h0 g0 k0 j0 kb, bookW cI b P Q Hn sd B] [(6, .int be), (5, .int ab), (0, .ref x), (1, .int i), (2, .int (nI n.toNatClampNeg)), (3, .int c), (4, .int pa)] 104 [] := by
              intro ab be hF73
              obtain ⟨v76, hv76⟩ : ∃ z9, z9 = f_X6_odds_73 n n.toNatClampNeg 0 u60 ((nI 1) <<< ((nI n.toNatClampNeg) &&& 31)) := ⟨_, rfl⟩
              rw [← hv76] at hF73
              have e9 : v76.1 = ab := congrArg (fun z => z.1) hF73
              subst e9
              have e9 : v76.2 = be := congrArg (fun z => z.2) hF73
              subst e9
              refine zr_iload (pc2 := 106) O dX6_odds_104 6 rfl rfl ?_
              refine zr_if_ne (tgt := 114) (pc2 := 109) O dX6_odds_106 (by decide) rfl (fun c106 => ?_) (fun c106 => ?_)
              · refine zr_iload (pc2 := 116) O dX6_odds_114 0 rfl rfl ?_
                have hE : s_X6_odds P B i n c pa = v76.2 := by subst hv76; subst hu60; exact ((zif_t c8).trans ((zif_t c18).trans ((zif_t c29).trans ((if_neg c36).trans ((if_pos c42).trans (if_neg c106))))))
                exact hret _ _ _ _ dX6_odds_116 rfl (by rw [hE]) rfl
              · refine zr_iload (pc2 := 111) O dX6_odds_109 1 rfl rfl ?_
                refine zr_goto (tgt := 116) O dX6_odds_111 (by decide) ?_
                have hE : s_X6_odds P B i n c pa = v76.1 := by subst hv76; subst hu60; exact ((zif_t c8).trans ((zif_t c18).trans ((zif_t c29).trans ((if_neg c36).trans ((if_pos c42).trans (if_pos c106))))))
                exact hret _ _ _ _ dX6_odds_116 rfl (by rw [hE]) rfl
            have lp73 : ∀ (n9 : Nat) (st : Nat) (ab : Int32) (be : Int32), st + n9 = n.toNatClampNeg → f_X6_odds_73 n n.toNatClampNeg 0 u60 ((nI 1) <<< ((nI n.toNatClampNeg) &&& 31)) = f_X6_odds_73 n n9 st ab be → Z [mainW x c0 r0 (b 0) y0 old t0 w0 h0 g0 k0 j0 kb, bookW cI b P Q Hn sd B] [(7, .int (nI st)), (6, .int be), (5, .int ab), (0, .ref x), (1, .int i), (2, .int (nI n.toNatClampNeg)), (3, .int c), (4, .int pa)] 73 [] := by
              intro n9
              induction n9 with
              | zero =>
                intro st ab be hM73 hF73
                refine zr_iload (pc2 := 75) O dX6_odds_73 0 rfl rfl ?_
                refine zr_iload_n (pc2 := 76) O dX6_odds_75 rfl 5 rfl rfl ?_
                refine zn_icmp_ge (tgt := 104) (pc2 := 79) O dX6_odds_76 (by decide) rfl (by omega) (by omega) (fun c76 => ?_) (fun c76 => ?_)
                · refine zr_sub (lv2 := [(6, .int be), (5, .int ab), (0, .ref x), (1, .int i), (2, .int (nI n.toNatClampNeg)), (3, .int c), (4, .int pa)]) O [1, 2, 3, 4, 5, 6, 7] rfl ?_
                  have hE : f_X6_odds_73 n 0 st ab be = (ab, be) := by exact rfl
                  exact K73 ab be (hF73.trans hE)
                · exact absurd c76 (by omega)
              | succ n9 ih73 =>
                intro st ab be hM73 hF73
                refine zr_iload (pc2 := 75) O dX6_odds_73 0 rfl rfl ?_
                refine zr_iload_n (pc2 := 76) O dX6_odds_75 rfl 5 rfl rfl ?_
                refine zn_icmp_ge (tgt := 104) (pc2 := 79) O dX6_odds_76 (by decide) rfl (by omega) (by omega) (fun c76 => ?_) (fun c76 => ?_)
                · refine zr_sub (lv2 := [(6, .int be), (5, .int ab), (0, .ref x), (1, .int i), (2, .int (nI n.toNatClampNeg)), (3, .int c), (4, .int pa)]) O [1, 2, 3, 4, 5, 6, 7] rfl ?_
                  have hE : f_X6_odds_73 n (n9 + 1) st ab be = (ab, be) := by exact (if_pos c76)
                  exact K73 ab be (hF73.trans hE)
                · refine zr_iload (pc2 := 81) O dX6_odds_79 2 rfl rfl ?_
                  refine zr_iconst (v := (nI 2)) (pc2 := 82) O dX6_odds_81 (by decide +kernel) rfl ?_
                  refine zr_irem (v := (ab - ab / (nI 2) * (nI 2))) (pc2 := 83) O dX6_odds_82 (by decide +kernel) rfl rfl ?_
                  refine zr_if_ne (tgt := 104) (pc2 := 86) O dX6_odds_83 (by decide) rfl (fun c83 => ?_) (fun c83 => ?_)
                  · refine zr_sub (lv2 := [(6, .int be), (5, .int ab), (0, .ref x), (1, .int i), (2, .int (nI n.toNatClampNeg)), (3, .int c), (4, .int pa)]) O [1, 2, 3, 4, 5, 6, 7] rfl ?_
                    have hE : f_X6_odds_73 n (n9 + 1) st ab be = (ab, be) := by exact ((if_neg c76).trans (if_neg c83))
                    exact K73 ab be (hF73.trans hE)
                  · refine zr_iload (pc2 := 88) O dX6_odds_86 2 rfl rfl ?_
                    refine zr_iconst (v := (nI 2)) (pc2 := 89) O dX6_odds_88 (by decide +kernel) rfl ?_
                    refine zr_idiv (v := (ab / (nI 2))) (pc2 := 90) O dX6_odds_89 (by decide +kernel) rfl rfl ?_
                    refine zr_istore (lv2 := [(5, .int (ab / (nI 2))), (7, .int (nI st)), (6, .int be), (0, .ref x), (1, .int i), (2, .int (nI n.toNatClampNeg)), (3, .int c), (4, .int pa)]) (pc2 := 92) O dX6_odds_90 (by decide) rfl rfl ?_
                    refine zr_iload (pc2 := 94) O dX6_odds_92 2 rfl rfl ?_
                    refine zr_iconst (v := (nI 2)) (pc2 := 95) O dX6_odds_94 (by decide +kernel) rfl ?_
                    refine zr_idiv (v := (be / (nI 2))) (pc2 := 96) O dX6_odds_95 (by decide +kernel) rfl rfl ?_
                    refine zr_istore (lv2 := [(6, .int (be / (nI 2))), (5, .int (ab / (nI 2))), (7, .int (nI st)), (0, .ref x), (1, .int i), (2, .int (nI n.toNatClampNeg)), (3, .int c), (4, .int pa)]) (pc2 := 98) O dX6_odds_96 (by decide) rfl rfl ?_
                    refine zr_iinc (v := (nI (st + 1))) (lv2 := [(7, .int (nI (st + 1))), (6, .int (be / (nI 2))), (5, .int (ab / (nI 2))), (0, .ref x), (1, .int i), (2, .int (nI n.toNatClampNeg)), (3, .int c), (4, .int pa)]) (pc2 := 101) O dX6_odds_98 2 rfl (zm_ofInt1 st) (by decide) rfl rfl ?_
                    refine zr_goto (tgt := 73) O dX6_odds_101 (by decide) ?_
                    have hE : f_X6_odds_73 n (n9 + 1) st ab be = f_X6_odds_73 n n9 (st + 1) (ab / (nI 2)) (be / (nI 2)) := by exact ((if_neg c76).trans (if_pos c83))
                    exact ih73 (st + 1) (ab / (nI 2)) (be / (nI 2)) (by omega) (hF73.trans hE)
            exact lp73 n.toNatClampNeg 0 u60 ((nI 1) <<< ((nI n.toNatClampNeg) &&& 31)) (by omega) rfl
          · refine zr_iconst (v := (-1)) (pc2 := 46) O dX6_odds_45 (by decide +kernel) rfl ?_
            have hE : s_X6_odds P B i n c pa = (-1) := by exact ((zif_t c8).trans ((zif_t c18).trans ((zif_t c29).trans ((if_neg c36).trans (if_neg c42)))))
            exact hret _ _ _ _ dX6_odds_46 rfl (by rw [hE]) rfl
      · refine zr_iconst (v := (-1)) (pc2 := 33) O dX6_odds_32 (by decide +kernel) rfl ?_
        have hE : s_X6_odds P B i n c pa = (-1) := by exact ((zif_t c8).trans ((zif_t c18).trans (zif_f c29)))
        exact hret _ _ _ _ dX6_odds_33 rfl (by rw [hE]) rfl
/-! X6_generations -/
def s_X6_generations (P : Nat) (Q : Nat) (Hn : Nat) (B : zB) (P2 : Nat) (Q2 : Nat) (H2 : Nat) (sd2 : Int32) (B2 : zB) (hav2 : Int32) (Y2 : zY) (PA2 : Nat → Nat → Int32) (z : Int32) (wh : Int32) : Int32 × Nat × Nat × Nat × Int32 × zB × Int32 × zY × (Nat → Nat → Int32) := if (s_X6_isWithin z (nI 0) (nI 99)) = true then if wh = 0 then let u44 := s_X5_run Y2 PA2 P Q Hn z B; if wh = 0 then ((s_J6_bitCount_0f7a4 u44.1), P, Q, Hn, z, B, u44.1, u44.2.1, u44.2.2) else ((s_X5_lastHaving u44.1 u44.2.1 P), P, Q, Hn, z, B, u44.1, u44.2.1, u44.2.2) else if wh = (nI 1) then let u44 := s_X5_run Y2 PA2 P Q Hn z B; if wh = 0 then ((s_J6_bitCount_0f7a4 u44.1), P, Q, Hn, z, B, u44.1, u44.2.1, u44.2.2) else ((s_X5_lastHaving u44.1 u44.2.1 P), P, Q, Hn, z, B, u44.1, u44.2.1, u44.2.2) else ((-1), P2, Q2, H2, sd2, B2, hav2, Y2, PA2) else ((-1), P2, Q2, H2, sd2, B2, hav2, Y2, PA2)
set_option maxHeartbeats 4000000 in
set_option maxRecDepth 100000 in
theorem c_X6_generations (l : Launch) (D : va_G) (cI cC cJ : ClassId) (x : Nat) (b : Nat → Nat) (t : Nat → Nat) (w : Nat → Nat) (old : Bool) (kb : Nat) (P : Nat) (Q : Nat) (Hn : Nat) (sd : Int32) (B : zB) (P2 : Nat) (Q2 : Nat) (H2 : Nat) (sd2 : Int32) (B2 : zB) (hav2 : Int32) (Y2 : zY) (PA2 : Nat → Nat → Int32) (z : Int32) (wh : Int32) (c0 : Nat) (r0 : Nat) (y0 : Nat) (h0 : Nat) (g0 : Nat) (k0 : Nat) (j0 : Nat) (hP : P ≤ 6) (hQ : Q ≤ 9) (hH : Hn ≤ 4) : zD l yX6_generations wsX6_generations rm_X6_generations D (zT cI cC cJ) [.ref x, .int z, .int wh] [mainW x c0 r0 (b 0) y0 old (t 0) (w 0) h0 g0 k0 j0 kb, bookW cI b P Q Hn sd B, bookW cI t P2 Q2 H2 sd2 B2, yearsW cI cJ w (t 0) hav2 Y2 PA2] (some (.int ((s_X6_generations P Q Hn B P2 Q2 H2 sd2 B2 hav2 Y2 PA2 z wh).1))) [mainW x c0 r0 (b 0) y0 old (t 0) (w 0) h0 g0 k0 j0 kb, bookW cI b P Q Hn sd B, bookW cI t ((s_X6_generations P Q Hn B P2 Q2 H2 sd2 B2 hav2 Y2 PA2 z wh).2.1) ((s_X6_generations P Q Hn B P2 Q2 H2 sd2 B2 hav2 Y2 PA2 z wh).2.2.1) ((s_X6_generations P Q Hn B P2 Q2 H2 sd2 B2 hav2 Y2 PA2 z wh).2.2.2.1) ((s_X6_generations P Q Hn B P2 Q2 H2 sd2 B2 hav2 Y2 PA2 z wh).2.2.2.2.1) ((s_X6_generations P Q Hn B P2 Q2 H2 sd2 B2 hav2 Y2 PA2 z wh).2.2.2.2.2.1), yearsW cI cJ w (t 0) ((s_X6_generations P Q Hn B P2 Q2 H2 sd2 B2 hav2 Y2 PA2 z wh).2.2.2.2.2.2.1) ((s_X6_generations P Q Hn B P2 Q2 H2 sd2 B2 hav2 Y2 PA2 z wh).2.2.2.2.2.2.2.1) ((s_X6_generations P Q Hn B P2 Q2 H2 sd2 B2 hav2 Y2 PA2 z wh).2.2.2.2.2.2.2.2)] := by
  refine zD_int (cc := cX6_generations) (maxL := 3) (ty := .int) (lv := [(0, .ref x), (1, .int z), (2, .int wh)]) (by decide +kernel) rfl (Nat.le_of_ble_eq_true rfl) rfl (fun Z O hret => ?_)
  refine zr_iload_n (pc2 := 1) O dX6_generations_0 rfl 1 rfl rfl ?_
  refine zr_iconst (v := (nI 0)) (pc2 := 2) O dX6_generations_1 (by decide +kernel) rfl ?_
  refine zr_bipush (v := (nI 99)) (pc2 := 4) O dX6_generations_2 (by decide +kernel) rfl ?_
  refine zr_callS (As := [.int z, .int (nI 0), .int (nI 99)]) (rest := []) (ws2 := [mainW x c0 r0 (b 0) y0 old (t 0) (w 0) h0 g0 k0 j0 kb, bookW cI b P Q Hn sd B, bookW cI t P2 Q2 H2 sd2 B2, yearsW cI cJ w (t 0) hav2 Y2 PA2]) (pc2 := 7) O (c_X6_isWithin l D cI cC cJ z (nI 0) (nI 99)) sC_X6_generations_144 rfl rfl dX6_generations_4 [] rfl rfl rfl rfl (Nat.le_of_ble_eq_true rfl) rfl ?_
  show Z _ _ _ [.int (zb (s_X6_isWithin z (nI 0) (nI 99)))]
  refine zb_if_eq (tgt := 19) (pc2 := 10) O dX6_generations_7 (by decide) rfl (fun c7 => ?_) (fun c7 => ?_)
  · refine zr_iconst (v := (-1)) (pc2 := 20) O dX6_generations_19 (by decide +kernel) rfl ?_
    have hE : s_X6_generations P Q Hn B P2 Q2 H2 sd2 B2 hav2 Y2 PA2 z wh = ((-1), P2, Q2, H2, sd2, B2, hav2, Y2, PA2) := by exact (zif_f c7)
    exact hret _ _ _ _ dX6_generations_20 rfl (by rw [hE]) (by rw [hE])
  · refine zr_iload_n (pc2 := 11) O dX6_generations_10 rfl 2 rfl rfl ?_
    refine zr_if_eq (tgt := 21) (pc2 := 14) O dX6_generations_11 (by decide) rfl (fun c11 => ?_) (fun c11 => ?_)
    · refine zr_aload_n (pc2 := 22) O dX6_generations_21 rfl 0 rfl rfl ?_
      refine zr_getf (v := .ref (t 0)) (pc2 := 25) O sF_X6_generations_45 0 0 rfl rfl rfl dX6_generations_22 rfl ?_
      refine zr_aload_n (pc2 := 26) O dX6_generations_25 rfl 0 rfl rfl ?_
      refine zr_getf (v := .ref (b 0)) (pc2 := 29) O sF_X6_generations_28 0 0 rfl rfl rfl dX6_generations_26 rfl ?_
      refine zr_callV (As := [.ref (b 0)]) (rest := []) (ws2 := [mainW x c0 r0 (b 0) y0 old (t 0) (w 0) h0 g0 k0 j0 kb, bookW cI b P Q Hn sd B, bookW cI t P Q Hn sd B, yearsW cI cJ w (t 0) hav2 Y2 PA2]) (pc2 := 32) (ci := 0) (g0 := 2) (q0 := 0) O (c_X0_copyFrom l D cI cC cJ t b P2 Q2 H2 sd2 B2 P Q Hn sd B) sC_X6_generations_103 rfl rfl rfl rfl rfl dX6_generations_29 [2, 1] rfl rfl rfl rfl (Nat.le_of_ble_eq_true rfl) rfl ?_
      show Z _ _ _ []
      refine zr_aload_n (pc2 := 33) O dX6_generations_32 rfl 0 rfl rfl ?_
      refine zr_getf (v := .ref (t 0)) (pc2 := 36) O sF_X6_generations_45 0 0 rfl rfl rfl dX6_generations_33 rfl ?_
      refine zr_iload_n (pc2 := 37) O dX6_generations_36 rfl 1 rfl rfl ?_
      refine zr_putf (G2 := bookW cI t P Q Hn z B) (ws2 := [mainW x c0 r0 (b 0) y0 old (t 0) (w 0) h0 g0 k0 j0 kb, bookW cI b P Q Hn sd B, bookW cI t P Q Hn z B, yearsW cI cJ w (t 0) hav2 Y2 PA2]) (pc2 := 40) O sP_X6_generations_240 2 0 rfl rfl rfl rfl (Nat.le_of_ble_eq_true rfl) dX6_generations_37 rfl rfl rfl ?_
      refine zr_aload_n (pc2 := 41) O dX6_generations_40 rfl 0 rfl rfl ?_
      refine zr_getf (v := .ref (w 0)) (pc2 := 44) O sF_X6_generations_48 0 0 rfl rfl rfl dX6_generations_41 rfl ?_
      obtain ⟨u44, hu44⟩ : ∃ z9, z9 = s_X5_run Y2 PA2 P Q Hn z B := ⟨_, rfl⟩
      refine zr_callV (As := []) (rest := []) (ws2 := [mainW x c0 r0 (b 0) y0 old (t 0) (w 0) h0 g0 k0 j0 kb, bookW cI b P Q Hn sd B, bookW cI t P Q Hn z B, yearsW cI cJ w (t 0) u44.1 u44.2.1 u44.2.2]) (pc2 := 47) (ci := 5) (g0 := 3) (q0 := 0) (v := none) (W := [yearsW cI cJ w (t 0) hav2 Y2 PA2, bookW cI t P Q Hn z B]) (W2 := [yearsW cI cJ w (t 0) u44.1 u44.2.1 u44.2.2, bookW cI t P Q Hn z B]) O (by rw [hu44]; exact (c_X5_run l D cI cC cJ w t hav2 Y2 PA2 P Q Hn z B (by first | assumption | omega) (by first | assumption | omega) (by first | assumption | omega))) sC_X6_generations_213 rfl rfl rfl rfl rfl dX6_generations_44 [3, 2] rfl rfl rfl rfl (Nat.le_of_ble_eq_true rfl) rfl ?_
      show Z _ _ _ []
      refine zr_iload_n (pc2 := 48) O dX6_generations_47 rfl 2 rfl rfl ?_
      refine zr_if_ne (tgt := 64) (pc2 := 51) O dX6_generations_48 (by decide) rfl (fun c48 => ?_) (fun c48 => ?_)
      · refine zr_aload_n (pc2 := 65) O dX6_generations_64 rfl 0 rfl rfl ?_
        refine zr_getf (v := .ref (w 0)) (pc2 := 68) O sF_X6_generations_48 0 0 rfl rfl rfl dX6_generations_65 rfl ?_
        refine zr_callV (As := []) (rest := []) (ws2 := [mainW x c0 r0 (b 0) y0 old (t 0) (w 0) h0 g0 k0 j0 kb, bookW cI b P Q Hn sd B, bookW cI t P Q Hn z B, yearsW cI cJ w (t 0) u44.1 u44.2.1 u44.2.2]) (pc2 := 71) (ci := 5) (g0 := 3) (q0 := 0) O (c_X5_lastHaving l D cI cC cJ w t u44.1 u44.2.1 u44.2.2 P Q Hn z B (by first | assumption | omega)) sC_X6_generations_243 rfl rfl rfl rfl rfl dX6_generations_68 [3, 2] rfl rfl rfl rfl (Nat.le_of_ble_eq_true rfl) rfl ?_
        show Z _ _ _ [.int (s_X5_lastHaving u44.1 u44.2.1 P)]
        have hE : s_X6_generations P Q Hn B P2 Q2 H2 sd2 B2 hav2 Y2 PA2 z wh = ((s_X5_lastHaving u44.1 u44.2.1 P), P, Q, Hn, z, B, u44.1, u44.2.1, u44.2.2) := by subst hu44; exact ((zif_t c7).trans ((if_pos c11).trans (if_neg c48)))
        exact hret _ _ _ _ dX6_generations_71 rfl (by rw [hE]) (by rw [hE])
      · refine zr_aload_n (pc2 := 52) O dX6_generations_51 rfl 0 rfl rfl ?_
        refine zr_getf (v := .ref (w 0)) (pc2 := 55) O sF_X6_generations_48 0 0 rfl rfl rfl dX6_generations_52 rfl ?_
        refine zr_getf (v := .int u44.1) (pc2 := 58) O sF_X6_generations_172 3 0 rfl rfl rfl dX6_generations_55 rfl ?_
        refine zr_callS (As := [.int u44.1]) (rest := []) (ws2 := [mainW x c0 r0 (b 0) y0 old (t 0) (w 0) h0 g0 k0 j0 kb, bookW cI b P Q Hn sd B, bookW cI t P Q Hn z B, yearsW cI cJ w (t 0) u44.1 u44.2.1 u44.2.2]) (pc2 := 61) O (c_J6_bitCount_0f7a4 l D cI cC cJ u44.1) sC_X6_generations_216 rfl rfl dX6_generations_58 [] rfl rfl rfl rfl (Nat.le_of_ble_eq_true rfl) rfl ?_
        show Z _ _ _ [.int (s_J6_bitCount_0f7a4 u44.1)]
        refine zr_goto (tgt := 71) O dX6_generations_61 (by decide) ?_
        have hE : s_X6_generations P Q Hn B P2 Q2 H2 sd2 B2 hav2 Y2 PA2 z wh = ((s_J6_bitCount_0f7a4 u44.1), P, Q, Hn, z, B, u44.1, u44.2.1, u44.2.2) := by subst hu44; exact ((zif_t c7).trans ((if_pos c11).trans (if_pos c48)))
        exact hret _ _ _ _ dX6_generations_71 rfl (by rw [hE]) (by rw [hE])
    · refine zr_iload_n (pc2 := 15) O dX6_generations_14 rfl 2 rfl rfl ?_
      refine zr_iconst (v := (nI 1)) (pc2 := 16) O dX6_generations_15 (by decide +kernel) rfl ?_
      refine zr_icmp_eq (tgt := 21) (pc2 := 19) O dX6_generations_16 (by decide) rfl (fun c16 => ?_) (fun c16 => ?_)
      · refine zr_aload_n (pc2 := 22) O dX6_generations_21 rfl 0 rfl rfl ?_
        refine zr_getf (v := .ref (t 0)) (pc2 := 25) O sF_X6_generations_45 0 0 rfl rfl rfl dX6_generations_22 rfl ?_
        refine zr_aload_n (pc2 := 26) O dX6_generations_25 rfl 0 rfl rfl ?_
        refine zr_getf (v := .ref (b 0)) (pc2 := 29) O sF_X6_generations_28 0 0 rfl rfl rfl dX6_generations_26 rfl ?_
        refine zr_callV (As := [.ref (b 0)]) (rest := []) (ws2 := [mainW x c0 r0 (b 0) y0 old (t 0) (w 0) h0 g0 k0 j0 kb, bookW cI b P Q Hn sd B, bookW cI t P Q Hn sd B, yearsW cI cJ w (t 0) hav2 Y2 PA2]) (pc2 := 32) (ci := 0) (g0 := 2) (q0 := 0) O (c_X0_copyFrom l D cI cC cJ t b P2 Q2 H2 sd2 B2 P Q Hn sd B) sC_X6_generations_103 rfl rfl rfl rfl rfl dX6_generations_29 [2, 1] rfl rfl rfl rfl (Nat.le_of_ble_eq_true rfl) rfl ?_
        show Z _ _ _ []
        refine zr_aload_n (pc2 := 33) O dX6_generations_32 rfl 0 rfl rfl ?_
        refine zr_getf (v := .ref (t 0)) (pc2 := 36) O sF_X6_generations_45 0 0 rfl rfl rfl dX6_generations_33 rfl ?_
        refine zr_iload_n (pc2 := 37) O dX6_generations_36 rfl 1 rfl rfl ?_
        refine zr_putf (G2 := bookW cI t P Q Hn z B) (ws2 := [mainW x c0 r0 (b 0) y0 old (t 0) (w 0) h0 g0 k0 j0 kb, bookW cI b P Q Hn sd B, bookW cI t P Q Hn z B, yearsW cI cJ w (t 0) hav2 Y2 PA2]) (pc2 := 40) O sP_X6_generations_240 2 0 rfl rfl rfl rfl (Nat.le_of_ble_eq_true rfl) dX6_generations_37 rfl rfl rfl ?_
        refine zr_aload_n (pc2 := 41) O dX6_generations_40 rfl 0 rfl rfl ?_
        refine zr_getf (v := .ref (w 0)) (pc2 := 44) O sF_X6_generations_48 0 0 rfl rfl rfl dX6_generations_41 rfl ?_
        obtain ⟨u44, hu44⟩ : ∃ z9, z9 = s_X5_run Y2 PA2 P Q Hn z B := ⟨_, rfl⟩
        refine zr_callV (As := []) (rest := []) (ws2 := [mainW x c0 r0 (b 0) y0 old (t 0) (w 0) h0 g0 k0 j0 kb, bookW cI b P Q Hn sd B, bookW cI t P Q Hn z B, yearsW cI cJ w (t 0) u44.1 u44.2.1 u44.2.2]) (pc2 := 47) (ci := 5) (g0 := 3) (q0 := 0) (v := none) (W := [yearsW cI cJ w (t 0) hav2 Y2 PA2, bookW cI t P Q Hn z B]) (W2 := [yearsW cI cJ w (t 0) u44.1 u44.2.1 u44.2.2, bookW cI t P Q Hn z B]) O (by rw [hu44]; exact (c_X5_run l D cI cC cJ w t hav2 Y2 PA2 P Q Hn z B (by first | assumption | omega) (by first | assumption | omega) (by first | assumption | omega))) sC_X6_generations_213 rfl rfl rfl rfl rfl dX6_generations_44 [3, 2] rfl rfl rfl rfl (Nat.le_of_ble_eq_true rfl) rfl ?_
        show Z _ _ _ []
        refine zr_iload_n (pc2 := 48) O dX6_generations_47 rfl 2 rfl rfl ?_
        refine zr_if_ne (tgt := 64) (pc2 := 51) O dX6_generations_48 (by decide) rfl (fun c48 => ?_) (fun c48 => ?_)
        · refine zr_aload_n (pc2 := 65) O dX6_generations_64 rfl 0 rfl rfl ?_
          refine zr_getf (v := .ref (w 0)) (pc2 := 68) O sF_X6_generations_48 0 0 rfl rfl rfl dX6_generations_65 rfl ?_
          refine zr_callV (As := []) (rest := []) (ws2 := [mainW x c0 r0 (b 0) y0 old (t 0) (w 0) h0 g0 k0 j0 kb, bookW cI b P Q Hn sd B, bookW cI t P Q Hn z B, yearsW cI cJ w (t 0) u44.1 u44.2.1 u44.2.2]) (pc2 := 71) (ci := 5) (g0 := 3) (q0 := 0) O (c_X5_lastHaving l D cI cC cJ w t u44.1 u44.2.1 u44.2.2 P Q Hn z B (by first | assumption | omega)) sC_X6_generations_243 rfl rfl rfl rfl rfl dX6_generations_68 [3, 2] rfl rfl rfl rfl (Nat.le_of_ble_eq_true rfl) rfl ?_
          show Z _ _ _ [.int (s_X5_lastHaving u44.1 u44.2.1 P)]
          have hE : s_X6_generations P Q Hn B P2 Q2 H2 sd2 B2 hav2 Y2 PA2 z wh = ((s_X5_lastHaving u44.1 u44.2.1 P), P, Q, Hn, z, B, u44.1, u44.2.1, u44.2.2) := by subst hu44; exact ((zif_t c7).trans ((if_neg c11).trans ((if_pos c16).trans (if_neg c48))))
          exact hret _ _ _ _ dX6_generations_71 rfl (by rw [hE]) (by rw [hE])
        · refine zr_aload_n (pc2 := 52) O dX6_generations_51 rfl 0 rfl rfl ?_
          refine zr_getf (v := .ref (w 0)) (pc2 := 55) O sF_X6_generations_48 0 0 rfl rfl rfl dX6_generations_52 rfl ?_
          refine zr_getf (v := .int u44.1) (pc2 := 58) O sF_X6_generations_172 3 0 rfl rfl rfl dX6_generations_55 rfl ?_
          refine zr_callS (As := [.int u44.1]) (rest := []) (ws2 := [mainW x c0 r0 (b 0) y0 old (t 0) (w 0) h0 g0 k0 j0 kb, bookW cI b P Q Hn sd B, bookW cI t P Q Hn z B, yearsW cI cJ w (t 0) u44.1 u44.2.1 u44.2.2]) (pc2 := 61) O (c_J6_bitCount_0f7a4 l D cI cC cJ u44.1) sC_X6_generations_216 rfl rfl dX6_generations_58 [] rfl rfl rfl rfl (Nat.le_of_ble_eq_true rfl) rfl ?_
          show Z _ _ _ [.int (s_J6_bitCount_0f7a4 u44.1)]
          refine zr_goto (tgt := 71) O dX6_generations_61 (by decide) ?_
          have hE : s_X6_generations P Q Hn B P2 Q2 H2 sd2 B2 hav2 Y2 PA2 z wh = ((s_J6_bitCount_0f7a4 u44.1), P, Q, Hn, z, B, u44.1, u44.2.1, u44.2.2) := by subst hu44; exact ((zif_t c7).trans ((if_neg c11).trans ((if_pos c16).trans (if_pos c48))))
          exact hret _ _ _ _ dX6_generations_71 rfl (by rw [hE]) (by rw [hE])
      · refine zr_iconst (v := (-1)) (pc2 := 20) O dX6_generations_19 (by decide +kernel) rfl ?_
        have hE : s_X6_generations P Q Hn B P2 Q2 H2 sd2 B2 hav2 Y2 PA2 z wh = ((-1), P2, Q2, H2, sd2, B2, hav2, Y2, PA2) := by exact ((zif_t c7).trans ((if_neg c11).trans (if_neg c16)))
        exact hret _ _ _ _ dX6_generations_20 rfl (by rw [hE]) (by rw [hE])
/-! X6_keptPlace -/
def s_X6_keptPlace_0 (k0 : Nat) : Nat := k0
set_option maxHeartbeats 4000000 in
set_option maxRecDepth 100000 in
theorem c_X6_keptPlace_0 (l : Launch) (D : va_G) (cI cC cJ : ClassId) (x : Nat) (old : Bool) (kb : Nat) (c0 : Nat) (r0 : Nat) (b0 : Nat) (y0 : Nat) (t0 : Nat) (w0 : Nat) (h0 : Nat) (g0 : Nat) (k0 : Nat) (j0 : Nat) : zD l yX6_keptPlace wsX6_keptPlace rm_X6_keptPlace D (zT cI cC cJ) [.ref x, .int (nI 0)] [mainW x c0 r0 b0 y0 old t0 w0 h0 g0 k0 j0 kb] (some (.ref k0)) [mainW x c0 r0 b0 y0 old t0 w0 h0 g0 k0 j0 kb] := by
  refine zD_ref (cc := cX6_keptPlace) (maxL := 2) (lv := [(0, .ref x), (1, .int (nI 0))]) (by decide +kernel) rfl (Nat.le_of_ble_eq_true rfl) rfl (fun Z O hret => ?_)
  refine zr_iload_n (pc2 := 1) O dX6_keptPlace_0 rfl 1 rfl rfl ?_
  refine zn_if_ne (tgt := 11) (pc2 := 4) O dX6_keptPlace_1 (by decide) rfl (by omega) (fun c1 => ?_) (fun c1 => ?_)
  · exact absurd c1 (by decide)
  · refine zr_aload_n (pc2 := 5) O dX6_keptPlace_4 rfl 0 rfl rfl ?_
    refine zr_getf (v := .ref k0) (pc2 := 8) O sF_X6_keptPlace_65 0 0 rfl rfl rfl dX6_keptPlace_5 rfl ?_
    refine zr_goto (tgt := 15) O dX6_keptPlace_8 (by decide) ?_
    have hE : s_X6_keptPlace_0 k0 = k0 := by exact rfl
    exact hret _ _ _ _ dX6_keptPlace_15 rfl rfl
/-! X6_keptPlace -/
def s_X6_keptPlace_1 (j0 : Nat) : Nat := j0
set_option maxHeartbeats 4000000 in
set_option maxRecDepth 100000 in
theorem c_X6_keptPlace_1 (l : Launch) (D : va_G) (cI cC cJ : ClassId) (x : Nat) (old : Bool) (kb : Nat) (c0 : Nat) (r0 : Nat) (b0 : Nat) (y0 : Nat) (t0 : Nat) (w0 : Nat) (h0 : Nat) (g0 : Nat) (k0 : Nat) (j0 : Nat) : zD l yX6_keptPlace wsX6_keptPlace rm_X6_keptPlace D (zT cI cC cJ) [.ref x, .int (nI 1)] [mainW x c0 r0 b0 y0 old t0 w0 h0 g0 k0 j0 kb] (some (.ref j0)) [mainW x c0 r0 b0 y0 old t0 w0 h0 g0 k0 j0 kb] := by
  refine zD_ref (cc := cX6_keptPlace) (maxL := 2) (lv := [(0, .ref x), (1, .int (nI 1))]) (by decide +kernel) rfl (Nat.le_of_ble_eq_true rfl) rfl (fun Z O hret => ?_)
  refine zr_iload_n (pc2 := 1) O dX6_keptPlace_0 rfl 1 rfl rfl ?_
  refine zn_if_ne (tgt := 11) (pc2 := 4) O dX6_keptPlace_1 (by decide) rfl (by omega) (fun c1 => ?_) (fun c1 => ?_)
  · refine zr_aload_n (pc2 := 12) O dX6_keptPlace_11 rfl 0 rfl rfl ?_
    refine zr_getf (v := .ref j0) (pc2 := 15) O sF_X6_keptPlace_68 0 0 rfl rfl rfl dX6_keptPlace_12 rfl ?_
    have hE : s_X6_keptPlace_1 j0 = j0 := by exact rfl
    exact hret _ _ _ _ dX6_keptPlace_15 rfl rfl
  · exact absurd c1 (by decide)
/-! X6_keep -/
def s_X6_keep_0 (P : Nat) (Q : Nat) (Hn : Nat) (sd : Int32) (B : zB) : Int32 × Nat × Nat × Nat × Nat × Int32 × zB := ((nI 1), 1, P, Q, Hn, sd, B)
set_option maxHeartbeats 4000000 in
set_option maxRecDepth 100000 in
theorem c_X6_keep_0 (l : Launch) (D : va_G) (cI cC cJ : ClassId) (x : Nat) (b : Nat → Nat) (k : Nat → Nat) (j : Nat → Nat) (old : Bool) (P : Nat) (Q : Nat) (Hn : Nat) (sd : Int32) (B : zB) (P3 : Nat) (Q3 : Nat) (H3 : Nat) (sd3 : Int32) (B3 : zB) (P4 : Nat) (Q4 : Nat) (H4 : Nat) (sd4 : Int32) (B4 : zB) (c0 : Nat) (r0 : Nat) (y0 : Nat) (t0 : Nat) (w0 : Nat) (h0 : Nat) (g0 : Nat) : zD l yX6_keep wsX6_keep rm_X6_keep D (zT cI cC cJ) [.ref x] [mainW x c0 r0 (b 0) y0 old t0 w0 h0 g0 (k 0) (j 0) 0, bookW cI b P Q Hn sd B, bookW cI k P3 Q3 H3 sd3 B3, bookW cI j P4 Q4 H4 sd4 B4] (some (.int ((s_X6_keep_0 P Q Hn sd B).1))) [mainW x c0 r0 (b 0) y0 old t0 w0 h0 g0 (k 0) (j 0) ((s_X6_keep_0 P Q Hn sd B).2.1), bookW cI b P Q Hn sd B, bookW cI k ((s_X6_keep_0 P Q Hn sd B).2.2.1) ((s_X6_keep_0 P Q Hn sd B).2.2.2.1) ((s_X6_keep_0 P Q Hn sd B).2.2.2.2.1) ((s_X6_keep_0 P Q Hn sd B).2.2.2.2.2.1) ((s_X6_keep_0 P Q Hn sd B).2.2.2.2.2.2), bookW cI j P4 Q4 H4 sd4 B4] := by
  refine zD_int (cc := cX6_keep) (maxL := 1) (ty := .int) (lv := [(0, .ref x)]) (by decide +kernel) rfl (Nat.le_of_ble_eq_true rfl) rfl (fun Z O hret => ?_)
  refine zr_aload_n (pc2 := 1) O dX6_keep_0 rfl 0 rfl rfl ?_
  refine zr_getf (v := .int (nI 0)) (pc2 := 4) O sF_X6_keep_71 0 0 rfl rfl rfl dX6_keep_1 rfl ?_
  refine zr_iconst (v := (nI 2)) (pc2 := 5) O dX6_keep_4 (by decide +kernel) rfl ?_
  refine zn_icmp_lt (tgt := 11) (pc2 := 8) O dX6_keep_5 (by decide) rfl (by omega) (by omega) (fun c5 => ?_) (fun c5 => ?_)
  · refine zr_aload_n (pc2 := 12) O dX6_keep_11 rfl 0 rfl rfl ?_
    refine zr_aload_n (pc2 := 13) O dX6_keep_12 rfl 0 rfl rfl ?_
    refine zr_getf (v := .int (nI 0)) (pc2 := 16) O sF_X6_keep_71 0 0 rfl rfl rfl dX6_keep_13 rfl ?_
    refine zr_callV (As := [.int (nI 0)]) (rest := []) (ws2 := [mainW x c0 r0 (b 0) y0 old t0 w0 h0 g0 (k 0) (j 0) 0, bookW cI b P Q Hn sd B, bookW cI k P3 Q3 H3 sd3 B3, bookW cI j P4 Q4 H4 sd4 B4]) (pc2 := 19) (ci := 6) (g0 := 0) (q0 := 0) O (c_X6_keptPlace_0 l D cI cC cJ x old 0 c0 r0 (b 0) y0 t0 w0 h0 g0 (k 0) (j 0)) sC_X6_keep_246 rfl rfl rfl rfl rfl dX6_keep_16 [0] rfl rfl rfl rfl (Nat.le_of_ble_eq_true rfl) rfl ?_
    show Z _ _ _ [.ref (k 0)]
    refine zr_aload_n (pc2 := 20) O dX6_keep_19 rfl 0 rfl rfl ?_
    refine zr_getf (v := .ref (b 0)) (pc2 := 23) O sF_X6_keep_28 0 0 rfl rfl rfl dX6_keep_20 rfl ?_
    refine zr_callV (As := [.ref (b 0)]) (rest := []) (ws2 := [mainW x c0 r0 (b 0) y0 old t0 w0 h0 g0 (k 0) (j 0) 0, bookW cI b P Q Hn sd B, bookW cI k P Q Hn sd B, bookW cI j P4 Q4 H4 sd4 B4]) (pc2 := 26) (ci := 0) (g0 := 2) (q0 := 0) O (c_X0_copyFrom l D cI cC cJ k b P3 Q3 H3 sd3 B3 P Q Hn sd B) sC_X6_keep_103 rfl rfl rfl rfl rfl dX6_keep_23 [2, 1] rfl rfl rfl rfl (Nat.le_of_ble_eq_true rfl) rfl ?_
    show Z _ _ _ []
    refine zr_aload_n (pc2 := 27) O dX6_keep_26 rfl 0 rfl rfl ?_
    refine zr_dup (pc2 := 28) O dX6_keep_27 rfl rfl ?_
    refine zr_getf (v := .int (nI 0)) (pc2 := 31) O sF_X6_keep_71 0 0 rfl rfl rfl dX6_keep_28 rfl ?_
    refine zr_iconst (v := (nI 1)) (pc2 := 32) O dX6_keep_31 (by decide +kernel) rfl ?_
    refine zr_iadd (v := (nI 1)) (pc2 := 33) O dX6_keep_32 (nI_add 0 1) rfl ?_
    refine zr_putf (G2 := mainW x c0 r0 (b 0) y0 old t0 w0 h0 g0 (k 0) (j 0) 1) (ws2 := [mainW x c0 r0 (b 0) y0 old t0 w0 h0 g0 (k 0) (j 0) 1, bookW cI b P Q Hn sd B, bookW cI k P Q Hn sd B, bookW cI j P4 Q4 H4 sd4 B4]) (pc2 := 36) O sP_X6_keep_71 0 0 rfl rfl rfl rfl (Nat.le_of_ble_eq_true rfl) dX6_keep_33 rfl rfl rfl ?_
    refine zr_aload_n (pc2 := 37) O dX6_keep_36 rfl 0 rfl rfl ?_
    refine zr_getf (v := .int (nI 1)) (pc2 := 40) O sF_X6_keep_71 0 0 rfl rfl rfl dX6_keep_37 rfl ?_
    have hE : s_X6_keep_0 P Q Hn sd B = ((nI 1), 1, P, Q, Hn, sd, B) := by exact rfl
    exact hret _ _ _ _ dX6_keep_40 rfl (by rw [hE]) (by rw [hE])
  · exact absurd c5 (by decide)
/-! X6_keep -/
def s_X6_keep_1 (P : Nat) (Q : Nat) (Hn : Nat) (sd : Int32) (B : zB) : Int32 × Nat × Nat × Nat × Nat × Int32 × zB := ((nI 2), 2, P, Q, Hn, sd, B)
set_option maxHeartbeats 4000000 in
set_option maxRecDepth 100000 in
theorem c_X6_keep_1 (l : Launch) (D : va_G) (cI cC cJ : ClassId) (x : Nat) (b : Nat → Nat) (k : Nat → Nat) (j : Nat → Nat) (old : Bool) (P : Nat) (Q : Nat) (Hn : Nat) (sd : Int32) (B : zB) (P3 : Nat) (Q3 : Nat) (H3 : Nat) (sd3 : Int32) (B3 : zB) (P4 : Nat) (Q4 : Nat) (H4 : Nat) (sd4 : Int32) (B4 : zB) (c0 : Nat) (r0 : Nat) (y0 : Nat) (t0 : Nat) (w0 : Nat) (h0 : Nat) (g0 : Nat) : zD l yX6_keep wsX6_keep rm_X6_keep D (zT cI cC cJ) [.ref x] [mainW x c0 r0 (b 0) y0 old t0 w0 h0 g0 (k 0) (j 0) 1, bookW cI b P Q Hn sd B, bookW cI k P3 Q3 H3 sd3 B3, bookW cI j P4 Q4 H4 sd4 B4] (some (.int ((s_X6_keep_1 P Q Hn sd B).1))) [mainW x c0 r0 (b 0) y0 old t0 w0 h0 g0 (k 0) (j 0) ((s_X6_keep_1 P Q Hn sd B).2.1), bookW cI b P Q Hn sd B, bookW cI k P3 Q3 H3 sd3 B3, bookW cI j ((s_X6_keep_1 P Q Hn sd B).2.2.1) ((s_X6_keep_1 P Q Hn sd B).2.2.2.1) ((s_X6_keep_1 P Q Hn sd B).2.2.2.2.1) ((s_X6_keep_1 P Q Hn sd B).2.2.2.2.2.1) ((s_X6_keep_1 P Q Hn sd B).2.2.2.2.2.2)] := by
  refine zD_int (cc := cX6_keep) (maxL := 1) (ty := .int) (lv := [(0, .ref x)]) (by decide +kernel) rfl (Nat.le_of_ble_eq_true rfl) rfl (fun Z O hret => ?_)
  refine zr_aload_n (pc2 := 1) O dX6_keep_0 rfl 0 rfl rfl ?_
  refine zr_getf (v := .int (nI 1)) (pc2 := 4) O sF_X6_keep_71 0 0 rfl rfl rfl dX6_keep_1 rfl ?_
  refine zr_iconst (v := (nI 2)) (pc2 := 5) O dX6_keep_4 (by decide +kernel) rfl ?_
  refine zn_icmp_lt (tgt := 11) (pc2 := 8) O dX6_keep_5 (by decide) rfl (by omega) (by omega) (fun c5 => ?_) (fun c5 => ?_)
  · refine zr_aload_n (pc2 := 12) O dX6_keep_11 rfl 0 rfl rfl ?_
    refine zr_aload_n (pc2 := 13) O dX6_keep_12 rfl 0 rfl rfl ?_
    refine zr_getf (v := .int (nI 1)) (pc2 := 16) O sF_X6_keep_71 0 0 rfl rfl rfl dX6_keep_13 rfl ?_
    refine zr_callV (As := [.int (nI 1)]) (rest := []) (ws2 := [mainW x c0 r0 (b 0) y0 old t0 w0 h0 g0 (k 0) (j 0) 1, bookW cI b P Q Hn sd B, bookW cI k P3 Q3 H3 sd3 B3, bookW cI j P4 Q4 H4 sd4 B4]) (pc2 := 19) (ci := 6) (g0 := 0) (q0 := 0) O (c_X6_keptPlace_1 l D cI cC cJ x old 1 c0 r0 (b 0) y0 t0 w0 h0 g0 (k 0) (j 0)) sC_X6_keep_246 rfl rfl rfl rfl rfl dX6_keep_16 [0] rfl rfl rfl rfl (Nat.le_of_ble_eq_true rfl) rfl ?_
    show Z _ _ _ [.ref (j 0)]
    refine zr_aload_n (pc2 := 20) O dX6_keep_19 rfl 0 rfl rfl ?_
    refine zr_getf (v := .ref (b 0)) (pc2 := 23) O sF_X6_keep_28 0 0 rfl rfl rfl dX6_keep_20 rfl ?_
    refine zr_callV (As := [.ref (b 0)]) (rest := []) (ws2 := [mainW x c0 r0 (b 0) y0 old t0 w0 h0 g0 (k 0) (j 0) 1, bookW cI b P Q Hn sd B, bookW cI k P3 Q3 H3 sd3 B3, bookW cI j P Q Hn sd B]) (pc2 := 26) (ci := 0) (g0 := 3) (q0 := 0) O (c_X0_copyFrom l D cI cC cJ j b P4 Q4 H4 sd4 B4 P Q Hn sd B) sC_X6_keep_103 rfl rfl rfl rfl rfl dX6_keep_23 [3, 1] rfl rfl rfl rfl (Nat.le_of_ble_eq_true rfl) rfl ?_
    show Z _ _ _ []
    refine zr_aload_n (pc2 := 27) O dX6_keep_26 rfl 0 rfl rfl ?_
    refine zr_dup (pc2 := 28) O dX6_keep_27 rfl rfl ?_
    refine zr_getf (v := .int (nI 1)) (pc2 := 31) O sF_X6_keep_71 0 0 rfl rfl rfl dX6_keep_28 rfl ?_
    refine zr_iconst (v := (nI 1)) (pc2 := 32) O dX6_keep_31 (by decide +kernel) rfl ?_
    refine zr_iadd (v := (nI 2)) (pc2 := 33) O dX6_keep_32 (nI_add 1 1) rfl ?_
    refine zr_putf (G2 := mainW x c0 r0 (b 0) y0 old t0 w0 h0 g0 (k 0) (j 0) 2) (ws2 := [mainW x c0 r0 (b 0) y0 old t0 w0 h0 g0 (k 0) (j 0) 2, bookW cI b P Q Hn sd B, bookW cI k P3 Q3 H3 sd3 B3, bookW cI j P Q Hn sd B]) (pc2 := 36) O sP_X6_keep_71 0 0 rfl rfl rfl rfl (Nat.le_of_ble_eq_true rfl) dX6_keep_33 rfl rfl rfl ?_
    refine zr_aload_n (pc2 := 37) O dX6_keep_36 rfl 0 rfl rfl ?_
    refine zr_getf (v := .int (nI 2)) (pc2 := 40) O sF_X6_keep_71 0 0 rfl rfl rfl dX6_keep_37 rfl ?_
    have hE : s_X6_keep_1 P Q Hn sd B = ((nI 2), 2, P, Q, Hn, sd, B) := by exact rfl
    exact hret _ _ _ _ dX6_keep_40 rfl (by rw [hE]) (by rw [hE])
  · exact absurd c5 (by decide)
/-! X6_keep -/
def s_X6_keep_2 : Int32 := (-3)
set_option maxHeartbeats 4000000 in
set_option maxRecDepth 100000 in
theorem c_X6_keep_2 (l : Launch) (D : va_G) (cI cC cJ : ClassId) (x : Nat) (b : Nat → Nat) (k : Nat → Nat) (j : Nat → Nat) (old : Bool) (P : Nat) (Q : Nat) (Hn : Nat) (sd : Int32) (B : zB) (P3 : Nat) (Q3 : Nat) (H3 : Nat) (sd3 : Int32) (B3 : zB) (P4 : Nat) (Q4 : Nat) (H4 : Nat) (sd4 : Int32) (B4 : zB) (c0 : Nat) (r0 : Nat) (y0 : Nat) (t0 : Nat) (w0 : Nat) (h0 : Nat) (g0 : Nat) : zD l yX6_keep wsX6_keep rm_X6_keep D (zT cI cC cJ) [.ref x] [mainW x c0 r0 (b 0) y0 old t0 w0 h0 g0 (k 0) (j 0) 2, bookW cI b P Q Hn sd B, bookW cI k P3 Q3 H3 sd3 B3, bookW cI j P4 Q4 H4 sd4 B4] (some (.int (s_X6_keep_2))) [mainW x c0 r0 (b 0) y0 old t0 w0 h0 g0 (k 0) (j 0) 2, bookW cI b P Q Hn sd B, bookW cI k P3 Q3 H3 sd3 B3, bookW cI j P4 Q4 H4 sd4 B4] := by
  refine zD_int (cc := cX6_keep) (maxL := 1) (ty := .int) (lv := [(0, .ref x)]) (by decide +kernel) rfl (Nat.le_of_ble_eq_true rfl) rfl (fun Z O hret => ?_)
  refine zr_aload_n (pc2 := 1) O dX6_keep_0 rfl 0 rfl rfl ?_
  refine zr_getf (v := .int (nI 2)) (pc2 := 4) O sF_X6_keep_71 0 0 rfl rfl rfl dX6_keep_1 rfl ?_
  refine zr_iconst (v := (nI 2)) (pc2 := 5) O dX6_keep_4 (by decide +kernel) rfl ?_
  refine zn_icmp_lt (tgt := 11) (pc2 := 8) O dX6_keep_5 (by decide) rfl (by omega) (by omega) (fun c5 => ?_) (fun c5 => ?_)
  · exact absurd c5 (by decide)
  · refine zr_bipush (v := (-3)) (pc2 := 10) O dX6_keep_8 (by decide +kernel) rfl ?_
    have hE : s_X6_keep_2 = (-3) := by exact rfl
    exact hret _ _ _ _ dX6_keep_10 rfl (by rw [hE]) rfl
/-! X6_back -/
def s_X6_back_0 : Int32 := (-2)
set_option maxHeartbeats 4000000 in
set_option maxRecDepth 100000 in
theorem c_X6_back_0 (l : Launch) (D : va_G) (cI cC cJ : ClassId) (x : Nat) (b : Nat → Nat) (h : Nat → Nat) (k : Nat → Nat) (j : Nat → Nat) (old : Bool) (P : Nat) (Q : Nat) (Hn : Nat) (sd : Int32) (B : zB) (cn : Nat) (Ch : zC) (P3 : Nat) (Q3 : Nat) (H3 : Nat) (sd3 : Int32) (B3 : zB) (P4 : Nat) (Q4 : Nat) (H4 : Nat) (sd4 : Int32) (B4 : zB) (c0 : Nat) (r0 : Nat) (y0 : Nat) (t0 : Nat) (w0 : Nat) (g0 : Nat) : zD l yX6_back wsX6_back rm_X6_back D (zT cI cC cJ) [.ref x] [mainW x c0 r0 (b 0) y0 old t0 w0 (h 3) g0 (k 0) (j 0) 0, bookW cI b P Q Hn sd B, changesW cI h cn Ch, bookW cI k P3 Q3 H3 sd3 B3, bookW cI j P4 Q4 H4 sd4 B4] (some (.int (s_X6_back_0))) [mainW x c0 r0 (b 0) y0 old t0 w0 (h 3) g0 (k 0) (j 0) 0, bookW cI b P Q Hn sd B, changesW cI h cn Ch, bookW cI k P3 Q3 H3 sd3 B3, bookW cI j P4 Q4 H4 sd4 B4] := by
  refine zD_int (cc := cX6_back) (maxL := 1) (ty := .int) (lv := [(0, .ref x)]) (by decide +kernel) rfl (Nat.le_of_ble_eq_true rfl) rfl (fun Z O hret => ?_)
  refine zr_aload_n (pc2 := 1) O dX6_back_0 rfl 0 rfl rfl ?_
  refine zr_getf (v := .int (nI 0)) (pc2 := 4) O sF_X6_back_71 0 0 rfl rfl rfl dX6_back_1 rfl ?_
  refine zn_if_ne (tgt := 10) (pc2 := 7) O dX6_back_4 (by decide) rfl (by omega) (fun c4 => ?_) (fun c4 => ?_)
  · exact absurd c4 (by decide)
  · refine zr_bipush (v := (-2)) (pc2 := 9) O dX6_back_7 (by decide +kernel) rfl ?_
    have hE : s_X6_back_0 = (-2) := by exact rfl
    exact hret _ _ _ _ dX6_back_9 rfl (by rw [hE]) rfl
/-! X6_back -/
def s_X6_back_1 (P3 : Nat) (Q3 : Nat) (H3 : Nat) (sd3 : Int32) (B3 : zB) : Int32 × Bool × Nat × Nat × Nat × Nat × Int32 × zB × Nat := ((nI 0), true, 0, P3, Q3, H3, sd3, B3, 0)
set_option maxHeartbeats 4000000 in
set_option maxRecDepth 100000 in
theorem c_X6_back_1 (l : Launch) (D : va_G) (cI cC cJ : ClassId) (x : Nat) (b : Nat → Nat) (h : Nat → Nat) (k : Nat → Nat) (j : Nat → Nat) (old : Bool) (P : Nat) (Q : Nat) (Hn : Nat) (sd : Int32) (B : zB) (cn : Nat) (Ch : zC) (P3 : Nat) (Q3 : Nat) (H3 : Nat) (sd3 : Int32) (B3 : zB) (P4 : Nat) (Q4 : Nat) (H4 : Nat) (sd4 : Int32) (B4 : zB) (c0 : Nat) (r0 : Nat) (y0 : Nat) (t0 : Nat) (w0 : Nat) (g0 : Nat) : zD l yX6_back wsX6_back rm_X6_back D (zT cI cC cJ) [.ref x] [mainW x c0 r0 (b 0) y0 old t0 w0 (h 3) g0 (k 0) (j 0) 1, bookW cI b P Q Hn sd B, changesW cI h cn Ch, bookW cI k P3 Q3 H3 sd3 B3, bookW cI j P4 Q4 H4 sd4 B4] (some (.int ((s_X6_back_1 P3 Q3 H3 sd3 B3).1))) [mainW x c0 r0 (b 0) y0 ((s_X6_back_1 P3 Q3 H3 sd3 B3).2.1) t0 w0 (h 3) g0 (k 0) (j 0) ((s_X6_back_1 P3 Q3 H3 sd3 B3).2.2.1), bookW cI b ((s_X6_back_1 P3 Q3 H3 sd3 B3).2.2.2.1) ((s_X6_back_1 P3 Q3 H3 sd3 B3).2.2.2.2.1) ((s_X6_back_1 P3 Q3 H3 sd3 B3).2.2.2.2.2.1) ((s_X6_back_1 P3 Q3 H3 sd3 B3).2.2.2.2.2.2.1) ((s_X6_back_1 P3 Q3 H3 sd3 B3).2.2.2.2.2.2.2.1), changesW cI h ((s_X6_back_1 P3 Q3 H3 sd3 B3).2.2.2.2.2.2.2.2) Ch, bookW cI k P3 Q3 H3 sd3 B3, bookW cI j P4 Q4 H4 sd4 B4] := by
  refine zD_int (cc := cX6_back) (maxL := 1) (ty := .int) (lv := [(0, .ref x)]) (by decide +kernel) rfl (Nat.le_of_ble_eq_true rfl) rfl (fun Z O hret => ?_)
  refine zr_aload_n (pc2 := 1) O dX6_back_0 rfl 0 rfl rfl ?_
  refine zr_getf (v := .int (nI 1)) (pc2 := 4) O sF_X6_back_71 0 0 rfl rfl rfl dX6_back_1 rfl ?_
  refine zn_if_ne (tgt := 10) (pc2 := 7) O dX6_back_4 (by decide) rfl (by omega) (fun c4 => ?_) (fun c4 => ?_)
  · refine zr_aload_n (pc2 := 11) O dX6_back_10 rfl 0 rfl rfl ?_
    refine zr_dup (pc2 := 12) O dX6_back_11 rfl rfl ?_
    refine zr_getf (v := .int (nI 1)) (pc2 := 15) O sF_X6_back_71 0 0 rfl rfl rfl dX6_back_12 rfl ?_
    refine zr_iconst (v := (nI 1)) (pc2 := 16) O dX6_back_15 (by decide +kernel) rfl ?_
    refine zr_isub (v := (nI 0)) (pc2 := 17) O dX6_back_16 (pk_sub (by omega)) rfl ?_
    refine zr_putf (G2 := mainW x c0 r0 (b 0) y0 old t0 w0 (h 3) g0 (k 0) (j 0) 0) (ws2 := [mainW x c0 r0 (b 0) y0 old t0 w0 (h 3) g0 (k 0) (j 0) 0, bookW cI b P Q Hn sd B, changesW cI h cn Ch, bookW cI k P3 Q3 H3 sd3 B3, bookW cI j P4 Q4 H4 sd4 B4]) (pc2 := 20) O sP_X6_back_71 0 0 rfl rfl rfl rfl (Nat.le_of_ble_eq_true rfl) dX6_back_17 rfl rfl rfl ?_
    refine zr_aload_n (pc2 := 21) O dX6_back_20 rfl 0 rfl rfl ?_
    refine zr_getf (v := .ref (b 0)) (pc2 := 24) O sF_X6_back_28 0 0 rfl rfl rfl dX6_back_21 rfl ?_
    refine zr_aload_n (pc2 := 25) O dX6_back_24 rfl 0 rfl rfl ?_
    refine zr_aload_n (pc2 := 26) O dX6_back_25 rfl 0 rfl rfl ?_
    refine zr_getf (v := .int (nI 0)) (pc2 := 29) O sF_X6_back_71 0 0 rfl rfl rfl dX6_back_26 rfl ?_
    refine zr_callV (As := [.int (nI 0)]) (rest := [.ref (b 0)]) (ws2 := [mainW x c0 r0 (b 0) y0 old t0 w0 (h 3) g0 (k 0) (j 0) 0, bookW cI b P Q Hn sd B, changesW cI h cn Ch, bookW cI k P3 Q3 H3 sd3 B3, bookW cI j P4 Q4 H4 sd4 B4]) (pc2 := 32) (ci := 6) (g0 := 0) (q0 := 0) O (c_X6_keptPlace_0 l D cI cC cJ x old 0 c0 r0 (b 0) y0 t0 w0 (h 3) g0 (k 0) (j 0)) sC_X6_back_246 rfl rfl rfl rfl rfl dX6_back_29 [0] rfl rfl rfl rfl (Nat.le_of_ble_eq_true rfl) rfl ?_
    show Z _ _ _ [.ref (k 0), .ref (b 0)]
    refine zr_callV (As := [.ref (k 0)]) (rest := []) (ws2 := [mainW x c0 r0 (b 0) y0 old t0 w0 (h 3) g0 (k 0) (j 0) 0, bookW cI b P3 Q3 H3 sd3 B3, changesW cI h cn Ch, bookW cI k P3 Q3 H3 sd3 B3, bookW cI j P4 Q4 H4 sd4 B4]) (pc2 := 35) (ci := 0) (g0 := 1) (q0 := 0) O (c_X0_copyFrom l D cI cC cJ b k P Q Hn sd B P3 Q3 H3 sd3 B3) sC_X6_back_103 rfl rfl rfl rfl rfl dX6_back_32 [1, 3] rfl rfl rfl rfl (Nat.le_of_ble_eq_true rfl) rfl ?_
    show Z _ _ _ []
    refine zr_aload_n (pc2 := 36) O dX6_back_35 rfl 0 rfl rfl ?_
    refine zr_getf (v := .ref (h 3)) (pc2 := 39) O sF_X6_back_54 0 0 rfl rfl rfl dX6_back_36 rfl ?_
    refine zr_callV (As := []) (rest := []) (ws2 := [mainW x c0 r0 (b 0) y0 old t0 w0 (h 3) g0 (k 0) (j 0) 0, bookW cI b P3 Q3 H3 sd3 B3, changesW cI h 0 Ch, bookW cI k P3 Q3 H3 sd3 B3, bookW cI j P4 Q4 H4 sd4 B4]) (pc2 := 42) (ci := 1) (g0 := 2) (q0 := 0) O (c_X1_clear l D cI cC cJ h cn Ch) sC_X6_back_106 rfl rfl rfl rfl rfl dX6_back_39 [2] rfl rfl rfl rfl (Nat.le_of_ble_eq_true rfl) rfl ?_
    show Z _ _ _ []
    refine zr_aload_n (pc2 := 43) O dX6_back_42 rfl 0 rfl rfl ?_
    refine zr_iconst (v := (nI 1)) (pc2 := 44) O dX6_back_43 (by decide +kernel) rfl ?_
    refine zr_putf (G2 := mainW x c0 r0 (b 0) y0 true t0 w0 (h 3) g0 (k 0) (j 0) 0) (ws2 := [mainW x c0 r0 (b 0) y0 true t0 w0 (h 3) g0 (k 0) (j 0) 0, bookW cI b P3 Q3 H3 sd3 B3, changesW cI h 0 Ch, bookW cI k P3 Q3 H3 sd3 B3, bookW cI j P4 Q4 H4 sd4 B4]) (pc2 := 47) O sP_X6_back_41 0 0 rfl rfl (by decide +kernel) (by decide +kernel) (Nat.le_of_ble_eq_true rfl) dX6_back_44 rfl rfl rfl ?_
    refine zr_aload_n (pc2 := 48) O dX6_back_47 rfl 0 rfl rfl ?_
    refine zr_getf (v := .int (nI 0)) (pc2 := 51) O sF_X6_back_71 0 0 rfl rfl rfl dX6_back_48 rfl ?_
    have hE : s_X6_back_1 P3 Q3 H3 sd3 B3 = ((nI 0), true, 0, P3, Q3, H3, sd3, B3, 0) := by exact rfl
    exact hret _ _ _ _ dX6_back_51 rfl (by rw [hE]) (by rw [hE])
  · exact absurd c4 (by decide)
/-! X6_back -/
def s_X6_back_2 (P4 : Nat) (Q4 : Nat) (H4 : Nat) (sd4 : Int32) (B4 : zB) : Int32 × Bool × Nat × Nat × Nat × Nat × Int32 × zB × Nat := ((nI 1), true, 1, P4, Q4, H4, sd4, B4, 0)
set_option maxHeartbeats 4000000 in
set_option maxRecDepth 100000 in
theorem c_X6_back_2 (l : Launch) (D : va_G) (cI cC cJ : ClassId) (x : Nat) (b : Nat → Nat) (h : Nat → Nat) (k : Nat → Nat) (j : Nat → Nat) (old : Bool) (P : Nat) (Q : Nat) (Hn : Nat) (sd : Int32) (B : zB) (cn : Nat) (Ch : zC) (P3 : Nat) (Q3 : Nat) (H3 : Nat) (sd3 : Int32) (B3 : zB) (P4 : Nat) (Q4 : Nat) (H4 : Nat) (sd4 : Int32) (B4 : zB) (c0 : Nat) (r0 : Nat) (y0 : Nat) (t0 : Nat) (w0 : Nat) (g0 : Nat) : zD l yX6_back wsX6_back rm_X6_back D (zT cI cC cJ) [.ref x] [mainW x c0 r0 (b 0) y0 old t0 w0 (h 3) g0 (k 0) (j 0) 2, bookW cI b P Q Hn sd B, changesW cI h cn Ch, bookW cI k P3 Q3 H3 sd3 B3, bookW cI j P4 Q4 H4 sd4 B4] (some (.int ((s_X6_back_2 P4 Q4 H4 sd4 B4).1))) [mainW x c0 r0 (b 0) y0 ((s_X6_back_2 P4 Q4 H4 sd4 B4).2.1) t0 w0 (h 3) g0 (k 0) (j 0) ((s_X6_back_2 P4 Q4 H4 sd4 B4).2.2.1), bookW cI b ((s_X6_back_2 P4 Q4 H4 sd4 B4).2.2.2.1) ((s_X6_back_2 P4 Q4 H4 sd4 B4).2.2.2.2.1) ((s_X6_back_2 P4 Q4 H4 sd4 B4).2.2.2.2.2.1) ((s_X6_back_2 P4 Q4 H4 sd4 B4).2.2.2.2.2.2.1) ((s_X6_back_2 P4 Q4 H4 sd4 B4).2.2.2.2.2.2.2.1), changesW cI h ((s_X6_back_2 P4 Q4 H4 sd4 B4).2.2.2.2.2.2.2.2) Ch, bookW cI k P3 Q3 H3 sd3 B3, bookW cI j P4 Q4 H4 sd4 B4] := by
  refine zD_int (cc := cX6_back) (maxL := 1) (ty := .int) (lv := [(0, .ref x)]) (by decide +kernel) rfl (Nat.le_of_ble_eq_true rfl) rfl (fun Z O hret => ?_)
  refine zr_aload_n (pc2 := 1) O dX6_back_0 rfl 0 rfl rfl ?_
  refine zr_getf (v := .int (nI 2)) (pc2 := 4) O sF_X6_back_71 0 0 rfl rfl rfl dX6_back_1 rfl ?_
  refine zn_if_ne (tgt := 10) (pc2 := 7) O dX6_back_4 (by decide) rfl (by omega) (fun c4 => ?_) (fun c4 => ?_)
  · refine zr_aload_n (pc2 := 11) O dX6_back_10 rfl 0 rfl rfl ?_
    refine zr_dup (pc2 := 12) O dX6_back_11 rfl rfl ?_
    refine zr_getf (v := .int (nI 2)) (pc2 := 15) O sF_X6_back_71 0 0 rfl rfl rfl dX6_back_12 rfl ?_
    refine zr_iconst (v := (nI 1)) (pc2 := 16) O dX6_back_15 (by decide +kernel) rfl ?_
    refine zr_isub (v := (nI 1)) (pc2 := 17) O dX6_back_16 (pk_sub (by omega)) rfl ?_
    refine zr_putf (G2 := mainW x c0 r0 (b 0) y0 old t0 w0 (h 3) g0 (k 0) (j 0) 1) (ws2 := [mainW x c0 r0 (b 0) y0 old t0 w0 (h 3) g0 (k 0) (j 0) 1, bookW cI b P Q Hn sd B, changesW cI h cn Ch, bookW cI k P3 Q3 H3 sd3 B3, bookW cI j P4 Q4 H4 sd4 B4]) (pc2 := 20) O sP_X6_back_71 0 0 rfl rfl rfl rfl (Nat.le_of_ble_eq_true rfl) dX6_back_17 rfl rfl rfl ?_
    refine zr_aload_n (pc2 := 21) O dX6_back_20 rfl 0 rfl rfl ?_
    refine zr_getf (v := .ref (b 0)) (pc2 := 24) O sF_X6_back_28 0 0 rfl rfl rfl dX6_back_21 rfl ?_
    refine zr_aload_n (pc2 := 25) O dX6_back_24 rfl 0 rfl rfl ?_
    refine zr_aload_n (pc2 := 26) O dX6_back_25 rfl 0 rfl rfl ?_
    refine zr_getf (v := .int (nI 1)) (pc2 := 29) O sF_X6_back_71 0 0 rfl rfl rfl dX6_back_26 rfl ?_
    refine zr_callV (As := [.int (nI 1)]) (rest := [.ref (b 0)]) (ws2 := [mainW x c0 r0 (b 0) y0 old t0 w0 (h 3) g0 (k 0) (j 0) 1, bookW cI b P Q Hn sd B, changesW cI h cn Ch, bookW cI k P3 Q3 H3 sd3 B3, bookW cI j P4 Q4 H4 sd4 B4]) (pc2 := 32) (ci := 6) (g0 := 0) (q0 := 0) O (c_X6_keptPlace_1 l D cI cC cJ x old 1 c0 r0 (b 0) y0 t0 w0 (h 3) g0 (k 0) (j 0)) sC_X6_back_246 rfl rfl rfl rfl rfl dX6_back_29 [0] rfl rfl rfl rfl (Nat.le_of_ble_eq_true rfl) rfl ?_
    show Z _ _ _ [.ref (j 0), .ref (b 0)]
    refine zr_callV (As := [.ref (j 0)]) (rest := []) (ws2 := [mainW x c0 r0 (b 0) y0 old t0 w0 (h 3) g0 (k 0) (j 0) 1, bookW cI b P4 Q4 H4 sd4 B4, changesW cI h cn Ch, bookW cI k P3 Q3 H3 sd3 B3, bookW cI j P4 Q4 H4 sd4 B4]) (pc2 := 35) (ci := 0) (g0 := 1) (q0 := 0) O (c_X0_copyFrom l D cI cC cJ b j P Q Hn sd B P4 Q4 H4 sd4 B4) sC_X6_back_103 rfl rfl rfl rfl rfl dX6_back_32 [1, 4] rfl rfl rfl rfl (Nat.le_of_ble_eq_true rfl) rfl ?_
    show Z _ _ _ []
    refine zr_aload_n (pc2 := 36) O dX6_back_35 rfl 0 rfl rfl ?_
    refine zr_getf (v := .ref (h 3)) (pc2 := 39) O sF_X6_back_54 0 0 rfl rfl rfl dX6_back_36 rfl ?_
    refine zr_callV (As := []) (rest := []) (ws2 := [mainW x c0 r0 (b 0) y0 old t0 w0 (h 3) g0 (k 0) (j 0) 1, bookW cI b P4 Q4 H4 sd4 B4, changesW cI h 0 Ch, bookW cI k P3 Q3 H3 sd3 B3, bookW cI j P4 Q4 H4 sd4 B4]) (pc2 := 42) (ci := 1) (g0 := 2) (q0 := 0) O (c_X1_clear l D cI cC cJ h cn Ch) sC_X6_back_106 rfl rfl rfl rfl rfl dX6_back_39 [2] rfl rfl rfl rfl (Nat.le_of_ble_eq_true rfl) rfl ?_
    show Z _ _ _ []
    refine zr_aload_n (pc2 := 43) O dX6_back_42 rfl 0 rfl rfl ?_
    refine zr_iconst (v := (nI 1)) (pc2 := 44) O dX6_back_43 (by decide +kernel) rfl ?_
    refine zr_putf (G2 := mainW x c0 r0 (b 0) y0 true t0 w0 (h 3) g0 (k 0) (j 0) 1) (ws2 := [mainW x c0 r0 (b 0) y0 true t0 w0 (h 3) g0 (k 0) (j 0) 1, bookW cI b P4 Q4 H4 sd4 B4, changesW cI h 0 Ch, bookW cI k P3 Q3 H3 sd3 B3, bookW cI j P4 Q4 H4 sd4 B4]) (pc2 := 47) O sP_X6_back_41 0 0 rfl rfl (by decide +kernel) (by decide +kernel) (Nat.le_of_ble_eq_true rfl) dX6_back_44 rfl rfl rfl ?_
    refine zr_aload_n (pc2 := 48) O dX6_back_47 rfl 0 rfl rfl ?_
    refine zr_getf (v := .int (nI 1)) (pc2 := 51) O sF_X6_back_71 0 0 rfl rfl rfl dX6_back_48 rfl ?_
    have hE : s_X6_back_2 P4 Q4 H4 sd4 B4 = ((nI 1), true, 1, P4, Q4, H4, sd4, B4, 0) := by exact rfl
    exact hret _ _ _ _ dX6_back_51 rfl (by rw [hE]) (by rw [hE])
  · exact absurd c4 (by decide)
/-! X6_count -/
def s_X6_count (kb : Nat) (n : Nat) (P : Nat) (Q : Nat) (Hn : Nat) (cn : Nat) (sn : Nat) (wh : Int32) : Int32 := if wh = nI 0 then (nI P) else if wh = nI 1 then (nI Q) else if wh = nI 2 then (nI Hn) else if wh = nI 3 then (nI sn) else if wh = nI 4 then (nI cn) else if wh = nI 5 then (nI kb) else if wh = nI 6 then (nI n) else (-1)
set_option maxHeartbeats 4000000 in
set_option maxRecDepth 100000 in
theorem c_X6_count (l : Launch) (D : va_G) (cI cC cJ : ClassId) (x : Nat) (c : Nat → Nat) (b : Nat → Nat) (h : Nat → Nat) (g : Nat → Nat) (old : Bool) (kb : Nat) (n : Nat) (Le : Nat → Int32) (P : Nat) (Q : Nat) (Hn : Nat) (sd : Int32) (B : zB) (cn : Nat) (Ch : zC) (sn : Nat) (Sg : zC) (wh : Int32) (r0 : Nat) (y0 : Nat) (t0 : Nat) (w0 : Nat) (k0 : Nat) (j0 : Nat) : zD l yX6_count wsX6_count rm_X6_count D (zT cI cC cJ) [.ref x, .int wh] [mainW x (c 1) r0 (b 0) y0 old t0 w0 (h 3) (g 3) k0 j0 kb, scrollW cC c n Le, bookW cI b P Q Hn sd B, changesW cI h cn Ch, sightsW cI g sn Sg] (some (.int (s_X6_count kb n P Q Hn cn sn wh))) [mainW x (c 1) r0 (b 0) y0 old t0 w0 (h 3) (g 3) k0 j0 kb, scrollW cC c n Le, bookW cI b P Q Hn sd B, changesW cI h cn Ch, sightsW cI g sn Sg] := by
  refine zD_int (cc := cX6_count) (maxL := 2) (ty := .int) (lv := [(0, .ref x), (1, .int wh)]) (by decide +kernel) rfl (Nat.le_of_ble_eq_true rfl) rfl (fun Z O hret => ?_)
  refine zr_iload_n (pc2 := 1) O dX6_count_0 rfl 1 rfl rfl ?_
  by_cases c1_0 : wh = nI 0
  · refine zn_tabIn (y := nI 0) (off := 43) (tgt := 44) O c1_0 dX6_count_1 (by decide +kernel) (by decide +kernel) (by decide +kernel) (by decide) ?_
    refine zr_aload_n (pc2 := 45) O dX6_count_44 rfl 0 rfl rfl ?_
    refine zr_getf (v := .ref (b 0)) (pc2 := 48) O sF_X6_count_28 0 0 rfl rfl rfl dX6_count_45 rfl ?_
    refine zr_getf (v := .int (nI P)) (pc2 := 51) O sF_X6_count_100 2 0 rfl rfl rfl dX6_count_48 rfl ?_
    have hE : s_X6_count kb n P Q Hn cn sn wh = (nI P) := by exact (if_pos c1_0)
    exact hret _ _ _ _ dX6_count_51 rfl (by rw [hE]) rfl
  · skip
    by_cases c1_1 : wh = nI 1
    · refine zn_tabIn (y := nI 1) (off := 51) (tgt := 52) O c1_1 dX6_count_1 (by decide +kernel) (by decide +kernel) (by decide +kernel) (by decide) ?_
      refine zr_aload_n (pc2 := 53) O dX6_count_52 rfl 0 rfl rfl ?_
      refine zr_getf (v := .ref (b 0)) (pc2 := 56) O sF_X6_count_28 0 0 rfl rfl rfl dX6_count_53 rfl ?_
      refine zr_getf (v := .int (nI Q)) (pc2 := 59) O sF_X6_count_206 2 0 rfl rfl rfl dX6_count_56 rfl ?_
      have hE : s_X6_count kb n P Q Hn cn sn wh = (nI Q) := by exact ((if_neg c1_0).trans (if_pos c1_1))
      exact hret _ _ _ _ dX6_count_59 rfl (by rw [hE]) rfl
    · skip
      by_cases c1_2 : wh = nI 2
      · refine zn_tabIn (y := nI 2) (off := 59) (tgt := 60) O c1_2 dX6_count_1 (by decide +kernel) (by decide +kernel) (by decide +kernel) (by decide) ?_
        refine zr_aload_n (pc2 := 61) O dX6_count_60 rfl 0 rfl rfl ?_
        refine zr_getf (v := .ref (b 0)) (pc2 := 64) O sF_X6_count_28 0 0 rfl rfl rfl dX6_count_61 rfl ?_
        refine zr_getf (v := .int (nI Hn)) (pc2 := 67) O sF_X6_count_155 2 0 rfl rfl rfl dX6_count_64 rfl ?_
        have hE : s_X6_count kb n P Q Hn cn sn wh = (nI Hn) := by exact ((if_neg c1_0).trans ((if_neg c1_1).trans (if_pos c1_2)))
        exact hret _ _ _ _ dX6_count_67 rfl (by rw [hE]) rfl
      · skip
        by_cases c1_3 : wh = nI 3
        · refine zn_tabIn (y := nI 3) (off := 67) (tgt := 68) O c1_3 dX6_count_1 (by decide +kernel) (by decide +kernel) (by decide +kernel) (by decide) ?_
          refine zr_aload_n (pc2 := 69) O dX6_count_68 rfl 0 rfl rfl ?_
          refine zr_getf (v := .ref (g 3)) (pc2 := 72) O sF_X6_count_61 0 0 rfl rfl rfl dX6_count_69 rfl ?_
          refine zr_getf (v := .int (nI sn)) (pc2 := 75) O sF_X6_count_230 4 0 rfl rfl rfl dX6_count_72 rfl ?_
          have hE : s_X6_count kb n P Q Hn cn sn wh = (nI sn) := by exact ((if_neg c1_0).trans ((if_neg c1_1).trans ((if_neg c1_2).trans (if_pos c1_3))))
          exact hret _ _ _ _ dX6_count_75 rfl (by rw [hE]) rfl
        · skip
          by_cases c1_4 : wh = nI 4
          · refine zn_tabIn (y := nI 4) (off := 75) (tgt := 76) O c1_4 dX6_count_1 (by decide +kernel) (by decide +kernel) (by decide +kernel) (by decide) ?_
            refine zr_aload_n (pc2 := 77) O dX6_count_76 rfl 0 rfl rfl ?_
            refine zr_getf (v := .ref (h 3)) (pc2 := 80) O sF_X6_count_54 0 0 rfl rfl rfl dX6_count_77 rfl ?_
            refine zr_getf (v := .int (nI cn)) (pc2 := 83) O sF_X6_count_162 3 0 rfl rfl rfl dX6_count_80 rfl ?_
            have hE : s_X6_count kb n P Q Hn cn sn wh = (nI cn) := by exact ((if_neg c1_0).trans ((if_neg c1_1).trans ((if_neg c1_2).trans ((if_neg c1_3).trans (if_pos c1_4)))))
            exact hret _ _ _ _ dX6_count_83 rfl (by rw [hE]) rfl
          · skip
            by_cases c1_5 : wh = nI 5
            · refine zn_tabIn (y := nI 5) (off := 83) (tgt := 84) O c1_5 dX6_count_1 (by decide +kernel) (by decide +kernel) (by decide +kernel) (by decide) ?_
              refine zr_aload_n (pc2 := 85) O dX6_count_84 rfl 0 rfl rfl ?_
              refine zr_getf (v := .int (nI kb)) (pc2 := 88) O sF_X6_count_71 0 0 rfl rfl rfl dX6_count_85 rfl ?_
              have hE : s_X6_count kb n P Q Hn cn sn wh = (nI kb) := by exact ((if_neg c1_0).trans ((if_neg c1_1).trans ((if_neg c1_2).trans ((if_neg c1_3).trans ((if_neg c1_4).trans (if_pos c1_5))))))
              exact hret _ _ _ _ dX6_count_88 rfl (by rw [hE]) rfl
            · skip
              by_cases c1_6 : wh = nI 6
              · refine zn_tabIn (y := nI 6) (off := 88) (tgt := 89) O c1_6 dX6_count_1 (by decide +kernel) (by decide +kernel) (by decide +kernel) (by decide) ?_
                refine zr_aload_n (pc2 := 90) O dX6_count_89 rfl 0 rfl rfl ?_
                refine zr_getf (v := .ref (c 1)) (pc2 := 93) O sF_X6_count_10 0 0 rfl rfl rfl dX6_count_90 rfl ?_
                refine zr_getf (v := .int (nI n)) (pc2 := 96) O sF_X6_count_98 1 0 rfl rfl rfl dX6_count_93 rfl ?_
                have hE : s_X6_count kb n P Q Hn cn sn wh = (nI n) := by exact ((if_neg c1_0).trans ((if_neg c1_1).trans ((if_neg c1_2).trans ((if_neg c1_3).trans ((if_neg c1_4).trans ((if_neg c1_5).trans (if_pos c1_6)))))))
                exact hret _ _ _ _ dX6_count_96 rfl (by rw [hE]) rfl
              · skip
                refine zr_tabOut (tgt := 97) O dX6_count_1 (zsw_out (x := wh) 6 (by decide) (zsw_s (zsw_t (zsw_s (zsw_t (zsw_s (zsw_t (zsw_s (zsw_t (zsw_s (zsw_t (zsw_s (zsw_t (zsw_s zsw_0 c1_0)) c1_1)) c1_2)) c1_3)) c1_4)) c1_5)) c1_6)) (by decide) ?_
                refine zr_iconst (v := (-1)) (pc2 := 98) O dX6_count_97 (by decide +kernel) rfl ?_
                have hE : s_X6_count kb n P Q Hn cn sn wh = (-1) := by exact ((if_neg c1_0).trans ((if_neg c1_1).trans ((if_neg c1_2).trans ((if_neg c1_3).trans ((if_neg c1_4).trans ((if_neg c1_5).trans (if_neg c1_6)))))))
                exact hret _ _ _ _ dX6_count_98 rfl (by rw [hE]) rfl
