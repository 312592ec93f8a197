/-! J6_bitCount_0f7a4 -/
def s_J6_bitCount_0f7a4 (x : Int32) : Int32 := let x9 := (x - (((x.toUInt32 >>> ((nI 1).toUInt32 &&& Int32.toUInt32 31)).toInt32) &&& 1431655765)); let x23 := ((x9 &&& 858993459) + (((x9.toUInt32 >>> ((nI 2).toUInt32 &&& Int32.toUInt32 31)).toInt32) &&& 858993459)); let x33 := ((x23 + ((x23.toUInt32 >>> ((nI 4).toUInt32 &&& Int32.toUInt32 31)).toInt32)) &&& 252645135); let x40 := (x33 + ((x33.toUInt32 >>> ((nI 8).toUInt32 &&& Int32.toUInt32 31)).toInt32)); let x47 := (x40 + ((x40.toUInt32 >>> ((nI 16).toUInt32 &&& Int32.toUInt32 31)).toInt32)); (x47 &&& (nI 63))
set_option maxHeartbeats 4000000 in
set_option maxRecDepth 100000 in
theorem c_J6_bitCount_0f7a4 (l : Launch) (D : va_G) (cI cC cJ : ClassId) (x : Int32) : zD l yJ6_bitCount_0f7a4 wsJ6_bitCount_0f7a4 rm_J6_bitCount_0f7a4 D (zT cI cC cJ) [.int x] [] (some (.int (s_J6_bitCount_0f7a4 x))) [] := by
  refine zD_int (cc := cJ6_bitCount_0f7a4) (maxL := 1) (ty := .int) (lv := [(0, .int x)]) (by decide +kernel) rfl (Nat.le_of_ble_eq_true rfl) rfl (fun Z O hret => ?_)
  refine zr_iload_n (pc2 := 1) O dJ6_bitCount_0f7a4_0 rfl 0 rfl rfl ?_
  refine zr_iload_n (pc2 := 2) O dJ6_bitCount_0f7a4_1 rfl 0 rfl rfl ?_
  refine zr_iconst (v := (nI 1)) (pc2 := 3) O dJ6_bitCount_0f7a4_2 (by decide +kernel) rfl ?_
  refine zr_iushr (v := ((x.toUInt32 >>> ((nI 1).toUInt32 &&& Int32.toUInt32 31)).toInt32)) (pc2 := 4) O dJ6_bitCount_0f7a4_3 rfl rfl ?_
  refine zr_ldcw (v := 1431655765) (pc2 := 7) O sK_J6_bitCount_0f7a4_265 dJ6_bitCount_0f7a4_4 rfl ?_
  refine zr_iand (v := (((x.toUInt32 >>> ((nI 1).toUInt32 &&& Int32.toUInt32 31)).toInt32) &&& 1431655765)) (pc2 := 8) O dJ6_bitCount_0f7a4_7 rfl rfl ?_
  refine zr_isub (v := (x - (((x.toUInt32 >>> ((nI 1).toUInt32 &&& Int32.toUInt32 31)).toInt32) &&& 1431655765))) (pc2 := 9) O dJ6_bitCount_0f7a4_8 rfl rfl ?_
  obtain ⟨x9, hx9⟩ : ∃ z9 : Int32, z9 = (x - (((x.toUInt32 >>> ((nI 1).toUInt32 &&& Int32.toUInt32 31)).toInt32) &&& 1431655765)) := ⟨_, rfl⟩
  rw [← hx9]
  refine zr_istore_n (lv2 := [(0, .int x9)]) (pc2 := 10) O dJ6_bitCount_0f7a4_9 rfl (by decide) rfl rfl ?_
  refine zr_iload_n (pc2 := 11) O dJ6_bitCount_0f7a4_10 rfl 0 rfl rfl ?_
  refine zr_ldcw (v := 858993459) (pc2 := 14) O sK_J6_bitCount_0f7a4_266 dJ6_bitCount_0f7a4_11 rfl ?_
  refine zr_iand (v := (x9 &&& 858993459)) (pc2 := 15) O dJ6_bitCount_0f7a4_14 rfl rfl ?_
  refine zr_iload_n (pc2 := 16) O dJ6_bitCount_0f7a4_15 rfl 0 rfl rfl ?_
  refine zr_iconst (v := (nI 2)) (pc2 := 17) O dJ6_bitCount_0f7a4_16 (by decide +kernel) rfl ?_
  refine zr_iushr (v := ((x9.toUInt32 >>> ((nI 2).toUInt32 &&& Int32.toUInt32 31)).toInt32)) (pc2 := 18) O dJ6_bitCount_0f7a4_17 rfl rfl ?_
  refine zr_ldcw (v := 858993459) (pc2 := 21) O sK_J6_bitCount_0f7a4_266 dJ6_bitCount_0f7a4_18 rfl ?_
  refine zr_iand (v := (((x9.toUInt32 >>> ((nI 2).toUInt32 &&& Int32.toUInt32 31)).toInt32) &&& 858993459)) (pc2 := 22) O dJ6_bitCount_0f7a4_21 rfl rfl ?_
  refine zr_iadd (v := ((x9 &&& 858993459) + (((x9.toUInt32 >>> ((nI 2).toUInt32 &&& Int32.toUInt32 31)).toInt32) &&& 858993459))) (pc2 := 23) O dJ6_bitCount_0f7a4_22 rfl rfl ?_
  obtain ⟨x23, hx23⟩ : ∃ z9 : Int32, z9 = ((x9 &&& 858993459) + (((x9.toUInt32 >>> ((nI 2).toUInt32 &&& Int32.toUInt32 31)).toInt32) &&& 858993459)) := ⟨_, rfl⟩
  rw [← hx23]
  refine zr_istore_n (lv2 := [(0, .int x23)]) (pc2 := 24) O dJ6_bitCount_0f7a4_23 rfl (by decide) rfl rfl ?_
  refine zr_iload_n (pc2 := 25) O dJ6_bitCount_0f7a4_24 rfl 0 rfl rfl ?_
  refine zr_iload_n (pc2 := 26) O dJ6_bitCount_0f7a4_25 rfl 0 rfl rfl ?_
  refine zr_iconst (v := (nI 4)) (pc2 := 27) O dJ6_bitCount_0f7a4_26 (by decide +kernel) rfl ?_
  refine zr_iushr (v := ((x23.toUInt32 >>> ((nI 4).toUInt32 &&& Int32.toUInt32 31)).toInt32)) (pc2 := 28) O dJ6_bitCount_0f7a4_27 rfl rfl ?_
  refine zr_iadd (v := (x23 + ((x23.toUInt32 >>> ((nI 4).toUInt32 &&& Int32.toUInt32 31)).toInt32))) (pc2 := 29) O dJ6_bitCount_0f7a4_28 rfl rfl ?_
  refine zr_ldcw (v := 252645135) (pc2 := 32) O sK_J6_bitCount_0f7a4_267 dJ6_bitCount_0f7a4_29 rfl ?_
  refine zr_iand (v := ((x23 + ((x23.toUInt32 >>> ((nI 4).toUInt32 &&& Int32.toUInt32 31)).toInt32)) &&& 252645135)) (pc2 := 33) O dJ6_bitCount_0f7a4_32 rfl rfl ?_
  obtain ⟨x33, hx33⟩ : ∃ z9 : Int32, z9 = ((x23 + ((x23.toUInt32 >>> ((nI 4).toUInt32 &&& Int32.toUInt32 31)).toInt32)) &&& 252645135) := ⟨_, rfl⟩
  rw [← hx33]
  refine zr_istore_n (lv2 := [(0, .int x33)]) (pc2 := 34) O dJ6_bitCount_0f7a4_33 rfl (by decide) rfl rfl ?_
  refine zr_iload_n (pc2 := 35) O dJ6_bitCount_0f7a4_34 rfl 0 rfl rfl ?_
  refine zr_iload_n (pc2 := 36) O dJ6_bitCount_0f7a4_35 rfl 0 rfl rfl ?_
  refine zr_bipush (v := (nI 8)) (pc2 := 38) O dJ6_bitCount_0f7a4_36 (by decide +kernel) rfl ?_
  refine zr_iushr (v := ((x33.toUInt32 >>> ((nI 8).toUInt32 &&& Int32.toUInt32 31)).toInt32)) (pc2 := 39) O dJ6_bitCount_0f7a4_38 rfl rfl ?_
  refine zr_iadd (v := (x33 + ((x33.toUInt32 >>> ((nI 8).toUInt32 &&& Int32.toUInt32 31)).toInt32))) (pc2 := 40) O dJ6_bitCount_0f7a4_39 rfl rfl ?_
  obtain ⟨x40, hx40⟩ : ∃ z9 : Int32, z9 = (x33 + ((x33.toUInt32 >>> ((nI 8).toUInt32 &&& Int32.toUInt32 31)).toInt32)) := ⟨_, rfl⟩
  rw [← hx40]
  refine zr_istore_n (lv2 := [(0, .int x40)]) (pc2 := 41) O dJ6_bitCount_0f7a4_40 rfl (by decide) rfl rfl ?_
  refine zr_iload_n (pc2 := 42) O dJ6_bitCount_0f7a4_41 rfl 0 rfl rfl ?_
  refine zr_iload_n (pc2 := 43) O dJ6_bitCount_0f7a4_42 rfl 0 rfl rfl ?_
  refine zr_bipush (v := (nI 16)) (pc2 := 45) O dJ6_bitCount_0f7a4_43 (by decide +kernel) rfl ?_
  refine zr_iushr (v := ((x40.toUInt32 >>> ((nI 16).toUInt32 &&& Int32.toUInt32 31)).toInt32)) (pc2 := 46) O dJ6_bitCount_0f7a4_45 rfl rfl ?_
  refine zr_iadd (v := (x40 + ((x40.toUInt32 >>> ((nI 16).toUInt32 &&& Int32.toUInt32 31)).toInt32))) (pc2 := 47) O dJ6_bitCount_0f7a4_46 rfl rfl ?_
  obtain ⟨x47, hx47⟩ : ∃ z9 : Int32, z9 = (x40 + ((x40.toUInt32 >>> ((nI 16).toUInt32 &&& Int32.toUInt32 31)).toInt32)) := ⟨_, rfl⟩
  rw [← hx47]
  refine zr_istore_n (lv2 := [(0, .int x47)]) (pc2 := 48) O dJ6_bitCount_0f7a4_47 rfl (by decide) rfl rfl ?_
  refine zr_iload_n (pc2 := 49) O dJ6_bitCount_0f7a4_48 rfl 0 rfl rfl ?_
  refine zr_bipush (v := (nI 63)) (pc2 := 51) O dJ6_bitCount_0f7a4_49 (by decide +kernel) rfl ?_
  refine zr_iand (v := (x47 &&& (nI 63))) (pc2 := 52) O dJ6_bitCount_0f7a4_51 rfl rfl ?_
  have hE : s_J6_bitCount_0f7a4 x = (x47 &&& (nI 63)) := by subst hx47; subst hx40; subst hx33; subst hx23; subst hx9; exact rfl
  exact hret _ _ _ _ dJ6_bitCount_0f7a4_52 rfl (by rw [hE]) rfl
/-! X6_isWithin -/
def s_X6_isWithin (v : Int32) (lo : Int32) (hi : Int32) : Bool := if v < lo then false else if hi < v then false else true
set_option maxHeartbeats 4000000 in
set_option maxRecDepth 100000 in
theorem c_X6_isWithin (l : Launch) (D : va_G) (cI cC cJ : ClassId) (v : Int32) (lo : Int32) (hi : Int32) : zD l yX6_isWithin wsX6_isWithin rm_X6_isWithin D (zT cI cC cJ) [.int v, .int lo, .int hi] [] (some (.int (zb (s_X6_isWithin v lo hi)))) [] := by
  refine zD_int (cc := cX6_isWithin) (maxL := 3) (ty := .boolean) (lv := [(0, .int v), (1, .int lo), (2, .int hi)]) (by decide +kernel) rfl (Nat.le_of_ble_eq_true rfl) rfl (fun Z O hret => ?_)
  refine zr_iload_n (pc2 := 1) O dX6_isWithin_0 rfl 0 rfl rfl ?_
  refine zr_iload_n (pc2 := 2) O dX6_isWithin_1 rfl 1 rfl rfl ?_
  refine zr_icmp_lt (tgt := 14) (pc2 := 5) O dX6_isWithin_2 (by decide) rfl (fun c2 => ?_) (fun c2 => ?_)
  · refine zr_iconst (v := (nI 0)) (pc2 := 15) O dX6_isWithin_14 (by decide +kernel) rfl ?_
    have hE : s_X6_isWithin v lo hi = false := by exact (if_pos c2)
    exact hret _ _ _ _ dX6_isWithin_15 (by decide +kernel) (by rw [hE]; rfl) rfl
  · refine zr_iload_n (pc2 := 6) O dX6_isWithin_5 rfl 0 rfl rfl ?_
    refine zr_iload_n (pc2 := 7) O dX6_isWithin_6 rfl 2 rfl rfl ?_
    refine zr_icmp_gt (tgt := 14) (pc2 := 10) O dX6_isWithin_7 (by decide) rfl (fun c7 => ?_) (fun c7 => ?_)
    · refine zr_iconst (v := (nI 0)) (pc2 := 15) O dX6_isWithin_14 (by decide +kernel) rfl ?_
      have hE : s_X6_isWithin v lo hi = false := by exact ((if_neg c2).trans (if_pos c7))
      exact hret _ _ _ _ dX6_isWithin_15 (by decide +kernel) (by rw [hE]; rfl) rfl
    · refine zr_iconst (v := (nI 1)) (pc2 := 11) O dX6_isWithin_10 (by decide +kernel) rfl ?_
      refine zr_goto (tgt := 15) O dX6_isWithin_11 (by decide) ?_
      have hE : s_X6_isWithin v lo hi = true := by exact ((if_neg c2).trans (if_neg c7))
      exact hret _ _ _ _ dX6_isWithin_15 (by decide +kernel) (by rw [hE]; rfl) rfl
/-! X0_clear -/
def s_X0_clear : Nat × Nat × Nat × Int32 := (0, 0, 0, (nI 0))
set_option maxHeartbeats 4000000 in
set_option maxRecDepth 100000 in
theorem c_X0_clear (l : Launch) (D : va_G) (cI cC cJ : ClassId) (b : Nat → Nat) (P : Nat) (Q : Nat) (Hn : Nat) (sd : Int32) (B : zB) : zD l yX0_clear wsX0_clear rm_X0_clear D (zT cI cC cJ) [.ref (b 0)] [bookW cI b P Q Hn sd B] none [bookW cI b ((s_X0_clear).1) ((s_X0_clear).2.1) ((s_X0_clear).2.2.1) ((s_X0_clear).2.2.2) B] := by
  refine zD_void (cc := cX0_clear) (maxL := 1) (lv := [(0, .ref (b 0))]) (by decide +kernel) rfl (Nat.le_of_ble_eq_true rfl) rfl (fun Z O hret => ?_)
  refine zr_aload_n (pc2 := 1) O dX0_clear_0 rfl 0 rfl rfl ?_
  refine zr_iconst (v := (nI 0)) (pc2 := 2) O dX0_clear_1 (by decide +kernel) rfl ?_
  refine zr_putf (G2 := bookW cI b 0 Q Hn sd B) (ws2 := [bookW cI b 0 Q Hn sd B]) (pc2 := 5) O sP_X0_clear_9 0 0 rfl rfl rfl rfl (Nat.le_of_ble_eq_true rfl) dX0_clear_2 rfl rfl rfl ?_
  refine zr_aload_n (pc2 := 6) O dX0_clear_5 rfl 0 rfl rfl ?_
  refine zr_iconst (v := (nI 0)) (pc2 := 7) O dX0_clear_6 (by decide +kernel) rfl ?_
  refine zr_putf (G2 := bookW cI b 0 0 Hn sd B) (ws2 := [bookW cI b 0 0 Hn sd B]) (pc2 := 10) O sP_X0_clear_31 0 0 rfl rfl rfl rfl (Nat.le_of_ble_eq_true rfl) dX0_clear_7 rfl rfl rfl ?_
  refine zr_aload_n (pc2 := 11) O dX0_clear_10 rfl 0 rfl rfl ?_
  refine zr_iconst (v := (nI 0)) (pc2 := 12) O dX0_clear_11 (by decide +kernel) rfl ?_
  refine zr_putf (G2 := bookW cI b 0 0 0 sd B) (ws2 := [bookW cI b 0 0 0 sd B]) (pc2 := 15) O sP_X0_clear_43 0 0 rfl rfl rfl rfl (Nat.le_of_ble_eq_true rfl) dX0_clear_12 rfl rfl rfl ?_
  refine zr_aload_n (pc2 := 16) O dX0_clear_15 rfl 0 rfl rfl ?_
  refine zr_iconst (v := (nI 0)) (pc2 := 17) O dX0_clear_16 (by decide +kernel) rfl ?_
  refine zr_putf (G2 := bookW cI b 0 0 0 (nI 0) B) (ws2 := [bookW cI b 0 0 0 (nI 0) B]) (pc2 := 20) O sP_X0_clear_55 0 0 rfl rfl rfl rfl (Nat.le_of_ble_eq_true rfl) dX0_clear_17 rfl rfl rfl ?_
  have hE : s_X0_clear = (0, 0, 0, (nI 0)) := by exact rfl
  exact hret _ _ _ dX0_clear_20 (by rw [hE])
/-! X0_hasPerson -/
def s_X0_hasPerson (P : Nat) (i : Int32) : Bool := if i < 0 then false else if (nI P) ≤ i then false else true
set_option maxHeartbeats 4000000 in
set_option maxRecDepth 100000 in
theorem c_X0_hasPerson (l : Launch) (D : va_G) (cI cC cJ : ClassId) (b : Nat → Nat) (P : Nat) (Q : Nat) (Hn : Nat) (sd : Int32) (B : zB) (i : Int32) : zD l yX0_hasPerson wsX0_hasPerson rm_X0_hasPerson D (zT cI cC cJ) [.ref (b 0), .int i] [bookW cI b P Q Hn sd B] (some (.int (zb (s_X0_hasPerson P i)))) [bookW cI b P Q Hn sd B] := by
  refine zD_int (cc := cX0_hasPerson) (maxL := 2) (ty := .boolean) (lv := [(0, .ref (b 0)), (1, .int i)]) (by decide +kernel) rfl (Nat.le_of_ble_eq_true rfl) rfl (fun Z O hret => ?_)
  refine zr_iload_n (pc2 := 1) O dX0_hasPerson_0 rfl 1 rfl rfl ?_
  refine zr_if_lt (tgt := 16) (pc2 := 4) O dX0_hasPerson_1 (by decide) rfl (fun c1 => ?_) (fun c1 => ?_)
  · refine zr_iconst (v := (nI 0)) (pc2 := 17) O dX0_hasPerson_16 (by decide +kernel) rfl ?_
    have hE : s_X0_hasPerson P i = false := by exact (if_pos c1)
    exact hret _ _ _ _ dX0_hasPerson_17 (by decide +kernel) (by rw [hE]; rfl) rfl
  · refine zr_iload_n (pc2 := 5) O dX0_hasPerson_4 rfl 1 rfl rfl ?_
    refine zr_aload_n (pc2 := 6) O dX0_hasPerson_5 rfl 0 rfl rfl ?_
    refine zr_getf (v := .int (nI P)) (pc2 := 9) O sF_X0_hasPerson_9 0 0 rfl rfl rfl dX0_hasPerson_6 rfl ?_
    refine zr_icmp_ge (tgt := 16) (pc2 := 12) O dX0_hasPerson_9 (by decide) rfl (fun c9 => ?_) (fun c9 => ?_)
    · refine zr_iconst (v := (nI 0)) (pc2 := 17) O dX0_hasPerson_16 (by decide +kernel) rfl ?_
      have hE : s_X0_hasPerson P i = false := by exact ((if_neg c1).trans (if_pos c9))
      exact hret _ _ _ _ dX0_hasPerson_17 (by decide +kernel) (by rw [hE]; rfl) rfl
    · refine zr_iconst (v := (nI 1)) (pc2 := 13) O dX0_hasPerson_12 (by decide +kernel) rfl ?_
      refine zr_goto (tgt := 17) O dX0_hasPerson_13 (by decide) ?_
      have hE : s_X0_hasPerson P i = true := by exact ((if_neg c1).trans (if_neg c9))
      exact hret _ _ _ _ dX0_hasPerson_17 (by decide +kernel) (by rw [hE]; rfl) rfl
/-! X0_hasBequest -/
def s_X0_hasBequest (Q : Nat) (i : Int32) : Bool := if i < 0 then false else if (nI Q) ≤ i then false else true
set_option maxHeartbeats 4000000 in
set_option maxRecDepth 100000 in
theorem c_X0_hasBequest (l : Launch) (D : va_G) (cI cC cJ : ClassId) (b : Nat → Nat) (P : Nat) (Q : Nat) (Hn : Nat) (sd : Int32) (B : zB) (i : Int32) : zD l yX0_hasBequest wsX0_hasBequest rm_X0_hasBequest D (zT cI cC cJ) [.ref (b 0), .int i] [bookW cI b P Q Hn sd B] (some (.int (zb (s_X0_hasBequest Q i)))) [bookW cI b P Q Hn sd B] := by
  refine zD_int (cc := cX0_hasBequest) (maxL := 2) (ty := .boolean) (lv := [(0, .ref (b 0)), (1, .int i)]) (by decide +kernel) rfl (Nat.le_of_ble_eq_true rfl) rfl (fun Z O hret => ?_)
  refine zr_iload_n (pc2 := 1) O dX0_hasBequest_0 rfl 1 rfl rfl ?_
  refine zr_if_lt (tgt := 16) (pc2 := 4) O dX0_hasBequest_1 (by decide) rfl (fun c1 => ?_) (fun c1 => ?_)
  · refine zr_iconst (v := (nI 0)) (pc2 := 17) O dX0_hasBequest_16 (by decide +kernel) rfl ?_
    have hE : s_X0_hasBequest Q i = false := by exact (if_pos c1)
    exact hret _ _ _ _ dX0_hasBequest_17 (by decide +kernel) (by rw [hE]; rfl) rfl
  · refine zr_iload_n (pc2 := 5) O dX0_hasBequest_4 rfl 1 rfl rfl ?_
    refine zr_aload_n (pc2 := 6) O dX0_hasBequest_5 rfl 0 rfl rfl ?_
    refine zr_getf (v := .int (nI Q)) (pc2 := 9) O sF_X0_hasBequest_31 0 0 rfl rfl rfl dX0_hasBequest_6 rfl ?_
    refine zr_icmp_ge (tgt := 16) (pc2 := 12) O dX0_hasBequest_9 (by decide) rfl (fun c9 => ?_) (fun c9 => ?_)
    · refine zr_iconst (v := (nI 0)) (pc2 := 17) O dX0_hasBequest_16 (by decide +kernel) rfl ?_
      have hE : s_X0_hasBequest Q i = false := by exact ((if_neg c1).trans (if_pos c9))
      exact hret _ _ _ _ dX0_hasBequest_17 (by decide +kernel) (by rw [hE]; rfl) rfl
    · refine zr_iconst (v := (nI 1)) (pc2 := 13) O dX0_hasBequest_12 (by decide +kernel) rfl ?_
      refine zr_goto (tgt := 17) O dX0_hasBequest_13 (by decide) ?_
      have hE : s_X0_hasBequest Q i = true := by exact ((if_neg c1).trans (if_neg c9))
      exact hret _ _ _ _ dX0_hasBequest_17 (by decide +kernel) (by rw [hE]; rfl) rfl
theorem hp_in {P n : Nat} {i : Int32} (h : s_X0_hasPerson P i = true) (hP : P ≤ n) (hn : n < 2 ^ 31) : vp_in i n := by
  unfold s_X0_hasPerson at h
  split at h
  · cases h
  · split at h
    · cases h
    · exact zin_of (by assumption) (by assumption) hP hn
theorem hb_in {P n : Nat} {i : Int32} (h : s_X0_hasBequest P i = true) (hP : P ≤ n) (hn : n < 2 ^ 31) : vp_in i n := by
  unfold s_X0_hasBequest at h
  split at h
  · cases h
  · split at h
    · cases h
    · exact zin_of (by assumption) (by assumption) hP hn
/-! X0_addPerson -/
def s_X0_addPerson (P : Nat) (B : zB) (a1 : Int32) (a2 : Int32) (a3 : Int32) (a4 : Int32) : Bool × Nat × zB := if 6 ≤ P then (false, P, B) else if (s_X6_isWithin a1 (nI 0) (nI 60)) = true then if (s_X6_isWithin a2 (nI 0) (nI 9)) = true then if (s_X6_isWithin a3 (nI 20) (nI 99)) = true then if (s_X6_isWithin a4 (nI 0) (nI 3)) = true then (true, P + 1, ((upd B.1 P a1), (upd B.2.1 P a2), (upd B.2.2.1 P a3), (upd B.2.2.2.1 P a4), (upd B.2.2.2.2.1 P (nI 0)), B.2.2.2.2.2)) else (false, P, B) else (false, P, B) else (false, P, B) else (false, P, B)
set_option maxHeartbeats 4000000 in
set_option maxRecDepth 100000 in
theorem c_X0_addPerson (l : Launch) (D : va_G) (cI cC cJ : ClassId) (b : Nat → Nat) (P : Nat) (Q : Nat) (Hn : Nat) (sd : Int32) (B : zB) (a1 : Int32) (a2 : Int32) (a3 : Int32) (a4 : Int32) (hP : P ≤ 6) : zD l yX0_addPerson wsX0_addPerson rm_X0_addPerson D (zT cI cC cJ) [.ref (b 0), .int a1, .int a2, .int a3, .int a4] [bookW cI b P Q Hn sd B] (some (.int (zb ((s_X0_addPerson P B a1 a2 a3 a4).1)))) [bookW cI b ((s_X0_addPerson P B a1 a2 a3 a4).2.1) Q Hn sd ((s_X0_addPerson P B a1 a2 a3 a4).2.2)] := by
  refine zD_int (cc := cX0_addPerson) (maxL := 5) (ty := .boolean) (lv := [(0, .ref (b 0)), (1, .int a1), (2, .int a2), (3, .int a3), (4, .int a4)]) (by decide +kernel) rfl (Nat.le_of_ble_eq_true rfl) rfl (fun Z O hret => ?_)
  refine zr_aload_n (pc2 := 1) O dX0_addPerson_0 rfl 0 rfl rfl ?_
  refine zr_getf (v := .int (nI P)) (pc2 := 4) O sF_X0_addPerson_9 0 0 rfl rfl rfl dX0_addPerson_1 rfl ?_
  refine zr_bipush (v := (nI 6)) (pc2 := 6) O dX0_addPerson_4 (by decide +kernel) rfl ?_
  refine zn_icmp_ge (tgt := 50) (pc2 := 9) O dX0_addPerson_6 (by decide) rfl (by omega) (by omega) (fun c6 => ?_) (fun c6 => ?_)
  · refine zr_iconst (v := (nI 0)) (pc2 := 51) O dX0_addPerson_50 (by decide +kernel) rfl ?_
    have hE : s_X0_addPerson P B a1 a2 a3 a4 = (false, P, B) := by exact (if_pos c6)
    exact hret _ _ _ _ dX0_addPerson_51 (by decide +kernel) (by rw [hE]; rfl) (by rw [hE])
  · refine zr_iload_n (pc2 := 10) O dX0_addPerson_9 rfl 1 rfl rfl ?_
    refine zr_iconst (v := (nI 0)) (pc2 := 11) O dX0_addPerson_10 (by decide +kernel) rfl ?_
    refine zr_bipush (v := (nI 60)) (pc2 := 13) O dX0_addPerson_11 (by decide +kernel) rfl ?_
    refine zr_callSN (As := [.int a1, .int (nI 0), .int (nI 60)]) (rest := []) (ws2 := [bookW cI b P Q Hn sd B]) (pc2 := 16) O (c_X6_isWithin l D cI cC cJ a1 (nI 0) (nI 60)) sC_X0_addPerson_58 rfl rfl dX0_addPerson_13 [] rfl rfl rfl rfl (Nat.le_of_ble_eq_true rfl) rfl ?_
    show Z _ _ _ [.int (zb (s_X6_isWithin a1 (nI 0) (nI 60)))]
    refine zb_if_eq (tgt := 50) (pc2 := 19) O dX0_addPerson_16 (by decide) rfl (fun c16 => ?_) (fun c16 => ?_)
    · refine zr_iconst (v := (nI 0)) (pc2 := 51) O dX0_addPerson_50 (by decide +kernel) rfl ?_
      have hE : s_X0_addPerson P B a1 a2 a3 a4 = (false, P, B) := by exact ((if_neg c6).trans (zif_f c16))
      exact hret _ _ _ _ dX0_addPerson_51 (by decide +kernel) (by rw [hE]; rfl) (by rw [hE])
    · refine zr_iload_n (pc2 := 20) O dX0_addPerson_19 rfl 2 rfl rfl ?_
      refine zr_iconst (v := (nI 0)) (pc2 := 21) O dX0_addPerson_20 (by decide +kernel) rfl ?_
      refine zr_bipush (v := (nI 9)) (pc2 := 23) O dX0_addPerson_21 (by decide +kernel) rfl ?_
      refine zr_callSN (As := [.int a2, .int (nI 0), .int (nI 9)]) (rest := []) (ws2 := [bookW cI b P Q Hn sd B]) (pc2 := 26) O (c_X6_isWithin l D cI cC cJ a2 (nI 0) (nI 9)) sC_X0_addPerson_58 rfl rfl dX0_addPerson_23 [] rfl rfl rfl rfl (Nat.le_of_ble_eq_true rfl) rfl ?_
      show Z _ _ _ [.int (zb (s_X6_isWithin a2 (nI 0) (nI 9)))]
      refine zb_if_eq (tgt := 50) (pc2 := 29) O dX0_addPerson_26 (by decide) rfl (fun c26 => ?_) (fun c26 => ?_)
      · refine zr_iconst (v := (nI 0)) (pc2 := 51) O dX0_addPerson_50 (by decide +kernel) rfl ?_
        have hE : s_X0_addPerson P B a1 a2 a3 a4 = (false, P, B) := by exact ((if_neg c6).trans ((zif_t c16).trans (zif_f c26)))
        exact hret _ _ _ _ dX0_addPerson_51 (by decide +kernel) (by rw [hE]; rfl) (by rw [hE])
      · refine zr_iload_n (pc2 := 30) O dX0_addPerson_29 rfl 3 rfl rfl ?_
        refine zr_bipush (v := (nI 20)) (pc2 := 32) O dX0_addPerson_30 (by decide +kernel) rfl ?_
        refine zr_bipush (v := (nI 99)) (pc2 := 34) O dX0_addPerson_32 (by decide +kernel) rfl ?_
        refine zr_callSN (As := [.int a3, .int (nI 20), .int (nI 99)]) (rest := []) (ws2 := [bookW cI b P Q Hn sd B]) (pc2 := 37) O (c_X6_isWithin l D cI cC cJ a3 (nI 20) (nI 99)) sC_X0_addPerson_58 rfl rfl dX0_addPerson_34 [] rfl rfl rfl rfl (Nat.le_of_ble_eq_true rfl) rfl ?_
        show Z _ _ _ [.int (zb (s_X6_isWithin a3 (nI 20) (nI 99)))]
        refine zb_if_eq (tgt := 50) (pc2 := 40) O dX0_addPerson_37 (by decide) rfl (fun c37 => ?_) (fun c37 => ?_)
        · refine zr_iconst (v := (nI 0)) (pc2 := 51) O dX0_addPerson_50 (by decide +kernel) rfl ?_
          have hE : s_X0_addPerson P B a1 a2 a3 a4 = (false, P, B) := by exact ((if_neg c6).trans ((zif_t c16).trans ((zif_t c26).trans (zif_f c37))))
          exact hret _ _ _ _ dX0_addPerson_51 (by decide +kernel) (by rw [hE]; rfl) (by rw [hE])
        · refine zr_iload (pc2 := 42) O dX0_addPerson_40 4 rfl rfl ?_
          refine zr_iconst (v := (nI 0)) (pc2 := 43) O dX0_addPerson_42 (by decide +kernel) rfl ?_
          refine zr_iconst (v := (nI 3)) (pc2 := 44) O dX0_addPerson_43 (by decide +kernel) rfl ?_
          refine zr_callSN (As := [.int a4, .int (nI 0), .int (nI 3)]) (rest := []) (ws2 := [bookW cI b P Q Hn sd B]) (pc2 := 47) O (c_X6_isWithin l D cI cC cJ a4 (nI 0) (nI 3)) sC_X0_addPerson_58 rfl rfl dX0_addPerson_44 [] rfl rfl rfl rfl (Nat.le_of_ble_eq_true rfl) rfl ?_
          show Z _ _ _ [.int (zb (s_X6_isWithin a4 (nI 0) (nI 3)))]
          refine zb_if_ne (tgt := 52) (pc2 := 50) O dX0_addPerson_47 (by decide) rfl (fun c47 => ?_) (fun c47 => ?_)
          · refine zr_aload_n (pc2 := 53) O dX0_addPerson_52 rfl 0 rfl rfl ?_
            refine zr_getf (v := .ref (b 1)) (pc2 := 56) O sF_X0_addPerson_15 0 0 rfl rfl rfl dX0_addPerson_53 rfl ?_
            refine zr_aload_n (pc2 := 57) O dX0_addPerson_56 rfl 0 rfl rfl ?_
            refine zr_getf (v := .int (nI P)) (pc2 := 60) O sF_X0_addPerson_9 0 0 rfl rfl rfl dX0_addPerson_57 rfl ?_
            refine zr_iload_n (pc2 := 61) O dX0_addPerson_60 rfl 1 rfl rfl ?_
            refine zn_iast (j := P) (G2 := bookW cI b P Q Hn sd ((upd B.1 P a1), B.2)) (ws2 := [bookW cI b P Q Hn sd ((upd B.1 P a1), B.2)]) (pc2 := 62) O 0 1 0 rfl rfl rfl rfl (by omega) (by decide) dX0_addPerson_61 rfl rfl rfl ?_
            refine zr_aload_n (pc2 := 63) O dX0_addPerson_62 rfl 0 rfl rfl ?_
            refine zr_getf (v := .ref (b 2)) (pc2 := 66) O sF_X0_addPerson_19 0 0 rfl rfl rfl dX0_addPerson_63 rfl ?_
            refine zr_aload_n (pc2 := 67) O dX0_addPerson_66 rfl 0 rfl rfl ?_
            refine zr_getf (v := .int (nI P)) (pc2 := 70) O sF_X0_addPerson_9 0 0 rfl rfl rfl dX0_addPerson_67 rfl ?_
            refine zr_iload_n (pc2 := 71) O dX0_addPerson_70 rfl 2 rfl rfl ?_
            refine zn_iast (j := P) (G2 := bookW cI b P Q Hn sd ((upd B.1 P a1), (upd B.2.1 P a2), B.2.2)) (ws2 := [bookW cI b P Q Hn sd ((upd B.1 P a1), (upd B.2.1 P a2), B.2.2)]) (pc2 := 72) O 0 2 0 rfl rfl rfl rfl (by omega) (by decide) dX0_addPerson_71 rfl rfl rfl ?_
            refine zr_aload_n (pc2 := 73) O dX0_addPerson_72 rfl 0 rfl rfl ?_
            refine zr_getf (v := .ref (b 3)) (pc2 := 76) O sF_X0_addPerson_22 0 0 rfl rfl rfl dX0_addPerson_73 rfl ?_
            refine zr_aload_n (pc2 := 77) O dX0_addPerson_76 rfl 0 rfl rfl ?_
            refine zr_getf (v := .int (nI P)) (pc2 := 80) O sF_X0_addPerson_9 0 0 rfl rfl rfl dX0_addPerson_77 rfl ?_
            refine zr_iload_n (pc2 := 81) O dX0_addPerson_80 rfl 3 rfl rfl ?_
            refine zn_iast (j := P) (G2 := bookW cI b P Q Hn sd ((upd B.1 P a1), (upd B.2.1 P a2), (upd B.2.2.1 P a3), B.2.2.2)) (ws2 := [bookW cI b P Q Hn sd ((upd B.1 P a1), (upd B.2.1 P a2), (upd B.2.2.1 P a3), B.2.2.2)]) (pc2 := 82) O 0 3 0 rfl rfl rfl rfl (by omega) (by decide) dX0_addPerson_81 rfl rfl rfl ?_
            refine zr_aload_n (pc2 := 83) O dX0_addPerson_82 rfl 0 rfl rfl ?_
            refine zr_getf (v := .ref (b 4)) (pc2 := 86) O sF_X0_addPerson_25 0 0 rfl rfl rfl dX0_addPerson_83 rfl ?_
            refine zr_aload_n (pc2 := 87) O dX0_addPerson_86 rfl 0 rfl rfl ?_
            refine zr_getf (v := .int (nI P)) (pc2 := 90) O sF_X0_addPerson_9 0 0 rfl rfl rfl dX0_addPerson_87 rfl ?_
            refine zr_iload (pc2 := 92) O dX0_addPerson_90 4 rfl rfl ?_
            refine zn_iast (j := P) (G2 := bookW cI b P Q Hn sd ((upd B.1 P a1), (upd B.2.1 P a2), (upd B.2.2.1 P a3), (upd B.2.2.2.1 P a4), B.2.2.2.2)) (ws2 := [bookW cI b P Q Hn sd ((upd B.1 P a1), (upd B.2.1 P a2), (upd B.2.2.1 P a3), (upd B.2.2.2.1 P a4), B.2.2.2.2)]) (pc2 := 93) O 0 4 0 rfl rfl rfl rfl (by omega) (by decide) dX0_addPerson_92 rfl rfl rfl ?_
            refine zr_aload_n (pc2 := 94) O dX0_addPerson_93 rfl 0 rfl rfl ?_
            refine zr_getf (v := .ref (b 5)) (pc2 := 97) O sF_X0_addPerson_28 0 0 rfl rfl rfl dX0_addPerson_94 rfl ?_
            refine zr_aload_n (pc2 := 98) O dX0_addPerson_97 rfl 0 rfl rfl ?_
            refine zr_getf (v := .int (nI P)) (pc2 := 101) O sF_X0_addPerson_9 0 0 rfl rfl rfl dX0_addPerson_98 rfl ?_
            refine zr_iconst (v := (nI 0)) (pc2 := 102) O dX0_addPerson_101 (by decide +kernel) rfl ?_
            refine zn_iast (j := P) (G2 := bookW cI b P Q Hn sd ((upd B.1 P a1), (upd B.2.1 P a2), (upd B.2.2.1 P a3), (upd B.2.2.2.1 P a4), (upd B.2.2.2.2.1 P (nI 0)), B.2.2.2.2.2)) (ws2 := [bookW cI b P Q Hn sd ((upd B.1 P a1), (upd B.2.1 P a2), (upd B.2.2.1 P a3), (upd B.2.2.2.1 P a4), (upd B.2.2.2.2.1 P (nI 0)), B.2.2.2.2.2)]) (pc2 := 103) O 0 5 0 rfl rfl rfl rfl (by omega) (by decide) dX0_addPerson_102 rfl rfl rfl ?_
            refine zr_aload_n (pc2 := 104) O dX0_addPerson_103 rfl 0 rfl rfl ?_
            refine zr_dup (pc2 := 105) O dX0_addPerson_104 rfl rfl ?_
            refine zr_getf (v := .int (nI P)) (pc2 := 108) O sF_X0_addPerson_9 0 0 rfl rfl rfl dX0_addPerson_105 rfl ?_
            refine zr_iconst (v := (nI 1)) (pc2 := 109) O dX0_addPerson_108 (by decide +kernel) rfl ?_
            refine zr_iadd (v := (nI (P + 1))) (pc2 := 110) O dX0_addPerson_109 (nI_add P 1) rfl ?_
            refine zr_putf (G2 := bookW cI b (P + 1) Q Hn sd ((upd B.1 P a1), (upd B.2.1 P a2), (upd B.2.2.1 P a3), (upd B.2.2.2.1 P a4), (upd B.2.2.2.2.1 P (nI 0)), B.2.2.2.2.2)) (ws2 := [bookW cI b (P + 1) Q Hn sd ((upd B.1 P a1), (upd B.2.1 P a2), (upd B.2.2.1 P a3), (upd B.2.2.2.1 P a4), (upd B.2.2.2.2.1 P (nI 0)), B.2.2.2.2.2)]) (pc2 := 113) O sP_X0_addPerson_9 0 0 rfl rfl rfl rfl (Nat.le_of_ble_eq_true rfl) dX0_addPerson_110 rfl rfl rfl ?_
            refine zr_iconst (v := (nI 1)) (pc2 := 114) O dX0_addPerson_113 (by decide +kernel) rfl ?_
            have hE : s_X0_addPerson P B a1 a2 a3 a4 = (true, P + 1, ((upd B.1 P a1), (upd B.2.1 P a2), (upd B.2.2.1 P a3), (upd B.2.2.2.1 P a4), (upd B.2.2.2.2.1 P (nI 0)), B.2.2.2.2.2)) := by exact ((if_neg c6).trans ((zif_t c16).trans ((zif_t c26).trans ((zif_t c37).trans (zif_t c47)))))
            exact hret _ _ _ _ dX0_addPerson_114 (by decide +kernel) (by rw [hE]; rfl) (by rw [hE])
          · refine zr_iconst (v := (nI 0)) (pc2 := 51) O dX0_addPerson_50 (by decide +kernel) rfl ?_
            have hE : s_X0_addPerson P B a1 a2 a3 a4 = (false, P, B) := by exact ((if_neg c6).trans ((zif_t c16).trans ((zif_t c26).trans ((zif_t c37).trans (zif_f c47)))))
            exact hret _ _ _ _ dX0_addPerson_51 (by decide +kernel) (by rw [hE]; rfl) (by rw [hE])
/-! X0_addBequest -/
def s_X0_addBequest (P : Nat) (Q : Nat) (B : zB) (a1 : Int32) (a2 : Int32) (a3 : Int32) : Bool × Nat × zB := if 9 ≤ Q then (false, Q, B) else if (s_X0_hasPerson P a1) = true then if (s_X0_hasPerson P a2) = true then if a1 = a2 then (false, Q, B) else if (s_X6_isWithin a3 (nI 1) (nI 99)) = true then (true, Q + 1, (B.1, B.2.1, B.2.2.1, B.2.2.2.1, B.2.2.2.2.1, (upd B.2.2.2.2.2.1 Q a1), (upd B.2.2.2.2.2.2.1 Q a2), (upd B.2.2.2.2.2.2.2.1 Q a3), B.2.2.2.2.2.2.2.2)) else (false, Q, B) else (false, Q, B) else (false, Q, B)
set_option maxHeartbeats 4000000 in
set_option maxRecDepth 100000 in
theorem c_X0_addBequest (l : Launch) (D : va_G) (cI cC cJ : ClassId) (b : Nat → Nat) (P : Nat) (Q : Nat) (Hn : Nat) (sd : Int32) (B : zB) (a1 : Int32) (a2 : Int32) (a3 : Int32) (hQ : Q ≤ 9) : zD l yX0_addBequest wsX0_addBequest rm_X0_addBequest D (zT cI cC cJ) [.ref (b 0), .int a1, .int a2, .int a3] [bookW cI b P Q Hn sd B] (some (.int (zb ((s_X0_addBequest P Q B a1 a2 a3).1)))) [bookW cI b P ((s_X0_addBequest P Q B a1 a2 a3).2.1) Hn sd ((s_X0_addBequest P Q B a1 a2 a3).2.2)] := by
  refine zD_int (cc := cX0_addBequest) (maxL := 4) (ty := .boolean) (lv := [(0, .ref (b 0)), (1, .int a1), (2, .int a2), (3, .int a3)]) (by decide +kernel) rfl (Nat.le_of_ble_eq_true rfl) rfl (fun Z O hret => ?_)
  refine zr_aload_n (pc2 := 1) O dX0_addBequest_0 rfl 0 rfl rfl ?_
  refine zr_getf (v := .int (nI Q)) (pc2 := 4) O sF_X0_addBequest_31 0 0 rfl rfl rfl dX0_addBequest_1 rfl ?_
  refine zr_bipush (v := (nI 9)) (pc2 := 6) O dX0_addBequest_4 (by decide +kernel) rfl ?_
  refine zn_icmp_ge (tgt := 40) (pc2 := 9) O dX0_addBequest_6 (by decide) rfl (by omega) (by omega) (fun c6 => ?_) (fun c6 => ?_)
  · refine zr_iconst (v := (nI 0)) (pc2 := 41) O dX0_addBequest_40 (by decide +kernel) rfl ?_
    have hE : s_X0_addBequest P Q B a1 a2 a3 = (false, Q, B) := by exact (if_pos c6)
    exact hret _ _ _ _ dX0_addBequest_41 (by decide +kernel) (by rw [hE]; rfl) (by rw [hE])
  · refine zr_aload_n (pc2 := 10) O dX0_addBequest_9 rfl 0 rfl rfl ?_
    refine zr_iload_n (pc2 := 11) O dX0_addBequest_10 rfl 1 rfl rfl ?_
    refine zr_callV (As := [.int a1]) (rest := []) (ws2 := [bookW cI b P Q Hn sd B]) (pc2 := 14) (ci := 0) (g0 := 0) (q0 := 0) O (c_X0_hasPerson l D cI cC cJ b P Q Hn sd B a1) sC_X0_addBequest_62 rfl rfl rfl rfl rfl dX0_addBequest_11 [0] rfl rfl rfl rfl (Nat.le_of_ble_eq_true rfl) rfl ?_
    show Z _ _ _ [.int (zb (s_X0_hasPerson P a1))]
    refine zb_if_eq (tgt := 40) (pc2 := 17) O dX0_addBequest_14 (by decide) rfl (fun c14 => ?_) (fun c14 => ?_)
    · refine zr_iconst (v := (nI 0)) (pc2 := 41) O dX0_addBequest_40 (by decide +kernel) rfl ?_
      have hE : s_X0_addBequest P Q B a1 a2 a3 = (false, Q, B) := by exact ((if_neg c6).trans (zif_f c14))
      exact hret _ _ _ _ dX0_addBequest_41 (by decide +kernel) (by rw [hE]; rfl) (by rw [hE])
    · refine zr_aload_n (pc2 := 18) O dX0_addBequest_17 rfl 0 rfl rfl ?_
      refine zr_iload_n (pc2 := 19) O dX0_addBequest_18 rfl 2 rfl rfl ?_
      refine zr_callV (As := [.int a2]) (rest := []) (ws2 := [bookW cI b P Q Hn sd B]) (pc2 := 22) (ci := 0) (g0 := 0) (q0 := 0) O (c_X0_hasPerson l D cI cC cJ b P Q Hn sd B a2) sC_X0_addBequest_62 rfl rfl rfl rfl rfl dX0_addBequest_19 [0] rfl rfl rfl rfl (Nat.le_of_ble_eq_true rfl) rfl ?_
      show Z _ _ _ [.int (zb (s_X0_hasPerson P a2))]
      refine zb_if_eq (tgt := 40) (pc2 := 25) O dX0_addBequest_22 (by decide) rfl (fun c22 => ?_) (fun c22 => ?_)
      · refine zr_iconst (v := (nI 0)) (pc2 := 41) O dX0_addBequest_40 (by decide +kernel) rfl ?_
        have hE : s_X0_addBequest P Q B a1 a2 a3 = (false, Q, B) := by exact ((if_neg c6).trans ((zif_t c14).trans (zif_f c22)))
        exact hret _ _ _ _ dX0_addBequest_41 (by decide +kernel) (by rw [hE]; rfl) (by rw [hE])
      · refine zr_iload_n (pc2 := 26) O dX0_addBequest_25 rfl 1 rfl rfl ?_
        refine zr_iload_n (pc2 := 27) O dX0_addBequest_26 rfl 2 rfl rfl ?_
        refine zr_icmp_eq (tgt := 40) (pc2 := 30) O dX0_addBequest_27 (by decide) rfl (fun c27 => ?_) (fun c27 => ?_)
        · refine zr_iconst (v := (nI 0)) (pc2 := 41) O dX0_addBequest_40 (by decide +kernel) rfl ?_
          have hE : s_X0_addBequest P Q B a1 a2 a3 = (false, Q, B) := by exact ((if_neg c6).trans ((zif_t c14).trans ((zif_t c22).trans (if_pos c27))))
          exact hret _ _ _ _ dX0_addBequest_41 (by decide +kernel) (by rw [hE]; rfl) (by rw [hE])
        · refine zr_iload_n (pc2 := 31) O dX0_addBequest_30 rfl 3 rfl rfl ?_
          refine zr_iconst (v := (nI 1)) (pc2 := 32) O dX0_addBequest_31 (by decide +kernel) rfl ?_
          refine zr_bipush (v := (nI 99)) (pc2 := 34) O dX0_addBequest_32 (by decide +kernel) rfl ?_
          refine zr_callSN (As := [.int a3, .int (nI 1), .int (nI 99)]) (rest := []) (ws2 := [bookW cI b P Q Hn sd B]) (pc2 := 37) O (c_X6_isWithin l D cI cC cJ a3 (nI 1) (nI 99)) sC_X0_addBequest_58 rfl rfl dX0_addBequest_34 [] rfl rfl rfl rfl (Nat.le_of_ble_eq_true rfl) rfl ?_
          show Z _ _ _ [.int (zb (s_X6_isWithin a3 (nI 1) (nI 99)))]
          refine zb_if_ne (tgt := 42) (pc2 := 40) O dX0_addBequest_37 (by decide) rfl (fun c37 => ?_) (fun c37 => ?_)
          · refine zr_aload_n (pc2 := 43) O dX0_addBequest_42 rfl 0 rfl rfl ?_
            refine zr_getf (v := .ref (b 7)) (pc2 := 46) O sF_X0_addBequest_34 0 0 rfl rfl rfl dX0_addBequest_43 rfl ?_
            refine zr_aload_n (pc2 := 47) O dX0_addBequest_46 rfl 0 rfl rfl ?_
            refine zr_getf (v := .int (nI Q)) (pc2 := 50) O sF_X0_addBequest_31 0 0 rfl rfl rfl dX0_addBequest_47 rfl ?_
            refine zr_iload_n (pc2 := 51) O dX0_addBequest_50 rfl 1 rfl rfl ?_
            refine zn_iast (j := Q) (G2 := bookW cI b P Q Hn sd (B.1, B.2.1, B.2.2.1, B.2.2.2.1, B.2.2.2.2.1, (upd B.2.2.2.2.2.1 Q a1), B.2.2.2.2.2.2)) (ws2 := [bookW cI b P Q Hn sd (B.1, B.2.1, B.2.2.1, B.2.2.2.1, B.2.2.2.2.1, (upd B.2.2.2.2.2.1 Q a1), B.2.2.2.2.2.2)]) (pc2 := 52) O 0 6 0 rfl rfl rfl rfl (by omega) (by decide) dX0_addBequest_51 rfl rfl rfl ?_
            refine zr_aload_n (pc2 := 53) O dX0_addBequest_52 rfl 0 rfl rfl ?_
            refine zr_getf (v := .ref (b 8)) (pc2 := 56) O sF_X0_addBequest_37 0 0 rfl rfl rfl dX0_addBequest_53 rfl ?_
            refine zr_aload_n (pc2 := 57) O dX0_addBequest_56 rfl 0 rfl rfl ?_
            refine zr_getf (v := .int (nI Q)) (pc2 := 60) O sF_X0_addBequest_31 0 0 rfl rfl rfl dX0_addBequest_57 rfl ?_
            refine zr_iload_n (pc2 := 61) O dX0_addBequest_60 rfl 2 rfl rfl ?_
            refine zn_iast (j := Q) (G2 := bookW cI b P Q Hn sd (B.1, B.2.1, B.2.2.1, B.2.2.2.1, B.2.2.2.2.1, (upd B.2.2.2.2.2.1 Q a1), (upd B.2.2.2.2.2.2.1 Q a2), B.2.2.2.2.2.2.2)) (ws2 := [bookW cI b P Q Hn sd (B.1, B.2.1, B.2.2.1, B.2.2.2.1, B.2.2.2.2.1, (upd B.2.2.2.2.2.1 Q a1), (upd B.2.2.2.2.2.2.1 Q a2), B.2.2.2.2.2.2.2)]) (pc2 := 62) O 0 7 0 rfl rfl rfl rfl (by omega) (by decide) dX0_addBequest_61 rfl rfl rfl ?_
            refine zr_aload_n (pc2 := 63) O dX0_addBequest_62 rfl 0 rfl rfl ?_
            refine zr_getf (v := .ref (b 9)) (pc2 := 66) O sF_X0_addBequest_40 0 0 rfl rfl rfl dX0_addBequest_63 rfl ?_
            refine zr_aload_n (pc2 := 67) O dX0_addBequest_66 rfl 0 rfl rfl ?_
            refine zr_getf (v := .int (nI Q)) (pc2 := 70) O sF_X0_addBequest_31 0 0 rfl rfl rfl dX0_addBequest_67 rfl ?_
            refine zr_iload_n (pc2 := 71) O dX0_addBequest_70 rfl 3 rfl rfl ?_
            refine zn_iast (j := Q) (G2 := bookW cI b P Q Hn sd (B.1, B.2.1, B.2.2.1, B.2.2.2.1, B.2.2.2.2.1, (upd B.2.2.2.2.2.1 Q a1), (upd B.2.2.2.2.2.2.1 Q a2), (upd B.2.2.2.2.2.2.2.1 Q a3), B.2.2.2.2.2.2.2.2)) (ws2 := [bookW cI b P Q Hn sd (B.1, B.2.1, B.2.2.1, B.2.2.2.1, B.2.2.2.2.1, (upd B.2.2.2.2.2.1 Q a1), (upd B.2.2.2.2.2.2.1 Q a2), (upd B.2.2.2.2.2.2.2.1 Q a3), B.2.2.2.2.2.2.2.2)]) (pc2 := 72) O 0 8 0 rfl rfl rfl rfl (by omega) (by decide) dX0_addBequest_71 rfl rfl rfl ?_
            refine zr_aload_n (pc2 := 73) O dX0_addBequest_72 rfl 0 rfl rfl ?_
            refine zr_dup (pc2 := 74) O dX0_addBequest_73 rfl rfl ?_
            refine zr_getf (v := .int (nI Q)) (pc2 := 77) O sF_X0_addBequest_31 0 0 rfl rfl rfl dX0_addBequest_74 rfl ?_
            refine zr_iconst (v := (nI 1)) (pc2 := 78) O dX0_addBequest_77 (by decide +kernel) rfl ?_
            refine zr_iadd (v := (nI (Q + 1))) (pc2 := 79) O dX0_addBequest_78 (nI_add Q 1) rfl ?_
            refine zr_putf (G2 := bookW cI b P (Q + 1) Hn sd (B.1, B.2.1, B.2.2.1, B.2.2.2.1, B.2.2.2.2.1, (upd B.2.2.2.2.2.1 Q a1), (upd B.2.2.2.2.2.2.1 Q a2), (upd B.2.2.2.2.2.2.2.1 Q a3), B.2.2.2.2.2.2.2.2)) (ws2 := [bookW cI b P (Q + 1) Hn sd (B.1, B.2.1, B.2.2.1, B.2.2.2.1, B.2.2.2.2.1, (upd B.2.2.2.2.2.1 Q a1), (upd B.2.2.2.2.2.2.1 Q a2), (upd B.2.2.2.2.2.2.2.1 Q a3), B.2.2.2.2.2.2.2.2)]) (pc2 := 82) O sP_X0_addBequest_31 0 0 rfl rfl rfl rfl (Nat.le_of_ble_eq_true rfl) dX0_addBequest_79 rfl rfl rfl ?_
            refine zr_iconst (v := (nI 1)) (pc2 := 83) O dX0_addBequest_82 (by decide +kernel) rfl ?_
            have hE : s_X0_addBequest P Q B a1 a2 a3 = (true, Q + 1, (B.1, B.2.1, B.2.2.1, B.2.2.2.1, B.2.2.2.2.1, (upd B.2.2.2.2.2.1 Q a1), (upd B.2.2.2.2.2.2.1 Q a2), (upd B.2.2.2.2.2.2.2.1 Q a3), B.2.2.2.2.2.2.2.2)) := by exact ((if_neg c6).trans ((zif_t c14).trans ((zif_t c22).trans ((if_neg c27).trans (zif_t c37)))))
            exact hret _ _ _ _ dX0_addBequest_83 (by decide +kernel) (by rw [hE]; rfl) (by rw [hE])
          · refine zr_iconst (v := (nI 0)) (pc2 := 41) O dX0_addBequest_40 (by decide +kernel) rfl ?_
            have hE : s_X0_addBequest P Q B a1 a2 a3 = (false, Q, B) := by exact ((if_neg c6).trans ((zif_t c14).trans ((zif_t c22).trans ((if_neg c27).trans (zif_f c37)))))
            exact hret _ _ _ _ dX0_addBequest_41 (by decide +kernel) (by rw [hE]; rfl) (by rw [hE])
/-! X0_addGift -/
def s_X0_addGift (P : Nat) (B : zB) (a1 : Int32) (a2 : Int32) : Bool × zB := if (s_X0_hasPerson P a1) = true then if (s_X6_isWithin a2 (nI 0) (nI 99)) = true then (true, (B.1, B.2.1, B.2.2.1, B.2.2.2.1, (upd B.2.2.2.2.1 a1.toNatClampNeg a2), B.2.2.2.2.2)) else (false, B) else (false, B)
set_option maxHeartbeats 4000000 in
set_option maxRecDepth 100000 in
theorem c_X0_addGift (l : Launch) (D : va_G) (cI cC cJ : ClassId) (b : Nat → Nat) (P : Nat) (Q : Nat) (Hn : Nat) (sd : Int32) (B : zB) (a1 : Int32) (a2 : Int32) (hP : P ≤ 6) : zD l yX0_addGift wsX0_addGift rm_X0_addGift D (zT cI cC cJ) [.ref (b 0), .int a1, .int a2] [bookW cI b P Q Hn sd B] (some (.int (zb ((s_X0_addGift P B a1 a2).1)))) [bookW cI b P Q Hn sd ((s_X0_addGift P B a1 a2).2)] := by
  refine zD_int (cc := cX0_addGift) (maxL := 3) (ty := .boolean) (lv := [(0, .ref (b 0)), (1, .int a1), (2, .int a2)]) (by decide +kernel) rfl (Nat.le_of_ble_eq_true rfl) rfl (fun Z O hret => ?_)
  refine zr_aload_n (pc2 := 1) O dX0_addGift_0 rfl 0 rfl rfl ?_
  refine zr_iload_n (pc2 := 2) O dX0_addGift_1 rfl 1 rfl rfl ?_
  refine zr_callV (As := [.int a1]) (rest := []) (ws2 := [bookW cI b P Q Hn sd B]) (pc2 := 5) (ci := 0) (g0 := 0) (q0 := 0) O (c_X0_hasPerson l D cI cC cJ b P Q Hn sd B a1) sC_X0_addGift_62 rfl rfl rfl rfl rfl dX0_addGift_2 [0] rfl rfl rfl rfl (Nat.le_of_ble_eq_true rfl) rfl ?_
  show Z _ _ _ [.int (zb (s_X0_hasPerson P a1))]
  refine zb_if_eq (tgt := 18) (pc2 := 8) O dX0_addGift_5 (by decide) rfl (fun c5 => ?_) (fun c5 => ?_)
  · refine zr_iconst (v := (nI 0)) (pc2 := 19) O dX0_addGift_18 (by decide +kernel) rfl ?_
    have hE : s_X0_addGift P B a1 a2 = (false, B) := by exact (zif_f c5)
    exact hret _ _ _ _ dX0_addGift_19 (by decide +kernel) (by rw [hE]; rfl) (by rw [hE])
  · refine zr_iload_n (pc2 := 9) O dX0_addGift_8 rfl 2 rfl rfl ?_
    refine zr_iconst (v := (nI 0)) (pc2 := 10) O dX0_addGift_9 (by decide +kernel) rfl ?_
    refine zr_bipush (v := (nI 99)) (pc2 := 12) O dX0_addGift_10 (by decide +kernel) rfl ?_
    refine zr_callSN (As := [.int a2, .int (nI 0), .int (nI 99)]) (rest := []) (ws2 := [bookW cI b P Q Hn sd B]) (pc2 := 15) O (c_X6_isWithin l D cI cC cJ a2 (nI 0) (nI 99)) sC_X0_addGift_58 rfl rfl dX0_addGift_12 [] rfl rfl rfl rfl (Nat.le_of_ble_eq_true rfl) rfl ?_
    show Z _ _ _ [.int (zb (s_X6_isWithin a2 (nI 0) (nI 99)))]
    refine zb_if_ne (tgt := 20) (pc2 := 18) O dX0_addGift_15 (by decide) rfl (fun c15 => ?_) (fun c15 => ?_)
    · refine zr_aload_n (pc2 := 21) O dX0_addGift_20 rfl 0 rfl rfl ?_
      refine zr_getf (v := .ref (b 5)) (pc2 := 24) O sF_X0_addGift_28 0 0 rfl rfl rfl dX0_addGift_21 rfl ?_
      refine zr_iload_n (pc2 := 25) O dX0_addGift_24 rfl 1 rfl rfl ?_
      refine zr_iload_n (pc2 := 26) O dX0_addGift_25 rfl 2 rfl rfl ?_
      refine zr_iast (G2 := bookW cI b P Q Hn sd (B.1, B.2.1, B.2.2.1, B.2.2.2.1, (upd B.2.2.2.2.1 a1.toNatClampNeg a2), B.2.2.2.2.2)) (ws2 := [bookW cI b P Q Hn sd (B.1, B.2.1, B.2.2.1, B.2.2.2.1, (upd B.2.2.2.2.1 a1.toNatClampNeg a2), B.2.2.2.2.2)]) (pc2 := 27) O 0 5 0 rfl rfl rfl (by first | assumption | exact zin_of (by assumption) (by assumption) (by assumption) (by decide) | exact hp_in (by assumption) (by assumption) (by decide) | exact hb_in (by assumption) (by assumption) (by decide) | exact il_in (by assumption) (by assumption) (by decide)) dX0_addGift_26 rfl rfl rfl ?_
      refine zr_iconst (v := (nI 1)) (pc2 := 28) O dX0_addGift_27 (by decide +kernel) rfl ?_
      have hE : s_X0_addGift P B a1 a2 = (true, (B.1, B.2.1, B.2.2.1, B.2.2.2.1, (upd B.2.2.2.2.1 a1.toNatClampNeg a2), B.2.2.2.2.2)) := by exact ((zif_t c5).trans (zif_t c15))
      exact hret _ _ _ _ dX0_addGift_28 (by decide +kernel) (by rw [hE]; rfl) (by rw [hE])
    · refine zr_iconst (v := (nI 0)) (pc2 := 19) O dX0_addGift_18 (by decide +kernel) rfl ?_
      have hE : s_X0_addGift P B a1 a2 = (false, B) := by exact ((zif_t c5).trans (zif_f c15))
      exact hret _ _ _ _ dX0_addGift_19 (by decide +kernel) (by rw [hE]; rfl) (by rw [hE])
/-! X0_putSeed -/
def s_X0_putSeed (sd : Int32) (a1 : Int32) : Bool × Int32 := if (s_X6_isWithin a1 (nI 0) (nI 99)) = true then (true, a1) else (false, sd)
set_option maxHeartbeats 4000000 in
set_option maxRecDepth 100000 in
theorem c_X0_putSeed (l : Launch) (D : va_G) (cI cC cJ : ClassId) (b : Nat → Nat) (P : Nat) (Q : Nat) (Hn : Nat) (sd : Int32) (B : zB) (a1 : Int32) : zD l yX0_putSeed wsX0_putSeed rm_X0_putSeed D (zT cI cC cJ) [.ref (b 0), .int a1] [bookW cI b P Q Hn sd B] (some (.int (zb ((s_X0_putSeed sd a1).1)))) [bookW cI b P Q Hn ((s_X0_putSeed sd a1).2) B] := by
  refine zD_int (cc := cX0_putSeed) (maxL := 2) (ty := .boolean) (lv := [(0, .ref (b 0)), (1, .int a1)]) (by decide +kernel) rfl (Nat.le_of_ble_eq_true rfl) rfl (fun Z O hret => ?_)
  refine zr_iload_n (pc2 := 1) O dX0_putSeed_0 rfl 1 rfl rfl ?_
  refine zr_iconst (v := (nI 0)) (pc2 := 2) O dX0_putSeed_1 (by decide +kernel) rfl ?_
  refine zr_bipush (v := (nI 99)) (pc2 := 4) O dX0_putSeed_2 (by decide +kernel) rfl ?_
  refine zr_callSN (As := [.int a1, .int (nI 0), .int (nI 99)]) (rest := []) (ws2 := [bookW cI b P Q Hn sd B]) (pc2 := 7) O (c_X6_isWithin l D cI cC cJ a1 (nI 0) (nI 99)) sC_X0_putSeed_58 rfl rfl dX0_putSeed_4 [] rfl rfl rfl rfl (Nat.le_of_ble_eq_true rfl) rfl ?_
  show Z _ _ _ [.int (zb (s_X6_isWithin a1 (nI 0) (nI 99)))]
  refine zb_if_ne (tgt := 12) (pc2 := 10) O dX0_putSeed_7 (by decide) rfl (fun c7 => ?_) (fun c7 => ?_)
  · refine zr_aload_n (pc2 := 13) O dX0_putSeed_12 rfl 0 rfl rfl ?_
    refine zr_iload_n (pc2 := 14) O dX0_putSeed_13 rfl 1 rfl rfl ?_
    refine zr_putf (G2 := bookW cI b P Q Hn a1 B) (ws2 := [bookW cI b P Q Hn a1 B]) (pc2 := 17) O sP_X0_putSeed_55 0 0 rfl rfl rfl rfl (Nat.le_of_ble_eq_true rfl) dX0_putSeed_14 rfl rfl rfl ?_
    refine zr_iconst (v := (nI 1)) (pc2 := 18) O dX0_putSeed_17 (by decide +kernel) rfl ?_
    have hE : s_X0_putSeed sd a1 = (true, a1) := by exact (zif_t c7)
    exact hret _ _ _ _ dX0_putSeed_18 (by decide +kernel) (by rw [hE]; rfl) (by rw [hE])
  · refine zr_iconst (v := (nI 0)) (pc2 := 11) O dX0_putSeed_10 (by decide +kernel) rfl ?_
    have hE : s_X0_putSeed sd a1 = (false, sd) := by exact (zif_f c7)
    exact hret _ _ _ _ dX0_putSeed_11 (by decide +kernel) (by rw [hE]; rfl) (by rw [hE])
/-! X0_addHelp -/
def s_X0_addHelp (Hn : Nat) (B : zB) (a1 : Int32) (a2 : Int32) (a3 : Int32) : Bool × Nat × zB := if Hn < 4 then (true, Hn + 1, (B.1, B.2.1, B.2.2.1, B.2.2.2.1, B.2.2.2.2.1, B.2.2.2.2.2.1, B.2.2.2.2.2.2.1, B.2.2.2.2.2.2.2.1, (upd B.2.2.2.2.2.2.2.2.1 Hn a1), (upd B.2.2.2.2.2.2.2.2.2.1 Hn a2), (upd B.2.2.2.2.2.2.2.2.2.2 Hn a3))) else (false, Hn, B)
set_option maxHeartbeats 4000000 in
set_option maxRecDepth 100000 in
theorem c_X0_addHelp (l : Launch) (D : va_G) (cI cC cJ : ClassId) (b : Nat → Nat) (P : Nat) (Q : Nat) (Hn : Nat) (sd : Int32) (B : zB) (a1 : Int32) (a2 : Int32) (a3 : Int32) (hH : Hn ≤ 4) : zD l yX0_addHelp wsX0_addHelp rm_X0_addHelp D (zT cI cC cJ) [.ref (b 0), .int a1, .int a2, .int a3] [bookW cI b P Q Hn sd B] (some (.int (zb ((s_X0_addHelp Hn B a1 a2 a3).1)))) [bookW cI b P Q ((s_X0_addHelp Hn B a1 a2 a3).2.1) sd ((s_X0_addHelp Hn B a1 a2 a3).2.2)] := by
  refine zD_int (cc := cX0_addHelp) (maxL := 4) (ty := .boolean) (lv := [(0, .ref (b 0)), (1, .int a1), (2, .int a2), (3, .int a3)]) (by decide +kernel) rfl (Nat.le_of_ble_eq_true rfl) rfl (fun Z O hret => ?_)
  refine zr_aload_n (pc2 := 1) O dX0_addHelp_0 rfl 0 rfl rfl ?_
  refine zr_getf (v := .int (nI Hn)) (pc2 := 4) O sF_X0_addHelp_43 0 0 rfl rfl rfl dX0_addHelp_1 rfl ?_
  refine zr_iconst (v := (nI 4)) (pc2 := 5) O dX0_addHelp_4 (by decide +kernel) rfl ?_
  refine zn_icmp_lt (tgt := 10) (pc2 := 8) O dX0_addHelp_5 (by decide) rfl (by omega) (by omega) (fun c5 => ?_) (fun c5 => ?_)
  · refine zr_aload_n (pc2 := 11) O dX0_addHelp_10 rfl 0 rfl rfl ?_
    refine zr_getf (v := .ref (b 11)) (pc2 := 14) O sF_X0_addHelp_46 0 0 rfl rfl rfl dX0_addHelp_11 rfl ?_
    refine zr_aload_n (pc2 := 15) O dX0_addHelp_14 rfl 0 rfl rfl ?_
    refine zr_getf (v := .int (nI Hn)) (pc2 := 18) O sF_X0_addHelp_43 0 0 rfl rfl rfl dX0_addHelp_15 rfl ?_
    refine zr_iload_n (pc2 := 19) O dX0_addHelp_18 rfl 1 rfl rfl ?_
    refine zn_iast (j := Hn) (G2 := bookW cI b P Q Hn sd (B.1, B.2.1, B.2.2.1, B.2.2.2.1, B.2.2.2.2.1, B.2.2.2.2.2.1, B.2.2.2.2.2.2.1, B.2.2.2.2.2.2.2.1, (upd B.2.2.2.2.2.2.2.2.1 Hn a1), B.2.2.2.2.2.2.2.2.2)) (ws2 := [bookW cI b P Q Hn sd (B.1, B.2.1, B.2.2.1, B.2.2.2.1, B.2.2.2.2.1, B.2.2.2.2.2.1, B.2.2.2.2.2.2.1, B.2.2.2.2.2.2.2.1, (upd B.2.2.2.2.2.2.2.2.1 Hn a1), B.2.2.2.2.2.2.2.2.2)]) (pc2 := 20) O 0 9 0 rfl rfl rfl rfl (by omega) (by decide) dX0_addHelp_19 rfl rfl rfl ?_
    refine zr_aload_n (pc2 := 21) O dX0_addHelp_20 rfl 0 rfl rfl ?_
    refine zr_getf (v := .ref (b 12)) (pc2 := 24) O sF_X0_addHelp_49 0 0 rfl rfl rfl dX0_addHelp_21 rfl ?_
    refine zr_aload_n (pc2 := 25) O dX0_addHelp_24 rfl 0 rfl rfl ?_
    refine zr_getf (v := .int (nI Hn)) (pc2 := 28) O sF_X0_addHelp_43 0 0 rfl rfl rfl dX0_addHelp_25 rfl ?_
    refine zr_iload_n (pc2 := 29) O dX0_addHelp_28 rfl 2 rfl rfl ?_
    refine zn_iast (j := Hn) (G2 := bookW cI b P Q Hn sd (B.1, B.2.1, B.2.2.1, B.2.2.2.1, B.2.2.2.2.1, B.2.2.2.2.2.1, B.2.2.2.2.2.2.1, B.2.2.2.2.2.2.2.1, (upd B.2.2.2.2.2.2.2.2.1 Hn a1), (upd B.2.2.2.2.2.2.2.2.2.1 Hn a2), B.2.2.2.2.2.2.2.2.2.2)) (ws2 := [bookW cI b P Q Hn sd (B.1, B.2.1, B.2.2.1, B.2.2.2.1, B.2.2.2.2.1, B.2.2.2.2.2.1, B.2.2.2.2.2.2.1, B.2.2.2.2.2.2.2.1, (upd B.2.2.2.2.2.2.2.2.1 Hn a1), (upd B.2.2.2.2.2.2.2.2.2.1 Hn a2), B.2.2.2.2.2.2.2.2.2.2)]) (pc2 := 30) O 0 10 0 rfl rfl rfl rfl (by omega) (by decide) dX0_addHelp_29 rfl rfl rfl ?_
    refine zr_aload_n (pc2 := 31) O dX0_addHelp_30 rfl 0 rfl rfl ?_
    refine zr_getf (v := .ref (b 13)) (pc2 := 34) O sF_X0_addHelp_52 0 0 rfl rfl rfl dX0_addHelp_31 rfl ?_
    refine zr_aload_n (pc2 := 35) O dX0_addHelp_34 rfl 0 rfl rfl ?_
    refine zr_getf (v := .int (nI Hn)) (pc2 := 38) O sF_X0_addHelp_43 0 0 rfl rfl rfl dX0_addHelp_35 rfl ?_
    refine zr_iload_n (pc2 := 39) O dX0_addHelp_38 rfl 3 rfl rfl ?_
    refine zn_iast (j := Hn) (G2 := bookW cI b P Q Hn sd (B.1, B.2.1, B.2.2.1, B.2.2.2.1, B.2.2.2.2.1, B.2.2.2.2.2.1, B.2.2.2.2.2.2.1, B.2.2.2.2.2.2.2.1, (upd B.2.2.2.2.2.2.2.2.1 Hn a1), (upd B.2.2.2.2.2.2.2.2.2.1 Hn a2), (upd B.2.2.2.2.2.2.2.2.2.2 Hn a3))) (ws2 := [bookW cI b P Q Hn sd (B.1, B.2.1, B.2.2.1, B.2.2.2.1, B.2.2.2.2.1, B.2.2.2.2.2.1, B.2.2.2.2.2.2.1, B.2.2.2.2.2.2.2.1, (upd B.2.2.2.2.2.2.2.2.1 Hn a1), (upd B.2.2.2.2.2.2.2.2.2.1 Hn a2), (upd B.2.2.2.2.2.2.2.2.2.2 Hn a3))]) (pc2 := 40) O 0 11 0 rfl rfl rfl rfl (by omega) (by decide) dX0_addHelp_39 rfl rfl rfl ?_
    refine zr_aload_n (pc2 := 41) O dX0_addHelp_40 rfl 0 rfl rfl ?_
    refine zr_dup (pc2 := 42) O dX0_addHelp_41 rfl rfl ?_
    refine zr_getf (v := .int (nI Hn)) (pc2 := 45) O sF_X0_addHelp_43 0 0 rfl rfl rfl dX0_addHelp_42 rfl ?_
    refine zr_iconst (v := (nI 1)) (pc2 := 46) O dX0_addHelp_45 (by decide +kernel) rfl ?_
    refine zr_iadd (v := (nI (Hn + 1))) (pc2 := 47) O dX0_addHelp_46 (nI_add Hn 1) rfl ?_
    refine zr_putf (G2 := bookW cI b P Q (Hn + 1) sd (B.1, B.2.1, B.2.2.1, B.2.2.2.1, B.2.2.2.2.1, B.2.2.2.2.2.1, B.2.2.2.2.2.2.1, B.2.2.2.2.2.2.2.1, (upd B.2.2.2.2.2.2.2.2.1 Hn a1), (upd B.2.2.2.2.2.2.2.2.2.1 Hn a2), (upd B.2.2.2.2.2.2.2.2.2.2 Hn a3))) (ws2 := [bookW cI b P Q (Hn + 1) sd (B.1, B.2.1, B.2.2.1, B.2.2.2.1, B.2.2.2.2.1, B.2.2.2.2.2.1, B.2.2.2.2.2.2.1, B.2.2.2.2.2.2.2.1, (upd B.2.2.2.2.2.2.2.2.1 Hn a1), (upd B.2.2.2.2.2.2.2.2.2.1 Hn a2), (upd B.2.2.2.2.2.2.2.2.2.2 Hn a3))]) (pc2 := 50) O sP_X0_addHelp_43 0 0 rfl rfl rfl rfl (Nat.le_of_ble_eq_true rfl) dX0_addHelp_47 rfl rfl rfl ?_
    refine zr_iconst (v := (nI 1)) (pc2 := 51) O dX0_addHelp_50 (by decide +kernel) rfl ?_
    have hE : s_X0_addHelp Hn B a1 a2 a3 = (true, Hn + 1, (B.1, B.2.1, B.2.2.1, B.2.2.2.1, B.2.2.2.2.1, B.2.2.2.2.2.1, B.2.2.2.2.2.2.1, B.2.2.2.2.2.2.2.1, (upd B.2.2.2.2.2.2.2.2.1 Hn a1), (upd B.2.2.2.2.2.2.2.2.2.1 Hn a2), (upd B.2.2.2.2.2.2.2.2.2.2 Hn a3))) := by exact (if_pos c5)
    exact hret _ _ _ _ dX0_addHelp_51 (by decide +kernel) (by rw [hE]; rfl) (by rw [hE])
  · refine zr_iconst (v := (nI 0)) (pc2 := 9) O dX0_addHelp_8 (by decide +kernel) rfl ?_
    have hE : s_X0_addHelp Hn B a1 a2 a3 = (false, Hn, B) := by exact (if_neg c5)
    exact hret _ _ _ _ dX0_addHelp_9 (by decide +kernel) (by rw [hE]; rfl) (by rw [hE])
/-! X0_dropLastHelp -/
def s_X0_dropLastHelp (Hn : Nat) : Nat := if Hn = 0 then Hn else Hn - 1
set_option maxHeartbeats 4000000 in
set_option maxRecDepth 100000 in
theorem c_X0_dropLastHelp (l : Launch) (D : va_G) (cI cC cJ : ClassId) (b : Nat → Nat) (P : Nat) (Q : Nat) (Hn : Nat) (sd : Int32) (B : zB) (hH : Hn ≤ 4) : zD l yX0_dropLastHelp wsX0_dropLastHelp rm_X0_dropLastHelp D (zT cI cC cJ) [.ref (b 0)] [bookW cI b P Q Hn sd B] none [bookW cI b P Q (s_X0_dropLastHelp Hn) sd B] := by
  refine zD_void (cc := cX0_dropLastHelp) (maxL := 1) (lv := [(0, .ref (b 0))]) (by decide +kernel) rfl (Nat.le_of_ble_eq_true rfl) rfl (fun Z O hret => ?_)
  refine zr_aload_n (pc2 := 1) O dX0_dropLastHelp_0 rfl 0 rfl rfl ?_
  refine zr_getf (v := .int (nI Hn)) (pc2 := 4) O sF_X0_dropLastHelp_43 0 0 rfl rfl rfl dX0_dropLastHelp_1 rfl ?_
  refine zn_if_le (tgt := 17) (pc2 := 7) O dX0_dropLastHelp_4 (by decide) rfl (by omega) (fun c4 => ?_) (fun c4 => ?_)
  · have hE : s_X0_dropLastHelp Hn = Hn := by exact (if_pos c4)
    exact hret _ _ _ dX0_dropLastHelp_17 (by rw [hE])
  · refine zr_aload_n (pc2 := 8) O dX0_dropLastHelp_7 rfl 0 rfl rfl ?_
    refine zr_dup (pc2 := 9) O dX0_dropLastHelp_8 rfl rfl ?_
    refine zr_getf (v := .int (nI Hn)) (pc2 := 12) O sF_X0_dropLastHelp_43 0 0 rfl rfl rfl dX0_dropLastHelp_9 rfl ?_
    refine zr_iconst (v := (nI 1)) (pc2 := 13) O dX0_dropLastHelp_12 (by decide +kernel) rfl ?_
    refine zr_isub (v := (nI (Hn - 1))) (pc2 := 14) O dX0_dropLastHelp_13 (pk_sub (by omega)) rfl ?_
    refine zr_putf (G2 := bookW cI b P Q (Hn - 1) sd B) (ws2 := [bookW cI b P Q (Hn - 1) sd B]) (pc2 := 17) O sP_X0_dropLastHelp_43 0 0 rfl rfl rfl rfl (Nat.le_of_ble_eq_true rfl) dX0_dropLastHelp_14 rfl rfl rfl ?_
    have hE : s_X0_dropLastHelp Hn = Hn - 1 := by exact (if_neg c4)
    exact hret _ _ _ dX0_dropLastHelp_17 (by rw [hE])
/-! X0_voidBequest -/
def s_X0_voidBequest (Q : Nat) (B : zB) (k : Int32) : zB := if (s_X0_hasBequest Q k) = true then (B.1, B.2.1, B.2.2.1, B.2.2.2.1, B.2.2.2.2.1, B.2.2.2.2.2.1, B.2.2.2.2.2.2.1, (upd B.2.2.2.2.2.2.2.1 k.toNatClampNeg (nI 0)), B.2.2.2.2.2.2.2.2) else B
set_option maxHeartbeats 4000000 in
set_option maxRecDepth 100000 in
theorem c_X0_voidBequest (l : Launch) (D : va_G) (cI cC cJ : ClassId) (b : Nat → Nat) (P : Nat) (Q : Nat) (Hn : Nat) (sd : Int32) (B : zB) (k : Int32) (hQ : Q ≤ 9) : zD l yX0_voidBequest wsX0_voidBequest rm_X0_voidBequest D (zT cI cC cJ) [.ref (b 0), .int k] [bookW cI b P Q Hn sd B] none [bookW cI b P Q Hn sd (s_X0_voidBequest Q B k)] := by
  refine zD_void (cc := cX0_voidBequest) (maxL := 2) (lv := [(0, .ref (b 0)), (1, .int k)]) (by decide +kernel) rfl (Nat.le_of_ble_eq_true rfl) rfl (fun Z O hret => ?_)
  refine zr_aload_n (pc2 := 1) O dX0_voidBequest_0 rfl 0 rfl rfl ?_
  refine zr_iload_n (pc2 := 2) O dX0_voidBequest_1 rfl 1 rfl rfl ?_
  refine zr_callV (As := [.int k]) (rest := []) (ws2 := [bookW cI b P Q Hn sd B]) (pc2 := 5) (ci := 0) (g0 := 0) (q0 := 0) O (c_X0_hasBequest l D cI cC cJ b P Q Hn sd B k) sC_X0_voidBequest_66 rfl rfl rfl rfl rfl dX0_voidBequest_2 [0] rfl rfl rfl rfl (Nat.le_of_ble_eq_true rfl) rfl ?_
  show Z _ _ _ [.int (zb (s_X0_hasBequest Q k))]
  refine zb_if_eq (tgt := 15) (pc2 := 8) O dX0_voidBequest_5 (by decide) rfl (fun c5 => ?_) (fun c5 => ?_)
  · have hE : s_X0_voidBequest Q B k = B := by exact (zif_f c5)
    exact hret _ _ _ dX0_voidBequest_15 (by rw [hE])
  · refine zr_aload_n (pc2 := 9) O dX0_voidBequest_8 rfl 0 rfl rfl ?_
    refine zr_getf (v := .ref (b 9)) (pc2 := 12) O sF_X0_voidBequest_40 0 0 rfl rfl rfl dX0_voidBequest_9 rfl ?_
    refine zr_iload_n (pc2 := 13) O dX0_voidBequest_12 rfl 1 rfl rfl ?_
    refine zr_iconst (v := (nI 0)) (pc2 := 14) O dX0_voidBequest_13 (by decide +kernel) rfl ?_
    refine zr_iast (G2 := bookW cI b P Q Hn sd (B.1, B.2.1, B.2.2.1, B.2.2.2.1, B.2.2.2.2.1, B.2.2.2.2.2.1, B.2.2.2.2.2.2.1, (upd B.2.2.2.2.2.2.2.1 k.toNatClampNeg (nI 0)), B.2.2.2.2.2.2.2.2)) (ws2 := [bookW cI b P Q Hn sd (B.1, B.2.1, B.2.2.1, B.2.2.2.1, B.2.2.2.2.1, B.2.2.2.2.2.1, B.2.2.2.2.2.2.1, (upd B.2.2.2.2.2.2.2.1 k.toNatClampNeg (nI 0)), B.2.2.2.2.2.2.2.2)]) (pc2 := 15) O 0 8 0 rfl rfl rfl (by first | assumption | exact zin_of (by assumption) (by assumption) (by assumption) (by decide) | exact hp_in (by assumption) (by assumption) (by decide) | exact hb_in (by assumption) (by assumption) (by decide) | exact il_in (by assumption) (by assumption) (by decide)) dX0_voidBequest_14 rfl rfl rfl ?_
    have hE : s_X0_voidBequest Q B k = (B.1, B.2.1, B.2.2.1, B.2.2.2.1, B.2.2.2.2.1, B.2.2.2.2.2.1, B.2.2.2.2.2.2.1, (upd B.2.2.2.2.2.2.2.1 k.toNatClampNeg (nI 0)), B.2.2.2.2.2.2.2.2) := by exact (zif_t c5)
    exact hret _ _ _ dX0_voidBequest_15 (by rw [hE])
/-! X0_voidBequestsOf -/
def f_X0_voidBequestsOf_2 (i : Int32) : Nat → Nat → zB → zB
  | 0, _, Bk => Bk
  | n9 + 1, k, Bk => if (Bk.2.2.2.2.2.1 k) = i then f_X0_voidBequestsOf_2 i n9 (k + 1) (Bk.1, Bk.2.1, Bk.2.2.1, Bk.2.2.2.1, Bk.2.2.2.2.1, Bk.2.2.2.2.2.1, Bk.2.2.2.2.2.2.1, (upd Bk.2.2.2.2.2.2.2.1 k (nI 0)), Bk.2.2.2.2.2.2.2.2) else f_X0_voidBequestsOf_2 i n9 (k + 1) Bk
def s_X0_voidBequestsOf (Q : Nat) (B : zB) (i : Int32) : zB := (f_X0_voidBequestsOf_2 i Q 0 B)
set_option maxHeartbeats 4000000 in
set_option maxRecDepth 100000 in
theorem c_X0_voidBequestsOf (l : Launch) (D : va_G) (cI cC cJ : ClassId) (b : Nat → Nat) (P : Nat) (Q : Nat) (Hn : Nat) (sd : Int32) (B : zB) (i : Int32) (hQ : Q ≤ 9) : zD l yX0_voidBequestsOf wsX0_voidBequestsOf rm_X0_voidBequestsOf D (zT cI cC cJ) [.ref (b 0), .int i] [bookW cI b P Q Hn sd B] none [bookW cI b P Q Hn sd (s_X0_voidBequestsOf Q B i)] := by
  refine zD_void (cc := cX0_voidBequestsOf) (maxL := 3) (lv := [(0, .ref (b 0)), (1, .int i)]) (by decide +kernel) rfl (Nat.le_of_ble_eq_true rfl) rfl (fun Z O hret => ?_)
  refine zr_iconst (v := (nI 0)) (pc2 := 1) O dX0_voidBequestsOf_0 (by decide +kernel) rfl ?_
  refine zr_istore_n (lv2 := [(2, .int (nI 0)), (0, .ref (b 0)), (1, .int i)]) (pc2 := 2) O dX0_voidBequestsOf_1 rfl (by decide) rfl rfl ?_
  have lp2 : ∀ (n9 : Nat) (k : Nat) (Bk : zB), k + n9 = Q → f_X0_voidBequestsOf_2 i Q 0 B = f_X0_voidBequestsOf_2 i n9 k Bk → Z [bookW cI b P Q Hn sd Bk] [(2, .int (nI k)), (0, .ref (b 0)), (1, .int i)] 2 [] := by
    intro n9
    induction n9 with
    | zero =>
      intro k Bk hM2 hF2
      have hI2 : Q = k := by omega
      subst hI2
      have e9 : (f_X0_voidBequestsOf_2 i Q 0 B) = Bk := hF2
      subst e9
      refine zr_iload_n (pc2 := 3) O dX0_voidBequestsOf_2 rfl 0 rfl rfl ?_
      refine zr_aload_n (pc2 := 4) O dX0_voidBequestsOf_3 rfl 1 rfl rfl ?_
      refine zr_getf (v := .int (nI Q)) (pc2 := 7) O sF_X0_voidBequestsOf_31 0 0 rfl rfl rfl dX0_voidBequestsOf_4 rfl ?_
      refine zn_icmp_ge (tgt := 33) (pc2 := 10) O dX0_voidBequestsOf_7 (by decide) rfl (by omega) (by omega) (fun c7 => ?_) (fun c7 => ?_)
      · have hE : s_X0_voidBequestsOf Q B i = (f_X0_voidBequestsOf_2 i Q 0 B) := by exact rfl
        exact hret _ _ _ dX0_voidBequestsOf_33 (by rw [hE])
      · exact absurd c7 (by omega)
    | succ n9 ih2 =>
      intro k Bk hM2 hF2
      refine zr_iload_n (pc2 := 3) O dX0_voidBequestsOf_2 rfl 0 rfl rfl ?_
      refine zr_aload_n (pc2 := 4) O dX0_voidBequestsOf_3 rfl 1 rfl rfl ?_
      refine zr_getf (v := .int (nI Q)) (pc2 := 7) O sF_X0_voidBequestsOf_31 0 0 rfl rfl rfl dX0_voidBequestsOf_4 rfl ?_
      refine zn_icmp_ge (tgt := 33) (pc2 := 10) O dX0_voidBequestsOf_7 (by decide) rfl (by omega) (by omega) (fun c7 => ?_) (fun c7 => ?_)
      · exact absurd c7 (by omega)
      · refine zr_aload_n (pc2 := 11) O dX0_voidBequestsOf_10 rfl 1 rfl rfl ?_
        refine zr_getf (v := .ref (b 7)) (pc2 := 14) O sF_X0_voidBequestsOf_34 0 0 rfl rfl rfl dX0_voidBequestsOf_11 rfl ?_
        refine zr_iload_n (pc2 := 15) O dX0_voidBequestsOf_14 rfl 0 rfl rfl ?_
        refine zn_iald (j := k) (pc2 := 16) O 0 6 0 rfl rfl rfl rfl (by omega) (by decide) dX0_voidBequestsOf_15 rfl ?_
        refine zr_iload_n (pc2 := 17) O dX0_voidBequestsOf_16 rfl 2 rfl rfl ?_
        refine zr_icmp_ne (tgt := 27) (pc2 := 20) O dX0_voidBequestsOf_17 (by decide) rfl (fun c17 => ?_) (fun c17 => ?_)
        · refine zr_iinc (v := (nI (k + 1))) (lv2 := [(2, .int (nI (k + 1))), (0, .ref (b 0)), (1, .int i)]) (pc2 := 30) O dX0_voidBequestsOf_27 0 rfl (zm_ofInt1 k) (by decide) rfl rfl ?_
          refine zr_goto (tgt := 2) O dX0_voidBequestsOf_30 (by decide) ?_
          have hE : f_X0_voidBequestsOf_2 i (n9 + 1) k Bk = f_X0_voidBequestsOf_2 i n9 (k + 1) Bk := by exact (if_neg c17)
          exact ih2 (k + 1) Bk (by omega) (hF2.trans hE)
        · refine zr_aload_n (pc2 := 21) O dX0_voidBequestsOf_20 rfl 1 rfl rfl ?_
          refine zr_getf (v := .ref (b 9)) (pc2 := 24) O sF_X0_voidBequestsOf_40 0 0 rfl rfl rfl dX0_voidBequestsOf_21 rfl ?_
          refine zr_iload_n (pc2 := 25) O dX0_voidBequestsOf_24 rfl 0 rfl rfl ?_
          refine zr_iconst (v := (nI 0)) (pc2 := 26) O dX0_voidBequestsOf_25 (by decide +kernel) rfl ?_
          refine zn_iast (j := k) (G2 := bookW cI b P Q Hn sd (Bk.1, Bk.2.1, Bk.2.2.1, Bk.2.2.2.1, Bk.2.2.2.2.1, Bk.2.2.2.2.2.1, Bk.2.2.2.2.2.2.1, (upd Bk.2.2.2.2.2.2.2.1 k (nI 0)), Bk.2.2.2.2.2.2.2.2)) (ws2 := [bookW cI b P Q Hn sd (Bk.1, Bk.2.1, Bk.2.2.1, Bk.2.2.2.1, Bk.2.2.2.2.1, Bk.2.2.2.2.2.1, Bk.2.2.2.2.2.2.1, (upd Bk.2.2.2.2.2.2.2.1 k (nI 0)), Bk.2.2.2.2.2.2.2.2)]) (pc2 := 27) O 0 8 0 rfl rfl rfl rfl (by omega) (by decide) dX0_voidBequestsOf_26 rfl rfl rfl ?_
          refine zr_iinc (v := (nI (k + 1))) (lv2 := [(2, .int (nI (k + 1))), (0, .ref (b 0)), (1, .int i)]) (pc2 := 30) O dX0_voidBequestsOf_27 0 rfl (zm_ofInt1 k) (by decide) rfl rfl ?_
          refine zr_goto (tgt := 2) O dX0_voidBequestsOf_30 (by decide) ?_
          have hE : f_X0_voidBequestsOf_2 i (n9 + 1) k Bk = f_X0_voidBequestsOf_2 i n9 (k + 1) (Bk.1, Bk.2.1, Bk.2.2.1, Bk.2.2.2.1, Bk.2.2.2.2.1, Bk.2.2.2.2.2.1, Bk.2.2.2.2.2.2.1, (upd Bk.2.2.2.2.2.2.2.1 k (nI 0)), Bk.2.2.2.2.2.2.2.2) := by exact (if_pos c17)
          exact ih2 (k + 1) (Bk.1, Bk.2.1, Bk.2.2.1, Bk.2.2.2.1, Bk.2.2.2.2.1, Bk.2.2.2.2.2.1, Bk.2.2.2.2.2.2.1, (upd Bk.2.2.2.2.2.2.2.1 k (nI 0)), Bk.2.2.2.2.2.2.2.2) (by omega) (hF2.trans hE)
  exact lp2 Q 0 B (by omega) rfl
/-! X0_leaves -/
def f_X0_leaves_4 (B : zB) (i : Int32) : Nat → Nat → Int32 → Int32
  | 0, _, sum => sum
  | n9 + 1, k, sum => if (B.2.2.2.2.2.1 k) = i then f_X0_leaves_4 B i n9 (k + 1) (sum + (B.2.2.2.2.2.2.2.1 k)) else f_X0_leaves_4 B i n9 (k + 1) sum
def s_X0_leaves (Q : Nat) (B : zB) (i : Int32) : Int32 := (f_X0_leaves_4 B i Q 0 (nI 0))
set_option maxHeartbeats 4000000 in
set_option maxRecDepth 100000 in
theorem c_X0_leaves (l : Launch) (D : va_G) (cI cC cJ : ClassId) (b : Nat → Nat) (P : Nat) (Q : Nat) (Hn : Nat) (sd : Int32) (B : zB) (i : Int32) (hQ : Q ≤ 9) : zD l yX0_leaves wsX0_leaves rm_X0_leaves D (zT cI cC cJ) [.ref (b 0), .int i] [bookW cI b P Q Hn sd B] (some (.int (s_X0_leaves Q B i))) [bookW cI b P Q Hn sd B] := by
  refine zD_int (cc := cX0_leaves) (maxL := 4) (ty := .int) (lv := [(0, .ref (b 0)), (1, .int i)]) (by decide +kernel) rfl (Nat.le_of_ble_eq_true rfl) rfl (fun Z O hret => ?_)
  refine zr_iconst (v := (nI 0)) (pc2 := 1) O dX0_leaves_0 (by decide +kernel) rfl ?_
  refine zr_istore_n (lv2 := [(2, .int (nI 0)), (0, .ref (b 0)), (1, .int i)]) (pc2 := 2) O dX0_leaves_1 rfl (by decide) rfl rfl ?_
  refine zr_iconst (v := (nI 0)) (pc2 := 3) O dX0_leaves_2 (by decide +kernel) rfl ?_
  refine zr_istore_n (lv2 := [(3, .int (nI 0)), (2, .int (nI 0)), (0, .ref (b 0)), (1, .int i)]) (pc2 := 4) O dX0_leaves_3 rfl (by decide) rfl rfl ?_
  have lp4 : ∀ (n9 : Nat) (k : Nat) (sum : Int32), k + n9 = Q → f_X0_leaves_4 B i Q 0 (nI 0) = f_X0_leaves_4 B i n9 k sum → Z [bookW cI b P Q Hn sd B] [(3, .int (nI k)), (2, .int sum), (0, .ref (b 0)), (1, .int i)] 4 [] := by
    intro n9
    induction n9 with
    | zero =>
      intro k sum hM4 hF4
      have hI4 : Q = k := by omega
      subst hI4
      have e9 : (f_X0_leaves_4 B i Q 0 (nI 0)) = sum := hF4
      subst e9
      refine zr_iload_n (pc2 := 5) O dX0_leaves_4 rfl 0 rfl rfl ?_
      refine zr_aload_n (pc2 := 6) O dX0_leaves_5 rfl 2 rfl rfl ?_
      refine zr_getf (v := .int (nI Q)) (pc2 := 9) O sF_X0_leaves_31 0 0 rfl rfl rfl dX0_leaves_6 rfl ?_
      refine zn_icmp_ge (tgt := 37) (pc2 := 12) O dX0_leaves_9 (by decide) rfl (by omega) (by omega) (fun c9 => ?_) (fun c9 => ?_)
      · refine zr_iload_n (pc2 := 38) O dX0_leaves_37 rfl 1 rfl rfl ?_
        have hE : s_X0_leaves Q B i = (f_X0_leaves_4 B i Q 0 (nI 0)) := by exact rfl
        exact hret _ _ _ _ dX0_leaves_38 rfl (by rw [hE]) rfl
      · exact absurd c9 (by omega)
    | succ n9 ih4 =>
      intro k sum hM4 hF4
      refine zr_iload_n (pc2 := 5) O dX0_leaves_4 rfl 0 rfl rfl ?_
      refine zr_aload_n (pc2 := 6) O dX0_leaves_5 rfl 2 rfl rfl ?_
      refine zr_getf (v := .int (nI Q)) (pc2 := 9) O sF_X0_leaves_31 0 0 rfl rfl rfl dX0_leaves_6 rfl ?_
      refine zn_icmp_ge (tgt := 37) (pc2 := 12) O dX0_leaves_9 (by decide) rfl (by omega) (by omega) (fun c9 => ?_) (fun c9 => ?_)
      · exact absurd c9 (by omega)
      · refine zr_aload_n (pc2 := 13) O dX0_leaves_12 rfl 2 rfl rfl ?_
        refine zr_getf (v := .ref (b 7)) (pc2 := 16) O sF_X0_leaves_34 0 0 rfl rfl rfl dX0_leaves_13 rfl ?_
        refine zr_iload_n (pc2 := 17) O dX0_leaves_16 rfl 0 rfl rfl ?_
        refine zn_iald (j := k) (pc2 := 18) O 0 6 0 rfl rfl rfl rfl (by omega) (by decide) dX0_leaves_17 rfl ?_
        refine zr_iload_n (pc2 := 19) O dX0_leaves_18 rfl 3 rfl rfl ?_
        refine zr_icmp_ne (tgt := 31) (pc2 := 22) O dX0_leaves_19 (by decide) rfl (fun c19 => ?_) (fun c19 => ?_)
        · refine zr_iinc (v := (nI (k + 1))) (lv2 := [(3, .int (nI (k + 1))), (2, .int sum), (0, .ref (b 0)), (1, .int i)]) (pc2 := 34) O dX0_leaves_31 0 rfl (zm_ofInt1 k) (by decide) rfl rfl ?_
          refine zr_goto (tgt := 4) O dX0_leaves_34 (by decide) ?_
          have hE : f_X0_leaves_4 B i (n9 + 1) k sum = f_X0_leaves_4 B i n9 (k + 1) sum := by exact (if_neg c19)
          exact ih4 (k + 1) sum (by omega) (hF4.trans hE)
        · refine zr_iload_n (pc2 := 23) O dX0_leaves_22 rfl 1 rfl rfl ?_
          refine zr_aload_n (pc2 := 24) O dX0_leaves_23 rfl 2 rfl rfl ?_
          refine zr_getf (v := .ref (b 9)) (pc2 := 27) O sF_X0_leaves_40 0 0 rfl rfl rfl dX0_leaves_24 rfl ?_
          refine zr_iload_n (pc2 := 28) O dX0_leaves_27 rfl 0 rfl rfl ?_
          refine zn_iald (j := k) (pc2 := 29) O 0 8 0 rfl rfl rfl rfl (by omega) (by decide) dX0_leaves_28 rfl ?_
          refine zr_iadd (v := (sum + (B.2.2.2.2.2.2.2.1 k))) (pc2 := 30) O dX0_leaves_29 rfl rfl ?_
          refine zr_istore_n (lv2 := [(2, .int (sum + (B.2.2.2.2.2.2.2.1 k))), (3, .int (nI k)), (0, .ref (b 0)), (1, .int i)]) (pc2 := 31) O dX0_leaves_30 rfl (by decide) rfl rfl ?_
          refine zr_iinc (v := (nI (k + 1))) (lv2 := [(3, .int (nI (k + 1))), (2, .int (sum + (B.2.2.2.2.2.2.2.1 k))), (0, .ref (b 0)), (1, .int i)]) (pc2 := 34) O dX0_leaves_31 1 rfl (zm_ofInt1 k) (by decide) rfl rfl ?_
          refine zr_goto (tgt := 4) O dX0_leaves_34 (by decide) ?_
          have hE : f_X0_leaves_4 B i (n9 + 1) k sum = f_X0_leaves_4 B i n9 (k + 1) (sum + (B.2.2.2.2.2.2.2.1 k)) := by exact (if_pos c19)
          exact ih4 (k + 1) (sum + (B.2.2.2.2.2.2.2.1 k)) (by omega) (hF4.trans hE)
  exact lp4 Q 0 (nI 0) (by omega) rfl
/-! X0_isLeft -/
def f_X0_isLeft_4 (B : zB) (i : Int32) : Nat → Nat → Int32 → Int32
  | 0, _, sum => sum
  | n9 + 1, k, sum => if (B.2.2.2.2.2.2.1 k) = i then f_X0_isLeft_4 B i n9 (k + 1) (sum + (B.2.2.2.2.2.2.2.1 k)) else f_X0_isLeft_4 B i n9 (k + 1) sum
def s_X0_isLeft (Q : Nat) (B : zB) (i : Int32) : Int32 := (f_X0_isLeft_4 B i Q 0 (nI 0))
set_option maxHeartbeats 4000000 in
set_option maxRecDepth 100000 in
theorem c_X0_isLeft (l : Launch) (D : va_G) (cI cC cJ : ClassId) (b : Nat → Nat) (P : Nat) (Q : Nat) (Hn : Nat) (sd : Int32) (B : zB) (i : Int32) (hQ : Q ≤ 9) : zD l yX0_isLeft wsX0_isLeft rm_X0_isLeft D (zT cI cC cJ) [.ref (b 0), .int i] [bookW cI b P Q Hn sd B] (some (.int (s_X0_isLeft Q B i))) [bookW cI b P Q Hn sd B] := by
  refine zD_int (cc := cX0_isLeft) (maxL := 4) (ty := .int) (lv := [(0, .ref (b 0)), (1, .int i)]) (by decide +kernel) rfl (Nat.le_of_ble_eq_true rfl) rfl (fun Z O hret => ?_)
  refine zr_iconst (v := (nI 0)) (pc2 := 1) O dX0_isLeft_0 (by decide +kernel) rfl ?_
  refine zr_istore_n (lv2 := [(2, .int (nI 0)), (0, .ref (b 0)), (1, .int i)]) (pc2 := 2) O dX0_isLeft_1 rfl (by decide) rfl rfl ?_
  refine zr_iconst (v := (nI 0)) (pc2 := 3) O dX0_isLeft_2 (by decide +kernel) rfl ?_
  refine zr_istore_n (lv2 := [(3, .int (nI 0)), (2, .int (nI 0)), (0, .ref (b 0)), (1, .int i)]) (pc2 := 4) O dX0_isLeft_3 rfl (by decide) rfl rfl ?_
  have lp4 : ∀ (n9 : Nat) (k : Nat) (sum : Int32), k + n9 = Q → f_X0_isLeft_4 B i Q 0 (nI 0) = f_X0_isLeft_4 B i n9 k sum → Z [bookW cI b P Q Hn sd B] [(3, .int (nI k)), (2, .int sum), (0, .ref (b 0)), (1, .int i)] 4 [] := by
    intro n9
    induction n9 with
    | zero =>
      intro k sum hM4 hF4
      have hI4 : Q = k := by omega
      subst hI4
      have e9 : (f_X0_isLeft_4 B i Q 0 (nI 0)) = sum := hF4
      subst e9
      refine zr_iload_n (pc2 := 5) O dX0_isLeft_4 rfl 0 rfl rfl ?_
      refine zr_aload_n (pc2 := 6) O dX0_isLeft_5 rfl 2 rfl rfl ?_
      refine zr_getf (v := .int (nI Q)) (pc2 := 9) O sF_X0_isLeft_31 0 0 rfl rfl rfl dX0_isLeft_6 rfl ?_
      refine zn_icmp_ge (tgt := 37) (pc2 := 12) O dX0_isLeft_9 (by decide) rfl (by omega) (by omega) (fun c9 => ?_) (fun c9 => ?_)
      · refine zr_iload_n (pc2 := 38) O dX0_isLeft_37 rfl 1 rfl rfl ?_
        have hE : s_X0_isLeft Q B i = (f_X0_isLeft_4 B i Q 0 (nI 0)) := by exact rfl
        exact hret _ _ _ _ dX0_isLeft_38 rfl (by rw [hE]) rfl
      · exact absurd c9 (by omega)
    | succ n9 ih4 =>
      intro k sum hM4 hF4
      refine zr_iload_n (pc2 := 5) O dX0_isLeft_4 rfl 0 rfl rfl ?_
      refine zr_aload_n (pc2 := 6) O dX0_isLeft_5 rfl 2 rfl rfl ?_
      refine zr_getf (v := .int (nI Q)) (pc2 := 9) O sF_X0_isLeft_31 0 0 rfl rfl rfl dX0_isLeft_6 rfl ?_
      refine zn_icmp_ge (tgt := 37) (pc2 := 12) O dX0_isLeft_9 (by decide) rfl (by omega) (by omega) (fun c9 => ?_) (fun c9 => ?_)
      · exact absurd c9 (by omega)
      · refine zr_aload_n (pc2 := 13) O dX0_isLeft_12 rfl 2 rfl rfl ?_
        refine zr_getf (v := .ref (b 8)) (pc2 := 16) O sF_X0_isLeft_37 0 0 rfl rfl rfl dX0_isLeft_13 rfl ?_
        refine zr_iload_n (pc2 := 17) O dX0_isLeft_16 rfl 0 rfl rfl ?_
        refine zn_iald (j := k) (pc2 := 18) O 0 7 0 rfl rfl rfl rfl (by omega) (by decide) dX0_isLeft_17 rfl ?_
        refine zr_iload_n (pc2 := 19) O dX0_isLeft_18 rfl 3 rfl rfl ?_
        refine zr_icmp_ne (tgt := 31) (pc2 := 22) O dX0_isLeft_19 (by decide) rfl (fun c19 => ?_) (fun c19 => ?_)
        · refine zr_iinc (v := (nI (k + 1))) (lv2 := [(3, .int (nI (k + 1))), (2, .int sum), (0, .ref (b 0)), (1, .int i)]) (pc2 := 34) O dX0_isLeft_31 0 rfl (zm_ofInt1 k) (by decide) rfl rfl ?_
          refine zr_goto (tgt := 4) O dX0_isLeft_34 (by decide) ?_
          have hE : f_X0_isLeft_4 B i (n9 + 1) k sum = f_X0_isLeft_4 B i n9 (k + 1) sum := by exact (if_neg c19)
          exact ih4 (k + 1) sum (by omega) (hF4.trans hE)
        · refine zr_iload_n (pc2 := 23) O dX0_isLeft_22 rfl 1 rfl rfl ?_
          refine zr_aload_n (pc2 := 24) O dX0_isLeft_23 rfl 2 rfl rfl ?_
          refine zr_getf (v := .ref (b 9)) (pc2 := 27) O sF_X0_isLeft_40 0 0 rfl rfl rfl dX0_isLeft_24 rfl ?_
          refine zr_iload_n (pc2 := 28) O dX0_isLeft_27 rfl 0 rfl rfl ?_
          refine zn_iald (j := k) (pc2 := 29) O 0 8 0 rfl rfl rfl rfl (by omega) (by decide) dX0_isLeft_28 rfl ?_
          refine zr_iadd (v := (sum + (B.2.2.2.2.2.2.2.1 k))) (pc2 := 30) O dX0_isLeft_29 rfl rfl ?_
          refine zr_istore_n (lv2 := [(2, .int (sum + (B.2.2.2.2.2.2.2.1 k))), (3, .int (nI k)), (0, .ref (b 0)), (1, .int i)]) (pc2 := 31) O dX0_isLeft_30 rfl (by decide) rfl rfl ?_
          refine zr_iinc (v := (nI (k + 1))) (lv2 := [(3, .int (nI (k + 1))), (2, .int (sum + (B.2.2.2.2.2.2.2.1 k))), (0, .ref (b 0)), (1, .int i)]) (pc2 := 34) O dX0_isLeft_31 1 rfl (zm_ofInt1 k) (by decide) rfl rfl ?_
          refine zr_goto (tgt := 4) O dX0_isLeft_34 (by decide) ?_
          have hE : f_X0_isLeft_4 B i (n9 + 1) k sum = f_X0_isLeft_4 B i n9 (k + 1) (sum + (B.2.2.2.2.2.2.2.1 k)) := by exact (if_pos c19)
          exact ih4 (k + 1) (sum + (B.2.2.2.2.2.2.2.1 k)) (by omega) (hF4.trans hE)
  exact lp4 Q 0 (nI 0) (by omega) rfl
/-! X0_heirsOf -/
def f_X0_heirsOf_4 (B : zB) (i : Int32) : Nat → Nat → Int32 → Int32
  | 0, _, hs => hs
  | n9 + 1, k, hs => if (i &&& ((nI 1) <<< ((B.2.2.2.2.2.1 k) &&& 31))) = 0 then f_X0_heirsOf_4 B i n9 (k + 1) hs else f_X0_heirsOf_4 B i n9 (k + 1) (hs ||| ((nI 1) <<< ((B.2.2.2.2.2.2.1 k) &&& 31)))
def s_X0_heirsOf (Q : Nat) (B : zB) (i : Int32) : Int32 := (f_X0_heirsOf_4 B i Q 0 (nI 0))
set_option maxHeartbeats 4000000 in
set_option maxRecDepth 100000 in
theorem c_X0_heirsOf (l : Launch) (D : va_G) (cI cC cJ : ClassId) (b : Nat → Nat) (P : Nat) (Q : Nat) (Hn : Nat) (sd : Int32) (B : zB) (i : Int32) (hQ : Q ≤ 9) : zD l yX0_heirsOf wsX0_heirsOf rm_X0_heirsOf D (zT cI cC cJ) [.ref (b 0), .int i] [bookW cI b P Q Hn sd B] (some (.int (s_X0_heirsOf Q B i))) [bookW cI b P Q Hn sd B] := by
  refine zD_int (cc := cX0_heirsOf) (maxL := 4) (ty := .int) (lv := [(0, .ref (b 0)), (1, .int i)]) (by decide +kernel) rfl (Nat.le_of_ble_eq_true rfl) rfl (fun Z O hret => ?_)
  refine zr_iconst (v := (nI 0)) (pc2 := 1) O dX0_heirsOf_0 (by decide +kernel) rfl ?_
  refine zr_istore_n (lv2 := [(2, .int (nI 0)), (0, .ref (b 0)), (1, .int i)]) (pc2 := 2) O dX0_heirsOf_1 rfl (by decide) rfl rfl ?_
  refine zr_iconst (v := (nI 0)) (pc2 := 3) O dX0_heirsOf_2 (by decide +kernel) rfl ?_
  refine zr_istore_n (lv2 := [(3, .int (nI 0)), (2, .int (nI 0)), (0, .ref (b 0)), (1, .int i)]) (pc2 := 4) O dX0_heirsOf_3 rfl (by decide) rfl rfl ?_
  have lp4 : ∀ (n9 : Nat) (k : Nat) (hs : Int32), k + n9 = Q → f_X0_heirsOf_4 B i Q 0 (nI 0) = f_X0_heirsOf_4 B i n9 k hs → Z [bookW cI b P Q Hn sd B] [(3, .int (nI k)), (2, .int hs), (0, .ref (b 0)), (1, .int i)] 4 [] := by
    intro n9
    induction n9 with
    | zero =>
      intro k hs hM4 hF4
      have hI4 : Q = k := by omega
      subst hI4
      have e9 : (f_X0_heirsOf_4 B i Q 0 (nI 0)) = hs := hF4
      subst e9
      refine zr_iload_n (pc2 := 5) O dX0_heirsOf_4 rfl 0 rfl rfl ?_
      refine zr_aload_n (pc2 := 6) O dX0_heirsOf_5 rfl 2 rfl rfl ?_
      refine zr_getf (v := .int (nI Q)) (pc2 := 9) O sF_X0_heirsOf_31 0 0 rfl rfl rfl dX0_heirsOf_6 rfl ?_
      refine zn_icmp_ge (tgt := 42) (pc2 := 12) O dX0_heirsOf_9 (by decide) rfl (by omega) (by omega) (fun c9 => ?_) (fun c9 => ?_)
      · refine zr_iload_n (pc2 := 43) O dX0_heirsOf_42 rfl 1 rfl rfl ?_
        have hE : s_X0_heirsOf Q B i = (f_X0_heirsOf_4 B i Q 0 (nI 0)) := by exact rfl
        exact hret _ _ _ _ dX0_heirsOf_43 rfl (by rw [hE]) rfl
      · exact absurd c9 (by omega)
    | succ n9 ih4 =>
      intro k hs hM4 hF4
      refine zr_iload_n (pc2 := 5) O dX0_heirsOf_4 rfl 0 rfl rfl ?_
      refine zr_aload_n (pc2 := 6) O dX0_heirsOf_5 rfl 2 rfl rfl ?_
      refine zr_getf (v := .int (nI Q)) (pc2 := 9) O sF_X0_heirsOf_31 0 0 rfl rfl rfl dX0_heirsOf_6 rfl ?_
      refine zn_icmp_ge (tgt := 42) (pc2 := 12) O dX0_heirsOf_9 (by decide) rfl (by omega) (by omega) (fun c9 => ?_) (fun c9 => ?_)
      · exact absurd c9 (by omega)
      · refine zr_iload_n (pc2 := 13) O dX0_heirsOf_12 rfl 3 rfl rfl ?_
        refine zr_iconst (v := (nI 1)) (pc2 := 14) O dX0_heirsOf_13 (by decide +kernel) rfl ?_
        refine zr_aload_n (pc2 := 15) O dX0_heirsOf_14 rfl 2 rfl rfl ?_
        refine zr_getf (v := .ref (b 7)) (pc2 := 18) O sF_X0_heirsOf_34 0 0 rfl rfl rfl dX0_heirsOf_15 rfl ?_
        refine zr_iload_n (pc2 := 19) O dX0_heirsOf_18 rfl 0 rfl rfl ?_
        refine zn_iald (j := k) (pc2 := 20) O 0 6 0 rfl rfl rfl rfl (by omega) (by decide) dX0_heirsOf_19 rfl ?_
        refine zr_ishl (v := ((nI 1) <<< ((B.2.2.2.2.2.1 k) &&& 31))) (pc2 := 21) O dX0_heirsOf_20 rfl rfl ?_
        refine zr_iand (v := (i &&& ((nI 1) <<< ((B.2.2.2.2.2.1 k) &&& 31)))) (pc2 := 22) O dX0_heirsOf_21 rfl rfl ?_
        refine zr_if_eq (tgt := 36) (pc2 := 25) O dX0_heirsOf_22 (by decide) rfl (fun c22 => ?_) (fun c22 => ?_)
        · refine zr_iinc (v := (nI (k + 1))) (lv2 := [(3, .int (nI (k + 1))), (2, .int hs), (0, .ref (b 0)), (1, .int i)]) (pc2 := 39) O dX0_heirsOf_36 0 rfl (zm_ofInt1 k) (by decide) rfl rfl ?_
          refine zr_goto (tgt := 4) O dX0_heirsOf_39 (by decide) ?_
          have hE : f_X0_heirsOf_4 B i (n9 + 1) k hs = f_X0_heirsOf_4 B i n9 (k + 1) hs := by exact (if_pos c22)
          exact ih4 (k + 1) hs (by omega) (hF4.trans hE)
        · refine zr_iload_n (pc2 := 26) O dX0_heirsOf_25 rfl 1 rfl rfl ?_
          refine zr_iconst (v := (nI 1)) (pc2 := 27) O dX0_heirsOf_26 (by decide +kernel) rfl ?_
          refine zr_aload_n (pc2 := 28) O dX0_heirsOf_27 rfl 2 rfl rfl ?_
          refine zr_getf (v := .ref (b 8)) (pc2 := 31) O sF_X0_heirsOf_37 0 0 rfl rfl rfl dX0_heirsOf_28 rfl ?_
          refine zr_iload_n (pc2 := 32) O dX0_heirsOf_31 rfl 0 rfl rfl ?_
          refine zn_iald (j := k) (pc2 := 33) O 0 7 0 rfl rfl rfl rfl (by omega) (by decide) dX0_heirsOf_32 rfl ?_
          refine zr_ishl (v := ((nI 1) <<< ((B.2.2.2.2.2.2.1 k) &&& 31))) (pc2 := 34) O dX0_heirsOf_33 rfl rfl ?_
          refine zr_ior (v := (hs ||| ((nI 1) <<< ((B.2.2.2.2.2.2.1 k) &&& 31)))) (pc2 := 35) O dX0_heirsOf_34 rfl rfl ?_
          refine zr_istore_n (lv2 := [(2, .int (hs ||| ((nI 1) <<< ((B.2.2.2.2.2.2.1 k) &&& 31)))), (3, .int (nI k)), (0, .ref (b 0)), (1, .int i)]) (pc2 := 36) O dX0_heirsOf_35 rfl (by decide) rfl rfl ?_
          refine zr_iinc (v := (nI (k + 1))) (lv2 := [(3, .int (nI (k + 1))), (2, .int (hs ||| ((nI 1) <<< ((B.2.2.2.2.2.2.1 k) &&& 31)))), (0, .ref (b 0)), (1, .int i)]) (pc2 := 39) O dX0_heirsOf_36 1 rfl (zm_ofInt1 k) (by decide) rfl rfl ?_
          refine zr_goto (tgt := 4) O dX0_heirsOf_39 (by decide) ?_
          have hE : f_X0_heirsOf_4 B i (n9 + 1) k hs = f_X0_heirsOf_4 B i n9 (k + 1) (hs ||| ((nI 1) <<< ((B.2.2.2.2.2.2.1 k) &&& 31))) := by exact (if_neg c22)
          exact ih4 (k + 1) (hs ||| ((nI 1) <<< ((B.2.2.2.2.2.2.1 k) &&& 31))) (by omega) (hF4.trans hE)
  exact lp4 Q 0 (nI 0) (by omega) rfl
def f_X0_copyRow_2 (f : Nat → Int32) : Nat → Nat → (Nat → Int32) → Nat → Int32
  | 0, _, gk => gk
  | n9 + 1, k, gk => f_X0_copyRow_2 f n9 (k + 1) (upd gk k (f k))
theorem f_copyRow_at (f : Nat → Int32) : ∀ (n9 k : Nat) (g : Nat → Int32) (j : Nat), f_X0_copyRow_2 f n9 k g j = if k ≤ j ∧ j < k + n9 then f j else g j
  | 0, k, g, j => by
    show g j = _
    rw [if_neg (by omega)]
  | n9 + 1, k, g, j => by
    show f_X0_copyRow_2 f n9 (k + 1) (upd g k (f k)) j = _
    rw [f_copyRow_at f n9 (k + 1) _ j]
    by_cases h1 : k + 1 ≤ j ∧ j < k + 1 + n9
    · rw [if_pos h1, if_pos (by omega)]
    · rw [if_neg h1]
      by_cases h2 : j = k
      · subst h2
        rw [if_pos (by omega)]
        simp [upd]
      · rw [if_neg (by omega)]
        simp [upd, h2]
theorem f_copyRow_eq {f g : Nat → Int32} {n j : Nat} (_ : n ≤ 1000) (h : j < n) : f_X0_copyRow_2 f n 0 g j = f j := by
  rw [f_copyRow_at, if_pos (by omega)]
def s_X0_copyRow (f : Nat → Int32) : Nat → Int32 := f
set_option maxHeartbeats 4000000 in
set_option maxRecDepth 100000 in
theorem c_X0_copyRow (l : Launch) (D : va_G) (cI cC cJ : ClassId) (p : Nat) (q : Nat) (f : Nat → Int32) (g : Nat → Int32) (n : Nat) (hn : n ≤ 1000) : zD l yX0_copyRow wsX0_copyRow rm_X0_copyRow D (zT cI cC cJ) [.ref p, .ref q] [[(p, .inl (cI, n, .inl f))], [(q, .inl (cI, n, .inl g))]] none [[(p, .inl (cI, n, .inl f))], [(q, .inl (cI, n, .inl (s_X0_copyRow f)))]] := by
  refine zD_void (cc := cX0_copyRow) (maxL := 3) (lv := [(0, .ref p), (1, .ref q)]) (by decide +kernel) rfl (Nat.le_of_ble_eq_true rfl) rfl (fun Z O hret => ?_)
  refine zr_iconst (v := (nI 0)) (pc2 := 1) O dX0_copyRow_0 (by decide +kernel) rfl ?_
  refine zr_istore_n (lv2 := [(2, .int (nI 0)), (0, .ref p), (1, .ref q)]) (pc2 := 2) O dX0_copyRow_1 rfl (by decide) rfl rfl ?_
  have lp2 : ∀ (n9 : Nat) (k : Nat) (gk : Nat → Int32), k + n9 = n → f_X0_copyRow_2 f n 0 g = f_X0_copyRow_2 f n9 k gk → Z [[(p, .inl (cI, n, .inl f))], [(q, .inl (cI, n, .inl gk))]] [(2, .int (nI k)), (0, .ref p), (1, .ref q)] 2 [] := by
    intro n9
    induction n9 with
    | zero =>
      intro k gk hM2 hF2
      have hI2 : n = k := by omega
      subst hI2
      have e9 : (f_X0_copyRow_2 f n 0 g) = gk := hF2
      subst e9
      refine zr_iload_n (pc2 := 3) O dX0_copyRow_2 rfl 0 rfl rfl ?_
      refine zr_aload_n (pc2 := 4) O dX0_copyRow_3 rfl 1 rfl rfl ?_
      refine zn_alen (v := (nI n)) (pc2 := 5) O 0 0 0 rfl rfl rfl rfl dX0_copyRow_4 rfl ?_
      refine zn_icmp_ge (tgt := 26) (pc2 := 8) O dX0_copyRow_5 (by decide) rfl (by omega) (by omega) (fun c5 => ?_) (fun c5 => ?_)
      · refine zr_arrEq (g := f) (G2 := [(q, .inl (cI, n, .inl f))]) (ws2 := [[(p, .inl (cI, n, .inl f))], [(q, .inl (cI, n, .inl f))]]) O 1 0 rfl rfl (fun j hj => f_copyRow_eq (by omega) hj) rfl rfl ?_
        have hE : s_X0_copyRow f = f := by exact rfl
        exact hret _ _ _ dX0_copyRow_26 (by rw [hE])
      · exact absurd c5 (by omega)
    | succ n9 ih2 =>
      intro k gk hM2 hF2
      refine zr_iload_n (pc2 := 3) O dX0_copyRow_2 rfl 0 rfl rfl ?_
      refine zr_aload_n (pc2 := 4) O dX0_copyRow_3 rfl 1 rfl rfl ?_
      refine zn_alen (v := (nI n)) (pc2 := 5) O 0 0 0 rfl rfl rfl rfl dX0_copyRow_4 rfl ?_
      refine zn_icmp_ge (tgt := 26) (pc2 := 8) O dX0_copyRow_5 (by decide) rfl (by omega) (by omega) (fun c5 => ?_) (fun c5 => ?_)
      · exact absurd c5 (by omega)
      · refine zr_iload_n (pc2 := 9) O dX0_copyRow_8 rfl 0 rfl rfl ?_
        refine zr_aload_n (pc2 := 10) O dX0_copyRow_9 rfl 2 rfl rfl ?_
        refine zn_alen (v := (nI n)) (pc2 := 11) O 1 0 0 rfl rfl rfl rfl dX0_copyRow_10 rfl ?_
        refine zn_icmp_ge (tgt := 26) (pc2 := 14) O dX0_copyRow_11 (by decide) rfl (by omega) (by omega) (fun c11 => ?_) (fun c11 => ?_)
        · exact absurd c11 (by omega)
        · refine zr_aload_n (pc2 := 15) O dX0_copyRow_14 rfl 2 rfl rfl ?_
          refine zr_iload_n (pc2 := 16) O dX0_copyRow_15 rfl 0 rfl rfl ?_
          refine zr_aload_n (pc2 := 17) O dX0_copyRow_16 rfl 1 rfl rfl ?_
          refine zr_iload_n (pc2 := 18) O dX0_copyRow_17 rfl 0 rfl rfl ?_
          refine zn_iald (j := k) (pc2 := 19) O 0 0 0 rfl rfl rfl rfl (by omega) (by omega) dX0_copyRow_18 rfl ?_
          refine zn_iast (j := k) (G2 := [(q, .inl (cI, n, .inl (upd gk k (f k))))]) (ws2 := [[(p, .inl (cI, n, .inl f))], [(q, .inl (cI, n, .inl (upd gk k (f k))))]]) (pc2 := 20) O 1 0 0 rfl rfl rfl rfl (by omega) (by omega) dX0_copyRow_19 rfl rfl rfl ?_
          refine zr_iinc (v := (nI (k + 1))) (lv2 := [(2, .int (nI (k + 1))), (0, .ref p), (1, .ref q)]) (pc2 := 23) O dX0_copyRow_20 0 rfl (zm_ofInt1 k) (by decide) rfl rfl ?_
          refine zr_goto (tgt := 2) O dX0_copyRow_23 (by decide) ?_
          have hE : f_X0_copyRow_2 f (n9 + 1) k gk = f_X0_copyRow_2 f n9 (k + 1) (upd gk k (f k)) := by exact rfl
          exact ih2 (k + 1) (upd gk k (f k)) (by omega) (hF2.trans hE)
  exact lp2 n 0 g (by omega) rfl
/-! X0_copyFrom -/
def s_X0_copyFrom (P2 : Nat) (Q2 : Nat) (H2 : Nat) (sd2 : Int32) (B2 : zB) : Nat × Nat × Nat × Int32 × zB := (P2, Q2, H2, sd2, B2)
set_option maxHeartbeats 4000000 in
set_option maxRecDepth 100000 in
theorem c_X0_copyFrom (l : Launch) (D : va_G) (cI cC cJ : ClassId) (b : Nat → Nat) (t : Nat → Nat) (P : Nat) (Q : Nat) (Hn : Nat) (sd : Int32) (B : zB) (P2 : Nat) (Q2 : Nat) (H2 : Nat) (sd2 : Int32) (B2 : zB) : zD l yX0_copyFrom wsX0_copyFrom rm_X0_copyFrom D (zT cI cC cJ) [.ref (b 0), .ref (t 0)] [bookW cI b P Q Hn sd B, bookW cI t P2 Q2 H2 sd2 B2] none [bookW cI b ((s_X0_copyFrom P2 Q2 H2 sd2 B2).1) ((s_X0_copyFrom P2 Q2 H2 sd2 B2).2.1) ((s_X0_copyFrom P2 Q2 H2 sd2 B2).2.2.1) ((s_X0_copyFrom P2 Q2 H2 sd2 B2).2.2.2.1) ((s_X0_copyFrom P2 Q2 H2 sd2 B2).2.2.2.2), bookW cI t P2 Q2 H2 sd2 B2] := by
  refine zD_void (cc := cX0_copyFrom) (maxL := 2) (lv := [(0, .ref (b 0)), (1, .ref (t 0))]) (by decide +kernel) rfl (Nat.le_of_ble_eq_true rfl) rfl (fun Z O hret => ?_)
  refine zr_aload_n (pc2 := 1) O dX0_copyFrom_0 rfl 0 rfl rfl ?_
  refine zr_aload_n (pc2 := 2) O dX0_copyFrom_1 rfl 1 rfl rfl ?_
  refine zr_getf (v := .int (nI P2)) (pc2 := 5) O sF_X0_copyFrom_9 1 0 rfl rfl rfl dX0_copyFrom_2 rfl ?_
  refine zr_putf (G2 := bookW cI b P2 Q Hn sd B) (ws2 := [bookW cI b P2 Q Hn sd B, bookW cI t P2 Q2 H2 sd2 B2]) (pc2 := 8) O sP_X0_copyFrom_9 0 0 rfl rfl rfl rfl (Nat.le_of_ble_eq_true rfl) dX0_copyFrom_5 rfl rfl rfl ?_
  refine zr_aload_n (pc2 := 9) O dX0_copyFrom_8 rfl 1 rfl rfl ?_
  refine zr_getf (v := .ref (t 1)) (pc2 := 12) O sF_X0_copyFrom_15 1 0 rfl rfl rfl dX0_copyFrom_9 rfl ?_
  refine zr_aload_n (pc2 := 13) O dX0_copyFrom_12 rfl 0 rfl rfl ?_
  refine zr_getf (v := .ref (b 1)) (pc2 := 16) O sF_X0_copyFrom_15 0 0 rfl rfl rfl dX0_copyFrom_13 rfl ?_
  refine zr_flat (ws2 := [[((b 0), .inr (0, [.int (nI P2), .ref (b 1), .ref (b 2), .ref (b 3), .ref (b 4), .ref (b 5), .int (nI Q), .ref (b 7), .ref (b 8), .ref (b 9), .int (nI Hn), .ref (b 11), .ref (b 12), .ref (b 13), .int sd]))], [((b 1), .inl (cI, 6, .inl B.1))], [((b 2), .inl (cI, 6, .inl B.2.1))], [((b 3), .inl (cI, 6, .inl B.2.2.1))], [((b 4), .inl (cI, 6, .inl B.2.2.2.1))], [((b 5), .inl (cI, 6, .inl B.2.2.2.2.1))], [((b 7), .inl (cI, 9, .inl B.2.2.2.2.2.1))], [((b 8), .inl (cI, 9, .inl B.2.2.2.2.2.2.1))], [((b 9), .inl (cI, 9, .inl B.2.2.2.2.2.2.2.1))], [((b 11), .inl (cI, 4, .inl B.2.2.2.2.2.2.2.2.1))], [((b 12), .inl (cI, 4, .inl B.2.2.2.2.2.2.2.2.2.1))], [((b 13), .inl (cI, 4, .inl B.2.2.2.2.2.2.2.2.2.2))], [((t 0), .inr (0, [.int (nI P2), .ref (t 1), .ref (t 2), .ref (t 3), .ref (t 4), .ref (t 5), .int (nI Q2), .ref (t 7), .ref (t 8), .ref (t 9), .int (nI H2), .ref (t 11), .ref (t 12), .ref (t 13), .int sd2]))], [((t 1), .inl (cI, 6, .inl B2.1))], [((t 2), .inl (cI, 6, .inl B2.2.1))], [((t 3), .inl (cI, 6, .inl B2.2.2.1))], [((t 4), .inl (cI, 6, .inl B2.2.2.2.1))], [((t 5), .inl (cI, 6, .inl B2.2.2.2.2.1))], [((t 7), .inl (cI, 9, .inl B2.2.2.2.2.2.1))], [((t 8), .inl (cI, 9, .inl B2.2.2.2.2.2.2.1))], [((t 9), .inl (cI, 9, .inl B2.2.2.2.2.2.2.2.1))], [((t 11), .inl (cI, 4, .inl B2.2.2.2.2.2.2.2.2.1))], [((t 12), .inl (cI, 4, .inl B2.2.2.2.2.2.2.2.2.2.1))], [((t 13), .inl (cI, 4, .inl B2.2.2.2.2.2.2.2.2.2.2))]]) O rfl ?_
  refine zr_callS (As := [.ref (t 1), .ref (b 1)]) (rest := []) (ws2 := [[((b 0), .inr (0, [.int (nI P2), .ref (b 1), .ref (b 2), .ref (b 3), .ref (b 4), .ref (b 5), .int (nI Q), .ref (b 7), .ref (b 8), .ref (b 9), .int (nI Hn), .ref (b 11), .ref (b 12), .ref (b 13), .int sd]))], [((b 1), .inl (cI, 6, .inl (s_X0_copyRow B2.1)))], [((b 2), .inl (cI, 6, .inl B.2.1))], [((b 3), .inl (cI, 6, .inl B.2.2.1))], [((b 4), .inl (cI, 6, .inl B.2.2.2.1))], [((b 5), .inl (cI, 6, .inl B.2.2.2.2.1))], [((b 7), .inl (cI, 9, .inl B.2.2.2.2.2.1))], [((b 8), .inl (cI, 9, .inl B.2.2.2.2.2.2.1))], [((b 9), .inl (cI, 9, .inl B.2.2.2.2.2.2.2.1))], [((b 11), .inl (cI, 4, .inl B.2.2.2.2.2.2.2.2.1))], [((b 12), .inl (cI, 4, .inl B.2.2.2.2.2.2.2.2.2.1))], [((b 13), .inl (cI, 4, .inl B.2.2.2.2.2.2.2.2.2.2))], [((t 0), .inr (0, [.int (nI P2), .ref (t 1), .ref (t 2), .ref (t 3), .ref (t 4), .ref (t 5), .int (nI Q2), .ref (t 7), .ref (t 8), .ref (t 9), .int (nI H2), .ref (t 11), .ref (t 12), .ref (t 13), .int sd2]))], [((t 1), .inl (cI, 6, .inl B2.1))], [((t 2), .inl (cI, 6, .inl B2.2.1))], [((t 3), .inl (cI, 6, .inl B2.2.2.1))], [((t 4), .inl (cI, 6, .inl B2.2.2.2.1))], [((t 5), .inl (cI, 6, .inl B2.2.2.2.2.1))], [((t 7), .inl (cI, 9, .inl B2.2.2.2.2.2.1))], [((t 8), .inl (cI, 9, .inl B2.2.2.2.2.2.2.1))], [((t 9), .inl (cI, 9, .inl B2.2.2.2.2.2.2.2.1))], [((t 11), .inl (cI, 4, .inl B2.2.2.2.2.2.2.2.2.1))], [((t 12), .inl (cI, 4, .inl B2.2.2.2.2.2.2.2.2.2.1))], [((t 13), .inl (cI, 4, .inl B2.2.2.2.2.2.2.2.2.2.2))]]) (pc2 := 19) O (c_X0_copyRow l D cI cC cJ (t 1) (b 1) B2.1 B.1 6 (by first | assumption | omega)) sC_X0_copyFrom_69 rfl rfl dX0_copyFrom_16 [13, 1] rfl rfl rfl rfl (Nat.le_of_ble_eq_true rfl) rfl ?_
  show Z _ _ _ []
  refine zr_flat (ws2 := [bookW cI b P2 Q Hn sd ((s_X0_copyRow B2.1), B.2), bookW cI t P2 Q2 H2 sd2 B2]) O rfl ?_
  refine zr_aload_n (pc2 := 20) O dX0_copyFrom_19 rfl 1 rfl rfl ?_
  refine zr_getf (v := .ref (t 2)) (pc2 := 23) O sF_X0_copyFrom_19 1 0 rfl rfl rfl dX0_copyFrom_20 rfl ?_
  refine zr_aload_n (pc2 := 24) O dX0_copyFrom_23 rfl 0 rfl rfl ?_
  refine zr_getf (v := .ref (b 2)) (pc2 := 27) O sF_X0_copyFrom_19 0 0 rfl rfl rfl dX0_copyFrom_24 rfl ?_
  refine zr_flat (ws2 := [[((b 0), .inr (0, [.int (nI P2), .ref (b 1), .ref (b 2), .ref (b 3), .ref (b 4), .ref (b 5), .int (nI Q), .ref (b 7), .ref (b 8), .ref (b 9), .int (nI Hn), .ref (b 11), .ref (b 12), .ref (b 13), .int sd]))], [((b 1), .inl (cI, 6, .inl (s_X0_copyRow B2.1)))], [((b 2), .inl (cI, 6, .inl B.2.1))], [((b 3), .inl (cI, 6, .inl B.2.2.1))], [((b 4), .inl (cI, 6, .inl B.2.2.2.1))], [((b 5), .inl (cI, 6, .inl B.2.2.2.2.1))], [((b 7), .inl (cI, 9, .inl B.2.2.2.2.2.1))], [((b 8), .inl (cI, 9, .inl B.2.2.2.2.2.2.1))], [((b 9), .inl (cI, 9, .inl B.2.2.2.2.2.2.2.1))], [((b 11), .inl (cI, 4, .inl B.2.2.2.2.2.2.2.2.1))], [((b 12), .inl (cI, 4, .inl B.2.2.2.2.2.2.2.2.2.1))], [((b 13), .inl (cI, 4, .inl B.2.2.2.2.2.2.2.2.2.2))], [((t 0), .inr (0, [.int (nI P2), .ref (t 1), .ref (t 2), .ref (t 3), .ref (t 4), .ref (t 5), .int (nI Q2), .ref (t 7), .ref (t 8), .ref (t 9), .int (nI H2), .ref (t 11), .ref (t 12), .ref (t 13), .int sd2]))], [((t 1), .inl (cI, 6, .inl B2.1))], [((t 2), .inl (cI, 6, .inl B2.2.1))], [((t 3), .inl (cI, 6, .inl B2.2.2.1))], [((t 4), .inl (cI, 6, .inl B2.2.2.2.1))], [((t 5), .inl (cI, 6, .inl B2.2.2.2.2.1))], [((t 7), .inl (cI, 9, .inl B2.2.2.2.2.2.1))], [((t 8), .inl (cI, 9, .inl B2.2.2.2.2.2.2.1))], [((t 9), .inl (cI, 9, .inl B2.2.2.2.2.2.2.2.1))], [((t 11), .inl (cI, 4, .inl B2.2.2.2.2.2.2.2.2.1))], [((t 12), .inl (cI, 4, .inl B2.2.2.2.2.2.2.2.2.2.1))], [((t 13), .inl (cI, 4, .inl B2.2.2.2.2.2.2.2.2.2.2))]]) O rfl ?_
  refine zr_callS (As := [.ref (t 2), .ref (b 2)]) (rest := []) (ws2 := [[((b 0), .inr (0, [.int (nI P2), .ref (b 1), .ref (b 2), .ref (b 3), .ref (b 4), .ref (b 5), .int (nI Q), .ref (b 7), .ref (b 8), .ref (b 9), .int (nI Hn), .ref (b 11), .ref (b 12), .ref (b 13), .int sd]))], [((b 1), .inl (cI, 6, .inl (s_X0_copyRow B2.1)))], [((b 2), .inl (cI, 6, .inl (s_X0_copyRow B2.2.1)))], [((b 3), .inl (cI, 6, .inl B.2.2.1))], [((b 4), .inl (cI, 6, .inl B.2.2.2.1))], [((b 5), .inl (cI, 6, .inl B.2.2.2.2.1))], [((b 7), .inl (cI, 9, .inl B.2.2.2.2.2.1))], [((b 8), .inl (cI, 9, .inl B.2.2.2.2.2.2.1))], [((b 9), .inl (cI, 9, .inl B.2.2.2.2.2.2.2.1))], [((b 11), .inl (cI, 4, .inl B.2.2.2.2.2.2.2.2.1))], [((b 12), .inl (cI, 4, .inl B.2.2.2.2.2.2.2.2.2.1))], [((b 13), .inl (cI, 4, .inl B.2.2.2.2.2.2.2.2.2.2))], [((t 0), .inr (0, [.int (nI P2), .ref (t 1), .ref (t 2), .ref (t 3), .ref (t 4), .ref (t 5), .int (nI Q2), .ref (t 7), .ref (t 8), .ref (t 9), .int (nI H2), .ref (t 11), .ref (t 12), .ref (t 13), .int sd2]))], [((t 1), .inl (cI, 6, .inl B2.1))], [((t 2), .inl (cI, 6, .inl B2.2.1))], [((t 3), .inl (cI, 6, .inl B2.2.2.1))], [((t 4), .inl (cI, 6, .inl B2.2.2.2.1))], [((t 5), .inl (cI, 6, .inl B2.2.2.2.2.1))], [((t 7), .inl (cI, 9, .inl B2.2.2.2.2.2.1))], [((t 8), .inl (cI, 9, .inl B2.2.2.2.2.2.2.1))], [((t 9), .inl (cI, 9, .inl B2.2.2.2.2.2.2.2.1))], [((t 11), .inl (cI, 4, .inl B2.2.2.2.2.2.2.2.2.1))], [((t 12), .inl (cI, 4, .inl B2.2.2.2.2.2.2.2.2.2.1))], [((t 13), .inl (cI, 4, .inl B2.2.2.2.2.2.2.2.2.2.2))]]) (pc2 := 30) O (c_X0_copyRow l D cI cC cJ (t 2) (b 2) B2.2.1 B.2.1 6 (by first | assumption | omega)) sC_X0_copyFrom_69 rfl rfl dX0_copyFrom_27 [14, 2] rfl rfl rfl rfl (Nat.le_of_ble_eq_true rfl) rfl ?_
  show Z _ _ _ []
  refine zr_flat (ws2 := [bookW cI b P2 Q Hn sd ((s_X0_copyRow B2.1), (s_X0_copyRow B2.2.1), B.2.2), bookW cI t P2 Q2 H2 sd2 B2]) O rfl ?_
  refine zr_aload_n (pc2 := 31) O dX0_copyFrom_30 rfl 1 rfl rfl ?_
  refine zr_getf (v := .ref (t 3)) (pc2 := 34) O sF_X0_copyFrom_22 1 0 rfl rfl rfl dX0_copyFrom_31 rfl ?_
  refine zr_aload_n (pc2 := 35) O dX0_copyFrom_34 rfl 0 rfl rfl ?_
  refine zr_getf (v := .ref (b 3)) (pc2 := 38) O sF_X0_copyFrom_22 0 0 rfl rfl rfl dX0_copyFrom_35 rfl ?_
  refine zr_flat (ws2 := [[((b 0), .inr (0, [.int (nI P2), .ref (b 1), .ref (b 2), .ref (b 3), .ref (b 4), .ref (b 5), .int (nI Q), .ref (b 7), .ref (b 8), .ref (b 9), .int (nI Hn), .ref (b 11), .ref (b 12), .ref (b 13), .int sd]))], [((b 1), .inl (cI, 6, .inl (s_X0_copyRow B2.1)))], [((b 2), .inl (cI, 6, .inl (s_X0_copyRow B2.2.1)))], [((b 3), .inl (cI, 6, .inl B.2.2.1))], [((b 4), .inl (cI, 6, .inl B.2.2.2.1))], [((b 5), .inl (cI, 6, .inl B.2.2.2.2.1))], [((b 7), .inl (cI, 9, .inl B.2.2.2.2.2.1))], [((b 8), .inl (cI, 9, .inl B.2.2.2.2.2.2.1))], [((b 9), .inl (cI, 9, .inl B.2.2.2.2.2.2.2.1))], [((b 11), .inl (cI, 4, .inl B.2.2.2.2.2.2.2.2.1))], [((b 12), .inl (cI, 4, .inl B.2.2.2.2.2.2.2.2.2.1))], [((b 13), .inl (cI, 4, .inl B.2.2.2.2.2.2.2.2.2.2))], [((t 0), .inr (0, [.int (nI P2), .ref (t 1), .ref (t 2), .ref (t 3), .ref (t 4), .ref (t 5), .int (nI Q2), .ref (t 7), .ref (t 8), .ref (t 9), .int (nI H2), .ref (t 11), .ref (t 12), .ref (t 13), .int sd2]))], [((t 1), .inl (cI, 6, .inl B2.1))], [((t 2), .inl (cI, 6, .inl B2.2.1))], [((t 3), .inl (cI, 6, .inl B2.2.2.1))], [((t 4), .inl (cI, 6, .inl B2.2.2.2.1))], [((t 5), .inl (cI, 6, .inl B2.2.2.2.2.1))], [((t 7), .inl (cI, 9, .inl B2.2.2.2.2.2.1))], [((t 8), .inl (cI, 9, .inl B2.2.2.2.2.2.2.1))], [((t 9), .inl (cI, 9, .inl B2.2.2.2.2.2.2.2.1))], [((t 11), .inl (cI, 4, .inl B2.2.2.2.2.2.2.2.2.1))], [((t 12), .inl (cI, 4, .inl B2.2.2.2.2.2.2.2.2.2.1))], [((t 13), .inl (cI, 4, .inl B2.2.2.2.2.2.2.2.2.2.2))]]) O rfl ?_
  refine zr_callS (As := [.ref (t 3), .ref (b 3)]) (rest := []) (ws2 := [[((b 0), .inr (0, [.int (nI P2), .ref (b 1), .ref (b 2), .ref (b 3), .ref (b 4), .ref (b 5), .int (nI Q), .ref (b 7), .ref (b 8), .ref (b 9), .int (nI Hn), .ref (b 11), .ref (b 12), .ref (b 13), .int sd]))], [((b 1), .inl (cI, 6, .inl (s_X0_copyRow B2.1)))], [((b 2), .inl (cI, 6, .inl (s_X0_copyRow B2.2.1)))], [((b 3), .inl (cI, 6, .inl (s_X0_copyRow B2.2.2.1)))], [((b 4), .inl (cI, 6, .inl B.2.2.2.1))], [((b 5), .inl (cI, 6, .inl B.2.2.2.2.1))], [((b 7), .inl (cI, 9, .inl B.2.2.2.2.2.1))], [((b 8), .inl (cI, 9, .inl B.2.2.2.2.2.2.1))], [((b 9), .inl (cI, 9, .inl B.2.2.2.2.2.2.2.1))], [((b 11), .inl (cI, 4, .inl B.2.2.2.2.2.2.2.2.1))], [((b 12), .inl (cI, 4, .inl B.2.2.2.2.2.2.2.2.2.1))], [((b 13), .inl (cI, 4, .inl B.2.2.2.2.2.2.2.2.2.2))], [((t 0), .inr (0, [.int (nI P2), .ref (t 1), .ref (t 2), .ref (t 3), .ref (t 4), .ref (t 5), .int (nI Q2), .ref (t 7), .ref (t 8), .ref (t 9), .int (nI H2), .ref (t 11), .ref (t 12), .ref (t 13), .int sd2]))], [((t 1), .inl (cI, 6, .inl B2.1))], [((t 2), .inl (cI, 6, .inl B2.2.1))], [((t 3), .inl (cI, 6, .inl B2.2.2.1))], [((t 4), .inl (cI, 6, .inl B2.2.2.2.1))], [((t 5), .inl (cI, 6, .inl B2.2.2.2.2.1))], [((t 7), .inl (cI, 9, .inl B2.2.2.2.2.2.1))], [((t 8), .inl (cI, 9, .inl B2.2.2.2.2.2.2.1))], [((t 9), .inl (cI, 9, .inl B2.2.2.2.2.2.2.2.1))], [((t 11), .inl (cI, 4, .inl B2.2.2.2.2.2.2.2.2.1))], [((t 12), .inl (cI, 4, .inl B2.2.2.2.2.2.2.2.2.2.1))], [((t 13), .inl (cI, 4, .inl B2.2.2.2.2.2.2.2.2.2.2))]]) (pc2 := 41) O (c_X0_copyRow l D cI cC cJ (t 3) (b 3) B2.2.2.1 B.2.2.1 6 (by first | assumption | omega)) sC_X0_copyFrom_69 rfl rfl dX0_copyFrom_38 [15, 3] rfl rfl rfl rfl (Nat.le_of_ble_eq_true rfl) rfl ?_
  show Z _ _ _ []
  refine zr_flat (ws2 := [bookW cI b P2 Q Hn sd ((s_X0_copyRow B2.1), (s_X0_copyRow B2.2.1), (s_X0_copyRow B2.2.2.1), B.2.2.2), bookW cI t P2 Q2 H2 sd2 B2]) O rfl ?_
  refine zr_aload_n (pc2 := 42) O dX0_copyFrom_41 rfl 1 rfl rfl ?_
  refine zr_getf (v := .ref (t 4)) (pc2 := 45) O sF_X0_copyFrom_25 1 0 rfl rfl rfl dX0_copyFrom_42 rfl ?_
  refine zr_aload_n (pc2 := 46) O dX0_copyFrom_45 rfl 0 rfl rfl ?_
  refine zr_getf (v := .ref (b 4)) (pc2 := 49) O sF_X0_copyFrom_25 0 0 rfl rfl rfl dX0_copyFrom_46 rfl ?_
  refine zr_flat (ws2 := [[((b 0), .inr (0, [.int (nI P2), .ref (b 1), .ref (b 2), .ref (b 3), .ref (b 4), .ref (b 5), .int (nI Q), .ref (b 7), .ref (b 8), .ref (b 9), .int (nI Hn), .ref (b 11), .ref (b 12), .ref (b 13), .int sd]))], [((b 1), .inl (cI, 6, .inl (s_X0_copyRow B2.1)))], [((b 2), .inl (cI, 6, .inl (s_X0_copyRow B2.2.1)))], [((b 3), .inl (cI, 6, .inl (s_X0_copyRow B2.2.2.1)))], [((b 4), .inl (cI, 6, .inl B.2.2.2.1))], [((b 5), .inl (cI, 6, .inl B.2.2.2.2.1))], [((b 7), .inl (cI, 9, .inl B.2.2.2.2.2.1))], [((b 8), .inl (cI, 9, .inl B.2.2.2.2.2.2.1))], [((b 9), .inl (cI, 9, .inl B.2.2.2.2.2.2.2.1))], [((b 11), .inl (cI, 4, .inl B.2.2.2.2.2.2.2.2.1))], [((b 12), .inl (cI, 4, .inl B.2.2.2.2.2.2.2.2.2.1))], [((b 13), .inl (cI, 4, .inl B.2.2.2.2.2.2.2.2.2.2))], [((t 0), .inr (0, [.int (nI P2), .ref (t 1), .ref (t 2), .ref (t 3), .ref (t 4), .ref (t 5), .int (nI Q2), .ref (t 7), .ref (t 8), .ref (t 9), .int (nI H2), .ref (t 11), .ref (t 12), .ref (t 13), .int sd2]))], [((t 1), .inl (cI, 6, .inl B2.1))], [((t 2), .inl (cI, 6, .inl B2.2.1))], [((t 3), .inl (cI, 6, .inl B2.2.2.1))], [((t 4), .inl (cI, 6, .inl B2.2.2.2.1))], [((t 5), .inl (cI, 6, .inl B2.2.2.2.2.1))], [((t 7), .inl (cI, 9, .inl B2.2.2.2.2.2.1))], [((t 8), .inl (cI, 9, .inl B2.2.2.2.2.2.2.1))], [((t 9), .inl (cI, 9, .inl B2.2.2.2.2.2.2.2.1))], [((t 11), .inl (cI, 4, .inl B2.2.2.2.2.2.2.2.2.1))], [((t 12), .inl (cI, 4, .inl B2.2.2.2.2.2.2.2.2.2.1))], [((t 13), .inl (cI, 4, .inl B2.2.2.2.2.2.2.2.2.2.2))]]) O rfl ?_
  refine zr_callS (As := [.ref (t 4), .ref (b 4)]) (rest := []) (ws2 := [[((b 0), .inr (0, [.int (nI P2), .ref (b 1), .ref (b 2), .ref (b 3), .ref (b 4), .ref (b 5), .int (nI Q), .ref (b 7), .ref (b 8), .ref (b 9), .int (nI Hn), .ref (b 11), .ref (b 12), .ref (b 13), .int sd]))], [((b 1), .inl (cI, 6, .inl (s_X0_copyRow B2.1)))], [((b 2), .inl (cI, 6, .inl (s_X0_copyRow B2.2.1)))], [((b 3), .inl (cI, 6, .inl (s_X0_copyRow B2.2.2.1)))], [((b 4), .inl (cI, 6, .inl (s_X0_copyRow B2.2.2.2.1)))], [((b 5), .inl (cI, 6, .inl B.2.2.2.2.1))], [((b 7), .inl (cI, 9, .inl B.2.2.2.2.2.1))], [((b 8), .inl (cI, 9, .inl B.2.2.2.2.2.2.1))], [((b 9), .inl (cI, 9, .inl B.2.2.2.2.2.2.2.1))], [((b 11), .inl (cI, 4, .inl B.2.2.2.2.2.2.2.2.1))], [((b 12), .inl (cI, 4, .inl B.2.2.2.2.2.2.2.2.2.1))], [((b 13), .inl (cI, 4, .inl B.2.2.2.2.2.2.2.2.2.2))], [((t 0), .inr (0, [.int (nI P2), .ref (t 1), .ref (t 2), .ref (t 3), .ref (t 4), .ref (t 5), .int (nI Q2), .ref (t 7), .ref (t 8), .ref (t 9), .int (nI H2), .ref (t 11), .ref (t 12), .ref (t 13), .int sd2]))], [((t 1), .inl (cI, 6, .inl B2.1))], [((t 2), .inl (cI, 6, .inl B2.2.1))], [((t 3), .inl (cI, 6, .inl B2.2.2.1))], [((t 4), .inl (cI, 6, .inl B2.2.2.2.1))], [((t 5), .inl (cI, 6, .inl B2.2.2.2.2.1))], [((t 7), .inl (cI, 9, .inl B2.2.2.2.2.2.1))], [((t 8), .inl (cI, 9, .inl B2.2.2.2.2.2.2.1))], [((t 9), .inl (cI, 9, .inl B2.2.2.2.2.2.2.2.1))], [((t 11), .inl (cI, 4, .inl B2.2.2.2.2.2.2.2.2.1))], [((t 12), .inl (cI, 4, .inl B2.2.2.2.2.2.2.2.2.2.1))], [((t 13), .inl (cI, 4, .inl B2.2.2.2.2.2.2.2.2.2.2))]]) (pc2 := 52) O (c_X0_copyRow l D cI cC cJ (t 4) (b 4) B2.2.2.2.1 B.2.2.2.1 6 (by first | assumption | omega)) sC_X0_copyFrom_69 rfl rfl dX0_copyFrom_49 [16, 4] rfl rfl rfl rfl (Nat.le_of_ble_eq_true rfl) rfl ?_
  show Z _ _ _ []
  refine zr_flat (ws2 := [bookW cI b P2 Q Hn sd ((s_X0_copyRow B2.1), (s_X0_copyRow B2.2.1), (s_X0_copyRow B2.2.2.1), (s_X0_copyRow B2.2.2.2.1), B.2.2.2.2), bookW cI t P2 Q2 H2 sd2 B2]) O rfl ?_
  refine zr_aload_n (pc2 := 53) O dX0_copyFrom_52 rfl 1 rfl rfl ?_
  refine zr_getf (v := .ref (t 5)) (pc2 := 56) O sF_X0_copyFrom_28 1 0 rfl rfl rfl dX0_copyFrom_53 rfl ?_
  refine zr_aload_n (pc2 := 57) O dX0_copyFrom_56 rfl 0 rfl rfl ?_
  refine zr_getf (v := .ref (b 5)) (pc2 := 60) O sF_X0_copyFrom_28 0 0 rfl rfl rfl dX0_copyFrom_57 rfl ?_
  refine zr_flat (ws2 := [[((b 0), .inr (0, [.int (nI P2), .ref (b 1), .ref (b 2), .ref (b 3), .ref (b 4), .ref (b 5), .int (nI Q), .ref (b 7), .ref (b 8), .ref (b 9), .int (nI Hn), .ref (b 11), .ref (b 12), .ref (b 13), .int sd]))], [((b 1), .inl (cI, 6, .inl (s_X0_copyRow B2.1)))], [((b 2), .inl (cI, 6, .inl (s_X0_copyRow B2.2.1)))], [((b 3), .inl (cI, 6, .inl (s_X0_copyRow B2.2.2.1)))], [((b 4), .inl (cI, 6, .inl (s_X0_copyRow B2.2.2.2.1)))], [((b 5), .inl (cI, 6, .inl B.2.2.2.2.1))], [((b 7), .inl (cI, 9, .inl B.2.2.2.2.2.1))], [((b 8), .inl (cI, 9, .inl B.2.2.2.2.2.2.1))], [((b 9), .inl (cI, 9, .inl B.2.2.2.2.2.2.2.1))], [((b 11), .inl (cI, 4, .inl B.2.2.2.2.2.2.2.2.1))], [((b 12), .inl (cI, 4, .inl B.2.2.2.2.2.2.2.2.2.1))], [((b 13), .inl (cI, 4, .inl B.2.2.2.2.2.2.2.2.2.2))], [((t 0), .inr (0, [.int (nI P2), .ref (t 1), .ref (t 2), .ref (t 3), .ref (t 4), .ref (t 5), .int (nI Q2), .ref (t 7), .ref (t 8), .ref (t 9), .int (nI H2), .ref (t 11), .ref (t 12), .ref (t 13), .int sd2]))], [((t 1), .inl (cI, 6, .inl B2.1))], [((t 2), .inl (cI, 6, .inl B2.2.1))], [((t 3), .inl (cI, 6, .inl B2.2.2.1))], [((t 4), .inl (cI, 6, .inl B2.2.2.2.1))], [((t 5), .inl (cI, 6, .inl B2.2.2.2.2.1))], [((t 7), .inl (cI, 9, .inl B2.2.2.2.2.2.1))], [((t 8), .inl (cI, 9, .inl B2.2.2.2.2.2.2.1))], [((t 9), .inl (cI, 9, .inl B2.2.2.2.2.2.2.2.1))], [((t 11), .inl (cI, 4, .inl B2.2.2.2.2.2.2.2.2.1))], [((t 12), .inl (cI, 4, .inl B2.2.2.2.2.2.2.2.2.2.1))], [((t 13), .inl (cI, 4, .inl B2.2.2.2.2.2.2.2.2.2.2))]]) O rfl ?_
  refine zr_callS (As := [.ref (t 5), .ref (b 5)]) (rest := []) (ws2 := [[((b 0), .inr (0, [.int (nI P2), .ref (b 1), .ref (b 2), .ref (b 3), .ref (b 4), .ref (b 5), .int (nI Q), .ref (b 7), .ref (b 8), .ref (b 9), .int (nI Hn), .ref (b 11), .ref (b 12), .ref (b 13), .int sd]))], [((b 1), .inl (cI, 6, .inl (s_X0_copyRow B2.1)))], [((b 2), .inl (cI, 6, .inl (s_X0_copyRow B2.2.1)))], [((b 3), .inl (cI, 6, .inl (s_X0_copyRow B2.2.2.1)))], [((b 4), .inl (cI, 6, .inl (s_X0_copyRow B2.2.2.2.1)))], [((b 5), .inl (cI, 6, .inl (s_X0_copyRow B2.2.2.2.2.1)))], [((b 7), .inl (cI, 9, .inl B.2.2.2.2.2.1))], [((b 8), .inl (cI, 9, .inl B.2.2.2.2.2.2.1))], [((b 9), .inl (cI, 9, .inl B.2.2.2.2.2.2.2.1))], [((b 11), .inl (cI, 4, .inl B.2.2.2.2.2.2.2.2.1))], [((b 12), .inl (cI, 4, .inl B.2.2.2.2.2.2.2.2.2.1))], [((b 13), .inl (cI, 4, .inl B.2.2.2.2.2.2.2.2.2.2))], [((t 0), .inr (0, [.int (nI P2), .ref (t 1), .ref (t 2), .ref (t 3), .ref (t 4), .ref (t 5), .int (nI Q2), .ref (t 7), .ref (t 8), .ref (t 9), .int (nI H2), .ref (t 11), .ref (t 12), .ref (t 13), .int sd2]))], [((t 1), .inl (cI, 6, .inl B2.1))], [((t 2), .inl (cI, 6, .inl B2.2.1))], [((t 3), .inl (cI, 6, .inl B2.2.2.1))], [((t 4), .inl (cI, 6, .inl B2.2.2.2.1))], [((t 5), .inl (cI, 6, .inl B2.2.2.2.2.1))], [((t 7), .inl (cI, 9, .inl B2.2.2.2.2.2.1))], [((t 8), .inl (cI, 9, .inl B2.2.2.2.2.2.2.1))], [((t 9), .inl (cI, 9, .inl B2.2.2.2.2.2.2.2.1))], [((t 11), .inl (cI, 4, .inl B2.2.2.2.2.2.2.2.2.1))], [((t 12), .inl (cI, 4, .inl B2.2.2.2.2.2.2.2.2.2.1))], [((t 13), .inl (cI, 4, .inl B2.2.2.2.2.2.2.2.2.2.2))]]) (pc2 := 63) O (c_X0_copyRow l D cI cC cJ (t 5) (b 5) B2.2.2.2.2.1 B.2.2.2.2.1 6 (by first | assumption | omega)) sC_X0_copyFrom_69 rfl rfl dX0_copyFrom_60 [17, 5] rfl rfl rfl rfl (Nat.le_of_ble_eq_true rfl) rfl ?_
  show Z _ _ _ []
  refine zr_flat (ws2 := [bookW cI b P2 Q Hn sd ((s_X0_copyRow B2.1), (s_X0_copyRow B2.2.1), (s_X0_copyRow B2.2.2.1), (s_X0_copyRow B2.2.2.2.1), (s_X0_copyRow B2.2.2.2.2.1), B.2.2.2.2.2), bookW cI t P2 Q2 H2 sd2 B2]) O rfl ?_
  refine zr_aload_n (pc2 := 64) O dX0_copyFrom_63 rfl 0 rfl rfl ?_
  refine zr_aload_n (pc2 := 65) O dX0_copyFrom_64 rfl 1 rfl rfl ?_
  refine zr_getf (v := .int (nI Q2)) (pc2 := 68) O sF_X0_copyFrom_31 1 0 rfl rfl rfl dX0_copyFrom_65 rfl ?_
  refine zr_putf (G2 := bookW cI b P2 Q2 Hn sd ((s_X0_copyRow B2.1), (s_X0_copyRow B2.2.1), (s_X0_copyRow B2.2.2.1), (s_X0_copyRow B2.2.2.2.1), (s_X0_copyRow B2.2.2.2.2.1), B.2.2.2.2.2)) (ws2 := [bookW cI b P2 Q2 Hn sd ((s_X0_copyRow B2.1), (s_X0_copyRow B2.2.1), (s_X0_copyRow B2.2.2.1), (s_X0_copyRow B2.2.2.2.1), (s_X0_copyRow B2.2.2.2.2.1), B.2.2.2.2.2), bookW cI t P2 Q2 H2 sd2 B2]) (pc2 := 71) O sP_X0_copyFrom_31 0 0 rfl rfl rfl rfl (Nat.le_of_ble_eq_true rfl) dX0_copyFrom_68 rfl rfl rfl ?_
  refine zr_aload_n (pc2 := 72) O dX0_copyFrom_71 rfl 1 rfl rfl ?_
  refine zr_getf (v := .ref (t 7)) (pc2 := 75) O sF_X0_copyFrom_34 1 0 rfl rfl rfl dX0_copyFrom_72 rfl ?_
  refine zr_aload_n (pc2 := 76) O dX0_copyFrom_75 rfl 0 rfl rfl ?_
  refine zr_getf (v := .ref (b 7)) (pc2 := 79) O sF_X0_copyFrom_34 0 0 rfl rfl rfl dX0_copyFrom_76 rfl ?_
  refine zr_flat (ws2 := [[((b 0), .inr (0, [.int (nI P2), .ref (b 1), .ref (b 2), .ref (b 3), .ref (b 4), .ref (b 5), .int (nI Q2), .ref (b 7), .ref (b 8), .ref (b 9), .int (nI Hn), .ref (b 11), .ref (b 12), .ref (b 13), .int sd]))], [((b 1), .inl (cI, 6, .inl (s_X0_copyRow B2.1)))], [((b 2), .inl (cI, 6, .inl (s_X0_copyRow B2.2.1)))], [((b 3), .inl (cI, 6, .inl (s_X0_copyRow B2.2.2.1)))], [((b 4), .inl (cI, 6, .inl (s_X0_copyRow B2.2.2.2.1)))], [((b 5), .inl (cI, 6, .inl (s_X0_copyRow B2.2.2.2.2.1)))], [((b 7), .inl (cI, 9, .inl B.2.2.2.2.2.1))], [((b 8), .inl (cI, 9, .inl B.2.2.2.2.2.2.1))], [((b 9), .inl (cI, 9, .inl B.2.2.2.2.2.2.2.1))], [((b 11), .inl (cI, 4, .inl B.2.2.2.2.2.2.2.2.1))], [((b 12), .inl (cI, 4, .inl B.2.2.2.2.2.2.2.2.2.1))], [((b 13), .inl (cI, 4, .inl B.2.2.2.2.2.2.2.2.2.2))], [((t 0), .inr (0, [.int (nI P2), .ref (t 1), .ref (t 2), .ref (t 3), .ref (t 4), .ref (t 5), .int (nI Q2), .ref (t 7), .ref (t 8), .ref (t 9), .int (nI H2), .ref (t 11), .ref (t 12), .ref (t 13), .int sd2]))], [((t 1), .inl (cI, 6, .inl B2.1))], [((t 2), .inl (cI, 6, .inl B2.2.1))], [((t 3), .inl (cI, 6, .inl B2.2.2.1))], [((t 4), .inl (cI, 6, .inl B2.2.2.2.1))], [((t 5), .inl (cI, 6, .inl B2.2.2.2.2.1))], [((t 7), .inl (cI, 9, .inl B2.2.2.2.2.2.1))], [((t 8), .inl (cI, 9, .inl B2.2.2.2.2.2.2.1))], [((t 9), .inl (cI, 9, .inl B2.2.2.2.2.2.2.2.1))], [((t 11), .inl (cI, 4, .inl B2.2.2.2.2.2.2.2.2.1))], [((t 12), .inl (cI, 4, .inl B2.2.2.2.2.2.2.2.2.2.1))], [((t 13), .inl (cI, 4, .inl B2.2.2.2.2.2.2.2.2.2.2))]]) O rfl ?_
  refine zr_callS (As := [.ref (t 7), .ref (b 7)]) (rest := []) (ws2 := [[((b 0), .inr (0, [.int (nI P2), .ref (b 1), .ref (b 2), .ref (b 3), .ref (b 4), .ref (b 5), .int (nI Q2), .ref (b 7), .ref (b 8), .ref (b 9), .int (nI Hn), .ref (b 11), .ref (b 12), .ref (b 13), .int sd]))], [((b 1), .inl (cI, 6, .inl (s_X0_copyRow B2.1)))], [((b 2), .inl (cI, 6, .inl (s_X0_copyRow B2.2.1)))], [((b 3), .inl (cI, 6, .inl (s_X0_copyRow B2.2.2.1)))], [((b 4), .inl (cI, 6, .inl (s_X0_copyRow B2.2.2.2.1)))], [((b 5), .inl (cI, 6, .inl (s_X0_copyRow B2.2.2.2.2.1)))], [((b 7), .inl (cI, 9, .inl (s_X0_copyRow B2.2.2.2.2.2.1)))], [((b 8), .inl (cI, 9, .inl B.2.2.2.2.2.2.1))], [((b 9), .inl (cI, 9, .inl B.2.2.2.2.2.2.2.1))], [((b 11), .inl (cI, 4, .inl B.2.2.2.2.2.2.2.2.1))], [((b 12), .inl (cI, 4, .inl B.2.2.2.2.2.2.2.2.2.1))], [((b 13), .inl (cI, 4, .inl B.2.2.2.2.2.2.2.2.2.2))], [((t 0), .inr (0, [.int (nI P2), .ref (t 1), .ref (t 2), .ref (t 3), .ref (t 4), .ref (t 5), .int (nI Q2), .ref (t 7), .ref (t 8), .ref (t 9), .int (nI H2), .ref (t 11), .ref (t 12), .ref (t 13), .int sd2]))], [((t 1), .inl (cI, 6, .inl B2.1))], [((t 2), .inl (cI, 6, .inl B2.2.1))], [((t 3), .inl (cI, 6, .inl B2.2.2.1))], [((t 4), .inl (cI, 6, .inl B2.2.2.2.1))], [((t 5), .inl (cI, 6, .inl B2.2.2.2.2.1))], [((t 7), .inl (cI, 9, .inl B2.2.2.2.2.2.1))], [((t 8), .inl (cI, 9, .inl B2.2.2.2.2.2.2.1))], [((t 9), .inl (cI, 9, .inl B2.2.2.2.2.2.2.2.1))], [((t 11), .inl (cI, 4, .inl B2.2.2.2.2.2.2.2.2.1))], [((t 12), .inl (cI, 4, .inl B2.2.2.2.2.2.2.2.2.2.1))], [((t 13), .inl (cI, 4, .inl B2.2.2.2.2.2.2.2.2.2.2))]]) (pc2 := 82) O (c_X0_copyRow l D cI cC cJ (t 7) (b 7) B2.2.2.2.2.2.1 B.2.2.2.2.2.1 9 (by first | assumption | omega)) sC_X0_copyFrom_69 rfl rfl dX0_copyFrom_79 [18, 6] rfl rfl rfl rfl (Nat.le_of_ble_eq_true rfl) rfl ?_
  show Z _ _ _ []
  refine zr_flat (ws2 := [bookW cI b P2 Q2 Hn sd ((s_X0_copyRow B2.1), (s_X0_copyRow B2.2.1), (s_X0_copyRow B2.2.2.1), (s_X0_copyRow B2.2.2.2.1), (s_X0_copyRow B2.2.2.2.2.1), (s_X0_copyRow B2.2.2.2.2.2.1), B.2.2.2.2.2.2), bookW cI t P2 Q2 H2 sd2 B2]) O rfl ?_
  refine zr_aload_n (pc2 := 83) O dX0_copyFrom_82 rfl 1 rfl rfl ?_
  refine zr_getf (v := .ref (t 8)) (pc2 := 86) O sF_X0_copyFrom_37 1 0 rfl rfl rfl dX0_copyFrom_83 rfl ?_
  refine zr_aload_n (pc2 := 87) O dX0_copyFrom_86 rfl 0 rfl rfl ?_
  refine zr_getf (v := .ref (b 8)) (pc2 := 90) O sF_X0_copyFrom_37 0 0 rfl rfl rfl dX0_copyFrom_87 rfl ?_
  refine zr_flat (ws2 := [[((b 0), .inr (0, [.int (nI P2), .ref (b 1), .ref (b 2), .ref (b 3), .ref (b 4), .ref (b 5), .int (nI Q2), .ref (b 7), .ref (b 8), .ref (b 9), .int (nI Hn), .ref (b 11), .ref (b 12), .ref (b 13), .int sd]))], [((b 1), .inl (cI, 6, .inl (s_X0_copyRow B2.1)))], [((b 2), .inl (cI, 6, .inl (s_X0_copyRow B2.2.1)))], [((b 3), .inl (cI, 6, .inl (s_X0_copyRow B2.2.2.1)))], [((b 4), .inl (cI, 6, .inl (s_X0_copyRow B2.2.2.2.1)))], [((b 5), .inl (cI, 6, .inl (s_X0_copyRow B2.2.2.2.2.1)))], [((b 7), .inl (cI, 9, .inl (s_X0_copyRow B2.2.2.2.2.2.1)))], [((b 8), .inl (cI, 9, .inl B.2.2.2.2.2.2.1))], [((b 9), .inl (cI, 9, .inl B.2.2.2.2.2.2.2.1))], [((b 11), .inl (cI, 4, .inl B.2.2.2.2.2.2.2.2.1))], [((b 12), .inl (cI, 4, .inl B.2.2.2.2.2.2.2.2.2.1))], [((b 13), .inl (cI, 4, .inl B.2.2.2.2.2.2.2.2.2.2))], [((t 0), .inr (0, [.int (nI P2), .ref (t 1), .ref (t 2), .ref (t 3), .ref (t 4), .ref (t 5), .int (nI Q2), .ref (t 7), .ref (t 8), .ref (t 9), .int (nI H2), .ref (t 11), .ref (t 12), .ref (t 13), .int sd2]))], [((t 1), .inl (cI, 6, .inl B2.1))], [((t 2), .inl (cI, 6, .inl B2.2.1))], [((t 3), .inl (cI, 6, .inl B2.2.2.1))], [((t 4), .inl (cI, 6, .inl B2.2.2.2.1))], [((t 5), .inl (cI, 6, .inl B2.2.2.2.2.1))], [((t 7), .inl (cI, 9, .inl B2.2.2.2.2.2.1))], [((t 8), .inl (cI, 9, .inl B2.2.2.2.2.2.2.1))], [((t 9), .inl (cI, 9, .inl B2.2.2.2.2.2.2.2.1))], [((t 11), .inl (cI, 4, .inl B2.2.2.2.2.2.2.2.2.1))], [((t 12), .inl (cI, 4, .inl B2.2.2.2.2.2.2.2.2.2.1))], [((t 13), .inl (cI, 4, .inl B2.2.2.2.2.2.2.2.2.2.2))]]) O rfl ?_
  refine zr_callS (As := [.ref (t 8), .ref (b 8)]) (rest := []) (ws2 := [[((b 0), .inr (0, [.int (nI P2), .ref (b 1), .ref (b 2), .ref (b 3), .ref (b 4), .ref (b 5), .int (nI Q2), .ref (b 7), .ref (b 8), .ref (b 9), .int (nI Hn), .ref (b 11), .ref (b 12), .ref (b 13), .int sd]))], [((b 1), .inl (cI, 6, .inl (s_X0_copyRow B2.1)))], [((b 2), .inl (cI, 6, .inl (s_X0_copyRow B2.2.1)))], [((b 3), .inl (cI, 6, .inl (s_X0_copyRow B2.2.2.1)))], [((b 4), .inl (cI, 6, .inl (s_X0_copyRow B2.2.2.2.1)))], [((b 5), .inl (cI, 6, .inl (s_X0_copyRow B2.2.2.2.2.1)))], [((b 7), .inl (cI, 9, .inl (s_X0_copyRow B2.2.2.2.2.2.1)))], [((b 8), .inl (cI, 9, .inl (s_X0_copyRow B2.2.2.2.2.2.2.1)))], [((b 9), .inl (cI, 9, .inl B.2.2.2.2.2.2.2.1))], [((b 11), .inl (cI, 4, .inl B.2.2.2.2.2.2.2.2.1))], [((b 12), .inl (cI, 4, .inl B.2.2.2.2.2.2.2.2.2.1))], [((b 13), .inl (cI, 4, .inl B.2.2.2.2.2.2.2.2.2.2))], [((t 0), .inr (0, [.int (nI P2), .ref (t 1), .ref (t 2), .ref (t 3), .ref (t 4), .ref (t 5), .int (nI Q2), .ref (t 7), .ref (t 8), .ref (t 9), .int (nI H2), .ref (t 11), .ref (t 12), .ref (t 13), .int sd2]))], [((t 1), .inl (cI, 6, .inl B2.1))], [((t 2), .inl (cI, 6, .inl B2.2.1))], [((t 3), .inl (cI, 6, .inl B2.2.2.1))], [((t 4), .inl (cI, 6, .inl B2.2.2.2.1))], [((t 5), .inl (cI, 6, .inl B2.2.2.2.2.1))], [((t 7), .inl (cI, 9, .inl B2.2.2.2.2.2.1))], [((t 8), .inl (cI, 9, .inl B2.2.2.2.2.2.2.1))], [((t 9), .inl (cI, 9, .inl B2.2.2.2.2.2.2.2.1))], [((t 11), .inl (cI, 4, .inl B2.2.2.2.2.2.2.2.2.1))], [((t 12), .inl (cI, 4, .inl B2.2.2.2.2.2.2.2.2.2.1))], [((t 13), .inl (cI, 4, .inl B2.2.2.2.2.2.2.2.2.2.2))]]) (pc2 := 93) O (c_X0_copyRow l D cI cC cJ (t 8) (b 8) B2.2.2.2.2.2.2.1 B.2.2.2.2.2.2.1 9 (by first | assumption | omega)) sC_X0_copyFrom_69 rfl rfl dX0_copyFrom_90 [19, 7] rfl rfl rfl rfl (Nat.le_of_ble_eq_true rfl) rfl ?_
  show Z _ _ _ []
  refine zr_flat (ws2 := [bookW cI b P2 Q2 Hn sd ((s_X0_copyRow B2.1), (s_X0_copyRow B2.2.1), (s_X0_copyRow B2.2.2.1), (s_X0_copyRow B2.2.2.2.1), (s_X0_copyRow B2.2.2.2.2.1), (s_X0_copyRow B2.2.2.2.2.2.1), (s_X0_copyRow B2.2.2.2.2.2.2.1), B.2.2.2.2.2.2.2), bookW cI t P2 Q2 H2 sd2 B2]) O rfl ?_
  refine zr_aload_n (pc2 := 94) O dX0_copyFrom_93 rfl 1 rfl rfl ?_
  refine zr_getf (v := .ref (t 9)) (pc2 := 97) O sF_X0_copyFrom_40 1 0 rfl rfl rfl dX0_copyFrom_94 rfl ?_
  refine zr_aload_n (pc2 := 98) O dX0_copyFrom_97 rfl 0 rfl rfl ?_
  refine zr_getf (v := .ref (b 9)) (pc2 := 101) O sF_X0_copyFrom_40 0 0 rfl rfl rfl dX0_copyFrom_98 rfl ?_
  refine zr_flat (ws2 := [[((b 0), .inr (0, [.int (nI P2), .ref (b 1), .ref (b 2), .ref (b 3), .ref (b 4), .ref (b 5), .int (nI Q2), .ref (b 7), .ref (b 8), .ref (b 9), .int (nI Hn), .ref (b 11), .ref (b 12), .ref (b 13), .int sd]))], [((b 1), .inl (cI, 6, .inl (s_X0_copyRow B2.1)))], [((b 2), .inl (cI, 6, .inl (s_X0_copyRow B2.2.1)))], [((b 3), .inl (cI, 6, .inl (s_X0_copyRow B2.2.2.1)))], [((b 4), .inl (cI, 6, .inl (s_X0_copyRow B2.2.2.2.1)))], [((b 5), .inl (cI, 6, .inl (s_X0_copyRow B2.2.2.2.2.1)))], [((b 7), .inl (cI, 9, .inl (s_X0_copyRow B2.2.2.2.2.2.1)))], [((b 8), .inl (cI, 9, .inl (s_X0_copyRow B2.2.2.2.2.2.2.1)))], [((b 9), .inl (cI, 9, .inl B.2.2.2.2.2.2.2.1))], [((b 11), .inl (cI, 4, .inl B.2.2.2.2.2.2.2.2.1))], [((b 12), .inl (cI, 4, .inl B.2.2.2.2.2.2.2.2.2.1))], [((b 13), .inl (cI, 4, .inl B.2.2.2.2.2.2.2.2.2.2))], [((t 0), .inr (0, [.int (nI P2), .ref (t 1), .ref (t 2), .ref (t 3), .ref (t 4), .ref (t 5), .int (nI Q2), .ref (t 7), .ref (t 8), .ref (t 9), .int (nI H2), .ref (t 11), .ref (t 12), .ref (t 13), .int sd2]))], [((t 1), .inl (cI, 6, .inl B2.1))], [((t 2), .inl (cI, 6, .inl B2.2.1))], [((t 3), .inl (cI, 6, .inl B2.2.2.1))], [((t 4), .inl (cI, 6, .inl B2.2.2.2.1))], [((t 5), .inl (cI, 6, .inl B2.2.2.2.2.1))], [((t 7), .inl (cI, 9, .inl B2.2.2.2.2.2.1))], [((t 8), .inl (cI, 9, .inl B2.2.2.2.2.2.2.1))], [((t 9), .inl (cI, 9, .inl B2.2.2.2.2.2.2.2.1))], [((t 11), .inl (cI, 4, .inl B2.2.2.2.2.2.2.2.2.1))], [((t 12), .inl (cI, 4, .inl B2.2.2.2.2.2.2.2.2.2.1))], [((t 13), .inl (cI, 4, .inl B2.2.2.2.2.2.2.2.2.2.2))]]) O rfl ?_
  refine zr_callS (As := [.ref (t 9), .ref (b 9)]) (rest := []) (ws2 := [[((b 0), .inr (0, [.int (nI P2), .ref (b 1), .ref (b 2), .ref (b 3), .ref (b 4), .ref (b 5), .int (nI Q2), .ref (b 7), .ref (b 8), .ref (b 9), .int (nI Hn), .ref (b 11), .ref (b 12), .ref (b 13), .int sd]))], [((b 1), .inl (cI, 6, .inl (s_X0_copyRow B2.1)))], [((b 2), .inl (cI, 6, .inl (s_X0_copyRow B2.2.1)))], [((b 3), .inl (cI, 6, .inl (s_X0_copyRow B2.2.2.1)))], [((b 4), .inl (cI, 6, .inl (s_X0_copyRow B2.2.2.2.1)))], [((b 5), .inl (cI, 6, .inl (s_X0_copyRow B2.2.2.2.2.1)))], [((b 7), .inl (cI, 9, .inl (s_X0_copyRow B2.2.2.2.2.2.1)))], [((b 8), .inl (cI, 9, .inl (s_X0_copyRow B2.2.2.2.2.2.2.1)))], [((b 9), .inl (cI, 9, .inl (s_X0_copyRow B2.2.2.2.2.2.2.2.1)))], [((b 11), .inl (cI, 4, .inl B.2.2.2.2.2.2.2.2.1))], [((b 12), .inl (cI, 4, .inl B.2.2.2.2.2.2.2.2.2.1))], [((b 13), .inl (cI, 4, .inl B.2.2.2.2.2.2.2.2.2.2))], [((t 0), .inr (0, [.int (nI P2), .ref (t 1), .ref (t 2), .ref (t 3), .ref (t 4), .ref (t 5), .int (nI Q2), .ref (t 7), .ref (t 8), .ref (t 9), .int (nI H2), .ref (t 11), .ref (t 12), .ref (t 13), .int sd2]))], [((t 1), .inl (cI, 6, .inl B2.1))], [((t 2), .inl (cI, 6, .inl B2.2.1))], [((t 3), .inl (cI, 6, .inl B2.2.2.1))], [((t 4), .inl (cI, 6, .inl B2.2.2.2.1))], [((t 5), .inl (cI, 6, .inl B2.2.2.2.2.1))], [((t 7), .inl (cI, 9, .inl B2.2.2.2.2.2.1))], [((t 8), .inl (cI, 9, .inl B2.2.2.2.2.2.2.1))], [((t 9), .inl (cI, 9, .inl B2.2.2.2.2.2.2.2.1))], [((t 11), .inl (cI, 4, .inl B2.2.2.2.2.2.2.2.2.1))], [((t 12), .inl (cI, 4, .inl B2.2.2.2.2.2.2.2.2.2.1))], [((t 13), .inl (cI, 4, .inl B2.2.2.2.2.2.2.2.2.2.2))]]) (pc2 := 104) O (c_X0_copyRow l D cI cC cJ (t 9) (b 9) B2.2.2.2.2.2.2.2.1 B.2.2.2.2.2.2.2.1 9 (by first | assumption | omega)) sC_X0_copyFrom_69 rfl rfl dX0_copyFrom_101 [20, 8] rfl rfl rfl rfl (Nat.le_of_ble_eq_true rfl) rfl ?_
  show Z _ _ _ []
  refine zr_flat (ws2 := [bookW cI b P2 Q2 Hn sd ((s_X0_copyRow B2.1), (s_X0_copyRow B2.2.1), (s_X0_copyRow B2.2.2.1), (s_X0_copyRow B2.2.2.2.1), (s_X0_copyRow B2.2.2.2.2.1), (s_X0_copyRow B2.2.2.2.2.2.1), (s_X0_copyRow B2.2.2.2.2.2.2.1), (s_X0_copyRow B2.2.2.2.2.2.2.2.1), B.2.2.2.2.2.2.2.2), bookW cI t P2 Q2 H2 sd2 B2]) O rfl ?_
  refine zr_aload_n (pc2 := 105) O dX0_copyFrom_104 rfl 0 rfl rfl ?_
  refine zr_aload_n (pc2 := 106) O dX0_copyFrom_105 rfl 1 rfl rfl ?_
  refine zr_getf (v := .int (nI H2)) (pc2 := 109) O sF_X0_copyFrom_43 1 0 rfl rfl rfl dX0_copyFrom_106 rfl ?_
  refine zr_putf (G2 := bookW cI b P2 Q2 H2 sd ((s_X0_copyRow B2.1), (s_X0_copyRow B2.2.1), (s_X0_copyRow B2.2.2.1), (s_X0_copyRow B2.2.2.2.1), (s_X0_copyRow B2.2.2.2.2.1), (s_X0_copyRow B2.2.2.2.2.2.1), (s_X0_copyRow B2.2.2.2.2.2.2.1), (s_X0_copyRow B2.2.2.2.2.2.2.2.1), B.2.2.2.2.2.2.2.2)) (ws2 := [bookW cI b P2 Q2 H2 sd ((s_X0_copyRow B2.1), (s_X0_copyRow B2.2.1), (s_X0_copyRow B2.2.2.1), (s_X0_copyRow B2.2.2.2.1), (s_X0_copyRow B2.2.2.2.2.1), (s_X0_copyRow B2.2.2.2.2.2.1), (s_X0_copyRow B2.2.2.2.2.2.2.1), (s_X0_copyRow B2.2.2.2.2.2.2.2.1), B.2.2.2.2.2.2.2.2), bookW cI t P2 Q2 H2 sd2 B2]) (pc2 := 112) O sP_X0_copyFrom_43 0 0 rfl rfl rfl rfl (Nat.le_of_ble_eq_true rfl) dX0_copyFrom_109 rfl rfl rfl ?_
  refine zr_aload_n (pc2 := 113) O dX0_copyFrom_112 rfl 1 rfl rfl ?_
  refine zr_getf (v := .ref (t 11)) (pc2 := 116) O sF_X0_copyFrom_46 1 0 rfl rfl rfl dX0_copyFrom_113 rfl ?_
  refine zr_aload_n (pc2 := 117) O dX0_copyFrom_116 rfl 0 rfl rfl ?_
  refine zr_getf (v := .ref (b 11)) (pc2 := 120) O sF_X0_copyFrom_46 0 0 rfl rfl rfl dX0_copyFrom_117 rfl ?_
  refine zr_flat (ws2 := [[((b 0), .inr (0, [.int (nI P2), .ref (b 1), .ref (b 2), .ref (b 3), .ref (b 4), .ref (b 5), .int (nI Q2), .ref (b 7), .ref (b 8), .ref (b 9), .int (nI H2), .ref (b 11), .ref (b 12), .ref (b 13), .int sd]))], [((b 1), .inl (cI, 6, .inl (s_X0_copyRow B2.1)))], [((b 2), .inl (cI, 6, .inl (s_X0_copyRow B2.2.1)))], [((b 3), .inl (cI, 6, .inl (s_X0_copyRow B2.2.2.1)))], [((b 4), .inl (cI, 6, .inl (s_X0_copyRow B2.2.2.2.1)))], [((b 5), .inl (cI, 6, .inl (s_X0_copyRow B2.2.2.2.2.1)))], [((b 7), .inl (cI, 9, .inl (s_X0_copyRow B2.2.2.2.2.2.1)))], [((b 8), .inl (cI, 9, .inl (s_X0_copyRow B2.2.2.2.2.2.2.1)))], [((b 9), .inl (cI, 9, .inl (s_X0_copyRow B2.2.2.2.2.2.2.2.1)))], [((b 11), .inl (cI, 4, .inl B.2.2.2.2.2.2.2.2.1))], [((b 12), .inl (cI, 4, .inl B.2.2.2.2.2.2.2.2.2.1))], [((b 13), .inl (cI, 4, .inl B.2.2.2.2.2.2.2.2.2.2))], [((t 0), .inr (0, [.int (nI P2), .ref (t 1), .ref (t 2), .ref (t 3), .ref (t 4), .ref (t 5), .int (nI Q2), .ref (t 7), .ref (t 8), .ref (t 9), .int (nI H2), .ref (t 11), .ref (t 12), .ref (t 13), .int sd2]))], [((t 1), .inl (cI, 6, .inl B2.1))], [((t 2), .inl (cI, 6, .inl B2.2.1))], [((t 3), .inl (cI, 6, .inl B2.2.2.1))], [((t 4), .inl (cI, 6, .inl B2.2.2.2.1))], [((t 5), .inl (cI, 6, .inl B2.2.2.2.2.1))], [((t 7), .inl (cI, 9, .inl B2.2.2.2.2.2.1))], [((t 8), .inl (cI, 9, .inl B2.2.2.2.2.2.2.1))], [((t 9), .inl (cI, 9, .inl B2.2.2.2.2.2.2.2.1))], [((t 11), .inl (cI, 4, .inl B2.2.2.2.2.2.2.2.2.1))], [((t 12), .inl (cI, 4, .inl B2.2.2.2.2.2.2.2.2.2.1))], [((t 13), .inl (cI, 4, .inl B2.2.2.2.2.2.2.2.2.2.2))]]) O rfl ?_
  refine zr_callS (As := [.ref (t 11), .ref (b 11)]) (rest := []) (ws2 := [[((b 0), .inr (0, [.int (nI P2), .ref (b 1), .ref (b 2), .ref (b 3), .ref (b 4), .ref (b 5), .int (nI Q2), .ref (b 7), .ref (b 8), .ref (b 9), .int (nI H2), .ref (b 11), .ref (b 12), .ref (b 13), .int sd]))], [((b 1), .inl (cI, 6, .inl (s_X0_copyRow B2.1)))], [((b 2), .inl (cI, 6, .inl (s_X0_copyRow B2.2.1)))], [((b 3), .inl (cI, 6, .inl (s_X0_copyRow B2.2.2.1)))], [((b 4), .inl (cI, 6, .inl (s_X0_copyRow B2.2.2.2.1)))], [((b 5), .inl (cI, 6, .inl (s_X0_copyRow B2.2.2.2.2.1)))], [((b 7), .inl (cI, 9, .inl (s_X0_copyRow B2.2.2.2.2.2.1)))], [((b 8), .inl (cI, 9, .inl (s_X0_copyRow B2.2.2.2.2.2.2.1)))], [((b 9), .inl (cI, 9, .inl (s_X0_copyRow B2.2.2.2.2.2.2.2.1)))], [((b 11), .inl (cI, 4, .inl (s_X0_copyRow B2.2.2.2.2.2.2.2.2.1)))], [((b 12), .inl (cI, 4, .inl B.2.2.2.2.2.2.2.2.2.1))], [((b 13), .inl (cI, 4, .inl B.2.2.2.2.2.2.2.2.2.2))], [((t 0), .inr (0, [.int (nI P2), .ref (t 1), .ref (t 2), .ref (t 3), .ref (t 4), .ref (t 5), .int (nI Q2), .ref (t 7), .ref (t 8), .ref (t 9), .int (nI H2), .ref (t 11), .ref (t 12), .ref (t 13), .int sd2]))], [((t 1), .inl (cI, 6, .inl B2.1))], [((t 2), .inl (cI, 6, .inl B2.2.1))], [((t 3), .inl (cI, 6, .inl B2.2.2.1))], [((t 4), .inl (cI, 6, .inl B2.2.2.2.1))], [((t 5), .inl (cI, 6, .inl B2.2.2.2.2.1))], [((t 7), .inl (cI, 9, .inl B2.2.2.2.2.2.1))], [((t 8), .inl (cI, 9, .inl B2.2.2.2.2.2.2.1))], [((t 9), .inl (cI, 9, .inl B2.2.2.2.2.2.2.2.1))], [((t 11), .inl (cI, 4, .inl B2.2.2.2.2.2.2.2.2.1))], [((t 12), .inl (cI, 4, .inl B2.2.2.2.2.2.2.2.2.2.1))], [((t 13), .inl (cI, 4, .inl B2.2.2.2.2.2.2.2.2.2.2))]]) (pc2 := 123) O (c_X0_copyRow l D cI cC cJ (t 11) (b 11) B2.2.2.2.2.2.2.2.2.1 B.2.2.2.2.2.2.2.2.1 4 (by first | assumption | omega)) sC_X0_copyFrom_69 rfl rfl dX0_copyFrom_120 [21, 9] rfl rfl rfl rfl (Nat.le_of_ble_eq_true rfl) rfl ?_
  show Z _ _ _ []
  refine zr_flat (ws2 := [bookW cI b P2 Q2 H2 sd ((s_X0_copyRow B2.1), (s_X0_copyRow B2.2.1), (s_X0_copyRow B2.2.2.1), (s_X0_copyRow B2.2.2.2.1), (s_X0_copyRow B2.2.2.2.2.1), (s_X0_copyRow B2.2.2.2.2.2.1), (s_X0_copyRow B2.2.2.2.2.2.2.1), (s_X0_copyRow B2.2.2.2.2.2.2.2.1), (s_X0_copyRow B2.2.2.2.2.2.2.2.2.1), B.2.2.2.2.2.2.2.2.2), bookW cI t P2 Q2 H2 sd2 B2]) O rfl ?_
  refine zr_aload_n (pc2 := 124) O dX0_copyFrom_123 rfl 1 rfl rfl ?_
  refine zr_getf (v := .ref (t 12)) (pc2 := 127) O sF_X0_copyFrom_49 1 0 rfl rfl rfl dX0_copyFrom_124 rfl ?_
  refine zr_aload_n (pc2 := 128) O dX0_copyFrom_127 rfl 0 rfl rfl ?_
  refine zr_getf (v := .ref (b 12)) (pc2 := 131) O sF_X0_copyFrom_49 0 0 rfl rfl rfl dX0_copyFrom_128 rfl ?_
  refine zr_flat (ws2 := [[((b 0), .inr (0, [.int (nI P2), .ref (b 1), .ref (b 2), .ref (b 3), .ref (b 4), .ref (b 5), .int (nI Q2), .ref (b 7), .ref (b 8), .ref (b 9), .int (nI H2), .ref (b 11), .ref (b 12), .ref (b 13), .int sd]))], [((b 1), .inl (cI, 6, .inl (s_X0_copyRow B2.1)))], [((b 2), .inl (cI, 6, .inl (s_X0_copyRow B2.2.1)))], [((b 3), .inl (cI, 6, .inl (s_X0_copyRow B2.2.2.1)))], [((b 4), .inl (cI, 6, .inl (s_X0_copyRow B2.2.2.2.1)))], [((b 5), .inl (cI, 6, .inl (s_X0_copyRow B2.2.2.2.2.1)))], [((b 7), .inl (cI, 9, .inl (s_X0_copyRow B2.2.2.2.2.2.1)))], [((b 8), .inl (cI, 9, .inl (s_X0_copyRow B2.2.2.2.2.2.2.1)))], [((b 9), .inl (cI, 9, .inl (s_X0_copyRow B2.2.2.2.2.2.2.2.1)))], [((b 11), .inl (cI, 4, .inl (s_X0_copyRow B2.2.2.2.2.2.2.2.2.1)))], [((b 12), .inl (cI, 4, .inl B.2.2.2.2.2.2.2.2.2.1))], [((b 13), .inl (cI, 4, .inl B.2.2.2.2.2.2.2.2.2.2))], [((t 0), .inr (0, [.int (nI P2), .ref (t 1), .ref (t 2), .ref (t 3), .ref (t 4), .ref (t 5), .int (nI Q2), .ref (t 7), .ref (t 8), .ref (t 9), .int (nI H2), .ref (t 11), .ref (t 12), .ref (t 13), .int sd2]))], [((t 1), .inl (cI, 6, .inl B2.1))], [((t 2), .inl (cI, 6, .inl B2.2.1))], [((t 3), .inl (cI, 6, .inl B2.2.2.1))], [((t 4), .inl (cI, 6, .inl B2.2.2.2.1))], [((t 5), .inl (cI, 6, .inl B2.2.2.2.2.1))], [((t 7), .inl (cI, 9, .inl B2.2.2.2.2.2.1))], [((t 8), .inl (cI, 9, .inl B2.2.2.2.2.2.2.1))], [((t 9), .inl (cI, 9, .inl B2.2.2.2.2.2.2.2.1))], [((t 11), .inl (cI, 4, .inl B2.2.2.2.2.2.2.2.2.1))], [((t 12), .inl (cI, 4, .inl B2.2.2.2.2.2.2.2.2.2.1))], [((t 13), .inl (cI, 4, .inl B2.2.2.2.2.2.2.2.2.2.2))]]) O rfl ?_
  refine zr_callS (As := [.ref (t 12), .ref (b 12)]) (rest := []) (ws2 := [[((b 0), .inr (0, [.int (nI P2), .ref (b 1), .ref (b 2), .ref (b 3), .ref (b 4), .ref (b 5), .int (nI Q2), .ref (b 7), .ref (b 8), .ref (b 9), .int (nI H2), .ref (b 11), .ref (b 12), .ref (b 13), .int sd]))], [((b 1), .inl (cI, 6, .inl (s_X0_copyRow B2.1)))], [((b 2), .inl (cI, 6, .inl (s_X0_copyRow B2.2.1)))], [((b 3), .inl (cI, 6, .inl (s_X0_copyRow B2.2.2.1)))], [((b 4), .inl (cI, 6, .inl (s_X0_copyRow B2.2.2.2.1)))], [((b 5), .inl (cI, 6, .inl (s_X0_copyRow B2.2.2.2.2.1)))], [((b 7), .inl (cI, 9, .inl (s_X0_copyRow B2.2.2.2.2.2.1)))], [((b 8), .inl (cI, 9, .inl (s_X0_copyRow B2.2.2.2.2.2.2.1)))], [((b 9), .inl (cI, 9, .inl (s_X0_copyRow B2.2.2.2.2.2.2.2.1)))], [((b 11), .inl (cI, 4, .inl (s_X0_copyRow B2.2.2.2.2.2.2.2.2.1)))], [((b 12), .inl (cI, 4, .inl (s_X0_copyRow B2.2.2.2.2.2.2.2.2.2.1)))], [((b 13), .inl (cI, 4, .inl B.2.2.2.2.2.2.2.2.2.2))], [((t 0), .inr (0, [.int (nI P2), .ref (t 1), .ref (t 2), .ref (t 3), .ref (t 4), .ref (t 5), .int (nI Q2), .ref (t 7), .ref (t 8), .ref (t 9), .int (nI H2), .ref (t 11), .ref (t 12), .ref (t 13), .int sd2]))], [((t 1), .inl (cI, 6, .inl B2.1))], [((t 2), .inl (cI, 6, .inl B2.2.1))], [((t 3), .inl (cI, 6, .inl B2.2.2.1))], [((t 4), .inl (cI, 6, .inl B2.2.2.2.1))], [((t 5), .inl (cI, 6, .inl B2.2.2.2.2.1))], [((t 7), .inl (cI, 9, .inl B2.2.2.2.2.2.1))], [((t 8), .inl (cI, 9, .inl B2.2.2.2.2.2.2.1))], [((t 9), .inl (cI, 9, .inl B2.2.2.2.2.2.2.2.1))], [((t 11), .inl (cI, 4, .inl B2.2.2.2.2.2.2.2.2.1))], [((t 12), .inl (cI, 4, .inl B2.2.2.2.2.2.2.2.2.2.1))], [((t 13), .inl (cI, 4, .inl B2.2.2.2.2.2.2.2.2.2.2))]]) (pc2 := 134) O (c_X0_copyRow l D cI cC cJ (t 12) (b 12) B2.2.2.2.2.2.2.2.2.2.1 B.2.2.2.2.2.2.2.2.2.1 4 (by first | assumption | omega)) sC_X0_copyFrom_69 rfl rfl dX0_copyFrom_131 [22, 10] rfl rfl rfl rfl (Nat.le_of_ble_eq_true rfl) rfl ?_
  show Z _ _ _ []
  refine zr_flat (ws2 := [bookW cI b P2 Q2 H2 sd ((s_X0_copyRow B2.1), (s_X0_copyRow B2.2.1), (s_X0_copyRow B2.2.2.1), (s_X0_copyRow B2.2.2.2.1), (s_X0_copyRow B2.2.2.2.2.1), (s_X0_copyRow B2.2.2.2.2.2.1), (s_X0_copyRow B2.2.2.2.2.2.2.1), (s_X0_copyRow B2.2.2.2.2.2.2.2.1), (s_X0_copyRow B2.2.2.2.2.2.2.2.2.1), (s_X0_copyRow B2.2.2.2.2.2.2.2.2.2.1), B.2.2.2.2.2.2.2.2.2.2), bookW cI t P2 Q2 H2 sd2 B2]) O rfl ?_
  refine zr_aload_n (pc2 := 135) O dX0_copyFrom_134 rfl 1 rfl rfl ?_
  refine zr_getf (v := .ref (t 13)) (pc2 := 138) O sF_X0_copyFrom_52 1 0 rfl rfl rfl dX0_copyFrom_135 rfl ?_
  refine zr_aload_n (pc2 := 139) O dX0_copyFrom_138 rfl 0 rfl rfl ?_
  refine zr_getf (v := .ref (b 13)) (pc2 := 142) O sF_X0_copyFrom_52 0 0 rfl rfl rfl dX0_copyFrom_139 rfl ?_
  refine zr_flat (ws2 := [[((b 0), .inr (0, [.int (nI P2), .ref (b 1), .ref (b 2), .ref (b 3), .ref (b 4), .ref (b 5), .int (nI Q2), .ref (b 7), .ref (b 8), .ref (b 9), .int (nI H2), .ref (b 11), .ref (b 12), .ref (b 13), .int sd]))], [((b 1), .inl (cI, 6, .inl (s_X0_copyRow B2.1)))], [((b 2), .inl (cI, 6, .inl (s_X0_copyRow B2.2.1)))], [((b 3), .inl (cI, 6, .inl (s_X0_copyRow B2.2.2.1)))], [((b 4), .inl (cI, 6, .inl (s_X0_copyRow B2.2.2.2.1)))], [((b 5), .inl (cI, 6, .inl (s_X0_copyRow B2.2.2.2.2.1)))], [((b 7), .inl (cI, 9, .inl (s_X0_copyRow B2.2.2.2.2.2.1)))], [((b 8), .inl (cI, 9, .inl (s_X0_copyRow B2.2.2.2.2.2.2.1)))], [((b 9), .inl (cI, 9, .inl (s_X0_copyRow B2.2.2.2.2.2.2.2.1)))], [((b 11), .inl (cI, 4, .inl (s_X0_copyRow B2.2.2.2.2.2.2.2.2.1)))], [((b 12), .inl (cI, 4, .inl (s_X0_copyRow B2.2.2.2.2.2.2.2.2.2.1)))], [((b 13), .inl (cI, 4, .inl B.2.2.2.2.2.2.2.2.2.2))], [((t 0), .inr (0, [.int (nI P2), .ref (t 1), .ref (t 2), .ref (t 3), .ref (t 4), .ref (t 5), .int (nI Q2), .ref (t 7), .ref (t 8), .ref (t 9), .int (nI H2), .ref (t 11), .ref (t 12), .ref (t 13), .int sd2]))], [((t 1), .inl (cI, 6, .inl B2.1))], [((t 2), .inl (cI, 6, .inl B2.2.1))], [((t 3), .inl (cI, 6, .inl B2.2.2.1))], [((t 4), .inl (cI, 6, .inl B2.2.2.2.1))], [((t 5), .inl (cI, 6, .inl B2.2.2.2.2.1))], [((t 7), .inl (cI, 9, .inl B2.2.2.2.2.2.1))], [((t 8), .inl (cI, 9, .inl B2.2.2.2.2.2.2.1))], [((t 9), .inl (cI, 9, .inl B2.2.2.2.2.2.2.2.1))], [((t 11), .inl (cI, 4, .inl B2.2.2.2.2.2.2.2.2.1))], [((t 12), .inl (cI, 4, .inl B2.2.2.2.2.2.2.2.2.2.1))], [((t 13), .inl (cI, 4, .inl B2.2.2.2.2.2.2.2.2.2.2))]]) O rfl ?_
  refine zr_callS (As := [.ref (t 13), .ref (b 13)]) (rest := []) (ws2 := [[((b 0), .inr (0, [.int (nI P2), .ref (b 1), .ref (b 2), .ref (b 3), .ref (b 4), .ref (b 5), .int (nI Q2), .ref (b 7), .ref (b 8), .ref (b 9), .int (nI H2), .ref (b 11), .ref (b 12), .ref (b 13), .int sd]))], [((b 1), .inl (cI, 6, .inl (s_X0_copyRow B2.1)))], [((b 2), .inl (cI, 6, .inl (s_X0_copyRow B2.2.1)))], [((b 3), .inl (cI, 6, .inl (s_X0_copyRow B2.2.2.1)))], [((b 4), .inl (cI, 6, .inl (s_X0_copyRow B2.2.2.2.1)))], [((b 5), .inl (cI, 6, .inl (s_X0_copyRow B2.2.2.2.2.1)))], [((b 7), .inl (cI, 9, .inl (s_X0_copyRow B2.2.2.2.2.2.1)))], [((b 8), .inl (cI, 9, .inl (s_X0_copyRow B2.2.2.2.2.2.2.1)))], [((b 9), .inl (cI, 9, .inl (s_X0_copyRow B2.2.2.2.2.2.2.2.1)))], [((b 11), .inl (cI, 4, .inl (s_X0_copyRow B2.2.2.2.2.2.2.2.2.1)))], [((b 12), .inl (cI, 4, .inl (s_X0_copyRow B2.2.2.2.2.2.2.2.2.2.1)))], [((b 13), .inl (cI, 4, .inl (s_X0_copyRow B2.2.2.2.2.2.2.2.2.2.2)))], [((t 0), .inr (0, [.int (nI P2), .ref (t 1), .ref (t 2), .ref (t 3), .ref (t 4), .ref (t 5), .int (nI Q2), .ref (t 7), .ref (t 8), .ref (t 9), .int (nI H2), .ref (t 11), .ref (t 12), .ref (t 13), .int sd2]))], [((t 1), .inl (cI, 6, .inl B2.1))], [((t 2), .inl (cI, 6, .inl B2.2.1))], [((t 3), .inl (cI, 6, .inl B2.2.2.1))], [((t 4), .inl (cI, 6, .inl B2.2.2.2.1))], [((t 5), .inl (cI, 6, .inl B2.2.2.2.2.1))], [((t 7), .inl (cI, 9, .inl B2.2.2.2.2.2.1))], [((t 8), .inl (cI, 9, .inl B2.2.2.2.2.2.2.1))], [((t 9), .inl (cI, 9, .inl B2.2.2.2.2.2.2.2.1))], [((t 11), .inl (cI, 4, .inl B2.2.2.2.2.2.2.2.2.1))], [((t 12), .inl (cI, 4, .inl B2.2.2.2.2.2.2.2.2.2.1))], [((t 13), .inl (cI, 4, .inl B2.2.2.2.2.2.2.2.2.2.2))]]) (pc2 := 145) O (c_X0_copyRow l D cI cC cJ (t 13) (b 13) B2.2.2.2.2.2.2.2.2.2.2 B.2.2.2.2.2.2.2.2.2.2 4 (by first | assumption | omega)) sC_X0_copyFrom_69 rfl rfl dX0_copyFrom_142 [23, 11] rfl rfl rfl rfl (Nat.le_of_ble_eq_true rfl) rfl ?_
  show Z _ _ _ []
  refine zr_flat (ws2 := [bookW cI b P2 Q2 H2 sd ((s_X0_copyRow B2.1), (s_X0_copyRow B2.2.1), (s_X0_copyRow B2.2.2.1), (s_X0_copyRow B2.2.2.2.1), (s_X0_copyRow B2.2.2.2.2.1), (s_X0_copyRow B2.2.2.2.2.2.1), (s_X0_copyRow B2.2.2.2.2.2.2.1), (s_X0_copyRow B2.2.2.2.2.2.2.2.1), (s_X0_copyRow B2.2.2.2.2.2.2.2.2.1), (s_X0_copyRow B2.2.2.2.2.2.2.2.2.2.1), (s_X0_copyRow B2.2.2.2.2.2.2.2.2.2.2)), bookW cI t P2 Q2 H2 sd2 B2]) O rfl ?_
  refine zr_aload_n (pc2 := 146) O dX0_copyFrom_145 rfl 0 rfl rfl ?_
  refine zr_aload_n (pc2 := 147) O dX0_copyFrom_146 rfl 1 rfl rfl ?_
  refine zr_getf (v := .int sd2) (pc2 := 150) O sF_X0_copyFrom_55 1 0 rfl rfl rfl dX0_copyFrom_147 rfl ?_
  refine zr_putf (G2 := bookW cI b P2 Q2 H2 sd2 ((s_X0_copyRow B2.1), (s_X0_copyRow B2.2.1), (s_X0_copyRow B2.2.2.1), (s_X0_copyRow B2.2.2.2.1), (s_X0_copyRow B2.2.2.2.2.1), (s_X0_copyRow B2.2.2.2.2.2.1), (s_X0_copyRow B2.2.2.2.2.2.2.1), (s_X0_copyRow B2.2.2.2.2.2.2.2.1), (s_X0_copyRow B2.2.2.2.2.2.2.2.2.1), (s_X0_copyRow B2.2.2.2.2.2.2.2.2.2.1), (s_X0_copyRow B2.2.2.2.2.2.2.2.2.2.2))) (ws2 := [bookW cI b P2 Q2 H2 sd2 ((s_X0_copyRow B2.1), (s_X0_copyRow B2.2.1), (s_X0_copyRow B2.2.2.1), (s_X0_copyRow B2.2.2.2.1), (s_X0_copyRow B2.2.2.2.2.1), (s_X0_copyRow B2.2.2.2.2.2.1), (s_X0_copyRow B2.2.2.2.2.2.2.1), (s_X0_copyRow B2.2.2.2.2.2.2.2.1), (s_X0_copyRow B2.2.2.2.2.2.2.2.2.1), (s_X0_copyRow B2.2.2.2.2.2.2.2.2.2.1), (s_X0_copyRow B2.2.2.2.2.2.2.2.2.2.2)), bookW cI t P2 Q2 H2 sd2 B2]) (pc2 := 153) O sP_X0_copyFrom_55 0 0 rfl rfl rfl rfl (Nat.le_of_ble_eq_true rfl) dX0_copyFrom_150 rfl rfl rfl ?_
  refine zr_cast (ws2 := [bookW cI b P2 Q2 H2 sd2 B2, bookW cI t P2 Q2 H2 sd2 B2]) rfl ?_
  have hE : s_X0_copyFrom P2 Q2 H2 sd2 B2 = (P2, Q2, H2, sd2, B2) := by exact rfl
  exact hret _ _ _ dX0_copyFrom_153 (by rw [hE])
