/-! ===== the law's loop ===== -/
theorem law_end {i L : Nat} (hL : L ≤ 2560) (hi : i ≤ 2565) (h : ¬ nI L - nI 5 < nI i) : i + 5 ≤ L := by
  rw [Int32.lt_iff_toInt_lt, Int32.toInt_sub, nI_toInt (by omega), nI_toInt (by decide), nI_toInt (by omega), Int.bmod_def] at h
  split at h <;> omega
theorem law_and (x : Int32) : ∃ q : Nat, q < 32 ∧ x &&& nI 31 = nI q := by
  refine ⟨(x &&& nI 31).toBitVec.toNat, ?_, ?_⟩
  · rw [Int32.toBitVec_and, BitVec.toNat_and]
    exact Nat.lt_of_le_of_lt Nat.and_le_right (by decide)
  · apply Int32.toBitVec.inj
    show (x &&& nI 31).toBitVec = (Int32.ofNat _).toBitVec
    rw [Int32.toBitVec_ofNat']
    rw [BitVec.ofNat_toNat, BitVec.setWidth_eq]
section
variable {l : Launch} {D : va_G} {A : Nat → Prop} {bS L : Nat} {xs : Nat → Int32} {Z : List va_W → zL → Nat → List Value → Prop} {cI cC cJ : ClassId} {x : Nat} {c r b y t w h g k j m : Nat → Nat}
set_option maxHeartbeats 4000000 in
set_option maxRecDepth 100000 in
theorem law_loop (O : zLO l room_1 cL_law 4 wsL_law RL D (zT cI cC cJ) A bS L xs Z) (hL : L ≤ 2560) (hend : ∀ ws lv, Z ws lv 932 [.int (nI 1)]) : ∀ (f i9 : Nat), L ≤ i9 + f → i9 ≤ 2565 → ∀ {old : Bool} {kb n : Nat} {Le : Nat → Int32} {pl : Nat} {Nu : Nat → Int32} {P Q Hn : Nat} {sd : Int32} {B : zB} {hav : Int32} {Y : zY} {PA : Nat → Nat → Int32} {P2 Q2 H2 : Nat} {sd2 : Int32} {B2 : zB} {hav2 : Int32} {Y2 : zY} {PA2 : Nat → Nat → Int32} {cn : Nat} {Ch : zC} {sn : Nat} {Sg : zC} {P3 Q3 H3 : Nat} {sd3 : Int32} {B3 : zB} {P4 Q4 H4 : Nat} {sd4 : Int32} {B4 : zB} {mle mpo mfa mrm mrw mP mQ mbk mkp msg mwm : Nat} {mrs msd mls mhd : Int32} {mtx mnu mrd mrl mpe mno mbo mim msi mwi mon mdi mco mgo mbr mca : zF}, SYS old kb n Le P Q Hn sd B hav Y PA cn Ch sn Sg P3 Q3 H3 sd3 B3 P4 Q4 H4 sd4 B4 mle mP mQ mbk mkp msg msd mtx mpe mno mbo mim msi → Z (lawW cI cC cJ x c r b y t w h g k j m old kb n Le pl Nu P Q Hn sd B hav Y PA P2 Q2 H2 sd2 B2 hav2 Y2 PA2 cn Ch sn Sg P3 Q3 H3 sd3 B3 P4 Q4 H4 sd4 B4 mle mpo mfa mrm mrw mP mQ mbk mkp msg mwm mrs msd mls mhd mtx mnu mrd mrl mpe mno mbo mim msi mwi mon mdi mco mgo mbr mca) [(3, .int (nI i9)), (2, .ref (m 31)), (1, .ref x), (0, .ref bS)] 18 [] := by
  intro f
  induction f with
  | zero =>
    intro i9 h0 h1 old kb n Le pl Nu P Q Hn sd B hav Y PA P2 Q2 H2 sd2 B2 hav2 Y2 PA2 cn Ch sn Sg P3 Q3 H3 sd3 B3 P4 Q4 H4 sd4 B4 mle mpo mfa mrm mrw mP mQ mbk mkp msg mwm mrs msd mls mhd mtx mnu mrd mrl mpe mno mbo mim msi mwi mon mdi mco mgo mbr mca hS
    refine zr_iload_n (pc2 := 19) O.ok dL_law_18 rfl 0 rfl rfl ?_
    refine zr_aload_n (pc2 := 20) O.ok dL_law_19 rfl 3 rfl rfl ?_
    refine zl_slen (pc2 := 21) O dL_law_20 rfl ?_
    refine zr_iconst (v := nI 5) (pc2 := 22) O.ok dL_law_21 (by decide +kernel) rfl ?_
    refine zr_isub (v := nI L - nI 5) (pc2 := 23) O.ok dL_law_22 rfl rfl ?_
    refine zr_icmp_gt (pc2 := 26) (tgt := 931) O.ok dL_law_23 rfl rfl (fun _ => ?_) (fun h9 => absurd (law_end hL h1 h9) (by omega))
    refine zr_iconst (v := nI 1) (pc2 := 932) O.ok dL_law_931 (by decide +kernel) rfl ?_
    exact hend _ _
  | succ f ih =>
    intro i9 h0 h1 old kb n Le pl Nu P Q Hn sd B hav Y PA P2 Q2 H2 sd2 B2 hav2 Y2 PA2 cn Ch sn Sg P3 Q3 H3 sd3 B3 P4 Q4 H4 sd4 B4 mle mpo mfa mrm mrw mP mQ mbk mkp msg mwm mrs msd mls mhd mtx mnu mrd mrl mpe mno mbo mim msi mwi mon mdi mco mgo mbr mca hS
    refine zr_iload_n (pc2 := 19) O.ok dL_law_18 rfl 0 rfl rfl ?_
    refine zr_aload_n (pc2 := 20) O.ok dL_law_19 rfl 3 rfl rfl ?_
    refine zl_slen (pc2 := 21) O dL_law_20 rfl ?_
    refine zr_iconst (v := nI 5) (pc2 := 22) O.ok dL_law_21 (by decide +kernel) rfl ?_
    refine zr_isub (v := nI L - nI 5) (pc2 := 23) O.ok dL_law_22 rfl rfl ?_
    refine zr_icmp_gt (pc2 := 26) (tgt := 931) O.ok dL_law_23 rfl rfl (fun _ => ?_) (fun h9 => ?_)
    · refine zr_iconst (v := nI 1) (pc2 := 932) O.ok dL_law_931 (by decide +kernel) rfl ?_
      exact hend _ _
    have hi := law_end hL h1 h9
    have NX : ∀ {old : Bool} {kb n : Nat} {Le : Nat → Int32} {pl : Nat} {Nu : Nat → Int32} {P Q Hn : Nat} {sd : Int32} {B : zB} {hav : Int32} {Y : zY} {PA : Nat → Nat → Int32} {P2 Q2 H2 : Nat} {sd2 : Int32} {B2 : zB} {hav2 : Int32} {Y2 : zY} {PA2 : Nat → Nat → Int32} {cn : Nat} {Ch : zC} {sn : Nat} {Sg : zC} {P3 Q3 H3 : Nat} {sd3 : Int32} {B3 : zB} {P4 Q4 H4 : Nat} {sd4 : Int32} {B4 : zB} {mle mpo mfa mrm mrw mP mQ mbk mkp msg mwm : Nat} {mrs msd mls mhd : Int32} {mtx mnu mrd mrl mpe mno mbo mim msi mwi mon mdi mco mgo mbr mca : zF}, SYS old kb n Le P Q Hn sd B hav Y PA cn Ch sn Sg P3 Q3 H3 sd3 B3 P4 Q4 H4 sd4 B4 mle mP mQ mbk mkp msg msd mtx mpe mno mbo mim msi → Z (lawW cI cC cJ x c r b y t w h g k j m old kb n Le pl Nu P Q Hn sd B hav Y PA P2 Q2 H2 sd2 B2 hav2 Y2 PA2 cn Ch sn Sg P3 Q3 H3 sd3 B3 P4 Q4 H4 sd4 B4 mle mpo mfa mrm mrw mP mQ mbk mkp msg mwm mrs msd mls mhd mtx mnu mrd mrl mpe mno mbo mim msi mwi mon mdi mco mgo mbr mca) [(3, .int (nI i9)), (2, .ref (m 31)), (1, .ref x), (0, .ref bS)] 925 [] := by
      intro old kb n Le pl Nu P Q Hn sd B hav Y PA P2 Q2 H2 sd2 B2 hav2 Y2 PA2 cn Ch sn Sg P3 Q3 H3 sd3 B3 P4 Q4 H4 sd4 B4 mle mpo mfa mrm mrw mP mQ mbk mkp msg mwm mrs msd mls mhd mtx mnu mrd mrl mpe mno mbo mim msi mwi mon mdi mco mgo mbr mca hS
      refine zr_iinc (v := nI (i9 + 5)) (pc2 := 928) (lv2 := [(3, .int (nI (i9 + 5))), (2, .ref (m 31)), (1, .ref x), (0, .ref bS)]) O.ok dL_law_925 0 rfl (nI_add i9 5) (by decide) rfl rfl ?_
      refine zr_goto (tgt := 18) O.ok dL_law_928 rfl ?_
      exact ih (i9 + 5) (by omega) (by omega) hS
    refine zr_aload_n (pc2 := 27) O.ok dL_law_26 rfl 3 rfl rfl ?_
    refine zr_iload_n (pc2 := 28) O.ok dL_law_27 rfl 0 rfl rfl ?_
    refine zl_sld (i := i9) (pc2 := 29) O (by omega) hL dL_law_28 rfl ?_
    refine zr_bipush (v := nI 31) (pc2 := 31) O.ok dL_law_29 (by decide +kernel) rfl ?_
    refine zr_iand (pc2 := 32) O.ok dL_law_31 rfl rfl ?_
    obtain ⟨q, hq1, hq⟩ := law_and (xs i9)
    rcases (show q = 0 ∨ q = 1 ∨ q = 2 ∨ q = 3 ∨ q = 4 ∨ q = 5 ∨ q = 6 ∨ q = 7 ∨ q = 8 ∨ q = 9 ∨ q = 10 ∨ q = 11 ∨ q = 12 ∨ q = 13 ∨ q = 14 ∨ q = 15 ∨ q = 16 ∨ q = 17 ∨ q = 18 ∨ q = 19 ∨ q = 20 ∨ q = 21 ∨ q = 22 ∨ q = 23 ∨ q = 24 ∨ q = 25 ∨ q = 26 ∨ q = 27 ∨ q = 28 ∨ q = 29 ∨ q = 30 ∨ q = 31 by omega) with rfl | rfl | rfl | rfl | rfl | rfl | rfl | rfl | rfl | rfl | rfl | rfl | rfl | rfl | rfl | rfl | rfl | rfl | rfl | rfl | rfl | rfl | rfl | rfl | rfl | rfl | rfl | rfl | rfl | rfl | rfl | rfl
    · exact zn_tabIn (y := nI 0) (off := 140) (tgt := 172) O.ok hq dL_law_32 (by decide) (by decide) rfl rfl (law_write O hL hi hS NX)
    · exact zn_tabIn (y := nI 1) (off := 163) (tgt := 195) O.ok hq dL_law_32 (by decide) (by decide) rfl rfl (law_wipe O hL hi hS NX)
    · exact zn_tabIn (y := nI 2) (off := 176) (tgt := 208) O.ok hq dL_law_32 (by decide) (by decide) rfl rfl (law_fault O hL hi hS NX)
    · exact zn_tabIn (y := nI 3) (off := 189) (tgt := 221) O.ok hq dL_law_32 (by decide) (by decide) rfl rfl (law_lay O hL hi hS NX)
    · exact zn_tabIn (y := nI 4) (off := 202) (tgt := 234) O.ok hq dL_law_32 (by decide) (by decide) rfl rfl (law_person O hL hi hS NX)
    · exact zn_tabIn (y := nI 5) (off := 235) (tgt := 267) O.ok hq dL_law_32 (by decide) (by decide) rfl rfl (law_bequest O hL hi hS NX)
    · exact zn_tabIn (y := nI 6) (off := 268) (tgt := 300) O.ok hq dL_law_32 (by decide) (by decide) rfl rfl (law_reword O hL hi hS NX)
    · exact zn_tabIn (y := nI 7) (off := 301) (tgt := 333) O.ok hq dL_law_32 (by decide) (by decide) rfl rfl (law_pass O hL hi hS NX)
    · exact zn_tabIn (y := nI 8) (off := 334) (tgt := 366) O.ok hq dL_law_32 (by decide) (by decide) rfl rfl (law_help O hL hi hS NX)
    · exact zn_tabIn (y := nI 9) (off := 377) (tgt := 409) O.ok hq dL_law_32 (by decide) (by decide) rfl rfl (law_undo O hL hi hS NX)
    · exact zn_tabIn (y := nI 10) (off := 390) (tgt := 422) O.ok hq dL_law_32 (by decide) (by decide) rfl rfl (law_dies O hL hi hS NX)
    · exact zn_tabIn (y := nI 11) (off := 413) (tgt := 445) O.ok hq dL_law_32 (by decide) (by decide) rfl rfl (law_having O hL hi hS NX)
    · exact zn_tabIn (y := nI 12) (off := 426) (tgt := 458) O.ok hq dL_law_32 (by decide) (by decide) rfl rfl (law_coins O hL hi hS NX)
    · exact zn_tabIn (y := nI 13) (off := 459) (tgt := 491) O.ok hq dL_law_32 (by decide) (by decide) rfl rfl (law_brought O hL hi hS NX)
    · exact zn_tabIn (y := nI 14) (off := 482) (tgt := 514) O.ok hq dL_law_32 (by decide) (by decide) rfl rfl (law_inherited O hL hi hS NX)
    · exact zn_tabIn (y := nI 15) (off := 505) (tgt := 537) O.ok hq dL_law_32 (by decide) (by decide) rfl rfl (law_first O hL hi hS NX)
    · exact zn_tabIn (y := nI 16) (off := 518) (tgt := 550) O.ok hq dL_law_32 (by decide) (by decide) rfl rfl (law_longest O hL hi hS NX)
    · exact zn_tabIn (y := nI 17) (off := 541) (tgt := 573) O.ok hq dL_law_32 (by decide) (by decide) rfl rfl (law_greatest O hL hi hS NX)
    · exact zn_tabIn (y := nI 18) (off := 564) (tgt := 596) O.ok hq dL_law_32 (by decide) (by decide) rfl rfl (law_needs O hL hi hS NX)
    · exact zn_tabIn (y := nI 19) (off := 587) (tgt := 619) O.ok hq dL_law_32 (by decide) (by decide) rfl rfl (law_mend O hL hi hS NX)
    · exact zn_tabIn (y := nI 20) (off := 610) (tgt := 642) O.ok hq dL_law_32 (by decide) (by decide) rfl rfl (law_limits O hL hi hS NX)
    · exact zn_tabIn (y := nI 21) (off := 633) (tgt := 665) O.ok hq dL_law_32 (by decide) (by decide) rfl rfl (law_ring O hL hi hS NX)
    · exact zn_tabIn (y := nI 22) (off := 656) (tgt := 688) O.ok hq dL_law_32 (by decide) (by decide) rfl rfl (law_owes O hL hi hS NX)
    · exact zn_tabIn (y := nI 23) (off := 679) (tgt := 711) O.ok hq dL_law_32 (by decide) (by decide) rfl rfl (law_seen O hL hi hS NX)
    · exact zn_tabIn (y := nI 24) (off := 722) (tgt := 754) O.ok hq dL_law_32 (by decide) (by decide) rfl rfl (law_forget O hL hi hS NX)
    · exact zn_tabIn (y := nI 25) (off := 735) (tgt := 767) O.ok hq dL_law_32 (by decide) (by decide) rfl rfl (law_kinds O hL hi hS NX)
    · exact zn_tabIn (y := nI 26) (off := 758) (tgt := 790) O.ok hq dL_law_32 (by decide) (by decide) rfl rfl (law_odds O hL hi hS NX)
    · exact zn_tabIn (y := nI 27) (off := 811) (tgt := 843) O.ok hq dL_law_32 (by decide) (by decide) rfl rfl (law_generations O hL hi hS NX)
    · exact zn_tabIn (y := nI 28) (off := 844) (tgt := 876) O.ok hq dL_law_32 (by decide) (by decide) rfl rfl (law_keep O hL hi hS NX)
    · exact zn_tabIn (y := nI 29) (off := 857) (tgt := 889) O.ok hq dL_law_32 (by decide) (by decide) rfl rfl (law_back O hL hi hS NX)
    · exact zn_tabIn (y := nI 30) (off := 870) (tgt := 902) O.ok hq dL_law_32 (by decide) (by decide) rfl rfl (law_count O hL hi hS NX)
    · exact zr_tabOut (tgt := 925) O.ok dL_law_32 (Or.inr (by rw [hq]; decide)) rfl (NX hS)
end
