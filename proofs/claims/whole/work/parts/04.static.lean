abbrev zF : Type := Nat → Int32
abbrev zB : Type := zF × zF × zF × zF × zF × zF × zF × zF × zF × zF × zF
abbrev zY : Type := zF × zF × zF × zF × zF × zF × zF
abbrev zM : Type := zF × zF × zF × zF × zF × zF × zF × zF × zF × zF × zF × zF × zF × zF × zF × zF
abbrev zC : Type := zF × zF × zF
/-! ===== the class's objects as lists of cells ===== -/
def zT (cI cC cJ : ClassId) : zTy := [(cI, .int), (cC, .char), (cJ, .array .int)]
def bookW (cI : ClassId) (b : Nat → Nat) (P Q Hn : Nat) (sd : Int32) (B : zB) : va_W := [(b 0, .inr (0, [.int (nI P), .ref (b 1), .ref (b 2), .ref (b 3), .ref (b 4), .ref (b 5), .int (nI Q), .ref (b 7), .ref (b 8), .ref (b 9), .int (nI Hn), .ref (b 11), .ref (b 12), .ref (b 13), .int sd])), (b 1, .inl (cI, 6, .inl (B.1))), (b 2, .inl (cI, 6, .inl (B.2.1))), (b 3, .inl (cI, 6, .inl (B.2.2.1))), (b 4, .inl (cI, 6, .inl (B.2.2.2.1))), (b 5, .inl (cI, 6, .inl (B.2.2.2.2.1))), (b 7, .inl (cI, 9, .inl (B.2.2.2.2.2.1))), (b 8, .inl (cI, 9, .inl (B.2.2.2.2.2.2.1))), (b 9, .inl (cI, 9, .inl (B.2.2.2.2.2.2.2.1))), (b 11, .inl (cI, 4, .inl (B.2.2.2.2.2.2.2.2.1))), (b 12, .inl (cI, 4, .inl (B.2.2.2.2.2.2.2.2.2.1))), (b 13, .inl (cI, 4, .inl (B.2.2.2.2.2.2.2.2.2.2)))]
def yearsW (cI cJ : ClassId) (y : Nat → Nat) (bk : Nat) (hav : Int32) (Y : zY) (PA : Nat → Nat → Int32) : va_W := [(y 0, .inr (5, [.ref bk, .ref (y 1), .ref (y 2), .ref (y 3), .ref (y 4), .ref (y 5), .ref (y 6), .ref (y 7), .ref (y 8), .int hav])), (y 1, .inl (cI, 6, .inl (Y.1))), (y 2, .inl (cI, 6, .inl (Y.2.1))), (y 3, .inl (cI, 6, .inl (Y.2.2.1))), (y 4, .inl (cI, 6, .inl (Y.2.2.2.1))), (y 5, .inl (cI, 6, .inl (Y.2.2.2.2.1))), (y 6, .inl (cI, 6, .inl (Y.2.2.2.2.2.1))), (y 7, .inl (cI, 9, .inl (Y.2.2.2.2.2.2))), (y 8, .inl (cJ, 6, .inr (.inr (.inr (.inr (fun i => if i < 6 then some (y (10 + i)) else none)))))), (y 10, .inl (cI, 151, .inl (PA 0))), (y 11, .inl (cI, 151, .inl (PA 1))), (y 12, .inl (cI, 151, .inl (PA 2))), (y 13, .inl (cI, 151, .inl (PA 3))), (y 14, .inl (cI, 151, .inl (PA 4))), (y 15, .inl (cI, 151, .inl (PA 5)))]
def scrollW (cC : ClassId) (c : Nat → Nat) (n : Nat) (L : Nat → Int32) : va_W := [(c 1, .inr (3, [.ref (c 0), .int (nI n)])), (c 0, .inl (cC, 200, .inl L))]
def readerW (cI : ClassId) (r : Nat → Nat) (sc pl : Nat) (N : Nat → Int32) : va_W := [(r 0, .inr (2, [.ref sc, .ref (r 1), .int (nI pl)])), (r 1, .inl (cI, 4, .inl N))]
def changesW (cI : ClassId) (h : Nat → Nat) (cn : Nat) (C : zC) : va_W := [(h 3, .inr (1, [.ref (h 0), .ref (h 1), .ref (h 2), .int (nI cn)])), (h 0, .inl (cI, 8, .inl (C.1))), (h 1, .inl (cI, 8, .inl (C.2.1))), (h 2, .inl (cI, 8, .inl (C.2.2)))]
def sightsW (cI : ClassId) (g : Nat → Nat) (sn : Nat) (S : zC) : va_W := [(g 3, .inr (4, [.ref (g 0), .ref (g 1), .ref (g 2), .int (nI sn)])), (g 0, .inl (cI, 8, .inl (S.1))), (g 1, .inl (cI, 8, .inl (S.2.1))), (g 2, .inl (cI, 8, .inl (S.2.2)))]
def mainW (x c0 r0 b0 y0 : Nat) (old : Bool) (t0 w0 h0 g0 k0 j0 : Nat) (kb : Nat) : va_W := [(x, .inr (6, [.ref c0, .ref r0, .ref b0, .ref y0, .int (zb old), .ref t0, .ref w0, .ref h0, .ref g0, .ref k0, .ref j0, .int (nI kb)]))]
def modW (cI : ClassId) (m : Nat → Nat) (mle mpo mfa mrm mrw mP mQ mbk mkp msg mwm : Nat) (mrs msd mls mhd : Int32) (mtx mnu mrd mrl mpe mno mbo mim msi mwi mon mdi mco mgo mbr mca : zF) : va_W := [(m 31, .inr (7, [.int (nI mle), .ref (m 1), .int (nI mpo), .ref (m 3), .int (nI mfa), .int (nI mrm), .int (nI mrw), .ref (m 7), .ref (m 8), .int mrs, .int (nI mP), .ref (m 11), .int (nI mQ), .int msd, .ref (m 14), .ref (m 15), .int (nI mbk), .ref (m 17), .int (nI mkp), .int (nI msg), .ref (m 20), .ref (m 21), .int (nI mwm), .ref (m 23), .int mls, .ref (m 25), .ref (m 26), .ref (m 27), .ref (m 28), .int mhd, .ref (m 30)])), (m 1, .inl (cI, 200, .inl mtx)), (m 3, .inl (cI, 4, .inl mnu)), (m 7, .inl (cI, 30, .inl mrd)), (m 8, .inl (cI, 27, .inl mrl)), (m 11, .inl (cI, 30, .inl mpe)), (m 14, .inl (cI, 40, .inl mno)), (m 15, .inl (cI, 320, .inl mbo)), (m 17, .inl (cI, 80, .inl mim)), (m 20, .inl (cI, 24, .inl msi)), (m 21, .inl (cI, 30, .inl mwi)), (m 23, .inl (cI, 30, .inl mon)), (m 25, .inl (cI, 6, .inl mdi)), (m 26, .inl (cI, 6, .inl mco)), (m 27, .inl (cI, 6, .inl mgo)), (m 28, .inl (cI, 10, .inl mbr)), (m 30, .inl (cI, 906, .inl mca))]
/-! ===== rooms ===== -/
abbrev rm_X0_clear : Room := { frames := 0, cells := 0, slots := 0, locals := 0 }
abbrev rm_X0_hasPerson : Room := { frames := 0, cells := 0, slots := 0, locals := 0 }
abbrev rm_X0_hasBequest : Room := { frames := 0, cells := 0, slots := 0, locals := 0 }
abbrev rm_X6_isWithin : Room := { frames := 0, cells := 0, slots := 0, locals := 0 }
abbrev rm_X0_addPerson : Room := { frames := 1, cells := 0, slots := 0, locals := 22 }
abbrev rm_X0_addBequest : Room := { frames := 1, cells := 0, slots := 0, locals := 22 }
abbrev rm_X0_addGift : Room := { frames := 1, cells := 0, slots := 0, locals := 22 }
abbrev rm_X0_putSeed : Room := { frames := 1, cells := 0, slots := 0, locals := 22 }
abbrev rm_X0_addHelp : Room := { frames := 0, cells := 0, slots := 0, locals := 0 }
abbrev rm_X0_dropLastHelp : Room := { frames := 0, cells := 0, slots := 0, locals := 0 }
abbrev rm_X0_voidBequest : Room := { frames := 1, cells := 0, slots := 0, locals := 21 }
abbrev rm_X0_voidBequestsOf : Room := { frames := 0, cells := 0, slots := 0, locals := 0 }
abbrev rm_X0_leaves : Room := { frames := 0, cells := 0, slots := 0, locals := 0 }
abbrev rm_X0_isLeft : Room := { frames := 0, cells := 0, slots := 0, locals := 0 }
abbrev rm_X0_heirsOf : Room := { frames := 0, cells := 0, slots := 0, locals := 0 }
abbrev rm_X0_copyRow : Room := { frames := 0, cells := 0, slots := 0, locals := 0 }
abbrev rm_X0_copyFrom : Room := { frames := 1, cells := 0, slots := 0, locals := 22 }
abbrev rm_X1_clear : Room := { frames := 0, cells := 0, slots := 0, locals := 0 }
abbrev rm_X1_loseOldest : Room := { frames := 0, cells := 0, slots := 0, locals := 0 }
abbrev rm_X1_note : Room := { frames := 1, cells := 0, slots := 0, locals := 21 }
abbrev rm_X1_takeBack : Room := { frames := 1, cells := 0, slots := 0, locals := 21 }
abbrev rm_X3_at : Room := { frames := 0, cells := 0, slots := 0, locals := 0 }
abbrev rm_X2_numbersOf : Room := { frames := 0, cells := 0, slots := 0, locals := 0 }
abbrev rm_X2_isFigure : Room := { frames := 0, cells := 0, slots := 0, locals := 0 }
abbrev rm_X2_readNumber : Room := { frames := 1, cells := 0, slots := 0, locals := 21 }
abbrev rm_X2_readNumbers : Room := { frames := 2, cells := 0, slots := 0, locals := 42 }
abbrev rm_X2_readItem : Room := { frames := 3, cells := 0, slots := 0, locals := 65 }
abbrev rm_X2_readInto : Room := { frames := 4, cells := 0, slots := 0, locals := 88 }
abbrev rm_X3_append : Room := { frames := 0, cells := 0, slots := 0, locals := 0 }
abbrev rm_X3_clear : Room := { frames := 0, cells := 0, slots := 0, locals := 0 }
abbrev rm_X4_clear : Room := { frames := 0, cells := 0, slots := 0, locals := 0 }
abbrev rm_X4_add : Room := { frames := 0, cells := 0, slots := 0, locals := 0 }
abbrev rm_X4_fit : Room := { frames := 0, cells := 0, slots := 0, locals := 0 }
abbrev rm_X5_prepare : Room := { frames := 1, cells := 0, slots := 0, locals := 23 }
abbrev rm_X5_bear : Room := { frames := 0, cells := 0, slots := 0, locals := 0 }
abbrev rm_X5_isLiving : Room := { frames := 0, cells := 0, slots := 0, locals := 0 }
abbrev rm_X5_bringHelp : Room := { frames := 1, cells := 0, slots := 0, locals := 21 }
abbrev rm_X5_drawIsEven : Room := { frames := 0, cells := 0, slots := 0, locals := 0 }
abbrev rm_X5_wages : Room := { frames := 1, cells := 0, slots := 0, locals := 24 }
abbrev rm_X5_work : Room := { frames := 2, cells := 0, slots := 0, locals := 47 }
abbrev rm_X5_pay : Room := { frames := 1, cells := 0, slots := 0, locals := 21 }
abbrev rm_X5_die : Room := { frames := 2, cells := 0, slots := 0, locals := 45 }
abbrev rm_X5_takeTurn : Room := { frames := 3, cells := 0, slots := 0, locals := 68 }
abbrev rm_X5_run : Room := { frames := 4, cells := 0, slots := 0, locals := 92 }
abbrev rm_X5_diedHaving : Room := { frames := 0, cells := 0, slots := 0, locals := 0 }
abbrev rm_X5_firstWithout : Room := { frames := 1, cells := 0, slots := 0, locals := 21 }
abbrev rm_X5_ageReached : Room := { frames := 1, cells := 0, slots := 0, locals := 21 }
abbrev rm_X5_oldest : Room := { frames := 2, cells := 0, slots := 0, locals := 42 }
abbrev rm_X5_lastHaving : Room := { frames := 1, cells := 0, slots := 0, locals := 21 }
abbrev rm_X6_write : Room := { frames := 1, cells := 0, slots := 0, locals := 21 }
abbrev rm_X6_wipe : Room := { frames := 1, cells := 0, slots := 0, locals := 20 }
abbrev rm_X6_fault : Room := { frames := 5, cells := 0, slots := 0, locals := 111 }
abbrev rm_X6_lay : Room := { frames := 5, cells := 0, slots := 0, locals := 111 }
abbrev rm_X6_person : Room := { frames := 1, cells := 0, slots := 0, locals := 23 }
abbrev rm_X6_bequest : Room := { frames := 1, cells := 0, slots := 0, locals := 21 }
abbrev rm_X6_reword : Room := { frames := 2, cells := 0, slots := 0, locals := 44 }
abbrev rm_X6_pass : Room := { frames := 2, cells := 0, slots := 0, locals := 44 }
abbrev rm_X6_help : Room := { frames := 2, cells := 0, slots := 0, locals := 44 }
abbrev rm_X6_undo : Room := { frames := 2, cells := 0, slots := 0, locals := 43 }
abbrev rm_X6_lived : Room := { frames := 5, cells := 0, slots := 0, locals := 114 }
abbrev rm_X6_dies : Room := { frames := 6, cells := 0, slots := 0, locals := 134 }
abbrev rm_X6_having : Room := { frames := 6, cells := 0, slots := 0, locals := 134 }
abbrev rm_X6_coins : Room := { frames := 6, cells := 0, slots := 0, locals := 134 }
abbrev rm_X6_brought : Room := { frames := 6, cells := 0, slots := 0, locals := 134 }
abbrev rm_X6_inherited : Room := { frames := 6, cells := 0, slots := 0, locals := 134 }
abbrev rm_X6_first : Room := { frames := 6, cells := 0, slots := 0, locals := 134 }
abbrev rm_X6_longest : Room := { frames := 6, cells := 0, slots := 0, locals := 134 }
abbrev rm_X6_mostEverHeld : Room := { frames := 5, cells := 0, slots := 0, locals := 114 }
abbrev rm_X6_greatest : Room := { frames := 6, cells := 0, slots := 0, locals := 135 }
abbrev rm_X6_needs : Room := { frames := 6, cells := 0, slots := 0, locals := 135 }
abbrev rm_X6_mend : Room := { frames := 5, cells := 0, slots := 0, locals := 114 }
abbrev rm_X6_limits : Room := { frames := 5, cells := 0, slots := 0, locals := 114 }
abbrev rm_X6_fewestBack : Room := { frames := 1, cells := 0, slots := 0, locals := 23 }
abbrev rm_X6_ring : Room := { frames := 2, cells := 0, slots := 0, locals := 46 }
abbrev rm_X6_owes : Room := { frames := 1, cells := 0, slots := 0, locals := 23 }
abbrev rm_X6_seen : Room := { frames := 1, cells := 0, slots := 0, locals := 23 }
abbrev rm_X6_forget : Room := { frames := 1, cells := 0, slots := 0, locals := 20 }
abbrev rm_X6_kinds : Room := { frames := 5, cells := 0, slots := 0, locals := 114 }
abbrev rm_X6_waysToGain : Room := { frames := 0, cells := 0, slots := 0, locals := 0 }
abbrev rm_X6_odds : Room := { frames := 1, cells := 0, slots := 0, locals := 25 }
abbrev rm_X6_generations : Room := { frames := 5, cells := 0, slots := 0, locals := 114 }
abbrev rm_X6_keptPlace : Room := { frames := 0, cells := 0, slots := 0, locals := 0 }
abbrev rm_X6_keep : Room := { frames := 2, cells := 0, slots := 0, locals := 43 }
abbrev rm_X6_back : Room := { frames := 2, cells := 0, slots := 0, locals := 43 }
abbrev rm_X6_count : Room := { frames := 0, cells := 0, slots := 0, locals := 0 }
abbrev rm_X7_layOne : Room := { frames := 0, cells := 0, slots := 0, locals := 0 }
abbrev rm_X7_layWill : Room := { frames := 0, cells := 0, slots := 0, locals := 0 }
abbrev rm_X7_in : Room := { frames := 0, cells := 0, slots := 0, locals := 0 }
abbrev rm_X7_isOne : Room := { frames := 1, cells := 0, slots := 0, locals := 22 }
abbrev rm_X7_isWill : Room := { frames := 1, cells := 0, slots := 0, locals := 22 }
abbrev rm_X7_write : Room := { frames := 1, cells := 0, slots := 0, locals := 22 }
abbrev rm_X7_wipe : Room := { frames := 0, cells := 0, slots := 0, locals := 0 }
abbrev rm_X7_letterAt : Room := { frames := 0, cells := 0, slots := 0, locals := 0 }
abbrev rm_X7_isRow : Room := { frames := 1, cells := 0, slots := 0, locals := 22 }
abbrev rm_X7_isItem : Room := { frames := 2, cells := 0, slots := 0, locals := 46 }
abbrev rm_X7_isRead : Room := { frames := 3, cells := 0, slots := 0, locals := 69 }
abbrev rm_X7_fault : Room := { frames := 4, cells := 0, slots := 0, locals := 89 }
abbrev rm_X7_lay : Room := { frames := 4, cells := 0, slots := 0, locals := 89 }
abbrev rm_X7_leavesOf : Room := { frames := 0, cells := 0, slots := 0, locals := 0 }
abbrev rm_X7_person : Room := { frames := 2, cells := 0, slots := 0, locals := 43 }
abbrev rm_X7_bequest : Room := { frames := 2, cells := 0, slots := 0, locals := 43 }
abbrev rm_X7_copy : Room := { frames := 0, cells := 0, slots := 0, locals := 0 }
abbrev rm_X7_note : Room := { frames := 1, cells := 0, slots := 0, locals := 24 }
abbrev rm_X7_reword : Room := { frames := 2, cells := 0, slots := 0, locals := 45 }
abbrev rm_X7_pass : Room := { frames := 2, cells := 0, slots := 0, locals := 45 }
abbrev rm_X7_help : Room := { frames := 2, cells := 0, slots := 0, locals := 45 }
abbrev rm_X7_undo : Room := { frames := 1, cells := 0, slots := 0, locals := 24 }
abbrev rm_X7_prepare : Room := { frames := 0, cells := 0, slots := 0, locals := 0 }
abbrev rm_X7_lives : Room := { frames := 0, cells := 0, slots := 0, locals := 0 }
abbrev rm_X7_gainOf : Room := { frames := 0, cells := 0, slots := 0, locals := 0 }
abbrev rm_X7_leaving : Room := { frames := 0, cells := 0, slots := 0, locals := 0 }
abbrev rm_X7_die : Room := { frames := 1, cells := 0, slots := 0, locals := 22 }
abbrev rm_X7_turn : Room := { frames := 2, cells := 0, slots := 0, locals := 47 }
abbrev rm_X7_run : Room := { frames := 3, cells := 0, slots := 0, locals := 71 }
abbrev rm_X7_runPlain : Room := { frames := 4, cells := 0, slots := 0, locals := 94 }
abbrev rm_X7_dies : Room := { frames := 5, cells := 0, slots := 0, locals := 114 }
abbrev rm_X7_having : Room := { frames := 5, cells := 0, slots := 0, locals := 114 }
abbrev rm_X7_coins : Room := { frames := 5, cells := 0, slots := 0, locals := 114 }
abbrev rm_X7_brought : Room := { frames := 5, cells := 0, slots := 0, locals := 114 }
abbrev rm_X7_inherited : Room := { frames := 5, cells := 0, slots := 0, locals := 114 }
abbrev rm_X7_first : Room := { frames := 5, cells := 0, slots := 0, locals := 114 }
abbrev rm_X7_longest : Room := { frames := 5, cells := 0, slots := 0, locals := 114 }
abbrev rm_X7_prepareBut : Room := { frames := 1, cells := 0, slots := 0, locals := 21 }
abbrev rm_X7_has : Room := { frames := 0, cells := 0, slots := 0, locals := 0 }
abbrev rm_X7_hadMany : Room := { frames := 0, cells := 0, slots := 0, locals := 0 }
abbrev rm_X7_greatest : Room := { frames := 4, cells := 0, slots := 0, locals := 94 }
abbrev rm_X7_needs : Room := { frames := 4, cells := 0, slots := 0, locals := 94 }
abbrev rm_X7_mend : Room := { frames := 4, cells := 0, slots := 0, locals := 94 }
abbrev rm_X7_limits : Room := { frames := 4, cells := 0, slots := 0, locals := 94 }
abbrev rm_X7_ring : Room := { frames := 2, cells := 0, slots := 0, locals := 43 }
abbrev rm_X7_owes : Room := { frames := 2, cells := 0, slots := 0, locals := 43 }
abbrev rm_X7_seen : Room := { frames := 2, cells := 0, slots := 0, locals := 43 }
abbrev rm_X7_forget : Room := { frames := 0, cells := 0, slots := 0, locals := 0 }
abbrev rm_X7_kinds : Room := { frames := 4, cells := 0, slots := 0, locals := 94 }
abbrev rm_X7_odds : Room := { frames := 2, cells := 0, slots := 0, locals := 43 }
abbrev rm_X7_generations : Room := { frames := 4, cells := 0, slots := 0, locals := 94 }
abbrev rm_X7_keep : Room := { frames := 1, cells := 0, slots := 0, locals := 24 }
abbrev rm_X7_back : Room := { frames := 1, cells := 0, slots := 0, locals := 24 }
abbrev rm_X7_count : Room := { frames := 0, cells := 0, slots := 0, locals := 0 }
abbrev rm_J6_bitCount_0f7a4 : Room := { frames := 0, cells := 0, slots := 0, locals := 0 }
/-! ===== static facts of the methods ===== -/
theorem inw_X0_init_X0 : ∀ w ∈ u_ws RX0 TX0 15, w ∈ wsX0_init := fun w h => List.mem_cons_of_mem _ (List.mem_append_right _ h)
theorem sP_X0_init_9 : zPF wsX0_init RX0 9 0 0 .int := ⟨RX0, TX0, 15, tyX0, rfl, inw_X0_init_X0, by decide, rfl, Or.inr (List.mem_of_getElem? (i := 4) (by rfl)), tyX0_ok, nmX0, rfl, by decide +kernel⟩
theorem sP_X0_init_31 : zPF wsX0_init RX0 31 0 6 .int := ⟨RX0, TX0, 15, tyX0, rfl, inw_X0_init_X0, by decide, rfl, Or.inr (List.mem_of_getElem? (i := 11) (by rfl)), tyX0_ok, nmX0, rfl, by decide +kernel⟩
theorem sP_X0_init_43 : zPF wsX0_init RX0 43 0 10 .int := ⟨RX0, TX0, 15, tyX0, rfl, inw_X0_init_X0, by decide, rfl, Or.inr (List.mem_of_getElem? (i := 15) (by rfl)), tyX0_ok, nmX0, rfl, by decide +kernel⟩
theorem sP_X0_init_55 : zPF wsX0_init RX0 55 0 14 .int := ⟨RX0, TX0, 15, tyX0, rfl, inw_X0_init_X0, by decide, rfl, Or.inr (List.mem_of_getElem? (i := 19) (by rfl)), tyX0_ok, nmX0, rfl, by decide +kernel⟩
theorem inw_X0_clear_X0 : ∀ w ∈ u_ws RX0 TX0 15, w ∈ wsX0_clear := fun w h => List.mem_cons_of_mem _ (List.mem_append_right _ h)
theorem sP_X0_clear_9 : zPF wsX0_clear RX0 9 0 0 .int := ⟨RX0, TX0, 15, tyX0, rfl, inw_X0_clear_X0, by decide, rfl, Or.inr (List.mem_of_getElem? (i := 1) (by rfl)), tyX0_ok, nmX0, rfl, by decide +kernel⟩
theorem sP_X0_clear_31 : zPF wsX0_clear RX0 31 0 6 .int := ⟨RX0, TX0, 15, tyX0, rfl, inw_X0_clear_X0, by decide, rfl, Or.inr (List.mem_of_getElem? (i := 2) (by rfl)), tyX0_ok, nmX0, rfl, by decide +kernel⟩
theorem sP_X0_clear_43 : zPF wsX0_clear RX0 43 0 10 .int := ⟨RX0, TX0, 15, tyX0, rfl, inw_X0_clear_X0, by decide, rfl, Or.inr (List.mem_of_getElem? (i := 3) (by rfl)), tyX0_ok, nmX0, rfl, by decide +kernel⟩
theorem sP_X0_clear_55 : zPF wsX0_clear RX0 55 0 14 .int := ⟨RX0, TX0, 15, tyX0, rfl, inw_X0_clear_X0, by decide, rfl, Or.inr (List.mem_of_getElem? (i := 4) (by rfl)), tyX0_ok, nmX0, rfl, by decide +kernel⟩
theorem inw_X0_hasPerson_X0 : ∀ w ∈ u_ws RX0 TX0 15, w ∈ wsX0_hasPerson := fun w h => List.mem_cons_of_mem _ (List.mem_append_right _ h)
theorem sF_X0_hasPerson_9 : zGF wsX0_hasPerson RX0 9 0 0 := ⟨RX0, TX0, 15, rfl, inw_X0_hasPerson_X0, by decide, rfl, Or.inr (List.mem_of_getElem? (i := 1) (by rfl))⟩
theorem inw_X0_hasBequest_X0 : ∀ w ∈ u_ws RX0 TX0 15, w ∈ wsX0_hasBequest := fun w h => List.mem_cons_of_mem _ (List.mem_append_right _ h)
theorem sF_X0_hasBequest_31 : zGF wsX0_hasBequest RX0 31 0 6 := ⟨RX0, TX0, 15, rfl, inw_X0_hasBequest_X0, by decide, rfl, Or.inr (List.mem_of_getElem? (i := 1) (by rfl))⟩
theorem inw_X0_addPerson_X0 : ∀ w ∈ u_ws RX0 TX0 15, w ∈ wsX0_addPerson := fun w h => List.mem_cons_of_mem _ (List.mem_append_right _ h)
theorem sF_X0_addPerson_9 : zGF wsX0_addPerson RX0 9 0 0 := ⟨RX0, TX0, 15, rfl, inw_X0_addPerson_X0, by decide, rfl, Or.inr (List.mem_of_getElem? (i := 1) (by rfl))⟩
theorem sF_X0_addPerson_15 : zGF wsX0_addPerson RX0 15 0 1 := ⟨RX0, TX0, 15, rfl, inw_X0_addPerson_X0, by decide, rfl, Or.inr (List.mem_of_getElem? (i := 2) (by rfl))⟩
theorem sF_X0_addPerson_19 : zGF wsX0_addPerson RX0 19 0 2 := ⟨RX0, TX0, 15, rfl, inw_X0_addPerson_X0, by decide, rfl, Or.inr (List.mem_of_getElem? (i := 3) (by rfl))⟩
theorem sF_X0_addPerson_22 : zGF wsX0_addPerson RX0 22 0 3 := ⟨RX0, TX0, 15, rfl, inw_X0_addPerson_X0, by decide, rfl, Or.inr (List.mem_of_getElem? (i := 4) (by rfl))⟩
theorem sF_X0_addPerson_25 : zGF wsX0_addPerson RX0 25 0 4 := ⟨RX0, TX0, 15, rfl, inw_X0_addPerson_X0, by decide, rfl, Or.inr (List.mem_of_getElem? (i := 5) (by rfl))⟩
theorem sF_X0_addPerson_28 : zGF wsX0_addPerson RX0 28 0 5 := ⟨RX0, TX0, 15, rfl, inw_X0_addPerson_X0, by decide, rfl, Or.inr (List.mem_of_getElem? (i := 6) (by rfl))⟩
theorem sP_X0_addPerson_9 : zPF wsX0_addPerson RX0 9 0 0 .int := ⟨RX0, TX0, 15, tyX0, rfl, inw_X0_addPerson_X0, by decide, rfl, Or.inr (List.mem_of_getElem? (i := 1) (by rfl)), tyX0_ok, nmX0, rfl, by decide +kernel⟩
theorem sC_X0_addPerson_58 : zSN rm_X0_addPerson wsX0_addPerson RX0 58 yX6_isWithin wsX6_isWithin rm_X6_isWithin 3 := ⟨_, _, _, _, "WillsReadFirst", rfl, gX0_addPerson_X6_isWithin_n58, ⟨List.mem_of_getElem? (i := 44) (by rfl), List.mem_of_getElem? (i := 8) (by rfl), List.mem_of_getElem? (i := 7) (by rfl)⟩, ⟨rfl, rfl⟩, by decide +kernel, by decide⟩
theorem inw_X0_addBequest_X0 : ∀ w ∈ u_ws RX0 TX0 15, w ∈ wsX0_addBequest := fun w h => List.mem_cons_of_mem _ (List.mem_append_right _ h)
theorem sF_X0_addBequest_31 : zGF wsX0_addBequest RX0 31 0 6 := ⟨RX0, TX0, 15, rfl, inw_X0_addBequest_X0, by decide, rfl, Or.inr (List.mem_of_getElem? (i := 1) (by rfl))⟩
theorem sF_X0_addBequest_34 : zGF wsX0_addBequest RX0 34 0 7 := ⟨RX0, TX0, 15, rfl, inw_X0_addBequest_X0, by decide, rfl, Or.inr (List.mem_of_getElem? (i := 2) (by rfl))⟩
theorem sF_X0_addBequest_37 : zGF wsX0_addBequest RX0 37 0 8 := ⟨RX0, TX0, 15, rfl, inw_X0_addBequest_X0, by decide, rfl, Or.inr (List.mem_of_getElem? (i := 3) (by rfl))⟩
theorem sF_X0_addBequest_40 : zGF wsX0_addBequest RX0 40 0 9 := ⟨RX0, TX0, 15, rfl, inw_X0_addBequest_X0, by decide, rfl, Or.inr (List.mem_of_getElem? (i := 4) (by rfl))⟩
theorem sP_X0_addBequest_31 : zPF wsX0_addBequest RX0 31 0 6 .int := ⟨RX0, TX0, 15, tyX0, rfl, inw_X0_addBequest_X0, by decide, rfl, Or.inr (List.mem_of_getElem? (i := 1) (by rfl)), tyX0_ok, nmX0, rfl, by decide +kernel⟩
theorem sC_X0_addBequest_62 : zSV rm_X0_addBequest wsX0_addBequest RX0 62 yX0_hasPerson wsX0_hasPerson rm_X0_hasPerson 1 := ⟨_, _, _, _, rfl, gX0_addBequest_X0_hasPerson, ⟨rfl, rfl⟩, by decide +kernel, by decide⟩
theorem sC_X0_addBequest_58 : zSN rm_X0_addBequest wsX0_addBequest RX0 58 yX6_isWithin wsX6_isWithin rm_X6_isWithin 3 := ⟨_, _, _, _, "WillsReadFirst", rfl, gX0_addBequest_X6_isWithin_n58, ⟨List.mem_of_getElem? (i := 44) (by rfl), List.mem_of_getElem? (i := 12) (by rfl), List.mem_of_getElem? (i := 11) (by rfl)⟩, ⟨rfl, rfl⟩, by decide +kernel, by decide⟩
theorem inw_X0_addGift_X0 : ∀ w ∈ u_ws RX0 TX0 15, w ∈ wsX0_addGift := fun w h => List.mem_cons_of_mem _ (List.mem_append_right _ h)
theorem sF_X0_addGift_28 : zGF wsX0_addGift RX0 28 0 5 := ⟨RX0, TX0, 15, rfl, inw_X0_addGift_X0, by decide, rfl, Or.inr (List.mem_of_getElem? (i := 1) (by rfl))⟩
theorem sC_X0_addGift_62 : zSV rm_X0_addGift wsX0_addGift RX0 62 yX0_hasPerson wsX0_hasPerson rm_X0_hasPerson 1 := ⟨_, _, _, _, rfl, gX0_addGift_X0_hasPerson, ⟨rfl, rfl⟩, by decide +kernel, by decide⟩
theorem sC_X0_addGift_58 : zSN rm_X0_addGift wsX0_addGift RX0 58 yX6_isWithin wsX6_isWithin rm_X6_isWithin 3 := ⟨_, _, _, _, "WillsReadFirst", rfl, gX0_addGift_X6_isWithin_n58, ⟨List.mem_of_getElem? (i := 44) (by rfl), List.mem_of_getElem? (i := 9) (by rfl), List.mem_of_getElem? (i := 8) (by rfl)⟩, ⟨rfl, rfl⟩, by decide +kernel, by decide⟩
theorem inw_X0_putSeed_X0 : ∀ w ∈ u_ws RX0 TX0 15, w ∈ wsX0_putSeed := fun w h => List.mem_cons_of_mem _ (List.mem_append_right _ h)
theorem sP_X0_putSeed_55 : zPF wsX0_putSeed RX0 55 0 14 .int := ⟨RX0, TX0, 15, tyX0, rfl, inw_X0_putSeed_X0, by decide, rfl, Or.inr (List.mem_of_getElem? (i := 1) (by rfl)), tyX0_ok, nmX0, rfl, by decide +kernel⟩
theorem sC_X0_putSeed_58 : zSN rm_X0_putSeed wsX0_putSeed RX0 58 yX6_isWithin wsX6_isWithin rm_X6_isWithin 3 := ⟨_, _, _, _, "WillsReadFirst", rfl, gX0_putSeed_X6_isWithin_n58, ⟨List.mem_of_getElem? (i := 44) (by rfl), List.mem_of_getElem? (i := 3) (by rfl), List.mem_of_getElem? (i := 2) (by rfl)⟩, ⟨rfl, rfl⟩, by decide +kernel, by decide⟩
theorem inw_X0_addHelp_X0 : ∀ w ∈ u_ws RX0 TX0 15, w ∈ wsX0_addHelp := fun w h => List.mem_cons_of_mem _ (List.mem_append_right _ h)
theorem sF_X0_addHelp_43 : zGF wsX0_addHelp RX0 43 0 10 := ⟨RX0, TX0, 15, rfl, inw_X0_addHelp_X0, by decide, rfl, Or.inr (List.mem_of_getElem? (i := 1) (by rfl))⟩
theorem sF_X0_addHelp_46 : zGF wsX0_addHelp RX0 46 0 11 := ⟨RX0, TX0, 15, rfl, inw_X0_addHelp_X0, by decide, rfl, Or.inr (List.mem_of_getElem? (i := 2) (by rfl))⟩
theorem sF_X0_addHelp_49 : zGF wsX0_addHelp RX0 49 0 12 := ⟨RX0, TX0, 15, rfl, inw_X0_addHelp_X0, by decide, rfl, Or.inr (List.mem_of_getElem? (i := 3) (by rfl))⟩
theorem sF_X0_addHelp_52 : zGF wsX0_addHelp RX0 52 0 13 := ⟨RX0, TX0, 15, rfl, inw_X0_addHelp_X0, by decide, rfl, Or.inr (List.mem_of_getElem? (i := 4) (by rfl))⟩
theorem sP_X0_addHelp_43 : zPF wsX0_addHelp RX0 43 0 10 .int := ⟨RX0, TX0, 15, tyX0, rfl, inw_X0_addHelp_X0, by decide, rfl, Or.inr (List.mem_of_getElem? (i := 1) (by rfl)), tyX0_ok, nmX0, rfl, by decide +kernel⟩
theorem inw_X0_dropLastHelp_X0 : ∀ w ∈ u_ws RX0 TX0 15, w ∈ wsX0_dropLastHelp := fun w h => List.mem_cons_of_mem _ (List.mem_append_right _ h)
theorem sF_X0_dropLastHelp_43 : zGF wsX0_dropLastHelp RX0 43 0 10 := ⟨RX0, TX0, 15, rfl, inw_X0_dropLastHelp_X0, by decide, rfl, Or.inr (List.mem_of_getElem? (i := 1) (by rfl))⟩
theorem sP_X0_dropLastHelp_43 : zPF wsX0_dropLastHelp RX0 43 0 10 .int := ⟨RX0, TX0, 15, tyX0, rfl, inw_X0_dropLastHelp_X0, by decide, rfl, Or.inr (List.mem_of_getElem? (i := 1) (by rfl)), tyX0_ok, nmX0, rfl, by decide +kernel⟩
theorem inw_X0_voidBequest_X0 : ∀ w ∈ u_ws RX0 TX0 15, w ∈ wsX0_voidBequest := fun w h => List.mem_cons_of_mem _ (List.mem_append_right _ h)
theorem sF_X0_voidBequest_40 : zGF wsX0_voidBequest RX0 40 0 9 := ⟨RX0, TX0, 15, rfl, inw_X0_voidBequest_X0, by decide, rfl, Or.inr (List.mem_of_getElem? (i := 1) (by rfl))⟩
theorem sC_X0_voidBequest_66 : zSV rm_X0_voidBequest wsX0_voidBequest RX0 66 yX0_hasBequest wsX0_hasBequest rm_X0_hasBequest 1 := ⟨_, _, _, _, rfl, gX0_voidBequest_X0_hasBequest, ⟨rfl, rfl⟩, by decide +kernel, by decide⟩
theorem inw_X0_voidBequestsOf_X0 : ∀ w ∈ u_ws RX0 TX0 15, w ∈ wsX0_voidBequestsOf := fun w h => List.mem_cons_of_mem _ (List.mem_append_right _ h)
theorem sF_X0_voidBequestsOf_31 : zGF wsX0_voidBequestsOf RX0 31 0 6 := ⟨RX0, TX0, 15, rfl, inw_X0_voidBequestsOf_X0, by decide, rfl, Or.inr (List.mem_of_getElem? (i := 1) (by rfl))⟩
theorem sF_X0_voidBequestsOf_34 : zGF wsX0_voidBequestsOf RX0 34 0 7 := ⟨RX0, TX0, 15, rfl, inw_X0_voidBequestsOf_X0, by decide, rfl, Or.inr (List.mem_of_getElem? (i := 2) (by rfl))⟩
theorem sF_X0_voidBequestsOf_40 : zGF wsX0_voidBequestsOf RX0 40 0 9 := ⟨RX0, TX0, 15, rfl, inw_X0_voidBequestsOf_X0, by decide, rfl, Or.inr (List.mem_of_getElem? (i := 3) (by rfl))⟩
theorem inw_X0_leaves_X0 : ∀ w ∈ u_ws RX0 TX0 15, w ∈ wsX0_leaves := fun w h => List.mem_cons_of_mem _ (List.mem_append_right _ h)
theorem sF_X0_leaves_31 : zGF wsX0_leaves RX0 31 0 6 := ⟨RX0, TX0, 15, rfl, inw_X0_leaves_X0, by decide, rfl, Or.inr (List.mem_of_getElem? (i := 1) (by rfl))⟩
theorem sF_X0_leaves_34 : zGF wsX0_leaves RX0 34 0 7 := ⟨RX0, TX0, 15, rfl, inw_X0_leaves_X0, by decide, rfl, Or.inr (List.mem_of_getElem? (i := 2) (by rfl))⟩
theorem sF_X0_leaves_40 : zGF wsX0_leaves RX0 40 0 9 := ⟨RX0, TX0, 15, rfl, inw_X0_leaves_X0, by decide, rfl, Or.inr (List.mem_of_getElem? (i := 3) (by rfl))⟩
theorem inw_X0_isLeft_X0 : ∀ w ∈ u_ws RX0 TX0 15, w ∈ wsX0_isLeft := fun w h => List.mem_cons_of_mem _ (List.mem_append_right _ h)
theorem sF_X0_isLeft_31 : zGF wsX0_isLeft RX0 31 0 6 := ⟨RX0, TX0, 15, rfl, inw_X0_isLeft_X0, by decide, rfl, Or.inr (List.mem_of_getElem? (i := 1) (by rfl))⟩
theorem sF_X0_isLeft_37 : zGF wsX0_isLeft RX0 37 0 8 := ⟨RX0, TX0, 15, rfl, inw_X0_isLeft_X0, by decide, rfl, Or.inr (List.mem_of_getElem? (i := 2) (by rfl))⟩
theorem sF_X0_isLeft_40 : zGF wsX0_isLeft RX0 40 0 9 := ⟨RX0, TX0, 15, rfl, inw_X0_isLeft_X0, by decide, rfl, Or.inr (List.mem_of_getElem? (i := 3) (by rfl))⟩
theorem inw_X0_heirsOf_X0 : ∀ w ∈ u_ws RX0 TX0 15, w ∈ wsX0_heirsOf := fun w h => List.mem_cons_of_mem _ (List.mem_append_right _ h)
theorem sF_X0_heirsOf_31 : zGF wsX0_heirsOf RX0 31 0 6 := ⟨RX0, TX0, 15, rfl, inw_X0_heirsOf_X0, by decide, rfl, Or.inr (List.mem_of_getElem? (i := 1) (by rfl))⟩
theorem sF_X0_heirsOf_34 : zGF wsX0_heirsOf RX0 34 0 7 := ⟨RX0, TX0, 15, rfl, inw_X0_heirsOf_X0, by decide, rfl, Or.inr (List.mem_of_getElem? (i := 2) (by rfl))⟩
theorem sF_X0_heirsOf_37 : zGF wsX0_heirsOf RX0 37 0 8 := ⟨RX0, TX0, 15, rfl, inw_X0_heirsOf_X0, by decide, rfl, Or.inr (List.mem_of_getElem? (i := 3) (by rfl))⟩
theorem inw_X0_copyFrom_X0 : ∀ w ∈ u_ws RX0 TX0 15, w ∈ wsX0_copyFrom := fun w h => List.mem_cons_of_mem _ (List.mem_append_right _ h)
theorem sF_X0_copyFrom_9 : zGF wsX0_copyFrom RX0 9 0 0 := ⟨RX0, TX0, 15, rfl, inw_X0_copyFrom_X0, by decide, rfl, Or.inr (List.mem_of_getElem? (i := 1) (by rfl))⟩
theorem sP_X0_copyFrom_9 : zPF wsX0_copyFrom RX0 9 0 0 .int := ⟨RX0, TX0, 15, tyX0, rfl, inw_X0_copyFrom_X0, by decide, rfl, Or.inr (List.mem_of_getElem? (i := 1) (by rfl)), tyX0_ok, nmX0, rfl, by decide +kernel⟩
theorem sF_X0_copyFrom_15 : zGF wsX0_copyFrom RX0 15 0 1 := ⟨RX0, TX0, 15, rfl, inw_X0_copyFrom_X0, by decide, rfl, Or.inr (List.mem_of_getElem? (i := 2) (by rfl))⟩
theorem sF_X0_copyFrom_19 : zGF wsX0_copyFrom RX0 19 0 2 := ⟨RX0, TX0, 15, rfl, inw_X0_copyFrom_X0, by decide, rfl, Or.inr (List.mem_of_getElem? (i := 3) (by rfl))⟩
theorem sF_X0_copyFrom_22 : zGF wsX0_copyFrom RX0 22 0 3 := ⟨RX0, TX0, 15, rfl, inw_X0_copyFrom_X0, by decide, rfl, Or.inr (List.mem_of_getElem? (i := 4) (by rfl))⟩
theorem sF_X0_copyFrom_25 : zGF wsX0_copyFrom RX0 25 0 4 := ⟨RX0, TX0, 15, rfl, inw_X0_copyFrom_X0, by decide, rfl, Or.inr (List.mem_of_getElem? (i := 5) (by rfl))⟩
theorem sF_X0_copyFrom_28 : zGF wsX0_copyFrom RX0 28 0 5 := ⟨RX0, TX0, 15, rfl, inw_X0_copyFrom_X0, by decide, rfl, Or.inr (List.mem_of_getElem? (i := 6) (by rfl))⟩
theorem sF_X0_copyFrom_31 : zGF wsX0_copyFrom RX0 31 0 6 := ⟨RX0, TX0, 15, rfl, inw_X0_copyFrom_X0, by decide, rfl, Or.inr (List.mem_of_getElem? (i := 7) (by rfl))⟩
theorem sP_X0_copyFrom_31 : zPF wsX0_copyFrom RX0 31 0 6 .int := ⟨RX0, TX0, 15, tyX0, rfl, inw_X0_copyFrom_X0, by decide, rfl, Or.inr (List.mem_of_getElem? (i := 7) (by rfl)), tyX0_ok, nmX0, rfl, by decide +kernel⟩
theorem sF_X0_copyFrom_34 : zGF wsX0_copyFrom RX0 34 0 7 := ⟨RX0, TX0, 15, rfl, inw_X0_copyFrom_X0, by decide, rfl, Or.inr (List.mem_of_getElem? (i := 8) (by rfl))⟩
theorem sF_X0_copyFrom_37 : zGF wsX0_copyFrom RX0 37 0 8 := ⟨RX0, TX0, 15, rfl, inw_X0_copyFrom_X0, by decide, rfl, Or.inr (List.mem_of_getElem? (i := 9) (by rfl))⟩
theorem sF_X0_copyFrom_40 : zGF wsX0_copyFrom RX0 40 0 9 := ⟨RX0, TX0, 15, rfl, inw_X0_copyFrom_X0, by decide, rfl, Or.inr (List.mem_of_getElem? (i := 10) (by rfl))⟩
theorem sF_X0_copyFrom_43 : zGF wsX0_copyFrom RX0 43 0 10 := ⟨RX0, TX0, 15, rfl, inw_X0_copyFrom_X0, by decide, rfl, Or.inr (List.mem_of_getElem? (i := 11) (by rfl))⟩
theorem sP_X0_copyFrom_43 : zPF wsX0_copyFrom RX0 43 0 10 .int := ⟨RX0, TX0, 15, tyX0, rfl, inw_X0_copyFrom_X0, by decide, rfl, Or.inr (List.mem_of_getElem? (i := 11) (by rfl)), tyX0_ok, nmX0, rfl, by decide +kernel⟩
theorem sF_X0_copyFrom_46 : zGF wsX0_copyFrom RX0 46 0 11 := ⟨RX0, TX0, 15, rfl, inw_X0_copyFrom_X0, by decide, rfl, Or.inr (List.mem_of_getElem? (i := 12) (by rfl))⟩
theorem sF_X0_copyFrom_49 : zGF wsX0_copyFrom RX0 49 0 12 := ⟨RX0, TX0, 15, rfl, inw_X0_copyFrom_X0, by decide, rfl, Or.inr (List.mem_of_getElem? (i := 13) (by rfl))⟩
theorem sF_X0_copyFrom_52 : zGF wsX0_copyFrom RX0 52 0 13 := ⟨RX0, TX0, 15, rfl, inw_X0_copyFrom_X0, by decide, rfl, Or.inr (List.mem_of_getElem? (i := 14) (by rfl))⟩
theorem sF_X0_copyFrom_55 : zGF wsX0_copyFrom RX0 55 0 14 := ⟨RX0, TX0, 15, rfl, inw_X0_copyFrom_X0, by decide, rfl, Or.inr (List.mem_of_getElem? (i := 15) (by rfl))⟩
theorem sP_X0_copyFrom_55 : zPF wsX0_copyFrom RX0 55 0 14 .int := ⟨RX0, TX0, 15, tyX0, rfl, inw_X0_copyFrom_X0, by decide, rfl, Or.inr (List.mem_of_getElem? (i := 15) (by rfl)), tyX0_ok, nmX0, rfl, by decide +kernel⟩
theorem sC_X0_copyFrom_69 : zSS rm_X0_copyFrom wsX0_copyFrom RX0 69 yX0_copyRow wsX0_copyRow rm_X0_copyRow 2 := ⟨_, _, _, _, rfl, gX0_copyFrom_X0_copyRow, ⟨rfl, rfl⟩, by decide +kernel, by decide⟩
theorem inw_X1_init_X1 : ∀ w ∈ u_ws RX1 TX1 4, w ∈ wsX1_init := fun w h => List.mem_cons_of_mem _ (List.mem_append_right _ h)
theorem sP_X1_init_21 : zPF wsX1_init RX1 21 1 3 .int := ⟨RX1, TX1, 4, tyX1, rfl, inw_X1_init_X1, by decide, rfl, Or.inr (List.mem_of_getElem? (i := 8) (by rfl)), tyX1_ok, nmX1, rfl, by decide +kernel⟩
theorem inw_X1_clear_X1 : ∀ w ∈ u_ws RX1 TX1 4, w ∈ wsX1_clear := fun w h => List.mem_cons_of_mem _ (List.mem_append_right _ h)
theorem sP_X1_clear_21 : zPF wsX1_clear RX1 21 1 3 .int := ⟨RX1, TX1, 4, tyX1, rfl, inw_X1_clear_X1, by decide, rfl, Or.inr (List.mem_of_getElem? (i := 1) (by rfl)), tyX1_ok, nmX1, rfl, by decide +kernel⟩
theorem inw_X1_loseOldest_X1 : ∀ w ∈ u_ws RX1 TX1 4, w ∈ wsX1_loseOldest := fun w h => List.mem_cons_of_mem _ (List.mem_append_right _ h)
theorem sF_X1_loseOldest_9 : zGF wsX1_loseOldest RX1 9 1 0 := ⟨RX1, TX1, 4, rfl, inw_X1_loseOldest_X1, by decide, rfl, Or.inr (List.mem_of_getElem? (i := 1) (by rfl))⟩
theorem sF_X1_loseOldest_15 : zGF wsX1_loseOldest RX1 15 1 1 := ⟨RX1, TX1, 4, rfl, inw_X1_loseOldest_X1, by decide, rfl, Or.inr (List.mem_of_getElem? (i := 2) (by rfl))⟩
theorem sF_X1_loseOldest_18 : zGF wsX1_loseOldest RX1 18 1 2 := ⟨RX1, TX1, 4, rfl, inw_X1_loseOldest_X1, by decide, rfl, Or.inr (List.mem_of_getElem? (i := 3) (by rfl))⟩
theorem sP_X1_loseOldest_21 : zPF wsX1_loseOldest RX1 21 1 3 .int := ⟨RX1, TX1, 4, tyX1, rfl, inw_X1_loseOldest_X1, by decide, rfl, Or.inr (List.mem_of_getElem? (i := 4) (by rfl)), tyX1_ok, nmX1, rfl, by decide +kernel⟩
theorem inw_X1_note_X1 : ∀ w ∈ u_ws RX1 TX1 4, w ∈ wsX1_note := fun w h => List.mem_cons_of_mem _ (List.mem_append_right _ h)
theorem sF_X1_note_21 : zGF wsX1_note RX1 21 1 3 := ⟨RX1, TX1, 4, rfl, inw_X1_note_X1, by decide, rfl, Or.inr (List.mem_of_getElem? (i := 1) (by rfl))⟩
theorem sF_X1_note_9 : zGF wsX1_note RX1 9 1 0 := ⟨RX1, TX1, 4, rfl, inw_X1_note_X1, by decide, rfl, Or.inr (List.mem_of_getElem? (i := 2) (by rfl))⟩
theorem sF_X1_note_15 : zGF wsX1_note RX1 15 1 1 := ⟨RX1, TX1, 4, rfl, inw_X1_note_X1, by decide, rfl, Or.inr (List.mem_of_getElem? (i := 3) (by rfl))⟩
theorem sF_X1_note_18 : zGF wsX1_note RX1 18 1 2 := ⟨RX1, TX1, 4, rfl, inw_X1_note_X1, by decide, rfl, Or.inr (List.mem_of_getElem? (i := 4) (by rfl))⟩
theorem sP_X1_note_21 : zPF wsX1_note RX1 21 1 3 .int := ⟨RX1, TX1, 4, tyX1, rfl, inw_X1_note_X1, by decide, rfl, Or.inr (List.mem_of_getElem? (i := 1) (by rfl)), tyX1_ok, nmX1, rfl, by decide +kernel⟩
theorem sC_X1_note_25 : zSV rm_X1_note wsX1_note RX1 25 yX1_loseOldest wsX1_loseOldest rm_X1_loseOldest 0 := ⟨_, _, _, _, rfl, gX1_note_X1_loseOldest, ⟨rfl, rfl⟩, by decide +kernel, by decide⟩
theorem inw_X1_takeBack_X1 : ∀ w ∈ u_ws RX1 TX1 4, w ∈ wsX1_takeBack := fun w h => List.mem_cons_of_mem _ (List.mem_append_left _ (List.mem_append_right _ h))
theorem inw_X1_takeBack_X0 : ∀ w ∈ u_ws RX0 TX0 15, w ∈ wsX1_takeBack := fun w h => List.mem_cons_of_mem _ (List.mem_append_right _ h)
theorem sF_X1_takeBack_21 : zGF wsX1_takeBack RX1 21 1 3 := ⟨RX1, TX1, 4, rfl, inw_X1_takeBack_X1, by decide, rfl, Or.inr (List.mem_of_getElem? (i := 1) (by rfl))⟩
theorem sP_X1_takeBack_21 : zPF wsX1_takeBack RX1 21 1 3 .int := ⟨RX1, TX1, 4, tyX1, rfl, inw_X1_takeBack_X1, by decide, rfl, Or.inr (List.mem_of_getElem? (i := 1) (by rfl)), tyX1_ok, nmX1, rfl, by decide +kernel⟩
theorem sF_X1_takeBack_15 : zGF wsX1_takeBack RX1 15 1 1 := ⟨RX1, TX1, 4, rfl, inw_X1_takeBack_X1, by decide, rfl, Or.inr (List.mem_of_getElem? (i := 2) (by rfl))⟩
theorem sF_X1_takeBack_9 : zGF wsX1_takeBack RX1 9 1 0 := ⟨RX1, TX1, 4, rfl, inw_X1_takeBack_X1, by decide, rfl, Or.inr (List.mem_of_getElem? (i := 3) (by rfl))⟩
theorem sF_X1_takeBack_37 : zGF wsX1_takeBack RX1 37 0 9 := ⟨RX0, TX0, 15, rfl, inw_X1_takeBack_X0, by decide, rfl, Or.inl ⟨"WillsReadFirst", List.mem_of_getElem? (i := 21) (by rfl)⟩⟩
theorem sF_X1_takeBack_18 : zGF wsX1_takeBack RX1 18 1 2 := ⟨RX1, TX1, 4, rfl, inw_X1_takeBack_X1, by decide, rfl, Or.inr (List.mem_of_getElem? (i := 4) (by rfl))⟩
theorem sF_X1_takeBack_40 : zGF wsX1_takeBack RX1 40 0 8 := ⟨RX0, TX0, 15, rfl, inw_X1_takeBack_X0, by decide, rfl, Or.inl ⟨"WillsReadFirst", List.mem_of_getElem? (i := 18) (by rfl)⟩⟩
theorem sC_X1_takeBack_28 : zSV rm_X1_takeBack wsX1_takeBack RX1 28 yX0_dropLastHelp wsX0_dropLastHelp rm_X0_dropLastHelp 0 := ⟨_, _, _, _, rfl, gX1_takeBack_X0_dropLastHelp, ⟨rfl, rfl⟩, by decide +kernel, by decide⟩
theorem sC_X1_takeBack_33 : zSV rm_X1_takeBack wsX1_takeBack RX1 33 yX0_hasBequest wsX0_hasBequest rm_X0_hasBequest 1 := ⟨_, _, _, _, rfl, gX1_takeBack_X0_hasBequest, ⟨rfl, rfl⟩, by decide +kernel, by decide⟩
theorem inw_X2_init_X2 : ∀ w ∈ u_ws RX2 TX2 3, w ∈ wsX2_init := fun w h => List.mem_cons_of_mem _ (List.mem_append_right _ h)
theorem sP_X2_init_15 : zPF wsX2_init RX2 15 2 2 .int := ⟨RX2, TX2, 3, tyX2, rfl, inw_X2_init_X2, by decide, rfl, Or.inr (List.mem_of_getElem? (i := 6) (by rfl)), tyX2_ok, nmX2, rfl, by decide +kernel⟩
theorem inw_X3_at_X3 : ∀ w ∈ u_ws RX3 TX3 2, w ∈ wsX3_at := fun w h => List.mem_cons_of_mem _ (List.mem_append_right _ h)
theorem sF_X3_at_15 : zGF wsX3_at RX3 15 3 1 := ⟨RX3, TX3, 2, rfl, inw_X3_at_X3, by decide, rfl, Or.inr (List.mem_of_getElem? (i := 1) (by rfl))⟩
theorem sF_X3_at_9 : zGF wsX3_at RX3 9 3 0 := ⟨RX3, TX3, 2, rfl, inw_X3_at_X3, by decide, rfl, Or.inr (List.mem_of_getElem? (i := 2) (by rfl))⟩
theorem inw_X2_readNumber_X2 : ∀ w ∈ u_ws RX2 TX2 3, w ∈ wsX2_readNumber := fun w h => List.mem_cons_of_mem _ (List.mem_append_left _ (List.mem_append_right _ h))
theorem inw_X2_readNumber_X3 : ∀ w ∈ u_ws RX3 TX3 2, w ∈ wsX2_readNumber := fun w h => List.mem_cons_of_mem _ (List.mem_append_right _ h)
theorem sF_X2_readNumber_19 : zGF wsX2_readNumber RX2 19 2 0 := ⟨RX2, TX2, 3, rfl, inw_X2_readNumber_X2, by decide, rfl, Or.inr (List.mem_of_getElem? (i := 1) (by rfl))⟩
theorem sF_X2_readNumber_15 : zGF wsX2_readNumber RX2 15 2 2 := ⟨RX2, TX2, 3, rfl, inw_X2_readNumber_X2, by decide, rfl, Or.inr (List.mem_of_getElem? (i := 2) (by rfl))⟩
theorem sP_X2_readNumber_15 : zPF wsX2_readNumber RX2 15 2 2 .int := ⟨RX2, TX2, 3, tyX2, rfl, inw_X2_readNumber_X2, by decide, rfl, Or.inr (List.mem_of_getElem? (i := 2) (by rfl)), tyX2_ok, nmX2, rfl, by decide +kernel⟩
theorem sC_X2_readNumber_37 : zSV rm_X2_readNumber wsX2_readNumber RX2 37 yX3_at wsX3_at rm_X3_at 1 := ⟨_, _, _, _, rfl, gX2_readNumber_X3_at, ⟨rfl, rfl⟩, by decide +kernel, by decide⟩
theorem sC_X2_readNumber_64 : zSS rm_X2_readNumber wsX2_readNumber RX2 64 yX2_isFigure wsX2_isFigure rm_X2_isFigure 1 := ⟨_, _, _, _, rfl, gX2_readNumber_X2_isFigure, ⟨rfl, rfl⟩, by decide +kernel, by decide⟩
theorem inw_X2_readNumbers_X2 : ∀ w ∈ u_ws RX2 TX2 3, w ∈ wsX2_readNumbers := fun w h => List.mem_cons_of_mem _ (List.mem_append_left _ (List.mem_append_right _ h))
theorem inw_X2_readNumbers_X3 : ∀ w ∈ u_ws RX3 TX3 2, w ∈ wsX2_readNumbers := fun w h => List.mem_cons_of_mem _ (List.mem_append_right _ h)
theorem sF_X2_readNumbers_9 : zGF wsX2_readNumbers RX2 9 2 1 := ⟨RX2, TX2, 3, rfl, inw_X2_readNumbers_X2, by decide, rfl, Or.inr (List.mem_of_getElem? (i := 1) (by rfl))⟩
theorem sF_X2_readNumbers_19 : zGF wsX2_readNumbers RX2 19 2 0 := ⟨RX2, TX2, 3, rfl, inw_X2_readNumbers_X2, by decide, rfl, Or.inr (List.mem_of_getElem? (i := 2) (by rfl))⟩
theorem sF_X2_readNumbers_15 : zGF wsX2_readNumbers RX2 15 2 2 := ⟨RX2, TX2, 3, rfl, inw_X2_readNumbers_X2, by decide, rfl, Or.inr (List.mem_of_getElem? (i := 3) (by rfl))⟩
theorem sP_X2_readNumbers_15 : zPF wsX2_readNumbers RX2 15 2 2 .int := ⟨RX2, TX2, 3, tyX2, rfl, inw_X2_readNumbers_X2, by decide, rfl, Or.inr (List.mem_of_getElem? (i := 3) (by rfl)), tyX2_ok, nmX2, rfl, by decide +kernel⟩
theorem sC_X2_readNumbers_37 : zSV rm_X2_readNumbers wsX2_readNumbers RX2 37 yX3_at wsX3_at rm_X3_at 1 := ⟨_, _, _, _, rfl, gX2_readNumbers_X3_at, ⟨rfl, rfl⟩, by decide +kernel, by decide⟩
theorem sC_X2_readNumbers_64 : zSS rm_X2_readNumbers wsX2_readNumbers RX2 64 yX2_isFigure wsX2_isFigure rm_X2_isFigure 1 := ⟨_, _, _, _, rfl, gX2_readNumbers_X2_isFigure, ⟨rfl, rfl⟩, by decide +kernel, by decide⟩
theorem sC_X2_readNumbers_68 : zSV rm_X2_readNumbers wsX2_readNumbers RX2 68 yX2_readNumber wsX2_readNumber rm_X2_readNumber 0 := ⟨_, _, _, _, rfl, gX2_readNumbers_X2_readNumber, ⟨rfl, rfl⟩, by decide +kernel, by decide⟩
theorem inw_X2_readItem_X2 : ∀ w ∈ u_ws RX2 TX2 3, w ∈ wsX2_readItem := fun w h => List.mem_cons_of_mem _ (List.mem_append_left _ (List.mem_append_left _ (List.mem_append_right _ h)))
theorem inw_X2_readItem_X3 : ∀ w ∈ u_ws RX3 TX3 2, w ∈ wsX2_readItem := fun w h => List.mem_cons_of_mem _ (List.mem_append_left _ (List.mem_append_right _ h))
theorem inw_X2_readItem_X0 : ∀ w ∈ u_ws RX0 TX0 15, w ∈ wsX2_readItem := fun w h => List.mem_cons_of_mem _ (List.mem_append_right _ h)
theorem sF_X2_readItem_19 : zGF wsX2_readItem RX2 19 2 0 := ⟨RX2, TX2, 3, rfl, inw_X2_readItem_X2, by decide, rfl, Or.inr (List.mem_of_getElem? (i := 1) (by rfl))⟩
theorem sF_X2_readItem_15 : zGF wsX2_readItem RX2 15 2 2 := ⟨RX2, TX2, 3, rfl, inw_X2_readItem_X2, by decide, rfl, Or.inr (List.mem_of_getElem? (i := 2) (by rfl))⟩
theorem sP_X2_readItem_15 : zPF wsX2_readItem RX2 15 2 2 .int := ⟨RX2, TX2, 3, tyX2, rfl, inw_X2_readItem_X2, by decide, rfl, Or.inr (List.mem_of_getElem? (i := 2) (by rfl)), tyX2_ok, nmX2, rfl, by decide +kernel⟩
theorem sF_X2_readItem_9 : zGF wsX2_readItem RX2 9 2 1 := ⟨RX2, TX2, 3, rfl, inw_X2_readItem_X2, by decide, rfl, Or.inr (List.mem_of_getElem? (i := 3) (by rfl))⟩
theorem sC_X2_readItem_37 : zSV rm_X2_readItem wsX2_readItem RX2 37 yX3_at wsX3_at rm_X3_at 1 := ⟨_, _, _, _, rfl, gX2_readItem_X3_at, ⟨rfl, rfl⟩, by decide +kernel, by decide⟩
theorem sC_X2_readItem_41 : zSS rm_X2_readItem wsX2_readItem RX2 41 yX2_numbersOf wsX2_numbersOf rm_X2_numbersOf 1 := ⟨_, _, _, _, rfl, gX2_readItem_X2_numbersOf, ⟨rfl, rfl⟩, by decide +kernel, by decide⟩
theorem sC_X2_readItem_45 : zSV rm_X2_readItem wsX2_readItem RX2 45 yX2_readNumbers wsX2_readNumbers rm_X2_readNumbers 1 := ⟨_, _, _, _, rfl, gX2_readItem_X2_readNumbers, ⟨rfl, rfl⟩, by decide +kernel, by decide⟩
theorem sC_X2_readItem_49 : zSV rm_X2_readItem wsX2_readItem RX2 49 yX0_addPerson wsX0_addPerson rm_X0_addPerson 4 := ⟨_, _, _, _, rfl, gX2_readItem_X0_addPerson, ⟨rfl, rfl⟩, by decide +kernel, by decide⟩
theorem sC_X2_readItem_53 : zSV rm_X2_readItem wsX2_readItem RX2 53 yX0_addBequest wsX0_addBequest rm_X0_addBequest 3 := ⟨_, _, _, _, rfl, gX2_readItem_X0_addBequest, ⟨rfl, rfl⟩, by decide +kernel, by decide⟩
theorem sC_X2_readItem_57 : zSV rm_X2_readItem wsX2_readItem RX2 57 yX0_addGift wsX0_addGift rm_X0_addGift 2 := ⟨_, _, _, _, rfl, gX2_readItem_X0_addGift, ⟨rfl, rfl⟩, by decide +kernel, by decide⟩
theorem sC_X2_readItem_61 : zSV rm_X2_readItem wsX2_readItem RX2 61 yX0_putSeed wsX0_putSeed rm_X0_putSeed 1 := ⟨_, _, _, _, rfl, gX2_readItem_X0_putSeed, ⟨rfl, rfl⟩, by decide +kernel, by decide⟩
theorem inw_X2_readInto_X2 : ∀ w ∈ u_ws RX2 TX2 3, w ∈ wsX2_readInto := fun w h => List.mem_cons_of_mem _ (List.mem_append_left _ (List.mem_append_left _ (List.mem_append_right _ h)))
theorem inw_X2_readInto_X3 : ∀ w ∈ u_ws RX3 TX3 2, w ∈ wsX2_readInto := fun w h => List.mem_cons_of_mem _ (List.mem_append_left _ (List.mem_append_right _ h))
theorem inw_X2_readInto_X0 : ∀ w ∈ u_ws RX0 TX0 15, w ∈ wsX2_readInto := fun w h => List.mem_cons_of_mem _ (List.mem_append_right _ h)
theorem sP_X2_readInto_15 : zPF wsX2_readInto RX2 15 2 2 .int := ⟨RX2, TX2, 3, tyX2, rfl, inw_X2_readInto_X2, by decide, rfl, Or.inr (List.mem_of_getElem? (i := 1) (by rfl)), tyX2_ok, nmX2, rfl, by decide +kernel⟩
theorem sF_X2_readInto_15 : zGF wsX2_readInto RX2 15 2 2 := ⟨RX2, TX2, 3, rfl, inw_X2_readInto_X2, by decide, rfl, Or.inr (List.mem_of_getElem? (i := 1) (by rfl))⟩
theorem sF_X2_readInto_19 : zGF wsX2_readInto RX2 19 2 0 := ⟨RX2, TX2, 3, rfl, inw_X2_readInto_X2, by decide, rfl, Or.inr (List.mem_of_getElem? (i := 2) (by rfl))⟩
theorem sF_X2_readInto_28 : zGF wsX2_readInto RX2 28 3 1 := ⟨RX3, TX3, 2, rfl, inw_X2_readInto_X3, by decide, rfl, Or.inl ⟨"WillsReadFirst", List.mem_of_getElem? (i := 0) (by rfl)⟩⟩
theorem sC_X2_readInto_23 : zSV rm_X2_readInto wsX2_readInto RX2 23 yX0_clear wsX0_clear rm_X0_clear 0 := ⟨_, _, _, _, rfl, gX2_readInto_X0_clear, ⟨rfl, rfl⟩, by decide +kernel, by decide⟩
theorem sC_X2_readInto_33 : zSV rm_X2_readInto wsX2_readInto RX2 33 yX2_readItem wsX2_readItem rm_X2_readItem 1 := ⟨_, _, _, _, rfl, gX2_readInto_X2_readItem, ⟨rfl, rfl⟩, by decide +kernel, by decide⟩
theorem inw_X3_init_X3 : ∀ w ∈ u_ws RX3 TX3 2, w ∈ wsX3_init := fun w h => List.mem_cons_of_mem _ (List.mem_append_right _ h)
theorem sP_X3_init_15 : zPF wsX3_init RX3 15 3 1 .int := ⟨RX3, TX3, 2, tyX3, rfl, inw_X3_init_X3, by decide, rfl, Or.inr (List.mem_of_getElem? (i := 6) (by rfl)), tyX3_ok, nmX3, rfl, by decide +kernel⟩
theorem inw_X3_append_X3 : ∀ w ∈ u_ws RX3 TX3 2, w ∈ wsX3_append := fun w h => List.mem_cons_of_mem _ (List.mem_append_right _ h)
theorem sF_X3_append_15 : zGF wsX3_append RX3 15 3 1 := ⟨RX3, TX3, 2, rfl, inw_X3_append_X3, by decide, rfl, Or.inr (List.mem_of_getElem? (i := 1) (by rfl))⟩
theorem sF_X3_append_9 : zGF wsX3_append RX3 9 3 0 := ⟨RX3, TX3, 2, rfl, inw_X3_append_X3, by decide, rfl, Or.inr (List.mem_of_getElem? (i := 2) (by rfl))⟩
theorem sP_X3_append_15 : zPF wsX3_append RX3 15 3 1 .int := ⟨RX3, TX3, 2, tyX3, rfl, inw_X3_append_X3, by decide, rfl, Or.inr (List.mem_of_getElem? (i := 1) (by rfl)), tyX3_ok, nmX3, rfl, by decide +kernel⟩
theorem inw_X3_clear_X3 : ∀ w ∈ u_ws RX3 TX3 2, w ∈ wsX3_clear := fun w h => List.mem_cons_of_mem _ (List.mem_append_right _ h)
theorem sP_X3_clear_15 : zPF wsX3_clear RX3 15 3 1 .int := ⟨RX3, TX3, 2, tyX3, rfl, inw_X3_clear_X3, by decide, rfl, Or.inr (List.mem_of_getElem? (i := 1) (by rfl)), tyX3_ok, nmX3, rfl, by decide +kernel⟩
theorem inw_X4_init_X4 : ∀ w ∈ u_ws RX4 TX4 4, w ∈ wsX4_init := fun w h => List.mem_cons_of_mem _ (List.mem_append_right _ h)
theorem sP_X4_init_21 : zPF wsX4_init RX4 21 4 3 .int := ⟨RX4, TX4, 4, tyX4, rfl, inw_X4_init_X4, by decide, rfl, Or.inr (List.mem_of_getElem? (i := 8) (by rfl)), tyX4_ok, nmX4, rfl, by decide +kernel⟩
theorem inw_X4_clear_X4 : ∀ w ∈ u_ws RX4 TX4 4, w ∈ wsX4_clear := fun w h => List.mem_cons_of_mem _ (List.mem_append_right _ h)
theorem sP_X4_clear_21 : zPF wsX4_clear RX4 21 4 3 .int := ⟨RX4, TX4, 4, tyX4, rfl, inw_X4_clear_X4, by decide, rfl, Or.inr (List.mem_of_getElem? (i := 1) (by rfl)), tyX4_ok, nmX4, rfl, by decide +kernel⟩
theorem inw_X4_add_X4 : ∀ w ∈ u_ws RX4 TX4 4, w ∈ wsX4_add := fun w h => List.mem_cons_of_mem _ (List.mem_append_right _ h)
theorem sF_X4_add_21 : zGF wsX4_add RX4 21 4 3 := ⟨RX4, TX4, 4, rfl, inw_X4_add_X4, by decide, rfl, Or.inr (List.mem_of_getElem? (i := 1) (by rfl))⟩
theorem sF_X4_add_9 : zGF wsX4_add RX4 9 4 0 := ⟨RX4, TX4, 4, rfl, inw_X4_add_X4, by decide, rfl, Or.inr (List.mem_of_getElem? (i := 2) (by rfl))⟩
theorem sF_X4_add_15 : zGF wsX4_add RX4 15 4 1 := ⟨RX4, TX4, 4, rfl, inw_X4_add_X4, by decide, rfl, Or.inr (List.mem_of_getElem? (i := 3) (by rfl))⟩
theorem sF_X4_add_18 : zGF wsX4_add RX4 18 4 2 := ⟨RX4, TX4, 4, rfl, inw_X4_add_X4, by decide, rfl, Or.inr (List.mem_of_getElem? (i := 4) (by rfl))⟩
theorem sP_X4_add_21 : zPF wsX4_add RX4 21 4 3 .int := ⟨RX4, TX4, 4, tyX4, rfl, inw_X4_add_X4, by decide, rfl, Or.inr (List.mem_of_getElem? (i := 1) (by rfl)), tyX4_ok, nmX4, rfl, by decide +kernel⟩
theorem inw_X4_fit_X4 : ∀ w ∈ u_ws RX4 TX4 4, w ∈ wsX4_fit := fun w h => List.mem_cons_of_mem _ (List.mem_append_left _ (List.mem_append_right _ h))
theorem inw_X4_fit_X5 : ∀ w ∈ u_ws RX5 TX5 10, w ∈ wsX4_fit := fun w h => List.mem_cons_of_mem _ (List.mem_append_right _ h)
theorem sF_X4_fit_21 : zGF wsX4_fit RX4 21 4 3 := ⟨RX4, TX4, 4, rfl, inw_X4_fit_X4, by decide, rfl, Or.inr (List.mem_of_getElem? (i := 1) (by rfl))⟩
theorem sF_X4_fit_9 : zGF wsX4_fit RX4 9 4 0 := ⟨RX4, TX4, 4, rfl, inw_X4_fit_X4, by decide, rfl, Or.inr (List.mem_of_getElem? (i := 2) (by rfl))⟩
theorem sF_X4_fit_25 : zGF wsX4_fit RX4 25 5 8 := ⟨RX5, TX5, 10, rfl, inw_X4_fit_X5, by decide, rfl, Or.inl ⟨"WillsReadFirst", List.mem_of_getElem? (i := 35) (by rfl)⟩⟩
theorem sF_X4_fit_15 : zGF wsX4_fit RX4 15 4 1 := ⟨RX4, TX4, 4, rfl, inw_X4_fit_X4, by decide, rfl, Or.inr (List.mem_of_getElem? (i := 3) (by rfl))⟩
theorem sF_X4_fit_18 : zGF wsX4_fit RX4 18 4 2 := ⟨RX4, TX4, 4, rfl, inw_X4_fit_X4, by decide, rfl, Or.inr (List.mem_of_getElem? (i := 4) (by rfl))⟩
theorem inw_X5_init_X5 : ∀ w ∈ u_ws RX5 TX5 10, w ∈ wsX5_init := fun w h => List.mem_cons_of_mem _ (List.mem_append_right _ h)
theorem sP_X5_init_38 : zPF wsX5_init RX5 38 5 9 .int := ⟨RX5, TX5, 10, tyX5, rfl, inw_X5_init_X5, by decide, rfl, Or.inr (List.mem_of_getElem? (i := 14) (by rfl)), tyX5_ok, nmX5, rfl, by decide +kernel⟩
theorem inw_X5_prepare_X5 : ∀ w ∈ u_ws RX5 TX5 10, w ∈ wsX5_prepare := fun w h => List.mem_cons_of_mem _ (List.mem_append_left _ (List.mem_append_right _ h))
theorem inw_X5_prepare_X0 : ∀ w ∈ u_ws RX0 TX0 15, w ∈ wsX5_prepare := fun w h => List.mem_cons_of_mem _ (List.mem_append_right _ h)
theorem sP_X5_prepare_38 : zPF wsX5_prepare RX5 38 5 9 .int := ⟨RX5, TX5, 10, tyX5, rfl, inw_X5_prepare_X5, by decide, rfl, Or.inr (List.mem_of_getElem? (i := 1) (by rfl)), tyX5_ok, nmX5, rfl, by decide +kernel⟩
theorem sF_X5_prepare_42 : zGF wsX5_prepare RX5 42 5 0 := ⟨RX5, TX5, 10, rfl, inw_X5_prepare_X5, by decide, rfl, Or.inr (List.mem_of_getElem? (i := 2) (by rfl))⟩
theorem sF_X5_prepare_59 : zGF wsX5_prepare RX5 59 0 0 := ⟨RX0, TX0, 15, rfl, inw_X5_prepare_X0, by decide, rfl, Or.inl ⟨"WillsReadFirst", List.mem_of_getElem? (i := 2) (by rfl)⟩⟩
theorem sF_X5_prepare_9 : zGF wsX5_prepare RX5 9 5 1 := ⟨RX5, TX5, 10, rfl, inw_X5_prepare_X5, by decide, rfl, Or.inr (List.mem_of_getElem? (i := 3) (by rfl))⟩
theorem sF_X5_prepare_15 : zGF wsX5_prepare RX5 15 5 2 := ⟨RX5, TX5, 10, rfl, inw_X5_prepare_X5, by decide, rfl, Or.inr (List.mem_of_getElem? (i := 4) (by rfl))⟩
theorem sF_X5_prepare_18 : zGF wsX5_prepare RX5 18 5 3 := ⟨RX5, TX5, 10, rfl, inw_X5_prepare_X5, by decide, rfl, Or.inr (List.mem_of_getElem? (i := 5) (by rfl))⟩
theorem sF_X5_prepare_21 : zGF wsX5_prepare RX5 21 5 4 := ⟨RX5, TX5, 10, rfl, inw_X5_prepare_X5, by decide, rfl, Or.inr (List.mem_of_getElem? (i := 6) (by rfl))⟩
theorem sF_X5_prepare_24 : zGF wsX5_prepare RX5 24 5 5 := ⟨RX5, TX5, 10, rfl, inw_X5_prepare_X5, by decide, rfl, Or.inr (List.mem_of_getElem? (i := 7) (by rfl))⟩
theorem sF_X5_prepare_27 : zGF wsX5_prepare RX5 27 5 6 := ⟨RX5, TX5, 10, rfl, inw_X5_prepare_X5, by decide, rfl, Or.inr (List.mem_of_getElem? (i := 8) (by rfl))⟩
theorem sF_X5_prepare_72 : zGF wsX5_prepare RX5 72 0 6 := ⟨RX0, TX0, 15, rfl, inw_X5_prepare_X0, by decide, rfl, Or.inl ⟨"WillsReadFirst", List.mem_of_getElem? (i := 14) (by rfl)⟩⟩
theorem sF_X5_prepare_30 : zGF wsX5_prepare RX5 30 5 7 := ⟨RX5, TX5, 10, rfl, inw_X5_prepare_X5, by decide, rfl, Or.inr (List.mem_of_getElem? (i := 9) (by rfl))⟩
theorem sC_X5_prepare_68 : zSV rm_X5_prepare wsX5_prepare RX5 68 yX0_leaves wsX0_leaves rm_X0_leaves 1 := ⟨_, _, _, _, rfl, gX5_prepare_X0_leaves, ⟨rfl, rfl⟩, by decide +kernel, by decide⟩
theorem inw_X5_bear_X5 : ∀ w ∈ u_ws RX5 TX5 10, w ∈ wsX5_bear := fun w h => List.mem_cons_of_mem _ (List.mem_append_left _ (List.mem_append_right _ h))
theorem inw_X5_bear_X0 : ∀ w ∈ u_ws RX0 TX0 15, w ∈ wsX5_bear := fun w h => List.mem_cons_of_mem _ (List.mem_append_right _ h)
theorem sF_X5_bear_42 : zGF wsX5_bear RX5 42 5 0 := ⟨RX5, TX5, 10, rfl, inw_X5_bear_X5, by decide, rfl, Or.inr (List.mem_of_getElem? (i := 1) (by rfl))⟩
theorem sF_X5_bear_59 : zGF wsX5_bear RX5 59 0 0 := ⟨RX0, TX0, 15, rfl, inw_X5_bear_X0, by decide, rfl, Or.inl ⟨"WillsReadFirst", List.mem_of_getElem? (i := 2) (by rfl)⟩⟩
theorem sF_X5_bear_75 : zGF wsX5_bear RX5 75 0 1 := ⟨RX0, TX0, 15, rfl, inw_X5_bear_X0, by decide, rfl, Or.inl ⟨"WillsReadFirst", List.mem_of_getElem? (i := 4) (by rfl)⟩⟩
theorem sF_X5_bear_9 : zGF wsX5_bear RX5 9 5 1 := ⟨RX5, TX5, 10, rfl, inw_X5_bear_X5, by decide, rfl, Or.inr (List.mem_of_getElem? (i := 2) (by rfl))⟩
theorem sF_X5_bear_15 : zGF wsX5_bear RX5 15 5 2 := ⟨RX5, TX5, 10, rfl, inw_X5_bear_X5, by decide, rfl, Or.inr (List.mem_of_getElem? (i := 3) (by rfl))⟩
theorem sF_X5_bear_78 : zGF wsX5_bear RX5 78 0 5 := ⟨RX0, TX0, 15, rfl, inw_X5_bear_X0, by decide, rfl, Or.inl ⟨"WillsReadFirst", List.mem_of_getElem? (i := 12) (by rfl)⟩⟩
theorem inw_X5_isLiving_X5 : ∀ w ∈ u_ws RX5 TX5 10, w ∈ wsX5_isLiving := fun w h => List.mem_cons_of_mem _ (List.mem_append_left _ (List.mem_append_right _ h))
theorem inw_X5_isLiving_X0 : ∀ w ∈ u_ws RX0 TX0 15, w ∈ wsX5_isLiving := fun w h => List.mem_cons_of_mem _ (List.mem_append_right _ h)
theorem sF_X5_isLiving_42 : zGF wsX5_isLiving RX5 42 5 0 := ⟨RX5, TX5, 10, rfl, inw_X5_isLiving_X5, by decide, rfl, Or.inr (List.mem_of_getElem? (i := 1) (by rfl))⟩
theorem sF_X5_isLiving_59 : zGF wsX5_isLiving RX5 59 0 0 := ⟨RX0, TX0, 15, rfl, inw_X5_isLiving_X0, by decide, rfl, Or.inl ⟨"WillsReadFirst", List.mem_of_getElem? (i := 2) (by rfl)⟩⟩
theorem sF_X5_isLiving_9 : zGF wsX5_isLiving RX5 9 5 1 := ⟨RX5, TX5, 10, rfl, inw_X5_isLiving_X5, by decide, rfl, Or.inr (List.mem_of_getElem? (i := 2) (by rfl))⟩
theorem inw_X5_bringHelp_X5 : ∀ w ∈ u_ws RX5 TX5 10, w ∈ wsX5_bringHelp := fun w h => List.mem_cons_of_mem _ (List.mem_append_left _ (List.mem_append_right _ h))
theorem inw_X5_bringHelp_X0 : ∀ w ∈ u_ws RX0 TX0 15, w ∈ wsX5_bringHelp := fun w h => List.mem_cons_of_mem _ (List.mem_append_right _ h)
theorem sF_X5_bringHelp_42 : zGF wsX5_bringHelp RX5 42 5 0 := ⟨RX5, TX5, 10, rfl, inw_X5_bringHelp_X5, by decide, rfl, Or.inr (List.mem_of_getElem? (i := 1) (by rfl))⟩
theorem sF_X5_bringHelp_81 : zGF wsX5_bringHelp RX5 81 0 10 := ⟨RX0, TX0, 15, rfl, inw_X5_bringHelp_X0, by decide, rfl, Or.inl ⟨"WillsReadFirst", List.mem_of_getElem? (i := 24) (by rfl)⟩⟩
theorem sF_X5_bringHelp_84 : zGF wsX5_bringHelp RX5 84 0 12 := ⟨RX0, TX0, 15, rfl, inw_X5_bringHelp_X0, by decide, rfl, Or.inl ⟨"WillsReadFirst", List.mem_of_getElem? (i := 27) (by rfl)⟩⟩
theorem sF_X5_bringHelp_87 : zGF wsX5_bringHelp RX5 87 0 11 := ⟨RX0, TX0, 15, rfl, inw_X5_bringHelp_X0, by decide, rfl, Or.inl ⟨"WillsReadFirst", List.mem_of_getElem? (i := 26) (by rfl)⟩⟩
theorem sF_X5_bringHelp_15 : zGF wsX5_bringHelp RX5 15 5 2 := ⟨RX5, TX5, 10, rfl, inw_X5_bringHelp_X5, by decide, rfl, Or.inr (List.mem_of_getElem? (i := 2) (by rfl))⟩
theorem sF_X5_bringHelp_94 : zGF wsX5_bringHelp RX5 94 0 13 := ⟨RX0, TX0, 15, rfl, inw_X5_bringHelp_X0, by decide, rfl, Or.inl ⟨"WillsReadFirst", List.mem_of_getElem? (i := 28) (by rfl)⟩⟩
theorem sC_X5_bringHelp_90 : zSV rm_X5_bringHelp wsX5_bringHelp RX5 90 yX5_isLiving wsX5_isLiving rm_X5_isLiving 1 := ⟨_, _, _, _, rfl, gX5_bringHelp_X5_isLiving, ⟨rfl, rfl⟩, by decide +kernel, by decide⟩
theorem inw_X5_drawIsEven_X5 : ∀ w ∈ u_ws RX5 TX5 10, w ∈ wsX5_drawIsEven := fun w h => List.mem_cons_of_mem _ (List.mem_append_left _ (List.mem_append_right _ h))
theorem inw_X5_drawIsEven_X0 : ∀ w ∈ u_ws RX0 TX0 15, w ∈ wsX5_drawIsEven := fun w h => List.mem_cons_of_mem _ (List.mem_append_right _ h)
theorem sF_X5_drawIsEven_42 : zGF wsX5_drawIsEven RX5 42 5 0 := ⟨RX5, TX5, 10, rfl, inw_X5_drawIsEven_X5, by decide, rfl, Or.inr (List.mem_of_getElem? (i := 2) (by rfl))⟩
theorem sF_X5_drawIsEven_113 : zGF wsX5_drawIsEven RX5 113 0 14 := ⟨RX0, TX0, 15, rfl, inw_X5_drawIsEven_X0, by decide, rfl, Or.inl ⟨"WillsReadFirst", List.mem_of_getElem? (i := 29) (by rfl)⟩⟩
theorem sK_X5_drawIsEven_111 : Cond.constantLong RX5 111 7919 ∈ wsX5_drawIsEven := List.mem_of_getElem? (i := 1) (by rfl)
theorem sK_X5_drawIsEven_116 : Cond.constantLong RX5 116 6151 ∈ wsX5_drawIsEven := List.mem_of_getElem? (i := 3) (by rfl)
theorem sK_X5_drawIsEven_118 : Cond.constantLong RX5 118 3571 ∈ wsX5_drawIsEven := List.mem_of_getElem? (i := 4) (by rfl)
theorem sK_X5_drawIsEven_120 : Cond.constantLong RX5 120 65521 ∈ wsX5_drawIsEven := List.mem_of_getElem? (i := 5) (by rfl)
theorem sK_X5_drawIsEven_122 : Cond.constantLong RX5 122 8 ∈ wsX5_drawIsEven := List.mem_of_getElem? (i := 6) (by rfl)
theorem sK_X5_drawIsEven_124 : Cond.constantLong RX5 124 2 ∈ wsX5_drawIsEven := List.mem_of_getElem? (i := 7) (by rfl)
theorem inw_X5_wages_X5 : ∀ w ∈ u_ws RX5 TX5 10, w ∈ wsX5_wages := fun w h => List.mem_cons_of_mem _ (List.mem_append_left _ (List.mem_append_right _ h))
theorem inw_X5_wages_X0 : ∀ w ∈ u_ws RX0 TX0 15, w ∈ wsX5_wages := fun w h => List.mem_cons_of_mem _ (List.mem_append_right _ h)
theorem sF_X5_wages_42 : zGF wsX5_wages RX5 42 5 0 := ⟨RX5, TX5, 10, rfl, inw_X5_wages_X5, by decide, rfl, Or.inr (List.mem_of_getElem? (i := 1) (by rfl))⟩
theorem sF_X5_wages_101 : zGF wsX5_wages RX5 101 0 2 := ⟨RX0, TX0, 15, rfl, inw_X5_wages_X0, by decide, rfl, Or.inl ⟨"WillsReadFirst", List.mem_of_getElem? (i := 7) (by rfl)⟩⟩
theorem sF_X5_wages_104 : zGF wsX5_wages RX5 104 0 4 := ⟨RX0, TX0, 15, rfl, inw_X5_wages_X0, by decide, rfl, Or.inl ⟨"WillsReadFirst", List.mem_of_getElem? (i := 11) (by rfl)⟩⟩
theorem sF_X5_wages_75 : zGF wsX5_wages RX5 75 0 1 := ⟨RX0, TX0, 15, rfl, inw_X5_wages_X0, by decide, rfl, Or.inl ⟨"WillsReadFirst", List.mem_of_getElem? (i := 4) (by rfl)⟩⟩
theorem sC_X5_wages_107 : zSV rm_X5_wages wsX5_wages RX5 107 yX5_drawIsEven wsX5_drawIsEven rm_X5_drawIsEven 2 := ⟨_, _, _, _, rfl, gX5_wages_X5_drawIsEven, ⟨rfl, rfl⟩, by decide +kernel, by decide⟩
theorem inw_X5_work_X5 : ∀ w ∈ u_ws RX5 TX5 10, w ∈ wsX5_work := fun w h => List.mem_cons_of_mem _ (List.mem_append_left _ (List.mem_append_right _ h))
theorem inw_X5_work_X0 : ∀ w ∈ u_ws RX0 TX0 15, w ∈ wsX5_work := fun w h => List.mem_cons_of_mem _ (List.mem_append_right _ h)
theorem sF_X5_work_42 : zGF wsX5_work RX5 42 5 0 := ⟨RX5, TX5, 10, rfl, inw_X5_work_X5, by decide, rfl, Or.inr (List.mem_of_getElem? (i := 1) (by rfl))⟩
theorem sF_X5_work_59 : zGF wsX5_work RX5 59 0 0 := ⟨RX0, TX0, 15, rfl, inw_X5_work_X0, by decide, rfl, Or.inl ⟨"WillsReadFirst", List.mem_of_getElem? (i := 2) (by rfl)⟩⟩
theorem sF_X5_work_9 : zGF wsX5_work RX5 9 5 1 := ⟨RX5, TX5, 10, rfl, inw_X5_work_X5, by decide, rfl, Or.inr (List.mem_of_getElem? (i := 2) (by rfl))⟩
theorem sF_X5_work_75 : zGF wsX5_work RX5 75 0 1 := ⟨RX0, TX0, 15, rfl, inw_X5_work_X0, by decide, rfl, Or.inl ⟨"WillsReadFirst", List.mem_of_getElem? (i := 4) (by rfl)⟩⟩
theorem sF_X5_work_15 : zGF wsX5_work RX5 15 5 2 := ⟨RX5, TX5, 10, rfl, inw_X5_work_X5, by decide, rfl, Or.inr (List.mem_of_getElem? (i := 3) (by rfl))⟩
theorem sC_X5_work_97 : zSV rm_X5_work wsX5_work RX5 97 yX5_wages wsX5_wages rm_X5_wages 2 := ⟨_, _, _, _, rfl, gX5_work_X5_wages, ⟨rfl, rfl⟩, by decide +kernel, by decide⟩
theorem inw_X5_pay_X5 : ∀ w ∈ u_ws RX5 TX5 10, w ∈ wsX5_pay := fun w h => List.mem_cons_of_mem _ (List.mem_append_left _ (List.mem_append_right _ h))
theorem inw_X5_pay_X0 : ∀ w ∈ u_ws RX0 TX0 15, w ∈ wsX5_pay := fun w h => List.mem_cons_of_mem _ (List.mem_append_right _ h)
theorem sF_X5_pay_15 : zGF wsX5_pay RX5 15 5 2 := ⟨RX5, TX5, 10, rfl, inw_X5_pay_X5, by decide, rfl, Or.inr (List.mem_of_getElem? (i := 1) (by rfl))⟩
theorem sF_X5_pay_42 : zGF wsX5_pay RX5 42 5 0 := ⟨RX5, TX5, 10, rfl, inw_X5_pay_X5, by decide, rfl, Or.inr (List.mem_of_getElem? (i := 2) (by rfl))⟩
theorem sF_X5_pay_138 : zGF wsX5_pay RX5 138 0 9 := ⟨RX0, TX0, 15, rfl, inw_X5_pay_X0, by decide, rfl, Or.inl ⟨"WillsReadFirst", List.mem_of_getElem? (i := 23) (by rfl)⟩⟩
theorem sF_X5_pay_146 : zGF wsX5_pay RX5 146 0 8 := ⟨RX0, TX0, 15, rfl, inw_X5_pay_X0, by decide, rfl, Or.inl ⟨"WillsReadFirst", List.mem_of_getElem? (i := 20) (by rfl)⟩⟩
theorem sF_X5_pay_27 : zGF wsX5_pay RX5 27 5 6 := ⟨RX5, TX5, 10, rfl, inw_X5_pay_X5, by decide, rfl, Or.inr (List.mem_of_getElem? (i := 7) (by rfl))⟩
theorem sF_X5_pay_30 : zGF wsX5_pay RX5 30 5 7 := ⟨RX5, TX5, 10, rfl, inw_X5_pay_X5, by decide, rfl, Or.inr (List.mem_of_getElem? (i := 8) (by rfl))⟩
theorem sM_X5_pay_141 : Cond.methodLink RX5 141 Lib.Math.min.name ∈ wsX5_pay ∧ Cond.static Lib.Math.min.name ∈ wsX5_pay ∧ Cond.initialized "java/lang/Math" ∈ wsX5_pay ∧ Cond.code Lib.Math.min.name Lib.Math.min.code 2 (some .int) ∈ wsX5_pay := ⟨List.mem_of_getElem? (i := 3) (by rfl), List.mem_of_getElem? (i := 4) (by rfl), List.mem_of_getElem? (i := 5) (by rfl), List.mem_of_getElem? (i := 6) (by rfl)⟩
theorem sC_X5_pay_90 : zSV rm_X5_pay wsX5_pay RX5 90 yX5_isLiving wsX5_isLiving rm_X5_isLiving 1 := ⟨_, _, _, _, rfl, gX5_pay_X5_isLiving, ⟨rfl, rfl⟩, by decide +kernel, by decide⟩
theorem inw_X5_die_X5 : ∀ w ∈ u_ws RX5 TX5 10, w ∈ wsX5_die := fun w h => List.mem_cons_of_mem _ (List.mem_append_left _ (List.mem_append_right _ h))
theorem inw_X5_die_X0 : ∀ w ∈ u_ws RX0 TX0 15, w ∈ wsX5_die := fun w h => List.mem_cons_of_mem _ (List.mem_append_right _ h)
theorem sF_X5_die_9 : zGF wsX5_die RX5 9 5 1 := ⟨RX5, TX5, 10, rfl, inw_X5_die_X5, by decide, rfl, Or.inr (List.mem_of_getElem? (i := 1) (by rfl))⟩
theorem sF_X5_die_24 : zGF wsX5_die RX5 24 5 5 := ⟨RX5, TX5, 10, rfl, inw_X5_die_X5, by decide, rfl, Or.inr (List.mem_of_getElem? (i := 2) (by rfl))⟩
theorem sF_X5_die_42 : zGF wsX5_die RX5 42 5 0 := ⟨RX5, TX5, 10, rfl, inw_X5_die_X5, by decide, rfl, Or.inr (List.mem_of_getElem? (i := 3) (by rfl))⟩
theorem sF_X5_die_72 : zGF wsX5_die RX5 72 0 6 := ⟨RX0, TX0, 15, rfl, inw_X5_die_X0, by decide, rfl, Or.inl ⟨"WillsReadFirst", List.mem_of_getElem? (i := 14) (by rfl)⟩⟩
theorem sF_X5_die_132 : zGF wsX5_die RX5 132 0 7 := ⟨RX0, TX0, 15, rfl, inw_X5_die_X0, by decide, rfl, Or.inl ⟨"WillsReadFirst", List.mem_of_getElem? (i := 17) (by rfl)⟩⟩
theorem sF_X5_die_15 : zGF wsX5_die RX5 15 5 2 := ⟨RX5, TX5, 10, rfl, inw_X5_die_X5, by decide, rfl, Or.inr (List.mem_of_getElem? (i := 4) (by rfl))⟩
theorem sC_X5_die_135 : zSV rm_X5_die wsX5_die RX5 135 yX5_pay wsX5_pay rm_X5_pay 2 := ⟨_, _, _, _, rfl, gX5_die_X5_pay, ⟨rfl, rfl⟩, by decide +kernel, by decide⟩
theorem inw_X5_takeTurn_X5 : ∀ w ∈ u_ws RX5 TX5 10, w ∈ wsX5_takeTurn := fun w h => List.mem_cons_of_mem _ (List.mem_append_left _ (List.mem_append_right _ h))
theorem inw_X5_takeTurn_X0 : ∀ w ∈ u_ws RX0 TX0 15, w ∈ wsX5_takeTurn := fun w h => List.mem_cons_of_mem _ (List.mem_append_right _ h)
theorem sF_X5_takeTurn_9 : zGF wsX5_takeTurn RX5 9 5 1 := ⟨RX5, TX5, 10, rfl, inw_X5_takeTurn_X5, by decide, rfl, Or.inr (List.mem_of_getElem? (i := 1) (by rfl))⟩
theorem sF_X5_takeTurn_21 : zGF wsX5_takeTurn RX5 21 5 4 := ⟨RX5, TX5, 10, rfl, inw_X5_takeTurn_X5, by decide, rfl, Or.inr (List.mem_of_getElem? (i := 2) (by rfl))⟩
theorem sF_X5_takeTurn_15 : zGF wsX5_takeTurn RX5 15 5 2 := ⟨RX5, TX5, 10, rfl, inw_X5_takeTurn_X5, by decide, rfl, Or.inr (List.mem_of_getElem? (i := 3) (by rfl))⟩
theorem sF_X5_takeTurn_42 : zGF wsX5_takeTurn RX5 42 5 0 := ⟨RX5, TX5, 10, rfl, inw_X5_takeTurn_X5, by decide, rfl, Or.inr (List.mem_of_getElem? (i := 4) (by rfl))⟩
theorem sF_X5_takeTurn_75 : zGF wsX5_takeTurn RX5 75 0 1 := ⟨RX0, TX0, 15, rfl, inw_X5_takeTurn_X0, by decide, rfl, Or.inl ⟨"WillsReadFirst", List.mem_of_getElem? (i := 4) (by rfl)⟩⟩
theorem sF_X5_takeTurn_18 : zGF wsX5_takeTurn RX5 18 5 3 := ⟨RX5, TX5, 10, rfl, inw_X5_takeTurn_X5, by decide, rfl, Or.inr (List.mem_of_getElem? (i := 5) (by rfl))⟩
theorem sF_X5_takeTurn_38 : zGF wsX5_takeTurn RX5 38 5 9 := ⟨RX5, TX5, 10, rfl, inw_X5_takeTurn_X5, by decide, rfl, Or.inr (List.mem_of_getElem? (i := 6) (by rfl))⟩
theorem sP_X5_takeTurn_38 : zPF wsX5_takeTurn RX5 38 5 9 .int := ⟨RX5, TX5, 10, tyX5, rfl, inw_X5_takeTurn_X5, by decide, rfl, Or.inr (List.mem_of_getElem? (i := 6) (by rfl)), tyX5_ok, nmX5, rfl, by decide +kernel⟩
theorem sF_X5_takeTurn_129 : zGF wsX5_takeTurn RX5 129 0 3 := ⟨RX0, TX0, 15, rfl, inw_X5_takeTurn_X0, by decide, rfl, Or.inl ⟨"WillsReadFirst", List.mem_of_getElem? (i := 9) (by rfl)⟩⟩
theorem sC_X5_takeTurn_126 : zSV rm_X5_takeTurn wsX5_takeTurn RX5 126 yX5_die wsX5_die rm_X5_die 2 := ⟨_, _, _, _, rfl, gX5_takeTurn_X5_die, ⟨rfl, rfl⟩, by decide +kernel, by decide⟩
theorem inw_X5_run_X5 : ∀ w ∈ u_ws RX5 TX5 10, w ∈ wsX5_run := fun w h => List.mem_cons_of_mem _ (List.mem_append_left _ (List.mem_append_right _ h))
theorem inw_X5_run_X0 : ∀ w ∈ u_ws RX0 TX0 15, w ∈ wsX5_run := fun w h => List.mem_cons_of_mem _ (List.mem_append_right _ h)
theorem sF_X5_run_42 : zGF wsX5_run RX5 42 5 0 := ⟨RX5, TX5, 10, rfl, inw_X5_run_X5, by decide, rfl, Or.inr (List.mem_of_getElem? (i := 1) (by rfl))⟩
theorem sF_X5_run_59 : zGF wsX5_run RX5 59 0 0 := ⟨RX0, TX0, 15, rfl, inw_X5_run_X0, by decide, rfl, Or.inl ⟨"WillsReadFirst", List.mem_of_getElem? (i := 2) (by rfl)⟩⟩
theorem sF_X5_run_35 : zGF wsX5_run RX5 35 5 8 := ⟨RX5, TX5, 10, rfl, inw_X5_run_X5, by decide, rfl, Or.inr (List.mem_of_getElem? (i := 2) (by rfl))⟩
theorem sF_X5_run_15 : zGF wsX5_run RX5 15 5 2 := ⟨RX5, TX5, 10, rfl, inw_X5_run_X5, by decide, rfl, Or.inr (List.mem_of_getElem? (i := 3) (by rfl))⟩
theorem sC_X5_run_46 : zSV rm_X5_run wsX5_run RX5 46 yX5_prepare wsX5_prepare rm_X5_prepare 0 := ⟨_, _, _, _, rfl, gX5_run_X5_prepare, ⟨rfl, rfl⟩, by decide +kernel, by decide⟩
theorem sC_X5_run_49 : zSV rm_X5_run wsX5_run RX5 49 yX5_bear wsX5_bear rm_X5_bear 1 := ⟨_, _, _, _, rfl, gX5_run_X5_bear, ⟨rfl, rfl⟩, by decide +kernel, by decide⟩
theorem sC_X5_run_53 : zSV rm_X5_run wsX5_run RX5 53 yX5_bringHelp wsX5_bringHelp rm_X5_bringHelp 1 := ⟨_, _, _, _, rfl, gX5_run_X5_bringHelp, ⟨rfl, rfl⟩, by decide +kernel, by decide⟩
theorem sC_X5_run_56 : zSV rm_X5_run wsX5_run RX5 56 yX5_work wsX5_work rm_X5_work 1 := ⟨_, _, _, _, rfl, gX5_run_X5_work, ⟨rfl, rfl⟩, by decide +kernel, by decide⟩
theorem sC_X5_run_64 : zSV rm_X5_run wsX5_run RX5 64 yX5_takeTurn wsX5_takeTurn rm_X5_takeTurn 2 := ⟨_, _, _, _, rfl, gX5_run_X5_takeTurn, ⟨rfl, rfl⟩, by decide +kernel, by decide⟩
theorem inw_X5_diedHaving_X5 : ∀ w ∈ u_ws RX5 TX5 10, w ∈ wsX5_diedHaving := fun w h => List.mem_cons_of_mem _ (List.mem_append_right _ h)
theorem sF_X5_diedHaving_38 : zGF wsX5_diedHaving RX5 38 5 9 := ⟨RX5, TX5, 10, rfl, inw_X5_diedHaving_X5, by decide, rfl, Or.inr (List.mem_of_getElem? (i := 1) (by rfl))⟩
theorem inw_X5_firstWithout_X5 : ∀ w ∈ u_ws RX5 TX5 10, w ∈ wsX5_firstWithout := fun w h => List.mem_cons_of_mem _ (List.mem_append_left _ (List.mem_append_right _ h))
theorem inw_X5_firstWithout_X0 : ∀ w ∈ u_ws RX0 TX0 15, w ∈ wsX5_firstWithout := fun w h => List.mem_cons_of_mem _ (List.mem_append_right _ h)
theorem sF_X5_firstWithout_42 : zGF wsX5_firstWithout RX5 42 5 0 := ⟨RX5, TX5, 10, rfl, inw_X5_firstWithout_X5, by decide, rfl, Or.inr (List.mem_of_getElem? (i := 1) (by rfl))⟩
theorem sF_X5_firstWithout_59 : zGF wsX5_firstWithout RX5 59 0 0 := ⟨RX0, TX0, 15, rfl, inw_X5_firstWithout_X0, by decide, rfl, Or.inl ⟨"WillsReadFirst", List.mem_of_getElem? (i := 2) (by rfl)⟩⟩
theorem sF_X5_firstWithout_24 : zGF wsX5_firstWithout RX5 24 5 5 := ⟨RX5, TX5, 10, rfl, inw_X5_firstWithout_X5, by decide, rfl, Or.inr (List.mem_of_getElem? (i := 2) (by rfl))⟩
theorem sC_X5_firstWithout_149 : zSV rm_X5_firstWithout wsX5_firstWithout RX5 149 yX5_diedHaving wsX5_diedHaving rm_X5_diedHaving 1 := ⟨_, _, _, _, rfl, gX5_firstWithout_X5_diedHaving, ⟨rfl, rfl⟩, by decide +kernel, by decide⟩
theorem inw_X5_ageReached_X5 : ∀ w ∈ u_ws RX5 TX5 10, w ∈ wsX5_ageReached := fun w h => List.mem_cons_of_mem _ (List.mem_append_left _ (List.mem_append_right _ h))
theorem inw_X5_ageReached_X0 : ∀ w ∈ u_ws RX0 TX0 15, w ∈ wsX5_ageReached := fun w h => List.mem_cons_of_mem _ (List.mem_append_right _ h)
theorem sF_X5_ageReached_42 : zGF wsX5_ageReached RX5 42 5 0 := ⟨RX5, TX5, 10, rfl, inw_X5_ageReached_X5, by decide, rfl, Or.inr (List.mem_of_getElem? (i := 1) (by rfl))⟩
theorem sF_X5_ageReached_24 : zGF wsX5_ageReached RX5 24 5 5 := ⟨RX5, TX5, 10, rfl, inw_X5_ageReached_X5, by decide, rfl, Or.inr (List.mem_of_getElem? (i := 2) (by rfl))⟩
theorem sF_X5_ageReached_75 : zGF wsX5_ageReached RX5 75 0 1 := ⟨RX0, TX0, 15, rfl, inw_X5_ageReached_X0, by decide, rfl, Or.inl ⟨"WillsReadFirst", List.mem_of_getElem? (i := 4) (by rfl)⟩⟩
theorem sC_X5_ageReached_155 : zSV rm_X5_ageReached wsX5_ageReached RX5 155 yX0_hasPerson wsX0_hasPerson rm_X0_hasPerson 1 := ⟨_, _, _, _, rfl, gX5_ageReached_X0_hasPerson, ⟨rfl, rfl⟩, by decide +kernel, by decide⟩
theorem inw_X5_oldest_X5 : ∀ w ∈ u_ws RX5 TX5 10, w ∈ wsX5_oldest := fun w h => List.mem_cons_of_mem _ (List.mem_append_left _ (List.mem_append_right _ h))
theorem inw_X5_oldest_X0 : ∀ w ∈ u_ws RX0 TX0 15, w ∈ wsX5_oldest := fun w h => List.mem_cons_of_mem _ (List.mem_append_right _ h)
theorem sF_X5_oldest_42 : zGF wsX5_oldest RX5 42 5 0 := ⟨RX5, TX5, 10, rfl, inw_X5_oldest_X5, by decide, rfl, Or.inr (List.mem_of_getElem? (i := 1) (by rfl))⟩
theorem sF_X5_oldest_59 : zGF wsX5_oldest RX5 59 0 0 := ⟨RX0, TX0, 15, rfl, inw_X5_oldest_X0, by decide, rfl, Or.inl ⟨"WillsReadFirst", List.mem_of_getElem? (i := 2) (by rfl)⟩⟩
theorem sC_X5_oldest_152 : zSV rm_X5_oldest wsX5_oldest RX5 152 yX5_ageReached wsX5_ageReached rm_X5_ageReached 1 := ⟨_, _, _, _, rfl, gX5_oldest_X5_ageReached, ⟨rfl, rfl⟩, by decide +kernel, by decide⟩
theorem inw_X5_lastHaving_X5 : ∀ w ∈ u_ws RX5 TX5 10, w ∈ wsX5_lastHaving := fun w h => List.mem_cons_of_mem _ (List.mem_append_left _ (List.mem_append_right _ h))
theorem inw_X5_lastHaving_X0 : ∀ w ∈ u_ws RX0 TX0 15, w ∈ wsX5_lastHaving := fun w h => List.mem_cons_of_mem _ (List.mem_append_right _ h)
theorem sF_X5_lastHaving_42 : zGF wsX5_lastHaving RX5 42 5 0 := ⟨RX5, TX5, 10, rfl, inw_X5_lastHaving_X5, by decide, rfl, Or.inr (List.mem_of_getElem? (i := 1) (by rfl))⟩
theorem sF_X5_lastHaving_59 : zGF wsX5_lastHaving RX5 59 0 0 := ⟨RX0, TX0, 15, rfl, inw_X5_lastHaving_X0, by decide, rfl, Or.inl ⟨"WillsReadFirst", List.mem_of_getElem? (i := 2) (by rfl)⟩⟩
theorem sF_X5_lastHaving_24 : zGF wsX5_lastHaving RX5 24 5 5 := ⟨RX5, TX5, 10, rfl, inw_X5_lastHaving_X5, by decide, rfl, Or.inr (List.mem_of_getElem? (i := 2) (by rfl))⟩
theorem sC_X5_lastHaving_149 : zSV rm_X5_lastHaving wsX5_lastHaving RX5 149 yX5_diedHaving wsX5_diedHaving rm_X5_diedHaving 1 := ⟨_, _, _, _, rfl, gX5_lastHaving_X5_diedHaving, ⟨rfl, rfl⟩, by decide +kernel, by decide⟩
theorem sM_X5_lastHaving_158 : Cond.methodLink RX5 158 Lib.Math.max.name ∈ wsX5_lastHaving ∧ Cond.static Lib.Math.max.name ∈ wsX5_lastHaving ∧ Cond.initialized "java/lang/Math" ∈ wsX5_lastHaving ∧ Cond.code Lib.Math.max.name Lib.Math.max.code 2 (some .int) ∈ wsX5_lastHaving := ⟨List.mem_of_getElem? (i := 3) (by rfl), List.mem_of_getElem? (i := 4) (by rfl), List.mem_of_getElem? (i := 5) (by rfl), List.mem_of_getElem? (i := 6) (by rfl)⟩
theorem inw_X6_init_X3 : ∀ w ∈ u_ws RX3 TX3 2, w ∈ wsX6_init := fun w h => List.mem_cons_of_mem _ (List.mem_append_left _ (List.mem_append_left _ (List.mem_append_left _ (List.mem_append_left _ (List.mem_append_left _ (List.mem_append_left _ (List.mem_append_right _ h)))))))
theorem inw_X6_init_X6 : ∀ w ∈ u_ws RX6 TX6 12, w ∈ wsX6_init := fun w h => List.mem_cons_of_mem _ (List.mem_append_left _ (List.mem_append_left _ (List.mem_append_left _ (List.mem_append_left _ (List.mem_append_left _ (List.mem_append_right _ h))))))
theorem inw_X6_init_X2 : ∀ w ∈ u_ws RX2 TX2 3, w ∈ wsX6_init := fun w h => List.mem_cons_of_mem _ (List.mem_append_left _ (List.mem_append_left _ (List.mem_append_left _ (List.mem_append_left _ (List.mem_append_right _ h)))))
theorem inw_X6_init_X0 : ∀ w ∈ u_ws RX0 TX0 15, w ∈ wsX6_init := fun w h => List.mem_cons_of_mem _ (List.mem_append_left _ (List.mem_append_left _ (List.mem_append_left _ (List.mem_append_right _ h))))
theorem inw_X6_init_X5 : ∀ w ∈ u_ws RX5 TX5 10, w ∈ wsX6_init := fun w h => List.mem_cons_of_mem _ (List.mem_append_left _ (List.mem_append_left _ (List.mem_append_right _ h)))
theorem inw_X6_init_X1 : ∀ w ∈ u_ws RX1 TX1 4, w ∈ wsX6_init := fun w h => List.mem_cons_of_mem _ (List.mem_append_left _ (List.mem_append_right _ h))
theorem inw_X6_init_X4 : ∀ w ∈ u_ws RX4 TX4 4, w ∈ wsX6_init := fun w h => List.mem_cons_of_mem _ (List.mem_append_right _ h)
theorem sF_X6_init_10 : zGF wsX6_init RX6 10 6 0 := ⟨RX6, TX6, 12, rfl, inw_X6_init_X6, by decide, rfl, Or.inr (List.mem_of_getElem? (i := 7) (by rfl))⟩
theorem sF_X6_init_28 : zGF wsX6_init RX6 28 6 2 := ⟨RX6, TX6, 12, rfl, inw_X6_init_X6, by decide, rfl, Or.inr (List.mem_of_getElem? (i := 15) (by rfl))⟩
theorem sP_X6_init_41 : zPF wsX6_init RX6 41 6 4 .boolean := ⟨RX6, TX6, 12, tyX6, rfl, inw_X6_init_X6, by decide, rfl, Or.inr (List.mem_of_getElem? (i := 20) (by rfl)), tyX6_ok, nmX6, rfl, by decide +kernel⟩
theorem sF_X6_init_45 : zGF wsX6_init RX6 45 6 5 := ⟨RX6, TX6, 12, rfl, inw_X6_init_X6, by decide, rfl, Or.inr (List.mem_of_getElem? (i := 21) (by rfl))⟩
theorem sP_X6_init_71 : zPF wsX6_init RX6 71 6 11 .int := ⟨RX6, TX6, 12, tyX6, rfl, inw_X6_init_X6, by decide, rfl, Or.inr (List.mem_of_getElem? (i := 33) (by rfl)), tyX6_ok, nmX6, rfl, by decide +kernel⟩
theorem sF_X6_init_21 : zGF wsX6_init RX6 21 6 1 := ⟨RX6, TX6, 12, rfl, inw_X6_init_X6, by decide, rfl, Or.inr (List.mem_of_getElem? (i := 11) (by rfl))⟩
theorem inw_X6_write_X6 : ∀ w ∈ u_ws RX6 TX6 12, w ∈ wsX6_write := fun w h => List.mem_cons_of_mem _ (List.mem_append_left _ (List.mem_append_right _ h))
theorem inw_X6_write_X3 : ∀ w ∈ u_ws RX3 TX3 2, w ∈ wsX6_write := fun w h => List.mem_cons_of_mem _ (List.mem_append_right _ h)
theorem sF_X6_write_10 : zGF wsX6_write RX6 10 6 0 := ⟨RX6, TX6, 12, rfl, inw_X6_write_X6, by decide, rfl, Or.inr (List.mem_of_getElem? (i := 1) (by rfl))⟩
theorem sF_X6_write_98 : zGF wsX6_write RX6 98 3 1 := ⟨RX3, TX3, 2, rfl, inw_X6_write_X3, by decide, rfl, Or.inl ⟨"WillsReadFirst", List.mem_of_getElem? (i := 1) (by rfl)⟩⟩
theorem sC_X6_write_87 : zSV rm_X6_write wsX6_write RX6 87 yX3_append wsX3_append rm_X3_append 1 := ⟨_, _, _, _, rfl, gX6_write_X3_append, ⟨rfl, rfl⟩, by decide +kernel, by decide⟩
theorem inw_X6_wipe_X6 : ∀ w ∈ u_ws RX6 TX6 12, w ∈ wsX6_wipe := fun w h => List.mem_cons_of_mem _ (List.mem_append_left _ (List.mem_append_right _ h))
theorem inw_X6_wipe_X3 : ∀ w ∈ u_ws RX3 TX3 2, w ∈ wsX6_wipe := fun w h => List.mem_cons_of_mem _ (List.mem_append_right _ h)
theorem sF_X6_wipe_10 : zGF wsX6_wipe RX6 10 6 0 := ⟨RX6, TX6, 12, rfl, inw_X6_wipe_X6, by decide, rfl, Or.inr (List.mem_of_getElem? (i := 1) (by rfl))⟩
theorem sF_X6_wipe_98 : zGF wsX6_wipe RX6 98 3 1 := ⟨RX3, TX3, 2, rfl, inw_X6_wipe_X3, by decide, rfl, Or.inl ⟨"WillsReadFirst", List.mem_of_getElem? (i := 1) (by rfl)⟩⟩
theorem sC_X6_wipe_95 : zSV rm_X6_wipe wsX6_wipe RX6 95 yX3_clear wsX3_clear rm_X3_clear 0 := ⟨_, _, _, _, rfl, gX6_wipe_X3_clear, ⟨rfl, rfl⟩, by decide +kernel, by decide⟩
theorem inw_X6_fault_X6 : ∀ w ∈ u_ws RX6 TX6 12, w ∈ wsX6_fault := fun w h => List.mem_cons_of_mem _ (List.mem_append_left _ (List.mem_append_left _ (List.mem_append_left _ (List.mem_append_right _ h))))
theorem inw_X6_fault_X2 : ∀ w ∈ u_ws RX2 TX2 3, w ∈ wsX6_fault := fun w h => List.mem_cons_of_mem _ (List.mem_append_left _ (List.mem_append_left _ (List.mem_append_right _ h)))
theorem inw_X6_fault_X3 : ∀ w ∈ u_ws RX3 TX3 2, w ∈ wsX6_fault := fun w h => List.mem_cons_of_mem _ (List.mem_append_left _ (List.mem_append_right _ h))
theorem inw_X6_fault_X0 : ∀ w ∈ u_ws RX0 TX0 15, w ∈ wsX6_fault := fun w h => List.mem_cons_of_mem _ (List.mem_append_right _ h)
theorem sF_X6_fault_21 : zGF wsX6_fault RX6 21 6 1 := ⟨RX6, TX6, 12, rfl, inw_X6_fault_X6, by decide, rfl, Or.inr (List.mem_of_getElem? (i := 1) (by rfl))⟩
theorem sF_X6_fault_45 : zGF wsX6_fault RX6 45 6 5 := ⟨RX6, TX6, 12, rfl, inw_X6_fault_X6, by decide, rfl, Or.inr (List.mem_of_getElem? (i := 2) (by rfl))⟩
theorem sC_X6_fault_91 : zSV rm_X6_fault wsX6_fault RX6 91 yX2_readInto wsX2_readInto rm_X2_readInto 1 := ⟨_, _, _, _, rfl, gX6_fault_X2_readInto, ⟨rfl, rfl⟩, by decide +kernel, by decide⟩
theorem inw_X6_lay_X6 : ∀ w ∈ u_ws RX6 TX6 12, w ∈ wsX6_lay := fun w h => List.mem_cons_of_mem _ (List.mem_append_left _ (List.mem_append_left _ (List.mem_append_left _ (List.mem_append_left _ (List.mem_append_left _ (List.mem_append_right _ h))))))
theorem inw_X6_lay_X0 : ∀ w ∈ u_ws RX0 TX0 15, w ∈ wsX6_lay := fun w h => List.mem_cons_of_mem _ (List.mem_append_left _ (List.mem_append_left _ (List.mem_append_left _ (List.mem_append_left _ (List.mem_append_right _ h)))))
theorem inw_X6_lay_X2 : ∀ w ∈ u_ws RX2 TX2 3, w ∈ wsX6_lay := fun w h => List.mem_cons_of_mem _ (List.mem_append_left _ (List.mem_append_left _ (List.mem_append_left _ (List.mem_append_right _ h))))
theorem inw_X6_lay_X3 : ∀ w ∈ u_ws RX3 TX3 2, w ∈ wsX6_lay := fun w h => List.mem_cons_of_mem _ (List.mem_append_left _ (List.mem_append_left _ (List.mem_append_right _ h)))
theorem inw_X6_lay_X1 : ∀ w ∈ u_ws RX1 TX1 4, w ∈ wsX6_lay := fun w h => List.mem_cons_of_mem _ (List.mem_append_left _ (List.mem_append_right _ h))
theorem inw_X6_lay_X4 : ∀ w ∈ u_ws RX4 TX4 4, w ∈ wsX6_lay := fun w h => List.mem_cons_of_mem _ (List.mem_append_right _ h)
theorem sF_X6_lay_21 : zGF wsX6_lay RX6 21 6 1 := ⟨RX6, TX6, 12, rfl, inw_X6_lay_X6, by decide, rfl, Or.inr (List.mem_of_getElem? (i := 1) (by rfl))⟩
theorem sF_X6_lay_45 : zGF wsX6_lay RX6 45 6 5 := ⟨RX6, TX6, 12, rfl, inw_X6_lay_X6, by decide, rfl, Or.inr (List.mem_of_getElem? (i := 2) (by rfl))⟩
theorem sF_X6_lay_100 : zGF wsX6_lay RX6 100 0 0 := ⟨RX0, TX0, 15, rfl, inw_X6_lay_X0, by decide, rfl, Or.inl ⟨"WillsReadFirst", List.mem_of_getElem? (i := 3) (by rfl)⟩⟩
theorem sF_X6_lay_28 : zGF wsX6_lay RX6 28 6 2 := ⟨RX6, TX6, 12, rfl, inw_X6_lay_X6, by decide, rfl, Or.inr (List.mem_of_getElem? (i := 3) (by rfl))⟩
theorem sF_X6_lay_54 : zGF wsX6_lay RX6 54 6 7 := ⟨RX6, TX6, 12, rfl, inw_X6_lay_X6, by decide, rfl, Or.inr (List.mem_of_getElem? (i := 4) (by rfl))⟩
theorem sF_X6_lay_61 : zGF wsX6_lay RX6 61 6 8 := ⟨RX6, TX6, 12, rfl, inw_X6_lay_X6, by decide, rfl, Or.inr (List.mem_of_getElem? (i := 5) (by rfl))⟩
theorem sP_X6_lay_71 : zPF wsX6_lay RX6 71 6 11 .int := ⟨RX6, TX6, 12, tyX6, rfl, inw_X6_lay_X6, by decide, rfl, Or.inr (List.mem_of_getElem? (i := 6) (by rfl)), tyX6_ok, nmX6, rfl, by decide +kernel⟩
theorem sP_X6_lay_41 : zPF wsX6_lay RX6 41 6 4 .boolean := ⟨RX6, TX6, 12, tyX6, rfl, inw_X6_lay_X6, by decide, rfl, Or.inr (List.mem_of_getElem? (i := 7) (by rfl)), tyX6_ok, nmX6, rfl, by decide +kernel⟩
theorem sC_X6_lay_91 : zSV rm_X6_lay wsX6_lay RX6 91 yX2_readInto wsX2_readInto rm_X2_readInto 1 := ⟨_, _, _, _, rfl, gX6_lay_X2_readInto, ⟨rfl, rfl⟩, by decide +kernel, by decide⟩
theorem sC_X6_lay_103 : zSV rm_X6_lay wsX6_lay RX6 103 yX0_copyFrom wsX0_copyFrom rm_X0_copyFrom 1 := ⟨_, _, _, _, rfl, gX6_lay_X0_copyFrom, ⟨rfl, rfl⟩, by decide +kernel, by decide⟩
theorem sC_X6_lay_106 : zSV rm_X6_lay wsX6_lay RX6 106 yX1_clear wsX1_clear rm_X1_clear 0 := ⟨_, _, _, _, rfl, gX6_lay_X1_clear, ⟨rfl, rfl⟩, by decide +kernel, by decide⟩
theorem sC_X6_lay_107 : zSV rm_X6_lay wsX6_lay RX6 107 yX4_clear wsX4_clear rm_X4_clear 0 := ⟨_, _, _, _, rfl, gX6_lay_X4_clear, ⟨rfl, rfl⟩, by decide +kernel, by decide⟩
theorem inw_X6_person_X6 : ∀ w ∈ u_ws RX6 TX6 12, w ∈ wsX6_person := fun w h => List.mem_cons_of_mem _ (List.mem_append_left _ (List.mem_append_right _ h))
theorem inw_X6_person_X0 : ∀ w ∈ u_ws RX0 TX0 15, w ∈ wsX6_person := fun w h => List.mem_cons_of_mem _ (List.mem_append_right _ h)
theorem sF_X6_person_28 : zGF wsX6_person RX6 28 6 2 := ⟨RX6, TX6, 12, rfl, inw_X6_person_X6, by decide, rfl, Or.inr (List.mem_of_getElem? (i := 1) (by rfl))⟩
theorem sF_X6_person_112 : zGF wsX6_person RX6 112 0 1 := ⟨RX0, TX0, 15, rfl, inw_X6_person_X0, by decide, rfl, Or.inl ⟨"WillsReadFirst", List.mem_of_getElem? (i := 5) (by rfl)⟩⟩
theorem sF_X6_person_116 : zGF wsX6_person RX6 116 0 2 := ⟨RX0, TX0, 15, rfl, inw_X6_person_X0, by decide, rfl, Or.inl ⟨"WillsReadFirst", List.mem_of_getElem? (i := 6) (by rfl)⟩⟩
theorem sF_X6_person_119 : zGF wsX6_person RX6 119 0 3 := ⟨RX0, TX0, 15, rfl, inw_X6_person_X0, by decide, rfl, Or.inl ⟨"WillsReadFirst", List.mem_of_getElem? (i := 8) (by rfl)⟩⟩
theorem sF_X6_person_122 : zGF wsX6_person RX6 122 0 4 := ⟨RX0, TX0, 15, rfl, inw_X6_person_X0, by decide, rfl, Or.inl ⟨"WillsReadFirst", List.mem_of_getElem? (i := 10) (by rfl)⟩⟩
theorem sF_X6_person_125 : zGF wsX6_person RX6 125 0 5 := ⟨RX0, TX0, 15, rfl, inw_X6_person_X0, by decide, rfl, Or.inl ⟨"WillsReadFirst", List.mem_of_getElem? (i := 13) (by rfl)⟩⟩
theorem sC_X6_person_108 : zSV rm_X6_person wsX6_person RX6 108 yX0_hasPerson wsX0_hasPerson rm_X0_hasPerson 1 := ⟨_, _, _, _, rfl, gX6_person_X0_hasPerson, ⟨rfl, rfl⟩, by decide +kernel, by decide⟩
theorem sC_X6_person_128 : zSV rm_X6_person wsX6_person RX6 128 yX0_leaves wsX0_leaves rm_X0_leaves 1 := ⟨_, _, _, _, rfl, gX6_person_X0_leaves, ⟨rfl, rfl⟩, by decide +kernel, by decide⟩
theorem inw_X6_bequest_X6 : ∀ w ∈ u_ws RX6 TX6 12, w ∈ wsX6_bequest := fun w h => List.mem_cons_of_mem _ (List.mem_append_left _ (List.mem_append_right _ h))
theorem inw_X6_bequest_X0 : ∀ w ∈ u_ws RX0 TX0 15, w ∈ wsX6_bequest := fun w h => List.mem_cons_of_mem _ (List.mem_append_right _ h)
theorem sF_X6_bequest_28 : zGF wsX6_bequest RX6 28 6 2 := ⟨RX6, TX6, 12, rfl, inw_X6_bequest_X6, by decide, rfl, Or.inr (List.mem_of_getElem? (i := 1) (by rfl))⟩
theorem sF_X6_bequest_135 : zGF wsX6_bequest RX6 135 0 7 := ⟨RX0, TX0, 15, rfl, inw_X6_bequest_X0, by decide, rfl, Or.inl ⟨"WillsReadFirst", List.mem_of_getElem? (i := 16) (by rfl)⟩⟩
theorem sF_X6_bequest_138 : zGF wsX6_bequest RX6 138 0 8 := ⟨RX0, TX0, 15, rfl, inw_X6_bequest_X0, by decide, rfl, Or.inl ⟨"WillsReadFirst", List.mem_of_getElem? (i := 19) (by rfl)⟩⟩
theorem sF_X6_bequest_141 : zGF wsX6_bequest RX6 141 0 9 := ⟨RX0, TX0, 15, rfl, inw_X6_bequest_X0, by decide, rfl, Or.inl ⟨"WillsReadFirst", List.mem_of_getElem? (i := 22) (by rfl)⟩⟩
theorem sC_X6_bequest_132 : zSV rm_X6_bequest wsX6_bequest RX6 132 yX0_hasBequest wsX0_hasBequest rm_X0_hasBequest 1 := ⟨_, _, _, _, rfl, gX6_bequest_X0_hasBequest, ⟨rfl, rfl⟩, by decide +kernel, by decide⟩
theorem inw_X6_reword_X6 : ∀ w ∈ u_ws RX6 TX6 12, w ∈ wsX6_reword := fun w h => List.mem_cons_of_mem _ (List.mem_append_left _ (List.mem_append_left _ (List.mem_append_right _ h)))
theorem inw_X6_reword_X0 : ∀ w ∈ u_ws RX0 TX0 15, w ∈ wsX6_reword := fun w h => List.mem_cons_of_mem _ (List.mem_append_left _ (List.mem_append_right _ h))
theorem inw_X6_reword_X1 : ∀ w ∈ u_ws RX1 TX1 4, w ∈ wsX6_reword := fun w h => List.mem_cons_of_mem _ (List.mem_append_right _ h)
theorem sF_X6_reword_28 : zGF wsX6_reword RX6 28 6 2 := ⟨RX6, TX6, 12, rfl, inw_X6_reword_X6, by decide, rfl, Or.inr (List.mem_of_getElem? (i := 1) (by rfl))⟩
theorem sF_X6_reword_141 : zGF wsX6_reword RX6 141 0 9 := ⟨RX0, TX0, 15, rfl, inw_X6_reword_X0, by decide, rfl, Or.inl ⟨"WillsReadFirst", List.mem_of_getElem? (i := 22) (by rfl)⟩⟩
theorem sF_X6_reword_54 : zGF wsX6_reword RX6 54 6 7 := ⟨RX6, TX6, 12, rfl, inw_X6_reword_X6, by decide, rfl, Or.inr (List.mem_of_getElem? (i := 2) (by rfl))⟩
theorem sP_X6_reword_41 : zPF wsX6_reword RX6 41 6 4 .boolean := ⟨RX6, TX6, 12, tyX6, rfl, inw_X6_reword_X6, by decide, rfl, Or.inr (List.mem_of_getElem? (i := 3) (by rfl)), tyX6_ok, nmX6, rfl, by decide +kernel⟩
theorem sC_X6_reword_132 : zSV rm_X6_reword wsX6_reword RX6 132 yX0_hasBequest wsX0_hasBequest rm_X0_hasBequest 1 := ⟨_, _, _, _, rfl, gX6_reword_X0_hasBequest, ⟨rfl, rfl⟩, by decide +kernel, by decide⟩
theorem sC_X6_reword_144 : zSS rm_X6_reword wsX6_reword RX6 144 yX6_isWithin wsX6_isWithin rm_X6_isWithin 3 := ⟨_, _, _, _, rfl, gX6_reword_X6_isWithin, ⟨rfl, rfl⟩, by decide +kernel, by decide⟩
theorem sC_X6_reword_148 : zSV rm_X6_reword wsX6_reword RX6 148 yX1_note wsX1_note rm_X1_note 3 := ⟨_, _, _, _, rfl, gX6_reword_X1_note, ⟨rfl, rfl⟩, by decide +kernel, by decide⟩
theorem inw_X6_pass_X6 : ∀ w ∈ u_ws RX6 TX6 12, w ∈ wsX6_pass := fun w h => List.mem_cons_of_mem _ (List.mem_append_left _ (List.mem_append_left _ (List.mem_append_right _ h)))
theorem inw_X6_pass_X0 : ∀ w ∈ u_ws RX0 TX0 15, w ∈ wsX6_pass := fun w h => List.mem_cons_of_mem _ (List.mem_append_left _ (List.mem_append_right _ h))
theorem inw_X6_pass_X1 : ∀ w ∈ u_ws RX1 TX1 4, w ∈ wsX6_pass := fun w h => List.mem_cons_of_mem _ (List.mem_append_right _ h)
theorem sF_X6_pass_28 : zGF wsX6_pass RX6 28 6 2 := ⟨RX6, TX6, 12, rfl, inw_X6_pass_X6, by decide, rfl, Or.inr (List.mem_of_getElem? (i := 1) (by rfl))⟩
theorem sF_X6_pass_135 : zGF wsX6_pass RX6 135 0 7 := ⟨RX0, TX0, 15, rfl, inw_X6_pass_X0, by decide, rfl, Or.inl ⟨"WillsReadFirst", List.mem_of_getElem? (i := 16) (by rfl)⟩⟩
theorem sF_X6_pass_138 : zGF wsX6_pass RX6 138 0 8 := ⟨RX0, TX0, 15, rfl, inw_X6_pass_X0, by decide, rfl, Or.inl ⟨"WillsReadFirst", List.mem_of_getElem? (i := 19) (by rfl)⟩⟩
theorem sF_X6_pass_54 : zGF wsX6_pass RX6 54 6 7 := ⟨RX6, TX6, 12, rfl, inw_X6_pass_X6, by decide, rfl, Or.inr (List.mem_of_getElem? (i := 2) (by rfl))⟩
theorem sP_X6_pass_41 : zPF wsX6_pass RX6 41 6 4 .boolean := ⟨RX6, TX6, 12, tyX6, rfl, inw_X6_pass_X6, by decide, rfl, Or.inr (List.mem_of_getElem? (i := 3) (by rfl)), tyX6_ok, nmX6, rfl, by decide +kernel⟩
theorem sC_X6_pass_132 : zSV rm_X6_pass wsX6_pass RX6 132 yX0_hasBequest wsX0_hasBequest rm_X0_hasBequest 1 := ⟨_, _, _, _, rfl, gX6_pass_X0_hasBequest, ⟨rfl, rfl⟩, by decide +kernel, by decide⟩
theorem sC_X6_pass_108 : zSV rm_X6_pass wsX6_pass RX6 108 yX0_hasPerson wsX0_hasPerson rm_X0_hasPerson 1 := ⟨_, _, _, _, rfl, gX6_pass_X0_hasPerson, ⟨rfl, rfl⟩, by decide +kernel, by decide⟩
theorem sC_X6_pass_148 : zSV rm_X6_pass wsX6_pass RX6 148 yX1_note wsX1_note rm_X1_note 3 := ⟨_, _, _, _, rfl, gX6_pass_X1_note, ⟨rfl, rfl⟩, by decide +kernel, by decide⟩
theorem inw_X6_help_X6 : ∀ w ∈ u_ws RX6 TX6 12, w ∈ wsX6_help := fun w h => List.mem_cons_of_mem _ (List.mem_append_left _ (List.mem_append_left _ (List.mem_append_right _ h)))
theorem inw_X6_help_X0 : ∀ w ∈ u_ws RX0 TX0 15, w ∈ wsX6_help := fun w h => List.mem_cons_of_mem _ (List.mem_append_left _ (List.mem_append_right _ h))
theorem inw_X6_help_X1 : ∀ w ∈ u_ws RX1 TX1 4, w ∈ wsX6_help := fun w h => List.mem_cons_of_mem _ (List.mem_append_right _ h)
theorem sF_X6_help_28 : zGF wsX6_help RX6 28 6 2 := ⟨RX6, TX6, 12, rfl, inw_X6_help_X6, by decide, rfl, Or.inr (List.mem_of_getElem? (i := 1) (by rfl))⟩
theorem sF_X6_help_54 : zGF wsX6_help RX6 54 6 7 := ⟨RX6, TX6, 12, rfl, inw_X6_help_X6, by decide, rfl, Or.inr (List.mem_of_getElem? (i := 2) (by rfl))⟩
theorem sP_X6_help_41 : zPF wsX6_help RX6 41 6 4 .boolean := ⟨RX6, TX6, 12, tyX6, rfl, inw_X6_help_X6, by decide, rfl, Or.inr (List.mem_of_getElem? (i := 3) (by rfl)), tyX6_ok, nmX6, rfl, by decide +kernel⟩
theorem sF_X6_help_155 : zGF wsX6_help RX6 155 0 10 := ⟨RX0, TX0, 15, rfl, inw_X6_help_X0, by decide, rfl, Or.inl ⟨"WillsReadFirst", List.mem_of_getElem? (i := 25) (by rfl)⟩⟩
theorem sC_X6_help_108 : zSV rm_X6_help wsX6_help RX6 108 yX0_hasPerson wsX0_hasPerson rm_X0_hasPerson 1 := ⟨_, _, _, _, rfl, gX6_help_X0_hasPerson, ⟨rfl, rfl⟩, by decide +kernel, by decide⟩
theorem sC_X6_help_144 : zSS rm_X6_help wsX6_help RX6 144 yX6_isWithin wsX6_isWithin rm_X6_isWithin 3 := ⟨_, _, _, _, rfl, gX6_help_X6_isWithin, ⟨rfl, rfl⟩, by decide +kernel, by decide⟩
theorem sC_X6_help_152 : zSV rm_X6_help wsX6_help RX6 152 yX0_addHelp wsX0_addHelp rm_X0_addHelp 3 := ⟨_, _, _, _, rfl, gX6_help_X0_addHelp, ⟨rfl, rfl⟩, by decide +kernel, by decide⟩
theorem sC_X6_help_148 : zSV rm_X6_help wsX6_help RX6 148 yX1_note wsX1_note rm_X1_note 3 := ⟨_, _, _, _, rfl, gX6_help_X1_note, ⟨rfl, rfl⟩, by decide +kernel, by decide⟩
theorem inw_X6_undo_X6 : ∀ w ∈ u_ws RX6 TX6 12, w ∈ wsX6_undo := fun w h => List.mem_cons_of_mem _ (List.mem_append_left _ (List.mem_append_left _ (List.mem_append_right _ h)))
theorem inw_X6_undo_X1 : ∀ w ∈ u_ws RX1 TX1 4, w ∈ wsX6_undo := fun w h => List.mem_cons_of_mem _ (List.mem_append_left _ (List.mem_append_right _ h))
theorem inw_X6_undo_X0 : ∀ w ∈ u_ws RX0 TX0 15, w ∈ wsX6_undo := fun w h => List.mem_cons_of_mem _ (List.mem_append_right _ h)
theorem sF_X6_undo_54 : zGF wsX6_undo RX6 54 6 7 := ⟨RX6, TX6, 12, rfl, inw_X6_undo_X6, by decide, rfl, Or.inr (List.mem_of_getElem? (i := 1) (by rfl))⟩
theorem sF_X6_undo_28 : zGF wsX6_undo RX6 28 6 2 := ⟨RX6, TX6, 12, rfl, inw_X6_undo_X6, by decide, rfl, Or.inr (List.mem_of_getElem? (i := 2) (by rfl))⟩
theorem sP_X6_undo_41 : zPF wsX6_undo RX6 41 6 4 .boolean := ⟨RX6, TX6, 12, tyX6, rfl, inw_X6_undo_X6, by decide, rfl, Or.inr (List.mem_of_getElem? (i := 3) (by rfl)), tyX6_ok, nmX6, rfl, by decide +kernel⟩
theorem sF_X6_undo_162 : zGF wsX6_undo RX6 162 1 3 := ⟨RX1, TX1, 4, rfl, inw_X6_undo_X1, by decide, rfl, Or.inl ⟨"WillsReadFirst", List.mem_of_getElem? (i := 38) (by rfl)⟩⟩
theorem sC_X6_undo_158 : zSV rm_X6_undo wsX6_undo RX6 158 yX1_takeBack wsX1_takeBack rm_X1_takeBack 1 := ⟨_, _, _, _, rfl, gX6_undo_X1_takeBack, ⟨rfl, rfl⟩, by decide +kernel, by decide⟩
theorem inw_X6_lived_X6 : ∀ w ∈ u_ws RX6 TX6 12, w ∈ wsX6_lived := fun w h => List.mem_cons_of_mem _ (List.mem_append_left _ (List.mem_append_left _ (List.mem_append_right _ h)))
theorem inw_X6_lived_X5 : ∀ w ∈ u_ws RX5 TX5 10, w ∈ wsX6_lived := fun w h => List.mem_cons_of_mem _ (List.mem_append_left _ (List.mem_append_right _ h))
theorem inw_X6_lived_X0 : ∀ w ∈ u_ws RX0 TX0 15, w ∈ wsX6_lived := fun w h => List.mem_cons_of_mem _ (List.mem_append_right _ h)
theorem sF_X6_lived_41 : zGF wsX6_lived RX6 41 6 4 := ⟨RX6, TX6, 12, rfl, inw_X6_lived_X6, by decide, rfl, Or.inr (List.mem_of_getElem? (i := 1) (by rfl))⟩
theorem sF_X6_lived_37 : zGF wsX6_lived RX6 37 6 3 := ⟨RX6, TX6, 12, rfl, inw_X6_lived_X6, by decide, rfl, Or.inr (List.mem_of_getElem? (i := 2) (by rfl))⟩
theorem sP_X6_lived_41 : zPF wsX6_lived RX6 41 6 4 .boolean := ⟨RX6, TX6, 12, tyX6, rfl, inw_X6_lived_X6, by decide, rfl, Or.inr (List.mem_of_getElem? (i := 1) (by rfl)), tyX6_ok, nmX6, rfl, by decide +kernel⟩
theorem sC_X6_lived_213 : zSV rm_X6_lived wsX6_lived RX6 213 yX5_run wsX5_run rm_X5_run 0 := ⟨_, _, _, _, rfl, gX6_lived_X5_run, ⟨rfl, rfl⟩, by decide +kernel, by decide⟩
theorem inw_X6_dies_X6 : ∀ w ∈ u_ws RX6 TX6 12, w ∈ wsX6_dies := fun w h => List.mem_cons_of_mem _ (List.mem_append_left _ (List.mem_append_left _ (List.mem_append_right _ h)))
theorem inw_X6_dies_X5 : ∀ w ∈ u_ws RX5 TX5 10, w ∈ wsX6_dies := fun w h => List.mem_cons_of_mem _ (List.mem_append_left _ (List.mem_append_right _ h))
theorem inw_X6_dies_X0 : ∀ w ∈ u_ws RX0 TX0 15, w ∈ wsX6_dies := fun w h => List.mem_cons_of_mem _ (List.mem_append_right _ h)
theorem sF_X6_dies_28 : zGF wsX6_dies RX6 28 6 2 := ⟨RX6, TX6, 12, rfl, inw_X6_dies_X6, by decide, rfl, Or.inr (List.mem_of_getElem? (i := 1) (by rfl))⟩
theorem sF_X6_dies_169 : zGF wsX6_dies RX6 169 5 5 := ⟨RX5, TX5, 10, rfl, inw_X6_dies_X5, by decide, rfl, Or.inl ⟨"WillsReadFirst", List.mem_of_getElem? (i := 32) (by rfl)⟩⟩
theorem sC_X6_dies_108 : zSV rm_X6_dies wsX6_dies RX6 108 yX0_hasPerson wsX0_hasPerson rm_X0_hasPerson 1 := ⟨_, _, _, _, rfl, gX6_dies_X0_hasPerson, ⟨rfl, rfl⟩, by decide +kernel, by decide⟩
theorem sC_X6_dies_165 : zSV rm_X6_dies wsX6_dies RX6 165 yX6_lived wsX6_lived rm_X6_lived 0 := ⟨_, _, _, _, rfl, gX6_dies_X6_lived, ⟨rfl, rfl⟩, by decide +kernel, by decide⟩
theorem inw_X6_having_X5 : ∀ w ∈ u_ws RX5 TX5 10, w ∈ wsX6_having := fun w h => List.mem_cons_of_mem _ (List.mem_append_left _ (List.mem_append_left _ (List.mem_append_right _ h)))
theorem inw_X6_having_X6 : ∀ w ∈ u_ws RX6 TX6 12, w ∈ wsX6_having := fun w h => List.mem_cons_of_mem _ (List.mem_append_left _ (List.mem_append_right _ h))
theorem inw_X6_having_X0 : ∀ w ∈ u_ws RX0 TX0 15, w ∈ wsX6_having := fun w h => List.mem_cons_of_mem _ (List.mem_append_right _ h)
theorem sF_X6_having_172 : zGF wsX6_having RX6 172 5 9 := ⟨RX5, TX5, 10, rfl, inw_X6_having_X5, by decide, rfl, Or.inl ⟨"WillsReadFirst", List.mem_of_getElem? (i := 37) (by rfl)⟩⟩
theorem sC_X6_having_165 : zSV rm_X6_having wsX6_having RX6 165 yX6_lived wsX6_lived rm_X6_lived 0 := ⟨_, _, _, _, rfl, gX6_having_X6_lived, ⟨rfl, rfl⟩, by decide +kernel, by decide⟩
theorem inw_X6_coins_X6 : ∀ w ∈ u_ws RX6 TX6 12, w ∈ wsX6_coins := fun w h => List.mem_cons_of_mem _ (List.mem_append_left _ (List.mem_append_left _ (List.mem_append_right _ h)))
theorem inw_X6_coins_X5 : ∀ w ∈ u_ws RX5 TX5 10, w ∈ wsX6_coins := fun w h => List.mem_cons_of_mem _ (List.mem_append_left _ (List.mem_append_right _ h))
theorem inw_X6_coins_X0 : ∀ w ∈ u_ws RX0 TX0 15, w ∈ wsX6_coins := fun w h => List.mem_cons_of_mem _ (List.mem_append_right _ h)
theorem sF_X6_coins_28 : zGF wsX6_coins RX6 28 6 2 := ⟨RX6, TX6, 12, rfl, inw_X6_coins_X6, by decide, rfl, Or.inr (List.mem_of_getElem? (i := 1) (by rfl))⟩
theorem sF_X6_coins_175 : zGF wsX6_coins RX6 175 5 8 := ⟨RX5, TX5, 10, rfl, inw_X6_coins_X5, by decide, rfl, Or.inl ⟨"WillsReadFirst", List.mem_of_getElem? (i := 36) (by rfl)⟩⟩
theorem sC_X6_coins_108 : zSV rm_X6_coins wsX6_coins RX6 108 yX0_hasPerson wsX0_hasPerson rm_X0_hasPerson 1 := ⟨_, _, _, _, rfl, gX6_coins_X0_hasPerson, ⟨rfl, rfl⟩, by decide +kernel, by decide⟩
theorem sC_X6_coins_144 : zSS rm_X6_coins wsX6_coins RX6 144 yX6_isWithin wsX6_isWithin rm_X6_isWithin 3 := ⟨_, _, _, _, rfl, gX6_coins_X6_isWithin, ⟨rfl, rfl⟩, by decide +kernel, by decide⟩
theorem sC_X6_coins_165 : zSV rm_X6_coins wsX6_coins RX6 165 yX6_lived wsX6_lived rm_X6_lived 0 := ⟨_, _, _, _, rfl, gX6_coins_X6_lived, ⟨rfl, rfl⟩, by decide +kernel, by decide⟩
theorem inw_X6_brought_X6 : ∀ w ∈ u_ws RX6 TX6 12, w ∈ wsX6_brought := fun w h => List.mem_cons_of_mem _ (List.mem_append_left _ (List.mem_append_left _ (List.mem_append_right _ h)))
theorem inw_X6_brought_X5 : ∀ w ∈ u_ws RX5 TX5 10, w ∈ wsX6_brought := fun w h => List.mem_cons_of_mem _ (List.mem_append_left _ (List.mem_append_right _ h))
theorem inw_X6_brought_X0 : ∀ w ∈ u_ws RX0 TX0 15, w ∈ wsX6_brought := fun w h => List.mem_cons_of_mem _ (List.mem_append_right _ h)
theorem sF_X6_brought_28 : zGF wsX6_brought RX6 28 6 2 := ⟨RX6, TX6, 12, rfl, inw_X6_brought_X6, by decide, rfl, Or.inr (List.mem_of_getElem? (i := 1) (by rfl))⟩
theorem sF_X6_brought_179 : zGF wsX6_brought RX6 179 5 7 := ⟨RX5, TX5, 10, rfl, inw_X6_brought_X5, by decide, rfl, Or.inl ⟨"WillsReadFirst", List.mem_of_getElem? (i := 34) (by rfl)⟩⟩
theorem sC_X6_brought_132 : zSV rm_X6_brought wsX6_brought RX6 132 yX0_hasBequest wsX0_hasBequest rm_X0_hasBequest 1 := ⟨_, _, _, _, rfl, gX6_brought_X0_hasBequest, ⟨rfl, rfl⟩, by decide +kernel, by decide⟩
theorem sC_X6_brought_165 : zSV rm_X6_brought wsX6_brought RX6 165 yX6_lived wsX6_lived rm_X6_lived 0 := ⟨_, _, _, _, rfl, gX6_brought_X6_lived, ⟨rfl, rfl⟩, by decide +kernel, by decide⟩
theorem inw_X6_inherited_X6 : ∀ w ∈ u_ws RX6 TX6 12, w ∈ wsX6_inherited := fun w h => List.mem_cons_of_mem _ (List.mem_append_left _ (List.mem_append_left _ (List.mem_append_right _ h)))
theorem inw_X6_inherited_X5 : ∀ w ∈ u_ws RX5 TX5 10, w ∈ wsX6_inherited := fun w h => List.mem_cons_of_mem _ (List.mem_append_left _ (List.mem_append_right _ h))
theorem inw_X6_inherited_X0 : ∀ w ∈ u_ws RX0 TX0 15, w ∈ wsX6_inherited := fun w h => List.mem_cons_of_mem _ (List.mem_append_right _ h)
theorem sF_X6_inherited_28 : zGF wsX6_inherited RX6 28 6 2 := ⟨RX6, TX6, 12, rfl, inw_X6_inherited_X6, by decide, rfl, Or.inr (List.mem_of_getElem? (i := 1) (by rfl))⟩
theorem sF_X6_inherited_182 : zGF wsX6_inherited RX6 182 5 6 := ⟨RX5, TX5, 10, rfl, inw_X6_inherited_X5, by decide, rfl, Or.inl ⟨"WillsReadFirst", List.mem_of_getElem? (i := 33) (by rfl)⟩⟩
theorem sC_X6_inherited_108 : zSV rm_X6_inherited wsX6_inherited RX6 108 yX0_hasPerson wsX0_hasPerson rm_X0_hasPerson 1 := ⟨_, _, _, _, rfl, gX6_inherited_X0_hasPerson, ⟨rfl, rfl⟩, by decide +kernel, by decide⟩
theorem sC_X6_inherited_165 : zSV rm_X6_inherited wsX6_inherited RX6 165 yX6_lived wsX6_lived rm_X6_lived 0 := ⟨_, _, _, _, rfl, gX6_inherited_X6_lived, ⟨rfl, rfl⟩, by decide +kernel, by decide⟩
theorem inw_X6_first_X6 : ∀ w ∈ u_ws RX6 TX6 12, w ∈ wsX6_first := fun w h => List.mem_cons_of_mem _ (List.mem_append_left _ (List.mem_append_left _ (List.mem_append_right _ h)))
theorem inw_X6_first_X5 : ∀ w ∈ u_ws RX5 TX5 10, w ∈ wsX6_first := fun w h => List.mem_cons_of_mem _ (List.mem_append_left _ (List.mem_append_right _ h))
theorem inw_X6_first_X0 : ∀ w ∈ u_ws RX0 TX0 15, w ∈ wsX6_first := fun w h => List.mem_cons_of_mem _ (List.mem_append_right _ h)
theorem sC_X6_first_165 : zSV rm_X6_first wsX6_first RX6 165 yX6_lived wsX6_lived rm_X6_lived 0 := ⟨_, _, _, _, rfl, gX6_first_X6_lived, ⟨rfl, rfl⟩, by decide +kernel, by decide⟩
theorem sC_X6_first_185 : zSV rm_X6_first wsX6_first RX6 185 yX5_firstWithout wsX5_firstWithout rm_X5_firstWithout 0 := ⟨_, _, _, _, rfl, gX6_first_X5_firstWithout, ⟨rfl, rfl⟩, by decide +kernel, by decide⟩
theorem inw_X6_longest_X6 : ∀ w ∈ u_ws RX6 TX6 12, w ∈ wsX6_longest := fun w h => List.mem_cons_of_mem _ (List.mem_append_left _ (List.mem_append_left _ (List.mem_append_right _ h)))
theorem inw_X6_longest_X5 : ∀ w ∈ u_ws RX5 TX5 10, w ∈ wsX6_longest := fun w h => List.mem_cons_of_mem _ (List.mem_append_left _ (List.mem_append_right _ h))
theorem inw_X6_longest_X0 : ∀ w ∈ u_ws RX0 TX0 15, w ∈ wsX6_longest := fun w h => List.mem_cons_of_mem _ (List.mem_append_right _ h)
theorem sC_X6_longest_165 : zSV rm_X6_longest wsX6_longest RX6 165 yX6_lived wsX6_lived rm_X6_lived 0 := ⟨_, _, _, _, rfl, gX6_longest_X6_lived, ⟨rfl, rfl⟩, by decide +kernel, by decide⟩
theorem sC_X6_longest_188 : zSV rm_X6_longest wsX6_longest RX6 188 yX5_oldest wsX5_oldest rm_X5_oldest 0 := ⟨_, _, _, _, rfl, gX6_longest_X5_oldest, ⟨rfl, rfl⟩, by decide +kernel, by decide⟩
theorem sC_X6_longest_191 : zSV rm_X6_longest wsX6_longest RX6 191 yX5_ageReached wsX5_ageReached rm_X5_ageReached 1 := ⟨_, _, _, _, rfl, gX6_longest_X5_ageReached, ⟨rfl, rfl⟩, by decide +kernel, by decide⟩
theorem inw_X6_mostEverHeld_X6 : ∀ w ∈ u_ws RX6 TX6 12, w ∈ wsX6_mostEverHeld := fun w h => List.mem_cons_of_mem _ (List.mem_append_left _ (List.mem_append_left _ (List.mem_append_right _ h)))
theorem inw_X6_mostEverHeld_X5 : ∀ w ∈ u_ws RX5 TX5 10, w ∈ wsX6_mostEverHeld := fun w h => List.mem_cons_of_mem _ (List.mem_append_left _ (List.mem_append_right _ h))
theorem inw_X6_mostEverHeld_X0 : ∀ w ∈ u_ws RX0 TX0 15, w ∈ wsX6_mostEverHeld := fun w h => List.mem_cons_of_mem _ (List.mem_append_right _ h)
theorem sF_X6_mostEverHeld_45 : zGF wsX6_mostEverHeld RX6 45 6 5 := ⟨RX6, TX6, 12, rfl, inw_X6_mostEverHeld_X6, by decide, rfl, Or.inr (List.mem_of_getElem? (i := 1) (by rfl))⟩
theorem sF_X6_mostEverHeld_28 : zGF wsX6_mostEverHeld RX6 28 6 2 := ⟨RX6, TX6, 12, rfl, inw_X6_mostEverHeld_X6, by decide, rfl, Or.inr (List.mem_of_getElem? (i := 2) (by rfl))⟩
theorem sF_X6_mostEverHeld_48 : zGF wsX6_mostEverHeld RX6 48 6 6 := ⟨RX6, TX6, 12, rfl, inw_X6_mostEverHeld_X6, by decide, rfl, Or.inr (List.mem_of_getElem? (i := 3) (by rfl))⟩
theorem sF_X6_mostEverHeld_253 : zGF wsX6_mostEverHeld RX6 253 5 4 := ⟨RX5, TX5, 10, rfl, inw_X6_mostEverHeld_X5, by decide, rfl, Or.inl ⟨"WillsReadFirst", List.mem_of_getElem? (i := 31) (by rfl)⟩⟩
theorem sC_X6_mostEverHeld_103 : zSV rm_X6_mostEverHeld wsX6_mostEverHeld RX6 103 yX0_copyFrom wsX0_copyFrom rm_X0_copyFrom 1 := ⟨_, _, _, _, rfl, gX6_mostEverHeld_X0_copyFrom, ⟨rfl, rfl⟩, by decide +kernel, by decide⟩
theorem sC_X6_mostEverHeld_250 : zSV rm_X6_mostEverHeld wsX6_mostEverHeld RX6 250 yX0_voidBequestsOf wsX0_voidBequestsOf rm_X0_voidBequestsOf 1 := ⟨_, _, _, _, rfl, gX6_mostEverHeld_X0_voidBequestsOf, ⟨rfl, rfl⟩, by decide +kernel, by decide⟩
theorem sC_X6_mostEverHeld_213 : zSV rm_X6_mostEverHeld wsX6_mostEverHeld RX6 213 yX5_run wsX5_run rm_X5_run 0 := ⟨_, _, _, _, rfl, gX6_mostEverHeld_X5_run, ⟨rfl, rfl⟩, by decide +kernel, by decide⟩
theorem inw_X6_greatest_X6 : ∀ w ∈ u_ws RX6 TX6 12, w ∈ wsX6_greatest := fun w h => List.mem_cons_of_mem _ (List.mem_append_left _ (List.mem_append_left _ (List.mem_append_right _ h)))
theorem inw_X6_greatest_X0 : ∀ w ∈ u_ws RX0 TX0 15, w ∈ wsX6_greatest := fun w h => List.mem_cons_of_mem _ (List.mem_append_left _ (List.mem_append_right _ h))
theorem inw_X6_greatest_X5 : ∀ w ∈ u_ws RX5 TX5 10, w ∈ wsX6_greatest := fun w h => List.mem_cons_of_mem _ (List.mem_append_right _ h)
theorem sF_X6_greatest_28 : zGF wsX6_greatest RX6 28 6 2 := ⟨RX6, TX6, 12, rfl, inw_X6_greatest_X6, by decide, rfl, Or.inr (List.mem_of_getElem? (i := 1) (by rfl))⟩
theorem sC_X6_greatest_108 : zSV rm_X6_greatest wsX6_greatest RX6 108 yX0_hasPerson wsX0_hasPerson rm_X0_hasPerson 1 := ⟨_, _, _, _, rfl, gX6_greatest_X0_hasPerson, ⟨rfl, rfl⟩, by decide +kernel, by decide⟩
theorem sC_X6_greatest_194 : zSV rm_X6_greatest wsX6_greatest RX6 194 yX6_mostEverHeld wsX6_mostEverHeld rm_X6_mostEverHeld 1 := ⟨_, _, _, _, rfl, gX6_greatest_X6_mostEverHeld, ⟨rfl, rfl⟩, by decide +kernel, by decide⟩
theorem sM_X6_greatest_197 : Cond.methodLink RX6 197 Lib.Math.min.name ∈ wsX6_greatest ∧ Cond.static Lib.Math.min.name ∈ wsX6_greatest ∧ Cond.initialized "java/lang/Math" ∈ wsX6_greatest ∧ Cond.code Lib.Math.min.name Lib.Math.min.code 2 (some .int) ∈ wsX6_greatest := ⟨List.mem_of_getElem? (i := 2) (by rfl), List.mem_of_getElem? (i := 3) (by rfl), List.mem_of_getElem? (i := 4) (by rfl), List.mem_of_getElem? (i := 5) (by rfl)⟩
theorem inw_X6_needs_X6 : ∀ w ∈ u_ws RX6 TX6 12, w ∈ wsX6_needs := fun w h => List.mem_cons_of_mem _ (List.mem_append_left _ (List.mem_append_left _ (List.mem_append_right _ h)))
theorem inw_X6_needs_X0 : ∀ w ∈ u_ws RX0 TX0 15, w ∈ wsX6_needs := fun w h => List.mem_cons_of_mem _ (List.mem_append_left _ (List.mem_append_right _ h))
theorem inw_X6_needs_X5 : ∀ w ∈ u_ws RX5 TX5 10, w ∈ wsX6_needs := fun w h => List.mem_cons_of_mem _ (List.mem_append_right _ h)
theorem sF_X6_needs_28 : zGF wsX6_needs RX6 28 6 2 := ⟨RX6, TX6, 12, rfl, inw_X6_needs_X6, by decide, rfl, Or.inr (List.mem_of_getElem? (i := 1) (by rfl))⟩
theorem sC_X6_needs_108 : zSV rm_X6_needs wsX6_needs RX6 108 yX0_hasPerson wsX0_hasPerson rm_X0_hasPerson 1 := ⟨_, _, _, _, rfl, gX6_needs_X0_hasPerson, ⟨rfl, rfl⟩, by decide +kernel, by decide⟩
theorem sC_X6_needs_128 : zSV rm_X6_needs wsX6_needs RX6 128 yX0_leaves wsX0_leaves rm_X0_leaves 1 := ⟨_, _, _, _, rfl, gX6_needs_X0_leaves, ⟨rfl, rfl⟩, by decide +kernel, by decide⟩
theorem sC_X6_needs_194 : zSV rm_X6_needs wsX6_needs RX6 194 yX6_mostEverHeld wsX6_mostEverHeld rm_X6_mostEverHeld 1 := ⟨_, _, _, _, rfl, gX6_needs_X6_mostEverHeld, ⟨rfl, rfl⟩, by decide +kernel, by decide⟩
theorem sM_X6_needs_203 : Cond.methodLink RX6 203 Lib.Math.max.name ∈ wsX6_needs ∧ Cond.static Lib.Math.max.name ∈ wsX6_needs ∧ Cond.initialized "java/lang/Math" ∈ wsX6_needs ∧ Cond.code Lib.Math.max.name Lib.Math.max.code 2 (some .int) ∈ wsX6_needs := ⟨List.mem_of_getElem? (i := 2) (by rfl), List.mem_of_getElem? (i := 3) (by rfl), List.mem_of_getElem? (i := 4) (by rfl), List.mem_of_getElem? (i := 5) (by rfl)⟩
theorem inw_X6_mend_X6 : ∀ w ∈ u_ws RX6 TX6 12, w ∈ wsX6_mend := fun w h => List.mem_cons_of_mem _ (List.mem_append_left _ (List.mem_append_left _ (List.mem_append_right _ h)))
theorem inw_X6_mend_X0 : ∀ w ∈ u_ws RX0 TX0 15, w ∈ wsX6_mend := fun w h => List.mem_cons_of_mem _ (List.mem_append_left _ (List.mem_append_right _ h))
theorem inw_X6_mend_X5 : ∀ w ∈ u_ws RX5 TX5 10, w ∈ wsX6_mend := fun w h => List.mem_cons_of_mem _ (List.mem_append_right _ h)
theorem sF_X6_mend_28 : zGF wsX6_mend RX6 28 6 2 := ⟨RX6, TX6, 12, rfl, inw_X6_mend_X6, by decide, rfl, Or.inr (List.mem_of_getElem? (i := 1) (by rfl))⟩
theorem sF_X6_mend_206 : zGF wsX6_mend RX6 206 0 6 := ⟨RX0, TX0, 15, rfl, inw_X6_mend_X0, by decide, rfl, Or.inl ⟨"WillsReadFirst", List.mem_of_getElem? (i := 15) (by rfl)⟩⟩
theorem sF_X6_mend_45 : zGF wsX6_mend RX6 45 6 5 := ⟨RX6, TX6, 12, rfl, inw_X6_mend_X6, by decide, rfl, Or.inr (List.mem_of_getElem? (i := 2) (by rfl))⟩
theorem sF_X6_mend_48 : zGF wsX6_mend RX6 48 6 6 := ⟨RX6, TX6, 12, rfl, inw_X6_mend_X6, by decide, rfl, Or.inr (List.mem_of_getElem? (i := 3) (by rfl))⟩
theorem sF_X6_mend_172 : zGF wsX6_mend RX6 172 5 9 := ⟨RX5, TX5, 10, rfl, inw_X6_mend_X5, by decide, rfl, Or.inl ⟨"WillsReadFirst", List.mem_of_getElem? (i := 37) (by rfl)⟩⟩
theorem sC_X6_mend_103 : zSV rm_X6_mend wsX6_mend RX6 103 yX0_copyFrom wsX0_copyFrom rm_X0_copyFrom 1 := ⟨_, _, _, _, rfl, gX6_mend_X0_copyFrom, ⟨rfl, rfl⟩, by decide +kernel, by decide⟩
theorem sC_X6_mend_209 : zSV rm_X6_mend wsX6_mend RX6 209 yX0_voidBequest wsX0_voidBequest rm_X0_voidBequest 1 := ⟨_, _, _, _, rfl, gX6_mend_X0_voidBequest, ⟨rfl, rfl⟩, by decide +kernel, by decide⟩
theorem sC_X6_mend_213 : zSV rm_X6_mend wsX6_mend RX6 213 yX5_run wsX5_run rm_X5_run 0 := ⟨_, _, _, _, rfl, gX6_mend_X5_run, ⟨rfl, rfl⟩, by decide +kernel, by decide⟩
theorem sC_X6_mend_216 : zSS rm_X6_mend wsX6_mend RX6 216 yJ6_bitCount_0f7a4 wsJ6_bitCount_0f7a4 rm_J6_bitCount_0f7a4 1 := ⟨_, _, _, _, rfl, gX6_mend_J6_bitCount_0f7a4, ⟨rfl, rfl⟩, by decide +kernel, by decide⟩
theorem inw_X6_limits_X6 : ∀ w ∈ u_ws RX6 TX6 12, w ∈ wsX6_limits := fun w h => List.mem_cons_of_mem _ (List.mem_append_left _ (List.mem_append_left _ (List.mem_append_right _ h)))
theorem inw_X6_limits_X0 : ∀ w ∈ u_ws RX0 TX0 15, w ∈ wsX6_limits := fun w h => List.mem_cons_of_mem _ (List.mem_append_left _ (List.mem_append_right _ h))
theorem inw_X6_limits_X5 : ∀ w ∈ u_ws RX5 TX5 10, w ∈ wsX6_limits := fun w h => List.mem_cons_of_mem _ (List.mem_append_right _ h)
theorem sF_X6_limits_45 : zGF wsX6_limits RX6 45 6 5 := ⟨RX6, TX6, 12, rfl, inw_X6_limits_X6, by decide, rfl, Or.inr (List.mem_of_getElem? (i := 1) (by rfl))⟩
theorem sF_X6_limits_28 : zGF wsX6_limits RX6 28 6 2 := ⟨RX6, TX6, 12, rfl, inw_X6_limits_X6, by decide, rfl, Or.inr (List.mem_of_getElem? (i := 2) (by rfl))⟩
theorem sF_X6_limits_100 : zGF wsX6_limits RX6 100 0 0 := ⟨RX0, TX0, 15, rfl, inw_X6_limits_X0, by decide, rfl, Or.inl ⟨"WillsReadFirst", List.mem_of_getElem? (i := 3) (by rfl)⟩⟩
theorem sF_X6_limits_119 : zGF wsX6_limits RX6 119 0 3 := ⟨RX0, TX0, 15, rfl, inw_X6_limits_X0, by decide, rfl, Or.inl ⟨"WillsReadFirst", List.mem_of_getElem? (i := 8) (by rfl)⟩⟩
theorem sF_X6_limits_48 : zGF wsX6_limits RX6 48 6 6 := ⟨RX6, TX6, 12, rfl, inw_X6_limits_X6, by decide, rfl, Or.inr (List.mem_of_getElem? (i := 3) (by rfl))⟩
theorem sF_X6_limits_172 : zGF wsX6_limits RX6 172 5 9 := ⟨RX5, TX5, 10, rfl, inw_X6_limits_X5, by decide, rfl, Or.inl ⟨"WillsReadFirst", List.mem_of_getElem? (i := 37) (by rfl)⟩⟩
theorem sC_X6_limits_144 : zSS rm_X6_limits wsX6_limits RX6 144 yX6_isWithin wsX6_isWithin rm_X6_isWithin 3 := ⟨_, _, _, _, rfl, gX6_limits_X6_isWithin, ⟨rfl, rfl⟩, by decide +kernel, by decide⟩
theorem sC_X6_limits_103 : zSV rm_X6_limits wsX6_limits RX6 103 yX0_copyFrom wsX0_copyFrom rm_X0_copyFrom 1 := ⟨_, _, _, _, rfl, gX6_limits_X0_copyFrom, ⟨rfl, rfl⟩, by decide +kernel, by decide⟩
theorem sC_X6_limits_213 : zSV rm_X6_limits wsX6_limits RX6 213 yX5_run wsX5_run rm_X5_run 0 := ⟨_, _, _, _, rfl, gX6_limits_X5_run, ⟨rfl, rfl⟩, by decide +kernel, by decide⟩
theorem sC_X6_limits_216 : zSS rm_X6_limits wsX6_limits RX6 216 yJ6_bitCount_0f7a4 wsJ6_bitCount_0f7a4 rm_J6_bitCount_0f7a4 1 := ⟨_, _, _, _, rfl, gX6_limits_J6_bitCount_0f7a4, ⟨rfl, rfl⟩, by decide +kernel, by decide⟩
theorem inw_X6_fewestBack_X6 : ∀ w ∈ u_ws RX6 TX6 12, w ∈ wsX6_fewestBack := fun w h => List.mem_cons_of_mem _ (List.mem_append_left _ (List.mem_append_right _ h))
theorem inw_X6_fewestBack_X0 : ∀ w ∈ u_ws RX0 TX0 15, w ∈ wsX6_fewestBack := fun w h => List.mem_cons_of_mem _ (List.mem_append_right _ h)
theorem sF_X6_fewestBack_28 : zGF wsX6_fewestBack RX6 28 6 2 := ⟨RX6, TX6, 12, rfl, inw_X6_fewestBack_X6, by decide, rfl, Or.inr (List.mem_of_getElem? (i := 1) (by rfl))⟩
theorem sF_X6_fewestBack_100 : zGF wsX6_fewestBack RX6 100 0 0 := ⟨RX0, TX0, 15, rfl, inw_X6_fewestBack_X0, by decide, rfl, Or.inl ⟨"WillsReadFirst", List.mem_of_getElem? (i := 3) (by rfl)⟩⟩
theorem sC_X6_fewestBack_256 : zSV rm_X6_fewestBack wsX6_fewestBack RX6 256 yX0_heirsOf wsX0_heirsOf rm_X0_heirsOf 1 := ⟨_, _, _, _, rfl, gX6_fewestBack_X0_heirsOf, ⟨rfl, rfl⟩, by decide +kernel, by decide⟩
theorem inw_X6_ring_X6 : ∀ w ∈ u_ws RX6 TX6 12, w ∈ wsX6_ring := fun w h => List.mem_cons_of_mem _ (List.mem_append_left _ (List.mem_append_right _ h))
theorem inw_X6_ring_X0 : ∀ w ∈ u_ws RX0 TX0 15, w ∈ wsX6_ring := fun w h => List.mem_cons_of_mem _ (List.mem_append_right _ h)
theorem sF_X6_ring_28 : zGF wsX6_ring RX6 28 6 2 := ⟨RX6, TX6, 12, rfl, inw_X6_ring_X6, by decide, rfl, Or.inr (List.mem_of_getElem? (i := 1) (by rfl))⟩
theorem sC_X6_ring_108 : zSV rm_X6_ring wsX6_ring RX6 108 yX0_hasPerson wsX0_hasPerson rm_X0_hasPerson 1 := ⟨_, _, _, _, rfl, gX6_ring_X0_hasPerson, ⟨rfl, rfl⟩, by decide +kernel, by decide⟩
theorem sC_X6_ring_221 : zSV rm_X6_ring wsX6_ring RX6 221 yX6_fewestBack wsX6_fewestBack rm_X6_fewestBack 1 := ⟨_, _, _, _, rfl, gX6_ring_X6_fewestBack, ⟨rfl, rfl⟩, by decide +kernel, by decide⟩
theorem inw_X6_owes_X6 : ∀ w ∈ u_ws RX6 TX6 12, w ∈ wsX6_owes := fun w h => List.mem_cons_of_mem _ (List.mem_append_left _ (List.mem_append_right _ h))
theorem inw_X6_owes_X0 : ∀ w ∈ u_ws RX0 TX0 15, w ∈ wsX6_owes := fun w h => List.mem_cons_of_mem _ (List.mem_append_right _ h)
theorem sF_X6_owes_28 : zGF wsX6_owes RX6 28 6 2 := ⟨RX6, TX6, 12, rfl, inw_X6_owes_X6, by decide, rfl, Or.inr (List.mem_of_getElem? (i := 1) (by rfl))⟩
theorem sC_X6_owes_108 : zSV rm_X6_owes wsX6_owes RX6 108 yX0_hasPerson wsX0_hasPerson rm_X0_hasPerson 1 := ⟨_, _, _, _, rfl, gX6_owes_X0_hasPerson, ⟨rfl, rfl⟩, by decide +kernel, by decide⟩
theorem sC_X6_owes_128 : zSV rm_X6_owes wsX6_owes RX6 128 yX0_leaves wsX0_leaves rm_X0_leaves 1 := ⟨_, _, _, _, rfl, gX6_owes_X0_leaves, ⟨rfl, rfl⟩, by decide +kernel, by decide⟩
theorem sC_X6_owes_224 : zSV rm_X6_owes wsX6_owes RX6 224 yX0_isLeft wsX0_isLeft rm_X0_isLeft 1 := ⟨_, _, _, _, rfl, gX6_owes_X0_isLeft, ⟨rfl, rfl⟩, by decide +kernel, by decide⟩
theorem inw_X6_seen_X6 : ∀ w ∈ u_ws RX6 TX6 12, w ∈ wsX6_seen := fun w h => List.mem_cons_of_mem _ (List.mem_append_left _ (List.mem_append_left _ (List.mem_append_right _ h)))
theorem inw_X6_seen_X4 : ∀ w ∈ u_ws RX4 TX4 4, w ∈ wsX6_seen := fun w h => List.mem_cons_of_mem _ (List.mem_append_left _ (List.mem_append_right _ h))
theorem inw_X6_seen_X0 : ∀ w ∈ u_ws RX0 TX0 15, w ∈ wsX6_seen := fun w h => List.mem_cons_of_mem _ (List.mem_append_right _ h)
theorem sF_X6_seen_28 : zGF wsX6_seen RX6 28 6 2 := ⟨RX6, TX6, 12, rfl, inw_X6_seen_X6, by decide, rfl, Or.inr (List.mem_of_getElem? (i := 1) (by rfl))⟩
theorem sF_X6_seen_61 : zGF wsX6_seen RX6 61 6 8 := ⟨RX6, TX6, 12, rfl, inw_X6_seen_X6, by decide, rfl, Or.inr (List.mem_of_getElem? (i := 2) (by rfl))⟩
theorem sF_X6_seen_230 : zGF wsX6_seen RX6 230 4 3 := ⟨RX4, TX4, 4, rfl, inw_X6_seen_X4, by decide, rfl, Or.inl ⟨"WillsReadFirst", List.mem_of_getElem? (i := 39) (by rfl)⟩⟩
theorem sC_X6_seen_108 : zSV rm_X6_seen wsX6_seen RX6 108 yX0_hasPerson wsX0_hasPerson rm_X0_hasPerson 1 := ⟨_, _, _, _, rfl, gX6_seen_X0_hasPerson, ⟨rfl, rfl⟩, by decide +kernel, by decide⟩
theorem sC_X6_seen_144 : zSS rm_X6_seen wsX6_seen RX6 144 yX6_isWithin wsX6_isWithin rm_X6_isWithin 3 := ⟨_, _, _, _, rfl, gX6_seen_X6_isWithin, ⟨rfl, rfl⟩, by decide +kernel, by decide⟩
theorem sC_X6_seen_227 : zSV rm_X6_seen wsX6_seen RX6 227 yX4_add wsX4_add rm_X4_add 3 := ⟨_, _, _, _, rfl, gX6_seen_X4_add, ⟨rfl, rfl⟩, by decide +kernel, by decide⟩
theorem inw_X6_forget_X6 : ∀ w ∈ u_ws RX6 TX6 12, w ∈ wsX6_forget := fun w h => List.mem_cons_of_mem _ (List.mem_append_left _ (List.mem_append_right _ h))
theorem inw_X6_forget_X4 : ∀ w ∈ u_ws RX4 TX4 4, w ∈ wsX6_forget := fun w h => List.mem_cons_of_mem _ (List.mem_append_right _ h)
theorem sF_X6_forget_61 : zGF wsX6_forget RX6 61 6 8 := ⟨RX6, TX6, 12, rfl, inw_X6_forget_X6, by decide, rfl, Or.inr (List.mem_of_getElem? (i := 1) (by rfl))⟩
theorem sF_X6_forget_230 : zGF wsX6_forget RX6 230 4 3 := ⟨RX4, TX4, 4, rfl, inw_X6_forget_X4, by decide, rfl, Or.inl ⟨"WillsReadFirst", List.mem_of_getElem? (i := 39) (by rfl)⟩⟩
theorem sC_X6_forget_107 : zSV rm_X6_forget wsX6_forget RX6 107 yX4_clear wsX4_clear rm_X4_clear 0 := ⟨_, _, _, _, rfl, gX6_forget_X4_clear, ⟨rfl, rfl⟩, by decide +kernel, by decide⟩
theorem inw_X6_kinds_X6 : ∀ w ∈ u_ws RX6 TX6 12, w ∈ wsX6_kinds := fun w h => List.mem_cons_of_mem _ (List.mem_append_left _ (List.mem_append_left _ (List.mem_append_left _ (List.mem_append_right _ h))))
theorem inw_X6_kinds_X0 : ∀ w ∈ u_ws RX0 TX0 15, w ∈ wsX6_kinds := fun w h => List.mem_cons_of_mem _ (List.mem_append_left _ (List.mem_append_left _ (List.mem_append_right _ h)))
theorem inw_X6_kinds_X5 : ∀ w ∈ u_ws RX5 TX5 10, w ∈ wsX6_kinds := fun w h => List.mem_cons_of_mem _ (List.mem_append_left _ (List.mem_append_right _ h))
theorem inw_X6_kinds_X4 : ∀ w ∈ u_ws RX4 TX4 4, w ∈ wsX6_kinds := fun w h => List.mem_cons_of_mem _ (List.mem_append_right _ h)
theorem sF_X6_kinds_28 : zGF wsX6_kinds RX6 28 6 2 := ⟨RX6, TX6, 12, rfl, inw_X6_kinds_X6, by decide, rfl, Or.inr (List.mem_of_getElem? (i := 1) (by rfl))⟩
theorem sF_X6_kinds_45 : zGF wsX6_kinds RX6 45 6 5 := ⟨RX6, TX6, 12, rfl, inw_X6_kinds_X6, by decide, rfl, Or.inr (List.mem_of_getElem? (i := 2) (by rfl))⟩
theorem sF_X6_kinds_122 : zGF wsX6_kinds RX6 122 0 4 := ⟨RX0, TX0, 15, rfl, inw_X6_kinds_X0, by decide, rfl, Or.inl ⟨"WillsReadFirst", List.mem_of_getElem? (i := 10) (by rfl)⟩⟩
theorem sF_X6_kinds_48 : zGF wsX6_kinds RX6 48 6 6 := ⟨RX6, TX6, 12, rfl, inw_X6_kinds_X6, by decide, rfl, Or.inr (List.mem_of_getElem? (i := 3) (by rfl))⟩
theorem sF_X6_kinds_61 : zGF wsX6_kinds RX6 61 6 8 := ⟨RX6, TX6, 12, rfl, inw_X6_kinds_X6, by decide, rfl, Or.inr (List.mem_of_getElem? (i := 4) (by rfl))⟩
theorem sC_X6_kinds_108 : zSV rm_X6_kinds wsX6_kinds RX6 108 yX0_hasPerson wsX0_hasPerson rm_X0_hasPerson 1 := ⟨_, _, _, _, rfl, gX6_kinds_X0_hasPerson, ⟨rfl, rfl⟩, by decide +kernel, by decide⟩
theorem sC_X6_kinds_103 : zSV rm_X6_kinds wsX6_kinds RX6 103 yX0_copyFrom wsX0_copyFrom rm_X0_copyFrom 1 := ⟨_, _, _, _, rfl, gX6_kinds_X0_copyFrom, ⟨rfl, rfl⟩, by decide +kernel, by decide⟩
theorem sC_X6_kinds_213 : zSV rm_X6_kinds wsX6_kinds RX6 213 yX5_run wsX5_run rm_X5_run 0 := ⟨_, _, _, _, rfl, gX6_kinds_X5_run, ⟨rfl, rfl⟩, by decide +kernel, by decide⟩
theorem sC_X6_kinds_232 : zSV rm_X6_kinds wsX6_kinds RX6 232 yX4_fit wsX4_fit rm_X4_fit 2 := ⟨_, _, _, _, rfl, gX6_kinds_X4_fit, ⟨rfl, rfl⟩, by decide +kernel, by decide⟩
theorem inw_X6_odds_X6 : ∀ w ∈ u_ws RX6 TX6 12, w ∈ wsX6_odds := fun w h => List.mem_cons_of_mem _ (List.mem_append_left _ (List.mem_append_right _ h))
theorem inw_X6_odds_X0 : ∀ w ∈ u_ws RX0 TX0 15, w ∈ wsX6_odds := fun w h => List.mem_cons_of_mem _ (List.mem_append_right _ h)
theorem sF_X6_odds_28 : zGF wsX6_odds RX6 28 6 2 := ⟨RX6, TX6, 12, rfl, inw_X6_odds_X6, by decide, rfl, Or.inr (List.mem_of_getElem? (i := 1) (by rfl))⟩
theorem sF_X6_odds_116 : zGF wsX6_odds RX6 116 0 2 := ⟨RX0, TX0, 15, rfl, inw_X6_odds_X0, by decide, rfl, Or.inl ⟨"WillsReadFirst", List.mem_of_getElem? (i := 6) (by rfl)⟩⟩
theorem sC_X6_odds_108 : zSV rm_X6_odds wsX6_odds RX6 108 yX0_hasPerson wsX0_hasPerson rm_X0_hasPerson 1 := ⟨_, _, _, _, rfl, gX6_odds_X0_hasPerson, ⟨rfl, rfl⟩, by decide +kernel, by decide⟩
theorem sC_X6_odds_144 : zSS rm_X6_odds wsX6_odds RX6 144 yX6_isWithin wsX6_isWithin rm_X6_isWithin 3 := ⟨_, _, _, _, rfl, gX6_odds_X6_isWithin, ⟨rfl, rfl⟩, by decide +kernel, by decide⟩
theorem sC_X6_odds_236 : zSS rm_X6_odds wsX6_odds RX6 236 yX6_waysToGain wsX6_waysToGain rm_X6_waysToGain 3 := ⟨_, _, _, _, rfl, gX6_odds_X6_waysToGain, ⟨rfl, rfl⟩, by decide +kernel, by decide⟩
theorem inw_X6_generations_X6 : ∀ w ∈ u_ws RX6 TX6 12, w ∈ wsX6_generations := fun w h => List.mem_cons_of_mem _ (List.mem_append_left _ (List.mem_append_left _ (List.mem_append_right _ h)))
theorem inw_X6_generations_X0 : ∀ w ∈ u_ws RX0 TX0 15, w ∈ wsX6_generations := fun w h => List.mem_cons_of_mem _ (List.mem_append_left _ (List.mem_append_right _ h))
theorem inw_X6_generations_X5 : ∀ w ∈ u_ws RX5 TX5 10, w ∈ wsX6_generations := fun w h => List.mem_cons_of_mem _ (List.mem_append_right _ h)
theorem sF_X6_generations_45 : zGF wsX6_generations RX6 45 6 5 := ⟨RX6, TX6, 12, rfl, inw_X6_generations_X6, by decide, rfl, Or.inr (List.mem_of_getElem? (i := 1) (by rfl))⟩
theorem sF_X6_generations_28 : zGF wsX6_generations RX6 28 6 2 := ⟨RX6, TX6, 12, rfl, inw_X6_generations_X6, by decide, rfl, Or.inr (List.mem_of_getElem? (i := 2) (by rfl))⟩
theorem sP_X6_generations_240 : zPF wsX6_generations RX6 240 0 14 .int := ⟨RX0, TX0, 15, tyX0, rfl, inw_X6_generations_X0, by decide, rfl, Or.inl ⟨"WillsReadFirst", List.mem_of_getElem? (i := 30) (by rfl)⟩, tyX0_ok, nmX0, rfl, by decide +kernel⟩
theorem sF_X6_generations_48 : zGF wsX6_generations RX6 48 6 6 := ⟨RX6, TX6, 12, rfl, inw_X6_generations_X6, by decide, rfl, Or.inr (List.mem_of_getElem? (i := 3) (by rfl))⟩
theorem sF_X6_generations_172 : zGF wsX6_generations RX6 172 5 9 := ⟨RX5, TX5, 10, rfl, inw_X6_generations_X5, by decide, rfl, Or.inl ⟨"WillsReadFirst", List.mem_of_getElem? (i := 37) (by rfl)⟩⟩
theorem sC_X6_generations_144 : zSS rm_X6_generations wsX6_generations RX6 144 yX6_isWithin wsX6_isWithin rm_X6_isWithin 3 := ⟨_, _, _, _, rfl, gX6_generations_X6_isWithin, ⟨rfl, rfl⟩, by decide +kernel, by decide⟩
theorem sC_X6_generations_103 : zSV rm_X6_generations wsX6_generations RX6 103 yX0_copyFrom wsX0_copyFrom rm_X0_copyFrom 1 := ⟨_, _, _, _, rfl, gX6_generations_X0_copyFrom, ⟨rfl, rfl⟩, by decide +kernel, by decide⟩
theorem sC_X6_generations_213 : zSV rm_X6_generations wsX6_generations RX6 213 yX5_run wsX5_run rm_X5_run 0 := ⟨_, _, _, _, rfl, gX6_generations_X5_run, ⟨rfl, rfl⟩, by decide +kernel, by decide⟩
theorem sC_X6_generations_216 : zSS rm_X6_generations wsX6_generations RX6 216 yJ6_bitCount_0f7a4 wsJ6_bitCount_0f7a4 rm_J6_bitCount_0f7a4 1 := ⟨_, _, _, _, rfl, gX6_generations_J6_bitCount_0f7a4, ⟨rfl, rfl⟩, by decide +kernel, by decide⟩
theorem sC_X6_generations_243 : zSV rm_X6_generations wsX6_generations RX6 243 yX5_lastHaving wsX5_lastHaving rm_X5_lastHaving 0 := ⟨_, _, _, _, rfl, gX6_generations_X5_lastHaving, ⟨rfl, rfl⟩, by decide +kernel, by decide⟩
theorem inw_X6_keptPlace_X6 : ∀ w ∈ u_ws RX6 TX6 12, w ∈ wsX6_keptPlace := fun w h => List.mem_cons_of_mem _ (List.mem_append_right _ h)
theorem sF_X6_keptPlace_65 : zGF wsX6_keptPlace RX6 65 6 9 := ⟨RX6, TX6, 12, rfl, inw_X6_keptPlace_X6, by decide, rfl, Or.inr (List.mem_of_getElem? (i := 1) (by rfl))⟩
theorem sF_X6_keptPlace_68 : zGF wsX6_keptPlace RX6 68 6 10 := ⟨RX6, TX6, 12, rfl, inw_X6_keptPlace_X6, by decide, rfl, Or.inr (List.mem_of_getElem? (i := 2) (by rfl))⟩
theorem inw_X6_keep_X6 : ∀ w ∈ u_ws RX6 TX6 12, w ∈ wsX6_keep := fun w h => List.mem_cons_of_mem _ (List.mem_append_left _ (List.mem_append_right _ h))
theorem inw_X6_keep_X0 : ∀ w ∈ u_ws RX0 TX0 15, w ∈ wsX6_keep := fun w h => List.mem_cons_of_mem _ (List.mem_append_right _ h)
theorem sF_X6_keep_71 : zGF wsX6_keep RX6 71 6 11 := ⟨RX6, TX6, 12, rfl, inw_X6_keep_X6, by decide, rfl, Or.inr (List.mem_of_getElem? (i := 1) (by rfl))⟩
theorem sF_X6_keep_28 : zGF wsX6_keep RX6 28 6 2 := ⟨RX6, TX6, 12, rfl, inw_X6_keep_X6, by decide, rfl, Or.inr (List.mem_of_getElem? (i := 2) (by rfl))⟩
theorem sP_X6_keep_71 : zPF wsX6_keep RX6 71 6 11 .int := ⟨RX6, TX6, 12, tyX6, rfl, inw_X6_keep_X6, by decide, rfl, Or.inr (List.mem_of_getElem? (i := 1) (by rfl)), tyX6_ok, nmX6, rfl, by decide +kernel⟩
theorem sC_X6_keep_246 : zSV rm_X6_keep wsX6_keep RX6 246 yX6_keptPlace wsX6_keptPlace rm_X6_keptPlace 1 := ⟨_, _, _, _, rfl, gX6_keep_X6_keptPlace, ⟨rfl, rfl⟩, by decide +kernel, by decide⟩
theorem sC_X6_keep_103 : zSV rm_X6_keep wsX6_keep RX6 103 yX0_copyFrom wsX0_copyFrom rm_X0_copyFrom 1 := ⟨_, _, _, _, rfl, gX6_keep_X0_copyFrom, ⟨rfl, rfl⟩, by decide +kernel, by decide⟩
theorem inw_X6_back_X6 : ∀ w ∈ u_ws RX6 TX6 12, w ∈ wsX6_back := fun w h => List.mem_cons_of_mem _ (List.mem_append_left _ (List.mem_append_left _ (List.mem_append_right _ h)))
theorem inw_X6_back_X0 : ∀ w ∈ u_ws RX0 TX0 15, w ∈ wsX6_back := fun w h => List.mem_cons_of_mem _ (List.mem_append_left _ (List.mem_append_right _ h))
theorem inw_X6_back_X1 : ∀ w ∈ u_ws RX1 TX1 4, w ∈ wsX6_back := fun w h => List.mem_cons_of_mem _ (List.mem_append_right _ h)
theorem sF_X6_back_71 : zGF wsX6_back RX6 71 6 11 := ⟨RX6, TX6, 12, rfl, inw_X6_back_X6, by decide, rfl, Or.inr (List.mem_of_getElem? (i := 1) (by rfl))⟩
theorem sP_X6_back_71 : zPF wsX6_back RX6 71 6 11 .int := ⟨RX6, TX6, 12, tyX6, rfl, inw_X6_back_X6, by decide, rfl, Or.inr (List.mem_of_getElem? (i := 1) (by rfl)), tyX6_ok, nmX6, rfl, by decide +kernel⟩
theorem sF_X6_back_28 : zGF wsX6_back RX6 28 6 2 := ⟨RX6, TX6, 12, rfl, inw_X6_back_X6, by decide, rfl, Or.inr (List.mem_of_getElem? (i := 2) (by rfl))⟩
theorem sF_X6_back_54 : zGF wsX6_back RX6 54 6 7 := ⟨RX6, TX6, 12, rfl, inw_X6_back_X6, by decide, rfl, Or.inr (List.mem_of_getElem? (i := 3) (by rfl))⟩
theorem sP_X6_back_41 : zPF wsX6_back RX6 41 6 4 .boolean := ⟨RX6, TX6, 12, tyX6, rfl, inw_X6_back_X6, by decide, rfl, Or.inr (List.mem_of_getElem? (i := 4) (by rfl)), tyX6_ok, nmX6, rfl, by decide +kernel⟩
theorem sC_X6_back_246 : zSV rm_X6_back wsX6_back RX6 246 yX6_keptPlace wsX6_keptPlace rm_X6_keptPlace 1 := ⟨_, _, _, _, rfl, gX6_back_X6_keptPlace, ⟨rfl, rfl⟩, by decide +kernel, by decide⟩
theorem sC_X6_back_103 : zSV rm_X6_back wsX6_back RX6 103 yX0_copyFrom wsX0_copyFrom rm_X0_copyFrom 1 := ⟨_, _, _, _, rfl, gX6_back_X0_copyFrom, ⟨rfl, rfl⟩, by decide +kernel, by decide⟩
theorem sC_X6_back_106 : zSV rm_X6_back wsX6_back RX6 106 yX1_clear wsX1_clear rm_X1_clear 0 := ⟨_, _, _, _, rfl, gX6_back_X1_clear, ⟨rfl, rfl⟩, by decide +kernel, by decide⟩
theorem inw_X6_count_X6 : ∀ w ∈ u_ws RX6 TX6 12, w ∈ wsX6_count := fun w h => List.mem_cons_of_mem _ (List.mem_append_left _ (List.mem_append_left _ (List.mem_append_left _ (List.mem_append_left _ (List.mem_append_right _ h)))))
theorem inw_X6_count_X0 : ∀ w ∈ u_ws RX0 TX0 15, w ∈ wsX6_count := fun w h => List.mem_cons_of_mem _ (List.mem_append_left _ (List.mem_append_left _ (List.mem_append_left _ (List.mem_append_right _ h))))
theorem inw_X6_count_X4 : ∀ w ∈ u_ws RX4 TX4 4, w ∈ wsX6_count := fun w h => List.mem_cons_of_mem _ (List.mem_append_left _ (List.mem_append_left _ (List.mem_append_right _ h)))
theorem inw_X6_count_X1 : ∀ w ∈ u_ws RX1 TX1 4, w ∈ wsX6_count := fun w h => List.mem_cons_of_mem _ (List.mem_append_left _ (List.mem_append_right _ h))
theorem inw_X6_count_X3 : ∀ w ∈ u_ws RX3 TX3 2, w ∈ wsX6_count := fun w h => List.mem_cons_of_mem _ (List.mem_append_right _ h)
theorem sF_X6_count_28 : zGF wsX6_count RX6 28 6 2 := ⟨RX6, TX6, 12, rfl, inw_X6_count_X6, by decide, rfl, Or.inr (List.mem_of_getElem? (i := 1) (by rfl))⟩
theorem sF_X6_count_100 : zGF wsX6_count RX6 100 0 0 := ⟨RX0, TX0, 15, rfl, inw_X6_count_X0, by decide, rfl, Or.inl ⟨"WillsReadFirst", List.mem_of_getElem? (i := 3) (by rfl)⟩⟩
theorem sF_X6_count_206 : zGF wsX6_count RX6 206 0 6 := ⟨RX0, TX0, 15, rfl, inw_X6_count_X0, by decide, rfl, Or.inl ⟨"WillsReadFirst", List.mem_of_getElem? (i := 15) (by rfl)⟩⟩
theorem sF_X6_count_155 : zGF wsX6_count RX6 155 0 10 := ⟨RX0, TX0, 15, rfl, inw_X6_count_X0, by decide, rfl, Or.inl ⟨"WillsReadFirst", List.mem_of_getElem? (i := 25) (by rfl)⟩⟩
theorem sF_X6_count_61 : zGF wsX6_count RX6 61 6 8 := ⟨RX6, TX6, 12, rfl, inw_X6_count_X6, by decide, rfl, Or.inr (List.mem_of_getElem? (i := 2) (by rfl))⟩
theorem sF_X6_count_230 : zGF wsX6_count RX6 230 4 3 := ⟨RX4, TX4, 4, rfl, inw_X6_count_X4, by decide, rfl, Or.inl ⟨"WillsReadFirst", List.mem_of_getElem? (i := 39) (by rfl)⟩⟩
theorem sF_X6_count_54 : zGF wsX6_count RX6 54 6 7 := ⟨RX6, TX6, 12, rfl, inw_X6_count_X6, by decide, rfl, Or.inr (List.mem_of_getElem? (i := 3) (by rfl))⟩
theorem sF_X6_count_162 : zGF wsX6_count RX6 162 1 3 := ⟨RX1, TX1, 4, rfl, inw_X6_count_X1, by decide, rfl, Or.inl ⟨"WillsReadFirst", List.mem_of_getElem? (i := 38) (by rfl)⟩⟩
theorem sF_X6_count_71 : zGF wsX6_count RX6 71 6 11 := ⟨RX6, TX6, 12, rfl, inw_X6_count_X6, by decide, rfl, Or.inr (List.mem_of_getElem? (i := 4) (by rfl))⟩
theorem sF_X6_count_10 : zGF wsX6_count RX6 10 6 0 := ⟨RX6, TX6, 12, rfl, inw_X6_count_X6, by decide, rfl, Or.inr (List.mem_of_getElem? (i := 5) (by rfl))⟩
theorem sF_X6_count_98 : zGF wsX6_count RX6 98 3 1 := ⟨RX3, TX3, 2, rfl, inw_X6_count_X3, by decide, rfl, Or.inl ⟨"WillsReadFirst", List.mem_of_getElem? (i := 1) (by rfl)⟩⟩
theorem inw_X7_layOne_X7 : ∀ w ∈ u_ws RX7 TX7 31, w ∈ wsX7_layOne := fun w h => List.mem_cons_of_mem _ (List.mem_append_right _ h)
theorem sF_X7_layOne_26 : zGF wsX7_layOne RX7 26 7 11 := ⟨RX7, TX7, 31, rfl, inw_X7_layOne_X7, by decide, rfl, Or.inr (List.mem_of_getElem? (i := 1) (by rfl))⟩
theorem inw_X7_layWill_X7 : ∀ w ∈ u_ws RX7 TX7 31, w ∈ wsX7_layWill := fun w h => List.mem_cons_of_mem _ (List.mem_append_right _ h)
theorem sF_X7_layWill_35 : zGF wsX7_layWill RX7 35 7 14 := ⟨RX7, TX7, 31, rfl, inw_X7_layWill_X7, by decide, rfl, Or.inr (List.mem_of_getElem? (i := 1) (by rfl))⟩
theorem inw_X7_init_X7 : ∀ w ∈ u_ws RX7 TX7 31, w ∈ wsX7_init := fun w h => List.mem_cons_of_mem _ (List.mem_append_right _ h)
theorem sP_X7_init_22 : zPF wsX7_init RX7 22 7 10 .int := ⟨RX7, TX7, 31, tyX7, rfl, inw_X7_init_X7, by decide, rfl, Or.inr (List.mem_of_getElem? (i := 9) (by rfl)), tyX7_ok, nmX7, rfl, by decide +kernel⟩
theorem sP_X7_init_29 : zPF wsX7_init RX7 29 7 12 .int := ⟨RX7, TX7, 31, tyX7, rfl, inw_X7_init_X7, by decide, rfl, Or.inr (List.mem_of_getElem? (i := 11) (by rfl)), tyX7_ok, nmX7, rfl, by decide +kernel⟩
theorem sP_X7_init_32 : zPF wsX7_init RX7 32 7 13 .int := ⟨RX7, TX7, 31, tyX7, rfl, inw_X7_init_X7, by decide, rfl, Or.inr (List.mem_of_getElem? (i := 12) (by rfl)), tyX7_ok, nmX7, rfl, by decide +kernel⟩
theorem inw_X7_isOne_X7 : ∀ w ∈ u_ws RX7 TX7 31, w ∈ wsX7_isOne := fun w h => List.mem_cons_of_mem _ (List.mem_append_right _ h)
theorem sF_X7_isOne_22 : zGF wsX7_isOne RX7 22 7 10 := ⟨RX7, TX7, 31, rfl, inw_X7_isOne_X7, by decide, rfl, Or.inr (List.mem_of_getElem? (i := 1) (by rfl))⟩
theorem sC_X7_isOne_76 : zSS rm_X7_isOne wsX7_isOne RX7 76 yX7_in wsX7_in rm_X7_in 3 := ⟨_, _, _, _, rfl, gX7_isOne_X7_in, ⟨rfl, rfl⟩, by decide +kernel, by decide⟩
theorem inw_X7_isWill_X7 : ∀ w ∈ u_ws RX7 TX7 31, w ∈ wsX7_isWill := fun w h => List.mem_cons_of_mem _ (List.mem_append_right _ h)
theorem sF_X7_isWill_29 : zGF wsX7_isWill RX7 29 7 12 := ⟨RX7, TX7, 31, rfl, inw_X7_isWill_X7, by decide, rfl, Or.inr (List.mem_of_getElem? (i := 1) (by rfl))⟩
theorem sC_X7_isWill_76 : zSS rm_X7_isWill wsX7_isWill RX7 76 yX7_in wsX7_in rm_X7_in 3 := ⟨_, _, _, _, rfl, gX7_isWill_X7_in, ⟨rfl, rfl⟩, by decide +kernel, by decide⟩
theorem inw_X7_write_X7 : ∀ w ∈ u_ws RX7 TX7 31, w ∈ wsX7_write := fun w h => List.mem_cons_of_mem _ (List.mem_append_right _ h)
theorem sF_X7_write_80 : zGF wsX7_write RX7 80 7 0 := ⟨RX7, TX7, 31, rfl, inw_X7_write_X7, by decide, rfl, Or.inr (List.mem_of_getElem? (i := 1) (by rfl))⟩
theorem sF_X7_write_7 : zGF wsX7_write RX7 7 7 1 := ⟨RX7, TX7, 31, rfl, inw_X7_write_X7, by decide, rfl, Or.inr (List.mem_of_getElem? (i := 2) (by rfl))⟩
theorem sP_X7_write_80 : zPF wsX7_write RX7 80 7 0 .int := ⟨RX7, TX7, 31, tyX7, rfl, inw_X7_write_X7, by decide, rfl, Or.inr (List.mem_of_getElem? (i := 1) (by rfl)), tyX7_ok, nmX7, rfl, by decide +kernel⟩
theorem sC_X7_write_76 : zSS rm_X7_write wsX7_write RX7 76 yX7_in wsX7_in rm_X7_in 3 := ⟨_, _, _, _, rfl, gX7_write_X7_in, ⟨rfl, rfl⟩, by decide +kernel, by decide⟩
theorem inw_X7_wipe_X7 : ∀ w ∈ u_ws RX7 TX7 31, w ∈ wsX7_wipe := fun w h => List.mem_cons_of_mem _ (List.mem_append_right _ h)
theorem sF_X7_wipe_80 : zGF wsX7_wipe RX7 80 7 0 := ⟨RX7, TX7, 31, rfl, inw_X7_wipe_X7, by decide, rfl, Or.inr (List.mem_of_getElem? (i := 1) (by rfl))⟩
theorem sP_X7_wipe_80 : zPF wsX7_wipe RX7 80 7 0 .int := ⟨RX7, TX7, 31, tyX7, rfl, inw_X7_wipe_X7, by decide, rfl, Or.inr (List.mem_of_getElem? (i := 1) (by rfl)), tyX7_ok, nmX7, rfl, by decide +kernel⟩
theorem inw_X7_letterAt_X7 : ∀ w ∈ u_ws RX7 TX7 31, w ∈ wsX7_letterAt := fun w h => List.mem_cons_of_mem _ (List.mem_append_right _ h)
theorem sF_X7_letterAt_80 : zGF wsX7_letterAt RX7 80 7 0 := ⟨RX7, TX7, 31, rfl, inw_X7_letterAt_X7, by decide, rfl, Or.inr (List.mem_of_getElem? (i := 1) (by rfl))⟩
theorem sF_X7_letterAt_7 : zGF wsX7_letterAt RX7 7 7 1 := ⟨RX7, TX7, 31, rfl, inw_X7_letterAt_X7, by decide, rfl, Or.inr (List.mem_of_getElem? (i := 2) (by rfl))⟩
theorem inw_X7_isRow_X7 : ∀ w ∈ u_ws RX7 TX7 31, w ∈ wsX7_isRow := fun w h => List.mem_cons_of_mem _ (List.mem_append_right _ h)
theorem sF_X7_isRow_83 : zGF wsX7_isRow RX7 83 7 2 := ⟨RX7, TX7, 31, rfl, inw_X7_isRow_X7, by decide, rfl, Or.inr (List.mem_of_getElem? (i := 1) (by rfl))⟩
theorem sP_X7_isRow_83 : zPF wsX7_isRow RX7 83 7 2 .int := ⟨RX7, TX7, 31, tyX7, rfl, inw_X7_isRow_X7, by decide, rfl, Or.inr (List.mem_of_getElem? (i := 1) (by rfl)), tyX7_ok, nmX7, rfl, by decide +kernel⟩
theorem sF_X7_isRow_13 : zGF wsX7_isRow RX7 13 7 3 := ⟨RX7, TX7, 31, rfl, inw_X7_isRow_X7, by decide, rfl, Or.inr (List.mem_of_getElem? (i := 2) (by rfl))⟩
theorem sC_X7_isRow_86 : zSV rm_X7_isRow wsX7_isRow RX7 86 yX7_letterAt wsX7_letterAt rm_X7_letterAt 1 := ⟨_, _, _, _, rfl, gX7_isRow_X7_letterAt, ⟨rfl, rfl⟩, by decide +kernel, by decide⟩
theorem sC_X7_isRow_76 : zSS rm_X7_isRow wsX7_isRow RX7 76 yX7_in wsX7_in rm_X7_in 3 := ⟨_, _, _, _, rfl, gX7_isRow_X7_in, ⟨rfl, rfl⟩, by decide +kernel, by decide⟩
theorem inw_X7_isItem_X7 : ∀ w ∈ u_ws RX7 TX7 31, w ∈ wsX7_isItem := fun w h => List.mem_cons_of_mem _ (List.mem_append_right _ h)
theorem sF_X7_isItem_83 : zGF wsX7_isItem RX7 83 7 2 := ⟨RX7, TX7, 31, rfl, inw_X7_isItem_X7, by decide, rfl, Or.inr (List.mem_of_getElem? (i := 1) (by rfl))⟩
theorem sP_X7_isItem_83 : zPF wsX7_isItem RX7 83 7 2 .int := ⟨RX7, TX7, 31, tyX7, rfl, inw_X7_isItem_X7, by decide, rfl, Or.inr (List.mem_of_getElem? (i := 1) (by rfl)), tyX7_ok, nmX7, rfl, by decide +kernel⟩
theorem sF_X7_isItem_90 : zGF wsX7_isItem RX7 90 7 5 := ⟨RX7, TX7, 31, rfl, inw_X7_isItem_X7, by decide, rfl, Or.inr (List.mem_of_getElem? (i := 2) (by rfl))⟩
theorem sF_X7_isItem_13 : zGF wsX7_isItem RX7 13 7 3 := ⟨RX7, TX7, 31, rfl, inw_X7_isItem_X7, by decide, rfl, Or.inr (List.mem_of_getElem? (i := 3) (by rfl))⟩
theorem sF_X7_isItem_16 : zGF wsX7_isItem RX7 16 7 7 := ⟨RX7, TX7, 31, rfl, inw_X7_isItem_X7, by decide, rfl, Or.inr (List.mem_of_getElem? (i := 4) (by rfl))⟩
theorem sP_X7_isItem_90 : zPF wsX7_isItem RX7 90 7 5 .int := ⟨RX7, TX7, 31, tyX7, rfl, inw_X7_isItem_X7, by decide, rfl, Or.inr (List.mem_of_getElem? (i := 2) (by rfl)), tyX7_ok, nmX7, rfl, by decide +kernel⟩
theorem sF_X7_isItem_97 : zGF wsX7_isItem RX7 97 7 6 := ⟨RX7, TX7, 31, rfl, inw_X7_isItem_X7, by decide, rfl, Or.inr (List.mem_of_getElem? (i := 5) (by rfl))⟩
theorem sF_X7_isItem_19 : zGF wsX7_isItem RX7 19 7 8 := ⟨RX7, TX7, 31, rfl, inw_X7_isItem_X7, by decide, rfl, Or.inr (List.mem_of_getElem? (i := 6) (by rfl))⟩
theorem sP_X7_isItem_97 : zPF wsX7_isItem RX7 97 7 6 .int := ⟨RX7, TX7, 31, tyX7, rfl, inw_X7_isItem_X7, by decide, rfl, Or.inr (List.mem_of_getElem? (i := 5) (by rfl)), tyX7_ok, nmX7, rfl, by decide +kernel⟩
theorem sP_X7_isItem_100 : zPF wsX7_isItem RX7 100 7 9 .int := ⟨RX7, TX7, 31, tyX7, rfl, inw_X7_isItem_X7, by decide, rfl, Or.inr (List.mem_of_getElem? (i := 7) (by rfl)), tyX7_ok, nmX7, rfl, by decide +kernel⟩
theorem sC_X7_isItem_86 : zSV rm_X7_isItem wsX7_isItem RX7 86 yX7_letterAt wsX7_letterAt rm_X7_letterAt 1 := ⟨_, _, _, _, rfl, gX7_isItem_X7_letterAt, ⟨rfl, rfl⟩, by decide +kernel, by decide⟩
theorem sC_X7_isItem_93 : zSV rm_X7_isItem wsX7_isItem RX7 93 yX7_isRow wsX7_isRow rm_X7_isRow 1 := ⟨_, _, _, _, rfl, gX7_isItem_X7_isRow, ⟨rfl, rfl⟩, by decide +kernel, by decide⟩
theorem inw_X7_isRead_X7 : ∀ w ∈ u_ws RX7 TX7 31, w ∈ wsX7_isRead := fun w h => List.mem_cons_of_mem _ (List.mem_append_right _ h)
theorem sP_X7_isRead_83 : zPF wsX7_isRead RX7 83 7 2 .int := ⟨RX7, TX7, 31, tyX7, rfl, inw_X7_isRead_X7, by decide, rfl, Or.inr (List.mem_of_getElem? (i := 1) (by rfl)), tyX7_ok, nmX7, rfl, by decide +kernel⟩
theorem sP_X7_isRead_90 : zPF wsX7_isRead RX7 90 7 5 .int := ⟨RX7, TX7, 31, tyX7, rfl, inw_X7_isRead_X7, by decide, rfl, Or.inr (List.mem_of_getElem? (i := 2) (by rfl)), tyX7_ok, nmX7, rfl, by decide +kernel⟩
theorem sP_X7_isRead_97 : zPF wsX7_isRead RX7 97 7 6 .int := ⟨RX7, TX7, 31, tyX7, rfl, inw_X7_isRead_X7, by decide, rfl, Or.inr (List.mem_of_getElem? (i := 3) (by rfl)), tyX7_ok, nmX7, rfl, by decide +kernel⟩
theorem sP_X7_isRead_100 : zPF wsX7_isRead RX7 100 7 9 .int := ⟨RX7, TX7, 31, tyX7, rfl, inw_X7_isRead_X7, by decide, rfl, Or.inr (List.mem_of_getElem? (i := 4) (by rfl)), tyX7_ok, nmX7, rfl, by decide +kernel⟩
theorem sF_X7_isRead_83 : zGF wsX7_isRead RX7 83 7 2 := ⟨RX7, TX7, 31, rfl, inw_X7_isRead_X7, by decide, rfl, Or.inr (List.mem_of_getElem? (i := 1) (by rfl))⟩
theorem sF_X7_isRead_80 : zGF wsX7_isRead RX7 80 7 0 := ⟨RX7, TX7, 31, rfl, inw_X7_isRead_X7, by decide, rfl, Or.inr (List.mem_of_getElem? (i := 5) (by rfl))⟩
theorem sP_X7_isRead_103 : zPF wsX7_isRead RX7 103 7 4 .int := ⟨RX7, TX7, 31, tyX7, rfl, inw_X7_isRead_X7, by decide, rfl, Or.inr (List.mem_of_getElem? (i := 6) (by rfl)), tyX7_ok, nmX7, rfl, by decide +kernel⟩
theorem sC_X7_isRead_106 : zSV rm_X7_isRead wsX7_isRead RX7 106 yX7_isItem wsX7_isItem rm_X7_isItem 0 := ⟨_, _, _, _, rfl, gX7_isRead_X7_isItem, ⟨rfl, rfl⟩, by decide +kernel, by decide⟩
theorem inw_X7_fault_X7 : ∀ w ∈ u_ws RX7 TX7 31, w ∈ wsX7_fault := fun w h => List.mem_cons_of_mem _ (List.mem_append_right _ h)
theorem sF_X7_fault_103 : zGF wsX7_fault RX7 103 7 4 := ⟨RX7, TX7, 31, rfl, inw_X7_fault_X7, by decide, rfl, Or.inr (List.mem_of_getElem? (i := 1) (by rfl))⟩
theorem sC_X7_fault_110 : zSV rm_X7_fault wsX7_fault RX7 110 yX7_isRead wsX7_isRead rm_X7_isRead 0 := ⟨_, _, _, _, rfl, gX7_fault_X7_isRead, ⟨rfl, rfl⟩, by decide +kernel, by decide⟩
theorem inw_X7_lay_X7 : ∀ w ∈ u_ws RX7 TX7 31, w ∈ wsX7_lay := fun w h => List.mem_cons_of_mem _ (List.mem_append_right _ h)
theorem sF_X7_lay_90 : zGF wsX7_lay RX7 90 7 5 := ⟨RX7, TX7, 31, rfl, inw_X7_lay_X7, by decide, rfl, Or.inr (List.mem_of_getElem? (i := 1) (by rfl))⟩
theorem sP_X7_lay_22 : zPF wsX7_lay RX7 22 7 10 .int := ⟨RX7, TX7, 31, tyX7, rfl, inw_X7_lay_X7, by decide, rfl, Or.inr (List.mem_of_getElem? (i := 2) (by rfl)), tyX7_ok, nmX7, rfl, by decide +kernel⟩
theorem sF_X7_lay_97 : zGF wsX7_lay RX7 97 7 6 := ⟨RX7, TX7, 31, rfl, inw_X7_lay_X7, by decide, rfl, Or.inr (List.mem_of_getElem? (i := 3) (by rfl))⟩
theorem sP_X7_lay_29 : zPF wsX7_lay RX7 29 7 12 .int := ⟨RX7, TX7, 31, tyX7, rfl, inw_X7_lay_X7, by decide, rfl, Or.inr (List.mem_of_getElem? (i := 4) (by rfl)), tyX7_ok, nmX7, rfl, by decide +kernel⟩
theorem sF_X7_lay_100 : zGF wsX7_lay RX7 100 7 9 := ⟨RX7, TX7, 31, rfl, inw_X7_lay_X7, by decide, rfl, Or.inr (List.mem_of_getElem? (i := 5) (by rfl))⟩
theorem sP_X7_lay_32 : zPF wsX7_lay RX7 32 7 13 .int := ⟨RX7, TX7, 31, tyX7, rfl, inw_X7_lay_X7, by decide, rfl, Or.inr (List.mem_of_getElem? (i := 6) (by rfl)), tyX7_ok, nmX7, rfl, by decide +kernel⟩
theorem sF_X7_lay_22 : zGF wsX7_lay RX7 22 7 10 := ⟨RX7, TX7, 31, rfl, inw_X7_lay_X7, by decide, rfl, Or.inr (List.mem_of_getElem? (i := 2) (by rfl))⟩
theorem sF_X7_lay_26 : zGF wsX7_lay RX7 26 7 11 := ⟨RX7, TX7, 31, rfl, inw_X7_lay_X7, by decide, rfl, Or.inr (List.mem_of_getElem? (i := 7) (by rfl))⟩
theorem sF_X7_lay_16 : zGF wsX7_lay RX7 16 7 7 := ⟨RX7, TX7, 31, rfl, inw_X7_lay_X7, by decide, rfl, Or.inr (List.mem_of_getElem? (i := 8) (by rfl))⟩
theorem sF_X7_lay_35 : zGF wsX7_lay RX7 35 7 14 := ⟨RX7, TX7, 31, rfl, inw_X7_lay_X7, by decide, rfl, Or.inr (List.mem_of_getElem? (i := 9) (by rfl))⟩
theorem sF_X7_lay_29 : zGF wsX7_lay RX7 29 7 12 := ⟨RX7, TX7, 31, rfl, inw_X7_lay_X7, by decide, rfl, Or.inr (List.mem_of_getElem? (i := 4) (by rfl))⟩
theorem sF_X7_lay_19 : zGF wsX7_lay RX7 19 7 8 := ⟨RX7, TX7, 31, rfl, inw_X7_lay_X7, by decide, rfl, Or.inr (List.mem_of_getElem? (i := 10) (by rfl))⟩
theorem sP_X7_lay_113 : zPF wsX7_lay RX7 113 7 19 .int := ⟨RX7, TX7, 31, tyX7, rfl, inw_X7_lay_X7, by decide, rfl, Or.inr (List.mem_of_getElem? (i := 11) (by rfl)), tyX7_ok, nmX7, rfl, by decide +kernel⟩
theorem sP_X7_lay_116 : zPF wsX7_lay RX7 116 7 16 .int := ⟨RX7, TX7, 31, tyX7, rfl, inw_X7_lay_X7, by decide, rfl, Or.inr (List.mem_of_getElem? (i := 12) (by rfl)), tyX7_ok, nmX7, rfl, by decide +kernel⟩
theorem sP_X7_lay_119 : zPF wsX7_lay RX7 119 7 18 .int := ⟨RX7, TX7, 31, tyX7, rfl, inw_X7_lay_X7, by decide, rfl, Or.inr (List.mem_of_getElem? (i := 13) (by rfl)), tyX7_ok, nmX7, rfl, by decide +kernel⟩
theorem sC_X7_lay_110 : zSV rm_X7_lay wsX7_lay RX7 110 yX7_isRead wsX7_isRead rm_X7_isRead 0 := ⟨_, _, _, _, rfl, gX7_lay_X7_isRead, ⟨rfl, rfl⟩, by decide +kernel, by decide⟩
theorem inw_X7_leavesOf_X7 : ∀ w ∈ u_ws RX7 TX7 31, w ∈ wsX7_leavesOf := fun w h => List.mem_cons_of_mem _ (List.mem_append_right _ h)
theorem sF_X7_leavesOf_29 : zGF wsX7_leavesOf RX7 29 7 12 := ⟨RX7, TX7, 31, rfl, inw_X7_leavesOf_X7, by decide, rfl, Or.inr (List.mem_of_getElem? (i := 1) (by rfl))⟩
theorem sF_X7_leavesOf_35 : zGF wsX7_leavesOf RX7 35 7 14 := ⟨RX7, TX7, 31, rfl, inw_X7_leavesOf_X7, by decide, rfl, Or.inr (List.mem_of_getElem? (i := 2) (by rfl))⟩
theorem inw_X7_person_X7 : ∀ w ∈ u_ws RX7 TX7 31, w ∈ wsX7_person := fun w h => List.mem_cons_of_mem _ (List.mem_append_right _ h)
theorem sF_X7_person_26 : zGF wsX7_person RX7 26 7 11 := ⟨RX7, TX7, 31, rfl, inw_X7_person_X7, by decide, rfl, Or.inr (List.mem_of_getElem? (i := 1) (by rfl))⟩
theorem sC_X7_person_122 : zSV rm_X7_person wsX7_person RX7 122 yX7_isOne wsX7_isOne rm_X7_isOne 1 := ⟨_, _, _, _, rfl, gX7_person_X7_isOne, ⟨rfl, rfl⟩, by decide +kernel, by decide⟩
theorem sC_X7_person_76 : zSS rm_X7_person wsX7_person RX7 76 yX7_in wsX7_in rm_X7_in 3 := ⟨_, _, _, _, rfl, gX7_person_X7_in, ⟨rfl, rfl⟩, by decide +kernel, by decide⟩
theorem sC_X7_person_125 : zSV rm_X7_person wsX7_person RX7 125 yX7_leavesOf wsX7_leavesOf rm_X7_leavesOf 1 := ⟨_, _, _, _, rfl, gX7_person_X7_leavesOf, ⟨rfl, rfl⟩, by decide +kernel, by decide⟩
theorem inw_X7_bequest_X7 : ∀ w ∈ u_ws RX7 TX7 31, w ∈ wsX7_bequest := fun w h => List.mem_cons_of_mem _ (List.mem_append_right _ h)
theorem sF_X7_bequest_35 : zGF wsX7_bequest RX7 35 7 14 := ⟨RX7, TX7, 31, rfl, inw_X7_bequest_X7, by decide, rfl, Or.inr (List.mem_of_getElem? (i := 1) (by rfl))⟩
theorem sC_X7_bequest_128 : zSV rm_X7_bequest wsX7_bequest RX7 128 yX7_isWill wsX7_isWill rm_X7_isWill 1 := ⟨_, _, _, _, rfl, gX7_bequest_X7_isWill, ⟨rfl, rfl⟩, by decide +kernel, by decide⟩
theorem sC_X7_bequest_76 : zSS rm_X7_bequest wsX7_bequest RX7 76 yX7_in wsX7_in rm_X7_in 3 := ⟨_, _, _, _, rfl, gX7_bequest_X7_in, ⟨rfl, rfl⟩, by decide +kernel, by decide⟩
theorem inw_X7_note_X7 : ∀ w ∈ u_ws RX7 TX7 31, w ∈ wsX7_note := fun w h => List.mem_cons_of_mem _ (List.mem_append_right _ h)
theorem sF_X7_note_116 : zGF wsX7_note RX7 116 7 16 := ⟨RX7, TX7, 31, rfl, inw_X7_note_X7, by decide, rfl, Or.inr (List.mem_of_getElem? (i := 1) (by rfl))⟩
theorem sF_X7_note_38 : zGF wsX7_note RX7 38 7 15 := ⟨RX7, TX7, 31, rfl, inw_X7_note_X7, by decide, rfl, Or.inr (List.mem_of_getElem? (i := 2) (by rfl))⟩
theorem sP_X7_note_116 : zPF wsX7_note RX7 116 7 16 .int := ⟨RX7, TX7, 31, tyX7, rfl, inw_X7_note_X7, by decide, rfl, Or.inr (List.mem_of_getElem? (i := 1) (by rfl)), tyX7_ok, nmX7, rfl, by decide +kernel⟩
theorem sF_X7_note_35 : zGF wsX7_note RX7 35 7 14 := ⟨RX7, TX7, 31, rfl, inw_X7_note_X7, by decide, rfl, Or.inr (List.mem_of_getElem? (i := 3) (by rfl))⟩
theorem sC_X7_note_131 : zSS rm_X7_note wsX7_note RX7 131 yX7_copy wsX7_copy rm_X7_copy 4 := ⟨_, _, _, _, rfl, gX7_note_X7_copy, ⟨rfl, rfl⟩, by decide +kernel, by decide⟩
theorem inw_X7_reword_X7 : ∀ w ∈ u_ws RX7 TX7 31, w ∈ wsX7_reword := fun w h => List.mem_cons_of_mem _ (List.mem_append_right _ h)
theorem sF_X7_reword_35 : zGF wsX7_reword RX7 35 7 14 := ⟨RX7, TX7, 31, rfl, inw_X7_reword_X7, by decide, rfl, Or.inr (List.mem_of_getElem? (i := 1) (by rfl))⟩
theorem sC_X7_reword_128 : zSV rm_X7_reword wsX7_reword RX7 128 yX7_isWill wsX7_isWill rm_X7_isWill 1 := ⟨_, _, _, _, rfl, gX7_reword_X7_isWill, ⟨rfl, rfl⟩, by decide +kernel, by decide⟩
theorem sC_X7_reword_76 : zSS rm_X7_reword wsX7_reword RX7 76 yX7_in wsX7_in rm_X7_in 3 := ⟨_, _, _, _, rfl, gX7_reword_X7_in, ⟨rfl, rfl⟩, by decide +kernel, by decide⟩
theorem sC_X7_reword_135 : zSV rm_X7_reword wsX7_reword RX7 135 yX7_note wsX7_note rm_X7_note 0 := ⟨_, _, _, _, rfl, gX7_reword_X7_note, ⟨rfl, rfl⟩, by decide +kernel, by decide⟩
theorem inw_X7_pass_X7 : ∀ w ∈ u_ws RX7 TX7 31, w ∈ wsX7_pass := fun w h => List.mem_cons_of_mem _ (List.mem_append_right _ h)
theorem sF_X7_pass_35 : zGF wsX7_pass RX7 35 7 14 := ⟨RX7, TX7, 31, rfl, inw_X7_pass_X7, by decide, rfl, Or.inr (List.mem_of_getElem? (i := 1) (by rfl))⟩
theorem sC_X7_pass_128 : zSV rm_X7_pass wsX7_pass RX7 128 yX7_isWill wsX7_isWill rm_X7_isWill 1 := ⟨_, _, _, _, rfl, gX7_pass_X7_isWill, ⟨rfl, rfl⟩, by decide +kernel, by decide⟩
theorem sC_X7_pass_122 : zSV rm_X7_pass wsX7_pass RX7 122 yX7_isOne wsX7_isOne rm_X7_isOne 1 := ⟨_, _, _, _, rfl, gX7_pass_X7_isOne, ⟨rfl, rfl⟩, by decide +kernel, by decide⟩
theorem sC_X7_pass_135 : zSV rm_X7_pass wsX7_pass RX7 135 yX7_note wsX7_note rm_X7_note 0 := ⟨_, _, _, _, rfl, gX7_pass_X7_note, ⟨rfl, rfl⟩, by decide +kernel, by decide⟩
theorem inw_X7_help_X7 : ∀ w ∈ u_ws RX7 TX7 31, w ∈ wsX7_help := fun w h => List.mem_cons_of_mem _ (List.mem_append_right _ h)
theorem sF_X7_help_35 : zGF wsX7_help RX7 35 7 14 := ⟨RX7, TX7, 31, rfl, inw_X7_help_X7, by decide, rfl, Or.inr (List.mem_of_getElem? (i := 1) (by rfl))⟩
theorem sC_X7_help_122 : zSV rm_X7_help wsX7_help RX7 122 yX7_isOne wsX7_isOne rm_X7_isOne 1 := ⟨_, _, _, _, rfl, gX7_help_X7_isOne, ⟨rfl, rfl⟩, by decide +kernel, by decide⟩
theorem sC_X7_help_76 : zSS rm_X7_help wsX7_help RX7 76 yX7_in wsX7_in rm_X7_in 3 := ⟨_, _, _, _, rfl, gX7_help_X7_in, ⟨rfl, rfl⟩, by decide +kernel, by decide⟩
theorem sC_X7_help_135 : zSV rm_X7_help wsX7_help RX7 135 yX7_note wsX7_note rm_X7_note 0 := ⟨_, _, _, _, rfl, gX7_help_X7_note, ⟨rfl, rfl⟩, by decide +kernel, by decide⟩
theorem inw_X7_undo_X7 : ∀ w ∈ u_ws RX7 TX7 31, w ∈ wsX7_undo := fun w h => List.mem_cons_of_mem _ (List.mem_append_right _ h)
theorem sF_X7_undo_116 : zGF wsX7_undo RX7 116 7 16 := ⟨RX7, TX7, 31, rfl, inw_X7_undo_X7, by decide, rfl, Or.inr (List.mem_of_getElem? (i := 1) (by rfl))⟩
theorem sP_X7_undo_116 : zPF wsX7_undo RX7 116 7 16 .int := ⟨RX7, TX7, 31, tyX7, rfl, inw_X7_undo_X7, by decide, rfl, Or.inr (List.mem_of_getElem? (i := 1) (by rfl)), tyX7_ok, nmX7, rfl, by decide +kernel⟩
theorem sF_X7_undo_38 : zGF wsX7_undo RX7 38 7 15 := ⟨RX7, TX7, 31, rfl, inw_X7_undo_X7, by decide, rfl, Or.inr (List.mem_of_getElem? (i := 2) (by rfl))⟩
theorem sF_X7_undo_35 : zGF wsX7_undo RX7 35 7 14 := ⟨RX7, TX7, 31, rfl, inw_X7_undo_X7, by decide, rfl, Or.inr (List.mem_of_getElem? (i := 3) (by rfl))⟩
theorem sC_X7_undo_131 : zSS rm_X7_undo wsX7_undo RX7 131 yX7_copy wsX7_copy rm_X7_copy 4 := ⟨_, _, _, _, rfl, gX7_undo_X7_copy, ⟨rfl, rfl⟩, by decide +kernel, by decide⟩
theorem inw_X7_prepare_X7 : ∀ w ∈ u_ws RX7 TX7 31, w ∈ wsX7_prepare := fun w h => List.mem_cons_of_mem _ (List.mem_append_right _ h)
theorem sF_X7_prepare_29 : zGF wsX7_prepare RX7 29 7 12 := ⟨RX7, TX7, 31, rfl, inw_X7_prepare_X7, by decide, rfl, Or.inr (List.mem_of_getElem? (i := 1) (by rfl))⟩
theorem sP_X7_prepare_138 : zPF wsX7_prepare RX7 138 7 22 .int := ⟨RX7, TX7, 31, tyX7, rfl, inw_X7_prepare_X7, by decide, rfl, Or.inr (List.mem_of_getElem? (i := 2) (by rfl)), tyX7_ok, nmX7, rfl, by decide +kernel⟩
theorem sF_X7_prepare_47 : zGF wsX7_prepare RX7 47 7 21 := ⟨RX7, TX7, 31, rfl, inw_X7_prepare_X7, by decide, rfl, Or.inr (List.mem_of_getElem? (i := 3) (by rfl))⟩
theorem sF_X7_prepare_35 : zGF wsX7_prepare RX7 35 7 14 := ⟨RX7, TX7, 31, rfl, inw_X7_prepare_X7, by decide, rfl, Or.inr (List.mem_of_getElem? (i := 4) (by rfl))⟩
theorem sF_X7_prepare_22 : zGF wsX7_prepare RX7 22 7 10 := ⟨RX7, TX7, 31, rfl, inw_X7_prepare_X7, by decide, rfl, Or.inr (List.mem_of_getElem? (i := 5) (by rfl))⟩
theorem sF_X7_prepare_50 : zGF wsX7_prepare RX7 50 7 23 := ⟨RX7, TX7, 31, rfl, inw_X7_prepare_X7, by decide, rfl, Or.inr (List.mem_of_getElem? (i := 6) (by rfl))⟩
theorem sF_X7_prepare_26 : zGF wsX7_prepare RX7 26 7 11 := ⟨RX7, TX7, 31, rfl, inw_X7_prepare_X7, by decide, rfl, Or.inr (List.mem_of_getElem? (i := 7) (by rfl))⟩
theorem sF_X7_prepare_32 : zGF wsX7_prepare RX7 32 7 13 := ⟨RX7, TX7, 31, rfl, inw_X7_prepare_X7, by decide, rfl, Or.inr (List.mem_of_getElem? (i := 8) (by rfl))⟩
theorem sP_X7_prepare_141 : zPF wsX7_prepare RX7 141 7 24 .int := ⟨RX7, TX7, 31, tyX7, rfl, inw_X7_prepare_X7, by decide, rfl, Or.inr (List.mem_of_getElem? (i := 9) (by rfl)), tyX7_ok, nmX7, rfl, by decide +kernel⟩
theorem inw_X7_lives_X7 : ∀ w ∈ u_ws RX7 TX7 31, w ∈ wsX7_lives := fun w h => List.mem_cons_of_mem _ (List.mem_append_right _ h)
theorem sF_X7_lives_53 : zGF wsX7_lives RX7 53 7 25 := ⟨RX7, TX7, 31, rfl, inw_X7_lives_X7, by decide, rfl, Or.inr (List.mem_of_getElem? (i := 1) (by rfl))⟩
theorem sF_X7_lives_50 : zGF wsX7_lives RX7 50 7 23 := ⟨RX7, TX7, 31, rfl, inw_X7_lives_X7, by decide, rfl, Or.inr (List.mem_of_getElem? (i := 2) (by rfl))⟩
theorem inw_X7_gainOf_X7 : ∀ w ∈ u_ws RX7 TX7 31, w ∈ wsX7_gainOf := fun w h => List.mem_cons_of_mem _ (List.mem_append_right _ h)
theorem sF_X7_gainOf_50 : zGF wsX7_gainOf RX7 50 7 23 := ⟨RX7, TX7, 31, rfl, inw_X7_gainOf_X7, by decide, rfl, Or.inr (List.mem_of_getElem? (i := 1) (by rfl))⟩
theorem sF_X7_gainOf_141 : zGF wsX7_gainOf RX7 141 7 24 := ⟨RX7, TX7, 31, rfl, inw_X7_gainOf_X7, by decide, rfl, Or.inr (List.mem_of_getElem? (i := 3) (by rfl))⟩
theorem sK_X7_gainOf_144 : Cond.constantLong RX7 144 7919 ∈ wsX7_gainOf := List.mem_of_getElem? (i := 2) (by rfl)
theorem sK_X7_gainOf_146 : Cond.constantLong RX7 146 6151 ∈ wsX7_gainOf := List.mem_of_getElem? (i := 4) (by rfl)
theorem sK_X7_gainOf_148 : Cond.constantLong RX7 148 3571 ∈ wsX7_gainOf := List.mem_of_getElem? (i := 5) (by rfl)
theorem sK_X7_gainOf_150 : Cond.constantLong RX7 150 65521 ∈ wsX7_gainOf := List.mem_of_getElem? (i := 6) (by rfl)
theorem sK_X7_gainOf_152 : Cond.constantLong RX7 152 8 ∈ wsX7_gainOf := List.mem_of_getElem? (i := 7) (by rfl)
theorem sK_X7_gainOf_154 : Cond.constantLong RX7 154 2 ∈ wsX7_gainOf := List.mem_of_getElem? (i := 8) (by rfl)
theorem inw_X7_leaving_X7 : ∀ w ∈ u_ws RX7 TX7 31, w ∈ wsX7_leaving := fun w h => List.mem_cons_of_mem _ (List.mem_append_right _ h)
theorem sF_X7_leaving_138 : zGF wsX7_leaving RX7 138 7 22 := ⟨RX7, TX7, 31, rfl, inw_X7_leaving_X7, by decide, rfl, Or.inr (List.mem_of_getElem? (i := 1) (by rfl))⟩
theorem sF_X7_leaving_47 : zGF wsX7_leaving RX7 47 7 21 := ⟨RX7, TX7, 31, rfl, inw_X7_leaving_X7, by decide, rfl, Or.inr (List.mem_of_getElem? (i := 2) (by rfl))⟩
theorem inw_X7_die_X7 : ∀ w ∈ u_ws RX7 TX7 31, w ∈ wsX7_die := fun w h => List.mem_cons_of_mem _ (List.mem_append_right _ h)
theorem sF_X7_die_53 : zGF wsX7_die RX7 53 7 25 := ⟨RX7, TX7, 31, rfl, inw_X7_die_X7, by decide, rfl, Or.inr (List.mem_of_getElem? (i := 1) (by rfl))⟩
theorem sF_X7_die_138 : zGF wsX7_die RX7 138 7 22 := ⟨RX7, TX7, 31, rfl, inw_X7_die_X7, by decide, rfl, Or.inr (List.mem_of_getElem? (i := 2) (by rfl))⟩
theorem sF_X7_die_47 : zGF wsX7_die RX7 47 7 21 := ⟨RX7, TX7, 31, rfl, inw_X7_die_X7, by decide, rfl, Or.inr (List.mem_of_getElem? (i := 3) (by rfl))⟩
theorem sF_X7_die_56 : zGF wsX7_die RX7 56 7 26 := ⟨RX7, TX7, 31, rfl, inw_X7_die_X7, by decide, rfl, Or.inr (List.mem_of_getElem? (i := 4) (by rfl))⟩
theorem sF_X7_die_62 : zGF wsX7_die RX7 62 7 28 := ⟨RX7, TX7, 31, rfl, inw_X7_die_X7, by decide, rfl, Or.inr (List.mem_of_getElem? (i := 5) (by rfl))⟩
theorem sF_X7_die_59 : zGF wsX7_die RX7 59 7 27 := ⟨RX7, TX7, 31, rfl, inw_X7_die_X7, by decide, rfl, Or.inr (List.mem_of_getElem? (i := 6) (by rfl))⟩
theorem sC_X7_die_156 : zSV rm_X7_die wsX7_die RX7 156 yX7_lives wsX7_lives rm_X7_lives 2 := ⟨_, _, _, _, rfl, gX7_die_X7_lives, ⟨rfl, rfl⟩, by decide +kernel, by decide⟩
theorem inw_X7_turn_X7 : ∀ w ∈ u_ws RX7 TX7 31, w ∈ wsX7_turn := fun w h => List.mem_cons_of_mem _ (List.mem_append_right _ h)
theorem sF_X7_turn_50 : zGF wsX7_turn RX7 50 7 23 := ⟨RX7, TX7, 31, rfl, inw_X7_turn_X7, by decide, rfl, Or.inr (List.mem_of_getElem? (i := 1) (by rfl))⟩
theorem sF_X7_turn_56 : zGF wsX7_turn RX7 56 7 26 := ⟨RX7, TX7, 31, rfl, inw_X7_turn_X7, by decide, rfl, Or.inr (List.mem_of_getElem? (i := 2) (by rfl))⟩
theorem sF_X7_turn_163 : zGF wsX7_turn RX7 163 7 29 := ⟨RX7, TX7, 31, rfl, inw_X7_turn_X7, by decide, rfl, Or.inr (List.mem_of_getElem? (i := 3) (by rfl))⟩
theorem sP_X7_turn_163 : zPF wsX7_turn RX7 163 7 29 .int := ⟨RX7, TX7, 31, tyX7, rfl, inw_X7_turn_X7, by decide, rfl, Or.inr (List.mem_of_getElem? (i := 3) (by rfl)), tyX7_ok, nmX7, rfl, by decide +kernel⟩
theorem sC_X7_turn_160 : zSV rm_X7_turn wsX7_turn RX7 160 yX7_leaving wsX7_leaving rm_X7_leaving 1 := ⟨_, _, _, _, rfl, gX7_turn_X7_leaving, ⟨rfl, rfl⟩, by decide +kernel, by decide⟩
theorem sC_X7_turn_166 : zSV rm_X7_turn wsX7_turn RX7 166 yX7_die wsX7_die rm_X7_die 2 := ⟨_, _, _, _, rfl, gX7_turn_X7_die, ⟨rfl, rfl⟩, by decide +kernel, by decide⟩
theorem inw_X7_run_X7 : ∀ w ∈ u_ws RX7 TX7 31, w ∈ wsX7_run := fun w h => List.mem_cons_of_mem _ (List.mem_append_right _ h)
theorem sP_X7_run_163 : zPF wsX7_run RX7 163 7 29 .int := ⟨RX7, TX7, 31, tyX7, rfl, inw_X7_run_X7, by decide, rfl, Or.inr (List.mem_of_getElem? (i := 1) (by rfl)), tyX7_ok, nmX7, rfl, by decide +kernel⟩
theorem sF_X7_run_53 : zGF wsX7_run RX7 53 7 25 := ⟨RX7, TX7, 31, rfl, inw_X7_run_X7, by decide, rfl, Or.inr (List.mem_of_getElem? (i := 2) (by rfl))⟩
theorem sF_X7_run_56 : zGF wsX7_run RX7 56 7 26 := ⟨RX7, TX7, 31, rfl, inw_X7_run_X7, by decide, rfl, Or.inr (List.mem_of_getElem? (i := 3) (by rfl))⟩
theorem sF_X7_run_59 : zGF wsX7_run RX7 59 7 27 := ⟨RX7, TX7, 31, rfl, inw_X7_run_X7, by decide, rfl, Or.inr (List.mem_of_getElem? (i := 4) (by rfl))⟩
theorem sF_X7_run_62 : zGF wsX7_run RX7 62 7 28 := ⟨RX7, TX7, 31, rfl, inw_X7_run_X7, by decide, rfl, Or.inr (List.mem_of_getElem? (i := 5) (by rfl))⟩
theorem sF_X7_run_22 : zGF wsX7_run RX7 22 7 10 := ⟨RX7, TX7, 31, rfl, inw_X7_run_X7, by decide, rfl, Or.inr (List.mem_of_getElem? (i := 6) (by rfl))⟩
theorem sF_X7_run_50 : zGF wsX7_run RX7 50 7 23 := ⟨RX7, TX7, 31, rfl, inw_X7_run_X7, by decide, rfl, Or.inr (List.mem_of_getElem? (i := 7) (by rfl))⟩
theorem sF_X7_run_35 : zGF wsX7_run RX7 35 7 14 := ⟨RX7, TX7, 31, rfl, inw_X7_run_X7, by decide, rfl, Or.inr (List.mem_of_getElem? (i := 8) (by rfl))⟩
theorem sF_X7_run_65 : zGF wsX7_run RX7 65 7 30 := ⟨RX7, TX7, 31, rfl, inw_X7_run_X7, by decide, rfl, Or.inr (List.mem_of_getElem? (i := 9) (by rfl))⟩
theorem sC_X7_run_156 : zSV rm_X7_run wsX7_run RX7 156 yX7_lives wsX7_lives rm_X7_lives 2 := ⟨_, _, _, _, rfl, gX7_run_X7_lives, ⟨rfl, rfl⟩, by decide +kernel, by decide⟩
theorem sC_X7_run_170 : zSV rm_X7_run wsX7_run RX7 170 yX7_gainOf wsX7_gainOf rm_X7_gainOf 2 := ⟨_, _, _, _, rfl, gX7_run_X7_gainOf, ⟨rfl, rfl⟩, by decide +kernel, by decide⟩
theorem sC_X7_run_174 : zSV rm_X7_run wsX7_run RX7 174 yX7_turn wsX7_turn rm_X7_turn 2 := ⟨_, _, _, _, rfl, gX7_run_X7_turn, ⟨rfl, rfl⟩, by decide +kernel, by decide⟩
theorem inw_X7_runPlain_X7 : ∀ w ∈ u_ws RX7 TX7 31, w ∈ wsX7_runPlain := fun w h => List.mem_cons_of_mem _ (List.mem_append_right _ h)
theorem sC_X7_runPlain_177 : zSV rm_X7_runPlain wsX7_runPlain RX7 177 yX7_prepare wsX7_prepare rm_X7_prepare 0 := ⟨_, _, _, _, rfl, gX7_runPlain_X7_prepare, ⟨rfl, rfl⟩, by decide +kernel, by decide⟩
theorem sC_X7_runPlain_180 : zSV rm_X7_runPlain wsX7_runPlain RX7 180 yX7_run wsX7_run rm_X7_run 0 := ⟨_, _, _, _, rfl, gX7_runPlain_X7_run, ⟨rfl, rfl⟩, by decide +kernel, by decide⟩
theorem inw_X7_dies_X7 : ∀ w ∈ u_ws RX7 TX7 31, w ∈ wsX7_dies := fun w h => List.mem_cons_of_mem _ (List.mem_append_right _ h)
theorem sF_X7_dies_53 : zGF wsX7_dies RX7 53 7 25 := ⟨RX7, TX7, 31, rfl, inw_X7_dies_X7, by decide, rfl, Or.inr (List.mem_of_getElem? (i := 1) (by rfl))⟩
theorem sC_X7_dies_122 : zSV rm_X7_dies wsX7_dies RX7 122 yX7_isOne wsX7_isOne rm_X7_isOne 1 := ⟨_, _, _, _, rfl, gX7_dies_X7_isOne, ⟨rfl, rfl⟩, by decide +kernel, by decide⟩
theorem sC_X7_dies_183 : zSV rm_X7_dies wsX7_dies RX7 183 yX7_runPlain wsX7_runPlain rm_X7_runPlain 0 := ⟨_, _, _, _, rfl, gX7_dies_X7_runPlain, ⟨rfl, rfl⟩, by decide +kernel, by decide⟩
theorem inw_X7_having_X7 : ∀ w ∈ u_ws RX7 TX7 31, w ∈ wsX7_having := fun w h => List.mem_cons_of_mem _ (List.mem_append_right _ h)
theorem sF_X7_having_163 : zGF wsX7_having RX7 163 7 29 := ⟨RX7, TX7, 31, rfl, inw_X7_having_X7, by decide, rfl, Or.inr (List.mem_of_getElem? (i := 1) (by rfl))⟩
theorem sC_X7_having_183 : zSV rm_X7_having wsX7_having RX7 183 yX7_runPlain wsX7_runPlain rm_X7_runPlain 0 := ⟨_, _, _, _, rfl, gX7_having_X7_runPlain, ⟨rfl, rfl⟩, by decide +kernel, by decide⟩
theorem inw_X7_coins_X7 : ∀ w ∈ u_ws RX7 TX7 31, w ∈ wsX7_coins := fun w h => List.mem_cons_of_mem _ (List.mem_append_right _ h)
theorem sF_X7_coins_65 : zGF wsX7_coins RX7 65 7 30 := ⟨RX7, TX7, 31, rfl, inw_X7_coins_X7, by decide, rfl, Or.inr (List.mem_of_getElem? (i := 1) (by rfl))⟩
theorem sC_X7_coins_122 : zSV rm_X7_coins wsX7_coins RX7 122 yX7_isOne wsX7_isOne rm_X7_isOne 1 := ⟨_, _, _, _, rfl, gX7_coins_X7_isOne, ⟨rfl, rfl⟩, by decide +kernel, by decide⟩
theorem sC_X7_coins_76 : zSS rm_X7_coins wsX7_coins RX7 76 yX7_in wsX7_in rm_X7_in 3 := ⟨_, _, _, _, rfl, gX7_coins_X7_in, ⟨rfl, rfl⟩, by decide +kernel, by decide⟩
theorem sC_X7_coins_183 : zSV rm_X7_coins wsX7_coins RX7 183 yX7_runPlain wsX7_runPlain rm_X7_runPlain 0 := ⟨_, _, _, _, rfl, gX7_coins_X7_runPlain, ⟨rfl, rfl⟩, by decide +kernel, by decide⟩
theorem inw_X7_brought_X7 : ∀ w ∈ u_ws RX7 TX7 31, w ∈ wsX7_brought := fun w h => List.mem_cons_of_mem _ (List.mem_append_right _ h)
theorem sF_X7_brought_62 : zGF wsX7_brought RX7 62 7 28 := ⟨RX7, TX7, 31, rfl, inw_X7_brought_X7, by decide, rfl, Or.inr (List.mem_of_getElem? (i := 1) (by rfl))⟩
theorem sC_X7_brought_128 : zSV rm_X7_brought wsX7_brought RX7 128 yX7_isWill wsX7_isWill rm_X7_isWill 1 := ⟨_, _, _, _, rfl, gX7_brought_X7_isWill, ⟨rfl, rfl⟩, by decide +kernel, by decide⟩
theorem sC_X7_brought_183 : zSV rm_X7_brought wsX7_brought RX7 183 yX7_runPlain wsX7_runPlain rm_X7_runPlain 0 := ⟨_, _, _, _, rfl, gX7_brought_X7_runPlain, ⟨rfl, rfl⟩, by decide +kernel, by decide⟩
theorem inw_X7_inherited_X7 : ∀ w ∈ u_ws RX7 TX7 31, w ∈ wsX7_inherited := fun w h => List.mem_cons_of_mem _ (List.mem_append_right _ h)
theorem sF_X7_inherited_59 : zGF wsX7_inherited RX7 59 7 27 := ⟨RX7, TX7, 31, rfl, inw_X7_inherited_X7, by decide, rfl, Or.inr (List.mem_of_getElem? (i := 1) (by rfl))⟩
theorem sC_X7_inherited_122 : zSV rm_X7_inherited wsX7_inherited RX7 122 yX7_isOne wsX7_isOne rm_X7_isOne 1 := ⟨_, _, _, _, rfl, gX7_inherited_X7_isOne, ⟨rfl, rfl⟩, by decide +kernel, by decide⟩
theorem sC_X7_inherited_183 : zSV rm_X7_inherited wsX7_inherited RX7 183 yX7_runPlain wsX7_runPlain rm_X7_runPlain 0 := ⟨_, _, _, _, rfl, gX7_inherited_X7_runPlain, ⟨rfl, rfl⟩, by decide +kernel, by decide⟩
theorem inw_X7_first_X7 : ∀ w ∈ u_ws RX7 TX7 31, w ∈ wsX7_first := fun w h => List.mem_cons_of_mem _ (List.mem_append_right _ h)
theorem sF_X7_first_22 : zGF wsX7_first RX7 22 7 10 := ⟨RX7, TX7, 31, rfl, inw_X7_first_X7, by decide, rfl, Or.inr (List.mem_of_getElem? (i := 1) (by rfl))⟩
theorem sF_X7_first_53 : zGF wsX7_first RX7 53 7 25 := ⟨RX7, TX7, 31, rfl, inw_X7_first_X7, by decide, rfl, Or.inr (List.mem_of_getElem? (i := 2) (by rfl))⟩
theorem sF_X7_first_163 : zGF wsX7_first RX7 163 7 29 := ⟨RX7, TX7, 31, rfl, inw_X7_first_X7, by decide, rfl, Or.inr (List.mem_of_getElem? (i := 3) (by rfl))⟩
theorem sC_X7_first_183 : zSV rm_X7_first wsX7_first RX7 183 yX7_runPlain wsX7_runPlain rm_X7_runPlain 0 := ⟨_, _, _, _, rfl, gX7_first_X7_runPlain, ⟨rfl, rfl⟩, by decide +kernel, by decide⟩
theorem inw_X7_longest_X7 : ∀ w ∈ u_ws RX7 TX7 31, w ∈ wsX7_longest := fun w h => List.mem_cons_of_mem _ (List.mem_append_right _ h)
theorem sF_X7_longest_22 : zGF wsX7_longest RX7 22 7 10 := ⟨RX7, TX7, 31, rfl, inw_X7_longest_X7, by decide, rfl, Or.inr (List.mem_of_getElem? (i := 1) (by rfl))⟩
theorem sF_X7_longest_53 : zGF wsX7_longest RX7 53 7 25 := ⟨RX7, TX7, 31, rfl, inw_X7_longest_X7, by decide, rfl, Or.inr (List.mem_of_getElem? (i := 2) (by rfl))⟩
theorem sF_X7_longest_50 : zGF wsX7_longest RX7 50 7 23 := ⟨RX7, TX7, 31, rfl, inw_X7_longest_X7, by decide, rfl, Or.inr (List.mem_of_getElem? (i := 3) (by rfl))⟩
theorem sC_X7_longest_76 : zSS rm_X7_longest wsX7_longest RX7 76 yX7_in wsX7_in rm_X7_in 3 := ⟨_, _, _, _, rfl, gX7_longest_X7_in, ⟨rfl, rfl⟩, by decide +kernel, by decide⟩
theorem sC_X7_longest_183 : zSV rm_X7_longest wsX7_longest RX7 183 yX7_runPlain wsX7_runPlain rm_X7_runPlain 0 := ⟨_, _, _, _, rfl, gX7_longest_X7_runPlain, ⟨rfl, rfl⟩, by decide +kernel, by decide⟩
theorem inw_X7_prepareBut_X7 : ∀ w ∈ u_ws RX7 TX7 31, w ∈ wsX7_prepareBut := fun w h => List.mem_cons_of_mem _ (List.mem_append_right _ h)
theorem sP_X7_prepareBut_138 : zPF wsX7_prepareBut RX7 138 7 22 .int := ⟨RX7, TX7, 31, tyX7, rfl, inw_X7_prepareBut_X7, by decide, rfl, Or.inr (List.mem_of_getElem? (i := 1) (by rfl)), tyX7_ok, nmX7, rfl, by decide +kernel⟩
theorem sF_X7_prepareBut_29 : zGF wsX7_prepareBut RX7 29 7 12 := ⟨RX7, TX7, 31, rfl, inw_X7_prepareBut_X7, by decide, rfl, Or.inr (List.mem_of_getElem? (i := 2) (by rfl))⟩
theorem sF_X7_prepareBut_35 : zGF wsX7_prepareBut RX7 35 7 14 := ⟨RX7, TX7, 31, rfl, inw_X7_prepareBut_X7, by decide, rfl, Or.inr (List.mem_of_getElem? (i := 3) (by rfl))⟩
theorem sF_X7_prepareBut_47 : zGF wsX7_prepareBut RX7 47 7 21 := ⟨RX7, TX7, 31, rfl, inw_X7_prepareBut_X7, by decide, rfl, Or.inr (List.mem_of_getElem? (i := 4) (by rfl))⟩
theorem sF_X7_prepareBut_138 : zGF wsX7_prepareBut RX7 138 7 22 := ⟨RX7, TX7, 31, rfl, inw_X7_prepareBut_X7, by decide, rfl, Or.inr (List.mem_of_getElem? (i := 1) (by rfl))⟩
theorem sC_X7_prepareBut_177 : zSV rm_X7_prepareBut wsX7_prepareBut RX7 177 yX7_prepare wsX7_prepare rm_X7_prepare 0 := ⟨_, _, _, _, rfl, gX7_prepareBut_X7_prepare, ⟨rfl, rfl⟩, by decide +kernel, by decide⟩
theorem inw_X7_has_X7 : ∀ w ∈ u_ws RX7 TX7 31, w ∈ wsX7_has := fun w h => List.mem_cons_of_mem _ (List.mem_append_right _ h)
theorem sF_X7_has_163 : zGF wsX7_has RX7 163 7 29 := ⟨RX7, TX7, 31, rfl, inw_X7_has_X7, by decide, rfl, Or.inr (List.mem_of_getElem? (i := 1) (by rfl))⟩
theorem inw_X7_hadMany_X7 : ∀ w ∈ u_ws RX7 TX7 31, w ∈ wsX7_hadMany := fun w h => List.mem_cons_of_mem _ (List.mem_append_right _ h)
theorem sF_X7_hadMany_22 : zGF wsX7_hadMany RX7 22 7 10 := ⟨RX7, TX7, 31, rfl, inw_X7_hadMany_X7, by decide, rfl, Or.inr (List.mem_of_getElem? (i := 1) (by rfl))⟩
theorem sF_X7_hadMany_163 : zGF wsX7_hadMany RX7 163 7 29 := ⟨RX7, TX7, 31, rfl, inw_X7_hadMany_X7, by decide, rfl, Or.inr (List.mem_of_getElem? (i := 2) (by rfl))⟩
theorem inw_X7_greatest_X7 : ∀ w ∈ u_ws RX7 TX7 31, w ∈ wsX7_greatest := fun w h => List.mem_cons_of_mem _ (List.mem_append_right _ h)
theorem sF_X7_greatest_47 : zGF wsX7_greatest RX7 47 7 21 := ⟨RX7, TX7, 31, rfl, inw_X7_greatest_X7, by decide, rfl, Or.inr (List.mem_of_getElem? (i := 1) (by rfl))⟩
theorem sF_X7_greatest_138 : zGF wsX7_greatest RX7 138 7 22 := ⟨RX7, TX7, 31, rfl, inw_X7_greatest_X7, by decide, rfl, Or.inr (List.mem_of_getElem? (i := 2) (by rfl))⟩
theorem sP_X7_greatest_138 : zPF wsX7_greatest RX7 138 7 22 .int := ⟨RX7, TX7, 31, tyX7, rfl, inw_X7_greatest_X7, by decide, rfl, Or.inr (List.mem_of_getElem? (i := 2) (by rfl)), tyX7_ok, nmX7, rfl, by decide +kernel⟩
theorem sC_X7_greatest_122 : zSV rm_X7_greatest wsX7_greatest RX7 122 yX7_isOne wsX7_isOne rm_X7_isOne 1 := ⟨_, _, _, _, rfl, gX7_greatest_X7_isOne, ⟨rfl, rfl⟩, by decide +kernel, by decide⟩
theorem sC_X7_greatest_186 : zSV rm_X7_greatest wsX7_greatest RX7 186 yX7_prepareBut wsX7_prepareBut rm_X7_prepareBut 2 := ⟨_, _, _, _, rfl, gX7_greatest_X7_prepareBut, ⟨rfl, rfl⟩, by decide +kernel, by decide⟩
theorem sC_X7_greatest_180 : zSV rm_X7_greatest wsX7_greatest RX7 180 yX7_run wsX7_run rm_X7_run 0 := ⟨_, _, _, _, rfl, gX7_greatest_X7_run, ⟨rfl, rfl⟩, by decide +kernel, by decide⟩
theorem sC_X7_greatest_189 : zSV rm_X7_greatest wsX7_greatest RX7 189 yX7_has wsX7_has rm_X7_has 1 := ⟨_, _, _, _, rfl, gX7_greatest_X7_has, ⟨rfl, rfl⟩, by decide +kernel, by decide⟩
theorem inw_X7_needs_X7 : ∀ w ∈ u_ws RX7 TX7 31, w ∈ wsX7_needs := fun w h => List.mem_cons_of_mem _ (List.mem_append_right _ h)
theorem sF_X7_needs_50 : zGF wsX7_needs RX7 50 7 23 := ⟨RX7, TX7, 31, rfl, inw_X7_needs_X7, by decide, rfl, Or.inr (List.mem_of_getElem? (i := 1) (by rfl))⟩
theorem sC_X7_needs_122 : zSV rm_X7_needs wsX7_needs RX7 122 yX7_isOne wsX7_isOne rm_X7_isOne 1 := ⟨_, _, _, _, rfl, gX7_needs_X7_isOne, ⟨rfl, rfl⟩, by decide +kernel, by decide⟩
theorem sC_X7_needs_177 : zSV rm_X7_needs wsX7_needs RX7 177 yX7_prepare wsX7_prepare rm_X7_prepare 0 := ⟨_, _, _, _, rfl, gX7_needs_X7_prepare, ⟨rfl, rfl⟩, by decide +kernel, by decide⟩
theorem sC_X7_needs_180 : zSV rm_X7_needs wsX7_needs RX7 180 yX7_run wsX7_run rm_X7_run 0 := ⟨_, _, _, _, rfl, gX7_needs_X7_run, ⟨rfl, rfl⟩, by decide +kernel, by decide⟩
theorem sC_X7_needs_189 : zSV rm_X7_needs wsX7_needs RX7 189 yX7_has wsX7_has rm_X7_has 1 := ⟨_, _, _, _, rfl, gX7_needs_X7_has, ⟨rfl, rfl⟩, by decide +kernel, by decide⟩
theorem inw_X7_mend_X7 : ∀ w ∈ u_ws RX7 TX7 31, w ∈ wsX7_mend := fun w h => List.mem_cons_of_mem _ (List.mem_append_right _ h)
theorem sF_X7_mend_29 : zGF wsX7_mend RX7 29 7 12 := ⟨RX7, TX7, 31, rfl, inw_X7_mend_X7, by decide, rfl, Or.inr (List.mem_of_getElem? (i := 1) (by rfl))⟩
theorem sC_X7_mend_76 : zSS rm_X7_mend wsX7_mend RX7 76 yX7_in wsX7_in rm_X7_in 3 := ⟨_, _, _, _, rfl, gX7_mend_X7_in, ⟨rfl, rfl⟩, by decide +kernel, by decide⟩
theorem sC_X7_mend_186 : zSV rm_X7_mend wsX7_mend RX7 186 yX7_prepareBut wsX7_prepareBut rm_X7_prepareBut 2 := ⟨_, _, _, _, rfl, gX7_mend_X7_prepareBut, ⟨rfl, rfl⟩, by decide +kernel, by decide⟩
theorem sC_X7_mend_180 : zSV rm_X7_mend wsX7_mend RX7 180 yX7_run wsX7_run rm_X7_run 0 := ⟨_, _, _, _, rfl, gX7_mend_X7_run, ⟨rfl, rfl⟩, by decide +kernel, by decide⟩
theorem sC_X7_mend_192 : zSV rm_X7_mend wsX7_mend RX7 192 yX7_hadMany wsX7_hadMany rm_X7_hadMany 0 := ⟨_, _, _, _, rfl, gX7_mend_X7_hadMany, ⟨rfl, rfl⟩, by decide +kernel, by decide⟩
theorem inw_X7_limits_X7 : ∀ w ∈ u_ws RX7 TX7 31, w ∈ wsX7_limits := fun w h => List.mem_cons_of_mem _ (List.mem_append_right _ h)
theorem sF_X7_limits_22 : zGF wsX7_limits RX7 22 7 10 := ⟨RX7, TX7, 31, rfl, inw_X7_limits_X7, by decide, rfl, Or.inr (List.mem_of_getElem? (i := 1) (by rfl))⟩
theorem sF_X7_limits_50 : zGF wsX7_limits RX7 50 7 23 := ⟨RX7, TX7, 31, rfl, inw_X7_limits_X7, by decide, rfl, Or.inr (List.mem_of_getElem? (i := 2) (by rfl))⟩
theorem sC_X7_limits_76 : zSS rm_X7_limits wsX7_limits RX7 76 yX7_in wsX7_in rm_X7_in 3 := ⟨_, _, _, _, rfl, gX7_limits_X7_in, ⟨rfl, rfl⟩, by decide +kernel, by decide⟩
theorem sC_X7_limits_177 : zSV rm_X7_limits wsX7_limits RX7 177 yX7_prepare wsX7_prepare rm_X7_prepare 0 := ⟨_, _, _, _, rfl, gX7_limits_X7_prepare, ⟨rfl, rfl⟩, by decide +kernel, by decide⟩
theorem sC_X7_limits_180 : zSV rm_X7_limits wsX7_limits RX7 180 yX7_run wsX7_run rm_X7_run 0 := ⟨_, _, _, _, rfl, gX7_limits_X7_run, ⟨rfl, rfl⟩, by decide +kernel, by decide⟩
theorem sC_X7_limits_192 : zSV rm_X7_limits wsX7_limits RX7 192 yX7_hadMany wsX7_hadMany rm_X7_hadMany 0 := ⟨_, _, _, _, rfl, gX7_limits_X7_hadMany, ⟨rfl, rfl⟩, by decide +kernel, by decide⟩
theorem inw_X7_ring_X7 : ∀ w ∈ u_ws RX7 TX7 31, w ∈ wsX7_ring := fun w h => List.mem_cons_of_mem _ (List.mem_append_right _ h)
theorem sF_X7_ring_22 : zGF wsX7_ring RX7 22 7 10 := ⟨RX7, TX7, 31, rfl, inw_X7_ring_X7, by decide, rfl, Or.inr (List.mem_of_getElem? (i := 1) (by rfl))⟩
theorem sF_X7_ring_29 : zGF wsX7_ring RX7 29 7 12 := ⟨RX7, TX7, 31, rfl, inw_X7_ring_X7, by decide, rfl, Or.inr (List.mem_of_getElem? (i := 2) (by rfl))⟩
theorem sF_X7_ring_35 : zGF wsX7_ring RX7 35 7 14 := ⟨RX7, TX7, 31, rfl, inw_X7_ring_X7, by decide, rfl, Or.inr (List.mem_of_getElem? (i := 3) (by rfl))⟩
theorem sC_X7_ring_122 : zSV rm_X7_ring wsX7_ring RX7 122 yX7_isOne wsX7_isOne rm_X7_isOne 1 := ⟨_, _, _, _, rfl, gX7_ring_X7_isOne, ⟨rfl, rfl⟩, by decide +kernel, by decide⟩
theorem inw_X7_owes_X7 : ∀ w ∈ u_ws RX7 TX7 31, w ∈ wsX7_owes := fun w h => List.mem_cons_of_mem _ (List.mem_append_right _ h)
theorem sF_X7_owes_29 : zGF wsX7_owes RX7 29 7 12 := ⟨RX7, TX7, 31, rfl, inw_X7_owes_X7, by decide, rfl, Or.inr (List.mem_of_getElem? (i := 1) (by rfl))⟩
theorem sF_X7_owes_35 : zGF wsX7_owes RX7 35 7 14 := ⟨RX7, TX7, 31, rfl, inw_X7_owes_X7, by decide, rfl, Or.inr (List.mem_of_getElem? (i := 2) (by rfl))⟩
theorem sC_X7_owes_122 : zSV rm_X7_owes wsX7_owes RX7 122 yX7_isOne wsX7_isOne rm_X7_isOne 1 := ⟨_, _, _, _, rfl, gX7_owes_X7_isOne, ⟨rfl, rfl⟩, by decide +kernel, by decide⟩
theorem inw_X7_seen_X7 : ∀ w ∈ u_ws RX7 TX7 31, w ∈ wsX7_seen := fun w h => List.mem_cons_of_mem _ (List.mem_append_right _ h)
theorem sF_X7_seen_113 : zGF wsX7_seen RX7 113 7 19 := ⟨RX7, TX7, 31, rfl, inw_X7_seen_X7, by decide, rfl, Or.inr (List.mem_of_getElem? (i := 1) (by rfl))⟩
theorem sF_X7_seen_44 : zGF wsX7_seen RX7 44 7 20 := ⟨RX7, TX7, 31, rfl, inw_X7_seen_X7, by decide, rfl, Or.inr (List.mem_of_getElem? (i := 2) (by rfl))⟩
theorem sP_X7_seen_113 : zPF wsX7_seen RX7 113 7 19 .int := ⟨RX7, TX7, 31, tyX7, rfl, inw_X7_seen_X7, by decide, rfl, Or.inr (List.mem_of_getElem? (i := 1) (by rfl)), tyX7_ok, nmX7, rfl, by decide +kernel⟩
theorem sC_X7_seen_122 : zSV rm_X7_seen wsX7_seen RX7 122 yX7_isOne wsX7_isOne rm_X7_isOne 1 := ⟨_, _, _, _, rfl, gX7_seen_X7_isOne, ⟨rfl, rfl⟩, by decide +kernel, by decide⟩
theorem sC_X7_seen_76 : zSS rm_X7_seen wsX7_seen RX7 76 yX7_in wsX7_in rm_X7_in 3 := ⟨_, _, _, _, rfl, gX7_seen_X7_in, ⟨rfl, rfl⟩, by decide +kernel, by decide⟩
theorem inw_X7_forget_X7 : ∀ w ∈ u_ws RX7 TX7 31, w ∈ wsX7_forget := fun w h => List.mem_cons_of_mem _ (List.mem_append_right _ h)
theorem sF_X7_forget_113 : zGF wsX7_forget RX7 113 7 19 := ⟨RX7, TX7, 31, rfl, inw_X7_forget_X7, by decide, rfl, Or.inr (List.mem_of_getElem? (i := 1) (by rfl))⟩
theorem sP_X7_forget_113 : zPF wsX7_forget RX7 113 7 19 .int := ⟨RX7, TX7, 31, tyX7, rfl, inw_X7_forget_X7, by decide, rfl, Or.inr (List.mem_of_getElem? (i := 1) (by rfl)), tyX7_ok, nmX7, rfl, by decide +kernel⟩
theorem inw_X7_kinds_X7 : ∀ w ∈ u_ws RX7 TX7 31, w ∈ wsX7_kinds := fun w h => List.mem_cons_of_mem _ (List.mem_append_right _ h)
theorem sF_X7_kinds_50 : zGF wsX7_kinds RX7 50 7 23 := ⟨RX7, TX7, 31, rfl, inw_X7_kinds_X7, by decide, rfl, Or.inr (List.mem_of_getElem? (i := 1) (by rfl))⟩
theorem sF_X7_kinds_113 : zGF wsX7_kinds RX7 113 7 19 := ⟨RX7, TX7, 31, rfl, inw_X7_kinds_X7, by decide, rfl, Or.inr (List.mem_of_getElem? (i := 2) (by rfl))⟩
theorem sF_X7_kinds_44 : zGF wsX7_kinds RX7 44 7 20 := ⟨RX7, TX7, 31, rfl, inw_X7_kinds_X7, by decide, rfl, Or.inr (List.mem_of_getElem? (i := 3) (by rfl))⟩
theorem sF_X7_kinds_65 : zGF wsX7_kinds RX7 65 7 30 := ⟨RX7, TX7, 31, rfl, inw_X7_kinds_X7, by decide, rfl, Or.inr (List.mem_of_getElem? (i := 4) (by rfl))⟩
theorem sC_X7_kinds_122 : zSV rm_X7_kinds wsX7_kinds RX7 122 yX7_isOne wsX7_isOne rm_X7_isOne 1 := ⟨_, _, _, _, rfl, gX7_kinds_X7_isOne, ⟨rfl, rfl⟩, by decide +kernel, by decide⟩
theorem sC_X7_kinds_177 : zSV rm_X7_kinds wsX7_kinds RX7 177 yX7_prepare wsX7_prepare rm_X7_prepare 0 := ⟨_, _, _, _, rfl, gX7_kinds_X7_prepare, ⟨rfl, rfl⟩, by decide +kernel, by decide⟩
theorem sC_X7_kinds_180 : zSV rm_X7_kinds wsX7_kinds RX7 180 yX7_run wsX7_run rm_X7_run 0 := ⟨_, _, _, _, rfl, gX7_kinds_X7_run, ⟨rfl, rfl⟩, by decide +kernel, by decide⟩
theorem inw_X7_odds_X7 : ∀ w ∈ u_ws RX7 TX7 31, w ∈ wsX7_odds := fun w h => List.mem_cons_of_mem _ (List.mem_append_right _ h)
theorem sF_X7_odds_26 : zGF wsX7_odds RX7 26 7 11 := ⟨RX7, TX7, 31, rfl, inw_X7_odds_X7, by decide, rfl, Or.inr (List.mem_of_getElem? (i := 1) (by rfl))⟩
theorem sC_X7_odds_122 : zSV rm_X7_odds wsX7_odds RX7 122 yX7_isOne wsX7_isOne rm_X7_isOne 1 := ⟨_, _, _, _, rfl, gX7_odds_X7_isOne, ⟨rfl, rfl⟩, by decide +kernel, by decide⟩
theorem sC_X7_odds_76 : zSS rm_X7_odds wsX7_odds RX7 76 yX7_in wsX7_in rm_X7_in 3 := ⟨_, _, _, _, rfl, gX7_odds_X7_in, ⟨rfl, rfl⟩, by decide +kernel, by decide⟩
theorem inw_X7_generations_X7 : ∀ w ∈ u_ws RX7 TX7 31, w ∈ wsX7_generations := fun w h => List.mem_cons_of_mem _ (List.mem_append_right _ h)
theorem sP_X7_generations_141 : zPF wsX7_generations RX7 141 7 24 .int := ⟨RX7, TX7, 31, tyX7, rfl, inw_X7_generations_X7, by decide, rfl, Or.inr (List.mem_of_getElem? (i := 1) (by rfl)), tyX7_ok, nmX7, rfl, by decide +kernel⟩
theorem sF_X7_generations_22 : zGF wsX7_generations RX7 22 7 10 := ⟨RX7, TX7, 31, rfl, inw_X7_generations_X7, by decide, rfl, Or.inr (List.mem_of_getElem? (i := 2) (by rfl))⟩
theorem sF_X7_generations_53 : zGF wsX7_generations RX7 53 7 25 := ⟨RX7, TX7, 31, rfl, inw_X7_generations_X7, by decide, rfl, Or.inr (List.mem_of_getElem? (i := 3) (by rfl))⟩
theorem sC_X7_generations_76 : zSS rm_X7_generations wsX7_generations RX7 76 yX7_in wsX7_in rm_X7_in 3 := ⟨_, _, _, _, rfl, gX7_generations_X7_in, ⟨rfl, rfl⟩, by decide +kernel, by decide⟩
theorem sC_X7_generations_177 : zSV rm_X7_generations wsX7_generations RX7 177 yX7_prepare wsX7_prepare rm_X7_prepare 0 := ⟨_, _, _, _, rfl, gX7_generations_X7_prepare, ⟨rfl, rfl⟩, by decide +kernel, by decide⟩
theorem sC_X7_generations_180 : zSV rm_X7_generations wsX7_generations RX7 180 yX7_run wsX7_run rm_X7_run 0 := ⟨_, _, _, _, rfl, gX7_generations_X7_run, ⟨rfl, rfl⟩, by decide +kernel, by decide⟩
theorem sC_X7_generations_189 : zSV rm_X7_generations wsX7_generations RX7 189 yX7_has wsX7_has rm_X7_has 1 := ⟨_, _, _, _, rfl, gX7_generations_X7_has, ⟨rfl, rfl⟩, by decide +kernel, by decide⟩
theorem sC_X7_generations_192 : zSV rm_X7_generations wsX7_generations RX7 192 yX7_hadMany wsX7_hadMany rm_X7_hadMany 0 := ⟨_, _, _, _, rfl, gX7_generations_X7_hadMany, ⟨rfl, rfl⟩, by decide +kernel, by decide⟩
theorem inw_X7_keep_X7 : ∀ w ∈ u_ws RX7 TX7 31, w ∈ wsX7_keep := fun w h => List.mem_cons_of_mem _ (List.mem_append_right _ h)
theorem sF_X7_keep_119 : zGF wsX7_keep RX7 119 7 18 := ⟨RX7, TX7, 31, rfl, inw_X7_keep_X7, by decide, rfl, Or.inr (List.mem_of_getElem? (i := 1) (by rfl))⟩
theorem sF_X7_keep_35 : zGF wsX7_keep RX7 35 7 14 := ⟨RX7, TX7, 31, rfl, inw_X7_keep_X7, by decide, rfl, Or.inr (List.mem_of_getElem? (i := 2) (by rfl))⟩
theorem sF_X7_keep_41 : zGF wsX7_keep RX7 41 7 17 := ⟨RX7, TX7, 31, rfl, inw_X7_keep_X7, by decide, rfl, Or.inr (List.mem_of_getElem? (i := 3) (by rfl))⟩
theorem sP_X7_keep_119 : zPF wsX7_keep RX7 119 7 18 .int := ⟨RX7, TX7, 31, tyX7, rfl, inw_X7_keep_X7, by decide, rfl, Or.inr (List.mem_of_getElem? (i := 1) (by rfl)), tyX7_ok, nmX7, rfl, by decide +kernel⟩
theorem sC_X7_keep_131 : zSS rm_X7_keep wsX7_keep RX7 131 yX7_copy wsX7_copy rm_X7_copy 4 := ⟨_, _, _, _, rfl, gX7_keep_X7_copy, ⟨rfl, rfl⟩, by decide +kernel, by decide⟩
theorem inw_X7_back_X7 : ∀ w ∈ u_ws RX7 TX7 31, w ∈ wsX7_back := fun w h => List.mem_cons_of_mem _ (List.mem_append_right _ h)
theorem sF_X7_back_119 : zGF wsX7_back RX7 119 7 18 := ⟨RX7, TX7, 31, rfl, inw_X7_back_X7, by decide, rfl, Or.inr (List.mem_of_getElem? (i := 1) (by rfl))⟩
theorem sP_X7_back_119 : zPF wsX7_back RX7 119 7 18 .int := ⟨RX7, TX7, 31, tyX7, rfl, inw_X7_back_X7, by decide, rfl, Or.inr (List.mem_of_getElem? (i := 1) (by rfl)), tyX7_ok, nmX7, rfl, by decide +kernel⟩
theorem sF_X7_back_41 : zGF wsX7_back RX7 41 7 17 := ⟨RX7, TX7, 31, rfl, inw_X7_back_X7, by decide, rfl, Or.inr (List.mem_of_getElem? (i := 2) (by rfl))⟩
theorem sF_X7_back_35 : zGF wsX7_back RX7 35 7 14 := ⟨RX7, TX7, 31, rfl, inw_X7_back_X7, by decide, rfl, Or.inr (List.mem_of_getElem? (i := 3) (by rfl))⟩
theorem sP_X7_back_116 : zPF wsX7_back RX7 116 7 16 .int := ⟨RX7, TX7, 31, tyX7, rfl, inw_X7_back_X7, by decide, rfl, Or.inr (List.mem_of_getElem? (i := 4) (by rfl)), tyX7_ok, nmX7, rfl, by decide +kernel⟩
theorem sC_X7_back_131 : zSS rm_X7_back wsX7_back RX7 131 yX7_copy wsX7_copy rm_X7_copy 4 := ⟨_, _, _, _, rfl, gX7_back_X7_copy, ⟨rfl, rfl⟩, by decide +kernel, by decide⟩
theorem inw_X7_count_X7 : ∀ w ∈ u_ws RX7 TX7 31, w ∈ wsX7_count := fun w h => List.mem_cons_of_mem _ (List.mem_append_right _ h)
theorem sF_X7_count_22 : zGF wsX7_count RX7 22 7 10 := ⟨RX7, TX7, 31, rfl, inw_X7_count_X7, by decide, rfl, Or.inr (List.mem_of_getElem? (i := 1) (by rfl))⟩
theorem sF_X7_count_29 : zGF wsX7_count RX7 29 7 12 := ⟨RX7, TX7, 31, rfl, inw_X7_count_X7, by decide, rfl, Or.inr (List.mem_of_getElem? (i := 2) (by rfl))⟩
theorem sF_X7_count_35 : zGF wsX7_count RX7 35 7 14 := ⟨RX7, TX7, 31, rfl, inw_X7_count_X7, by decide, rfl, Or.inr (List.mem_of_getElem? (i := 3) (by rfl))⟩
theorem sF_X7_count_113 : zGF wsX7_count RX7 113 7 19 := ⟨RX7, TX7, 31, rfl, inw_X7_count_X7, by decide, rfl, Or.inr (List.mem_of_getElem? (i := 4) (by rfl))⟩
theorem sF_X7_count_116 : zGF wsX7_count RX7 116 7 16 := ⟨RX7, TX7, 31, rfl, inw_X7_count_X7, by decide, rfl, Or.inr (List.mem_of_getElem? (i := 5) (by rfl))⟩
theorem sF_X7_count_119 : zGF wsX7_count RX7 119 7 18 := ⟨RX7, TX7, 31, rfl, inw_X7_count_X7, by decide, rfl, Or.inr (List.mem_of_getElem? (i := 6) (by rfl))⟩
theorem sF_X7_count_80 : zGF wsX7_count RX7 80 7 0 := ⟨RX7, TX7, 31, rfl, inw_X7_count_X7, by decide, rfl, Or.inr (List.mem_of_getElem? (i := 7) (by rfl))⟩
theorem sK_J6_bitCount_0f7a4_265 : Cond.constant RJ6 265 1431655765 ∈ wsJ6_bitCount_0f7a4 := List.mem_of_getElem? (i := 1) (by rfl)
theorem sK_J6_bitCount_0f7a4_266 : Cond.constant RJ6 266 858993459 ∈ wsJ6_bitCount_0f7a4 := List.mem_of_getElem? (i := 2) (by rfl)
theorem sK_J6_bitCount_0f7a4_267 : Cond.constant RJ6 267 252645135 ∈ wsJ6_bitCount_0f7a4 := List.mem_of_getElem? (i := 3) (by rfl)
