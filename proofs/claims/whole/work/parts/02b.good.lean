set_option maxRecDepth 20000 in
theorem ggX0_addPerson_X6_isWithin : GoodIn wsX0_addPerson wsX6_isWithin := goodIn_r _ [9] (by rfl) (by decide +kernel)
set_option maxRecDepth 20000 in
theorem gX0_addPerson_X6_isWithin_n58 : GoodIn wsX0_addPerson (wsX6_isWithin) := ggX0_addPerson_X6_isWithin
set_option maxRecDepth 20000 in
theorem ggX0_addBequest_X0_hasPerson : GoodIn wsX0_addBequest wsX0_hasPerson := goodIn_r _ [9, 10, 14, 15, 16, 17, 18, 19, 20, 21, 22, 23, 24, 25, 26, 27, 28] (by rfl) (by decide +kernel)
set_option maxRecDepth 20000 in
theorem gX0_addBequest_X0_hasPerson : GoodIn wsX0_addBequest (wsV RX0 62 RX0 yX0_hasPerson wsX0_hasPerson) := goodIn_app (goodIn_of _ (by decide +kernel)) ggX0_addBequest_X0_hasPerson
set_option maxRecDepth 20000 in
theorem ggX0_addBequest_X6_isWithin : GoodIn wsX0_addBequest wsX6_isWithin := goodIn_r _ [13] (by rfl) (by decide +kernel)
set_option maxRecDepth 20000 in
theorem gX0_addBequest_X6_isWithin_n58 : GoodIn wsX0_addBequest (wsX6_isWithin) := ggX0_addBequest_X6_isWithin
set_option maxRecDepth 20000 in
theorem ggX0_addGift_X0_hasPerson : GoodIn wsX0_addGift wsX0_hasPerson := goodIn_r _ [6, 7, 11, 12, 13, 14, 15, 16, 17, 18, 19, 20, 21, 22, 23, 24, 25] (by rfl) (by decide +kernel)
set_option maxRecDepth 20000 in
theorem gX0_addGift_X0_hasPerson : GoodIn wsX0_addGift (wsV RX0 62 RX0 yX0_hasPerson wsX0_hasPerson) := goodIn_app (goodIn_of _ (by decide +kernel)) ggX0_addGift_X0_hasPerson
set_option maxRecDepth 20000 in
theorem ggX0_addGift_X6_isWithin : GoodIn wsX0_addGift wsX6_isWithin := goodIn_r _ [10] (by rfl) (by decide +kernel)
set_option maxRecDepth 20000 in
theorem gX0_addGift_X6_isWithin_n58 : GoodIn wsX0_addGift (wsX6_isWithin) := ggX0_addGift_X6_isWithin
set_option maxRecDepth 20000 in
theorem ggX0_putSeed_X6_isWithin : GoodIn wsX0_putSeed wsX6_isWithin := goodIn_r _ [4] (by rfl) (by decide +kernel)
set_option maxRecDepth 20000 in
theorem gX0_putSeed_X6_isWithin_n58 : GoodIn wsX0_putSeed (wsX6_isWithin) := ggX0_putSeed_X6_isWithin
set_option maxRecDepth 20000 in
theorem ggX0_voidBequest_X0_hasBequest : GoodIn wsX0_voidBequest wsX0_hasBequest := goodIn_r _ [6, 7, 8, 9, 10, 11, 12, 13, 14, 15, 16, 17, 18, 19, 20, 21, 22] (by rfl) (by decide +kernel)
set_option maxRecDepth 20000 in
theorem gX0_voidBequest_X0_hasBequest : GoodIn wsX0_voidBequest (wsV RX0 66 RX0 yX0_hasBequest wsX0_hasBequest) := goodIn_app (goodIn_of _ (by decide +kernel)) ggX0_voidBequest_X0_hasBequest
set_option maxRecDepth 20000 in
theorem ggX0_copyFrom_X0_copyRow : GoodIn wsX0_copyFrom wsX0_copyRow := goodIn_r _ [19] (by rfl) (by decide +kernel)
set_option maxRecDepth 20000 in
theorem gX0_copyFrom_X0_copyRow : GoodIn wsX0_copyFrom (va_wsS RX0 69 yX0_copyRow wsX0_copyRow) := goodIn_app (goodIn_of _ (by decide +kernel)) ggX0_copyFrom_X0_copyRow
set_option maxRecDepth 20000 in
theorem ggX1_note_X1_loseOldest : GoodIn wsX1_note wsX1_loseOldest := goodIn_r _ [9, 2, 3, 4, 1, 10, 11, 12, 13] (by rfl) (by decide +kernel)
set_option maxRecDepth 20000 in
theorem gX1_note_X1_loseOldest : GoodIn wsX1_note (wsV RX1 25 RX1 yX1_loseOldest wsX1_loseOldest) := goodIn_app (goodIn_of _ (by decide +kernel)) ggX1_note_X1_loseOldest
set_option maxRecDepth 20000 in
theorem ggX1_takeBack_X0_dropLastHelp : GoodIn wsX1_takeBack wsX0_dropLastHelp := goodIn_r _ [9, 10, 20, 21, 22, 23, 24, 25, 26, 27, 28, 29, 30, 31, 32, 33, 34] (by rfl) (by decide +kernel)
set_option maxRecDepth 20000 in
theorem gX1_takeBack_X0_dropLastHelp : GoodIn wsX1_takeBack (wsV RX1 28 RX0 yX0_dropLastHelp wsX0_dropLastHelp) := goodIn_app (goodIn_of _ (by decide +kernel)) ggX1_takeBack_X0_dropLastHelp
set_option maxRecDepth 20000 in
theorem ggX1_takeBack_X0_hasBequest : GoodIn wsX1_takeBack wsX0_hasBequest := goodIn_r _ [14, 15, 20, 21, 22, 23, 24, 25, 26, 27, 28, 29, 30, 31, 32, 33, 34] (by rfl) (by decide +kernel)
set_option maxRecDepth 20000 in
theorem gX1_takeBack_X0_hasBequest : GoodIn wsX1_takeBack (wsV RX1 33 RX0 yX0_hasBequest wsX0_hasBequest) := goodIn_app (goodIn_of _ (by decide +kernel)) ggX1_takeBack_X0_hasBequest
set_option maxRecDepth 20000 in
theorem ggX2_readInto_X0_clear : GoodIn wsX2_readInto wsX0_clear := goodIn_r _ [7, 8, 9, 10, 11, 75, 76, 77, 78, 79, 80, 81, 82, 83, 84, 85, 86, 87, 88, 89] (by rfl) (by decide +kernel)
set_option maxRecDepth 20000 in
theorem gX2_readInto_X0_clear : GoodIn wsX2_readInto (wsV RX2 23 RX0 yX0_clear wsX0_clear) := goodIn_app (goodIn_of _ (by decide +kernel)) ggX2_readInto_X0_clear
set_option maxRecDepth 20000 in
theorem ggX2_readInto_X2_readItem : GoodIn wsX2_readInto wsX2_readItem := goodIn_r _ [16, 2, 1, 17, 18, 19, 20, 21, 22, 23, 24, 25, 26, 15, 27, 28, 29, 30, 31, 32, 33, 34, 35, 36, 37, 38, 39, 40, 41, 6, 42, 8, 43, 44, 45, 46, 47, 48, 49, 50, 51, 52, 53, 54, 9, 55, 56, 57, 58, 59, 60, 61, 62, 63, 64, 65, 66, 67, 68, 69, 11, 70, 71, 72, 73, 74, 75, 76, 77, 78, 79, 80, 81, 82, 83, 84, 85, 86, 87, 88, 89] (by rfl) (by decide +kernel)
set_option maxRecDepth 20000 in
theorem gX2_readInto_X2_readItem : GoodIn wsX2_readInto (wsV RX2 33 RX2 yX2_readItem wsX2_readItem) := goodIn_app (goodIn_of _ (by decide +kernel)) ggX2_readInto_X2_readItem
set_option maxRecDepth 20000 in
theorem ggX2_readItem_X3_at : GoodIn wsX2_readItem wsX3_at := goodIn_r _ [8, 9, 10, 64, 65] (by rfl) (by decide +kernel)
set_option maxRecDepth 20000 in
theorem gX2_readItem_X3_at : GoodIn wsX2_readItem (wsV RX2 37 RX3 yX3_at wsX3_at) := goodIn_app (goodIn_of _ (by decide +kernel)) ggX2_readItem_X3_at
set_option maxRecDepth 20000 in
theorem ggX2_readItem_X2_numbersOf : GoodIn wsX2_readItem wsX2_numbersOf := goodIn_r _ [14] (by rfl) (by decide +kernel)
set_option maxRecDepth 20000 in
theorem gX2_readItem_X2_numbersOf : GoodIn wsX2_readItem (va_wsS RX2 41 yX2_numbersOf wsX2_numbersOf) := goodIn_app (goodIn_of _ (by decide +kernel)) ggX2_readItem_X2_numbersOf
set_option maxRecDepth 20000 in
theorem ggX2_readItem_X2_readNumbers : GoodIn wsX2_readItem wsX2_readNumbers := goodIn_r _ [18, 3, 1, 2, 4, 5, 6, 7, 8, 9, 10, 19, 20, 13, 21, 22, 23, 24, 25, 61, 62, 63, 64, 65] (by rfl) (by decide +kernel)
set_option maxRecDepth 20000 in
theorem gX2_readItem_X2_readNumbers : GoodIn wsX2_readItem (wsV RX2 45 RX2 yX2_readNumbers wsX2_readNumbers) := goodIn_app (goodIn_of _ (by decide +kernel)) ggX2_readItem_X2_readNumbers
set_option maxRecDepth 20000 in
theorem ggX2_readItem_X0_addPerson : GoodIn wsX2_readItem wsX0_addPerson := goodIn_r _ [30, 31, 32, 33, 34, 35, 36, 37, 38, 39, 66, 67, 68, 69, 70, 71, 72, 73, 74, 75, 76, 77, 78, 79, 80] (by rfl) (by decide +kernel)
set_option maxRecDepth 20000 in
theorem gX2_readItem_X0_addPerson : GoodIn wsX2_readItem (wsV RX2 49 RX0 yX0_addPerson wsX0_addPerson) := goodIn_app (goodIn_of _ (by decide +kernel)) ggX2_readItem_X0_addPerson
set_option maxRecDepth 20000 in
theorem ggX2_readItem_X0_addBequest : GoodIn wsX2_readItem wsX0_addBequest := goodIn_r _ [43, 44, 45, 46, 47, 48, 49, 50, 29, 51, 31, 37, 38, 39, 66, 67, 68, 69, 70, 71, 72, 73, 74, 75, 76, 77, 78, 79, 80] (by rfl) (by decide +kernel)
set_option maxRecDepth 20000 in
theorem gX2_readItem_X0_addBequest : GoodIn wsX2_readItem (wsV RX2 53 RX0 yX0_addBequest wsX0_addBequest) := goodIn_app (goodIn_of _ (by decide +kernel)) ggX2_readItem_X0_addBequest
set_option maxRecDepth 20000 in
theorem ggX2_readItem_X0_addGift : GoodIn wsX2_readItem wsX0_addGift := goodIn_r _ [55, 36, 48, 49, 50, 29, 51, 31, 37, 38, 39, 66, 67, 68, 69, 70, 71, 72, 73, 74, 75, 76, 77, 78, 79, 80] (by rfl) (by decide +kernel)
set_option maxRecDepth 20000 in
theorem gX2_readItem_X0_addGift : GoodIn wsX2_readItem (wsV RX2 57 RX0 yX0_addGift wsX0_addGift) := goodIn_app (goodIn_of _ (by decide +kernel)) ggX2_readItem_X0_addGift
set_option maxRecDepth 20000 in
theorem ggX2_readItem_X0_putSeed : GoodIn wsX2_readItem wsX0_putSeed := goodIn_r _ [59, 60, 37, 38, 39, 66, 67, 68, 69, 70, 71, 72, 73, 74, 75, 76, 77, 78, 79, 80] (by rfl) (by decide +kernel)
set_option maxRecDepth 20000 in
theorem gX2_readItem_X0_putSeed : GoodIn wsX2_readItem (wsV RX2 61 RX0 yX0_putSeed wsX0_putSeed) := goodIn_app (goodIn_of _ (by decide +kernel)) ggX2_readItem_X0_putSeed
set_option maxRecDepth 20000 in
theorem ggX2_readNumbers_X3_at : GoodIn wsX2_readNumbers wsX3_at := goodIn_r _ [8, 9, 10, 22, 23] (by rfl) (by decide +kernel)
set_option maxRecDepth 20000 in
theorem gX2_readNumbers_X3_at : GoodIn wsX2_readNumbers (wsV RX2 37 RX3 yX3_at wsX3_at) := goodIn_app (goodIn_of _ (by decide +kernel)) ggX2_readNumbers_X3_at
set_option maxRecDepth 20000 in
theorem ggX2_readNumbers_X2_isFigure : GoodIn wsX2_readNumbers wsX2_isFigure := goodIn_r _ [14] (by rfl) (by decide +kernel)
set_option maxRecDepth 20000 in
theorem gX2_readNumbers_X2_isFigure : GoodIn wsX2_readNumbers (va_wsS RX2 64 yX2_isFigure wsX2_isFigure) := goodIn_app (goodIn_of _ (by decide +kernel)) ggX2_readNumbers_X2_isFigure
set_option maxRecDepth 20000 in
theorem ggX2_readNumbers_X2_readNumber : GoodIn wsX2_readNumbers wsX2_readNumber := goodIn_r _ [18, 2, 3, 4, 5, 6, 7, 8, 9, 10, 11, 12, 13, 14, 19, 20, 21, 22, 23] (by rfl) (by decide +kernel)
set_option maxRecDepth 20000 in
theorem gX2_readNumbers_X2_readNumber : GoodIn wsX2_readNumbers (wsV RX2 68 RX2 yX2_readNumber wsX2_readNumber) := goodIn_app (goodIn_of _ (by decide +kernel)) ggX2_readNumbers_X2_readNumber
set_option maxRecDepth 20000 in
theorem ggX2_readNumber_X3_at : GoodIn wsX2_readNumber wsX3_at := goodIn_r _ [7, 8, 9, 17, 18] (by rfl) (by decide +kernel)
set_option maxRecDepth 20000 in
theorem gX2_readNumber_X3_at : GoodIn wsX2_readNumber (wsV RX2 37 RX3 yX3_at wsX3_at) := goodIn_app (goodIn_of _ (by decide +kernel)) ggX2_readNumber_X3_at
set_option maxRecDepth 20000 in
theorem ggX2_readNumber_X2_isFigure : GoodIn wsX2_readNumber wsX2_isFigure := goodIn_r _ [13] (by rfl) (by decide +kernel)
set_option maxRecDepth 20000 in
theorem gX2_readNumber_X2_isFigure : GoodIn wsX2_readNumber (va_wsS RX2 64 yX2_isFigure wsX2_isFigure) := goodIn_app (goodIn_of _ (by decide +kernel)) ggX2_readNumber_X2_isFigure
set_option maxRecDepth 20000 in
theorem ggX5_run_X5_prepare : GoodIn wsX5_run wsX5_prepare := goodIn_r _ [8, 9, 1, 10, 3, 11, 12, 13, 14, 15, 16, 17, 18, 19, 20, 21, 22, 23, 70, 71, 72, 73, 74, 75, 76, 77, 78, 79, 80, 81, 82, 83, 84, 85, 86, 87, 88, 89, 90, 91, 92, 93, 94] (by rfl) (by decide +kernel)
set_option maxRecDepth 20000 in
theorem gX5_run_X5_prepare : GoodIn wsX5_run (wsV RX5 46 RX5 yX5_prepare wsX5_prepare) := goodIn_app (goodIn_of _ (by decide +kernel)) ggX5_run_X5_prepare
set_option maxRecDepth 20000 in
theorem ggX5_run_X5_bear : GoodIn wsX5_run wsX5_bear := goodIn_r _ [27, 1, 10, 3, 70, 71, 72, 73, 74, 75, 76, 77, 78, 79, 80, 81, 82, 83, 84, 85, 86, 87, 88, 89, 90, 91, 92, 93, 94] (by rfl) (by decide +kernel)
set_option maxRecDepth 20000 in
theorem gX5_run_X5_bear : GoodIn wsX5_run (wsV RX5 49 RX5 yX5_bear wsX5_bear) := goodIn_app (goodIn_of _ (by decide +kernel)) ggX5_run_X5_bear
set_option maxRecDepth 20000 in
theorem ggX5_run_X5_bringHelp : GoodIn wsX5_run wsX5_bringHelp := goodIn_r _ [31, 1, 3, 32, 33, 34, 7, 35, 10, 70, 71, 72, 73, 74, 75, 76, 77, 78, 79, 80, 81, 82, 83, 84, 85, 86, 87, 88, 89, 90, 91, 92, 93, 94] (by rfl) (by decide +kernel)
set_option maxRecDepth 20000 in
theorem gX5_run_X5_bringHelp : GoodIn wsX5_run (wsV RX5 53 RX5 yX5_bringHelp wsX5_bringHelp) := goodIn_app (goodIn_of _ (by decide +kernel)) ggX5_run_X5_bringHelp
set_option maxRecDepth 20000 in
theorem ggX5_run_X5_work : GoodIn wsX5_run wsX5_work := goodIn_r _ [39, 1, 10, 3, 40, 41, 42, 7, 43, 44, 45, 46, 47, 48, 49, 50, 51, 52, 53, 70, 71, 72, 73, 74, 75, 76, 77, 78, 79, 80, 81, 82, 83, 84, 85, 86, 87, 88, 89, 90, 91, 92, 93, 94] (by rfl) (by decide +kernel)
set_option maxRecDepth 20000 in
theorem gX5_run_X5_work : GoodIn wsX5_run (wsV RX5 56 RX5 yX5_work wsX5_work) := goodIn_app (goodIn_of _ (by decide +kernel)) ggX5_run_X5_work
set_option maxRecDepth 20000 in
theorem ggX5_run_X5_takeTurn : GoodIn wsX5_run wsX5_takeTurn := goodIn_r _ [57, 10, 12, 3, 1, 11, 9, 58, 59, 60, 7, 61, 13, 62, 63, 64, 65, 66, 67, 68, 69, 14, 15, 32, 33, 34, 35, 70, 71, 72, 73, 74, 75, 76, 77, 78, 79, 80, 81, 82, 83, 84, 85, 86, 87, 88, 89, 90, 91, 92, 93, 94] (by rfl) (by decide +kernel)
set_option maxRecDepth 20000 in
theorem gX5_run_X5_takeTurn : GoodIn wsX5_run (wsV RX5 64 RX5 yX5_takeTurn wsX5_takeTurn) := goodIn_app (goodIn_of _ (by decide +kernel)) ggX5_run_X5_takeTurn
set_option maxRecDepth 20000 in
theorem ggX5_prepare_X0_leaves : GoodIn wsX5_prepare wsX0_leaves := goodIn_r _ [14, 15, 16, 17, 28, 29, 30, 31, 32, 33, 34, 35, 36, 37, 38, 39, 40, 41, 42] (by rfl) (by decide +kernel)
set_option maxRecDepth 20000 in
theorem gX5_prepare_X0_leaves : GoodIn wsX5_prepare (wsV RX5 68 RX0 yX0_leaves wsX0_leaves) := goodIn_app (goodIn_of _ (by decide +kernel)) ggX5_prepare_X0_leaves
set_option maxRecDepth 20000 in
theorem ggX5_bringHelp_X5_isLiving : GoodIn wsX5_bringHelp wsX5_isLiving := goodIn_r _ [7, 1, 8, 9, 10, 11, 12, 13, 14, 15, 16, 17, 18, 19, 20, 21, 22, 23, 24, 25, 26, 27, 28, 29, 30, 31, 32, 33] (by rfl) (by decide +kernel)
set_option maxRecDepth 20000 in
theorem gX5_bringHelp_X5_isLiving : GoodIn wsX5_bringHelp (wsV RX5 90 RX5 yX5_isLiving wsX5_isLiving) := goodIn_app (goodIn_of _ (by decide +kernel)) ggX5_bringHelp_X5_isLiving
set_option maxRecDepth 20000 in
theorem ggX5_work_X5_wages : GoodIn wsX5_work wsX5_wages := goodIn_r _ [8, 1, 9, 10, 11, 7, 12, 13, 14, 15, 16, 17, 18, 19, 20, 21, 22, 23, 24, 25, 26, 27, 28, 29, 30, 31, 32, 33, 34, 35, 36, 37, 38, 39, 40, 41, 42, 43] (by rfl) (by decide +kernel)
set_option maxRecDepth 20000 in
theorem gX5_work_X5_wages : GoodIn wsX5_work (wsV RX5 97 RX5 yX5_wages wsX5_wages) := goodIn_app (goodIn_of _ (by decide +kernel)) ggX5_work_X5_wages
set_option maxRecDepth 20000 in
theorem ggX5_wages_X5_drawIsEven : GoodIn wsX5_wages wsX5_drawIsEven := goodIn_r _ [6, 7, 1, 8, 9, 10, 11, 12, 13, 14, 15, 16, 17, 18, 19, 20, 21, 22, 23, 24, 25, 26, 27, 28, 29, 30, 31, 32, 33, 34, 35, 36, 37] (by rfl) (by decide +kernel)
set_option maxRecDepth 20000 in
theorem gX5_wages_X5_drawIsEven : GoodIn wsX5_wages (wsV RX5 107 RX5 yX5_drawIsEven wsX5_drawIsEven) := goodIn_app (goodIn_of _ (by decide +kernel)) ggX5_wages_X5_drawIsEven
set_option maxRecDepth 20000 in
theorem ggX5_takeTurn_X5_die : GoodIn wsX5_takeTurn wsX5_die := goodIn_r _ [11, 1, 12, 4, 3, 13, 14, 15, 10, 16, 17, 18, 19, 20, 21, 22, 23, 24, 25, 26, 27, 28, 29, 30, 31, 32, 33, 34, 35, 36, 37, 38, 39, 40, 41, 42, 43, 44, 45, 46, 47, 48, 49, 50, 51] (by rfl) (by decide +kernel)
set_option maxRecDepth 20000 in
theorem gX5_takeTurn_X5_die : GoodIn wsX5_takeTurn (wsV RX5 126 RX5 yX5_die wsX5_die) := goodIn_app (goodIn_of _ (by decide +kernel)) ggX5_takeTurn_X5_die
set_option maxRecDepth 20000 in
theorem ggX5_die_X5_pay : GoodIn wsX5_die wsX5_pay := goodIn_r _ [9, 4, 3, 10, 11, 12, 13, 14, 15, 16, 17, 18, 8, 19, 1, 20, 21, 22, 23, 24, 25, 26, 27, 28, 29, 30, 31, 32, 33, 34, 35, 36, 37, 38, 39, 40, 41, 42, 43, 44] (by rfl) (by decide +kernel)
set_option maxRecDepth 20000 in
theorem gX5_die_X5_pay : GoodIn wsX5_die (wsV RX5 135 RX5 yX5_pay wsX5_pay) := goodIn_app (goodIn_of _ (by decide +kernel)) ggX5_die_X5_pay
set_option maxRecDepth 20000 in
theorem ggX5_pay_X5_isLiving : GoodIn wsX5_pay wsX5_isLiving := goodIn_r _ [13, 2, 14, 15, 16, 17, 18, 19, 20, 21, 22, 23, 24, 25, 26, 27, 28, 29, 30, 31, 32, 33, 34, 35, 36, 37, 38, 39] (by rfl) (by decide +kernel)
set_option maxRecDepth 20000 in
theorem gX5_pay_X5_isLiving : GoodIn wsX5_pay (wsV RX5 90 RX5 yX5_isLiving wsX5_isLiving) := goodIn_app (goodIn_of _ (by decide +kernel)) ggX5_pay_X5_isLiving
set_option maxRecDepth 20000 in
theorem ggX5_firstWithout_X5_diedHaving : GoodIn wsX5_firstWithout wsX5_diedHaving := goodIn_r _ [7, 8, 9, 10, 11, 12, 13, 14, 15, 16, 17, 18] (by rfl) (by decide +kernel)
set_option maxRecDepth 20000 in
theorem gX5_firstWithout_X5_diedHaving : GoodIn wsX5_firstWithout (wsV RX5 149 RX5 yX5_diedHaving wsX5_diedHaving) := goodIn_app (goodIn_of _ (by decide +kernel)) ggX5_firstWithout_X5_diedHaving
set_option maxRecDepth 20000 in
theorem ggX5_oldest_X5_ageReached : GoodIn wsX5_oldest wsX5_ageReached := goodIn_r _ [6, 1, 7, 8, 9, 10, 11, 12, 13, 14, 15, 16, 17, 18, 19, 20, 21, 22, 23, 24, 25, 26, 27, 28, 29, 30, 31, 32, 33, 34, 35, 36, 37, 38] (by rfl) (by decide +kernel)
set_option maxRecDepth 20000 in
theorem gX5_oldest_X5_ageReached : GoodIn wsX5_oldest (wsV RX5 152 RX5 yX5_ageReached wsX5_ageReached) := goodIn_app (goodIn_of _ (by decide +kernel)) ggX5_oldest_X5_ageReached
set_option maxRecDepth 20000 in
theorem ggX5_ageReached_X0_hasPerson : GoodIn wsX5_ageReached wsX0_hasPerson := goodIn_r _ [7, 8, 19, 20, 21, 22, 23, 24, 25, 26, 27, 28, 29, 30, 31, 32, 33] (by rfl) (by decide +kernel)
set_option maxRecDepth 20000 in
theorem gX5_ageReached_X0_hasPerson : GoodIn wsX5_ageReached (wsV RX5 155 RX0 yX0_hasPerson wsX0_hasPerson) := goodIn_app (goodIn_of _ (by decide +kernel)) ggX5_ageReached_X0_hasPerson
set_option maxRecDepth 20000 in
theorem ggX5_lastHaving_X5_diedHaving : GoodIn wsX5_lastHaving wsX5_diedHaving := goodIn_r _ [11, 12, 13, 14, 15, 16, 17, 18, 19, 20, 21, 22] (by rfl) (by decide +kernel)
set_option maxRecDepth 20000 in
theorem gX5_lastHaving_X5_diedHaving : GoodIn wsX5_lastHaving (wsV RX5 149 RX5 yX5_diedHaving wsX5_diedHaving) := goodIn_app (goodIn_of _ (by decide +kernel)) ggX5_lastHaving_X5_diedHaving
set_option maxRecDepth 20000 in
theorem ggX6_init_X3_init : GoodIn wsX6_init wsX3_init := goodIn_r _ [35, 36, 2, 3, 37, 38, 39, 205, 206] (by rfl) (by decide +kernel)
set_option maxRecDepth 20000 in
theorem gX6_init_X3_init_n9 : GoodIn wsX6_init (wsX3_init) := ggX6_init_X3_init
set_option maxRecDepth 20000 in
theorem ggX6_init_X2_init : GoodIn wsX6_init wsX2_init := goodIn_r _ [42, 43, 2, 3, 44, 45, 46, 47, 219, 220, 221] (by rfl) (by decide +kernel)
set_option maxRecDepth 20000 in
theorem gX6_init_X2_init : GoodIn wsX6_init (wsX2_init) := ggX6_init_X2_init
set_option maxRecDepth 20000 in
theorem ggX6_init_X0_init : GoodIn wsX6_init wsX0_init := goodIn_r _ [49, 50, 2, 3, 51, 44, 52, 53, 54, 55, 56, 57, 58, 59, 60, 61, 62, 63, 64, 65, 222, 223, 224, 225, 226, 227, 228, 229, 230, 231, 232, 233, 234, 235, 236] (by rfl) (by decide +kernel)
set_option maxRecDepth 20000 in
theorem gX6_init_X0_init_n27 : GoodIn wsX6_init (wsX0_init) := ggX6_init_X0_init
set_option maxRecDepth 20000 in
theorem ggX6_init_X5_init : GoodIn wsX6_init wsX5_init := goodIn_r _ [68, 69, 2, 3, 44, 70, 71, 72, 73, 74, 75, 76, 77, 78, 79, 80, 237, 238, 239, 240, 241, 242, 243, 244, 245, 246] (by rfl) (by decide +kernel)
set_option maxRecDepth 20000 in
theorem gX6_init_X5_init : GoodIn wsX6_init (wsX5_init) := ggX6_init_X5_init
set_option maxRecDepth 20000 in
theorem ggX6_init_X1_init : GoodIn wsX6_init wsX1_init := goodIn_r _ [82, 83, 2, 3, 44, 84, 85, 86, 87, 247, 248, 249, 250] (by rfl) (by decide +kernel)
set_option maxRecDepth 20000 in
theorem gX6_init_X1_init_n53 : GoodIn wsX6_init (wsX1_init) := ggX6_init_X1_init
set_option maxRecDepth 20000 in
theorem ggX6_init_X4_init : GoodIn wsX6_init wsX4_init := goodIn_r _ [89, 90, 2, 3, 44, 91, 92, 93, 94, 251, 252, 253, 254] (by rfl) (by decide +kernel)
set_option maxRecDepth 20000 in
theorem gX6_init_X4_init_n60 : GoodIn wsX6_init (wsX4_init) := ggX6_init_X4_init
set_option maxRecDepth 20000 in
theorem ggX6_init_J0_length_8abf5 : GoodIn wsX6_init wsJ0_length_8abf5 := goodIn_r _ [99, 100, 101, 102, 103, 98, 104, 105, 106] (by rfl) (by decide +kernel)
set_option maxRecDepth 20000 in
theorem gX6_init_J0_length_8abf5 : GoodIn wsX6_init (wsV RX6 77 RJ0 yJ0_length_8abf5 wsJ0_length_8abf5) := goodIn_app (goodIn_of _ (by decide +kernel)) ggX6_init_J0_length_8abf5
set_option maxRecDepth 20000 in
theorem ggX6_init_J0_charAt_5068e : GoodIn wsX6_init wsJ0_charAt_5068e := goodIn_r _ [110, 100, 111, 112, 113, 98, 114, 105, 106, 115, 116, 117, 118, 119, 120, 121, 122, 123, 124, 125, 126, 127, 128, 129, 130, 131, 132, 133, 134, 135, 136, 137, 138, 139, 140, 141, 142, 143] (by rfl) (by decide +kernel)
set_option maxRecDepth 20000 in
theorem gX6_init_J0_charAt_5068e : GoodIn wsX6_init (wsV RX6 83 RJ0 yJ0_charAt_5068e wsJ0_charAt_5068e) := goodIn_app (goodIn_of _ (by decide +kernel)) ggX6_init_J0_charAt_5068e
set_option maxRecDepth 20000 in
theorem ggX6_init_X3_append : GoodIn wsX6_init wsX3_append := goodIn_r _ [147, 39, 38, 205, 206] (by rfl) (by decide +kernel)
set_option maxRecDepth 20000 in
theorem gX6_init_X3_append : GoodIn wsX6_init (wsV RX6 87 RX3 yX3_append wsX3_append) := goodIn_app (goodIn_of _ (by decide +kernel)) ggX6_init_X3_append
set_option maxRecDepth 20000 in
theorem ggX6_init_X2_readInto : GoodIn wsX6_init wsX2_readInto := goodIn_r _ [151, 46, 47, 152, 153, 154, 14, 155, 51, 57, 61, 65, 156, 157, 158, 10, 159, 45, 160, 161, 162, 6, 163, 39, 38, 164, 165, 166, 167, 168, 169, 170, 171, 172, 173, 174, 175, 176, 177, 178, 179, 180, 181, 52, 53, 54, 55, 56, 182, 183, 184, 185, 186, 187, 188, 58, 59, 60, 189, 190, 191, 192, 193, 194, 195, 196, 197, 198, 199, 200, 219, 220, 221, 205, 206, 222, 223, 224, 225, 226, 227, 228, 229, 230, 231, 232, 233, 234, 235, 236] (by rfl) (by decide +kernel)
set_option maxRecDepth 20000 in
theorem gX6_init_X2_readInto : GoodIn wsX6_init (wsV RX6 91 RX2 yX2_readInto wsX2_readInto) := goodIn_app (goodIn_of _ (by decide +kernel)) ggX6_init_X2_readInto
set_option maxRecDepth 20000 in
theorem ggX6_init_X3_clear : GoodIn wsX6_init wsX3_clear := goodIn_r _ [204, 39, 205, 206] (by rfl) (by decide +kernel)
set_option maxRecDepth 20000 in
theorem gX6_init_X3_clear : GoodIn wsX6_init (wsV RX6 95 RX3 yX3_clear wsX3_clear) := goodIn_app (goodIn_of _ (by decide +kernel)) ggX6_init_X3_clear
set_option maxRecDepth 20000 in
theorem ggX6_write_X3_append : GoodIn wsX6_write wsX3_append := goodIn_r _ [6, 7, 8, 21, 22] (by rfl) (by decide +kernel)
set_option maxRecDepth 20000 in
theorem gX6_write_X3_append : GoodIn wsX6_write (wsV RX6 87 RX3 yX3_append wsX3_append) := goodIn_app (goodIn_of _ (by decide +kernel)) ggX6_write_X3_append
set_option maxRecDepth 20000 in
theorem ggX6_wipe_X3_clear : GoodIn wsX6_wipe wsX3_clear := goodIn_r _ [6, 7, 20, 21] (by rfl) (by decide +kernel)
set_option maxRecDepth 20000 in
theorem gX6_wipe_X3_clear : GoodIn wsX6_wipe (wsV RX6 95 RX3 yX3_clear wsX3_clear) := goodIn_app (goodIn_of _ (by decide +kernel)) ggX6_wipe_X3_clear
set_option maxRecDepth 20000 in
theorem ggX6_fault_X2_readInto : GoodIn wsX6_fault wsX2_readInto := goodIn_r _ [7, 8, 9, 10, 11, 12, 13, 14, 15, 16, 17, 18, 19, 20, 21, 6, 22, 23, 24, 25, 26, 27, 28, 29, 30, 31, 32, 33, 34, 35, 36, 37, 38, 39, 40, 41, 42, 43, 44, 45, 46, 47, 48, 49, 50, 51, 52, 53, 54, 55, 56, 57, 58, 59, 60, 61, 62, 63, 64, 65, 66, 67, 68, 69, 70, 71, 72, 73, 74, 75, 88, 89, 90, 91, 92, 93, 94, 95, 96, 97, 98, 99, 100, 101, 102, 103, 104, 105, 106, 107] (by rfl) (by decide +kernel)
set_option maxRecDepth 20000 in
theorem gX6_fault_X2_readInto : GoodIn wsX6_fault (wsV RX6 91 RX2 yX2_readInto wsX2_readInto) := goodIn_app (goodIn_of _ (by decide +kernel)) ggX6_fault_X2_readInto
set_option maxRecDepth 20000 in
theorem ggX6_lay_X2_readInto : GoodIn wsX6_lay wsX2_readInto := goodIn_r _ [12, 13, 14, 15, 16, 17, 18, 19, 20, 21, 22, 23, 24, 25, 26, 11, 27, 28, 29, 30, 31, 32, 33, 34, 35, 36, 37, 38, 39, 40, 41, 42, 43, 44, 45, 46, 47, 48, 49, 50, 51, 52, 53, 54, 55, 56, 57, 58, 59, 60, 61, 62, 63, 64, 65, 66, 67, 68, 69, 70, 71, 72, 73, 74, 75, 76, 77, 78, 79, 80, 130, 131, 132, 133, 134, 115, 116, 117, 118, 119, 120, 121, 122, 123, 124, 125, 126, 127, 128, 129] (by rfl) (by decide +kernel)
set_option maxRecDepth 20000 in
theorem gX6_lay_X2_readInto : GoodIn wsX6_lay (wsV RX6 91 RX2 yX2_readInto wsX2_readInto) := goodIn_app (goodIn_of _ (by decide +kernel)) ggX6_lay_X2_readInto
set_option maxRecDepth 20000 in
theorem ggX6_lay_X0_copyFrom : GoodIn wsX6_lay wsX0_copyFrom := goodIn_r _ [84, 20, 54, 55, 56, 57, 58, 21, 66, 67, 68, 22, 85, 86, 87, 23, 88, 89, 18, 90, 115, 116, 117, 118, 119, 120, 121, 122, 123, 124, 125, 126, 127, 128, 129] (by rfl) (by decide +kernel)
set_option maxRecDepth 20000 in
theorem gX6_lay_X0_copyFrom : GoodIn wsX6_lay (wsV RX6 103 RX0 yX0_copyFrom wsX0_copyFrom) := goodIn_app (goodIn_of _ (by decide +kernel)) ggX6_lay_X0_copyFrom
set_option maxRecDepth 20000 in
theorem ggX6_lay_X1_clear : GoodIn wsX6_lay wsX1_clear := goodIn_r _ [95, 96, 135, 136, 137, 138] (by rfl) (by decide +kernel)
set_option maxRecDepth 20000 in
theorem gX6_lay_X1_clear : GoodIn wsX6_lay (wsV RX6 106 RX1 yX1_clear wsX1_clear) := goodIn_app (goodIn_of _ (by decide +kernel)) ggX6_lay_X1_clear
set_option maxRecDepth 20000 in
theorem ggX6_lay_X4_clear : GoodIn wsX6_lay wsX4_clear := goodIn_r _ [101, 102, 139, 140, 141, 142] (by rfl) (by decide +kernel)
set_option maxRecDepth 20000 in
theorem gX6_lay_X4_clear : GoodIn wsX6_lay (wsV RX6 107 RX4 yX4_clear wsX4_clear) := goodIn_app (goodIn_of _ (by decide +kernel)) ggX6_lay_X4_clear
set_option maxRecDepth 20000 in
theorem ggX6_person_X0_hasPerson : GoodIn wsX6_person wsX0_hasPerson := goodIn_r _ [6, 7, 27, 28, 29, 30, 31, 32, 33, 34, 35, 36, 37, 38, 39, 40, 41] (by rfl) (by decide +kernel)
set_option maxRecDepth 20000 in
theorem gX6_person_X0_hasPerson : GoodIn wsX6_person (wsV RX6 108 RX0 yX0_hasPerson wsX0_hasPerson) := goodIn_app (goodIn_of _ (by decide +kernel)) ggX6_person_X0_hasPerson
set_option maxRecDepth 20000 in
theorem ggX6_person_X0_leaves : GoodIn wsX6_person wsX0_leaves := goodIn_r _ [11, 12, 13, 14, 27, 28, 29, 30, 31, 32, 33, 34, 35, 36, 37, 38, 39, 40, 41] (by rfl) (by decide +kernel)
set_option maxRecDepth 20000 in
theorem gX6_person_X0_leaves : GoodIn wsX6_person (wsV RX6 128 RX0 yX0_leaves wsX0_leaves) := goodIn_app (goodIn_of _ (by decide +kernel)) ggX6_person_X0_leaves
set_option maxRecDepth 20000 in
theorem ggX6_bequest_X0_hasBequest : GoodIn wsX6_bequest wsX0_hasBequest := goodIn_r _ [6, 7, 20, 21, 22, 23, 24, 25, 26, 27, 28, 29, 30, 31, 32, 33, 34] (by rfl) (by decide +kernel)
set_option maxRecDepth 20000 in
theorem gX6_bequest_X0_hasBequest : GoodIn wsX6_bequest (wsV RX6 132 RX0 yX0_hasBequest wsX0_hasBequest) := goodIn_app (goodIn_of _ (by decide +kernel)) ggX6_bequest_X0_hasBequest
set_option maxRecDepth 20000 in
theorem ggX6_reword_X0_hasBequest : GoodIn wsX6_reword wsX0_hasBequest := goodIn_r _ [8, 9, 39, 40, 41, 42, 43, 44, 45, 46, 47, 48, 49, 50, 51, 52, 53] (by rfl) (by decide +kernel)
set_option maxRecDepth 20000 in
theorem gX6_reword_X0_hasBequest : GoodIn wsX6_reword (wsV RX6 132 RX0 yX0_hasBequest wsX0_hasBequest) := goodIn_app (goodIn_of _ (by decide +kernel)) ggX6_reword_X0_hasBequest
set_option maxRecDepth 20000 in
theorem ggX6_reword_X6_isWithin : GoodIn wsX6_reword wsX6_isWithin := goodIn_r _ [13] (by rfl) (by decide +kernel)
set_option maxRecDepth 20000 in
theorem gX6_reword_X6_isWithin : GoodIn wsX6_reword (va_wsS RX6 144 yX6_isWithin wsX6_isWithin) := goodIn_app (goodIn_of _ (by decide +kernel)) ggX6_reword_X6_isWithin
set_option maxRecDepth 20000 in
theorem ggX6_reword_X1_note : GoodIn wsX6_reword wsX1_note := goodIn_r _ [18, 19, 20, 21, 22, 23, 24, 25, 17, 26, 54, 55, 56, 57] (by rfl) (by decide +kernel)
set_option maxRecDepth 20000 in
theorem gX6_reword_X1_note : GoodIn wsX6_reword (wsV RX6 148 RX1 yX1_note wsX1_note) := goodIn_app (goodIn_of _ (by decide +kernel)) ggX6_reword_X1_note
set_option maxRecDepth 20000 in
theorem ggX6_pass_X0_hasBequest : GoodIn wsX6_pass wsX0_hasBequest := goodIn_r _ [8, 9, 40, 41, 42, 43, 44, 45, 46, 47, 48, 49, 50, 51, 52, 53, 54] (by rfl) (by decide +kernel)
set_option maxRecDepth 20000 in
theorem gX6_pass_X0_hasBequest : GoodIn wsX6_pass (wsV RX6 132 RX0 yX0_hasBequest wsX0_hasBequest) := goodIn_app (goodIn_of _ (by decide +kernel)) ggX6_pass_X0_hasBequest
set_option maxRecDepth 20000 in
theorem ggX6_pass_X0_hasPerson : GoodIn wsX6_pass wsX0_hasPerson := goodIn_r _ [13, 14, 40, 41, 42, 43, 44, 45, 46, 47, 48, 49, 50, 51, 52, 53, 54] (by rfl) (by decide +kernel)
set_option maxRecDepth 20000 in
theorem gX6_pass_X0_hasPerson : GoodIn wsX6_pass (wsV RX6 108 RX0 yX0_hasPerson wsX0_hasPerson) := goodIn_app (goodIn_of _ (by decide +kernel)) ggX6_pass_X0_hasPerson
set_option maxRecDepth 20000 in
theorem ggX6_pass_X1_note : GoodIn wsX6_pass wsX1_note := goodIn_r _ [19, 20, 21, 22, 23, 24, 25, 26, 18, 27, 55, 56, 57, 58] (by rfl) (by decide +kernel)
set_option maxRecDepth 20000 in
theorem gX6_pass_X1_note : GoodIn wsX6_pass (wsV RX6 148 RX1 yX1_note wsX1_note) := goodIn_app (goodIn_of _ (by decide +kernel)) ggX6_pass_X1_note
set_option maxRecDepth 20000 in
theorem ggX6_help_X0_hasPerson : GoodIn wsX6_help wsX0_hasPerson := goodIn_r _ [8, 9, 47, 48, 49, 50, 51, 52, 53, 54, 55, 56, 57, 58, 59, 60, 61] (by rfl) (by decide +kernel)
set_option maxRecDepth 20000 in
theorem gX6_help_X0_hasPerson : GoodIn wsX6_help (wsV RX6 108 RX0 yX0_hasPerson wsX0_hasPerson) := goodIn_app (goodIn_of _ (by decide +kernel)) ggX6_help_X0_hasPerson
set_option maxRecDepth 20000 in
theorem ggX6_help_X6_isWithin : GoodIn wsX6_help wsX6_isWithin := goodIn_r _ [13] (by rfl) (by decide +kernel)
set_option maxRecDepth 20000 in
theorem gX6_help_X6_isWithin : GoodIn wsX6_help (va_wsS RX6 144 yX6_isWithin wsX6_isWithin) := goodIn_app (goodIn_of _ (by decide +kernel)) ggX6_help_X6_isWithin
set_option maxRecDepth 20000 in
theorem ggX6_help_X0_addHelp : GoodIn wsX6_help wsX0_addHelp := goodIn_r _ [17, 18, 19, 20, 21, 47, 48, 49, 50, 51, 52, 53, 54, 55, 56, 57, 58, 59, 60, 61] (by rfl) (by decide +kernel)
set_option maxRecDepth 20000 in
theorem gX6_help_X0_addHelp : GoodIn wsX6_help (wsV RX6 152 RX0 yX0_addHelp wsX0_addHelp) := goodIn_app (goodIn_of _ (by decide +kernel)) ggX6_help_X0_addHelp
set_option maxRecDepth 20000 in
theorem ggX6_help_X1_note : GoodIn wsX6_help wsX1_note := goodIn_r _ [26, 27, 28, 29, 30, 31, 32, 33, 25, 34, 62, 63, 64, 65] (by rfl) (by decide +kernel)
set_option maxRecDepth 20000 in
theorem gX6_help_X1_note : GoodIn wsX6_help (wsV RX6 148 RX1 yX1_note wsX1_note) := goodIn_app (goodIn_of _ (by decide +kernel)) ggX6_help_X1_note
set_option maxRecDepth 20000 in
theorem ggX6_undo_X1_takeBack : GoodIn wsX6_undo wsX1_takeBack := goodIn_r _ [8, 9, 10, 11, 12, 13, 14, 15, 16, 17, 18, 19, 20, 21, 22, 23, 36, 37, 38, 39, 40, 41, 42, 43, 44, 45, 46, 47, 48, 49, 50, 51, 52, 53, 54] (by rfl) (by decide +kernel)
set_option maxRecDepth 20000 in
theorem gX6_undo_X1_takeBack : GoodIn wsX6_undo (wsV RX6 158 RX1 yX1_takeBack wsX1_takeBack) := goodIn_app (goodIn_of _ (by decide +kernel)) ggX6_undo_X1_takeBack
set_option maxRecDepth 20000 in
theorem ggX6_dies_X0_hasPerson : GoodIn wsX6_dies wsX0_hasPerson := goodIn_r _ [6, 7, 109, 110, 111, 112, 113, 114, 115, 116, 117, 118, 119, 120, 121, 122, 123] (by rfl) (by decide +kernel)
set_option maxRecDepth 20000 in
theorem gX6_dies_X0_hasPerson : GoodIn wsX6_dies (wsV RX6 108 RX0 yX0_hasPerson wsX0_hasPerson) := goodIn_app (goodIn_of _ (by decide +kernel)) ggX6_dies_X0_hasPerson
set_option maxRecDepth 20000 in
theorem ggX6_dies_X6_lived : GoodIn wsX6_dies wsX6_lived := goodIn_r _ [12, 13, 14, 15, 16, 17, 18, 19, 20, 21, 22, 23, 24, 25, 26, 27, 28, 29, 30, 31, 32, 33, 34, 35, 36, 5, 37, 38, 39, 40, 41, 42, 43, 44, 45, 46, 47, 48, 49, 50, 51, 52, 53, 54, 55, 56, 57, 58, 59, 60, 61, 62, 63, 64, 65, 66, 67, 68, 69, 70, 71, 72, 73, 74, 75, 76, 77, 78, 79, 80, 81, 82, 83, 84, 85, 86, 87, 88, 89, 90, 91, 92, 93, 94, 95, 96, 97, 98, 99, 100, 101, 102, 103, 104, 105, 106, 107, 108, 109, 110, 111, 112, 113, 114, 115, 116, 117, 118, 119, 120, 121, 122, 123] (by rfl) (by decide +kernel)
set_option maxRecDepth 20000 in
theorem gX6_dies_X6_lived : GoodIn wsX6_dies (wsV RX6 165 RX6 yX6_lived wsX6_lived) := goodIn_app (goodIn_of _ (by decide +kernel)) ggX6_dies_X6_lived
set_option maxRecDepth 20000 in
theorem ggX6_having_X6_lived : GoodIn wsX6_having wsX6_lived := goodIn_r _ [5, 6, 7, 8, 9, 10, 11, 12, 13, 14, 15, 16, 17, 18, 19, 20, 21, 22, 23, 24, 25, 26, 27, 28, 29, 30, 31, 32, 33, 34, 35, 36, 37, 38, 39, 40, 41, 42, 43, 44, 45, 46, 47, 48, 49, 50, 51, 52, 53, 54, 55, 56, 57, 58, 59, 60, 61, 62, 63, 64, 65, 66, 67, 68, 69, 70, 71, 72, 73, 74, 75, 76, 77, 78, 79, 80, 91, 92, 93, 94, 95, 96, 97, 98, 99, 100, 101, 102, 81, 82, 83, 84, 85, 86, 87, 88, 89, 90, 103, 104, 105, 106, 107, 108, 109, 110, 111, 112, 113, 114, 115, 116, 117] (by rfl) (by decide +kernel)
set_option maxRecDepth 20000 in
theorem gX6_having_X6_lived : GoodIn wsX6_having (wsV RX6 165 RX6 yX6_lived wsX6_lived) := goodIn_app (goodIn_of _ (by decide +kernel)) ggX6_having_X6_lived
set_option maxRecDepth 20000 in
theorem ggX6_coins_X0_hasPerson : GoodIn wsX6_coins wsX0_hasPerson := goodIn_r _ [6, 7, 112, 113, 114, 115, 116, 117, 118, 119, 120, 121, 122, 123, 124, 125, 126] (by rfl) (by decide +kernel)
set_option maxRecDepth 20000 in
theorem gX6_coins_X0_hasPerson : GoodIn wsX6_coins (wsV RX6 108 RX0 yX0_hasPerson wsX0_hasPerson) := goodIn_app (goodIn_of _ (by decide +kernel)) ggX6_coins_X0_hasPerson
set_option maxRecDepth 20000 in
theorem ggX6_coins_X6_isWithin : GoodIn wsX6_coins wsX6_isWithin := goodIn_r _ [11] (by rfl) (by decide +kernel)
set_option maxRecDepth 20000 in
theorem gX6_coins_X6_isWithin : GoodIn wsX6_coins (va_wsS RX6 144 yX6_isWithin wsX6_isWithin) := goodIn_app (goodIn_of _ (by decide +kernel)) ggX6_coins_X6_isWithin
set_option maxRecDepth 20000 in
theorem ggX6_coins_X6_lived : GoodIn wsX6_coins wsX6_lived := goodIn_r _ [15, 16, 17, 18, 19, 20, 21, 22, 23, 24, 25, 26, 27, 28, 29, 30, 31, 32, 33, 34, 35, 36, 37, 38, 39, 5, 40, 41, 42, 43, 44, 45, 46, 47, 48, 49, 50, 51, 52, 53, 54, 55, 56, 57, 58, 59, 60, 61, 62, 63, 64, 65, 66, 67, 68, 69, 70, 71, 72, 73, 74, 75, 76, 77, 78, 79, 80, 81, 82, 83, 84, 85, 86, 87, 88, 89, 90, 91, 92, 93, 94, 95, 96, 97, 98, 99, 100, 101, 102, 103, 104, 105, 106, 107, 108, 109, 110, 111, 112, 113, 114, 115, 116, 117, 118, 119, 120, 121, 122, 123, 124, 125, 126] (by rfl) (by decide +kernel)
set_option maxRecDepth 20000 in
theorem gX6_coins_X6_lived : GoodIn wsX6_coins (wsV RX6 165 RX6 yX6_lived wsX6_lived) := goodIn_app (goodIn_of _ (by decide +kernel)) ggX6_coins_X6_lived
set_option maxRecDepth 20000 in
theorem ggX6_brought_X0_hasBequest : GoodIn wsX6_brought wsX0_hasBequest := goodIn_r _ [6, 7, 108, 109, 110, 111, 112, 113, 114, 115, 116, 117, 118, 119, 120, 121, 122] (by rfl) (by decide +kernel)
set_option maxRecDepth 20000 in
theorem gX6_brought_X0_hasBequest : GoodIn wsX6_brought (wsV RX6 132 RX0 yX0_hasBequest wsX0_hasBequest) := goodIn_app (goodIn_of _ (by decide +kernel)) ggX6_brought_X0_hasBequest
set_option maxRecDepth 20000 in
theorem ggX6_brought_X6_lived : GoodIn wsX6_brought wsX6_lived := goodIn_r _ [12, 13, 14, 15, 16, 17, 18, 19, 20, 21, 22, 23, 24, 25, 26, 27, 28, 29, 30, 31, 32, 33, 34, 35, 36, 5, 37, 7, 38, 39, 40, 41, 42, 43, 44, 45, 46, 47, 48, 49, 50, 51, 52, 53, 54, 55, 56, 57, 58, 59, 60, 61, 62, 63, 64, 65, 66, 67, 68, 69, 70, 71, 72, 73, 74, 75, 76, 77, 78, 79, 80, 81, 82, 83, 84, 85, 86, 87, 88, 89, 90, 91, 92, 93, 94, 95, 96, 97, 98, 99, 100, 101, 102, 103, 104, 105, 106, 107, 108, 109, 110, 111, 112, 113, 114, 115, 116, 117, 118, 119, 120, 121, 122] (by rfl) (by decide +kernel)
set_option maxRecDepth 20000 in
theorem gX6_brought_X6_lived : GoodIn wsX6_brought (wsV RX6 165 RX6 yX6_lived wsX6_lived) := goodIn_app (goodIn_of _ (by decide +kernel)) ggX6_brought_X6_lived
set_option maxRecDepth 20000 in
theorem ggX6_inherited_X0_hasPerson : GoodIn wsX6_inherited wsX0_hasPerson := goodIn_r _ [6, 7, 109, 110, 111, 112, 113, 114, 115, 116, 117, 118, 119, 120, 121, 122, 123] (by rfl) (by decide +kernel)
set_option maxRecDepth 20000 in
theorem gX6_inherited_X0_hasPerson : GoodIn wsX6_inherited (wsV RX6 108 RX0 yX0_hasPerson wsX0_hasPerson) := goodIn_app (goodIn_of _ (by decide +kernel)) ggX6_inherited_X0_hasPerson
set_option maxRecDepth 20000 in
theorem ggX6_inherited_X6_lived : GoodIn wsX6_inherited wsX6_lived := goodIn_r _ [12, 13, 14, 15, 16, 17, 18, 19, 20, 21, 22, 23, 24, 25, 26, 27, 28, 29, 30, 31, 32, 33, 34, 35, 36, 5, 37, 38, 39, 40, 41, 42, 43, 44, 45, 46, 47, 48, 49, 50, 51, 52, 53, 54, 55, 56, 57, 58, 59, 60, 61, 62, 63, 64, 65, 66, 67, 68, 69, 70, 71, 72, 73, 74, 75, 76, 77, 78, 79, 80, 81, 82, 83, 84, 85, 86, 87, 88, 89, 90, 91, 92, 93, 94, 95, 96, 97, 98, 99, 100, 101, 102, 103, 104, 105, 106, 107, 108, 109, 110, 111, 112, 113, 114, 115, 116, 117, 118, 119, 120, 121, 122, 123] (by rfl) (by decide +kernel)
set_option maxRecDepth 20000 in
theorem gX6_inherited_X6_lived : GoodIn wsX6_inherited (wsV RX6 165 RX6 yX6_lived wsX6_lived) := goodIn_app (goodIn_of _ (by decide +kernel)) ggX6_inherited_X6_lived
set_option maxRecDepth 20000 in
theorem ggX6_first_X6_lived : GoodIn wsX6_first wsX6_lived := goodIn_r _ [5, 6, 7, 8, 9, 10, 11, 12, 13, 14, 15, 16, 17, 18, 19, 20, 21, 22, 23, 24, 25, 26, 27, 28, 29, 30, 31, 32, 33, 34, 35, 36, 37, 38, 39, 40, 41, 42, 43, 44, 45, 46, 47, 48, 49, 50, 51, 52, 53, 54, 55, 56, 57, 58, 59, 60, 61, 62, 63, 64, 65, 66, 67, 68, 69, 70, 71, 72, 73, 74, 75, 76, 77, 78, 79, 80, 89, 90, 91, 92, 93, 94, 95, 96, 97, 98, 99, 100, 101, 102, 103, 104, 105, 106, 107, 108, 109, 110, 111, 112, 113, 114, 115, 116, 117, 118, 119, 120, 121, 122, 123, 124, 125] (by rfl) (by decide +kernel)
set_option maxRecDepth 20000 in
theorem gX6_first_X6_lived : GoodIn wsX6_first (wsV RX6 165 RX6 yX6_lived wsX6_lived) := goodIn_app (goodIn_of _ (by decide +kernel)) ggX6_first_X6_lived
set_option maxRecDepth 20000 in
theorem ggX6_first_X5_firstWithout : GoodIn wsX6_first wsX5_firstWithout := goodIn_r _ [84, 13, 24, 85, 86, 87, 11, 88, 20, 101, 102, 103, 104, 105, 106, 107, 108, 109, 110, 111, 112, 113, 114, 115, 116, 117, 118, 119, 120, 121, 122, 123, 124, 125] (by rfl) (by decide +kernel)
set_option maxRecDepth 20000 in
theorem gX6_first_X5_firstWithout : GoodIn wsX6_first (wsV RX6 185 RX5 yX5_firstWithout wsX5_firstWithout) := goodIn_app (goodIn_of _ (by decide +kernel)) ggX6_first_X5_firstWithout
set_option maxRecDepth 20000 in
theorem ggX6_longest_X6_lived : GoodIn wsX6_longest wsX6_lived := goodIn_r _ [5, 6, 7, 8, 9, 10, 11, 12, 13, 14, 15, 16, 17, 18, 19, 20, 21, 22, 23, 24, 25, 26, 27, 28, 29, 30, 31, 32, 33, 34, 35, 36, 37, 38, 39, 40, 41, 42, 43, 44, 45, 46, 47, 48, 49, 50, 51, 52, 53, 54, 55, 56, 57, 58, 59, 60, 61, 62, 63, 64, 65, 66, 67, 68, 69, 70, 71, 72, 73, 74, 75, 76, 77, 78, 79, 80, 95, 96, 97, 98, 99, 100, 101, 102, 103, 104, 105, 106, 107, 108, 109, 110, 111, 112, 113, 114, 115, 116, 117, 118, 119, 120, 121, 122, 123, 124, 125, 126, 127, 128, 129, 130, 131] (by rfl) (by decide +kernel)
set_option maxRecDepth 20000 in
theorem gX6_longest_X6_lived : GoodIn wsX6_longest (wsV RX6 165 RX6 yX6_lived wsX6_lived) := goodIn_app (goodIn_of _ (by decide +kernel)) ggX6_longest_X6_lived
set_option maxRecDepth 20000 in
theorem ggX6_longest_X5_oldest : GoodIn wsX6_longest wsX5_oldest := goodIn_r _ [84, 13, 85, 86, 87, 11, 88, 24, 89, 90, 91, 30, 92, 93, 107, 108, 109, 110, 111, 112, 113, 114, 115, 116, 117, 118, 119, 120, 121, 122, 123, 124, 125, 126, 127, 128, 129, 130, 131] (by rfl) (by decide +kernel)
set_option maxRecDepth 20000 in
theorem gX6_longest_X5_oldest : GoodIn wsX6_longest (wsV RX6 188 RX5 yX5_oldest wsX5_oldest) := goodIn_app (goodIn_of _ (by decide +kernel)) ggX6_longest_X5_oldest
set_option maxRecDepth 20000 in
theorem ggX6_longest_X5_ageReached : GoodIn wsX6_longest wsX5_ageReached := goodIn_r _ [88, 13, 24, 89, 90, 91, 30, 92, 93, 107, 108, 109, 110, 111, 112, 113, 114, 115, 116, 117, 118, 119, 120, 121, 122, 123, 124, 125, 126, 127, 128, 129, 130, 131] (by rfl) (by decide +kernel)
set_option maxRecDepth 20000 in
theorem gX6_longest_X5_ageReached : GoodIn wsX6_longest (wsV RX6 191 RX5 yX5_ageReached wsX5_ageReached) := goodIn_app (goodIn_of _ (by decide +kernel)) ggX6_longest_X5_ageReached
set_option maxRecDepth 20000 in
theorem ggX6_greatest_X0_hasPerson : GoodIn wsX6_greatest wsX0_hasPerson := goodIn_r _ [10, 11, 122, 123, 124, 125, 126, 127, 128, 129, 130, 131, 132, 133, 134, 135, 136] (by rfl) (by decide +kernel)
set_option maxRecDepth 20000 in
theorem gX6_greatest_X0_hasPerson : GoodIn wsX6_greatest (wsV RX6 108 RX0 yX0_hasPerson wsX0_hasPerson) := goodIn_app (goodIn_of _ (by decide +kernel)) ggX6_greatest_X0_hasPerson
set_option maxRecDepth 20000 in
theorem ggX6_greatest_X6_mostEverHeld : GoodIn wsX6_greatest wsX6_mostEverHeld := goodIn_r _ [16, 17, 1, 18, 19, 20, 21, 9, 22, 11, 23, 24, 25, 26, 27, 28, 29, 30, 31, 32, 33, 34, 35, 36, 37, 38, 39, 40, 41, 42, 43, 44, 45, 46, 47, 48, 49, 50, 51, 52, 53, 54, 55, 56, 57, 58, 59, 60, 61, 62, 63, 64, 65, 66, 67, 68, 69, 70, 71, 72, 73, 74, 75, 76, 77, 78, 79, 80, 81, 82, 83, 84, 85, 86, 87, 88, 89, 90, 91, 92, 93, 94, 95, 96, 97, 98, 99, 100, 101, 102, 103, 104, 105, 106, 107, 108, 109, 3, 4, 5, 110, 111, 112, 113, 114, 115, 116, 117, 118, 119, 120, 121, 137, 138, 139, 140, 141, 142, 143, 144, 145, 146, 122, 123, 124, 125, 126, 127, 128, 129, 130, 131, 132, 133, 134, 135, 136] (by rfl) (by decide +kernel)
set_option maxRecDepth 20000 in
theorem gX6_greatest_X6_mostEverHeld : GoodIn wsX6_greatest (wsV RX6 194 RX6 yX6_mostEverHeld wsX6_mostEverHeld) := goodIn_app (goodIn_of _ (by decide +kernel)) ggX6_greatest_X6_mostEverHeld
set_option maxRecDepth 20000 in
theorem ggX6_needs_X0_hasPerson : GoodIn wsX6_needs wsX0_hasPerson := goodIn_r _ [10, 11, 125, 126, 127, 128, 129, 130, 131, 132, 133, 134, 135, 136, 137, 138, 139] (by rfl) (by decide +kernel)
set_option maxRecDepth 20000 in
theorem gX6_needs_X0_hasPerson : GoodIn wsX6_needs (wsV RX6 108 RX0 yX0_hasPerson wsX0_hasPerson) := goodIn_app (goodIn_of _ (by decide +kernel)) ggX6_needs_X0_hasPerson
set_option maxRecDepth 20000 in
theorem ggX6_needs_X0_leaves : GoodIn wsX6_needs wsX0_leaves := goodIn_r _ [15, 16, 17, 18, 125, 126, 127, 128, 129, 130, 131, 132, 133, 134, 135, 136, 137, 138, 139] (by rfl) (by decide +kernel)
set_option maxRecDepth 20000 in
theorem gX6_needs_X0_leaves : GoodIn wsX6_needs (wsV RX6 128 RX0 yX0_leaves wsX0_leaves) := goodIn_app (goodIn_of _ (by decide +kernel)) ggX6_needs_X0_leaves
set_option maxRecDepth 20000 in
theorem ggX6_needs_X6_mostEverHeld : GoodIn wsX6_needs wsX6_mostEverHeld := goodIn_r _ [23, 24, 1, 25, 26, 27, 28, 9, 29, 11, 30, 31, 32, 33, 34, 16, 17, 35, 18, 36, 37, 38, 39, 40, 41, 42, 43, 44, 45, 46, 47, 48, 49, 50, 51, 52, 53, 54, 55, 56, 57, 58, 59, 60, 61, 62, 63, 64, 65, 66, 67, 13, 14, 15, 68, 69, 70, 71, 72, 73, 74, 75, 76, 77, 78, 79, 80, 81, 82, 83, 84, 85, 86, 87, 88, 89, 90, 91, 92, 93, 94, 95, 96, 97, 98, 99, 100, 101, 102, 103, 104, 105, 106, 107, 108, 109, 110, 111, 4, 112, 113, 114, 115, 116, 117, 118, 119, 120, 121, 122, 123, 124, 140, 141, 142, 143, 144, 145, 146, 147, 148, 149, 125, 126, 127, 128, 129, 130, 131, 132, 133, 134, 135, 136, 137, 138, 139] (by rfl) (by decide +kernel)
set_option maxRecDepth 20000 in
theorem gX6_needs_X6_mostEverHeld : GoodIn wsX6_needs (wsV RX6 194 RX6 yX6_mostEverHeld wsX6_mostEverHeld) := goodIn_app (goodIn_of _ (by decide +kernel)) ggX6_needs_X6_mostEverHeld
set_option maxRecDepth 20000 in
theorem ggX6_mend_X0_copyFrom : GoodIn wsX6_mend wsX0_copyFrom := goodIn_r _ [8, 9, 10, 11, 12, 13, 14, 15, 16, 17, 18, 19, 20, 21, 22, 23, 24, 25, 7, 26, 123, 124, 125, 126, 127, 128, 129, 130, 131, 132, 133, 134, 135, 136, 137] (by rfl) (by decide +kernel)
set_option maxRecDepth 20000 in
theorem gX6_mend_X0_copyFrom : GoodIn wsX6_mend (wsV RX6 103 RX0 yX0_copyFrom wsX0_copyFrom) := goodIn_app (goodIn_of _ (by decide +kernel)) ggX6_mend_X0_copyFrom
set_option maxRecDepth 20000 in
theorem ggX6_mend_X0_voidBequest : GoodIn wsX6_mend wsX0_voidBequest := goodIn_r _ [30, 18, 31, 32, 33, 7, 34, 15, 123, 124, 125, 126, 127, 128, 129, 130, 131, 132, 133, 134, 135, 136, 137] (by rfl) (by decide +kernel)
set_option maxRecDepth 20000 in
theorem gX6_mend_X0_voidBequest : GoodIn wsX6_mend (wsV RX6 209 RX0 yX0_voidBequest wsX0_voidBequest) := goodIn_app (goodIn_of _ (by decide +kernel)) ggX6_mend_X0_voidBequest
set_option maxRecDepth 20000 in
theorem ggX6_mend_X5_run : GoodIn wsX6_mend wsX5_run := goodIn_r _ [39, 40, 41, 42, 43, 44, 45, 38, 46, 47, 48, 49, 50, 51, 52, 53, 54, 55, 56, 7, 57, 15, 16, 18, 58, 59, 60, 61, 62, 63, 64, 65, 66, 67, 68, 69, 70, 71, 72, 73, 74, 75, 76, 77, 78, 79, 80, 81, 82, 83, 84, 85, 86, 87, 88, 89, 90, 91, 92, 93, 94, 95, 96, 97, 98, 99, 100, 101, 102, 103, 138, 139, 140, 141, 142, 143, 144, 145, 146, 147, 123, 124, 125, 126, 127, 128, 129, 130, 131, 132, 133, 134, 135, 136, 137] (by rfl) (by decide +kernel)
set_option maxRecDepth 20000 in
theorem gX6_mend_X5_run : GoodIn wsX6_mend (wsV RX6 213 RX5 yX5_run wsX5_run) := goodIn_app (goodIn_of _ (by decide +kernel)) ggX6_mend_X5_run
set_option maxRecDepth 20000 in
theorem ggX6_mend_J6_bitCount_0f7a4 : GoodIn wsX6_mend wsJ6_bitCount_0f7a4 := goodIn_r _ [107, 108, 109, 110] (by rfl) (by decide +kernel)
set_option maxRecDepth 20000 in
theorem gX6_mend_J6_bitCount_0f7a4 : GoodIn wsX6_mend (va_wsS RX6 216 yJ6_bitCount_0f7a4 wsJ6_bitCount_0f7a4) := goodIn_app (goodIn_of _ (by decide +kernel)) ggX6_mend_J6_bitCount_0f7a4
set_option maxRecDepth 20000 in
theorem ggX6_limits_X6_isWithin : GoodIn wsX6_limits wsX6_isWithin := goodIn_r _ [7] (by rfl) (by decide +kernel)
set_option maxRecDepth 20000 in
theorem gX6_limits_X6_isWithin : GoodIn wsX6_limits (va_wsS RX6 144 yX6_isWithin wsX6_isWithin) := goodIn_app (goodIn_of _ (by decide +kernel)) ggX6_limits_X6_isWithin
set_option maxRecDepth 20000 in
theorem ggX6_limits_X0_copyFrom : GoodIn wsX6_limits wsX0_copyFrom := goodIn_r _ [12, 13, 14, 15, 16, 17, 18, 19, 20, 21, 22, 23, 24, 25, 26, 27, 28, 29, 11, 30, 119, 120, 121, 122, 123, 124, 125, 126, 127, 128, 129, 130, 131, 132, 133] (by rfl) (by decide +kernel)
set_option maxRecDepth 20000 in
theorem gX6_limits_X0_copyFrom : GoodIn wsX6_limits (wsV RX6 103 RX0 yX0_copyFrom wsX0_copyFrom) := goodIn_app (goodIn_of _ (by decide +kernel)) ggX6_limits_X0_copyFrom
set_option maxRecDepth 20000 in
theorem ggX6_limits_X5_run : GoodIn wsX6_limits wsX5_run := goodIn_r _ [35, 36, 37, 38, 39, 40, 41, 34, 42, 43, 44, 45, 46, 47, 48, 49, 50, 51, 52, 11, 53, 19, 20, 22, 54, 55, 56, 57, 58, 59, 60, 61, 62, 63, 64, 65, 66, 67, 68, 69, 70, 71, 72, 73, 74, 75, 76, 77, 78, 79, 80, 81, 82, 83, 84, 85, 86, 87, 88, 89, 90, 91, 92, 93, 94, 95, 96, 97, 98, 99, 134, 135, 136, 137, 138, 139, 140, 141, 142, 143, 119, 120, 121, 122, 123, 124, 125, 126, 127, 128, 129, 130, 131, 132, 133] (by rfl) (by decide +kernel)
set_option maxRecDepth 20000 in
theorem gX6_limits_X5_run : GoodIn wsX6_limits (wsV RX6 213 RX5 yX5_run wsX5_run) := goodIn_app (goodIn_of _ (by decide +kernel)) ggX6_limits_X5_run
set_option maxRecDepth 20000 in
theorem ggX6_limits_J6_bitCount_0f7a4 : GoodIn wsX6_limits wsJ6_bitCount_0f7a4 := goodIn_r _ [103, 104, 105, 106] (by rfl) (by decide +kernel)
set_option maxRecDepth 20000 in
theorem gX6_limits_J6_bitCount_0f7a4 : GoodIn wsX6_limits (va_wsS RX6 216 yJ6_bitCount_0f7a4 wsJ6_bitCount_0f7a4) := goodIn_app (goodIn_of _ (by decide +kernel)) ggX6_limits_J6_bitCount_0f7a4
set_option maxRecDepth 20000 in
theorem ggX6_ring_X0_hasPerson : GoodIn wsX6_ring wsX0_hasPerson := goodIn_r _ [6, 7, 32, 33, 34, 35, 36, 37, 38, 39, 40, 41, 42, 43, 44, 45, 46] (by rfl) (by decide +kernel)
set_option maxRecDepth 20000 in
theorem gX6_ring_X0_hasPerson : GoodIn wsX6_ring (wsV RX6 108 RX0 yX0_hasPerson wsX0_hasPerson) := goodIn_app (goodIn_of _ (by decide +kernel)) ggX6_ring_X0_hasPerson
set_option maxRecDepth 20000 in
theorem ggX6_ring_X6_fewestBack : GoodIn wsX6_ring wsX6_fewestBack := goodIn_r _ [12, 1, 13, 14, 15, 5, 16, 17, 18, 19, 20, 21, 22, 23, 24, 25, 26, 27, 28, 29, 30, 31, 32, 33, 34, 35, 36, 37, 38, 39, 40, 41, 42, 43, 44, 45, 46] (by rfl) (by decide +kernel)
set_option maxRecDepth 20000 in
theorem gX6_ring_X6_fewestBack : GoodIn wsX6_ring (wsV RX6 221 RX6 yX6_fewestBack wsX6_fewestBack) := goodIn_app (goodIn_of _ (by decide +kernel)) ggX6_ring_X6_fewestBack
set_option maxRecDepth 20000 in
theorem ggX6_owes_X0_hasPerson : GoodIn wsX6_owes wsX0_hasPerson := goodIn_r _ [6, 7, 32, 33, 34, 35, 36, 37, 38, 39, 40, 41, 42, 43, 44, 45, 46] (by rfl) (by decide +kernel)
set_option maxRecDepth 20000 in
theorem gX6_owes_X0_hasPerson : GoodIn wsX6_owes (wsV RX6 108 RX0 yX0_hasPerson wsX0_hasPerson) := goodIn_app (goodIn_of _ (by decide +kernel)) ggX6_owes_X0_hasPerson
set_option maxRecDepth 20000 in
theorem ggX6_owes_X0_leaves : GoodIn wsX6_owes wsX0_leaves := goodIn_r _ [11, 12, 13, 14, 32, 33, 34, 35, 36, 37, 38, 39, 40, 41, 42, 43, 44, 45, 46] (by rfl) (by decide +kernel)
set_option maxRecDepth 20000 in
theorem gX6_owes_X0_leaves : GoodIn wsX6_owes (wsV RX6 128 RX0 yX0_leaves wsX0_leaves) := goodIn_app (goodIn_of _ (by decide +kernel)) ggX6_owes_X0_leaves
set_option maxRecDepth 20000 in
theorem ggX6_owes_X0_isLeft : GoodIn wsX6_owes wsX0_isLeft := goodIn_r _ [18, 12, 19, 14, 32, 33, 34, 35, 36, 37, 38, 39, 40, 41, 42, 43, 44, 45, 46] (by rfl) (by decide +kernel)
set_option maxRecDepth 20000 in
theorem gX6_owes_X0_isLeft : GoodIn wsX6_owes (wsV RX6 224 RX0 yX0_isLeft wsX0_isLeft) := goodIn_app (goodIn_of _ (by decide +kernel)) ggX6_owes_X0_isLeft
set_option maxRecDepth 20000 in
theorem ggX6_seen_X0_hasPerson : GoodIn wsX6_seen wsX0_hasPerson := goodIn_r _ [7, 8, 38, 39, 40, 41, 42, 43, 44, 45, 46, 47, 48, 49, 50, 51, 52] (by rfl) (by decide +kernel)
set_option maxRecDepth 20000 in
theorem gX6_seen_X0_hasPerson : GoodIn wsX6_seen (wsV RX6 108 RX0 yX0_hasPerson wsX0_hasPerson) := goodIn_app (goodIn_of _ (by decide +kernel)) ggX6_seen_X0_hasPerson
set_option maxRecDepth 20000 in
theorem ggX6_seen_X6_isWithin : GoodIn wsX6_seen wsX6_isWithin := goodIn_r _ [12] (by rfl) (by decide +kernel)
set_option maxRecDepth 20000 in
theorem gX6_seen_X6_isWithin : GoodIn wsX6_seen (va_wsS RX6 144 yX6_isWithin wsX6_isWithin) := goodIn_app (goodIn_of _ (by decide +kernel)) ggX6_seen_X6_isWithin
set_option maxRecDepth 20000 in
theorem ggX6_seen_X4_add : GoodIn wsX6_seen wsX4_add := goodIn_r _ [17, 18, 19, 20, 21, 34, 35, 36, 37] (by rfl) (by decide +kernel)
set_option maxRecDepth 20000 in
theorem gX6_seen_X4_add : GoodIn wsX6_seen (wsV RX6 227 RX4 yX4_add wsX4_add) := goodIn_app (goodIn_of _ (by decide +kernel)) ggX6_seen_X4_add
set_option maxRecDepth 20000 in
theorem ggX6_forget_X4_clear : GoodIn wsX6_forget wsX4_clear := goodIn_r _ [6, 7, 20, 21, 22, 23] (by rfl) (by decide +kernel)
set_option maxRecDepth 20000 in
theorem gX6_forget_X4_clear : GoodIn wsX6_forget (wsV RX6 107 RX4 yX4_clear wsX4_clear) := goodIn_app (goodIn_of _ (by decide +kernel)) ggX6_forget_X4_clear
set_option maxRecDepth 20000 in
theorem ggX6_kinds_X0_hasPerson : GoodIn wsX6_kinds wsX0_hasPerson := goodIn_r _ [9, 10, 122, 123, 124, 125, 126, 127, 128, 129, 130, 131, 132, 133, 134, 135, 136] (by rfl) (by decide +kernel)
set_option maxRecDepth 20000 in
theorem gX6_kinds_X0_hasPerson : GoodIn wsX6_kinds (wsV RX6 108 RX0 yX0_hasPerson wsX0_hasPerson) := goodIn_app (goodIn_of _ (by decide +kernel)) ggX6_kinds_X0_hasPerson
set_option maxRecDepth 20000 in
theorem ggX6_kinds_X0_copyFrom : GoodIn wsX6_kinds wsX0_copyFrom := goodIn_r _ [14, 10, 15, 16, 17, 18, 19, 20, 21, 22, 23, 24, 25, 26, 27, 28, 29, 30, 8, 31, 122, 123, 124, 125, 126, 127, 128, 129, 130, 131, 132, 133, 134, 135, 136] (by rfl) (by decide +kernel)
set_option maxRecDepth 20000 in
theorem gX6_kinds_X0_copyFrom : GoodIn wsX6_kinds (wsV RX6 103 RX0 yX0_copyFrom wsX0_copyFrom) := goodIn_app (goodIn_of _ (by decide +kernel)) ggX6_kinds_X0_copyFrom
set_option maxRecDepth 20000 in
theorem ggX6_kinds_X5_run : GoodIn wsX6_kinds wsX5_run := goodIn_r _ [36, 37, 38, 39, 40, 41, 42, 35, 43, 44, 45, 46, 47, 48, 49, 50, 51, 52, 53, 8, 54, 20, 21, 23, 55, 56, 57, 58, 59, 60, 61, 62, 63, 64, 65, 66, 67, 68, 69, 70, 71, 72, 73, 74, 75, 76, 77, 78, 79, 80, 81, 82, 83, 84, 85, 86, 87, 88, 89, 90, 91, 92, 93, 94, 95, 96, 97, 98, 99, 100, 137, 138, 139, 140, 141, 142, 143, 144, 145, 146, 122, 123, 124, 125, 126, 127, 128, 129, 130, 131, 132, 133, 134, 135, 136] (by rfl) (by decide +kernel)
set_option maxRecDepth 20000 in
theorem gX6_kinds_X5_run : GoodIn wsX6_kinds (wsV RX6 213 RX5 yX5_run wsX5_run) := goodIn_app (goodIn_of _ (by decide +kernel)) ggX6_kinds_X5_run
set_option maxRecDepth 20000 in
theorem ggX6_kinds_X4_fit : GoodIn wsX6_kinds wsX4_fit := goodIn_r _ [105, 106, 107, 108, 109, 147, 148, 149, 150, 137, 138, 139, 140, 141, 142, 143, 144, 145, 146] (by rfl) (by decide +kernel)
set_option maxRecDepth 20000 in
theorem gX6_kinds_X4_fit : GoodIn wsX6_kinds (wsV RX6 232 RX4 yX4_fit wsX4_fit) := goodIn_app (goodIn_of _ (by decide +kernel)) ggX6_kinds_X4_fit
set_option maxRecDepth 20000 in
theorem ggX6_odds_X0_hasPerson : GoodIn wsX6_odds wsX0_hasPerson := goodIn_r _ [6, 7, 27, 28, 29, 30, 31, 32, 33, 34, 35, 36, 37, 38, 39, 40, 41] (by rfl) (by decide +kernel)
set_option maxRecDepth 20000 in
theorem gX6_odds_X0_hasPerson : GoodIn wsX6_odds (wsV RX6 108 RX0 yX0_hasPerson wsX0_hasPerson) := goodIn_app (goodIn_of _ (by decide +kernel)) ggX6_odds_X0_hasPerson
set_option maxRecDepth 20000 in
theorem ggX6_odds_X6_isWithin : GoodIn wsX6_odds wsX6_isWithin := goodIn_r _ [11] (by rfl) (by decide +kernel)
set_option maxRecDepth 20000 in
theorem gX6_odds_X6_isWithin : GoodIn wsX6_odds (va_wsS RX6 144 yX6_isWithin wsX6_isWithin) := goodIn_app (goodIn_of _ (by decide +kernel)) ggX6_odds_X6_isWithin
set_option maxRecDepth 20000 in
theorem ggX6_odds_X6_waysToGain : GoodIn wsX6_odds wsX6_waysToGain := goodIn_r _ [14] (by rfl) (by decide +kernel)
set_option maxRecDepth 20000 in
theorem gX6_odds_X6_waysToGain : GoodIn wsX6_odds (va_wsS RX6 236 yX6_waysToGain wsX6_waysToGain) := goodIn_app (goodIn_of _ (by decide +kernel)) ggX6_odds_X6_waysToGain
set_option maxRecDepth 20000 in
theorem ggX6_generations_X6_isWithin : GoodIn wsX6_generations wsX6_isWithin := goodIn_r _ [7] (by rfl) (by decide +kernel)
set_option maxRecDepth 20000 in
theorem gX6_generations_X6_isWithin : GoodIn wsX6_generations (va_wsS RX6 144 yX6_isWithin wsX6_isWithin) := goodIn_app (goodIn_of _ (by decide +kernel)) ggX6_generations_X6_isWithin
set_option maxRecDepth 20000 in
theorem ggX6_generations_X0_copyFrom : GoodIn wsX6_generations wsX0_copyFrom := goodIn_r _ [12, 13, 14, 15, 16, 17, 18, 19, 20, 21, 22, 23, 24, 25, 26, 27, 28, 29, 11, 30, 130, 131, 132, 133, 134, 135, 136, 137, 138, 139, 140, 141, 142, 143, 144] (by rfl) (by decide +kernel)
set_option maxRecDepth 20000 in
theorem gX6_generations_X0_copyFrom : GoodIn wsX6_generations (wsV RX6 103 RX0 yX0_copyFrom wsX0_copyFrom) := goodIn_app (goodIn_of _ (by decide +kernel)) ggX6_generations_X0_copyFrom
set_option maxRecDepth 20000 in
theorem ggX6_generations_X5_run : GoodIn wsX6_generations wsX5_run := goodIn_r _ [35, 36, 37, 38, 39, 40, 41, 34, 42, 43, 44, 45, 46, 47, 48, 49, 50, 51, 52, 11, 53, 19, 20, 22, 54, 55, 56, 57, 58, 59, 60, 61, 62, 63, 64, 65, 66, 67, 68, 69, 70, 71, 72, 73, 74, 75, 76, 77, 78, 79, 80, 81, 82, 83, 84, 85, 86, 87, 88, 89, 90, 91, 92, 93, 94, 95, 96, 97, 98, 99, 145, 146, 147, 148, 149, 150, 151, 152, 153, 154, 130, 131, 132, 133, 134, 135, 136, 137, 138, 139, 140, 141, 142, 143, 144] (by rfl) (by decide +kernel)
set_option maxRecDepth 20000 in
theorem gX6_generations_X5_run : GoodIn wsX6_generations (wsV RX6 213 RX5 yX5_run wsX5_run) := goodIn_app (goodIn_of _ (by decide +kernel)) ggX6_generations_X5_run
set_option maxRecDepth 20000 in
theorem ggX6_generations_J6_bitCount_0f7a4 : GoodIn wsX6_generations wsJ6_bitCount_0f7a4 := goodIn_r _ [103, 104, 105, 106] (by rfl) (by decide +kernel)
set_option maxRecDepth 20000 in
theorem gX6_generations_J6_bitCount_0f7a4 : GoodIn wsX6_generations (va_wsS RX6 216 yJ6_bitCount_0f7a4 wsJ6_bitCount_0f7a4) := goodIn_app (goodIn_of _ (by decide +kernel)) ggX6_generations_J6_bitCount_0f7a4
set_option maxRecDepth 20000 in
theorem ggX6_generations_X5_lastHaving : GoodIn wsX6_generations wsX5_lastHaving := goodIn_r _ [110, 36, 47, 111, 112, 98, 113, 114, 115, 116, 34, 117, 43, 145, 146, 147, 148, 149, 150, 151, 152, 153, 154, 130, 131, 132, 133, 134, 135, 136, 137, 138, 139, 140, 141, 142, 143, 144] (by rfl) (by decide +kernel)
set_option maxRecDepth 20000 in
theorem gX6_generations_X5_lastHaving : GoodIn wsX6_generations (wsV RX6 243 RX5 yX5_lastHaving wsX5_lastHaving) := goodIn_app (goodIn_of _ (by decide +kernel)) ggX6_generations_X5_lastHaving
set_option maxRecDepth 20000 in
theorem ggX6_keep_X6_keptPlace : GoodIn wsX6_keep wsX6_keptPlace := goodIn_r _ [7, 8, 9, 33, 34, 35, 36, 37, 38, 39, 40, 41, 42, 43, 44] (by rfl) (by decide +kernel)
set_option maxRecDepth 20000 in
theorem gX6_keep_X6_keptPlace : GoodIn wsX6_keep (wsV RX6 246 RX6 yX6_keptPlace wsX6_keptPlace) := goodIn_app (goodIn_of _ (by decide +kernel)) ggX6_keep_X6_keptPlace
set_option maxRecDepth 20000 in
theorem ggX6_keep_X0_copyFrom : GoodIn wsX6_keep wsX0_copyFrom := goodIn_r _ [14, 15, 16, 17, 18, 19, 20, 21, 22, 23, 24, 25, 26, 27, 28, 29, 30, 31, 13, 32, 45, 46, 47, 48, 49, 50, 51, 52, 53, 54, 55, 56, 57, 58, 59] (by rfl) (by decide +kernel)
set_option maxRecDepth 20000 in
theorem gX6_keep_X0_copyFrom : GoodIn wsX6_keep (wsV RX6 103 RX0 yX0_copyFrom wsX0_copyFrom) := goodIn_app (goodIn_of _ (by decide +kernel)) ggX6_keep_X0_copyFrom
set_option maxRecDepth 20000 in
theorem ggX6_back_X6_keptPlace : GoodIn wsX6_back wsX6_keptPlace := goodIn_r _ [9, 10, 11, 41, 42, 43, 44, 45, 46, 47, 48, 49, 50, 51, 52] (by rfl) (by decide +kernel)
set_option maxRecDepth 20000 in
theorem gX6_back_X6_keptPlace : GoodIn wsX6_back (wsV RX6 246 RX6 yX6_keptPlace wsX6_keptPlace) := goodIn_app (goodIn_of _ (by decide +kernel)) ggX6_back_X6_keptPlace
set_option maxRecDepth 20000 in
theorem ggX6_back_X0_copyFrom : GoodIn wsX6_back wsX0_copyFrom := goodIn_r _ [16, 17, 18, 19, 20, 21, 22, 23, 24, 25, 26, 27, 28, 29, 30, 31, 32, 33, 15, 34, 53, 54, 55, 56, 57, 58, 59, 60, 61, 62, 63, 64, 65, 66, 67] (by rfl) (by decide +kernel)
set_option maxRecDepth 20000 in
theorem gX6_back_X0_copyFrom : GoodIn wsX6_back (wsV RX6 103 RX0 yX0_copyFrom wsX0_copyFrom) := goodIn_app (goodIn_of _ (by decide +kernel)) ggX6_back_X0_copyFrom
set_option maxRecDepth 20000 in
theorem ggX6_back_X1_clear : GoodIn wsX6_back wsX1_clear := goodIn_r _ [39, 40, 68, 69, 70, 71] (by rfl) (by decide +kernel)
set_option maxRecDepth 20000 in
theorem gX6_back_X1_clear : GoodIn wsX6_back (wsV RX6 106 RX1 yX1_clear wsX1_clear) := goodIn_app (goodIn_of _ (by decide +kernel)) ggX6_back_X1_clear
set_option maxRecDepth 20000 in
theorem ggX6_lived_X5_run : GoodIn wsX6_lived wsX5_run := goodIn_r _ [7, 8, 9, 10, 11, 12, 13, 6, 14, 15, 16, 17, 18, 19, 20, 21, 22, 23, 24, 25, 26, 27, 28, 29, 30, 31, 32, 33, 34, 35, 36, 37, 38, 39, 40, 41, 42, 43, 44, 45, 46, 47, 48, 49, 50, 51, 52, 53, 54, 55, 56, 57, 58, 59, 60, 61, 62, 63, 64, 65, 66, 67, 68, 69, 70, 71, 72, 73, 74, 75, 88, 89, 90, 91, 92, 93, 94, 95, 96, 97, 98, 99, 100, 101, 102, 103, 104, 105, 106, 107, 108, 109, 110, 111, 112] (by rfl) (by decide +kernel)
set_option maxRecDepth 20000 in
theorem gX6_lived_X5_run : GoodIn wsX6_lived (wsV RX6 213 RX5 yX5_run wsX5_run) := goodIn_app (goodIn_of _ (by decide +kernel)) ggX6_lived_X5_run
set_option maxRecDepth 20000 in
theorem ggX6_mostEverHeld_X0_copyFrom : GoodIn wsX6_mostEverHeld wsX0_copyFrom := goodIn_r _ [8, 9, 10, 11, 12, 13, 14, 15, 16, 17, 18, 19, 20, 21, 22, 23, 24, 25, 7, 26, 122, 123, 124, 125, 126, 127, 128, 129, 130, 131, 132, 133, 134, 135, 136] (by rfl) (by decide +kernel)
set_option maxRecDepth 20000 in
theorem gX6_mostEverHeld_X0_copyFrom : GoodIn wsX6_mostEverHeld (wsV RX6 103 RX0 yX0_copyFrom wsX0_copyFrom) := goodIn_app (goodIn_of _ (by decide +kernel)) ggX6_mostEverHeld_X0_copyFrom
set_option maxRecDepth 20000 in
theorem ggX6_mostEverHeld_X0_voidBequestsOf : GoodIn wsX6_mostEverHeld wsX0_voidBequestsOf := goodIn_r _ [30, 15, 16, 18, 122, 123, 124, 125, 126, 127, 128, 129, 130, 131, 132, 133, 134, 135, 136] (by rfl) (by decide +kernel)
set_option maxRecDepth 20000 in
theorem gX6_mostEverHeld_X0_voidBequestsOf : GoodIn wsX6_mostEverHeld (wsV RX6 250 RX0 yX0_voidBequestsOf wsX0_voidBequestsOf) := goodIn_app (goodIn_of _ (by decide +kernel)) ggX6_mostEverHeld_X0_voidBequestsOf
set_option maxRecDepth 20000 in
theorem ggX6_mostEverHeld_X5_run : GoodIn wsX6_mostEverHeld wsX5_run := goodIn_r _ [35, 36, 37, 38, 39, 40, 41, 34, 42, 43, 44, 45, 46, 47, 48, 49, 50, 51, 52, 7, 53, 15, 16, 18, 54, 55, 56, 57, 58, 59, 60, 61, 62, 63, 64, 65, 66, 67, 68, 69, 70, 71, 72, 73, 74, 75, 76, 77, 78, 79, 80, 81, 82, 83, 84, 85, 86, 87, 88, 89, 90, 91, 92, 93, 94, 95, 96, 97, 98, 99, 112, 113, 114, 115, 116, 117, 118, 119, 120, 121, 122, 123, 124, 125, 126, 127, 128, 129, 130, 131, 132, 133, 134, 135, 136] (by rfl) (by decide +kernel)
set_option maxRecDepth 20000 in
theorem gX6_mostEverHeld_X5_run : GoodIn wsX6_mostEverHeld (wsV RX6 213 RX5 yX5_run wsX5_run) := goodIn_app (goodIn_of _ (by decide +kernel)) ggX6_mostEverHeld_X5_run
set_option maxRecDepth 20000 in
theorem ggX6_fewestBack_X0_heirsOf : GoodIn wsX6_fewestBack wsX0_heirsOf := goodIn_r _ [6, 7, 8, 9, 22, 23, 24, 25, 26, 27, 28, 29, 30, 31, 32, 33, 34, 35, 36] (by rfl) (by decide +kernel)
set_option maxRecDepth 20000 in
theorem gX6_fewestBack_X0_heirsOf : GoodIn wsX6_fewestBack (wsV RX6 256 RX0 yX0_heirsOf wsX0_heirsOf) := goodIn_app (goodIn_of _ (by decide +kernel)) ggX6_fewestBack_X0_heirsOf
set_option maxRecDepth 20000 in
theorem ggX7_init_X7_layOne : GoodIn wsX7_init wsX7_layOne := goodIn_r _ [28, 10, 33, 34, 35, 36, 37, 38, 39, 40, 41, 42, 43, 44, 45, 46, 47, 48, 49, 50, 51, 52, 53, 54, 55, 56, 57, 58, 59, 60, 61, 62, 63] (by rfl) (by decide +kernel)
set_option maxRecDepth 20000 in
theorem gX7_init_X7_layOne : GoodIn wsX7_init (wsV RX7 68 RX7 yX7_layOne wsX7_layOne) := goodIn_app (goodIn_of _ (by decide +kernel)) ggX7_init_X7_layOne
set_option maxRecDepth 20000 in
theorem ggX7_init_X7_layWill : GoodIn wsX7_init wsX7_layWill := goodIn_r _ [32, 13, 33, 34, 35, 36, 37, 38, 39, 40, 41, 42, 43, 44, 45, 46, 47, 48, 49, 50, 51, 52, 53, 54, 55, 56, 57, 58, 59, 60, 61, 62, 63] (by rfl) (by decide +kernel)
set_option maxRecDepth 20000 in
theorem gX7_init_X7_layWill : GoodIn wsX7_init (wsV RX7 72 RX7 yX7_layWill wsX7_layWill) := goodIn_app (goodIn_of _ (by decide +kernel)) ggX7_init_X7_layWill
set_option maxRecDepth 20000 in
theorem ggX7_isOne_X7_in : GoodIn wsX7_isOne wsX7_in := goodIn_r _ [5] (by rfl) (by decide +kernel)
set_option maxRecDepth 20000 in
theorem gX7_isOne_X7_in : GoodIn wsX7_isOne (va_wsS RX7 76 yX7_in wsX7_in) := goodIn_app (goodIn_of _ (by decide +kernel)) ggX7_isOne_X7_in
set_option maxRecDepth 20000 in
theorem ggX7_isWill_X7_in : GoodIn wsX7_isWill wsX7_in := goodIn_r _ [5] (by rfl) (by decide +kernel)
set_option maxRecDepth 20000 in
theorem gX7_isWill_X7_in : GoodIn wsX7_isWill (va_wsS RX7 76 yX7_in wsX7_in) := goodIn_app (goodIn_of _ (by decide +kernel)) ggX7_isWill_X7_in
set_option maxRecDepth 20000 in
theorem ggX7_write_X7_in : GoodIn wsX7_write wsX7_in := goodIn_r _ [6] (by rfl) (by decide +kernel)
set_option maxRecDepth 20000 in
theorem gX7_write_X7_in : GoodIn wsX7_write (va_wsS RX7 76 yX7_in wsX7_in) := goodIn_app (goodIn_of _ (by decide +kernel)) ggX7_write_X7_in
set_option maxRecDepth 20000 in
theorem ggX7_isRow_X7_letterAt : GoodIn wsX7_isRow wsX7_letterAt := goodIn_r _ [7, 8, 9, 13, 14, 15, 16, 17, 18, 19, 20, 21, 22, 23, 24, 25, 26, 27, 28, 29, 30, 31, 32, 33, 34, 35, 36, 37, 38, 39, 40, 41, 42, 43] (by rfl) (by decide +kernel)
set_option maxRecDepth 20000 in
theorem gX7_isRow_X7_letterAt : GoodIn wsX7_isRow (wsV RX7 86 RX7 yX7_letterAt wsX7_letterAt) := goodIn_app (goodIn_of _ (by decide +kernel)) ggX7_isRow_X7_letterAt
set_option maxRecDepth 20000 in
theorem ggX7_isRow_X7_in : GoodIn wsX7_isRow wsX7_in := goodIn_r _ [12] (by rfl) (by decide +kernel)
set_option maxRecDepth 20000 in
theorem gX7_isRow_X7_in : GoodIn wsX7_isRow (va_wsS RX7 76 yX7_in wsX7_in) := goodIn_app (goodIn_of _ (by decide +kernel)) ggX7_isRow_X7_in
set_option maxRecDepth 20000 in
theorem ggX7_isItem_X7_letterAt : GoodIn wsX7_isItem wsX7_letterAt := goodIn_r _ [12, 13, 14, 22, 23, 24, 25, 26, 27, 28, 29, 30, 31, 32, 33, 34, 35, 36, 37, 38, 39, 40, 41, 42, 43, 44, 45, 46, 47, 48, 49, 50, 51, 52] (by rfl) (by decide +kernel)
set_option maxRecDepth 20000 in
theorem gX7_isItem_X7_letterAt : GoodIn wsX7_isItem (wsV RX7 86 RX7 yX7_letterAt wsX7_letterAt) := goodIn_app (goodIn_of _ (by decide +kernel)) ggX7_isItem_X7_letterAt
set_option maxRecDepth 20000 in
theorem ggX7_isItem_X7_isRow : GoodIn wsX7_isItem wsX7_isRow := goodIn_r _ [18, 1, 3, 8, 9, 10, 11, 12, 13, 14, 19, 20, 21, 22, 23, 24, 25, 26, 27, 28, 29, 30, 31, 32, 33, 34, 35, 36, 37, 38, 39, 40, 41, 42, 43, 44, 45, 46, 47, 48, 49, 50, 51, 52] (by rfl) (by decide +kernel)
set_option maxRecDepth 20000 in
theorem gX7_isItem_X7_isRow : GoodIn wsX7_isItem (wsV RX7 93 RX7 yX7_isRow wsX7_isRow) := goodIn_app (goodIn_of _ (by decide +kernel)) ggX7_isItem_X7_isRow
set_option maxRecDepth 20000 in
theorem ggX7_isRead_X7_isItem : GoodIn wsX7_isRead wsX7_isItem := goodIn_r _ [11, 1, 2, 12, 13, 3, 14, 4, 15, 16, 17, 10, 18, 5, 19, 20, 21, 22, 23, 24, 25, 26, 27, 28, 29, 30, 31, 32, 33, 34, 35, 36, 37, 38, 39, 40, 41, 42, 43, 44, 45, 46, 47, 48, 49, 50, 51, 52, 53, 54, 55, 56, 57] (by rfl) (by decide +kernel)
set_option maxRecDepth 20000 in
theorem gX7_isRead_X7_isItem : GoodIn wsX7_isRead (wsV RX7 106 RX7 yX7_isItem wsX7_isItem) := goodIn_app (goodIn_of _ (by decide +kernel)) ggX7_isRead_X7_isItem
set_option maxRecDepth 20000 in
theorem ggX7_fault_X7_isRead : GoodIn wsX7_fault wsX7_isRead := goodIn_r _ [6, 7, 8, 9, 10, 11, 1, 12, 13, 14, 5, 15, 16, 17, 18, 19, 20, 21, 22, 23, 24, 25, 26, 27, 28, 29, 30, 31, 32, 33, 34, 35, 36, 37, 38, 39, 40, 41, 42, 43, 44, 45, 46, 47, 48, 49, 50, 51, 52, 53, 54, 55, 56, 57, 58, 59, 60, 61] (by rfl) (by decide +kernel)
set_option maxRecDepth 20000 in
theorem gX7_fault_X7_isRead : GoodIn wsX7_fault (wsV RX7 110 RX7 yX7_isRead wsX7_isRead) := goodIn_app (goodIn_of _ (by decide +kernel)) ggX7_fault_X7_isRead
set_option maxRecDepth 20000 in
theorem ggX7_lay_X7_isRead : GoodIn wsX7_lay wsX7_isRead := goodIn_r _ [18, 19, 1, 3, 5, 20, 21, 22, 23, 24, 17, 25, 26, 8, 10, 27, 28, 29, 30, 31, 32, 33, 34, 35, 36, 37, 38, 39, 40, 41, 42, 43, 44, 45, 46, 47, 48, 49, 50, 51, 52, 53, 54, 55, 56, 57, 58, 59, 60, 61, 62, 63, 64, 65, 66, 67, 68, 69] (by rfl) (by decide +kernel)
set_option maxRecDepth 20000 in
theorem gX7_lay_X7_isRead : GoodIn wsX7_lay (wsV RX7 110 RX7 yX7_isRead wsX7_isRead) := goodIn_app (goodIn_of _ (by decide +kernel)) ggX7_lay_X7_isRead
set_option maxRecDepth 20000 in
theorem ggX7_person_X7_isOne : GoodIn wsX7_person wsX7_isOne := goodIn_r _ [6, 7, 8, 9, 5, 10, 17, 18, 19, 20, 21, 22, 23, 24, 25, 26, 27, 28, 29, 30, 31, 32, 33, 34, 35, 36, 37, 38, 39, 40, 41, 42, 43, 44, 45, 46, 47] (by rfl) (by decide +kernel)
set_option maxRecDepth 20000 in
theorem gX7_person_X7_isOne : GoodIn wsX7_person (wsV RX7 122 RX7 yX7_isOne wsX7_isOne) := goodIn_app (goodIn_of _ (by decide +kernel)) ggX7_person_X7_isOne
set_option maxRecDepth 20000 in
theorem ggX7_person_X7_in : GoodIn wsX7_person wsX7_in := goodIn_r _ [10] (by rfl) (by decide +kernel)
set_option maxRecDepth 20000 in
theorem gX7_person_X7_in : GoodIn wsX7_person (va_wsS RX7 76 yX7_in wsX7_in) := goodIn_app (goodIn_of _ (by decide +kernel)) ggX7_person_X7_in
set_option maxRecDepth 20000 in
theorem ggX7_person_X7_leavesOf : GoodIn wsX7_person wsX7_leavesOf := goodIn_r _ [14, 15, 16, 17, 18, 19, 20, 21, 22, 23, 24, 25, 26, 27, 28, 29, 30, 31, 32, 33, 34, 35, 36, 37, 38, 39, 40, 41, 42, 43, 44, 45, 46, 47] (by rfl) (by decide +kernel)
set_option maxRecDepth 20000 in
theorem gX7_person_X7_leavesOf : GoodIn wsX7_person (wsV RX7 125 RX7 yX7_leavesOf wsX7_leavesOf) := goodIn_app (goodIn_of _ (by decide +kernel)) ggX7_person_X7_leavesOf
set_option maxRecDepth 20000 in
theorem ggX7_bequest_X7_isWill : GoodIn wsX7_bequest wsX7_isWill := goodIn_r _ [6, 7, 8, 9, 5, 10, 11, 12, 13, 14, 15, 16, 17, 18, 19, 20, 21, 22, 23, 24, 25, 26, 27, 28, 29, 30, 31, 32, 33, 34, 35, 36, 37, 38, 39, 40, 41] (by rfl) (by decide +kernel)
set_option maxRecDepth 20000 in
theorem gX7_bequest_X7_isWill : GoodIn wsX7_bequest (wsV RX7 128 RX7 yX7_isWill wsX7_isWill) := goodIn_app (goodIn_of _ (by decide +kernel)) ggX7_bequest_X7_isWill
set_option maxRecDepth 20000 in
theorem ggX7_bequest_X7_in : GoodIn wsX7_bequest wsX7_in := goodIn_r _ [10] (by rfl) (by decide +kernel)
set_option maxRecDepth 20000 in
theorem gX7_bequest_X7_in : GoodIn wsX7_bequest (va_wsS RX7 76 yX7_in wsX7_in) := goodIn_app (goodIn_of _ (by decide +kernel)) ggX7_bequest_X7_in
set_option maxRecDepth 20000 in
theorem ggX7_note_X7_copy : GoodIn wsX7_note wsX7_copy := goodIn_r _ [7] (by rfl) (by decide +kernel)
set_option maxRecDepth 20000 in
theorem gX7_note_X7_copy : GoodIn wsX7_note (va_wsS RX7 131 yX7_copy wsX7_copy) := goodIn_app (goodIn_of _ (by decide +kernel)) ggX7_note_X7_copy
set_option maxRecDepth 20000 in
theorem ggX7_reword_X7_isWill : GoodIn wsX7_reword wsX7_isWill := goodIn_r _ [6, 7, 8, 9, 5, 10, 20, 21, 22, 23, 24, 25, 26, 27, 28, 29, 30, 31, 32, 33, 34, 35, 36, 37, 38, 39, 40, 41, 42, 43, 44, 45, 46, 47, 48, 49, 50] (by rfl) (by decide +kernel)
set_option maxRecDepth 20000 in
theorem gX7_reword_X7_isWill : GoodIn wsX7_reword (wsV RX7 128 RX7 yX7_isWill wsX7_isWill) := goodIn_app (goodIn_of _ (by decide +kernel)) ggX7_reword_X7_isWill
set_option maxRecDepth 20000 in
theorem ggX7_reword_X7_in : GoodIn wsX7_reword wsX7_in := goodIn_r _ [10] (by rfl) (by decide +kernel)
set_option maxRecDepth 20000 in
theorem gX7_reword_X7_in : GoodIn wsX7_reword (va_wsS RX7 76 yX7_in wsX7_in) := goodIn_app (goodIn_of _ (by decide +kernel)) ggX7_reword_X7_in
set_option maxRecDepth 20000 in
theorem ggX7_reword_X7_note : GoodIn wsX7_reword wsX7_note := goodIn_r _ [14, 15, 16, 1, 17, 18, 5, 19, 20, 21, 22, 23, 24, 25, 26, 27, 28, 29, 30, 31, 32, 33, 34, 35, 36, 37, 38, 39, 40, 41, 42, 43, 44, 45, 46, 47, 48, 49, 50] (by rfl) (by decide +kernel)
set_option maxRecDepth 20000 in
theorem gX7_reword_X7_note : GoodIn wsX7_reword (wsV RX7 135 RX7 yX7_note wsX7_note) := goodIn_app (goodIn_of _ (by decide +kernel)) ggX7_reword_X7_note
set_option maxRecDepth 20000 in
theorem ggX7_pass_X7_isWill : GoodIn wsX7_pass wsX7_isWill := goodIn_r _ [6, 7, 8, 9, 5, 10, 25, 26, 27, 28, 29, 30, 31, 32, 33, 34, 35, 36, 37, 38, 39, 40, 41, 42, 43, 44, 45, 46, 47, 48, 49, 50, 51, 52, 53, 54, 55] (by rfl) (by decide +kernel)
set_option maxRecDepth 20000 in
theorem gX7_pass_X7_isWill : GoodIn wsX7_pass (wsV RX7 128 RX7 yX7_isWill wsX7_isWill) := goodIn_app (goodIn_of _ (by decide +kernel)) ggX7_pass_X7_isWill
set_option maxRecDepth 20000 in
theorem ggX7_pass_X7_isOne : GoodIn wsX7_pass wsX7_isOne := goodIn_r _ [14, 15, 8, 9, 5, 10, 25, 26, 27, 28, 29, 30, 31, 32, 33, 34, 35, 36, 37, 38, 39, 40, 41, 42, 43, 44, 45, 46, 47, 48, 49, 50, 51, 52, 53, 54, 55] (by rfl) (by decide +kernel)
set_option maxRecDepth 20000 in
theorem gX7_pass_X7_isOne : GoodIn wsX7_pass (wsV RX7 122 RX7 yX7_isOne wsX7_isOne) := goodIn_app (goodIn_of _ (by decide +kernel)) ggX7_pass_X7_isOne
set_option maxRecDepth 20000 in
theorem ggX7_pass_X7_note : GoodIn wsX7_pass wsX7_note := goodIn_r _ [19, 20, 21, 1, 22, 23, 5, 24, 25, 26, 27, 28, 29, 30, 31, 32, 33, 34, 35, 36, 37, 38, 39, 40, 41, 42, 43, 44, 45, 46, 47, 48, 49, 50, 51, 52, 53, 54, 55] (by rfl) (by decide +kernel)
set_option maxRecDepth 20000 in
theorem gX7_pass_X7_note : GoodIn wsX7_pass (wsV RX7 135 RX7 yX7_note wsX7_note) := goodIn_app (goodIn_of _ (by decide +kernel)) ggX7_pass_X7_note
set_option maxRecDepth 20000 in
theorem ggX7_help_X7_isOne : GoodIn wsX7_help wsX7_isOne := goodIn_r _ [6, 7, 8, 9, 5, 10, 20, 21, 22, 23, 24, 25, 26, 27, 28, 29, 30, 31, 32, 33, 34, 35, 36, 37, 38, 39, 40, 41, 42, 43, 44, 45, 46, 47, 48, 49, 50] (by rfl) (by decide +kernel)
set_option maxRecDepth 20000 in
theorem gX7_help_X7_isOne : GoodIn wsX7_help (wsV RX7 122 RX7 yX7_isOne wsX7_isOne) := goodIn_app (goodIn_of _ (by decide +kernel)) ggX7_help_X7_isOne
set_option maxRecDepth 20000 in
theorem ggX7_help_X7_in : GoodIn wsX7_help wsX7_in := goodIn_r _ [10] (by rfl) (by decide +kernel)
set_option maxRecDepth 20000 in
theorem gX7_help_X7_in : GoodIn wsX7_help (va_wsS RX7 76 yX7_in wsX7_in) := goodIn_app (goodIn_of _ (by decide +kernel)) ggX7_help_X7_in
set_option maxRecDepth 20000 in
theorem ggX7_help_X7_note : GoodIn wsX7_help wsX7_note := goodIn_r _ [14, 15, 16, 1, 17, 18, 5, 19, 20, 21, 22, 23, 24, 25, 26, 27, 28, 29, 30, 31, 32, 33, 34, 35, 36, 37, 38, 39, 40, 41, 42, 43, 44, 45, 46, 47, 48, 49, 50] (by rfl) (by decide +kernel)
set_option maxRecDepth 20000 in
theorem gX7_help_X7_note : GoodIn wsX7_help (wsV RX7 135 RX7 yX7_note wsX7_note) := goodIn_app (goodIn_of _ (by decide +kernel)) ggX7_help_X7_note
set_option maxRecDepth 20000 in
theorem ggX7_undo_X7_copy : GoodIn wsX7_undo wsX7_copy := goodIn_r _ [7] (by rfl) (by decide +kernel)
set_option maxRecDepth 20000 in
theorem gX7_undo_X7_copy : GoodIn wsX7_undo (va_wsS RX7 131 yX7_copy wsX7_copy) := goodIn_app (goodIn_of _ (by decide +kernel)) ggX7_undo_X7_copy
set_option maxRecDepth 20000 in
theorem ggX7_die_X7_lives : GoodIn wsX7_die wsX7_lives := goodIn_r _ [11, 1, 12, 13, 14, 15, 16, 17, 18, 19, 20, 21, 22, 23, 24, 25, 26, 27, 28, 29, 30, 31, 32, 33, 34, 35, 36, 37, 38, 39, 40, 41, 42, 43] (by rfl) (by decide +kernel)
set_option maxRecDepth 20000 in
theorem gX7_die_X7_lives : GoodIn wsX7_die (wsV RX7 156 RX7 yX7_lives wsX7_lives) := goodIn_app (goodIn_of _ (by decide +kernel)) ggX7_die_X7_lives
set_option maxRecDepth 20000 in
theorem ggX7_turn_X7_leaving : GoodIn wsX7_turn wsX7_leaving := goodIn_r _ [8, 9, 10, 22, 23, 24, 25, 26, 27, 28, 29, 30, 31, 32, 33, 34, 35, 36, 37, 38, 39, 40, 41, 42, 43, 44, 45, 46, 47, 48, 49, 50, 51, 52] (by rfl) (by decide +kernel)
set_option maxRecDepth 20000 in
theorem gX7_turn_X7_leaving : GoodIn wsX7_turn (wsV RX7 160 RX7 yX7_leaving wsX7_leaving) := goodIn_app (goodIn_of _ (by decide +kernel)) ggX7_turn_X7_leaving
set_option maxRecDepth 20000 in
theorem ggX7_turn_X7_die : GoodIn wsX7_turn wsX7_die := goodIn_r _ [14, 15, 9, 10, 2, 16, 17, 18, 19, 20, 7, 21, 1, 22, 23, 24, 25, 26, 27, 28, 29, 30, 31, 32, 33, 34, 35, 36, 37, 38, 39, 40, 41, 42, 43, 44, 45, 46, 47, 48, 49, 50, 51, 52] (by rfl) (by decide +kernel)
set_option maxRecDepth 20000 in
theorem gX7_turn_X7_die : GoodIn wsX7_turn (wsV RX7 166 RX7 yX7_die wsX7_die) := goodIn_app (goodIn_of _ (by decide +kernel)) ggX7_turn_X7_die
set_option maxRecDepth 20000 in
theorem ggX7_run_X7_lives : GoodIn wsX7_run wsX7_lives := goodIn_r _ [14, 2, 7, 40, 41, 42, 43, 44, 45, 46, 47, 48, 49, 50, 51, 52, 53, 54, 55, 56, 57, 58, 59, 60, 61, 62, 63, 64, 65, 66, 67, 68, 69, 70] (by rfl) (by decide +kernel)
set_option maxRecDepth 20000 in
theorem gX7_run_X7_lives : GoodIn wsX7_run (wsV RX7 156 RX7 yX7_lives wsX7_lives) := goodIn_app (goodIn_of _ (by decide +kernel)) ggX7_run_X7_lives
set_option maxRecDepth 20000 in
theorem ggX7_run_X7_gainOf : GoodIn wsX7_run wsX7_gainOf := goodIn_r _ [18, 7, 19, 20, 21, 22, 23, 24, 25, 40, 41, 42, 43, 44, 45, 46, 47, 48, 49, 50, 51, 52, 53, 54, 55, 56, 57, 58, 59, 60, 61, 62, 63, 64, 65, 66, 67, 68, 69, 70] (by rfl) (by decide +kernel)
set_option maxRecDepth 20000 in
theorem gX7_run_X7_gainOf : GoodIn wsX7_run (wsV RX7 170 RX7 yX7_gainOf wsX7_gainOf) := goodIn_app (goodIn_of _ (by decide +kernel)) ggX7_run_X7_gainOf
set_option maxRecDepth 20000 in
theorem ggX7_run_X7_turn : GoodIn wsX7_run wsX7_turn := goodIn_r _ [29, 7, 3, 1, 30, 31, 32, 13, 33, 34, 35, 36, 37, 38, 39, 2, 5, 4, 10, 11, 12, 14, 40, 41, 42, 43, 44, 45, 46, 47, 48, 49, 50, 51, 52, 53, 54, 55, 56, 57, 58, 59, 60, 61, 62, 63, 64, 65, 66, 67, 68, 69, 70] (by rfl) (by decide +kernel)
set_option maxRecDepth 20000 in
theorem gX7_run_X7_turn : GoodIn wsX7_run (wsV RX7 174 RX7 yX7_turn wsX7_turn) := goodIn_app (goodIn_of _ (by decide +kernel)) ggX7_run_X7_turn
set_option maxRecDepth 20000 in
theorem ggX7_runPlain_X7_prepare : GoodIn wsX7_runPlain wsX7_prepare := goodIn_r _ [5, 6, 7, 8, 9, 10, 11, 12, 13, 14, 51, 52, 53, 54, 55, 56, 57, 58, 59, 60, 61, 62, 63, 64, 65, 66, 67, 68, 69, 70, 71, 72, 73, 74, 75, 76, 77, 78, 79, 80, 81] (by rfl) (by decide +kernel)
set_option maxRecDepth 20000 in
theorem gX7_runPlain_X7_prepare : GoodIn wsX7_runPlain (wsV RX7 177 RX7 yX7_prepare wsX7_prepare) := goodIn_app (goodIn_of _ (by decide +kernel)) ggX7_runPlain_X7_prepare
set_option maxRecDepth 20000 in
theorem ggX7_runPlain_X7_run : GoodIn wsX7_runPlain wsX7_run := goodIn_r _ [18, 19, 20, 21, 22, 23, 10, 11, 9, 24, 25, 26, 27, 4, 28, 29, 30, 31, 32, 33, 14, 34, 35, 36, 37, 38, 39, 40, 41, 42, 43, 44, 45, 46, 7, 8, 47, 48, 49, 50, 51, 52, 53, 54, 55, 56, 57, 58, 59, 60, 61, 62, 63, 64, 65, 66, 67, 68, 69, 70, 71, 72, 73, 74, 75, 76, 77, 78, 79, 80, 81] (by rfl) (by decide +kernel)
set_option maxRecDepth 20000 in
theorem gX7_runPlain_X7_run : GoodIn wsX7_runPlain (wsV RX7 180 RX7 yX7_run wsX7_run) := goodIn_app (goodIn_of _ (by decide +kernel)) ggX7_runPlain_X7_run
set_option maxRecDepth 20000 in
theorem ggX7_dies_X7_isOne : GoodIn wsX7_dies wsX7_isOne := goodIn_r _ [6, 7, 8, 9, 5, 10, 62, 63, 64, 65, 66, 67, 68, 69, 70, 71, 72, 73, 74, 75, 76, 77, 78, 79, 80, 81, 82, 83, 84, 85, 86, 87, 88, 89, 90, 91, 92] (by rfl) (by decide +kernel)
set_option maxRecDepth 20000 in
theorem gX7_dies_X7_isOne : GoodIn wsX7_dies (wsV RX7 122 RX7 yX7_isOne wsX7_isOne) := goodIn_app (goodIn_of _ (by decide +kernel)) ggX7_dies_X7_isOne
set_option maxRecDepth 20000 in
theorem ggX7_dies_X7_runPlain : GoodIn wsX7_dies wsX7_runPlain := goodIn_r _ [14, 15, 16, 17, 5, 18, 19, 20, 21, 22, 7, 23, 24, 25, 26, 27, 28, 29, 30, 31, 1, 32, 33, 34, 35, 36, 37, 38, 39, 40, 41, 42, 43, 44, 45, 46, 47, 48, 49, 50, 51, 52, 53, 54, 55, 56, 57, 58, 59, 60, 61, 62, 63, 64, 65, 66, 67, 68, 69, 70, 71, 72, 73, 74, 75, 76, 77, 78, 79, 80, 81, 82, 83, 84, 85, 86, 87, 88, 89, 90, 91, 92] (by rfl) (by decide +kernel)
set_option maxRecDepth 20000 in
theorem gX7_dies_X7_runPlain : GoodIn wsX7_dies (wsV RX7 183 RX7 yX7_runPlain wsX7_runPlain) := goodIn_app (goodIn_of _ (by decide +kernel)) ggX7_dies_X7_runPlain
set_option maxRecDepth 20000 in
theorem ggX7_having_X7_runPlain : GoodIn wsX7_having wsX7_runPlain := goodIn_r _ [6, 7, 8, 9, 5, 10, 11, 12, 13, 14, 15, 16, 17, 18, 19, 20, 21, 22, 23, 1, 24, 25, 26, 27, 28, 29, 30, 31, 32, 33, 34, 35, 36, 37, 38, 39, 40, 41, 42, 43, 44, 45, 46, 47, 48, 49, 50, 51, 52, 53, 54, 55, 56, 57, 58, 59, 60, 61, 62, 63, 64, 65, 66, 67, 68, 69, 70, 71, 72, 73, 74, 75, 76, 77, 78, 79, 80, 81, 82, 83, 84, 85] (by rfl) (by decide +kernel)
set_option maxRecDepth 20000 in
theorem gX7_having_X7_runPlain : GoodIn wsX7_having (wsV RX7 183 RX7 yX7_runPlain wsX7_runPlain) := goodIn_app (goodIn_of _ (by decide +kernel)) ggX7_having_X7_runPlain
set_option maxRecDepth 20000 in
theorem ggX7_coins_X7_isOne : GoodIn wsX7_coins wsX7_isOne := goodIn_r _ [6, 7, 8, 9, 5, 10, 62, 63, 64, 65, 66, 67, 68, 69, 70, 71, 72, 73, 74, 75, 76, 77, 78, 79, 80, 81, 82, 83, 84, 85, 86, 87, 88, 89, 90, 91, 92] (by rfl) (by decide +kernel)
set_option maxRecDepth 20000 in
theorem gX7_coins_X7_isOne : GoodIn wsX7_coins (wsV RX7 122 RX7 yX7_isOne wsX7_isOne) := goodIn_app (goodIn_of _ (by decide +kernel)) ggX7_coins_X7_isOne
set_option maxRecDepth 20000 in
theorem ggX7_coins_X7_in : GoodIn wsX7_coins wsX7_in := goodIn_r _ [10] (by rfl) (by decide +kernel)
set_option maxRecDepth 20000 in
theorem gX7_coins_X7_in : GoodIn wsX7_coins (va_wsS RX7 76 yX7_in wsX7_in) := goodIn_app (goodIn_of _ (by decide +kernel)) ggX7_coins_X7_in
set_option maxRecDepth 20000 in
theorem ggX7_coins_X7_runPlain : GoodIn wsX7_coins wsX7_runPlain := goodIn_r _ [14, 15, 16, 17, 5, 18, 19, 20, 21, 22, 7, 23, 24, 25, 26, 27, 28, 29, 30, 31, 32, 33, 34, 35, 1, 36, 37, 38, 39, 40, 41, 42, 43, 44, 45, 46, 47, 48, 49, 50, 51, 52, 53, 54, 55, 56, 57, 58, 59, 60, 61, 62, 63, 64, 65, 66, 67, 68, 69, 70, 71, 72, 73, 74, 75, 76, 77, 78, 79, 80, 81, 82, 83, 84, 85, 86, 87, 88, 89, 90, 91, 92] (by rfl) (by decide +kernel)
set_option maxRecDepth 20000 in
theorem gX7_coins_X7_runPlain : GoodIn wsX7_coins (wsV RX7 183 RX7 yX7_runPlain wsX7_runPlain) := goodIn_app (goodIn_of _ (by decide +kernel)) ggX7_coins_X7_runPlain
set_option maxRecDepth 20000 in
theorem ggX7_brought_X7_isWill : GoodIn wsX7_brought wsX7_isWill := goodIn_r _ [6, 7, 8, 9, 5, 10, 62, 63, 64, 65, 66, 67, 68, 69, 70, 71, 72, 73, 74, 75, 76, 77, 78, 79, 80, 81, 82, 83, 84, 85, 86, 87, 88, 89, 90, 91, 92] (by rfl) (by decide +kernel)
set_option maxRecDepth 20000 in
theorem gX7_brought_X7_isWill : GoodIn wsX7_brought (wsV RX7 128 RX7 yX7_isWill wsX7_isWill) := goodIn_app (goodIn_of _ (by decide +kernel)) ggX7_brought_X7_isWill
set_option maxRecDepth 20000 in
theorem ggX7_brought_X7_runPlain : GoodIn wsX7_brought wsX7_runPlain := goodIn_r _ [14, 15, 16, 17, 5, 18, 7, 19, 20, 21, 22, 23, 24, 25, 26, 27, 28, 29, 30, 31, 32, 33, 34, 1, 35, 36, 37, 38, 39, 40, 41, 42, 43, 44, 45, 46, 47, 48, 49, 50, 51, 52, 53, 54, 55, 56, 57, 58, 59, 60, 61, 62, 63, 64, 65, 66, 67, 68, 69, 70, 71, 72, 73, 74, 75, 76, 77, 78, 79, 80, 81, 82, 83, 84, 85, 86, 87, 88, 89, 90, 91, 92] (by rfl) (by decide +kernel)
set_option maxRecDepth 20000 in
theorem gX7_brought_X7_runPlain : GoodIn wsX7_brought (wsV RX7 183 RX7 yX7_runPlain wsX7_runPlain) := goodIn_app (goodIn_of _ (by decide +kernel)) ggX7_brought_X7_runPlain
set_option maxRecDepth 20000 in
theorem ggX7_inherited_X7_isOne : GoodIn wsX7_inherited wsX7_isOne := goodIn_r _ [6, 7, 8, 9, 5, 10, 62, 63, 64, 65, 66, 67, 68, 69, 70, 71, 72, 73, 74, 75, 76, 77, 78, 79, 80, 81, 82, 83, 84, 85, 86, 87, 88, 89, 90, 91, 92] (by rfl) (by decide +kernel)
set_option maxRecDepth 20000 in
theorem gX7_inherited_X7_isOne : GoodIn wsX7_inherited (wsV RX7 122 RX7 yX7_isOne wsX7_isOne) := goodIn_app (goodIn_of _ (by decide +kernel)) ggX7_inherited_X7_isOne
set_option maxRecDepth 20000 in
theorem ggX7_inherited_X7_runPlain : GoodIn wsX7_inherited wsX7_runPlain := goodIn_r _ [14, 15, 16, 17, 5, 18, 19, 20, 21, 22, 7, 23, 24, 25, 26, 27, 28, 29, 30, 31, 32, 33, 1, 34, 35, 36, 37, 38, 39, 40, 41, 42, 43, 44, 45, 46, 47, 48, 49, 50, 51, 52, 53, 54, 55, 56, 57, 58, 59, 60, 61, 62, 63, 64, 65, 66, 67, 68, 69, 70, 71, 72, 73, 74, 75, 76, 77, 78, 79, 80, 81, 82, 83, 84, 85, 86, 87, 88, 89, 90, 91, 92] (by rfl) (by decide +kernel)
set_option maxRecDepth 20000 in
theorem gX7_inherited_X7_runPlain : GoodIn wsX7_inherited (wsV RX7 183 RX7 yX7_runPlain wsX7_runPlain) := goodIn_app (goodIn_of _ (by decide +kernel)) ggX7_inherited_X7_runPlain
set_option maxRecDepth 20000 in
theorem ggX7_first_X7_runPlain : GoodIn wsX7_first wsX7_runPlain := goodIn_r _ [8, 9, 10, 11, 7, 12, 13, 14, 15, 16, 1, 17, 18, 19, 20, 21, 22, 23, 24, 3, 2, 25, 26, 27, 28, 29, 30, 31, 32, 33, 34, 35, 36, 37, 38, 39, 40, 41, 42, 43, 44, 45, 46, 47, 48, 49, 50, 51, 52, 53, 54, 55, 56, 57, 58, 59, 60, 61, 62, 63, 64, 65, 66, 67, 68, 69, 70, 71, 72, 73, 74, 75, 76, 77, 78, 79, 80, 81, 82, 83, 84, 85] (by rfl) (by decide +kernel)
set_option maxRecDepth 20000 in
theorem gX7_first_X7_runPlain : GoodIn wsX7_first (wsV RX7 183 RX7 yX7_runPlain wsX7_runPlain) := goodIn_app (goodIn_of _ (by decide +kernel)) ggX7_first_X7_runPlain
set_option maxRecDepth 20000 in
theorem ggX7_longest_X7_in : GoodIn wsX7_longest wsX7_in := goodIn_r _ [7] (by rfl) (by decide +kernel)
set_option maxRecDepth 20000 in
theorem gX7_longest_X7_in : GoodIn wsX7_longest (va_wsS RX7 76 yX7_in wsX7_in) := goodIn_app (goodIn_of _ (by decide +kernel)) ggX7_longest_X7_in
set_option maxRecDepth 20000 in
theorem ggX7_longest_X7_runPlain : GoodIn wsX7_longest wsX7_runPlain := goodIn_r _ [11, 12, 13, 14, 6, 15, 16, 17, 18, 19, 1, 3, 20, 21, 22, 23, 24, 25, 26, 27, 2, 28, 29, 30, 31, 32, 33, 34, 35, 36, 37, 38, 39, 40, 41, 42, 43, 44, 45, 46, 47, 48, 49, 50, 51, 52, 53, 54, 55, 56, 57, 58, 59, 60, 61, 62, 63, 64, 65, 66, 67, 68, 69, 70, 71, 72, 73, 74, 75, 76, 77, 78, 79, 80, 81, 82, 83, 84, 85, 86, 87, 88] (by rfl) (by decide +kernel)
set_option maxRecDepth 20000 in
theorem gX7_longest_X7_runPlain : GoodIn wsX7_longest (wsV RX7 183 RX7 yX7_runPlain wsX7_runPlain) := goodIn_app (goodIn_of _ (by decide +kernel)) ggX7_longest_X7_runPlain
set_option maxRecDepth 20000 in
theorem ggX7_prepareBut_X7_prepare : GoodIn wsX7_prepareBut wsX7_prepare := goodIn_r _ [9, 2, 1, 4, 3, 10, 11, 12, 13, 14, 15, 16, 17, 18, 19, 20, 21, 22, 23, 24, 25, 26, 27, 28, 29, 30, 31, 32, 33, 34, 35, 36, 37, 38, 39, 40, 41, 42, 43, 44, 45] (by rfl) (by decide +kernel)
set_option maxRecDepth 20000 in
theorem gX7_prepareBut_X7_prepare : GoodIn wsX7_prepareBut (wsV RX7 177 RX7 yX7_prepare wsX7_prepare) := goodIn_app (goodIn_of _ (by decide +kernel)) ggX7_prepareBut_X7_prepare
set_option maxRecDepth 20000 in
theorem ggX7_greatest_X7_isOne : GoodIn wsX7_greatest wsX7_isOne := goodIn_r _ [7, 8, 9, 10, 6, 11, 66, 67, 68, 69, 70, 71, 72, 73, 74, 75, 76, 77, 78, 79, 80, 81, 82, 83, 84, 85, 86, 87, 88, 89, 90, 91, 92, 93, 94, 95, 96] (by rfl) (by decide +kernel)
set_option maxRecDepth 20000 in
theorem gX7_greatest_X7_isOne : GoodIn wsX7_greatest (wsV RX7 122 RX7 yX7_isOne wsX7_isOne) := goodIn_app (goodIn_of _ (by decide +kernel)) ggX7_greatest_X7_isOne
set_option maxRecDepth 20000 in
theorem ggX7_greatest_X7_prepareBut : GoodIn wsX7_greatest wsX7_prepareBut := goodIn_r _ [15, 2, 16, 17, 1, 18, 19, 20, 6, 21, 8, 22, 23, 24, 25, 66, 67, 68, 69, 70, 71, 72, 73, 74, 75, 76, 77, 78, 79, 80, 81, 82, 83, 84, 85, 86, 87, 88, 89, 90, 91, 92, 93, 94, 95, 96] (by rfl) (by decide +kernel)
set_option maxRecDepth 20000 in
theorem gX7_greatest_X7_prepareBut : GoodIn wsX7_greatest (wsV RX7 186 RX7 yX7_prepareBut wsX7_prepareBut) := goodIn_app (goodIn_of _ (by decide +kernel)) ggX7_greatest_X7_prepareBut
set_option maxRecDepth 20000 in
theorem ggX7_greatest_X7_run : GoodIn wsX7_greatest wsX7_run := goodIn_r _ [29, 30, 31, 32, 33, 34, 8, 22, 17, 35, 36, 37, 38, 6, 39, 40, 41, 42, 43, 44, 25, 45, 46, 47, 48, 49, 50, 51, 52, 53, 54, 55, 56, 57, 2, 1, 58, 59, 60, 61, 66, 67, 68, 69, 70, 71, 72, 73, 74, 75, 76, 77, 78, 79, 80, 81, 82, 83, 84, 85, 86, 87, 88, 89, 90, 91, 92, 93, 94, 95, 96] (by rfl) (by decide +kernel)
set_option maxRecDepth 20000 in
theorem gX7_greatest_X7_run : GoodIn wsX7_greatest (wsV RX7 180 RX7 yX7_run wsX7_run) := goodIn_app (goodIn_of _ (by decide +kernel)) ggX7_greatest_X7_run
set_option maxRecDepth 20000 in
theorem ggX7_greatest_X7_has : GoodIn wsX7_greatest wsX7_has := goodIn_r _ [65, 30, 66, 67, 68, 69, 70, 71, 72, 73, 74, 75, 76, 77, 78, 79, 80, 81, 82, 83, 84, 85, 86, 87, 88, 89, 90, 91, 92, 93, 94, 95, 96] (by rfl) (by decide +kernel)
set_option maxRecDepth 20000 in
theorem gX7_greatest_X7_has : GoodIn wsX7_greatest (wsV RX7 189 RX7 yX7_has wsX7_has) := goodIn_app (goodIn_of _ (by decide +kernel)) ggX7_greatest_X7_has
set_option maxRecDepth 20000 in
theorem ggX7_needs_X7_isOne : GoodIn wsX7_needs wsX7_isOne := goodIn_r _ [6, 7, 8, 9, 5, 10, 62, 63, 64, 65, 66, 67, 68, 69, 70, 71, 72, 73, 74, 75, 76, 77, 78, 79, 80, 81, 82, 83, 84, 85, 86, 87, 88, 89, 90, 91, 92] (by rfl) (by decide +kernel)
set_option maxRecDepth 20000 in
theorem gX7_needs_X7_isOne : GoodIn wsX7_needs (wsV RX7 122 RX7 yX7_isOne wsX7_isOne) := goodIn_app (goodIn_of _ (by decide +kernel)) ggX7_needs_X7_isOne
set_option maxRecDepth 20000 in
theorem ggX7_needs_X7_prepare : GoodIn wsX7_needs wsX7_prepare := goodIn_r _ [14, 15, 16, 17, 18, 7, 1, 19, 20, 21, 62, 63, 64, 65, 66, 67, 68, 69, 70, 71, 72, 73, 74, 75, 76, 77, 78, 79, 80, 81, 82, 83, 84, 85, 86, 87, 88, 89, 90, 91, 92] (by rfl) (by decide +kernel)
set_option maxRecDepth 20000 in
theorem gX7_needs_X7_prepare : GoodIn wsX7_needs (wsV RX7 177 RX7 yX7_prepare wsX7_prepare) := goodIn_app (goodIn_of _ (by decide +kernel)) ggX7_needs_X7_prepare
set_option maxRecDepth 20000 in
theorem ggX7_needs_X7_run : GoodIn wsX7_needs wsX7_run := goodIn_r _ [25, 26, 27, 28, 29, 30, 7, 1, 18, 31, 32, 33, 34, 5, 35, 36, 37, 38, 39, 40, 21, 41, 42, 43, 44, 45, 46, 47, 48, 49, 50, 51, 52, 53, 16, 17, 54, 55, 56, 57, 62, 63, 64, 65, 66, 67, 68, 69, 70, 71, 72, 73, 74, 75, 76, 77, 78, 79, 80, 81, 82, 83, 84, 85, 86, 87, 88, 89, 90, 91, 92] (by rfl) (by decide +kernel)
set_option maxRecDepth 20000 in
theorem gX7_needs_X7_run : GoodIn wsX7_needs (wsV RX7 180 RX7 yX7_run wsX7_run) := goodIn_app (goodIn_of _ (by decide +kernel)) ggX7_needs_X7_run
set_option maxRecDepth 20000 in
theorem ggX7_needs_X7_has : GoodIn wsX7_needs wsX7_has := goodIn_r _ [61, 26, 62, 63, 64, 65, 66, 67, 68, 69, 70, 71, 72, 73, 74, 75, 76, 77, 78, 79, 80, 81, 82, 83, 84, 85, 86, 87, 88, 89, 90, 91, 92] (by rfl) (by decide +kernel)
set_option maxRecDepth 20000 in
theorem gX7_needs_X7_has : GoodIn wsX7_needs (wsV RX7 189 RX7 yX7_has wsX7_has) := goodIn_app (goodIn_of _ (by decide +kernel)) ggX7_needs_X7_has
set_option maxRecDepth 20000 in
theorem ggX7_mend_X7_in : GoodIn wsX7_mend wsX7_in := goodIn_r _ [5] (by rfl) (by decide +kernel)
set_option maxRecDepth 20000 in
theorem gX7_mend_X7_in : GoodIn wsX7_mend (va_wsS RX7 76 yX7_in wsX7_in) := goodIn_app (goodIn_of _ (by decide +kernel)) ggX7_mend_X7_in
set_option maxRecDepth 20000 in
theorem ggX7_mend_X7_prepareBut : GoodIn wsX7_mend wsX7_prepareBut := goodIn_r _ [9, 10, 1, 11, 12, 13, 14, 15, 4, 16, 17, 18, 19, 20, 21, 62, 63, 64, 65, 66, 67, 68, 69, 70, 71, 72, 73, 74, 75, 76, 77, 78, 79, 80, 81, 82, 83, 84, 85, 86, 87, 88, 89, 90, 91, 92] (by rfl) (by decide +kernel)
set_option maxRecDepth 20000 in
theorem gX7_mend_X7_prepareBut : GoodIn wsX7_mend (wsV RX7 186 RX7 yX7_prepareBut wsX7_prepareBut) := goodIn_app (goodIn_of _ (by decide +kernel)) ggX7_mend_X7_prepareBut
set_option maxRecDepth 20000 in
theorem ggX7_mend_X7_run : GoodIn wsX7_mend wsX7_run := goodIn_r _ [25, 26, 27, 28, 29, 30, 17, 18, 11, 31, 32, 33, 34, 4, 35, 36, 37, 38, 39, 40, 21, 41, 42, 43, 44, 45, 46, 47, 48, 49, 50, 51, 52, 53, 10, 12, 54, 55, 56, 57, 62, 63, 64, 65, 66, 67, 68, 69, 70, 71, 72, 73, 74, 75, 76, 77, 78, 79, 80, 81, 82, 83, 84, 85, 86, 87, 88, 89, 90, 91, 92] (by rfl) (by decide +kernel)
set_option maxRecDepth 20000 in
theorem gX7_mend_X7_run : GoodIn wsX7_mend (wsV RX7 180 RX7 yX7_run wsX7_run) := goodIn_app (goodIn_of _ (by decide +kernel)) ggX7_mend_X7_run
set_option maxRecDepth 20000 in
theorem ggX7_mend_X7_hadMany : GoodIn wsX7_mend wsX7_hadMany := goodIn_r _ [61, 17, 26, 62, 63, 64, 65, 66, 67, 68, 69, 70, 71, 72, 73, 74, 75, 76, 77, 78, 79, 80, 81, 82, 83, 84, 85, 86, 87, 88, 89, 90, 91, 92] (by rfl) (by decide +kernel)
set_option maxRecDepth 20000 in
theorem gX7_mend_X7_hadMany : GoodIn wsX7_mend (wsV RX7 192 RX7 yX7_hadMany wsX7_hadMany) := goodIn_app (goodIn_of _ (by decide +kernel)) ggX7_mend_X7_hadMany
set_option maxRecDepth 20000 in
theorem ggX7_limits_X7_in : GoodIn wsX7_limits wsX7_in := goodIn_r _ [6] (by rfl) (by decide +kernel)
set_option maxRecDepth 20000 in
theorem gX7_limits_X7_in : GoodIn wsX7_limits (va_wsS RX7 76 yX7_in wsX7_in) := goodIn_app (goodIn_of _ (by decide +kernel)) ggX7_limits_X7_in
set_option maxRecDepth 20000 in
theorem ggX7_limits_X7_prepare : GoodIn wsX7_limits wsX7_prepare := goodIn_r _ [10, 11, 12, 13, 14, 1, 2, 15, 16, 17, 58, 59, 60, 61, 62, 63, 64, 65, 66, 67, 68, 69, 70, 71, 72, 73, 74, 75, 76, 77, 78, 79, 80, 81, 82, 83, 84, 85, 86, 87, 88] (by rfl) (by decide +kernel)
set_option maxRecDepth 20000 in
theorem gX7_limits_X7_prepare : GoodIn wsX7_limits (wsV RX7 177 RX7 yX7_prepare wsX7_prepare) := goodIn_app (goodIn_of _ (by decide +kernel)) ggX7_limits_X7_prepare
set_option maxRecDepth 20000 in
theorem ggX7_limits_X7_run : GoodIn wsX7_limits wsX7_run := goodIn_r _ [21, 22, 23, 24, 25, 26, 1, 2, 14, 27, 28, 29, 30, 5, 31, 32, 33, 34, 35, 36, 17, 37, 38, 39, 40, 41, 42, 43, 44, 45, 46, 47, 48, 49, 12, 13, 50, 51, 52, 53, 58, 59, 60, 61, 62, 63, 64, 65, 66, 67, 68, 69, 70, 71, 72, 73, 74, 75, 76, 77, 78, 79, 80, 81, 82, 83, 84, 85, 86, 87, 88] (by rfl) (by decide +kernel)
set_option maxRecDepth 20000 in
theorem gX7_limits_X7_run : GoodIn wsX7_limits (wsV RX7 180 RX7 yX7_run wsX7_run) := goodIn_app (goodIn_of _ (by decide +kernel)) ggX7_limits_X7_run
set_option maxRecDepth 20000 in
theorem ggX7_limits_X7_hadMany : GoodIn wsX7_limits wsX7_hadMany := goodIn_r _ [57, 1, 22, 58, 59, 60, 61, 62, 63, 64, 65, 66, 67, 68, 69, 70, 71, 72, 73, 74, 75, 76, 77, 78, 79, 80, 81, 82, 83, 84, 85, 86, 87, 88] (by rfl) (by decide +kernel)
set_option maxRecDepth 20000 in
theorem gX7_limits_X7_hadMany : GoodIn wsX7_limits (wsV RX7 192 RX7 yX7_hadMany wsX7_hadMany) := goodIn_app (goodIn_of _ (by decide +kernel)) ggX7_limits_X7_hadMany
set_option maxRecDepth 20000 in
theorem ggX7_ring_X7_isOne : GoodIn wsX7_ring wsX7_isOne := goodIn_r _ [8, 1, 9, 10, 7, 11, 12, 13, 14, 15, 16, 17, 18, 19, 20, 21, 22, 23, 24, 25, 26, 27, 28, 29, 30, 31, 32, 33, 34, 35, 36, 37, 38, 39, 40, 41, 42] (by rfl) (by decide +kernel)
set_option maxRecDepth 20000 in
theorem gX7_ring_X7_isOne : GoodIn wsX7_ring (wsV RX7 122 RX7 yX7_isOne wsX7_isOne) := goodIn_app (goodIn_of _ (by decide +kernel)) ggX7_ring_X7_isOne
set_option maxRecDepth 20000 in
theorem ggX7_owes_X7_isOne : GoodIn wsX7_owes wsX7_isOne := goodIn_r _ [7, 8, 9, 10, 6, 11, 12, 13, 14, 15, 16, 17, 18, 19, 20, 21, 22, 23, 24, 25, 26, 27, 28, 29, 30, 31, 32, 33, 34, 35, 36, 37, 38, 39, 40, 41, 42] (by rfl) (by decide +kernel)
set_option maxRecDepth 20000 in
theorem gX7_owes_X7_isOne : GoodIn wsX7_owes (wsV RX7 122 RX7 yX7_isOne wsX7_isOne) := goodIn_app (goodIn_of _ (by decide +kernel)) ggX7_owes_X7_isOne
set_option maxRecDepth 20000 in
theorem ggX7_seen_X7_isOne : GoodIn wsX7_seen wsX7_isOne := goodIn_r _ [7, 8, 9, 10, 6, 11, 12, 13, 14, 15, 16, 17, 18, 19, 20, 21, 22, 23, 24, 25, 26, 27, 28, 29, 30, 31, 32, 33, 34, 35, 36, 37, 38, 39, 40, 41, 42] (by rfl) (by decide +kernel)
set_option maxRecDepth 20000 in
theorem gX7_seen_X7_isOne : GoodIn wsX7_seen (wsV RX7 122 RX7 yX7_isOne wsX7_isOne) := goodIn_app (goodIn_of _ (by decide +kernel)) ggX7_seen_X7_isOne
set_option maxRecDepth 20000 in
theorem ggX7_seen_X7_in : GoodIn wsX7_seen wsX7_in := goodIn_r _ [11] (by rfl) (by decide +kernel)
set_option maxRecDepth 20000 in
theorem gX7_seen_X7_in : GoodIn wsX7_seen (va_wsS RX7 76 yX7_in wsX7_in) := goodIn_app (goodIn_of _ (by decide +kernel)) ggX7_seen_X7_in
set_option maxRecDepth 20000 in
theorem ggX7_kinds_X7_isOne : GoodIn wsX7_kinds wsX7_isOne := goodIn_r _ [9, 10, 11, 12, 8, 13, 60, 61, 62, 63, 64, 65, 66, 67, 68, 69, 70, 71, 72, 73, 74, 75, 76, 77, 78, 79, 80, 81, 82, 83, 84, 85, 86, 87, 88, 89, 90] (by rfl) (by decide +kernel)
set_option maxRecDepth 20000 in
theorem gX7_kinds_X7_isOne : GoodIn wsX7_kinds (wsV RX7 122 RX7 yX7_isOne wsX7_isOne) := goodIn_app (goodIn_of _ (by decide +kernel)) ggX7_kinds_X7_isOne
set_option maxRecDepth 20000 in
theorem ggX7_kinds_X7_prepare : GoodIn wsX7_kinds wsX7_prepare := goodIn_r _ [17, 18, 19, 20, 21, 10, 1, 22, 23, 24, 60, 61, 62, 63, 64, 65, 66, 67, 68, 69, 70, 71, 72, 73, 74, 75, 76, 77, 78, 79, 80, 81, 82, 83, 84, 85, 86, 87, 88, 89, 90] (by rfl) (by decide +kernel)
set_option maxRecDepth 20000 in
theorem gX7_kinds_X7_prepare : GoodIn wsX7_kinds (wsV RX7 177 RX7 yX7_prepare wsX7_prepare) := goodIn_app (goodIn_of _ (by decide +kernel)) ggX7_kinds_X7_prepare
set_option maxRecDepth 20000 in
theorem ggX7_kinds_X7_run : GoodIn wsX7_kinds wsX7_run := goodIn_r _ [28, 29, 30, 31, 32, 33, 10, 1, 21, 4, 34, 35, 36, 8, 37, 38, 39, 40, 41, 42, 24, 43, 44, 45, 46, 47, 48, 49, 50, 51, 52, 53, 54, 55, 19, 20, 56, 57, 58, 59, 60, 61, 62, 63, 64, 65, 66, 67, 68, 69, 70, 71, 72, 73, 74, 75, 76, 77, 78, 79, 80, 81, 82, 83, 84, 85, 86, 87, 88, 89, 90] (by rfl) (by decide +kernel)
set_option maxRecDepth 20000 in
theorem gX7_kinds_X7_run : GoodIn wsX7_kinds (wsV RX7 180 RX7 yX7_run wsX7_run) := goodIn_app (goodIn_of _ (by decide +kernel)) ggX7_kinds_X7_run
set_option maxRecDepth 20000 in
theorem ggX7_odds_X7_isOne : GoodIn wsX7_odds wsX7_isOne := goodIn_r _ [6, 7, 8, 9, 5, 10, 11, 12, 13, 14, 15, 16, 17, 18, 19, 20, 21, 22, 23, 24, 25, 26, 27, 28, 29, 30, 31, 32, 33, 34, 35, 36, 37, 38, 39, 40, 41] (by rfl) (by decide +kernel)
set_option maxRecDepth 20000 in
theorem gX7_odds_X7_isOne : GoodIn wsX7_odds (wsV RX7 122 RX7 yX7_isOne wsX7_isOne) := goodIn_app (goodIn_of _ (by decide +kernel)) ggX7_odds_X7_isOne
set_option maxRecDepth 20000 in
theorem ggX7_odds_X7_in : GoodIn wsX7_odds wsX7_in := goodIn_r _ [10] (by rfl) (by decide +kernel)
set_option maxRecDepth 20000 in
theorem gX7_odds_X7_in : GoodIn wsX7_odds (va_wsS RX7 76 yX7_in wsX7_in) := goodIn_app (goodIn_of _ (by decide +kernel)) ggX7_odds_X7_in
set_option maxRecDepth 20000 in
theorem ggX7_generations_X7_in : GoodIn wsX7_generations wsX7_in := goodIn_r _ [7] (by rfl) (by decide +kernel)
set_option maxRecDepth 20000 in
theorem gX7_generations_X7_in : GoodIn wsX7_generations (va_wsS RX7 76 yX7_in wsX7_in) := goodIn_app (goodIn_of _ (by decide +kernel)) ggX7_generations_X7_in
set_option maxRecDepth 20000 in
theorem ggX7_generations_X7_prepare : GoodIn wsX7_generations wsX7_prepare := goodIn_r _ [11, 12, 13, 14, 15, 2, 16, 17, 18, 1, 62, 63, 64, 65, 66, 67, 68, 69, 70, 71, 72, 73, 74, 75, 76, 77, 78, 79, 80, 81, 82, 83, 84, 85, 86, 87, 88, 89, 90, 91, 92] (by rfl) (by decide +kernel)
set_option maxRecDepth 20000 in
theorem gX7_generations_X7_prepare : GoodIn wsX7_generations (wsV RX7 177 RX7 yX7_prepare wsX7_prepare) := goodIn_app (goodIn_of _ (by decide +kernel)) ggX7_generations_X7_prepare
set_option maxRecDepth 20000 in
theorem ggX7_generations_X7_run : GoodIn wsX7_generations wsX7_run := goodIn_r _ [22, 23, 3, 24, 25, 26, 2, 16, 15, 27, 28, 29, 30, 6, 31, 32, 33, 34, 35, 36, 1, 37, 38, 39, 40, 41, 42, 43, 44, 45, 46, 47, 48, 49, 13, 14, 50, 51, 52, 53, 62, 63, 64, 65, 66, 67, 68, 69, 70, 71, 72, 73, 74, 75, 76, 77, 78, 79, 80, 81, 82, 83, 84, 85, 86, 87, 88, 89, 90, 91, 92] (by rfl) (by decide +kernel)
set_option maxRecDepth 20000 in
theorem gX7_generations_X7_run : GoodIn wsX7_generations (wsV RX7 180 RX7 yX7_run wsX7_run) := goodIn_app (goodIn_of _ (by decide +kernel)) ggX7_generations_X7_run
set_option maxRecDepth 20000 in
theorem ggX7_generations_X7_has : GoodIn wsX7_generations wsX7_has := goodIn_r _ [57, 23, 62, 63, 64, 65, 66, 67, 68, 69, 70, 71, 72, 73, 74, 75, 76, 77, 78, 79, 80, 81, 82, 83, 84, 85, 86, 87, 88, 89, 90, 91, 92] (by rfl) (by decide +kernel)
set_option maxRecDepth 20000 in
theorem gX7_generations_X7_has : GoodIn wsX7_generations (wsV RX7 189 RX7 yX7_has wsX7_has) := goodIn_app (goodIn_of _ (by decide +kernel)) ggX7_generations_X7_has
set_option maxRecDepth 20000 in
theorem ggX7_generations_X7_hadMany : GoodIn wsX7_generations wsX7_hadMany := goodIn_r _ [61, 2, 23, 62, 63, 64, 65, 66, 67, 68, 69, 70, 71, 72, 73, 74, 75, 76, 77, 78, 79, 80, 81, 82, 83, 84, 85, 86, 87, 88, 89, 90, 91, 92] (by rfl) (by decide +kernel)
set_option maxRecDepth 20000 in
theorem gX7_generations_X7_hadMany : GoodIn wsX7_generations (wsV RX7 192 RX7 yX7_hadMany wsX7_hadMany) := goodIn_app (goodIn_of _ (by decide +kernel)) ggX7_generations_X7_hadMany
set_option maxRecDepth 20000 in
theorem ggX7_keep_X7_copy : GoodIn wsX7_keep wsX7_copy := goodIn_r _ [7] (by rfl) (by decide +kernel)
set_option maxRecDepth 20000 in
theorem gX7_keep_X7_copy : GoodIn wsX7_keep (va_wsS RX7 131 yX7_copy wsX7_copy) := goodIn_app (goodIn_of _ (by decide +kernel)) ggX7_keep_X7_copy
set_option maxRecDepth 20000 in
theorem ggX7_back_X7_copy : GoodIn wsX7_back wsX7_copy := goodIn_r _ [8] (by rfl) (by decide +kernel)
set_option maxRecDepth 20000 in
theorem gX7_back_X7_copy : GoodIn wsX7_back (va_wsS RX7 131 yX7_copy wsX7_copy) := goodIn_app (goodIn_of _ (by decide +kernel)) ggX7_back_X7_copy
set_option maxRecDepth 20000 in
theorem ggJ0_length_8abf5_J0_coder_7d493 : GoodIn wsJ0_length_8abf5 wsJ0_coder_7d493 := goodIn_r _ [6, 7, 8] (by rfl) (by decide +kernel)
set_option maxRecDepth 20000 in
theorem gJ0_length_8abf5_J0_coder_7d493 : GoodIn wsJ0_length_8abf5 (wsV RJ0 335 RJ0 yJ0_coder_7d493 wsJ0_coder_7d493) := goodIn_app (goodIn_of _ (by decide +kernel)) ggJ0_length_8abf5_J0_coder_7d493
set_option maxRecDepth 20000 in
theorem ggJ0_charAt_5068e_J0_isLatin1_aae02 : GoodIn wsJ0_charAt_5068e wsJ0_isLatin1_aae02 := goodIn_r _ [6, 7, 8] (by rfl) (by decide +kernel)
set_option maxRecDepth 20000 in
theorem gJ0_charAt_5068e_J0_isLatin1_aae02 : GoodIn wsJ0_charAt_5068e (wsV RJ0 492 RJ0 yJ0_isLatin1_aae02 wsJ0_isLatin1_aae02) := goodIn_app (goodIn_of _ (by decide +kernel)) ggJ0_charAt_5068e_J0_isLatin1_aae02
set_option maxRecDepth 20000 in
theorem ggJ0_charAt_5068e_J1_charAt_3b067 : GoodIn wsJ0_charAt_5068e wsJ1_charAt_3b067 := goodIn_r _ [12, 13, 14, 5, 15, 16, 17, 18, 19, 20] (by rfl) (by decide +kernel)
set_option maxRecDepth 20000 in
theorem gJ0_charAt_5068e_J1_charAt_3b067 : GoodIn wsJ0_charAt_5068e (va_wsS RJ0 495 yJ1_charAt_3b067 wsJ1_charAt_3b067) := goodIn_app (goodIn_of _ (by decide +kernel)) ggJ0_charAt_5068e_J1_charAt_3b067
set_option maxRecDepth 20000 in
theorem ggJ0_charAt_5068e_J2_charAt_3b067 : GoodIn wsJ0_charAt_5068e wsJ2_charAt_3b067 := goodIn_r _ [24, 25, 26, 23, 27, 28, 29, 30, 31, 14, 5, 15, 16, 17, 18, 19, 20, 32, 33, 34, 35, 36, 37] (by rfl) (by decide +kernel)
set_option maxRecDepth 20000 in
theorem gJ0_charAt_5068e_J2_charAt_3b067 : GoodIn wsJ0_charAt_5068e (va_wsS RJ0 498 yJ2_charAt_3b067 wsJ2_charAt_3b067) := goodIn_app (goodIn_of _ (by decide +kernel)) ggJ0_charAt_5068e_J2_charAt_3b067
set_option maxRecDepth 20000 in
theorem ggJ0_checkIndex_df160_J3_checkIndex_8e157 : GoodIn wsJ0_checkIndex_df160 wsJ3_checkIndex_8e157 := goodIn_r _ [5] (by rfl) (by decide +kernel)
set_option maxRecDepth 20000 in
theorem gJ0_checkIndex_df160_J3_checkIndex_8e157 : GoodIn wsJ0_checkIndex_df160 (va_wsS RJ0 1059 yJ3_checkIndex_8e157 wsJ3_checkIndex_8e157) := goodIn_app (goodIn_of _ (by decide +kernel)) ggJ0_checkIndex_df160_J3_checkIndex_8e157
set_option maxRecDepth 20000 in
theorem ggJ1_charAt_3b067_J0_checkIndex_df160 : GoodIn wsJ1_charAt_3b067 wsJ0_checkIndex_df160 := goodIn_r _ [4, 5, 6, 7, 8, 9] (by rfl) (by decide +kernel)
set_option maxRecDepth 20000 in
theorem gJ1_charAt_3b067_J0_checkIndex_df160 : GoodIn wsJ1_charAt_3b067 (va_wsS RJ1 9 yJ0_checkIndex_df160 wsJ0_checkIndex_df160) := goodIn_app (goodIn_of _ (by decide +kernel)) ggJ1_charAt_3b067_J0_checkIndex_df160
set_option maxRecDepth 20000 in
theorem ggJ2_getChar_3b067_J2_length_9d52b : GoodIn wsJ2_getChar_3b067 wsJ2_length_9d52b := goodIn_r _ [7] (by rfl) (by decide +kernel)
set_option maxRecDepth 20000 in
theorem gJ2_getChar_3b067_J2_length_9d52b : GoodIn wsJ2_getChar_3b067 (va_wsS RJ2 48 yJ2_length_9d52b wsJ2_length_9d52b) := goodIn_app (goodIn_of _ (by decide +kernel)) ggJ2_getChar_3b067_J2_length_9d52b
set_option maxRecDepth 20000 in
theorem ggJ2_charAt_3b067_J2_checkIndex_2214a : GoodIn wsJ2_charAt_3b067 wsJ2_checkIndex_2214a := goodIn_r _ [4, 5, 6, 3, 7, 8, 9, 10, 11, 12, 13, 14, 15, 16] (by rfl) (by decide +kernel)
set_option maxRecDepth 20000 in
theorem gJ2_charAt_3b067_J2_checkIndex_2214a : GoodIn wsJ2_charAt_3b067 (va_wsS RJ2 67 yJ2_checkIndex_2214a wsJ2_checkIndex_2214a) := goodIn_app (goodIn_of _ (by decide +kernel)) ggJ2_charAt_3b067_J2_checkIndex_2214a
set_option maxRecDepth 20000 in
theorem ggJ2_charAt_3b067_J2_getChar_3b067 : GoodIn wsJ2_charAt_3b067 wsJ2_getChar_3b067 := goodIn_r _ [19, 20, 21, 22, 5, 6, 3, 7] (by rfl) (by decide +kernel)
set_option maxRecDepth 20000 in
theorem gJ2_charAt_3b067_J2_getChar_3b067 : GoodIn wsJ2_charAt_3b067 (va_wsS RJ2 71 yJ2_getChar_3b067 wsJ2_getChar_3b067) := goodIn_app (goodIn_of _ (by decide +kernel)) ggJ2_charAt_3b067_J2_getChar_3b067
set_option maxRecDepth 20000 in
theorem ggJ2_checkIndex_2214a_J2_length_9d52b : GoodIn wsJ2_checkIndex_2214a wsJ2_length_9d52b := goodIn_r _ [4] (by rfl) (by decide +kernel)
set_option maxRecDepth 20000 in
theorem gJ2_checkIndex_2214a_J2_length_9d52b : GoodIn wsJ2_checkIndex_2214a (va_wsS RJ2 48 yJ2_length_9d52b wsJ2_length_9d52b) := goodIn_app (goodIn_of _ (by decide +kernel)) ggJ2_checkIndex_2214a_J2_length_9d52b
set_option maxRecDepth 20000 in
theorem ggJ2_checkIndex_2214a_J0_checkIndex_df160 : GoodIn wsJ2_checkIndex_2214a wsJ0_checkIndex_df160 := goodIn_r _ [8, 9, 10, 11, 12, 13] (by rfl) (by decide +kernel)
set_option maxRecDepth 20000 in
theorem gJ2_checkIndex_2214a_J0_checkIndex_df160 : GoodIn wsJ2_checkIndex_2214a (va_wsS RJ2 414 yJ0_checkIndex_df160 wsJ0_checkIndex_df160) := goodIn_app (goodIn_of _ (by decide +kernel)) ggJ2_checkIndex_2214a_J0_checkIndex_df160
set_option maxRecDepth 20000 in
theorem ggL_law_X6_init : GoodIn wsL_law wsX6_init := goodIn_r _ [8, 9, 10, 11, 12, 13, 14, 15, 16, 17, 18, 19, 20, 21, 22, 23, 24, 25, 26, 27, 28, 29, 30, 31, 32, 33, 34, 35, 36, 37, 38, 39, 40, 41, 42, 43, 44, 45, 46, 47, 48, 49, 50, 51, 52, 53, 54, 55, 56, 57, 58, 59, 60, 61, 62, 63, 64, 65, 66, 67, 68, 69, 70, 71, 72, 73, 74, 75, 76, 77, 78, 79, 80, 81, 82, 83, 84, 85, 86, 87, 88, 89, 90, 91, 92, 93, 94, 95, 96, 97, 98, 99, 100, 101, 102, 103, 104, 105, 106, 107, 108, 109, 110, 111, 112, 113, 114, 115, 116, 117, 118, 119, 120, 121, 122, 123, 124, 125, 126, 127, 128, 129, 130, 131, 132, 133, 134, 135, 136, 137, 138, 139, 140, 141, 142, 143, 144, 145, 146, 147, 148, 149, 150, 151, 152, 153, 154, 155, 156, 157, 158, 159, 160, 161, 162, 163, 164, 165, 166, 167, 168, 169, 170, 171, 172, 173, 174, 175, 176, 177, 178, 179, 180, 181, 182, 183, 184, 185, 186, 187, 188, 189, 190, 2, 191, 192, 193, 194, 195, 196, 197, 198, 199, 200, 201, 202, 203, 204, 205, 206, 207, 208, 209, 210, 211, 813, 814, 770, 771, 772, 773, 774, 775, 776, 777, 778, 779, 780, 781, 815, 816, 817, 818, 819, 820, 821, 822, 823, 824, 825, 826, 827, 828, 829, 830, 831, 832, 833, 834, 835, 836, 837, 838, 839, 840, 841, 842, 843, 844, 845, 846, 847, 848, 849, 850] (by rfl) (by decide +kernel)
set_option maxRecDepth 20000 in
theorem gL_law_X6_init : GoodIn wsL_law (wsX6_init) := ggL_law_X6_init
set_option maxRecDepth 20000 in
theorem ggL_law_X7_init : GoodIn wsL_law wsX7_init := goodIn_r _ [214, 215, 10, 11, 52, 216, 217, 218, 219, 220, 221, 222, 223, 224, 225, 226, 227, 228, 229, 230, 231, 232, 233, 234, 235, 236, 237, 5, 238, 239, 240, 241, 242, 782, 783, 784, 785, 786, 787, 788, 789, 790, 791, 792, 793, 794, 795, 796, 797, 798, 799, 800, 801, 802, 803, 804, 805, 806, 807, 808, 809, 810, 811, 812] (by rfl) (by decide +kernel)
set_option maxRecDepth 20000 in
theorem gL_law_X7_init : GoodIn wsL_law (wsX7_init) := ggL_law_X7_init
set_option maxRecDepth 20000 in
theorem ggL_law_X6_write : GoodIn wsL_law wsX6_write := goodIn_r _ [246, 15, 152, 153, 154, 14, 155, 47, 46, 770, 771, 772, 773, 774, 775, 776, 777, 778, 779, 780, 781, 813, 814] (by rfl) (by decide +kernel)
set_option maxRecDepth 20000 in
theorem gL_law_X6_write : GoodIn wsL_law (wsV RL 13 RX6 yX6_write wsX6_write) := goodIn_app (goodIn_of _ (by decide +kernel)) ggL_law_X6_write
set_option maxRecDepth 20000 in
theorem ggL_law_X7_write : GoodIn wsL_law wsX7_write := goodIn_r _ [250, 251, 216, 252, 253, 5, 254, 782, 783, 784, 785, 786, 787, 788, 789, 790, 791, 792, 793, 794, 795, 796, 797, 798, 799, 800, 801, 802, 803, 804, 805, 806, 807, 808, 809, 810, 811, 812] (by rfl) (by decide +kernel)
set_option maxRecDepth 20000 in
theorem gL_law_X7_write : GoodIn wsL_law (wsV RL 17 RX7 yX7_write wsX7_write) := goodIn_app (goodIn_of _ (by decide +kernel)) ggL_law_X7_write
set_option maxRecDepth 20000 in
theorem ggL_law_X6_wipe : GoodIn wsL_law wsX6_wipe := goodIn_r _ [258, 15, 208, 209, 210, 14, 211, 47, 770, 771, 772, 773, 774, 775, 776, 777, 778, 779, 780, 781, 813, 814] (by rfl) (by decide +kernel)
set_option maxRecDepth 20000 in
theorem gL_law_X6_wipe : GoodIn wsL_law (wsV RL 18 RX6 yX6_wipe wsX6_wipe) := goodIn_app (goodIn_of _ (by decide +kernel)) ggL_law_X6_wipe
set_option maxRecDepth 20000 in
theorem ggL_law_X7_wipe : GoodIn wsL_law wsX7_wipe := goodIn_r _ [262, 251, 782, 783, 784, 785, 786, 787, 788, 789, 790, 791, 792, 793, 794, 795, 796, 797, 798, 799, 800, 801, 802, 803, 804, 805, 806, 807, 808, 809, 810, 811, 812] (by rfl) (by decide +kernel)
set_option maxRecDepth 20000 in
theorem gL_law_X7_wipe : GoodIn wsL_law (wsV RL 22 RX7 yX7_wipe wsX7_wipe) := goodIn_app (goodIn_of _ (by decide +kernel)) ggL_law_X7_wipe
set_option maxRecDepth 20000 in
theorem ggL_law_X6_fault : GoodIn wsL_law wsX6_fault := goodIn_r _ [266, 19, 29, 156, 157, 158, 18, 159, 54, 55, 160, 161, 162, 22, 163, 59, 65, 69, 73, 164, 165, 166, 167, 53, 168, 169, 170, 14, 171, 47, 46, 172, 173, 174, 175, 176, 177, 178, 179, 180, 181, 182, 183, 184, 185, 186, 187, 188, 189, 60, 61, 62, 63, 64, 190, 2, 191, 192, 193, 194, 195, 66, 67, 68, 196, 197, 198, 199, 200, 201, 202, 203, 204, 205, 206, 207, 770, 771, 772, 773, 774, 775, 776, 777, 778, 779, 780, 781, 815, 816, 817, 813, 814, 818, 819, 820, 821, 822, 823, 824, 825, 826, 827, 828, 829, 830, 831, 832] (by rfl) (by decide +kernel)
set_option maxRecDepth 20000 in
theorem gL_law_X6_fault : GoodIn wsL_law (wsV RL 23 RX6 yX6_fault wsX6_fault) := goodIn_app (goodIn_of _ (by decide +kernel)) ggL_law_X6_fault
set_option maxRecDepth 20000 in
theorem ggL_law_X7_fault : GoodIn wsL_law wsX7_fault := goodIn_r _ [270, 271, 272, 273, 274, 5, 275, 276, 277, 278, 279, 251, 280, 281, 282, 283, 217, 218, 219, 284, 285, 286, 287, 216, 288, 289, 290, 291, 252, 253, 254, 782, 783, 784, 785, 786, 787, 788, 789, 790, 791, 792, 793, 794, 795, 796, 797, 798, 799, 800, 801, 802, 803, 804, 805, 806, 807, 808, 809, 810, 811, 812] (by rfl) (by decide +kernel)
set_option maxRecDepth 20000 in
theorem gL_law_X7_fault : GoodIn wsL_law (wsV RL 26 RX7 yX7_fault wsX7_fault) := goodIn_app (goodIn_of _ (by decide +kernel)) ggL_law_X7_fault
set_option maxRecDepth 20000 in
theorem ggL_law_X6_lay : GoodIn wsL_law wsX6_lay := goodIn_r _ [295, 19, 29, 23, 34, 38, 41, 28, 156, 157, 158, 18, 159, 54, 55, 160, 161, 162, 22, 163, 59, 65, 69, 73, 164, 165, 166, 167, 53, 168, 169, 170, 14, 171, 47, 46, 172, 173, 174, 175, 176, 177, 178, 179, 180, 181, 182, 183, 184, 185, 186, 187, 188, 189, 60, 61, 62, 63, 64, 190, 2, 191, 192, 193, 194, 195, 66, 67, 68, 196, 197, 198, 199, 200, 201, 202, 203, 204, 205, 206, 207, 296, 297, 298, 299, 70, 71, 72, 300, 301, 302, 303, 304, 305, 33, 306, 95, 307, 308, 309, 37, 310, 102, 770, 771, 772, 773, 774, 775, 776, 777, 778, 779, 780, 781, 818, 819, 820, 821, 822, 823, 824, 825, 826, 827, 828, 829, 830, 831, 832, 815, 816, 817, 813, 814, 843, 844, 845, 846, 847, 848, 849, 850] (by rfl) (by decide +kernel)
set_option maxRecDepth 20000 in
theorem gL_law_X6_lay : GoodIn wsL_law (wsV RL 27 RX6 yX6_lay wsX6_lay) := goodIn_app (goodIn_of _ (by decide +kernel)) ggL_law_X6_lay
set_option maxRecDepth 20000 in
theorem ggL_law_X7_lay : GoodIn wsL_law wsX7_lay := goodIn_r _ [314, 277, 220, 278, 222, 279, 223, 221, 218, 224, 219, 315, 316, 317, 272, 273, 274, 5, 275, 276, 251, 271, 280, 281, 282, 283, 217, 284, 285, 286, 287, 216, 288, 289, 290, 291, 252, 253, 254, 782, 783, 784, 785, 786, 787, 788, 789, 790, 791, 792, 793, 794, 795, 796, 797, 798, 799, 800, 801, 802, 803, 804, 805, 806, 807, 808, 809, 810, 811, 812] (by rfl) (by decide +kernel)
set_option maxRecDepth 20000 in
theorem gL_law_X7_lay : GoodIn wsL_law (wsV RL 30 RX7 yX7_lay wsX7_lay) := goodIn_app (goodIn_of _ (by decide +kernel)) ggL_law_X7_lay
set_option maxRecDepth 20000 in
theorem ggL_law_X6_person : GoodIn wsL_law wsX6_person := goodIn_r _ [321, 23, 322, 197, 198, 22, 199, 59, 323, 324, 325, 326, 65, 66, 68, 770, 771, 772, 773, 774, 775, 776, 777, 778, 779, 780, 781, 818, 819, 820, 821, 822, 823, 824, 825, 826, 827, 828, 829, 830, 831, 832] (by rfl) (by decide +kernel)
set_option maxRecDepth 20000 in
theorem gL_law_X6_person : GoodIn wsL_law (wsV RL 31 RX6 yX6_person wsX6_person) := goodIn_app (goodIn_of _ (by decide +kernel)) ggL_law_X6_person
set_option maxRecDepth 20000 in
theorem ggL_law_X7_person : GoodIn wsL_law wsX7_person := goodIn_r _ [330, 221, 331, 332, 333, 5, 334, 220, 252, 253, 254, 335, 336, 337, 338, 222, 224, 782, 783, 784, 785, 786, 787, 788, 789, 790, 791, 792, 793, 794, 795, 796, 797, 798, 799, 800, 801, 802, 803, 804, 805, 806, 807, 808, 809, 810, 811, 812] (by rfl) (by decide +kernel)
set_option maxRecDepth 20000 in
theorem gL_law_X7_person : GoodIn wsL_law (wsV RL 35 RX7 yX7_person wsX7_person) := goodIn_app (goodIn_of _ (by decide +kernel)) ggL_law_X7_person
set_option maxRecDepth 20000 in
theorem ggL_law_X6_bequest : GoodIn wsL_law wsX6_bequest := goodIn_r _ [342, 23, 343, 344, 345, 22, 346, 65, 770, 771, 772, 773, 774, 775, 776, 777, 778, 779, 780, 781, 818, 819, 820, 821, 822, 823, 824, 825, 826, 827, 828, 829, 830, 831, 832] (by rfl) (by decide +kernel)
set_option maxRecDepth 20000 in
theorem gL_law_X6_bequest : GoodIn wsL_law (wsV RL 36 RX6 yX6_bequest wsX6_bequest) := goodIn_app (goodIn_of _ (by decide +kernel)) ggL_law_X6_bequest
set_option maxRecDepth 20000 in
theorem ggL_law_X7_bequest : GoodIn wsL_law wsX7_bequest := goodIn_r _ [350, 224, 351, 352, 353, 5, 354, 222, 252, 253, 254, 782, 783, 784, 785, 786, 787, 788, 789, 790, 791, 792, 793, 794, 795, 796, 797, 798, 799, 800, 801, 802, 803, 804, 805, 806, 807, 808, 809, 810, 811, 812] (by rfl) (by decide +kernel)
set_option maxRecDepth 20000 in
theorem gL_law_X7_bequest : GoodIn wsL_law (wsV RL 39 RX7 yX7_bequest wsX7_bequest) := goodIn_app (goodIn_of _ (by decide +kernel)) ggL_law_X7_bequest
set_option maxRecDepth 20000 in
theorem ggL_law_X6_reword : GoodIn wsL_law wsX6_reword := goodIn_r _ [358, 23, 34, 28, 343, 344, 345, 22, 346, 65, 359, 190, 2, 191, 360, 361, 362, 33, 363, 95, 92, 93, 94, 364, 365, 366, 367, 770, 771, 772, 773, 774, 775, 776, 777, 778, 779, 780, 781, 818, 819, 820, 821, 822, 823, 824, 825, 826, 827, 828, 829, 830, 831, 832, 843, 844, 845, 846] (by rfl) (by decide +kernel)
set_option maxRecDepth 20000 in
theorem gL_law_X6_reword : GoodIn wsL_law (wsV RL 40 RX6 yX6_reword wsX6_reword) := goodIn_app (goodIn_of _ (by decide +kernel)) ggL_law_X6_reword
set_option maxRecDepth 20000 in
theorem ggL_law_X7_reword : GoodIn wsL_law wsX7_reword := goodIn_r _ [371, 224, 351, 352, 353, 5, 354, 222, 252, 253, 254, 372, 373, 374, 375, 316, 225, 376, 377, 378, 782, 783, 784, 785, 786, 787, 788, 789, 790, 791, 792, 793, 794, 795, 796, 797, 798, 799, 800, 801, 802, 803, 804, 805, 806, 807, 808, 809, 810, 811, 812] (by rfl) (by decide +kernel)
set_option maxRecDepth 20000 in
theorem gL_law_X7_reword : GoodIn wsL_law (wsV RL 43 RX7 yX7_reword wsX7_reword) := goodIn_app (goodIn_of _ (by decide +kernel)) ggL_law_X7_reword
set_option maxRecDepth 20000 in
theorem ggL_law_X6_pass : GoodIn wsL_law wsX6_pass := goodIn_r _ [382, 23, 34, 28, 343, 344, 345, 22, 346, 65, 322, 197, 198, 199, 59, 360, 361, 362, 33, 363, 95, 92, 93, 94, 364, 365, 366, 367, 770, 771, 772, 773, 774, 775, 776, 777, 778, 779, 780, 781, 818, 819, 820, 821, 822, 823, 824, 825, 826, 827, 828, 829, 830, 831, 832, 843, 844, 845, 846] (by rfl) (by decide +kernel)
set_option maxRecDepth 20000 in
theorem gL_law_X6_pass : GoodIn wsL_law (wsV RL 44 RX6 yX6_pass wsX6_pass) := goodIn_app (goodIn_of _ (by decide +kernel)) ggL_law_X6_pass
set_option maxRecDepth 20000 in
theorem ggL_law_X7_pass : GoodIn wsL_law wsX7_pass := goodIn_r _ [386, 224, 351, 352, 353, 5, 354, 222, 252, 253, 254, 331, 332, 333, 334, 220, 372, 373, 374, 375, 316, 225, 376, 377, 378, 782, 783, 784, 785, 786, 787, 788, 789, 790, 791, 792, 793, 794, 795, 796, 797, 798, 799, 800, 801, 802, 803, 804, 805, 806, 807, 808, 809, 810, 811, 812] (by rfl) (by decide +kernel)
set_option maxRecDepth 20000 in
theorem gL_law_X7_pass : GoodIn wsL_law (wsV RL 47 RX7 yX7_pass wsX7_pass) := goodIn_app (goodIn_of _ (by decide +kernel)) ggL_law_X7_pass
set_option maxRecDepth 20000 in
theorem ggL_law_X6_help : GoodIn wsL_law wsX6_help := goodIn_r _ [390, 23, 34, 28, 322, 197, 198, 22, 199, 59, 359, 190, 2, 191, 391, 392, 393, 394, 69, 70, 71, 72, 360, 361, 362, 33, 363, 95, 92, 93, 94, 364, 365, 366, 367, 770, 771, 772, 773, 774, 775, 776, 777, 778, 779, 780, 781, 818, 819, 820, 821, 822, 823, 824, 825, 826, 827, 828, 829, 830, 831, 832, 843, 844, 845, 846] (by rfl) (by decide +kernel)
set_option maxRecDepth 20000 in
theorem gL_law_X6_help : GoodIn wsL_law (wsV RL 48 RX6 yX6_help wsX6_help) := goodIn_app (goodIn_of _ (by decide +kernel)) ggL_law_X6_help
set_option maxRecDepth 20000 in
theorem ggL_law_X7_help : GoodIn wsL_law wsX7_help := goodIn_r _ [398, 224, 331, 332, 333, 5, 334, 220, 252, 253, 254, 372, 373, 374, 375, 316, 225, 376, 377, 378, 782, 783, 784, 785, 786, 787, 788, 789, 790, 791, 792, 793, 794, 795, 796, 797, 798, 799, 800, 801, 802, 803, 804, 805, 806, 807, 808, 809, 810, 811, 812] (by rfl) (by decide +kernel)
set_option maxRecDepth 20000 in
theorem gL_law_X7_help : GoodIn wsL_law (wsV RL 52 RX7 yX7_help wsX7_help) := goodIn_app (goodIn_of _ (by decide +kernel)) ggL_law_X7_help
set_option maxRecDepth 20000 in
theorem ggL_law_X6_undo : GoodIn wsL_law wsX6_undo := goodIn_r _ [402, 34, 23, 28, 403, 404, 405, 33, 406, 95, 93, 92, 94, 407, 408, 409, 22, 410, 69, 411, 344, 345, 346, 65, 770, 771, 772, 773, 774, 775, 776, 777, 778, 779, 780, 781, 843, 844, 845, 846, 818, 819, 820, 821, 822, 823, 824, 825, 826, 827, 828, 829, 830, 831, 832] (by rfl) (by decide +kernel)
set_option maxRecDepth 20000 in
theorem gL_law_X6_undo : GoodIn wsL_law (wsV RL 53 RX6 yX6_undo wsX6_undo) := goodIn_app (goodIn_of _ (by decide +kernel)) ggL_law_X6_undo
set_option maxRecDepth 20000 in
theorem ggL_law_X7_undo : GoodIn wsL_law wsX7_undo := goodIn_r _ [415, 316, 225, 224, 376, 377, 5, 378, 782, 783, 784, 785, 786, 787, 788, 789, 790, 791, 792, 793, 794, 795, 796, 797, 798, 799, 800, 801, 802, 803, 804, 805, 806, 807, 808, 809, 810, 811, 812] (by rfl) (by decide +kernel)
set_option maxRecDepth 20000 in
theorem gL_law_X7_undo : GoodIn wsL_law (wsV RL 56 RX7 yX7_undo wsX7_undo) := goodIn_app (goodIn_of _ (by decide +kernel)) ggL_law_X7_undo
set_option maxRecDepth 20000 in
theorem ggL_law_X6_dies : GoodIn wsL_law wsX6_dies := goodIn_r _ [419, 23, 322, 197, 198, 22, 199, 59, 420, 421, 422, 2, 423, 28, 27, 424, 425, 426, 26, 427, 88, 86, 79, 428, 429, 430, 431, 87, 78, 80, 81, 82, 83, 84, 432, 324, 325, 326, 65, 66, 68, 433, 434, 435, 436, 437, 438, 439, 440, 441, 442, 443, 444, 445, 446, 447, 448, 449, 450, 451, 452, 453, 454, 455, 456, 457, 458, 459, 460, 461, 462, 463, 464, 465, 466, 467, 468, 469, 470, 471, 472, 473, 474, 475, 476, 477, 478, 770, 771, 772, 773, 774, 775, 776, 777, 778, 779, 780, 781, 833, 834, 835, 836, 837, 838, 839, 840, 841, 842, 818, 819, 820, 821, 822, 823, 824, 825, 826, 827, 828, 829, 830, 831, 832] (by rfl) (by decide +kernel)
set_option maxRecDepth 20000 in
theorem gL_law_X6_dies : GoodIn wsL_law (wsV RL 57 RX6 yX6_dies wsX6_dies) := goodIn_app (goodIn_of _ (by decide +kernel)) ggL_law_X6_dies
set_option maxRecDepth 20000 in
theorem ggL_law_X7_dies : GoodIn wsL_law wsX7_dies := goodIn_r _ [482, 230, 331, 332, 333, 5, 334, 220, 252, 253, 254, 483, 484, 485, 486, 487, 488, 489, 490, 222, 491, 228, 224, 229, 221, 223, 492, 493, 494, 495, 496, 497, 231, 232, 233, 234, 498, 499, 500, 501, 502, 503, 504, 505, 506, 507, 508, 509, 510, 511, 512, 513, 514, 515, 516, 517, 518, 519, 520, 521, 522, 523, 782, 783, 784, 785, 786, 787, 788, 789, 790, 791, 792, 793, 794, 795, 796, 797, 798, 799, 800, 801, 802, 803, 804, 805, 806, 807, 808, 809, 810, 811, 812] (by rfl) (by decide +kernel)
set_option maxRecDepth 20000 in
theorem gL_law_X7_dies : GoodIn wsL_law (wsV RL 60 RX7 yX7_dies wsX7_dies) := goodIn_app (goodIn_of _ (by decide +kernel)) ggL_law_X7_dies
set_option maxRecDepth 20000 in
theorem ggL_law_X6_having : GoodIn wsL_law wsX6_having := goodIn_r _ [527, 420, 421, 422, 2, 423, 28, 27, 424, 425, 426, 26, 427, 88, 86, 79, 428, 429, 430, 431, 87, 78, 80, 81, 82, 83, 84, 432, 324, 325, 22, 326, 65, 66, 68, 433, 434, 435, 436, 437, 438, 439, 440, 441, 442, 443, 444, 445, 446, 447, 448, 449, 450, 451, 452, 453, 454, 455, 456, 457, 458, 459, 460, 461, 462, 463, 464, 465, 466, 467, 468, 469, 470, 471, 472, 473, 474, 475, 476, 477, 478, 833, 834, 835, 836, 837, 838, 839, 840, 841, 842, 770, 771, 772, 773, 774, 775, 776, 777, 778, 779, 780, 781, 818, 819, 820, 821, 822, 823, 824, 825, 826, 827, 828, 829, 830, 831, 832] (by rfl) (by decide +kernel)
set_option maxRecDepth 20000 in
theorem gL_law_X6_having : GoodIn wsL_law (wsV RL 61 RX6 yX6_having wsX6_having) := goodIn_app (goodIn_of _ (by decide +kernel)) ggL_law_X6_having
set_option maxRecDepth 20000 in
theorem ggL_law_X7_having : GoodIn wsL_law wsX7_having := goodIn_r _ [531, 497, 483, 484, 485, 5, 486, 487, 488, 489, 490, 222, 491, 228, 224, 220, 229, 221, 223, 492, 493, 494, 495, 496, 230, 231, 232, 233, 234, 498, 499, 500, 501, 502, 503, 504, 505, 506, 507, 508, 509, 510, 511, 512, 513, 514, 515, 516, 517, 518, 519, 520, 521, 522, 523, 782, 783, 784, 785, 786, 787, 788, 789, 790, 791, 792, 793, 794, 795, 796, 797, 798, 799, 800, 801, 802, 803, 804, 805, 806, 807, 808, 809, 810, 811, 812] (by rfl) (by decide +kernel)
set_option maxRecDepth 20000 in
theorem gL_law_X7_having : GoodIn wsL_law (wsV RL 64 RX7 yX7_having wsX7_having) := goodIn_app (goodIn_of _ (by decide +kernel)) ggL_law_X7_having
set_option maxRecDepth 20000 in
theorem ggL_law_X6_coins : GoodIn wsL_law wsX6_coins := goodIn_r _ [535, 23, 322, 197, 198, 22, 199, 59, 359, 190, 2, 191, 420, 421, 422, 423, 28, 27, 424, 425, 426, 26, 427, 88, 86, 79, 428, 429, 430, 431, 87, 78, 80, 81, 82, 83, 84, 432, 324, 325, 326, 65, 66, 68, 433, 434, 435, 436, 437, 438, 439, 440, 441, 442, 443, 444, 445, 446, 447, 448, 449, 450, 451, 452, 453, 454, 455, 456, 457, 458, 459, 460, 461, 462, 463, 464, 465, 466, 467, 468, 469, 470, 471, 472, 473, 474, 475, 476, 477, 478, 770, 771, 772, 773, 774, 775, 776, 777, 778, 779, 780, 781, 833, 834, 835, 836, 837, 838, 839, 840, 841, 842, 818, 819, 820, 821, 822, 823, 824, 825, 826, 827, 828, 829, 830, 831, 832] (by rfl) (by decide +kernel)
set_option maxRecDepth 20000 in
theorem gL_law_X6_coins : GoodIn wsL_law (wsV RL 65 RX6 yX6_coins wsX6_coins) := goodIn_app (goodIn_of _ (by decide +kernel)) ggL_law_X6_coins
set_option maxRecDepth 20000 in
theorem ggL_law_X7_coins : GoodIn wsL_law wsX7_coins := goodIn_r _ [539, 234, 331, 332, 333, 5, 334, 220, 252, 253, 254, 483, 484, 485, 486, 487, 488, 489, 490, 222, 491, 228, 224, 229, 221, 223, 492, 493, 494, 495, 496, 497, 230, 231, 232, 233, 498, 499, 500, 501, 502, 503, 504, 505, 506, 507, 508, 509, 510, 511, 512, 513, 514, 515, 516, 517, 518, 519, 520, 521, 522, 523, 782, 783, 784, 785, 786, 787, 788, 789, 790, 791, 792, 793, 794, 795, 796, 797, 798, 799, 800, 801, 802, 803, 804, 805, 806, 807, 808, 809, 810, 811, 812] (by rfl) (by decide +kernel)
set_option maxRecDepth 20000 in
theorem gL_law_X7_coins : GoodIn wsL_law (wsV RL 68 RX7 yX7_coins wsX7_coins) := goodIn_app (goodIn_of _ (by decide +kernel)) ggL_law_X7_coins
set_option maxRecDepth 20000 in
theorem ggL_law_X6_brought : GoodIn wsL_law wsX6_brought := goodIn_r _ [543, 23, 343, 344, 345, 22, 346, 65, 420, 421, 422, 2, 423, 28, 27, 424, 425, 426, 26, 427, 88, 86, 79, 428, 429, 430, 431, 87, 78, 80, 81, 82, 83, 84, 432, 324, 325, 326, 66, 68, 433, 434, 435, 436, 437, 438, 439, 440, 441, 442, 443, 444, 445, 446, 447, 448, 449, 450, 451, 452, 453, 454, 455, 456, 457, 458, 459, 460, 461, 462, 463, 464, 465, 466, 467, 468, 469, 470, 471, 472, 473, 474, 475, 476, 477, 478, 770, 771, 772, 773, 774, 775, 776, 777, 778, 779, 780, 781, 833, 834, 835, 836, 837, 838, 839, 840, 841, 842, 818, 819, 820, 821, 822, 823, 824, 825, 826, 827, 828, 829, 830, 831, 832] (by rfl) (by decide +kernel)
set_option maxRecDepth 20000 in
theorem gL_law_X6_brought : GoodIn wsL_law (wsV RL 69 RX6 yX6_brought wsX6_brought) := goodIn_app (goodIn_of _ (by decide +kernel)) ggL_law_X6_brought
set_option maxRecDepth 20000 in
theorem ggL_law_X7_brought : GoodIn wsL_law wsX7_brought := goodIn_r _ [547, 233, 351, 352, 353, 5, 354, 222, 252, 253, 254, 483, 484, 485, 486, 487, 488, 489, 490, 491, 228, 224, 220, 229, 221, 223, 492, 493, 494, 495, 496, 497, 230, 231, 232, 234, 498, 499, 500, 501, 502, 503, 504, 505, 506, 507, 508, 509, 510, 511, 512, 513, 514, 515, 516, 517, 518, 519, 520, 521, 522, 523, 782, 783, 784, 785, 786, 787, 788, 789, 790, 791, 792, 793, 794, 795, 796, 797, 798, 799, 800, 801, 802, 803, 804, 805, 806, 807, 808, 809, 810, 811, 812] (by rfl) (by decide +kernel)
set_option maxRecDepth 20000 in
theorem gL_law_X7_brought : GoodIn wsL_law (wsV RL 72 RX7 yX7_brought wsX7_brought) := goodIn_app (goodIn_of _ (by decide +kernel)) ggL_law_X7_brought
set_option maxRecDepth 20000 in
theorem ggL_law_X6_inherited : GoodIn wsL_law wsX6_inherited := goodIn_r _ [551, 23, 322, 197, 198, 22, 199, 59, 420, 421, 422, 2, 423, 28, 27, 424, 425, 426, 26, 427, 88, 86, 79, 428, 429, 430, 431, 87, 78, 80, 81, 82, 83, 84, 432, 324, 325, 326, 65, 66, 68, 433, 434, 435, 436, 437, 438, 439, 440, 441, 442, 443, 444, 445, 446, 447, 448, 449, 450, 451, 452, 453, 454, 455, 456, 457, 458, 459, 460, 461, 462, 463, 464, 465, 466, 467, 468, 469, 470, 471, 472, 473, 474, 475, 476, 477, 478, 770, 771, 772, 773, 774, 775, 776, 777, 778, 779, 780, 781, 833, 834, 835, 836, 837, 838, 839, 840, 841, 842, 818, 819, 820, 821, 822, 823, 824, 825, 826, 827, 828, 829, 830, 831, 832] (by rfl) (by decide +kernel)
set_option maxRecDepth 20000 in
theorem gL_law_X6_inherited : GoodIn wsL_law (wsV RL 73 RX6 yX6_inherited wsX6_inherited) := goodIn_app (goodIn_of _ (by decide +kernel)) ggL_law_X6_inherited
set_option maxRecDepth 20000 in
theorem ggL_law_X7_inherited : GoodIn wsL_law wsX7_inherited := goodIn_r _ [555, 232, 331, 332, 333, 5, 334, 220, 252, 253, 254, 483, 484, 485, 486, 487, 488, 489, 490, 222, 491, 228, 224, 229, 221, 223, 492, 493, 494, 495, 496, 497, 230, 231, 233, 234, 498, 499, 500, 501, 502, 503, 504, 505, 506, 507, 508, 509, 510, 511, 512, 513, 514, 515, 516, 517, 518, 519, 520, 521, 522, 523, 782, 783, 784, 785, 786, 787, 788, 789, 790, 791, 792, 793, 794, 795, 796, 797, 798, 799, 800, 801, 802, 803, 804, 805, 806, 807, 808, 809, 810, 811, 812] (by rfl) (by decide +kernel)
set_option maxRecDepth 20000 in
theorem gL_law_X7_inherited : GoodIn wsL_law (wsV RL 76 RX7 yX7_inherited wsX7_inherited) := goodIn_app (goodIn_of _ (by decide +kernel)) ggL_law_X7_inherited
set_option maxRecDepth 20000 in
theorem ggL_law_X6_first : GoodIn wsL_law wsX6_first := goodIn_r _ [559, 420, 421, 422, 2, 423, 28, 27, 424, 425, 426, 26, 427, 88, 86, 79, 428, 429, 430, 431, 87, 78, 80, 81, 82, 83, 84, 432, 324, 325, 22, 326, 65, 66, 68, 433, 434, 435, 436, 437, 438, 439, 440, 441, 442, 443, 444, 445, 446, 447, 448, 449, 450, 451, 452, 453, 454, 455, 456, 457, 458, 459, 460, 461, 462, 463, 464, 465, 466, 467, 468, 469, 470, 471, 472, 473, 474, 475, 476, 477, 478, 560, 561, 562, 563, 564, 565, 566, 567, 770, 771, 772, 773, 774, 775, 776, 777, 778, 779, 780, 781, 833, 834, 835, 836, 837, 838, 839, 840, 841, 842, 818, 819, 820, 821, 822, 823, 824, 825, 826, 827, 828, 829, 830, 831, 832] (by rfl) (by decide +kernel)
set_option maxRecDepth 20000 in
theorem gL_law_X6_first : GoodIn wsL_law (wsV RL 77 RX6 yX6_first wsX6_first) := goodIn_app (goodIn_of _ (by decide +kernel)) ggL_law_X6_first
set_option maxRecDepth 20000 in
theorem ggL_law_X7_first : GoodIn wsL_law wsX7_first := goodIn_r _ [571, 220, 230, 497, 483, 484, 485, 5, 486, 487, 488, 489, 490, 222, 491, 228, 224, 229, 221, 223, 492, 493, 494, 495, 496, 231, 232, 233, 234, 498, 499, 500, 501, 502, 503, 504, 505, 506, 507, 508, 509, 510, 511, 512, 513, 514, 515, 516, 517, 518, 519, 520, 521, 522, 523, 782, 783, 784, 785, 786, 787, 788, 789, 790, 791, 792, 793, 794, 795, 796, 797, 798, 799, 800, 801, 802, 803, 804, 805, 806, 807, 808, 809, 810, 811, 812] (by rfl) (by decide +kernel)
set_option maxRecDepth 20000 in
theorem gL_law_X7_first : GoodIn wsL_law (wsV RL 80 RX7 yX7_first wsX7_first) := goodIn_app (goodIn_of _ (by decide +kernel)) ggL_law_X7_first
set_option maxRecDepth 20000 in
theorem ggL_law_X6_longest : GoodIn wsL_law wsX6_longest := goodIn_r _ [575, 420, 421, 422, 2, 423, 28, 27, 424, 425, 426, 26, 427, 88, 86, 79, 428, 429, 430, 431, 87, 78, 80, 81, 82, 83, 84, 432, 324, 325, 22, 326, 65, 66, 68, 433, 434, 435, 436, 437, 438, 439, 440, 441, 442, 443, 444, 445, 446, 447, 448, 449, 450, 451, 452, 453, 454, 455, 456, 457, 458, 459, 460, 461, 462, 463, 464, 465, 466, 467, 468, 469, 470, 471, 472, 473, 474, 475, 476, 477, 478, 576, 577, 578, 579, 580, 581, 582, 583, 584, 197, 198, 199, 59, 585, 770, 771, 772, 773, 774, 775, 776, 777, 778, 779, 780, 781, 833, 834, 835, 836, 837, 838, 839, 840, 841, 842, 818, 819, 820, 821, 822, 823, 824, 825, 826, 827, 828, 829, 830, 831, 832] (by rfl) (by decide +kernel)
set_option maxRecDepth 20000 in
theorem gL_law_X6_longest : GoodIn wsL_law (wsV RL 81 RX6 yX6_longest wsX6_longest) := goodIn_app (goodIn_of _ (by decide +kernel)) ggL_law_X6_longest
set_option maxRecDepth 20000 in
theorem ggL_law_X7_longest : GoodIn wsL_law wsX7_longest := goodIn_r _ [589, 220, 230, 229, 252, 253, 5, 254, 483, 484, 485, 486, 487, 488, 489, 490, 222, 491, 228, 224, 221, 223, 492, 493, 494, 495, 496, 497, 231, 232, 233, 234, 498, 499, 500, 501, 502, 503, 504, 505, 506, 507, 508, 509, 510, 511, 512, 513, 514, 515, 516, 517, 518, 519, 520, 521, 522, 523, 782, 783, 784, 785, 786, 787, 788, 789, 790, 791, 792, 793, 794, 795, 796, 797, 798, 799, 800, 801, 802, 803, 804, 805, 806, 807, 808, 809, 810, 811, 812] (by rfl) (by decide +kernel)
set_option maxRecDepth 20000 in
theorem gL_law_X7_longest : GoodIn wsL_law (wsV RL 84 RX7 yX7_longest wsX7_longest) := goodIn_app (goodIn_of _ (by decide +kernel)) ggL_law_X7_longest
set_option maxRecDepth 20000 in
theorem ggL_law_X6_greatest : GoodIn wsL_law wsX6_greatest := goodIn_r _ [593, 23, 594, 476, 477, 478, 322, 197, 198, 22, 199, 59, 595, 596, 597, 2, 598, 29, 30, 296, 297, 298, 299, 60, 61, 62, 63, 64, 65, 66, 67, 68, 69, 70, 71, 72, 73, 300, 301, 302, 599, 600, 601, 602, 424, 425, 426, 26, 427, 88, 86, 79, 428, 429, 430, 431, 87, 78, 80, 81, 82, 83, 84, 432, 324, 325, 326, 433, 434, 435, 436, 437, 438, 439, 440, 441, 442, 443, 444, 445, 446, 447, 448, 449, 450, 451, 452, 453, 454, 455, 456, 457, 458, 459, 460, 461, 462, 463, 464, 465, 466, 467, 468, 469, 470, 471, 472, 473, 474, 475, 770, 771, 772, 773, 774, 775, 776, 777, 778, 779, 780, 781, 818, 819, 820, 821, 822, 823, 824, 825, 826, 827, 828, 829, 830, 831, 832, 833, 834, 835, 836, 837, 838, 839, 840, 841, 842] (by rfl) (by decide +kernel)
set_option maxRecDepth 20000 in
theorem gL_law_X6_greatest : GoodIn wsL_law (wsV RL 85 RX6 yX6_greatest wsX6_greatest) := goodIn_app (goodIn_of _ (by decide +kernel)) ggL_law_X6_greatest
set_option maxRecDepth 20000 in
theorem ggL_law_X7_greatest : GoodIn wsL_law wsX7_greatest := goodIn_r _ [606, 228, 491, 331, 332, 333, 5, 334, 220, 252, 253, 254, 607, 608, 609, 610, 222, 224, 487, 488, 489, 490, 229, 221, 223, 492, 493, 494, 495, 496, 497, 230, 231, 232, 233, 234, 498, 499, 500, 501, 502, 503, 504, 505, 506, 507, 508, 509, 510, 511, 512, 513, 514, 515, 516, 517, 518, 519, 520, 521, 522, 523, 611, 612, 613, 614, 782, 783, 784, 785, 786, 787, 788, 789, 790, 791, 792, 793, 794, 795, 796, 797, 798, 799, 800, 801, 802, 803, 804, 805, 806, 807, 808, 809, 810, 811, 812] (by rfl) (by decide +kernel)
set_option maxRecDepth 20000 in
theorem gL_law_X7_greatest : GoodIn wsL_law (wsV RL 88 RX7 yX7_greatest wsX7_greatest) := goodIn_app (goodIn_of _ (by decide +kernel)) ggL_law_X7_greatest
set_option maxRecDepth 20000 in
theorem ggL_law_X6_needs : GoodIn wsL_law wsX6_needs := goodIn_r _ [618, 23, 619, 620, 477, 621, 322, 197, 198, 22, 199, 59, 323, 324, 325, 326, 65, 66, 68, 595, 596, 597, 2, 598, 29, 30, 296, 297, 298, 299, 60, 61, 62, 63, 64, 67, 69, 70, 71, 72, 73, 300, 301, 302, 599, 600, 601, 602, 424, 425, 426, 26, 427, 88, 86, 79, 428, 429, 430, 431, 87, 78, 80, 81, 82, 83, 84, 432, 433, 434, 435, 436, 437, 438, 439, 440, 441, 442, 443, 444, 445, 446, 447, 448, 449, 450, 451, 452, 453, 454, 455, 456, 457, 458, 459, 460, 461, 462, 463, 464, 465, 466, 467, 468, 469, 470, 471, 472, 473, 474, 475, 476, 478, 770, 771, 772, 773, 774, 775, 776, 777, 778, 779, 780, 781, 818, 819, 820, 821, 822, 823, 824, 825, 826, 827, 828, 829, 830, 831, 832, 833, 834, 835, 836, 837, 838, 839, 840, 841, 842] (by rfl) (by decide +kernel)
set_option maxRecDepth 20000 in
theorem gL_law_X6_needs : GoodIn wsL_law (wsV RL 89 RX6 yX6_needs wsX6_needs) := goodIn_app (goodIn_of _ (by decide +kernel)) ggL_law_X6_needs
set_option maxRecDepth 20000 in
theorem ggL_law_X7_needs : GoodIn wsL_law wsX7_needs := goodIn_r _ [625, 229, 331, 332, 333, 5, 334, 220, 252, 253, 254, 487, 488, 489, 490, 222, 491, 228, 224, 221, 223, 492, 493, 494, 495, 496, 497, 230, 231, 232, 233, 234, 498, 499, 500, 501, 502, 503, 504, 505, 506, 507, 508, 509, 510, 511, 512, 513, 514, 515, 516, 517, 518, 519, 520, 521, 522, 523, 611, 612, 613, 614, 782, 783, 784, 785, 786, 787, 788, 789, 790, 791, 792, 793, 794, 795, 796, 797, 798, 799, 800, 801, 802, 803, 804, 805, 806, 807, 808, 809, 810, 811, 812] (by rfl) (by decide +kernel)
set_option maxRecDepth 20000 in
theorem gL_law_X7_needs : GoodIn wsL_law (wsV RL 92 RX7 yX7_needs wsX7_needs) := goodIn_app (goodIn_of _ (by decide +kernel)) ggL_law_X7_needs
set_option maxRecDepth 20000 in
theorem ggL_law_X6_mend : GoodIn wsL_law wsX6_mend := goodIn_r _ [629, 23, 29, 30, 296, 297, 298, 22, 299, 59, 60, 61, 62, 63, 64, 65, 66, 67, 68, 69, 70, 71, 72, 73, 300, 301, 302, 630, 631, 632, 633, 634, 344, 345, 346, 424, 425, 426, 26, 427, 88, 86, 79, 428, 429, 430, 431, 87, 78, 80, 81, 82, 83, 84, 432, 324, 325, 326, 433, 434, 435, 436, 437, 438, 439, 440, 441, 442, 443, 444, 445, 446, 447, 448, 449, 450, 451, 452, 453, 454, 455, 456, 457, 458, 459, 460, 461, 462, 463, 464, 465, 466, 467, 468, 469, 470, 471, 472, 473, 474, 475, 476, 477, 478, 635, 636, 637, 638, 639, 640, 641, 770, 771, 772, 773, 774, 775, 776, 777, 778, 779, 780, 781, 818, 819, 820, 821, 822, 823, 824, 825, 826, 827, 828, 829, 830, 831, 832, 833, 834, 835, 836, 837, 838, 839, 840, 841, 842] (by rfl) (by decide +kernel)
set_option maxRecDepth 20000 in
theorem gL_law_X6_mend : GoodIn wsL_law (wsV RL 93 RX6 yX6_mend wsX6_mend) := goodIn_app (goodIn_of _ (by decide +kernel)) ggL_law_X6_mend
set_option maxRecDepth 20000 in
theorem ggL_law_X7_mend : GoodIn wsL_law wsX7_mend := goodIn_r _ [645, 222, 252, 253, 5, 254, 607, 608, 609, 610, 491, 224, 228, 487, 488, 489, 490, 220, 229, 221, 223, 492, 493, 494, 495, 496, 497, 230, 231, 232, 233, 234, 498, 499, 500, 501, 502, 503, 504, 505, 506, 507, 508, 509, 510, 511, 512, 513, 514, 515, 516, 517, 518, 519, 520, 521, 522, 523, 646, 647, 648, 649, 782, 783, 784, 785, 786, 787, 788, 789, 790, 791, 792, 793, 794, 795, 796, 797, 798, 799, 800, 801, 802, 803, 804, 805, 806, 807, 808, 809, 810, 811, 812] (by rfl) (by decide +kernel)
set_option maxRecDepth 20000 in
theorem gL_law_X7_mend : GoodIn wsL_law (wsV RL 96 RX7 yX7_mend wsX7_mend) := goodIn_app (goodIn_of _ (by decide +kernel)) ggL_law_X7_mend
set_option maxRecDepth 20000 in
theorem ggL_law_X6_limits : GoodIn wsL_law wsX6_limits := goodIn_r _ [653, 29, 23, 30, 359, 190, 2, 191, 296, 297, 298, 22, 299, 59, 60, 61, 62, 63, 64, 65, 66, 67, 68, 69, 70, 71, 72, 73, 300, 301, 302, 424, 425, 426, 26, 427, 88, 86, 79, 428, 429, 430, 431, 87, 78, 80, 81, 82, 83, 84, 432, 324, 325, 326, 433, 434, 435, 436, 437, 438, 439, 440, 441, 442, 443, 444, 445, 446, 447, 448, 449, 450, 451, 452, 453, 454, 455, 456, 457, 458, 459, 460, 461, 462, 463, 464, 465, 466, 467, 468, 469, 470, 471, 472, 473, 474, 475, 476, 477, 478, 635, 636, 637, 638, 639, 640, 641, 770, 771, 772, 773, 774, 775, 776, 777, 778, 779, 780, 781, 818, 819, 820, 821, 822, 823, 824, 825, 826, 827, 828, 829, 830, 831, 832, 833, 834, 835, 836, 837, 838, 839, 840, 841, 842] (by rfl) (by decide +kernel)
set_option maxRecDepth 20000 in
theorem gL_law_X6_limits : GoodIn wsL_law (wsV RL 97 RX6 yX6_limits wsX6_limits) := goodIn_app (goodIn_of _ (by decide +kernel)) ggL_law_X6_limits
set_option maxRecDepth 20000 in
theorem ggL_law_X7_limits : GoodIn wsL_law wsX7_limits := goodIn_r _ [657, 220, 229, 252, 253, 5, 254, 487, 488, 489, 490, 222, 491, 228, 224, 221, 223, 492, 493, 494, 495, 496, 497, 230, 231, 232, 233, 234, 498, 499, 500, 501, 502, 503, 504, 505, 506, 507, 508, 509, 510, 511, 512, 513, 514, 515, 516, 517, 518, 519, 520, 521, 522, 523, 646, 647, 648, 649, 782, 783, 784, 785, 786, 787, 788, 789, 790, 791, 792, 793, 794, 795, 796, 797, 798, 799, 800, 801, 802, 803, 804, 805, 806, 807, 808, 809, 810, 811, 812] (by rfl) (by decide +kernel)
set_option maxRecDepth 20000 in
theorem gL_law_X7_limits : GoodIn wsL_law (wsV RL 100 RX7 yX7_limits wsX7_limits) := goodIn_app (goodIn_of _ (by decide +kernel)) ggL_law_X7_limits
set_option maxRecDepth 20000 in
theorem ggL_law_X6_ring : GoodIn wsL_law wsX6_ring := goodIn_r _ [661, 23, 322, 197, 198, 22, 199, 59, 662, 663, 664, 2, 665, 666, 667, 668, 669, 65, 66, 67, 770, 771, 772, 773, 774, 775, 776, 777, 778, 779, 780, 781, 818, 819, 820, 821, 822, 823, 824, 825, 826, 827, 828, 829, 830, 831, 832] (by rfl) (by decide +kernel)
set_option maxRecDepth 20000 in
theorem gL_law_X6_ring : GoodIn wsL_law (wsV RL 101 RX6 yX6_ring wsX6_ring) := goodIn_app (goodIn_of _ (by decide +kernel)) ggL_law_X6_ring
set_option maxRecDepth 20000 in
theorem ggL_law_X7_ring : GoodIn wsL_law wsX7_ring := goodIn_r _ [673, 220, 222, 224, 331, 332, 333, 5, 334, 252, 253, 254, 782, 783, 784, 785, 786, 787, 788, 789, 790, 791, 792, 793, 794, 795, 796, 797, 798, 799, 800, 801, 802, 803, 804, 805, 806, 807, 808, 809, 810, 811, 812] (by rfl) (by decide +kernel)
set_option maxRecDepth 20000 in
theorem gL_law_X7_ring : GoodIn wsL_law (wsV RL 104 RX7 yX7_ring wsX7_ring) := goodIn_app (goodIn_of _ (by decide +kernel)) ggL_law_X7_ring
set_option maxRecDepth 20000 in
theorem ggL_law_X6_owes : GoodIn wsL_law wsX6_owes := goodIn_r _ [677, 23, 322, 197, 198, 22, 199, 59, 323, 324, 325, 326, 65, 66, 68, 678, 679, 680, 681, 67, 770, 771, 772, 773, 774, 775, 776, 777, 778, 779, 780, 781, 818, 819, 820, 821, 822, 823, 824, 825, 826, 827, 828, 829, 830, 831, 832] (by rfl) (by decide +kernel)
set_option maxRecDepth 20000 in
theorem gL_law_X6_owes : GoodIn wsL_law (wsV RL 105 RX6 yX6_owes wsX6_owes) := goodIn_app (goodIn_of _ (by decide +kernel)) ggL_law_X6_owes
set_option maxRecDepth 20000 in
theorem ggL_law_X7_owes : GoodIn wsL_law wsX7_owes := goodIn_r _ [685, 222, 224, 331, 332, 333, 5, 334, 220, 252, 253, 254, 782, 783, 784, 785, 786, 787, 788, 789, 790, 791, 792, 793, 794, 795, 796, 797, 798, 799, 800, 801, 802, 803, 804, 805, 806, 807, 808, 809, 810, 811, 812] (by rfl) (by decide +kernel)
set_option maxRecDepth 20000 in
theorem gL_law_X7_owes : GoodIn wsL_law (wsV RL 108 RX7 yX7_owes wsX7_owes) := goodIn_app (goodIn_of _ (by decide +kernel)) ggL_law_X7_owes
set_option maxRecDepth 20000 in
theorem ggL_law_X6_seen : GoodIn wsL_law wsX6_seen := goodIn_r _ [689, 23, 38, 322, 197, 198, 22, 199, 59, 359, 190, 2, 191, 690, 691, 692, 37, 693, 102, 99, 100, 101, 770, 771, 772, 773, 774, 775, 776, 777, 778, 779, 780, 781, 847, 848, 849, 850, 818, 819, 820, 821, 822, 823, 824, 825, 826, 827, 828, 829, 830, 831, 832] (by rfl) (by decide +kernel)
set_option maxRecDepth 20000 in
theorem gL_law_X6_seen : GoodIn wsL_law (wsV RL 109 RX6 yX6_seen wsX6_seen) := goodIn_app (goodIn_of _ (by decide +kernel)) ggL_law_X6_seen
set_option maxRecDepth 20000 in
theorem ggL_law_X7_seen : GoodIn wsL_law wsX7_seen := goodIn_r _ [697, 315, 227, 331, 332, 333, 5, 334, 220, 252, 253, 254, 782, 783, 784, 785, 786, 787, 788, 789, 790, 791, 792, 793, 794, 795, 796, 797, 798, 799, 800, 801, 802, 803, 804, 805, 806, 807, 808, 809, 810, 811, 812] (by rfl) (by decide +kernel)
set_option maxRecDepth 20000 in
theorem gL_law_X7_seen : GoodIn wsL_law (wsV RL 112 RX7 yX7_seen wsX7_seen) := goodIn_app (goodIn_of _ (by decide +kernel)) ggL_law_X7_seen
set_option maxRecDepth 20000 in
theorem ggL_law_X6_forget : GoodIn wsL_law wsX6_forget := goodIn_r _ [701, 38, 307, 308, 309, 37, 310, 102, 770, 771, 772, 773, 774, 775, 776, 777, 778, 779, 780, 781, 847, 848, 849, 850] (by rfl) (by decide +kernel)
set_option maxRecDepth 20000 in
theorem gL_law_X6_forget : GoodIn wsL_law (wsV RL 113 RX6 yX6_forget wsX6_forget) := goodIn_app (goodIn_of _ (by decide +kernel)) ggL_law_X6_forget
set_option maxRecDepth 20000 in
theorem ggL_law_X7_forget : GoodIn wsL_law wsX7_forget := goodIn_r _ [705, 315, 782, 783, 784, 785, 786, 787, 788, 789, 790, 791, 792, 793, 794, 795, 796, 797, 798, 799, 800, 801, 802, 803, 804, 805, 806, 807, 808, 809, 810, 811, 812] (by rfl) (by decide +kernel)
set_option maxRecDepth 20000 in
theorem gL_law_X7_forget : GoodIn wsL_law (wsV RL 116 RX7 yX7_forget wsX7_forget) := goodIn_app (goodIn_of _ (by decide +kernel)) ggL_law_X7_forget
set_option maxRecDepth 20000 in
theorem ggL_law_X6_kinds : GoodIn wsL_law wsX6_kinds := goodIn_r _ [709, 23, 29, 30, 38, 322, 197, 198, 22, 199, 59, 296, 297, 298, 299, 60, 61, 62, 63, 64, 65, 66, 67, 68, 69, 70, 71, 72, 73, 300, 301, 302, 424, 425, 426, 26, 427, 88, 86, 79, 428, 429, 430, 431, 87, 78, 80, 81, 82, 83, 84, 432, 324, 325, 326, 433, 434, 435, 436, 437, 438, 439, 440, 441, 442, 443, 444, 445, 446, 447, 448, 449, 450, 451, 452, 453, 454, 455, 456, 457, 458, 459, 460, 461, 462, 463, 464, 465, 466, 467, 468, 469, 470, 471, 472, 473, 474, 475, 476, 477, 478, 710, 711, 712, 37, 713, 102, 99, 100, 101, 770, 771, 772, 773, 774, 775, 776, 777, 778, 779, 780, 781, 818, 819, 820, 821, 822, 823, 824, 825, 826, 827, 828, 829, 830, 831, 832, 833, 834, 835, 836, 837, 838, 839, 840, 841, 842, 847, 848, 849, 850] (by rfl) (by decide +kernel)
set_option maxRecDepth 20000 in
theorem gL_law_X6_kinds : GoodIn wsL_law (wsV RL 117 RX6 yX6_kinds wsX6_kinds) := goodIn_app (goodIn_of _ (by decide +kernel)) ggL_law_X6_kinds
set_option maxRecDepth 20000 in
theorem ggL_law_X7_kinds : GoodIn wsL_law wsX7_kinds := goodIn_r _ [717, 229, 315, 227, 234, 331, 332, 333, 5, 334, 220, 252, 253, 254, 487, 488, 489, 490, 222, 491, 228, 224, 221, 223, 492, 493, 494, 495, 496, 497, 230, 231, 232, 233, 498, 499, 500, 501, 502, 503, 504, 505, 506, 507, 508, 509, 510, 511, 512, 513, 514, 515, 516, 517, 518, 519, 520, 521, 522, 523, 782, 783, 784, 785, 786, 787, 788, 789, 790, 791, 792, 793, 794, 795, 796, 797, 798, 799, 800, 801, 802, 803, 804, 805, 806, 807, 808, 809, 810, 811, 812] (by rfl) (by decide +kernel)
set_option maxRecDepth 20000 in
theorem gL_law_X7_kinds : GoodIn wsL_law (wsV RL 120 RX7 yX7_kinds wsX7_kinds) := goodIn_app (goodIn_of _ (by decide +kernel)) ggL_law_X7_kinds
set_option maxRecDepth 20000 in
theorem ggL_law_X6_odds : GoodIn wsL_law wsX6_odds := goodIn_r _ [721, 23, 322, 197, 198, 22, 199, 59, 359, 190, 2, 191, 722, 723, 724, 770, 771, 772, 773, 774, 775, 776, 777, 778, 779, 780, 781, 818, 819, 820, 821, 822, 823, 824, 825, 826, 827, 828, 829, 830, 831, 832] (by rfl) (by decide +kernel)
set_option maxRecDepth 20000 in
theorem gL_law_X6_odds : GoodIn wsL_law (wsV RL 121 RX6 yX6_odds wsX6_odds) := goodIn_app (goodIn_of _ (by decide +kernel)) ggL_law_X6_odds
set_option maxRecDepth 20000 in
theorem ggL_law_X7_odds : GoodIn wsL_law wsX7_odds := goodIn_r _ [728, 221, 331, 332, 333, 5, 334, 220, 252, 253, 254, 782, 783, 784, 785, 786, 787, 788, 789, 790, 791, 792, 793, 794, 795, 796, 797, 798, 799, 800, 801, 802, 803, 804, 805, 806, 807, 808, 809, 810, 811, 812] (by rfl) (by decide +kernel)
set_option maxRecDepth 20000 in
theorem gL_law_X7_odds : GoodIn wsL_law (wsV RL 125 RX7 yX7_odds wsX7_odds) := goodIn_app (goodIn_of _ (by decide +kernel)) ggL_law_X7_odds
set_option maxRecDepth 20000 in
theorem ggL_law_X6_generations : GoodIn wsL_law wsX6_generations := goodIn_r _ [732, 29, 23, 30, 359, 190, 2, 191, 296, 297, 298, 22, 299, 59, 60, 61, 62, 63, 64, 65, 66, 67, 68, 69, 70, 71, 72, 73, 300, 301, 302, 424, 425, 426, 26, 427, 88, 86, 79, 428, 429, 430, 431, 87, 78, 80, 81, 82, 83, 84, 432, 324, 325, 326, 433, 434, 435, 436, 437, 438, 439, 440, 441, 442, 443, 444, 445, 446, 447, 448, 449, 450, 451, 452, 453, 454, 455, 456, 457, 458, 459, 460, 461, 462, 463, 464, 465, 466, 467, 468, 469, 470, 471, 472, 473, 474, 475, 476, 477, 478, 635, 636, 637, 638, 639, 640, 641, 733, 734, 735, 736, 737, 620, 621, 564, 565, 566, 567, 770, 771, 772, 773, 774, 775, 776, 777, 778, 779, 780, 781, 818, 819, 820, 821, 822, 823, 824, 825, 826, 827, 828, 829, 830, 831, 832, 833, 834, 835, 836, 837, 838, 839, 840, 841, 842] (by rfl) (by decide +kernel)
set_option maxRecDepth 20000 in
theorem gL_law_X6_generations : GoodIn wsL_law (wsV RL 126 RX6 yX6_generations wsX6_generations) := goodIn_app (goodIn_of _ (by decide +kernel)) ggL_law_X6_generations
set_option maxRecDepth 20000 in
theorem ggL_law_X7_generations : GoodIn wsL_law wsX7_generations := goodIn_r _ [741, 492, 220, 230, 252, 253, 5, 254, 487, 488, 489, 490, 222, 491, 228, 224, 229, 221, 223, 493, 494, 495, 496, 497, 231, 232, 233, 234, 498, 499, 500, 501, 502, 503, 504, 505, 506, 507, 508, 509, 510, 511, 512, 513, 514, 515, 516, 517, 518, 519, 520, 521, 522, 523, 611, 612, 613, 614, 646, 647, 648, 649, 782, 783, 784, 785, 786, 787, 788, 789, 790, 791, 792, 793, 794, 795, 796, 797, 798, 799, 800, 801, 802, 803, 804, 805, 806, 807, 808, 809, 810, 811, 812] (by rfl) (by decide +kernel)
set_option maxRecDepth 20000 in
theorem gL_law_X7_generations : GoodIn wsL_law (wsV RL 129 RX7 yX7_generations wsX7_generations) := goodIn_app (goodIn_of _ (by decide +kernel)) ggL_law_X7_generations
set_option maxRecDepth 20000 in
theorem ggL_law_X6_keep : GoodIn wsL_law wsX6_keep := goodIn_r _ [745, 41, 23, 746, 747, 748, 2, 749, 39, 40, 296, 297, 298, 22, 299, 59, 60, 61, 62, 63, 64, 65, 66, 67, 68, 69, 70, 71, 72, 73, 300, 301, 302, 770, 771, 772, 773, 774, 775, 776, 777, 778, 779, 780, 781, 818, 819, 820, 821, 822, 823, 824, 825, 826, 827, 828, 829, 830, 831, 832] (by rfl) (by decide +kernel)
set_option maxRecDepth 20000 in
theorem gL_law_X6_keep : GoodIn wsL_law (wsV RL 130 RX6 yX6_keep wsX6_keep) := goodIn_app (goodIn_of _ (by decide +kernel)) ggL_law_X6_keep
set_option maxRecDepth 20000 in
theorem ggL_law_X7_keep : GoodIn wsL_law wsX7_keep := goodIn_r _ [753, 317, 224, 226, 376, 377, 5, 378, 782, 783, 784, 785, 786, 787, 788, 789, 790, 791, 792, 793, 794, 795, 796, 797, 798, 799, 800, 801, 802, 803, 804, 805, 806, 807, 808, 809, 810, 811, 812] (by rfl) (by decide +kernel)
set_option maxRecDepth 20000 in
theorem gL_law_X7_keep : GoodIn wsL_law (wsV RL 133 RX7 yX7_keep wsX7_keep) := goodIn_app (goodIn_of _ (by decide +kernel)) ggL_law_X7_keep
set_option maxRecDepth 20000 in
theorem ggL_law_X6_back : GoodIn wsL_law wsX6_back := goodIn_r _ [757, 41, 23, 34, 28, 746, 747, 748, 2, 749, 39, 40, 296, 297, 298, 22, 299, 59, 60, 61, 62, 63, 64, 65, 66, 67, 68, 69, 70, 71, 72, 73, 300, 301, 302, 303, 304, 305, 33, 306, 95, 770, 771, 772, 773, 774, 775, 776, 777, 778, 779, 780, 781, 818, 819, 820, 821, 822, 823, 824, 825, 826, 827, 828, 829, 830, 831, 832, 843, 844, 845, 846] (by rfl) (by decide +kernel)
set_option maxRecDepth 20000 in
theorem gL_law_X6_back : GoodIn wsL_law (wsV RL 134 RX6 yX6_back wsX6_back) := goodIn_app (goodIn_of _ (by decide +kernel)) ggL_law_X6_back
set_option maxRecDepth 20000 in
theorem ggL_law_X7_back : GoodIn wsL_law wsX7_back := goodIn_r _ [761, 317, 226, 224, 316, 376, 377, 5, 378, 782, 783, 784, 785, 786, 787, 788, 789, 790, 791, 792, 793, 794, 795, 796, 797, 798, 799, 800, 801, 802, 803, 804, 805, 806, 807, 808, 809, 810, 811, 812] (by rfl) (by decide +kernel)
set_option maxRecDepth 20000 in
theorem gL_law_X7_back : GoodIn wsL_law (wsV RL 137 RX7 yX7_back wsX7_back) := goodIn_app (goodIn_of _ (by decide +kernel)) ggL_law_X7_back
set_option maxRecDepth 20000 in
theorem ggL_law_X6_count : GoodIn wsL_law wsX6_count := goodIn_r _ [765, 23, 38, 34, 41, 15, 770, 771, 772, 773, 774, 775, 776, 777, 778, 779, 780, 781, 818, 819, 820, 821, 822, 823, 824, 825, 826, 827, 828, 829, 830, 831, 832, 847, 848, 849, 850, 843, 844, 845, 846, 813, 814] (by rfl) (by decide +kernel)
set_option maxRecDepth 20000 in
theorem gL_law_X6_count : GoodIn wsL_law (wsV RL 138 RX6 yX6_count wsX6_count) := goodIn_app (goodIn_of _ (by decide +kernel)) ggL_law_X6_count
set_option maxRecDepth 20000 in
theorem ggL_law_X7_count : GoodIn wsL_law wsX7_count := goodIn_r _ [769, 220, 222, 224, 315, 316, 317, 251, 782, 783, 784, 785, 786, 787, 788, 789, 790, 791, 792, 793, 794, 795, 796, 797, 798, 799, 800, 801, 802, 803, 804, 805, 806, 807, 808, 809, 810, 811, 812] (by rfl) (by decide +kernel)
set_option maxRecDepth 20000 in
theorem gL_law_X7_count : GoodIn wsL_law (wsV RL 141 RX7 yX7_count wsX7_count) := goodIn_app (goodIn_of _ (by decide +kernel)) ggL_law_X7_count
abbrev vwCl : List vw_C := [(RX0, TX0, 15), (RX1, TX1, 4), (RX2, TX2, 3), (RX3, TX3, 2), (RX4, TX4, 4), (RX5, TX5, 10), (RX6, TX6, 12), (RX7, TX7, 31)]

