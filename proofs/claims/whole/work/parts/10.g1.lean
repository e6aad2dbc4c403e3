set_option maxRecDepth 20000 in
theorem ggX0_init_X7_init : GoodIn wsX0_init wsX7_init := goodIn_r _ [14, 15, 2, 3, 16, 17, 18, 19, 8, 20, 21, 22, 23, 24, 25, 26, 27, 28, 29, 35, 36, 37, 38, 39, 40, 41] (by decide +kernel) (by decide +kernel)
set_option maxRecDepth 20000 in
theorem gX0_init_X7_init_n11 : GoodIn wsX0_init (wsX7_init) := ggX0_init_X7_init
set_option maxRecDepth 20000 in
theorem ggX0_print_X7_isTold : GoodIn wsX0_print wsX7_isTold := goodIn_r _ [6, 7, 8, 42, 43, 44, 45, 46, 47, 48, 49, 50, 51, 52] (by decide +kernel) (by decide +kernel)
set_option maxRecDepth 20000 in
theorem gX0_print_X7_isTold_n35 : GoodIn wsX0_print (wsX7_isTold) := ggX0_print_X7_isTold
set_option maxRecDepth 20000 in
theorem ggX0_print_X0_setIn : GoodIn wsX0_print wsX0_setIn := goodIn_r _ [13, 1, 2, 14, 15, 16, 17, 12, 18, 19, 20, 21, 22, 23, 24, 25, 26, 27, 28, 29, 30, 37, 38, 39, 40, 41, 42, 43, 44, 45, 46, 47, 48, 49, 50, 51, 52] (by decide +kernel) (by decide +kernel)
set_option maxRecDepth 20000 in
theorem gX0_print_X0_setIn : GoodIn wsX0_print (wsV RX0 39 RX0 yX0_setIn wsX0_setIn) := goodIn_app (goodIn_of _ (by decide +kernel)) ggX0_print_X0_setIn
set_option maxRecDepth 20000 in
theorem ggX0_print_X0_breakPages : GoodIn wsX0_print wsX0_breakPages := goodIn_r _ [34, 35, 1, 36, 15, 16, 17, 12, 18, 2, 14, 22, 23, 24, 25, 26, 27, 28, 29, 30, 37, 38, 39, 40, 41, 42, 43, 44, 45, 46, 47, 48, 49, 50, 51, 52] (by decide +kernel) (by decide +kernel)
set_option maxRecDepth 20000 in
theorem gX0_print_X0_breakPages : GoodIn wsX0_print (wsV RX0 43 RX0 yX0_breakPages wsX0_breakPages) := goodIn_app (goodIn_of _ (by decide +kernel)) ggX0_print_X0_breakPages
set_option maxRecDepth 20000 in
theorem ggX0_setIn_X0_deedIn : GoodIn wsX0_setIn wsX0_deedIn := goodIn_r _ [8, 2, 3, 21, 22, 23, 24, 25, 26, 27, 28, 29] (by decide +kernel) (by decide +kernel)
set_option maxRecDepth 20000 in
theorem gX0_setIn_X0_deedIn : GoodIn wsX0_setIn (wsV RX0 50 RX0 yX0_deedIn wsX0_deedIn) := goodIn_app (goodIn_of _ (by decide +kernel)) ggX0_setIn_X0_deedIn
set_option maxRecDepth 20000 in
theorem ggX0_setIn_X0_goesAhead : GoodIn wsX0_setIn wsX0_goesAhead := goodIn_r _ [11, 12, 13, 14, 15, 16, 17, 18, 19, 20, 30, 31, 32, 33, 34, 35, 36] (by decide +kernel) (by decide +kernel)
set_option maxRecDepth 20000 in
theorem gX0_setIn_X0_goesAhead : GoodIn wsX0_setIn (va_wsS RX0 54 yX0_goesAhead wsX0_goesAhead) := goodIn_app (goodIn_of _ (by decide +kernel)) ggX0_setIn_X0_goesAhead
set_option maxRecDepth 20000 in
theorem ggX0_goesAhead_X1_size : GoodIn wsX0_goesAhead wsX1_size := goodIn_r _ [4, 5, 6, 7, 8, 9, 10, 11, 12, 13, 14, 15, 16] (by decide +kernel) (by decide +kernel)
set_option maxRecDepth 20000 in
theorem gX0_goesAhead_X1_size_n63 : GoodIn wsX0_goesAhead (wsX1_size) := ggX0_goesAhead_X1_size
set_option maxRecDepth 20000 in
theorem ggX0_breakPages_X0_deedIn : GoodIn wsX0_breakPages wsX0_deedIn := goodIn_r _ [8, 9, 10, 20, 21, 22, 23, 24, 25, 26, 27, 28] (by decide +kernel) (by decide +kernel)
set_option maxRecDepth 20000 in
theorem gX0_breakPages_X0_deedIn : GoodIn wsX0_breakPages (wsV RX0 50 RX0 yX0_deedIn wsX0_deedIn) := goodIn_app (goodIn_of _ (by decide +kernel)) ggX0_breakPages_X0_deedIn
set_option maxRecDepth 20000 in
theorem ggX0_breakPages_X1_size : GoodIn wsX0_breakPages wsX1_size := goodIn_r _ [14, 15, 16, 17, 18, 19, 29, 30, 31, 32, 33, 34, 35] (by decide +kernel) (by decide +kernel)
set_option maxRecDepth 20000 in
theorem gX0_breakPages_X1_size_n63 : GoodIn wsX0_breakPages (wsX1_size) := ggX0_breakPages_X1_size
set_option maxRecDepth 20000 in
theorem ggX0_pageOf_X0_placeOf : GoodIn wsX0_pageOf wsX0_placeOf := goodIn_r _ [6, 7, 8, 9, 10, 11, 12, 13] (by decide +kernel) (by decide +kernel)
set_option maxRecDepth 20000 in
theorem gX0_pageOf_X0_placeOf : GoodIn wsX0_pageOf (wsV RX0 67 RX0 yX0_placeOf wsX0_placeOf) := goodIn_app (goodIn_of _ (by decide +kernel)) ggX0_pageOf_X0_placeOf
set_option maxRecDepth 20000 in
theorem ggX0_greatestBy_X0_deedIn : GoodIn wsX0_greatestBy wsX0_deedIn := goodIn_r _ [7, 8, 2, 18, 19, 20, 21, 22, 30, 31, 32, 33] (by decide +kernel) (by decide +kernel)
set_option maxRecDepth 20000 in
theorem gX0_greatestBy_X0_deedIn : GoodIn wsX0_greatestBy (wsV RX0 50 RX0 yX0_deedIn wsX0_deedIn) := goodIn_app (goodIn_of _ (by decide +kernel)) ggX0_greatestBy_X0_deedIn
set_option maxRecDepth 20000 in
theorem ggX0_greatestBy_X1_size : GoodIn wsX0_greatestBy wsX1_size := goodIn_r _ [12, 13, 14, 15, 16, 17, 23, 24, 25, 26, 27, 28, 29] (by decide +kernel) (by decide +kernel)
set_option maxRecDepth 20000 in
theorem gX0_greatestBy_X1_size_n63 : GoodIn wsX0_greatestBy (wsX1_size) := ggX0_greatestBy_X1_size
set_option maxRecDepth 20000 in
theorem ggX0_newsFor_X0_deedIn : GoodIn wsX0_newsFor wsX0_deedIn := goodIn_r _ [9, 3, 4, 27, 28, 29, 30, 31, 32, 33, 34, 35] (by decide +kernel) (by decide +kernel)
set_option maxRecDepth 20000 in
theorem gX0_newsFor_X0_deedIn : GoodIn wsX0_newsFor (wsV RX0 50 RX0 yX0_deedIn wsX0_deedIn) := goodIn_app (goodIn_of _ (by decide +kernel)) ggX0_newsFor_X0_deedIn
set_option maxRecDepth 20000 in
theorem ggX0_newsFor_X1_isKnown : GoodIn wsX0_newsFor wsX1_isKnown := goodIn_r _ [13, 14, 15, 36, 37, 38, 39, 40, 41, 42] (by decide +kernel) (by decide +kernel)
set_option maxRecDepth 20000 in
theorem gX0_newsFor_X1_isKnown_n74 : GoodIn wsX0_newsFor (wsX1_isKnown) := ggX0_newsFor_X1_isKnown
set_option maxRecDepth 20000 in
theorem ggX0_newsFor_X1_isKept : GoodIn wsX0_newsFor wsX1_isKept := goodIn_r _ [18, 19, 20, 10, 12, 11, 13, 14, 15, 21, 22, 23, 24, 25, 26, 36, 37, 38, 39, 40, 41, 42] (by decide +kernel) (by decide +kernel)
set_option maxRecDepth 20000 in
theorem gX0_newsFor_X1_isKept_n78 : GoodIn wsX0_newsFor (wsX1_isKept) := ggX0_newsFor_X1_isKept
set_option maxRecDepth 20000 in
theorem ggX0_doersAheadOfPage_X0_deedIn : GoodIn wsX0_doersAheadOfPage wsX0_deedIn := goodIn_r _ [7, 8, 9, 10, 11, 12, 13, 14, 22, 23, 24, 25] (by decide +kernel) (by decide +kernel)
set_option maxRecDepth 20000 in
theorem gX0_doersAheadOfPage_X0_deedIn : GoodIn wsX0_doersAheadOfPage (wsV RX0 50 RX0 yX0_deedIn wsX0_deedIn) := goodIn_app (goodIn_of _ (by decide +kernel)) ggX0_doersAheadOfPage_X0_deedIn
set_option maxRecDepth 20000 in
theorem ggX0_dayAt_X0_deedIn : GoodIn wsX0_dayAt wsX0_deedIn := goodIn_r _ [7, 2, 8, 18, 19, 20, 21, 22, 30, 31, 32, 33] (by decide +kernel) (by decide +kernel)
set_option maxRecDepth 20000 in
theorem gX0_dayAt_X0_deedIn : GoodIn wsX0_dayAt (wsV RX0 50 RX0 yX0_deedIn wsX0_deedIn) := goodIn_app (goodIn_of _ (by decide +kernel)) ggX0_dayAt_X0_deedIn
set_option maxRecDepth 20000 in
theorem ggX0_dayAt_X7_lastDay : GoodIn wsX0_dayAt wsX7_lastDay := goodIn_r _ [12, 13, 14, 15, 16, 17, 30, 31, 32, 33] (by decide +kernel) (by decide +kernel)
set_option maxRecDepth 20000 in
theorem gX0_dayAt_X7_lastDay_n82 : GoodIn wsX0_dayAt (wsX7_lastDay) := ggX0_dayAt_X7_lastDay
set_option maxRecDepth 20000 in
theorem ggX0_longestGap_X0_dayAt : GoodIn wsX0_longestGap wsX0_dayAt := goodIn_r _ [10, 1, 11, 12, 13, 14, 9, 15, 16, 17, 18, 19, 20, 21, 22, 23, 4, 24, 25, 26, 27, 28, 29, 30, 31, 32, 33, 34, 35, 36, 37, 38, 39, 40] (by decide +kernel) (by decide +kernel)
set_option maxRecDepth 20000 in
theorem gX0_longestGap_X0_dayAt : GoodIn wsX0_longestGap (wsV RX0 85 RX0 yX0_dayAt wsX0_dayAt) := goodIn_app (goodIn_of _ (by decide +kernel)) ggX0_longestGap_X0_dayAt
set_option maxRecDepth 20000 in
theorem ggX0_firstOfLongestGap_X0_longestGap : GoodIn wsX0_firstOfLongestGap wsX0_longestGap := goodIn_r _ [6, 1, 7, 8, 9, 10, 11, 12, 13, 5, 14, 15, 16, 17, 18, 19, 20, 21, 22, 23, 24, 25, 26, 27, 28, 29, 30, 31, 32, 33, 34, 35, 36, 37, 38, 39, 40, 41, 42, 43, 44] (by decide +kernel) (by decide +kernel)
set_option maxRecDepth 20000 in
theorem gX0_firstOfLongestGap_X0_longestGap : GoodIn wsX0_firstOfLongestGap (wsV RX0 94 RX0 yX0_longestGap wsX0_longestGap) := goodIn_app (goodIn_of _ (by decide +kernel)) ggX0_firstOfLongestGap_X0_longestGap
set_option maxRecDepth 20000 in
theorem ggX0_firstOfLongestGap_X0_dayAt : GoodIn wsX0_firstOfLongestGap wsX0_dayAt := goodIn_r _ [14, 1, 15, 16, 17, 18, 5, 19, 20, 21, 22, 23, 24, 25, 26, 27, 9, 28, 29, 30, 31, 32, 33, 34, 35, 36, 37, 38, 39, 40, 41, 42, 43, 44] (by decide +kernel) (by decide +kernel)
set_option maxRecDepth 20000 in
theorem gX0_firstOfLongestGap_X0_dayAt : GoodIn wsX0_firstOfLongestGap (wsV RX0 85 RX0 yX0_dayAt wsX0_dayAt) := goodIn_app (goodIn_of _ (by decide +kernel)) ggX0_firstOfLongestGap_X0_dayAt
set_option maxRecDepth 20000 in
theorem ggX0_firstForged_X5_cell : GoodIn wsX0_firstForged wsX5_cell := goodIn_r _ [6, 7, 8, 9, 10, 11, 12, 13] (by decide +kernel) (by decide +kernel)
set_option maxRecDepth 20000 in
theorem gX0_firstForged_X5_cell_n102 : GoodIn wsX0_firstForged (wsX5_cell) := ggX0_firstForged_X5_cell
set_option maxRecDepth 20000 in
theorem ggX1_become_X4_lasting : GoodIn wsX1_become wsX4_lasting := goodIn_r _ [10] (by decide +kernel) (by decide +kernel)
set_option maxRecDepth 20000 in
theorem gX1_become_X4_lasting_n25 : GoodIn wsX1_become (wsX4_lasting) := ggX1_become_X4_lasting
set_option maxRecDepth 20000 in
theorem ggX1_become_X4_lastingOwn : GoodIn wsX1_become wsX4_lastingOwn := goodIn_r _ [12] (by decide +kernel) (by decide +kernel)
set_option maxRecDepth 20000 in
theorem gX1_become_X4_lastingOwn_n33 : GoodIn wsX1_become (wsX4_lastingOwn) := ggX1_become_X4_lastingOwn
set_option maxRecDepth 20000 in
theorem ggX1_size_X4_size : GoodIn wsX1_size wsX4_size := goodIn_r _ [5] (by decide +kernel) (by decide +kernel)
set_option maxRecDepth 20000 in
theorem gX1_size_X4_size_n38 : GoodIn wsX1_size (wsX4_size) := ggX1_size_X4_size
set_option maxRecDepth 20000 in
theorem ggX1_burden_X4_burden : GoodIn wsX1_burden wsX4_burden := goodIn_r _ [5] (by decide +kernel) (by decide +kernel)
set_option maxRecDepth 20000 in
theorem gX1_burden_X4_burden_n41 : GoodIn wsX1_burden (wsX4_burden) := ggX1_burden_X4_burden
set_option maxRecDepth 20000 in
theorem ggX1_isKept_X1_isKnown : GoodIn wsX1_isKept wsX1_isKnown := goodIn_r _ [6, 7, 8, 15, 16, 17, 18, 19, 20, 21] (by decide +kernel) (by decide +kernel)
set_option maxRecDepth 20000 in
theorem gX1_isKept_X1_isKnown : GoodIn wsX1_isKept (wsV RX1 44 RX1 yX1_isKnown wsX1_isKnown) := goodIn_app (goodIn_of _ (by decide +kernel)) ggX1_isKept_X1_isKnown
set_option maxRecDepth 20000 in
theorem ggX1_isKept_X1_lastingFor : GoodIn wsX1_isKept wsX1_lastingFor := goodIn_r _ [12, 7, 13, 14, 15, 16, 17, 18, 19, 20, 21] (by decide +kernel) (by decide +kernel)
set_option maxRecDepth 20000 in
theorem gX1_isKept_X1_lastingFor : GoodIn wsX1_isKept (wsV RX1 48 RX1 yX1_lastingFor wsX1_lastingFor) := goodIn_app (goodIn_of _ (by decide +kernel)) ggX1_isKept_X1_lastingFor
set_option maxRecDepth 20000 in
theorem ggX1_keepers_X1_keepersAfter : GoodIn wsX1_keepers wsX1_keepersAfter := goodIn_r _ [6, 7, 8, 9, 10, 11, 12, 13, 14, 15, 16, 17] (by decide +kernel) (by decide +kernel)
set_option maxRecDepth 20000 in
theorem gX1_keepers_X1_keepersAfter : GoodIn wsX1_keepers (wsV RX1 52 RX1 yX1_keepersAfter wsX1_keepersAfter) := goodIn_app (goodIn_of _ (by decide +kernel)) ggX1_keepers_X1_keepersAfter
set_option maxRecDepth 20000 in
theorem ggX2_isWhole_X5_cell : GoodIn wsX2_isWhole wsX5_cell := goodIn_r _ [4, 5, 6, 16, 17, 18, 19, 20] (by decide +kernel) (by decide +kernel)
set_option maxRecDepth 20000 in
theorem gX2_isWhole_X5_cell_n15 : GoodIn wsX2_isWhole (wsX5_cell) := ggX2_isWhole_X5_cell
set_option maxRecDepth 20000 in
theorem ggX2_isWhole_X7_deedAt : GoodIn wsX2_isWhole wsX7_deedAt := goodIn_r _ [10, 11, 12, 21, 22, 23, 24] (by decide +kernel) (by decide +kernel)
set_option maxRecDepth 20000 in
theorem gX2_isWhole_X7_deedAt_n19 : GoodIn wsX2_isWhole (wsX7_deedAt) := ggX2_isWhole_X7_deedAt
set_option maxRecDepth 20000 in
theorem ggX2_isWhole_X8_isWithin : GoodIn wsX2_isWhole wsX8_isWithin := goodIn_r _ [15] (by decide +kernel) (by decide +kernel)
set_option maxRecDepth 20000 in
theorem gX2_isWhole_X8_isWithin_n25 : GoodIn wsX2_isWhole (wsX8_isWithin) := ggX2_isWhole_X8_isWithin
set_option maxRecDepth 20000 in
theorem ggX2_timesTold_X5_cell : GoodIn wsX2_timesTold wsX5_cell := goodIn_r _ [4, 5, 6, 7, 8, 9, 10, 11] (by decide +kernel) (by decide +kernel)
set_option maxRecDepth 20000 in
theorem gX2_timesTold_X5_cell_n15 : GoodIn wsX2_timesTold (wsX5_cell) := ggX2_timesTold_X5_cell
set_option maxRecDepth 20000 in
theorem ggX2_dayToldMost_X5_cell : GoodIn wsX2_dayToldMost wsX5_cell := goodIn_r _ [4, 5, 6, 11, 12, 13, 14, 15] (by decide +kernel) (by decide +kernel)
set_option maxRecDepth 20000 in
theorem gX2_dayToldMost_X5_cell_n15 : GoodIn wsX2_dayToldMost (wsX5_cell) := ggX2_dayToldMost_X5_cell
set_option maxRecDepth 20000 in
theorem ggX2_dayToldMost_X2_timesTold : GoodIn wsX2_dayToldMost wsX2_timesTold := goodIn_r _ [10, 1, 2, 3, 4, 5, 6, 11, 12, 13, 14, 15] (by decide +kernel) (by decide +kernel)
set_option maxRecDepth 20000 in
theorem gX2_dayToldMost_X2_timesTold : GoodIn wsX2_dayToldMost (va_wsS RX2 29 yX2_timesTold wsX2_timesTold) := goodIn_app (goodIn_of _ (by decide +kernel)) ggX2_dayToldMost_X2_timesTold
set_option maxRecDepth 20000 in
theorem ggX2_fewestStruck_X2_dayToldMost : GoodIn wsX2_fewestStruck wsX2_dayToldMost := goodIn_r _ [4, 5, 6, 7, 8, 9, 10, 11, 12, 3, 13, 14, 15, 16, 17, 18] (by decide +kernel) (by decide +kernel)
set_option maxRecDepth 20000 in
theorem gX2_fewestStruck_X2_dayToldMost : GoodIn wsX2_fewestStruck (va_wsS RX2 35 yX2_dayToldMost wsX2_dayToldMost) := goodIn_app (goodIn_of _ (by decide +kernel)) ggX2_fewestStruck_X2_dayToldMost
set_option maxRecDepth 20000 in
theorem ggX2_fewestStruck_X2_timesTold : GoodIn wsX2_fewestStruck wsX2_timesTold := goodIn_r _ [13, 5, 6, 7, 8, 9, 10, 14, 15, 16, 17, 18] (by decide +kernel) (by decide +kernel)
set_option maxRecDepth 20000 in
theorem gX2_fewestStruck_X2_timesTold : GoodIn wsX2_fewestStruck (va_wsS RX2 29 yX2_timesTold wsX2_timesTold) := goodIn_app (goodIn_of _ (by decide +kernel)) ggX2_fewestStruck_X2_timesTold
set_option maxRecDepth 20000 in
theorem ggX2_offTheirDay_X5_cell : GoodIn wsX2_offTheirDay wsX5_cell := goodIn_r _ [4, 5, 6, 13, 14, 15, 16, 17] (by decide +kernel) (by decide +kernel)
set_option maxRecDepth 20000 in
theorem gX2_offTheirDay_X5_cell_n15 : GoodIn wsX2_offTheirDay (wsX5_cell) := ggX2_offTheirDay_X5_cell
set_option maxRecDepth 20000 in
theorem ggX2_offTheirDay_X7_deedAt : GoodIn wsX2_offTheirDay wsX7_deedAt := goodIn_r _ [10, 11, 12, 25, 26, 27, 28] (by decide +kernel) (by decide +kernel)
set_option maxRecDepth 20000 in
theorem gX2_offTheirDay_X7_deedAt_n19 : GoodIn wsX2_offTheirDay (wsX7_deedAt) := ggX2_offTheirDay_X7_deedAt
set_option maxRecDepth 20000 in
theorem ggX3_inLeastTerms_X3_commonDivisor : GoodIn wsX3_inLeastTerms wsX3_commonDivisor := goodIn_r _ [4] (by decide +kernel) (by decide +kernel)
set_option maxRecDepth 20000 in
theorem gX3_inLeastTerms_X3_commonDivisor : GoodIn wsX3_inLeastTerms (va_wsS RX3 7 yX3_commonDivisor wsX3_commonDivisor) := goodIn_app (goodIn_of _ (by decide +kernel)) ggX3_inLeastTerms_X3_commonDivisor
set_option maxRecDepth 20000 in
theorem ggX3_waysOfSoMany_X3_waysToChoose : GoodIn wsX3_waysOfSoMany wsX3_waysToChoose := goodIn_r _ [4] (by decide +kernel) (by decide +kernel)
set_option maxRecDepth 20000 in
theorem gX3_waysOfSoMany_X3_waysToChoose : GoodIn wsX3_waysOfSoMany (va_wsS RX3 13 yX3_waysToChoose wsX3_waysToChoose) := goodIn_app (goodIn_of _ (by decide +kernel)) ggX3_waysOfSoMany_X3_waysToChoose
set_option maxRecDepth 20000 in
theorem ggX3_waysOfSoMany_X3_power : GoodIn wsX3_waysOfSoMany wsX3_power := goodIn_r _ [7] (by decide +kernel) (by decide +kernel)
set_option maxRecDepth 20000 in
theorem gX3_waysOfSoMany_X3_power : GoodIn wsX3_waysOfSoMany (va_wsS RX3 17 yX3_power wsX3_power) := goodIn_app (goodIn_of _ (by decide +kernel)) ggX3_waysOfSoMany_X3_power
set_option maxRecDepth 20000 in
theorem ggX5_hold_X5_empty : GoodIn wsX5_hold wsX5_empty := goodIn_r _ [7, 8, 9, 1, 2, 10, 11, 12, 13, 14] (by decide +kernel) (by decide +kernel)
set_option maxRecDepth 20000 in
theorem gX5_hold_X5_empty : GoodIn wsX5_hold (wsV RX5 26 RX5 yX5_empty wsX5_empty) := goodIn_app (goodIn_of _ (by decide +kernel)) ggX5_hold_X5_empty
set_option maxRecDepth 20000 in
theorem ggX5_lay_X5_empty : GoodIn wsX5_lay wsX5_empty := goodIn_r _ [8, 2, 1, 9, 10, 11, 12, 13, 14, 15] (by decide +kernel) (by decide +kernel)
set_option maxRecDepth 20000 in
theorem gX5_lay_X5_empty : GoodIn wsX5_lay (wsV RX5 26 RX5 yX5_empty wsX5_empty) := goodIn_app (goodIn_of _ (by decide +kernel)) ggX5_lay_X5_empty
set_option maxRecDepth 20000 in
theorem ggX5_isSkipped_X5_cell : GoodIn wsX5_isSkipped wsX5_cell := goodIn_r _ [7, 8, 9, 10, 11, 12, 13, 14] (by decide +kernel) (by decide +kernel)
set_option maxRecDepth 20000 in
theorem gX5_isSkipped_X5_cell : GoodIn wsX5_isSkipped (wsV RX5 29 RX5 yX5_cell wsX5_cell) := goodIn_app (goodIn_of _ (by decide +kernel)) ggX5_isSkipped_X5_cell
set_option maxRecDepth 20000 in
theorem ggX5_tellsAlways_X5_isSkipped : GoodIn wsX5_tellsAlways wsX5_isSkipped := goodIn_r _ [6, 7, 8, 9, 10, 11, 5, 12, 1, 13, 14, 15, 16, 17, 18] (by decide +kernel) (by decide +kernel)
set_option maxRecDepth 20000 in
theorem gX5_tellsAlways_X5_isSkipped : GoodIn wsX5_tellsAlways (wsV RX5 34 RX5 yX5_isSkipped wsX5_isSkipped) := goodIn_app (goodIn_of _ (by decide +kernel)) ggX5_tellsAlways_X5_isSkipped
set_option maxRecDepth 20000 in
theorem ggX5_tellsAlways_X5_cell : GoodIn wsX5_tellsAlways wsX5_cell := goodIn_r _ [12, 1, 13, 14, 15, 16, 17, 18] (by decide +kernel) (by decide +kernel)
set_option maxRecDepth 20000 in
theorem gX5_tellsAlways_X5_cell : GoodIn wsX5_tellsAlways (wsV RX5 29 RX5 yX5_cell wsX5_cell) := goodIn_app (goodIn_of _ (by decide +kernel)) ggX5_tellsAlways_X5_cell
set_option maxRecDepth 20000 in
theorem ggX5_number_X5_cell : GoodIn wsX5_number wsX5_cell := goodIn_r _ [5, 6, 7, 8, 9, 10, 11, 12] (by decide +kernel) (by decide +kernel)
set_option maxRecDepth 20000 in
theorem gX5_number_X5_cell : GoodIn wsX5_number (wsV RX5 29 RX5 yX5_cell wsX5_cell) := goodIn_app (goodIn_of _ (by decide +kernel)) ggX5_number_X5_cell
set_option maxRecDepth 20000 in
theorem ggX6_firstBadByte_X5_cell : GoodIn wsX6_firstBadByte wsX5_cell := goodIn_r _ [4, 5, 6, 11, 12, 13, 14, 15] (by decide +kernel) (by decide +kernel)
set_option maxRecDepth 20000 in
theorem gX6_firstBadByte_X5_cell_n15 : GoodIn wsX6_firstBadByte (wsX5_cell) := ggX6_firstBadByte_X5_cell
set_option maxRecDepth 20000 in
theorem ggX6_firstBadByte_X6_digitsBehind : GoodIn wsX6_firstBadByte wsX6_digitsBehind := goodIn_r _ [10] (by decide +kernel) (by decide +kernel)
set_option maxRecDepth 20000 in
theorem gX6_firstBadByte_X6_digitsBehind : GoodIn wsX6_firstBadByte (va_wsS RX6 19 yX6_digitsBehind wsX6_digitsBehind) := goodIn_app (goodIn_of _ (by decide +kernel)) ggX6_firstBadByte_X6_digitsBehind
set_option maxRecDepth 20000 in
theorem ggX6_statements_X5_cell : GoodIn wsX6_statements wsX5_cell := goodIn_r _ [4, 5, 6, 7, 8, 9, 10, 11] (by decide +kernel) (by decide +kernel)
set_option maxRecDepth 20000 in
theorem gX6_statements_X5_cell_n15 : GoodIn wsX6_statements (wsX5_cell) := ggX6_statements_X5_cell
set_option maxRecDepth 20000 in
theorem ggX6_firstWrongStatement_X6_isTaken : GoodIn wsX6_firstWrongStatement wsX6_isTaken := goodIn_r _ [4, 5, 6, 7, 8, 9, 10, 11, 12, 3, 13, 14, 15, 16, 17, 18, 19, 20, 21, 22, 23, 24, 25, 26, 27, 28, 29, 30, 31, 32, 33, 34, 35, 36, 37, 38, 39, 40, 41, 42, 43, 44, 45, 46, 47, 48, 49, 50, 51, 55, 56, 57, 58, 59, 60, 61, 62, 63, 64, 65, 66, 67, 68, 69, 70] (by decide +kernel) (by decide +kernel)
set_option maxRecDepth 20000 in
theorem gX6_firstWrongStatement_X6_isTaken : GoodIn wsX6_firstWrongStatement (va_wsS RX6 24 yX6_isTaken wsX6_isTaken) := goodIn_app (goodIn_of _ (by decide +kernel)) ggX6_firstWrongStatement_X6_isTaken
set_option maxRecDepth 20000 in
theorem ggX6_firstWrongStatement_X5_cell : GoodIn wsX6_firstWrongStatement wsX5_cell := goodIn_r _ [8, 9, 10, 55, 56, 57, 58, 59] (by decide +kernel) (by decide +kernel)
set_option maxRecDepth 20000 in
theorem gX6_firstWrongStatement_X5_cell_n15 : GoodIn wsX6_firstWrongStatement (wsX5_cell) := ggX6_firstWrongStatement_X5_cell
set_option maxRecDepth 20000 in
theorem ggX6_firstWrongStatement_X6_digitsBehind : GoodIn wsX6_firstWrongStatement wsX6_digitsBehind := goodIn_r _ [54] (by decide +kernel) (by decide +kernel)
set_option maxRecDepth 20000 in
theorem gX6_firstWrongStatement_X6_digitsBehind : GoodIn wsX6_firstWrongStatement (va_wsS RX6 19 yX6_digitsBehind wsX6_digitsBehind) := goodIn_app (goodIn_of _ (by decide +kernel)) ggX6_firstWrongStatement_X6_digitsBehind
set_option maxRecDepth 20000 in
theorem ggX6_isTaken_X5_cell : GoodIn wsX6_isTaken wsX5_cell := goodIn_r _ [4, 5, 6, 49, 50, 51, 52, 53] (by decide +kernel) (by decide +kernel)
set_option maxRecDepth 20000 in
theorem gX6_isTaken_X5_cell_n15 : GoodIn wsX6_isTaken (wsX5_cell) := ggX6_isTaken_X5_cell
set_option maxRecDepth 20000 in
theorem ggX6_isTaken_X6_isDeedTaken : GoodIn wsX6_isTaken wsX6_isDeedTaken := goodIn_r _ [10, 11, 2, 12, 13, 14, 1, 3, 4, 5, 6, 15, 16, 17, 18, 19, 20, 21, 22, 23, 24, 25, 26, 27, 28, 29, 30, 31, 32, 33, 34, 35, 36, 49, 50, 51, 52, 53, 54, 55, 56, 57, 58, 59, 60, 61, 62, 63, 64] (by decide +kernel) (by decide +kernel)
set_option maxRecDepth 20000 in
theorem gX6_isTaken_X6_isDeedTaken : GoodIn wsX6_isTaken (va_wsS RX6 28 yX6_isDeedTaken wsX6_isDeedTaken) := goodIn_app (goodIn_of _ (by decide +kernel)) ggX6_isTaken_X6_isDeedTaken
set_option maxRecDepth 20000 in
theorem ggX6_isTaken_X5_number : GoodIn wsX6_isTaken wsX5_number := goodIn_r _ [13, 14, 1, 3, 2, 4, 5, 6, 49, 50, 51, 52, 53] (by decide +kernel) (by decide +kernel)
set_option maxRecDepth 20000 in
theorem gX6_isTaken_X5_number_n31 : GoodIn wsX6_isTaken (wsX5_number) := ggX6_isTaken_X5_number
set_option maxRecDepth 20000 in
theorem ggX6_isTaken_X6_isTodayTaken : GoodIn wsX6_isTaken wsX6_isTodayTaken := goodIn_r _ [39, 54, 55, 56, 57] (by decide +kernel) (by decide +kernel)
set_option maxRecDepth 20000 in
theorem gX6_isTaken_X6_isTodayTaken : GoodIn wsX6_isTaken (va_wsS RX6 35 yX6_isTodayTaken wsX6_isTodayTaken) := goodIn_app (goodIn_of _ (by decide +kernel)) ggX6_isTaken_X6_isTodayTaken
set_option maxRecDepth 20000 in
theorem ggX6_isTaken_X6_isSightTaken : GoodIn wsX6_isTaken wsX6_isSightTaken := goodIn_r _ [42, 43, 16, 44, 45, 19, 20, 46, 22, 47, 48, 29, 58, 59, 60, 61, 62, 63, 64, 54, 55, 56, 57] (by decide +kernel) (by decide +kernel)
set_option maxRecDepth 20000 in
theorem gX6_isTaken_X6_isSightTaken : GoodIn wsX6_isTaken (va_wsS RX6 39 yX6_isSightTaken wsX6_isSightTaken) := goodIn_app (goodIn_of _ (by decide +kernel)) ggX6_isTaken_X6_isSightTaken
set_option maxRecDepth 20000 in
theorem ggX6_isDeedTaken_X5_number : GoodIn wsX6_isDeedTaken wsX5_number := goodIn_r _ [4, 5, 6, 7, 2, 8, 9, 10, 33, 34, 35, 36, 37] (by decide +kernel) (by decide +kernel)
set_option maxRecDepth 20000 in
theorem gX6_isDeedTaken_X5_number_n31 : GoodIn wsX6_isDeedTaken (wsX5_number) := ggX6_isDeedTaken_X5_number
set_option maxRecDepth 20000 in
theorem ggX6_isDeedTaken_X7_add : GoodIn wsX6_isDeedTaken wsX7_add := goodIn_r _ [14, 15, 16, 17, 18, 19, 20, 21, 22, 23, 24, 25, 26, 27, 28, 29, 30, 31, 32, 38, 39, 40, 41, 42, 43, 44, 45, 46, 47, 48] (by decide +kernel) (by decide +kernel)
set_option maxRecDepth 20000 in
theorem gX6_isDeedTaken_X7_add_n43 : GoodIn wsX6_isDeedTaken (wsX7_add) := ggX6_isDeedTaken_X7_add
set_option maxRecDepth 20000 in
theorem ggX6_isSightTaken_X7_deedAt : GoodIn wsX6_isSightTaken wsX7_deedAt := goodIn_r _ [4, 5, 6, 19, 20, 21, 22] (by decide +kernel) (by decide +kernel)
set_option maxRecDepth 20000 in
theorem gX6_isSightTaken_X7_deedAt_n52 : GoodIn wsX6_isSightTaken (wsX7_deedAt) := ggX6_isSightTaken_X7_deedAt
set_option maxRecDepth 20000 in
theorem ggX6_isSightTaken_X1_turnSeen : GoodIn wsX6_isSightTaken wsX1_turnSeen := goodIn_r _ [10, 11, 12, 13, 14, 15, 16, 17, 18] (by decide +kernel) (by decide +kernel)
set_option maxRecDepth 20000 in
theorem gX6_isSightTaken_X1_turnSeen_n61 : GoodIn wsX6_isSightTaken (wsX1_turnSeen) := ggX6_isSightTaken_X1_turnSeen
set_option maxRecDepth 20000 in
theorem ggX7_init_X1_init : GoodIn wsX7_init wsX1_init := goodIn_r _ [13, 14, 2, 3] (by decide +kernel) (by decide +kernel)
set_option maxRecDepth 20000 in
theorem gX7_init_X1_init_n17 : GoodIn wsX7_init (wsX1_init) := ggX7_init_X1_init
set_option maxRecDepth 20000 in
theorem ggX7_become_X7_add : GoodIn wsX7_become wsX7_add := goodIn_r _ [8, 1, 2, 9, 10, 11, 12, 13, 14, 15, 16, 17, 18, 19, 20, 21, 22, 23, 24, 25, 26, 27, 28, 29, 30, 31, 32, 33, 34, 35] (by decide +kernel) (by decide +kernel)
set_option maxRecDepth 20000 in
theorem gX7_become_X7_add : GoodIn wsX7_become (wsV RX7 42 RX7 yX7_add wsX7_add) := goodIn_app (goodIn_of _ (by decide +kernel)) ggX7_become_X7_add
set_option maxRecDepth 20000 in
theorem ggX7_add_X1_become : GoodIn wsX7_add wsX1_become := goodIn_r _ [6, 7, 8, 9, 10, 11, 12, 13, 14, 15, 16, 17, 18, 23, 24, 25, 26, 27, 28, 29] (by decide +kernel) (by decide +kernel)
set_option maxRecDepth 20000 in
theorem gX7_add_X1_become_n46 : GoodIn wsX7_add (wsX1_become) := ggX7_add_X1_become
set_option maxRecDepth 20000 in
theorem ggX7_isToldOf_X7_isTold : GoodIn wsX7_isToldOf wsX7_isTold := goodIn_r _ [6, 1, 7, 8, 9, 10, 11, 12, 13, 14, 15, 16, 17, 18] (by decide +kernel) (by decide +kernel)
set_option maxRecDepth 20000 in
theorem gX7_isToldOf_X7_isTold : GoodIn wsX7_isToldOf (wsV RX7 56 RX7 yX7_isTold wsX7_isTold) := goodIn_app (goodIn_of _ (by decide +kernel)) ggX7_isToldOf_X7_isTold
set_option maxRecDepth 20000 in
theorem ggX7_toldCount_X7_isTold : GoodIn wsX7_toldCount wsX7_isTold := goodIn_r _ [6, 7, 8, 9, 10, 11, 12, 13, 14, 15, 16, 17, 18, 19] (by decide +kernel) (by decide +kernel)
set_option maxRecDepth 20000 in
theorem gX7_toldCount_X7_isTold : GoodIn wsX7_toldCount (wsV RX7 56 RX7 yX7_isTold wsX7_isTold) := goodIn_app (goodIn_of _ (by decide +kernel)) ggX7_toldCount_X7_isTold
set_option maxRecDepth 20000 in
theorem ggX7_memoryOf_X1_isKept : GoodIn wsX7_memoryOf wsX1_isKept := goodIn_r _ [6, 7, 8, 9, 10, 4, 11, 12, 13, 14, 15, 16, 17, 18, 19, 24, 25, 26, 27, 28, 29, 30] (by decide +kernel) (by decide +kernel)
set_option maxRecDepth 20000 in
theorem gX7_memoryOf_X1_isKept_n60 : GoodIn wsX7_memoryOf (wsX1_isKept) := ggX7_memoryOf_X1_isKept
set_option maxRecDepth 20000 in
theorem ggX7_memoryOfGroup_X1_keepers : GoodIn wsX7_memoryOfGroup wsX1_keepers := goodIn_r _ [7, 8, 9, 10, 11, 5, 12, 13, 14, 15, 16, 21, 22, 23, 24, 25, 26, 27] (by decide +kernel) (by decide +kernel)
set_option maxRecDepth 20000 in
theorem gX7_memoryOfGroup_X1_keepers_n64 : GoodIn wsX7_memoryOfGroup (wsX1_keepers) := ggX7_memoryOfGroup_X1_keepers
set_option maxRecDepth 20000 in
theorem ggX7_keptBySoMany_X7_isTold : GoodIn wsX7_keptBySoMany wsX7_isTold := goodIn_r _ [8, 2, 3, 29, 30, 31, 32, 33, 34, 35, 36, 37, 38, 39] (by decide +kernel) (by decide +kernel)
set_option maxRecDepth 20000 in
theorem gX7_keptBySoMany_X7_isTold : GoodIn wsX7_keptBySoMany (wsV RX7 56 RX7 yX7_isTold wsX7_isTold) := goodIn_app (goodIn_of _ (by decide +kernel)) ggX7_keptBySoMany_X7_isTold
set_option maxRecDepth 20000 in
theorem ggX7_keptBySoMany_X1_keepers : GoodIn wsX7_keptBySoMany wsX1_keepers := goodIn_r _ [12, 13, 14, 15, 16, 10, 17, 18, 19, 20, 21, 33, 34, 35, 36, 37, 38, 39] (by decide +kernel) (by decide +kernel)
set_option maxRecDepth 20000 in
theorem gX7_keptBySoMany_X1_keepers_n64 : GoodIn wsX7_keptBySoMany (wsX1_keepers) := ggX7_keptBySoMany_X1_keepers
set_option maxRecDepth 20000 in
theorem ggX7_keptBySoMany_J6_bitCount_0f7a4 : GoodIn wsX7_keptBySoMany wsJ6_bitCount_0f7a4 := goodIn_r _ [25, 26, 27, 28] (by decide +kernel) (by decide +kernel)
set_option maxRecDepth 20000 in
theorem gX7_keptBySoMany_J6_bitCount_0f7a4 : GoodIn wsX7_keptBySoMany (va_wsS RX7 68 yJ6_bitCount_0f7a4 wsJ6_bitCount_0f7a4) := goodIn_app (goodIn_of _ (by decide +kernel)) ggX7_keptBySoMany_J6_bitCount_0f7a4
set_option maxRecDepth 20000 in
theorem ggX7_watchersLost_X1_keepers : GoodIn wsX7_watchersLost wsX1_keepers := goodIn_r _ [6, 7, 8, 9, 10, 4, 11, 12, 13, 14, 15, 20, 21, 22, 23, 24, 25, 26] (by decide +kernel) (by decide +kernel)
set_option maxRecDepth 20000 in
theorem gX7_watchersLost_X1_keepers_n64 : GoodIn wsX7_watchersLost (wsX1_keepers) := ggX7_watchersLost_X1_keepers
set_option maxRecDepth 20000 in
theorem ggX7_mattersBetween_X1_isKnown : GoodIn wsX7_mattersBetween wsX1_isKnown := goodIn_r _ [7, 8, 9, 25, 26, 27, 28, 29, 30, 31] (by decide +kernel) (by decide +kernel)
set_option maxRecDepth 20000 in
theorem gX7_mattersBetween_X1_isKnown_n73 : GoodIn wsX7_mattersBetween (wsX1_isKnown) := ggX7_mattersBetween_X1_isKnown
set_option maxRecDepth 20000 in
theorem ggX7_mattersBetween_X1_isKept : GoodIn wsX7_mattersBetween wsX1_isKept := goodIn_r _ [12, 13, 14, 4, 6, 5, 7, 8, 9, 15, 16, 17, 18, 19, 20, 25, 26, 27, 28, 29, 30, 31] (by decide +kernel) (by decide +kernel)
set_option maxRecDepth 20000 in
theorem gX7_mattersBetween_X1_isKept_n60 : GoodIn wsX7_mattersBetween (wsX1_isKept) := ggX7_mattersBetween_X1_isKept
set_option maxRecDepth 20000 in
theorem ggX7_weighBurdens_X7_isTold : GoodIn wsX7_weighBurdens wsX7_isTold := goodIn_r _ [8, 3, 9, 19, 20, 21, 22, 23, 24, 25, 26, 27, 28, 29] (by decide +kernel) (by decide +kernel)
set_option maxRecDepth 20000 in
theorem gX7_weighBurdens_X7_isTold : GoodIn wsX7_weighBurdens (wsV RX7 56 RX7 yX7_isTold wsX7_isTold) := goodIn_app (goodIn_of _ (by decide +kernel)) ggX7_weighBurdens_X7_isTold
set_option maxRecDepth 20000 in
theorem ggX7_weighBurdens_X1_burden : GoodIn wsX7_weighBurdens wsX1_burden := goodIn_r _ [13, 14, 15, 16, 17, 18, 23, 24, 25, 26, 27, 28, 29] (by decide +kernel) (by decide +kernel)
set_option maxRecDepth 20000 in
theorem gX7_weighBurdens_X1_burden_n76 : GoodIn wsX7_weighBurdens (wsX1_burden) := ggX7_weighBurdens_X1_burden
set_option maxRecDepth 20000 in
theorem ggX7_sizesBut_X7_isTold : GoodIn wsX7_sizesBut wsX7_isTold := goodIn_r _ [7, 2, 8, 18, 19, 20, 21, 22, 23, 24, 25, 26, 27, 28] (by decide +kernel) (by decide +kernel)
set_option maxRecDepth 20000 in
theorem gX7_sizesBut_X7_isTold : GoodIn wsX7_sizesBut (wsV RX7 56 RX7 yX7_isTold wsX7_isTold) := goodIn_app (goodIn_of _ (by decide +kernel)) ggX7_sizesBut_X7_isTold
set_option maxRecDepth 20000 in
theorem ggX7_sizesBut_X1_size : GoodIn wsX7_sizesBut wsX1_size := goodIn_r _ [12, 13, 14, 15, 16, 17, 22, 23, 24, 25, 26, 27, 28] (by decide +kernel) (by decide +kernel)
set_option maxRecDepth 20000 in
theorem gX7_sizesBut_X1_size_n80 : GoodIn wsX7_sizesBut (wsX1_size) := ggX7_sizesBut_X1_size
set_option maxRecDepth 20000 in
theorem ggX7_greatestBut_X7_isTold : GoodIn wsX7_greatestBut wsX7_isTold := goodIn_r _ [7, 2, 8, 18, 19, 20, 21, 22, 23, 24, 25, 26, 27, 28] (by decide +kernel) (by decide +kernel)
set_option maxRecDepth 20000 in
theorem gX7_greatestBut_X7_isTold : GoodIn wsX7_greatestBut (wsV RX7 56 RX7 yX7_isTold wsX7_isTold) := goodIn_app (goodIn_of _ (by decide +kernel)) ggX7_greatestBut_X7_isTold
set_option maxRecDepth 20000 in
theorem ggX7_greatestBut_X1_size : GoodIn wsX7_greatestBut wsX1_size := goodIn_r _ [12, 13, 14, 15, 16, 17, 22, 23, 24, 25, 26, 27, 28] (by decide +kernel) (by decide +kernel)
set_option maxRecDepth 20000 in
theorem gX7_greatestBut_X1_size_n80 : GoodIn wsX7_greatestBut (wsX1_size) := ggX7_greatestBut_X1_size
set_option maxRecDepth 20000 in
theorem ggX7_allSeen_J6_bitCount_0f7a4 : GoodIn wsX7_allSeen wsJ6_bitCount_0f7a4 := goodIn_r _ [6, 7, 8, 9] (by decide +kernel) (by decide +kernel)
set_option maxRecDepth 20000 in
theorem gX7_allSeen_J6_bitCount_0f7a4 : GoodIn wsX7_allSeen (va_wsS RX7 68 yJ6_bitCount_0f7a4 wsJ6_bitCount_0f7a4) := goodIn_app (goodIn_of _ (by decide +kernel)) ggX7_allSeen_J6_bitCount_0f7a4
