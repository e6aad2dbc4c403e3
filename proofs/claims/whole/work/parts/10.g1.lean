set_option maxRecDepth 20000 in
theorem ggX0_init_X7_init : GoodIn wsX0_init wsX7_init := goodIn_r _ [14, 15, 2, 3, 16, 17, 18, 19, 8, 20, 21, 22, 23, 24, 25, 26, 27, 28, 29, 35, 36, 37, 38, 39, 40, 41] (by decide +kernel) (by decide +kernel)
set_option maxRecDepth 20000 in
theorem gX0_init_X7_init_n11 : GoodIn wsX0_init (wsX7_init) := ggX0_init_X7_init
set_option maxRecDepth 20000 in
theorem ggX0_print_X7_toldAt : GoodIn wsX0_print wsX7_toldAt := goodIn_r _ [6, 7, 8, 9, 10, 4, 11, 12, 13, 55, 56, 57, 58, 59, 60, 61, 51, 52, 53, 54] (by decide +kernel) (by decide +kernel)
set_option maxRecDepth 20000 in
theorem gX0_print_X7_toldAt_n35 : GoodIn wsX0_print (wsX7_toldAt) := ggX0_print_X7_toldAt
set_option maxRecDepth 20000 in
theorem ggX0_print_X0_setIn : GoodIn wsX0_print wsX0_setIn := goodIn_r _ [18, 1, 19, 20, 21, 22, 17, 23, 2, 24, 25, 26, 27, 9, 4, 10, 11, 12, 13, 28, 29, 30, 31, 32, 33, 34, 35, 36, 37, 38, 39, 46, 47, 48, 49, 50, 51, 52, 53, 54, 55, 56, 57, 58, 59, 60, 61] (by decide +kernel) (by decide +kernel)
set_option maxRecDepth 20000 in
theorem gX0_print_X0_setIn : GoodIn wsX0_print (wsV RX0 39 RX0 yX0_setIn wsX0_setIn) := goodIn_app (goodIn_of _ (by decide +kernel)) ggX0_print_X0_setIn
set_option maxRecDepth 20000 in
theorem ggX0_print_X0_breakPages : GoodIn wsX0_print wsX0_breakPages := goodIn_r _ [43, 44, 1, 45, 20, 21, 22, 17, 23, 2, 24, 25, 26, 27, 19, 9, 4, 10, 11, 12, 13, 31, 32, 33, 34, 35, 36, 37, 38, 39, 46, 47, 48, 49, 50, 51, 52, 53, 54, 55, 56, 57, 58, 59, 60, 61] (by decide +kernel) (by decide +kernel)
set_option maxRecDepth 20000 in
theorem gX0_print_X0_breakPages : GoodIn wsX0_print (wsV RX0 43 RX0 yX0_breakPages wsX0_breakPages) := goodIn_app (goodIn_of _ (by decide +kernel)) ggX0_print_X0_breakPages
set_option maxRecDepth 20000 in
theorem ggX0_setIn_X0_deedIn : GoodIn wsX0_setIn wsX0_deedIn := goodIn_r _ [7, 8, 9, 10, 11, 6, 12, 1, 2, 13, 14, 15, 16, 17, 18, 31, 32, 33, 34, 35, 36, 37, 38, 39] (by decide +kernel) (by decide +kernel)
set_option maxRecDepth 20000 in
theorem gX0_setIn_X0_deedIn : GoodIn wsX0_setIn (wsV RX0 46 RX0 yX0_deedIn wsX0_deedIn) := goodIn_app (goodIn_of _ (by decide +kernel)) ggX0_setIn_X0_deedIn
set_option maxRecDepth 20000 in
theorem ggX0_setIn_X0_goesAhead : GoodIn wsX0_setIn wsX0_goesAhead := goodIn_r _ [21, 22, 23, 24, 25, 26, 27, 28, 29, 30, 40, 41, 42, 43, 44, 45, 46] (by decide +kernel) (by decide +kernel)
set_option maxRecDepth 20000 in
theorem gX0_setIn_X0_goesAhead : GoodIn wsX0_setIn (va_wsS RX0 49 yX0_goesAhead wsX0_goesAhead) := goodIn_app (goodIn_of _ (by decide +kernel)) ggX0_setIn_X0_goesAhead
set_option maxRecDepth 20000 in
theorem ggX0_goesAhead_X1_size : GoodIn wsX0_goesAhead wsX1_size := goodIn_r _ [4, 5, 6, 7, 8, 9, 10, 11, 12, 13, 14, 15, 16] (by decide +kernel) (by decide +kernel)
set_option maxRecDepth 20000 in
theorem gX0_goesAhead_X1_size_n58 : GoodIn wsX0_goesAhead (wsX1_size) := ggX0_goesAhead_X1_size
set_option maxRecDepth 20000 in
theorem ggX0_breakPages_X0_deedIn : GoodIn wsX0_breakPages wsX0_deedIn := goodIn_r _ [8, 9, 10, 11, 12, 7, 13, 2, 14, 15, 16, 17, 18, 19, 20, 30, 31, 32, 33, 34, 35, 36, 37, 38] (by decide +kernel) (by decide +kernel)
set_option maxRecDepth 20000 in
theorem gX0_breakPages_X0_deedIn : GoodIn wsX0_breakPages (wsV RX0 46 RX0 yX0_deedIn wsX0_deedIn) := goodIn_app (goodIn_of _ (by decide +kernel)) ggX0_breakPages_X0_deedIn
set_option maxRecDepth 20000 in
theorem ggX0_breakPages_X1_size : GoodIn wsX0_breakPages wsX1_size := goodIn_r _ [24, 25, 26, 27, 28, 29, 39, 40, 41, 42, 43, 44, 45] (by decide +kernel) (by decide +kernel)
set_option maxRecDepth 20000 in
theorem gX0_breakPages_X1_size_n58 : GoodIn wsX0_breakPages (wsX1_size) := ggX0_breakPages_X1_size
set_option maxRecDepth 20000 in
theorem ggX0_deedIn_X0_numberIn : GoodIn wsX0_deedIn wsX0_numberIn := goodIn_r _ [6, 7, 8, 15, 16, 17, 18, 19] (by decide +kernel) (by decide +kernel)
set_option maxRecDepth 20000 in
theorem gX0_deedIn_X0_numberIn : GoodIn wsX0_deedIn (wsV RX0 62 RX0 yX0_numberIn wsX0_numberIn) := goodIn_app (goodIn_of _ (by decide +kernel)) ggX0_deedIn_X0_numberIn
set_option maxRecDepth 20000 in
theorem ggX0_deedIn_X7_deedAt : GoodIn wsX0_deedIn wsX7_deedAt := goodIn_r _ [12, 13, 14, 20, 21, 22, 23] (by decide +kernel) (by decide +kernel)
set_option maxRecDepth 20000 in
theorem gX0_deedIn_X7_deedAt_n66 : GoodIn wsX0_deedIn (wsX7_deedAt) := ggX0_deedIn_X7_deedAt
set_option maxRecDepth 20000 in
theorem ggX0_placeOf_X0_numberIn : GoodIn wsX0_placeOf wsX0_numberIn := goodIn_r _ [6, 1, 7, 8, 9, 10, 11, 12] (by decide +kernel) (by decide +kernel)
set_option maxRecDepth 20000 in
theorem gX0_placeOf_X0_numberIn : GoodIn wsX0_placeOf (wsV RX0 62 RX0 yX0_numberIn wsX0_numberIn) := goodIn_app (goodIn_of _ (by decide +kernel)) ggX0_placeOf_X0_numberIn
set_option maxRecDepth 20000 in
theorem ggX0_pageOf_X0_placeOf : GoodIn wsX0_pageOf wsX0_placeOf := goodIn_r _ [5, 6, 7, 8, 9, 4, 10, 11, 17, 18, 19, 20, 21] (by decide +kernel) (by decide +kernel)
set_option maxRecDepth 20000 in
theorem gX0_pageOf_X0_placeOf : GoodIn wsX0_pageOf (wsV RX0 69 RX0 yX0_placeOf wsX0_placeOf) := goodIn_app (goodIn_of _ (by decide +kernel)) ggX0_pageOf_X0_placeOf
set_option maxRecDepth 20000 in
theorem ggX0_pageOf_X0_pageIn : GoodIn wsX0_pageOf wsX0_pageIn := goodIn_r _ [15, 6, 16, 17, 18, 19, 20, 21] (by decide +kernel) (by decide +kernel)
set_option maxRecDepth 20000 in
theorem gX0_pageOf_X0_pageIn : GoodIn wsX0_pageOf (wsV RX0 72 RX0 yX0_pageIn wsX0_pageIn) := goodIn_app (goodIn_of _ (by decide +kernel)) ggX0_pageOf_X0_pageIn
set_option maxRecDepth 20000 in
theorem ggX0_greatestBy_X0_deedIn : GoodIn wsX0_greatestBy wsX0_deedIn := goodIn_r _ [6, 7, 8, 9, 10, 5, 11, 1, 12, 13, 14, 15, 16, 17, 18, 28, 29, 30, 31, 32, 40, 41, 42, 43] (by decide +kernel) (by decide +kernel)
set_option maxRecDepth 20000 in
theorem gX0_greatestBy_X0_deedIn : GoodIn wsX0_greatestBy (wsV RX0 46 RX0 yX0_deedIn wsX0_deedIn) := goodIn_app (goodIn_of _ (by decide +kernel)) ggX0_greatestBy_X0_deedIn
set_option maxRecDepth 20000 in
theorem ggX0_greatestBy_X1_size : GoodIn wsX0_greatestBy wsX1_size := goodIn_r _ [22, 23, 24, 25, 26, 27, 33, 34, 35, 36, 37, 38, 39] (by decide +kernel) (by decide +kernel)
set_option maxRecDepth 20000 in
theorem gX0_greatestBy_X1_size_n58 : GoodIn wsX0_greatestBy (wsX1_size) := ggX0_greatestBy_X1_size
set_option maxRecDepth 20000 in
theorem ggX0_greatestBy_X0_numberIn : GoodIn wsX0_greatestBy wsX0_numberIn := goodIn_r _ [11, 1, 12, 28, 29, 30, 31, 32] (by decide +kernel) (by decide +kernel)
set_option maxRecDepth 20000 in
theorem gX0_greatestBy_X0_numberIn : GoodIn wsX0_greatestBy (wsV RX0 62 RX0 yX0_numberIn wsX0_numberIn) := goodIn_app (goodIn_of _ (by decide +kernel)) ggX0_greatestBy_X0_numberIn
set_option maxRecDepth 20000 in
theorem ggX0_newsFor_X0_pageIn : GoodIn wsX0_newsFor wsX0_pageIn := goodIn_r _ [7, 1, 8, 41, 42, 43, 44, 45] (by decide +kernel) (by decide +kernel)
set_option maxRecDepth 20000 in
theorem gX0_newsFor_X0_pageIn : GoodIn wsX0_newsFor (wsV RX0 72 RX0 yX0_pageIn wsX0_pageIn) := goodIn_app (goodIn_of _ (by decide +kernel)) ggX0_newsFor_X0_pageIn
set_option maxRecDepth 20000 in
theorem ggX0_newsFor_X0_deedIn : GoodIn wsX0_newsFor wsX0_deedIn := goodIn_r _ [12, 2, 13, 14, 15, 6, 16, 1, 17, 18, 19, 20, 21, 22, 23, 41, 42, 43, 44, 45, 46, 47, 48, 49] (by decide +kernel) (by decide +kernel)
set_option maxRecDepth 20000 in
theorem gX0_newsFor_X0_deedIn : GoodIn wsX0_newsFor (wsV RX0 46 RX0 yX0_deedIn wsX0_deedIn) := goodIn_app (goodIn_of _ (by decide +kernel)) ggX0_newsFor_X0_deedIn
set_option maxRecDepth 20000 in
theorem ggX0_newsFor_X1_isKnown : GoodIn wsX0_newsFor wsX1_isKnown := goodIn_r _ [27, 28, 29, 50, 51, 52, 53, 54, 55, 56] (by decide +kernel) (by decide +kernel)
set_option maxRecDepth 20000 in
theorem gX0_newsFor_X1_isKnown_n78 : GoodIn wsX0_newsFor (wsX1_isKnown) := ggX0_newsFor_X1_isKnown
set_option maxRecDepth 20000 in
theorem ggX0_newsFor_X1_isKept : GoodIn wsX0_newsFor wsX1_isKept := goodIn_r _ [32, 33, 34, 24, 26, 25, 27, 28, 29, 35, 36, 37, 38, 39, 40, 50, 51, 52, 53, 54, 55, 56] (by decide +kernel) (by decide +kernel)
set_option maxRecDepth 20000 in
theorem gX0_newsFor_X1_isKept_n83 : GoodIn wsX0_newsFor (wsX1_isKept) := ggX0_newsFor_X1_isKept
set_option maxRecDepth 20000 in
theorem ggX0_newsFor_X0_numberIn : GoodIn wsX0_newsFor wsX0_numberIn := goodIn_r _ [16, 1, 17, 41, 42, 43, 44, 45] (by decide +kernel) (by decide +kernel)
set_option maxRecDepth 20000 in
theorem gX0_newsFor_X0_numberIn : GoodIn wsX0_newsFor (wsV RX0 62 RX0 yX0_numberIn wsX0_numberIn) := goodIn_app (goodIn_of _ (by decide +kernel)) ggX0_newsFor_X0_numberIn
set_option maxRecDepth 20000 in
theorem ggX0_deedsFromPage_X0_pageIn : GoodIn wsX0_deedsFromPage wsX0_pageIn := goodIn_r _ [6, 1, 7, 13, 14, 15, 16, 17] (by decide +kernel) (by decide +kernel)
set_option maxRecDepth 20000 in
theorem gX0_deedsFromPage_X0_pageIn : GoodIn wsX0_deedsFromPage (wsV RX0 72 RX0 yX0_pageIn wsX0_pageIn) := goodIn_app (goodIn_of _ (by decide +kernel)) ggX0_deedsFromPage_X0_pageIn
set_option maxRecDepth 20000 in
theorem ggX0_deedsFromPage_X0_numberIn : GoodIn wsX0_deedsFromPage wsX0_numberIn := goodIn_r _ [11, 1, 12, 13, 14, 15, 16, 17] (by decide +kernel) (by decide +kernel)
set_option maxRecDepth 20000 in
theorem gX0_deedsFromPage_X0_numberIn : GoodIn wsX0_deedsFromPage (wsV RX0 62 RX0 yX0_numberIn wsX0_numberIn) := goodIn_app (goodIn_of _ (by decide +kernel)) ggX0_deedsFromPage_X0_numberIn
set_option maxRecDepth 20000 in
theorem ggX0_doersAheadOfPage_X0_pageIn : GoodIn wsX0_doersAheadOfPage wsX0_pageIn := goodIn_r _ [6, 1, 7, 24, 25, 26, 27, 28] (by decide +kernel) (by decide +kernel)
set_option maxRecDepth 20000 in
theorem gX0_doersAheadOfPage_X0_pageIn : GoodIn wsX0_doersAheadOfPage (wsV RX0 72 RX0 yX0_pageIn wsX0_pageIn) := goodIn_app (goodIn_of _ (by decide +kernel)) ggX0_doersAheadOfPage_X0_pageIn
set_option maxRecDepth 20000 in
theorem ggX0_doersAheadOfPage_X0_deedIn : GoodIn wsX0_doersAheadOfPage wsX0_deedIn := goodIn_r _ [11, 12, 13, 14, 15, 5, 16, 1, 17, 18, 19, 20, 21, 22, 23, 24, 25, 26, 27, 28, 36, 37, 38, 39] (by decide +kernel) (by decide +kernel)
set_option maxRecDepth 20000 in
theorem gX0_doersAheadOfPage_X0_deedIn : GoodIn wsX0_doersAheadOfPage (wsV RX0 46 RX0 yX0_deedIn wsX0_deedIn) := goodIn_app (goodIn_of _ (by decide +kernel)) ggX0_doersAheadOfPage_X0_deedIn
set_option maxRecDepth 20000 in
theorem ggX0_dayAt_X0_deedIn : GoodIn wsX0_dayAt wsX0_deedIn := goodIn_r _ [6, 1, 7, 8, 9, 5, 10, 11, 12, 13, 14, 15, 16, 17, 18, 34, 35, 36, 37, 38, 39, 40, 41, 42] (by decide +kernel) (by decide +kernel)
set_option maxRecDepth 20000 in
theorem gX0_dayAt_X0_deedIn : GoodIn wsX0_dayAt (wsV RX0 46 RX0 yX0_deedIn wsX0_deedIn) := goodIn_app (goodIn_of _ (by decide +kernel)) ggX0_dayAt_X0_deedIn
set_option maxRecDepth 20000 in
theorem ggX0_dayAt_X7_lastDay : GoodIn wsX0_dayAt wsX7_lastDay := goodIn_r _ [21, 22, 23, 24, 25, 26, 39, 40, 41, 42] (by decide +kernel) (by decide +kernel)
set_option maxRecDepth 20000 in
theorem gX0_dayAt_X7_lastDay_n87 : GoodIn wsX0_dayAt (wsX7_lastDay) := ggX0_dayAt_X7_lastDay
set_option maxRecDepth 20000 in
theorem ggX0_longestGap_X0_dayAt : GoodIn wsX0_longestGap wsX0_dayAt := goodIn_r _ [10, 11, 12, 13, 14, 9, 15, 16, 17, 18, 19, 1, 20, 21, 22, 23, 24, 25, 26, 27, 28, 29, 30, 31, 32, 4, 33, 39, 40, 41, 42, 43, 44, 45, 34, 35, 36, 37, 38, 46, 47, 48, 49] (by decide +kernel) (by decide +kernel)
set_option maxRecDepth 20000 in
theorem gX0_longestGap_X0_dayAt : GoodIn wsX0_longestGap (wsV RX0 90 RX0 yX0_dayAt wsX0_dayAt) := goodIn_app (goodIn_of _ (by decide +kernel)) ggX0_longestGap_X0_dayAt
set_option maxRecDepth 20000 in
theorem ggX0_firstOfLongestGap_X0_longestGap : GoodIn wsX0_firstOfLongestGap wsX0_longestGap := goodIn_r _ [6, 1, 7, 8, 9, 10, 11, 12, 13, 5, 14, 15, 16, 17, 18, 19, 20, 21, 22, 23, 24, 25, 26, 27, 28, 29, 30, 31, 32, 33, 34, 35, 36, 37, 38, 39, 40, 41, 42, 43, 44, 45, 46, 47, 48, 49, 50, 51, 52, 53] (by decide +kernel) (by decide +kernel)
set_option maxRecDepth 20000 in
theorem gX0_firstOfLongestGap_X0_longestGap : GoodIn wsX0_firstOfLongestGap (wsV RX0 99 RX0 yX0_longestGap wsX0_longestGap) := goodIn_app (goodIn_of _ (by decide +kernel)) ggX0_firstOfLongestGap_X0_longestGap
set_option maxRecDepth 20000 in
theorem ggX0_firstOfLongestGap_X0_dayAt : GoodIn wsX0_firstOfLongestGap wsX0_dayAt := goodIn_r _ [14, 15, 16, 17, 18, 5, 19, 20, 21, 22, 23, 1, 24, 25, 26, 27, 28, 29, 30, 31, 32, 33, 34, 35, 36, 9, 37, 43, 44, 45, 46, 47, 48, 49, 38, 39, 40, 41, 42, 50, 51, 52, 53] (by decide +kernel) (by decide +kernel)
set_option maxRecDepth 20000 in
theorem gX0_firstOfLongestGap_X0_dayAt : GoodIn wsX0_firstOfLongestGap (wsV RX0 90 RX0 yX0_dayAt wsX0_dayAt) := goodIn_app (goodIn_of _ (by decide +kernel)) ggX0_firstOfLongestGap_X0_dayAt
set_option maxRecDepth 20000 in
theorem ggX0_firstForged_X5_cell : GoodIn wsX0_firstForged wsX5_cell := goodIn_r _ [5, 6, 7, 14, 15, 16, 17, 18] (by decide +kernel) (by decide +kernel)
set_option maxRecDepth 20000 in
theorem gX0_firstForged_X5_cell_n107 : GoodIn wsX0_firstForged (wsX5_cell) := ggX0_firstForged_X5_cell
set_option maxRecDepth 20000 in
theorem ggX0_firstForged_X0_numberIn : GoodIn wsX0_firstForged wsX0_numberIn := goodIn_r _ [12, 1, 13, 19, 20, 21, 22, 23] (by decide +kernel) (by decide +kernel)
set_option maxRecDepth 20000 in
theorem gX0_firstForged_X0_numberIn : GoodIn wsX0_firstForged (wsV RX0 62 RX0 yX0_numberIn wsX0_numberIn) := goodIn_app (goodIn_of _ (by decide +kernel)) ggX0_firstForged_X0_numberIn
set_option maxRecDepth 20000 in
theorem ggX1_become_X4_lasting : GoodIn wsX1_become wsX4_lasting := goodIn_r _ [10] (by decide +kernel) (by decide +kernel)
set_option maxRecDepth 20000 in
theorem gX1_become_X4_lasting_n25 : GoodIn wsX1_become (wsX4_lasting) := ggX1_become_X4_lasting
set_option maxRecDepth 20000 in
theorem ggX1_become_X4_lastingOwn : GoodIn wsX1_become wsX4_lastingOwn := goodIn_r _ [12] (by decide +kernel) (by decide +kernel)
set_option maxRecDepth 20000 in
theorem gX1_become_X4_lastingOwn_n33 : GoodIn wsX1_become (wsX4_lastingOwn) := ggX1_become_X4_lastingOwn
set_option maxRecDepth 20000 in
theorem ggX1_size_X4_size : GoodIn wsX1_size wsX4_size := goodIn_r _ [5] (by decide +kernel) (by decide +kernel)
set_option maxRecDepth 20000 in
theorem gX1_size_X4_size_n38 : GoodIn wsX1_size (wsX4_size) := ggX1_size_X4_size
set_option maxRecDepth 20000 in
theorem ggX1_burden_X4_burden : GoodIn wsX1_burden wsX4_burden := goodIn_r _ [5] (by decide +kernel) (by decide +kernel)
set_option maxRecDepth 20000 in
theorem gX1_burden_X4_burden_n41 : GoodIn wsX1_burden (wsX4_burden) := ggX1_burden_X4_burden
set_option maxRecDepth 20000 in
theorem ggX1_isKept_X1_isKnown : GoodIn wsX1_isKept wsX1_isKnown := goodIn_r _ [6, 7, 8, 15, 16, 17, 18, 19, 20, 21] (by decide +kernel) (by decide +kernel)
set_option maxRecDepth 20000 in
theorem gX1_isKept_X1_isKnown : GoodIn wsX1_isKept (wsV RX1 44 RX1 yX1_isKnown wsX1_isKnown) := goodIn_app (goodIn_of _ (by decide +kernel)) ggX1_isKept_X1_isKnown
set_option maxRecDepth 20000 in
theorem ggX1_isKept_X1_lastingFor : GoodIn wsX1_isKept wsX1_lastingFor := goodIn_r _ [12, 7, 13, 14, 15, 16, 17, 18, 19, 20, 21] (by decide +kernel) (by decide +kernel)
set_option maxRecDepth 20000 in
theorem gX1_isKept_X1_lastingFor : GoodIn wsX1_isKept (wsV RX1 48 RX1 yX1_lastingFor wsX1_lastingFor) := goodIn_app (goodIn_of _ (by decide +kernel)) ggX1_isKept_X1_lastingFor
set_option maxRecDepth 20000 in
theorem ggX1_watchersLost_X1_keepers : GoodIn wsX1_watchersLost wsX1_keepers := goodIn_r _ [6, 7, 8, 9, 10, 5, 11, 12, 13, 14, 1, 22, 23, 24, 25, 26, 27, 28] (by decide +kernel) (by decide +kernel)
set_option maxRecDepth 20000 in
theorem gX1_watchersLost_X1_keepers : GoodIn wsX1_watchersLost (wsV RX1 52 RX1 yX1_keepers wsX1_keepers) := goodIn_app (goodIn_of _ (by decide +kernel)) ggX1_watchersLost_X1_keepers
set_option maxRecDepth 20000 in
theorem ggX1_watchersLost_J6_bitCount_0f7a4 : GoodIn wsX1_watchersLost wsJ6_bitCount_0f7a4 := goodIn_r _ [18, 19, 20, 21] (by decide +kernel) (by decide +kernel)
set_option maxRecDepth 20000 in
theorem gX1_watchersLost_J6_bitCount_0f7a4 : GoodIn wsX1_watchersLost (va_wsS RX1 55 yJ6_bitCount_0f7a4 wsJ6_bitCount_0f7a4) := goodIn_app (goodIn_of _ (by decide +kernel)) ggX1_watchersLost_J6_bitCount_0f7a4
set_option maxRecDepth 20000 in
theorem ggX1_isMatterBetween_X1_isKnown : GoodIn wsX1_isMatterBetween wsX1_isKnown := goodIn_r _ [5, 6, 7, 19, 20, 21, 22, 23, 24, 25] (by decide +kernel) (by decide +kernel)
set_option maxRecDepth 20000 in
theorem gX1_isMatterBetween_X1_isKnown : GoodIn wsX1_isMatterBetween (wsV RX1 44 RX1 yX1_isKnown wsX1_isKnown) := goodIn_app (goodIn_of _ (by decide +kernel)) ggX1_isMatterBetween_X1_isKnown
set_option maxRecDepth 20000 in
theorem ggX1_isMatterBetween_X1_isKept : GoodIn wsX1_isMatterBetween wsX1_isKept := goodIn_r _ [11, 12, 1, 2, 3, 4, 5, 6, 7, 13, 14, 15, 16, 17, 18, 19, 20, 21, 22, 23, 24, 25] (by decide +kernel) (by decide +kernel)
set_option maxRecDepth 20000 in
theorem gX1_isMatterBetween_X1_isKept : GoodIn wsX1_isMatterBetween (wsV RX1 60 RX1 yX1_isKept wsX1_isKept) := goodIn_app (goodIn_of _ (by decide +kernel)) ggX1_isMatterBetween_X1_isKept
set_option maxRecDepth 20000 in
theorem ggX1_keepers_X1_keepersAfter : GoodIn wsX1_keepers wsX1_keepersAfter := goodIn_r _ [6, 7, 8, 9, 10, 11, 12, 13, 14, 15, 16, 17] (by decide +kernel) (by decide +kernel)
set_option maxRecDepth 20000 in
theorem gX1_keepers_X1_keepersAfter : GoodIn wsX1_keepers (wsV RX1 64 RX1 yX1_keepersAfter wsX1_keepersAfter) := goodIn_app (goodIn_of _ (by decide +kernel)) ggX1_keepers_X1_keepersAfter
set_option maxRecDepth 20000 in
theorem ggX2_isWhole_X5_cell : GoodIn wsX2_isWhole wsX5_cell := goodIn_r _ [4, 5, 6, 16, 17, 18, 19, 20] (by decide +kernel) (by decide +kernel)
set_option maxRecDepth 20000 in
theorem gX2_isWhole_X5_cell_n15 : GoodIn wsX2_isWhole (wsX5_cell) := ggX2_isWhole_X5_cell
set_option maxRecDepth 20000 in
theorem ggX2_isWhole_X7_deedAt : GoodIn wsX2_isWhole wsX7_deedAt := goodIn_r _ [10, 11, 12, 21, 22, 23, 24] (by decide +kernel) (by decide +kernel)
set_option maxRecDepth 20000 in
theorem gX2_isWhole_X7_deedAt_n19 : GoodIn wsX2_isWhole (wsX7_deedAt) := ggX2_isWhole_X7_deedAt
set_option maxRecDepth 20000 in
theorem ggX2_isWhole_X8_isWithin : GoodIn wsX2_isWhole wsX8_isWithin := goodIn_r _ [15] (by decide +kernel) (by decide +kernel)
set_option maxRecDepth 20000 in
theorem gX2_isWhole_X8_isWithin_n25 : GoodIn wsX2_isWhole (wsX8_isWithin) := ggX2_isWhole_X8_isWithin
set_option maxRecDepth 20000 in
theorem ggX2_timesTold_X5_cell : GoodIn wsX2_timesTold wsX5_cell := goodIn_r _ [4, 5, 6, 7, 8, 9, 10, 11] (by decide +kernel) (by decide +kernel)
set_option maxRecDepth 20000 in
theorem gX2_timesTold_X5_cell_n15 : GoodIn wsX2_timesTold (wsX5_cell) := ggX2_timesTold_X5_cell
set_option maxRecDepth 20000 in
theorem ggX2_dayToldMost_X5_cell : GoodIn wsX2_dayToldMost wsX5_cell := goodIn_r _ [4, 5, 6, 11, 12, 13, 14, 15] (by decide +kernel) (by decide +kernel)
set_option maxRecDepth 20000 in
theorem gX2_dayToldMost_X5_cell_n15 : GoodIn wsX2_dayToldMost (wsX5_cell) := ggX2_dayToldMost_X5_cell
set_option maxRecDepth 20000 in
theorem ggX2_dayToldMost_X2_timesTold : GoodIn wsX2_dayToldMost wsX2_timesTold := goodIn_r _ [10, 1, 2, 3, 4, 5, 6, 11, 12, 13, 14, 15] (by decide +kernel) (by decide +kernel)
set_option maxRecDepth 20000 in
theorem gX2_dayToldMost_X2_timesTold : GoodIn wsX2_dayToldMost (va_wsS RX2 29 yX2_timesTold wsX2_timesTold) := goodIn_app (goodIn_of _ (by decide +kernel)) ggX2_dayToldMost_X2_timesTold
set_option maxRecDepth 20000 in
theorem ggX2_fewestStruck_X2_dayToldMost : GoodIn wsX2_fewestStruck wsX2_dayToldMost := goodIn_r _ [4, 5, 6, 7, 8, 9, 10, 11, 12, 3, 13, 14, 15, 16, 17, 18] (by decide +kernel) (by decide +kernel)
set_option maxRecDepth 20000 in
theorem gX2_fewestStruck_X2_dayToldMost : GoodIn wsX2_fewestStruck (va_wsS RX2 35 yX2_dayToldMost wsX2_dayToldMost) := goodIn_app (goodIn_of _ (by decide +kernel)) ggX2_fewestStruck_X2_dayToldMost
set_option maxRecDepth 20000 in
theorem ggX2_fewestStruck_X2_timesTold : GoodIn wsX2_fewestStruck wsX2_timesTold := goodIn_r _ [13, 5, 6, 7, 8, 9, 10, 14, 15, 16, 17, 18] (by decide +kernel) (by decide +kernel)
set_option maxRecDepth 20000 in
theorem gX2_fewestStruck_X2_timesTold : GoodIn wsX2_fewestStruck (va_wsS RX2 29 yX2_timesTold wsX2_timesTold) := goodIn_app (goodIn_of _ (by decide +kernel)) ggX2_fewestStruck_X2_timesTold
set_option maxRecDepth 20000 in
theorem ggX2_offTheirDay_X5_cell : GoodIn wsX2_offTheirDay wsX5_cell := goodIn_r _ [4, 5, 6, 13, 14, 15, 16, 17] (by decide +kernel) (by decide +kernel)
set_option maxRecDepth 20000 in
theorem gX2_offTheirDay_X5_cell_n15 : GoodIn wsX2_offTheirDay (wsX5_cell) := ggX2_offTheirDay_X5_cell
set_option maxRecDepth 20000 in
theorem ggX2_offTheirDay_X7_deedAt : GoodIn wsX2_offTheirDay wsX7_deedAt := goodIn_r _ [10, 11, 12, 25, 26, 27, 28] (by decide +kernel) (by decide +kernel)
set_option maxRecDepth 20000 in
theorem gX2_offTheirDay_X7_deedAt_n19 : GoodIn wsX2_offTheirDay (wsX7_deedAt) := ggX2_offTheirDay_X7_deedAt
set_option maxRecDepth 20000 in
theorem ggX3_inLeastTerms_X3_commonDivisor : GoodIn wsX3_inLeastTerms wsX3_commonDivisor := goodIn_r _ [4] (by decide +kernel) (by decide +kernel)
set_option maxRecDepth 20000 in
theorem gX3_inLeastTerms_X3_commonDivisor : GoodIn wsX3_inLeastTerms (va_wsS RX3 7 yX3_commonDivisor wsX3_commonDivisor) := goodIn_app (goodIn_of _ (by decide +kernel)) ggX3_inLeastTerms_X3_commonDivisor
set_option maxRecDepth 20000 in
theorem ggX3_waysOfSoMany_X3_waysToChoose : GoodIn wsX3_waysOfSoMany wsX3_waysToChoose := goodIn_r _ [4] (by decide +kernel) (by decide +kernel)
set_option maxRecDepth 20000 in
theorem gX3_waysOfSoMany_X3_waysToChoose : GoodIn wsX3_waysOfSoMany (va_wsS RX3 13 yX3_waysToChoose wsX3_waysToChoose) := goodIn_app (goodIn_of _ (by decide +kernel)) ggX3_waysOfSoMany_X3_waysToChoose
set_option maxRecDepth 20000 in
theorem ggX3_waysOfSoMany_X3_power : GoodIn wsX3_waysOfSoMany wsX3_power := goodIn_r _ [7] (by decide +kernel) (by decide +kernel)
set_option maxRecDepth 20000 in
theorem gX3_waysOfSoMany_X3_power : GoodIn wsX3_waysOfSoMany (va_wsS RX3 17 yX3_power wsX3_power) := goodIn_app (goodIn_of _ (by decide +kernel)) ggX3_waysOfSoMany_X3_power
set_option maxRecDepth 20000 in
theorem ggX5_hold_X5_empty : GoodIn wsX5_hold wsX5_empty := goodIn_r _ [7, 8, 9, 1, 2, 10, 11, 12, 13, 14] (by decide +kernel) (by decide +kernel)
set_option maxRecDepth 20000 in
theorem gX5_hold_X5_empty : GoodIn wsX5_hold (wsV RX5 26 RX5 yX5_empty wsX5_empty) := goodIn_app (goodIn_of _ (by decide +kernel)) ggX5_hold_X5_empty
set_option maxRecDepth 20000 in
theorem ggX5_lay_X5_empty : GoodIn wsX5_lay wsX5_empty := goodIn_r _ [8, 2, 1, 9, 10, 11, 12, 13, 14, 15] (by decide +kernel) (by decide +kernel)
set_option maxRecDepth 20000 in
theorem gX5_lay_X5_empty : GoodIn wsX5_lay (wsV RX5 26 RX5 yX5_empty wsX5_empty) := goodIn_app (goodIn_of _ (by decide +kernel)) ggX5_lay_X5_empty
set_option maxRecDepth 20000 in
theorem ggX5_isSkipped_X5_cell : GoodIn wsX5_isSkipped wsX5_cell := goodIn_r _ [7, 8, 9, 10, 11, 12, 13, 14] (by decide +kernel) (by decide +kernel)
set_option maxRecDepth 20000 in
theorem gX5_isSkipped_X5_cell : GoodIn wsX5_isSkipped (wsV RX5 29 RX5 yX5_cell wsX5_cell) := goodIn_app (goodIn_of _ (by decide +kernel)) ggX5_isSkipped_X5_cell
set_option maxRecDepth 20000 in
theorem ggX5_tellsAlways_X5_isSkipped : GoodIn wsX5_tellsAlways wsX5_isSkipped := goodIn_r _ [6, 7, 8, 9, 10, 11, 5, 12, 1, 13, 14, 15, 16, 17, 18] (by decide +kernel) (by decide +kernel)
set_option maxRecDepth 20000 in
theorem gX5_tellsAlways_X5_isSkipped : GoodIn wsX5_tellsAlways (wsV RX5 34 RX5 yX5_isSkipped wsX5_isSkipped) := goodIn_app (goodIn_of _ (by decide +kernel)) ggX5_tellsAlways_X5_isSkipped
set_option maxRecDepth 20000 in
theorem ggX5_tellsAlways_X5_cell : GoodIn wsX5_tellsAlways wsX5_cell := goodIn_r _ [12, 1, 13, 14, 15, 16, 17, 18] (by decide +kernel) (by decide +kernel)
set_option maxRecDepth 20000 in
theorem gX5_tellsAlways_X5_cell : GoodIn wsX5_tellsAlways (wsV RX5 29 RX5 yX5_cell wsX5_cell) := goodIn_app (goodIn_of _ (by decide +kernel)) ggX5_tellsAlways_X5_cell
set_option maxRecDepth 20000 in
theorem ggX5_number_X5_cell : GoodIn wsX5_number wsX5_cell := goodIn_r _ [5, 6, 7, 8, 9, 10, 11, 12] (by decide +kernel) (by decide +kernel)
set_option maxRecDepth 20000 in
theorem gX5_number_X5_cell : GoodIn wsX5_number (wsV RX5 29 RX5 yX5_cell wsX5_cell) := goodIn_app (goodIn_of _ (by decide +kernel)) ggX5_number_X5_cell
set_option maxRecDepth 20000 in
theorem ggX6_firstBadByte_X5_cell : GoodIn wsX6_firstBadByte wsX5_cell := goodIn_r _ [4, 5, 6, 11, 12, 13, 14, 15] (by decide +kernel) (by decide +kernel)
set_option maxRecDepth 20000 in
theorem gX6_firstBadByte_X5_cell_n15 : GoodIn wsX6_firstBadByte (wsX5_cell) := ggX6_firstBadByte_X5_cell
set_option maxRecDepth 20000 in
theorem ggX6_firstBadByte_X6_digitsBehind : GoodIn wsX6_firstBadByte wsX6_digitsBehind := goodIn_r _ [10] (by decide +kernel) (by decide +kernel)
set_option maxRecDepth 20000 in
theorem gX6_firstBadByte_X6_digitsBehind : GoodIn wsX6_firstBadByte (va_wsS RX6 19 yX6_digitsBehind wsX6_digitsBehind) := goodIn_app (goodIn_of _ (by decide +kernel)) ggX6_firstBadByte_X6_digitsBehind
set_option maxRecDepth 20000 in
theorem ggX6_statements_X5_cell : GoodIn wsX6_statements wsX5_cell := goodIn_r _ [4, 5, 6, 7, 8, 9, 10, 11] (by decide +kernel) (by decide +kernel)
set_option maxRecDepth 20000 in
theorem gX6_statements_X5_cell_n15 : GoodIn wsX6_statements (wsX5_cell) := ggX6_statements_X5_cell
set_option maxRecDepth 20000 in
theorem ggX6_firstWrongStatement_X5_cell : GoodIn wsX6_firstWrongStatement wsX5_cell := goodIn_r _ [4, 5, 6, 52, 53, 54, 55, 56] (by decide +kernel) (by decide +kernel)
set_option maxRecDepth 20000 in
theorem gX6_firstWrongStatement_X5_cell_n15 : GoodIn wsX6_firstWrongStatement (wsX5_cell) := ggX6_firstWrongStatement_X5_cell
set_option maxRecDepth 20000 in
theorem ggX6_firstWrongStatement_X6_isTaken : GoodIn wsX6_firstWrongStatement wsX6_isTaken := goodIn_r _ [10, 1, 2, 3, 4, 5, 6, 11, 12, 9, 13, 14, 15, 16, 17, 18, 19, 20, 21, 22, 23, 24, 25, 26, 27, 28, 29, 30, 31, 32, 33, 34, 35, 36, 37, 38, 39, 40, 41, 42, 43, 44, 45, 46, 47, 48, 49, 50, 51, 52, 53, 54, 55, 56, 57, 58, 59, 60, 61, 62, 63, 64, 65, 66, 67] (by decide +kernel) (by decide +kernel)
set_option maxRecDepth 20000 in
theorem gX6_firstWrongStatement_X6_isTaken : GoodIn wsX6_firstWrongStatement (va_wsS RX6 24 yX6_isTaken wsX6_isTaken) := goodIn_app (goodIn_of _ (by decide +kernel)) ggX6_firstWrongStatement_X6_isTaken
set_option maxRecDepth 20000 in
theorem ggX6_isTaken_X5_cell : GoodIn wsX6_isTaken wsX5_cell := goodIn_r _ [4, 5, 6, 49, 50, 51, 52, 53] (by decide +kernel) (by decide +kernel)
set_option maxRecDepth 20000 in
theorem gX6_isTaken_X5_cell_n15 : GoodIn wsX6_isTaken (wsX5_cell) := ggX6_isTaken_X5_cell
set_option maxRecDepth 20000 in
theorem ggX6_isTaken_X6_isDeedTaken : GoodIn wsX6_isTaken wsX6_isDeedTaken := goodIn_r _ [10, 11, 2, 12, 13, 14, 1, 3, 4, 5, 6, 15, 16, 17, 18, 19, 20, 21, 22, 23, 24, 25, 26, 27, 28, 29, 30, 31, 32, 33, 34, 35, 36, 49, 50, 51, 52, 53, 54, 55, 56, 57, 58, 59, 60, 61, 62, 63, 64] (by decide +kernel) (by decide +kernel)
set_option maxRecDepth 20000 in
theorem gX6_isTaken_X6_isDeedTaken : GoodIn wsX6_isTaken (va_wsS RX6 28 yX6_isDeedTaken wsX6_isDeedTaken) := goodIn_app (goodIn_of _ (by decide +kernel)) ggX6_isTaken_X6_isDeedTaken
set_option maxRecDepth 20000 in
theorem ggX6_isTaken_X5_number : GoodIn wsX6_isTaken wsX5_number := goodIn_r _ [13, 14, 1, 3, 2, 4, 5, 6, 49, 50, 51, 52, 53] (by decide +kernel) (by decide +kernel)
set_option maxRecDepth 20000 in
theorem gX6_isTaken_X5_number_n31 : GoodIn wsX6_isTaken (wsX5_number) := ggX6_isTaken_X5_number
set_option maxRecDepth 20000 in
theorem ggX6_isTaken_X6_isTodayTaken : GoodIn wsX6_isTaken wsX6_isTodayTaken := goodIn_r _ [39, 54, 55, 56, 57] (by decide +kernel) (by decide +kernel)
set_option maxRecDepth 20000 in
theorem gX6_isTaken_X6_isTodayTaken : GoodIn wsX6_isTaken (va_wsS RX6 35 yX6_isTodayTaken wsX6_isTodayTaken) := goodIn_app (goodIn_of _ (by decide +kernel)) ggX6_isTaken_X6_isTodayTaken
set_option maxRecDepth 20000 in
theorem ggX6_isTaken_X6_isSightTaken : GoodIn wsX6_isTaken wsX6_isSightTaken := goodIn_r _ [42, 43, 16, 44, 45, 19, 20, 46, 22, 47, 48, 29, 58, 59, 60, 61, 62, 63, 64, 54, 55, 56, 57] (by decide +kernel) (by decide +kernel)
set_option maxRecDepth 20000 in
theorem gX6_isTaken_X6_isSightTaken : GoodIn wsX6_isTaken (va_wsS RX6 39 yX6_isSightTaken wsX6_isSightTaken) := goodIn_app (goodIn_of _ (by decide +kernel)) ggX6_isTaken_X6_isSightTaken
set_option maxRecDepth 20000 in
theorem ggX6_isDeedTaken_X5_number : GoodIn wsX6_isDeedTaken wsX5_number := goodIn_r _ [4, 5, 6, 7, 2, 8, 9, 10, 33, 34, 35, 36, 37] (by decide +kernel) (by decide +kernel)
set_option maxRecDepth 20000 in
theorem gX6_isDeedTaken_X5_number_n31 : GoodIn wsX6_isDeedTaken (wsX5_number) := ggX6_isDeedTaken_X5_number
set_option maxRecDepth 20000 in
theorem ggX6_isDeedTaken_X7_add : GoodIn wsX6_isDeedTaken wsX7_add := goodIn_r _ [14, 15, 16, 17, 18, 19, 20, 21, 22, 23, 24, 25, 26, 27, 28, 29, 30, 31, 32, 38, 39, 40, 41, 42, 43, 44, 45, 46, 47, 48] (by decide +kernel) (by decide +kernel)
set_option maxRecDepth 20000 in
theorem gX6_isDeedTaken_X7_add_n43 : GoodIn wsX6_isDeedTaken (wsX7_add) := ggX6_isDeedTaken_X7_add
set_option maxRecDepth 20000 in
theorem ggX6_isSightTaken_X7_deedAt : GoodIn wsX6_isSightTaken wsX7_deedAt := goodIn_r _ [4, 5, 6, 19, 20, 21, 22] (by decide +kernel) (by decide +kernel)
set_option maxRecDepth 20000 in
theorem gX6_isSightTaken_X7_deedAt_n52 : GoodIn wsX6_isSightTaken (wsX7_deedAt) := ggX6_isSightTaken_X7_deedAt
set_option maxRecDepth 20000 in
theorem ggX6_isSightTaken_X1_turnSeen : GoodIn wsX6_isSightTaken wsX1_turnSeen := goodIn_r _ [10, 11, 12, 13, 14, 15, 16, 17, 18] (by decide +kernel) (by decide +kernel)
set_option maxRecDepth 20000 in
theorem gX6_isSightTaken_X1_turnSeen_n61 : GoodIn wsX6_isSightTaken (wsX1_turnSeen) := ggX6_isSightTaken_X1_turnSeen
set_option maxRecDepth 20000 in
theorem ggX7_init_X1_init : GoodIn wsX7_init wsX1_init := goodIn_r _ [13, 14, 2, 3] (by decide +kernel) (by decide +kernel)
set_option maxRecDepth 20000 in
theorem gX7_init_X1_init_n17 : GoodIn wsX7_init (wsX1_init) := ggX7_init_X1_init
set_option maxRecDepth 20000 in
theorem ggX7_become_X7_deedAt : GoodIn wsX7_become wsX7_deedAt := goodIn_r _ [7, 1, 8, 29, 30, 31, 32] (by decide +kernel) (by decide +kernel)
set_option maxRecDepth 20000 in
theorem gX7_become_X7_deedAt : GoodIn wsX7_become (wsV RX7 29 RX7 yX7_deedAt wsX7_deedAt) := goodIn_app (goodIn_of _ (by decide +kernel)) ggX7_become_X7_deedAt
set_option maxRecDepth 20000 in
theorem ggX7_become_X7_add : GoodIn wsX7_become wsX7_add := goodIn_r _ [12, 1, 8, 13, 14, 15, 16, 17, 18, 19, 20, 21, 22, 23, 24, 25, 26, 27, 28, 29, 30, 31, 32, 33, 34, 35, 36, 37, 38, 39] (by decide +kernel) (by decide +kernel)
set_option maxRecDepth 20000 in
theorem gX7_become_X7_add : GoodIn wsX7_become (wsV RX7 46 RX7 yX7_add wsX7_add) := goodIn_app (goodIn_of _ (by decide +kernel)) ggX7_become_X7_add
set_option maxRecDepth 20000 in
theorem ggX7_toldAt_X7_deedAt : GoodIn wsX7_toldAt wsX7_deedAt := goodIn_r _ [6, 7, 8, 16, 17, 18, 19] (by decide +kernel) (by decide +kernel)
set_option maxRecDepth 20000 in
theorem gX7_toldAt_X7_deedAt : GoodIn wsX7_toldAt (wsV RX7 29 RX7 yX7_deedAt wsX7_deedAt) := goodIn_app (goodIn_of _ (by decide +kernel)) ggX7_toldAt_X7_deedAt
set_option maxRecDepth 20000 in
theorem ggX7_add_X1_become : GoodIn wsX7_add wsX1_become := goodIn_r _ [6, 7, 8, 9, 10, 11, 12, 13, 14, 15, 16, 17, 18, 23, 24, 25, 26, 27, 28, 29] (by decide +kernel) (by decide +kernel)
set_option maxRecDepth 20000 in
theorem gX7_add_X1_become_n50 : GoodIn wsX7_add (wsX1_become) := ggX7_add_X1_become
set_option maxRecDepth 20000 in
theorem ggX7_toldCount_X7_toldAt : GoodIn wsX7_toldCount wsX7_toldAt := goodIn_r _ [6, 7, 8, 9, 10, 5, 11, 1, 12, 17, 18, 19, 20, 21, 22, 23, 13, 14, 15, 16] (by decide +kernel) (by decide +kernel)
set_option maxRecDepth 20000 in
theorem gX7_toldCount_X7_toldAt : GoodIn wsX7_toldCount (wsV RX7 60 RX7 yX7_toldAt wsX7_toldAt) := goodIn_app (goodIn_of _ (by decide +kernel)) ggX7_toldCount_X7_toldAt
set_option maxRecDepth 20000 in
theorem ggX7_memoryOf_X7_deedAt : GoodIn wsX7_memoryOf wsX7_deedAt := goodIn_r _ [6, 1, 7, 25, 26, 27, 28] (by decide +kernel) (by decide +kernel)
set_option maxRecDepth 20000 in
theorem gX7_memoryOf_X7_deedAt : GoodIn wsX7_memoryOf (wsV RX7 29 RX7 yX7_deedAt wsX7_deedAt) := goodIn_app (goodIn_of _ (by decide +kernel)) ggX7_memoryOf_X7_deedAt
set_option maxRecDepth 20000 in
theorem ggX7_memoryOf_X1_isKept : GoodIn wsX7_memoryOf wsX1_isKept := goodIn_r _ [11, 12, 13, 14, 15, 9, 16, 17, 18, 19, 20, 21, 22, 23, 24, 29, 30, 31, 32, 33, 34, 35] (by decide +kernel) (by decide +kernel)
set_option maxRecDepth 20000 in
theorem gX7_memoryOf_X1_isKept_n63 : GoodIn wsX7_memoryOf (wsX1_isKept) := ggX7_memoryOf_X1_isKept
set_option maxRecDepth 20000 in
theorem ggX7_memoryOfGroup_X7_toldAt : GoodIn wsX7_memoryOfGroup wsX7_toldAt := goodIn_r _ [7, 2, 8, 9, 10, 6, 11, 1, 12, 30, 31, 32, 33, 34, 35, 36, 26, 27, 28, 29] (by decide +kernel) (by decide +kernel)
set_option maxRecDepth 20000 in
theorem gX7_memoryOfGroup_X7_toldAt : GoodIn wsX7_memoryOfGroup (wsV RX7 60 RX7 yX7_toldAt wsX7_toldAt) := goodIn_app (goodIn_of _ (by decide +kernel)) ggX7_memoryOfGroup_X7_toldAt
set_option maxRecDepth 20000 in
theorem ggX7_memoryOfGroup_X1_keepers : GoodIn wsX7_memoryOfGroup wsX1_keepers := goodIn_r _ [16, 17, 18, 19, 20, 14, 21, 22, 23, 24, 25, 30, 31, 32, 33, 34, 35, 36] (by decide +kernel) (by decide +kernel)
set_option maxRecDepth 20000 in
theorem gX7_memoryOfGroup_X1_keepers_n67 : GoodIn wsX7_memoryOfGroup (wsX1_keepers) := ggX7_memoryOfGroup_X1_keepers
set_option maxRecDepth 20000 in
theorem ggX7_keptBySoMany_X7_toldAt : GoodIn wsX7_keptBySoMany wsX7_toldAt := goodIn_r _ [7, 2, 8, 9, 10, 6, 11, 1, 12, 37, 38, 39, 40, 41, 42, 43, 33, 34, 35, 36] (by decide +kernel) (by decide +kernel)
set_option maxRecDepth 20000 in
theorem gX7_keptBySoMany_X7_toldAt : GoodIn wsX7_keptBySoMany (wsV RX7 60 RX7 yX7_toldAt wsX7_toldAt) := goodIn_app (goodIn_of _ (by decide +kernel)) ggX7_keptBySoMany_X7_toldAt
set_option maxRecDepth 20000 in
theorem ggX7_keptBySoMany_X1_keepers : GoodIn wsX7_keptBySoMany wsX1_keepers := goodIn_r _ [16, 17, 18, 19, 20, 14, 21, 22, 23, 24, 25, 37, 38, 39, 40, 41, 42, 43] (by decide +kernel) (by decide +kernel)
set_option maxRecDepth 20000 in
theorem gX7_keptBySoMany_X1_keepers_n67 : GoodIn wsX7_keptBySoMany (wsX1_keepers) := ggX7_keptBySoMany_X1_keepers
set_option maxRecDepth 20000 in
theorem ggX7_keptBySoMany_J6_bitCount_0f7a4 : GoodIn wsX7_keptBySoMany wsJ6_bitCount_0f7a4 := goodIn_r _ [29, 30, 31, 32] (by decide +kernel) (by decide +kernel)
set_option maxRecDepth 20000 in
theorem gX7_keptBySoMany_J6_bitCount_0f7a4 : GoodIn wsX7_keptBySoMany (va_wsS RX7 71 yJ6_bitCount_0f7a4 wsJ6_bitCount_0f7a4) := goodIn_app (goodIn_of _ (by decide +kernel)) ggX7_keptBySoMany_J6_bitCount_0f7a4
set_option maxRecDepth 20000 in
theorem ggX7_mattersBetween_X7_toldAt : GoodIn wsX7_mattersBetween wsX7_toldAt := goodIn_r _ [7, 2, 8, 9, 10, 6, 11, 1, 12, 38, 39, 40, 41, 42, 43, 44, 34, 35, 36, 37] (by decide +kernel) (by decide +kernel)
set_option maxRecDepth 20000 in
theorem gX7_mattersBetween_X7_toldAt : GoodIn wsX7_mattersBetween (wsV RX7 60 RX7 yX7_toldAt wsX7_toldAt) := goodIn_app (goodIn_of _ (by decide +kernel)) ggX7_mattersBetween_X7_toldAt
set_option maxRecDepth 20000 in
theorem ggX7_mattersBetween_X1_isMatterBetween : GoodIn wsX7_mattersBetween wsX1_isMatterBetween := goodIn_r _ [16, 17, 18, 19, 14, 20, 21, 22, 23, 24, 25, 26, 27, 28, 29, 30, 31, 32, 33, 38, 39, 40, 41, 42, 43, 44] (by decide +kernel) (by decide +kernel)
set_option maxRecDepth 20000 in
theorem gX7_mattersBetween_X1_isMatterBetween_n76 : GoodIn wsX7_mattersBetween (wsX1_isMatterBetween) := ggX7_mattersBetween_X1_isMatterBetween
set_option maxRecDepth 20000 in
theorem ggX7_weighBurdens_X7_toldAt : GoodIn wsX7_weighBurdens wsX7_toldAt := goodIn_r _ [7, 8, 9, 10, 11, 6, 12, 2, 13, 30, 31, 32, 33, 34, 35, 36, 26, 27, 28, 29] (by decide +kernel) (by decide +kernel)
set_option maxRecDepth 20000 in
theorem gX7_weighBurdens_X7_toldAt : GoodIn wsX7_weighBurdens (wsV RX7 60 RX7 yX7_toldAt wsX7_toldAt) := goodIn_app (goodIn_of _ (by decide +kernel)) ggX7_weighBurdens_X7_toldAt
set_option maxRecDepth 20000 in
theorem ggX7_weighBurdens_X8_isBelow : GoodIn wsX7_weighBurdens wsX8_isBelow := goodIn_r _ [16] (by decide +kernel) (by decide +kernel)
set_option maxRecDepth 20000 in
theorem gX7_weighBurdens_X8_isBelow_n80 : GoodIn wsX7_weighBurdens (wsX8_isBelow) := ggX7_weighBurdens_X8_isBelow
set_option maxRecDepth 20000 in
theorem ggX7_weighBurdens_X1_burden : GoodIn wsX7_weighBurdens wsX1_burden := goodIn_r _ [20, 21, 22, 23, 24, 25, 30, 31, 32, 33, 34, 35, 36] (by decide +kernel) (by decide +kernel)
set_option maxRecDepth 20000 in
theorem gX7_weighBurdens_X1_burden_n83 : GoodIn wsX7_weighBurdens (wsX1_burden) := ggX7_weighBurdens_X1_burden
set_option maxRecDepth 20000 in
theorem ggX7_sizesBut_X7_toldAt : GoodIn wsX7_sizesBut wsX7_toldAt := goodIn_r _ [6, 7, 8, 9, 10, 5, 11, 1, 12, 26, 27, 28, 29, 30, 31, 32, 22, 23, 24, 25] (by decide +kernel) (by decide +kernel)
set_option maxRecDepth 20000 in
theorem gX7_sizesBut_X7_toldAt : GoodIn wsX7_sizesBut (wsV RX7 60 RX7 yX7_toldAt wsX7_toldAt) := goodIn_app (goodIn_of _ (by decide +kernel)) ggX7_sizesBut_X7_toldAt
set_option maxRecDepth 20000 in
theorem ggX7_sizesBut_X1_size : GoodIn wsX7_sizesBut wsX1_size := goodIn_r _ [16, 17, 18, 19, 20, 21, 26, 27, 28, 29, 30, 31, 32] (by decide +kernel) (by decide +kernel)
set_option maxRecDepth 20000 in
theorem gX7_sizesBut_X1_size_n87 : GoodIn wsX7_sizesBut (wsX1_size) := ggX7_sizesBut_X1_size
set_option maxRecDepth 20000 in
theorem ggX7_greatestBut_X7_toldAt : GoodIn wsX7_greatestBut wsX7_toldAt := goodIn_r _ [6, 7, 8, 9, 10, 5, 11, 1, 12, 26, 27, 28, 29, 30, 31, 32, 22, 23, 24, 25] (by decide +kernel) (by decide +kernel)
set_option maxRecDepth 20000 in
theorem gX7_greatestBut_X7_toldAt : GoodIn wsX7_greatestBut (wsV RX7 60 RX7 yX7_toldAt wsX7_toldAt) := goodIn_app (goodIn_of _ (by decide +kernel)) ggX7_greatestBut_X7_toldAt
set_option maxRecDepth 20000 in
theorem ggX7_greatestBut_X1_size : GoodIn wsX7_greatestBut wsX1_size := goodIn_r _ [16, 17, 18, 19, 20, 21, 26, 27, 28, 29, 30, 31, 32] (by decide +kernel) (by decide +kernel)
set_option maxRecDepth 20000 in
theorem gX7_greatestBut_X1_size_n87 : GoodIn wsX7_greatestBut (wsX1_size) := ggX7_greatestBut_X1_size
set_option maxRecDepth 20000 in
theorem ggX7_allLasting_X7_deedAt : GoodIn wsX7_allLasting wsX7_deedAt := goodIn_r _ [6, 1, 7, 8, 9, 10, 11] (by decide +kernel) (by decide +kernel)
set_option maxRecDepth 20000 in
theorem gX7_allLasting_X7_deedAt : GoodIn wsX7_allLasting (wsV RX7 29 RX7 yX7_deedAt wsX7_deedAt) := goodIn_app (goodIn_of _ (by decide +kernel)) ggX7_allLasting_X7_deedAt
set_option maxRecDepth 20000 in
theorem ggX7_allSeen_X7_deedAt : GoodIn wsX7_allSeen wsX7_deedAt := goodIn_r _ [6, 1, 7, 15, 16, 17, 18] (by decide +kernel) (by decide +kernel)
set_option maxRecDepth 20000 in
theorem gX7_allSeen_X7_deedAt : GoodIn wsX7_allSeen (wsV RX7 29 RX7 yX7_deedAt wsX7_deedAt) := goodIn_app (goodIn_of _ (by decide +kernel)) ggX7_allSeen_X7_deedAt
set_option maxRecDepth 20000 in
theorem ggX7_allSeen_J6_bitCount_0f7a4 : GoodIn wsX7_allSeen wsJ6_bitCount_0f7a4 := goodIn_r _ [11, 12, 13, 14] (by decide +kernel) (by decide +kernel)
set_option maxRecDepth 20000 in
theorem gX7_allSeen_J6_bitCount_0f7a4 : GoodIn wsX7_allSeen (va_wsS RX7 71 yJ6_bitCount_0f7a4 wsJ6_bitCount_0f7a4) := goodIn_app (goodIn_of _ (by decide +kernel)) ggX7_allSeen_J6_bitCount_0f7a4
