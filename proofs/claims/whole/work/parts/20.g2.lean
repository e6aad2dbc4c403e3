set_option maxRecDepth 20000 in
theorem ggX8_init_X5_init : GoodIn wsX8_init wsX5_init := goodIn_r _ [24, 25, 2, 3, 26, 27, 28, 29, 30, 31, 59, 60, 61, 62, 63] (by decide +kernel) (by decide +kernel)
set_option maxRecDepth 20000 in
theorem gX8_init_X5_init_n15 : GoodIn wsX8_init (wsX5_init) := ggX8_init_X5_init
set_option maxRecDepth 20000 in
theorem ggX8_init_X0_init : GoodIn wsX8_init wsX0_init := goodIn_r _ [33, 34, 2, 3, 35, 14, 15, 36, 26, 37, 38, 39, 40, 41, 42, 43, 44, 45, 20, 21, 46, 47, 48, 49, 50, 51, 69, 70, 71, 72, 64, 65, 66, 67, 68, 73, 74, 75, 76, 77, 78, 79] (by decide +kernel) (by decide +kernel)
set_option maxRecDepth 20000 in
theorem gX8_init_X0_init_n18 : GoodIn wsX8_init (wsX0_init) := ggX8_init_X0_init
set_option maxRecDepth 20000 in
theorem ggX8_init_X7_init : GoodIn wsX8_init wsX7_init := goodIn_r _ [42, 43, 2, 3, 44, 45, 20, 21, 26, 46, 47, 48, 49, 50, 51, 69, 70, 71, 72, 73, 74, 75, 76, 77, 78, 79] (by decide +kernel) (by decide +kernel)
set_option maxRecDepth 20000 in
theorem gX8_init_X7_init_n32 : GoodIn wsX8_init (wsX7_init) := ggX8_init_X7_init
set_option maxRecDepth 20000 in
theorem ggX8_init_X1_init : GoodIn wsX8_init wsX1_init := goodIn_r _ [50, 51, 2, 3] (by decide +kernel) (by decide +kernel)
set_option maxRecDepth 20000 in
theorem gX8_init_X1_init_n45 : GoodIn wsX8_init (wsX1_init) := ggX8_init_X1_init
set_option maxRecDepth 20000 in
theorem ggX8_year_X8_shelfAt : GoodIn wsX8_year wsX8_shelfAt := goodIn_r _ [7, 8, 94, 95, 96, 97, 98, 99, 100] (by decide +kernel) (by decide +kernel)
set_option maxRecDepth 20000 in
theorem gX8_year_X8_shelfAt : GoodIn wsX8_year (wsV RX8 50 RX8 yX8_shelfAt wsX8_shelfAt) := goodIn_app (goodIn_of _ (by decide +kernel)) ggX8_year_X8_shelfAt
set_option maxRecDepth 20000 in
theorem ggX8_year_X8_rowRefusal : GoodIn wsX8_year wsX8_rowRefusal := goodIn_r _ [11, 12, 13, 6, 14, 15, 16, 17, 18, 19, 20, 21, 22, 23, 89, 90, 91, 92, 93] (by decide +kernel) (by decide +kernel)
set_option maxRecDepth 20000 in
theorem gX8_year_X8_rowRefusal : GoodIn wsX8_year (va_wsS RX8 54 yX8_rowRefusal wsX8_rowRefusal) := goodIn_app (goodIn_of _ (by decide +kernel)) ggX8_year_X8_rowRefusal
set_option maxRecDepth 20000 in
theorem ggX8_year_X6_firstBadByte : GoodIn wsX8_year wsX6_firstBadByte := goodIn_r _ [26, 27, 16, 28, 29, 30, 31, 32, 33, 25, 34, 89, 90, 91, 92, 93] (by decide +kernel) (by decide +kernel)
set_option maxRecDepth 20000 in
theorem gX8_year_X6_firstBadByte_n62 : GoodIn wsX8_year (wsX6_firstBadByte) := ggX8_year_X6_firstBadByte
set_option maxRecDepth 20000 in
theorem ggX8_year_X7_become : GoodIn wsX8_year wsX7_become := goodIn_r _ [38, 39, 40, 41, 42, 43, 36, 44, 45, 46, 47, 48, 49, 50, 51, 52, 53, 54, 55, 56, 57, 58, 59, 60, 61, 62, 63, 64, 65, 101, 102, 103, 104, 105, 106, 107, 108, 109, 110, 111] (by decide +kernel) (by decide +kernel)
set_option maxRecDepth 20000 in
theorem gX8_year_X7_become_n67 : GoodIn wsX8_year (wsX7_become) := ggX8_year_X7_become
set_option maxRecDepth 20000 in
theorem ggX8_year_X6_firstWrongStatement : GoodIn wsX8_year wsX6_firstWrongStatement := goodIn_r _ [67, 27, 16, 28, 29, 30, 31, 68, 69, 25, 70, 71, 72, 73, 74, 75, 76, 77, 47, 36, 48, 49, 39, 45, 50, 51, 52, 53, 54, 55, 56, 57, 58, 59, 60, 61, 62, 63, 64, 65, 78, 79, 80, 81, 82, 83, 42, 43, 44, 84, 85, 86, 89, 90, 91, 92, 93, 101, 102, 103, 104, 105, 106, 107, 108, 109, 110, 111] (by decide +kernel) (by decide +kernel)
set_option maxRecDepth 20000 in
theorem gX8_year_X6_firstWrongStatement_n71 : GoodIn wsX8_year (wsX6_firstWrongStatement) := ggX8_year_X6_firstWrongStatement
set_option maxRecDepth 20000 in
theorem ggX8_year_X6_statements : GoodIn wsX8_year wsX6_statements := goodIn_r _ [88, 27, 16, 28, 29, 30, 31, 89, 90, 91, 92, 93] (by decide +kernel) (by decide +kernel)
set_option maxRecDepth 20000 in
theorem gX8_year_X6_statements_n75 : GoodIn wsX8_year (wsX6_statements) := ggX8_year_X6_statements
set_option maxRecDepth 20000 in
theorem ggX8_deed_X7_deedAt : GoodIn wsX8_deed wsX7_deedAt := goodIn_r _ [5, 6, 7, 31, 32, 33, 34] (by decide +kernel) (by decide +kernel)
set_option maxRecDepth 20000 in
theorem gX8_deed_X7_deedAt_n78 : GoodIn wsX8_deed (wsX7_deedAt) := ggX8_deed_X7_deedAt
set_option maxRecDepth 20000 in
theorem ggX8_deed_X1_size : GoodIn wsX8_deed wsX1_size := goodIn_r _ [11, 12, 13, 14, 15, 16, 24, 25, 26, 27, 28, 29, 30] (by decide +kernel) (by decide +kernel)
set_option maxRecDepth 20000 in
theorem gX8_deed_X1_size_n103 : GoodIn wsX8_deed (wsX1_size) := ggX8_deed_X1_size
set_option maxRecDepth 20000 in
theorem ggX8_guilt_X7_deedAt : GoodIn wsX8_guilt wsX7_deedAt := goodIn_r _ [6, 7, 8, 25, 26, 27, 28] (by decide +kernel) (by decide +kernel)
set_option maxRecDepth 20000 in
theorem gX8_guilt_X7_deedAt_n78 : GoodIn wsX8_guilt (wsX7_deedAt) := ggX8_guilt_X7_deedAt
set_option maxRecDepth 20000 in
theorem ggX8_guilt_X1_burden : GoodIn wsX8_guilt wsX1_burden := goodIn_r _ [12, 13, 14, 15, 16, 17, 29, 30, 31, 32, 33, 34, 35] (by decide +kernel) (by decide +kernel)
set_option maxRecDepth 20000 in
theorem gX8_guilt_X1_burden_n108 : GoodIn wsX8_guilt (wsX1_burden) := ggX8_guilt_X1_burden
set_option maxRecDepth 20000 in
theorem ggX8_done_X8_isWithin : GoodIn wsX8_done wsX8_isWithin := goodIn_r _ [5] (by decide +kernel) (by decide +kernel)
set_option maxRecDepth 20000 in
theorem gX8_done_X8_isWithin : GoodIn wsX8_done (va_wsS RX8 111 yX8_isWithin wsX8_isWithin) := goodIn_app (goodIn_of _ (by decide +kernel)) ggX8_done_X8_isWithin
set_option maxRecDepth 20000 in
theorem ggX8_done_X8_isBelow : GoodIn wsX8_done wsX8_isBelow := goodIn_r _ [8] (by decide +kernel) (by decide +kernel)
set_option maxRecDepth 20000 in
theorem gX8_done_X8_isBelow : GoodIn wsX8_done (va_wsS RX8 115 yX8_isBelow wsX8_isBelow) := goodIn_app (goodIn_of _ (by decide +kernel)) ggX8_done_X8_isBelow
set_option maxRecDepth 20000 in
theorem ggX8_done_X8_shelfAt : GoodIn wsX8_done wsX8_shelfAt := goodIn_r _ [12, 13, 51, 52, 53, 54, 55, 56, 57] (by decide +kernel) (by decide +kernel)
set_option maxRecDepth 20000 in
theorem gX8_done_X8_shelfAt : GoodIn wsX8_done (wsV RX8 50 RX8 yX8_shelfAt wsX8_shelfAt) := goodIn_app (goodIn_of _ (by decide +kernel)) ggX8_done_X8_shelfAt
set_option maxRecDepth 20000 in
theorem ggX8_done_X8_kindRefusal : GoodIn wsX8_done wsX8_kindRefusal := goodIn_r _ [16, 17, 18, 4, 19, 20, 21, 22, 23, 24, 25, 26, 27, 28, 58, 59, 60, 61, 62] (by decide +kernel) (by decide +kernel)
set_option maxRecDepth 20000 in
theorem gX8_done_X8_kindRefusal : GoodIn wsX8_done (va_wsS RX8 118 yX8_kindRefusal wsX8_kindRefusal) := goodIn_app (goodIn_of _ (by decide +kernel)) ggX8_done_X8_kindRefusal
set_option maxRecDepth 20000 in
theorem ggX8_done_X7_add : GoodIn wsX8_done wsX7_add := goodIn_r _ [32, 33, 34, 35, 36, 37, 38, 39, 40, 41, 42, 43, 44, 45, 46, 47, 48, 49, 50, 63, 64, 65, 66, 67, 68, 69, 70, 71, 72, 73] (by decide +kernel) (by decide +kernel)
set_option maxRecDepth 20000 in
theorem gX8_done_X7_add_n123 : GoodIn wsX8_done (wsX7_add) := ggX8_done_X7_add
set_option maxRecDepth 20000 in
theorem ggX8_sees_X7_deedAt : GoodIn wsX8_sees wsX7_deedAt := goodIn_r _ [5, 6, 7, 31, 32, 33, 34] (by decide +kernel) (by decide +kernel)
set_option maxRecDepth 20000 in
theorem gX8_sees_X7_deedAt_n78 : GoodIn wsX8_sees (wsX7_deedAt) := ggX8_sees_X7_deedAt
set_option maxRecDepth 20000 in
theorem ggX8_sees_X8_isBelow : GoodIn wsX8_sees wsX8_isBelow := goodIn_r _ [11] (by decide +kernel) (by decide +kernel)
set_option maxRecDepth 20000 in
theorem gX8_sees_X8_isBelow : GoodIn wsX8_sees (va_wsS RX8 115 yX8_isBelow wsX8_isBelow) := goodIn_app (goodIn_of _ (by decide +kernel)) ggX8_sees_X8_isBelow
set_option maxRecDepth 20000 in
theorem ggX8_sees_X1_turnSeen : GoodIn wsX8_sees wsX1_turnSeen := goodIn_r _ [15, 16, 24, 25, 26, 27, 28, 29, 30] (by decide +kernel) (by decide +kernel)
set_option maxRecDepth 20000 in
theorem gX8_sees_X1_turnSeen_n130 : GoodIn wsX8_sees (wsX1_turnSeen) := ggX8_sees_X1_turnSeen
set_option maxRecDepth 20000 in
theorem ggX8_today_X8_isWithin : GoodIn wsX8_today wsX8_isWithin := goodIn_r _ [5] (by decide +kernel) (by decide +kernel)
set_option maxRecDepth 20000 in
theorem gX8_today_X8_isWithin : GoodIn wsX8_today (va_wsS RX8 111 yX8_isWithin wsX8_isWithin) := goodIn_app (goodIn_of _ (by decide +kernel)) ggX8_today_X8_isWithin
set_option maxRecDepth 20000 in
theorem ggX8_remembers_X7_deedAt : GoodIn wsX8_remembers wsX7_deedAt := goodIn_r _ [5, 6, 7, 36, 37, 38, 39] (by decide +kernel) (by decide +kernel)
set_option maxRecDepth 20000 in
theorem gX8_remembers_X7_deedAt_n78 : GoodIn wsX8_remembers (wsX7_deedAt) := ggX8_remembers_X7_deedAt
set_option maxRecDepth 20000 in
theorem ggX8_remembers_X8_isBelow : GoodIn wsX8_remembers wsX8_isBelow := goodIn_r _ [11] (by decide +kernel) (by decide +kernel)
set_option maxRecDepth 20000 in
theorem gX8_remembers_X8_isBelow : GoodIn wsX8_remembers (va_wsS RX8 115 yX8_isBelow wsX8_isBelow) := goodIn_app (goodIn_of _ (by decide +kernel)) ggX8_remembers_X8_isBelow
set_option maxRecDepth 20000 in
theorem ggX8_remembers_X1_isKept : GoodIn wsX8_remembers wsX1_isKept := goodIn_r _ [15, 16, 17, 18, 19, 13, 20, 21, 22, 23, 24, 25, 26, 27, 28, 40, 41, 42, 43, 44, 45, 46] (by decide +kernel) (by decide +kernel)
set_option maxRecDepth 20000 in
theorem gX8_remembers_X1_isKept_n135 : GoodIn wsX8_remembers (wsX1_isKept) := ggX8_remembers_X1_isKept
set_option maxRecDepth 20000 in
theorem ggX8_knows_X8_isBelow : GoodIn wsX8_knows wsX8_isBelow := goodIn_r _ [5] (by decide +kernel) (by decide +kernel)
set_option maxRecDepth 20000 in
theorem gX8_knows_X8_isBelow : GoodIn wsX8_knows (va_wsS RX8 115 yX8_isBelow wsX8_isBelow) := goodIn_app (goodIn_of _ (by decide +kernel)) ggX8_knows_X8_isBelow
set_option maxRecDepth 20000 in
theorem ggX8_knows_X7_memoryOf : GoodIn wsX8_knows wsX7_memoryOf := goodIn_r _ [9, 10, 11, 12, 13, 7, 14, 15, 16, 17, 18, 19, 20, 21, 22, 23, 24, 25, 26, 27, 28, 29, 30, 31, 32, 40, 41, 42, 43, 44, 45, 46, 47, 48, 49, 50] (by decide +kernel) (by decide +kernel)
set_option maxRecDepth 20000 in
theorem gX8_knows_X7_memoryOf_n138 : GoodIn wsX8_knows (wsX7_memoryOf) := ggX8_knows_X7_memoryOf
set_option maxRecDepth 20000 in
theorem ggX8_forgotten_X7_keptBySoMany : GoodIn wsX8_forgotten wsX7_keptBySoMany := goodIn_r _ [5, 6, 7, 8, 9, 10, 3, 11, 12, 13, 14, 15, 16, 17, 18, 19, 20, 21, 22, 23, 24, 25, 26, 27, 28, 29, 30, 31, 32, 33, 34, 35, 36, 44, 45, 46, 47, 48, 49, 50, 51, 52, 53, 54] (by decide +kernel) (by decide +kernel)
set_option maxRecDepth 20000 in
theorem gX8_forgotten_X7_keptBySoMany_n142 : GoodIn wsX8_forgotten (wsX7_keptBySoMany) := ggX8_forgotten_X7_keptBySoMany
set_option maxRecDepth 20000 in
theorem ggX8_forgets_X7_deedAt : GoodIn wsX8_forgets wsX7_deedAt := goodIn_r _ [5, 6, 7, 36, 37, 38, 39] (by decide +kernel) (by decide +kernel)
set_option maxRecDepth 20000 in
theorem gX8_forgets_X7_deedAt_n78 : GoodIn wsX8_forgets (wsX7_deedAt) := ggX8_forgets_X7_deedAt
set_option maxRecDepth 20000 in
theorem ggX8_forgets_X8_isBelow : GoodIn wsX8_forgets wsX8_isBelow := goodIn_r _ [11] (by decide +kernel) (by decide +kernel)
set_option maxRecDepth 20000 in
theorem gX8_forgets_X8_isBelow : GoodIn wsX8_forgets (va_wsS RX8 115 yX8_isBelow wsX8_isBelow) := goodIn_app (goodIn_of _ (by decide +kernel)) ggX8_forgets_X8_isBelow
set_option maxRecDepth 20000 in
theorem ggX8_forgets_X1_isKept : GoodIn wsX8_forgets wsX1_isKept := goodIn_r _ [15, 16, 17, 18, 19, 13, 20, 21, 22, 23, 24, 25, 26, 27, 28, 40, 41, 42, 43, 44, 45, 46] (by decide +kernel) (by decide +kernel)
set_option maxRecDepth 20000 in
theorem gX8_forgets_X1_isKept_n135 : GoodIn wsX8_forgets (wsX1_isKept) := ggX8_forgets_X1_isKept
set_option maxRecDepth 20000 in
theorem ggX8_forgets_X1_lastingFor : GoodIn wsX8_forgets wsX1_lastingFor := goodIn_r _ [26, 21, 27, 28, 40, 41, 42, 43, 44, 45, 46] (by decide +kernel) (by decide +kernel)
set_option maxRecDepth 20000 in
theorem gX8_forgets_X1_lastingFor_n146 : GoodIn wsX8_forgets (wsX1_lastingFor) := ggX8_forgets_X1_lastingFor
set_option maxRecDepth 20000 in
theorem ggX8_only_X7_keptBySoMany : GoodIn wsX8_only wsX7_keptBySoMany := goodIn_r _ [5, 6, 7, 8, 9, 10, 3, 11, 12, 13, 14, 15, 16, 17, 18, 19, 20, 21, 22, 23, 24, 25, 26, 27, 28, 29, 30, 31, 32, 33, 34, 35, 36, 44, 45, 46, 47, 48, 49, 50, 51, 52, 53, 54] (by decide +kernel) (by decide +kernel)
set_option maxRecDepth 20000 in
theorem gX8_only_X7_keptBySoMany_n142 : GoodIn wsX8_only (wsX7_keptBySoMany) := ggX8_only_X7_keptBySoMany
set_option maxRecDepth 20000 in
theorem ggX8_witnesses_X7_memoryOfGroup : GoodIn wsX8_witnesses wsX7_memoryOfGroup := goodIn_r _ [5, 6, 7, 8, 9, 10, 3, 11, 12, 13, 14, 15, 16, 17, 18, 19, 20, 21, 22, 23, 24, 25, 26, 27, 28, 29, 44, 45, 46, 47, 48, 49, 50, 51, 52, 53, 54] (by decide +kernel) (by decide +kernel)
set_option maxRecDepth 20000 in
theorem gX8_witnesses_X7_memoryOfGroup_n149 : GoodIn wsX8_witnesses (wsX7_memoryOfGroup) := ggX8_witnesses_X7_memoryOfGroup
set_option maxRecDepth 20000 in
theorem ggX8_witnesses_J6_bitCount_0f7a4 : GoodIn wsX8_witnesses wsJ6_bitCount_0f7a4 := goodIn_r _ [33, 34, 35, 36] (by decide +kernel) (by decide +kernel)
set_option maxRecDepth 20000 in
theorem gX8_witnesses_J6_bitCount_0f7a4 : GoodIn wsX8_witnesses (va_wsS RX8 152 yJ6_bitCount_0f7a4 wsJ6_bitCount_0f7a4) := goodIn_app (goodIn_of _ (by decide +kernel)) ggX8_witnesses_J6_bitCount_0f7a4
set_option maxRecDepth 20000 in
theorem ggX8_place_X7_deedAt : GoodIn wsX8_place wsX7_deedAt := goodIn_r _ [6, 7, 8, 73, 74, 75, 76] (by decide +kernel) (by decide +kernel)
set_option maxRecDepth 20000 in
theorem gX8_place_X7_deedAt_n78 : GoodIn wsX8_place (wsX7_deedAt) := ggX8_place_X7_deedAt
set_option maxRecDepth 20000 in
theorem ggX8_place_X8_isBelow : GoodIn wsX8_place wsX8_isBelow := goodIn_r _ [12] (by decide +kernel) (by decide +kernel)
set_option maxRecDepth 20000 in
theorem gX8_place_X8_isBelow : GoodIn wsX8_place (va_wsS RX8 115 yX8_isBelow wsX8_isBelow) := goodIn_app (goodIn_of _ (by decide +kernel)) ggX8_place_X8_isBelow
set_option maxRecDepth 20000 in
theorem ggX8_place_X0_print : GoodIn wsX8_place wsX0_print := goodIn_r _ [16, 17, 18, 19, 4, 20, 21, 22, 23, 3, 5, 6, 7, 8, 24, 25, 26, 14, 27, 28, 29, 30, 31, 32, 33, 34, 35, 36, 37, 38, 39, 40, 41, 42, 43, 44, 45, 46, 47, 48, 49, 50, 51, 52, 53, 54, 77, 78, 79, 80, 81, 73, 74, 75, 76, 82, 83, 84, 85, 86, 87, 88] (by decide +kernel) (by decide +kernel)
set_option maxRecDepth 20000 in
theorem gX8_place_X0_print_n157 : GoodIn wsX8_place (wsX0_print) := ggX8_place_X0_print
set_option maxRecDepth 20000 in
theorem ggX8_place_X0_placeOf : GoodIn wsX8_place wsX0_placeOf := goodIn_r _ [57, 17, 33, 34, 35, 14, 36, 28, 77, 78, 79, 80, 81] (by decide +kernel) (by decide +kernel)
set_option maxRecDepth 20000 in
theorem gX8_place_X0_placeOf_n160 : GoodIn wsX8_place (wsX0_placeOf) := ggX8_place_X0_placeOf
set_option maxRecDepth 20000 in
theorem ggX8_place_X0_pageOf : GoodIn wsX8_place wsX0_pageOf := goodIn_r _ [60, 61, 55, 56, 14, 57, 17, 33, 34, 35, 36, 28, 62, 63, 64, 65, 54, 77, 78, 79, 80, 81] (by decide +kernel) (by decide +kernel)
set_option maxRecDepth 20000 in
theorem gX8_place_X0_pageOf_n163 : GoodIn wsX8_place (wsX0_pageOf) := ggX8_place_X0_pageOf
set_option maxRecDepth 20000 in
theorem ggX8_pages_X0_print : GoodIn wsX8_pages wsX0_print := goodIn_r _ [5, 6, 7, 8, 9, 10, 11, 12, 13, 14, 15, 16, 17, 18, 19, 20, 21, 3, 22, 23, 24, 25, 26, 27, 28, 29, 30, 31, 32, 33, 34, 35, 36, 37, 38, 39, 40, 41, 42, 43, 44, 45, 46, 47, 48, 49, 57, 58, 59, 60, 61, 62, 63, 64, 65, 66, 67, 68, 69, 70, 71, 72] (by decide +kernel) (by decide +kernel)
set_option maxRecDepth 20000 in
theorem gX8_pages_X0_print_n157 : GoodIn wsX8_pages (wsX0_print) := ggX8_pages_X0_print
set_option maxRecDepth 20000 in
theorem ggX8_looksUp_X8_isBelow : GoodIn wsX8_looksUp wsX8_isBelow := goodIn_r _ [5] (by decide +kernel) (by decide +kernel)
set_option maxRecDepth 20000 in
theorem gX8_looksUp_X8_isBelow : GoodIn wsX8_looksUp (va_wsS RX8 115 yX8_isBelow wsX8_isBelow) := goodIn_app (goodIn_of _ (by decide +kernel)) ggX8_looksUp_X8_isBelow
set_option maxRecDepth 20000 in
theorem ggX8_looksUp_X0_print : GoodIn wsX8_looksUp wsX0_print := goodIn_r _ [9, 10, 11, 12, 13, 14, 15, 16, 17, 18, 19, 20, 21, 22, 23, 24, 25, 7, 26, 27, 28, 29, 30, 31, 32, 33, 34, 35, 36, 37, 38, 39, 40, 41, 42, 43, 44, 45, 46, 47, 48, 49, 50, 51, 52, 53, 94, 95, 96, 97, 98, 99, 100, 101, 102, 103, 104, 105, 106, 107, 108, 109] (by decide +kernel) (by decide +kernel)
set_option maxRecDepth 20000 in
theorem gX8_looksUp_X0_print_n157 : GoodIn wsX8_looksUp (wsX0_print) := ggX8_looksUp_X0_print
set_option maxRecDepth 20000 in
theorem ggX8_looksUp_X0_greatestBy : GoodIn wsX8_looksUp wsX0_greatestBy := goodIn_r _ [56, 10, 28, 29, 30, 7, 31, 11, 32, 33, 34, 35, 27, 18, 13, 19, 20, 21, 22, 39, 40, 41, 42, 43, 44, 45, 46, 47, 94, 95, 96, 97, 98, 103, 104, 105, 106, 107, 108, 109, 99, 100, 101, 102] (by decide +kernel) (by decide +kernel)
set_option maxRecDepth 20000 in
theorem gX8_looksUp_X0_greatestBy_n169 : GoodIn wsX8_looksUp (wsX0_greatestBy) := ggX8_looksUp_X0_greatestBy
set_option maxRecDepth 20000 in
theorem ggX8_looksUp_X0_pageOf : GoodIn wsX8_looksUp wsX0_pageOf := goodIn_r _ [59, 60, 61, 62, 7, 63, 10, 32, 33, 34, 35, 27, 64, 65, 66, 67, 53, 94, 95, 96, 97, 98] (by decide +kernel) (by decide +kernel)
set_option maxRecDepth 20000 in
theorem gX8_looksUp_X0_pageOf_n163 : GoodIn wsX8_looksUp (wsX0_pageOf) := ggX8_looksUp_X0_pageOf
set_option maxRecDepth 20000 in
theorem ggX8_looksUp_X0_newsFor : GoodIn wsX8_looksUp wsX0_newsFor := goodIn_r _ [70, 10, 11, 64, 65, 66, 7, 67, 53, 28, 29, 30, 31, 32, 33, 34, 35, 27, 18, 13, 19, 20, 21, 22, 71, 40, 72, 73, 74, 75, 76, 77, 78, 79, 80, 81, 82, 83, 84, 85, 86, 94, 95, 96, 97, 98, 99, 100, 101, 102, 103, 104, 105, 106, 107, 108, 109] (by decide +kernel) (by decide +kernel)
set_option maxRecDepth 20000 in
theorem gX8_looksUp_X0_newsFor_n172 : GoodIn wsX8_looksUp (wsX0_newsFor) := ggX8_looksUp_X0_newsFor
set_option maxRecDepth 20000 in
theorem ggX8_uncut_X8_isWithin : GoodIn wsX8_uncut wsX8_isWithin := goodIn_r _ [5] (by decide +kernel) (by decide +kernel)
set_option maxRecDepth 20000 in
theorem gX8_uncut_X8_isWithin : GoodIn wsX8_uncut (va_wsS RX8 111 yX8_isWithin wsX8_isWithin) := goodIn_app (goodIn_of _ (by decide +kernel)) ggX8_uncut_X8_isWithin
set_option maxRecDepth 20000 in
theorem ggX8_uncut_X8_isBelow : GoodIn wsX8_uncut wsX8_isBelow := goodIn_r _ [8] (by decide +kernel) (by decide +kernel)
set_option maxRecDepth 20000 in
theorem gX8_uncut_X8_isBelow : GoodIn wsX8_uncut (va_wsS RX8 115 yX8_isBelow wsX8_isBelow) := goodIn_app (goodIn_of _ (by decide +kernel)) ggX8_uncut_X8_isBelow
set_option maxRecDepth 20000 in
theorem ggX8_uncut_X0_print : GoodIn wsX8_uncut wsX0_print := goodIn_r _ [12, 13, 14, 15, 16, 17, 18, 19, 20, 21, 22, 23, 24, 25, 26, 27, 28, 10, 29, 30, 31, 32, 33, 34, 35, 36, 37, 38, 39, 40, 41, 42, 43, 44, 45, 46, 47, 48, 49, 50, 51, 52, 53, 54, 55, 56, 74, 75, 76, 77, 78, 79, 80, 81, 82, 83, 84, 85, 86, 87, 88, 89] (by decide +kernel) (by decide +kernel)
set_option maxRecDepth 20000 in
theorem gX8_uncut_X0_print_n157 : GoodIn wsX8_uncut (wsX0_print) := ggX8_uncut_X0_print
set_option maxRecDepth 20000 in
theorem ggX8_uncut_X0_deedsFromPage : GoodIn wsX8_uncut wsX0_deedsFromPage := goodIn_r _ [59, 13, 60, 61, 62, 10, 63, 56, 35, 36, 37, 38, 30, 74, 75, 76, 77, 78] (by decide +kernel) (by decide +kernel)
set_option maxRecDepth 20000 in
theorem gX8_uncut_X0_deedsFromPage_n175 : GoodIn wsX8_uncut (wsX0_deedsFromPage) := ggX8_uncut_X0_deedsFromPage
set_option maxRecDepth 20000 in
theorem ggX8_uncut_X0_doersAheadOfPage : GoodIn wsX8_uncut wsX0_doersAheadOfPage := goodIn_r _ [66, 13, 60, 61, 62, 10, 63, 56, 31, 32, 33, 34, 14, 35, 36, 37, 38, 30, 21, 16, 22, 23, 24, 25, 74, 75, 76, 77, 78, 83, 84, 85, 86, 87, 88, 89, 79, 80, 81, 82] (by decide +kernel) (by decide +kernel)
set_option maxRecDepth 20000 in
theorem gX8_uncut_X0_doersAheadOfPage_n178 : GoodIn wsX8_uncut (wsX0_doersAheadOfPage) := ggX8_uncut_X0_doersAheadOfPage
set_option maxRecDepth 20000 in
theorem ggX8_guilty_X7_weighBurdens : GoodIn wsX8_guilty wsX7_weighBurdens := goodIn_r _ [5, 6, 7, 8, 9, 10, 3, 11, 12, 13, 14, 15, 16, 17, 18, 19, 20, 21, 22, 23, 24, 25, 26, 27, 28, 29, 40, 41, 42, 43, 44, 45, 46, 47, 48, 49, 50] (by decide +kernel) (by decide +kernel)
set_option maxRecDepth 20000 in
theorem gX8_guilty_X7_weighBurdens_n181 : GoodIn wsX8_guilty (wsX7_weighBurdens) := ggX8_guilty_X7_weighBurdens
set_option maxRecDepth 20000 in
theorem ggX8_guilty_X7_burdenedWith : GoodIn wsX8_guilty wsX7_burdenedWith := goodIn_r _ [32, 6, 40, 41, 42, 43] (by decide +kernel) (by decide +kernel)
set_option maxRecDepth 20000 in
theorem gX8_guilty_X7_burdenedWith_n184 : GoodIn wsX8_guilty (wsX7_burdenedWith) := ggX8_guilty_X7_burdenedWith
set_option maxRecDepth 20000 in
theorem ggX8_price_X8_isBelow : GoodIn wsX8_price wsX8_isBelow := goodIn_r _ [5] (by decide +kernel) (by decide +kernel)
set_option maxRecDepth 20000 in
theorem gX8_price_X8_isBelow : GoodIn wsX8_price (va_wsS RX8 115 yX8_isBelow wsX8_isBelow) := goodIn_app (goodIn_of _ (by decide +kernel)) ggX8_price_X8_isBelow
set_option maxRecDepth 20000 in
theorem ggX8_price_X7_weighBurdens : GoodIn wsX8_price wsX7_weighBurdens := goodIn_r _ [9, 10, 11, 12, 13, 14, 7, 15, 16, 17, 18, 19, 20, 21, 3, 4, 5, 22, 23, 24, 25, 26, 27, 28, 29, 30, 48, 49, 50, 51, 52, 53, 54, 55, 56, 57, 58] (by decide +kernel) (by decide +kernel)
set_option maxRecDepth 20000 in
theorem gX8_price_X7_weighBurdens_n181 : GoodIn wsX8_price (wsX7_weighBurdens) := ggX8_price_X7_weighBurdens
set_option maxRecDepth 20000 in
theorem ggX8_price_X7_burdenedWith : GoodIn wsX8_price wsX7_burdenedWith := goodIn_r _ [33, 10, 48, 49, 50, 51] (by decide +kernel) (by decide +kernel)
set_option maxRecDepth 20000 in
theorem gX8_price_X7_burdenedWith_n184 : GoodIn wsX8_price (wsX7_burdenedWith) := ggX8_price_X7_burdenedWith
set_option maxRecDepth 20000 in
theorem ggX8_price_J6_bitCount_0f7a4 : GoodIn wsX8_price wsJ6_bitCount_0f7a4 := goodIn_r _ [37, 38, 39, 40] (by decide +kernel) (by decide +kernel)
set_option maxRecDepth 20000 in
theorem gX8_price_J6_bitCount_0f7a4 : GoodIn wsX8_price (va_wsS RX8 152 yJ6_bitCount_0f7a4 wsJ6_bitCount_0f7a4) := goodIn_app (goodIn_of _ (by decide +kernel)) ggX8_price_J6_bitCount_0f7a4
set_option maxRecDepth 20000 in
theorem ggX8_slips_X8_isBelow : GoodIn wsX8_slips wsX8_isBelow := goodIn_r _ [5] (by decide +kernel) (by decide +kernel)
set_option maxRecDepth 20000 in
theorem gX8_slips_X8_isBelow : GoodIn wsX8_slips (va_wsS RX8 115 yX8_isBelow wsX8_isBelow) := goodIn_app (goodIn_of _ (by decide +kernel)) ggX8_slips_X8_isBelow
set_option maxRecDepth 20000 in
theorem ggX8_slips_X8_shelfAt : GoodIn wsX8_slips wsX8_shelfAt := goodIn_r _ [9, 10, 56, 57, 58, 59, 60, 61, 62] (by decide +kernel) (by decide +kernel)
set_option maxRecDepth 20000 in
theorem gX8_slips_X8_shelfAt : GoodIn wsX8_slips (wsV RX8 50 RX8 yX8_shelfAt wsX8_shelfAt) := goodIn_app (goodIn_of _ (by decide +kernel)) ggX8_slips_X8_shelfAt
set_option maxRecDepth 20000 in
theorem ggX8_slips_X8_diaryRefusal : GoodIn wsX8_slips wsX8_diaryRefusal := goodIn_r _ [14, 1, 15, 16, 4, 17, 18, 19, 20, 21, 22, 23, 24, 25, 26, 27, 28, 29, 30, 31, 32, 33, 34, 35, 36, 37, 38, 39, 40, 41, 42, 43, 44, 45, 56, 57, 58, 59, 60, 61, 62, 63, 64, 65, 66, 67, 68, 69, 70, 71] (by decide +kernel) (by decide +kernel)
set_option maxRecDepth 20000 in
theorem gX8_slips_X8_diaryRefusal : GoodIn wsX8_slips (wsV RX8 187 RX8 yX8_diaryRefusal wsX8_diaryRefusal) := goodIn_app (goodIn_of _ (by decide +kernel)) ggX8_slips_X8_diaryRefusal
set_option maxRecDepth 20000 in
theorem ggX8_slips_X2_fewestStruck : GoodIn wsX8_slips wsX2_fewestStruck := goodIn_r _ [47, 48, 49, 31, 50, 33, 22, 34, 35, 36, 37, 51, 52, 53, 63, 64, 65, 66, 67] (by decide +kernel) (by decide +kernel)
set_option maxRecDepth 20000 in
theorem gX8_slips_X2_fewestStruck_n190 : GoodIn wsX8_slips (wsX2_fewestStruck) := ggX8_slips_X2_fewestStruck
set_option maxRecDepth 20000 in
theorem ggX8_slips_X2_offTheirDay : GoodIn wsX8_slips wsX2_offTheirDay := goodIn_r _ [55, 33, 22, 34, 35, 36, 37, 38, 39, 40, 41, 42, 43, 63, 64, 65, 66, 67, 72, 73, 74, 75, 76, 77, 78, 68, 69, 70, 71] (by decide +kernel) (by decide +kernel)
set_option maxRecDepth 20000 in
theorem gX8_slips_X2_offTheirDay_n195 : GoodIn wsX8_slips (wsX2_offTheirDay) := ggX8_slips_X2_offTheirDay
set_option maxRecDepth 20000 in
theorem ggX8_trueDay_X7_deedAt : GoodIn wsX8_trueDay wsX7_deedAt := goodIn_r _ [5, 6, 7, 55, 56, 57, 58] (by decide +kernel) (by decide +kernel)
set_option maxRecDepth 20000 in
theorem gX8_trueDay_X7_deedAt_n78 : GoodIn wsX8_trueDay (wsX7_deedAt) := ggX8_trueDay_X7_deedAt
set_option maxRecDepth 20000 in
theorem ggX8_trueDay_X8_shelfAt : GoodIn wsX8_trueDay wsX8_shelfAt := goodIn_r _ [12, 13, 48, 49, 50, 51, 52, 53, 54] (by decide +kernel) (by decide +kernel)
set_option maxRecDepth 20000 in
theorem gX8_trueDay_X8_shelfAt : GoodIn wsX8_trueDay (wsV RX8 50 RX8 yX8_shelfAt wsX8_shelfAt) := goodIn_app (goodIn_of _ (by decide +kernel)) ggX8_trueDay_X8_shelfAt
set_option maxRecDepth 20000 in
theorem ggX8_trueDay_X8_diaryRefusal : GoodIn wsX8_trueDay wsX8_diaryRefusal := goodIn_r _ [17, 1, 18, 19, 11, 20, 21, 22, 23, 24, 25, 26, 27, 28, 29, 30, 31, 32, 33, 34, 35, 36, 37, 38, 39, 40, 2, 3, 4, 5, 6, 7, 41, 42, 48, 49, 50, 51, 52, 53, 54, 59, 60, 61, 62, 63, 55, 56, 57, 58] (by decide +kernel) (by decide +kernel)
set_option maxRecDepth 20000 in
theorem gX8_trueDay_X8_diaryRefusal : GoodIn wsX8_trueDay (wsV RX8 187 RX8 yX8_diaryRefusal wsX8_diaryRefusal) := goodIn_app (goodIn_of _ (by decide +kernel)) ggX8_trueDay_X8_diaryRefusal
set_option maxRecDepth 20000 in
theorem ggX8_trueDay_X2_dayToldMost : GoodIn wsX8_trueDay wsX2_dayToldMost := goodIn_r _ [44, 36, 25, 37, 38, 39, 40, 45, 46, 34, 47, 59, 60, 61, 62, 63] (by decide +kernel) (by decide +kernel)
set_option maxRecDepth 20000 in
theorem gX8_trueDay_X2_dayToldMost_n198 : GoodIn wsX8_trueDay (wsX2_dayToldMost) := ggX8_trueDay_X2_dayToldMost
set_option maxRecDepth 20000 in
theorem ggX8_mayBe_X7_deedAt : GoodIn wsX8_mayBe wsX7_deedAt := goodIn_r _ [5, 6, 7, 40, 41, 42, 43] (by decide +kernel) (by decide +kernel)
set_option maxRecDepth 20000 in
theorem gX8_mayBe_X7_deedAt_n78 : GoodIn wsX8_mayBe (wsX7_deedAt) := ggX8_mayBe_X7_deedAt
set_option maxRecDepth 20000 in
theorem ggX8_mayBe_X8_isBelow : GoodIn wsX8_mayBe wsX8_isBelow := goodIn_r _ [11] (by decide +kernel) (by decide +kernel)
set_option maxRecDepth 20000 in
theorem gX8_mayBe_X8_isBelow : GoodIn wsX8_mayBe (va_wsS RX8 115 yX8_isBelow wsX8_isBelow) := goodIn_app (goodIn_of _ (by decide +kernel)) ggX8_mayBe_X8_isBelow
set_option maxRecDepth 20000 in
theorem ggX8_mayBe_X1_keepers : GoodIn wsX8_mayBe wsX1_keepers := goodIn_r _ [15, 16, 17, 18, 19, 13, 20, 21, 22, 23, 24, 44, 45, 46, 47, 48, 49, 50] (by decide +kernel) (by decide +kernel)
set_option maxRecDepth 20000 in
theorem gX8_mayBe_X1_keepers_n202 : GoodIn wsX8_mayBe (wsX1_keepers) := ggX8_mayBe_X1_keepers
set_option maxRecDepth 20000 in
theorem ggX8_mayBe_X7_lastDay : GoodIn wsX8_mayBe wsX7_lastDay := goodIn_r _ [27, 28, 29, 30, 31, 32, 40, 41, 42, 43] (by decide +kernel) (by decide +kernel)
set_option maxRecDepth 20000 in
theorem gX8_mayBe_X7_lastDay_n205 : GoodIn wsX8_mayBe (wsX7_lastDay) := ggX8_mayBe_X7_lastDay
set_option maxRecDepth 20000 in
theorem ggX8_mayBe_X1_keepersAfter : GoodIn wsX8_mayBe wsX1_keepersAfter := goodIn_r _ [20, 21, 22, 23, 24, 44, 45, 46, 47, 48, 49, 50] (by decide +kernel) (by decide +kernel)
set_option maxRecDepth 20000 in
theorem gX8_mayBe_X1_keepersAfter_n208 : GoodIn wsX8_mayBe (wsX1_keepersAfter) := ggX8_mayBe_X1_keepersAfter
set_option maxRecDepth 20000 in
theorem ggX8_law_X8_isBelow : GoodIn wsX8_law wsX8_isBelow := goodIn_r _ [4] (by decide +kernel) (by decide +kernel)
set_option maxRecDepth 20000 in
theorem gX8_law_X8_isBelow : GoodIn wsX8_law (va_wsS RX8 115 yX8_isBelow wsX8_isBelow) := goodIn_app (goodIn_of _ (by decide +kernel)) ggX8_law_X8_isBelow
set_option maxRecDepth 20000 in
theorem ggX8_law_X8_shelfAt : GoodIn wsX8_law wsX8_shelfAt := goodIn_r _ [8, 9, 42, 43, 44, 45, 46, 47, 48] (by decide +kernel) (by decide +kernel)
set_option maxRecDepth 20000 in
theorem gX8_law_X8_shelfAt : GoodIn wsX8_law (wsV RX8 50 RX8 yX8_shelfAt wsX8_shelfAt) := goodIn_app (goodIn_of _ (by decide +kernel)) ggX8_law_X8_shelfAt
set_option maxRecDepth 20000 in
theorem ggX8_law_X8_rowRefusal : GoodIn wsX8_law wsX8_rowRefusal := goodIn_r _ [12, 13, 14, 3, 15, 16, 17, 18, 19, 20, 21, 22, 23, 24, 49, 50, 51, 52, 53] (by decide +kernel) (by decide +kernel)
set_option maxRecDepth 20000 in
theorem gX8_law_X8_rowRefusal : GoodIn wsX8_law (va_wsS RX8 54 yX8_rowRefusal wsX8_rowRefusal) := goodIn_app (goodIn_of _ (by decide +kernel)) ggX8_law_X8_rowRefusal
set_option maxRecDepth 20000 in
theorem ggX8_law_X4_lasting : GoodIn wsX8_law wsX4_lasting := goodIn_r _ [27] (by decide +kernel) (by decide +kernel)
set_option maxRecDepth 20000 in
theorem gX8_law_X4_lasting_n211 : GoodIn wsX8_law (wsX4_lasting) := ggX8_law_X4_lasting
set_option maxRecDepth 20000 in
theorem ggX8_law_X5_tellsAlways : GoodIn wsX8_law wsX5_tellsAlways := goodIn_r _ [30, 31, 32, 33, 34, 17, 35, 20, 36, 37, 38, 39, 40, 41, 49, 50, 51, 52, 53] (by decide +kernel) (by decide +kernel)
set_option maxRecDepth 20000 in
theorem gX8_law_X5_tellsAlways_n215 : GoodIn wsX8_law (wsX5_tellsAlways) := ggX8_law_X5_tellsAlways
set_option maxRecDepth 20000 in
theorem ggX8_leastInIt_X8_isWithin : GoodIn wsX8_leastInIt wsX8_isWithin := goodIn_r _ [5] (by decide +kernel) (by decide +kernel)
set_option maxRecDepth 20000 in
theorem gX8_leastInIt_X8_isWithin : GoodIn wsX8_leastInIt (va_wsS RX8 111 yX8_isWithin wsX8_isWithin) := goodIn_app (goodIn_of _ (by decide +kernel)) ggX8_leastInIt_X8_isWithin
set_option maxRecDepth 20000 in
theorem ggX8_leastInIt_X8_isBelow : GoodIn wsX8_leastInIt wsX8_isBelow := goodIn_r _ [8] (by decide +kernel) (by decide +kernel)
set_option maxRecDepth 20000 in
theorem gX8_leastInIt_X8_isBelow : GoodIn wsX8_leastInIt (va_wsS RX8 115 yX8_isBelow wsX8_isBelow) := goodIn_app (goodIn_of _ (by decide +kernel)) ggX8_leastInIt_X8_isBelow
set_option maxRecDepth 20000 in
theorem ggX8_leastInIt_X7_greatestBut : GoodIn wsX8_leastInIt wsX7_greatestBut := goodIn_r _ [12, 13, 14, 15, 16, 10, 17, 18, 19, 20, 21, 22, 23, 24, 25, 26, 27, 28, 29, 30, 31, 32, 43, 44, 45, 46, 47, 48, 49, 50, 51, 52, 53] (by decide +kernel) (by decide +kernel)
set_option maxRecDepth 20000 in
theorem gX8_leastInIt_X7_greatestBut_n219 : GoodIn wsX8_leastInIt (wsX7_greatestBut) := ggX8_leastInIt_X7_greatestBut
set_option maxRecDepth 20000 in
theorem ggX8_leastInIt_X7_sizesBut : GoodIn wsX8_leastInIt wsX7_sizesBut := goodIn_r _ [35, 13, 14, 15, 16, 10, 17, 18, 19, 20, 21, 22, 23, 24, 25, 26, 27, 28, 29, 30, 31, 32, 43, 44, 45, 46, 47, 48, 49, 50, 51, 52, 53] (by decide +kernel) (by decide +kernel)
set_option maxRecDepth 20000 in
theorem gX8_leastInIt_X7_sizesBut_n222 : GoodIn wsX8_leastInIt (wsX7_sizesBut) := ggX8_leastInIt_X7_sizesBut
set_option maxRecDepth 20000 in
theorem ggX8_robin_X8_isBelow : GoodIn wsX8_robin wsX8_isBelow := goodIn_r _ [5] (by decide +kernel) (by decide +kernel)
set_option maxRecDepth 20000 in
theorem gX8_robin_X8_isBelow : GoodIn wsX8_robin (va_wsS RX8 115 yX8_isBelow wsX8_isBelow) := goodIn_app (goodIn_of _ (by decide +kernel)) ggX8_robin_X8_isBelow
set_option maxRecDepth 20000 in
theorem ggX8_robin_X7_toldAt : GoodIn wsX8_robin wsX7_toldAt := goodIn_r _ [9, 10, 11, 12, 13, 7, 14, 15, 16, 52, 53, 54, 55, 56, 57, 58, 48, 49, 50, 51] (by decide +kernel) (by decide +kernel)
set_option maxRecDepth 20000 in
theorem gX8_robin_X7_toldAt_n225 : GoodIn wsX8_robin (wsX7_toldAt) := ggX8_robin_X7_toldAt
set_option maxRecDepth 20000 in
theorem ggX8_robin_X1_watchersLost : GoodIn wsX8_robin wsX1_watchersLost := goodIn_r _ [20, 21, 22, 23, 24, 18, 25, 26, 27, 28, 29, 30, 31, 32, 33, 34, 35, 36, 37, 38, 39, 40, 52, 53, 54, 55, 56, 57, 58] (by decide +kernel) (by decide +kernel)
set_option maxRecDepth 20000 in
theorem gX8_robin_X1_watchersLost_n228 : GoodIn wsX8_robin (wsX1_watchersLost) := ggX8_robin_X1_watchersLost
set_option maxRecDepth 20000 in
theorem ggX8_two_X8_isBelow : GoodIn wsX8_two wsX8_isBelow := goodIn_r _ [4] (by decide +kernel) (by decide +kernel)
set_option maxRecDepth 20000 in
theorem gX8_two_X8_isBelow : GoodIn wsX8_two (va_wsS RX8 115 yX8_isBelow wsX8_isBelow) := goodIn_app (goodIn_of _ (by decide +kernel)) ggX8_two_X8_isBelow
set_option maxRecDepth 20000 in
theorem ggX8_two_X4_burden : GoodIn wsX8_two wsX4_burden := goodIn_r _ [7] (by decide +kernel) (by decide +kernel)
set_option maxRecDepth 20000 in
theorem gX8_two_X4_burden_n231 : GoodIn wsX8_two (wsX4_burden) := ggX8_two_X4_burden
set_option maxRecDepth 20000 in
theorem ggX8_two_X8_isContent : GoodIn wsX8_two wsX8_isContent := goodIn_r _ [10, 11, 12, 3, 13] (by decide +kernel) (by decide +kernel)
set_option maxRecDepth 20000 in
theorem gX8_two_X8_isContent : GoodIn wsX8_two (va_wsS RX8 233 yX8_isContent wsX8_isContent) := goodIn_app (goodIn_of _ (by decide +kernel)) ggX8_two_X8_isContent
set_option maxRecDepth 20000 in
theorem ggX8_chance_X8_isWithin : GoodIn wsX8_chance wsX8_isWithin := goodIn_r _ [5] (by decide +kernel) (by decide +kernel)
set_option maxRecDepth 20000 in
theorem gX8_chance_X8_isWithin : GoodIn wsX8_chance (va_wsS RX8 111 yX8_isWithin wsX8_isWithin) := goodIn_app (goodIn_of _ (by decide +kernel)) ggX8_chance_X8_isWithin
set_option maxRecDepth 20000 in
theorem ggX8_chance_X8_isBelow : GoodIn wsX8_chance wsX8_isBelow := goodIn_r _ [8] (by decide +kernel) (by decide +kernel)
set_option maxRecDepth 20000 in
theorem gX8_chance_X8_isBelow : GoodIn wsX8_chance (va_wsS RX8 115 yX8_isBelow wsX8_isBelow) := goodIn_app (goodIn_of _ (by decide +kernel)) ggX8_chance_X8_isBelow
set_option maxRecDepth 20000 in
theorem ggX8_chance_X3_waysOfSoMany : GoodIn wsX8_chance wsX3_waysOfSoMany := goodIn_r _ [11, 12, 13, 10, 14, 15, 16, 17] (by decide +kernel) (by decide +kernel)
set_option maxRecDepth 20000 in
theorem gX8_chance_X3_waysOfSoMany_n239 : GoodIn wsX8_chance (wsX3_waysOfSoMany) := ggX8_chance_X3_waysOfSoMany
set_option maxRecDepth 20000 in
theorem ggX8_chance_X3_power : GoodIn wsX8_chance wsX3_power := goodIn_r _ [17] (by decide +kernel) (by decide +kernel)
set_option maxRecDepth 20000 in
theorem gX8_chance_X3_power_n245 : GoodIn wsX8_chance (wsX3_power) := ggX8_chance_X3_power
set_option maxRecDepth 20000 in
theorem ggX8_chance_X3_inLeastTerms : GoodIn wsX8_chance wsX3_inLeastTerms := goodIn_r _ [19, 20, 21, 10, 22] (by decide +kernel) (by decide +kernel)
set_option maxRecDepth 20000 in
theorem gX8_chance_X3_inLeastTerms_n249 : GoodIn wsX8_chance (wsX3_inLeastTerms) := ggX8_chance_X3_inLeastTerms
set_option maxRecDepth 20000 in
theorem ggX8_mean_X8_isBelow : GoodIn wsX8_mean wsX8_isBelow := goodIn_r _ [10] (by decide +kernel) (by decide +kernel)
set_option maxRecDepth 20000 in
theorem gX8_mean_X8_isBelow : GoodIn wsX8_mean (va_wsS RX8 115 yX8_isBelow wsX8_isBelow) := goodIn_app (goodIn_of _ (by decide +kernel)) ggX8_mean_X8_isBelow
set_option maxRecDepth 20000 in
theorem ggX8_mean_X7_sizesBut : GoodIn wsX8_mean wsX7_sizesBut := goodIn_r _ [14, 15, 16, 17, 18, 12, 19, 20, 21, 22, 23, 24, 25, 26, 27, 28, 29, 30, 31, 32, 33, 34, 51, 52, 53, 54, 55, 56, 57, 58, 59, 60, 61] (by decide +kernel) (by decide +kernel)
set_option maxRecDepth 20000 in
theorem gX8_mean_X7_sizesBut_n222 : GoodIn wsX8_mean (wsX7_sizesBut) := ggX8_mean_X7_sizesBut
set_option maxRecDepth 20000 in
theorem ggX8_mean_X7_toldCount : GoodIn wsX8_mean wsX7_toldCount := goodIn_r _ [37, 15, 16, 17, 18, 12, 19, 20, 21, 22, 23, 24, 25, 51, 52, 53, 54, 55, 56, 57, 58, 59, 60, 61] (by decide +kernel) (by decide +kernel)
set_option maxRecDepth 20000 in
theorem gX8_mean_X7_toldCount_n253 : GoodIn wsX8_mean (wsX7_toldCount) := ggX8_mean_X7_toldCount
set_option maxRecDepth 20000 in
theorem ggX8_mean_X3_inLeastTerms : GoodIn wsX8_mean wsX3_inLeastTerms := goodIn_r _ [40, 41, 42, 39, 43] (by decide +kernel) (by decide +kernel)
set_option maxRecDepth 20000 in
theorem gX8_mean_X3_inLeastTerms_n249 : GoodIn wsX8_mean (wsX3_inLeastTerms) := ggX8_mean_X3_inLeastTerms
set_option maxRecDepth 20000 in
theorem ggX8_gap_X8_isBelow : GoodIn wsX8_gap wsX8_isBelow := goodIn_r _ [5] (by decide +kernel) (by decide +kernel)
set_option maxRecDepth 20000 in
theorem gX8_gap_X8_isBelow : GoodIn wsX8_gap (va_wsS RX8 115 yX8_isBelow wsX8_isBelow) := goodIn_app (goodIn_of _ (by decide +kernel)) ggX8_gap_X8_isBelow
set_option maxRecDepth 20000 in
theorem ggX8_gap_X0_print : GoodIn wsX8_gap wsX0_print := goodIn_r _ [9, 10, 11, 12, 13, 14, 15, 16, 17, 18, 19, 20, 21, 22, 23, 24, 25, 7, 26, 27, 28, 29, 30, 31, 32, 33, 34, 35, 36, 37, 38, 39, 40, 41, 42, 43, 44, 45, 46, 47, 48, 49, 50, 51, 52, 53, 82, 83, 84, 85, 86, 87, 88, 89, 90, 91, 92, 93, 94, 95, 96, 97] (by decide +kernel) (by decide +kernel)
set_option maxRecDepth 20000 in
theorem gX8_gap_X0_print_n157 : GoodIn wsX8_gap (wsX0_print) := ggX8_gap_X0_print
set_option maxRecDepth 20000 in
theorem ggX8_gap_X0_longestGap : GoodIn wsX8_gap wsX0_longestGap := goodIn_r _ [56, 10, 57, 58, 59, 60, 61, 62, 63, 7, 64, 11, 28, 29, 30, 31, 32, 33, 34, 35, 27, 18, 13, 19, 20, 21, 22, 65, 66, 67, 16, 68, 69, 70, 82, 83, 84, 85, 86, 91, 92, 93, 94, 95, 96, 97, 87, 88, 89, 90] (by decide +kernel) (by decide +kernel)
set_option maxRecDepth 20000 in
theorem gX8_gap_X0_longestGap_n261 : GoodIn wsX8_gap (wsX0_longestGap) := ggX8_gap_X0_longestGap
set_option maxRecDepth 20000 in
theorem ggX8_gap_X0_firstOfLongestGap : GoodIn wsX8_gap wsX0_firstOfLongestGap := goodIn_r _ [73, 10, 74, 54, 55, 7, 56, 57, 58, 59, 60, 61, 62, 63, 64, 11, 28, 29, 30, 31, 32, 33, 34, 35, 27, 18, 13, 19, 20, 21, 22, 65, 66, 67, 16, 68, 69, 70, 82, 83, 84, 85, 86, 91, 92, 93, 94, 95, 96, 97, 87, 88, 89, 90] (by decide +kernel) (by decide +kernel)
set_option maxRecDepth 20000 in
theorem gX8_gap_X0_firstOfLongestGap_n264 : GoodIn wsX8_gap (wsX0_firstOfLongestGap) := ggX8_gap_X0_firstOfLongestGap
set_option maxRecDepth 20000 in
theorem ggX8_quarrel_X7_mattersBetween : GoodIn wsX8_quarrel wsX7_mattersBetween := goodIn_r _ [5, 6, 7, 8, 9, 10, 3, 11, 12, 13, 14, 15, 16, 17, 18, 19, 20, 21, 22, 23, 24, 25, 26, 27, 28, 29, 30, 31, 32, 33, 34, 35, 36, 37, 45, 46, 47, 48, 49, 50, 51, 52, 53, 54, 55] (by decide +kernel) (by decide +kernel)
set_option maxRecDepth 20000 in
theorem gX8_quarrel_X7_mattersBetween_n267 : GoodIn wsX8_quarrel (wsX7_mattersBetween) := ggX8_quarrel_X7_mattersBetween
set_option maxRecDepth 20000 in
theorem ggX8_forged_X8_shelfAt : GoodIn wsX8_forged wsX8_shelfAt := goodIn_r _ [6, 7, 79, 80, 81, 82, 83, 84, 85] (by decide +kernel) (by decide +kernel)
set_option maxRecDepth 20000 in
theorem gX8_forged_X8_shelfAt : GoodIn wsX8_forged (wsV RX8 50 RX8 yX8_shelfAt wsX8_shelfAt) := goodIn_app (goodIn_of _ (by decide +kernel)) ggX8_forged_X8_shelfAt
set_option maxRecDepth 20000 in
theorem ggX8_forged_X8_rowRefusal : GoodIn wsX8_forged wsX8_rowRefusal := goodIn_r _ [10, 11, 12, 5, 13, 14, 15, 16, 17, 18, 19, 20, 21, 22, 86, 87, 88, 89, 90] (by decide +kernel) (by decide +kernel)
set_option maxRecDepth 20000 in
theorem gX8_forged_X8_rowRefusal : GoodIn wsX8_forged (va_wsS RX8 54 yX8_rowRefusal wsX8_rowRefusal) := goodIn_app (goodIn_of _ (by decide +kernel)) ggX8_forged_X8_rowRefusal
set_option maxRecDepth 20000 in
theorem ggX8_forged_X0_print : GoodIn wsX8_forged wsX0_print := goodIn_r _ [26, 27, 28, 29, 30, 31, 32, 33, 34, 35, 36, 37, 38, 39, 40, 41, 42, 24, 43, 44, 45, 46, 47, 48, 49, 50, 51, 52, 53, 54, 55, 56, 57, 58, 59, 60, 61, 62, 63, 64, 65, 66, 67, 68, 69, 70, 91, 92, 93, 94, 95, 96, 97, 98, 99, 100, 101, 102, 103, 104, 105, 106] (by decide +kernel) (by decide +kernel)
set_option maxRecDepth 20000 in
theorem gX8_forged_X0_print_n157 : GoodIn wsX8_forged (wsX0_print) := ggX8_forged_X0_print
set_option maxRecDepth 20000 in
theorem ggX8_forged_X0_firstForged : GoodIn wsX8_forged wsX0_firstForged := goodIn_r _ [73, 27, 74, 15, 75, 76, 77, 78, 49, 50, 51, 24, 52, 44, 86, 87, 88, 89, 90, 91, 92, 93, 94, 95] (by decide +kernel) (by decide +kernel)
set_option maxRecDepth 20000 in
theorem gX8_forged_X0_firstForged_n270 : GoodIn wsX8_forged (wsX0_firstForged) := ggX8_forged_X0_firstForged
set_option maxRecDepth 20000 in
theorem ggX8_judge_X8_isBelow : GoodIn wsX8_judge wsX8_isBelow := goodIn_r _ [9] (by decide +kernel) (by decide +kernel)
set_option maxRecDepth 20000 in
theorem gX8_judge_X8_isBelow : GoodIn wsX8_judge (va_wsS RX8 115 yX8_isBelow wsX8_isBelow) := goodIn_app (goodIn_of _ (by decide +kernel)) ggX8_judge_X8_isBelow
set_option maxRecDepth 20000 in
theorem ggX8_judge_X8_shelfAt : GoodIn wsX8_judge wsX8_shelfAt := goodIn_r _ [13, 14, 79, 80, 81, 82, 83, 84, 85] (by decide +kernel) (by decide +kernel)
set_option maxRecDepth 20000 in
theorem gX8_judge_X8_shelfAt : GoodIn wsX8_judge (wsV RX8 50 RX8 yX8_shelfAt wsX8_shelfAt) := goodIn_app (goodIn_of _ (by decide +kernel)) ggX8_judge_X8_shelfAt
set_option maxRecDepth 20000 in
theorem ggX8_judge_X8_rowRefusal : GoodIn wsX8_judge wsX8_rowRefusal := goodIn_r _ [17, 18, 19, 8, 20, 21, 22, 23, 24, 25, 26, 27, 28, 29, 74, 75, 76, 77, 78] (by decide +kernel) (by decide +kernel)
set_option maxRecDepth 20000 in
theorem gX8_judge_X8_rowRefusal : GoodIn wsX8_judge (va_wsS RX8 54 yX8_rowRefusal wsX8_rowRefusal) := goodIn_app (goodIn_of _ (by decide +kernel)) ggX8_judge_X8_rowRefusal
set_option maxRecDepth 20000 in
theorem ggX8_judge_X5_isSkipped : GoodIn wsX8_judge wsX5_isSkipped := goodIn_r _ [32, 25, 33, 34, 35, 36, 22, 37, 38, 39, 74, 75, 76, 77, 78] (by decide +kernel) (by decide +kernel)
set_option maxRecDepth 20000 in
theorem gX8_judge_X5_isSkipped_n279 : GoodIn wsX8_judge (wsX5_isSkipped) := ggX8_judge_X5_isSkipped
set_option maxRecDepth 20000 in
theorem ggX8_judge_X5_cell : GoodIn wsX8_judge wsX5_cell := goodIn_r _ [37, 38, 39, 74, 75, 76, 77, 78] (by decide +kernel) (by decide +kernel)
set_option maxRecDepth 20000 in
theorem gX8_judge_X5_cell_n282 : GoodIn wsX8_judge (wsX5_cell) := ggX8_judge_X5_cell
set_option maxRecDepth 20000 in
theorem ggX8_judge_X7_memoryOf : GoodIn wsX8_judge wsX7_memoryOf := goodIn_r _ [43, 44, 45, 46, 47, 41, 48, 49, 50, 51, 52, 53, 54, 55, 56, 57, 58, 59, 60, 61, 62, 63, 64, 65, 66, 86, 87, 88, 89, 90, 91, 92, 93, 94, 95, 96] (by decide +kernel) (by decide +kernel)
set_option maxRecDepth 20000 in
theorem gX8_judge_X7_memoryOf_n138 : GoodIn wsX8_judge (wsX7_memoryOf) := ggX8_judge_X7_memoryOf
set_option maxRecDepth 20000 in
theorem ggX8_judge_J6_bitCount_0f7a4 : GoodIn wsX8_judge wsJ6_bitCount_0f7a4 := goodIn_r _ [70, 71, 72, 73] (by decide +kernel) (by decide +kernel)
set_option maxRecDepth 20000 in
theorem gX8_judge_J6_bitCount_0f7a4 : GoodIn wsX8_judge (va_wsS RX8 152 yJ6_bitCount_0f7a4 wsJ6_bitCount_0f7a4) := goodIn_app (goodIn_of _ (by decide +kernel)) ggX8_judge_J6_bitCount_0f7a4
set_option maxRecDepth 20000 in
theorem ggX8_years_X8_isBelow : GoodIn wsX8_years wsX8_isBelow := goodIn_r _ [5] (by decide +kernel) (by decide +kernel)
set_option maxRecDepth 20000 in
theorem gX8_years_X8_isBelow : GoodIn wsX8_years (va_wsS RX8 115 yX8_isBelow wsX8_isBelow) := goodIn_app (goodIn_of _ (by decide +kernel)) ggX8_years_X8_isBelow
set_option maxRecDepth 20000 in
theorem ggX8_years_X8_drawDeed : GoodIn wsX8_years wsX8_drawDeed := goodIn_r _ [9, 1, 10, 11, 4, 12, 13, 14, 15, 16, 17, 18, 19, 20, 21, 22, 23, 24, 25, 26, 27, 28, 29, 30, 31, 32, 33, 34, 47, 48, 49, 50, 51, 52, 53, 54, 55, 56, 57, 58, 59, 60] (by decide +kernel) (by decide +kernel)
set_option maxRecDepth 20000 in
theorem gX8_years_X8_drawDeed : GoodIn wsX8_years (wsV RX8 285 RX8 yX8_drawDeed wsX8_drawDeed) := goodIn_app (goodIn_of _ (by decide +kernel)) ggX8_years_X8_drawDeed
set_option maxRecDepth 20000 in
theorem ggX8_years_X1_keepers : GoodIn wsX8_years wsX1_keepers := goodIn_r _ [37, 25, 38, 39, 40, 20, 41, 29, 26, 28, 27, 54, 55, 56, 57, 58, 59, 60] (by decide +kernel) (by decide +kernel)
set_option maxRecDepth 20000 in
theorem gX8_years_X1_keepers_n202 : GoodIn wsX8_years (wsX1_keepers) := ggX8_years_X1_keepers
set_option maxRecDepth 20000 in
theorem ggX8_years_X1_size : GoodIn wsX8_years wsX1_size := goodIn_r _ [44, 23, 24, 45, 31, 46, 54, 55, 56, 57, 58, 59, 60] (by decide +kernel) (by decide +kernel)
set_option maxRecDepth 20000 in
theorem gX8_years_X1_size_n103 : GoodIn wsX8_years (wsX1_size) := ggX8_years_X1_size
set_option maxRecDepth 20000 in
theorem ggX8_image_X7_become : GoodIn wsX8_image wsX7_become := goodIn_r _ [7, 8, 9, 10, 11, 12, 5, 13, 14, 15, 16, 17, 18, 19, 20, 21, 22, 23, 24, 25, 26, 27, 28, 29, 30, 31, 32, 33, 34, 42, 43, 44, 45, 46, 47, 48, 49, 50, 51, 52] (by decide +kernel) (by decide +kernel)
set_option maxRecDepth 20000 in
theorem gX8_image_X7_become_n67 : GoodIn wsX8_image (wsX7_become) := ggX8_image_X7_become
set_option maxRecDepth 20000 in
theorem ggX8_restore_X7_become : GoodIn wsX8_restore wsX7_become := goodIn_r _ [7, 8, 9, 10, 11, 12, 5, 13, 14, 15, 16, 17, 18, 19, 20, 21, 22, 23, 24, 25, 26, 27, 28, 29, 30, 31, 32, 33, 34, 42, 43, 44, 45, 46, 47, 48, 49, 50, 51, 52] (by decide +kernel) (by decide +kernel)
set_option maxRecDepth 20000 in
theorem gX8_restore_X7_become_n67 : GoodIn wsX8_restore (wsX7_become) := ggX8_restore_X7_become
set_option maxRecDepth 20000 in
theorem ggX8_count_X7_sizesBut : GoodIn wsX8_count wsX7_sizesBut := goodIn_r _ [5, 6, 7, 8, 9, 3, 10, 11, 12, 13, 14, 15, 16, 17, 18, 19, 20, 21, 22, 23, 24, 25, 49, 50, 51, 52, 53, 54, 55, 56, 57, 58, 59] (by decide +kernel) (by decide +kernel)
set_option maxRecDepth 20000 in
theorem gX8_count_X7_sizesBut_n222 : GoodIn wsX8_count (wsX7_sizesBut) := ggX8_count_X7_sizesBut
set_option maxRecDepth 20000 in
theorem ggX8_count_X7_toldCount : GoodIn wsX8_count wsX7_toldCount := goodIn_r _ [28, 6, 7, 8, 9, 3, 10, 11, 12, 13, 14, 15, 16, 49, 50, 51, 52, 53, 54, 55, 56, 57, 58, 59] (by decide +kernel) (by decide +kernel)
set_option maxRecDepth 20000 in
theorem gX8_count_X7_toldCount_n253 : GoodIn wsX8_count (wsX7_toldCount) := ggX8_count_X7_toldCount
set_option maxRecDepth 20000 in
theorem ggX8_count_X7_allLasting : GoodIn wsX8_count wsX7_allLasting := goodIn_r _ [31, 6, 12, 13, 14, 3, 15, 16, 49, 50, 51, 52, 53, 54, 55, 56, 57, 58, 59] (by decide +kernel) (by decide +kernel)
set_option maxRecDepth 20000 in
theorem gX8_count_X7_allLasting_n288 : GoodIn wsX8_count (wsX7_allLasting) := ggX8_count_X7_allLasting
set_option maxRecDepth 20000 in
theorem ggX8_count_X7_allSeen : GoodIn wsX8_count wsX7_allSeen := goodIn_r _ [34, 6, 12, 13, 14, 3, 15, 16, 35, 36, 37, 38, 39, 40, 41, 49, 50, 51, 52, 53, 54, 55, 56, 57, 58, 59] (by decide +kernel) (by decide +kernel)
set_option maxRecDepth 20000 in
theorem gX8_count_X7_allSeen_n291 : GoodIn wsX8_count (wsX7_allSeen) := ggX8_count_X7_allSeen
set_option maxRecDepth 20000 in
theorem ggX8_keep_X8_shelfAt : GoodIn wsX8_keep wsX8_shelfAt := goodIn_r _ [5, 6, 22, 23, 24, 25, 26, 27, 28] (by decide +kernel) (by decide +kernel)
set_option maxRecDepth 20000 in
theorem gX8_keep_X8_shelfAt : GoodIn wsX8_keep (wsV RX8 50 RX8 yX8_shelfAt wsX8_shelfAt) := goodIn_app (goodIn_of _ (by decide +kernel)) ggX8_keep_X8_shelfAt
set_option maxRecDepth 20000 in
theorem ggX8_keep_X8_isBelow : GoodIn wsX8_keep wsX8_isBelow := goodIn_r _ [9] (by decide +kernel) (by decide +kernel)
set_option maxRecDepth 20000 in
theorem gX8_keep_X8_isBelow : GoodIn wsX8_keep (va_wsS RX8 115 yX8_isBelow wsX8_isBelow) := goodIn_app (goodIn_of _ (by decide +kernel)) ggX8_keep_X8_isBelow
set_option maxRecDepth 20000 in
theorem ggX8_keep_X5_empty : GoodIn wsX8_keep wsX5_empty := goodIn_r _ [13, 14, 15, 16, 17, 29, 30, 31, 32, 33] (by decide +kernel) (by decide +kernel)
set_option maxRecDepth 20000 in
theorem gX8_keep_X5_empty_n294 : GoodIn wsX8_keep (wsX5_empty) := ggX8_keep_X5_empty
set_option maxRecDepth 20000 in
theorem ggX8_keep_X5_hold : GoodIn wsX8_keep wsX5_hold := goodIn_r _ [20, 16, 17, 21, 10, 12, 11, 13, 14, 15, 29, 30, 31, 32, 33] (by decide +kernel) (by decide +kernel)
set_option maxRecDepth 20000 in
theorem gX8_keep_X5_hold_n297 : GoodIn wsX8_keep (wsX5_hold) := ggX8_keep_X5_hold
set_option maxRecDepth 20000 in
theorem ggX8_row_X8_shelfAt : GoodIn wsX8_row wsX8_shelfAt := goodIn_r _ [5, 6, 23, 24, 25, 26, 27, 28, 29] (by decide +kernel) (by decide +kernel)
set_option maxRecDepth 20000 in
theorem gX8_row_X8_shelfAt : GoodIn wsX8_row (wsV RX8 50 RX8 yX8_shelfAt wsX8_shelfAt) := goodIn_app (goodIn_of _ (by decide +kernel)) ggX8_row_X8_shelfAt
set_option maxRecDepth 20000 in
theorem ggX8_row_X8_isBelow : GoodIn wsX8_row wsX8_isBelow := goodIn_r _ [9] (by decide +kernel) (by decide +kernel)
set_option maxRecDepth 20000 in
theorem gX8_row_X8_isBelow : GoodIn wsX8_row (va_wsS RX8 115 yX8_isBelow wsX8_isBelow) := goodIn_app (goodIn_of _ (by decide +kernel)) ggX8_row_X8_isBelow
set_option maxRecDepth 20000 in
theorem ggX8_row_X5_lay : GoodIn wsX8_row wsX5_lay := goodIn_r _ [13, 14, 15, 16, 17, 18, 19, 11, 20, 21, 22, 30, 31, 32, 33, 34] (by decide +kernel) (by decide +kernel)
set_option maxRecDepth 20000 in
theorem gX8_row_X5_lay_n301 : GoodIn wsX8_row (wsX5_lay) := ggX8_row_X5_lay
set_option maxRecDepth 20000 in
theorem ggX8_put_X8_shelfAt : GoodIn wsX8_put wsX8_shelfAt := goodIn_r _ [5, 6, 35, 36, 37, 38, 39, 40, 41] (by decide +kernel) (by decide +kernel)
set_option maxRecDepth 20000 in
theorem gX8_put_X8_shelfAt : GoodIn wsX8_put (wsV RX8 50 RX8 yX8_shelfAt wsX8_shelfAt) := goodIn_app (goodIn_of _ (by decide +kernel)) ggX8_put_X8_shelfAt
set_option maxRecDepth 20000 in
theorem ggX8_put_X8_rowRefusal : GoodIn wsX8_put wsX8_rowRefusal := goodIn_r _ [9, 10, 11, 4, 12, 13, 14, 15, 16, 17, 18, 19, 20, 21, 30, 31, 32, 33, 34] (by decide +kernel) (by decide +kernel)
set_option maxRecDepth 20000 in
theorem gX8_put_X8_rowRefusal : GoodIn wsX8_put (va_wsS RX8 54 yX8_rowRefusal wsX8_rowRefusal) := goodIn_app (goodIn_of _ (by decide +kernel)) ggX8_put_X8_rowRefusal
set_option maxRecDepth 20000 in
theorem ggX8_put_X8_isBelow : GoodIn wsX8_put wsX8_isBelow := goodIn_r _ [24] (by decide +kernel) (by decide +kernel)
set_option maxRecDepth 20000 in
theorem gX8_put_X8_isBelow : GoodIn wsX8_put (va_wsS RX8 115 yX8_isBelow wsX8_isBelow) := goodIn_app (goodIn_of _ (by decide +kernel)) ggX8_put_X8_isBelow
set_option maxRecDepth 20000 in
theorem ggX8_put_X5_set : GoodIn wsX8_put wsX5_set := goodIn_r _ [27, 28, 29, 17, 30, 31, 32, 33, 34] (by decide +kernel) (by decide +kernel)
set_option maxRecDepth 20000 in
theorem gX8_put_X5_set_n304 : GoodIn wsX8_put (wsX5_set) := ggX8_put_X5_set
set_option maxRecDepth 20000 in
theorem ggX8_element_X8_shelfAt : GoodIn wsX8_element wsX8_shelfAt := goodIn_r _ [9, 10, 29, 30, 31, 32, 33, 34, 35] (by decide +kernel) (by decide +kernel)
set_option maxRecDepth 20000 in
theorem gX8_element_X8_shelfAt : GoodIn wsX8_element (wsV RX8 50 RX8 yX8_shelfAt wsX8_shelfAt) := goodIn_app (goodIn_of _ (by decide +kernel)) ggX8_element_X8_shelfAt
set_option maxRecDepth 20000 in
theorem ggX8_element_X5_hasRow : GoodIn wsX8_element wsX5_hasRow := goodIn_r _ [14, 15, 24, 25, 26, 27, 28] (by decide +kernel) (by decide +kernel)
set_option maxRecDepth 20000 in
theorem gX8_element_X5_hasRow_n314 : GoodIn wsX8_element (wsX5_hasRow) := ggX8_element_X5_hasRow
set_option maxRecDepth 20000 in
theorem ggX8_element_X8_isBelow : GoodIn wsX8_element wsX8_isBelow := goodIn_r _ [18] (by decide +kernel) (by decide +kernel)
set_option maxRecDepth 20000 in
theorem gX8_element_X8_isBelow : GoodIn wsX8_element (va_wsS RX8 115 yX8_isBelow wsX8_isBelow) := goodIn_app (goodIn_of _ (by decide +kernel)) ggX8_element_X8_isBelow
set_option maxRecDepth 20000 in
theorem ggX8_element_X5_cell : GoodIn wsX8_element wsX5_cell := goodIn_r _ [21, 22, 23, 24, 25, 26, 27, 28] (by decide +kernel) (by decide +kernel)
set_option maxRecDepth 20000 in
theorem gX8_element_X5_cell_n282 : GoodIn wsX8_element (wsX5_cell) := ggX8_element_X5_cell
set_option maxRecDepth 20000 in
theorem ggX8_copy_X8_shelfAt : GoodIn wsX8_copy wsX8_shelfAt := goodIn_r _ [9, 10, 29, 30, 31, 32, 33, 34, 35] (by decide +kernel) (by decide +kernel)
set_option maxRecDepth 20000 in
theorem gX8_copy_X8_shelfAt : GoodIn wsX8_copy (wsV RX8 50 RX8 yX8_shelfAt wsX8_shelfAt) := goodIn_app (goodIn_of _ (by decide +kernel)) ggX8_copy_X8_shelfAt
set_option maxRecDepth 20000 in
theorem ggX8_copy_X5_isEmpty : GoodIn wsX8_copy wsX5_isEmpty := goodIn_r _ [14, 15, 16, 24, 25, 26, 27, 28] (by decide +kernel) (by decide +kernel)
set_option maxRecDepth 20000 in
theorem gX8_copy_X5_isEmpty_n325 : GoodIn wsX8_copy (wsX5_isEmpty) := ggX8_copy_X5_isEmpty
set_option maxRecDepth 20000 in
theorem ggX8_copy_X5_hasRow : GoodIn wsX8_copy wsX5_hasRow := goodIn_r _ [19, 15, 24, 25, 26, 27, 28] (by decide +kernel) (by decide +kernel)
set_option maxRecDepth 20000 in
theorem gX8_copy_X5_hasRow_n314 : GoodIn wsX8_copy (wsX5_hasRow) := ggX8_copy_X5_hasRow
set_option maxRecDepth 20000 in
theorem ggX8_copy_X5_hasStretch : GoodIn wsX8_copy wsX5_hasStretch := goodIn_r _ [22, 23, 24, 25, 26, 27, 28] (by decide +kernel) (by decide +kernel)
set_option maxRecDepth 20000 in
theorem gX8_copy_X5_hasStretch_n328 : GoodIn wsX8_copy (wsX5_hasStretch) := ggX8_copy_X5_hasStretch
set_option maxRecDepth 20000 in
theorem ggX8_cost_X8_shelfAt : GoodIn wsX8_cost wsX8_shelfAt := goodIn_r _ [5, 6, 30, 31, 32, 33, 34, 35, 36] (by decide +kernel) (by decide +kernel)
set_option maxRecDepth 20000 in
theorem gX8_cost_X8_shelfAt : GoodIn wsX8_cost (wsV RX8 50 RX8 yX8_shelfAt wsX8_shelfAt) := goodIn_app (goodIn_of _ (by decide +kernel)) ggX8_cost_X8_shelfAt
set_option maxRecDepth 20000 in
theorem ggX8_cost_X8_kindRefusal : GoodIn wsX8_cost wsX8_kindRefusal := goodIn_r _ [9, 10, 11, 4, 12, 13, 14, 15, 16, 17, 18, 19, 20, 21, 25, 26, 27, 28, 29] (by decide +kernel) (by decide +kernel)
set_option maxRecDepth 20000 in
theorem gX8_cost_X8_kindRefusal : GoodIn wsX8_cost (va_wsS RX8 118 yX8_kindRefusal wsX8_kindRefusal) := goodIn_app (goodIn_of _ (by decide +kernel)) ggX8_cost_X8_kindRefusal
set_option maxRecDepth 20000 in
theorem ggX8_cost_X4_expense : GoodIn wsX8_cost wsX4_expense := goodIn_r _ [24] (by decide +kernel) (by decide +kernel)
set_option maxRecDepth 20000 in
theorem gX8_cost_X4_expense_n341 : GoodIn wsX8_cost (wsX4_expense) := ggX8_cost_X4_expense
set_option maxRecDepth 20000 in
theorem ggX8_toss_X8_shelfAt : GoodIn wsX8_toss wsX8_shelfAt := goodIn_r _ [5, 6, 44, 45, 46, 47, 48, 49, 50] (by decide +kernel) (by decide +kernel)
set_option maxRecDepth 20000 in
theorem gX8_toss_X8_shelfAt : GoodIn wsX8_toss (wsV RX8 50 RX8 yX8_shelfAt wsX8_shelfAt) := goodIn_app (goodIn_of _ (by decide +kernel)) ggX8_toss_X8_shelfAt
set_option maxRecDepth 20000 in
theorem ggX8_toss_X8_kindRefusal : GoodIn wsX8_toss wsX8_kindRefusal := goodIn_r _ [9, 10, 11, 4, 12, 13, 14, 15, 16, 17, 18, 19, 20, 21, 39, 40, 41, 42, 43] (by decide +kernel) (by decide +kernel)
set_option maxRecDepth 20000 in
theorem gX8_toss_X8_kindRefusal : GoodIn wsX8_toss (va_wsS RX8 118 yX8_kindRefusal wsX8_kindRefusal) := goodIn_app (goodIn_of _ (by decide +kernel)) ggX8_toss_X8_kindRefusal
set_option maxRecDepth 20000 in
theorem ggX8_toss_X8_caught : GoodIn wsX8_toss wsX8_caught := goodIn_ca (goodIn_ca (goodIn_ca (goodIn_r _ [24, 25, 26, 27, 28, 29, 30, 31, 32, 33, 34, 35, 36, 37, 38] (by decide +kernel) (by decide +kernel)) (goodIn_sub (fun _ h => List.mem_cons_of_mem _ (List.mem_append_left _ (List.mem_append_left _ (List.mem_append_right _ h)))) (by decide +kernel))) (goodIn_sub (fun _ h => List.mem_cons_of_mem _ (List.mem_append_left _ (List.mem_append_right _ h))) (by decide +kernel))) (goodIn_sub (fun _ h => List.mem_cons_of_mem _ (List.mem_append_right _ h)) (by decide +kernel))
set_option maxRecDepth 20000 in
theorem gX8_toss_X8_caught : GoodIn wsX8_toss (va_wsS RX8 344 yX8_caught wsX8_caught) := goodIn_app (goodIn_of _ (by decide +kernel)) ggX8_toss_X8_caught
set_option maxRecDepth 20000 in
theorem ggX8_rowRefusal_X8_refusal : GoodIn wsX8_rowRefusal wsX8_refusal := goodIn_r _ [4, 5, 6, 7, 8, 9, 10, 11, 12, 13, 14, 15, 16, 17, 18] (by decide +kernel) (by decide +kernel)
set_option maxRecDepth 20000 in
theorem gX8_rowRefusal_X8_refusal : GoodIn wsX8_rowRefusal (va_wsS RX8 347 yX8_refusal wsX8_refusal) := goodIn_app (goodIn_of _ (by decide +kernel)) ggX8_rowRefusal_X8_refusal
set_option maxRecDepth 20000 in
theorem ggX8_kindRefusal_X8_refusal : GoodIn wsX8_kindRefusal wsX8_refusal := goodIn_r _ [4, 5, 6, 7, 8, 9, 10, 11, 12, 13, 14, 15, 16, 17, 18] (by decide +kernel) (by decide +kernel)
set_option maxRecDepth 20000 in
theorem gX8_kindRefusal_X8_refusal : GoodIn wsX8_kindRefusal (va_wsS RX8 347 yX8_refusal wsX8_refusal) := goodIn_app (goodIn_of _ (by decide +kernel)) ggX8_kindRefusal_X8_refusal
set_option maxRecDepth 20000 in
theorem ggX8_refusal_X5_isEmpty : GoodIn wsX8_refusal wsX5_isEmpty := goodIn_r _ [4, 5, 6, 10, 11, 12, 13, 14] (by decide +kernel) (by decide +kernel)
set_option maxRecDepth 20000 in
theorem gX8_refusal_X5_isEmpty_n325 : GoodIn wsX8_refusal (wsX5_isEmpty) := ggX8_refusal_X5_isEmpty
set_option maxRecDepth 20000 in
theorem ggX8_refusal_X5_hasRow : GoodIn wsX8_refusal wsX5_hasRow := goodIn_r _ [9, 5, 10, 11, 12, 13, 14] (by decide +kernel) (by decide +kernel)
set_option maxRecDepth 20000 in
theorem gX8_refusal_X5_hasRow_n314 : GoodIn wsX8_refusal (wsX5_hasRow) := ggX8_refusal_X5_hasRow
set_option maxRecDepth 20000 in
theorem ggX8_diaryRefusal_X8_rowRefusal : GoodIn wsX8_diaryRefusal wsX8_rowRefusal := goodIn_r _ [5, 6, 7, 4, 8, 9, 10, 11, 12, 13, 14, 15, 16, 17, 41, 42, 43, 44, 45] (by decide +kernel) (by decide +kernel)
set_option maxRecDepth 20000 in
theorem gX8_diaryRefusal_X8_rowRefusal : GoodIn wsX8_diaryRefusal (va_wsS RX8 54 yX8_rowRefusal wsX8_rowRefusal) := goodIn_app (goodIn_of _ (by decide +kernel)) ggX8_diaryRefusal_X8_rowRefusal
set_option maxRecDepth 20000 in
theorem ggX8_diaryRefusal_X2_isWhole : GoodIn wsX8_diaryRefusal wsX2_isWhole := goodIn_r _ [20, 21, 10, 22, 23, 24, 25, 26, 27, 28, 29, 30, 31, 32, 4, 33, 41, 42, 43, 44, 45, 46, 47, 48, 49] (by decide +kernel) (by decide +kernel)
set_option maxRecDepth 20000 in
theorem gX8_diaryRefusal_X2_isWhole_n351 : GoodIn wsX8_diaryRefusal (wsX2_isWhole) := ggX8_diaryRefusal_X2_isWhole
set_option maxRecDepth 20000 in
theorem ggX8_isContent_X8_gain : GoodIn wsX8_isContent wsX8_gain := goodIn_r _ [4] (by decide +kernel) (by decide +kernel)
set_option maxRecDepth 20000 in
theorem gX8_isContent_X8_gain : GoodIn wsX8_isContent (va_wsS RX8 355 yX8_gain wsX8_gain) := goodIn_app (goodIn_of _ (by decide +kernel)) ggX8_isContent_X8_gain
set_option maxRecDepth 20000 in
theorem ggX8_drawDeed_X8_nextSeed : GoodIn wsX8_drawDeed wsX8_nextSeed := goodIn_r _ [5, 6] (by decide +kernel) (by decide +kernel)
set_option maxRecDepth 20000 in
theorem gX8_drawDeed_X8_nextSeed : GoodIn wsX8_drawDeed (va_wsS RX8 362 yX8_nextSeed wsX8_nextSeed) := goodIn_app (goodIn_of _ (by decide +kernel)) ggX8_drawDeed_X8_nextSeed
set_option maxRecDepth 20000 in
theorem ggX8_drawDeed_X8_drawBelow : GoodIn wsX8_drawDeed wsX8_drawBelow := goodIn_r _ [9, 10, 11] (by decide +kernel) (by decide +kernel)
set_option maxRecDepth 20000 in
theorem gX8_drawDeed_X8_drawBelow : GoodIn wsX8_drawDeed (va_wsS RX8 365 yX8_drawBelow wsX8_drawBelow) := goodIn_app (goodIn_of _ (by decide +kernel)) ggX8_drawDeed_X8_drawBelow
set_option maxRecDepth 20000 in
theorem ggX8_drawDeed_X1_become : GoodIn wsX8_drawDeed wsX1_become := goodIn_r _ [15, 16, 17, 18, 19, 20, 21, 22, 23, 24, 25, 26, 27, 35, 36, 37, 38, 39, 40, 41] (by decide +kernel) (by decide +kernel)
set_option maxRecDepth 20000 in
theorem gX8_drawDeed_X1_become_n368 : GoodIn wsX8_drawDeed (wsX1_become) := ggX8_drawDeed_X1_become
set_option maxRecDepth 20000 in
theorem ggX8_caught_X4_fail : GoodIn wsX8_caught wsX4_fail := goodIn_ca (goodIn_ca (goodIn_ca (goodIn_r _ [6, 7, 8, 9, 10, 11, 12] (by decide +kernel) (by decide +kernel)) (goodIn_sub (fun _ h => List.mem_cons_of_mem _ (List.mem_append_left _ (List.mem_append_left _ (List.mem_append_right _ h)))) (by decide +kernel))) (goodIn_sub (fun _ h => List.mem_cons_of_mem _ (List.mem_append_left _ (List.mem_append_right _ h))) (by decide +kernel))) (goodIn_sub (fun _ h => List.mem_cons_of_mem _ (List.mem_append_right _ h)) (by decide +kernel))
set_option maxRecDepth 20000 in
theorem gX8_caught_X4_fail_n371 : GoodIn wsX8_caught (wsX4_fail) := ggX8_caught_X4_fail
set_option maxRecDepth 20000 in
theorem ggX8_caught_X4_expense : GoodIn wsX8_caught wsX4_expense := goodIn_r _ [14] (by decide +kernel) (by decide +kernel)
set_option maxRecDepth 20000 in
theorem gX8_caught_X4_expense_n341 : GoodIn wsX8_caught (wsX4_expense) := ggX8_caught_X4_expense
