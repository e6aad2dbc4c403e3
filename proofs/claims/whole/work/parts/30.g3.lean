set_option maxRecDepth 20000 in
theorem ggX9_isDeed_X9_isIn : GoodIn wsX9_isDeed wsX9_isIn := goodIn_r _ [5] (by decide +kernel) (by decide +kernel)
set_option maxRecDepth 20000 in
theorem gX9_isDeed_X9_isIn : GoodIn wsX9_isDeed (va_wsS RX9 49 yX9_isIn wsX9_isIn) := goodIn_app (goodIn_of _ (by decide +kernel)) ggX9_isDeed_X9_isIn
set_option maxRecDepth 20000 in
theorem ggX9_isPerson_X9_isIn : GoodIn wsX9_isPerson wsX9_isIn := goodIn_r _ [4] (by decide +kernel) (by decide +kernel)
set_option maxRecDepth 20000 in
theorem gX9_isPerson_X9_isIn : GoodIn wsX9_isPerson (va_wsS RX9 49 yX9_isIn wsX9_isIn) := goodIn_app (goodIn_of _ (by decide +kernel)) ggX9_isPerson_X9_isIn
set_option maxRecDepth 20000 in
theorem ggX9_isDay_X9_isIn : GoodIn wsX9_isDay wsX9_isIn := goodIn_r _ [4] (by decide +kernel) (by decide +kernel)
set_option maxRecDepth 20000 in
theorem gX9_isDay_X9_isIn : GoodIn wsX9_isDay (va_wsS RX9 49 yX9_isIn wsX9_isIn) := goodIn_app (goodIn_of _ (by decide +kernel)) ggX9_isDay_X9_isIn
set_option maxRecDepth 20000 in
theorem ggX9_own_X9_lasts : GoodIn wsX9_own wsX9_lasts := goodIn_r _ [4] (by decide +kernel) (by decide +kernel)
set_option maxRecDepth 20000 in
theorem gX9_own_X9_lasts : GoodIn wsX9_own (va_wsS RX9 53 yX9_lasts wsX9_lasts) := goodIn_app (goodIn_of _ (by decide +kernel)) ggX9_own_X9_lasts
set_option maxRecDepth 20000 in
theorem ggX9_sizeOf_X9_of : GoodIn wsX9_sizeOf wsX9_of := goodIn_r _ [4] (by decide +kernel) (by decide +kernel)
set_option maxRecDepth 20000 in
theorem gX9_sizeOf_X9_of : GoodIn wsX9_sizeOf (va_wsS RX9 57 yX9_of wsX9_of) := goodIn_app (goodIn_of _ (by decide +kernel)) ggX9_sizeOf_X9_of
set_option maxRecDepth 20000 in
theorem ggX9_sizeOf_X9_points : GoodIn wsX9_sizeOf wsX9_points := goodIn_r _ [7] (by decide +kernel) (by decide +kernel)
set_option maxRecDepth 20000 in
theorem gX9_sizeOf_X9_points : GoodIn wsX9_sizeOf (va_wsS RX9 60 yX9_points wsX9_points) := goodIn_app (goodIn_of _ (by decide +kernel)) ggX9_sizeOf_X9_points
set_option maxRecDepth 20000 in
theorem ggX9_isTold_X9_of : GoodIn wsX9_isTold wsX9_of := goodIn_r _ [4] (by decide +kernel) (by decide +kernel)
set_option maxRecDepth 20000 in
theorem gX9_isTold_X9_of : GoodIn wsX9_isTold (va_wsS RX9 57 yX9_of wsX9_of) := goodIn_app (goodIn_of _ (by decide +kernel)) ggX9_isTold_X9_of
set_option maxRecDepth 20000 in
theorem ggX9_wasThere_X9_of : GoodIn wsX9_wasThere wsX9_of := goodIn_r _ [4] (by decide +kernel) (by decide +kernel)
set_option maxRecDepth 20000 in
theorem gX9_wasThere_X9_of : GoodIn wsX9_wasThere (va_wsS RX9 57 yX9_of wsX9_of) := goodIn_app (goodIn_of _ (by decide +kernel)) ggX9_wasThere_X9_of
set_option maxRecDepth 20000 in
theorem ggX9_wasThere_X9_has : GoodIn wsX9_wasThere wsX9_has := goodIn_r _ [7] (by decide +kernel) (by decide +kernel)
set_option maxRecDepth 20000 in
theorem gX9_wasThere_X9_has : GoodIn wsX9_wasThere (va_wsS RX9 63 yX9_has wsX9_has) := goodIn_app (goodIn_of _ (by decide +kernel)) ggX9_wasThere_X9_has
set_option maxRecDepth 20000 in
theorem ggX9_hasIt_X9_isTold : GoodIn wsX9_hasIt wsX9_isTold := goodIn_r _ [4, 5, 6, 3, 7] (by decide +kernel) (by decide +kernel)
set_option maxRecDepth 20000 in
theorem gX9_hasIt_X9_isTold : GoodIn wsX9_hasIt (va_wsS RX9 67 yX9_isTold wsX9_isTold) := goodIn_app (goodIn_of _ (by decide +kernel)) ggX9_hasIt_X9_isTold
set_option maxRecDepth 20000 in
theorem ggX9_hasIt_X9_wasThere : GoodIn wsX9_hasIt wsX9_wasThere := goodIn_r _ [10, 5, 6, 3, 7, 11, 12, 13] (by decide +kernel) (by decide +kernel)
set_option maxRecDepth 20000 in
theorem gX9_hasIt_X9_wasThere : GoodIn wsX9_hasIt (va_wsS RX9 71 yX9_wasThere wsX9_wasThere) := goodIn_app (goodIn_of _ (by decide +kernel)) ggX9_hasIt_X9_wasThere
set_option maxRecDepth 20000 in
theorem ggX9_hasIt_X9_of : GoodIn wsX9_hasIt wsX9_of := goodIn_r _ [7] (by decide +kernel) (by decide +kernel)
set_option maxRecDepth 20000 in
theorem gX9_hasIt_X9_of : GoodIn wsX9_hasIt (va_wsS RX9 57 yX9_of wsX9_of) := goodIn_app (goodIn_of _ (by decide +kernel)) ggX9_hasIt_X9_of
set_option maxRecDepth 20000 in
theorem ggX9_hasIt_X9_own : GoodIn wsX9_hasIt wsX9_own := goodIn_r _ [16, 17, 18, 3, 19] (by decide +kernel) (by decide +kernel)
set_option maxRecDepth 20000 in
theorem gX9_hasIt_X9_own : GoodIn wsX9_hasIt (va_wsS RX9 75 yX9_own wsX9_own) := goodIn_app (goodIn_of _ (by decide +kernel)) ggX9_hasIt_X9_own
set_option maxRecDepth 20000 in
theorem ggX9_hasIt_X9_lasts : GoodIn wsX9_hasIt wsX9_lasts := goodIn_r _ [19] (by decide +kernel) (by decide +kernel)
set_option maxRecDepth 20000 in
theorem gX9_hasIt_X9_lasts : GoodIn wsX9_hasIt (va_wsS RX9 53 yX9_lasts wsX9_lasts) := goodIn_app (goodIn_of _ (by decide +kernel)) ggX9_hasIt_X9_lasts
set_option maxRecDepth 20000 in
theorem ggX9_whoHas_X9_hasIt : GoodIn wsX9_whoHas wsX9_hasIt := goodIn_r _ [4, 5, 6, 3, 7, 8, 9, 10, 11, 12, 13, 14, 15, 16, 17, 18, 19, 20, 21, 22] (by decide +kernel) (by decide +kernel)
set_option maxRecDepth 20000 in
theorem gX9_whoHas_X9_hasIt : GoodIn wsX9_whoHas (va_wsS RX9 78 yX9_hasIt wsX9_hasIt) := goodIn_app (goodIn_of _ (by decide +kernel)) ggX9_whoHas_X9_hasIt
set_option maxRecDepth 20000 in
theorem ggX9_knowsIn_X9_hasIt : GoodIn wsX9_knowsIn wsX9_hasIt := goodIn_r _ [4, 5, 6, 3, 7, 8, 9, 10, 11, 12, 13, 14, 15, 16, 17, 18, 19, 20, 21, 22] (by decide +kernel) (by decide +kernel)
set_option maxRecDepth 20000 in
theorem gX9_knowsIn_X9_hasIt : GoodIn wsX9_knowsIn (va_wsS RX9 78 yX9_hasIt wsX9_hasIt) := goodIn_app (goodIn_of _ (by decide +kernel)) ggX9_knowsIn_X9_hasIt
set_option maxRecDepth 20000 in
theorem ggX9_isAhead_X9_of : GoodIn wsX9_isAhead wsX9_of := goodIn_r _ [5] (by decide +kernel) (by decide +kernel)
set_option maxRecDepth 20000 in
theorem gX9_isAhead_X9_of : GoodIn wsX9_isAhead (va_wsS RX9 57 yX9_of wsX9_of) := goodIn_app (goodIn_of _ (by decide +kernel)) ggX9_isAhead_X9_of
set_option maxRecDepth 20000 in
theorem ggX9_isAhead_X9_sizeOf : GoodIn wsX9_isAhead wsX9_sizeOf := goodIn_r _ [8, 2, 3, 4, 5, 9, 10, 11] (by decide +kernel) (by decide +kernel)
set_option maxRecDepth 20000 in
theorem gX9_isAhead_X9_sizeOf : GoodIn wsX9_isAhead (va_wsS RX9 81 yX9_sizeOf wsX9_sizeOf) := goodIn_app (goodIn_of _ (by decide +kernel)) ggX9_isAhead_X9_sizeOf
set_option maxRecDepth 20000 in
theorem ggX9_prints_X9_isTold : GoodIn wsX9_prints wsX9_isTold := goodIn_r _ [9, 10, 11, 8, 12] (by decide +kernel) (by decide +kernel)
set_option maxRecDepth 20000 in
theorem gX9_prints_X9_isTold : GoodIn wsX9_prints (va_wsS RX9 67 yX9_isTold wsX9_isTold) := goodIn_app (goodIn_of _ (by decide +kernel)) ggX9_prints_X9_isTold
set_option maxRecDepth 20000 in
theorem ggX9_prints_X9_isAhead : GoodIn wsX9_prints wsX9_isAhead := goodIn_r _ [16, 2, 10, 11, 8, 12, 17, 18, 19, 20, 21, 22, 23, 24, 25, 26, 27, 28, 29, 30, 31, 32, 33, 34, 35, 36, 37, 38, 39, 40, 41, 42, 43] (by decide +kernel) (by decide +kernel)
set_option maxRecDepth 20000 in
theorem gX9_prints_X9_isAhead : GoodIn wsX9_prints (wsV RX9 89 RX9 yX9_isAhead wsX9_isAhead) := goodIn_app (goodIn_of _ (by decide +kernel)) ggX9_prints_X9_isAhead
set_option maxRecDepth 20000 in
theorem ggX9_prints_X9_sizeOf : GoodIn wsX9_prints wsX9_sizeOf := goodIn_r _ [19, 10, 11, 8, 12, 20, 21, 22] (by decide +kernel) (by decide +kernel)
set_option maxRecDepth 20000 in
theorem gX9_prints_X9_sizeOf : GoodIn wsX9_prints (va_wsS RX9 81 yX9_sizeOf wsX9_sizeOf) := goodIn_app (goodIn_of _ (by decide +kernel)) ggX9_prints_X9_sizeOf
set_option maxRecDepth 20000 in
theorem ggX9_readsNumber_X9_here : GoodIn wsX9_readsNumber wsX9_here := goodIn_r _ [7, 2, 8, 9, 10, 14, 15, 16, 17, 18, 19, 20, 21, 22, 23, 24, 25, 26, 27, 28, 29, 30, 31, 32, 33, 34] (by decide +kernel) (by decide +kernel)
set_option maxRecDepth 20000 in
theorem gX9_readsNumber_X9_here : GoodIn wsX9_readsNumber (wsV RX9 104 RX9 yX9_here wsX9_here) := goodIn_app (goodIn_of _ (by decide +kernel)) ggX9_readsNumber_X9_here
set_option maxRecDepth 20000 in
theorem ggX9_readsNumber_X9_isIn : GoodIn wsX9_readsNumber wsX9_isIn := goodIn_r _ [13] (by decide +kernel) (by decide +kernel)
set_option maxRecDepth 20000 in
theorem gX9_readsNumber_X9_isIn : GoodIn wsX9_readsNumber (va_wsS RX9 49 yX9_isIn wsX9_isIn) := goodIn_app (goodIn_of _ (by decide +kernel)) ggX9_readsNumber_X9_isIn
set_option maxRecDepth 20000 in
theorem ggX9_readsStatement_X9_here : GoodIn wsX9_readsStatement wsX9_here := goodIn_r _ [6, 1, 7, 8, 9, 18, 19, 20, 21, 22, 23, 24, 25, 26, 27, 28, 29, 30, 31, 32, 33, 34, 35, 36, 37, 38] (by decide +kernel) (by decide +kernel)
set_option maxRecDepth 20000 in
theorem gX9_readsStatement_X9_here : GoodIn wsX9_readsStatement (wsV RX9 104 RX9 yX9_here wsX9_here) := goodIn_app (goodIn_of _ (by decide +kernel)) ggX9_readsStatement_X9_here
set_option maxRecDepth 20000 in
theorem ggX9_readsStatement_X9_readsNumber : GoodIn wsX9_readsStatement wsX9_readsNumber := goodIn_r _ [13, 14, 1, 2, 3, 4, 5, 6, 7, 8, 9, 15, 16, 17, 18, 19, 20, 21, 22, 23, 24, 25, 26, 27, 28, 29, 30, 31, 32, 33, 34, 35, 36, 37, 38] (by decide +kernel) (by decide +kernel)
set_option maxRecDepth 20000 in
theorem gX9_readsStatement_X9_readsNumber : GoodIn wsX9_readsStatement (wsV RX9 108 RX9 yX9_readsNumber wsX9_readsNumber) := goodIn_app (goodIn_of _ (by decide +kernel)) ggX9_readsStatement_X9_readsNumber
set_option maxRecDepth 20000 in
theorem ggX9_adds_X9_of : GoodIn wsX9_adds wsX9_of := goodIn_r _ [4] (by decide +kernel) (by decide +kernel)
set_option maxRecDepth 20000 in
theorem gX9_adds_X9_of : GoodIn wsX9_adds (va_wsS RX9 57 yX9_of wsX9_of) := goodIn_app (goodIn_of _ (by decide +kernel)) ggX9_adds_X9_of
set_option maxRecDepth 20000 in
theorem ggX9_isDone_X9_isDay : GoodIn wsX9_isDone wsX9_isDay := goodIn_r _ [6, 7, 8, 5, 9] (by decide +kernel) (by decide +kernel)
set_option maxRecDepth 20000 in
theorem gX9_isDone_X9_isDay : GoodIn wsX9_isDone (va_wsS RX9 111 yX9_isDay wsX9_isDay) := goodIn_app (goodIn_of _ (by decide +kernel)) ggX9_isDone_X9_isDay
set_option maxRecDepth 20000 in
theorem ggX9_isDone_X9_isPerson : GoodIn wsX9_isDone wsX9_isPerson := goodIn_r _ [12, 7, 8, 5, 9] (by decide +kernel) (by decide +kernel)
set_option maxRecDepth 20000 in
theorem gX9_isDone_X9_isPerson : GoodIn wsX9_isDone (va_wsS RX9 115 yX9_isPerson wsX9_isPerson) := goodIn_app (goodIn_of _ (by decide +kernel)) ggX9_isDone_X9_isPerson
set_option maxRecDepth 20000 in
theorem ggX9_isDone_X9_has : GoodIn wsX9_isDone wsX9_has := goodIn_r _ [15] (by decide +kernel) (by decide +kernel)
set_option maxRecDepth 20000 in
theorem gX9_isDone_X9_has : GoodIn wsX9_isDone (va_wsS RX9 63 yX9_has wsX9_has) := goodIn_app (goodIn_of _ (by decide +kernel)) ggX9_isDone_X9_has
set_option maxRecDepth 20000 in
theorem ggX9_isDone_X9_adds : GoodIn wsX9_isDone wsX9_adds := goodIn_r _ [18, 19, 20, 5, 21] (by decide +kernel) (by decide +kernel)
set_option maxRecDepth 20000 in
theorem gX9_isDone_X9_adds : GoodIn wsX9_isDone (va_wsS RX9 118 yX9_adds wsX9_adds) := goodIn_app (goodIn_of _ (by decide +kernel)) ggX9_isDone_X9_adds
set_option maxRecDepth 20000 in
theorem ggX9_isDone_X9_isDeed : GoodIn wsX9_isDone wsX9_isDeed := goodIn_r _ [25, 2, 7, 8, 5, 9, 26, 27, 28, 29, 30, 31, 32, 33, 34, 35, 36, 37, 38, 39, 40, 41, 42, 43, 44, 45, 46] (by decide +kernel) (by decide +kernel)
set_option maxRecDepth 20000 in
theorem gX9_isDone_X9_isDeed : GoodIn wsX9_isDone (wsV RX9 122 RX9 yX9_isDeed wsX9_isDeed) := goodIn_app (goodIn_of _ (by decide +kernel)) ggX9_isDone_X9_isDeed
set_option maxRecDepth 20000 in
theorem ggX9_isDone_X9_of : GoodIn wsX9_isDone wsX9_of := goodIn_r _ [21] (by decide +kernel) (by decide +kernel)
set_option maxRecDepth 20000 in
theorem gX9_isDone_X9_of : GoodIn wsX9_isDone (va_wsS RX9 57 yX9_of wsX9_of) := goodIn_app (goodIn_of _ (by decide +kernel)) ggX9_isDone_X9_of
set_option maxRecDepth 20000 in
theorem ggX9_year_X9_wrongRow : GoodIn wsX9_year wsX9_wrongRow := goodIn_r _ [11, 12, 13, 14, 15, 10, 16, 17, 18, 19, 60, 61, 62, 63, 64, 65, 66, 67, 68, 69, 70, 71, 72, 73, 74, 75, 76, 77, 78, 79, 80] (by decide +kernel) (by decide +kernel)
set_option maxRecDepth 20000 in
theorem gX9_year_X9_wrongRow : GoodIn wsX9_year (wsV RX9 125 RX9 yX9_wrongRow wsX9_wrongRow) := goodIn_app (goodIn_of _ (by decide +kernel)) ggX9_year_X9_wrongRow
set_option maxRecDepth 20000 in
theorem ggX9_year_X9_readsStatement : GoodIn wsX9_year wsX9_readsStatement := goodIn_r _ [23, 4, 24, 25, 26, 10, 27, 3, 28, 1, 29, 30, 31, 32, 33, 17, 18, 19, 60, 61, 62, 63, 64, 65, 66, 67, 68, 69, 70, 71, 72, 73, 74, 75, 76, 77, 78, 79, 80] (by decide +kernel) (by decide +kernel)
set_option maxRecDepth 20000 in
theorem gX9_year_X9_readsStatement : GoodIn wsX9_year (wsV RX9 128 RX9 yX9_readsStatement wsX9_readsStatement) := goodIn_app (goodIn_of _ (by decide +kernel)) ggX9_year_X9_readsStatement
set_option maxRecDepth 20000 in
theorem ggX9_year_X9_copies : GoodIn wsX9_year wsX9_copies := goodIn_r _ [36] (by decide +kernel) (by decide +kernel)
set_option maxRecDepth 20000 in
theorem gX9_year_X9_copies : GoodIn wsX9_year (va_wsS RX9 132 yX9_copies wsX9_copies) := goodIn_app (goodIn_of _ (by decide +kernel)) ggX9_year_X9_copies
set_option maxRecDepth 20000 in
theorem ggX9_year_X9_here : GoodIn wsX9_year wsX9_here := goodIn_r _ [27, 4, 3, 28, 1, 60, 61, 62, 63, 64, 65, 66, 67, 68, 69, 70, 71, 72, 73, 74, 75, 76, 77, 78, 79, 80] (by decide +kernel) (by decide +kernel)
set_option maxRecDepth 20000 in
theorem gX9_year_X9_here : GoodIn wsX9_year (wsV RX9 104 RX9 yX9_here wsX9_here) := goodIn_app (goodIn_of _ (by decide +kernel)) ggX9_year_X9_here
set_option maxRecDepth 20000 in
theorem ggX9_year_X9_isDone : GoodIn wsX9_year wsX9_isDone := goodIn_r _ [40, 33, 5, 41, 42, 10, 43, 17, 18, 19, 44, 45, 46, 47, 48, 49, 50, 51, 52, 53, 54, 55, 56, 57, 58, 59, 60, 61, 62, 63, 64, 65, 66, 67, 68, 69, 70, 71, 72, 73, 74, 75, 76, 77, 78, 79, 80] (by decide +kernel) (by decide +kernel)
set_option maxRecDepth 20000 in
theorem gX9_year_X9_isDone : GoodIn wsX9_year (wsV RX9 136 RX9 yX9_isDone wsX9_isDone) := goodIn_app (goodIn_of _ (by decide +kernel)) ggX9_year_X9_isDone
set_option maxRecDepth 20000 in
theorem ggX9_deed_X9_isDeed : GoodIn wsX9_deed wsX9_isDeed := goodIn_r _ [6, 1, 7, 8, 5, 9, 22, 23, 24, 25, 26, 27, 28, 29, 30, 31, 32, 33, 34, 35, 36, 37, 38, 39, 40, 41, 42] (by decide +kernel) (by decide +kernel)
set_option maxRecDepth 20000 in
theorem gX9_deed_X9_isDeed : GoodIn wsX9_deed (wsV RX9 122 RX9 yX9_isDeed wsX9_isDeed) := goodIn_app (goodIn_of _ (by decide +kernel)) ggX9_deed_X9_isDeed
set_option maxRecDepth 20000 in
theorem ggX9_deed_X9_isIn : GoodIn wsX9_deed wsX9_isIn := goodIn_r _ [9] (by decide +kernel) (by decide +kernel)
set_option maxRecDepth 20000 in
theorem gX9_deed_X9_isIn : GoodIn wsX9_deed (va_wsS RX9 49 yX9_isIn wsX9_isIn) := goodIn_app (goodIn_of _ (by decide +kernel)) ggX9_deed_X9_isIn
set_option maxRecDepth 20000 in
theorem ggX9_deed_X9_of : GoodIn wsX9_deed wsX9_of := goodIn_r _ [12] (by decide +kernel) (by decide +kernel)
set_option maxRecDepth 20000 in
theorem gX9_deed_X9_of : GoodIn wsX9_deed (va_wsS RX9 57 yX9_of wsX9_of) := goodIn_app (goodIn_of _ (by decide +kernel)) ggX9_deed_X9_of
set_option maxRecDepth 20000 in
theorem ggX9_deed_X9_lasts : GoodIn wsX9_deed wsX9_lasts := goodIn_r _ [15] (by decide +kernel) (by decide +kernel)
set_option maxRecDepth 20000 in
theorem gX9_deed_X9_lasts : GoodIn wsX9_deed (va_wsS RX9 53 yX9_lasts wsX9_lasts) := goodIn_app (goodIn_of _ (by decide +kernel)) ggX9_deed_X9_lasts
set_option maxRecDepth 20000 in
theorem ggX9_deed_X9_own : GoodIn wsX9_deed wsX9_own := goodIn_r _ [18, 13, 14, 5, 15] (by decide +kernel) (by decide +kernel)
set_option maxRecDepth 20000 in
theorem gX9_deed_X9_own : GoodIn wsX9_deed (va_wsS RX9 75 yX9_own wsX9_own) := goodIn_app (goodIn_of _ (by decide +kernel)) ggX9_deed_X9_own
set_option maxRecDepth 20000 in
theorem ggX9_deed_X9_points : GoodIn wsX9_deed wsX9_points := goodIn_r _ [21] (by decide +kernel) (by decide +kernel)
set_option maxRecDepth 20000 in
theorem gX9_deed_X9_points : GoodIn wsX9_deed (va_wsS RX9 60 yX9_points wsX9_points) := goodIn_app (goodIn_of _ (by decide +kernel)) ggX9_deed_X9_points
set_option maxRecDepth 20000 in
theorem ggX9_guilt_X9_isDeed : GoodIn wsX9_guilt wsX9_isDeed := goodIn_r _ [7, 1, 8, 9, 6, 10, 17, 18, 19, 20, 21, 22, 23, 24, 25, 26, 27, 28, 29, 30, 31, 32, 33, 34, 35, 36, 37] (by decide +kernel) (by decide +kernel)
set_option maxRecDepth 20000 in
theorem gX9_guilt_X9_isDeed : GoodIn wsX9_guilt (wsV RX9 122 RX9 yX9_isDeed wsX9_isDeed) := goodIn_app (goodIn_of _ (by decide +kernel)) ggX9_guilt_X9_isDeed
set_option maxRecDepth 20000 in
theorem ggX9_guilt_X9_of : GoodIn wsX9_guilt wsX9_of := goodIn_r _ [13] (by decide +kernel) (by decide +kernel)
set_option maxRecDepth 20000 in
theorem gX9_guilt_X9_of : GoodIn wsX9_guilt (va_wsS RX9 57 yX9_of wsX9_of) := goodIn_app (goodIn_of _ (by decide +kernel)) ggX9_guilt_X9_of
set_option maxRecDepth 20000 in
theorem ggX9_guilt_X9_guiltBy : GoodIn wsX9_guilt wsX9_guiltBy := goodIn_r _ [16] (by decide +kernel) (by decide +kernel)
set_option maxRecDepth 20000 in
theorem gX9_guilt_X9_guiltBy : GoodIn wsX9_guilt (va_wsS RX9 139 yX9_guiltBy wsX9_guiltBy) := goodIn_app (goodIn_of _ (by decide +kernel)) ggX9_guilt_X9_guiltBy
set_option maxRecDepth 20000 in
theorem ggX9_done_X9_isDay : GoodIn wsX9_done wsX9_isDay := goodIn_r _ [7, 8, 9, 6, 10] (by decide +kernel) (by decide +kernel)
set_option maxRecDepth 20000 in
theorem gX9_done_X9_isDay : GoodIn wsX9_done (va_wsS RX9 111 yX9_isDay wsX9_isDay) := goodIn_app (goodIn_of _ (by decide +kernel)) ggX9_done_X9_isDay
set_option maxRecDepth 20000 in
theorem ggX9_done_X9_isPerson : GoodIn wsX9_done wsX9_isPerson := goodIn_r _ [13, 8, 9, 6, 10] (by decide +kernel) (by decide +kernel)
set_option maxRecDepth 20000 in
theorem gX9_done_X9_isPerson : GoodIn wsX9_done (va_wsS RX9 115 yX9_isPerson wsX9_isPerson) := goodIn_app (goodIn_of _ (by decide +kernel)) ggX9_done_X9_isPerson
set_option maxRecDepth 20000 in
theorem ggX9_done_X9_isIn : GoodIn wsX9_done wsX9_isIn := goodIn_r _ [10] (by decide +kernel) (by decide +kernel)
set_option maxRecDepth 20000 in
theorem gX9_done_X9_isIn : GoodIn wsX9_done (va_wsS RX9 49 yX9_isIn wsX9_isIn) := goodIn_app (goodIn_of _ (by decide +kernel)) ggX9_done_X9_isIn
set_option maxRecDepth 20000 in
theorem ggX9_done_X9_wrongKept : GoodIn wsX9_done wsX9_wrongKept := goodIn_r _ [17, 18, 19, 20, 6, 21, 8, 9, 10, 28, 29, 30, 31, 32, 33, 34, 35, 36, 37, 38, 39, 40, 41, 42, 43, 44, 45, 46, 47, 48] (by decide +kernel) (by decide +kernel)
set_option maxRecDepth 20000 in
theorem gX9_done_X9_wrongKept : GoodIn wsX9_done (wsV RX9 143 RX9 yX9_wrongKept wsX9_wrongKept) := goodIn_app (goodIn_of _ (by decide +kernel)) ggX9_done_X9_wrongKept
set_option maxRecDepth 20000 in
theorem ggX9_done_X9_adds : GoodIn wsX9_done wsX9_adds := goodIn_r _ [24, 25, 26, 6, 27] (by decide +kernel) (by decide +kernel)
set_option maxRecDepth 20000 in
theorem gX9_done_X9_adds : GoodIn wsX9_done (va_wsS RX9 118 yX9_adds wsX9_adds) := goodIn_app (goodIn_of _ (by decide +kernel)) ggX9_done_X9_adds
set_option maxRecDepth 20000 in
theorem ggX9_sees_X9_isDeed : GoodIn wsX9_sees wsX9_isDeed := goodIn_r _ [6, 1, 7, 8, 5, 9, 16, 17, 18, 19, 20, 21, 22, 23, 24, 25, 26, 27, 28, 29, 30, 31, 32, 33, 34, 35, 36] (by decide +kernel) (by decide +kernel)
set_option maxRecDepth 20000 in
theorem gX9_sees_X9_isDeed : GoodIn wsX9_sees (wsV RX9 122 RX9 yX9_isDeed wsX9_isDeed) := goodIn_app (goodIn_of _ (by decide +kernel)) ggX9_sees_X9_isDeed
set_option maxRecDepth 20000 in
theorem ggX9_sees_X9_isPerson : GoodIn wsX9_sees wsX9_isPerson := goodIn_r _ [12, 7, 8, 5, 9] (by decide +kernel) (by decide +kernel)
set_option maxRecDepth 20000 in
theorem gX9_sees_X9_isPerson : GoodIn wsX9_sees (va_wsS RX9 115 yX9_isPerson wsX9_isPerson) := goodIn_app (goodIn_of _ (by decide +kernel)) ggX9_sees_X9_isPerson
set_option maxRecDepth 20000 in
theorem ggX9_sees_X9_of : GoodIn wsX9_sees wsX9_of := goodIn_r _ [15] (by decide +kernel) (by decide +kernel)
set_option maxRecDepth 20000 in
theorem gX9_sees_X9_of : GoodIn wsX9_sees (va_wsS RX9 57 yX9_of wsX9_of) := goodIn_app (goodIn_of _ (by decide +kernel)) ggX9_sees_X9_of
set_option maxRecDepth 20000 in
theorem ggX9_today_X9_isIn : GoodIn wsX9_today wsX9_isIn := goodIn_r _ [5] (by decide +kernel) (by decide +kernel)
set_option maxRecDepth 20000 in
theorem gX9_today_X9_isIn : GoodIn wsX9_today (va_wsS RX9 49 yX9_isIn wsX9_isIn) := goodIn_app (goodIn_of _ (by decide +kernel)) ggX9_today_X9_isIn
set_option maxRecDepth 20000 in
theorem ggX9_remembers_X9_isPerson : GoodIn wsX9_remembers wsX9_isPerson := goodIn_r _ [5, 6, 7, 4, 8] (by decide +kernel) (by decide +kernel)
set_option maxRecDepth 20000 in
theorem gX9_remembers_X9_isPerson : GoodIn wsX9_remembers (va_wsS RX9 115 yX9_isPerson wsX9_isPerson) := goodIn_app (goodIn_of _ (by decide +kernel)) ggX9_remembers_X9_isPerson
set_option maxRecDepth 20000 in
theorem ggX9_remembers_X9_isDeed : GoodIn wsX9_remembers wsX9_isDeed := goodIn_r _ [12, 1, 6, 7, 4, 8, 34, 35, 36, 37, 38, 39, 40, 41, 42, 43, 44, 45, 46, 47, 48, 49, 50, 51, 52, 53, 54] (by decide +kernel) (by decide +kernel)
set_option maxRecDepth 20000 in
theorem gX9_remembers_X9_isDeed : GoodIn wsX9_remembers (wsV RX9 122 RX9 yX9_isDeed wsX9_isDeed) := goodIn_app (goodIn_of _ (by decide +kernel)) ggX9_remembers_X9_isDeed
set_option maxRecDepth 20000 in
theorem ggX9_remembers_X9_hasIt : GoodIn wsX9_remembers wsX9_hasIt := goodIn_r _ [15, 16, 17, 4, 18, 19, 20, 21, 22, 23, 24, 25, 26, 27, 28, 29, 30, 31, 32, 33] (by decide +kernel) (by decide +kernel)
set_option maxRecDepth 20000 in
theorem gX9_remembers_X9_hasIt : GoodIn wsX9_remembers (va_wsS RX9 78 yX9_hasIt wsX9_hasIt) := goodIn_app (goodIn_of _ (by decide +kernel)) ggX9_remembers_X9_hasIt
set_option maxRecDepth 20000 in
theorem ggX9_knows_X9_isPerson : GoodIn wsX9_knows wsX9_isPerson := goodIn_r _ [5, 6, 7, 4, 8] (by decide +kernel) (by decide +kernel)
set_option maxRecDepth 20000 in
theorem gX9_knows_X9_isPerson : GoodIn wsX9_knows (va_wsS RX9 115 yX9_isPerson wsX9_isPerson) := goodIn_app (goodIn_of _ (by decide +kernel)) ggX9_knows_X9_isPerson
set_option maxRecDepth 20000 in
theorem ggX9_knows_X9_knowsIn : GoodIn wsX9_knows wsX9_knowsIn := goodIn_r _ [11, 12, 13, 4, 14, 15, 16, 17, 18, 19, 20, 21, 22, 23, 24, 25, 26, 27, 28, 29, 30, 31, 32] (by decide +kernel) (by decide +kernel)
set_option maxRecDepth 20000 in
theorem gX9_knows_X9_knowsIn : GoodIn wsX9_knows (va_wsS RX9 147 yX9_knowsIn wsX9_knowsIn) := goodIn_app (goodIn_of _ (by decide +kernel)) ggX9_knows_X9_knowsIn
set_option maxRecDepth 20000 in
theorem ggX9_forgotten_X9_isTold : GoodIn wsX9_forgotten wsX9_isTold := goodIn_r _ [5, 6, 7, 4, 8] (by decide +kernel) (by decide +kernel)
set_option maxRecDepth 20000 in
theorem gX9_forgotten_X9_isTold : GoodIn wsX9_forgotten (va_wsS RX9 67 yX9_isTold wsX9_isTold) := goodIn_app (goodIn_of _ (by decide +kernel)) ggX9_forgotten_X9_isTold
set_option maxRecDepth 20000 in
theorem ggX9_forgotten_X9_whoHas : GoodIn wsX9_forgotten wsX9_whoHas := goodIn_r _ [11, 12, 13, 4, 14, 2, 3, 5, 6, 7, 8, 15, 16, 17, 18, 19, 20, 21, 22, 23, 24, 25, 26] (by decide +kernel) (by decide +kernel)
set_option maxRecDepth 20000 in
theorem gX9_forgotten_X9_whoHas : GoodIn wsX9_forgotten (va_wsS RX9 150 yX9_whoHas wsX9_whoHas) := goodIn_app (goodIn_of _ (by decide +kernel)) ggX9_forgotten_X9_whoHas
set_option maxRecDepth 20000 in
theorem ggX9_forgets_X9_isPerson : GoodIn wsX9_forgets wsX9_isPerson := goodIn_r _ [6, 7, 8, 5, 9] (by decide +kernel) (by decide +kernel)
set_option maxRecDepth 20000 in
theorem gX9_forgets_X9_isPerson : GoodIn wsX9_forgets (va_wsS RX9 115 yX9_isPerson wsX9_isPerson) := goodIn_app (goodIn_of _ (by decide +kernel)) ggX9_forgets_X9_isPerson
set_option maxRecDepth 20000 in
theorem ggX9_forgets_X9_isDeed : GoodIn wsX9_forgets wsX9_isDeed := goodIn_r _ [13, 1, 7, 8, 5, 9, 38, 39, 40, 41, 42, 43, 44, 45, 46, 47, 48, 49, 50, 51, 52, 53, 54, 55, 56, 57, 58] (by decide +kernel) (by decide +kernel)
set_option maxRecDepth 20000 in
theorem gX9_forgets_X9_isDeed : GoodIn wsX9_forgets (wsV RX9 122 RX9 yX9_isDeed wsX9_isDeed) := goodIn_app (goodIn_of _ (by decide +kernel)) ggX9_forgets_X9_isDeed
set_option maxRecDepth 20000 in
theorem ggX9_forgets_X9_hasIt : GoodIn wsX9_forgets wsX9_hasIt := goodIn_r _ [16, 17, 18, 5, 19, 20, 21, 22, 23, 24, 25, 26, 27, 28, 29, 30, 31, 32, 33, 34] (by decide +kernel) (by decide +kernel)
set_option maxRecDepth 20000 in
theorem gX9_forgets_X9_hasIt : GoodIn wsX9_forgets (va_wsS RX9 78 yX9_hasIt wsX9_hasIt) := goodIn_app (goodIn_of _ (by decide +kernel)) ggX9_forgets_X9_hasIt
set_option maxRecDepth 20000 in
theorem ggX9_forgets_X9_copies : GoodIn wsX9_forgets wsX9_copies := goodIn_r _ [37] (by decide +kernel) (by decide +kernel)
set_option maxRecDepth 20000 in
theorem gX9_forgets_X9_copies : GoodIn wsX9_forgets (va_wsS RX9 132 yX9_copies wsX9_copies) := goodIn_app (goodIn_of _ (by decide +kernel)) ggX9_forgets_X9_copies
set_option maxRecDepth 20000 in
theorem ggX9_only_X9_whoHas : GoodIn wsX9_only wsX9_whoHas := goodIn_r _ [5, 6, 7, 4, 8, 9, 10, 11, 12, 13, 14, 15, 16, 17, 18, 19, 20, 21, 22, 23, 24, 25, 26] (by decide +kernel) (by decide +kernel)
set_option maxRecDepth 20000 in
theorem gX9_only_X9_whoHas : GoodIn wsX9_only (va_wsS RX9 150 yX9_whoHas wsX9_whoHas) := goodIn_app (goodIn_of _ (by decide +kernel)) ggX9_only_X9_whoHas
set_option maxRecDepth 20000 in
theorem ggX9_only_X9_bits : GoodIn wsX9_only wsX9_bits := goodIn_r _ [29] (by decide +kernel) (by decide +kernel)
set_option maxRecDepth 20000 in
theorem gX9_only_X9_bits : GoodIn wsX9_only (va_wsS RX9 153 yX9_bits wsX9_bits) := goodIn_app (goodIn_of _ (by decide +kernel)) ggX9_only_X9_bits
set_option maxRecDepth 20000 in
theorem ggX9_knownBy_X9_has : GoodIn wsX9_knownBy wsX9_has := goodIn_r _ [5] (by decide +kernel) (by decide +kernel)
set_option maxRecDepth 20000 in
theorem gX9_knownBy_X9_has : GoodIn wsX9_knownBy (va_wsS RX9 63 yX9_has wsX9_has) := goodIn_app (goodIn_of _ (by decide +kernel)) ggX9_knownBy_X9_has
set_option maxRecDepth 20000 in
theorem ggX9_knownBy_X9_knowsIn : GoodIn wsX9_knownBy wsX9_knowsIn := goodIn_r _ [8, 9, 10, 4, 11, 12, 13, 14, 15, 16, 17, 18, 19, 20, 2, 3, 5, 21, 22, 23, 24, 25, 26] (by decide +kernel) (by decide +kernel)
set_option maxRecDepth 20000 in
theorem gX9_knownBy_X9_knowsIn : GoodIn wsX9_knownBy (va_wsS RX9 147 yX9_knowsIn wsX9_knowsIn) := goodIn_app (goodIn_of _ (by decide +kernel)) ggX9_knownBy_X9_knowsIn
set_option maxRecDepth 20000 in
theorem ggX9_witnesses_X9_knownBy : GoodIn wsX9_witnesses wsX9_knownBy := goodIn_r _ [5, 6, 7, 8, 4, 9, 10, 11, 12, 13, 14, 15, 16, 17, 18, 19, 20, 21, 22, 23, 24, 25, 26, 27, 28, 29, 30, 34, 35, 36, 37, 38, 39, 40, 41, 42, 43, 44, 45, 46, 47, 48, 49, 50, 51, 52, 53, 54] (by decide +kernel) (by decide +kernel)
set_option maxRecDepth 20000 in
theorem gX9_witnesses_X9_knownBy : GoodIn wsX9_witnesses (wsV RX9 156 RX9 yX9_knownBy wsX9_knownBy) := goodIn_app (goodIn_of _ (by decide +kernel)) ggX9_witnesses_X9_knownBy
set_option maxRecDepth 20000 in
theorem ggX9_witnesses_X9_bits : GoodIn wsX9_witnesses wsX9_bits := goodIn_r _ [33] (by decide +kernel) (by decide +kernel)
set_option maxRecDepth 20000 in
theorem gX9_witnesses_X9_bits : GoodIn wsX9_witnesses (va_wsS RX9 153 yX9_bits wsX9_bits) := goodIn_app (goodIn_of _ (by decide +kernel)) ggX9_witnesses_X9_bits
set_option maxRecDepth 20000 in
theorem ggX9_place_X9_isDeed : GoodIn wsX9_place wsX9_isDeed := goodIn_r _ [6, 7, 8, 9, 5, 10, 38, 39, 40, 41, 42, 43, 44, 45, 46, 47, 48, 49, 50, 51, 52, 53, 54, 55, 56, 57, 58] (by decide +kernel) (by decide +kernel)
set_option maxRecDepth 20000 in
theorem gX9_place_X9_isDeed : GoodIn wsX9_place (wsV RX9 122 RX9 yX9_isDeed wsX9_isDeed) := goodIn_app (goodIn_of _ (by decide +kernel)) ggX9_place_X9_isDeed
set_option maxRecDepth 20000 in
theorem ggX9_place_X9_isIn : GoodIn wsX9_place wsX9_isIn := goodIn_r _ [10] (by decide +kernel) (by decide +kernel)
set_option maxRecDepth 20000 in
theorem gX9_place_X9_isIn : GoodIn wsX9_place (va_wsS RX9 49 yX9_isIn wsX9_isIn) := goodIn_app (goodIn_of _ (by decide +kernel)) ggX9_place_X9_isIn
set_option maxRecDepth 20000 in
theorem ggX9_place_X9_prints : GoodIn wsX9_place wsX9_prints := goodIn_r _ [14, 15, 7, 16, 17, 1, 18, 19, 5, 20, 21, 22, 23, 24, 25, 26, 27, 28, 29, 30, 31, 32, 33, 38, 39, 40, 41, 42, 43, 44, 45, 46, 47, 48, 49, 50, 51, 52, 53, 54, 55, 56, 57, 58] (by decide +kernel) (by decide +kernel)
set_option maxRecDepth 20000 in
theorem gX9_place_X9_prints : GoodIn wsX9_place (wsV RX9 159 RX9 yX9_prints wsX9_prints) := goodIn_app (goodIn_of _ (by decide +kernel)) ggX9_place_X9_prints
set_option maxRecDepth 20000 in
theorem ggX9_place_X9_placeOf : GoodIn wsX9_place wsX9_placeOf := goodIn_r _ [37, 15, 16, 38, 39, 40, 41, 42, 43, 44, 45, 46, 47, 48, 49, 50, 51, 52, 53, 54, 55, 56, 57, 58] (by decide +kernel) (by decide +kernel)
set_option maxRecDepth 20000 in
theorem gX9_place_X9_placeOf : GoodIn wsX9_place (wsV RX9 162 RX9 yX9_placeOf wsX9_placeOf) := goodIn_app (goodIn_of _ (by decide +kernel)) ggX9_place_X9_placeOf
set_option maxRecDepth 20000 in
theorem ggX9_pages_X9_prints : GoodIn wsX9_pages wsX9_prints := goodIn_r _ [6, 7, 8, 9, 1, 10, 11, 12, 5, 13, 14, 15, 16, 17, 18, 19, 20, 21, 22, 23, 24, 25, 26, 27, 28, 29, 30, 31, 32, 33, 34, 35, 36, 37, 38, 39, 40, 41, 42, 43, 44, 45, 46, 47] (by decide +kernel) (by decide +kernel)
set_option maxRecDepth 20000 in
theorem gX9_pages_X9_prints : GoodIn wsX9_pages (wsV RX9 159 RX9 yX9_prints wsX9_prints) := goodIn_app (goodIn_of _ (by decide +kernel)) ggX9_pages_X9_prints
set_option maxRecDepth 20000 in
theorem ggX9_looksUp_X9_isPerson : GoodIn wsX9_looksUp wsX9_isPerson := goodIn_r _ [8, 9, 10, 7, 11] (by decide +kernel) (by decide +kernel)
set_option maxRecDepth 20000 in
theorem gX9_looksUp_X9_isPerson : GoodIn wsX9_looksUp (va_wsS RX9 115 yX9_isPerson wsX9_isPerson) := goodIn_app (goodIn_of _ (by decide +kernel)) ggX9_looksUp_X9_isPerson
set_option maxRecDepth 20000 in
theorem ggX9_looksUp_X9_isIn : GoodIn wsX9_looksUp wsX9_isIn := goodIn_r _ [11] (by decide +kernel) (by decide +kernel)
set_option maxRecDepth 20000 in
theorem gX9_looksUp_X9_isIn : GoodIn wsX9_looksUp (va_wsS RX9 49 yX9_isIn wsX9_isIn) := goodIn_app (goodIn_of _ (by decide +kernel)) ggX9_looksUp_X9_isIn
set_option maxRecDepth 20000 in
theorem ggX9_looksUp_X9_prints : GoodIn wsX9_looksUp wsX9_prints := goodIn_r _ [15, 1, 2, 3, 16, 4, 17, 18, 7, 19, 20, 21, 22, 23, 24, 25, 26, 27, 28, 29, 30, 31, 32, 48, 49, 50, 51, 52, 53, 54, 55, 56, 57, 58, 59, 60, 61, 62, 63, 64, 65, 66, 67, 68] (by decide +kernel) (by decide +kernel)
set_option maxRecDepth 20000 in
theorem gX9_looksUp_X9_prints : GoodIn wsX9_looksUp (wsV RX9 159 RX9 yX9_prints wsX9_prints) := goodIn_app (goodIn_of _ (by decide +kernel)) ggX9_looksUp_X9_prints
set_option maxRecDepth 20000 in
theorem ggX9_looksUp_X9_of : GoodIn wsX9_looksUp wsX9_of := goodIn_r _ [22] (by decide +kernel) (by decide +kernel)
set_option maxRecDepth 20000 in
theorem gX9_looksUp_X9_of : GoodIn wsX9_looksUp (va_wsS RX9 57 yX9_of wsX9_of) := goodIn_app (goodIn_of _ (by decide +kernel)) ggX9_looksUp_X9_of
set_option maxRecDepth 20000 in
theorem ggX9_looksUp_X9_sizeOf : GoodIn wsX9_looksUp wsX9_sizeOf := goodIn_r _ [29, 20, 21, 7, 22, 30, 31, 32] (by decide +kernel) (by decide +kernel)
set_option maxRecDepth 20000 in
theorem gX9_looksUp_X9_sizeOf : GoodIn wsX9_looksUp (va_wsS RX9 81 yX9_sizeOf wsX9_sizeOf) := goodIn_app (goodIn_of _ (by decide +kernel)) ggX9_looksUp_X9_sizeOf
set_option maxRecDepth 20000 in
theorem ggX9_looksUp_X9_wasThere : GoodIn wsX9_looksUp wsX9_wasThere := goodIn_r _ [35, 20, 21, 7, 22, 36, 37, 38] (by decide +kernel) (by decide +kernel)
set_option maxRecDepth 20000 in
theorem gX9_looksUp_X9_wasThere : GoodIn wsX9_looksUp (va_wsS RX9 71 yX9_wasThere wsX9_wasThere) := goodIn_app (goodIn_of _ (by decide +kernel)) ggX9_looksUp_X9_wasThere
set_option maxRecDepth 20000 in
theorem ggX9_looksUp_X9_hasIt : GoodIn wsX9_looksUp wsX9_hasIt := goodIn_r _ [41, 17, 18, 7, 19, 20, 21, 22, 33, 34, 35, 36, 37, 38, 42, 43, 44, 45, 46, 47] (by decide +kernel) (by decide +kernel)
set_option maxRecDepth 20000 in
theorem gX9_looksUp_X9_hasIt : GoodIn wsX9_looksUp (va_wsS RX9 78 yX9_hasIt wsX9_hasIt) := goodIn_app (goodIn_of _ (by decide +kernel)) ggX9_looksUp_X9_hasIt
set_option maxRecDepth 20000 in
theorem ggX9_uncut_X9_isIn : GoodIn wsX9_uncut wsX9_isIn := goodIn_r _ [9] (by decide +kernel) (by decide +kernel)
set_option maxRecDepth 20000 in
theorem gX9_uncut_X9_isIn : GoodIn wsX9_uncut (va_wsS RX9 49 yX9_isIn wsX9_isIn) := goodIn_app (goodIn_of _ (by decide +kernel)) ggX9_uncut_X9_isIn
set_option maxRecDepth 20000 in
theorem ggX9_uncut_X9_prints : GoodIn wsX9_uncut wsX9_prints := goodIn_r _ [13, 1, 5, 4, 3, 2, 14, 15, 8, 16, 17, 18, 19, 20, 21, 22, 23, 24, 25, 26, 27, 28, 29, 30, 31, 32, 33, 34, 35, 36, 37, 38, 39, 40, 41, 42, 43, 44, 45, 46, 47, 48, 49, 50] (by decide +kernel) (by decide +kernel)
set_option maxRecDepth 20000 in
theorem gX9_uncut_X9_prints : GoodIn wsX9_uncut (wsV RX9 159 RX9 yX9_prints wsX9_prints) := goodIn_app (goodIn_of _ (by decide +kernel)) ggX9_uncut_X9_prints
set_option maxRecDepth 20000 in
theorem ggX9_uncut_X9_of : GoodIn wsX9_uncut wsX9_of := goodIn_r _ [19] (by decide +kernel) (by decide +kernel)
set_option maxRecDepth 20000 in
theorem gX9_uncut_X9_of : GoodIn wsX9_uncut (va_wsS RX9 57 yX9_of wsX9_of) := goodIn_app (goodIn_of _ (by decide +kernel)) ggX9_uncut_X9_of
set_option maxRecDepth 20000 in
theorem ggX9_guiltOf_X9_isTold : GoodIn wsX9_guiltOf wsX9_isTold := goodIn_r _ [5, 6, 7, 4, 8] (by decide +kernel) (by decide +kernel)
set_option maxRecDepth 20000 in
theorem gX9_guiltOf_X9_isTold : GoodIn wsX9_guiltOf (va_wsS RX9 67 yX9_isTold wsX9_isTold) := goodIn_app (goodIn_of _ (by decide +kernel)) ggX9_guiltOf_X9_isTold
set_option maxRecDepth 20000 in
theorem ggX9_guiltOf_X9_of : GoodIn wsX9_guiltOf wsX9_of := goodIn_r _ [8] (by decide +kernel) (by decide +kernel)
set_option maxRecDepth 20000 in
theorem gX9_guiltOf_X9_of : GoodIn wsX9_guiltOf (va_wsS RX9 57 yX9_of wsX9_of) := goodIn_app (goodIn_of _ (by decide +kernel)) ggX9_guiltOf_X9_of
set_option maxRecDepth 20000 in
theorem ggX9_guiltOf_X9_guiltBy : GoodIn wsX9_guiltOf wsX9_guiltBy := goodIn_r _ [11] (by decide +kernel) (by decide +kernel)
set_option maxRecDepth 20000 in
theorem gX9_guiltOf_X9_guiltBy : GoodIn wsX9_guiltOf (va_wsS RX9 139 yX9_guiltBy wsX9_guiltBy) := goodIn_app (goodIn_of _ (by decide +kernel)) ggX9_guiltOf_X9_guiltBy
set_option maxRecDepth 20000 in
theorem ggX9_guiltyBy_X9_guiltOf : GoodIn wsX9_guiltyBy wsX9_guiltOf := goodIn_r _ [5, 6, 7, 8, 4, 9, 10, 11, 12, 13, 14, 15, 16, 17, 18, 19, 20, 21, 22, 23, 24, 25, 26, 27, 28, 29, 30, 31, 32, 33, 34, 35, 36] (by decide +kernel) (by decide +kernel)
set_option maxRecDepth 20000 in
theorem gX9_guiltyBy_X9_guiltOf : GoodIn wsX9_guiltyBy (wsV RX9 165 RX9 yX9_guiltOf wsX9_guiltOf) := goodIn_app (goodIn_of _ (by decide +kernel)) ggX9_guiltyBy_X9_guiltOf
set_option maxRecDepth 20000 in
theorem ggX9_guilty_X9_isIn : GoodIn wsX9_guilty wsX9_isIn := goodIn_r _ [4] (by decide +kernel) (by decide +kernel)
set_option maxRecDepth 20000 in
theorem gX9_guilty_X9_isIn : GoodIn wsX9_guilty (va_wsS RX9 49 yX9_isIn wsX9_isIn) := goodIn_app (goodIn_of _ (by decide +kernel)) ggX9_guilty_X9_isIn
set_option maxRecDepth 20000 in
theorem ggX9_guilty_X9_guiltyBy : GoodIn wsX9_guilty wsX9_guiltyBy := goodIn_r _ [8, 9, 10, 11, 3, 12, 13, 14, 15, 16, 17, 18, 19, 20, 21, 22, 23, 24, 25, 26, 27, 28, 29, 30, 31, 32, 33, 34, 35, 36, 37, 38, 39, 40, 41, 42, 43] (by decide +kernel) (by decide +kernel)
set_option maxRecDepth 20000 in
theorem gX9_guilty_X9_guiltyBy : GoodIn wsX9_guilty (wsV RX9 168 RX9 yX9_guiltyBy wsX9_guiltyBy) := goodIn_app (goodIn_of _ (by decide +kernel)) ggX9_guilty_X9_guiltyBy
set_option maxRecDepth 20000 in
theorem ggX9_price_X9_isIn : GoodIn wsX9_price wsX9_isIn := goodIn_r _ [4] (by decide +kernel) (by decide +kernel)
set_option maxRecDepth 20000 in
theorem gX9_price_X9_isIn : GoodIn wsX9_price (va_wsS RX9 49 yX9_isIn wsX9_isIn) := goodIn_app (goodIn_of _ (by decide +kernel)) ggX9_price_X9_isIn
set_option maxRecDepth 20000 in
theorem ggX9_price_X9_guiltyBy : GoodIn wsX9_price wsX9_guiltyBy := goodIn_r _ [8, 9, 10, 11, 3, 12, 13, 14, 15, 16, 17, 18, 19, 20, 21, 22, 26, 27, 28, 29, 30, 31, 32, 33, 34, 35, 36, 37, 38, 39, 40, 41, 42, 43, 44, 45, 46] (by decide +kernel) (by decide +kernel)
set_option maxRecDepth 20000 in
theorem gX9_price_X9_guiltyBy : GoodIn wsX9_price (wsV RX9 168 RX9 yX9_guiltyBy wsX9_guiltyBy) := goodIn_app (goodIn_of _ (by decide +kernel)) ggX9_price_X9_guiltyBy
set_option maxRecDepth 20000 in
theorem ggX9_price_X9_bits : GoodIn wsX9_price wsX9_bits := goodIn_r _ [25] (by decide +kernel) (by decide +kernel)
set_option maxRecDepth 20000 in
theorem gX9_price_X9_bits : GoodIn wsX9_price (va_wsS RX9 153 yX9_bits wsX9_bits) := goodIn_app (goodIn_of _ (by decide +kernel)) ggX9_price_X9_bits
set_option maxRecDepth 20000 in
theorem ggX9_wrongDiary_X9_wrongRow : GoodIn wsX9_wrongDiary wsX9_wrongRow := goodIn_r _ [7, 8, 9, 10, 11, 6, 12, 13, 14, 15, 24, 25, 26, 27, 28, 29, 30, 31, 32, 33, 34, 35, 36, 37, 38, 39, 40, 41, 42, 43, 44] (by decide +kernel) (by decide +kernel)
set_option maxRecDepth 20000 in
theorem gX9_wrongDiary_X9_wrongRow : GoodIn wsX9_wrongDiary (wsV RX9 125 RX9 yX9_wrongRow wsX9_wrongRow) := goodIn_app (goodIn_of _ (by decide +kernel)) ggX9_wrongDiary_X9_wrongRow
set_option maxRecDepth 20000 in
theorem ggX9_wrongDiary_X9_isDeed : GoodIn wsX9_wrongDiary wsX9_isDeed := goodIn_r _ [19, 20, 13, 14, 6, 15, 24, 25, 26, 27, 28, 29, 30, 31, 32, 33, 34, 35, 36, 37, 38, 39, 40, 41, 42, 43, 44] (by decide +kernel) (by decide +kernel)
set_option maxRecDepth 20000 in
theorem gX9_wrongDiary_X9_isDeed : GoodIn wsX9_wrongDiary (wsV RX9 122 RX9 yX9_isDeed wsX9_isDeed) := goodIn_app (goodIn_of _ (by decide +kernel)) ggX9_wrongDiary_X9_isDeed
set_option maxRecDepth 20000 in
theorem ggX9_wrongDiary_X9_isDay : GoodIn wsX9_wrongDiary wsX9_isDay := goodIn_r _ [23, 13, 14, 6, 15] (by decide +kernel) (by decide +kernel)
set_option maxRecDepth 20000 in
theorem gX9_wrongDiary_X9_isDay : GoodIn wsX9_wrongDiary (va_wsS RX9 111 yX9_isDay wsX9_isDay) := goodIn_app (goodIn_of _ (by decide +kernel)) ggX9_wrongDiary_X9_isDay
set_option maxRecDepth 20000 in
theorem ggX9_mostTold_X9_toldOften : GoodIn wsX9_mostTold wsX9_toldOften := goodIn_r _ [7, 1, 2, 8, 9, 10, 11, 12, 13, 14, 15, 16, 17, 18, 19, 20, 21, 22, 23, 24, 25, 26, 27, 28] (by decide +kernel) (by decide +kernel)
set_option maxRecDepth 20000 in
theorem gX9_mostTold_X9_toldOften : GoodIn wsX9_mostTold (wsV RX9 171 RX9 yX9_toldOften wsX9_toldOften) := goodIn_app (goodIn_of _ (by decide +kernel)) ggX9_mostTold_X9_toldOften
set_option maxRecDepth 20000 in
theorem ggX9_slips_X9_isIn : GoodIn wsX9_slips wsX9_isIn := goodIn_r _ [7] (by decide +kernel) (by decide +kernel)
set_option maxRecDepth 20000 in
theorem gX9_slips_X9_isIn : GoodIn wsX9_slips (va_wsS RX9 49 yX9_isIn wsX9_isIn) := goodIn_app (goodIn_of _ (by decide +kernel)) ggX9_slips_X9_isIn
set_option maxRecDepth 20000 in
theorem ggX9_slips_X9_wrongDiary : GoodIn wsX9_slips wsX9_wrongDiary := goodIn_r _ [11, 2, 3, 12, 13, 14, 6, 15, 16, 17, 18, 19, 20, 4, 5, 7, 21, 22, 23, 24, 1, 25, 26, 27, 39, 40, 41, 42, 43, 44, 45, 46, 47, 48, 49, 50, 51, 52, 53, 54, 55, 56, 57, 58, 59] (by decide +kernel) (by decide +kernel)
set_option maxRecDepth 20000 in
theorem gX9_slips_X9_wrongDiary : GoodIn wsX9_slips (wsV RX9 175 RX9 yX9_wrongDiary wsX9_wrongDiary) := goodIn_app (goodIn_of _ (by decide +kernel)) ggX9_slips_X9_wrongDiary
set_option maxRecDepth 20000 in
theorem ggX9_slips_X9_toldOften : GoodIn wsX9_slips wsX9_toldOften := goodIn_r _ [31, 2, 3, 39, 40, 41, 42, 43, 44, 45, 46, 47, 48, 49, 50, 51, 52, 53, 54, 55, 56, 57, 58, 59] (by decide +kernel) (by decide +kernel)
set_option maxRecDepth 20000 in
theorem gX9_slips_X9_toldOften : GoodIn wsX9_slips (wsV RX9 171 RX9 yX9_toldOften wsX9_toldOften) := goodIn_app (goodIn_of _ (by decide +kernel)) ggX9_slips_X9_toldOften
set_option maxRecDepth 20000 in
theorem ggX9_slips_X9_mostTold : GoodIn wsX9_slips wsX9_mostTold := goodIn_r _ [35, 2, 3, 28, 29, 30, 6, 31, 39, 40, 41, 42, 43, 44, 45, 46, 47, 48, 49, 50, 51, 52, 53, 54, 55, 56, 57, 58, 59] (by decide +kernel) (by decide +kernel)
set_option maxRecDepth 20000 in
theorem gX9_slips_X9_mostTold : GoodIn wsX9_slips (wsV RX9 178 RX9 yX9_mostTold wsX9_mostTold) := goodIn_app (goodIn_of _ (by decide +kernel)) ggX9_slips_X9_mostTold
set_option maxRecDepth 20000 in
theorem ggX9_slips_X9_of : GoodIn wsX9_slips wsX9_of := goodIn_r _ [38] (by decide +kernel) (by decide +kernel)
set_option maxRecDepth 20000 in
theorem gX9_slips_X9_of : GoodIn wsX9_slips (va_wsS RX9 57 yX9_of wsX9_of) := goodIn_app (goodIn_of _ (by decide +kernel)) ggX9_slips_X9_of
set_option maxRecDepth 20000 in
theorem ggX9_trueDay_X9_isDeed : GoodIn wsX9_trueDay wsX9_isDeed := goodIn_r _ [5, 6, 7, 8, 4, 9, 36, 37, 38, 39, 40, 41, 42, 43, 44, 45, 46, 47, 48, 49, 50, 51, 52, 53, 54, 55, 56] (by decide +kernel) (by decide +kernel)
set_option maxRecDepth 20000 in
theorem gX9_trueDay_X9_isDeed : GoodIn wsX9_trueDay (wsV RX9 122 RX9 yX9_isDeed wsX9_isDeed) := goodIn_app (goodIn_of _ (by decide +kernel)) ggX9_trueDay_X9_isDeed
set_option maxRecDepth 20000 in
theorem ggX9_trueDay_X9_wrongDiary : GoodIn wsX9_trueDay wsX9_wrongDiary := goodIn_r _ [13, 14, 15, 16, 17, 18, 4, 19, 20, 21, 22, 23, 24, 7, 8, 9, 1, 2, 3, 5, 6, 25, 26, 27, 36, 37, 38, 39, 40, 41, 42, 43, 44, 45, 46, 47, 48, 49, 50, 51, 52, 53, 54, 55, 56] (by decide +kernel) (by decide +kernel)
set_option maxRecDepth 20000 in
theorem gX9_trueDay_X9_wrongDiary : GoodIn wsX9_trueDay (wsV RX9 175 RX9 yX9_wrongDiary wsX9_wrongDiary) := goodIn_app (goodIn_of _ (by decide +kernel)) ggX9_trueDay_X9_wrongDiary
set_option maxRecDepth 20000 in
theorem ggX9_trueDay_X9_mostTold : GoodIn wsX9_trueDay wsX9_mostTold := goodIn_r _ [31, 14, 15, 32, 33, 34, 4, 35, 36, 37, 38, 39, 40, 41, 42, 43, 44, 45, 46, 47, 48, 49, 50, 51, 52, 53, 54, 55, 56] (by decide +kernel) (by decide +kernel)
set_option maxRecDepth 20000 in
theorem gX9_trueDay_X9_mostTold : GoodIn wsX9_trueDay (wsV RX9 178 RX9 yX9_mostTold wsX9_mostTold) := goodIn_app (goodIn_of _ (by decide +kernel)) ggX9_trueDay_X9_mostTold
set_option maxRecDepth 20000 in
theorem ggX9_mayBe_X9_isDeed : GoodIn wsX9_mayBe wsX9_isDeed := goodIn_r _ [7, 1, 8, 9, 6, 10, 41, 42, 43, 44, 45, 46, 47, 48, 49, 50, 51, 52, 53, 54, 55, 56, 57, 58, 59, 60, 61] (by decide +kernel) (by decide +kernel)
set_option maxRecDepth 20000 in
theorem gX9_mayBe_X9_isDeed : GoodIn wsX9_mayBe (wsV RX9 122 RX9 yX9_isDeed wsX9_isDeed) := goodIn_app (goodIn_of _ (by decide +kernel)) ggX9_mayBe_X9_isDeed
set_option maxRecDepth 20000 in
theorem ggX9_mayBe_X9_isIn : GoodIn wsX9_mayBe wsX9_isIn := goodIn_r _ [10] (by decide +kernel) (by decide +kernel)
set_option maxRecDepth 20000 in
theorem gX9_mayBe_X9_isIn : GoodIn wsX9_mayBe (va_wsS RX9 49 yX9_isIn wsX9_isIn) := goodIn_app (goodIn_of _ (by decide +kernel)) ggX9_mayBe_X9_isIn
set_option maxRecDepth 20000 in
theorem ggX9_mayBe_X9_whoHas : GoodIn wsX9_mayBe wsX9_whoHas := goodIn_r _ [13, 14, 15, 6, 16, 17, 18, 19, 20, 21, 22, 23, 24, 25, 26, 27, 28, 29, 30, 31, 32, 33, 34] (by decide +kernel) (by decide +kernel)
set_option maxRecDepth 20000 in
theorem gX9_mayBe_X9_whoHas : GoodIn wsX9_mayBe (va_wsS RX9 150 yX9_whoHas wsX9_whoHas) := goodIn_app (goodIn_of _ (by decide +kernel)) ggX9_mayBe_X9_whoHas
set_option maxRecDepth 20000 in
theorem ggX9_mayBe_X9_copies : GoodIn wsX9_mayBe wsX9_copies := goodIn_r _ [37] (by decide +kernel) (by decide +kernel)
set_option maxRecDepth 20000 in
theorem gX9_mayBe_X9_copies : GoodIn wsX9_mayBe (va_wsS RX9 132 yX9_copies wsX9_copies) := goodIn_app (goodIn_of _ (by decide +kernel)) ggX9_mayBe_X9_copies
set_option maxRecDepth 20000 in
theorem ggX9_mayBe_X9_least : GoodIn wsX9_mayBe wsX9_least := goodIn_r _ [40] (by decide +kernel) (by decide +kernel)
set_option maxRecDepth 20000 in
theorem gX9_mayBe_X9_least : GoodIn wsX9_mayBe (va_wsS RX9 181 yX9_least wsX9_least) := goodIn_app (goodIn_of _ (by decide +kernel)) ggX9_mayBe_X9_least
set_option maxRecDepth 20000 in
theorem ggX9_mayBe_X9_of : GoodIn wsX9_mayBe wsX9_of := goodIn_r _ [22] (by decide +kernel) (by decide +kernel)
set_option maxRecDepth 20000 in
theorem gX9_mayBe_X9_of : GoodIn wsX9_mayBe (va_wsS RX9 57 yX9_of wsX9_of) := goodIn_app (goodIn_of _ (by decide +kernel)) ggX9_mayBe_X9_of
set_option maxRecDepth 20000 in
theorem ggX9_law_X9_isIn : GoodIn wsX9_law wsX9_isIn := goodIn_r _ [7] (by decide +kernel) (by decide +kernel)
set_option maxRecDepth 20000 in
theorem gX9_law_X9_isIn : GoodIn wsX9_law (va_wsS RX9 49 yX9_isIn wsX9_isIn) := goodIn_app (goodIn_of _ (by decide +kernel)) ggX9_law_X9_isIn
set_option maxRecDepth 20000 in
theorem ggX9_law_X9_wrongRow : GoodIn wsX9_law wsX9_wrongRow := goodIn_r _ [11, 12, 3, 13, 14, 6, 15, 4, 5, 7, 23, 24, 25, 26, 27, 28, 29, 30, 31, 32, 33, 34, 35, 36, 37, 38, 39, 40, 41, 42, 43] (by decide +kernel) (by decide +kernel)
set_option maxRecDepth 20000 in
theorem gX9_law_X9_wrongRow : GoodIn wsX9_law (wsV RX9 125 RX9 yX9_wrongRow wsX9_wrongRow) := goodIn_app (goodIn_of _ (by decide +kernel)) ggX9_law_X9_wrongRow
set_option maxRecDepth 20000 in
theorem ggX9_law_X9_leastOf : GoodIn wsX9_law wsX9_leastOf := goodIn_r _ [18, 19] (by decide +kernel) (by decide +kernel)
set_option maxRecDepth 20000 in
theorem gX9_law_X9_leastOf : GoodIn wsX9_law (va_wsS RX9 185 yX9_leastOf wsX9_leastOf) := goodIn_app (goodIn_of _ (by decide +kernel)) ggX9_law_X9_leastOf
set_option maxRecDepth 20000 in
theorem ggX9_law_X9_lasts : GoodIn wsX9_law wsX9_lasts := goodIn_r _ [22] (by decide +kernel) (by decide +kernel)
set_option maxRecDepth 20000 in
theorem gX9_law_X9_lasts : GoodIn wsX9_law (va_wsS RX9 53 yX9_lasts wsX9_lasts) := goodIn_app (goodIn_of _ (by decide +kernel)) ggX9_law_X9_lasts
set_option maxRecDepth 20000 in
theorem ggX9_toldWithout_X9_isTold : GoodIn wsX9_toldWithout wsX9_isTold := goodIn_r _ [5, 6, 7, 4, 8] (by decide +kernel) (by decide +kernel)
set_option maxRecDepth 20000 in
theorem gX9_toldWithout_X9_isTold : GoodIn wsX9_toldWithout (va_wsS RX9 67 yX9_isTold wsX9_isTold) := goodIn_app (goodIn_of _ (by decide +kernel)) ggX9_toldWithout_X9_isTold
set_option maxRecDepth 20000 in
theorem ggX9_toldWithout_X9_has : GoodIn wsX9_toldWithout wsX9_has := goodIn_r _ [11] (by decide +kernel) (by decide +kernel)
set_option maxRecDepth 20000 in
theorem gX9_toldWithout_X9_has : GoodIn wsX9_toldWithout (va_wsS RX9 63 yX9_has wsX9_has) := goodIn_app (goodIn_of _ (by decide +kernel)) ggX9_toldWithout_X9_has
set_option maxRecDepth 20000 in
theorem ggX9_toldWithout_X9_sizeOf : GoodIn wsX9_toldWithout wsX9_sizeOf := goodIn_r _ [14, 6, 7, 4, 8, 15, 16, 17] (by decide +kernel) (by decide +kernel)
set_option maxRecDepth 20000 in
theorem gX9_toldWithout_X9_sizeOf : GoodIn wsX9_toldWithout (va_wsS RX9 81 yX9_sizeOf wsX9_sizeOf) := goodIn_app (goodIn_of _ (by decide +kernel)) ggX9_toldWithout_X9_sizeOf
set_option maxRecDepth 20000 in
theorem ggX9_leastInIt_X9_isIn : GoodIn wsX9_leastInIt wsX9_isIn := goodIn_r _ [5] (by decide +kernel) (by decide +kernel)
set_option maxRecDepth 20000 in
theorem gX9_leastInIt_X9_isIn : GoodIn wsX9_leastInIt (va_wsS RX9 49 yX9_isIn wsX9_isIn) := goodIn_app (goodIn_of _ (by decide +kernel)) ggX9_leastInIt_X9_isIn
set_option maxRecDepth 20000 in
theorem ggX9_leastInIt_X9_bits : GoodIn wsX9_leastInIt wsX9_bits := goodIn_r _ [8] (by decide +kernel) (by decide +kernel)
set_option maxRecDepth 20000 in
theorem gX9_leastInIt_X9_bits : GoodIn wsX9_leastInIt (va_wsS RX9 153 yX9_bits wsX9_bits) := goodIn_app (goodIn_of _ (by decide +kernel)) ggX9_leastInIt_X9_bits
set_option maxRecDepth 20000 in
theorem ggX9_leastInIt_X9_toldWithout : GoodIn wsX9_leastInIt wsX9_toldWithout := goodIn_r _ [12, 1, 13, 14, 4, 15, 16, 17, 18, 19, 20, 21, 22, 23, 24, 25, 26, 27, 28, 29, 30, 31, 32, 33, 34, 35, 36, 37, 38, 39, 40, 41, 42, 43, 44, 45, 46, 47, 48] (by decide +kernel) (by decide +kernel)
set_option maxRecDepth 20000 in
theorem gX9_leastInIt_X9_toldWithout : GoodIn wsX9_leastInIt (wsV RX9 188 RX9 yX9_toldWithout wsX9_toldWithout) := goodIn_app (goodIn_of _ (by decide +kernel)) ggX9_leastInIt_X9_toldWithout
set_option maxRecDepth 20000 in
theorem ggX9_robin_X9_isPerson : GoodIn wsX9_robin wsX9_isPerson := goodIn_r _ [5, 6, 7, 4, 8] (by decide +kernel) (by decide +kernel)
set_option maxRecDepth 20000 in
theorem gX9_robin_X9_isPerson : GoodIn wsX9_robin (va_wsS RX9 115 yX9_isPerson wsX9_isPerson) := goodIn_app (goodIn_of _ (by decide +kernel)) ggX9_robin_X9_isPerson
set_option maxRecDepth 20000 in
theorem ggX9_robin_X9_of : GoodIn wsX9_robin wsX9_of := goodIn_r _ [11] (by decide +kernel) (by decide +kernel)
set_option maxRecDepth 20000 in
theorem gX9_robin_X9_of : GoodIn wsX9_robin (va_wsS RX9 57 yX9_of wsX9_of) := goodIn_app (goodIn_of _ (by decide +kernel)) ggX9_robin_X9_of
set_option maxRecDepth 20000 in
theorem ggX9_robin_X9_whoHas : GoodIn wsX9_robin wsX9_whoHas := goodIn_r _ [14, 15, 16, 4, 17, 18, 19, 20, 9, 10, 11, 21, 22, 23, 24, 25, 26, 27, 28, 29, 30, 31, 32] (by decide +kernel) (by decide +kernel)
set_option maxRecDepth 20000 in
theorem gX9_robin_X9_whoHas : GoodIn wsX9_robin (va_wsS RX9 150 yX9_whoHas wsX9_whoHas) := goodIn_app (goodIn_of _ (by decide +kernel)) ggX9_robin_X9_whoHas
set_option maxRecDepth 20000 in
theorem ggX9_robin_X9_bits : GoodIn wsX9_robin wsX9_bits := goodIn_r _ [35] (by decide +kernel) (by decide +kernel)
set_option maxRecDepth 20000 in
theorem gX9_robin_X9_bits : GoodIn wsX9_robin (va_wsS RX9 153 yX9_bits wsX9_bits) := goodIn_app (goodIn_of _ (by decide +kernel)) ggX9_robin_X9_bits
set_option maxRecDepth 20000 in
theorem ggX9_robin_X9_isTold : GoodIn wsX9_robin wsX9_isTold := goodIn_r _ [20, 9, 10, 4, 11] (by decide +kernel) (by decide +kernel)
set_option maxRecDepth 20000 in
theorem gX9_robin_X9_isTold : GoodIn wsX9_robin (va_wsS RX9 67 yX9_isTold wsX9_isTold) := goodIn_app (goodIn_of _ (by decide +kernel)) ggX9_robin_X9_isTold
set_option maxRecDepth 20000 in
theorem ggX9_hasDone_X9_guiltBy : GoodIn wsX9_hasDone wsX9_guiltBy := goodIn_r _ [4] (by decide +kernel) (by decide +kernel)
set_option maxRecDepth 20000 in
theorem gX9_hasDone_X9_guiltBy : GoodIn wsX9_hasDone (va_wsS RX9 139 yX9_guiltBy wsX9_guiltBy) := goodIn_app (goodIn_of _ (by decide +kernel)) ggX9_hasDone_X9_guiltBy
set_option maxRecDepth 20000 in
theorem ggX9_two_X9_isIn : GoodIn wsX9_two wsX9_isIn := goodIn_r _ [4] (by decide +kernel) (by decide +kernel)
set_option maxRecDepth 20000 in
theorem gX9_two_X9_isIn : GoodIn wsX9_two (va_wsS RX9 49 yX9_isIn wsX9_isIn) := goodIn_app (goodIn_of _ (by decide +kernel)) ggX9_two_X9_isIn
set_option maxRecDepth 20000 in
theorem ggX9_two_X9_hasDone : GoodIn wsX9_two wsX9_hasDone := goodIn_r _ [7, 8, 9, 3, 10] (by decide +kernel) (by decide +kernel)
set_option maxRecDepth 20000 in
theorem gX9_two_X9_hasDone : GoodIn wsX9_two (va_wsS RX9 191 yX9_hasDone wsX9_hasDone) := goodIn_app (goodIn_of _ (by decide +kernel)) ggX9_two_X9_hasDone
set_option maxRecDepth 20000 in
theorem ggX9_partOf_X9_gcd : GoodIn wsX9_partOf wsX9_gcd := goodIn_r _ [4] (by decide +kernel) (by decide +kernel)
set_option maxRecDepth 20000 in
theorem gX9_partOf_X9_gcd : GoodIn wsX9_partOf (va_wsS RX9 194 yX9_gcd wsX9_gcd) := goodIn_app (goodIn_of _ (by decide +kernel)) ggX9_partOf_X9_gcd
set_option maxRecDepth 20000 in
theorem ggX9_chance_X9_isIn : GoodIn wsX9_chance wsX9_isIn := goodIn_r _ [5] (by decide +kernel) (by decide +kernel)
set_option maxRecDepth 20000 in
theorem gX9_chance_X9_isIn : GoodIn wsX9_chance (va_wsS RX9 49 yX9_isIn wsX9_isIn) := goodIn_app (goodIn_of _ (by decide +kernel)) ggX9_chance_X9_isIn
set_option maxRecDepth 20000 in
theorem ggX9_chance_X9_bits : GoodIn wsX9_chance wsX9_bits := goodIn_r _ [8] (by decide +kernel) (by decide +kernel)
set_option maxRecDepth 20000 in
theorem gX9_chance_X9_bits : GoodIn wsX9_chance (va_wsS RX9 153 yX9_bits wsX9_bits) := goodIn_app (goodIn_of _ (by decide +kernel)) ggX9_chance_X9_bits
set_option maxRecDepth 20000 in
theorem ggX9_chance_X9_partOf : GoodIn wsX9_chance wsX9_partOf := goodIn_r _ [11, 12, 13, 4, 14] (by decide +kernel) (by decide +kernel)
set_option maxRecDepth 20000 in
theorem gX9_chance_X9_partOf : GoodIn wsX9_chance (va_wsS RX9 200 yX9_partOf wsX9_partOf) := goodIn_app (goodIn_of _ (by decide +kernel)) ggX9_chance_X9_partOf
set_option maxRecDepth 20000 in
theorem ggX9_manyTold_X9_isTold : GoodIn wsX9_manyTold wsX9_isTold := goodIn_r _ [5, 6, 7, 4, 8] (by decide +kernel) (by decide +kernel)
set_option maxRecDepth 20000 in
theorem gX9_manyTold_X9_isTold : GoodIn wsX9_manyTold (va_wsS RX9 67 yX9_isTold wsX9_isTold) := goodIn_app (goodIn_of _ (by decide +kernel)) ggX9_manyTold_X9_isTold
set_option maxRecDepth 20000 in
theorem ggX9_mean_X9_isIn : GoodIn wsX9_mean wsX9_isIn := goodIn_r _ [5] (by decide +kernel) (by decide +kernel)
set_option maxRecDepth 20000 in
theorem gX9_mean_X9_isIn : GoodIn wsX9_mean (va_wsS RX9 49 yX9_isIn wsX9_isIn) := goodIn_app (goodIn_of _ (by decide +kernel)) ggX9_mean_X9_isIn
set_option maxRecDepth 20000 in
theorem ggX9_mean_X9_toldWithout : GoodIn wsX9_mean wsX9_toldWithout := goodIn_r _ [9, 10, 11, 12, 4, 13, 14, 15, 16, 17, 18, 19, 20, 21, 22, 23, 24, 25, 36, 37, 38, 39, 40, 41, 42, 43, 44, 45, 46, 47, 48, 49, 50, 51, 52, 53, 54, 55, 56] (by decide +kernel) (by decide +kernel)
set_option maxRecDepth 20000 in
theorem gX9_mean_X9_toldWithout : GoodIn wsX9_mean (wsV RX9 188 RX9 yX9_toldWithout wsX9_toldWithout) := goodIn_app (goodIn_of _ (by decide +kernel)) ggX9_mean_X9_toldWithout
set_option maxRecDepth 20000 in
theorem ggX9_mean_X9_manyTold : GoodIn wsX9_mean wsX9_manyTold := goodIn_r _ [29, 10, 11, 12, 4, 13, 14, 15, 16, 36, 37, 38, 39, 40, 41, 42, 43, 44, 45, 46, 47, 48, 49, 50, 51, 52, 53, 54, 55, 56] (by decide +kernel) (by decide +kernel)
set_option maxRecDepth 20000 in
theorem gX9_mean_X9_manyTold : GoodIn wsX9_mean (wsV RX9 204 RX9 yX9_manyTold wsX9_manyTold) := goodIn_app (goodIn_of _ (by decide +kernel)) ggX9_mean_X9_manyTold
set_option maxRecDepth 20000 in
theorem ggX9_mean_X9_partOf : GoodIn wsX9_mean wsX9_partOf := goodIn_r _ [32, 33, 34, 4, 35] (by decide +kernel) (by decide +kernel)
set_option maxRecDepth 20000 in
theorem gX9_mean_X9_partOf : GoodIn wsX9_mean (va_wsS RX9 200 yX9_partOf wsX9_partOf) := goodIn_app (goodIn_of _ (by decide +kernel)) ggX9_mean_X9_partOf
set_option maxRecDepth 20000 in
theorem ggX9_gap_X9_isIn : GoodIn wsX9_gap wsX9_isIn := goodIn_r _ [5] (by decide +kernel) (by decide +kernel)
set_option maxRecDepth 20000 in
theorem gX9_gap_X9_isIn : GoodIn wsX9_gap (va_wsS RX9 49 yX9_isIn wsX9_isIn) := goodIn_app (goodIn_of _ (by decide +kernel)) ggX9_gap_X9_isIn
set_option maxRecDepth 20000 in
theorem ggX9_gap_X9_least : GoodIn wsX9_gap wsX9_least := goodIn_r _ [8] (by decide +kernel) (by decide +kernel)
set_option maxRecDepth 20000 in
theorem gX9_gap_X9_least : GoodIn wsX9_gap (va_wsS RX9 181 yX9_least wsX9_least) := goodIn_app (goodIn_of _ (by decide +kernel)) ggX9_gap_X9_least
set_option maxRecDepth 20000 in
theorem ggX9_gap_X9_of : GoodIn wsX9_gap wsX9_of := goodIn_r _ [11] (by decide +kernel) (by decide +kernel)
set_option maxRecDepth 20000 in
theorem gX9_gap_X9_of : GoodIn wsX9_gap (va_wsS RX9 57 yX9_of wsX9_of) := goodIn_app (goodIn_of _ (by decide +kernel)) ggX9_gap_X9_of
set_option maxRecDepth 20000 in
theorem ggX9_quarrel_X9_wasThere : GoodIn wsX9_quarrel wsX9_wasThere := goodIn_r _ [5, 6, 7, 4, 8, 9, 10, 11] (by decide +kernel) (by decide +kernel)
set_option maxRecDepth 20000 in
theorem gX9_quarrel_X9_wasThere : GoodIn wsX9_quarrel (va_wsS RX9 71 yX9_wasThere wsX9_wasThere) := goodIn_app (goodIn_of _ (by decide +kernel)) ggX9_quarrel_X9_wasThere
set_option maxRecDepth 20000 in
theorem ggX9_quarrel_X9_hasIt : GoodIn wsX9_quarrel wsX9_hasIt := goodIn_r _ [14, 15, 16, 4, 17, 6, 7, 8, 2, 3, 5, 9, 10, 11, 18, 19, 20, 21, 22, 23] (by decide +kernel) (by decide +kernel)
set_option maxRecDepth 20000 in
theorem gX9_quarrel_X9_hasIt : GoodIn wsX9_quarrel (va_wsS RX9 78 yX9_hasIt wsX9_hasIt) := goodIn_app (goodIn_of _ (by decide +kernel)) ggX9_quarrel_X9_hasIt
set_option maxRecDepth 20000 in
theorem ggX9_forged_X9_wrongRow : GoodIn wsX9_forged wsX9_wrongRow := goodIn_r _ [9, 10, 11, 12, 13, 8, 14, 15, 16, 17, 41, 42, 43, 44, 45, 46, 47, 48, 49, 50, 51, 52, 53, 54, 55, 56, 57, 58, 59, 60, 61] (by decide +kernel) (by decide +kernel)
set_option maxRecDepth 20000 in
theorem gX9_forged_X9_wrongRow : GoodIn wsX9_forged (wsV RX9 125 RX9 yX9_wrongRow wsX9_wrongRow) := goodIn_app (goodIn_of _ (by decide +kernel)) ggX9_forged_X9_wrongRow
set_option maxRecDepth 20000 in
theorem ggX9_forged_X9_prints : GoodIn wsX9_forged wsX9_prints := goodIn_r _ [21, 2, 22, 4, 23, 24, 25, 26, 8, 27, 28, 29, 30, 31, 32, 33, 34, 35, 36, 37, 38, 39, 40, 41, 42, 43, 44, 45, 46, 47, 48, 49, 50, 51, 52, 53, 54, 55, 56, 57, 58, 59, 60, 61] (by decide +kernel) (by decide +kernel)
set_option maxRecDepth 20000 in
theorem gX9_forged_X9_prints : GoodIn wsX9_forged (wsV RX9 159 RX9 yX9_prints wsX9_prints) := goodIn_app (goodIn_of _ (by decide +kernel)) ggX9_forged_X9_prints
set_option maxRecDepth 20000 in
theorem ggX9_judge_X9_isPerson : GoodIn wsX9_judge wsX9_isPerson := goodIn_r _ [9, 10, 11, 8, 12] (by decide +kernel) (by decide +kernel)
set_option maxRecDepth 20000 in
theorem gX9_judge_X9_isPerson : GoodIn wsX9_judge (va_wsS RX9 115 yX9_isPerson wsX9_isPerson) := goodIn_app (goodIn_of _ (by decide +kernel)) ggX9_judge_X9_isPerson
set_option maxRecDepth 20000 in
theorem ggX9_judge_X9_wrongRow : GoodIn wsX9_judge wsX9_wrongRow := goodIn_r _ [16, 17, 5, 18, 19, 8, 20, 10, 11, 12, 58, 59, 60, 61, 62, 63, 64, 65, 66, 67, 68, 69, 70, 71, 72, 73, 74, 75, 76, 77, 78] (by decide +kernel) (by decide +kernel)
set_option maxRecDepth 20000 in
theorem gX9_judge_X9_wrongRow : GoodIn wsX9_judge (wsV RX9 125 RX9 yX9_wrongRow wsX9_wrongRow) := goodIn_app (goodIn_of _ (by decide +kernel)) ggX9_judge_X9_wrongRow
set_option maxRecDepth 20000 in
theorem ggX9_judge_X9_copies : GoodIn wsX9_judge wsX9_copies := goodIn_r _ [23] (by decide +kernel) (by decide +kernel)
set_option maxRecDepth 20000 in
theorem gX9_judge_X9_copies : GoodIn wsX9_judge (va_wsS RX9 132 yX9_copies wsX9_copies) := goodIn_app (goodIn_of _ (by decide +kernel)) ggX9_judge_X9_copies
set_option maxRecDepth 20000 in
theorem ggX9_judge_X9_least : GoodIn wsX9_judge wsX9_least := goodIn_r _ [26] (by decide +kernel) (by decide +kernel)
set_option maxRecDepth 20000 in
theorem gX9_judge_X9_least : GoodIn wsX9_judge (va_wsS RX9 181 yX9_least wsX9_least) := goodIn_app (goodIn_of _ (by decide +kernel)) ggX9_judge_X9_least
set_option maxRecDepth 20000 in
theorem ggX9_judge_X9_leastOf : GoodIn wsX9_judge wsX9_leastOf := goodIn_r _ [29, 30] (by decide +kernel) (by decide +kernel)
set_option maxRecDepth 20000 in
theorem gX9_judge_X9_leastOf : GoodIn wsX9_judge (va_wsS RX9 185 yX9_leastOf wsX9_leastOf) := goodIn_app (goodIn_of _ (by decide +kernel)) ggX9_judge_X9_leastOf
set_option maxRecDepth 20000 in
theorem ggX9_judge_X9_knowsIn : GoodIn wsX9_judge wsX9_knowsIn := goodIn_r _ [33, 34, 35, 8, 36, 37, 38, 39, 40, 41, 42, 43, 44, 45, 46, 47, 48, 49, 50, 51, 52, 53, 54] (by decide +kernel) (by decide +kernel)
set_option maxRecDepth 20000 in
theorem gX9_judge_X9_knowsIn : GoodIn wsX9_judge (va_wsS RX9 147 yX9_knowsIn wsX9_knowsIn) := goodIn_app (goodIn_of _ (by decide +kernel)) ggX9_judge_X9_knowsIn
set_option maxRecDepth 20000 in
theorem ggX9_judge_X9_bits : GoodIn wsX9_judge wsX9_bits := goodIn_r _ [57] (by decide +kernel) (by decide +kernel)
set_option maxRecDepth 20000 in
theorem gX9_judge_X9_bits : GoodIn wsX9_judge (va_wsS RX9 153 yX9_bits wsX9_bits) := goodIn_app (goodIn_of _ (by decide +kernel)) ggX9_judge_X9_bits
set_option maxRecDepth 20000 in
theorem ggX9_years_X9_isIn : GoodIn wsX9_years wsX9_isIn := goodIn_r _ [6] (by decide +kernel) (by decide +kernel)
set_option maxRecDepth 20000 in
theorem gX9_years_X9_isIn : GoodIn wsX9_years (va_wsS RX9 49 yX9_isIn wsX9_isIn) := goodIn_app (goodIn_of _ (by decide +kernel)) ggX9_years_X9_isIn
set_option maxRecDepth 20000 in
theorem ggX9_years_X9_drawn : GoodIn wsX9_years wsX9_drawn := goodIn_r _ [10, 1, 11, 12, 13, 47, 48, 49, 50, 51, 52, 53, 54, 55, 56, 57, 58, 59, 60, 61, 62, 63, 64, 65, 66, 67] (by decide +kernel) (by decide +kernel)
set_option maxRecDepth 20000 in
theorem gX9_years_X9_drawn : GoodIn wsX9_years (wsV RX9 213 RX9 yX9_drawn wsX9_drawn) := goodIn_app (goodIn_of _ (by decide +kernel)) ggX9_years_X9_drawn
set_option maxRecDepth 20000 in
theorem ggX9_years_X9_adds : GoodIn wsX9_years wsX9_adds := goodIn_r _ [16, 17, 18, 5, 19] (by decide +kernel) (by decide +kernel)
set_option maxRecDepth 20000 in
theorem gX9_years_X9_adds : GoodIn wsX9_years (va_wsS RX9 118 yX9_adds wsX9_adds) := goodIn_app (goodIn_of _ (by decide +kernel)) ggX9_years_X9_adds
set_option maxRecDepth 20000 in
theorem ggX9_years_X9_whoHas : GoodIn wsX9_years wsX9_whoHas := goodIn_r _ [22, 23, 24, 5, 25, 26, 27, 28, 17, 18, 19, 29, 30, 31, 32, 33, 34, 35, 36, 37, 38, 39, 40] (by decide +kernel) (by decide +kernel)
set_option maxRecDepth 20000 in
theorem gX9_years_X9_whoHas : GoodIn wsX9_years (va_wsS RX9 150 yX9_whoHas wsX9_whoHas) := goodIn_app (goodIn_of _ (by decide +kernel)) ggX9_years_X9_whoHas
set_option maxRecDepth 20000 in
theorem ggX9_years_X9_sizeOf : GoodIn wsX9_years wsX9_sizeOf := goodIn_r _ [43, 17, 18, 5, 19, 44, 45, 46] (by decide +kernel) (by decide +kernel)
set_option maxRecDepth 20000 in
theorem gX9_years_X9_sizeOf : GoodIn wsX9_years (va_wsS RX9 81 yX9_sizeOf wsX9_sizeOf) := goodIn_app (goodIn_of _ (by decide +kernel)) ggX9_years_X9_sizeOf
set_option maxRecDepth 20000 in
theorem ggX9_image_X9_copies : GoodIn wsX9_image wsX9_copies := goodIn_r _ [7] (by decide +kernel) (by decide +kernel)
set_option maxRecDepth 20000 in
theorem gX9_image_X9_copies : GoodIn wsX9_image (va_wsS RX9 132 yX9_copies wsX9_copies) := goodIn_app (goodIn_of _ (by decide +kernel)) ggX9_image_X9_copies
set_option maxRecDepth 20000 in
theorem ggX9_restore_X9_copies : GoodIn wsX9_restore wsX9_copies := goodIn_r _ [7] (by decide +kernel) (by decide +kernel)
set_option maxRecDepth 20000 in
theorem gX9_restore_X9_copies : GoodIn wsX9_restore (va_wsS RX9 132 yX9_copies wsX9_copies) := goodIn_app (goodIn_of _ (by decide +kernel)) ggX9_restore_X9_copies
set_option maxRecDepth 20000 in
theorem ggX9_count_X9_isIn : GoodIn wsX9_count wsX9_isIn := goodIn_r _ [5] (by decide +kernel) (by decide +kernel)
set_option maxRecDepth 20000 in
theorem gX9_count_X9_isIn : GoodIn wsX9_count (va_wsS RX9 49 yX9_isIn wsX9_isIn) := goodIn_app (goodIn_of _ (by decide +kernel)) ggX9_count_X9_isIn
set_option maxRecDepth 20000 in
theorem ggX9_count_X9_toldWithout : GoodIn wsX9_count wsX9_toldWithout := goodIn_r _ [9, 1, 10, 11, 4, 12, 13, 14, 15, 16, 17, 18, 19, 20, 21, 22, 23, 24, 35, 36, 37, 38, 39, 40, 41, 42, 43, 44, 45, 46, 47, 48, 49, 50, 51, 52, 53, 54, 55] (by decide +kernel) (by decide +kernel)
set_option maxRecDepth 20000 in
theorem gX9_count_X9_toldWithout : GoodIn wsX9_count (wsV RX9 188 RX9 yX9_toldWithout wsX9_toldWithout) := goodIn_app (goodIn_of _ (by decide +kernel)) ggX9_count_X9_toldWithout
set_option maxRecDepth 20000 in
theorem ggX9_count_X9_manyTold : GoodIn wsX9_count wsX9_manyTold := goodIn_r _ [28, 1, 10, 11, 4, 12, 13, 14, 15, 35, 36, 37, 38, 39, 40, 41, 42, 43, 44, 45, 46, 47, 48, 49, 50, 51, 52, 53, 54, 55] (by decide +kernel) (by decide +kernel)
set_option maxRecDepth 20000 in
theorem gX9_count_X9_manyTold : GoodIn wsX9_count (wsV RX9 204 RX9 yX9_manyTold wsX9_manyTold) := goodIn_app (goodIn_of _ (by decide +kernel)) ggX9_count_X9_manyTold
set_option maxRecDepth 20000 in
theorem ggX9_count_X9_of : GoodIn wsX9_count wsX9_of := goodIn_r _ [15] (by decide +kernel) (by decide +kernel)
set_option maxRecDepth 20000 in
theorem gX9_count_X9_of : GoodIn wsX9_count (va_wsS RX9 57 yX9_of wsX9_of) := goodIn_app (goodIn_of _ (by decide +kernel)) ggX9_count_X9_of
set_option maxRecDepth 20000 in
theorem ggX9_count_X9_lasts : GoodIn wsX9_count wsX9_lasts := goodIn_r _ [31] (by decide +kernel) (by decide +kernel)
set_option maxRecDepth 20000 in
theorem gX9_count_X9_lasts : GoodIn wsX9_count (va_wsS RX9 53 yX9_lasts wsX9_lasts) := goodIn_app (goodIn_of _ (by decide +kernel)) ggX9_count_X9_lasts
set_option maxRecDepth 20000 in
theorem ggX9_count_X9_bits : GoodIn wsX9_count wsX9_bits := goodIn_r _ [34] (by decide +kernel) (by decide +kernel)
set_option maxRecDepth 20000 in
theorem gX9_count_X9_bits : GoodIn wsX9_count (va_wsS RX9 153 yX9_bits wsX9_bits) := goodIn_app (goodIn_of _ (by decide +kernel)) ggX9_count_X9_bits
set_option maxRecDepth 20000 in
theorem ggX9_isShelf_X9_isIn : GoodIn wsX9_isShelf wsX9_isIn := goodIn_r _ [4] (by decide +kernel) (by decide +kernel)
set_option maxRecDepth 20000 in
theorem gX9_isShelf_X9_isIn : GoodIn wsX9_isShelf (va_wsS RX9 49 yX9_isIn wsX9_isIn) := goodIn_app (goodIn_of _ (by decide +kernel)) ggX9_isShelf_X9_isIn
set_option maxRecDepth 20000 in
theorem ggX9_wrongRow_X9_isShelf : GoodIn wsX9_wrongRow wsX9_isShelf := goodIn_r _ [6, 7, 8, 5, 9] (by decide +kernel) (by decide +kernel)
set_option maxRecDepth 20000 in
theorem gX9_wrongRow_X9_isShelf : GoodIn wsX9_wrongRow (va_wsS RX9 223 yX9_isShelf wsX9_isShelf) := goodIn_app (goodIn_of _ (by decide +kernel)) ggX9_wrongRow_X9_isShelf
set_option maxRecDepth 20000 in
theorem ggX9_wrongKept_X9_isShelf : GoodIn wsX9_wrongKept wsX9_isShelf := goodIn_r _ [5, 6, 7, 4, 8] (by decide +kernel) (by decide +kernel)
set_option maxRecDepth 20000 in
theorem gX9_wrongKept_X9_isShelf : GoodIn wsX9_wrongKept (va_wsS RX9 223 yX9_isShelf wsX9_isShelf) := goodIn_app (goodIn_of _ (by decide +kernel)) ggX9_wrongKept_X9_isShelf
set_option maxRecDepth 20000 in
theorem ggX9_keep_X9_isShelf : GoodIn wsX9_keep wsX9_isShelf := goodIn_r _ [7, 8, 9, 6, 10] (by decide +kernel) (by decide +kernel)
set_option maxRecDepth 20000 in
theorem gX9_keep_X9_isShelf : GoodIn wsX9_keep (va_wsS RX9 223 yX9_isShelf wsX9_isShelf) := goodIn_app (goodIn_of _ (by decide +kernel)) ggX9_keep_X9_isShelf
set_option maxRecDepth 20000 in
theorem ggX9_keep_X9_isIn : GoodIn wsX9_keep wsX9_isIn := goodIn_r _ [10] (by decide +kernel) (by decide +kernel)
set_option maxRecDepth 20000 in
theorem gX9_keep_X9_isIn : GoodIn wsX9_keep (va_wsS RX9 49 yX9_isIn wsX9_isIn) := goodIn_app (goodIn_of _ (by decide +kernel)) ggX9_keep_X9_isIn
set_option maxRecDepth 20000 in
theorem ggX9_row_X9_isShelf : GoodIn wsX9_row wsX9_isShelf := goodIn_r _ [8, 9, 10, 7, 11] (by decide +kernel) (by decide +kernel)
set_option maxRecDepth 20000 in
theorem gX9_row_X9_isShelf : GoodIn wsX9_row (va_wsS RX9 223 yX9_isShelf wsX9_isShelf) := goodIn_app (goodIn_of _ (by decide +kernel)) ggX9_row_X9_isShelf
set_option maxRecDepth 20000 in
theorem ggX9_row_X9_isIn : GoodIn wsX9_row wsX9_isIn := goodIn_r _ [11] (by decide +kernel) (by decide +kernel)
set_option maxRecDepth 20000 in
theorem gX9_row_X9_isIn : GoodIn wsX9_row (va_wsS RX9 49 yX9_isIn wsX9_isIn) := goodIn_app (goodIn_of _ (by decide +kernel)) ggX9_row_X9_isIn
set_option maxRecDepth 20000 in
theorem ggX9_put_X9_wrongRow : GoodIn wsX9_put wsX9_wrongRow := goodIn_r _ [8, 9, 3, 10, 11, 7, 12, 13, 14, 15, 16, 17, 18, 19, 20, 21, 22, 23, 24, 25, 26, 27, 28, 29, 30, 31, 32, 33, 34, 35, 36] (by decide +kernel) (by decide +kernel)
set_option maxRecDepth 20000 in
theorem gX9_put_X9_wrongRow : GoodIn wsX9_put (wsV RX9 125 RX9 yX9_wrongRow wsX9_wrongRow) := goodIn_app (goodIn_of _ (by decide +kernel)) ggX9_put_X9_wrongRow
set_option maxRecDepth 20000 in
theorem ggX9_put_X9_isIn : GoodIn wsX9_put wsX9_isIn := goodIn_r _ [15] (by decide +kernel) (by decide +kernel)
set_option maxRecDepth 20000 in
theorem gX9_put_X9_isIn : GoodIn wsX9_put (va_wsS RX9 49 yX9_isIn wsX9_isIn) := goodIn_app (goodIn_of _ (by decide +kernel)) ggX9_put_X9_isIn
set_option maxRecDepth 20000 in
theorem ggX9_element_X9_isShelf : GoodIn wsX9_element wsX9_isShelf := goodIn_r _ [8, 9, 10, 7, 11] (by decide +kernel) (by decide +kernel)
set_option maxRecDepth 20000 in
theorem gX9_element_X9_isShelf : GoodIn wsX9_element (va_wsS RX9 223 yX9_isShelf wsX9_isShelf) := goodIn_app (goodIn_of _ (by decide +kernel)) ggX9_element_X9_isShelf
set_option maxRecDepth 20000 in
theorem ggX9_element_X9_isIn : GoodIn wsX9_element wsX9_isIn := goodIn_r _ [11] (by decide +kernel) (by decide +kernel)
set_option maxRecDepth 20000 in
theorem gX9_element_X9_isIn : GoodIn wsX9_element (va_wsS RX9 49 yX9_isIn wsX9_isIn) := goodIn_app (goodIn_of _ (by decide +kernel)) ggX9_element_X9_isIn
set_option maxRecDepth 20000 in
theorem ggX9_copy_X9_isShelf : GoodIn wsX9_copy wsX9_isShelf := goodIn_r _ [8, 9, 10, 7, 11] (by decide +kernel) (by decide +kernel)
set_option maxRecDepth 20000 in
theorem gX9_copy_X9_isShelf : GoodIn wsX9_copy (va_wsS RX9 223 yX9_isShelf wsX9_isShelf) := goodIn_app (goodIn_of _ (by decide +kernel)) ggX9_copy_X9_isShelf
set_option maxRecDepth 20000 in
theorem ggX9_cost_X9_wrongKept : GoodIn wsX9_cost wsX9_wrongKept := goodIn_r _ [7, 8, 9, 10, 6, 11, 12, 13, 14, 18, 19, 20, 21, 22, 23, 24, 25, 26, 27, 28, 29, 30, 31, 32, 33, 34, 35, 36, 37, 38] (by decide +kernel) (by decide +kernel)
set_option maxRecDepth 20000 in
theorem gX9_cost_X9_wrongKept : GoodIn wsX9_cost (wsV RX9 143 RX9 yX9_wrongKept wsX9_wrongKept) := goodIn_app (goodIn_of _ (by decide +kernel)) ggX9_cost_X9_wrongKept
set_option maxRecDepth 20000 in
theorem ggX9_cost_X9_costBy : GoodIn wsX9_cost wsX9_costBy := goodIn_r _ [17] (by decide +kernel) (by decide +kernel)
set_option maxRecDepth 20000 in
theorem gX9_cost_X9_costBy : GoodIn wsX9_cost (va_wsS RX9 226 yX9_costBy wsX9_costBy) := goodIn_app (goodIn_of _ (by decide +kernel)) ggX9_cost_X9_costBy
set_option maxRecDepth 20000 in
theorem ggX9_toss_X9_wrongKept : GoodIn wsX9_toss wsX9_wrongKept := goodIn_r _ [7, 8, 9, 10, 6, 11, 12, 13, 14, 18, 19, 20, 21, 22, 23, 24, 25, 26, 27, 28, 29, 30, 31, 32, 33, 34, 35, 36, 37, 38] (by decide +kernel) (by decide +kernel)
set_option maxRecDepth 20000 in
theorem gX9_toss_X9_wrongKept : GoodIn wsX9_toss (wsV RX9 143 RX9 yX9_wrongKept wsX9_wrongKept) := goodIn_app (goodIn_of _ (by decide +kernel)) ggX9_toss_X9_wrongKept
set_option maxRecDepth 20000 in
theorem ggX9_toss_X9_costBy : GoodIn wsX9_toss wsX9_costBy := goodIn_r _ [17] (by decide +kernel) (by decide +kernel)
set_option maxRecDepth 20000 in
theorem gX9_toss_X9_costBy : GoodIn wsX9_toss (va_wsS RX9 226 yX9_costBy wsX9_costBy) := goodIn_app (goodIn_of _ (by decide +kernel)) ggX9_toss_X9_costBy
