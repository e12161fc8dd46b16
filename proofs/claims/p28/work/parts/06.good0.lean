set_option maxRecDepth 20000 in
theorem ggX0_layOut_X2_init : GoodIn wsX0_layOut wsX2_init := goodIn_r _ [14, 15, 16, 17, 18, 19, 20, 21, 22, 23, 31, 32, 33, 34, 35] (by decide +kernel) (by decide +kernel)
set_option maxRecDepth 20000 in
theorem gX0_layOut_X2_init : GoodIn wsX0_layOut (wsX2_init) := ggX0_layOut_X2_init
set_option maxRecDepth 20000 in
theorem ggX0_layOut_X0_keepPosition : GoodIn wsX0_layOut wsX0_keepPosition := goodIn_r _ [28, 5, 29, 30, 8, 9, 36, 37, 38, 39, 40, 41, 42, 43, 44, 45, 46] (by decide +kernel) (by decide +kernel)
set_option maxRecDepth 20000 in
theorem gX0_layOut_X0_keepPosition : GoodIn wsX0_layOut (wsV RX0 50 RX0 yX0_keepPosition wsX0_keepPosition) := goodIn_app (goodIn_of _ (by decide +kernel)) ggX0_layOut_X0_keepPosition
set_option maxRecDepth 20000 in
theorem ggX0_groupsOf_X0_stonesOf : GoodIn wsX0_groupsOf wsX0_stonesOf := goodIn_r _ [6, 7, 8, 27, 28, 29, 30, 31, 32, 33, 34, 35, 36, 37] (by decide +kernel) (by decide +kernel)
set_option maxRecDepth 20000 in
theorem gX0_groupsOf_X0_stonesOf : GoodIn wsX0_groupsOf (wsV RX0 56 RX0 yX0_stonesOf wsX0_stonesOf) := goodIn_app (goodIn_of _ (by decide +kernel)) ggX0_groupsOf_X0_stonesOf
set_option maxRecDepth 20000 in
theorem ggX0_groupsOf_X2_groups : GoodIn wsX0_groupsOf wsX2_groups := goodIn_r _ [13, 14, 15, 16, 17, 12, 18, 19, 20, 21, 22, 23, 24, 25, 26, 38, 39, 40, 41, 42] (by decide +kernel) (by decide +kernel)
set_option maxRecDepth 20000 in
theorem gX0_groupsOf_X2_groups : GoodIn wsX0_groupsOf (wsV RX0 60 RX2 yX2_groups wsX2_groups) := goodIn_app (goodIn_of _ (by decide +kernel)) ggX0_groupsOf_X2_groups
set_option maxRecDepth 20000 in
theorem ggX0_groupsWithOneLiberty_X2_groupsWithOneLiberty : GoodIn wsX0_groupsWithOneLiberty wsX2_groupsWithOneLiberty := goodIn_r _ [8, 9, 10, 11, 12, 7, 13, 14, 15, 16, 17, 18, 19, 20, 21, 22, 23, 24, 25, 26, 27, 28, 29, 30, 31, 32, 44, 45, 46, 47, 48] (by decide +kernel) (by decide +kernel)
set_option maxRecDepth 20000 in
theorem gX0_groupsWithOneLiberty_X2_groupsWithOneLiberty : GoodIn wsX0_groupsWithOneLiberty (wsV RX0 64 RX2 yX2_groupsWithOneLiberty wsX2_groupsWithOneLiberty) := goodIn_app (goodIn_of _ (by decide +kernel)) ggX0_groupsWithOneLiberty_X2_groupsWithOneLiberty
set_option maxRecDepth 20000 in
theorem ggX0_areaOf_X0_stonesOf : GoodIn wsX0_areaOf wsX0_stonesOf := goodIn_r _ [6, 7, 8, 34, 35, 36, 37, 38, 39, 40, 41, 42, 43, 44] (by decide +kernel) (by decide +kernel)
set_option maxRecDepth 20000 in
theorem gX0_areaOf_X0_stonesOf : GoodIn wsX0_areaOf (wsV RX0 56 RX0 yX0_stonesOf wsX0_stonesOf) := goodIn_app (goodIn_of _ (by decide +kernel)) ggX0_areaOf_X0_stonesOf
set_option maxRecDepth 20000 in
theorem ggX0_areaOf_J13_bitCount_95d88 : GoodIn wsX0_areaOf wsJ13_bitCount_95d88 := goodIn_r _ [12, 13, 14, 15] (by decide +kernel) (by decide +kernel)
set_option maxRecDepth 20000 in
theorem gX0_areaOf_J13_bitCount_95d88 : GoodIn wsX0_areaOf (va_wsS RX0 68 yJ13_bitCount_95d88 wsJ13_bitCount_95d88) := goodIn_app (goodIn_of _ (by decide +kernel)) ggX0_areaOf_J13_bitCount_95d88
set_option maxRecDepth 20000 in
theorem ggX0_areaOf_X2_enclosed : GoodIn wsX0_areaOf wsX2_enclosed := goodIn_r _ [20, 21, 22, 23, 24, 25, 19, 26, 27, 28, 29, 30, 31, 32, 33, 45, 46, 47, 48, 49] (by decide +kernel) (by decide +kernel)
set_option maxRecDepth 20000 in
theorem gX0_areaOf_X2_enclosed : GoodIn wsX0_areaOf (wsV RX0 73 RX2 yX2_enclosed wsX2_enclosed) := goodIn_app (goodIn_of _ (by decide +kernel)) ggX0_areaOf_X2_enclosed
set_option maxRecDepth 20000 in
theorem ggX0_falseEyes_X0_stonesOf : GoodIn wsX0_falseEyes wsX0_stonesOf := goodIn_r _ [6, 7, 8, 38, 39, 40, 41, 42, 43, 44, 45, 46, 47, 48] (by decide +kernel) (by decide +kernel)
set_option maxRecDepth 20000 in
theorem gX0_falseEyes_X0_stonesOf : GoodIn wsX0_falseEyes (wsV RX0 56 RX0 yX0_stonesOf wsX0_stonesOf) := goodIn_app (goodIn_of _ (by decide +kernel)) ggX0_falseEyes_X0_stonesOf
set_option maxRecDepth 20000 in
theorem ggX0_falseEyes_X2_eyes : GoodIn wsX0_falseEyes wsX2_eyes := goodIn_r _ [13, 14, 15, 16, 17, 18, 12, 19, 20, 21, 22, 49, 50, 51, 52, 53] (by decide +kernel) (by decide +kernel)
set_option maxRecDepth 20000 in
theorem gX0_falseEyes_X2_eyes : GoodIn wsX0_falseEyes (wsV RX0 77 RX2 yX2_eyes wsX2_eyes) := goodIn_app (goodIn_of _ (by decide +kernel)) ggX0_falseEyes_X2_eyes
set_option maxRecDepth 20000 in
theorem ggX0_falseEyes_X2_falseAmong : GoodIn wsX0_falseEyes wsX2_falseAmong := goodIn_r _ [26, 27, 28, 29, 12, 30, 22, 14, 20, 21, 31, 32, 33, 34, 35, 36, 37, 49, 50, 51, 52, 53] (by decide +kernel) (by decide +kernel)
set_option maxRecDepth 20000 in
theorem gX0_falseEyes_X2_falseAmong : GoodIn wsX0_falseEyes (wsV RX0 80 RX2 yX2_falseAmong wsX2_falseAmong) := goodIn_app (goodIn_of _ (by decide +kernel)) ggX0_falseEyes_X2_falseAmong
set_option maxRecDepth 20000 in
theorem ggX0_trueEyes_X0_stonesOf : GoodIn wsX0_trueEyes wsX0_stonesOf := goodIn_r _ [7, 8, 9, 39, 40, 41, 42, 43, 44, 45, 46, 47, 48, 49] (by decide +kernel) (by decide +kernel)
set_option maxRecDepth 20000 in
theorem gX0_trueEyes_X0_stonesOf : GoodIn wsX0_trueEyes (wsV RX0 56 RX0 yX0_stonesOf wsX0_stonesOf) := goodIn_app (goodIn_of _ (by decide +kernel)) ggX0_trueEyes_X0_stonesOf
set_option maxRecDepth 20000 in
theorem ggX0_trueEyes_X2_eyes : GoodIn wsX0_trueEyes wsX2_eyes := goodIn_r _ [14, 15, 16, 17, 18, 19, 13, 20, 21, 22, 23, 50, 51, 52, 53, 54] (by decide +kernel) (by decide +kernel)
set_option maxRecDepth 20000 in
theorem gX0_trueEyes_X2_eyes : GoodIn wsX0_trueEyes (wsV RX0 77 RX2 yX2_eyes wsX2_eyes) := goodIn_app (goodIn_of _ (by decide +kernel)) ggX0_trueEyes_X2_eyes
set_option maxRecDepth 20000 in
theorem ggX0_trueEyes_X2_falseAmong : GoodIn wsX0_trueEyes wsX2_falseAmong := goodIn_r _ [27, 28, 29, 30, 13, 31, 23, 15, 21, 22, 32, 33, 34, 35, 36, 37, 38, 50, 51, 52, 53, 54] (by decide +kernel) (by decide +kernel)
set_option maxRecDepth 20000 in
theorem gX0_trueEyes_X2_falseAmong : GoodIn wsX0_trueEyes (wsV RX0 80 RX2 yX2_falseAmong wsX2_falseAmong) := goodIn_app (goodIn_of _ (by decide +kernel)) ggX0_trueEyes_X2_falseAmong
set_option maxRecDepth 20000 in
theorem ggX0_groupAt_X0_colourAt : GoodIn wsX0_groupAt wsX0_colourAt := goodIn_r _ [6, 7, 8, 26, 27, 28, 29, 30, 31, 32, 33, 34, 35, 36] (by decide +kernel) (by decide +kernel)
set_option maxRecDepth 20000 in
theorem gX0_groupAt_X0_colourAt : GoodIn wsX0_groupAt (wsV RX0 85 RX0 yX0_colourAt wsX0_colourAt) := goodIn_app (goodIn_of _ (by decide +kernel)) ggX0_groupAt_X0_colourAt
set_option maxRecDepth 20000 in
theorem ggX0_groupAt_X0_stonesOf : GoodIn wsX0_groupAt wsX0_stonesOf := goodIn_r _ [12, 7, 8, 26, 27, 28, 29, 30, 31, 32, 33, 34, 35, 36] (by decide +kernel) (by decide +kernel)
set_option maxRecDepth 20000 in
theorem gX0_groupAt_X0_stonesOf : GoodIn wsX0_groupAt (wsV RX0 56 RX0 yX0_stonesOf wsX0_stonesOf) := goodIn_app (goodIn_of _ (by decide +kernel)) ggX0_groupAt_X0_stonesOf
set_option maxRecDepth 20000 in
theorem ggX0_groupAt_X2_connected : GoodIn wsX0_groupAt wsX2_connected := goodIn_r _ [17, 18, 19, 20, 16, 21, 22, 23, 24, 25, 37, 38, 39, 40, 41] (by decide +kernel) (by decide +kernel)
set_option maxRecDepth 20000 in
theorem gX0_groupAt_X2_connected : GoodIn wsX0_groupAt (wsV RX0 89 RX2 yX2_connected wsX2_connected) := goodIn_app (goodIn_of _ (by decide +kernel)) ggX0_groupAt_X2_connected
set_option maxRecDepth 20000 in
theorem ggX0_libertiesAt_X0_colourAt : GoodIn wsX0_libertiesAt wsX0_colourAt := goodIn_r _ [6, 7, 8, 31, 32, 33, 34, 35, 36, 37, 38, 39, 40, 41] (by decide +kernel) (by decide +kernel)
set_option maxRecDepth 20000 in
theorem gX0_libertiesAt_X0_colourAt : GoodIn wsX0_libertiesAt (wsV RX0 85 RX0 yX0_colourAt wsX0_colourAt) := goodIn_app (goodIn_of _ (by decide +kernel)) ggX0_libertiesAt_X0_colourAt
set_option maxRecDepth 20000 in
theorem ggX0_libertiesAt_X0_stonesOf : GoodIn wsX0_libertiesAt wsX0_stonesOf := goodIn_r _ [12, 7, 8, 31, 32, 33, 34, 35, 36, 37, 38, 39, 40, 41] (by decide +kernel) (by decide +kernel)
set_option maxRecDepth 20000 in
theorem gX0_libertiesAt_X0_stonesOf : GoodIn wsX0_libertiesAt (wsV RX0 56 RX0 yX0_stonesOf wsX0_stonesOf) := goodIn_app (goodIn_of _ (by decide +kernel)) ggX0_libertiesAt_X0_stonesOf
set_option maxRecDepth 20000 in
theorem ggX0_libertiesAt_X2_liberties : GoodIn wsX0_libertiesAt wsX2_liberties := goodIn_r _ [17, 18, 19, 20, 21, 22, 16, 23, 24, 25, 26, 27, 28, 29, 30, 42, 43, 44, 45, 46] (by decide +kernel) (by decide +kernel)
set_option maxRecDepth 20000 in
theorem gX0_libertiesAt_X2_liberties : GoodIn wsX0_libertiesAt (wsV RX0 92 RX2 yX2_liberties wsX2_liberties) := goodIn_app (goodIn_of _ (by decide +kernel)) ggX0_libertiesAt_X2_liberties
set_option maxRecDepth 20000 in
theorem ggX0_partAt_X2_connected : GoodIn wsX0_partAt wsX2_connected := goodIn_r _ [10, 11, 12, 13, 9, 14, 15, 16, 17, 18, 30, 31, 32, 33, 34] (by decide +kernel) (by decide +kernel)
set_option maxRecDepth 20000 in
theorem gX0_partAt_X2_connected : GoodIn wsX0_partAt (wsV RX0 89 RX2 yX2_connected wsX2_connected) := goodIn_app (goodIn_of _ (by decide +kernel)) ggX0_partAt_X2_connected
set_option maxRecDepth 20000 in
theorem ggX0_eyeAt_X0_falseEyes : GoodIn wsX0_eyeAt wsX0_falseEyes := goodIn_r _ [5, 6, 7, 8, 9, 4, 10, 11, 12, 13, 14, 15, 16, 17, 18, 19, 20, 21, 22, 23, 24, 25, 26, 27, 28, 29, 30, 31, 32, 33, 34, 35, 36, 37, 38, 39, 40, 41, 47, 48, 49, 50, 51, 52, 53, 54, 55, 56, 57, 58, 59, 60, 61, 62] (by decide +kernel) (by decide +kernel)
set_option maxRecDepth 20000 in
theorem gX0_eyeAt_X0_falseEyes : GoodIn wsX0_eyeAt (wsV RX0 99 RX0 yX0_falseEyes wsX0_falseEyes) := goodIn_app (goodIn_of _ (by decide +kernel)) ggX0_eyeAt_X0_falseEyes
set_option maxRecDepth 20000 in
theorem ggX0_eyeAt_X0_trueEyes : GoodIn wsX0_eyeAt wsX0_trueEyes := goodIn_r _ [45, 6, 46, 7, 8, 9, 4, 10, 11, 12, 13, 14, 15, 16, 17, 18, 19, 20, 21, 22, 23, 24, 25, 26, 27, 28, 29, 30, 31, 32, 33, 34, 35, 36, 37, 38, 39, 40, 41, 47, 48, 49, 50, 51, 52, 53, 54, 55, 56, 57, 58, 59, 60, 61, 62] (by decide +kernel) (by decide +kernel)
set_option maxRecDepth 20000 in
theorem gX0_eyeAt_X0_trueEyes : GoodIn wsX0_eyeAt (wsV RX0 102 RX0 yX0_trueEyes wsX0_trueEyes) := goodIn_app (goodIn_of _ (by decide +kernel)) ggX0_eyeAt_X0_trueEyes
set_option maxRecDepth 20000 in
theorem ggX0_trueEyesAt_X0_colourAt : GoodIn wsX0_trueEyesAt wsX0_colourAt := goodIn_r _ [5, 6, 7, 60, 61, 62, 63, 64, 65, 66, 67, 68, 69, 70] (by decide +kernel) (by decide +kernel)
set_option maxRecDepth 20000 in
theorem gX0_trueEyesAt_X0_colourAt : GoodIn wsX0_trueEyesAt (wsV RX0 85 RX0 yX0_colourAt wsX0_colourAt) := goodIn_app (goodIn_of _ (by decide +kernel)) ggX0_trueEyesAt_X0_colourAt
set_option maxRecDepth 20000 in
theorem ggX0_trueEyesAt_X0_libertiesAt : GoodIn wsX0_trueEyesAt wsX0_libertiesAt := goodIn_r _ [11, 12, 1, 2, 3, 4, 5, 6, 7, 13, 14, 15, 16, 17, 18, 19, 20, 21, 22, 23, 24, 25, 26, 27, 28, 29, 30, 31, 32, 33, 34, 60, 61, 62, 63, 64, 65, 66, 67, 68, 69, 70, 71, 72, 73, 74, 75] (by decide +kernel) (by decide +kernel)
set_option maxRecDepth 20000 in
theorem gX0_trueEyesAt_X0_libertiesAt : GoodIn wsX0_trueEyesAt (wsV RX0 105 RX0 yX0_libertiesAt wsX0_libertiesAt) := goodIn_app (goodIn_of _ (by decide +kernel)) ggX0_trueEyesAt_X0_libertiesAt
set_option maxRecDepth 20000 in
theorem ggX0_trueEyesAt_X0_trueEyes : GoodIn wsX0_trueEyesAt wsX0_trueEyes := goodIn_r _ [38, 12, 39, 13, 14, 15, 4, 16, 6, 7, 40, 41, 42, 20, 43, 22, 23, 28, 29, 30, 31, 32, 33, 34, 44, 45, 46, 47, 48, 49, 50, 51, 52, 53, 54, 55, 56, 57, 58, 60, 61, 62, 63, 64, 65, 66, 67, 68, 69, 70, 71, 72, 73, 74, 75] (by decide +kernel) (by decide +kernel)
set_option maxRecDepth 20000 in
theorem gX0_trueEyesAt_X0_trueEyes : GoodIn wsX0_trueEyesAt (wsV RX0 102 RX0 yX0_trueEyes wsX0_trueEyes) := goodIn_app (goodIn_of _ (by decide +kernel)) ggX0_trueEyesAt_X0_trueEyes
set_option maxRecDepth 20000 in
theorem ggX0_trueEyesAt_J13_bitCount_95d88 : GoodIn wsX0_trueEyesAt wsJ13_bitCount_95d88 := goodIn_r _ [55, 56, 57, 58] (by decide +kernel) (by decide +kernel)
set_option maxRecDepth 20000 in
theorem gX0_trueEyesAt_J13_bitCount_95d88 : GoodIn wsX0_trueEyesAt (va_wsS RX0 68 yJ13_bitCount_95d88 wsJ13_bitCount_95d88) := goodIn_app (goodIn_of _ (by decide +kernel)) ggX0_trueEyesAt_J13_bitCount_95d88
set_option maxRecDepth 20000 in
theorem ggX0_reasonAt_X0_turn : GoodIn wsX0_reasonAt wsX0_turn := goodIn_r _ [8, 3, 48, 49, 50, 51, 52, 53, 54, 55, 56, 57, 58] (by decide +kernel) (by decide +kernel)
set_option maxRecDepth 20000 in
theorem gX0_reasonAt_X0_turn : GoodIn wsX0_reasonAt (wsV RX0 108 RX0 yX0_turn wsX0_turn) := goodIn_app (goodIn_of _ (by decide +kernel)) ggX0_reasonAt_X0_turn
set_option maxRecDepth 20000 in
theorem ggX0_reasonAt_X0_stonesOf : GoodIn wsX0_reasonAt wsX0_stonesOf := goodIn_r _ [12, 13, 14, 48, 49, 50, 51, 52, 53, 54, 55, 56, 57, 58] (by decide +kernel) (by decide +kernel)
set_option maxRecDepth 20000 in
theorem gX0_reasonAt_X0_stonesOf : GoodIn wsX0_reasonAt (wsV RX0 56 RX0 yX0_stonesOf wsX0_stonesOf) := goodIn_app (goodIn_of _ (by decide +kernel)) ggX0_reasonAt_X0_stonesOf
set_option maxRecDepth 20000 in
theorem ggX0_reasonAt_X2_taken : GoodIn wsX0_reasonAt wsX2_taken := goodIn_r _ [19, 20, 21, 22, 23, 24, 18, 25, 26, 27, 28, 29, 30, 31, 32, 59, 60, 61, 62, 63] (by decide +kernel) (by decide +kernel)
set_option maxRecDepth 20000 in
theorem gX0_reasonAt_X2_taken : GoodIn wsX0_reasonAt (wsV RX0 112 RX2 yX2_taken wsX2_taken) := goodIn_app (goodIn_of _ (by decide +kernel)) ggX0_reasonAt_X2_taken
set_option maxRecDepth 20000 in
theorem ggX0_reasonAt_X2_liberties : GoodIn wsX0_reasonAt wsX2_liberties := goodIn_r _ [36, 20, 21, 29, 30, 31, 18, 32, 22, 23, 24, 25, 26, 27, 28, 59, 60, 61, 62, 63] (by decide +kernel) (by decide +kernel)
set_option maxRecDepth 20000 in
theorem gX0_reasonAt_X2_liberties : GoodIn wsX0_reasonAt (wsV RX0 92 RX2 yX2_liberties wsX2_liberties) := goodIn_app (goodIn_of _ (by decide +kernel)) ggX0_reasonAt_X2_liberties
set_option maxRecDepth 20000 in
theorem ggX0_reasonAt_X0_mustNotCome : GoodIn wsX0_reasonAt wsX0_mustNotCome := goodIn_r _ [40, 41, 3, 42, 43, 44, 45, 46, 47, 48, 49, 50, 51, 52, 53, 54, 55, 56, 57, 58] (by decide +kernel) (by decide +kernel)
set_option maxRecDepth 20000 in
theorem gX0_reasonAt_X0_mustNotCome : GoodIn wsX0_reasonAt (wsV RX0 115 RX0 yX0_mustNotCome wsX0_mustNotCome) := goodIn_app (goodIn_of _ (by decide +kernel)) ggX0_reasonAt_X0_mustNotCome
set_option maxRecDepth 20000 in
theorem ggX0_effectOf_X0_turn : GoodIn wsX0_effectOf wsX0_turn := goodIn_r _ [7, 8, 51, 52, 53, 54, 55, 56, 57, 58, 59, 60, 61] (by decide +kernel) (by decide +kernel)
set_option maxRecDepth 20000 in
theorem gX0_effectOf_X0_turn : GoodIn wsX0_effectOf (wsV RX0 108 RX0 yX0_turn wsX0_turn) := goodIn_app (goodIn_of _ (by decide +kernel)) ggX0_effectOf_X0_turn
set_option maxRecDepth 20000 in
theorem ggX0_effectOf_X0_stonesOf : GoodIn wsX0_effectOf wsX0_stonesOf := goodIn_r _ [12, 13, 14, 51, 52, 53, 54, 55, 56, 57, 58, 59, 60, 61] (by decide +kernel) (by decide +kernel)
set_option maxRecDepth 20000 in
theorem gX0_effectOf_X0_stonesOf : GoodIn wsX0_effectOf (wsV RX0 56 RX0 yX0_stonesOf wsX0_stonesOf) := goodIn_app (goodIn_of _ (by decide +kernel)) ggX0_effectOf_X0_stonesOf
set_option maxRecDepth 20000 in
theorem ggX0_effectOf_X2_taken : GoodIn wsX0_effectOf wsX2_taken := goodIn_r _ [19, 20, 21, 22, 23, 24, 18, 25, 26, 27, 28, 29, 30, 31, 32, 62, 63, 64, 65, 66] (by decide +kernel) (by decide +kernel)
set_option maxRecDepth 20000 in
theorem gX0_effectOf_X2_taken : GoodIn wsX0_effectOf (wsV RX0 112 RX2 yX2_taken wsX2_taken) := goodIn_app (goodIn_of _ (by decide +kernel)) ggX0_effectOf_X2_taken
set_option maxRecDepth 20000 in
theorem ggX0_effectOf_J13_bitCount_95d88 : GoodIn wsX0_effectOf wsJ13_bitCount_95d88 := goodIn_r _ [36, 37, 38, 39] (by decide +kernel) (by decide +kernel)
set_option maxRecDepth 20000 in
theorem gX0_effectOf_J13_bitCount_95d88 : GoodIn wsX0_effectOf (va_wsS RX0 68 yJ13_bitCount_95d88 wsJ13_bitCount_95d88) := goodIn_app (goodIn_of _ (by decide +kernel)) ggX0_effectOf_J13_bitCount_95d88
set_option maxRecDepth 20000 in
theorem ggX0_effectOf_X2_liberties : GoodIn wsX0_effectOf wsX2_liberties := goodIn_r _ [43, 20, 21, 29, 30, 31, 18, 32, 22, 23, 24, 25, 26, 27, 28, 62, 63, 64, 65, 66] (by decide +kernel) (by decide +kernel)
set_option maxRecDepth 20000 in
theorem gX0_effectOf_X2_liberties : GoodIn wsX0_effectOf (wsV RX0 92 RX2 yX2_liberties wsX2_liberties) := goodIn_app (goodIn_of _ (by decide +kernel)) ggX0_effectOf_X2_liberties
set_option maxRecDepth 20000 in
theorem ggX0_effectOf_X2_connected : GoodIn wsX0_effectOf wsX2_connected := goodIn_r _ [32, 22, 23, 24, 18, 25, 26, 27, 28, 20, 62, 63, 64, 65, 66] (by decide +kernel) (by decide +kernel)
set_option maxRecDepth 20000 in
theorem gX0_effectOf_X2_connected : GoodIn wsX0_effectOf (wsV RX0 89 RX2 yX2_connected wsX2_connected) := goodIn_app (goodIn_of _ (by decide +kernel)) ggX0_effectOf_X2_connected
set_option maxRecDepth 20000 in
theorem ggX0_effectOf_X2_groupsWithOneLiberty : GoodIn wsX0_effectOf wsX2_groupsWithOneLiberty := goodIn_r _ [48, 21, 49, 41, 42, 18, 43, 20, 29, 30, 31, 32, 22, 23, 24, 25, 26, 27, 28, 50, 34, 35, 36, 37, 38, 39, 62, 63, 64, 65, 66] (by decide +kernel) (by decide +kernel)
set_option maxRecDepth 20000 in
theorem gX0_effectOf_X2_groupsWithOneLiberty : GoodIn wsX0_effectOf (wsV RX0 64 RX2 yX2_groupsWithOneLiberty wsX2_groupsWithOneLiberty) := goodIn_app (goodIn_of _ (by decide +kernel)) ggX0_effectOf_X2_groupsWithOneLiberty
set_option maxRecDepth 20000 in
theorem ggX0_layIfAllowed_X2_has : GoodIn wsX0_layIfAllowed wsX2_has := goodIn_r _ [6, 7, 86, 87, 88, 89, 90] (by decide +kernel) (by decide +kernel)
set_option maxRecDepth 20000 in
theorem gX0_layIfAllowed_X2_has : GoodIn wsX0_layIfAllowed (wsV RX0 125 RX2 yX2_has wsX2_has) := goodIn_app (goodIn_of _ (by decide +kernel)) ggX0_layIfAllowed_X2_has
set_option maxRecDepth 20000 in
theorem ggX0_layIfAllowed_X0_reasonAt : GoodIn wsX0_layIfAllowed wsX0_reasonAt := goodIn_r _ [12, 1, 13, 14, 15, 16, 17, 11, 18, 19, 20, 21, 22, 23, 24, 25, 26, 27, 5, 28, 29, 30, 31, 32, 33, 34, 35, 36, 37, 38, 39, 40, 41, 42, 43, 44, 45, 46, 47, 48, 49, 50, 51, 52, 53, 54, 55, 56, 75, 76, 77, 78, 79, 80, 81, 82, 83, 84, 85, 86, 87, 88, 89, 90] (by decide +kernel) (by decide +kernel)
set_option maxRecDepth 20000 in
theorem gX0_layIfAllowed_X0_reasonAt : GoodIn wsX0_layIfAllowed (wsV RX0 129 RX0 yX0_reasonAt wsX0_reasonAt) := goodIn_app (goodIn_of _ (by decide +kernel)) ggX0_layIfAllowed_X0_reasonAt
set_option maxRecDepth 20000 in
theorem ggX0_layIfAllowed_X0_lay : GoodIn wsX0_layIfAllowed wsX0_lay := goodIn_r _ [60, 1, 23, 24, 13, 61, 62, 14, 63, 15, 16, 17, 11, 18, 19, 20, 21, 22, 25, 26, 27, 5, 28, 29, 30, 31, 32, 33, 34, 35, 36, 37, 38, 39, 40, 41, 64, 65, 66, 67, 68, 69, 70, 71, 72, 73, 74, 55, 56, 75, 76, 77, 78, 79, 80, 81, 82, 83, 84, 85, 86, 87, 88, 89, 90] (by decide +kernel) (by decide +kernel)
set_option maxRecDepth 20000 in
theorem gX0_layIfAllowed_X0_lay : GoodIn wsX0_layIfAllowed (wsV RX0 132 RX0 yX0_lay wsX0_lay) := goodIn_app (goodIn_of _ (by decide +kernel)) ggX0_layIfAllowed_X0_lay
set_option maxRecDepth 20000 in
theorem ggX0_passIfAllowed_X0_keepPosition : GoodIn wsX0_passIfAllowed wsX0_keepPosition := goodIn_r _ [8, 1, 9, 10, 11, 12, 13, 14, 15, 16, 17, 18, 19, 20, 21, 22, 23] (by decide +kernel) (by decide +kernel)
set_option maxRecDepth 20000 in
theorem gX0_passIfAllowed_X0_keepPosition : GoodIn wsX0_passIfAllowed (wsV RX0 50 RX0 yX0_keepPosition wsX0_keepPosition) := goodIn_app (goodIn_of _ (by decide +kernel)) ggX0_passIfAllowed_X0_keepPosition
set_option maxRecDepth 20000 in
theorem ggX0_lay_X0_turn : GoodIn wsX0_lay wsX0_turn := goodIn_r _ [13, 7, 49, 50, 51, 52, 53, 54, 55, 56, 57, 58, 59] (by decide +kernel) (by decide +kernel)
set_option maxRecDepth 20000 in
theorem gX0_lay_X0_turn : GoodIn wsX0_lay (wsV RX0 108 RX0 yX0_turn wsX0_turn) := goodIn_app (goodIn_of _ (by decide +kernel)) ggX0_lay_X0_turn
set_option maxRecDepth 20000 in
theorem ggX0_lay_X0_stonesOf : GoodIn wsX0_lay wsX0_stonesOf := goodIn_r _ [17, 2, 3, 49, 50, 51, 52, 53, 54, 55, 56, 57, 58, 59] (by decide +kernel) (by decide +kernel)
set_option maxRecDepth 20000 in
theorem gX0_lay_X0_stonesOf : GoodIn wsX0_lay (wsV RX0 56 RX0 yX0_stonesOf wsX0_stonesOf) := goodIn_app (goodIn_of _ (by decide +kernel)) ggX0_lay_X0_stonesOf
set_option maxRecDepth 20000 in
theorem ggX0_lay_X2_taken : GoodIn wsX0_lay wsX2_taken := goodIn_r _ [22, 23, 24, 25, 26, 27, 21, 28, 29, 30, 31, 32, 33, 34, 35, 60, 61, 62, 63, 64] (by decide +kernel) (by decide +kernel)
set_option maxRecDepth 20000 in
theorem gX0_lay_X2_taken : GoodIn wsX0_lay (wsV RX0 112 RX2 yX2_taken wsX2_taken) := goodIn_app (goodIn_of _ (by decide +kernel)) ggX0_lay_X2_taken
set_option maxRecDepth 20000 in
theorem ggX0_lay_J13_bitCount_95d88 : GoodIn wsX0_lay wsJ13_bitCount_95d88 := goodIn_r _ [39, 40, 41, 42] (by decide +kernel) (by decide +kernel)
set_option maxRecDepth 20000 in
theorem gX0_lay_J13_bitCount_95d88 : GoodIn wsX0_lay (va_wsS RX0 68 yJ13_bitCount_95d88 wsJ13_bitCount_95d88) := goodIn_app (goodIn_of _ (by decide +kernel)) ggX0_lay_J13_bitCount_95d88
set_option maxRecDepth 20000 in
theorem ggX0_lay_X0_keepPosition : GoodIn wsX0_lay wsX0_keepPosition := goodIn_r _ [46, 7, 47, 48, 2, 3, 49, 50, 51, 52, 53, 54, 55, 56, 57, 58, 59] (by decide +kernel) (by decide +kernel)
set_option maxRecDepth 20000 in
theorem gX0_lay_X0_keepPosition : GoodIn wsX0_lay (wsV RX0 50 RX0 yX0_keepPosition wsX0_keepPosition) := goodIn_app (goodIn_of _ (by decide +kernel)) ggX0_lay_X0_keepPosition
set_option maxRecDepth 20000 in
theorem ggX1_firstError_X1_at : GoodIn wsX1_firstError wsX1_at := goodIn_r _ [6, 1, 7, 16, 17] (by decide +kernel) (by decide +kernel)
set_option maxRecDepth 20000 in
theorem gX1_firstError_X1_at : GoodIn wsX1_firstError (wsV RX1 19 RX1 yX1_at wsX1_at) := goodIn_app (goodIn_of _ (by decide +kernel)) ggX1_firstError_X1_at
set_option maxRecDepth 20000 in
theorem ggX1_firstError_X1_firstMove : GoodIn wsX1_firstError wsX1_firstMove := goodIn_r _ [11, 2, 3, 4, 5, 6, 1, 7, 16, 17] (by decide +kernel) (by decide +kernel)
set_option maxRecDepth 20000 in
theorem gX1_firstError_X1_firstMove : GoodIn wsX1_firstError (wsV RX1 23 RX1 yX1_firstMove wsX1_firstMove) := goodIn_app (goodIn_of _ (by decide +kernel)) ggX1_firstError_X1_firstMove
set_option maxRecDepth 20000 in
theorem ggX1_firstError_X1_isPassAt : GoodIn wsX1_firstError wsX1_isPassAt := goodIn_r _ [15, 2, 3, 4, 5, 6, 1, 7, 16, 17] (by decide +kernel) (by decide +kernel)
set_option maxRecDepth 20000 in
theorem gX1_firstError_X1_isPassAt : GoodIn wsX1_firstError (wsV RX1 27 RX1 yX1_isPassAt wsX1_isPassAt) := goodIn_app (goodIn_of _ (by decide +kernel)) ggX1_firstError_X1_isPassAt
set_option maxRecDepth 20000 in
theorem ggX1_rows_X1_at : GoodIn wsX1_rows wsX1_at := goodIn_r _ [5, 6, 7, 8, 9] (by decide +kernel) (by decide +kernel)
set_option maxRecDepth 20000 in
theorem gX1_rows_X1_at : GoodIn wsX1_rows (wsV RX1 19 RX1 yX1_at wsX1_at) := goodIn_app (goodIn_of _ (by decide +kernel)) ggX1_rows_X1_at
set_option maxRecDepth 20000 in
theorem ggX1_setting_X1_at : GoodIn wsX1_setting wsX1_at := goodIn_r _ [5, 6, 7, 8, 9] (by decide +kernel) (by decide +kernel)
set_option maxRecDepth 20000 in
theorem gX1_setting_X1_at : GoodIn wsX1_setting (wsV RX1 19 RX1 yX1_at wsX1_at) := goodIn_app (goodIn_of _ (by decide +kernel)) ggX1_setting_X1_at
set_option maxRecDepth 20000 in
theorem ggX1_firstMove_X1_at : GoodIn wsX1_firstMove wsX1_at := goodIn_r _ [5, 6, 7, 8, 9] (by decide +kernel) (by decide +kernel)
set_option maxRecDepth 20000 in
theorem gX1_firstMove_X1_at : GoodIn wsX1_firstMove (wsV RX1 19 RX1 yX1_at wsX1_at) := goodIn_app (goodIn_of _ (by decide +kernel)) ggX1_firstMove_X1_at
set_option maxRecDepth 20000 in
theorem ggX1_isPassAt_X1_at : GoodIn wsX1_isPassAt wsX1_at := goodIn_r _ [5, 6, 7, 8, 9] (by decide +kernel) (by decide +kernel)
set_option maxRecDepth 20000 in
theorem gX1_isPassAt_X1_at : GoodIn wsX1_isPassAt (wsV RX1 19 RX1 yX1_at wsX1_at) := goodIn_app (goodIn_of _ (by decide +kernel)) ggX1_isPassAt_X1_at
set_option maxRecDepth 20000 in
theorem ggX1_pointAt_X1_at : GoodIn wsX1_pointAt wsX1_at := goodIn_r _ [5, 6, 7, 8, 9] (by decide +kernel) (by decide +kernel)
set_option maxRecDepth 20000 in
theorem gX1_pointAt_X1_at : GoodIn wsX1_pointAt (wsV RX1 19 RX1 yX1_at wsX1_at) := goodIn_app (goodIn_of _ (by decide +kernel)) ggX1_pointAt_X1_at
set_option maxRecDepth 20000 in
theorem ggX2_connected_X2_around : GoodIn wsX2_connected wsX2_around := goodIn_r _ [5, 6, 7, 8, 9, 10, 11, 12, 13, 14] (by decide +kernel) (by decide +kernel)
set_option maxRecDepth 20000 in
theorem gX2_connected_X2_around : GoodIn wsX2_connected (wsV RX2 30 RX2 yX2_around wsX2_around) := goodIn_app (goodIn_of _ (by decide +kernel)) ggX2_connected_X2_around
set_option maxRecDepth 20000 in
theorem ggX2_liberties_X2_connected : GoodIn wsX2_liberties wsX2_connected := goodIn_r _ [7, 8, 9, 10, 6, 11, 12, 13, 14, 1, 15, 16, 17, 18, 19] (by decide +kernel) (by decide +kernel)
set_option maxRecDepth 20000 in
theorem gX2_liberties_X2_connected : GoodIn wsX2_liberties (wsV RX2 34 RX2 yX2_connected wsX2_connected) := goodIn_app (goodIn_of _ (by decide +kernel)) ggX2_liberties_X2_connected
set_option maxRecDepth 20000 in
theorem ggX2_liberties_X2_around : GoodIn wsX2_liberties wsX2_around := goodIn_r _ [11, 12, 13, 14, 1, 15, 16, 17, 18, 19] (by decide +kernel) (by decide +kernel)
set_option maxRecDepth 20000 in
theorem gX2_liberties_X2_around : GoodIn wsX2_liberties (wsV RX2 30 RX2 yX2_around wsX2_around) := goodIn_app (goodIn_of _ (by decide +kernel)) ggX2_liberties_X2_around
set_option maxRecDepth 20000 in
theorem ggX2_taken_X2_around : GoodIn wsX2_taken wsX2_around := goodIn_r _ [7, 8, 9, 10, 1, 15, 16, 17, 18, 19] (by decide +kernel) (by decide +kernel)
set_option maxRecDepth 20000 in
theorem gX2_taken_X2_around : GoodIn wsX2_taken (wsV RX2 30 RX2 yX2_around wsX2_around) := goodIn_app (goodIn_of _ (by decide +kernel)) ggX2_taken_X2_around
set_option maxRecDepth 20000 in
theorem ggX2_taken_X2_connected : GoodIn wsX2_taken wsX2_connected := goodIn_r _ [14, 3, 4, 5, 6, 7, 8, 9, 10, 1, 15, 16, 17, 18, 19] (by decide +kernel) (by decide +kernel)
set_option maxRecDepth 20000 in
theorem gX2_taken_X2_connected : GoodIn wsX2_taken (wsV RX2 34 RX2 yX2_connected wsX2_connected) := goodIn_app (goodIn_of _ (by decide +kernel)) ggX2_taken_X2_connected
set_option maxRecDepth 20000 in
theorem ggX2_groups_X2_connected : GoodIn wsX2_groups wsX2_connected := goodIn_r _ [6, 7, 8, 9, 5, 10, 11, 12, 13, 14, 15, 16, 17, 18, 19] (by decide +kernel) (by decide +kernel)
set_option maxRecDepth 20000 in
theorem gX2_groups_X2_connected : GoodIn wsX2_groups (wsV RX2 34 RX2 yX2_connected wsX2_connected) := goodIn_app (goodIn_of _ (by decide +kernel)) ggX2_groups_X2_connected
set_option maxRecDepth 20000 in
theorem ggX2_groupsWithOneLiberty_X2_liberties : GoodIn wsX2_groupsWithOneLiberty wsX2_liberties := goodIn_r _ [6, 7, 1, 8, 9, 10, 5, 11, 12, 13, 14, 15, 16, 17, 18, 26, 27, 28, 29, 30] (by decide +kernel) (by decide +kernel)
set_option maxRecDepth 20000 in
theorem gX2_groupsWithOneLiberty_X2_liberties : GoodIn wsX2_groupsWithOneLiberty (wsV RX2 38 RX2 yX2_liberties wsX2_liberties) := goodIn_app (goodIn_of _ (by decide +kernel)) ggX2_groupsWithOneLiberty_X2_liberties
set_option maxRecDepth 20000 in
theorem ggX2_groupsWithOneLiberty_J13_bitCount_95d88 : GoodIn wsX2_groupsWithOneLiberty wsJ13_bitCount_95d88 := goodIn_r _ [22, 23, 24, 25] (by decide +kernel) (by decide +kernel)
set_option maxRecDepth 20000 in
theorem gX2_groupsWithOneLiberty_J13_bitCount_95d88 : GoodIn wsX2_groupsWithOneLiberty (va_wsS RX2 42 yJ13_bitCount_95d88 wsJ13_bitCount_95d88) := goodIn_app (goodIn_of _ (by decide +kernel)) ggX2_groupsWithOneLiberty_J13_bitCount_95d88
set_option maxRecDepth 20000 in
theorem ggX2_groupsWithOneLiberty_X2_connected : GoodIn wsX2_groupsWithOneLiberty wsX2_connected := goodIn_r _ [11, 12, 13, 14, 5, 15, 16, 17, 18, 7, 26, 27, 28, 29, 30] (by decide +kernel) (by decide +kernel)
set_option maxRecDepth 20000 in
theorem gX2_groupsWithOneLiberty_X2_connected : GoodIn wsX2_groupsWithOneLiberty (wsV RX2 34 RX2 yX2_connected wsX2_connected) := goodIn_app (goodIn_of _ (by decide +kernel)) ggX2_groupsWithOneLiberty_X2_connected
set_option maxRecDepth 20000 in
theorem ggX2_enclosed_X2_around : GoodIn wsX2_enclosed wsX2_around := goodIn_r _ [7, 8, 9, 10, 1, 15, 16, 17, 18, 19] (by decide +kernel) (by decide +kernel)
set_option maxRecDepth 20000 in
theorem gX2_enclosed_X2_around : GoodIn wsX2_enclosed (wsV RX2 30 RX2 yX2_around wsX2_around) := goodIn_app (goodIn_of _ (by decide +kernel)) ggX2_enclosed_X2_around
set_option maxRecDepth 20000 in
theorem ggX2_enclosed_X2_connected : GoodIn wsX2_enclosed wsX2_connected := goodIn_r _ [14, 3, 4, 5, 6, 7, 8, 9, 10, 1, 15, 16, 17, 18, 19] (by decide +kernel) (by decide +kernel)
set_option maxRecDepth 20000 in
theorem gX2_enclosed_X2_connected : GoodIn wsX2_enclosed (wsV RX2 34 RX2 yX2_connected wsX2_connected) := goodIn_app (goodIn_of _ (by decide +kernel)) ggX2_enclosed_X2_connected
set_option maxRecDepth 20000 in
theorem ggX2_eyes_X2_around : GoodIn wsX2_eyes wsX2_around := goodIn_r _ [7, 8, 9, 10, 1, 11, 12, 13, 14, 15] (by decide +kernel) (by decide +kernel)
set_option maxRecDepth 20000 in
theorem gX2_eyes_X2_around : GoodIn wsX2_eyes (wsV RX2 30 RX2 yX2_around wsX2_around) := goodIn_app (goodIn_of _ (by decide +kernel)) ggX2_eyes_X2_around
set_option maxRecDepth 20000 in
theorem ggX2_falseAmong_X2_across : GoodIn wsX2_falseAmong wsX2_across := goodIn_r _ [5, 6, 7, 8, 9, 17, 18, 19, 20, 21] (by decide +kernel) (by decide +kernel)
set_option maxRecDepth 20000 in
theorem gX2_falseAmong_X2_across : GoodIn wsX2_falseAmong (wsV RX2 48 RX2 yX2_across wsX2_across) := goodIn_app (goodIn_of _ (by decide +kernel)) ggX2_falseAmong_X2_across
set_option maxRecDepth 20000 in
theorem ggX2_falseAmong_J13_bitCount_95d88 : GoodIn wsX2_falseAmong wsJ13_bitCount_95d88 := goodIn_r _ [13, 14, 15, 16] (by decide +kernel) (by decide +kernel)
set_option maxRecDepth 20000 in
theorem gX2_falseAmong_J13_bitCount_95d88 : GoodIn wsX2_falseAmong (va_wsS RX2 42 yJ13_bitCount_95d88 wsJ13_bitCount_95d88) := goodIn_app (goodIn_of _ (by decide +kernel)) ggX2_falseAmong_J13_bitCount_95d88
set_option maxRecDepth 20000 in
theorem ggX3_firstStone_X2_liberties : GoodIn wsX3_firstStone wsX2_liberties := goodIn_r _ [6, 7, 8, 9, 10, 11, 5, 12, 13, 14, 15, 16, 17, 18, 19, 37, 38, 39, 40, 41] (by decide +kernel) (by decide +kernel)
set_option maxRecDepth 20000 in
theorem gX3_firstStone_X2_liberties : GoodIn wsX3_firstStone (wsV RX3 7 RX2 yX2_liberties wsX2_liberties) := goodIn_app (goodIn_of _ (by decide +kernel)) ggX3_firstStone_X2_liberties
set_option maxRecDepth 20000 in
theorem ggX3_firstStone_J13_bitCount_95d88 : GoodIn wsX3_firstStone wsJ13_bitCount_95d88 := goodIn_r _ [23, 24, 25, 26] (by decide +kernel) (by decide +kernel)
set_option maxRecDepth 20000 in
theorem gX3_firstStone_J13_bitCount_95d88 : GoodIn wsX3_firstStone (va_wsS RX3 13 yJ13_bitCount_95d88 wsJ13_bitCount_95d88) := goodIn_app (goodIn_of _ (by decide +kernel)) ggX3_firstStone_J13_bitCount_95d88
set_option maxRecDepth 20000 in
theorem ggX3_firstStone_X2_taken : GoodIn wsX3_firstStone wsX2_taken := goodIn_r _ [30, 7, 8, 13, 14, 15, 5, 16, 17, 18, 19, 9, 10, 11, 12, 37, 38, 39, 40, 41] (by decide +kernel) (by decide +kernel)
set_option maxRecDepth 20000 in
theorem gX3_firstStone_X2_taken : GoodIn wsX3_firstStone (wsV RX3 19 RX2 yX2_taken wsX2_taken) := goodIn_app (goodIn_of _ (by decide +kernel)) ggX3_firstStone_X2_taken
set_option maxRecDepth 20000 in
theorem ggX3_firstStone_X3_holdsOwner : GoodIn wsX3_firstStone wsX3_holdsOwner := goodIn_r _ [34, 1, 2, 3, 4, 5, 6, 7, 8, 9, 10, 11, 12, 13, 14, 15, 16, 17, 18, 19, 20, 21, 22, 23, 24, 25, 26, 27, 28, 29, 30, 35, 36, 33, 0, 31, 32, 37, 38, 39, 40, 41] (by decide +kernel) (by decide +kernel)
set_option maxRecDepth 20000 in
theorem gX3_firstStone_X3_holdsOwner : GoodIn wsX3_firstStone (va_wsS RX3 24 yX3_holdsOwner wsX3_holdsOwner) := goodIn_app (goodIn_of _ (by decide +kernel)) ggX3_firstStone_X3_holdsOwner
set_option maxRecDepth 20000 in
theorem ggX3_holdsOwner_X2_liberties : GoodIn wsX3_holdsOwner wsX2_liberties := goodIn_r _ [6, 7, 8, 9, 10, 11, 5, 12, 13, 14, 15, 16, 17, 18, 19, 37, 38, 39, 40, 41] (by decide +kernel) (by decide +kernel)
set_option maxRecDepth 20000 in
theorem gX3_holdsOwner_X2_liberties : GoodIn wsX3_holdsOwner (wsV RX3 7 RX2 yX2_liberties wsX2_liberties) := goodIn_app (goodIn_of _ (by decide +kernel)) ggX3_holdsOwner_X2_liberties
set_option maxRecDepth 20000 in
theorem ggX3_holdsOwner_J13_bitCount_95d88 : GoodIn wsX3_holdsOwner wsJ13_bitCount_95d88 := goodIn_r _ [23, 24, 25, 26] (by decide +kernel) (by decide +kernel)
set_option maxRecDepth 20000 in
theorem gX3_holdsOwner_J13_bitCount_95d88 : GoodIn wsX3_holdsOwner (va_wsS RX3 13 yJ13_bitCount_95d88 wsJ13_bitCount_95d88) := goodIn_app (goodIn_of _ (by decide +kernel)) ggX3_holdsOwner_J13_bitCount_95d88
set_option maxRecDepth 20000 in
theorem ggX3_holdsOwner_X2_taken : GoodIn wsX3_holdsOwner wsX2_taken := goodIn_r _ [30, 7, 8, 13, 14, 15, 5, 16, 17, 18, 19, 9, 10, 11, 12, 37, 38, 39, 40, 41] (by decide +kernel) (by decide +kernel)
set_option maxRecDepth 20000 in
theorem gX3_holdsOwner_X2_taken : GoodIn wsX3_holdsOwner (wsV RX3 19 RX2 yX2_taken wsX2_taken) := goodIn_app (goodIn_of _ (by decide +kernel)) ggX3_holdsOwner_X2_taken
set_option maxRecDepth 20000 in
theorem ggX3_holdsOwner_X3_firstStone : GoodIn wsX3_holdsOwner wsX3_firstStone := goodIn_r _ [34, 1, 2, 3, 4, 5, 6, 7, 8, 9, 10, 11, 12, 13, 14, 15, 16, 17, 18, 19, 20, 21, 22, 23, 24, 25, 26, 27, 28, 29, 30, 35, 36, 33, 0, 31, 32, 37, 38, 39, 40, 41] (by decide +kernel) (by decide +kernel)
set_option maxRecDepth 20000 in
theorem gX3_holdsOwner_X3_firstStone : GoodIn wsX3_holdsOwner (va_wsS RX3 30 yX3_firstStone wsX3_firstStone) := goodIn_app (goodIn_of _ (by decide +kernel)) ggX3_holdsOwner_X3_firstStone
set_option maxRecDepth 20000 in
theorem ggX4_init_X0_init : GoodIn wsX4_init wsX0_init := goodIn_r _ [10, 11, 2, 3, 12, 13, 14, 15, 19, 20, 21, 22, 23, 24, 25, 26, 27, 28, 29] (by decide +kernel) (by decide +kernel)
set_option maxRecDepth 20000 in
theorem gX4_init_X0_init : GoodIn wsX4_init (wsX0_init) := ggX4_init_X0_init
set_option maxRecDepth 20000 in
theorem ggX4_remember_X4_at : GoodIn wsX4_remember wsX4_at := goodIn_r _ [7, 2, 8, 25, 26, 27] (by decide +kernel) (by decide +kernel)
set_option maxRecDepth 20000 in
theorem gX4_remember_X4_at : GoodIn wsX4_remember (wsV RX4 27 RX4 yX4_at wsX4_at) := goodIn_app (goodIn_of _ (by decide +kernel)) ggX4_remember_X4_at
set_option maxRecDepth 20000 in
theorem ggX4_remember_X0_copyFrom : GoodIn wsX4_remember wsX0_copyFrom := goodIn_r _ [13, 14, 15, 16, 17, 18, 19, 20, 21, 22, 23, 24, 28, 29, 30, 31, 32, 33, 34, 35, 36, 37, 38] (by decide +kernel) (by decide +kernel)
set_option maxRecDepth 20000 in
theorem gX4_remember_X0_copyFrom : GoodIn wsX4_remember (wsV RX4 31 RX0 yX0_copyFrom wsX0_copyFrom) := goodIn_app (goodIn_of _ (by decide +kernel)) ggX4_remember_X0_copyFrom
set_option maxRecDepth 20000 in
theorem ggX4_takeBackInto_X4_at : GoodIn wsX4_takeBackInto wsX4_at := goodIn_r _ [6, 7, 8, 25, 26, 27] (by decide +kernel) (by decide +kernel)
set_option maxRecDepth 20000 in
theorem gX4_takeBackInto_X4_at : GoodIn wsX4_takeBackInto (wsV RX4 27 RX4 yX4_at wsX4_at) := goodIn_app (goodIn_of _ (by decide +kernel)) ggX4_takeBackInto_X4_at
set_option maxRecDepth 20000 in
theorem ggX4_takeBackInto_X0_copyFrom : GoodIn wsX4_takeBackInto wsX0_copyFrom := goodIn_r _ [13, 14, 15, 16, 17, 18, 19, 20, 21, 22, 23, 24, 28, 29, 30, 31, 32, 33, 34, 35, 36, 37, 38] (by decide +kernel) (by decide +kernel)
set_option maxRecDepth 20000 in
theorem gX4_takeBackInto_X0_copyFrom : GoodIn wsX4_takeBackInto (wsV RX4 31 RX0 yX0_copyFrom wsX0_copyFrom) := goodIn_app (goodIn_of _ (by decide +kernel)) ggX4_takeBackInto_X0_copyFrom
set_option maxRecDepth 20000 in
theorem ggX5_succeeds_X0_layIfAllowed : GoodIn wsX5_succeeds wsX0_layIfAllowed := goodIn_r _ [5, 6, 7, 8, 9, 10, 11, 12, 13, 14, 15, 4, 16, 17, 18, 19, 20, 21, 22, 23, 24, 25, 26, 27, 28, 29, 30, 31, 32, 33, 34, 35, 36, 37, 38, 39, 40, 41, 42, 43, 44, 45, 46, 47, 48, 49, 50, 51, 52, 53, 54, 55, 56, 57, 58, 59, 60, 61, 62, 63, 64, 65, 66, 67, 68, 69, 70, 71, 72, 73, 74, 75, 76, 77, 78, 155, 156, 157, 158, 159, 160, 161, 162, 163, 164, 165, 166, 167, 168, 169, 170] (by decide +kernel) (by decide +kernel)
set_option maxRecDepth 20000 in
theorem gX5_succeeds_X0_layIfAllowed : GoodIn wsX5_succeeds (wsV RX5 11 RX0 yX0_layIfAllowed wsX0_layIfAllowed) := goodIn_app (goodIn_of _ (by decide +kernel)) ggX5_succeeds_X0_layIfAllowed
set_option maxRecDepth 20000 in
theorem ggX5_succeeds_X0_passIfAllowed : GoodIn wsX5_succeeds wsX0_passIfAllowed := goodIn_r _ [82, 18, 83, 67, 75, 76, 77, 4, 78, 59, 60, 27, 28, 155, 156, 157, 158, 159, 160, 161, 162, 163, 164, 165] (by decide +kernel) (by decide +kernel)
set_option maxRecDepth 20000 in
theorem gX5_succeeds_X0_passIfAllowed : GoodIn wsX5_succeeds (wsV RX5 17 RX0 yX0_passIfAllowed wsX0_passIfAllowed) := goodIn_app (goodIn_of _ (by decide +kernel)) ggX5_succeeds_X0_passIfAllowed
set_option maxRecDepth 20000 in
theorem ggX5_succeeds_X5_holdsForColour : GoodIn wsX5_succeeds wsX5_holdsForColour := goodIn_r _ [87, 88, 89, 90, 91, 92, 93, 4, 94, 65, 66, 95, 96, 97, 98, 6, 23, 24, 25, 26, 27, 28, 68, 69, 70, 71, 72, 73, 74, 99, 100, 101, 10, 102, 33, 34, 35, 36, 37, 38, 39, 40, 41, 42, 43, 44, 45, 155, 156, 157, 158, 159, 160, 161, 162, 163, 164, 165, 166, 167, 168, 169, 170] (by decide +kernel) (by decide +kernel)
set_option maxRecDepth 20000 in
theorem gX5_succeeds_X5_holdsForColour : GoodIn wsX5_succeeds (va_wsS RX5 21 yX5_holdsForColour wsX5_holdsForColour) := goodIn_app (goodIn_of _ (by decide +kernel)) ggX5_succeeds_X5_holdsForColour
set_option maxRecDepth 20000 in
theorem ggX5_succeeds_X5_holdsForPoint : GoodIn wsX5_succeeds wsX5_holdsForPoint := goodIn_r _ [105, 106, 8, 9, 10, 11, 12, 107, 108, 109, 4, 110, 27, 28, 111, 112, 113, 114, 6, 115, 23, 24, 25, 26, 46, 47, 48, 49, 33, 34, 42, 43, 44, 45, 35, 36, 37, 38, 39, 40, 41, 116, 69, 70, 71, 72, 73, 74, 117, 14, 15, 16, 17, 18, 19, 20, 21, 22, 29, 30, 31, 32, 50, 51, 52, 53, 54, 55, 56, 57, 58, 59, 60, 118, 119, 120, 121, 122, 123, 124, 125, 126, 127, 128, 129, 130, 131, 132, 133, 134, 135, 136, 137, 138, 139, 140, 141, 142, 143, 144, 145, 146, 147, 148, 149, 150, 151, 152, 153, 154, 155, 156, 157, 158, 159, 160, 161, 162, 163, 164, 165, 166, 167, 168, 169, 170] (by decide +kernel) (by decide +kernel)
set_option maxRecDepth 20000 in
theorem gX5_succeeds_X5_holdsForPoint : GoodIn wsX5_succeeds (va_wsS RX5 27 yX5_holdsForPoint wsX5_holdsForPoint) := goodIn_app (goodIn_of _ (by decide +kernel)) ggX5_succeeds_X5_holdsForPoint
set_option maxRecDepth 20000 in
theorem ggX5_holdsForColour_X7_isColour : GoodIn wsX5_holdsForColour wsX7_isColour := goodIn_r _ [3] (by decide +kernel) (by decide +kernel)
set_option maxRecDepth 20000 in
theorem gX5_holdsForColour_X7_isColour_n30 : GoodIn wsX5_holdsForColour (wsX7_isColour) := ggX5_holdsForColour_X7_isColour
set_option maxRecDepth 20000 in
theorem ggX5_holdsForColour_X0_captivesOf : GoodIn wsX5_holdsForColour wsX0_captivesOf := goodIn_r _ [8, 9, 10, 47, 48, 49, 50, 51, 52, 53, 54, 55, 56, 57] (by decide +kernel) (by decide +kernel)
set_option maxRecDepth 20000 in
theorem gX5_holdsForColour_X0_captivesOf : GoodIn wsX5_holdsForColour (wsV RX5 33 RX0 yX0_captivesOf wsX0_captivesOf) := goodIn_app (goodIn_of _ (by decide +kernel)) ggX5_holdsForColour_X0_captivesOf
set_option maxRecDepth 20000 in
theorem ggX5_holdsForColour_X0_areaOf : GoodIn wsX5_holdsForColour wsX0_areaOf := goodIn_r _ [14, 15, 16, 17, 18, 7, 19, 20, 21, 22, 23, 24, 25, 26, 27, 28, 29, 30, 31, 32, 33, 34, 35, 36, 37, 38, 39, 40, 41, 42, 43, 44, 45, 46, 47, 48, 49, 50, 51, 52, 53, 54, 55, 56, 57, 58, 59, 60, 61, 62] (by decide +kernel) (by decide +kernel)
set_option maxRecDepth 20000 in
theorem gX5_holdsForColour_X0_areaOf : GoodIn wsX5_holdsForColour (wsV RX5 37 RX0 yX0_areaOf wsX0_areaOf) := goodIn_app (goodIn_of _ (by decide +kernel)) ggX5_holdsForColour_X0_areaOf
set_option maxRecDepth 20000 in
theorem ggX5_holdsForPoint_X2_has : GoodIn wsX5_holdsForPoint wsX2_has := goodIn_r _ [5, 6, 121, 122, 123, 124, 125] (by decide +kernel) (by decide +kernel)
set_option maxRecDepth 20000 in
theorem gX5_holdsForPoint_X2_has : GoodIn wsX5_holdsForPoint (wsV RX5 44 RX2 yX2_has wsX2_has) := goodIn_app (goodIn_of _ (by decide +kernel)) ggX5_holdsForPoint_X2_has
set_option maxRecDepth 20000 in
theorem ggX5_holdsForPoint_X0_colourAt : GoodIn wsX5_holdsForPoint wsX0_colourAt := goodIn_r _ [11, 12, 13, 110, 111, 112, 113, 114, 115, 116, 117, 118, 119, 120] (by decide +kernel) (by decide +kernel)
set_option maxRecDepth 20000 in
theorem gX5_holdsForPoint_X0_colourAt : GoodIn wsX5_holdsForPoint (wsV RX5 49 RX0 yX0_colourAt wsX0_colourAt) := goodIn_app (goodIn_of _ (by decide +kernel)) ggX5_holdsForPoint_X0_colourAt
set_option maxRecDepth 20000 in
theorem ggX5_holdsForPoint_X0_libertiesAt : GoodIn wsX5_holdsForPoint wsX0_libertiesAt := goodIn_r _ [17, 18, 19, 8, 9, 10, 11, 12, 13, 20, 21, 22, 23, 24, 25, 26, 4, 27, 28, 29, 30, 31, 32, 33, 34, 35, 36, 37, 38, 39, 40, 110, 111, 112, 113, 114, 115, 116, 117, 118, 119, 120, 121, 122, 123, 124, 125] (by decide +kernel) (by decide +kernel)
set_option maxRecDepth 20000 in
theorem gX5_holdsForPoint_X0_libertiesAt : GoodIn wsX5_holdsForPoint (wsV RX5 52 RX0 yX0_libertiesAt wsX0_libertiesAt) := goodIn_app (goodIn_of _ (by decide +kernel)) ggX5_holdsForPoint_X0_libertiesAt
set_option maxRecDepth 20000 in
theorem ggX5_holdsForPoint_J13_bitCount_95d88 : GoodIn wsX5_holdsForPoint wsJ13_bitCount_95d88 := goodIn_r _ [44, 45, 46, 47] (by decide +kernel) (by decide +kernel)
set_option maxRecDepth 20000 in
theorem gX5_holdsForPoint_J13_bitCount_95d88 : GoodIn wsX5_holdsForPoint (va_wsS RX5 56 yJ13_bitCount_95d88 wsJ13_bitCount_95d88) := goodIn_app (goodIn_of _ (by decide +kernel)) ggX5_holdsForPoint_J13_bitCount_95d88
set_option maxRecDepth 20000 in
theorem ggX5_holdsForPoint_X0_reasonAt : GoodIn wsX5_holdsForPoint wsX0_reasonAt := goodIn_r _ [51, 18, 52, 53, 54, 55, 56, 10, 57, 20, 21, 22, 23, 12, 13, 58, 59, 60, 4, 61, 28, 29, 34, 35, 36, 37, 38, 39, 40, 30, 31, 32, 33, 24, 25, 26, 27, 62, 63, 64, 65, 66, 67, 68, 69, 70, 71, 72, 110, 111, 112, 113, 114, 115, 116, 117, 118, 119, 120, 121, 122, 123, 124, 125] (by decide +kernel) (by decide +kernel)
set_option maxRecDepth 20000 in
theorem gX5_holdsForPoint_X0_reasonAt : GoodIn wsX5_holdsForPoint (wsV RX5 62 RX0 yX0_reasonAt wsX0_reasonAt) := goodIn_app (goodIn_of _ (by decide +kernel)) ggX5_holdsForPoint_X0_reasonAt
set_option maxRecDepth 20000 in
theorem ggX5_holdsForPoint_X0_stonesOf : GoodIn wsX5_holdsForPoint wsX0_stonesOf := goodIn_r _ [23, 12, 13, 110, 111, 112, 113, 114, 115, 116, 117, 118, 119, 120] (by decide +kernel) (by decide +kernel)
set_option maxRecDepth 20000 in
theorem gX5_holdsForPoint_X0_stonesOf : GoodIn wsX5_holdsForPoint (wsV RX5 65 RX0 yX0_stonesOf wsX0_stonesOf) := goodIn_app (goodIn_of _ (by decide +kernel)) ggX5_holdsForPoint_X0_stonesOf
set_option maxRecDepth 20000 in
theorem ggX5_holdsForPoint_X3_firstStone : GoodIn wsX5_holdsForPoint wsX3_firstStone := goodIn_r _ [76, 77, 78, 25, 26, 4, 27, 28, 29, 30, 31, 32, 33, 34, 35, 36, 37, 38, 39, 40, 79, 42, 43, 44, 45, 46, 47, 80, 59, 60, 61, 81, 82, 75, 83, 84, 74, 121, 122, 123, 124, 125] (by decide +kernel) (by decide +kernel)
set_option maxRecDepth 20000 in
theorem gX5_holdsForPoint_X3_firstStone_n68 : GoodIn wsX5_holdsForPoint (wsX3_firstStone) := ggX5_holdsForPoint_X3_firstStone
set_option maxRecDepth 20000 in
theorem ggX5_holdsForPoint_X0_eyeAt : GoodIn wsX5_holdsForPoint wsX0_eyeAt := goodIn_r _ [88, 89, 90, 91, 10, 92, 18, 20, 21, 22, 23, 12, 13, 93, 94, 95, 4, 96, 28, 29, 34, 35, 36, 37, 38, 39, 40, 97, 98, 99, 100, 101, 102, 103, 104, 105, 42, 43, 44, 45, 46, 47, 106, 107, 108, 109, 52, 110, 111, 112, 113, 114, 115, 116, 117, 118, 119, 120, 121, 122, 123, 124, 125] (by decide +kernel) (by decide +kernel)
set_option maxRecDepth 20000 in
theorem gX5_holdsForPoint_X0_eyeAt : GoodIn wsX5_holdsForPoint (wsV RX5 74 RX0 yX0_eyeAt wsX0_eyeAt) := goodIn_app (goodIn_of _ (by decide +kernel)) ggX5_holdsForPoint_X0_eyeAt
set_option maxRecDepth 20000 in
theorem ggX6_init_X0_init : GoodIn wsX6_init wsX0_init := goodIn_r _ [10, 11, 2, 3, 12, 13, 14, 15, 16, 17, 18, 19, 20, 21, 22, 23, 24, 25, 26] (by decide +kernel) (by decide +kernel)
set_option maxRecDepth 20000 in
theorem gX6_init_X0_init : GoodIn wsX6_init (wsX0_init) := ggX6_init_X0_init
set_option maxRecDepth 20000 in
theorem ggX7_init_X2_init : GoodIn wsX7_init wsX2_init := goodIn_r _ [27, 28, 2, 3, 29, 30, 31, 32, 33, 34, 63, 64, 65, 66, 67] (by decide +kernel) (by decide +kernel)
set_option maxRecDepth 20000 in
theorem gX7_init_X2_init : GoodIn wsX7_init (wsX2_init) := ggX7_init_X2_init
set_option maxRecDepth 20000 in
theorem ggX7_init_X1_init : GoodIn wsX7_init wsX1_init := goodIn_r _ [37, 38, 2, 3, 39, 40, 68, 69] (by decide +kernel) (by decide +kernel)
set_option maxRecDepth 20000 in
theorem gX7_init_X1_init : GoodIn wsX7_init (wsX1_init) := ggX7_init_X1_init
set_option maxRecDepth 20000 in
theorem ggX7_init_X0_init : GoodIn wsX7_init wsX0_init := goodIn_r _ [43, 44, 2, 3, 45, 46, 47, 48, 76, 77, 78, 79, 80, 81, 82, 83, 84, 85, 86] (by decide +kernel) (by decide +kernel)
set_option maxRecDepth 20000 in
theorem gX7_init_X0_init : GoodIn wsX7_init (wsX0_init) := ggX7_init_X0_init
set_option maxRecDepth 20000 in
theorem ggX7_init_X4_init : GoodIn wsX7_init wsX4_init := goodIn_r _ [51, 52, 2, 3, 53, 54, 12, 13, 55, 42, 43, 44, 45, 46, 47, 48, 87, 88, 89, 76, 77, 78, 79, 80, 81, 82, 83, 84, 85, 86] (by decide +kernel) (by decide +kernel)
set_option maxRecDepth 20000 in
theorem gX7_init_X4_init : GoodIn wsX7_init (wsX4_init) := ggX7_init_X4_init
set_option maxRecDepth 20000 in
theorem ggX7_init_X6_init : GoodIn wsX7_init wsX6_init := goodIn_r _ [58, 59, 2, 3, 60, 12, 13, 61, 62, 42, 43, 44, 45, 46, 47, 48, 76, 77, 78, 79, 80, 81, 82, 83, 84, 85, 86, 90, 91] (by decide +kernel) (by decide +kernel)
set_option maxRecDepth 20000 in
theorem gX7_init_X6_init : GoodIn wsX7_init (wsX6_init) := ggX7_init_X6_init
set_option maxRecDepth 20000 in
theorem ggX7_append_X1_isFull : GoodIn wsX7_append wsX1_isFull := goodIn_r _ [10, 11, 23, 24] (by decide +kernel) (by decide +kernel)
set_option maxRecDepth 20000 in
theorem gX7_append_X1_isFull : GoodIn wsX7_append (wsV RX7 57 RX1 yX1_isFull wsX1_isFull) := goodIn_app (goodIn_of _ (by decide +kernel)) ggX7_append_X1_isFull
set_option maxRecDepth 20000 in
theorem ggX7_append_X1_add : GoodIn wsX7_append wsX1_add := goodIn_r _ [15, 11, 16, 23, 24] (by decide +kernel) (by decide +kernel)
set_option maxRecDepth 20000 in
theorem gX7_append_X1_add : GoodIn wsX7_append (wsV RX7 66 RX1 yX1_add wsX1_add) := goodIn_app (goodIn_of _ (by decide +kernel)) ggX7_append_X1_add
set_option maxRecDepth 20000 in
theorem ggX7_load_X1_firstError : GoodIn wsX7_load wsX1_firstError := goodIn_r _ [12, 13, 14, 15, 16, 11, 17, 18, 19, 20, 21, 22, 23, 24, 25, 26, 159, 160] (by decide +kernel) (by decide +kernel)
set_option maxRecDepth 20000 in
theorem gX7_load_X1_firstError : GoodIn wsX7_load (wsV RX7 74 RX1 yX1_firstError wsX1_firstError) := goodIn_app (goodIn_of _ (by decide +kernel)) ggX7_load_X1_firstError
set_option maxRecDepth 20000 in
theorem ggX7_load_X1_rows : GoodIn wsX7_load wsX1_rows := goodIn_r _ [30, 14, 15, 16, 11, 17, 13, 18, 159, 160] (by decide +kernel) (by decide +kernel)
set_option maxRecDepth 20000 in
theorem gX7_load_X1_rows : GoodIn wsX7_load (wsV RX7 79 RX1 yX1_rows wsX1_rows) := goodIn_app (goodIn_of _ (by decide +kernel)) ggX7_load_X1_rows
set_option maxRecDepth 20000 in
theorem ggX7_load_X0_layOut : GoodIn wsX7_load wsX0_layOut := goodIn_r _ [35, 36, 37, 38, 39, 40, 41, 42, 43, 44, 45, 46, 47, 48, 49, 50, 51, 52, 53, 54, 55, 56, 57, 58, 59, 60, 61, 34, 62, 63, 64, 163, 164, 165, 166, 167, 148, 149, 150, 151, 152, 153, 154, 155, 156, 157, 158] (by decide +kernel) (by decide +kernel)
set_option maxRecDepth 20000 in
theorem gX7_load_X0_layOut : GoodIn wsX7_load (wsV RX7 82 RX0 yX0_layOut wsX0_layOut) := goodIn_app (goodIn_of _ (by decide +kernel)) ggX7_load_X0_layOut
set_option maxRecDepth 20000 in
theorem ggX7_load_X1_setting : GoodIn wsX7_load wsX1_setting := goodIn_r _ [68, 14, 15, 16, 11, 17, 13, 18, 159, 160] (by decide +kernel) (by decide +kernel)
set_option maxRecDepth 20000 in
theorem gX7_load_X1_setting : GoodIn wsX7_load (wsV RX7 85 RX1 yX1_setting wsX1_setting) := goodIn_app (goodIn_of _ (by decide +kernel)) ggX7_load_X1_setting
set_option maxRecDepth 20000 in
theorem ggX7_load_X1_firstMove : GoodIn wsX7_load wsX1_firstMove := goodIn_r _ [22, 14, 15, 16, 11, 17, 13, 18, 159, 160] (by decide +kernel) (by decide +kernel)
set_option maxRecDepth 20000 in
theorem gX7_load_X1_firstMove : GoodIn wsX7_load (wsV RX7 91 RX1 yX1_firstMove wsX1_firstMove) := goodIn_app (goodIn_of _ (by decide +kernel)) ggX7_load_X1_firstMove
set_option maxRecDepth 20000 in
theorem ggX7_load_X1_isPassAt : GoodIn wsX7_load wsX1_isPassAt := goodIn_r _ [26, 14, 15, 16, 11, 17, 13, 18, 159, 160] (by decide +kernel) (by decide +kernel)
set_option maxRecDepth 20000 in
theorem gX7_load_X1_isPassAt : GoodIn wsX7_load (wsV RX7 97 RX1 yX1_isPassAt wsX1_isPassAt) := goodIn_app (goodIn_of _ (by decide +kernel)) ggX7_load_X1_isPassAt
set_option maxRecDepth 20000 in
theorem ggX7_load_X0_passIfAllowed : GoodIn wsX7_load wsX0_passIfAllowed := goodIn_r _ [74, 40, 41, 42, 59, 60, 61, 34, 62, 63, 64, 43, 44, 148, 149, 150, 151, 152, 153, 154, 155, 156, 157, 158] (by decide +kernel) (by decide +kernel)
set_option maxRecDepth 20000 in
theorem gX7_load_X0_passIfAllowed : GoodIn wsX7_load (wsV RX7 101 RX0 yX0_passIfAllowed wsX0_passIfAllowed) := goodIn_app (goodIn_of _ (by decide +kernel)) ggX7_load_X0_passIfAllowed
set_option maxRecDepth 20000 in
theorem ggX7_load_X1_pointAt : GoodIn wsX7_load wsX1_pointAt := goodIn_r _ [78, 14, 15, 16, 11, 17, 13, 18, 159, 160] (by decide +kernel) (by decide +kernel)
set_option maxRecDepth 20000 in
theorem gX7_load_X1_pointAt : GoodIn wsX7_load (wsV RX7 104 RX1 yX1_pointAt wsX1_pointAt) := goodIn_app (goodIn_of _ (by decide +kernel)) ggX7_load_X1_pointAt
set_option maxRecDepth 20000 in
theorem ggX7_load_X0_layIfAllowed : GoodIn wsX7_load wsX0_layIfAllowed := goodIn_r _ [82, 39, 83, 84, 85, 38, 86, 54, 87, 88, 89, 34, 90, 91, 40, 92, 93, 94, 95, 96, 97, 98, 99, 43, 44, 100, 101, 102, 103, 55, 56, 104, 105, 106, 107, 57, 58, 53, 108, 109, 110, 111, 112, 113, 114, 115, 116, 117, 118, 119, 120, 121, 122, 123, 124, 63, 64, 125, 126, 127, 128, 45, 46, 42, 129, 130, 131, 132, 133, 134, 135, 59, 60, 61, 62, 148, 149, 150, 151, 152, 153, 154, 155, 156, 157, 158, 163, 164, 165, 166, 167] (by decide +kernel) (by decide +kernel)
set_option maxRecDepth 20000 in
theorem gX7_load_X0_layIfAllowed : GoodIn wsX7_load (wsV RX7 108 RX0 yX0_layIfAllowed wsX0_layIfAllowed) := goodIn_app (goodIn_of _ (by decide +kernel)) ggX7_load_X0_layIfAllowed
set_option maxRecDepth 20000 in
theorem ggX7_load_X4_forgetAll : GoodIn wsX7_load wsX4_forgetAll := goodIn_r _ [140, 141, 168, 169, 170] (by decide +kernel) (by decide +kernel)
set_option maxRecDepth 20000 in
theorem gX7_load_X4_forgetAll : GoodIn wsX7_load (wsV RX7 111 RX4 yX4_forgetAll wsX4_forgetAll) := goodIn_app (goodIn_of _ (by decide +kernel)) ggX7_load_X4_forgetAll
set_option maxRecDepth 20000 in
theorem ggX7_about_X0_turn : GoodIn wsX7_about wsX0_turn := goodIn_r _ [9, 10, 65, 66, 67, 68, 69, 70, 71, 72, 73, 74, 75] (by decide +kernel) (by decide +kernel)
set_option maxRecDepth 20000 in
theorem gX7_about_X0_turn : GoodIn wsX7_about (wsV RX7 127 RX0 yX0_turn wsX0_turn) := goodIn_app (goodIn_of _ (by decide +kernel)) ggX7_about_X0_turn
set_option maxRecDepth 20000 in
theorem ggX7_about_X0_groupsOf : GoodIn wsX7_about wsX0_groupsOf := goodIn_r _ [14, 15, 16, 17, 18, 8, 19, 20, 21, 22, 23, 24, 25, 26, 27, 28, 29, 30, 31, 32, 33, 34, 35, 36, 37, 38, 39, 65, 66, 67, 68, 69, 70, 71, 72, 73, 74, 75, 76, 77, 78, 79, 80] (by decide +kernel) (by decide +kernel)
set_option maxRecDepth 20000 in
theorem gX7_about_X0_groupsOf : GoodIn wsX7_about (wsV RX7 136 RX0 yX0_groupsOf wsX0_groupsOf) := goodIn_app (goodIn_of _ (by decide +kernel)) ggX7_about_X0_groupsOf
set_option maxRecDepth 20000 in
theorem ggX7_about_X0_groupsWithOneLiberty : GoodIn wsX7_about wsX0_groupsWithOneLiberty := goodIn_r _ [43, 15, 20, 21, 44, 45, 46, 25, 47, 27, 48, 49, 50, 51, 39, 28, 29, 30, 31, 32, 33, 34, 35, 36, 37, 38, 52, 53, 54, 55, 56, 57, 58, 65, 66, 67, 68, 69, 70, 71, 72, 73, 74, 75, 76, 77, 78, 79, 80] (by decide +kernel) (by decide +kernel)
set_option maxRecDepth 20000 in
theorem gX7_about_X0_groupsWithOneLiberty : GoodIn wsX7_about (wsV RX7 139 RX0 yX0_groupsWithOneLiberty wsX0_groupsWithOneLiberty) := goodIn_app (goodIn_of _ (by decide +kernel)) ggX7_about_X0_groupsWithOneLiberty
set_option maxRecDepth 20000 in
theorem ggX7_stones_X7_isColour : GoodIn wsX7_stones wsX7_isColour := goodIn_r _ [7] (by decide +kernel) (by decide +kernel)
set_option maxRecDepth 20000 in
theorem gX7_stones_X7_isColour : GoodIn wsX7_stones (va_wsS RX7 144 yX7_isColour wsX7_isColour) := goodIn_app (goodIn_of _ (by decide +kernel)) ggX7_stones_X7_isColour
set_option maxRecDepth 20000 in
theorem ggX7_stones_X0_stonesOf : GoodIn wsX7_stones wsX0_stonesOf := goodIn_r _ [12, 13, 14, 21, 22, 23, 24, 25, 26, 27, 28, 29, 30, 31] (by decide +kernel) (by decide +kernel)
set_option maxRecDepth 20000 in
theorem gX7_stones_X0_stonesOf : GoodIn wsX7_stones (wsV RX7 152 RX0 yX0_stonesOf wsX0_stonesOf) := goodIn_app (goodIn_of _ (by decide +kernel)) ggX7_stones_X0_stonesOf
set_option maxRecDepth 20000 in
theorem ggX7_colour_X7_isColour : GoodIn wsX7_colour wsX7_isColour := goodIn_r _ [9] (by decide +kernel) (by decide +kernel)
set_option maxRecDepth 20000 in
theorem gX7_colour_X7_isColour : GoodIn wsX7_colour (va_wsS RX7 144 yX7_isColour wsX7_isColour) := goodIn_app (goodIn_of _ (by decide +kernel)) ggX7_colour_X7_isColour
set_option maxRecDepth 20000 in
theorem ggX7_colour_X0_stonesOf : GoodIn wsX7_colour wsX0_stonesOf := goodIn_r _ [14, 15, 16, 91, 92, 93, 94, 95, 96, 97, 98, 99, 100, 101] (by decide +kernel) (by decide +kernel)
set_option maxRecDepth 20000 in
theorem gX7_colour_X0_stonesOf : GoodIn wsX7_colour (wsV RX7 152 RX0 yX0_stonesOf wsX0_stonesOf) := goodIn_app (goodIn_of _ (by decide +kernel)) ggX7_colour_X0_stonesOf
set_option maxRecDepth 20000 in
theorem ggX7_colour_J13_bitCount_95d88 : GoodIn wsX7_colour wsJ13_bitCount_95d88 := goodIn_r _ [20, 21, 22, 23] (by decide +kernel) (by decide +kernel)
set_option maxRecDepth 20000 in
theorem gX7_colour_J13_bitCount_95d88 : GoodIn wsX7_colour (va_wsS RX7 156 yJ13_bitCount_95d88 wsJ13_bitCount_95d88) := goodIn_app (goodIn_of _ (by decide +kernel)) ggX7_colour_J13_bitCount_95d88
set_option maxRecDepth 20000 in
theorem ggX7_colour_X0_captivesOf : GoodIn wsX7_colour wsX0_captivesOf := goodIn_r _ [27, 28, 29, 91, 92, 93, 94, 95, 96, 97, 98, 99, 100, 101] (by decide +kernel) (by decide +kernel)
set_option maxRecDepth 20000 in
theorem gX7_colour_X0_captivesOf : GoodIn wsX7_colour (wsV RX7 162 RX0 yX0_captivesOf wsX0_captivesOf) := goodIn_app (goodIn_of _ (by decide +kernel)) ggX7_colour_X0_captivesOf
set_option maxRecDepth 20000 in
theorem ggX7_colour_X0_areaOf : GoodIn wsX7_colour wsX0_areaOf := goodIn_r _ [33, 34, 35, 11, 12, 13, 14, 15, 16, 36, 18, 19, 20, 21, 22, 23, 37, 38, 39, 40, 41, 42, 43, 44, 45, 46, 47, 48, 49, 50, 51, 52, 53, 54, 91, 92, 93, 94, 95, 96, 97, 98, 99, 100, 101, 102, 103, 104, 105, 106] (by decide +kernel) (by decide +kernel)
set_option maxRecDepth 20000 in
theorem gX7_colour_X0_areaOf : GoodIn wsX7_colour (wsV RX7 165 RX0 yX0_areaOf wsX0_areaOf) := goodIn_app (goodIn_of _ (by decide +kernel)) ggX7_colour_X0_areaOf
set_option maxRecDepth 20000 in
theorem ggX7_colour_X0_trueEyes : GoodIn wsX7_colour wsX0_trueEyes := goodIn_r _ [58, 34, 59, 35, 11, 12, 13, 14, 15, 16, 60, 61, 62, 40, 63, 42, 43, 44, 45, 46, 47, 48, 49, 50, 64, 65, 66, 67, 68, 69, 70, 71, 72, 18, 19, 20, 21, 22, 23, 91, 92, 93, 94, 95, 96, 97, 98, 99, 100, 101, 102, 103, 104, 105, 106] (by decide +kernel) (by decide +kernel)
set_option maxRecDepth 20000 in
theorem gX7_colour_X0_trueEyes : GoodIn wsX7_colour (wsV RX7 168 RX0 yX0_trueEyes wsX0_trueEyes) := goodIn_app (goodIn_of _ (by decide +kernel)) ggX7_colour_X0_trueEyes
set_option maxRecDepth 20000 in
theorem ggX7_colour_X0_falseEyes : GoodIn wsX7_colour wsX0_falseEyes := goodIn_r _ [76, 34, 35, 11, 12, 13, 14, 15, 16, 60, 61, 62, 40, 63, 42, 43, 44, 45, 46, 47, 48, 49, 50, 64, 65, 66, 67, 68, 69, 70, 71, 72, 18, 19, 20, 21, 22, 23, 91, 92, 93, 94, 95, 96, 97, 98, 99, 100, 101, 102, 103, 104, 105, 106] (by decide +kernel) (by decide +kernel)
set_option maxRecDepth 20000 in
theorem gX7_colour_X0_falseEyes : GoodIn wsX7_colour (wsV RX7 171 RX0 yX0_falseEyes wsX0_falseEyes) := goodIn_app (goodIn_of _ (by decide +kernel)) ggX7_colour_X0_falseEyes
set_option maxRecDepth 20000 in
theorem ggX7_colour_X0_groupsOf : GoodIn wsX7_colour wsX0_groupsOf := goodIn_r _ [80, 34, 35, 11, 12, 13, 14, 15, 16, 81, 82, 83, 40, 84, 43, 51, 52, 53, 54, 44, 45, 46, 47, 48, 49, 50, 42, 91, 92, 93, 94, 95, 96, 97, 98, 99, 100, 101, 102, 103, 104, 105, 106] (by decide +kernel) (by decide +kernel)
set_option maxRecDepth 20000 in
theorem gX7_colour_X0_groupsOf : GoodIn wsX7_colour (wsV RX7 136 RX0 yX0_groupsOf wsX0_groupsOf) := goodIn_app (goodIn_of _ (by decide +kernel)) ggX7_colour_X0_groupsOf
set_option maxRecDepth 20000 in
theorem ggX7_point_X2_has : GoodIn wsX7_point wsX2_has := goodIn_r _ [10, 11, 112, 113, 114, 115, 116] (by decide +kernel) (by decide +kernel)
set_option maxRecDepth 20000 in
theorem gX7_point_X2_has : GoodIn wsX7_point (wsV RX7 176 RX2 yX2_has wsX2_has) := goodIn_app (goodIn_of _ (by decide +kernel)) ggX7_point_X2_has
set_option maxRecDepth 20000 in
theorem ggX7_point_X0_colourAt : GoodIn wsX7_point wsX0_colourAt := goodIn_r _ [16, 17, 18, 101, 102, 103, 104, 105, 106, 107, 108, 109, 110, 111] (by decide +kernel) (by decide +kernel)
set_option maxRecDepth 20000 in
theorem gX7_point_X0_colourAt : GoodIn wsX7_point (wsV RX7 181 RX0 yX0_colourAt wsX0_colourAt) := goodIn_app (goodIn_of _ (by decide +kernel)) ggX7_point_X0_colourAt
set_option maxRecDepth 20000 in
theorem ggX7_point_X0_groupAt : GoodIn wsX7_point wsX0_groupAt := goodIn_r _ [22, 23, 24, 13, 14, 15, 16, 17, 18, 25, 26, 27, 28, 29, 30, 31, 9, 32, 33, 34, 35, 36, 37, 38, 39, 40, 101, 102, 103, 104, 105, 106, 107, 108, 109, 110, 111, 112, 113, 114, 115, 116] (by decide +kernel) (by decide +kernel)
set_option maxRecDepth 20000 in
theorem gX7_point_X0_groupAt : GoodIn wsX7_point (wsV RX7 184 RX0 yX0_groupAt wsX0_groupAt) := goodIn_app (goodIn_of _ (by decide +kernel)) ggX7_point_X0_groupAt
set_option maxRecDepth 20000 in
theorem ggX7_point_J13_bitCount_95d88 : GoodIn wsX7_point wsJ13_bitCount_95d88 := goodIn_r _ [44, 45, 46, 47] (by decide +kernel) (by decide +kernel)
set_option maxRecDepth 20000 in
theorem gX7_point_J13_bitCount_95d88 : GoodIn wsX7_point (va_wsS RX7 156 yJ13_bitCount_95d88 wsJ13_bitCount_95d88) := goodIn_app (goodIn_of _ (by decide +kernel)) ggX7_point_J13_bitCount_95d88
set_option maxRecDepth 20000 in
theorem ggX7_point_X0_libertiesAt : GoodIn wsX7_point wsX0_libertiesAt := goodIn_r _ [51, 23, 24, 13, 14, 15, 16, 17, 18, 25, 26, 27, 28, 52, 53, 54, 9, 55, 40, 56, 57, 30, 31, 32, 33, 34, 35, 36, 37, 38, 39, 101, 102, 103, 104, 105, 106, 107, 108, 109, 110, 111, 112, 113, 114, 115, 116] (by decide +kernel) (by decide +kernel)
set_option maxRecDepth 20000 in
theorem gX7_point_X0_libertiesAt : GoodIn wsX7_point (wsV RX7 187 RX0 yX0_libertiesAt wsX0_libertiesAt) := goodIn_app (goodIn_of _ (by decide +kernel)) ggX7_point_X0_libertiesAt
set_option maxRecDepth 20000 in
theorem ggX7_point_X0_eyeAt : GoodIn wsX7_point wsX0_eyeAt := goodIn_r _ [61, 62, 63, 64, 15, 65, 23, 25, 26, 27, 28, 17, 18, 66, 67, 68, 9, 69, 40, 56, 33, 34, 35, 36, 37, 38, 39, 70, 71, 72, 73, 74, 75, 76, 77, 78, 42, 43, 44, 45, 46, 47, 79, 80, 81, 82, 83, 101, 102, 103, 104, 105, 106, 107, 108, 109, 110, 111, 112, 113, 114, 115, 116] (by decide +kernel) (by decide +kernel)
set_option maxRecDepth 20000 in
theorem gX7_point_X0_eyeAt : GoodIn wsX7_point (wsV RX7 190 RX0 yX0_eyeAt wsX0_eyeAt) := goodIn_app (goodIn_of _ (by decide +kernel)) ggX7_point_X0_eyeAt
set_option maxRecDepth 20000 in
theorem ggX7_point_X0_partAt : GoodIn wsX7_point wsX0_partAt := goodIn_r _ [87, 23, 88, 17, 18, 83, 29, 30, 31, 9, 32, 33, 34, 35, 36, 37, 38, 39, 40, 101, 102, 103, 104, 105, 106, 107, 108, 109, 110, 111, 112, 113, 114, 115, 116] (by decide +kernel) (by decide +kernel)
set_option maxRecDepth 20000 in
theorem gX7_point_X0_partAt : GoodIn wsX7_point (wsV RX7 193 RX0 yX0_partAt wsX0_partAt) := goodIn_app (goodIn_of _ (by decide +kernel)) ggX7_point_X0_partAt
set_option maxRecDepth 20000 in
theorem ggX7_point_X0_trueEyesAt : GoodIn wsX7_point wsX0_trueEyesAt := goodIn_r _ [92, 24, 13, 14, 15, 16, 17, 18, 93, 49, 50, 51, 23, 25, 26, 27, 28, 52, 53, 54, 9, 55, 40, 56, 57, 30, 31, 32, 33, 34, 35, 36, 37, 38, 39, 79, 80, 81, 82, 83, 66, 67, 68, 69, 70, 71, 72, 73, 74, 75, 76, 77, 78, 42, 43, 44, 45, 46, 47, 94, 101, 102, 103, 104, 105, 106, 107, 108, 109, 110, 111, 112, 113, 114, 115, 116] (by decide +kernel) (by decide +kernel)
set_option maxRecDepth 20000 in
theorem gX7_point_X0_trueEyesAt : GoodIn wsX7_point (wsV RX7 196 RX0 yX0_trueEyesAt wsX0_trueEyesAt) := goodIn_app (goodIn_of _ (by decide +kernel)) ggX7_point_X0_trueEyesAt
set_option maxRecDepth 20000 in
theorem ggX7_group_X2_has : GoodIn wsX7_group wsX2_has := goodIn_r _ [10, 11, 67, 68, 69, 70, 71] (by decide +kernel) (by decide +kernel)
set_option maxRecDepth 20000 in
theorem gX7_group_X2_has : GoodIn wsX7_group (wsV RX7 176 RX2 yX2_has wsX2_has) := goodIn_app (goodIn_of _ (by decide +kernel)) ggX7_group_X2_has
set_option maxRecDepth 20000 in
theorem ggX7_group_X0_groupAt : GoodIn wsX7_group wsX0_groupAt := goodIn_r _ [16, 17, 18, 19, 20, 15, 21, 22, 23, 24, 25, 26, 27, 28, 29, 30, 9, 31, 32, 33, 34, 35, 36, 37, 38, 39, 56, 57, 58, 59, 60, 61, 62, 63, 64, 65, 66, 67, 68, 69, 70, 71] (by decide +kernel) (by decide +kernel)
set_option maxRecDepth 20000 in
theorem gX7_group_X0_groupAt : GoodIn wsX7_group (wsV RX7 184 RX0 yX0_groupAt wsX0_groupAt) := goodIn_app (goodIn_of _ (by decide +kernel)) ggX7_group_X0_groupAt
set_option maxRecDepth 20000 in
theorem ggX7_group_X0_libertiesAt : GoodIn wsX7_group wsX0_libertiesAt := goodIn_r _ [43, 17, 18, 19, 20, 15, 21, 22, 23, 24, 25, 26, 27, 44, 45, 46, 9, 47, 39, 48, 49, 29, 30, 31, 32, 33, 34, 35, 36, 37, 38, 56, 57, 58, 59, 60, 61, 62, 63, 64, 65, 66, 67, 68, 69, 70, 71] (by decide +kernel) (by decide +kernel)
set_option maxRecDepth 20000 in
theorem gX7_group_X0_libertiesAt : GoodIn wsX7_group (wsV RX7 187 RX0 yX0_libertiesAt wsX0_libertiesAt) := goodIn_app (goodIn_of _ (by decide +kernel)) ggX7_group_X0_libertiesAt
set_option maxRecDepth 20000 in
theorem ggX7_why_X2_has : GoodIn wsX7_why wsX2_has := goodIn_r _ [8, 9, 77, 78, 79, 80, 81] (by decide +kernel) (by decide +kernel)
set_option maxRecDepth 20000 in
theorem gX7_why_X2_has : GoodIn wsX7_why (wsV RX7 176 RX2 yX2_has wsX2_has) := goodIn_app (goodIn_of _ (by decide +kernel)) ggX7_why_X2_has
set_option maxRecDepth 20000 in
theorem ggX7_why_X0_reasonAt : GoodIn wsX7_why wsX0_reasonAt := goodIn_r _ [14, 15, 16, 17, 18, 19, 20, 13, 21, 22, 23, 24, 25, 26, 27, 28, 29, 30, 7, 31, 32, 33, 34, 35, 36, 37, 38, 39, 40, 41, 42, 43, 44, 45, 46, 47, 48, 49, 50, 51, 52, 53, 54, 55, 56, 57, 58, 59, 66, 67, 68, 69, 70, 71, 72, 73, 74, 75, 76, 77, 78, 79, 80, 81] (by decide +kernel) (by decide +kernel)
set_option maxRecDepth 20000 in
theorem gX7_why_X0_reasonAt : GoodIn wsX7_why (wsV RX7 201 RX0 yX0_reasonAt wsX0_reasonAt) := goodIn_app (goodIn_of _ (by decide +kernel)) ggX7_why_X0_reasonAt
set_option maxRecDepth 20000 in
theorem ggX7_board_X4_remember : GoodIn wsX7_board wsX4_remember := goodIn_r _ [10, 11, 12, 13, 14, 15, 9, 16, 17, 18, 19, 20, 21, 22, 23, 24, 25, 26, 27, 28, 29, 30, 31, 32, 33, 79, 80, 81, 63, 64, 65, 66, 67, 68, 69, 70, 71, 72, 73] (by decide +kernel) (by decide +kernel)
set_option maxRecDepth 20000 in
theorem gX7_board_X4_remember : GoodIn wsX7_board (wsV RX7 206 RX4 yX4_remember wsX4_remember) := goodIn_app (goodIn_of _ (by decide +kernel)) ggX7_board_X4_remember
set_option maxRecDepth 20000 in
theorem ggX7_board_X0_layOut : GoodIn wsX7_board wsX0_layOut := goodIn_r _ [37, 38, 39, 40, 23, 25, 26, 27, 28, 29, 30, 31, 41, 42, 43, 44, 45, 46, 47, 48, 49, 50, 51, 52, 53, 54, 55, 21, 56, 32, 33, 74, 75, 76, 77, 78, 63, 64, 65, 66, 67, 68, 69, 70, 71, 72, 73] (by decide +kernel) (by decide +kernel)
set_option maxRecDepth 20000 in
theorem gX7_board_X0_layOut : GoodIn wsX7_board (wsV RX7 82 RX0 yX0_layOut wsX0_layOut) := goodIn_app (goodIn_of _ (by decide +kernel)) ggX7_board_X0_layOut
set_option maxRecDepth 20000 in
theorem ggX7_play_X2_has : GoodIn wsX7_play wsX2_has := goodIn_r _ [11, 12, 115, 116, 117, 118, 119] (by decide +kernel) (by decide +kernel)
set_option maxRecDepth 20000 in
theorem gX7_play_X2_has : GoodIn wsX7_play (wsV RX7 176 RX2 yX2_has wsX2_has) := goodIn_app (goodIn_of _ (by decide +kernel)) ggX7_play_X2_has
set_option maxRecDepth 20000 in
theorem ggX7_play_X0_reasonAt : GoodIn wsX7_play wsX0_reasonAt := goodIn_r _ [17, 18, 19, 20, 21, 22, 23, 16, 24, 25, 26, 27, 28, 29, 30, 31, 32, 33, 10, 34, 35, 36, 37, 38, 39, 40, 41, 42, 43, 44, 45, 46, 47, 48, 49, 50, 51, 52, 53, 54, 55, 56, 57, 58, 59, 60, 61, 62, 104, 105, 106, 107, 108, 109, 110, 111, 112, 113, 114, 115, 116, 117, 118, 119] (by decide +kernel) (by decide +kernel)
set_option maxRecDepth 20000 in
theorem gX7_play_X0_reasonAt : GoodIn wsX7_play (wsV RX7 201 RX0 yX0_reasonAt wsX0_reasonAt) := goodIn_app (goodIn_of _ (by decide +kernel)) ggX7_play_X0_reasonAt
set_option maxRecDepth 20000 in
theorem ggX7_play_X4_remember : GoodIn wsX7_play wsX4_remember := goodIn_r _ [67, 68, 69, 70, 71, 72, 66, 73, 74, 75, 76, 77, 16, 78, 18, 56, 20, 79, 80, 29, 30, 81, 82, 61, 62, 120, 121, 122, 104, 105, 106, 107, 108, 109, 110, 111, 112, 113, 114] (by decide +kernel) (by decide +kernel)
set_option maxRecDepth 20000 in
theorem gX7_play_X4_remember : GoodIn wsX7_play (wsV RX7 206 RX4 yX4_remember wsX4_remember) := goodIn_app (goodIn_of _ (by decide +kernel)) ggX7_play_X4_remember
set_option maxRecDepth 20000 in
theorem ggX7_play_X0_lay : GoodIn wsX7_play wsX0_lay := goodIn_r _ [86, 18, 29, 30, 19, 81, 82, 20, 80, 21, 22, 23, 16, 24, 25, 26, 27, 28, 31, 32, 33, 10, 34, 35, 36, 37, 38, 39, 40, 41, 42, 43, 44, 45, 46, 47, 87, 88, 89, 90, 91, 92, 93, 94, 95, 96, 97, 61, 62, 104, 105, 106, 107, 108, 109, 110, 111, 112, 113, 114, 115, 116, 117, 118, 119] (by decide +kernel) (by decide +kernel)
set_option maxRecDepth 20000 in
theorem gX7_play_X0_lay : GoodIn wsX7_play (wsV RX7 215 RX0 yX0_lay wsX0_lay) := goodIn_app (goodIn_of _ (by decide +kernel)) ggX7_play_X0_lay
set_option maxRecDepth 20000 in
theorem ggX7_pass_X4_remember : GoodIn wsX7_pass wsX4_remember := goodIn_r _ [9, 10, 11, 12, 13, 14, 8, 15, 16, 17, 18, 19, 20, 21, 22, 23, 24, 25, 26, 27, 28, 29, 30, 31, 32, 58, 59, 60, 47, 48, 49, 50, 51, 52, 53, 54, 55, 56, 57] (by decide +kernel) (by decide +kernel)
set_option maxRecDepth 20000 in
theorem gX7_pass_X4_remember : GoodIn wsX7_pass (wsV RX7 206 RX4 yX4_remember wsX4_remember) := goodIn_app (goodIn_of _ (by decide +kernel)) ggX7_pass_X4_remember
set_option maxRecDepth 20000 in
theorem ggX7_pass_X0_passIfAllowed : GoodIn wsX7_pass wsX0_passIfAllowed := goodIn_r _ [36, 24, 25, 26, 37, 38, 39, 20, 40, 31, 32, 27, 28, 47, 48, 49, 50, 51, 52, 53, 54, 55, 56, 57] (by decide +kernel) (by decide +kernel)
set_option maxRecDepth 20000 in
theorem gX7_pass_X0_passIfAllowed : GoodIn wsX7_pass (wsV RX7 101 RX0 yX0_passIfAllowed wsX0_passIfAllowed) := goodIn_app (goodIn_of _ (by decide +kernel)) ggX7_pass_X0_passIfAllowed
set_option maxRecDepth 20000 in
theorem ggX7_set_X4_remember : GoodIn wsX7_set wsX4_remember := goodIn_r _ [9, 10, 11, 12, 13, 14, 8, 15, 16, 17, 18, 19, 20, 21, 22, 23, 24, 25, 26, 27, 28, 29, 30, 31, 32, 50, 51, 52, 39, 40, 41, 42, 43, 44, 45, 46, 47, 48, 49] (by decide +kernel) (by decide +kernel)
set_option maxRecDepth 20000 in
theorem gX7_set_X4_remember : GoodIn wsX7_set (wsV RX7 206 RX4 yX4_remember wsX4_remember) := goodIn_app (goodIn_of _ (by decide +kernel)) ggX7_set_X4_remember
set_option maxRecDepth 20000 in
theorem ggX7_undo_X4_takeBackInto : GoodIn wsX7_undo wsX4_takeBackInto := goodIn_r _ [9, 10, 11, 12, 13, 8, 14, 15, 16, 17, 18, 19, 20, 21, 22, 23, 24, 25, 26, 27, 28, 29, 30, 31, 32, 39, 40, 41, 42, 43, 44, 45, 46, 47, 48, 49, 50, 51, 52] (by decide +kernel) (by decide +kernel)
set_option maxRecDepth 20000 in
theorem gX7_undo_X4_takeBackInto : GoodIn wsX7_undo (wsV RX7 227 RX4 yX4_takeBackInto wsX4_takeBackInto) := goodIn_app (goodIn_of _ (by decide +kernel)) ggX7_undo_X4_takeBackInto
set_option maxRecDepth 20000 in
theorem ggX7_ifPlayed_X2_has : GoodIn wsX7_ifPlayed wsX2_has := goodIn_r _ [10, 11, 97, 98, 99, 100, 101] (by decide +kernel) (by decide +kernel)
set_option maxRecDepth 20000 in
theorem gX7_ifPlayed_X2_has : GoodIn wsX7_ifPlayed (wsV RX7 176 RX2 yX2_has wsX2_has) := goodIn_app (goodIn_of _ (by decide +kernel)) ggX7_ifPlayed_X2_has
set_option maxRecDepth 20000 in
theorem ggX7_ifPlayed_X0_reasonAt : GoodIn wsX7_ifPlayed wsX0_reasonAt := goodIn_r _ [16, 17, 18, 19, 20, 21, 22, 15, 23, 24, 25, 26, 27, 28, 29, 30, 31, 32, 9, 33, 34, 35, 36, 37, 38, 39, 40, 41, 42, 43, 44, 45, 46, 47, 48, 49, 50, 51, 52, 53, 54, 55, 56, 57, 58, 59, 60, 61, 86, 87, 88, 89, 90, 91, 92, 93, 94, 95, 96, 97, 98, 99, 100, 101] (by decide +kernel) (by decide +kernel)
set_option maxRecDepth 20000 in
theorem gX7_ifPlayed_X0_reasonAt : GoodIn wsX7_ifPlayed (wsV RX7 201 RX0 yX0_reasonAt wsX0_reasonAt) := goodIn_app (goodIn_of _ (by decide +kernel)) ggX7_ifPlayed_X0_reasonAt
set_option maxRecDepth 20000 in
theorem ggX7_ifPlayed_X0_effectOf : GoodIn wsX7_ifPlayed wsX0_effectOf := goodIn_r _ [65, 17, 18, 20, 21, 22, 15, 23, 19, 24, 25, 26, 27, 28, 29, 30, 31, 32, 9, 33, 34, 35, 36, 37, 38, 39, 40, 41, 42, 43, 44, 45, 46, 66, 67, 68, 69, 70, 71, 72, 47, 48, 49, 50, 73, 74, 75, 76, 77, 78, 79, 86, 87, 88, 89, 90, 91, 92, 93, 94, 95, 96, 97, 98, 99, 100, 101] (by decide +kernel) (by decide +kernel)
set_option maxRecDepth 20000 in
theorem gX7_ifPlayed_X0_effectOf : GoodIn wsX7_ifPlayed (wsV RX7 233 RX0 yX0_effectOf wsX0_effectOf) := goodIn_app (goodIn_of _ (by decide +kernel)) ggX7_ifPlayed_X0_effectOf
set_option maxRecDepth 20000 in
theorem ggX7_bestTake_X0_reasonAt : GoodIn wsX7_bestTake wsX0_reasonAt := goodIn_r _ [7, 8, 9, 10, 11, 12, 13, 6, 14, 15, 16, 17, 18, 19, 20, 21, 22, 23, 24, 25, 26, 27, 28, 29, 30, 31, 32, 33, 34, 35, 36, 37, 38, 39, 40, 41, 42, 43, 44, 45, 46, 47, 48, 49, 50, 51, 52, 53, 78, 79, 80, 81, 82, 83, 84, 85, 86, 87, 88, 89, 90, 91, 92, 93] (by decide +kernel) (by decide +kernel)
set_option maxRecDepth 20000 in
theorem gX7_bestTake_X0_reasonAt : GoodIn wsX7_bestTake (wsV RX7 201 RX0 yX0_reasonAt wsX0_reasonAt) := goodIn_app (goodIn_of _ (by decide +kernel)) ggX7_bestTake_X0_reasonAt
set_option maxRecDepth 20000 in
theorem ggX7_bestTake_X0_effectOf : GoodIn wsX7_bestTake wsX0_effectOf := goodIn_r _ [57, 8, 9, 11, 12, 13, 6, 14, 10, 15, 16, 17, 18, 19, 20, 21, 22, 23, 24, 25, 26, 27, 28, 29, 30, 31, 32, 33, 34, 35, 36, 37, 38, 58, 59, 60, 61, 62, 63, 64, 39, 40, 41, 42, 65, 66, 67, 68, 69, 70, 71, 78, 79, 80, 81, 82, 83, 84, 85, 86, 87, 88, 89, 90, 91, 92, 93] (by decide +kernel) (by decide +kernel)
set_option maxRecDepth 20000 in
theorem gX7_bestTake_X0_effectOf : GoodIn wsX7_bestTake (wsV RX7 233 RX0 yX0_effectOf wsX0_effectOf) := goodIn_app (goodIn_of _ (by decide +kernel)) ggX7_bestTake_X0_effectOf
set_option maxRecDepth 20000 in
theorem ggX7_choices_X0_reasonAt : GoodIn wsX7_choices wsX0_reasonAt := goodIn_r _ [7, 8, 9, 10, 11, 12, 13, 6, 14, 15, 16, 17, 18, 19, 20, 21, 22, 23, 24, 25, 26, 27, 28, 29, 30, 31, 32, 33, 34, 35, 36, 37, 38, 39, 40, 41, 42, 43, 44, 45, 46, 47, 48, 49, 50, 51, 52, 53, 60, 61, 62, 63, 64, 65, 66, 67, 68, 69, 70, 71, 72, 73, 74, 75] (by decide +kernel) (by decide +kernel)
set_option maxRecDepth 20000 in
theorem gX7_choices_X0_reasonAt : GoodIn wsX7_choices (wsV RX7 201 RX0 yX0_reasonAt wsX0_reasonAt) := goodIn_app (goodIn_of _ (by decide +kernel)) ggX7_choices_X0_reasonAt
set_option maxRecDepth 20000 in
theorem ggX7_ladder_X2_has : GoodIn wsX7_ladder wsX2_has := goodIn_r _ [10, 11, 76, 77, 78, 79, 80] (by decide +kernel) (by decide +kernel)
set_option maxRecDepth 20000 in
theorem gX7_ladder_X2_has : GoodIn wsX7_ladder (wsV RX7 176 RX2 yX2_has wsX2_has) := goodIn_app (goodIn_of _ (by decide +kernel)) ggX7_ladder_X2_has
set_option maxRecDepth 20000 in
theorem ggX7_ladder_X0_colourAt : GoodIn wsX7_ladder wsX0_colourAt := goodIn_r _ [16, 17, 18, 65, 66, 67, 68, 69, 70, 71, 72, 73, 74, 75] (by decide +kernel) (by decide +kernel)
set_option maxRecDepth 20000 in
theorem gX7_ladder_X0_colourAt : GoodIn wsX7_ladder (wsV RX7 181 RX0 yX0_colourAt wsX0_colourAt) := goodIn_app (goodIn_of _ (by decide +kernel)) ggX7_ladder_X0_colourAt
set_option maxRecDepth 20000 in
theorem ggX7_ladder_X0_stonesOf : GoodIn wsX7_ladder wsX0_stonesOf := goodIn_r _ [22, 17, 18, 65, 66, 67, 68, 69, 70, 71, 72, 73, 74, 75] (by decide +kernel) (by decide +kernel)
set_option maxRecDepth 20000 in
theorem gX7_ladder_X0_stonesOf : GoodIn wsX7_ladder (wsV RX7 152 RX0 yX0_stonesOf wsX0_stonesOf) := goodIn_app (goodIn_of _ (by decide +kernel)) ggX7_ladder_X0_stonesOf
set_option maxRecDepth 20000 in
theorem ggX7_ladder_X3_firstStone : GoodIn wsX7_ladder wsX3_firstStone := goodIn_r _ [25, 26, 27, 28, 29, 9, 30, 31, 32, 33, 34, 35, 36, 37, 38, 39, 40, 41, 42, 43, 44, 45, 46, 47, 48, 49, 50, 51, 52, 53, 54, 55, 56, 24, 57, 58, 23, 76, 77, 78, 79, 80] (by decide +kernel) (by decide +kernel)
set_option maxRecDepth 20000 in
theorem gX7_ladder_X3_firstStone_n237 : GoodIn wsX7_ladder (wsX3_firstStone) := ggX7_ladder_X3_firstStone
set_option maxRecDepth 20000 in
theorem ggX7_ladder_X3_holdsOwner : GoodIn wsX7_ladder wsX3_holdsOwner := goodIn_r _ [57, 26, 27, 28, 29, 9, 30, 31, 32, 33, 34, 35, 36, 37, 38, 39, 40, 41, 42, 43, 44, 45, 46, 47, 48, 49, 50, 51, 52, 53, 54, 58, 23, 24, 25, 55, 56, 76, 77, 78, 79, 80] (by decide +kernel) (by decide +kernel)
set_option maxRecDepth 20000 in
theorem gX7_ladder_X3_holdsOwner_n243 : GoodIn wsX7_ladder (wsX3_holdsOwner) := ggX7_ladder_X3_holdsOwner
set_option maxRecDepth 20000 in
theorem ggX7_chase_X2_has : GoodIn wsX7_chase wsX2_has := goodIn_r _ [8, 9, 75, 76, 77, 78, 79] (by decide +kernel) (by decide +kernel)
set_option maxRecDepth 20000 in
theorem gX7_chase_X2_has : GoodIn wsX7_chase (wsV RX7 176 RX2 yX2_has wsX2_has) := goodIn_app (goodIn_of _ (by decide +kernel)) ggX7_chase_X2_has
set_option maxRecDepth 20000 in
theorem ggX7_chase_X0_colourAt : GoodIn wsX7_chase wsX0_colourAt := goodIn_r _ [14, 15, 16, 64, 65, 66, 67, 68, 69, 70, 71, 72, 73, 74] (by decide +kernel) (by decide +kernel)
set_option maxRecDepth 20000 in
theorem gX7_chase_X0_colourAt : GoodIn wsX7_chase (wsV RX7 181 RX0 yX0_colourAt wsX0_colourAt) := goodIn_app (goodIn_of _ (by decide +kernel)) ggX7_chase_X0_colourAt
set_option maxRecDepth 20000 in
theorem ggX7_chase_X0_stonesOf : GoodIn wsX7_chase wsX0_stonesOf := goodIn_r _ [20, 15, 16, 64, 65, 66, 67, 68, 69, 70, 71, 72, 73, 74] (by decide +kernel) (by decide +kernel)
set_option maxRecDepth 20000 in
theorem gX7_chase_X0_stonesOf : GoodIn wsX7_chase (wsV RX7 152 RX0 yX0_stonesOf wsX0_stonesOf) := goodIn_app (goodIn_of _ (by decide +kernel)) ggX7_chase_X0_stonesOf
set_option maxRecDepth 20000 in
theorem ggX7_chase_X3_firstStone : GoodIn wsX7_chase wsX3_firstStone := goodIn_r _ [23, 24, 25, 26, 27, 7, 28, 29, 30, 31, 32, 33, 34, 35, 36, 37, 38, 39, 40, 41, 42, 43, 44, 45, 46, 47, 48, 49, 50, 51, 52, 53, 54, 22, 55, 56, 21, 75, 76, 77, 78, 79] (by decide +kernel) (by decide +kernel)
set_option maxRecDepth 20000 in
theorem gX7_chase_X3_firstStone_n237 : GoodIn wsX7_chase (wsX3_firstStone) := ggX7_chase_X3_firstStone
set_option maxRecDepth 20000 in
theorem ggX7_chase_J13_bitCount_95d88 : GoodIn wsX7_chase wsJ13_bitCount_95d88 := goodIn_r _ [45, 46, 47, 48] (by decide +kernel) (by decide +kernel)
set_option maxRecDepth 20000 in
theorem gX7_chase_J13_bitCount_95d88 : GoodIn wsX7_chase (va_wsS RX7 156 yJ13_bitCount_95d88 wsJ13_bitCount_95d88) := goodIn_app (goodIn_of _ (by decide +kernel)) ggX7_chase_J13_bitCount_95d88
set_option maxRecDepth 20000 in
theorem ggX7_lead_X0_areaOf : GoodIn wsX7_lead wsX0_areaOf := goodIn_r _ [6, 7, 8, 9, 10, 5, 11, 12, 13, 14, 15, 16, 17, 18, 19, 20, 21, 22, 23, 24, 25, 26, 27, 28, 29, 30, 31, 32, 33, 34, 35, 36, 37, 38, 45, 46, 47, 48, 49, 50, 51, 52, 53, 54, 55, 56, 57, 58, 59, 60] (by decide +kernel) (by decide +kernel)
set_option maxRecDepth 20000 in
theorem gX7_lead_X0_areaOf : GoodIn wsX7_lead (wsV RX7 165 RX0 yX0_areaOf wsX0_areaOf) := goodIn_app (goodIn_of _ (by decide +kernel)) ggX7_lead_X0_areaOf
set_option maxRecDepth 20000 in
theorem ggX7_runScript_X7_commandsIn : GoodIn wsX7_runScript wsX7_commandsIn := goodIn_r _ [8, 9] (by decide +kernel) (by decide +kernel)
set_option maxRecDepth 20000 in
theorem gX7_runScript_X7_commandsIn : GoodIn wsX7_runScript (va_wsS RX7 249 yX7_commandsIn wsX7_commandsIn) := goodIn_app (goodIn_of _ (by decide +kernel)) ggX7_runScript_X7_commandsIn
set_option maxRecDepth 20000 in
theorem ggX7_runScript_X0_copyFrom : GoodIn wsX7_runScript wsX0_copyFrom := goodIn_r _ [14, 15, 16, 17, 18, 19, 20, 21, 22, 23, 24, 25, 180, 181, 182, 183, 184, 185, 186, 187, 188, 189, 190] (by decide +kernel) (by decide +kernel)
set_option maxRecDepth 20000 in
theorem gX7_runScript_X0_copyFrom : GoodIn wsX7_runScript (wsV RX7 254 RX0 yX0_copyFrom wsX0_copyFrom) := goodIn_app (goodIn_of _ (by decide +kernel)) ggX7_runScript_X0_copyFrom
set_option maxRecDepth 20000 in
theorem ggX7_runScript_X5_commandFromEnd : GoodIn wsX7_runScript wsX5_commandFromEnd := goodIn_r _ [29, 30] (by decide +kernel) (by decide +kernel)
set_option maxRecDepth 20000 in
theorem gX7_runScript_X5_commandFromEnd : GoodIn wsX7_runScript (va_wsS RX7 257 yX5_commandFromEnd wsX5_commandFromEnd) := goodIn_app (goodIn_of _ (by decide +kernel)) ggX7_runScript_X5_commandFromEnd
set_option maxRecDepth 20000 in
theorem ggX7_runScript_X5_succeeds : GoodIn wsX7_runScript wsX5_succeeds := goodIn_r _ [33, 34, 35, 36, 13, 37, 15, 38, 39, 40, 41, 42, 43, 44, 45, 46, 47, 48, 17, 49, 50, 51, 52, 53, 54, 55, 56, 20, 21, 57, 58, 59, 60, 61, 62, 63, 64, 65, 66, 67, 68, 69, 70, 71, 72, 73, 74, 75, 76, 77, 78, 79, 80, 81, 16, 82, 83, 84, 85, 24, 25, 86, 87, 88, 89, 22, 23, 19, 90, 91, 92, 93, 94, 95, 96, 97, 98, 99, 100, 101, 102, 103, 104, 18, 105, 106, 28, 107, 108, 7, 109, 110, 111, 112, 113, 114, 115, 116, 117, 118, 119, 120, 121, 122, 123, 124, 125, 126, 127, 128, 129, 130, 131, 132, 133, 134, 135, 136, 137, 138, 139, 140, 141, 142, 143, 144, 145, 146, 147, 148, 149, 150, 151, 152, 153, 154, 155, 156, 157, 158, 159, 160, 161, 162, 163, 164, 165, 166, 167, 168, 169, 170, 171, 172, 173, 180, 181, 182, 183, 184, 185, 186, 187, 188, 189, 190, 191, 192, 193, 194, 195] (by decide +kernel) (by decide +kernel)
set_option maxRecDepth 20000 in
theorem gX7_runScript_X5_succeeds : GoodIn wsX7_runScript (va_wsS RX7 263 yX5_succeeds wsX5_succeeds) := goodIn_app (goodIn_of _ (by decide +kernel)) ggX7_runScript_X5_succeeds
set_option maxRecDepth 20000 in
theorem ggX7_simulate_X0_copyFrom : GoodIn wsX7_simulate wsX0_copyFrom := goodIn_r _ [12, 13, 14, 15, 16, 17, 18, 19, 20, 21, 22, 23, 115, 116, 117, 118, 119, 120, 121, 122, 123, 124, 125] (by decide +kernel) (by decide +kernel)
set_option maxRecDepth 20000 in
theorem gX7_simulate_X0_copyFrom : GoodIn wsX7_simulate (wsV RX7 254 RX0 yX0_copyFrom wsX0_copyFrom) := goodIn_app (goodIn_of _ (by decide +kernel)) ggX7_simulate_X0_copyFrom
set_option maxRecDepth 20000 in
theorem ggX7_simulate_X0_passIfAllowed : GoodIn wsX7_simulate wsX0_passIfAllowed := goodIn_r _ [27, 15, 16, 17, 28, 29, 30, 11, 31, 22, 23, 18, 19, 115, 116, 117, 118, 119, 120, 121, 122, 123, 124, 125] (by decide +kernel) (by decide +kernel)
set_option maxRecDepth 20000 in
theorem gX7_simulate_X0_passIfAllowed : GoodIn wsX7_simulate (wsV RX7 101 RX0 yX0_passIfAllowed wsX0_passIfAllowed) := goodIn_app (goodIn_of _ (by decide +kernel)) ggX7_simulate_X0_passIfAllowed
set_option maxRecDepth 20000 in
theorem ggX7_simulate_X0_layIfAllowed : GoodIn wsX7_simulate wsX0_layIfAllowed := goodIn_r _ [35, 13, 36, 37, 38, 39, 40, 41, 42, 43, 44, 11, 45, 46, 15, 47, 48, 49, 50, 51, 52, 53, 54, 18, 19, 55, 56, 57, 58, 59, 60, 61, 62, 63, 64, 65, 66, 67, 68, 69, 70, 71, 72, 73, 74, 75, 76, 77, 78, 79, 14, 80, 81, 82, 83, 22, 23, 84, 85, 86, 87, 20, 21, 17, 88, 89, 90, 91, 92, 93, 94, 28, 29, 30, 31, 115, 116, 117, 118, 119, 120, 121, 122, 123, 124, 125, 126, 127, 128, 129, 130] (by decide +kernel) (by decide +kernel)
set_option maxRecDepth 20000 in
theorem gX7_simulate_X0_layIfAllowed : GoodIn wsX7_simulate (wsV RX7 108 RX0 yX0_layIfAllowed wsX0_layIfAllowed) := goodIn_app (goodIn_of _ (by decide +kernel)) ggX7_simulate_X0_layIfAllowed
set_option maxRecDepth 20000 in
theorem ggX7_simulate_X0_captivesOf : GoodIn wsX7_simulate wsX0_captivesOf := goodIn_r _ [98, 20, 21, 115, 116, 117, 118, 119, 120, 121, 122, 123, 124, 125] (by decide +kernel) (by decide +kernel)
set_option maxRecDepth 20000 in
theorem gX7_simulate_X0_captivesOf : GoodIn wsX7_simulate (wsV RX7 162 RX0 yX0_captivesOf wsX0_captivesOf) := goodIn_app (goodIn_of _ (by decide +kernel)) ggX7_simulate_X0_captivesOf
set_option maxRecDepth 20000 in
theorem ggX7_simulate_X0_groupsOf : GoodIn wsX7_simulate wsX0_groupsOf := goodIn_r _ [102, 13, 51, 52, 53, 11, 54, 18, 19, 103, 104, 105, 39, 106, 60, 68, 69, 70, 71, 61, 62, 63, 64, 65, 66, 67, 59, 115, 116, 117, 118, 119, 120, 121, 122, 123, 124, 125, 126, 127, 128, 129, 130] (by decide +kernel) (by decide +kernel)
set_option maxRecDepth 20000 in
theorem gX7_simulate_X0_groupsOf : GoodIn wsX7_simulate (wsV RX7 136 RX0 yX0_groupsOf wsX0_groupsOf) := goodIn_app (goodIn_of _ (by decide +kernel)) ggX7_simulate_X0_groupsOf
set_option maxRecDepth 20000 in
theorem ggX7_simulate_X0_stonesOf : GoodIn wsX7_simulate wsX0_stonesOf := goodIn_r _ [54, 18, 19, 115, 116, 117, 118, 119, 120, 121, 122, 123, 124, 125] (by decide +kernel) (by decide +kernel)
set_option maxRecDepth 20000 in
theorem gX7_simulate_X0_stonesOf : GoodIn wsX7_simulate (wsV RX7 152 RX0 yX0_stonesOf wsX0_stonesOf) := goodIn_app (goodIn_of _ (by decide +kernel)) ggX7_simulate_X0_stonesOf
set_option maxRecDepth 20000 in
theorem ggX7_simulate_J13_bitCount_95d88 : GoodIn wsX7_simulate wsJ13_bitCount_95d88 := goodIn_r _ [91, 92, 93, 94] (by decide +kernel) (by decide +kernel)
set_option maxRecDepth 20000 in
theorem gX7_simulate_J13_bitCount_95d88 : GoodIn wsX7_simulate (va_wsS RX7 156 yJ13_bitCount_95d88 wsJ13_bitCount_95d88) := goodIn_app (goodIn_of _ (by decide +kernel)) ggX7_simulate_J13_bitCount_95d88
set_option maxRecDepth 20000 in
theorem ggX7_save_X0_copyFrom : GoodIn wsX7_save wsX0_copyFrom := goodIn_r _ [10, 11, 12, 13, 14, 15, 16, 17, 18, 19, 20, 21, 30, 31, 32, 33, 34, 35, 36, 37, 38, 39, 40] (by decide +kernel) (by decide +kernel)
set_option maxRecDepth 20000 in
theorem gX7_save_X0_copyFrom : GoodIn wsX7_save (wsV RX7 254 RX0 yX0_copyFrom wsX0_copyFrom) := goodIn_app (goodIn_of _ (by decide +kernel)) ggX7_save_X0_copyFrom
set_option maxRecDepth 20000 in
theorem ggX7_restore_X0_copyFrom : GoodIn wsX7_restore wsX0_copyFrom := goodIn_r _ [13, 14, 15, 16, 17, 18, 19, 20, 21, 22, 23, 24, 39, 40, 41, 42, 43, 44, 45, 46, 47, 48, 49] (by decide +kernel) (by decide +kernel)
set_option maxRecDepth 20000 in
theorem gX7_restore_X0_copyFrom : GoodIn wsX7_restore (wsV RX7 254 RX0 yX0_copyFrom wsX0_copyFrom) := goodIn_app (goodIn_of _ (by decide +kernel)) ggX7_restore_X0_copyFrom
set_option maxRecDepth 20000 in
theorem ggX7_restore_X4_forgetAll : GoodIn wsX7_restore wsX4_forgetAll := goodIn_r _ [29, 30, 50, 51, 52] (by decide +kernel) (by decide +kernel)
set_option maxRecDepth 20000 in
theorem gX7_restore_X4_forgetAll : GoodIn wsX7_restore (wsV RX7 111 RX4 yX4_forgetAll wsX4_forgetAll) := goodIn_app (goodIn_of _ (by decide +kernel)) ggX7_restore_X4_forgetAll
