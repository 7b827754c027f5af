set_option maxRecDepth 20000 in
theorem ggL_has_L_ruling : GoodIn wsL_has wsL_ruling := goodIn_r _ [6] rfl (by decide +kernel)
set_option maxRecDepth 20000 in
theorem gL_has_L_ruling : GoodIn wsL_has (va_wsS RL 12 yL_ruling wsL_ruling) := goodIn_app (goodIn_of _ (by decide +kernel)) ggL_has_L_ruling
set_option maxRecDepth 20000 in
theorem ggL_hasOf_L_has : GoodIn wsL_hasOf wsL_has := goodIn_r _ [6, 1, 2, 7, 8, 5, 9] rfl (by decide +kernel)
set_option maxRecDepth 20000 in
theorem gL_hasOf_L_has : GoodIn wsL_hasOf (va_wsS RL 18 yL_has wsL_has) := goodIn_app (goodIn_of _ (by decide +kernel)) ggL_hasOf_L_has
set_option maxRecDepth 20000 in
theorem ggL_conflict_L_ruling : GoodIn wsL_conflict wsL_ruling := goodIn_r _ [4] rfl (by decide +kernel)
set_option maxRecDepth 20000 in
theorem gL_conflict_L_ruling : GoodIn wsL_conflict (va_wsS RL 12 yL_ruling wsL_ruling) := goodIn_app (goodIn_of _ (by decide +kernel)) ggL_conflict_L_ruling
set_option maxRecDepth 20000 in
theorem ggL_conflict_L_hasOf : GoodIn wsL_conflict wsL_hasOf := goodIn_r _ [7, 8, 9, 10, 11, 3, 12, 1, 2, 4] rfl (by decide +kernel)
set_option maxRecDepth 20000 in
theorem gL_conflict_L_hasOf : GoodIn wsL_conflict (va_wsS RL 22 yL_hasOf wsL_hasOf) := goodIn_app (goodIn_of _ (by decide +kernel)) ggL_conflict_L_hasOf
set_option maxRecDepth 20000 in
theorem ggL_conflict_L_differ : GoodIn wsL_conflict wsL_differ := goodIn_r _ [15] rfl (by decide +kernel)
set_option maxRecDepth 20000 in
theorem gL_conflict_L_differ : GoodIn wsL_conflict (va_wsS RL 25 yL_differ wsL_differ) := goodIn_app (goodIn_of _ (by decide +kernel)) ggL_conflict_L_differ
set_option maxRecDepth 20000 in
theorem ggL_areWords_L_has : GoodIn wsL_areWords wsL_has := goodIn_r _ [5, 6, 7, 8, 9, 4, 10] rfl (by decide +kernel)
set_option maxRecDepth 20000 in
theorem gL_areWords_L_has : GoodIn wsL_areWords (va_wsS RL 18 yL_has wsL_has) := goodIn_app (goodIn_of _ (by decide +kernel)) ggL_areWords_L_has
set_option maxRecDepth 20000 in
theorem ggL_areWords_X7_value : GoodIn wsL_areWords wsX7_value := goodIn_r _ [15, 16, 17, 18, 19, 20, 14, 21, 22, 23, 24, 25, 26, 27, 28, 29, 30, 31, 32, 33, 34, 35, 36, 37, 38, 39, 40, 41, 42, 43, 44, 45, 46, 47, 48, 49, 50, 51, 52, 53, 54, 55, 56, 57, 58, 59, 60, 61, 62, 63, 64, 65, 66, 67, 68, 69, 180, 181, 182, 183, 184, 185, 186, 187, 188, 189, 190, 191, 192, 193, 194, 195, 196, 197, 198, 199, 200, 201, 202, 203, 204, 205] rfl (by decide +kernel)
set_option maxRecDepth 20000 in
theorem gL_areWords_X7_value : GoodIn wsL_areWords (wsV RL 29 RX7 yX7_value wsX7_value) := goodIn_app (goodIn_of _ (by decide +kernel)) ggL_areWords_X7_value
set_option maxRecDepth 20000 in
theorem ggL_areWords_L_conflict : GoodIn wsL_areWords wsL_conflict := goodIn_r _ [72, 8, 9, 4, 10, 73, 74, 75, 6, 7, 2, 3, 5, 76, 77, 78] rfl (by decide +kernel)
set_option maxRecDepth 20000 in
theorem gL_areWords_L_conflict : GoodIn wsL_areWords (va_wsS RL 35 yL_conflict wsL_conflict) := goodIn_app (goodIn_of _ (by decide +kernel)) ggL_areWords_L_conflict
set_option maxRecDepth 20000 in
theorem ggL_areWords_X7_word : GoodIn wsL_areWords wsX7_word := goodIn_r _ [82, 16, 83, 84, 17, 19, 20, 14, 21, 26, 27, 28, 29, 30, 31, 32, 33, 34, 35, 36, 37, 38, 39, 40, 41, 42, 43, 44, 45, 46, 47, 48, 49, 50, 51, 52, 53, 54, 55, 56, 57, 58, 59, 60, 61, 62, 63, 64, 65, 66, 67, 68, 69, 85, 86, 87, 88, 89, 90, 91, 92, 93, 94, 95, 96, 97, 98, 99, 100, 101, 102, 103, 104, 105, 106, 107, 108, 109, 110, 111, 112, 113, 114, 115, 116, 117, 118, 119, 120, 121, 122, 123, 124, 125, 126, 127, 128, 129, 130, 131, 132, 133, 134, 135, 136, 137, 180, 181, 182, 183, 184, 185, 186, 187, 188, 189, 190, 191, 192, 193, 194, 195, 196, 197, 198, 199, 200, 201, 202, 203, 204, 205] rfl (by decide +kernel)
set_option maxRecDepth 20000 in
theorem gL_areWords_X7_word : GoodIn wsL_areWords (wsV RL 39 RX7 yX7_word wsX7_word) := goodIn_app (goodIn_of _ (by decide +kernel)) ggL_areWords_X7_word
set_option maxRecDepth 20000 in
theorem ggL_areWords_L_ruling : GoodIn wsL_areWords wsL_ruling := goodIn_r _ [10] rfl (by decide +kernel)
set_option maxRecDepth 20000 in
theorem gL_areWords_L_ruling : GoodIn wsL_areWords (va_wsS RL 12 yL_ruling wsL_ruling) := goodIn_app (goodIn_of _ (by decide +kernel)) ggL_areWords_L_ruling
set_option maxRecDepth 20000 in
theorem ggL_areWords_X7_hangsAt : GoodIn wsL_areWords wsX7_hangsAt := goodIn_r _ [141, 84, 19, 20, 14, 21, 85, 86, 87, 44, 88, 89, 90, 91, 92, 93, 94, 95, 42, 43, 45, 46, 180, 181, 182, 183, 184, 185, 186, 187, 188, 193, 194, 195, 196, 197, 198, 199, 200, 201, 202, 203, 204, 205] rfl (by decide +kernel)
set_option maxRecDepth 20000 in
theorem gL_areWords_X7_hangsAt : GoodIn wsL_areWords (wsV RL 43 RX7 yX7_hangsAt wsX7_hangsAt) := goodIn_app (goodIn_of _ (by decide +kernel)) ggL_areWords_X7_hangsAt
set_option maxRecDepth 20000 in
theorem ggL_areWords_X7_count : GoodIn wsL_areWords wsX7_count := goodIn_r _ [145, 16, 84, 146, 147, 148, 149, 150, 151, 152, 153, 26, 27, 28, 29, 30, 31, 32, 33, 34, 35, 36, 37, 38, 39, 40, 41, 42, 43, 44, 45, 46, 47, 48, 49, 50, 51, 52, 53, 54, 55, 56, 57, 58, 59, 60, 61, 62, 63, 64, 65, 66, 67, 68, 69, 154, 155, 156, 157, 158, 159, 160, 161, 89, 162, 163, 164, 165, 166, 167, 168, 169, 170, 171, 172, 173, 174, 175, 108, 109, 110, 111, 91, 92, 93, 94, 95, 112, 113, 114, 115, 116, 117, 118, 119, 120, 121, 176, 177, 178, 179, 126, 127, 128, 129, 130, 131, 132, 133, 180, 181, 182, 183, 184, 185, 186, 187, 188, 193, 194, 195, 196, 197, 198, 199, 200, 201, 202, 203, 204, 205, 206, 207, 208, 209, 189, 190, 191, 192] rfl (by decide +kernel)
set_option maxRecDepth 20000 in
theorem gL_areWords_X7_count : GoodIn wsL_areWords (wsV RL 46 RX7 yX7_count wsX7_count) := goodIn_app (goodIn_of _ (by decide +kernel)) ggL_areWords_X7_count
set_option maxRecDepth 20000 in
theorem ggL_areOrders_X7_order : GoodIn wsL_areOrders wsX7_order := goodIn_r _ [7, 8, 9, 10, 11, 12, 13, 14, 15, 16, 17, 18, 19, 20, 21, 22, 23, 24, 6, 25, 26, 27, 28, 29, 30, 31, 32, 33, 34, 35, 36, 37, 38, 39, 40, 41, 42, 43, 44, 45, 46, 47, 48, 49, 50, 51, 52, 53, 54, 55, 56, 57, 58, 59, 60, 61, 62, 63, 64, 65, 66, 67, 68, 69, 70, 71, 72, 73, 74, 75, 76, 77, 78, 79, 80, 81, 82, 83, 84, 85, 86, 87, 88, 89, 90, 91, 92, 93, 94, 187, 188, 189, 190, 191, 192, 193, 194, 195, 196, 197, 198, 199, 200, 201, 202, 203, 204, 205, 206, 207, 208, 209, 210, 211, 212] rfl (by decide +kernel)
set_option maxRecDepth 20000 in
theorem gL_areOrders_X7_order : GoodIn wsL_areOrders (wsV RL 50 RX7 yX7_order wsX7_order) := goodIn_app (goodIn_of _ (by decide +kernel)) ggL_areOrders_X7_order
set_option maxRecDepth 20000 in
theorem ggL_areOrders_L_over : GoodIn wsL_areOrders wsL_over := goodIn_r _ [98] rfl (by decide +kernel)
set_option maxRecDepth 20000 in
theorem gL_areOrders_L_over : GoodIn wsL_areOrders (va_wsS RL 53 yL_over wsL_over) := goodIn_app (goodIn_of _ (by decide +kernel)) ggL_areOrders_L_over
set_option maxRecDepth 20000 in
theorem ggL_areOrders_L_ruling : GoodIn wsL_areOrders wsL_ruling := goodIn_r _ [101] rfl (by decide +kernel)
set_option maxRecDepth 20000 in
theorem gL_areOrders_L_ruling : GoodIn wsL_areOrders (va_wsS RL 12 yL_ruling wsL_ruling) := goodIn_app (goodIn_of _ (by decide +kernel)) ggL_areOrders_L_ruling
set_option maxRecDepth 20000 in
theorem ggL_areOrders_X7_real : GoodIn wsL_areOrders wsX7_real := goodIn_r _ [105, 8, 106, 107, 108, 12, 13, 14, 15, 16, 17, 109, 110, 6, 111, 112, 187, 188, 189, 190, 191, 192, 193, 194, 195, 196, 197, 198, 199, 200, 201, 202, 203, 204, 205, 206, 207, 208] rfl (by decide +kernel)
set_option maxRecDepth 20000 in
theorem gL_areOrders_X7_real : GoodIn wsL_areOrders (wsV RL 58 RX7 yX7_real wsX7_real) := goodIn_app (goodIn_of _ (by decide +kernel)) ggL_areOrders_X7_real
set_option maxRecDepth 20000 in
theorem ggL_areOrders_X7_valueOf : GoodIn wsL_areOrders wsX7_valueOf := goodIn_r _ [116, 8, 54, 12, 13, 14, 15, 16, 17, 109, 110, 6, 111, 112, 56, 57, 58, 59, 60, 61, 62, 63, 64, 65, 66, 67, 68, 69, 70, 71, 19, 20, 21, 22, 72, 73, 74, 75, 76, 77, 78, 79, 80, 81, 82, 83, 84, 85, 86, 87, 88, 89, 90, 91, 92, 93, 94, 117, 118, 187, 188, 189, 190, 191, 192, 193, 194, 195, 196, 197, 198, 199, 200, 201, 202, 203, 204, 205, 206, 207, 208, 209, 210, 211, 212] rfl (by decide +kernel)
set_option maxRecDepth 20000 in
theorem gL_areOrders_X7_valueOf : GoodIn wsL_areOrders (wsV RL 62 RX7 yX7_valueOf wsX7_valueOf) := goodIn_app (goodIn_of _ (by decide +kernel)) ggL_areOrders_X7_valueOf
set_option maxRecDepth 20000 in
theorem ggL_areOrders_L_hasOf : GoodIn wsL_areOrders wsL_hasOf := goodIn_r _ [121, 122, 123, 124, 125, 97, 126, 99, 100, 101] rfl (by decide +kernel)
set_option maxRecDepth 20000 in
theorem gL_areOrders_L_hasOf : GoodIn wsL_areOrders (va_wsS RL 22 yL_hasOf wsL_hasOf) := goodIn_app (goodIn_of _ (by decide +kernel)) ggL_areOrders_L_hasOf
set_option maxRecDepth 20000 in
theorem ggL_areOrders_X7_count : GoodIn wsL_areOrders wsX7_count := goodIn_r _ [130, 54, 8, 131, 132, 133, 134, 135, 136, 137, 138, 56, 57, 58, 59, 60, 61, 62, 63, 64, 65, 66, 67, 68, 69, 70, 71, 19, 20, 15, 21, 22, 72, 73, 74, 75, 76, 77, 78, 79, 80, 81, 82, 83, 84, 85, 86, 87, 88, 89, 90, 91, 92, 93, 94, 139, 140, 141, 142, 143, 144, 145, 146, 17, 147, 148, 149, 150, 151, 152, 153, 154, 155, 156, 157, 158, 159, 160, 161, 162, 163, 164, 36, 37, 38, 30, 39, 165, 166, 167, 168, 169, 170, 171, 172, 173, 174, 175, 176, 177, 178, 179, 180, 181, 182, 183, 184, 185, 186, 187, 188, 189, 190, 191, 192, 193, 194, 195, 196, 197, 198, 199, 200, 201, 202, 203, 204, 205, 206, 207, 208, 213, 214, 215, 216, 209, 210, 211, 212] rfl (by decide +kernel)
set_option maxRecDepth 20000 in
theorem gL_areOrders_X7_count : GoodIn wsL_areOrders (wsV RL 46 RX7 yX7_count wsX7_count) := goodIn_app (goodIn_of _ (by decide +kernel)) ggL_areOrders_X7_count
set_option maxRecDepth 20000 in
theorem ggL_arePersons_L_ruling : GoodIn wsL_arePersons wsL_ruling := goodIn_r _ [4] rfl (by decide +kernel)
set_option maxRecDepth 20000 in
theorem gL_arePersons_L_ruling : GoodIn wsL_arePersons (va_wsS RL 12 yL_ruling wsL_ruling) := goodIn_app (goodIn_of _ (by decide +kernel)) ggL_arePersons_L_ruling
set_option maxRecDepth 20000 in
theorem ggL_arePersons_X7_person : GoodIn wsL_arePersons wsX7_person := goodIn_r _ [9, 10, 11, 12, 13, 14, 15, 16, 17, 18, 19, 20, 21, 22, 23, 24, 25, 26, 27, 28, 29, 30, 31, 32, 33, 34, 35, 8, 36, 37, 38, 39, 40, 41, 42, 43, 44, 45, 46, 47, 48, 49, 50, 51, 52, 53, 54, 55, 56, 57, 58, 59, 60, 61, 62, 63, 64, 65, 66, 67, 68, 69, 70, 71, 72, 73, 74, 75, 76, 77, 78, 79, 80, 81, 82, 83, 84, 85, 86, 87, 88, 89, 90, 91, 92, 93, 94, 95, 96, 97, 98, 99, 100, 101, 102, 103, 104, 105, 106, 107, 108] rfl (by decide +kernel)
set_option maxRecDepth 20000 in
theorem gL_arePersons_X7_person : GoodIn wsL_arePersons (wsV RL 65 RX7 yX7_person wsX7_person) := goodIn_app (goodIn_of _ (by decide +kernel)) ggL_arePersons_X7_person
set_option maxRecDepth 20000 in
theorem ggL_isNailed_L_low : GoodIn wsL_isNailed wsL_low := goodIn_r _ [6, 7] rfl (by decide +kernel)
set_option maxRecDepth 20000 in
theorem gL_isNailed_L_low : GoodIn wsL_isNailed (va_wsS RL 68 yL_low wsL_low) := goodIn_app (goodIn_of _ (by decide +kernel)) ggL_isNailed_L_low
set_option maxRecDepth 20000 in
theorem ggL_isNailed_L_bits : GoodIn wsL_isNailed wsL_bits := goodIn_r _ [10, 11] rfl (by decide +kernel)
set_option maxRecDepth 20000 in
theorem gL_isNailed_L_bits : GoodIn wsL_isNailed (va_wsS RL 71 yL_bits wsL_bits) := goodIn_app (goodIn_of _ (by decide +kernel)) ggL_isNailed_L_bits
set_option maxRecDepth 20000 in
theorem ggL_isNailed_X7_nail : GoodIn wsL_isNailed wsX7_nail := goodIn_r _ [16, 17, 18, 19, 20, 21, 22, 23, 24, 25, 26, 15, 27, 28, 29, 30, 31, 32, 33, 34, 35, 36, 37, 38, 39, 40, 41, 42, 43, 44, 45, 46, 47, 48, 49, 50, 51, 52, 53, 54, 55, 56, 57, 58, 59, 60, 61, 62, 63, 64, 65, 66, 67, 68, 69, 70, 71, 72, 73, 74, 75, 76, 77, 78, 79, 80, 81, 82, 83, 84, 85, 86, 87, 88, 89, 90, 91, 92, 93, 94, 95, 96, 97, 98, 103, 104, 105, 106, 107, 108, 109, 110, 111, 112, 113, 114, 115, 116, 117, 118, 119, 120, 121, 122, 123, 124, 125, 126] rfl (by decide +kernel)
set_option maxRecDepth 20000 in
theorem gL_isNailed_X7_nail : GoodIn wsL_isNailed (wsV RL 74 RX7 yX7_nail wsX7_nail) := goodIn_app (goodIn_of _ (by decide +kernel)) ggL_isNailed_X7_nail
set_option maxRecDepth 20000 in
theorem ggL_isNailed_X7_nailLink : GoodIn wsL_isNailed wsX7_nailLink := goodIn_r _ [102, 17, 18, 19, 20, 21, 22, 23, 24, 25, 26, 15, 27, 28, 29, 30, 31, 32, 33, 34, 35, 36, 37, 38, 39, 40, 41, 42, 43, 44, 45, 46, 47, 48, 49, 50, 51, 52, 53, 54, 55, 56, 57, 58, 59, 60, 61, 62, 63, 64, 65, 66, 67, 68, 69, 70, 71, 72, 73, 74, 75, 76, 77, 78, 79, 80, 81, 82, 83, 84, 85, 86, 87, 88, 89, 90, 91, 92, 93, 94, 95, 96, 97, 98, 103, 104, 105, 106, 107, 108, 109, 110, 111, 112, 113, 114, 115, 116, 117, 118, 119, 120, 121, 122, 123, 124, 125, 126] rfl (by decide +kernel)
set_option maxRecDepth 20000 in
theorem gL_isNailed_X7_nailLink : GoodIn wsL_isNailed (wsV RL 78 RX7 yX7_nailLink wsX7_nailLink) := goodIn_app (goodIn_of _ (by decide +kernel)) ggL_isNailed_X7_nailLink
set_option maxRecDepth 20000 in
theorem ggL_isStruck_X7_tear : GoodIn wsL_isStruck wsX7_tear := goodIn_r _ [8, 9, 10, 11, 12, 13, 14, 15, 16, 17, 18, 19, 20, 21, 22, 23, 24, 25, 26, 27, 28, 29, 30, 31, 32, 33, 34, 35, 36, 37, 38, 39, 40, 41, 42, 43, 44, 45, 46, 47, 48, 49, 50, 51, 52, 53, 54, 55, 56, 57, 58, 59, 60, 61, 62, 63, 64, 65, 66, 84, 85, 86, 87, 88, 89, 90, 91, 92, 93, 94, 95, 96, 97, 98, 99, 100, 101, 102, 103, 104, 105, 106, 107] rfl (by decide +kernel)
set_option maxRecDepth 20000 in
theorem gL_isStruck_X7_tear : GoodIn wsL_isStruck (wsV RL 85 RX7 yX7_tear wsX7_tear) := goodIn_app (goodIn_of _ (by decide +kernel)) ggL_isStruck_X7_tear
set_option maxRecDepth 20000 in
theorem ggL_isStruck_X7_hammer : GoodIn wsL_isStruck wsX7_hammer := goodIn_r _ [70, 9, 10, 71, 72, 73, 13, 14, 15, 16, 17, 18, 19, 20, 21, 22, 23, 24, 25, 26, 27, 28, 29, 30, 31, 32, 33, 34, 35, 36, 37, 38, 39, 40, 41, 42, 43, 44, 45, 46, 47, 48, 49, 50, 51, 52, 53, 74, 75, 76, 77, 78, 84, 85, 86, 87, 88, 89, 90, 91, 92, 93, 94, 95, 96, 97, 98, 99, 100, 101, 102, 103, 104, 105, 106, 107] rfl (by decide +kernel)
set_option maxRecDepth 20000 in
theorem gL_isStruck_X7_hammer : GoodIn wsL_isStruck (wsV RL 88 RX7 yX7_hammer wsX7_hammer) := goodIn_app (goodIn_of _ (by decide +kernel)) ggL_isStruck_X7_hammer
set_option maxRecDepth 20000 in
theorem ggL_isStruck_L_low : GoodIn wsL_isStruck wsL_low := goodIn_r _ [82, 83] rfl (by decide +kernel)
set_option maxRecDepth 20000 in
theorem gL_isStruck_L_low : GoodIn wsL_isStruck (va_wsS RL 68 yL_low wsL_low) := goodIn_app (goodIn_of _ (by decide +kernel)) ggL_isStruck_L_low
set_option maxRecDepth 20000 in
theorem ggL_isStormy_L_low : GoodIn wsL_isStormy wsL_low := goodIn_r _ [5, 6] rfl (by decide +kernel)
set_option maxRecDepth 20000 in
theorem gL_isStormy_L_low : GoodIn wsL_isStormy (va_wsS RL 68 yL_low wsL_low) := goodIn_app (goodIn_of _ (by decide +kernel)) ggL_isStormy_L_low
set_option maxRecDepth 20000 in
theorem ggL_isStormy_L_over : GoodIn wsL_isStormy wsL_over := goodIn_r _ [9] rfl (by decide +kernel)
set_option maxRecDepth 20000 in
theorem gL_isStormy_L_over : GoodIn wsL_isStormy (va_wsS RL 53 yL_over wsL_over) := goodIn_app (goodIn_of _ (by decide +kernel)) ggL_isStormy_L_over
set_option maxRecDepth 20000 in
theorem ggL_isStormy_L_bits : GoodIn wsL_isStormy wsL_bits := goodIn_r _ [12, 13] rfl (by decide +kernel)
set_option maxRecDepth 20000 in
theorem gL_isStormy_L_bits : GoodIn wsL_isStormy (va_wsS RL 71 yL_bits wsL_bits) := goodIn_app (goodIn_of _ (by decide +kernel)) ggL_isStormy_L_bits
set_option maxRecDepth 20000 in
theorem ggL_isStormy_X7_storm : GoodIn wsL_isStormy wsX7_storm := goodIn_r _ [18, 19, 20, 21, 22, 23, 24, 25, 26, 27, 28, 29, 30, 31, 32, 33, 34, 35, 36, 37, 38, 39, 40, 41, 42, 43, 44, 45, 46, 47, 48, 49, 50, 51, 52, 53, 54, 55, 56, 57, 58, 59, 60, 61, 62, 63, 64, 65, 66, 67, 68, 69, 70, 71, 72, 73, 74, 75, 76, 77, 78, 79, 80, 81, 82, 83, 84, 85, 86, 87, 88, 89, 90, 91, 92, 93, 94, 95, 96, 97, 98, 99, 100, 101, 102, 103, 104, 105, 106, 107, 108, 109, 110, 111, 112, 113, 114] rfl (by decide +kernel)
set_option maxRecDepth 20000 in
theorem gL_isStormy_X7_storm : GoodIn wsL_isStormy (wsV RL 94 RX7 yX7_storm wsX7_storm) := goodIn_app (goodIn_of _ (by decide +kernel)) ggL_isStormy_X7_storm
set_option maxRecDepth 20000 in
theorem ggL_isRanked_L_low : GoodIn wsL_isRanked wsL_low := goodIn_r _ [6, 7] rfl (by decide +kernel)
set_option maxRecDepth 20000 in
theorem gL_isRanked_L_low : GoodIn wsL_isRanked (va_wsS RL 68 yL_low wsL_low) := goodIn_app (goodIn_of _ (by decide +kernel)) ggL_isRanked_L_low
set_option maxRecDepth 20000 in
theorem ggL_isRanked_L_bits : GoodIn wsL_isRanked wsL_bits := goodIn_r _ [10, 2] rfl (by decide +kernel)
set_option maxRecDepth 20000 in
theorem gL_isRanked_L_bits : GoodIn wsL_isRanked (va_wsS RL 71 yL_bits wsL_bits) := goodIn_app (goodIn_of _ (by decide +kernel)) ggL_isRanked_L_bits
set_option maxRecDepth 20000 in
theorem ggL_isRanked_X7_setTolerance : GoodIn wsL_isRanked wsX7_setTolerance := goodIn_r _ [15, 16, 17, 18, 19, 20, 21, 22, 23, 24, 25, 26, 27, 28, 29, 30, 31, 32, 33, 34, 35, 36, 37, 38, 39, 40, 41, 42, 43, 44, 45, 46, 47, 48, 49, 50, 51, 52, 53, 54, 55, 56, 57, 58, 59, 60, 61, 62, 63, 64, 65, 66, 67, 68, 69, 70, 194, 195, 196, 197, 198, 199, 200, 201, 202, 203, 204, 205, 206, 207, 208, 209, 210, 211, 212, 213, 214, 215, 216, 217] rfl (by decide +kernel)
set_option maxRecDepth 20000 in
theorem gL_isRanked_X7_setTolerance : GoodIn wsL_isRanked (wsV RL 97 RX7 yX7_setTolerance wsX7_setTolerance) := goodIn_app (goodIn_of _ (by decide +kernel)) ggL_isRanked_X7_setTolerance
set_option maxRecDepth 20000 in
theorem ggL_isRanked_X7_count : GoodIn wsL_isRanked wsX7_count := goodIn_r _ [74, 75, 16, 76, 77, 78, 17, 18, 79, 80, 81, 82, 83, 84, 85, 86, 87, 88, 89, 90, 91, 92, 93, 94, 95, 96, 97, 98, 99, 51, 100, 69, 101, 102, 103, 104, 58, 63, 105, 106, 107, 108, 109, 110, 111, 112, 113, 114, 115, 116, 117, 118, 119, 120, 121, 122, 123, 124, 125, 126, 127, 128, 129, 57, 130, 131, 132, 133, 134, 135, 136, 137, 138, 139, 140, 141, 142, 143, 144, 145, 146, 147, 148, 149, 150, 64, 151, 152, 153, 154, 155, 156, 157, 158, 159, 160, 161, 162, 163, 164, 165, 166, 167, 168, 169, 170, 171, 172, 173, 194, 195, 196, 197, 198, 199, 200, 201, 202, 203, 204, 205, 206, 207, 208, 209, 210, 211, 212, 213, 214, 215, 216, 217, 218, 219, 220, 221, 222, 223] rfl (by decide +kernel)
set_option maxRecDepth 20000 in
theorem gL_isRanked_X7_count : GoodIn wsL_isRanked (wsV RL 46 RX7 yX7_count wsX7_count) := goodIn_app (goodIn_of _ (by decide +kernel)) ggL_isRanked_X7_count
set_option maxRecDepth 20000 in
theorem ggL_isRanked_X7_addPerson : GoodIn wsL_isRanked wsX7_addPerson := goodIn_r _ [177, 16, 76, 18, 178, 179, 14, 180, 37, 38, 39, 40, 41, 42, 43, 44, 45, 46, 47, 48, 49, 50, 51, 52, 53, 54, 55, 56, 57, 58, 59, 60, 61, 62, 63, 64, 65, 66, 67, 68, 69, 181, 182, 183, 184, 194, 195, 196, 197, 198, 199, 200, 201, 202, 203, 204, 205, 206, 207, 208, 209, 210, 211, 212, 213, 214, 215, 216, 217] rfl (by decide +kernel)
set_option maxRecDepth 20000 in
theorem gL_isRanked_X7_addPerson : GoodIn wsL_isRanked (wsV RL 100 RX7 yX7_addPerson wsX7_addPerson) := goodIn_app (goodIn_of _ (by decide +kernel)) ggL_isRanked_X7_addPerson
set_option maxRecDepth 20000 in
theorem ggL_isRanked_X7_setRank : GoodIn wsL_isRanked wsX7_setRank := goodIn_r _ [188, 16, 189, 18, 190, 191, 192, 51, 193, 53, 178, 179, 14, 180, 37, 38, 39, 40, 41, 42, 43, 44, 45, 46, 47, 48, 49, 50, 52, 54, 55, 56, 57, 58, 59, 60, 61, 62, 63, 64, 65, 66, 67, 68, 69, 194, 195, 196, 197, 198, 199, 200, 201, 202, 203, 204, 205, 206, 207, 208, 209, 210, 211, 212, 213, 214, 215, 216, 217] rfl (by decide +kernel)
set_option maxRecDepth 20000 in
theorem gL_isRanked_X7_setRank : GoodIn wsL_isRanked (wsV RL 103 RX7 yX7_setRank wsX7_setRank) := goodIn_app (goodIn_of _ (by decide +kernel)) ggL_isRanked_X7_setRank
