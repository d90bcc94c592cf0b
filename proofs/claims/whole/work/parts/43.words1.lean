set_option maxRecDepth 20000 in
theorem lgg_X7_init : GoodIn lw_tbl wsX7_init := goodIn_c _ [(3, 17), (3, 18), (0, 11), (0, 12), (1, 17), (3, 19), (3, 20), (3, 21), (3, 22), (3, 23), (4, 0), (4, 1), (4, 2), (4, 3), (35, 0), (35, 1), (35, 2), (35, 3), (35, 4), (35, 5), (35, 6), (35, 7), (35, 8), (35, 9), (35, 10), (35, 11), (35, 12), (35, 13)] (by decide +kernel) (by decide +kernel)
theorem lg_X7_init : GoodIn lw_tbl wsX7_init := lgg_X7_init
set_option maxRecDepth 20000 in
theorem lgg_X7_word : GoodIn lw_tbl wsX7_word := goodIn_c _ [(6, 18), (6, 19), (6, 20), (0, 5), (6, 21), (6, 22), (6, 23), (7, 0), (7, 1), (7, 2), (7, 3), (7, 4), (3, 19), (7, 5), (7, 6), (7, 7), (7, 8), (7, 9), (7, 10), (7, 11), (7, 12), (7, 13), (7, 14), (3, 20), (7, 15), (7, 16), (7, 17), (7, 18), (7, 19), (7, 20), (7, 21), (7, 22), (7, 23), (8, 0), (35, 0), (35, 1), (35, 2), (35, 3), (35, 4), (35, 5), (35, 6), (35, 7), (35, 8), (35, 9), (35, 10), (35, 11), (35, 12), (35, 13)] (by decide +kernel) (by decide +kernel)
set_option maxRecDepth 20000 in
theorem lg_X7_word : GoodIn lw_tbl (wsV RL 91 RX7 yX7_word wsX7_word) := goodIn_app (goodIn_of _ (by decide +kernel)) lgg_X7_word
set_option maxRecDepth 20000 in
theorem lgg_X7_thrown : GoodIn lw_tbl wsX7_thrown := goodIn_c _ [(8, 4), (7, 9), (35, 0), (35, 1), (35, 2), (35, 3), (35, 4), (35, 5), (35, 6), (35, 7), (35, 8), (35, 9), (35, 10), (35, 11), (35, 12), (35, 13)] (by decide +kernel) (by decide +kernel)
set_option maxRecDepth 20000 in
theorem lg_X7_thrown : GoodIn lw_tbl (wsV RL 92 RX7 yX7_thrown wsX7_thrown) := goodIn_app (goodIn_of _ (by decide +kernel)) lgg_X7_thrown
set_option maxRecDepth 20000 in
theorem lgg_X7_noise : GoodIn lw_tbl wsX7_noise := goodIn_c _ [(8, 15), (6, 19), (6, 20), (0, 5), (6, 21), (6, 22), (6, 23), (7, 0), (7, 1), (7, 2), (7, 3), (7, 4), (3, 19), (7, 5), (7, 6), (7, 7), (7, 8), (7, 9), (7, 10), (7, 11), (7, 12), (7, 13), (7, 14), (3, 20), (7, 15), (7, 16), (7, 17), (7, 18), (7, 19), (7, 20), (7, 21), (7, 22), (7, 23), (8, 0), (35, 0), (35, 1), (35, 2), (35, 3), (35, 4), (35, 5), (35, 6), (35, 7), (35, 8), (35, 9), (35, 10), (35, 11), (35, 12), (35, 13)] (by decide +kernel) (by decide +kernel)
set_option maxRecDepth 20000 in
theorem lg_X7_noise : GoodIn lw_tbl (wsV RL 98 RX7 yX7_noise wsX7_noise) := goodIn_app (goodIn_of _ (by decide +kernel)) lgg_X7_noise
set_option maxRecDepth 20000 in
theorem lgg_X7_remove : GoodIn lw_tbl wsX7_remove := goodIn_c _ [(9, 18), (3, 19), (9, 19), (9, 20), (9, 21), (0, 5), (9, 22), (6, 22), (6, 23), (7, 0), (7, 5), (7, 6), (7, 7), (7, 8), (7, 9), (7, 10), (7, 11), (7, 12), (7, 13), (7, 14), (3, 20), (7, 15), (7, 16), (7, 17), (9, 23), (10, 0), (10, 1), (10, 2), (7, 22), (7, 23), (8, 0), (35, 0), (35, 1), (35, 2), (35, 3), (35, 4), (35, 5), (35, 6), (35, 7), (35, 8), (35, 9), (35, 10), (35, 11), (35, 12), (35, 13)] (by decide +kernel) (by decide +kernel)
set_option maxRecDepth 20000 in
theorem lg_X7_remove : GoodIn lw_tbl (wsV RL 102 RX7 yX7_remove wsX7_remove) := goodIn_app (goodIn_of _ (by decide +kernel)) lgg_X7_remove
set_option maxRecDepth 20000 in
theorem lgg_X7_shift : GoodIn lw_tbl wsX7_shift := goodIn_c _ [(10, 16), (3, 19), (9, 19), (9, 20), (9, 21), (0, 5), (9, 22), (6, 22), (6, 23), (7, 0), (7, 22), (7, 23), (8, 0), (7, 5), (7, 6), (7, 7), (7, 8), (7, 9), (7, 10), (7, 11), (7, 12), (7, 13), (7, 14), (3, 20), (7, 15), (7, 16), (7, 17), (35, 0), (35, 1), (35, 2), (35, 3), (35, 4), (35, 5), (35, 6), (35, 7), (35, 8), (35, 9), (35, 10), (35, 11), (35, 12), (35, 13)] (by decide +kernel) (by decide +kernel)
set_option maxRecDepth 20000 in
theorem lg_X7_shift : GoodIn lw_tbl (wsV RL 106 RX7 yX7_shift wsX7_shift) := goodIn_app (goodIn_of _ (by decide +kernel)) lgg_X7_shift
set_option maxRecDepth 20000 in
theorem lgg_X7_loud : GoodIn lw_tbl wsX7_loud := goodIn_c _ [(11, 3), (3, 19), (9, 19), (9, 20), (9, 21), (0, 5), (9, 22), (6, 22), (6, 23), (7, 0), (7, 5), (7, 6), (7, 7), (7, 8), (7, 9), (7, 10), (7, 11), (7, 12), (7, 13), (7, 14), (3, 20), (7, 15), (7, 16), (7, 17), (7, 22), (7, 23), (8, 0), (35, 0), (35, 1), (35, 2), (35, 3), (35, 4), (35, 5), (35, 6), (35, 7), (35, 8), (35, 9), (35, 10), (35, 11), (35, 12), (35, 13)] (by decide +kernel) (by decide +kernel)
set_option maxRecDepth 20000 in
theorem lg_X7_loud : GoodIn lw_tbl (wsV RL 109 RX7 yX7_loud wsX7_loud) := goodIn_app (goodIn_of _ (by decide +kernel)) lgg_X7_loud
set_option maxRecDepth 20000 in
theorem lgg_X7_set : GoodIn lw_tbl wsX7_set := goodIn_c _ [(12, 1), (3, 19), (6, 22), (6, 23), (0, 5), (7, 0), (12, 2), (12, 3), (12, 4), (7, 5), (7, 6), (7, 7), (7, 8), (7, 9), (7, 10), (7, 11), (7, 12), (7, 13), (7, 14), (3, 20), (7, 15), (7, 16), (7, 17), (35, 0), (35, 1), (35, 2), (35, 3), (35, 4), (35, 5), (35, 6), (35, 7), (35, 8), (35, 9), (35, 10), (35, 11), (35, 12), (35, 13)] (by decide +kernel) (by decide +kernel)
set_option maxRecDepth 20000 in
theorem lg_X7_set : GoodIn lw_tbl (wsV RL 113 RX7 yX7_set wsX7_set) := goodIn_app (goodIn_of _ (by decide +kernel)) lgg_X7_set
set_option maxRecDepth 20000 in
theorem lgg_X7_append : GoodIn lw_tbl wsX7_append := goodIn_c _ [(13, 0), (13, 1), (4, 0), (6, 22), (6, 23), (0, 5), (7, 0), (7, 5), (7, 6), (7, 7), (7, 8), (7, 9), (35, 0), (35, 1), (35, 2), (35, 3), (35, 4), (35, 5), (35, 6), (35, 7), (35, 8), (35, 9), (35, 10), (35, 11), (35, 12), (35, 13)] (by decide +kernel) (by decide +kernel)
set_option maxRecDepth 20000 in
theorem lg_X7_append : GoodIn lw_tbl (wsV RL 117 RX7 yX7_append wsX7_append) := goodIn_app (goodIn_of _ (by decide +kernel)) lgg_X7_append
set_option maxRecDepth 20000 in
theorem lgg_X7_clearBuffer : GoodIn lw_tbl wsX7_clearBuffer := goodIn_c _ [(13, 12), (7, 9), (13, 1), (35, 0), (35, 1), (35, 2), (35, 3), (35, 4), (35, 5), (35, 6), (35, 7), (35, 8), (35, 9), (35, 10), (35, 11), (35, 12), (35, 13)] (by decide +kernel) (by decide +kernel)
set_option maxRecDepth 20000 in
theorem lg_X7_clearBuffer : GoodIn lw_tbl (wsV RL 121 RX7 yX7_clearBuffer wsX7_clearBuffer) := goodIn_app (goodIn_of _ (by decide +kernel)) lgg_X7_clearBuffer
set_option maxRecDepth 20000 in
theorem lgg_X7_firstError : GoodIn lw_tbl wsX7_firstError := goodIn_c _ [(15, 5), (7, 9), (13, 1), (15, 6), (15, 7), (15, 8), (15, 9), (0, 5), (15, 10), (15, 11), (15, 12), (4, 3), (15, 13), (15, 14), (15, 15), (15, 16), (4, 0), (15, 17), (15, 18), (15, 19), (15, 20), (15, 21), (15, 22), (15, 23), (16, 0), (6, 22), (6, 23), (7, 0), (16, 1), (16, 2), (16, 3), (16, 4), (7, 1), (7, 2), (7, 3), (7, 4), (3, 19), (7, 18), (7, 19), (7, 20), (7, 21), (7, 22), (7, 23), (8, 0), (35, 0), (35, 1), (35, 2), (35, 3), (35, 4), (35, 5), (35, 6), (35, 7), (35, 8), (35, 9), (35, 10), (35, 11), (35, 12), (35, 13)] (by decide +kernel) (by decide +kernel)
set_option maxRecDepth 20000 in
theorem lg_X7_firstError : GoodIn lw_tbl (wsV RL 125 RX7 yX7_firstError wsX7_firstError) := goodIn_app (goodIn_of _ (by decide +kernel)) lgg_X7_firstError
set_option maxRecDepth 20000 in
theorem lgg_X7_read : GoodIn lw_tbl wsX7_read := goodIn_c _ [(17, 1), (13, 1), (15, 11), (15, 7), (15, 8), (15, 9), (0, 5), (15, 10), (15, 6), (15, 12), (4, 3), (15, 13), (15, 14), (15, 15), (15, 16), (4, 0), (15, 17), (15, 18), (15, 19), (15, 20), (15, 21), (15, 22), (15, 23), (16, 0), (6, 22), (6, 23), (7, 0), (16, 1), (16, 2), (16, 3), (16, 4), (7, 1), (7, 2), (7, 3), (7, 4), (3, 19), (7, 18), (7, 19), (7, 20), (7, 21), (7, 22), (7, 23), (8, 0), (7, 5), (7, 6), (7, 7), (7, 8), (7, 9), (7, 10), (7, 11), (7, 12), (7, 13), (7, 14), (3, 20), (7, 15), (7, 16), (7, 17), (35, 0), (35, 1), (35, 2), (35, 3), (35, 4), (35, 5), (35, 6), (35, 7), (35, 8), (35, 9), (35, 10), (35, 11), (35, 12), (35, 13)] (by decide +kernel) (by decide +kernel)
set_option maxRecDepth 20000 in
theorem lg_X7_read : GoodIn lw_tbl (wsV RL 129 RX7 yX7_read wsX7_read) := goodIn_app (goodIn_of _ (by decide +kernel)) lgg_X7_read
set_option maxRecDepth 20000 in
theorem lgg_X7_write : GoodIn lw_tbl wsX7_write := goodIn_c _ [(18, 1), (7, 9), (13, 1), (3, 19), (4, 0), (7, 22), (7, 23), (0, 5), (8, 0), (18, 2), (18, 3), (18, 4), (18, 5), (18, 6), (18, 7), (18, 8), (35, 0), (35, 1), (35, 2), (35, 3), (35, 4), (35, 5), (35, 6), (35, 7), (35, 8), (35, 9), (35, 10), (35, 11), (35, 12), (35, 13)] (by decide +kernel) (by decide +kernel)
set_option maxRecDepth 20000 in
theorem lg_X7_write : GoodIn lw_tbl (wsV RL 133 RX7 yX7_write wsX7_write) := goodIn_app (goodIn_of _ (by decide +kernel)) lgg_X7_write
set_option maxRecDepth 20000 in
theorem lgg_X7_charAt : GoodIn lw_tbl wsX7_charAt := goodIn_c _ [(18, 19), (13, 1), (4, 0), (7, 5), (7, 6), (7, 7), (0, 5), (7, 8), (7, 9), (35, 0), (35, 1), (35, 2), (35, 3), (35, 4), (35, 5), (35, 6), (35, 7), (35, 8), (35, 9), (35, 10), (35, 11), (35, 12), (35, 13)] (by decide +kernel) (by decide +kernel)
set_option maxRecDepth 20000 in
theorem lg_X7_charAt : GoodIn lw_tbl (wsV RL 136 RX7 yX7_charAt wsX7_charAt) := goodIn_app (goodIn_of _ (by decide +kernel)) lgg_X7_charAt
set_option maxRecDepth 20000 in
theorem lgg_X7_undo : GoodIn lw_tbl wsX7_undo := goodIn_c _ [(19, 12), (7, 14), (3, 20), (3, 19), (7, 5), (7, 6), (7, 7), (0, 5), (7, 8), (7, 9), (7, 15), (7, 16), (7, 17), (35, 0), (35, 1), (35, 2), (35, 3), (35, 4), (35, 5), (35, 6), (35, 7), (35, 8), (35, 9), (35, 10), (35, 11), (35, 12), (35, 13)] (by decide +kernel) (by decide +kernel)
set_option maxRecDepth 20000 in
theorem lg_X7_undo : GoodIn lw_tbl (wsV RL 139 RX7 yX7_undo wsX7_undo) := goodIn_app (goodIn_of _ (by decide +kernel)) lgg_X7_undo
set_option maxRecDepth 20000 in
theorem lgg_X7_keep : GoodIn lw_tbl wsX7_keep := goodIn_c _ [(19, 23), (3, 19), (3, 21), (3, 23), (20, 0), (20, 1), (0, 5), (20, 2), (6, 22), (6, 23), (7, 0), (7, 5), (7, 6), (7, 7), (7, 8), (7, 9), (7, 15), (7, 16), (7, 17), (35, 0), (35, 1), (35, 2), (35, 3), (35, 4), (35, 5), (35, 6), (35, 7), (35, 8), (35, 9), (35, 10), (35, 11), (35, 12), (35, 13)] (by decide +kernel) (by decide +kernel)
set_option maxRecDepth 20000 in
theorem lg_X7_keep : GoodIn lw_tbl (wsV RL 142 RX7 yX7_keep wsX7_keep) := goodIn_app (goodIn_of _ (by decide +kernel)) lgg_X7_keep
set_option maxRecDepth 20000 in
theorem lgg_X7_goBack : GoodIn lw_tbl wsX7_goBack := goodIn_c _ [(20, 13), (3, 23), (3, 21), (3, 19), (20, 0), (20, 1), (0, 5), (20, 2), (6, 22), (6, 23), (7, 0), (7, 5), (7, 6), (7, 7), (7, 8), (7, 9), (7, 10), (7, 11), (7, 12), (7, 13), (7, 14), (3, 20), (7, 15), (7, 16), (7, 17), (35, 0), (35, 1), (35, 2), (35, 3), (35, 4), (35, 5), (35, 6), (35, 7), (35, 8), (35, 9), (35, 10), (35, 11), (35, 12), (35, 13)] (by decide +kernel) (by decide +kernel)
set_option maxRecDepth 20000 in
theorem lg_X7_goBack : GoodIn lw_tbl (wsV RL 145 RX7 yX7_goBack wsX7_goBack) := goodIn_app (goodIn_of _ (by decide +kernel)) lgg_X7_goBack
set_option maxRecDepth 20000 in
theorem lgg_X7_wordOf : GoodIn lw_tbl wsX7_wordOf := goodIn_c _ [(23, 8), (3, 19), (9, 19), (9, 20), (9, 21), (0, 5), (9, 22), (6, 22), (6, 23), (7, 0), (7, 5), (7, 6), (7, 7), (7, 8), (7, 9), (23, 9), (23, 10), (23, 11), (23, 12), (4, 1), (4, 2), (23, 13), (23, 14), (23, 15), (23, 16), (23, 17), (23, 18), (23, 19), (23, 20), (7, 22), (7, 23), (8, 0), (23, 21), (23, 22), (23, 23), (24, 0), (24, 1), (24, 2), (24, 3), (24, 4), (24, 5), (24, 6), (24, 7), (24, 8), (24, 9), (24, 10), (24, 11), (24, 12), (24, 13), (24, 14), (24, 15), (24, 16), (24, 17), (24, 18), (24, 19), (24, 20), (24, 21), (24, 22), (24, 23), (25, 0), (25, 1), (25, 2), (25, 3), (25, 4), (25, 5), (25, 6), (25, 7), (35, 0), (35, 1), (35, 2), (35, 3), (35, 4), (35, 5), (35, 6), (35, 7), (35, 8), (35, 9), (35, 10), (35, 11), (35, 12), (35, 13)] (by decide +kernel) (by decide +kernel)
set_option maxRecDepth 20000 in
theorem lg_X7_wordOf : GoodIn lw_tbl (wsV RL 148 RX7 yX7_wordOf wsX7_wordOf) := goodIn_app (goodIn_of _ (by decide +kernel)) lgg_X7_wordOf
set_option maxRecDepth 20000 in
theorem lgg_X7_noiseOf : GoodIn lw_tbl wsX7_noiseOf := goodIn_c _ [(26, 3), (4, 2), (9, 19), (9, 20), (9, 21), (0, 5), (9, 22), (3, 19), (6, 22), (6, 23), (7, 0), (7, 5), (7, 6), (7, 7), (7, 8), (7, 9), (23, 9), (23, 10), (23, 11), (23, 12), (4, 1), (23, 13), (23, 14), (23, 15), (23, 16), (23, 17), (23, 18), (23, 19), (23, 20), (7, 22), (7, 23), (8, 0), (23, 21), (23, 22), (23, 23), (24, 0), (24, 1), (24, 2), (24, 3), (24, 4), (24, 5), (24, 6), (24, 7), (24, 8), (24, 9), (24, 10), (24, 11), (24, 12), (24, 13), (24, 14), (24, 15), (24, 16), (24, 17), (24, 18), (24, 19), (35, 0), (35, 1), (35, 2), (35, 3), (35, 4), (35, 5), (35, 6), (35, 7), (35, 8), (35, 9), (35, 10), (35, 11), (35, 12), (35, 13)] (by decide +kernel) (by decide +kernel)
set_option maxRecDepth 20000 in
theorem lg_X7_noiseOf : GoodIn lw_tbl (wsV RL 151 RX7 yX7_noiseOf wsX7_noiseOf) := goodIn_app (goodIn_of _ (by decide +kernel)) lgg_X7_noiseOf
set_option maxRecDepth 20000 in
theorem lgg_X7_second : GoodIn lw_tbl wsX7_second := goodIn_c _ [(26, 17), (4, 1), (4, 2), (6, 22), (6, 23), (0, 5), (7, 0), (7, 5), (7, 6), (7, 7), (7, 8), (7, 9), (23, 9), (23, 10), (23, 11), (23, 12), (3, 19), (23, 13), (23, 14), (23, 15), (23, 16), (23, 17), (23, 18), (23, 19), (23, 20), (7, 22), (7, 23), (8, 0), (23, 21), (23, 22), (23, 23), (24, 0), (24, 1), (24, 2), (24, 3), (24, 4), (24, 5), (24, 6), (24, 7), (24, 8), (24, 9), (24, 10), (24, 11), (24, 12), (24, 13), (24, 14), (24, 15), (24, 16), (24, 17), (24, 18), (24, 19), (26, 18), (26, 19), (26, 20), (26, 21), (26, 22), (26, 23), (27, 0), (27, 1), (35, 0), (35, 1), (35, 2), (35, 3), (35, 4), (35, 5), (35, 6), (35, 7), (35, 8), (35, 9), (35, 10), (35, 11), (35, 12), (35, 13)] (by decide +kernel) (by decide +kernel)
set_option maxRecDepth 20000 in
theorem lg_X7_second : GoodIn lw_tbl (wsV RL 154 RX7 yX7_second wsX7_second) := goodIn_app (goodIn_of _ (by decide +kernel)) lgg_X7_second
set_option maxRecDepth 20000 in
theorem lgg_X7_total : GoodIn lw_tbl wsX7_total := goodIn_c _ [(27, 22), (3, 19), (6, 22), (6, 23), (0, 5), (7, 0), (7, 5), (7, 6), (7, 7), (7, 8), (7, 9), (24, 0), (24, 1), (24, 2), (24, 3), (24, 16), (24, 17), (24, 18), (24, 19), (35, 0), (35, 1), (35, 2), (35, 3), (35, 4), (35, 5), (35, 6), (35, 7), (35, 8), (35, 9), (35, 10), (35, 11), (35, 12), (35, 13)] (by decide +kernel) (by decide +kernel)
set_option maxRecDepth 20000 in
theorem lg_X7_total : GoodIn lw_tbl (wsV RL 157 RX7 yX7_total wsX7_total) := goodIn_app (goodIn_of _ (by decide +kernel)) lgg_X7_total
set_option maxRecDepth 20000 in
theorem lgg_X7_count : GoodIn lw_tbl wsX7_count := goodIn_c _ [(29, 13), (3, 19), (7, 14), (13, 1), (6, 22), (6, 23), (0, 5), (7, 0), (7, 5), (7, 6), (7, 7), (7, 8), (7, 9), (23, 9), (23, 10), (23, 11), (23, 12), (4, 1), (4, 2), (23, 13), (23, 14), (23, 15), (23, 16), (23, 17), (23, 18), (23, 19), (23, 20), (7, 22), (7, 23), (8, 0), (23, 21), (23, 22), (23, 23), (24, 0), (24, 1), (24, 2), (24, 3), (24, 4), (24, 5), (24, 6), (24, 7), (24, 8), (24, 9), (24, 10), (24, 11), (24, 12), (24, 13), (24, 14), (24, 15), (24, 16), (24, 17), (24, 18), (24, 19), (29, 14), (29, 15), (29, 16), (29, 17), (24, 20), (24, 21), (24, 22), (24, 23), (29, 18), (29, 19), (29, 20), (29, 21), (29, 22), (29, 23), (30, 0), (30, 1), (30, 2), (30, 3), (30, 4), (30, 5), (30, 6), (30, 7), (30, 8), (26, 18), (26, 19), (26, 20), (26, 21), (30, 9), (30, 10), (30, 11), (30, 12), (30, 13), (30, 14), (30, 15), (30, 16), (26, 22), (26, 23), (27, 0), (27, 1), (35, 0), (35, 1), (35, 2), (35, 3), (35, 4), (35, 5), (35, 6), (35, 7), (35, 8), (35, 9), (35, 10), (35, 11), (35, 12), (35, 13)] (by decide +kernel) (by decide +kernel)
set_option maxRecDepth 20000 in
theorem lg_X7_count : GoodIn lw_tbl (wsV RL 160 RX7 yX7_count wsX7_count) := goodIn_app (goodIn_of _ (by decide +kernel)) lgg_X7_count
set_option maxRecDepth 20000 in
theorem lgg_X7_leastDucking : GoodIn lw_tbl wsX7_leastDucking := goodIn_c _ [(31, 3), (7, 9), (3, 19), (31, 4), (31, 5), (31, 6), (0, 5), (31, 7), (23, 9), (23, 10), (23, 11), (23, 12), (4, 1), (4, 2), (23, 13), (23, 14), (23, 15), (23, 16), (23, 17), (23, 18), (23, 19), (23, 20), (7, 22), (7, 23), (8, 0), (6, 22), (6, 23), (7, 0), (23, 21), (23, 22), (23, 23), (24, 0), (24, 1), (24, 2), (24, 3), (24, 4), (24, 5), (24, 6), (24, 7), (24, 8), (24, 9), (24, 10), (24, 11), (24, 12), (24, 13), (24, 14), (24, 15), (24, 16), (24, 17), (24, 18), (24, 19), (29, 14), (29, 15), (29, 16), (29, 17), (24, 20), (24, 21), (24, 22), (24, 23), (29, 18), (29, 19), (29, 20), (29, 21), (29, 22), (29, 23), (30, 0), (35, 0), (35, 1), (35, 2), (35, 3), (35, 4), (35, 5), (35, 6), (35, 7), (35, 8), (35, 9), (35, 10), (35, 11), (35, 12), (35, 13)] (by decide +kernel) (by decide +kernel)
set_option maxRecDepth 20000 in
theorem lg_X7_leastDucking : GoodIn lw_tbl (wsV RL 164 RX7 yX7_leastDucking wsX7_leastDucking) := goodIn_app (goodIn_of _ (by decide +kernel)) lgg_X7_leastDucking
set_option maxRecDepth 20000 in
theorem lgg_X7_ifSet : GoodIn lw_tbl wsX7_ifSet := goodIn_c _ [(31, 18), (6, 22), (6, 23), (0, 5), (7, 0), (12, 2), (12, 3), (12, 4), (7, 5), (7, 6), (7, 7), (7, 8), (7, 9), (31, 4), (31, 5), (31, 6), (31, 7), (3, 19), (23, 9), (23, 10), (23, 11), (23, 12), (4, 1), (4, 2), (23, 13), (23, 14), (23, 15), (23, 16), (23, 17), (23, 18), (23, 19), (23, 20), (7, 22), (7, 23), (8, 0), (23, 21), (23, 22), (23, 23), (24, 0), (24, 1), (24, 2), (24, 3), (24, 4), (24, 5), (24, 6), (24, 7), (24, 8), (24, 9), (24, 10), (24, 11), (24, 12), (24, 13), (24, 14), (24, 15), (24, 16), (24, 17), (24, 18), (24, 19), (29, 14), (29, 15), (29, 16), (29, 17), (24, 20), (24, 21), (24, 22), (24, 23), (29, 18), (29, 19), (29, 20), (29, 21), (29, 22), (29, 23), (30, 0), (35, 0), (35, 1), (35, 2), (35, 3), (35, 4), (35, 5), (35, 6), (35, 7), (35, 8), (35, 9), (35, 10), (35, 11), (35, 12), (35, 13)] (by decide +kernel) (by decide +kernel)
set_option maxRecDepth 20000 in
theorem lg_X7_ifSet : GoodIn lw_tbl (wsV RL 167 RX7 yX7_ifSet wsX7_ifSet) := goodIn_app (goodIn_of _ (by decide +kernel)) lgg_X7_ifSet
set_option maxRecDepth 20000 in
theorem lgg_X7_bestShift : GoodIn lw_tbl wsX7_bestShift := goodIn_c _ [(32, 9), (3, 19), (9, 19), (9, 20), (9, 21), (0, 5), (9, 22), (6, 22), (6, 23), (7, 0), (7, 5), (7, 6), (7, 7), (7, 8), (7, 9), (7, 22), (7, 23), (8, 0), (23, 9), (23, 10), (23, 11), (23, 12), (4, 1), (4, 2), (23, 13), (23, 14), (23, 15), (23, 16), (23, 17), (23, 18), (23, 19), (23, 20), (23, 21), (23, 22), (23, 23), (24, 0), (24, 1), (24, 2), (24, 3), (24, 4), (24, 5), (24, 6), (24, 7), (24, 8), (24, 9), (24, 10), (24, 11), (24, 12), (24, 13), (24, 14), (24, 15), (24, 16), (24, 17), (24, 18), (24, 19), (29, 18), (29, 19), (29, 20), (29, 21), (29, 22), (29, 23), (30, 0), (35, 0), (35, 1), (35, 2), (35, 3), (35, 4), (35, 5), (35, 6), (35, 7), (35, 8), (35, 9), (35, 10), (35, 11), (35, 12), (35, 13)] (by decide +kernel) (by decide +kernel)
set_option maxRecDepth 20000 in
theorem lg_X7_bestShift : GoodIn lw_tbl (wsV RL 170 RX7 yX7_bestShift wsX7_bestShift) := goodIn_app (goodIn_of _ (by decide +kernel)) lgg_X7_bestShift
set_option maxRecDepth 20000 in
theorem lgg_X7_loudestQuiet : GoodIn lw_tbl wsX7_loudestQuiet := goodIn_c _ [(32, 20), (3, 19), (9, 19), (9, 20), (9, 21), (0, 5), (9, 22), (6, 22), (6, 23), (7, 0), (7, 5), (7, 6), (7, 7), (7, 8), (7, 9), (7, 22), (7, 23), (8, 0), (23, 9), (23, 10), (23, 11), (23, 12), (4, 1), (4, 2), (23, 13), (23, 14), (23, 15), (23, 16), (23, 17), (23, 18), (23, 19), (23, 20), (23, 21), (23, 22), (23, 23), (24, 0), (24, 1), (24, 2), (24, 3), (24, 4), (24, 5), (24, 6), (24, 7), (24, 8), (24, 9), (24, 10), (24, 11), (24, 12), (24, 13), (24, 14), (24, 15), (24, 16), (24, 17), (24, 18), (24, 19), (29, 18), (29, 19), (29, 20), (29, 21), (29, 22), (29, 23), (30, 0), (35, 0), (35, 1), (35, 2), (35, 3), (35, 4), (35, 5), (35, 6), (35, 7), (35, 8), (35, 9), (35, 10), (35, 11), (35, 12), (35, 13)] (by decide +kernel) (by decide +kernel)
set_option maxRecDepth 20000 in
theorem lg_X7_loudestQuiet : GoodIn lw_tbl (wsV RL 173 RX7 yX7_loudestQuiet wsX7_loudestQuiet) := goodIn_app (goodIn_of _ (by decide +kernel)) lgg_X7_loudestQuiet
set_option maxRecDepth 20000 in
theorem lgg_X7_heard : GoodIn lw_tbl wsX7_heard := goodIn_c _ [(33, 4), (7, 9), (3, 19), (23, 9), (23, 10), (23, 11), (0, 5), (23, 12), (4, 1), (4, 2), (23, 13), (23, 14), (23, 15), (23, 16), (23, 17), (23, 18), (23, 19), (23, 20), (7, 22), (7, 23), (8, 0), (6, 22), (6, 23), (7, 0), (23, 21), (23, 22), (23, 23), (24, 0), (24, 1), (24, 2), (24, 3), (24, 4), (24, 5), (24, 6), (24, 7), (24, 8), (24, 9), (24, 10), (24, 11), (24, 12), (24, 13), (24, 14), (24, 15), (24, 16), (24, 17), (24, 18), (24, 19), (29, 18), (29, 19), (29, 20), (29, 21), (29, 22), (29, 23), (30, 0), (35, 0), (35, 1), (35, 2), (35, 3), (35, 4), (35, 5), (35, 6), (35, 7), (35, 8), (35, 9), (35, 10), (35, 11), (35, 12), (35, 13)] (by decide +kernel) (by decide +kernel)
set_option maxRecDepth 20000 in
theorem lg_X7_heard : GoodIn lw_tbl (wsV RL 178 RX7 yX7_heard wsX7_heard) := goodIn_app (goodIn_of _ (by decide +kernel)) lgg_X7_heard
