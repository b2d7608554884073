/-! ===== the words of the law's calls, by their places in the tables ===== -/
theorem goodIn_cons {big : List Cond} {w : Cond} {b : List Cond} (ha : GoodIn big [w]) (hb : GoodIn big b) : GoodIn big (w :: b) := goodIn_app ha hb
theorem goodIn_nil {big : List Cond} : GoodIn big [] := fun _ h => absurd h List.not_mem_nil
theorem glX00 : GoodIn lw_tbl wsX00 := goodIn_r _ [144, 146, 148, 150, 152, 154, 156, 158] (by decide +kernel) (by decide +kernel)
theorem glX10 : GoodIn lw_tbl wsX10 := goodIn_r _ [117, 119, 121, 123, 125, 127] (by decide +kernel) (by decide +kernel)
theorem glX20 : GoodIn lw_tbl wsX20 := goodIn_r _ [103, 105] (by decide +kernel) (by decide +kernel)
theorem glX30 : GoodIn lw_tbl wsX30 := goodIn_r _ [178, 180, 182, 184] (by decide +kernel) (by decide +kernel)
theorem glX40 : GoodIn lw_tbl wsX40 := goodIn_r _ [198, 200] (by decide +kernel) (by decide +kernel)
theorem glX50 : GoodIn lw_tbl wsX50 := goodIn_r _ [214, 216, 218, 220, 222, 224, 226, 228, 230, 232, 234] (by decide +kernel) (by decide +kernel)
theorem glX60 : GoodIn lw_tbl wsX60 := goodIn_r _ [622, 624, 626, 628, 630, 632, 634, 636, 638, 640, 642, 644, 646, 648, 650, 652, 654, 656, 658, 660, 662, 664, 666, 668, 670, 672, 674, 676, 678, 680, 682, 684, 686] (by decide +kernel) (by decide +kernel)
theorem gl_wsX5_init_r1 : GoodIn lw_tbl wsX5_init_r1 := goodIn_r _ [82, 83, 84, 108, 203, 85, 204, 87, 205, 89, 90, 70, 206, 130, 131, 72, 207, 162, 73, 187, 74, 92, 93, 94] (by decide +kernel) (by decide +kernel)
theorem gl_wsX5_init_r2 : GoodIn lw_tbl wsX5_init_r2 := goodIn_r _ [95, 96, 71, 109, 111, 98, 99, 100, 101, 133, 134, 135, 161, 136, 137, 138, 139, 140, 141, 164, 165, 166, 167, 169] (by decide +kernel) (by decide +kernel)
theorem gl_wsX5_init_r3 : GoodIn lw_tbl wsX5_init_r3 := goodIn_r _ [172, 175, 189, 190, 191, 192, 194, 196] (by decide +kernel) (by decide +kernel)
theorem gl_wsX5_init : GoodIn lw_tbl wsX5_init := by
  unfold wsX5_init
  exact goodIn_cons (goodIn_r _ [81] (by decide +kernel) (by decide +kernel)) (goodIn_app (goodIn_app (goodIn_app (goodIn_app (goodIn_app (goodIn_app (goodIn_app gl_wsX5_init_r1 (goodIn_app gl_wsX5_init_r2 gl_wsX5_init_r3)) glX50) glX10) glX00) glX30) glX40) glX20)
theorem gl_wsX5_letter : GoodIn lw_tbl wsX5_letter := by
  unfold wsX5_letter
  exact goodIn_cons (goodIn_r _ [240] (by decide +kernel) (by decide +kernel)) (goodIn_app (goodIn_r _ [241, 208, 242, 203] (by decide +kernel) (by decide +kernel)) glX50)
theorem gL_X5_letter : GoodIn lw_tbl (wsV RL 13 RX5 yX5_letter wsX5_letter) := goodIn_app (goodIn_r _ [237, 238, 239, 69] (by decide +kernel) (by decide +kernel)) gl_wsX5_letter
theorem gl_wsX5_blank : GoodIn lw_tbl wsX5_blank := by
  unfold wsX5_blank
  exact goodIn_cons (goodIn_r _ [246] (by decide +kernel) (by decide +kernel)) (goodIn_app (goodIn_r _ [208] (by decide +kernel) (by decide +kernel)) glX50)
theorem gL_X5_blank : GoodIn lw_tbl (wsV RL 18 RX5 yX5_blank wsX5_blank) := goodIn_app (goodIn_r _ [243, 244, 245, 69] (by decide +kernel) (by decide +kernel)) gl_wsX5_blank
theorem gl_wsX5_fault_r1 : GoodIn lw_tbl wsX5_fault_r1 := goodIn_r _ [206, 203, 208, 251, 252, 253, 70, 254, 255, 257, 0, 258, 109, 111, 113, 114, 115, 116, 259, 260, 261, 71, 262, 102] (by decide +kernel) (by decide +kernel)
theorem gl_wsX5_fault_r2 : GoodIn lw_tbl wsX5_fault_r2 := goodIn_r _ [263, 265, 1, 266, 267, 269, 2, 270, 271, 273, 3, 274, 275, 277, 4, 278, 279, 280, 281, 282, 283, 285, 5, 286] (by decide +kernel) (by decide +kernel)
theorem gl_wsX5_fault_r3 : GoodIn lw_tbl wsX5_fault_r3 := goodIn_r _ [287, 289, 6, 290, 291, 292, 293, 294, 101, 295, 296, 297, 298, 299, 300, 301, 302, 303, 305, 7, 306, 308, 69, 309] (by decide +kernel) (by decide +kernel)
theorem gl_wsX5_fault : GoodIn lw_tbl wsX5_fault := by
  unfold wsX5_fault
  exact goodIn_cons (goodIn_r _ [250] (by decide +kernel) (by decide +kernel)) (goodIn_app (goodIn_app (goodIn_app (goodIn_app gl_wsX5_fault_r1 (goodIn_app gl_wsX5_fault_r2 gl_wsX5_fault_r3)) glX50) glX10) glX20)
theorem gL_X5_fault : GoodIn lw_tbl (wsV RL 23 RX5 yX5_fault wsX5_fault) := goodIn_app (goodIn_r _ [247, 248, 249, 69] (by decide +kernel) (by decide +kernel)) gl_wsX5_fault
theorem gl_wsX5_take_r1 : GoodIn lw_tbl wsX5_take_r1 := goodIn_r _ [206, 203, 208, 318, 242, 211, 251, 252, 253, 70, 254, 255, 257, 0, 258, 109, 111, 113, 114, 115, 116, 259, 260, 261] (by decide +kernel) (by decide +kernel)
theorem gl_wsX5_take_r2 : GoodIn lw_tbl wsX5_take_r2 := goodIn_r _ [71, 262, 102, 263, 265, 1, 266, 267, 269, 2, 270, 271, 273, 3, 274, 275, 277, 4, 278, 279, 280, 281, 282, 283] (by decide +kernel) (by decide +kernel)
theorem gl_wsX5_take_r3 : GoodIn lw_tbl wsX5_take_r3 := goodIn_r _ [285, 5, 286, 287, 289, 6, 290, 291, 292, 293, 294, 101, 295, 296, 297, 298, 299, 300, 301, 302, 303, 305, 7, 306] (by decide +kernel) (by decide +kernel)
theorem gl_wsX5_take_r4 : GoodIn lw_tbl wsX5_take_r4 := goodIn_r _ [308, 69, 309, 314, 315, 316, 317, 319, 320, 321, 322, 323, 325, 8, 326, 210, 205, 197, 195, 112, 327, 328, 329, 330] (by decide +kernel) (by decide +kernel)
theorem gl_wsX5_take_r5 : GoodIn lw_tbl wsX5_take_r5 := goodIn_r _ [331, 332, 333, 334, 335, 336, 337, 338, 339, 341, 9, 342, 209, 204, 110, 343, 344, 345, 73, 346, 169, 172, 347, 348] (by decide +kernel) (by decide +kernel)
theorem gl_wsX5_take_r6 : GoodIn lw_tbl wsX5_take_r6 := goodIn_r _ [350, 10, 351, 175, 177, 352, 353, 354, 355, 356, 357, 358, 359] (by decide +kernel) (by decide +kernel)
theorem gl_wsX5_take : GoodIn lw_tbl wsX5_take := by
  unfold wsX5_take
  exact goodIn_cons (goodIn_r _ [313] (by decide +kernel) (by decide +kernel)) (goodIn_app (goodIn_app (goodIn_app (goodIn_app (goodIn_app (goodIn_app gl_wsX5_take_r1 (goodIn_app gl_wsX5_take_r2 (goodIn_app gl_wsX5_take_r3 (goodIn_app gl_wsX5_take_r4 (goodIn_app gl_wsX5_take_r5 gl_wsX5_take_r6))))) glX50) glX10) glX20) glX40) glX30)
theorem gL_X5_take : GoodIn lw_tbl (wsV RL 27 RX5 yX5_take wsX5_take) := goodIn_app (goodIn_r _ [310, 311, 312, 69] (by decide +kernel) (by decide +kernel)) gl_wsX5_take
theorem gl_wsX5_drop : GoodIn lw_tbl wsX5_drop := by
  unfold wsX5_drop
  exact goodIn_cons (goodIn_r _ [363] (by decide +kernel) (by decide +kernel)) (goodIn_app (goodIn_r _ [364, 366, 11, 69, 367, 372, 205, 210, 212, 368, 370, 12, 371, 373, 375, 13, 376, 204, 209, 377, 379, 14, 380] (by decide +kernel) (by decide +kernel)) glX50)
theorem gL_X5_drop : GoodIn lw_tbl (wsV RL 31 RX5 yX5_drop wsX5_drop) := goodIn_app (goodIn_r _ [360, 361, 362, 69] (by decide +kernel) (by decide +kernel)) gl_wsX5_drop
theorem gl_wsX5_storm_r1 : GoodIn lw_tbl wsX5_storm_r1 := goodIn_r _ [372, 204, 171, 174, 241, 377, 379, 14, 69, 380, 209, 385, 336, 337, 71, 338, 102, 101, 386, 280, 281, 282, 387, 388] (by decide +kernel) (by decide +kernel)
theorem gl_wsX5_storm_r2 : GoodIn lw_tbl wsX5_storm_r2 := goodIn_r _ [389, 390, 335] (by decide +kernel) (by decide +kernel)
theorem gl_wsX5_storm : GoodIn lw_tbl wsX5_storm := by
  unfold wsX5_storm
  exact goodIn_cons (goodIn_r _ [384] (by decide +kernel) (by decide +kernel)) (goodIn_app (goodIn_app (goodIn_app (goodIn_app gl_wsX5_storm_r1 gl_wsX5_storm_r2) glX50) glX30) glX20)
theorem gL_X5_storm : GoodIn lw_tbl (wsV RL 36 RX5 yX5_storm wsX5_storm) := goodIn_app (goodIn_r _ [381, 382, 383, 69] (by decide +kernel) (by decide +kernel)) gl_wsX5_storm
theorem gl_wsX5_divided_r1 : GoodIn lw_tbl wsX5_divided_r1 := goodIn_r _ [372, 241, 204, 399, 176, 377, 379, 14, 69, 380, 209, 395, 396, 397, 73, 398, 177, 386, 280, 281, 71, 282, 102, 385] (by decide +kernel) (by decide +kernel)
theorem gl_wsX5_divided_r2 : GoodIn lw_tbl wsX5_divided_r2 := goodIn_r _ [336, 337, 338, 101] (by decide +kernel) (by decide +kernel)
theorem gl_wsX5_divided : GoodIn lw_tbl wsX5_divided := by
  unfold wsX5_divided
  exact goodIn_cons (goodIn_r _ [394] (by decide +kernel) (by decide +kernel)) (goodIn_app (goodIn_app (goodIn_app (goodIn_app gl_wsX5_divided_r1 gl_wsX5_divided_r2) glX50) glX30) glX20)
theorem gL_X5_divided : GoodIn lw_tbl (wsV RL 41 RX5 yX5_divided wsX5_divided) := goodIn_app (goodIn_r _ [391, 392, 393, 69] (by decide +kernel) (by decide +kernel)) gl_wsX5_divided
theorem gl_wsX5_unit_r1 : GoodIn lw_tbl wsX5_unit_r1 := goodIn_r _ [372, 205, 195, 197, 241, 368, 370, 12, 69, 371, 210, 385, 336, 337, 71, 338, 102, 101, 386, 280, 281, 282, 387, 388] (by decide +kernel) (by decide +kernel)
theorem gl_wsX5_unit_r2 : GoodIn lw_tbl wsX5_unit_r2 := goodIn_r _ [389, 390, 335] (by decide +kernel) (by decide +kernel)
theorem gl_wsX5_unit : GoodIn lw_tbl wsX5_unit := by
  unfold wsX5_unit
  exact goodIn_cons (goodIn_r _ [403] (by decide +kernel) (by decide +kernel)) (goodIn_app (goodIn_app (goodIn_app (goodIn_app gl_wsX5_unit_r1 gl_wsX5_unit_r2) glX50) glX40) glX20)
theorem gL_X5_unit : GoodIn lw_tbl (wsV RL 45 RX5 yX5_unit wsX5_unit) := goodIn_app (goodIn_r _ [400, 401, 402, 69] (by decide +kernel) (by decide +kernel)) gl_wsX5_unit
theorem gl_wsX5_made_r1 : GoodIn lw_tbl wsX5_made_r1 := goodIn_r _ [372, 241, 204, 205, 195, 368, 370, 12, 69, 371, 210, 377, 379, 14, 380, 209, 408, 409, 410, 411, 356, 357, 73, 358] (by decide +kernel) (by decide +kernel)
theorem gl_wsX5_made_r2 : GoodIn lw_tbl wsX5_made_r2 := goodIn_r _ [169, 354, 336, 337, 71, 338, 102, 101] (by decide +kernel) (by decide +kernel)
theorem gl_wsX5_made : GoodIn lw_tbl wsX5_made := by
  unfold wsX5_made
  exact goodIn_cons (goodIn_r _ [407] (by decide +kernel) (by decide +kernel)) (goodIn_app (goodIn_app (goodIn_app (goodIn_app (goodIn_app gl_wsX5_made_r1 gl_wsX5_made_r2) glX50) glX40) glX30) glX20)
theorem gL_X5_made : GoodIn lw_tbl (wsV RL 49 RX5 yX5_made wsX5_made) := goodIn_app (goodIn_r _ [404, 405, 406, 69] (by decide +kernel) (by decide +kernel)) gl_wsX5_made
theorem gl_wsX5_missed_r1 : GoodIn lw_tbl wsX5_missed_r1 := goodIn_r _ [372, 204, 205, 195, 368, 370, 12, 69, 371, 210, 377, 379, 14, 380, 209, 416, 417, 418, 73, 419, 172, 355, 356, 357] (by decide +kernel) (by decide +kernel)
theorem gl_wsX5_missed_r2 : GoodIn lw_tbl wsX5_missed_r2 := goodIn_r _ [358, 169, 354, 336, 337, 71, 338, 102, 101] (by decide +kernel) (by decide +kernel)
theorem gl_wsX5_missed : GoodIn lw_tbl wsX5_missed := by
  unfold wsX5_missed
  exact goodIn_cons (goodIn_r _ [415] (by decide +kernel) (by decide +kernel)) (goodIn_app (goodIn_app (goodIn_app (goodIn_app (goodIn_app gl_wsX5_missed_r1 gl_wsX5_missed_r2) glX50) glX40) glX30) glX20)
theorem gL_X5_missed : GoodIn lw_tbl (wsV RL 54 RX5 yX5_missed wsX5_missed) := goodIn_app (goodIn_r _ [412, 413, 414, 69] (by decide +kernel) (by decide +kernel)) gl_wsX5_missed
theorem gl_wsX5_sum_r1 : GoodIn lw_tbl wsX5_sum_r1 := goodIn_r _ [372, 241, 205, 368, 370, 12, 69, 371, 210, 408, 409, 410, 424, 425, 426, 74, 427, 194, 196, 428, 336, 337, 71, 338] (by decide +kernel) (by decide +kernel)
theorem gl_wsX5_sum_r2 : GoodIn lw_tbl wsX5_sum_r2 := goodIn_r _ [102, 101] (by decide +kernel) (by decide +kernel)
theorem gl_wsX5_sum : GoodIn lw_tbl wsX5_sum := by
  unfold wsX5_sum
  exact goodIn_cons (goodIn_r _ [423] (by decide +kernel) (by decide +kernel)) (goodIn_app (goodIn_app (goodIn_app (goodIn_app gl_wsX5_sum_r1 gl_wsX5_sum_r2) glX50) glX40) glX20)
theorem gL_X5_sum : GoodIn lw_tbl (wsV RL 58 RX5 yX5_sum wsX5_sum) := goodIn_app (goodIn_r _ [420, 421, 422, 69] (by decide +kernel) (by decide +kernel)) gl_wsX5_sum
theorem gl_wsX5_other_r1 : GoodIn lw_tbl wsX5_other_r1 := goodIn_r _ [372, 241, 205, 197, 368, 370, 12, 69, 371, 210, 433, 308, 309, 408, 409, 410, 434, 435, 436, 424, 425, 426, 74, 427] (by decide +kernel) (by decide +kernel)
theorem gl_wsX5_other_r2 : GoodIn lw_tbl wsX5_other_r2 := goodIn_r _ [194, 196, 428, 336, 337, 71, 338, 102, 101, 437, 438, 439, 440, 441, 442, 443, 444, 76, 445] (by decide +kernel) (by decide +kernel)
theorem gl_wsX5_other : GoodIn lw_tbl wsX5_other := by
  unfold wsX5_other
  exact goodIn_cons (goodIn_r _ [432] (by decide +kernel) (by decide +kernel)) (goodIn_app (goodIn_app (goodIn_app (goodIn_app gl_wsX5_other_r1 gl_wsX5_other_r2) glX50) glX40) glX20)
theorem gL_X5_other : GoodIn lw_tbl (wsV RL 62 RX5 yX5_other wsX5_other) := goodIn_app (goodIn_r _ [429, 430, 431, 69] (by decide +kernel) (by decide +kernel)) gl_wsX5_other
theorem gl_wsX5_best_r1 : GoodIn lw_tbl wsX5_best_r1 := goodIn_r _ [457, 207, 450, 452, 15, 69, 453, 209, 454, 455, 456, 434, 435, 436, 458, 460, 16, 461, 204, 462, 463, 464, 72, 465] (by decide +kernel) (by decide +kernel)
theorem gl_wsX5_best_r2 : GoodIn lw_tbl wsX5_best_r2 := goodIn_r _ [466, 467, 76, 468, 469, 470, 471, 143, 142, 136, 137, 472, 473, 474, 475, 173, 170, 476, 336, 337, 71, 338, 102, 101] (by decide +kernel) (by decide +kernel)
theorem gl_wsX5_best_r3 : GoodIn lw_tbl wsX5_best_r3 := goodIn_r _ [477, 478, 479, 480, 481, 483, 17, 484, 141, 139, 140, 485, 487, 18, 488, 138, 489, 491, 19, 492, 496, 497, 498, 493] (by decide +kernel) (by decide +kernel)
theorem gl_wsX5_best_r4 : GoodIn lw_tbl wsX5_best_r4 := goodIn_r _ [494, 495, 499, 501, 20, 502, 503, 505, 21, 506, 507, 508, 509, 510, 511, 512, 513, 514, 437, 438, 439, 440, 441, 442] (by decide +kernel) (by decide +kernel)
theorem gl_wsX5_best_r5 : GoodIn lw_tbl wsX5_best_r5 := goodIn_r _ [443, 444, 445] (by decide +kernel) (by decide +kernel)
theorem gl_wsX5_best : GoodIn lw_tbl wsX5_best := by
  unfold wsX5_best
  exact goodIn_cons (goodIn_r _ [449] (by decide +kernel) (by decide +kernel)) (goodIn_app (goodIn_app (goodIn_app (goodIn_app (goodIn_app gl_wsX5_best_r1 (goodIn_app gl_wsX5_best_r2 (goodIn_app gl_wsX5_best_r3 (goodIn_app gl_wsX5_best_r4 gl_wsX5_best_r5)))) glX50) glX00) glX30) glX20)
theorem gL_X5_best : GoodIn lw_tbl (wsV RL 67 RX5 yX5_best wsX5_best) := goodIn_app (goodIn_r _ [446, 447, 448, 69] (by decide +kernel) (by decide +kernel)) gl_wsX5_best
theorem gl_wsX5_loss_r1 : GoodIn lw_tbl wsX5_loss_r1 := goodIn_r _ [457, 207, 450, 452, 15, 69, 453, 209, 434, 435, 436, 458, 460, 16, 461, 204, 462, 463, 464, 72, 465, 466, 467, 76] (by decide +kernel) (by decide +kernel)
theorem gl_wsX5_loss_r2 : GoodIn lw_tbl wsX5_loss_r2 := goodIn_r _ [468, 469, 470, 471, 143, 142, 136, 137, 472, 473, 474, 475, 173, 170, 476, 336, 337, 71, 338, 102, 101, 477, 478, 479] (by decide +kernel) (by decide +kernel)
theorem gl_wsX5_loss_r3 : GoodIn lw_tbl wsX5_loss_r3 := goodIn_r _ [480, 481, 483, 17, 484, 141, 139, 140, 485, 487, 18, 488, 138, 489, 491, 19, 492, 496, 497, 498, 493, 494, 495, 499] (by decide +kernel) (by decide +kernel)
theorem gl_wsX5_loss_r4 : GoodIn lw_tbl wsX5_loss_r4 := goodIn_r _ [501, 20, 502, 503, 505, 21, 506, 519, 520, 521, 522, 511, 512, 513, 514, 437, 438, 439, 440, 441, 442, 443, 444, 445] (by decide +kernel) (by decide +kernel)
theorem gl_wsX5_loss : GoodIn lw_tbl wsX5_loss := by
  unfold wsX5_loss
  exact goodIn_cons (goodIn_r _ [518] (by decide +kernel) (by decide +kernel)) (goodIn_app (goodIn_app (goodIn_app (goodIn_app (goodIn_app gl_wsX5_loss_r1 (goodIn_app gl_wsX5_loss_r2 (goodIn_app gl_wsX5_loss_r3 gl_wsX5_loss_r4))) glX50) glX00) glX30) glX20)
theorem gL_X5_loss : GoodIn lw_tbl (wsV RL 72 RX5 yX5_loss wsX5_loss) := goodIn_app (goodIn_r _ [515, 516, 517, 69] (by decide +kernel) (by decide +kernel)) gl_wsX5_loss
theorem gl_wsX5_press_r1 : GoodIn lw_tbl wsX5_press_r1 := goodIn_r _ [457, 207, 450, 452, 15, 69, 453, 209, 454, 455, 456, 434, 435, 436, 458, 460, 16, 461, 204, 462, 463, 464, 72, 465] (by decide +kernel) (by decide +kernel)
theorem gl_wsX5_press_r2 : GoodIn lw_tbl wsX5_press_r2 := goodIn_r _ [466, 467, 76, 468, 469, 470, 471, 143, 142, 136, 137, 472, 473, 474, 475, 173, 170, 476, 336, 337, 71, 338, 102, 101] (by decide +kernel) (by decide +kernel)
theorem gl_wsX5_press_r3 : GoodIn lw_tbl wsX5_press_r3 := goodIn_r _ [477, 478, 479, 480, 481, 483, 17, 484, 141, 139, 140, 485, 487, 18, 488, 138, 489, 491, 19, 492, 496, 497, 498, 493] (by decide +kernel) (by decide +kernel)
theorem gl_wsX5_press_r4 : GoodIn lw_tbl wsX5_press_r4 := goodIn_r _ [494, 495, 499, 501, 20, 502, 503, 505, 21, 506, 527, 528, 529, 530, 511, 512, 513, 514, 437, 438, 439, 440, 441, 442] (by decide +kernel) (by decide +kernel)
theorem gl_wsX5_press_r5 : GoodIn lw_tbl wsX5_press_r5 := goodIn_r _ [443, 444, 445] (by decide +kernel) (by decide +kernel)
theorem gl_wsX5_press : GoodIn lw_tbl wsX5_press := by
  unfold wsX5_press
  exact goodIn_cons (goodIn_r _ [526] (by decide +kernel) (by decide +kernel)) (goodIn_app (goodIn_app (goodIn_app (goodIn_app (goodIn_app gl_wsX5_press_r1 (goodIn_app gl_wsX5_press_r2 (goodIn_app gl_wsX5_press_r3 (goodIn_app gl_wsX5_press_r4 gl_wsX5_press_r5)))) glX50) glX00) glX30) glX20)
theorem gL_X5_press : GoodIn lw_tbl (wsV RL 77 RX5 yX5_press wsX5_press) := goodIn_app (goodIn_r _ [523, 524, 525, 69] (by decide +kernel) (by decide +kernel)) gl_wsX5_press
theorem gl_wsX5_nothing_r1 : GoodIn lw_tbl wsX5_nothing_r1 := goodIn_r _ [241, 207, 450, 452, 15, 69, 453, 209, 458, 460, 16, 461, 204, 462, 463, 464, 72, 465, 466, 467, 76, 468, 469, 470] (by decide +kernel) (by decide +kernel)
theorem gl_wsX5_nothing_r2 : GoodIn lw_tbl wsX5_nothing_r2 := goodIn_r _ [471, 143, 142, 136, 137, 472, 473, 474, 475, 173, 170, 476, 336, 337, 71, 338, 102, 101, 477, 478, 479, 480, 481, 483] (by decide +kernel) (by decide +kernel)
theorem gl_wsX5_nothing_r3 : GoodIn lw_tbl wsX5_nothing_r3 := goodIn_r _ [17, 484, 141, 139, 140, 485, 487, 18, 488, 138, 489, 491, 19, 492, 496, 497, 498, 493, 494, 495, 499, 501, 20, 502] (by decide +kernel) (by decide +kernel)
theorem gl_wsX5_nothing_r4 : GoodIn lw_tbl wsX5_nothing_r4 := goodIn_r _ [503, 505, 21, 506, 507, 508, 509, 510] (by decide +kernel) (by decide +kernel)
theorem gl_wsX5_nothing : GoodIn lw_tbl wsX5_nothing := by
  unfold wsX5_nothing
  exact goodIn_cons (goodIn_r _ [534] (by decide +kernel) (by decide +kernel)) (goodIn_app (goodIn_app (goodIn_app (goodIn_app (goodIn_app gl_wsX5_nothing_r1 (goodIn_app gl_wsX5_nothing_r2 (goodIn_app gl_wsX5_nothing_r3 gl_wsX5_nothing_r4))) glX50) glX00) glX30) glX20)
theorem gL_X5_nothing : GoodIn lw_tbl (wsV RL 81 RX5 yX5_nothing wsX5_nothing) := goodIn_app (goodIn_r _ [531, 532, 533, 69] (by decide +kernel) (by decide +kernel)) gl_wsX5_nothing
theorem gl_wsX5_keep_r1 : GoodIn lw_tbl wsX5_keep_r1 := goodIn_r _ [241, 207, 318, 210, 242, 205, 197, 195, 213, 450, 452, 15, 69, 453, 209, 433, 308, 309, 458, 460, 16, 461, 204, 462] (by decide +kernel) (by decide +kernel)
theorem gl_wsX5_keep_r2 : GoodIn lw_tbl wsX5_keep_r2 := goodIn_r _ [463, 464, 72, 465, 466, 467, 76, 468, 469, 470, 471, 143, 142, 136, 137, 472, 473, 474, 475, 173, 170, 476, 336, 337] (by decide +kernel) (by decide +kernel)
theorem gl_wsX5_keep_r3 : GoodIn lw_tbl wsX5_keep_r3 := goodIn_r _ [71, 338, 102, 101, 477, 478, 479, 480, 481, 483, 17, 484, 141, 139, 140, 485, 487, 18, 488, 138, 489, 491, 19, 492] (by decide +kernel) (by decide +kernel)
theorem gl_wsX5_keep_r4 : GoodIn lw_tbl wsX5_keep_r4 := goodIn_r _ [496, 497, 498, 493, 494, 495, 499, 501, 20, 502, 503, 505, 21, 506, 539, 540, 541, 542, 543, 544, 545, 546, 547, 548] (by decide +kernel) (by decide +kernel)
theorem gl_wsX5_keep_r5 : GoodIn lw_tbl wsX5_keep_r5 := goodIn_r _ [260, 261, 262, 549, 300, 301, 302] (by decide +kernel) (by decide +kernel)
theorem gl_wsX5_keep : GoodIn lw_tbl wsX5_keep := by
  unfold wsX5_keep
  exact goodIn_cons (goodIn_r _ [538] (by decide +kernel) (by decide +kernel)) (goodIn_app (goodIn_app (goodIn_app (goodIn_app (goodIn_app (goodIn_app gl_wsX5_keep_r1 (goodIn_app gl_wsX5_keep_r2 (goodIn_app gl_wsX5_keep_r3 (goodIn_app gl_wsX5_keep_r4 gl_wsX5_keep_r5)))) glX50) glX40) glX00) glX30) glX20)
theorem gL_X5_keep : GoodIn lw_tbl (wsV RL 85 RX5 yX5_keep wsX5_keep) := goodIn_app (goodIn_r _ [535, 536, 537, 69] (by decide +kernel) (by decide +kernel)) gl_wsX5_keep
theorem gl_wsX5_count : GoodIn lw_tbl wsX5_count := by
  unfold wsX5_count
  exact goodIn_cons (goodIn_r _ [553] (by decide +kernel) (by decide +kernel)) (goodIn_app (goodIn_r _ [209, 210, 208, 211, 212, 213, 241] (by decide +kernel) (by decide +kernel)) glX50)
theorem gL_X5_count : GoodIn lw_tbl (wsV RL 89 RX5 yX5_count wsX5_count) := goodIn_app (goodIn_r _ [550, 551, 552, 69] (by decide +kernel) (by decide +kernel)) gl_wsX5_count
theorem gl_wsX5_digest_r1 : GoodIn lw_tbl wsX5_digest_r1 := goodIn_r _ [558, 209, 210, 208, 203, 559, 561, 22, 69, 562, 563, 382, 383, 384, 372, 204, 171, 174, 241, 377, 379, 14, 380, 385] (by decide +kernel) (by decide +kernel)
theorem gl_wsX5_digest_r2 : GoodIn lw_tbl wsX5_digest_r2 := goodIn_r _ [336, 337, 71, 338, 102, 101, 386, 280, 281, 282, 387, 388, 389, 390, 335, 564, 565, 566, 567, 568, 392, 393, 394, 399] (by decide +kernel) (by decide +kernel)
theorem gl_wsX5_digest_r3 : GoodIn lw_tbl wsX5_digest_r3 := goodIn_r _ [176, 395, 396, 397, 73, 398, 177, 569, 571, 23, 572, 573, 401, 402, 403, 205, 195, 197, 368, 370, 12, 371, 574, 413] (by decide +kernel) (by decide +kernel)
