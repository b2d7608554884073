theorem gl_wsX5_digest_r4 : GoodIn lw_tbl wsX5_digest_r4 := goodIn_r _ [414, 415, 416, 417, 418, 419, 172, 355, 356, 357, 358, 169, 354, 458, 460, 16, 461, 207, 462, 463, 464, 72, 465, 466] (by decide +kernel) (by decide +kernel)
theorem gl_wsX5_digest_r5 : GoodIn lw_tbl wsX5_digest_r5 := goodIn_r _ [467, 76, 468, 469, 470, 471, 143, 142, 136, 137, 472, 473, 474, 475, 173, 170, 476, 477, 478, 479, 480, 481, 483, 17] (by decide +kernel) (by decide +kernel)
theorem gl_wsX5_digest_r6 : GoodIn lw_tbl wsX5_digest_r6 := goodIn_r _ [484, 141, 139, 140, 485, 487, 18, 488, 138, 489, 491, 19, 492, 496, 497, 498, 493, 494, 495, 499, 501, 20, 502, 503] (by decide +kernel) (by decide +kernel)
theorem gl_wsX5_digest_r7 : GoodIn lw_tbl wsX5_digest_r7 := goodIn_r _ [505, 21, 506, 575, 577, 24, 578, 507, 508, 509, 510, 511, 512, 513, 514, 579, 580, 581, 437, 438, 439, 440, 441, 442] (by decide +kernel) (by decide +kernel)
theorem gl_wsX5_digest_r8 : GoodIn lw_tbl wsX5_digest_r8 := goodIn_r _ [443, 444, 445, 519, 520, 521, 522, 582, 551, 552, 553, 211, 212, 213] (by decide +kernel) (by decide +kernel)
theorem gl_wsX5_digest : GoodIn lw_tbl wsX5_digest := by
  unfold wsX5_digest
  exact goodIn_cons (goodIn_r _ [557] (by decide +kernel) (by decide +kernel)) (goodIn_app (goodIn_app (goodIn_app (goodIn_app (goodIn_app (goodIn_app gl_wsX5_digest_r1 (goodIn_app gl_wsX5_digest_r2 (goodIn_app gl_wsX5_digest_r3 (goodIn_app gl_wsX5_digest_r4 (goodIn_app gl_wsX5_digest_r5 (goodIn_app gl_wsX5_digest_r6 (goodIn_app gl_wsX5_digest_r7 gl_wsX5_digest_r8))))))) glX50) glX30) glX20) glX40) glX00)
theorem gL_X5_digest : GoodIn lw_tbl (wsV RL 93 RX5 yX5_digest wsX5_digest) := goodIn_app (goodIn_r _ [554, 555, 556, 69] (by decide +kernel) (by decide +kernel)) gl_wsX5_digest
theorem gl_wsX6_init : GoodIn lw_tbl wsX6_init := by
  unfold wsX6_init
  exact goodIn_cons (goodIn_r _ [587] (by decide +kernel) (by decide +kernel)) (goodIn_app (goodIn_r _ [588, 83, 84, 108, 590, 592, 593, 594, 595, 597, 598, 599, 607, 609, 613, 161, 614, 615, 617, 618, 620] (by decide +kernel) (by decide +kernel)) glX60)
theorem gl_wsX6_letter : GoodIn lw_tbl wsX6_letter := by
  unfold wsX6_letter
  exact goodIn_cons (goodIn_r _ [692] (by decide +kernel) (by decide +kernel)) (goodIn_app (goodIn_r _ [696, 589, 697, 590, 693, 694, 75, 695] (by decide +kernel) (by decide +kernel)) glX60)
theorem gL_X6_letter : GoodIn lw_tbl (wsV RL 17 RX6 yX6_letter wsX6_letter) := goodIn_app (goodIn_r _ [689, 690, 691, 75] (by decide +kernel) (by decide +kernel)) gl_wsX6_letter
theorem gl_wsX6_blank : GoodIn lw_tbl wsX6_blank := by
  unfold wsX6_blank
  exact goodIn_cons (goodIn_r _ [701] (by decide +kernel) (by decide +kernel)) (goodIn_app (goodIn_r _ [589] (by decide +kernel) (by decide +kernel)) glX60)
theorem gL_X6_blank : GoodIn lw_tbl (wsV RL 22 RX6 yX6_blank wsX6_blank) := goodIn_app (goodIn_r _ [698, 699, 700, 75] (by decide +kernel) (by decide +kernel)) gl_wsX6_blank
theorem gl_wsX6_fault_r1 : GoodIn lw_tbl wsX6_fault_r1 := goodIn_r _ [706, 708, 25, 75, 709, 589, 590, 710, 712, 26, 713, 603, 610, 611, 714, 716, 27, 717, 605, 718, 720, 28, 721, 604] (by decide +kernel) (by decide +kernel)
theorem gl_wsX6_fault_r2 : GoodIn lw_tbl wsX6_fault_r2 := goodIn_r _ [606, 608, 693, 694, 695, 722, 724, 29, 725, 726, 728, 30, 729, 730, 732, 31, 733, 607, 609] (by decide +kernel) (by decide +kernel)
theorem gl_wsX6_fault : GoodIn lw_tbl wsX6_fault := by
  unfold wsX6_fault
  exact goodIn_cons (goodIn_r _ [705] (by decide +kernel) (by decide +kernel)) (goodIn_app (goodIn_app gl_wsX6_fault_r1 gl_wsX6_fault_r2) glX60)
theorem gL_X6_fault : GoodIn lw_tbl (wsV RL 26 RX6 yX6_fault wsX6_fault) := goodIn_app (goodIn_r _ [702, 703, 704, 75] (by decide +kernel) (by decide +kernel)) gl_wsX6_fault
theorem gl_wsX6_take_r1 : GoodIn lw_tbl wsX6_take_r1 := goodIn_r _ [589, 603, 610, 738, 604, 596, 591, 697, 600, 706, 708, 25, 75, 709, 590, 710, 712, 26, 713, 611, 714, 716, 27, 717] (by decide +kernel) (by decide +kernel)
theorem gl_wsX6_take_r2 : GoodIn lw_tbl wsX6_take_r2 := goodIn_r _ [605, 718, 720, 28, 721, 606, 608, 693, 694, 695, 722, 724, 29, 725, 726, 728, 30, 729, 730, 732, 31, 733, 607, 609] (by decide +kernel) (by decide +kernel)
theorem gl_wsX6_take_r3 : GoodIn lw_tbl wsX6_take_r3 := goodIn_r _ [739, 741, 32, 742, 597, 598, 599, 743, 745, 33, 746, 592, 594, 593, 595] (by decide +kernel) (by decide +kernel)
theorem gl_wsX6_take : GoodIn lw_tbl wsX6_take := by
  unfold wsX6_take
  exact goodIn_cons (goodIn_r _ [737] (by decide +kernel) (by decide +kernel)) (goodIn_app (goodIn_app gl_wsX6_take_r1 (goodIn_app gl_wsX6_take_r2 gl_wsX6_take_r3)) glX60)
theorem gL_X6_take : GoodIn lw_tbl (wsV RL 30 RX6 yX6_take wsX6_take) := goodIn_app (goodIn_r _ [734, 735, 736, 75] (by decide +kernel) (by decide +kernel)) gl_wsX6_take
theorem gl_wsX6_drop_r1 : GoodIn lw_tbl wsX6_drop_r1 := goodIn_r _ [759, 601, 751, 753, 34, 75, 754, 596, 693, 694, 695, 755, 757, 35, 758, 591, 760, 762, 36, 763, 597, 598, 599, 764] (by decide +kernel) (by decide +kernel)
theorem gl_wsX6_drop_r2 : GoodIn lw_tbl wsX6_drop_r2 := goodIn_r _ [766, 37, 767, 592, 594, 593, 595] (by decide +kernel) (by decide +kernel)
theorem gl_wsX6_drop : GoodIn lw_tbl wsX6_drop := by
  unfold wsX6_drop
  exact goodIn_cons (goodIn_r _ [750] (by decide +kernel) (by decide +kernel)) (goodIn_app (goodIn_app gl_wsX6_drop_r1 gl_wsX6_drop_r2) glX60)
theorem gL_X6_drop : GoodIn lw_tbl (wsV RL 35 RX6 yX6_drop wsX6_drop) := goodIn_app (goodIn_r _ [747, 748, 749, 75] (by decide +kernel) (by decide +kernel)) gl_wsX6_drop
theorem gl_wsX6_storm_r1 : GoodIn lw_tbl wsX6_storm_r1 := goodIn_r _ [759, 696, 755, 757, 35, 75, 758, 591, 693, 694, 695, 772, 774, 38, 775, 592, 594, 776, 778, 39, 779, 780, 782, 40] (by decide +kernel) (by decide +kernel)
theorem gl_wsX6_storm_r2 : GoodIn lw_tbl wsX6_storm_r2 := goodIn_r _ [783, 593, 784, 786, 41, 787, 788, 790, 42, 791, 595] (by decide +kernel) (by decide +kernel)
theorem gl_wsX6_storm : GoodIn lw_tbl wsX6_storm := by
  unfold wsX6_storm
  exact goodIn_cons (goodIn_r _ [771] (by decide +kernel) (by decide +kernel)) (goodIn_app (goodIn_app gl_wsX6_storm_r1 gl_wsX6_storm_r2) glX60)
theorem gL_X6_storm : GoodIn lw_tbl (wsV RL 40 RX6 yX6_storm wsX6_storm) := goodIn_app (goodIn_r _ [768, 769, 770, 75] (by decide +kernel) (by decide +kernel)) gl_wsX6_storm
theorem gl_wsX6_divided_r1 : GoodIn lw_tbl wsX6_divided_r1 := goodIn_r _ [759, 696, 755, 757, 35, 75, 758, 591, 693, 694, 695, 796, 798, 43, 799, 804, 612, 613, 800, 802, 44, 803, 594, 592] (by decide +kernel) (by decide +kernel)
theorem gl_wsX6_divided_r2 : GoodIn lw_tbl wsX6_divided_r2 := goodIn_r _ [788, 790, 42, 791, 595, 780, 782, 40, 783, 593] (by decide +kernel) (by decide +kernel)
theorem gl_wsX6_divided : GoodIn lw_tbl wsX6_divided := by
  unfold wsX6_divided
  exact goodIn_cons (goodIn_r _ [795] (by decide +kernel) (by decide +kernel)) (goodIn_app (goodIn_app gl_wsX6_divided_r1 gl_wsX6_divided_r2) glX60)
theorem gL_X6_divided : GoodIn lw_tbl (wsV RL 44 RX6 yX6_divided wsX6_divided) := goodIn_app (goodIn_r _ [792, 793, 794, 75] (by decide +kernel) (by decide +kernel)) gl_wsX6_divided
theorem gl_wsX6_unit_r1 : GoodIn lw_tbl wsX6_unit_r1 := goodIn_r _ [759, 696, 751, 753, 34, 75, 754, 596, 693, 694, 695, 809, 811, 45, 812, 597, 598, 813, 815, 46, 816, 817, 819, 47] (by decide +kernel) (by decide +kernel)
theorem gl_wsX6_unit_r2 : GoodIn lw_tbl wsX6_unit_r2 := goodIn_r _ [820, 599] (by decide +kernel) (by decide +kernel)
theorem gl_wsX6_unit : GoodIn lw_tbl wsX6_unit := by
  unfold wsX6_unit
  exact goodIn_cons (goodIn_r _ [808] (by decide +kernel) (by decide +kernel)) (goodIn_app (goodIn_app gl_wsX6_unit_r1 gl_wsX6_unit_r2) glX60)
theorem gL_X6_unit : GoodIn lw_tbl (wsV RL 48 RX6 yX6_unit wsX6_unit) := goodIn_app (goodIn_r _ [805, 806, 807, 75] (by decide +kernel) (by decide +kernel)) gl_wsX6_unit
theorem gl_wsX6_made_r1 : GoodIn lw_tbl wsX6_made_r1 := goodIn_r _ [759, 696, 751, 753, 34, 75, 754, 596, 693, 694, 695, 755, 757, 35, 758, 591, 825, 827, 48, 828, 780, 782, 40, 783] (by decide +kernel) (by decide +kernel)
theorem gl_wsX6_made_r2 : GoodIn lw_tbl wsX6_made_r2 := goodIn_r _ [593, 817, 819, 47, 820, 599] (by decide +kernel) (by decide +kernel)
theorem gl_wsX6_made : GoodIn lw_tbl wsX6_made := by
  unfold wsX6_made
  exact goodIn_cons (goodIn_r _ [824] (by decide +kernel) (by decide +kernel)) (goodIn_app (goodIn_app gl_wsX6_made_r1 gl_wsX6_made_r2) glX60)
theorem gL_X6_made : GoodIn lw_tbl (wsV RL 53 RX6 yX6_made wsX6_made) := goodIn_app (goodIn_r _ [821, 822, 823, 75] (by decide +kernel) (by decide +kernel)) gl_wsX6_made
theorem gl_wsX6_missed_r1 : GoodIn lw_tbl wsX6_missed_r1 := goodIn_r _ [759, 751, 753, 34, 75, 754, 596, 693, 694, 695, 755, 757, 35, 758, 591, 833, 835, 49, 836, 825, 827, 48, 828, 780] (by decide +kernel) (by decide +kernel)
theorem gl_wsX6_missed_r2 : GoodIn lw_tbl wsX6_missed_r2 := goodIn_r _ [782, 40, 783, 593, 817, 819, 47, 820, 599, 788, 790, 42, 791, 595] (by decide +kernel) (by decide +kernel)
theorem gl_wsX6_missed : GoodIn lw_tbl wsX6_missed := by
  unfold wsX6_missed
  exact goodIn_cons (goodIn_r _ [832] (by decide +kernel) (by decide +kernel)) (goodIn_app (goodIn_app gl_wsX6_missed_r1 gl_wsX6_missed_r2) glX60)
theorem gL_X6_missed : GoodIn lw_tbl (wsV RL 57 RX6 yX6_missed wsX6_missed) := goodIn_app (goodIn_r _ [829, 830, 831, 75] (by decide +kernel) (by decide +kernel)) gl_wsX6_missed
theorem gl_wsX6_sum : GoodIn lw_tbl wsX6_sum := by
  unfold wsX6_sum
  exact goodIn_cons (goodIn_r _ [840] (by decide +kernel) (by decide +kernel)) (goodIn_app (goodIn_r _ [759, 696, 751, 753, 34, 75, 754, 596, 693, 694, 695, 841, 843, 50, 844, 597, 817, 819, 47, 820, 599] (by decide +kernel) (by decide +kernel)) glX60)
theorem gL_X6_sum : GoodIn lw_tbl (wsV RL 61 RX6 yX6_sum wsX6_sum) := goodIn_app (goodIn_r _ [837, 838, 839, 75] (by decide +kernel) (by decide +kernel)) gl_wsX6_sum
theorem gl_wsX6_other_r1 : GoodIn lw_tbl wsX6_other_r1 := goodIn_r _ [759, 696, 597, 751, 753, 34, 75, 754, 596, 693, 694, 695, 841, 843, 50, 844, 817, 819, 47, 820, 599, 849, 850, 851] (by decide +kernel) (by decide +kernel)
theorem gl_wsX6_other_r2 : GoodIn lw_tbl wsX6_other_r2 := goodIn_r _ [852, 853, 854] (by decide +kernel) (by decide +kernel)
theorem gl_wsX6_other : GoodIn lw_tbl wsX6_other := by
  unfold wsX6_other
  exact goodIn_cons (goodIn_r _ [848] (by decide +kernel) (by decide +kernel)) (goodIn_app (goodIn_app gl_wsX6_other_r1 gl_wsX6_other_r2) glX60)
theorem gL_X6_other : GoodIn lw_tbl (wsV RL 66 RX6 yX6_other wsX6_other) := goodIn_app (goodIn_r _ [845, 846, 847, 75] (by decide +kernel) (by decide +kernel)) gl_wsX6_other
theorem gl_wsX6_best_r1 : GoodIn lw_tbl wsX6_best_r1 := goodIn_r _ [894, 859, 861, 51, 75, 862, 591, 693, 694, 695, 863, 865, 52, 866, 620, 619, 867, 869, 53, 870, 871, 873, 54, 874] (by decide +kernel) (by decide +kernel)
theorem gl_wsX6_best_r2 : GoodIn lw_tbl wsX6_best_r2 := goodIn_r _ [616, 614, 615, 788, 790, 42, 791, 595, 780, 782, 40, 783, 593, 875, 877, 55, 878, 618, 617, 879, 880, 881, 882, 884] (by decide +kernel) (by decide +kernel)
theorem gl_wsX6_best_r3 : GoodIn lw_tbl wsX6_best_r3 := goodIn_r _ [56, 885, 886, 888, 57, 889, 890, 892, 58, 893, 849, 850, 851, 852, 853, 854] (by decide +kernel) (by decide +kernel)
theorem gl_wsX6_best : GoodIn lw_tbl wsX6_best := by
  unfold wsX6_best
  exact goodIn_cons (goodIn_r _ [858] (by decide +kernel) (by decide +kernel)) (goodIn_app (goodIn_app gl_wsX6_best_r1 (goodIn_app gl_wsX6_best_r2 gl_wsX6_best_r3)) glX60)
theorem gL_X6_best : GoodIn lw_tbl (wsV RL 71 RX6 yX6_best wsX6_best) := goodIn_app (goodIn_r _ [855, 856, 857, 75] (by decide +kernel) (by decide +kernel)) gl_wsX6_best
theorem gl_wsX6_loss_r1 : GoodIn lw_tbl wsX6_loss_r1 := goodIn_r _ [894, 859, 861, 51, 75, 862, 591, 693, 694, 695, 899, 901, 59, 902, 616, 619, 620, 615, 867, 869, 53, 870, 871, 873] (by decide +kernel) (by decide +kernel)
theorem gl_wsX6_loss_r2 : GoodIn lw_tbl wsX6_loss_r2 := goodIn_r _ [54, 874, 614, 788, 790, 42, 791, 595, 780, 782, 40, 783, 593, 875, 877, 55, 878, 618, 617, 879, 880, 881, 882, 884] (by decide +kernel) (by decide +kernel)
theorem gl_wsX6_loss_r3 : GoodIn lw_tbl wsX6_loss_r3 := goodIn_r _ [56, 885, 886, 888, 57, 889, 890, 892, 58, 893, 849, 850, 851, 852, 853, 854] (by decide +kernel) (by decide +kernel)
theorem gl_wsX6_loss : GoodIn lw_tbl wsX6_loss := by
  unfold wsX6_loss
  exact goodIn_cons (goodIn_r _ [898] (by decide +kernel) (by decide +kernel)) (goodIn_app (goodIn_app gl_wsX6_loss_r1 (goodIn_app gl_wsX6_loss_r2 gl_wsX6_loss_r3)) glX60)
theorem gL_X6_loss : GoodIn lw_tbl (wsV RL 76 RX6 yX6_loss wsX6_loss) := goodIn_app (goodIn_r _ [895, 896, 897, 75] (by decide +kernel) (by decide +kernel)) gl_wsX6_loss
theorem gl_wsX6_press_r1 : GoodIn lw_tbl wsX6_press_r1 := goodIn_r _ [894, 859, 861, 51, 75, 862, 591, 693, 694, 695, 907, 909, 60, 910, 619, 867, 869, 53, 870, 871, 873, 54, 874, 616] (by decide +kernel) (by decide +kernel)
theorem gl_wsX6_press_r2 : GoodIn lw_tbl wsX6_press_r2 := goodIn_r _ [614, 615, 788, 790, 42, 791, 595, 780, 782, 40, 783, 593, 875, 877, 55, 878, 620, 618, 617, 879, 880, 881, 882, 884] (by decide +kernel) (by decide +kernel)
theorem gl_wsX6_press_r3 : GoodIn lw_tbl wsX6_press_r3 := goodIn_r _ [56, 885, 886, 888, 57, 889, 890, 892, 58, 893, 849, 850, 851, 852, 853, 854] (by decide +kernel) (by decide +kernel)
theorem gl_wsX6_press : GoodIn lw_tbl wsX6_press := by
  unfold wsX6_press
  exact goodIn_cons (goodIn_r _ [906] (by decide +kernel) (by decide +kernel)) (goodIn_app (goodIn_app gl_wsX6_press_r1 (goodIn_app gl_wsX6_press_r2 gl_wsX6_press_r3)) glX60)
theorem gL_X6_press : GoodIn lw_tbl (wsV RL 80 RX6 yX6_press wsX6_press) := goodIn_app (goodIn_r _ [903, 904, 905, 75] (by decide +kernel) (by decide +kernel)) gl_wsX6_press
theorem gl_wsX6_nothing_r1 : GoodIn lw_tbl wsX6_nothing_r1 := goodIn_r _ [696, 859, 861, 51, 75, 862, 591, 693, 694, 695, 915, 917, 61, 918, 620, 867, 869, 53, 870, 871, 873, 54, 874, 616] (by decide +kernel) (by decide +kernel)
theorem gl_wsX6_nothing_r2 : GoodIn lw_tbl wsX6_nothing_r2 := goodIn_r _ [614, 615, 788, 790, 42, 791, 595, 780, 782, 40, 783, 593, 875, 877, 55, 878, 618, 617, 619, 879, 880, 881, 882, 884] (by decide +kernel) (by decide +kernel)
theorem gl_wsX6_nothing_r3 : GoodIn lw_tbl wsX6_nothing_r3 := goodIn_r _ [56, 885, 886, 888, 57, 889, 890, 892, 58, 893] (by decide +kernel) (by decide +kernel)
theorem gl_wsX6_nothing : GoodIn lw_tbl wsX6_nothing := by
  unfold wsX6_nothing
  exact goodIn_cons (goodIn_r _ [914] (by decide +kernel) (by decide +kernel)) (goodIn_app (goodIn_app gl_wsX6_nothing_r1 (goodIn_app gl_wsX6_nothing_r2 gl_wsX6_nothing_r3)) glX60)
theorem gL_X6_nothing : GoodIn lw_tbl (wsV RL 84 RX6 yX6_nothing wsX6_nothing) := goodIn_app (goodIn_r _ [911, 912, 913, 75] (by decide +kernel) (by decide +kernel)) gl_wsX6_nothing
theorem gl_wsX6_keep_r1 : GoodIn lw_tbl wsX6_keep_r1 := goodIn_r _ [696, 738, 596, 697, 605, 608, 609, 620, 619, 602, 859, 861, 51, 75, 862, 591, 693, 694, 695, 867, 869, 53, 870, 871] (by decide +kernel) (by decide +kernel)
theorem gl_wsX6_keep_r2 : GoodIn lw_tbl wsX6_keep_r2 := goodIn_r _ [873, 54, 874, 616, 614, 615, 788, 790, 42, 791, 595, 780, 782, 40, 783, 593, 875, 877, 55, 878, 618, 617, 879, 880] (by decide +kernel) (by decide +kernel)
theorem gl_wsX6_keep_r3 : GoodIn lw_tbl wsX6_keep_r3 := goodIn_r _ [881, 882, 884, 56, 885, 886, 888, 57, 889, 890, 892, 58, 893, 923, 925, 62, 926, 927, 739, 741, 32, 742, 597, 598] (by decide +kernel) (by decide +kernel)
theorem gl_wsX6_keep_r4 : GoodIn lw_tbl wsX6_keep_r4 := goodIn_r _ [599] (by decide +kernel) (by decide +kernel)
theorem gl_wsX6_keep : GoodIn lw_tbl wsX6_keep := by
  unfold wsX6_keep
  exact goodIn_cons (goodIn_r _ [922] (by decide +kernel) (by decide +kernel)) (goodIn_app (goodIn_app gl_wsX6_keep_r1 (goodIn_app gl_wsX6_keep_r2 (goodIn_app gl_wsX6_keep_r3 gl_wsX6_keep_r4))) glX60)
theorem gL_X6_keep : GoodIn lw_tbl (wsV RL 88 RX6 yX6_keep wsX6_keep) := goodIn_app (goodIn_r _ [919, 920, 921, 75] (by decide +kernel) (by decide +kernel)) gl_wsX6_keep
theorem gl_wsX6_count : GoodIn lw_tbl wsX6_count := by
  unfold wsX6_count
  exact goodIn_cons (goodIn_r _ [931] (by decide +kernel) (by decide +kernel)) (goodIn_app (goodIn_r _ [932, 934, 63, 75, 935, 591, 596, 589, 600, 601, 602, 696] (by decide +kernel) (by decide +kernel)) glX60)
theorem gL_X6_count : GoodIn lw_tbl (wsV RL 92 RX6 yX6_count wsX6_count) := goodIn_app (goodIn_r _ [928, 929, 930, 75] (by decide +kernel) (by decide +kernel)) gl_wsX6_count
theorem gl_wsX6_digest_r1 : GoodIn lw_tbl wsX6_digest_r1 := goodIn_r _ [940, 621, 591, 589, 590, 941, 943, 64, 75, 944, 693, 694, 695, 772, 774, 38, 775, 592, 594, 776, 778, 39, 779, 780] (by decide +kernel) (by decide +kernel)
theorem gl_wsX6_digest_r2 : GoodIn lw_tbl wsX6_digest_r2 := goodIn_r _ [782, 40, 783, 593, 784, 786, 41, 787, 788, 790, 42, 791, 595, 945, 947, 65, 948, 949, 796, 798, 43, 799, 804, 612] (by decide +kernel) (by decide +kernel)
theorem gl_wsX6_digest_r3 : GoodIn lw_tbl wsX6_digest_r3 := goodIn_r _ [613, 800, 802, 44, 803, 950, 952, 66, 953, 596, 809, 811, 45, 812, 597, 598, 813, 815, 46, 816, 817, 819, 47, 820] (by decide +kernel) (by decide +kernel)
theorem gl_wsX6_digest_r4 : GoodIn lw_tbl wsX6_digest_r4 := goodIn_r _ [599, 833, 835, 49, 836, 825, 827, 48, 828, 954, 956, 67, 957, 863, 865, 52, 866, 620, 619, 867, 869, 53, 870, 871] (by decide +kernel) (by decide +kernel)
theorem gl_wsX6_digest_r5 : GoodIn lw_tbl wsX6_digest_r5 := goodIn_r _ [873, 54, 874, 616, 614, 615, 875, 877, 55, 878, 618, 617, 879, 880, 881, 882, 884, 56, 885, 886, 888, 57, 889, 890] (by decide +kernel) (by decide +kernel)
theorem gl_wsX6_digest_r6 : GoodIn lw_tbl wsX6_digest_r6 := goodIn_r _ [892, 58, 893, 849, 850, 851, 852, 853, 854, 899, 901, 59, 902, 932, 934, 63, 935, 600, 601, 602, 696] (by decide +kernel) (by decide +kernel)
theorem gl_wsX6_digest : GoodIn lw_tbl wsX6_digest := by
  unfold wsX6_digest
  exact goodIn_cons (goodIn_r _ [939] (by decide +kernel) (by decide +kernel)) (goodIn_app (goodIn_app gl_wsX6_digest_r1 (goodIn_app gl_wsX6_digest_r2 (goodIn_app gl_wsX6_digest_r3 (goodIn_app gl_wsX6_digest_r4 (goodIn_app gl_wsX6_digest_r5 gl_wsX6_digest_r6))))) glX60)
theorem gL_X6_digest : GoodIn lw_tbl (wsV RL 97 RX6 yX6_digest wsX6_digest) := goodIn_app (goodIn_r _ [936, 937, 938, 75] (by decide +kernel) (by decide +kernel)) gl_wsX6_digest
theorem wL_link5 : Cond.methodLink RL 9 yX5_init ∈ lw_tbl := List.mem_of_getElem? (i := 79) (by decide +kernel)
theorem wL_ins5 : Cond.instanceMethod yX5_init ∈ lw_tbl := List.mem_of_getElem? (i := 80) (by decide +kernel)
theorem wL_link6 : Cond.methodLink RL 12 yX6_init ∈ lw_tbl := List.mem_of_getElem? (i := 585) (by decide +kernel)
theorem wL_ins6 : Cond.instanceMethod yX6_init ∈ lw_tbl := List.mem_of_getElem? (i := 586) (by decide +kernel)
theorem wL_cls5 : Cond.classLink RL 7 RX5 ∈ lw_tbl := List.mem_of_getElem? (i := 77) (by decide +kernel)
theorem wL_cls6 : Cond.classLink RL 10 RX6 ∈ lw_tbl := List.mem_of_getElem? (i := 583) (by decide +kernel)
theorem wL_inst0 : Cond.instantiable RX0 8 ∈ lw_tbl := List.mem_of_getElem? (i := 131) (by decide +kernel)
theorem wL_init0 : Cond.initialized RX0 ∈ lw_tbl := List.mem_of_getElem? (i := 72) (by decide +kernel)
theorem wL_inst1 : Cond.instantiable RX1 6 ∈ lw_tbl := List.mem_of_getElem? (i := 90) (by decide +kernel)
theorem wL_init1 : Cond.initialized RX1 ∈ lw_tbl := List.mem_of_getElem? (i := 70) (by decide +kernel)
theorem wL_inst2 : Cond.instantiable RX2 2 ∈ lw_tbl := List.mem_of_getElem? (i := 96) (by decide +kernel)
theorem wL_init2 : Cond.initialized RX2 ∈ lw_tbl := List.mem_of_getElem? (i := 71) (by decide +kernel)
theorem wL_inst3 : Cond.instantiable RX3 4 ∈ lw_tbl := List.mem_of_getElem? (i := 162) (by decide +kernel)
theorem wL_init3 : Cond.initialized RX3 ∈ lw_tbl := List.mem_of_getElem? (i := 73) (by decide +kernel)
theorem wL_inst4 : Cond.instantiable RX4 2 ∈ lw_tbl := List.mem_of_getElem? (i := 187) (by decide +kernel)
theorem wL_init4 : Cond.initialized RX4 ∈ lw_tbl := List.mem_of_getElem? (i := 74) (by decide +kernel)
theorem wL_inst5 : Cond.instantiable RX5 11 ∈ lw_tbl := List.mem_of_getElem? (i := 78) (by decide +kernel)
theorem wL_init5 : Cond.initialized RX5 ∈ lw_tbl := List.mem_of_getElem? (i := 69) (by decide +kernel)
theorem wL_inst6 : Cond.instantiable RX6 33 ∈ lw_tbl := List.mem_of_getElem? (i := 584) (by decide +kernel)
