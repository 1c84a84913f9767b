set_option maxHeartbeats 4000000 in
set_option maxRecDepth 20000 in
theorem ggL_law_X7_most : GoodIn wsL_law wsX7_most := goodIn_r _ [719, 24, 35, 407, 720, 721, 489, 490, 491, 22, 492, 170, 722, 723, 724, 34, 725, 726, 727, 728, 729, 730, 731, 732, 78, 79, 80, 733, 434, 435, 436, 64, 734, 735, 736, 2, 737, 25, 19, 738, 406, 433, 389, 166, 167, 168, 169, 171, 172, 62, 173, 162, 163, 164, 63, 65, 739, 740, 741, 742, 268, 269, 524, 525, 526, 527, 528, 430, 431, 432, 529, 530, 531, 532, 533, 534, 535, 536, 537, 538, 455, 456, 457, 458, 459, 460, 539, 540, 541, 542, 543, 544, 545, 546, 547, 548, 743, 744, 745, 746, 747, 748, 749, 750, 751, 752, 753, 754, 77, 755, 756, 1021, 1022, 1023, 1024, 1025, 1026, 1027, 1028, 1029, 1030, 1031, 1032, 1033, 1082, 1083, 1084, 1085, 1086, 1087, 1088, 1089, 1095, 1096, 1097, 1098, 1099, 1100, 1101, 1102, 1103, 1078, 1079, 1080, 1081] (by decide +kernel) (by decide +kernel)
set_option maxHeartbeats 4000000 in
set_option maxRecDepth 20000 in
theorem gL_law_X7_most : GoodIn wsL_law (wsV RL 98 RX7 yX7_most wsX7_most) := goodIn_app (goodIn_of _ (by decide +kernel)) ggL_law_X7_most
set_option maxHeartbeats 4000000 in
set_option maxRecDepth 20000 in
theorem ggL_law_X8_most : GoodIn wsL_law wsX8_most := goodIn_r _ [760, 553, 761, 117, 118, 497, 498, 499, 5, 500, 96, 133, 134, 135, 762, 763, 764, 765, 396, 397, 398, 399, 558, 559, 560, 561, 562, 563, 564, 565, 566, 567, 568, 477, 478, 479, 512, 513, 514, 569, 570, 571, 572, 573, 574, 363, 364, 365, 575, 576, 577, 578, 766, 767, 768, 769, 770, 771, 772, 773, 1034, 1035, 1036, 1037, 1038, 1039, 1040, 1041, 1042, 1043, 1044, 1045, 1046, 1047, 1048, 1049, 1050, 1051, 1052, 1053, 1054, 1055, 1056, 1057, 1058, 1059, 1060, 1061, 1062, 1063, 1064, 1065, 1066, 1067, 1068, 1069, 1070] (by decide +kernel) (by decide +kernel)
set_option maxHeartbeats 4000000 in
set_option maxRecDepth 20000 in
theorem gL_law_X8_most : GoodIn wsL_law (wsV RL 101 RX8 yX8_most wsX8_most) := goodIn_app (goodIn_of _ (by decide +kernel)) ggL_law_X8_most
set_option maxHeartbeats 4000000 in
set_option maxRecDepth 20000 in
theorem ggL_law_X7_sound : GoodIn wsL_law wsX7_sound := goodIn_r _ [777, 19, 405, 778, 41, 427, 428, 410, 257, 258, 18, 259, 160, 454, 455, 456, 457, 458, 459, 460, 442, 443, 444, 40, 445, 446, 447, 448, 449, 450, 84, 451, 452, 453, 1021, 1022, 1023, 1024, 1025, 1026, 1027, 1028, 1029, 1030, 1031, 1032, 1033, 1078, 1079, 1080, 1081, 1104, 1105] (by decide +kernel) (by decide +kernel)
set_option maxHeartbeats 4000000 in
set_option maxRecDepth 20000 in
theorem gL_law_X7_sound : GoodIn wsL_law (wsV RL 102 RX7 yX7_sound wsX7_sound) := goodIn_app (goodIn_of _ (by decide +kernel)) ggL_law_X7_sound
set_option maxHeartbeats 4000000 in
set_option maxRecDepth 20000 in
theorem ggL_law_X8_sound : GoodIn wsL_law wsX8_sound := goodIn_r _ [782, 511, 96, 419, 420, 421, 5, 422, 133, 134, 135, 477, 478, 479, 480, 481, 482, 1034, 1035, 1036, 1037, 1038, 1039, 1040, 1041, 1042, 1043, 1044, 1045, 1046, 1047, 1048, 1049, 1050, 1051, 1052, 1053, 1054, 1055, 1056, 1057, 1058, 1059, 1060, 1061, 1062, 1063, 1064, 1065, 1066, 1067, 1068, 1069, 1070] (by decide +kernel) (by decide +kernel)
set_option maxHeartbeats 4000000 in
set_option maxRecDepth 20000 in
theorem gL_law_X8_sound : GoodIn wsL_law (wsV RL 105 RX8 yX8_sound wsX8_sound) := goodIn_app (goodIn_of _ (by decide +kernel)) ggL_law_X8_sound
set_option maxHeartbeats 4000000 in
set_option maxRecDepth 20000 in
theorem ggL_law_X7_seen : GoodIn wsL_law wsX7_seen := goodIn_r _ [786, 24, 19, 31, 386, 429, 430, 431, 22, 432, 169, 410, 257, 258, 18, 259, 160, 787, 788, 789, 30, 790, 791, 69, 70, 71, 72, 1021, 1022, 1023, 1024, 1025, 1026, 1027, 1028, 1029, 1030, 1031, 1032, 1033, 1090, 1091, 1092, 1093, 1094, 1082, 1083, 1084, 1085, 1086, 1087, 1088, 1089, 1078, 1079, 1080, 1081] (by decide +kernel) (by decide +kernel)
set_option maxHeartbeats 4000000 in
set_option maxRecDepth 20000 in
theorem gL_law_X7_seen : GoodIn wsL_law (wsV RL 106 RX7 yX7_seen wsX7_seen) := goodIn_app (goodIn_of _ (by decide +kernel)) ggL_law_X7_seen
set_option maxHeartbeats 4000000 in
set_option maxRecDepth 20000 in
theorem ggL_law_X8_seen : GoodIn wsL_law wsX8_seen := goodIn_r _ [795, 796, 395, 100, 101, 102, 103, 465, 466, 467, 5, 468, 96, 133, 134, 135, 419, 420, 421, 422, 1034, 1035, 1036, 1037, 1038, 1039, 1040, 1041, 1042, 1043, 1044, 1045, 1046, 1047, 1048, 1049, 1050, 1051, 1052, 1053, 1054, 1055, 1056, 1057, 1058, 1059, 1060, 1061, 1062, 1063, 1064, 1065, 1066, 1067, 1068, 1069, 1070] (by decide +kernel) (by decide +kernel)
set_option maxHeartbeats 4000000 in
set_option maxRecDepth 20000 in
theorem gL_law_X8_seen : GoodIn wsL_law (wsV RL 109 RX8 yX8_seen wsX8_seen) := goodIn_app (goodIn_of _ (by decide +kernel)) ggL_law_X8_seen
