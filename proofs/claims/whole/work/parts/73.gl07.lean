set_option maxHeartbeats 4000000 in
set_option maxRecDepth 20000 in
theorem ggL_law_X7_boy : GoodIn wsL_law wsX7_boy := goodIn_r _ [652, 19, 441, 405, 24, 591, 1021, 1022, 1023, 1024, 1025, 1026, 1027, 1028, 1029, 1030, 1031, 1032, 1033, 1078, 1079, 1080, 1081, 1082, 1083, 1084, 1085, 1086, 1087, 1088, 1089] (by decide +kernel) (by decide +kernel)
set_option maxHeartbeats 4000000 in
set_option maxRecDepth 20000 in
theorem gL_law_X7_boy : GoodIn wsL_law (wsV RL 84 RX7 yX7_boy wsX7_boy) := goodIn_app (goodIn_of _ (by decide +kernel)) ggL_law_X7_boy
set_option maxHeartbeats 4000000 in
set_option maxRecDepth 20000 in
theorem ggL_law_X8_boy : GoodIn wsL_law wsX8_boy := goodIn_r _ [656, 96, 1034, 1035, 1036, 1037, 1038, 1039, 1040, 1041, 1042, 1043, 1044, 1045, 1046, 1047, 1048, 1049, 1050, 1051, 1052, 1053, 1054, 1055, 1056, 1057, 1058, 1059, 1060, 1061, 1062, 1063, 1064, 1065, 1066, 1067, 1068, 1069, 1070] (by decide +kernel) (by decide +kernel)
set_option maxHeartbeats 4000000 in
set_option maxRecDepth 20000 in
theorem gL_law_X8_boy : GoodIn wsL_law (wsV RL 87 RX8 yX8_boy wsX8_boy) := goodIn_app (goodIn_of _ (by decide +kernel)) ggL_law_X8_boy
set_option maxHeartbeats 4000000 in
set_option maxRecDepth 20000 in
theorem ggL_law_X7_soonest : GoodIn wsL_law wsX7_soonest := goodIn_r _ [660, 24, 19, 406, 429, 430, 431, 22, 432, 169, 661, 662, 663, 18, 664, 160, 665, 666, 667, 2, 668, 25, 669, 670, 671, 672, 64, 673, 245, 246, 247, 170, 171, 172, 674, 277, 278, 279, 62, 675, 299, 300, 301, 63, 65, 676, 677, 678, 524, 525, 526, 527, 528, 529, 530, 531, 532, 533, 534, 535, 536, 537, 538, 455, 456, 457, 458, 459, 460, 539, 540, 541, 542, 543, 544, 545, 546, 547, 548, 1021, 1022, 1023, 1024, 1025, 1026, 1027, 1028, 1029, 1030, 1031, 1032, 1033, 1082, 1083, 1084, 1085, 1086, 1087, 1088, 1089, 1078, 1079, 1080, 1081] (by decide +kernel) (by decide +kernel)
set_option maxHeartbeats 4000000 in
set_option maxRecDepth 20000 in
theorem gL_law_X7_soonest : GoodIn wsL_law (wsV RL 88 RX7 yX7_soonest wsX7_soonest) := goodIn_app (goodIn_of _ (by decide +kernel)) ggL_law_X7_soonest
set_option maxHeartbeats 4000000 in
set_option maxRecDepth 20000 in
theorem ggL_law_X8_soonest : GoodIn wsL_law wsX8_soonest := goodIn_r _ [682, 683, 465, 466, 467, 5, 468, 96, 133, 134, 135, 684, 685, 686, 687, 688, 689, 690, 691, 562, 563, 692, 693, 694, 565, 566, 567, 568, 564, 477, 478, 479, 512, 513, 514, 569, 570, 571, 572, 573, 574, 363, 364, 365, 575, 576, 577, 578, 1034, 1035, 1036, 1037, 1038, 1039, 1040, 1041, 1042, 1043, 1044, 1045, 1046, 1047, 1048, 1049, 1050, 1051, 1052, 1053, 1054, 1055, 1056, 1057, 1058, 1059, 1060, 1061, 1062, 1063, 1064, 1065, 1066, 1067, 1068, 1069, 1070] (by decide +kernel) (by decide +kernel)
set_option maxHeartbeats 4000000 in
set_option maxRecDepth 20000 in
theorem gL_law_X8_soonest : GoodIn wsL_law (wsV RL 92 RX8 yX8_soonest wsX8_soonest) := goodIn_app (goodIn_of _ (by decide +kernel)) ggL_law_X8_soonest
set_option maxHeartbeats 4000000 in
set_option maxRecDepth 20000 in
theorem ggL_law_X7_order : GoodIn wsL_law wsX7_order := goodIn_r _ [698, 24, 19, 699, 406, 429, 430, 431, 22, 432, 169, 661, 662, 663, 18, 664, 160, 700, 701, 702, 2, 703, 676, 677, 678, 704, 705, 706, 707, 25, 669, 670, 671, 672, 64, 673, 245, 246, 247, 170, 171, 172, 674, 277, 278, 279, 62, 675, 299, 300, 301, 63, 65, 524, 525, 526, 527, 528, 529, 530, 531, 532, 533, 534, 535, 536, 537, 538, 455, 456, 457, 458, 459, 460, 539, 540, 541, 542, 543, 544, 545, 546, 547, 548, 1021, 1022, 1023, 1024, 1025, 1026, 1027, 1028, 1029, 1030, 1031, 1032, 1033, 1082, 1083, 1084, 1085, 1086, 1087, 1088, 1089, 1078, 1079, 1080, 1081] (by decide +kernel) (by decide +kernel)
set_option maxHeartbeats 4000000 in
set_option maxRecDepth 20000 in
theorem gL_law_X7_order : GoodIn wsL_law (wsV RL 93 RX7 yX7_order wsX7_order) := goodIn_app (goodIn_of _ (by decide +kernel)) ggL_law_X7_order
set_option maxHeartbeats 4000000 in
set_option maxRecDepth 20000 in
theorem ggL_law_X8_order : GoodIn wsL_law wsX8_order := goodIn_r _ [711, 465, 466, 467, 5, 468, 96, 133, 134, 135, 684, 685, 686, 687, 712, 713, 714, 715, 563, 562, 565, 566, 567, 568, 564, 477, 478, 479, 512, 513, 514, 569, 570, 571, 572, 573, 574, 363, 364, 365, 575, 576, 577, 578, 692, 693, 694, 1034, 1035, 1036, 1037, 1038, 1039, 1040, 1041, 1042, 1043, 1044, 1045, 1046, 1047, 1048, 1049, 1050, 1051, 1052, 1053, 1054, 1055, 1056, 1057, 1058, 1059, 1060, 1061, 1062, 1063, 1064, 1065, 1066, 1067, 1068, 1069, 1070] (by decide +kernel) (by decide +kernel)
set_option maxHeartbeats 4000000 in
set_option maxRecDepth 20000 in
theorem gL_law_X8_order : GoodIn wsL_law (wsV RL 97 RX8 yX8_order wsX8_order) := goodIn_app (goodIn_of _ (by decide +kernel)) ggL_law_X8_order
