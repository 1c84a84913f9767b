set_option maxHeartbeats 4000000 in
set_option maxRecDepth 20000 in
theorem ggL_law_X7_back : GoodIn wsL_law wsX7_back := goodIn_r _ [623, 385, 24, 27, 384, 519, 414, 268, 2, 269, 389, 166, 167, 22, 168, 169, 170, 171, 172, 62, 173, 162, 163, 164, 63, 64, 65, 1021, 1022, 1023, 1024, 1025, 1026, 1027, 1028, 1029, 1030, 1031, 1032, 1033, 1082, 1083, 1084, 1085, 1086, 1087, 1088, 1089] (by decide +kernel) (by decide +kernel)
set_option maxHeartbeats 4000000 in
set_option maxRecDepth 20000 in
theorem gL_law_X7_back : GoodIn wsL_law (wsV RL 72 RX7 yX7_back wsX7_back) := goodIn_app (goodIn_of _ (by decide +kernel)) ggL_law_X7_back
set_option maxHeartbeats 4000000 in
set_option maxRecDepth 20000 in
theorem ggL_law_X8_back : GoodIn wsL_law wsX8_back := goodIn_r _ [627, 98, 394, 96, 133, 134, 5, 135, 396, 397, 398, 399, 1034, 1035, 1036, 1037, 1038, 1039, 1040, 1041, 1042, 1043, 1044, 1045, 1046, 1047, 1048, 1049, 1050, 1051, 1052, 1053, 1054, 1055, 1056, 1057, 1058, 1059, 1060, 1061, 1062, 1063, 1064, 1065, 1066, 1067, 1068, 1069, 1070] (by decide +kernel) (by decide +kernel)
set_option maxHeartbeats 4000000 in
set_option maxRecDepth 20000 in
theorem gL_law_X8_back : GoodIn wsL_law (wsV RL 75 RX8 yX8_back wsX8_back) := goodIn_app (goodIn_of _ (by decide +kernel)) ggL_law_X8_back
set_option maxHeartbeats 4000000 in
set_option maxRecDepth 20000 in
theorem ggL_law_X7_ahead : GoodIn wsL_law wsX7_ahead := goodIn_r _ [631, 24, 25, 19, 406, 429, 430, 431, 22, 432, 169, 389, 166, 167, 168, 170, 171, 172, 62, 173, 162, 163, 164, 63, 64, 65, 524, 525, 526, 527, 528, 529, 530, 531, 532, 533, 534, 535, 536, 537, 538, 455, 456, 457, 458, 459, 460, 539, 540, 541, 542, 543, 544, 545, 546, 547, 548, 1021, 1022, 1023, 1024, 1025, 1026, 1027, 1028, 1029, 1030, 1031, 1032, 1033, 1082, 1083, 1084, 1085, 1086, 1087, 1088, 1089, 1078, 1079, 1080, 1081] (by decide +kernel) (by decide +kernel)
set_option maxHeartbeats 4000000 in
set_option maxRecDepth 20000 in
theorem gL_law_X7_ahead : GoodIn wsL_law (wsV RL 76 RX7 yX7_ahead wsX7_ahead) := goodIn_app (goodIn_of _ (by decide +kernel)) ggL_law_X7_ahead
set_option maxHeartbeats 4000000 in
set_option maxRecDepth 20000 in
theorem ggL_law_X8_ahead : GoodIn wsL_law wsX8_ahead := goodIn_r _ [635, 636, 96, 465, 466, 467, 5, 468, 133, 134, 135, 637, 638, 639, 640, 396, 397, 398, 399, 558, 559, 560, 561, 562, 563, 564, 565, 566, 567, 568, 477, 478, 479, 512, 513, 514, 569, 570, 571, 572, 573, 574, 363, 364, 365, 575, 576, 577, 578, 1034, 1035, 1036, 1037, 1038, 1039, 1040, 1041, 1042, 1043, 1044, 1045, 1046, 1047, 1048, 1049, 1050, 1051, 1052, 1053, 1054, 1055, 1056, 1057, 1058, 1059, 1060, 1061, 1062, 1063, 1064, 1065, 1066, 1067, 1068, 1069, 1070] (by decide +kernel) (by decide +kernel)
set_option maxHeartbeats 4000000 in
set_option maxRecDepth 20000 in
theorem gL_law_X8_ahead : GoodIn wsL_law (wsV RL 79 RX8 yX8_ahead wsX8_ahead) := goodIn_app (goodIn_of _ (by decide +kernel)) ggL_law_X8_ahead
set_option maxHeartbeats 4000000 in
set_option maxRecDepth 20000 in
theorem ggL_law_X7_gone : GoodIn wsL_law wsX7_gone := goodIn_r _ [644, 24, 19, 25, 406, 429, 430, 431, 22, 432, 169, 410, 257, 258, 18, 259, 160, 389, 166, 167, 168, 170, 171, 172, 62, 173, 162, 163, 164, 63, 64, 65, 414, 268, 2, 269, 524, 525, 526, 527, 528, 529, 530, 531, 532, 533, 534, 535, 536, 537, 538, 455, 456, 457, 458, 459, 460, 539, 540, 541, 542, 543, 544, 545, 546, 547, 548, 1021, 1022, 1023, 1024, 1025, 1026, 1027, 1028, 1029, 1030, 1031, 1032, 1033, 1082, 1083, 1084, 1085, 1086, 1087, 1088, 1089, 1078, 1079, 1080, 1081] (by decide +kernel) (by decide +kernel)
set_option maxHeartbeats 4000000 in
set_option maxRecDepth 20000 in
theorem gL_law_X7_gone : GoodIn wsL_law (wsV RL 80 RX7 yX7_gone wsX7_gone) := goodIn_app (goodIn_of _ (by decide +kernel)) ggL_law_X7_gone
set_option maxHeartbeats 4000000 in
set_option maxRecDepth 20000 in
theorem ggL_law_X8_gone : GoodIn wsL_law wsX8_gone := goodIn_r _ [648, 96, 465, 466, 467, 5, 468, 133, 134, 135, 419, 420, 421, 422, 637, 638, 639, 640, 396, 397, 398, 399, 558, 559, 560, 561, 562, 563, 564, 565, 566, 567, 568, 477, 478, 479, 512, 513, 514, 569, 570, 571, 572, 573, 574, 363, 364, 365, 575, 576, 577, 578, 1034, 1035, 1036, 1037, 1038, 1039, 1040, 1041, 1042, 1043, 1044, 1045, 1046, 1047, 1048, 1049, 1050, 1051, 1052, 1053, 1054, 1055, 1056, 1057, 1058, 1059, 1060, 1061, 1062, 1063, 1064, 1065, 1066, 1067, 1068, 1069, 1070] (by decide +kernel) (by decide +kernel)
set_option maxHeartbeats 4000000 in
set_option maxRecDepth 20000 in
theorem gL_law_X8_gone : GoodIn wsL_law (wsV RL 83 RX8 yX8_gone wsX8_gone) := goodIn_app (goodIn_of _ (by decide +kernel)) ggL_law_X8_gone
