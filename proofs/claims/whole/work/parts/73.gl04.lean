set_option maxHeartbeats 4000000 in
set_option maxRecDepth 20000 in
theorem ggL_law_X7_minute : GoodIn wsL_law wsX7_minute := goodIn_r _ [518, 24, 519, 19, 520, 521, 522, 2, 523, 384, 26, 389, 166, 167, 22, 168, 169, 170, 171, 172, 62, 173, 162, 163, 164, 63, 64, 65, 524, 525, 526, 527, 528, 430, 431, 432, 529, 530, 531, 532, 533, 534, 535, 536, 537, 538, 455, 456, 457, 458, 459, 460, 539, 540, 541, 542, 543, 544, 545, 546, 547, 548, 1021, 1022, 1023, 1024, 1025, 1026, 1027, 1028, 1029, 1030, 1031, 1032, 1033, 1082, 1083, 1084, 1085, 1086, 1087, 1088, 1089, 1078, 1079, 1080, 1081] (by decide +kernel) (by decide +kernel)
set_option maxHeartbeats 4000000 in
set_option maxRecDepth 20000 in
theorem gL_law_X7_minute : GoodIn wsL_law (wsV RL 48 RX7 yX7_minute wsX7_minute) := goodIn_app (goodIn_of _ (by decide +kernel)) ggL_law_X7_minute
set_option maxHeartbeats 4000000 in
set_option maxRecDepth 20000 in
theorem ggL_law_X8_minute : GoodIn wsL_law wsX8_minute := goodIn_r _ [552, 553, 96, 133, 134, 5, 135, 554, 555, 556, 557, 394, 396, 397, 398, 399, 558, 559, 560, 561, 562, 563, 564, 565, 566, 567, 568, 477, 478, 479, 512, 513, 514, 569, 570, 571, 572, 573, 574, 363, 364, 365, 575, 576, 577, 578, 1034, 1035, 1036, 1037, 1038, 1039, 1040, 1041, 1042, 1043, 1044, 1045, 1046, 1047, 1048, 1049, 1050, 1051, 1052, 1053, 1054, 1055, 1056, 1057, 1058, 1059, 1060, 1061, 1062, 1063, 1064, 1065, 1066, 1067, 1068, 1069, 1070] (by decide +kernel) (by decide +kernel)
set_option maxHeartbeats 4000000 in
set_option maxRecDepth 20000 in
theorem gL_law_X8_minute : GoodIn wsL_law (wsV RL 51 RX8 yX8_minute wsX8_minute) := goodIn_app (goodIn_of _ (by decide +kernel)) ggL_law_X8_minute
set_option maxHeartbeats 4000000 in
set_option maxRecDepth 20000 in
theorem ggL_law_X7_put : GoodIn wsL_law wsX7_put := goodIn_r _ [582, 24, 488, 489, 490, 491, 22, 492, 170, 429, 430, 431, 432, 169, 520, 521, 522, 2, 523, 384, 26, 389, 166, 167, 168, 171, 172, 62, 173, 162, 163, 164, 63, 64, 65, 1021, 1022, 1023, 1024, 1025, 1026, 1027, 1028, 1029, 1030, 1031, 1032, 1033, 1082, 1083, 1084, 1085, 1086, 1087, 1088, 1089] (by decide +kernel) (by decide +kernel)
set_option maxHeartbeats 4000000 in
set_option maxRecDepth 20000 in
theorem gL_law_X7_put : GoodIn wsL_law (wsV RL 52 RX7 yX7_put wsX7_put) := goodIn_app (goodIn_of _ (by decide +kernel)) ggL_law_X7_put
set_option maxHeartbeats 4000000 in
set_option maxRecDepth 20000 in
theorem ggL_law_X8_put : GoodIn wsL_law wsX8_put := goodIn_r _ [586, 96, 497, 498, 499, 5, 500, 133, 134, 135, 465, 466, 467, 468, 554, 555, 556, 557, 394, 396, 397, 398, 399, 1034, 1035, 1036, 1037, 1038, 1039, 1040, 1041, 1042, 1043, 1044, 1045, 1046, 1047, 1048, 1049, 1050, 1051, 1052, 1053, 1054, 1055, 1056, 1057, 1058, 1059, 1060, 1061, 1062, 1063, 1064, 1065, 1066, 1067, 1068, 1069, 1070] (by decide +kernel) (by decide +kernel)
set_option maxHeartbeats 4000000 in
set_option maxRecDepth 20000 in
theorem gL_law_X8_put : GoodIn wsL_law (wsV RL 55 RX8 yX8_put wsX8_put) := goodIn_app (goodIn_of _ (by decide +kernel)) ggL_law_X8_put
set_option maxHeartbeats 4000000 in
set_option maxRecDepth 20000 in
theorem ggL_law_X7_salt : GoodIn wsL_law wsX7_salt := goodIn_r _ [590, 24, 488, 591, 408, 489, 490, 491, 22, 492, 170, 520, 521, 522, 2, 523, 384, 26, 389, 166, 167, 168, 169, 171, 172, 62, 173, 162, 163, 164, 63, 64, 65, 1021, 1022, 1023, 1024, 1025, 1026, 1027, 1028, 1029, 1030, 1031, 1032, 1033, 1082, 1083, 1084, 1085, 1086, 1087, 1088, 1089] (by decide +kernel) (by decide +kernel)
set_option maxHeartbeats 4000000 in
set_option maxRecDepth 20000 in
theorem gL_law_X7_salt : GoodIn wsL_law (wsV RL 56 RX7 yX7_salt wsX7_salt) := goodIn_app (goodIn_of _ (by decide +kernel)) ggL_law_X7_salt
set_option maxHeartbeats 4000000 in
set_option maxRecDepth 20000 in
theorem ggL_law_X8_salt : GoodIn wsL_law wsX8_salt := goodIn_r _ [595, 96, 497, 498, 499, 5, 500, 133, 134, 135, 554, 555, 556, 557, 394, 396, 397, 398, 399, 1034, 1035, 1036, 1037, 1038, 1039, 1040, 1041, 1042, 1043, 1044, 1045, 1046, 1047, 1048, 1049, 1050, 1051, 1052, 1053, 1054, 1055, 1056, 1057, 1058, 1059, 1060, 1061, 1062, 1063, 1064, 1065, 1066, 1067, 1068, 1069, 1070] (by decide +kernel) (by decide +kernel)
set_option maxHeartbeats 4000000 in
set_option maxRecDepth 20000 in
theorem gL_law_X8_salt : GoodIn wsL_law (wsV RL 59 RX8 yX8_salt wsX8_salt) := goodIn_app (goodIn_of _ (by decide +kernel)) ggL_law_X8_salt
