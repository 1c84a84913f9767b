set_option maxHeartbeats 4000000 in
set_option maxRecDepth 20000 in
theorem ggL_law_X7_slate : GoodIn wsL_law wsX7_slate := goodIn_r _ [848, 37, 849, 850, 2, 851, 852, 853, 854, 855, 856, 857, 43, 858, 88, 859, 90, 91, 1021, 1022, 1023, 1024, 1025, 1026, 1027, 1028, 1029, 1030, 1031, 1032, 1033, 1106, 1107, 1108, 1109] (by decide +kernel) (by decide +kernel)
set_option maxHeartbeats 4000000 in
set_option maxRecDepth 20000 in
theorem gL_law_X7_slate : GoodIn wsL_law (wsV RL 122 RX7 yX7_slate wsX7_slate) := goodIn_app (goodIn_of _ (by decide +kernel)) ggL_law_X7_slate
set_option maxHeartbeats 4000000 in
set_option maxRecDepth 20000 in
theorem ggL_law_X8_slate : GoodIn wsL_law wsX8_slate := goodIn_r _ [863, 864, 104, 105, 106, 107, 865, 866, 5, 867, 868, 133, 134, 135, 1034, 1035, 1036, 1037, 1038, 1039, 1040, 1041, 1042, 1043, 1044, 1045, 1046, 1047, 1048, 1049, 1050, 1051, 1052, 1053, 1054, 1055, 1056, 1057, 1058, 1059, 1060, 1061, 1062, 1063, 1064, 1065, 1066, 1067, 1068, 1069, 1070] (by decide +kernel) (by decide +kernel)
set_option maxHeartbeats 4000000 in
set_option maxRecDepth 20000 in
theorem gL_law_X8_slate : GoodIn wsL_law (wsV RL 125 RX8 yX8_slate wsX8_slate) := goodIn_app (goodIn_of _ (by decide +kernel)) ggL_law_X8_slate
set_option maxHeartbeats 4000000 in
set_option maxRecDepth 20000 in
theorem ggL_law_X7_chalk : GoodIn wsL_law wsX7_chalk := goodIn_r _ [872, 37, 41, 849, 850, 2, 851, 852, 853, 854, 873, 874, 875, 876, 877, 878, 879, 880, 43, 881, 88, 882, 883, 884, 885, 886, 887, 888, 889, 859, 890, 891, 892, 893, 90, 894, 895, 443, 444, 40, 445, 446, 447, 448, 449, 450, 84, 451, 452, 453, 896, 897, 898, 899, 900, 91, 901, 1021, 1022, 1023, 1024, 1025, 1026, 1027, 1028, 1029, 1030, 1031, 1032, 1033, 1106, 1107, 1108, 1109, 1104, 1105] (by decide +kernel) (by decide +kernel)
set_option maxHeartbeats 4000000 in
set_option maxRecDepth 20000 in
theorem gL_law_X7_chalk : GoodIn wsL_law (wsV RL 126 RX7 yX7_chalk wsX7_chalk) := goodIn_app (goodIn_of _ (by decide +kernel)) ggL_law_X7_chalk
set_option maxHeartbeats 4000000 in
set_option maxRecDepth 20000 in
theorem ggL_law_X8_chalk : GoodIn wsL_law wsX8_chalk := goodIn_r _ [905, 864, 906, 907, 106, 908, 865, 866, 5, 867, 868, 133, 134, 135, 909, 910, 911, 912, 104, 105, 913, 914, 915, 916, 107, 480, 481, 482, 1034, 1035, 1036, 1037, 1038, 1039, 1040, 1041, 1042, 1043, 1044, 1045, 1046, 1047, 1048, 1049, 1050, 1051, 1052, 1053, 1054, 1055, 1056, 1057, 1058, 1059, 1060, 1061, 1062, 1063, 1064, 1065, 1066, 1067, 1068, 1069, 1070] (by decide +kernel) (by decide +kernel)
set_option maxHeartbeats 4000000 in
set_option maxRecDepth 20000 in
theorem gL_law_X8_chalk : GoodIn wsL_law (wsV RL 130 RX8 yX8_chalk wsX8_chalk) := goodIn_app (goodIn_of _ (by decide +kernel)) ggL_law_X8_chalk
set_option maxHeartbeats 4000000 in
set_option maxRecDepth 20000 in
theorem ggL_law_X7_show : GoodIn wsL_law wsX7_show := goodIn_r _ [920, 37, 849, 850, 2, 851, 852, 853, 854, 878, 879, 880, 43, 881, 88, 882, 883, 884, 885, 886, 887, 888, 889, 859, 921, 922, 923, 924, 91, 925, 926, 927, 928, 90, 929, 930, 447, 448, 449, 931, 932, 1021, 1022, 1023, 1024, 1025, 1026, 1027, 1028, 1029, 1030, 1031, 1032, 1033, 1106, 1107, 1108, 1109] (by decide +kernel) (by decide +kernel)
set_option maxHeartbeats 4000000 in
set_option maxRecDepth 20000 in
theorem gL_law_X7_show : GoodIn wsL_law (wsV RL 131 RX7 yX7_show wsX7_show) := goodIn_app (goodIn_of _ (by decide +kernel)) ggL_law_X7_show
set_option maxHeartbeats 4000000 in
set_option maxRecDepth 20000 in
theorem ggL_law_X8_show : GoodIn wsL_law wsX8_show := goodIn_r _ [936, 864, 106, 937, 938, 107, 939, 865, 866, 5, 867, 868, 133, 134, 135, 909, 910, 911, 912, 104, 105, 1034, 1035, 1036, 1037, 1038, 1039, 1040, 1041, 1042, 1043, 1044, 1045, 1046, 1047, 1048, 1049, 1050, 1051, 1052, 1053, 1054, 1055, 1056, 1057, 1058, 1059, 1060, 1061, 1062, 1063, 1064, 1065, 1066, 1067, 1068, 1069, 1070] (by decide +kernel) (by decide +kernel)
set_option maxHeartbeats 4000000 in
set_option maxRecDepth 20000 in
theorem gL_law_X8_show : GoodIn wsL_law (wsV RL 134 RX8 yX8_show wsX8_show) := goodIn_app (goodIn_of _ (by decide +kernel)) ggL_law_X8_show
