set_option maxRecDepth 20000 in
theorem ggL_law_X11_addRule : GoodIn wsL_law wsX11_addRule := goodIn_r _ [797, 24, 49, 798, 48, 799, 800, 801, 802, 803, 804, 122, 123, 805, 806, 807, 808, 809, 810, 811, 812, 813, 23, 814, 815, 77, 78, 79, 1025, 1026, 1027, 1028, 1029, 1030, 1031, 1032, 1033, 1034, 1035, 1036, 1037, 1038, 1039, 1040, 1101, 1102, 1103, 1124, 1125] (by decide +kernel) (by decide +kernel)
set_option maxRecDepth 20000 in
theorem gL_law_X11_addRule : GoodIn wsL_law (wsV RL 169 RX11 yX11_addRule wsX11_addRule) := goodIn_app (goodIn_of _ (by decide +kernel)) ggL_law_X11_addRule
set_option maxRecDepth 20000 in
theorem ggL_law_X12_addRule : GoodIn wsL_law wsX12_addRule := goodIn_r _ [819, 820, 793, 167, 168, 169, 821, 822, 823, 5, 824, 825, 826, 827, 828, 829, 830, 831, 832, 221, 222, 223, 1041, 1042, 1043, 1044, 1045, 1046, 1047, 1048, 1049, 1050, 1051, 1052, 1053, 1054, 1055, 1056, 1057, 1058, 1059, 1060, 1061, 1062, 1063, 1064, 1065, 1066, 1067, 1068, 1069, 1070, 1071, 1072, 1073, 1074, 1075, 1076, 1077, 1078, 1079, 1080, 1081, 1082, 1083, 1084, 1085, 1086, 1087, 1088, 1089, 1090, 1091, 1092] (by decide +kernel) (by decide +kernel)
set_option maxRecDepth 20000 in
theorem gL_law_X12_addRule : GoodIn wsL_law (wsV RL 172 RX12 yX12_addRule wsX12_addRule) := goodIn_app (goodIn_of _ (by decide +kernel)) ggL_law_X12_addRule
set_option maxRecDepth 20000 in
theorem ggL_law_X11_clearRules : GoodIn wsL_law wsX11_clearRules := goodIn_r _ [836, 24, 1025, 1026, 1027, 1028, 1029, 1030, 1031, 1032, 1033, 1034, 1035, 1036, 1037, 1038, 1039, 1040, 1101, 1102, 1103] (by decide +kernel) (by decide +kernel)
set_option maxRecDepth 20000 in
theorem gL_law_X11_clearRules : GoodIn wsL_law (wsV RL 173 RX11 yX11_clearRules wsX11_clearRules) := goodIn_app (goodIn_of _ (by decide +kernel)) ggL_law_X11_clearRules
set_option maxRecDepth 20000 in
theorem ggL_law_X12_clearRules : GoodIn wsL_law wsX12_clearRules := goodIn_r _ [840, 820, 1041, 1042, 1043, 1044, 1045, 1046, 1047, 1048, 1049, 1050, 1051, 1052, 1053, 1054, 1055, 1056, 1057, 1058, 1059, 1060, 1061, 1062, 1063, 1064, 1065, 1066, 1067, 1068, 1069, 1070, 1071, 1072, 1073, 1074, 1075, 1076, 1077, 1078, 1079, 1080, 1081, 1082, 1083, 1084, 1085, 1086, 1087, 1088, 1089, 1090, 1091, 1092] (by decide +kernel) (by decide +kernel)
set_option maxRecDepth 20000 in
theorem gL_law_X12_clearRules : GoodIn wsL_law (wsV RL 176 RX12 yX12_clearRules wsX12_clearRules) := goodIn_app (goodIn_of _ (by decide +kernel)) ggL_law_X12_clearRules
set_option maxRecDepth 20000 in
theorem ggL_law_X11_explore : GoodIn wsL_law wsX11_explore := goodIn_r _ [844, 49, 53, 24, 20, 798, 48, 799, 800, 801, 802, 803, 804, 122, 123, 805, 806, 807, 808, 809, 810, 811, 812, 845, 52, 846, 847, 128, 129, 130, 131, 326, 19, 327, 328, 68, 70, 269, 270, 271, 69, 848, 849, 850, 851, 852, 853, 854, 855, 856, 857, 858, 859, 860, 861, 862, 863, 864, 865, 866, 867, 868, 869, 71, 72, 73, 284, 285, 286, 727, 728, 729, 730, 211, 212, 213, 1025, 1026, 1027, 1028, 1029, 1030, 1031, 1032, 1033, 1034, 1035, 1036, 1037, 1038, 1039, 1040, 1124, 1125, 1126, 1127, 1128, 1129, 1095, 1096, 1097, 1098, 1099, 1100, 1101, 1102, 1103] (by decide +kernel) (by decide +kernel)
set_option maxRecDepth 20000 in
theorem gL_law_X11_explore : GoodIn wsL_law (wsV RL 177 RX11 yX11_explore wsX11_explore) := goodIn_app (goodIn_of _ (by decide +kernel)) ggL_law_X11_explore
set_option maxRecDepth 20000 in
theorem ggL_law_X12_explore : GoodIn wsL_law wsX12_explore := goodIn_r _ [873, 793, 874, 175, 167, 875, 876, 276, 291, 170, 154, 171, 156, 172, 151, 173, 152, 174, 153, 821, 822, 823, 5, 824, 825, 826, 827, 828, 829, 830, 831, 832, 221, 222, 223, 877, 878, 879, 880, 881, 882, 883, 884, 820, 169, 176, 885, 886, 887, 888, 168, 889, 890, 891, 892, 893, 894, 895, 896, 897, 898, 899, 900, 901, 902, 903, 904, 747, 748, 749, 1041, 1042, 1043, 1044, 1045, 1046, 1047, 1048, 1049, 1050, 1051, 1052, 1053, 1054, 1055, 1056, 1057, 1058, 1059, 1060, 1061, 1062, 1063, 1064, 1065, 1066, 1067, 1068, 1069, 1070, 1071, 1072, 1073, 1074, 1075, 1076, 1077, 1078, 1079, 1080, 1081, 1082, 1083, 1084, 1085, 1086, 1087, 1088, 1089, 1090, 1091, 1092] (by decide +kernel) (by decide +kernel)
set_option maxRecDepth 20000 in
theorem gL_law_X12_explore : GoodIn wsL_law (wsV RL 180 RX12 yX12_explore wsX12_explore) := goodIn_app (goodIn_of _ (by decide +kernel)) ggL_law_X12_explore
set_option maxRecDepth 20000 in
theorem ggL_law_X11_failure : GoodIn wsL_law wsX11_failure := goodIn_r _ [908, 53, 1025, 1026, 1027, 1028, 1029, 1030, 1031, 1032, 1033, 1034, 1035, 1036, 1037, 1038, 1039, 1040, 1126, 1127, 1128, 1129] (by decide +kernel) (by decide +kernel)
set_option maxRecDepth 20000 in
theorem gL_law_X11_failure : GoodIn wsL_law (wsV RL 181 RX11 yX11_failure wsX11_failure) := goodIn_app (goodIn_of _ (by decide +kernel)) ggL_law_X11_failure
set_option maxRecDepth 20000 in
theorem ggL_law_X12_failure : GoodIn wsL_law wsX12_failure := goodIn_r _ [912, 176, 221, 222, 5, 223, 1041, 1042, 1043, 1044, 1045, 1046, 1047, 1048, 1049, 1050, 1051, 1052, 1053, 1054, 1055, 1056, 1057, 1058, 1059, 1060, 1061, 1062, 1063, 1064, 1065, 1066, 1067, 1068, 1069, 1070, 1071, 1072, 1073, 1074, 1075, 1076, 1077, 1078, 1079, 1080, 1081, 1082, 1083, 1084, 1085, 1086, 1087, 1088, 1089, 1090, 1091, 1092] (by decide +kernel) (by decide +kernel)
set_option maxRecDepth 20000 in
theorem gL_law_X12_failure : GoodIn wsL_law (wsV RL 184 RX12 yX12_failure wsX12_failure) := goodIn_app (goodIn_of _ (by decide +kernel)) ggL_law_X12_failure
set_option maxRecDepth 20000 in
theorem ggL_law_X11_wordLength : GoodIn wsL_law wsX11_wordLength := goodIn_r _ [916, 20, 281, 19, 282, 283, 68, 808, 806, 809, 1025, 1026, 1027, 1028, 1029, 1030, 1031, 1032, 1033, 1034, 1035, 1036, 1037, 1038, 1039, 1040, 1095, 1096, 1097, 1098, 1099, 1100] (by decide +kernel) (by decide +kernel)
set_option maxRecDepth 20000 in
theorem gL_law_X11_wordLength : GoodIn wsL_law (wsV RL 185 RX11 yX11_wordLength wsX11_wordLength) := goodIn_app (goodIn_of _ (by decide +kernel)) ggL_law_X11_wordLength
set_option maxRecDepth 20000 in
theorem ggL_law_X12_wordLength : GoodIn wsL_law wsX12_wordLength := goodIn_r _ [920, 154, 292, 293, 294, 5, 295, 276, 221, 222, 223, 1041, 1042, 1043, 1044, 1045, 1046, 1047, 1048, 1049, 1050, 1051, 1052, 1053, 1054, 1055, 1056, 1057, 1058, 1059, 1060, 1061, 1062, 1063, 1064, 1065, 1066, 1067, 1068, 1069, 1070, 1071, 1072, 1073, 1074, 1075, 1076, 1077, 1078, 1079, 1080, 1081, 1082, 1083, 1084, 1085, 1086, 1087, 1088, 1089, 1090, 1091, 1092] (by decide +kernel) (by decide +kernel)
set_option maxRecDepth 20000 in
theorem gL_law_X12_wordLength : GoodIn wsL_law (wsV RL 188 RX12 yX12_wordLength wsX12_wordLength) := goodIn_app (goodIn_of _ (by decide +kernel)) ggL_law_X12_wordLength
set_option maxRecDepth 20000 in
theorem ggL_law_X11_letter : GoodIn wsL_law wsX11_letter := goodIn_r _ [924, 20, 281, 19, 282, 283, 68, 808, 806, 809, 925, 926, 1025, 1026, 1027, 1028, 1029, 1030, 1031, 1032, 1033, 1034, 1035, 1036, 1037, 1038, 1039, 1040, 1095, 1096, 1097, 1098, 1099, 1100] (by decide +kernel) (by decide +kernel)
set_option maxRecDepth 20000 in
theorem gL_law_X11_letter : GoodIn wsL_law (wsV RL 189 RX11 yX11_letter wsX11_letter) := goodIn_app (goodIn_of _ (by decide +kernel)) ggL_law_X11_letter
set_option maxRecDepth 20000 in
theorem ggL_law_X12_letter : GoodIn wsL_law wsX12_letter := goodIn_r _ [930, 154, 156, 292, 293, 294, 5, 295, 276, 221, 222, 223, 1041, 1042, 1043, 1044, 1045, 1046, 1047, 1048, 1049, 1050, 1051, 1052, 1053, 1054, 1055, 1056, 1057, 1058, 1059, 1060, 1061, 1062, 1063, 1064, 1065, 1066, 1067, 1068, 1069, 1070, 1071, 1072, 1073, 1074, 1075, 1076, 1077, 1078, 1079, 1080, 1081, 1082, 1083, 1084, 1085, 1086, 1087, 1088, 1089, 1090, 1091, 1092] (by decide +kernel) (by decide +kernel)
set_option maxRecDepth 20000 in
theorem gL_law_X12_letter : GoodIn wsL_law (wsV RL 192 RX12 yX12_letter wsX12_letter) := goodIn_app (goodIn_of _ (by decide +kernel)) ggL_law_X12_letter
set_option maxRecDepth 20000 in
theorem ggL_law_X11_newArray : GoodIn wsL_law wsX11_newArray := goodIn_r _ [934, 57, 935, 936, 2, 937, 938, 56, 939, 940, 135, 138, 941, 942, 141, 943, 1025, 1026, 1027, 1028, 1029, 1030, 1031, 1032, 1033, 1034, 1035, 1036, 1037, 1038, 1039, 1040, 1130, 1131] (by decide +kernel) (by decide +kernel)
set_option maxRecDepth 20000 in
theorem gL_law_X11_newArray : GoodIn wsL_law (wsV RL 193 RX11 yX11_newArray wsX11_newArray) := goodIn_app (goodIn_of _ (by decide +kernel)) ggL_law_X11_newArray
set_option maxRecDepth 20000 in
theorem ggL_law_X12_newArray : GoodIn wsL_law wsX12_newArray := goodIn_r _ [947, 177, 179, 948, 949, 5, 950, 221, 222, 223, 1041, 1042, 1043, 1044, 1045, 1046, 1047, 1048, 1049, 1050, 1051, 1052, 1053, 1054, 1055, 1056, 1057, 1058, 1059, 1060, 1061, 1062, 1063, 1064, 1065, 1066, 1067, 1068, 1069, 1070, 1071, 1072, 1073, 1074, 1075, 1076, 1077, 1078, 1079, 1080, 1081, 1082, 1083, 1084, 1085, 1086, 1087, 1088, 1089, 1090, 1091, 1092] (by decide +kernel) (by decide +kernel)
set_option maxRecDepth 20000 in
theorem gL_law_X12_newArray : GoodIn wsL_law (wsV RL 196 RX12 yX12_newArray wsX12_newArray) := goodIn_app (goodIn_of _ (by decide +kernel)) ggL_law_X12_newArray
set_option maxRecDepth 20000 in
theorem ggL_law_X11_setElement : GoodIn wsL_law wsX11_setElement := goodIn_r _ [954, 57, 935, 936, 2, 937, 955, 56, 956, 957, 135, 958, 959, 960, 1025, 1026, 1027, 1028, 1029, 1030, 1031, 1032, 1033, 1034, 1035, 1036, 1037, 1038, 1039, 1040, 1130, 1131] (by decide +kernel) (by decide +kernel)
set_option maxRecDepth 20000 in
theorem gL_law_X11_setElement : GoodIn wsL_law (wsV RL 199 RX11 yX11_setElement wsX11_setElement) := goodIn_app (goodIn_of _ (by decide +kernel)) ggL_law_X11_setElement
set_option maxRecDepth 20000 in
theorem ggL_law_X12_setElement : GoodIn wsL_law wsX12_setElement := goodIn_r _ [964, 177, 179, 948, 949, 5, 950, 221, 222, 223, 1041, 1042, 1043, 1044, 1045, 1046, 1047, 1048, 1049, 1050, 1051, 1052, 1053, 1054, 1055, 1056, 1057, 1058, 1059, 1060, 1061, 1062, 1063, 1064, 1065, 1066, 1067, 1068, 1069, 1070, 1071, 1072, 1073, 1074, 1075, 1076, 1077, 1078, 1079, 1080, 1081, 1082, 1083, 1084, 1085, 1086, 1087, 1088, 1089, 1090, 1091, 1092] (by decide +kernel) (by decide +kernel)
set_option maxRecDepth 20000 in
theorem gL_law_X12_setElement : GoodIn wsL_law (wsV RL 203 RX12 yX12_setElement wsX12_setElement) := goodIn_app (goodIn_of _ (by decide +kernel)) ggL_law_X12_setElement
set_option maxRecDepth 20000 in
theorem ggL_law_X11_element : GoodIn wsL_law wsX11_element := goodIn_r _ [968, 57, 969, 935, 936, 2, 937, 958, 56, 959, 960, 135, 1025, 1026, 1027, 1028, 1029, 1030, 1031, 1032, 1033, 1034, 1035, 1036, 1037, 1038, 1039, 1040, 1130, 1131] (by decide +kernel) (by decide +kernel)
set_option maxRecDepth 20000 in
theorem gL_law_X11_element : GoodIn wsL_law (wsV RL 204 RX11 yX11_element wsX11_element) := goodIn_app (goodIn_of _ (by decide +kernel)) ggL_law_X11_element
set_option maxRecDepth 20000 in
theorem ggL_law_X12_element : GoodIn wsL_law wsX12_element := goodIn_r _ [973, 177, 179, 974, 948, 949, 5, 950, 221, 222, 223, 1041, 1042, 1043, 1044, 1045, 1046, 1047, 1048, 1049, 1050, 1051, 1052, 1053, 1054, 1055, 1056, 1057, 1058, 1059, 1060, 1061, 1062, 1063, 1064, 1065, 1066, 1067, 1068, 1069, 1070, 1071, 1072, 1073, 1074, 1075, 1076, 1077, 1078, 1079, 1080, 1081, 1082, 1083, 1084, 1085, 1086, 1087, 1088, 1089, 1090, 1091, 1092] (by decide +kernel) (by decide +kernel)
set_option maxRecDepth 20000 in
theorem gL_law_X12_element : GoodIn wsL_law (wsV RL 208 RX12 yX12_element wsX12_element) := goodIn_app (goodIn_of _ (by decide +kernel)) ggL_law_X12_element
set_option maxRecDepth 20000 in
theorem ggL_law_X11_saveReachable : GoodIn wsL_law wsX11_saveReachable := goodIn_r _ [978, 20, 59, 57, 935, 936, 2, 937, 466, 19, 467, 468, 68, 469, 393, 394, 395, 396, 378, 379, 380, 70, 71, 73, 72, 938, 56, 939, 940, 135, 138, 941, 942, 141, 943, 1025, 1026, 1027, 1028, 1029, 1030, 1031, 1032, 1033, 1034, 1035, 1036, 1037, 1038, 1039, 1040, 1095, 1096, 1097, 1098, 1099, 1100, 1130, 1131] (by decide +kernel) (by decide +kernel)
set_option maxRecDepth 20000 in
theorem gL_law_X11_saveReachable : GoodIn wsL_law (wsV RL 209 RX11 yX11_saveReachable wsX11_saveReachable) := goodIn_app (goodIn_of _ (by decide +kernel)) ggL_law_X11_saveReachable
set_option maxRecDepth 20000 in
theorem ggL_law_X12_saveReachable : GoodIn wsL_law wsX12_saveReachable := goodIn_r _ [982, 177, 276, 179, 948, 949, 5, 950, 221, 222, 223, 385, 386, 387, 388, 157, 291, 151, 152, 401, 402, 403, 404, 1041, 1042, 1043, 1044, 1045, 1046, 1047, 1048, 1049, 1050, 1051, 1052, 1053, 1054, 1055, 1056, 1057, 1058, 1059, 1060, 1061, 1062, 1063, 1064, 1065, 1066, 1067, 1068, 1069, 1070, 1071, 1072, 1073, 1074, 1075, 1076, 1077, 1078, 1079, 1080, 1081, 1082, 1083, 1084, 1085, 1086, 1087, 1088, 1089, 1090, 1091, 1092] (by decide +kernel) (by decide +kernel)
set_option maxRecDepth 20000 in
theorem gL_law_X12_saveReachable : GoodIn wsL_law (wsV RL 212 RX12 yX12_saveReachable wsX12_saveReachable) := goodIn_app (goodIn_of _ (by decide +kernel)) ggL_law_X12_saveReachable
set_option maxRecDepth 20000 in
theorem ggL_law_X11_compareReachable : GoodIn wsL_law wsX11_compareReachable := goodIn_r _ [986, 57, 20, 59, 987, 988, 989, 990, 935, 936, 2, 937, 955, 56, 956, 957, 135, 466, 19, 467, 468, 68, 469, 393, 394, 395, 396, 378, 379, 380, 70, 71, 73, 72, 1025, 1026, 1027, 1028, 1029, 1030, 1031, 1032, 1033, 1034, 1035, 1036, 1037, 1038, 1039, 1040, 1130, 1131, 1095, 1096, 1097, 1098, 1099, 1100] (by decide +kernel) (by decide +kernel)
set_option maxRecDepth 20000 in
theorem gL_law_X11_compareReachable : GoodIn wsL_law (wsV RL 213 RX11 yX11_compareReachable wsX11_compareReachable) := goodIn_app (goodIn_of _ (by decide +kernel)) ggL_law_X11_compareReachable
set_option maxRecDepth 20000 in
theorem ggL_law_X12_compareReachable : GoodIn wsL_law wsX12_compareReachable := goodIn_r _ [994, 177, 276, 179, 948, 949, 5, 950, 221, 222, 223, 385, 386, 387, 388, 157, 291, 151, 152, 401, 402, 403, 404, 1041, 1042, 1043, 1044, 1045, 1046, 1047, 1048, 1049, 1050, 1051, 1052, 1053, 1054, 1055, 1056, 1057, 1058, 1059, 1060, 1061, 1062, 1063, 1064, 1065, 1066, 1067, 1068, 1069, 1070, 1071, 1072, 1073, 1074, 1075, 1076, 1077, 1078, 1079, 1080, 1081, 1082, 1083, 1084, 1085, 1086, 1087, 1088, 1089, 1090, 1091, 1092] (by decide +kernel) (by decide +kernel)
set_option maxRecDepth 20000 in
theorem gL_law_X12_compareReachable : GoodIn wsL_law (wsV RL 216 RX12 yX12_compareReachable wsX12_compareReachable) := goodIn_app (goodIn_of _ (by decide +kernel)) ggL_law_X12_compareReachable
set_option maxRecDepth 20000 in
theorem ggL_law_X11_saveSnapshot : GoodIn wsL_law wsX11_saveSnapshot := goodIn_r _ [998, 26, 20, 25, 16, 27, 24, 28, 727, 19, 728, 729, 68, 69, 730, 211, 212, 213, 70, 71, 72, 73, 999, 15, 1000, 1001, 63, 210, 64, 1002, 23, 1003, 1004, 77, 78, 1005, 79, 1025, 1026, 1027, 1028, 1029, 1030, 1031, 1032, 1033, 1034, 1035, 1036, 1037, 1038, 1039, 1040, 1095, 1096, 1097, 1098, 1099, 1100, 1093, 1094, 1101, 1102, 1103] (by decide +kernel) (by decide +kernel)
set_option maxRecDepth 20000 in
theorem gL_law_X11_saveSnapshot : GoodIn wsL_law (wsV RL 217 RX11 yX11_saveSnapshot wsX11_saveSnapshot) := goodIn_app (goodIn_of _ (by decide +kernel)) ggL_law_X11_saveSnapshot
set_option maxRecDepth 20000 in
theorem ggL_law_X12_saveSnapshot : GoodIn wsL_law wsX12_saveSnapshot := goodIn_r _ [1009, 1010, 276, 1011, 291, 1012, 820, 1013, 154, 180, 151, 181, 152, 182, 153, 183, 169, 184, 156, 185, 168, 186, 149, 187, 747, 748, 5, 749, 1014, 1015, 1016, 750, 751, 752, 1041, 1042, 1043, 1044, 1045, 1046, 1047, 1048, 1049, 1050, 1051, 1052, 1053, 1054, 1055, 1056, 1057, 1058, 1059, 1060, 1061, 1062, 1063, 1064, 1065, 1066, 1067, 1068, 1069, 1070, 1071, 1072, 1073, 1074, 1075, 1076, 1077, 1078, 1079, 1080, 1081, 1082, 1083, 1084, 1085, 1086, 1087, 1088, 1089, 1090, 1091, 1092] (by decide +kernel) (by decide +kernel)
set_option maxRecDepth 20000 in
theorem gL_law_X12_saveSnapshot : GoodIn wsL_law (wsV RL 220 RX12 yX12_saveSnapshot wsX12_saveSnapshot) := goodIn_app (goodIn_of _ (by decide +kernel)) ggL_law_X12_saveSnapshot
set_option maxRecDepth 20000 in
theorem ggL_law_X11_restoreSnapshot : GoodIn wsL_law wsX11_restoreSnapshot := goodIn_r _ [1020, 28, 20, 26, 16, 25, 24, 27, 727, 19, 728, 729, 68, 69, 730, 211, 212, 213, 70, 71, 72, 73, 999, 15, 1000, 1001, 63, 210, 64, 1002, 23, 1003, 1004, 77, 78, 1005, 79, 1025, 1026, 1027, 1028, 1029, 1030, 1031, 1032, 1033, 1034, 1035, 1036, 1037, 1038, 1039, 1040, 1095, 1096, 1097, 1098, 1099, 1100, 1093, 1094, 1101, 1102, 1103] (by decide +kernel) (by decide +kernel)
set_option maxRecDepth 20000 in
theorem gL_law_X11_restoreSnapshot : GoodIn wsL_law (wsV RL 221 RX11 yX11_restoreSnapshot wsX11_restoreSnapshot) := goodIn_app (goodIn_of _ (by decide +kernel)) ggL_law_X11_restoreSnapshot
set_option maxRecDepth 20000 in
theorem ggL_law_X12_restoreSnapshot : GoodIn wsL_law wsX12_restoreSnapshot := goodIn_r _ [1024, 1010, 1011, 276, 1012, 291, 1013, 820, 180, 154, 181, 151, 182, 152, 183, 153, 184, 169, 185, 156, 186, 168, 187, 149, 747, 748, 5, 749, 1014, 1015, 1016, 750, 751, 752, 224, 225, 226, 227, 150, 1041, 1042, 1043, 1044, 1045, 1046, 1047, 1048, 1049, 1050, 1051, 1052, 1053, 1054, 1055, 1056, 1057, 1058, 1059, 1060, 1061, 1062, 1063, 1064, 1065, 1066, 1067, 1068, 1069, 1070, 1071, 1072, 1073, 1074, 1075, 1076, 1077, 1078, 1079, 1080, 1081, 1082, 1083, 1084, 1085, 1086, 1087, 1088, 1089, 1090, 1091, 1092] (by decide +kernel) (by decide +kernel)
set_option maxRecDepth 20000 in
theorem gL_law_X12_restoreSnapshot : GoodIn wsL_law (wsV RL 224 RX12 yX12_restoreSnapshot wsX12_restoreSnapshot) := goodIn_app (goodIn_of _ (by decide +kernel)) ggL_law_X12_restoreSnapshot
