set_option maxRecDepth 20000 in
theorem ggL_law_X11_init : GoodIn wsL_law wsX11_init := goodIn_r _ [9, 10, 11, 12, 13, 14, 15, 16, 17, 18, 19, 20, 21, 22, 23, 24, 25, 26, 27, 28, 29, 30, 31, 32, 33, 34, 35, 36, 37, 38, 39, 40, 41, 42, 43, 44, 45, 46, 47, 48, 49, 50, 51, 52, 53, 54, 55, 56, 57, 58, 59, 60, 61, 62, 63, 64, 65, 66, 67, 68, 69, 70, 71, 72, 73, 74, 75, 76, 77, 78, 79, 80, 81, 82, 83, 84, 85, 86, 87, 88, 89, 90, 91, 92, 93, 94, 95, 96, 97, 98, 99, 100, 101, 102, 103, 104, 105, 106, 107, 108, 109, 110, 111, 112, 113, 114, 115, 116, 117, 118, 119, 120, 121, 122, 123, 124, 125, 126, 127, 128, 129, 130, 131, 132, 133, 134, 135, 136, 137, 138, 139, 140, 141, 142, 1093, 1094, 1025, 1026, 1027, 1028, 1029, 1030, 1031, 1032, 1033, 1034, 1035, 1036, 1037, 1038, 1039, 1040, 1095, 1096, 1097, 1098, 1099, 1100, 1101, 1102, 1103, 1104, 1105, 1106, 1107, 1108, 1109, 1110, 1111, 1112, 1113, 1114, 1115, 1116, 1117, 1118, 1119, 1120, 1121, 1122, 1123, 1124, 1125, 1126, 1127, 1128, 1129, 1130, 1131] (by decide +kernel) (by decide +kernel)
set_option maxRecDepth 20000 in
theorem gL_law_X11_init : GoodIn wsL_law (wsX11_init) := ggL_law_X11_init
set_option maxRecDepth 20000 in
theorem ggL_law_X12_init : GoodIn wsL_law wsX12_init := goodIn_r _ [145, 146, 11, 12, 147, 148, 149, 150, 58, 151, 152, 153, 154, 155, 156, 157, 158, 159, 160, 161, 162, 163, 164, 165, 166, 167, 168, 169, 170, 171, 172, 173, 174, 175, 176, 177, 178, 137, 179, 180, 181, 182, 183, 184, 185, 186, 187, 1041, 1042, 1043, 1044, 1045, 1046, 1047, 1048, 1049, 1050, 1051, 1052, 1053, 1054, 1055, 1056, 1057, 1058, 1059, 1060, 1061, 1062, 1063, 1064, 1065, 1066, 1067, 1068, 1069, 1070, 1071, 1072, 1073, 1074, 1075, 1076, 1077, 1078, 1079, 1080, 1081, 1082, 1083, 1084, 1085, 1086, 1087, 1088, 1089, 1090, 1091, 1092] (by decide +kernel) (by decide +kernel)
set_option maxRecDepth 20000 in
theorem gL_law_X12_init : GoodIn wsL_law (wsX12_init) := ggL_law_X12_init
set_option maxRecDepth 20000 in
theorem ggL_law_X11_addGreater : GoodIn wsL_law wsX11_addGreater := goodIn_r _ [191, 16, 192, 193, 2, 194, 195, 15, 196, 197, 64, 198, 199, 200, 201, 202, 63, 203, 204, 205, 206, 207, 208, 209, 210, 211, 212, 213, 1025, 1026, 1027, 1028, 1029, 1030, 1031, 1032, 1033, 1034, 1035, 1036, 1037, 1038, 1039, 1040, 1093, 1094] (by decide +kernel) (by decide +kernel)
set_option maxRecDepth 20000 in
theorem gL_law_X11_addGreater : GoodIn wsL_law (wsV RL 13 RX11 yX11_addGreater wsX11_addGreater) := goodIn_app (goodIn_of _ (by decide +kernel)) ggL_law_X11_addGreater
set_option maxRecDepth 20000 in
theorem ggL_law_X12_addGreater : GoodIn wsL_law wsX12_addGreater := goodIn_r _ [217, 149, 150, 218, 219, 5, 220, 221, 222, 223, 224, 225, 226, 227, 1041, 1042, 1043, 1044, 1045, 1046, 1047, 1048, 1049, 1050, 1051, 1052, 1053, 1054, 1055, 1056, 1057, 1058, 1059, 1060, 1061, 1062, 1063, 1064, 1065, 1066, 1067, 1068, 1069, 1070, 1071, 1072, 1073, 1074, 1075, 1076, 1077, 1078, 1079, 1080, 1081, 1082, 1083, 1084, 1085, 1086, 1087, 1088, 1089, 1090, 1091, 1092] (by decide +kernel) (by decide +kernel)
set_option maxRecDepth 20000 in
theorem gL_law_X12_addGreater : GoodIn wsL_law (wsV RL 17 RX12 yX12_addGreater wsX12_addGreater) := goodIn_app (goodIn_of _ (by decide +kernel)) ggL_law_X12_addGreater
set_option maxRecDepth 20000 in
theorem ggL_law_X11_removeGreater : GoodIn wsL_law wsX11_removeGreater := goodIn_r _ [231, 16, 192, 193, 2, 194, 200, 15, 201, 202, 63, 198, 199, 232, 233, 234, 206, 207, 208, 209, 64, 210, 211, 212, 213, 1025, 1026, 1027, 1028, 1029, 1030, 1031, 1032, 1033, 1034, 1035, 1036, 1037, 1038, 1039, 1040, 1093, 1094] (by decide +kernel) (by decide +kernel)
set_option maxRecDepth 20000 in
theorem gL_law_X11_removeGreater : GoodIn wsL_law (wsV RL 18 RX11 yX11_removeGreater wsX11_removeGreater) := goodIn_app (goodIn_of _ (by decide +kernel)) ggL_law_X11_removeGreater
set_option maxRecDepth 20000 in
theorem ggL_law_X12_removeGreater : GoodIn wsL_law wsX12_removeGreater := goodIn_r _ [238, 149, 218, 219, 5, 220, 221, 222, 223, 224, 225, 226, 227, 150, 1041, 1042, 1043, 1044, 1045, 1046, 1047, 1048, 1049, 1050, 1051, 1052, 1053, 1054, 1055, 1056, 1057, 1058, 1059, 1060, 1061, 1062, 1063, 1064, 1065, 1066, 1067, 1068, 1069, 1070, 1071, 1072, 1073, 1074, 1075, 1076, 1077, 1078, 1079, 1080, 1081, 1082, 1083, 1084, 1085, 1086, 1087, 1088, 1089, 1090, 1091, 1092] (by decide +kernel) (by decide +kernel)
set_option maxRecDepth 20000 in
theorem gL_law_X12_removeGreater : GoodIn wsL_law (wsV RL 21 RX12 yX12_removeGreater wsX12_removeGreater) := goodIn_app (goodIn_of _ (by decide +kernel)) ggL_law_X12_removeGreater
set_option maxRecDepth 20000 in
theorem ggL_law_X11_isGreater : GoodIn wsL_law wsX11_isGreater := goodIn_r _ [242, 16, 192, 193, 2, 194, 195, 15, 196, 197, 64, 198, 199, 1025, 1026, 1027, 1028, 1029, 1030, 1031, 1032, 1033, 1034, 1035, 1036, 1037, 1038, 1039, 1040, 1093, 1094] (by decide +kernel) (by decide +kernel)
set_option maxRecDepth 20000 in
theorem gL_law_X11_isGreater : GoodIn wsL_law (wsV RL 22 RX11 yX11_isGreater wsX11_isGreater) := goodIn_app (goodIn_of _ (by decide +kernel)) ggL_law_X11_isGreater
set_option maxRecDepth 20000 in
theorem ggL_law_X12_isGreater : GoodIn wsL_law wsX12_isGreater := goodIn_r _ [246, 150, 218, 219, 5, 220, 221, 222, 223, 1041, 1042, 1043, 1044, 1045, 1046, 1047, 1048, 1049, 1050, 1051, 1052, 1053, 1054, 1055, 1056, 1057, 1058, 1059, 1060, 1061, 1062, 1063, 1064, 1065, 1066, 1067, 1068, 1069, 1070, 1071, 1072, 1073, 1074, 1075, 1076, 1077, 1078, 1079, 1080, 1081, 1082, 1083, 1084, 1085, 1086, 1087, 1088, 1089, 1090, 1091, 1092] (by decide +kernel) (by decide +kernel)
set_option maxRecDepth 20000 in
theorem gL_law_X12_isGreater : GoodIn wsL_law (wsV RL 25 RX12 yX12_isGreater wsX12_isGreater) := goodIn_app (goodIn_of _ (by decide +kernel)) ggL_law_X12_isGreater
set_option maxRecDepth 20000 in
theorem ggL_law_X11_useNaturalOrder : GoodIn wsL_law wsX11_useNaturalOrder := goodIn_r _ [250, 16, 251, 15, 252, 253, 63, 254, 255, 256, 257, 258, 259, 260, 116, 117, 118, 64, 1025, 1026, 1027, 1028, 1029, 1030, 1031, 1032, 1033, 1034, 1035, 1036, 1037, 1038, 1039, 1040, 1093, 1094] (by decide +kernel) (by decide +kernel)
set_option maxRecDepth 20000 in
theorem gL_law_X11_useNaturalOrder : GoodIn wsL_law (wsV RL 26 RX11 yX11_useNaturalOrder wsX11_useNaturalOrder) := goodIn_app (goodIn_of _ (by decide +kernel)) ggL_law_X11_useNaturalOrder
set_option maxRecDepth 20000 in
theorem ggL_law_X12_useNaturalOrder : GoodIn wsL_law wsX12_useNaturalOrder := goodIn_r _ [264, 149, 224, 225, 226, 5, 227, 150, 1041, 1042, 1043, 1044, 1045, 1046, 1047, 1048, 1049, 1050, 1051, 1052, 1053, 1054, 1055, 1056, 1057, 1058, 1059, 1060, 1061, 1062, 1063, 1064, 1065, 1066, 1067, 1068, 1069, 1070, 1071, 1072, 1073, 1074, 1075, 1076, 1077, 1078, 1079, 1080, 1081, 1082, 1083, 1084, 1085, 1086, 1087, 1088, 1089, 1090, 1091, 1092] (by decide +kernel) (by decide +kernel)
set_option maxRecDepth 20000 in
theorem gL_law_X12_useNaturalOrder : GoodIn wsL_law (wsV RL 30 RX12 yX12_useNaturalOrder wsX12_useNaturalOrder) := goodIn_app (goodIn_of _ (by decide +kernel)) ggL_law_X12_useNaturalOrder
set_option maxRecDepth 20000 in
theorem ggL_law_X11_addObject : GoodIn wsL_law wsX11_addObject := goodIn_r _ [268, 20, 269, 19, 270, 271, 68, 69, 1025, 1026, 1027, 1028, 1029, 1030, 1031, 1032, 1033, 1034, 1035, 1036, 1037, 1038, 1039, 1040, 1095, 1096, 1097, 1098, 1099, 1100] (by decide +kernel) (by decide +kernel)
set_option maxRecDepth 20000 in
theorem gL_law_X11_addObject : GoodIn wsL_law (wsV RL 31 RX11 yX11_addObject wsX11_addObject) := goodIn_app (goodIn_of _ (by decide +kernel)) ggL_law_X11_addObject
set_option maxRecDepth 20000 in
theorem ggL_law_X12_addObject : GoodIn wsL_law wsX12_addObject := goodIn_r _ [275, 276, 154, 1041, 1042, 1043, 1044, 1045, 1046, 1047, 1048, 1049, 1050, 1051, 1052, 1053, 1054, 1055, 1056, 1057, 1058, 1059, 1060, 1061, 1062, 1063, 1064, 1065, 1066, 1067, 1068, 1069, 1070, 1071, 1072, 1073, 1074, 1075, 1076, 1077, 1078, 1079, 1080, 1081, 1082, 1083, 1084, 1085, 1086, 1087, 1088, 1089, 1090, 1091, 1092] (by decide +kernel) (by decide +kernel)
set_option maxRecDepth 20000 in
theorem gL_law_X12_addObject : GoodIn wsL_law (wsV RL 34 RX12 yX12_addObject wsX12_addObject) := goodIn_app (goodIn_of _ (by decide +kernel)) ggL_law_X12_addObject
set_option maxRecDepth 20000 in
theorem ggL_law_X11_addStep : GoodIn wsL_law wsX11_addStep := goodIn_r _ [280, 20, 281, 19, 282, 283, 68, 192, 193, 2, 194, 284, 285, 286, 70, 71, 72, 73, 1025, 1026, 1027, 1028, 1029, 1030, 1031, 1032, 1033, 1034, 1035, 1036, 1037, 1038, 1039, 1040, 1095, 1096, 1097, 1098, 1099, 1100] (by decide +kernel) (by decide +kernel)
set_option maxRecDepth 20000 in
theorem gL_law_X11_addStep : GoodIn wsL_law (wsV RL 35 RX11 yX11_addStep wsX11_addStep) := goodIn_app (goodIn_of _ (by decide +kernel)) ggL_law_X11_addStep
set_option maxRecDepth 20000 in
theorem ggL_law_X12_addStep : GoodIn wsL_law wsX12_addStep := goodIn_r _ [290, 291, 151, 152, 153, 292, 293, 294, 5, 295, 276, 221, 222, 223, 218, 219, 220, 1041, 1042, 1043, 1044, 1045, 1046, 1047, 1048, 1049, 1050, 1051, 1052, 1053, 1054, 1055, 1056, 1057, 1058, 1059, 1060, 1061, 1062, 1063, 1064, 1065, 1066, 1067, 1068, 1069, 1070, 1071, 1072, 1073, 1074, 1075, 1076, 1077, 1078, 1079, 1080, 1081, 1082, 1083, 1084, 1085, 1086, 1087, 1088, 1089, 1090, 1091, 1092] (by decide +kernel) (by decide +kernel)
set_option maxRecDepth 20000 in
theorem gL_law_X12_addStep : GoodIn wsL_law (wsV RL 39 RX12 yX12_addStep wsX12_addStep) := goodIn_app (goodIn_of _ (by decide +kernel)) ggL_law_X12_addStep
set_option maxRecDepth 20000 in
theorem ggL_law_X11_removeStep : GoodIn wsL_law wsX11_removeStep := goodIn_r _ [299, 20, 300, 19, 301, 302, 70, 303, 304, 305, 71, 72, 73, 1025, 1026, 1027, 1028, 1029, 1030, 1031, 1032, 1033, 1034, 1035, 1036, 1037, 1038, 1039, 1040, 1095, 1096, 1097, 1098, 1099, 1100] (by decide +kernel) (by decide +kernel)
set_option maxRecDepth 20000 in
theorem gL_law_X11_removeStep : GoodIn wsL_law (wsV RL 40 RX11 yX11_removeStep wsX11_removeStep) := goodIn_app (goodIn_of _ (by decide +kernel)) ggL_law_X11_removeStep
set_option maxRecDepth 20000 in
theorem ggL_law_X12_removeStep : GoodIn wsL_law wsX12_removeStep := goodIn_r _ [309, 291, 151, 152, 153, 310, 311, 312, 5, 313, 221, 222, 223, 1041, 1042, 1043, 1044, 1045, 1046, 1047, 1048, 1049, 1050, 1051, 1052, 1053, 1054, 1055, 1056, 1057, 1058, 1059, 1060, 1061, 1062, 1063, 1064, 1065, 1066, 1067, 1068, 1069, 1070, 1071, 1072, 1073, 1074, 1075, 1076, 1077, 1078, 1079, 1080, 1081, 1082, 1083, 1084, 1085, 1086, 1087, 1088, 1089, 1090, 1091, 1092] (by decide +kernel) (by decide +kernel)
set_option maxRecDepth 20000 in
theorem gL_law_X12_removeStep : GoodIn wsL_law (wsV RL 44 RX12 yX12_removeStep wsX12_removeStep) := goodIn_app (goodIn_of _ (by decide +kernel)) ggL_law_X12_removeStep
set_option maxRecDepth 20000 in
theorem ggL_law_X11_setLabel : GoodIn wsL_law wsX11_setLabel := goodIn_r _ [317, 20, 300, 19, 301, 302, 70, 192, 193, 2, 194, 1025, 1026, 1027, 1028, 1029, 1030, 1031, 1032, 1033, 1034, 1035, 1036, 1037, 1038, 1039, 1040, 1095, 1096, 1097, 1098, 1099, 1100] (by decide +kernel) (by decide +kernel)
set_option maxRecDepth 20000 in
theorem gL_law_X11_setLabel : GoodIn wsL_law (wsV RL 45 RX11 yX11_setLabel wsX11_setLabel) := goodIn_app (goodIn_of _ (by decide +kernel)) ggL_law_X11_setLabel
set_option maxRecDepth 20000 in
theorem ggL_law_X12_setLabel : GoodIn wsL_law wsX12_setLabel := goodIn_r _ [321, 153, 310, 311, 312, 5, 313, 291, 221, 222, 223, 218, 219, 220, 1041, 1042, 1043, 1044, 1045, 1046, 1047, 1048, 1049, 1050, 1051, 1052, 1053, 1054, 1055, 1056, 1057, 1058, 1059, 1060, 1061, 1062, 1063, 1064, 1065, 1066, 1067, 1068, 1069, 1070, 1071, 1072, 1073, 1074, 1075, 1076, 1077, 1078, 1079, 1080, 1081, 1082, 1083, 1084, 1085, 1086, 1087, 1088, 1089, 1090, 1091, 1092] (by decide +kernel) (by decide +kernel)
set_option maxRecDepth 20000 in
theorem gL_law_X12_setLabel : GoodIn wsL_law (wsV RL 48 RX12 yX12_setLabel wsX12_setLabel) := goodIn_app (goodIn_of _ (by decide +kernel)) ggL_law_X12_setLabel
set_option maxRecDepth 20000 in
theorem ggL_law_X11_clearSystem : GoodIn wsL_law wsX11_clearSystem := goodIn_r _ [325, 20, 326, 19, 327, 328, 68, 70, 1025, 1026, 1027, 1028, 1029, 1030, 1031, 1032, 1033, 1034, 1035, 1036, 1037, 1038, 1039, 1040, 1095, 1096, 1097, 1098, 1099, 1100] (by decide +kernel) (by decide +kernel)
set_option maxRecDepth 20000 in
theorem gL_law_X11_clearSystem : GoodIn wsL_law (wsV RL 49 RX11 yX11_clearSystem wsX11_clearSystem) := goodIn_app (goodIn_of _ (by decide +kernel)) ggL_law_X11_clearSystem
set_option maxRecDepth 20000 in
theorem ggL_law_X12_clearSystem : GoodIn wsL_law wsX12_clearSystem := goodIn_r _ [332, 276, 291, 1041, 1042, 1043, 1044, 1045, 1046, 1047, 1048, 1049, 1050, 1051, 1052, 1053, 1054, 1055, 1056, 1057, 1058, 1059, 1060, 1061, 1062, 1063, 1064, 1065, 1066, 1067, 1068, 1069, 1070, 1071, 1072, 1073, 1074, 1075, 1076, 1077, 1078, 1079, 1080, 1081, 1082, 1083, 1084, 1085, 1086, 1087, 1088, 1089, 1090, 1091, 1092] (by decide +kernel) (by decide +kernel)
set_option maxRecDepth 20000 in
theorem gL_law_X12_clearSystem : GoodIn wsL_law (wsV RL 52 RX12 yX12_clearSystem wsX12_clearSystem) := goodIn_app (goodIn_of _ (by decide +kernel)) ggL_law_X12_clearSystem
set_option maxRecDepth 20000 in
theorem ggL_law_X11_objectCount : GoodIn wsL_law wsX11_objectCount := goodIn_r _ [336, 20, 1025, 1026, 1027, 1028, 1029, 1030, 1031, 1032, 1033, 1034, 1035, 1036, 1037, 1038, 1039, 1040, 1095, 1096, 1097, 1098, 1099, 1100] (by decide +kernel) (by decide +kernel)
set_option maxRecDepth 20000 in
theorem gL_law_X11_objectCount : GoodIn wsL_law (wsV RL 53 RX11 yX11_objectCount wsX11_objectCount) := goodIn_app (goodIn_of _ (by decide +kernel)) ggL_law_X11_objectCount
set_option maxRecDepth 20000 in
theorem ggL_law_X12_objectCount : GoodIn wsL_law wsX12_objectCount := goodIn_r _ [340, 276, 1041, 1042, 1043, 1044, 1045, 1046, 1047, 1048, 1049, 1050, 1051, 1052, 1053, 1054, 1055, 1056, 1057, 1058, 1059, 1060, 1061, 1062, 1063, 1064, 1065, 1066, 1067, 1068, 1069, 1070, 1071, 1072, 1073, 1074, 1075, 1076, 1077, 1078, 1079, 1080, 1081, 1082, 1083, 1084, 1085, 1086, 1087, 1088, 1089, 1090, 1091, 1092] (by decide +kernel) (by decide +kernel)
set_option maxRecDepth 20000 in
theorem gL_law_X12_objectCount : GoodIn wsL_law (wsV RL 56 RX12 yX12_objectCount wsX12_objectCount) := goodIn_app (goodIn_of _ (by decide +kernel)) ggL_law_X12_objectCount
set_option maxRecDepth 20000 in
theorem ggL_law_X11_stepCount : GoodIn wsL_law wsX11_stepCount := goodIn_r _ [344, 20, 1025, 1026, 1027, 1028, 1029, 1030, 1031, 1032, 1033, 1034, 1035, 1036, 1037, 1038, 1039, 1040, 1095, 1096, 1097, 1098, 1099, 1100] (by decide +kernel) (by decide +kernel)
set_option maxRecDepth 20000 in
theorem gL_law_X11_stepCount : GoodIn wsL_law (wsV RL 57 RX11 yX11_stepCount wsX11_stepCount) := goodIn_app (goodIn_of _ (by decide +kernel)) ggL_law_X11_stepCount
set_option maxRecDepth 20000 in
theorem ggL_law_X12_stepCount : GoodIn wsL_law wsX12_stepCount := goodIn_r _ [348, 291, 1041, 1042, 1043, 1044, 1045, 1046, 1047, 1048, 1049, 1050, 1051, 1052, 1053, 1054, 1055, 1056, 1057, 1058, 1059, 1060, 1061, 1062, 1063, 1064, 1065, 1066, 1067, 1068, 1069, 1070, 1071, 1072, 1073, 1074, 1075, 1076, 1077, 1078, 1079, 1080, 1081, 1082, 1083, 1084, 1085, 1086, 1087, 1088, 1089, 1090, 1091, 1092] (by decide +kernel) (by decide +kernel)
set_option maxRecDepth 20000 in
theorem gL_law_X12_stepCount : GoodIn wsL_law (wsV RL 60 RX12 yX12_stepCount wsX12_stepCount) := goodIn_app (goodIn_of _ (by decide +kernel)) ggL_law_X12_stepCount
set_option maxRecDepth 20000 in
theorem ggL_law_X11_source : GoodIn wsL_law wsX11_source := goodIn_r _ [352, 20, 300, 19, 301, 302, 70, 1025, 1026, 1027, 1028, 1029, 1030, 1031, 1032, 1033, 1034, 1035, 1036, 1037, 1038, 1039, 1040, 1095, 1096, 1097, 1098, 1099, 1100] (by decide +kernel) (by decide +kernel)
set_option maxRecDepth 20000 in
theorem gL_law_X11_source : GoodIn wsL_law (wsV RL 61 RX11 yX11_source wsX11_source) := goodIn_app (goodIn_of _ (by decide +kernel)) ggL_law_X11_source
set_option maxRecDepth 20000 in
theorem ggL_law_X12_source : GoodIn wsL_law wsX12_source := goodIn_r _ [356, 151, 310, 311, 312, 5, 313, 291, 221, 222, 223, 1041, 1042, 1043, 1044, 1045, 1046, 1047, 1048, 1049, 1050, 1051, 1052, 1053, 1054, 1055, 1056, 1057, 1058, 1059, 1060, 1061, 1062, 1063, 1064, 1065, 1066, 1067, 1068, 1069, 1070, 1071, 1072, 1073, 1074, 1075, 1076, 1077, 1078, 1079, 1080, 1081, 1082, 1083, 1084, 1085, 1086, 1087, 1088, 1089, 1090, 1091, 1092] (by decide +kernel) (by decide +kernel)
set_option maxRecDepth 20000 in
theorem gL_law_X12_source : GoodIn wsL_law (wsV RL 64 RX12 yX12_source wsX12_source) := goodIn_app (goodIn_of _ (by decide +kernel)) ggL_law_X12_source
