set_option maxRecDepth 20000 in
theorem ggL_law_X11_target : GoodIn wsL_law wsX11_target := goodIn_r _ [360, 20, 300, 19, 301, 302, 70, 1025, 1026, 1027, 1028, 1029, 1030, 1031, 1032, 1033, 1034, 1035, 1036, 1037, 1038, 1039, 1040, 1095, 1096, 1097, 1098, 1099, 1100] (by decide +kernel) (by decide +kernel)
set_option maxRecDepth 20000 in
theorem gL_law_X11_target : GoodIn wsL_law (wsV RL 65 RX11 yX11_target wsX11_target) := goodIn_app (goodIn_of _ (by decide +kernel)) ggL_law_X11_target
set_option maxRecDepth 20000 in
theorem ggL_law_X12_target : GoodIn wsL_law wsX12_target := goodIn_r _ [364, 152, 310, 311, 312, 5, 313, 291, 221, 222, 223, 1041, 1042, 1043, 1044, 1045, 1046, 1047, 1048, 1049, 1050, 1051, 1052, 1053, 1054, 1055, 1056, 1057, 1058, 1059, 1060, 1061, 1062, 1063, 1064, 1065, 1066, 1067, 1068, 1069, 1070, 1071, 1072, 1073, 1074, 1075, 1076, 1077, 1078, 1079, 1080, 1081, 1082, 1083, 1084, 1085, 1086, 1087, 1088, 1089, 1090, 1091, 1092] (by decide +kernel) (by decide +kernel)
set_option maxRecDepth 20000 in
theorem gL_law_X12_target : GoodIn wsL_law (wsV RL 68 RX12 yX12_target wsX12_target) := goodIn_app (goodIn_of _ (by decide +kernel)) ggL_law_X12_target
set_option maxRecDepth 20000 in
theorem ggL_law_X11_label : GoodIn wsL_law wsX11_label := goodIn_r _ [368, 20, 300, 19, 301, 302, 70, 1025, 1026, 1027, 1028, 1029, 1030, 1031, 1032, 1033, 1034, 1035, 1036, 1037, 1038, 1039, 1040, 1095, 1096, 1097, 1098, 1099, 1100] (by decide +kernel) (by decide +kernel)
set_option maxRecDepth 20000 in
theorem gL_law_X11_label : GoodIn wsL_law (wsV RL 69 RX11 yX11_label wsX11_label) := goodIn_app (goodIn_of _ (by decide +kernel)) ggL_law_X11_label
set_option maxRecDepth 20000 in
theorem ggL_law_X12_label : GoodIn wsL_law wsX12_label := goodIn_r _ [372, 153, 310, 311, 312, 5, 313, 291, 221, 222, 223, 1041, 1042, 1043, 1044, 1045, 1046, 1047, 1048, 1049, 1050, 1051, 1052, 1053, 1054, 1055, 1056, 1057, 1058, 1059, 1060, 1061, 1062, 1063, 1064, 1065, 1066, 1067, 1068, 1069, 1070, 1071, 1072, 1073, 1074, 1075, 1076, 1077, 1078, 1079, 1080, 1081, 1082, 1083, 1084, 1085, 1086, 1087, 1088, 1089, 1090, 1091, 1092] (by decide +kernel) (by decide +kernel)
set_option maxRecDepth 20000 in
theorem gL_law_X12_label : GoodIn wsL_law (wsV RL 72 RX12 yX12_label wsX12_label) := goodIn_app (goodIn_of _ (by decide +kernel)) ggL_law_X12_label
set_option maxRecDepth 20000 in
theorem ggL_law_X11_distance : GoodIn wsL_law wsX11_distance := goodIn_r _ [376, 20, 281, 19, 282, 283, 68, 377, 198, 2, 199, 378, 379, 380, 70, 71, 73, 72, 1025, 1026, 1027, 1028, 1029, 1030, 1031, 1032, 1033, 1034, 1035, 1036, 1037, 1038, 1039, 1040, 1095, 1096, 1097, 1098, 1099, 1100] (by decide +kernel) (by decide +kernel)
set_option maxRecDepth 20000 in
theorem gL_law_X11_distance : GoodIn wsL_law (wsV RL 73 RX11 yX11_distance wsX11_distance) := goodIn_app (goodIn_of _ (by decide +kernel)) ggL_law_X11_distance
set_option maxRecDepth 20000 in
theorem ggL_law_X12_distance : GoodIn wsL_law wsX12_distance := goodIn_r _ [384, 157, 292, 293, 294, 5, 295, 276, 221, 222, 223, 385, 386, 387, 388, 291, 151, 152, 1041, 1042, 1043, 1044, 1045, 1046, 1047, 1048, 1049, 1050, 1051, 1052, 1053, 1054, 1055, 1056, 1057, 1058, 1059, 1060, 1061, 1062, 1063, 1064, 1065, 1066, 1067, 1068, 1069, 1070, 1071, 1072, 1073, 1074, 1075, 1076, 1077, 1078, 1079, 1080, 1081, 1082, 1083, 1084, 1085, 1086, 1087, 1088, 1089, 1090, 1091, 1092] (by decide +kernel) (by decide +kernel)
set_option maxRecDepth 20000 in
theorem gL_law_X12_distance : GoodIn wsL_law (wsV RL 76 RX12 yX12_distance wsX12_distance) := goodIn_app (goodIn_of _ (by decide +kernel)) ggL_law_X12_distance
set_option maxRecDepth 20000 in
theorem ggL_law_X11_reachable : GoodIn wsL_law wsX11_reachable := goodIn_r _ [392, 20, 281, 19, 282, 283, 68, 393, 394, 395, 396, 378, 379, 380, 70, 71, 73, 72, 1025, 1026, 1027, 1028, 1029, 1030, 1031, 1032, 1033, 1034, 1035, 1036, 1037, 1038, 1039, 1040, 1095, 1096, 1097, 1098, 1099, 1100] (by decide +kernel) (by decide +kernel)
set_option maxRecDepth 20000 in
theorem gL_law_X11_reachable : GoodIn wsL_law (wsV RL 77 RX11 yX11_reachable wsX11_reachable) := goodIn_app (goodIn_of _ (by decide +kernel)) ggL_law_X11_reachable
set_option maxRecDepth 20000 in
theorem ggL_law_X12_reachable : GoodIn wsL_law wsX12_reachable := goodIn_r _ [400, 292, 293, 294, 5, 295, 276, 221, 222, 223, 385, 386, 387, 388, 157, 291, 151, 152, 401, 402, 403, 404, 1041, 1042, 1043, 1044, 1045, 1046, 1047, 1048, 1049, 1050, 1051, 1052, 1053, 1054, 1055, 1056, 1057, 1058, 1059, 1060, 1061, 1062, 1063, 1064, 1065, 1066, 1067, 1068, 1069, 1070, 1071, 1072, 1073, 1074, 1075, 1076, 1077, 1078, 1079, 1080, 1081, 1082, 1083, 1084, 1085, 1086, 1087, 1088, 1089, 1090, 1091, 1092] (by decide +kernel) (by decide +kernel)
set_option maxRecDepth 20000 in
theorem gL_law_X12_reachable : GoodIn wsL_law (wsV RL 80 RX12 yX12_reachable wsX12_reachable) := goodIn_app (goodIn_of _ (by decide +kernel)) ggL_law_X12_reachable
set_option maxRecDepth 20000 in
theorem ggL_law_X11_normalForm : GoodIn wsL_law wsX11_normalForm := goodIn_r _ [408, 20, 281, 19, 282, 283, 68, 393, 394, 395, 396, 378, 379, 380, 70, 71, 73, 72, 409, 410, 411, 412, 255, 256, 257, 258, 259, 260, 413, 414, 2, 415, 1025, 1026, 1027, 1028, 1029, 1030, 1031, 1032, 1033, 1034, 1035, 1036, 1037, 1038, 1039, 1040, 1095, 1096, 1097, 1098, 1099, 1100] (by decide +kernel) (by decide +kernel)
set_option maxRecDepth 20000 in
theorem gL_law_X11_normalForm : GoodIn wsL_law (wsV RL 81 RX11 yX11_normalForm wsX11_normalForm) := goodIn_app (goodIn_of _ (by decide +kernel)) ggL_law_X11_normalForm
set_option maxRecDepth 20000 in
theorem ggL_law_X12_normalForm : GoodIn wsL_law wsX12_normalForm := goodIn_r _ [419, 276, 157, 292, 293, 294, 5, 295, 221, 222, 223, 385, 386, 387, 388, 291, 151, 152, 420, 421, 422, 423, 1041, 1042, 1043, 1044, 1045, 1046, 1047, 1048, 1049, 1050, 1051, 1052, 1053, 1054, 1055, 1056, 1057, 1058, 1059, 1060, 1061, 1062, 1063, 1064, 1065, 1066, 1067, 1068, 1069, 1070, 1071, 1072, 1073, 1074, 1075, 1076, 1077, 1078, 1079, 1080, 1081, 1082, 1083, 1084, 1085, 1086, 1087, 1088, 1089, 1090, 1091, 1092] (by decide +kernel) (by decide +kernel)
set_option maxRecDepth 20000 in
theorem gL_law_X12_normalForm : GoodIn wsL_law (wsV RL 84 RX12 yX12_normalForm wsX12_normalForm) := goodIn_app (goodIn_of _ (by decide +kernel)) ggL_law_X12_normalForm
set_option maxRecDepth 20000 in
theorem ggL_law_X11_component : GoodIn wsL_law wsX11_component := goodIn_r _ [427, 20, 281, 19, 282, 283, 68, 428, 429, 430, 70, 71, 72, 198, 2, 199, 413, 414, 415, 412, 255, 256, 257, 258, 259, 260, 1025, 1026, 1027, 1028, 1029, 1030, 1031, 1032, 1033, 1034, 1035, 1036, 1037, 1038, 1039, 1040, 1095, 1096, 1097, 1098, 1099, 1100] (by decide +kernel) (by decide +kernel)
set_option maxRecDepth 20000 in
theorem gL_law_X11_component : GoodIn wsL_law (wsV RL 85 RX11 yX11_component wsX11_component) := goodIn_app (goodIn_of _ (by decide +kernel)) ggL_law_X11_component
set_option maxRecDepth 20000 in
theorem ggL_law_X12_component : GoodIn wsL_law wsX12_component := goodIn_r _ [434, 276, 291, 151, 152, 292, 293, 294, 5, 295, 221, 222, 223, 1041, 1042, 1043, 1044, 1045, 1046, 1047, 1048, 1049, 1050, 1051, 1052, 1053, 1054, 1055, 1056, 1057, 1058, 1059, 1060, 1061, 1062, 1063, 1064, 1065, 1066, 1067, 1068, 1069, 1070, 1071, 1072, 1073, 1074, 1075, 1076, 1077, 1078, 1079, 1080, 1081, 1082, 1083, 1084, 1085, 1086, 1087, 1088, 1089, 1090, 1091, 1092] (by decide +kernel) (by decide +kernel)
set_option maxRecDepth 20000 in
theorem gL_law_X12_component : GoodIn wsL_law (wsV RL 88 RX12 yX12_component wsX12_component) := goodIn_app (goodIn_of _ (by decide +kernel)) ggL_law_X12_component
set_option maxRecDepth 20000 in
theorem ggL_law_X11_isTerminating : GoodIn wsL_law wsX11_isTerminating := goodIn_r _ [438, 20, 439, 19, 440, 441, 68, 396, 378, 379, 380, 70, 71, 73, 72, 1025, 1026, 1027, 1028, 1029, 1030, 1031, 1032, 1033, 1034, 1035, 1036, 1037, 1038, 1039, 1040, 1095, 1096, 1097, 1098, 1099, 1100] (by decide +kernel) (by decide +kernel)
set_option maxRecDepth 20000 in
theorem gL_law_X11_isTerminating : GoodIn wsL_law (wsV RL 89 RX11 yX11_isTerminating wsX11_isTerminating) := goodIn_app (goodIn_of _ (by decide +kernel)) ggL_law_X11_isTerminating
set_option maxRecDepth 20000 in
theorem ggL_law_X12_isTerminating : GoodIn wsL_law wsX12_isTerminating := goodIn_r _ [445, 276, 385, 386, 387, 5, 388, 157, 291, 151, 152, 446, 447, 448, 449, 1041, 1042, 1043, 1044, 1045, 1046, 1047, 1048, 1049, 1050, 1051, 1052, 1053, 1054, 1055, 1056, 1057, 1058, 1059, 1060, 1061, 1062, 1063, 1064, 1065, 1066, 1067, 1068, 1069, 1070, 1071, 1072, 1073, 1074, 1075, 1076, 1077, 1078, 1079, 1080, 1081, 1082, 1083, 1084, 1085, 1086, 1087, 1088, 1089, 1090, 1091, 1092] (by decide +kernel) (by decide +kernel)
set_option maxRecDepth 20000 in
theorem gL_law_X12_isTerminating : GoodIn wsL_law (wsV RL 92 RX12 yX12_isTerminating wsX12_isTerminating) := goodIn_app (goodIn_of _ (by decide +kernel)) ggL_law_X12_isTerminating
set_option maxRecDepth 20000 in
theorem ggL_law_X11_longestPath : GoodIn wsL_law wsX11_longestPath := goodIn_r _ [453, 20, 281, 19, 282, 283, 68, 439, 440, 441, 396, 378, 379, 380, 70, 71, 73, 72, 1025, 1026, 1027, 1028, 1029, 1030, 1031, 1032, 1033, 1034, 1035, 1036, 1037, 1038, 1039, 1040, 1095, 1096, 1097, 1098, 1099, 1100] (by decide +kernel) (by decide +kernel)
set_option maxRecDepth 20000 in
theorem gL_law_X11_longestPath : GoodIn wsL_law (wsV RL 93 RX11 yX11_longestPath wsX11_longestPath) := goodIn_app (goodIn_of _ (by decide +kernel)) ggL_law_X11_longestPath
set_option maxRecDepth 20000 in
theorem ggL_law_X12_longestPath : GoodIn wsL_law wsX12_longestPath := goodIn_r _ [457, 276, 157, 158, 291, 151, 152, 292, 293, 294, 5, 295, 221, 222, 223, 385, 386, 387, 388, 446, 447, 448, 449, 1041, 1042, 1043, 1044, 1045, 1046, 1047, 1048, 1049, 1050, 1051, 1052, 1053, 1054, 1055, 1056, 1057, 1058, 1059, 1060, 1061, 1062, 1063, 1064, 1065, 1066, 1067, 1068, 1069, 1070, 1071, 1072, 1073, 1074, 1075, 1076, 1077, 1078, 1079, 1080, 1081, 1082, 1083, 1084, 1085, 1086, 1087, 1088, 1089, 1090, 1091, 1092] (by decide +kernel) (by decide +kernel)
set_option maxRecDepth 20000 in
theorem gL_law_X12_longestPath : GoodIn wsL_law (wsV RL 96 RX12 yX12_longestPath wsX12_longestPath) := goodIn_app (goodIn_of _ (by decide +kernel)) ggL_law_X12_longestPath
set_option maxRecDepth 20000 in
theorem ggL_law_X11_isConfluent : GoodIn wsL_law wsX11_isConfluent := goodIn_r _ [461, 462, 463, 464, 2, 465, 20, 59, 466, 19, 467, 468, 68, 469, 393, 394, 395, 396, 378, 379, 380, 70, 71, 73, 72, 470, 471, 472, 473, 377, 198, 199, 1025, 1026, 1027, 1028, 1029, 1030, 1031, 1032, 1033, 1034, 1035, 1036, 1037, 1038, 1039, 1040, 1095, 1096, 1097, 1098, 1099, 1100] (by decide +kernel) (by decide +kernel)
set_option maxRecDepth 20000 in
theorem gL_law_X11_isConfluent : GoodIn wsL_law (wsV RL 97 RX11 yX11_isConfluent wsX11_isConfluent) := goodIn_app (goodIn_of _ (by decide +kernel)) ggL_law_X11_isConfluent
set_option maxRecDepth 20000 in
theorem ggL_law_X12_isConfluent : GoodIn wsL_law wsX12_isConfluent := goodIn_r _ [477, 478, 479, 480, 5, 481, 276, 157, 385, 386, 387, 388, 291, 151, 152, 482, 483, 484, 485, 401, 402, 403, 404, 1041, 1042, 1043, 1044, 1045, 1046, 1047, 1048, 1049, 1050, 1051, 1052, 1053, 1054, 1055, 1056, 1057, 1058, 1059, 1060, 1061, 1062, 1063, 1064, 1065, 1066, 1067, 1068, 1069, 1070, 1071, 1072, 1073, 1074, 1075, 1076, 1077, 1078, 1079, 1080, 1081, 1082, 1083, 1084, 1085, 1086, 1087, 1088, 1089, 1090, 1091, 1092] (by decide +kernel) (by decide +kernel)
set_option maxRecDepth 20000 in
theorem gL_law_X12_isConfluent : GoodIn wsL_law (wsV RL 100 RX12 yX12_isConfluent wsX12_isConfluent) := goodIn_app (goodIn_of _ (by decide +kernel)) ggL_law_X12_isConfluent
set_option maxRecDepth 20000 in
theorem ggL_law_X11_counterexample : GoodIn wsL_law wsX11_counterexample := goodIn_r _ [489, 462, 463, 464, 2, 465, 20, 59, 466, 19, 467, 468, 68, 469, 393, 394, 395, 396, 378, 379, 380, 70, 71, 73, 72, 470, 471, 472, 473, 377, 198, 199, 1025, 1026, 1027, 1028, 1029, 1030, 1031, 1032, 1033, 1034, 1035, 1036, 1037, 1038, 1039, 1040, 1095, 1096, 1097, 1098, 1099, 1100] (by decide +kernel) (by decide +kernel)
set_option maxRecDepth 20000 in
theorem gL_law_X11_counterexample : GoodIn wsL_law (wsV RL 101 RX11 yX11_counterexample wsX11_counterexample) := goodIn_app (goodIn_of _ (by decide +kernel)) ggL_law_X11_counterexample
set_option maxRecDepth 20000 in
theorem ggL_law_X12_counterexample : GoodIn wsL_law wsX12_counterexample := goodIn_r _ [481, 276, 157, 385, 386, 387, 5, 388, 291, 151, 152, 482, 483, 484, 485, 401, 402, 403, 404, 1041, 1042, 1043, 1044, 1045, 1046, 1047, 1048, 1049, 1050, 1051, 1052, 1053, 1054, 1055, 1056, 1057, 1058, 1059, 1060, 1061, 1062, 1063, 1064, 1065, 1066, 1067, 1068, 1069, 1070, 1071, 1072, 1073, 1074, 1075, 1076, 1077, 1078, 1079, 1080, 1081, 1082, 1083, 1084, 1085, 1086, 1087, 1088, 1089, 1090, 1091, 1092] (by decide +kernel) (by decide +kernel)
set_option maxRecDepth 20000 in
theorem gL_law_X12_counterexample : GoodIn wsL_law (wsV RL 104 RX12 yX12_counterexample wsX12_counterexample) := goodIn_app (goodIn_of _ (by decide +kernel)) ggL_law_X12_counterexample
set_option maxRecDepth 20000 in
theorem ggL_law_X11_isLocallyConfluent : GoodIn wsL_law wsX11_isLocallyConfluent := goodIn_r _ [494, 20, 59, 32, 466, 19, 467, 468, 68, 469, 393, 394, 395, 396, 378, 379, 380, 70, 71, 73, 72, 495, 31, 496, 497, 83, 84, 85, 1025, 1026, 1027, 1028, 1029, 1030, 1031, 1032, 1033, 1034, 1035, 1036, 1037, 1038, 1039, 1040, 1104, 1105, 1106, 1095, 1096, 1097, 1098, 1099, 1100] (by decide +kernel) (by decide +kernel)
set_option maxRecDepth 20000 in
theorem gL_law_X11_isLocallyConfluent : GoodIn wsL_law (wsV RL 105 RX11 yX11_isLocallyConfluent wsX11_isLocallyConfluent) := goodIn_app (goodIn_of _ (by decide +kernel)) ggL_law_X11_isLocallyConfluent
set_option maxRecDepth 20000 in
theorem ggL_law_X12_isLocallyConfluent : GoodIn wsL_law wsX12_isLocallyConfluent := goodIn_r _ [501, 291, 151, 152, 385, 386, 387, 5, 388, 276, 157, 482, 483, 484, 485, 401, 402, 403, 404, 1041, 1042, 1043, 1044, 1045, 1046, 1047, 1048, 1049, 1050, 1051, 1052, 1053, 1054, 1055, 1056, 1057, 1058, 1059, 1060, 1061, 1062, 1063, 1064, 1065, 1066, 1067, 1068, 1069, 1070, 1071, 1072, 1073, 1074, 1075, 1076, 1077, 1078, 1079, 1080, 1081, 1082, 1083, 1084, 1085, 1086, 1087, 1088, 1089, 1090, 1091, 1092] (by decide +kernel) (by decide +kernel)
set_option maxRecDepth 20000 in
theorem gL_law_X12_isLocallyConfluent : GoodIn wsL_law (wsV RL 108 RX12 yX12_isLocallyConfluent wsX12_isLocallyConfluent) := goodIn_app (goodIn_of _ (by decide +kernel)) ggL_law_X12_isLocallyConfluent
set_option maxRecDepth 20000 in
theorem ggL_law_X11_peakCount : GoodIn wsL_law wsX11_peakCount := goodIn_r _ [505, 32, 20, 495, 31, 496, 497, 83, 84, 85, 1025, 1026, 1027, 1028, 1029, 1030, 1031, 1032, 1033, 1034, 1035, 1036, 1037, 1038, 1039, 1040, 1104, 1105, 1106, 1095, 1096, 1097, 1098, 1099, 1100] (by decide +kernel) (by decide +kernel)
set_option maxRecDepth 20000 in
theorem gL_law_X11_peakCount : GoodIn wsL_law (wsV RL 109 RX11 yX11_peakCount wsX11_peakCount) := goodIn_app (goodIn_of _ (by decide +kernel)) ggL_law_X11_peakCount
set_option maxRecDepth 20000 in
theorem ggL_law_X12_peakCount : GoodIn wsL_law wsX12_peakCount := goodIn_r _ [509, 510, 511, 512, 5, 513, 291, 151, 514, 515, 1041, 1042, 1043, 1044, 1045, 1046, 1047, 1048, 1049, 1050, 1051, 1052, 1053, 1054, 1055, 1056, 1057, 1058, 1059, 1060, 1061, 1062, 1063, 1064, 1065, 1066, 1067, 1068, 1069, 1070, 1071, 1072, 1073, 1074, 1075, 1076, 1077, 1078, 1079, 1080, 1081, 1082, 1083, 1084, 1085, 1086, 1087, 1088, 1089, 1090, 1091, 1092] (by decide +kernel) (by decide +kernel)
set_option maxRecDepth 20000 in
theorem gL_law_X12_peakCount : GoodIn wsL_law (wsV RL 112 RX12 yX12_peakCount wsX12_peakCount) := goodIn_app (goodIn_of _ (by decide +kernel)) ggL_law_X12_peakCount
set_option maxRecDepth 20000 in
theorem ggL_law_X11_peakStep : GoodIn wsL_law wsX11_peakStep := goodIn_r _ [519, 32, 20, 495, 31, 496, 497, 83, 84, 85, 520, 521, 522, 523, 524, 2, 525, 1025, 1026, 1027, 1028, 1029, 1030, 1031, 1032, 1033, 1034, 1035, 1036, 1037, 1038, 1039, 1040, 1104, 1105, 1106, 1095, 1096, 1097, 1098, 1099, 1100] (by decide +kernel) (by decide +kernel)
set_option maxRecDepth 20000 in
theorem gL_law_X11_peakStep : GoodIn wsL_law (wsV RL 113 RX11 yX11_peakStep wsX11_peakStep) := goodIn_app (goodIn_of _ (by decide +kernel)) ggL_law_X11_peakStep
set_option maxRecDepth 20000 in
theorem ggL_law_X12_peakStep : GoodIn wsL_law wsX12_peakStep := goodIn_r _ [529, 514, 515, 510, 511, 512, 5, 513, 291, 151, 530, 531, 532, 221, 222, 223, 1041, 1042, 1043, 1044, 1045, 1046, 1047, 1048, 1049, 1050, 1051, 1052, 1053, 1054, 1055, 1056, 1057, 1058, 1059, 1060, 1061, 1062, 1063, 1064, 1065, 1066, 1067, 1068, 1069, 1070, 1071, 1072, 1073, 1074, 1075, 1076, 1077, 1078, 1079, 1080, 1081, 1082, 1083, 1084, 1085, 1086, 1087, 1088, 1089, 1090, 1091, 1092] (by decide +kernel) (by decide +kernel)
set_option maxRecDepth 20000 in
theorem gL_law_X12_peakStep : GoodIn wsL_law (wsV RL 116 RX12 yX12_peakStep wsX12_peakStep) := goodIn_app (goodIn_of _ (by decide +kernel)) ggL_law_X12_peakStep
