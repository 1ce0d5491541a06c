set_option maxRecDepth 20000 in
theorem ggL_law_X11_isDecreasing : GoodIn wsL_law wsX11_isDecreasing := goodIn_r _ [536, 32, 20, 16, 495, 31, 496, 497, 83, 84, 85, 520, 521, 522, 537, 538, 539, 540, 541, 542, 393, 19, 394, 395, 68, 396, 378, 379, 380, 70, 71, 73, 72, 1025, 1026, 1027, 1028, 1029, 1030, 1031, 1032, 1033, 1034, 1035, 1036, 1037, 1038, 1039, 1040, 1104, 1105, 1106, 1095, 1096, 1097, 1098, 1099, 1100, 1093, 1094] (by decide +kernel) (by decide +kernel)
set_option maxRecDepth 20000 in
theorem gL_law_X11_isDecreasing : GoodIn wsL_law (wsV RL 117 RX11 yX11_isDecreasing wsX11_isDecreasing) := goodIn_app (goodIn_of _ (by decide +kernel)) ggL_law_X11_isDecreasing
set_option maxRecDepth 20000 in
theorem ggL_law_X12_isDecreasing : GoodIn wsL_law wsX12_isDecreasing := goodIn_r _ [546, 510, 511, 512, 5, 513, 291, 151, 514, 515, 547, 548, 549, 550, 276, 551, 552, 553, 554, 153, 159, 152, 555, 556, 557, 558, 559, 560, 561, 562, 150, 563, 564, 565, 566, 1041, 1042, 1043, 1044, 1045, 1046, 1047, 1048, 1049, 1050, 1051, 1052, 1053, 1054, 1055, 1056, 1057, 1058, 1059, 1060, 1061, 1062, 1063, 1064, 1065, 1066, 1067, 1068, 1069, 1070, 1071, 1072, 1073, 1074, 1075, 1076, 1077, 1078, 1079, 1080, 1081, 1082, 1083, 1084, 1085, 1086, 1087, 1088, 1089, 1090, 1091, 1092] (by decide +kernel) (by decide +kernel)
set_option maxRecDepth 20000 in
theorem gL_law_X12_isDecreasing : GoodIn wsL_law (wsV RL 120 RX12 yX12_isDecreasing wsX12_isDecreasing) := goodIn_app (goodIn_of _ (by decide +kernel)) ggL_law_X12_isDecreasing
set_option maxRecDepth 20000 in
theorem ggL_law_X11_valley : GoodIn wsL_law wsX11_valley := goodIn_r _ [570, 571, 572, 573, 2, 574, 32, 20, 36, 16, 37, 575, 495, 31, 496, 497, 83, 84, 85, 520, 521, 522, 576, 35, 577, 578, 91, 89, 90, 98, 92, 579, 140, 141, 142, 580, 581, 582, 583, 93, 94, 95, 96, 97, 584, 585, 586, 587, 588, 589, 590, 591, 592, 593, 594, 595, 198, 199, 596, 597, 598, 599, 600, 601, 602, 1025, 1026, 1027, 1028, 1029, 1030, 1031, 1032, 1033, 1034, 1035, 1036, 1037, 1038, 1039, 1040, 1104, 1105, 1106, 1095, 1096, 1097, 1098, 1099, 1100, 1107, 1108, 1109, 1110, 1111, 1112, 1113, 1114, 1115, 1116, 1093, 1094] (by decide +kernel) (by decide +kernel)
set_option maxRecDepth 20000 in
theorem gL_law_X11_valley : GoodIn wsL_law (wsV RL 121 RX11 yX11_valley wsX11_valley) := goodIn_app (goodIn_of _ (by decide +kernel)) ggL_law_X11_valley
set_option maxRecDepth 20000 in
theorem ggL_law_X12_valley : GoodIn wsL_law wsX12_valley := goodIn_r _ [606, 510, 511, 512, 5, 513, 291, 151, 514, 515, 547, 548, 549, 550, 276, 551, 552, 553, 554, 153, 159, 152, 555, 556, 557, 558, 559, 560, 561, 562, 150, 563, 564, 565, 566, 1041, 1042, 1043, 1044, 1045, 1046, 1047, 1048, 1049, 1050, 1051, 1052, 1053, 1054, 1055, 1056, 1057, 1058, 1059, 1060, 1061, 1062, 1063, 1064, 1065, 1066, 1067, 1068, 1069, 1070, 1071, 1072, 1073, 1074, 1075, 1076, 1077, 1078, 1079, 1080, 1081, 1082, 1083, 1084, 1085, 1086, 1087, 1088, 1089, 1090, 1091, 1092] (by decide +kernel) (by decide +kernel)
set_option maxRecDepth 20000 in
theorem gL_law_X12_valley : GoodIn wsL_law (wsV RL 124 RX12 yX12_valley wsX12_valley) := goodIn_app (goodIn_of _ (by decide +kernel)) ggL_law_X12_valley
set_option maxRecDepth 20000 in
theorem ggL_law_X11_joinLength : GoodIn wsL_law wsX11_joinLength := goodIn_r _ [610, 523, 524, 2, 525, 571, 572, 573, 574, 32, 20, 36, 16, 37, 575, 495, 31, 496, 497, 83, 84, 85, 520, 521, 522, 576, 35, 577, 578, 91, 89, 90, 98, 92, 579, 140, 141, 142, 580, 581, 582, 583, 93, 94, 95, 96, 97, 584, 585, 586, 587, 588, 589, 590, 591, 592, 593, 594, 595, 198, 199, 596, 597, 598, 599, 600, 601, 602, 611, 612, 613, 614, 1025, 1026, 1027, 1028, 1029, 1030, 1031, 1032, 1033, 1034, 1035, 1036, 1037, 1038, 1039, 1040, 1104, 1105, 1106, 1095, 1096, 1097, 1098, 1099, 1100, 1107, 1108, 1109, 1110, 1111, 1112, 1113, 1114, 1115, 1116, 1093, 1094] (by decide +kernel) (by decide +kernel)
set_option maxRecDepth 20000 in
theorem gL_law_X11_joinLength : GoodIn wsL_law (wsV RL 125 RX11 yX11_joinLength wsX11_joinLength) := goodIn_app (goodIn_of _ (by decide +kernel)) ggL_law_X11_joinLength
set_option maxRecDepth 20000 in
theorem ggL_law_X12_joinLength : GoodIn wsL_law wsX12_joinLength := goodIn_r _ [618, 510, 511, 512, 5, 513, 291, 151, 514, 515, 530, 531, 532, 221, 222, 223, 547, 548, 549, 550, 276, 551, 552, 553, 554, 153, 159, 152, 555, 556, 557, 558, 559, 560, 561, 562, 150, 563, 564, 565, 566, 1041, 1042, 1043, 1044, 1045, 1046, 1047, 1048, 1049, 1050, 1051, 1052, 1053, 1054, 1055, 1056, 1057, 1058, 1059, 1060, 1061, 1062, 1063, 1064, 1065, 1066, 1067, 1068, 1069, 1070, 1071, 1072, 1073, 1074, 1075, 1076, 1077, 1078, 1079, 1080, 1081, 1082, 1083, 1084, 1085, 1086, 1087, 1088, 1089, 1090, 1091, 1092] (by decide +kernel) (by decide +kernel)
set_option maxRecDepth 20000 in
theorem gL_law_X12_joinLength : GoodIn wsL_law (wsV RL 128 RX12 yX12_joinLength wsX12_joinLength) := goodIn_app (goodIn_of _ (by decide +kernel)) ggL_law_X12_joinLength
set_option maxRecDepth 20000 in
theorem ggL_law_X11_joinStep : GoodIn wsL_law wsX11_joinStep := goodIn_r _ [622, 523, 524, 2, 525, 571, 572, 573, 574, 32, 20, 36, 16, 37, 575, 495, 31, 496, 497, 83, 84, 85, 520, 521, 522, 576, 35, 577, 578, 91, 89, 90, 98, 92, 579, 140, 141, 142, 580, 581, 582, 583, 93, 94, 95, 96, 97, 584, 585, 586, 587, 588, 589, 590, 591, 592, 593, 594, 595, 198, 199, 596, 597, 598, 599, 600, 601, 602, 611, 612, 613, 614, 623, 624, 625, 626, 1025, 1026, 1027, 1028, 1029, 1030, 1031, 1032, 1033, 1034, 1035, 1036, 1037, 1038, 1039, 1040, 1104, 1105, 1106, 1095, 1096, 1097, 1098, 1099, 1100, 1107, 1108, 1109, 1110, 1111, 1112, 1113, 1114, 1115, 1116, 1093, 1094] (by decide +kernel) (by decide +kernel)
set_option maxRecDepth 20000 in
theorem gL_law_X11_joinStep : GoodIn wsL_law (wsV RL 129 RX11 yX11_joinStep wsX11_joinStep) := goodIn_app (goodIn_of _ (by decide +kernel)) ggL_law_X11_joinStep
set_option maxRecDepth 20000 in
theorem ggL_law_X12_joinStep : GoodIn wsL_law wsX12_joinStep := goodIn_r _ [630, 631, 161, 510, 511, 512, 5, 513, 291, 151, 514, 515, 530, 531, 532, 221, 222, 223, 547, 548, 549, 550, 276, 551, 552, 553, 554, 153, 159, 152, 555, 556, 557, 558, 559, 560, 561, 562, 150, 563, 564, 565, 566, 632, 633, 634, 635, 160, 636, 637, 638, 639, 1041, 1042, 1043, 1044, 1045, 1046, 1047, 1048, 1049, 1050, 1051, 1052, 1053, 1054, 1055, 1056, 1057, 1058, 1059, 1060, 1061, 1062, 1063, 1064, 1065, 1066, 1067, 1068, 1069, 1070, 1071, 1072, 1073, 1074, 1075, 1076, 1077, 1078, 1079, 1080, 1081, 1082, 1083, 1084, 1085, 1086, 1087, 1088, 1089, 1090, 1091, 1092] (by decide +kernel) (by decide +kernel)
set_option maxRecDepth 20000 in
theorem gL_law_X12_joinStep : GoodIn wsL_law (wsV RL 132 RX12 yX12_joinStep wsX12_joinStep) := goodIn_app (goodIn_of _ (by decide +kernel)) ggL_law_X12_joinStep
set_option maxRecDepth 20000 in
theorem ggL_law_X11_decreasingCount : GoodIn wsL_law wsX11_decreasingCount := goodIn_r _ [643, 32, 20, 16, 495, 31, 496, 497, 83, 84, 85, 537, 538, 539, 540, 541, 542, 393, 19, 394, 395, 68, 396, 378, 379, 380, 70, 71, 73, 72, 1025, 1026, 1027, 1028, 1029, 1030, 1031, 1032, 1033, 1034, 1035, 1036, 1037, 1038, 1039, 1040, 1104, 1105, 1106, 1095, 1096, 1097, 1098, 1099, 1100, 1093, 1094] (by decide +kernel) (by decide +kernel)
set_option maxRecDepth 20000 in
theorem gL_law_X11_decreasingCount : GoodIn wsL_law (wsV RL 133 RX11 yX11_decreasingCount wsX11_decreasingCount) := goodIn_app (goodIn_of _ (by decide +kernel)) ggL_law_X11_decreasingCount
set_option maxRecDepth 20000 in
theorem ggL_law_X12_decreasingCount : GoodIn wsL_law wsX12_decreasingCount := goodIn_r _ [647, 291, 151, 648, 649, 650, 5, 651, 514, 515, 547, 548, 549, 550, 276, 551, 552, 553, 554, 153, 159, 152, 555, 556, 557, 558, 559, 560, 561, 562, 150, 563, 564, 565, 566, 1041, 1042, 1043, 1044, 1045, 1046, 1047, 1048, 1049, 1050, 1051, 1052, 1053, 1054, 1055, 1056, 1057, 1058, 1059, 1060, 1061, 1062, 1063, 1064, 1065, 1066, 1067, 1068, 1069, 1070, 1071, 1072, 1073, 1074, 1075, 1076, 1077, 1078, 1079, 1080, 1081, 1082, 1083, 1084, 1085, 1086, 1087, 1088, 1089, 1090, 1091, 1092] (by decide +kernel) (by decide +kernel)
set_option maxRecDepth 20000 in
theorem gL_law_X12_decreasingCount : GoodIn wsL_law (wsV RL 136 RX12 yX12_decreasingCount wsX12_decreasingCount) := goodIn_app (goodIn_of _ (by decide +kernel)) ggL_law_X12_decreasingCount
set_option maxRecDepth 20000 in
theorem ggL_law_X11_firstFailure : GoodIn wsL_law wsX11_firstFailure := goodIn_r _ [655, 32, 20, 16, 495, 31, 496, 497, 83, 84, 85, 656, 657, 658, 659, 537, 538, 539, 540, 541, 542, 393, 19, 394, 395, 68, 396, 378, 379, 380, 70, 71, 73, 72, 1025, 1026, 1027, 1028, 1029, 1030, 1031, 1032, 1033, 1034, 1035, 1036, 1037, 1038, 1039, 1040, 1104, 1105, 1106, 1095, 1096, 1097, 1098, 1099, 1100, 1093, 1094] (by decide +kernel) (by decide +kernel)
set_option maxRecDepth 20000 in
theorem gL_law_X11_firstFailure : GoodIn wsL_law (wsV RL 137 RX11 yX11_firstFailure wsX11_firstFailure) := goodIn_app (goodIn_of _ (by decide +kernel)) ggL_law_X11_firstFailure
set_option maxRecDepth 20000 in
theorem ggL_law_X12_firstFailure : GoodIn wsL_law wsX12_firstFailure := goodIn_r _ [663, 291, 151, 648, 649, 650, 5, 651, 514, 515, 547, 548, 549, 550, 276, 551, 552, 553, 554, 153, 159, 152, 555, 556, 557, 558, 559, 560, 561, 562, 150, 563, 564, 565, 566, 1041, 1042, 1043, 1044, 1045, 1046, 1047, 1048, 1049, 1050, 1051, 1052, 1053, 1054, 1055, 1056, 1057, 1058, 1059, 1060, 1061, 1062, 1063, 1064, 1065, 1066, 1067, 1068, 1069, 1070, 1071, 1072, 1073, 1074, 1075, 1076, 1077, 1078, 1079, 1080, 1081, 1082, 1083, 1084, 1085, 1086, 1087, 1088, 1089, 1090, 1091, 1092] (by decide +kernel) (by decide +kernel)
set_option maxRecDepth 20000 in
theorem gL_law_X12_firstFailure : GoodIn wsL_law (wsV RL 140 RX12 yX12_firstFailure wsX12_firstFailure) := goodIn_app (goodIn_of _ (by decide +kernel)) ggL_law_X12_firstFailure
set_option maxRecDepth 20000 in
theorem ggL_law_X11_draw : GoodIn wsL_law wsX11_draw := goodIn_r _ [667, 41, 32, 36, 37, 571, 572, 573, 2, 574, 20, 16, 575, 495, 31, 496, 497, 83, 84, 85, 520, 521, 522, 576, 35, 577, 578, 91, 89, 90, 98, 92, 579, 140, 141, 142, 580, 581, 582, 583, 93, 94, 95, 96, 97, 584, 585, 586, 587, 588, 589, 590, 591, 592, 593, 594, 595, 198, 199, 596, 597, 598, 599, 600, 601, 602, 668, 40, 669, 670, 102, 671, 672, 673, 674, 675, 676, 677, 678, 679, 680, 681, 104, 682, 683, 684, 685, 623, 624, 625, 626, 1025, 1026, 1027, 1028, 1029, 1030, 1031, 1032, 1033, 1034, 1035, 1036, 1037, 1038, 1039, 1040, 1104, 1105, 1106, 1117, 1118, 1095, 1096, 1097, 1098, 1099, 1100, 1107, 1108, 1109, 1110, 1111, 1112, 1113, 1114, 1115, 1116, 1093, 1094] (by decide +kernel) (by decide +kernel)
set_option maxRecDepth 20000 in
theorem gL_law_X11_draw : GoodIn wsL_law (wsV RL 141 RX11 yX11_draw wsX11_draw) := goodIn_app (goodIn_of _ (by decide +kernel)) ggL_law_X11_draw
set_option maxRecDepth 20000 in
theorem ggL_law_X12_draw : GoodIn wsL_law wsX12_draw := goodIn_r _ [689, 690, 152, 514, 151, 515, 510, 511, 512, 5, 513, 291, 691, 692, 693, 694, 695, 696, 697, 698, 162, 547, 548, 549, 550, 276, 551, 552, 553, 554, 153, 159, 555, 556, 557, 558, 559, 560, 561, 562, 150, 563, 564, 565, 566, 699, 700, 701, 702, 631, 161, 632, 633, 634, 635, 160, 636, 637, 638, 639, 1041, 1042, 1043, 1044, 1045, 1046, 1047, 1048, 1049, 1050, 1051, 1052, 1053, 1054, 1055, 1056, 1057, 1058, 1059, 1060, 1061, 1062, 1063, 1064, 1065, 1066, 1067, 1068, 1069, 1070, 1071, 1072, 1073, 1074, 1075, 1076, 1077, 1078, 1079, 1080, 1081, 1082, 1083, 1084, 1085, 1086, 1087, 1088, 1089, 1090, 1091, 1092] (by decide +kernel) (by decide +kernel)
set_option maxRecDepth 20000 in
theorem gL_law_X12_draw : GoodIn wsL_law (wsV RL 144 RX12 yX12_draw wsX12_draw) := goodIn_app (goodIn_of _ (by decide +kernel)) ggL_law_X12_draw
set_option maxRecDepth 20000 in
theorem ggL_law_X11_output : GoodIn wsL_law wsX11_output := goodIn_r _ [706, 41, 1025, 1026, 1027, 1028, 1029, 1030, 1031, 1032, 1033, 1034, 1035, 1036, 1037, 1038, 1039, 1040, 1117, 1118] (by decide +kernel) (by decide +kernel)
set_option maxRecDepth 20000 in
theorem gL_law_X11_output : GoodIn wsL_law (wsV RL 145 RX11 yX11_output wsX11_output) := goodIn_app (goodIn_of _ (by decide +kernel)) ggL_law_X11_output
set_option maxRecDepth 20000 in
theorem ggL_law_X12_output : GoodIn wsL_law wsX12_output := goodIn_r _ [710, 690, 162, 221, 222, 5, 223, 1041, 1042, 1043, 1044, 1045, 1046, 1047, 1048, 1049, 1050, 1051, 1052, 1053, 1054, 1055, 1056, 1057, 1058, 1059, 1060, 1061, 1062, 1063, 1064, 1065, 1066, 1067, 1068, 1069, 1070, 1071, 1072, 1073, 1074, 1075, 1076, 1077, 1078, 1079, 1080, 1081, 1082, 1083, 1084, 1085, 1086, 1087, 1088, 1089, 1090, 1091, 1092] (by decide +kernel) (by decide +kernel)
set_option maxRecDepth 20000 in
theorem gL_law_X12_output : GoodIn wsL_law (wsV RL 148 RX12 yX12_output wsX12_output) := goodIn_app (goodIn_of _ (by decide +kernel)) ggL_law_X12_output
set_option maxRecDepth 20000 in
theorem ggL_law_X11_findLabelling : GoodIn wsL_law wsX11_findLabelling := goodIn_r _ [714, 45, 20, 715, 716, 717, 2, 718, 719, 44, 720, 721, 113, 109, 111, 114, 722, 211, 212, 213, 115, 723, 724, 725, 726, 727, 19, 728, 729, 68, 69, 730, 70, 71, 72, 73, 495, 31, 496, 497, 83, 84, 85, 656, 657, 658, 659, 537, 538, 539, 540, 541, 542, 393, 394, 395, 396, 378, 379, 380, 731, 732, 733, 734, 1025, 1026, 1027, 1028, 1029, 1030, 1031, 1032, 1033, 1034, 1035, 1036, 1037, 1038, 1039, 1040, 1095, 1096, 1097, 1098, 1099, 1100, 1119, 1120, 1121, 1122, 1123, 1104, 1105, 1106, 1093, 1094] (by decide +kernel) (by decide +kernel)
set_option maxRecDepth 20000 in
theorem gL_law_X11_findLabelling : GoodIn wsL_law (wsV RL 149 RX11 yX11_findLabelling wsX11_findLabelling) := goodIn_app (goodIn_of _ (by decide +kernel)) ggL_law_X11_findLabelling
set_option maxRecDepth 20000 in
theorem ggL_law_X12_findLabelling : GoodIn wsL_law wsX12_findLabelling := goodIn_r _ [738, 739, 740, 741, 5, 742, 291, 221, 222, 223, 743, 744, 745, 746, 153, 165, 149, 166, 164, 163, 747, 748, 749, 750, 751, 752, 753, 262, 263, 264, 224, 225, 226, 227, 150, 754, 661, 662, 663, 151, 648, 649, 650, 651, 514, 515, 547, 548, 549, 550, 276, 551, 552, 553, 554, 159, 152, 555, 556, 557, 558, 559, 560, 561, 562, 563, 564, 565, 566, 1041, 1042, 1043, 1044, 1045, 1046, 1047, 1048, 1049, 1050, 1051, 1052, 1053, 1054, 1055, 1056, 1057, 1058, 1059, 1060, 1061, 1062, 1063, 1064, 1065, 1066, 1067, 1068, 1069, 1070, 1071, 1072, 1073, 1074, 1075, 1076, 1077, 1078, 1079, 1080, 1081, 1082, 1083, 1084, 1085, 1086, 1087, 1088, 1089, 1090, 1091, 1092] (by decide +kernel) (by decide +kernel)
set_option maxRecDepth 20000 in
theorem gL_law_X12_findLabelling : GoodIn wsL_law (wsV RL 152 RX12 yX12_findLabelling wsX12_findLabelling) := goodIn_app (goodIn_of _ (by decide +kernel)) ggL_law_X12_findLabelling
set_option maxRecDepth 20000 in
theorem ggL_law_X11_labellingCount : GoodIn wsL_law wsX11_labellingCount := goodIn_r _ [758, 45, 20, 715, 716, 717, 2, 718, 759, 44, 760, 761, 113, 109, 111, 723, 724, 725, 726, 727, 19, 728, 729, 68, 69, 730, 211, 212, 213, 70, 71, 72, 73, 495, 31, 496, 497, 83, 84, 85, 656, 657, 658, 659, 537, 538, 539, 540, 541, 542, 393, 394, 395, 396, 378, 379, 380, 731, 732, 733, 734, 1025, 1026, 1027, 1028, 1029, 1030, 1031, 1032, 1033, 1034, 1035, 1036, 1037, 1038, 1039, 1040, 1095, 1096, 1097, 1098, 1099, 1100, 1119, 1120, 1121, 1122, 1123, 1104, 1105, 1106, 1093, 1094] (by decide +kernel) (by decide +kernel)
set_option maxRecDepth 20000 in
theorem gL_law_X11_labellingCount : GoodIn wsL_law (wsV RL 153 RX11 yX11_labellingCount wsX11_labellingCount) := goodIn_app (goodIn_of _ (by decide +kernel)) ggL_law_X11_labellingCount
set_option maxRecDepth 20000 in
theorem ggL_law_X12_labellingCount : GoodIn wsL_law wsX12_labellingCount := goodIn_r _ [765, 739, 740, 741, 5, 742, 291, 221, 222, 223, 743, 744, 745, 746, 153, 165, 149, 166, 164, 163, 747, 748, 749, 750, 751, 752, 753, 262, 263, 264, 224, 225, 226, 227, 150, 754, 661, 662, 663, 151, 648, 649, 650, 651, 514, 515, 547, 548, 549, 550, 276, 551, 552, 553, 554, 159, 152, 555, 556, 557, 558, 559, 560, 561, 562, 563, 564, 565, 566, 1041, 1042, 1043, 1044, 1045, 1046, 1047, 1048, 1049, 1050, 1051, 1052, 1053, 1054, 1055, 1056, 1057, 1058, 1059, 1060, 1061, 1062, 1063, 1064, 1065, 1066, 1067, 1068, 1069, 1070, 1071, 1072, 1073, 1074, 1075, 1076, 1077, 1078, 1079, 1080, 1081, 1082, 1083, 1084, 1085, 1086, 1087, 1088, 1089, 1090, 1091, 1092] (by decide +kernel) (by decide +kernel)
set_option maxRecDepth 20000 in
theorem gL_law_X12_labellingCount : GoodIn wsL_law (wsV RL 156 RX12 yX12_labellingCount wsX12_labellingCount) := goodIn_app (goodIn_of _ (by decide +kernel)) ggL_law_X12_labellingCount
set_option maxRecDepth 20000 in
theorem ggL_law_X11_foundLabel : GoodIn wsL_law wsX11_foundLabel := goodIn_r _ [769, 45, 1025, 1026, 1027, 1028, 1029, 1030, 1031, 1032, 1033, 1034, 1035, 1036, 1037, 1038, 1039, 1040, 1119, 1120, 1121, 1122, 1123] (by decide +kernel) (by decide +kernel)
set_option maxRecDepth 20000 in
theorem gL_law_X11_foundLabel : GoodIn wsL_law (wsV RL 157 RX11 yX11_foundLabel wsX11_foundLabel) := goodIn_app (goodIn_of _ (by decide +kernel)) ggL_law_X11_foundLabel
set_option maxRecDepth 20000 in
theorem ggL_law_X12_foundLabel : GoodIn wsL_law wsX12_foundLabel := goodIn_r _ [773, 164, 163, 221, 222, 5, 223, 1041, 1042, 1043, 1044, 1045, 1046, 1047, 1048, 1049, 1050, 1051, 1052, 1053, 1054, 1055, 1056, 1057, 1058, 1059, 1060, 1061, 1062, 1063, 1064, 1065, 1066, 1067, 1068, 1069, 1070, 1071, 1072, 1073, 1074, 1075, 1076, 1077, 1078, 1079, 1080, 1081, 1082, 1083, 1084, 1085, 1086, 1087, 1088, 1089, 1090, 1091, 1092] (by decide +kernel) (by decide +kernel)
set_option maxRecDepth 20000 in
theorem gL_law_X12_foundLabel : GoodIn wsL_law (wsV RL 160 RX12 yX12_foundLabel wsX12_foundLabel) := goodIn_app (goodIn_of _ (by decide +kernel)) ggL_law_X12_foundLabel
set_option maxRecDepth 20000 in
theorem ggL_law_X11_applyLabelling : GoodIn wsL_law wsX11_applyLabelling := goodIn_r _ [777, 45, 20, 16, 116, 15, 117, 118, 63, 64, 1025, 1026, 1027, 1028, 1029, 1030, 1031, 1032, 1033, 1034, 1035, 1036, 1037, 1038, 1039, 1040, 1119, 1120, 1121, 1122, 1123, 1095, 1096, 1097, 1098, 1099, 1100, 1093, 1094] (by decide +kernel) (by decide +kernel)
set_option maxRecDepth 20000 in
theorem gL_law_X11_applyLabelling : GoodIn wsL_law (wsV RL 161 RX11 yX11_applyLabelling wsX11_applyLabelling) := goodIn_app (goodIn_of _ (by decide +kernel)) ggL_law_X11_applyLabelling
set_option maxRecDepth 20000 in
theorem ggL_law_X12_applyLabelling : GoodIn wsL_law wsX12_applyLabelling := goodIn_r _ [781, 164, 291, 153, 163, 753, 262, 263, 5, 264, 149, 224, 225, 226, 227, 150, 1041, 1042, 1043, 1044, 1045, 1046, 1047, 1048, 1049, 1050, 1051, 1052, 1053, 1054, 1055, 1056, 1057, 1058, 1059, 1060, 1061, 1062, 1063, 1064, 1065, 1066, 1067, 1068, 1069, 1070, 1071, 1072, 1073, 1074, 1075, 1076, 1077, 1078, 1079, 1080, 1081, 1082, 1083, 1084, 1085, 1086, 1087, 1088, 1089, 1090, 1091, 1092] (by decide +kernel) (by decide +kernel)
set_option maxRecDepth 20000 in
theorem gL_law_X12_applyLabelling : GoodIn wsL_law (wsV RL 164 RX12 yX12_applyLabelling wsX12_applyLabelling) := goodIn_app (goodIn_of _ (by decide +kernel)) ggL_law_X12_applyLabelling
set_option maxRecDepth 20000 in
theorem ggL_law_X11_feed : GoodIn wsL_law wsX11_feed := goodIn_r _ [785, 49, 786, 48, 787, 788, 122, 123, 1025, 1026, 1027, 1028, 1029, 1030, 1031, 1032, 1033, 1034, 1035, 1036, 1037, 1038, 1039, 1040, 1124, 1125] (by decide +kernel) (by decide +kernel)
set_option maxRecDepth 20000 in
theorem gL_law_X11_feed : GoodIn wsL_law (wsV RL 165 RX11 yX11_feed wsX11_feed) := goodIn_app (goodIn_of _ (by decide +kernel)) ggL_law_X11_feed
set_option maxRecDepth 20000 in
theorem ggL_law_X12_feed : GoodIn wsL_law wsX12_feed := goodIn_r _ [792, 793, 167, 221, 222, 5, 223, 1041, 1042, 1043, 1044, 1045, 1046, 1047, 1048, 1049, 1050, 1051, 1052, 1053, 1054, 1055, 1056, 1057, 1058, 1059, 1060, 1061, 1062, 1063, 1064, 1065, 1066, 1067, 1068, 1069, 1070, 1071, 1072, 1073, 1074, 1075, 1076, 1077, 1078, 1079, 1080, 1081, 1082, 1083, 1084, 1085, 1086, 1087, 1088, 1089, 1090, 1091, 1092] (by decide +kernel) (by decide +kernel)
set_option maxRecDepth 20000 in
theorem gL_law_X12_feed : GoodIn wsL_law (wsV RL 168 RX12 yX12_feed wsX12_feed) := goodIn_app (goodIn_of _ (by decide +kernel)) ggL_law_X12_feed
