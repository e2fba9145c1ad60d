/-! each instruction, checked -/
set_option maxRecDepth 100000 in
theorem ew_ok_0 : ew_Ok 0 ew_cd_0 := ew_Ok_of 0 ew_cd_0 [[], [], [], [], [], [], [], [], [], [], [], [], [], [], [], [], [], [], [], [], [], []] (by decide +kernel)
set_option maxRecDepth 100000 in
theorem ew_ok_1 : ew_Ok 1 ew_cd_1 := ew_Ok_of 1 ew_cd_1 [[], [], [], [], [], [], [], [], [], [], [], [], [], [], [], [], [], [], [], []] (by decide +kernel)
set_option maxRecDepth 100000 in
theorem ew_ok_2 : ew_Ok 2 ew_cd_2 := ew_Ok_of 2 ew_cd_2 [[], [], [], [], [], [], [], []] (by decide +kernel)
set_option maxRecDepth 100000 in
theorem ew_ok_3 : ew_Ok 3 ew_cd_3 := ew_Ok_of 3 ew_cd_3 [[], [], [], [], [], [], []] (by decide +kernel)
set_option maxRecDepth 100000 in
theorem ew_ok_4 : ew_Ok 4 ew_cd_4 := ew_Ok_of 4 ew_cd_4 [[], [], [], [], [], [], []] (by decide +kernel)
set_option maxRecDepth 100000 in
theorem ew_ok_5 : ew_Ok 5 ew_cd_5 := ew_Ok_of 5 ew_cd_5 [[], [], [], [], [], [], []] (by decide +kernel)
set_option maxRecDepth 100000 in
theorem ew_ok_6 : ew_Ok 6 ew_cd_6 := ew_Ok_of 6 ew_cd_6 [[], [1134, 1135, 52], [], [], [1137, 1138, 52, 1139], [], [1140], []] (by decide +kernel)
set_option maxRecDepth 100000 in
theorem ew_ok_7 : ew_Ok 7 ew_cd_7 := ew_Ok_of 7 ew_cd_7 [[], [], [], [], [], [], [], []] (by decide +kernel)
set_option maxRecDepth 100000 in
theorem ew_ok_8 : ew_Ok 8 ew_cd_8 := ew_Ok_of 8 ew_cd_8 [[], [1152, 1153, 53], [], [], [1155, 1156, 53, 1157], [], [1158], []] (by decide +kernel)
set_option maxRecDepth 100000 in
theorem ew_ok_9 : ew_Ok 9 ew_cd_9 := ew_Ok_of 9 ew_cd_9 [[], [], [], [], [], [], [], []] (by decide +kernel)
set_option maxRecDepth 100000 in
theorem ew_ok_10 : ew_Ok 10 ew_cd_10 := ew_Ok_of 10 ew_cd_10 [[], [116, 60, 61], [], [], [125], [117], [], [], [118], []] (by decide +kernel)
set_option maxRecDepth 100000 in
theorem ew_ok_11 : ew_Ok 11 ew_cd_11 := ew_Ok_of 11 ew_cd_11 [[], [], [118], [], [], [], [], [], [], [117], [], [], [], [], [], []] (by decide +kernel)
set_option maxRecDepth 100000 in
theorem ew_ok_12 : ew_Ok 12 ew_cd_12 := ew_Ok_of 12 ew_cd_12 [[], [118], [], [], [], [], [], []] (by decide +kernel)
set_option maxRecDepth 100000 in
theorem ew_ok_13 : ew_Ok 13 ew_cd_13 := ew_Ok_of 13 ew_cd_13 [[], [], [], [], [118], [], [], [], [], [], [], [], []] (by decide +kernel)
set_option maxRecDepth 100000 in
theorem ew_ok_14 : ew_Ok 14 ew_cd_14 := ew_Ok_of 14 ew_cd_14 [[], [], [776, 769, 770, 45], [], [], [117], [], [], [], []] (by decide +kernel)
set_option maxRecDepth 100000 in
theorem ew_ok_15 : ew_Ok 15 ew_cd_15 := ew_Ok_of 15 ew_cd_15 [[], [], [776, 769, 770, 45], [], [], [117], [], [], [], [785], []] (by decide +kernel)
set_option maxRecDepth 100000 in
theorem ew_ok_16 : ew_Ok 16 ew_cd_16 := ew_Ok_of 16 ew_cd_16 [[], [], [], [], [], [], [], [], [295, 296, 51], []] (by decide +kernel)
set_option maxRecDepth 100000 in
theorem ew_ok_17 : ew_Ok 17 ew_cd_17 := ew_Ok_of 17 ew_cd_17 [[], [], [], [], [], [], [], [], [302, 303, 51], []] (by decide +kernel)
set_option maxRecDepth 100000 in
theorem ew_ok_18 : ew_Ok 18 ew_cd_18 := ew_Ok_of 18 ew_cd_18 [[], [], [], [], [], [], [], [], [522], [], [], [], [], [], [], [], [523], [], [], [], [523], [], [], [], [], [], [], [], [], [], [], [], [], [], [], [], [], [], [], [523], [], [], [], [], [], [], [], [], [], [], [], [], [], [], [524], [], [], [], []] (by decide +kernel)
set_option maxRecDepth 100000 in
theorem ew_ok_19 : ew_Ok 19 ew_cd_19 := ew_Ok_of 19 ew_cd_19 [[], [], [], [], [], [], [], [], [], [], [], [], [], [], [], [], [], [], [], [], [], [], [], [], [], [], [], [], [], [], [], [], [536], [], [], [], []] (by decide +kernel)
set_option maxRecDepth 100000 in
theorem ew_ok_20 : ew_Ok 20 ew_cd_20 := ew_Ok_of 20 ew_cd_20 [[], [], [], [], [], [], [], [], [], [], [], [], [], [], [], [], [], [], [], [], [], [], [], [], []] (by decide +kernel)
set_option maxRecDepth 100000 in
theorem ew_ok_21 : ew_Ok 21 ew_cd_21 := ew_Ok_of 21 ew_cd_21 [[], [], [], [562, 552, 50], [563, 293, 50], [], [], [], [], [], [], [564], [], [], [], [], [565], [], [], [], [], []] (by decide +kernel)
set_option maxRecDepth 100000 in
theorem ew_ok_22 : ew_Ok 22 ew_cd_22 := ew_Ok_of 22 ew_cd_22 [[], [164, 60, 61], [], [], [89], [165], [], [], [166], []] (by decide +kernel)
set_option maxRecDepth 100000 in
theorem ew_ok_23 : ew_Ok 23 ew_cd_23 := ew_Ok_of 23 ew_cd_23 [[], [166], [], [], [166], [], [165], [], [], [], [165], [], [166], [], [], [], [], [166], [], [], [166], []] (by decide +kernel)
set_option maxRecDepth 100000 in
theorem ew_ok_24 : ew_Ok 24 ew_cd_24 := ew_Ok_of 24 ew_cd_24 [[], [], [], [], [602, 595, 596, 47], [], [603, 604, 51], [], [], [], [], [], [], [], [], [], [], [], [], [], [], [], [], [], [], [], [], [], [], [], [], [], [], [], [], [], [], [], [], [602, 595, 596, 47], [], [], [], [], [], []] (by decide +kernel)
set_option maxRecDepth 100000 in
theorem ew_ok_25 : ew_Ok 25 ew_cd_25 := ew_Ok_of 25 ew_cd_25 [[], [], [], [], [166], [], [], [], [165], [], [], [], [165], [], [], [], [], []] (by decide +kernel)
set_option maxRecDepth 100000 in
theorem ew_ok_26 : ew_Ok 26 ew_cd_26 := ew_Ok_of 26 ew_cd_26 [[], [96, 60, 61], [], [], [97], [98], [], [], [99], [], [], [101], []] (by decide +kernel)
set_option maxRecDepth 100000 in
theorem ew_ok_27 : ew_Ok 27 ew_cd_27 := ew_Ok_of 27 ew_cd_27 [[], [], [99], [], [], [101], [], [], [], [], [], [], [98], [], [], [], [], [], []] (by decide +kernel)
set_option maxRecDepth 100000 in
theorem ew_ok_28 : ew_Ok 28 ew_cd_28 := ew_Ok_of 28 ew_cd_28 [[], [99], [], [], [], [], [], []] (by decide +kernel)
set_option maxRecDepth 100000 in
theorem ew_ok_29 : ew_Ok 29 ew_cd_29 := ew_Ok_of 29 ew_cd_29 [[], [], [], [], [101], [], [], [], [], [], [], [], []] (by decide +kernel)
set_option maxRecDepth 100000 in
theorem ew_ok_30 : ew_Ok 30 ew_cd_30 := ew_Ok_of 30 ew_cd_30 [[], [], [731, 723, 724, 44], [], [], [98], [], [], [], []] (by decide +kernel)
set_option maxRecDepth 100000 in
theorem ew_ok_31 : ew_Ok 31 ew_cd_31 := ew_Ok_of 31 ew_cd_31 [[], [], [731, 723, 724, 44], [], [], [98], [], [], [], [], []] (by decide +kernel)
set_option maxRecDepth 100000 in
theorem ew_ok_32 : ew_Ok 32 ew_cd_32 := ew_Ok_of 32 ew_cd_32 [[], [], [99], [99], [], [], [101], [101], [], [], [], [], [], [], [98], [], [], [98], [], [], [], [], [], []] (by decide +kernel)
set_option maxRecDepth 100000 in
theorem ew_ok_33 : ew_Ok 33 ew_cd_33 := ew_Ok_of 33 ew_cd_33 [[], [217, 218, 49], [], [], [], [], [], [220], [], [], [], [], [221], [], [], [], [], [], [], [], [], [], []] (by decide +kernel)
set_option maxRecDepth 100000 in
theorem ew_ok_34 : ew_Ok 34 ew_cd_34 := ew_Ok_of 34 ew_cd_34 [[], [], [], [], [], [], [], [], []] (by decide +kernel)
set_option maxRecDepth 100000 in
theorem ew_ok_35 : ew_Ok 35 ew_cd_35 := ew_Ok_of 35 ew_cd_35 [[], [], [], [], [], [], [], [], [230, 231, 49], [], [], [], [], [], [], [], [], [], [230, 231, 49], [], [], [], [], [], [], [], [], [], [], [], [], [], [], [], [], [], [], [], [], [], [], [], [], [], [], [], [], [], [], [], [], [], [], [], [], [], []] (by decide +kernel)
set_option maxRecDepth 100000 in
theorem ew_ok_36 : ew_Ok 36 ew_cd_36 := ew_Ok_of 36 ew_cd_36 [[], [], [], [], [], [], [], [], [], [], [], [], [], [], [], [], [233, 234, 49], [], [], [], [], []] (by decide +kernel)
set_option maxRecDepth 100000 in
theorem ew_ok_37 : ew_Ok 37 ew_cd_37 := ew_Ok_of 37 ew_cd_37 [[], [], [], [], [], [], [], [], [], [], [], []] (by decide +kernel)
set_option maxRecDepth 100000 in
theorem ew_ok_38 : ew_Ok 38 ew_cd_38 := ew_Ok_of 38 ew_cd_38 [[], [239, 60, 61], [], [], [240], [], [], [243], [], [], [247], [], [], [249], [], [], [246], []] (by decide +kernel)
set_option maxRecDepth 100000 in
theorem ew_ok_39 : ew_Ok 39 ew_cd_39 := ew_Ok_of 39 ew_cd_39 [[], [], [], [240], [], [], [243], [], [], [247], [], [], [249], [], [], [246], [], [], []] (by decide +kernel)
set_option maxRecDepth 100000 in
theorem ew_ok_40 : ew_Ok 40 ew_cd_40 := ew_Ok_of 40 ew_cd_40 [[], [240], [], [], [249], [], [], [247], [], [], [], [], [], [], [249], [], [], [247], [], [], [], [], [], [], [], [], [249], [], [], [247], [], [291], [], [], [], [], [], [], [249], [], [], [247], [], [], [], [], []] (by decide +kernel)
set_option maxRecDepth 100000 in
theorem ew_ok_41 : ew_Ok 41 ew_cd_41 := ew_Ok_of 41 ew_cd_41 [[], [], [], [], [], [243], [], [379, 300, 50], [], [], [], [], [], [243], [], [379, 300, 50], [380, 381, 51], [], []] (by decide +kernel)
set_option maxRecDepth 100000 in
theorem ew_ok_42 : ew_Ok 42 ew_cd_42 := ew_Ok_of 42 ew_cd_42 [[], [247], [], [], [243], [], [], [], [], [], [], [], [], [], [], [], [], [], [], [], [], [], [], [], [], [], [], [], [], [], [], []] (by decide +kernel)
set_option maxRecDepth 100000 in
theorem ew_ok_43 : ew_Ok 43 ew_cd_43 := ew_Ok_of 43 ew_cd_43 [[], [], [], [], [], [], [], [], [], [], [], [], [], [], [], [], [], [], [471, 456, 457, 49], [], [], [], [], [], [], [], [], [], [], [], [], [], [], [], [], [], [], [], [], [], [], [], [], [], [], [], [], [], []] (by decide +kernel)
set_option maxRecDepth 100000 in
theorem ew_ok_44 : ew_Ok 44 ew_cd_44 := ew_Ok_of 44 ew_cd_44 [[], [], [], [], [247], [], [], [243], [], [379, 300, 50], [], [], [480, 376, 377, 49], [], [], [], [], [], [], [], [], [], [247], [], [], [], [], [], [243], [], [379, 300, 50], [], [], [480, 376, 377, 49], [], [], [], [], [], [], [], [], [], [], [], [], [], [], [], [], [], [], [], []] (by decide +kernel)
set_option maxRecDepth 100000 in
theorem ew_ok_45 : ew_Ok 45 ew_cd_45 := ew_Ok_of 45 ew_cd_45 [[], [240], [], [], [550], [], [], [240], [], [], [291], [], [247], [], [], [], [], [247], [], [], [], [243], [], [], [243], [], [], [551, 552, 50], [554, 293, 50], [], [], [240], [], [], [], [], [], [], [291], [], [], [], [], []] (by decide +kernel)
set_option maxRecDepth 100000 in
theorem ew_ok_46 : ew_Ok 46 ew_cd_46 := ew_Ok_of 46 ew_cd_46 [[], [], [], [], [243], [], [], [], [], []] (by decide +kernel)
set_option maxRecDepth 100000 in
theorem ew_ok_47 : ew_Ok 47 ew_cd_47 := ew_Ok_of 47 ew_cd_47 [[810, 226, 49], [], [], [240], [], [243], [], [247], [], [249], [], [246], [811, 237, 49], []] (by decide +kernel)
set_option maxRecDepth 100000 in
theorem ew_ok_48 : ew_Ok 48 ew_cd_48 := ew_Ok_of 48 ew_cd_48 [[], [131, 60, 61], [], [], [89], [132], [], [], [133], [], [], [89], [135], [], [], [89], [136], [], [], [89], [137], [], [], [138], [], [], [140], [], [], [141], []] (by decide +kernel)
set_option maxRecDepth 100000 in
theorem ew_ok_49 : ew_Ok 49 ew_cd_49 := ew_Ok_of 49 ew_cd_49 [[], [133], [], [], [133], [], [], [], [], [], [132], [], [133], [], [], [], [], [133], [], [], [133], [], []] (by decide +kernel)
set_option maxRecDepth 100000 in
theorem ew_ok_50 : ew_Ok 50 ew_cd_50 := ew_Ok_of 50 ew_cd_50 [[], [], [138], [], [], [140], [], [], [141], [], [], [], [], [], [], [], [], [], [], [], [645, 646, 647, 46], [], [141], [], [], [], [672, 673, 674, 46], [], [], [], [], [], [], [], [], [141], [], [], [140], [], [133], [], [], [], [140], [], [], [], []] (by decide +kernel)
set_option maxRecDepth 100000 in
theorem ew_ok_51 : ew_Ok 51 ew_cd_51 := ew_Ok_of 51 ew_cd_51 [[], [649, 650, 651, 46], [], [], [653, 654, 46], [], [], [], [], [], [], [], [], [], [], [], [], [], [], [], [], [], [], [], [], [], [], [], [], [], [], [], [], [], [], [], [], [], [141], [], [], [136], [], [], [], [], [135], [], [], [140], [], [], [], [140], [], [], [140], [], [], [], [], [656, 657, 658, 46], [664, 665, 666, 46], [], [], [], [], [668, 669, 670, 46], [], [], [], [], [138], []] (by decide +kernel)
set_option maxRecDepth 100000 in
theorem ew_ok_52 : ew_Ok 52 ew_cd_52 := ew_Ok_of 52 ew_cd_52 [[], [140], [], [], [140], [], [133], [], [], [140], [], [], [], [132], [], [140], [], [], [], []] (by decide +kernel)
set_option maxRecDepth 100000 in
theorem ew_ok_53 : ew_Ok 53 ew_cd_53 := ew_Ok_of 53 ew_cd_53 [[], [], [], [], [], [], [], [], [], [], [], [], [], []] (by decide +kernel)
set_option maxRecDepth 100000 in
theorem ew_ok_54 : ew_Ok 54 ew_cd_54 := ew_Ok_of 54 ew_cd_54 [[], [], [], [], [], [], [], [], [], [], [141], [], [], [], [649, 650, 651, 46], [660, 661, 662, 46], [], [], [], [], [], [649, 650, 651, 46], [], [], [], [], [], [], [], [140], [], [], [140], [], [], [], [], [141], [], [], [], [], [], [], [141], [], []] (by decide +kernel)
set_option maxRecDepth 100000 in
theorem ew_ok_55 : ew_Ok 55 ew_cd_55 := ew_Ok_of 55 ew_cd_55 [[], [], [], [], [], [], [], [], [], []] (by decide +kernel)
set_option maxRecDepth 100000 in
theorem ew_ok_56 : ew_Ok 56 ew_cd_56 := ew_Ok_of 56 ew_cd_56 [[], [], [], [], [], [], [], [], [], [], [137], [], [], [], [137], [], [], [], []] (by decide +kernel)
set_option maxRecDepth 100000 in
theorem ew_ok_57 : ew_Ok 57 ew_cd_57 := ew_Ok_of 57 ew_cd_57 [[], [], [141], [], [], [], [672, 673, 674, 46], [], [], [], [], [141], [], [], [], [], [656, 657, 658, 46], [664, 665, 666, 46], [], [], [], [], [141], [], [], [], [672, 673, 674, 46], [], [], [656, 657, 658, 46], [], [], [664, 665, 666, 46], []] (by decide +kernel)
set_option maxRecDepth 100000 in
theorem ew_ok_58 : ew_Ok 58 ew_cd_58 := ew_Ok_of 58 ew_cd_58 [[], [649, 650, 651, 46], [], [], [], [], [], [], [], [], [], [], [140], [], [], [140], [], []] (by decide +kernel)
set_option maxRecDepth 100000 in
theorem ew_ok_59 : ew_Ok 59 ew_cd_59 := ew_Ok_of 59 ew_cd_59 [[], [], [], [], [], [], [138], [], [], [], [], [], [], [], [680, 681, 682, 46], [], [], [], [135], [], [], [], [], [], [136], [], [], [653, 654, 46], [], [], [], [], [], [], []] (by decide +kernel)
set_option maxRecDepth 100000 in
theorem ew_ok_60 : ew_Ok 60 ew_cd_60 := ew_Ok_of 60 ew_cd_60 [[], [], [], [684, 685, 686, 46], [], [], [], [688, 689, 690, 46], [], [], [], [], [], [], [], [], [], [], [], [], [], [], [], [], [], [692, 347, 43], [], [], [], [692, 347, 43], [], [], [], [], [], [], [688, 689, 690, 46], [653, 654, 46], [], [], [], [684, 685, 686, 46], [], [], [], [], [684, 685, 686, 46], [693, 215, 49], [], [], [], [], []] (by decide +kernel)
set_option maxRecDepth 100000 in
theorem ew_ok_61 : ew_Ok 61 ew_cd_61 := ew_Ok_of 61 ew_cd_61 [[], [], [], [], [], [], [], [], [], [], [137], [], [], [], [137], [], [], [], [], []] (by decide +kernel)
set_option maxRecDepth 100000 in
theorem ew_ok_62 : ew_Ok 62 ew_cd_62 := ew_Ok_of 62 ew_cd_62 [[], [], [], [], [], [], [136], [], [], [], [], []] (by decide +kernel)
set_option maxRecDepth 100000 in
theorem ew_ok_63 : ew_Ok 63 ew_cd_63 := ew_Ok_of 63 ew_cd_63 [[], [67, 60, 61], [], [], [68], [70], [], [], [89], [], [], [], [], [], [], [], [], [], [], [], [], [], [], [], [], [], [], [], [], [], [], [], [], [71], [], [], [72], [], [], [74], [], [], [76], []] (by decide +kernel)
set_option maxRecDepth 100000 in
theorem ew_ok_64 : ew_Ok 64 ew_cd_64 := ew_Ok_of 64 ew_cd_64 [[], [72], [], [], [], [], [], [72], [], [], [70], [], [68, 226, 49], [], [], [], [], [], [], [], [], [227, 228, 49], [236, 237, 49], [], [], [], [72], [], [], [72], [], []] (by decide +kernel)
set_option maxRecDepth 100000 in
theorem ew_ok_65 : ew_Ok 65 ew_cd_65 := ew_Ok_of 65 ew_cd_65 [[], [], [], [], [72], [], [], [], [], [], [70], [], [], [], [], []] (by decide +kernel)
set_option maxRecDepth 100000 in
theorem ew_ok_66 : ew_Ok 66 ew_cd_66 := ew_Ok_of 66 ew_cd_66 [[], [], [282, 267, 268, 43], [], [], [], [], [], [], [], [], [283, 284, 285, 43], [], [245], [], [299, 300, 50], [], []] (by decide +kernel)
set_option maxRecDepth 100000 in
theorem ew_ok_67 : ew_Ok 67 ew_cd_67 := ew_Ok_of 67 ew_cd_67 [[], [], [], [], [282, 267, 268, 43], [], [], [], [], [], [], [242], [], [], [], [], [], [282, 267, 268, 43], [], [], [], [], [], [], [], [], [], [], [], [], [287, 288, 289, 49], [], [245], [], [292, 293, 50], [298], [299, 300, 50], [], [], [], [], [282, 267, 268, 43], [], [], [], [], [], [], [], [], [287, 288, 289, 49], []] (by decide +kernel)
set_option maxRecDepth 100000 in
theorem ew_ok_68 : ew_Ok 68 ew_cd_68 := ew_Ok_of 68 ew_cd_68 [[], [72], [], [], [], [], [], [], [], [], [], [], [], [70], [], [], [], [], [], [72], [], [], [74], [], [], [], [], [], [74], [74], [], [], [76], [], [], [], [], [], [76], [76], [], [72], []] (by decide +kernel)
set_option maxRecDepth 100000 in
theorem ew_ok_69 : ew_Ok 69 ew_cd_69 := ew_Ok_of 69 ew_cd_69 [[], [], [282, 267, 268, 43], [], [], [], [], []] (by decide +kernel)
set_option maxRecDepth 100000 in
theorem ew_ok_70 : ew_Ok 70 ew_cd_70 := ew_Ok_of 70 ew_cd_70 [[], [], [282, 267, 268, 43], [], [], [], [], [], [], [], [], [283, 284, 285, 43], [], [245], [], [292, 293, 50], []] (by decide +kernel)
set_option maxRecDepth 100000 in
theorem ew_ok_71 : ew_Ok 71 ew_cd_71 := ew_Ok_of 71 ew_cd_71 [[], [], [], [], [], [], [], [], []] (by decide +kernel)
set_option maxRecDepth 100000 in
theorem ew_ok_72 : ew_Ok 72 ew_cd_72 := ew_Ok_of 72 ew_cd_72 [[], [349, 344, 43], [], [], [350], [], [], [], [], [352], [], [], [], [], [], [], []] (by decide +kernel)
set_option maxRecDepth 100000 in
theorem ew_ok_73 : ew_Ok 73 ew_cd_73 := ew_Ok_of 73 ew_cd_73 [[], [349, 344, 43], [], [], [71], [], [], [], [], []] (by decide +kernel)
set_option maxRecDepth 100000 in
theorem ew_ok_74 : ew_Ok 74 ew_cd_74 := ew_Ok_of 74 ew_cd_74 [[], [349, 344, 43], [], [], [71], [], [], [], []] (by decide +kernel)
set_option maxRecDepth 100000 in
theorem ew_ok_75 : ew_Ok 75 ew_cd_75 := ew_Ok_of 75 ew_cd_75 [[], [72], [], [], [], [], [], [370, 371, 372, 43], [], [], [], [71], [], [], [], [], [], [], [], [71], [], [], [], [], [], [], [], [76], [282, 267, 268, 43], [], [], [], [], [], [], [76], [], [374, 279, 280, 43], [], [375, 376, 377, 49], [], [71], [], [], [], [], [], [], []] (by decide +kernel)
set_option maxRecDepth 100000 in
theorem ew_ok_76 : ew_Ok 76 ew_cd_76 := ew_Ok_of 76 ew_cd_76 [[], [], [74], [282, 267, 268, 43], [], [], [], [], [], [], [], [74], [], [374, 279, 280, 43], [], [], [], [], [375, 376, 377, 49], [], [], [], [245], [], [], [375, 376, 377, 49], [383, 384, 51], []] (by decide +kernel)
set_option maxRecDepth 100000 in
theorem ew_ok_77 : ew_Ok 77 ew_cd_77 := ew_Ok_of 77 ew_cd_77 [[], [], [74], [282, 267, 268, 43], [], [], [], [], [], [], [], [74], [], [374, 279, 280, 43], [], [], [], [], [245], [], [], [375, 376, 377, 49], [], [], [], [375, 376, 377, 49], [], [], [], [], []] (by decide +kernel)
set_option maxRecDepth 100000 in
theorem ew_ok_78 : ew_Ok 78 ew_cd_78 := ew_Ok_of 78 ew_cd_78 [[], [], [413, 388, 389, 43], [], [], [], [], [], [], [], [], [], [], [], [], [], [], [], [322, 42], [], [], [], [415, 367, 368, 43], [], [], [], [413, 388, 389, 43], [], [], [], [], [], [], [], [], [], []] (by decide +kernel)
set_option maxRecDepth 100000 in
theorem ew_ok_79 : ew_Ok 79 ew_cd_79 := ew_Ok_of 79 ew_cd_79 [[], [], [74], [282, 267, 268, 43], [], [], [], [], [], [], [], [74], [], [374, 279, 280, 43], [], [], [], [], [], [245], [], [], [], [], [], [], [], [74], [], [374, 279, 280, 43], [], [375, 376, 377, 49], []] (by decide +kernel)
set_option maxRecDepth 100000 in
theorem ew_ok_80 : ew_Ok 80 ew_cd_80 := ew_Ok_of 80 ew_cd_80 [[], [71], [], [], [], [], [], [], [], [71], [], [], [], [292, 293, 50], []] (by decide +kernel)
set_option maxRecDepth 100000 in
theorem ew_ok_81 : ew_Ok 81 ew_cd_81 := ew_Ok_of 81 ew_cd_81 [[], [71], [], [], [], [], [], [], [], [71], [], [], [], [], [], [493, 486, 487, 43], [], [], []] (by decide +kernel)
set_option maxRecDepth 100000 in
theorem ew_ok_82 : ew_Ok 82 ew_cd_82 := ew_Ok_of 82 ew_cd_82 [[498], [], [71], [], [], [], [], [], [], [], [], [], [299, 300, 50], [], [], [499], [], [], [], [], [], [], [], [498], [], [], [], [], [292, 293, 50], [], [71], [], [], [], [], [], [], []] (by decide +kernel)
set_option maxRecDepth 100000 in
theorem ew_ok_83 : ew_Ok 83 ew_cd_83 := ew_Ok_of 83 ew_cd_83 [[], [], [71], [], [], [], [], [], [], [], [71], [], [], [], [292, 293, 50], [], [498], [], [], [], [], []] (by decide +kernel)
set_option maxRecDepth 100000 in
theorem ew_ok_84 : ew_Ok 84 ew_cd_84 := ew_Ok_of 84 ew_cd_84 [[], [], [], [71], [], [], [], [], [], [], [], [71], [], [], [], [], [], [], [], [71], [], [], [], [292, 293, 50], []] (by decide +kernel)
set_option maxRecDepth 100000 in
theorem ew_ok_85 : ew_Ok 85 ew_cd_85 := ew_Ok_of 85 ew_cd_85 [[], [], [415, 367, 368, 43], [], [], [], [], [71], [], [], [], [], [370, 371, 372, 43], [], [], [], [71], [], [], [], [], [], [], []] (by decide +kernel)
set_option maxRecDepth 100000 in
theorem ew_ok_86 : ew_Ok 86 ew_cd_86 := ew_Ok_of 86 ew_cd_86 [[], [], [282, 267, 268, 43], [], [578], [], [], [], [579], [], [], [580, 547, 548, 49], [], [], [], [], [], [], [298], [], [], [], [], [], [], [], [], [], [], [], [], [], [], [], [], [], [], [], [], [374, 279, 280, 43], [], [], [], [], [], [], [], [], [], [], [], [], [], [], [], [], [374, 279, 280, 43], [], [], [], [], [], [], [], [], [], [], [], [], []] (by decide +kernel)
set_option maxRecDepth 100000 in
theorem ew_ok_87 : ew_Ok 87 ew_cd_87 := ew_Ok_of 87 ew_cd_87 [[], [], [], [], [], [], [70], [], [], [], [], [70], [], [], [], [], [], [], [806, 807, 808, 49], [], [], [], [], [], [], [], [], [], [71], [], [], [71], [], [], [], [], [], [], [], [72], [72], [], [], [74], [74], [], [], [76], [76], []] (by decide +kernel)
set_option maxRecDepth 100000 in
theorem ew_ok_88 : ew_Ok 88 ew_cd_88 := ew_Ok_of 88 ew_cd_88 [[], [59, 60, 61], [], [62, 63, 43], [], [65, 43], [173], [], [62, 63, 43], [], [65, 43], [174], [], [], [175], [], [], [90], [], [], [90, 92, 44], [], [94, 44], [], [], [], [90, 92, 44], [], [94, 44], [], [], [], [90, 92, 44], [], [94, 44], [], [], [], [90, 92, 44], [], [94, 44], [], [176], [], [], [110], [], [], [110, 112, 45], [], [114, 45], [], [], [], [110, 112, 45], [], [114, 45], [], [], [], [110, 112, 45], [], [114, 45], [], [177], [], [126, 127, 46], [], [129, 46], [178], [], [], [179], [], [], [89], [180], [], [], [89], [181], [], [159, 160, 47], [], [162, 47], [182], [], [], [89], [183], [], [], [89], [184], []] (by decide +kernel)
set_option maxRecDepth 100000 in
theorem ew_ok_89 : ew_Ok 89 ew_cd_89 := ew_Ok_of 89 ew_cd_89 [[], [], [], [], [214, 215, 49], [], [], [173], [], [], [], [], [222, 223, 224, 43], [], [], []] (by decide +kernel)
set_option maxRecDepth 100000 in
theorem ew_ok_90 : ew_Ok 90 ew_cd_90 := ew_Ok_of 90 ew_cd_90 [[], [173], [], [266, 267, 268, 43], [], [], [], [], [], [], [], [270, 271, 272, 49], []] (by decide +kernel)
set_option maxRecDepth 100000 in
theorem ew_ok_91 : ew_Ok 91 ew_cd_91 := ew_Ok_of 91 ew_cd_91 [[], [173], [], [266, 267, 268, 43], [], [], [], [], [], [], [241], [], [244], [], [], [214, 215, 49], [], [], [], [], [173], [], [], [278, 279, 280, 43], [], [], [], [248], [], [], [250], [], []] (by decide +kernel)
set_option maxRecDepth 100000 in
theorem ew_ok_92 : ew_Ok 92 ew_cd_92 := ew_Ok_of 92 ew_cd_92 [[], [173], [309, 310, 311, 43], []] (by decide +kernel)
set_option maxRecDepth 100000 in
theorem ew_ok_93 : ew_Ok 93 ew_cd_93 := ew_Ok_of 93 ew_cd_93 [[], [173], [], [317, 318, 319, 43], [], [], [], [], [321, 322, 42], [], [], [173], [], [], [278, 279, 280, 43], [], [], []] (by decide +kernel)
set_option maxRecDepth 100000 in
theorem ew_ok_94 : ew_Ok 94 ew_cd_94 := ew_Ok_of 94 ew_cd_94 [[], [324], [], [], [325], [], [], [], [], []] (by decide +kernel)
set_option maxRecDepth 100000 in
theorem ew_ok_95 : ew_Ok 95 ew_cd_95 := ew_Ok_of 95 ew_cd_95 [[], [173], [], [317, 318, 319, 43], [], [], [321, 322, 42], [], [], [173], [], [], [330, 331, 332, 43], [], [334], []] (by decide +kernel)
set_option maxRecDepth 100000 in
theorem ew_ok_96 : ew_Ok 96 ew_cd_96 := ew_Ok_of 96 ew_cd_96 [[], [173], [], [317, 318, 319, 43], [], [], [], [], [], [173], [], [317, 318, 319, 43], [], [], [], [], [173], [], [75], [], [173], [], [77], [], []] (by decide +kernel)
set_option maxRecDepth 100000 in
theorem ew_ok_97 : ew_Ok 97 ew_cd_97 := ew_Ok_of 97 ew_cd_97 [[], [343, 344, 43], [], [], [], [], [], [346, 347, 43], [], [], [], [], [173], [], [354, 355, 356, 43], [], [], [173], [], [], [358, 359, 360, 43], [], []] (by decide +kernel)
set_option maxRecDepth 100000 in
theorem ew_ok_98 : ew_Ok 98 ew_cd_98 := ew_Ok_of 98 ew_cd_98 [[], [321, 322, 42], [], [], [], [], [], [], [], [], [], [173], [73], [], [], [], [], [], [], [173], [], [366, 367, 368, 43], [], [], [], [], [], [173], [], [386, 371, 372, 43], [], [], [173], [], [387, 388, 389, 43], []] (by decide +kernel)
set_option maxRecDepth 100000 in
theorem ew_ok_99 : ew_Ok 99 ew_cd_99 := ew_Ok_of 99 ew_cd_99 [[], [], [], [395, 396, 42], [], [], [], [], [], [], [], [], [], [], [], [], [], [], [], [], [], [], [173], [], [366, 367, 368, 43], [], [], [], [], [], [], [], [], [], [], [], [], []] (by decide +kernel)
set_option maxRecDepth 100000 in
theorem ew_ok_100 : ew_Ok 100 ew_cd_100 := ew_Ok_of 100 ew_cd_100 [[], [321, 322, 42], [], [], [321, 322, 42], [], [], [], [], [], [], [], [], [], [], [], [], []] (by decide +kernel)
set_option maxRecDepth 100000 in
theorem ew_ok_101 : ew_Ok 101 ew_cd_101 := ew_Ok_of 101 ew_cd_101 [[], [321, 322, 42], [], [], [], [], [], [], [], [], [], [], [], [], [], [], [], [], [], [], [], [], [], [], [], [], [], [], [321, 322, 42], [], [], [173], [], [366, 367, 368, 43], [], [], [325], [], [], [], [], [], []] (by decide +kernel)
set_option maxRecDepth 100000 in
theorem ew_ok_102 : ew_Ok 102 ew_cd_102 := ew_Ok_of 102 ew_cd_102 [[], [321, 322, 42], [], [], [406, 407, 42], [], [], [], [], [], [], [], [], [], [173], [], [366, 367, 368, 43], [], [], [], [], [173], [], [], [], [409, 410, 411, 43], [], [], [173], [], [], [409, 410, 411, 43], [], [], [], [], [], [], [], [], [], [], [325], [], [], [], [], [], [], [], [], [], [], [], [], [], [], []] (by decide +kernel)
set_option maxRecDepth 100000 in
theorem ew_ok_103 : ew_Ok 103 ew_cd_103 := ew_Ok_of 103 ew_cd_103 [[], [], [], [], [], [], [], [], [], []] (by decide +kernel)
set_option maxRecDepth 100000 in
theorem ew_ok_104 : ew_Ok 104 ew_cd_104 := ew_Ok_of 104 ew_cd_104 [[], [], [], [395, 396, 42], [], [], [406, 407, 42], [], [], [], [], [], [], [], [], [], [], [], [], [], [], [], [], [], [], [], [], [], [], [], [], [], [], [], [], [], [], [420, 422, 0, 42], [], [], [], [428, 429, 51], [], [], [], [], [], [], [], [], [], [424, 426, 1, 42], [], [], [], [], [], [], [], [], [], [428, 429, 51], [], [], [], [], [], [], [], [], [], [], [], [], [], [], [], [], []] (by decide +kernel)
set_option maxRecDepth 100000 in
theorem ew_ok_105 : ew_Ok 105 ew_cd_105 := ew_Ok_of 105 ew_cd_105 [[], [], [], [], [], [173], [], [], [], [366, 367, 368, 43], [], [], [173], [], [], [], [387, 388, 389, 43], [], [], [], [], [], [424, 426, 1, 42], [], [], [184], [], [], [], [], [], [], [], [], [], [], [], [], [], [183], [], [], [], [], [], [], [], [], [], [], [], [], [], [], [], [183], [], [], [], [], [184], [], [], [], [], []] (by decide +kernel)
set_option maxRecDepth 100000 in
theorem ew_ok_106 : ew_Ok 106 ew_cd_106 := ew_Ok_of 106 ew_cd_106 [[], [], [], [], [183], [], [], [], [183], [], [], [], [], []] (by decide +kernel)
set_option maxRecDepth 100000 in
theorem ew_ok_107 : ew_Ok 107 ew_cd_107 := ew_Ok_of 107 ew_cd_107 [[], [406, 407, 42], [], [], [], [], [], [], [], [], [], [173], [73], [], [], [], [], [173], [], [], [435, 436, 437, 43], []] (by decide +kernel)
set_option maxRecDepth 100000 in
theorem ew_ok_108 : ew_Ok 108 ew_cd_108 := ew_Ok_of 108 ew_cd_108 [[], [406, 407, 42], [], [], [], [], [], [], [], [], [], [173], [73], [], [], [], [], [], [], [443, 445, 2, 42], []] (by decide +kernel)
set_option maxRecDepth 100000 in
theorem ew_ok_109 : ew_Ok 109 ew_cd_109 := ew_Ok_of 109 ew_cd_109 [[], [], [325], [], [], [], [], [], [], [], [], [181], [], [], [], [], [], [173], [], [], [435, 436, 437, 43], [], [], [], [], [], [], [], [181], [], [], [], [], [], [], [], []] (by decide +kernel)
set_option maxRecDepth 100000 in
theorem ew_ok_110 : ew_Ok 110 ew_cd_110 := ew_Ok_of 110 ew_cd_110 [[], [], [], [], [], [], [], [], [173], [73], [], [], [], [], [], [], [443, 445, 2, 42], [], [], [], [], [], [], [], [], [181], [], [], [], [181], [], [], [], [], []] (by decide +kernel)
set_option maxRecDepth 100000 in
theorem ew_ok_111 : ew_Ok 111 ew_cd_111 := ew_Ok_of 111 ew_cd_111 [[], [173], [], [266, 267, 268, 43], [], [], [], [], [], [], [], [], [], [], [], [], [], [], [455, 456, 457, 49], [], [], [], [], [], [], []] (by decide +kernel)
set_option maxRecDepth 100000 in
theorem ew_ok_112 : ew_Ok 112 ew_cd_112 := ew_Ok_of 112 ew_cd_112 [[], [173], [], [266, 267, 268, 43], [], [], [], [], [], [], [], [455, 456, 457, 49], []] (by decide +kernel)
set_option maxRecDepth 100000 in
theorem ew_ok_113 : ew_Ok 113 ew_cd_113 := ew_Ok_of 113 ew_cd_113 [[], [173], [], [266, 267, 268, 43], [], [], [], [], [], [455, 456, 457, 49], [], [], [], [], [], [], [], [334], [], [], [], [], [467, 468, 469, 49], []] (by decide +kernel)
set_option maxRecDepth 100000 in
theorem ew_ok_114 : ew_Ok 114 ew_cd_114 := ew_Ok_of 114 ew_cd_114 [[], [173], [], [266, 267, 268, 43], [], [], [], [], [], [], [], [], [], [], [], [], [], [], [], [476, 477, 478, 49], []] (by decide +kernel)
set_option maxRecDepth 100000 in
theorem ew_ok_115 : ew_Ok 115 ew_cd_115 := ew_Ok_of 115 ew_cd_115 [[], [321, 322, 42], [], [334], [], [], [173], [], [485, 486, 487, 43], [], [], [], [], [], [], [173], [], [489, 490, 491, 43], [], [], [], [], [], [334], [], [], [173], [], [494, 495, 496, 43], [], [], [], [], [], [334], [], [], [], [173], [], [173], [], [494, 495, 496, 43], [500, 501, 502, 43], [], [], [334], []] (by decide +kernel)
set_option maxRecDepth 100000 in
theorem ew_ok_116 : ew_Ok 116 ew_cd_116 := ew_Ok_of 116 ew_cd_116 [[], [], [], [508], [], [], [], [], [173], [], [509, 510, 511, 43], [], [], [513], [], [], [], [], [], [], []] (by decide +kernel)
set_option maxRecDepth 100000 in
theorem ew_ok_117 : ew_Ok 117 ew_cd_117 := ew_Ok_of 117 ew_cd_117 [[], [173], [], [266, 267, 268, 43], [], [], [], [], [321, 322, 42], [], [334], [], [518], [], [173], [], [], [278, 279, 280, 43], [], [], [], [244], [], [], [519, 520, 50], []] (by decide +kernel)
set_option maxRecDepth 100000 in
theorem ew_ok_118 : ew_Ok 118 ew_cd_118 := ew_Ok_of 118 ew_cd_118 [[], [321, 322, 42], [], [], [], [], [], [], [], [], [], [173], [73], [], [], [], [], [173], [], [529, 530, 531, 43], [], [], [], [], [533, 534, 50], [], [], [537], [], [], []] (by decide +kernel)
set_option maxRecDepth 100000 in
theorem ew_ok_119 : ew_Ok 119 ew_cd_119 := ew_Ok_of 119 ew_cd_119 [[], [], [], [], [], [], [], [321, 322, 42], [], [], [], [], [], [], [], [321, 322, 42], [], [], [], [], [], [321, 322, 42], [], [], [], [], [], [321, 322, 42], [], [], [], [], [173], [73], [], [], [], [], [], [], [173], [], [529, 530, 531, 43], [], [], [], [], [], [], [], [], [], [], [], [], [], [], [], [], [], [], [], [173], [], [529, 530, 531, 43], [], [], [], [], [], [], [], [], [], [], [], [], [325], [], []] (by decide +kernel)
set_option maxRecDepth 100000 in
theorem ew_ok_120 : ew_Ok 120 ew_cd_120 := ew_Ok_of 120 ew_cd_120 [[], [173], [], [266, 267, 268, 43], [], [], [], [334], [], [], [546, 547, 548, 49], []] (by decide +kernel)
set_option maxRecDepth 100000 in
theorem ew_ok_121 : ew_Ok 121 ew_cd_121 := ew_Ok_of 121 ew_cd_121 [[], [], [], [], [], [], [], [], [], [], [], [], [], [], [], [173], [], [266, 267, 268, 43], [], [], [], [334], [], [], [546, 547, 548, 49], [], [], [334], [], [], [334], [], [], [], [559, 560, 50], [], [], [334], [], [], [334], [], [], [], [], []] (by decide +kernel)
set_option maxRecDepth 100000 in
theorem ew_ok_122 : ew_Ok 122 ew_cd_122 := ew_Ok_of 122 ew_cd_122 [[], [173], [], [266, 267, 268, 43], [], [], [173], [], [266, 267, 268, 43], [], [], [], [], [], [], [], [], [], [570, 571, 572, 49], [], [], [], [570, 571, 572, 49], [], [], [], [], [241], [], [], [], [173], [], [], [], [], [574, 575, 576, 43], [], [], [173], [], [], [], [], [574, 575, 576, 43], [], [], [325], [], [], [], [], []] (by decide +kernel)
set_option maxRecDepth 100000 in
theorem ew_ok_123 : ew_Ok 123 ew_cd_123 := ew_Ok_of 123 ew_cd_123 [[], [321, 322, 42], [], [], [], [], [], [], [], [585, 587, 3, 42], [590, 592, 4, 42], [], [182], [167], []] (by decide +kernel)
set_option maxRecDepth 100000 in
theorem ew_ok_124 : ew_Ok 124 ew_cd_124 := ew_Ok_of 124 ew_cd_124 [[], [], [], [], [], [], [], [325], [589, 384, 51], [], [], [], [], [], [], [], [], [], [], [], [180], [], [], [], [173], [], [366, 367, 368, 43], [], [], [180], [], [], [], [], [], [], [], []] (by decide +kernel)
set_option maxRecDepth 100000 in
theorem ew_ok_125 : ew_Ok 125 ew_cd_125 := ew_Ok_of 125 ew_cd_125 [[], [182], [], [167], [], [], [], [], [], [], [], [180], [], [], [], [], [], [182], [], [594, 595, 596, 47], [], [182], [], [180], [], [], [598, 599, 600, 47], [], [182], [], [173], [], [180], [], [], [366, 367, 368, 43], [606, 607, 42], [594, 595, 596, 47], [], [182], [], [], [173], [], [180], [], [], [387, 388, 389, 43], [], [594, 595, 596, 47], [], [], []] (by decide +kernel)
set_option maxRecDepth 100000 in
theorem ew_ok_126 : ew_Ok 126 ew_cd_126 := ew_Ok_of 126 ew_cd_126 [[], [], [], [], [], [], [], [], [], [], [], []] (by decide +kernel)
set_option maxRecDepth 100000 in
theorem ew_ok_127 : ew_Ok 127 ew_cd_127 := ew_Ok_of 127 ew_cd_127 [[], [321, 322, 42], [], [], [], [], [], [], [], [585, 587, 3, 42], [590, 592, 4, 42], [], [182], [], [613, 614, 615, 47], []] (by decide +kernel)
set_option maxRecDepth 100000 in
theorem ew_ok_128 : ew_Ok 128 ew_cd_128 := ew_Ok_of 128 ew_cd_128 [[], [321, 322, 42], [], [], [], [], [], [], [], [], [], [], [], [], [], [], [], [], [], [], [], [585, 587, 3, 42], [], [], [], [], [], [], [], [], [], [], [], [], [], [], [], [], [], [], [], [621, 623, 5, 42], [], [], [], [], [625, 627, 6, 42], [], [], [], [], [], [], [], [], [], [], [], [], [], [], [], [], [428, 429, 51], [], [], [], [], [], [], [], [], [], [], [], [], [], []] (by decide +kernel)
set_option maxRecDepth 100000 in
theorem ew_ok_129 : ew_Ok 129 ew_cd_129 := ew_Ok_of 129 ew_cd_129 [[], [], [], [], [], [], [180], [], [], [], [180], [], [], [], [], [], [180], [], [], [], [], [], []] (by decide +kernel)
set_option maxRecDepth 100000 in
theorem ew_ok_130 : ew_Ok 130 ew_cd_130 := ew_Ok_of 130 ew_cd_130 [[], [], [], [], [], [], [], [], [], [621, 623, 5, 42], [], [], [], [], [], [], []] (by decide +kernel)
set_option maxRecDepth 100000 in
theorem ew_ok_131 : ew_Ok 131 ew_cd_131 := ew_Ok_of 131 ew_cd_131 [[], [], [], [], [], [], [], [], [178], [], [633, 634, 635, 46], [], [], [178], [134], [], [], []] (by decide +kernel)
set_option maxRecDepth 100000 in
theorem ew_ok_132 : ew_Ok 132 ew_cd_132 := ew_Ok_of 132 ew_cd_132 [[], [178], [641, 642, 643, 46], [], [], [], [], [178], [], [173], [73], [676, 677, 678, 46], [], [], [178], [], [134], [], [], [], [], [], [], [], [], [178], [139], [], [], [], [694, 696, 7, 42], [], [], [], [], [179], [], [], [179], [], [178], [139], []] (by decide +kernel)
set_option maxRecDepth 100000 in
theorem ew_ok_133 : ew_Ok 133 ew_cd_133 := ew_Ok_of 133 ew_cd_133 [[], [178], [], [698, 689, 690, 46], [], [], [178], [], [], [699, 685, 686, 46], [], [], [], [], [173], [], [75], [], [], [173], [], [77], [], [], [173], [], [], [358, 359, 360, 43], [], [], [173], [], [], [358, 359, 360, 43], [], [], [173], [], [700, 654, 46], [], [178], [], [], [699, 685, 686, 46], [], [], [178], [], [], [699, 685, 686, 46], [222, 223, 224, 43], [], []] (by decide +kernel)
set_option maxRecDepth 100000 in
theorem ew_ok_134 : ew_Ok 134 ew_cd_134 := ew_Ok_of 134 ew_cd_134 [[], [], [705, 707, 8, 42], [], [], [], [], [], [], [], [], [], [], [], [709, 710, 711, 44], [], [], [], [713, 218, 49], [], [], [], [], [], [], [], [], [], [], [], [], [], [709, 710, 711, 44], [], []] (by decide +kernel)
set_option maxRecDepth 100000 in
theorem ew_ok_135 : ew_Ok 135 ew_cd_135 := ew_Ok_of 135 ew_cd_135 [[], [], [], [], [176], [], [], [], [176], [], [], [], [], []] (by decide +kernel)
set_option maxRecDepth 100000 in
theorem ew_ok_136 : ew_Ok 136 ew_cd_136 := ew_Ok_of 136 ew_cd_136 [[], [], [705, 707, 8, 42], [], [], [], [], [], [], [], [173], [], [317, 318, 319, 43], [], [], [], [], [718, 719, 720, 44], [], [], [], [], [], [722, 723, 724, 44], [], [], [], [], [173], [], [266, 267, 268, 43], [], [], [], [], [241], [], [100], [726, 231, 49], [], [], [], [], [], [], [727, 728, 729, 44], [], []] (by decide +kernel)
set_option maxRecDepth 100000 in
theorem ew_ok_137 : ew_Ok 137 ew_cd_137 := ew_Ok_of 137 ew_cd_137 [[], [], [705, 707, 8, 42], [], [], [], [], [], [], [], [], [], [], [], [718, 719, 720, 44], [], [], [], [], [], [722, 723, 724, 44], [], [], [], [], [], [736, 737, 738, 44], [], [], [], [], [], [], [], [270, 271, 272, 49], []] (by decide +kernel)
set_option maxRecDepth 100000 in
theorem ew_ok_138 : ew_Ok 138 ew_cd_138 := ew_Ok_of 138 ew_cd_138 [[], [], [705, 707, 8, 42], [], [], [], [705, 707, 8, 42], [], [], [], [], [], [], [], [], [718, 719, 720, 44], [], [], [], [], [], [744, 745, 746, 44], [], [102], []] (by decide +kernel)
set_option maxRecDepth 100000 in
theorem ew_ok_139 : ew_Ok 139 ew_cd_139 := ew_Ok_of 139 ew_cd_139 [[], [], [752, 754, 9, 42], [], [], [], [], [], [], [], [], [], [], [], [], [], [], [], [], [], [756, 757, 758, 45], [], []] (by decide +kernel)
set_option maxRecDepth 100000 in
theorem ew_ok_140 : ew_Ok 140 ew_cd_140 := ew_Ok_of 140 ew_cd_140 [[], [], [], [], [177], [], [], [], [177], [], [], [], [], []] (by decide +kernel)
set_option maxRecDepth 100000 in
theorem ew_ok_141 : ew_Ok 141 ew_cd_141 := ew_Ok_of 141 ew_cd_141 [[], [], [752, 754, 9, 42], [], [], [], [], [], [], [764, 765, 766, 45], [], [], [], [], [], [768, 769, 770, 45], [], [], [], [], [], [], [772, 773, 774, 45], [], []] (by decide +kernel)
set_option maxRecDepth 100000 in
theorem ew_ok_142 : ew_Ok 142 ew_cd_142 := ew_Ok_of 142 ew_cd_142 [[], [], [752, 754, 9, 42], [], [], [], [334], [], [], [], [781, 782, 783, 45], []] (by decide +kernel)
set_option maxRecDepth 100000 in
theorem ew_ok_143 : ew_Ok 143 ew_cd_143 := ew_Ok_of 143 ew_cd_143 [[], [], [752, 754, 9, 42], [], [], [], [], [], [], [321, 322, 42], [], [], [], [], [764, 765, 766, 45], [], [], [], [], [], [], [119], [585, 587, 3, 42], [], [], [], [], [], [], [], [], [180], [], [], [], [], [], [180], [], [], [], [772, 773, 774, 45], [], [], [], []] (by decide +kernel)
set_option maxRecDepth 100000 in
theorem ew_ok_144 : ew_Ok 144 ew_cd_144 := ew_Ok_of 144 ew_cd_144 [[], [], [752, 754, 9, 42], [], [], [], [], [], [], [321, 322, 42], [], [], [], [], [764, 765, 766, 45], [], [], [], [], [], [], [119], [585, 587, 3, 42], [], [], [], [], [], [119], [], [], [], [], [], [], [180], [], [], [], [], [781, 782, 783, 45], [], [180], [], [], [], [], [], [], [], [], [], [], []] (by decide +kernel)
set_option maxRecDepth 100000 in
theorem ew_ok_145 : ew_Ok 145 ew_cd_145 := ew_Ok_of 145 ew_cd_145 [[], [], [], [173], [73], [], [], [178], [134], [], [], [179], [], [], [173], [75], [], [], [173], [77], [], [], [], [], [343, 344, 43], [], [], [173], [], [], [], [354, 355, 356, 43], [], [], []] (by decide +kernel)
set_option maxRecDepth 100000 in
theorem ew_ok_146 : ew_Ok 146 ew_cd_146 := ew_Ok_of 146 ew_cd_146 [[], [174], [], [173], [802, 803, 804, 43], [], [], [175], [], [173], [73], []] (by decide +kernel)
set_option maxRecDepth 100000 in
theorem ew_ok_147 : ew_Ok 147 ew_cd_147 := ew_Ok_of 147 ew_cd_147 [[], [175], [], [], [], [], [173], [], [174], [802, 803, 804, 43], [], [173], [73], []] (by decide +kernel)
set_option maxRecDepth 100000 in
theorem ew_ok_148_0 : ew_Ok 148 ((ew_cd_148).take 120) := ew_Ok_of 148 _ [[], [821, 60, 61], [], [], [89], [822], [], [], [89], [823], [], [], [89], [824], [], [], [89], [825], [], [], [89], [826], [], [], [89], [828], [], [], [830], [], [], [89], [], [], [], [], [], [], [], [], [], [], [], [], [], [], [], [], [], [], [], [], [], [], [], [], [831], [], [], [89], [832], [], [], [89], [834], [], [], [89], [835], [], [], [89], [837], [], [], [89], [838], [], [], [89], [839], [], [], [89], [841], [], [], [89], [842], [], [], [89], [], [], [], [], [], [], [], [], [], [], [], [], [], [], [], [], [850], [], [], [89], [851], [], [], [89], [], [], [], []] (by decide +kernel)
set_option maxRecDepth 100000 in
theorem ew_ok_148_1 : ew_Ok 148 (((ew_cd_148).drop 120).take 120) := ew_Ok_of 148 _ [[], [], [], [], [], [], [], [], [], [], [], [], [], [], [], [], [], [], [], [], [], [], [], [], [], [], [], [], [], [], [], [], [], [], [], [], [], [], [], [], [], [], [], [], [], [], [], [], [], [], [], [], [], [], [], [], [], [], [], [], [], [], [], [], [], [], [], [], [], [], [], [], [], [], [], [], [], [], [], [], [], [], [], [], [], [], [], [], [], [], [], [], [], [], [], [], [], [], [], [], [], [], [], [], [], [], [], [], [], [], [], [], [], [], [], [], [], [], [], []] (by decide +kernel)
set_option maxRecDepth 100000 in
theorem ew_ok_148_2 : ew_Ok 148 (((ew_cd_148).drop 120).drop 120) := ew_Ok_of 148 _ [[], [], [], [], [], [], [], [], [], [], [], [], [], [], [], [], [], [], [], [], [], [], [], [], [], [], [], [], [], [], [], [], [], [], [], [], [], [], [], [], [], [], [], [], [], [], [], [], [], [], [], [], [], [], [], [], [], [], [], [], [], [], [], [], [], [], [], [], [852], [], [], [89], [], [], [], [], [], [], [], [], [], [], [], [], [853], [], [], [125], [854], []] (by decide +kernel)
theorem ew_ok_148 : ew_Ok 148 ew_cd_148 := ew_Ok_cut 120 ew_ok_148_0 (ew_Ok_cut 120 ew_ok_148_1 (ew_ok_148_2))
set_option maxRecDepth 100000 in
theorem ew_ok_149 : ew_Ok 149 ew_cd_149 := ew_Ok_of 149 ew_cd_149 [[], [], [], [926], [927, 928, 48], [], [], [], [], [930, 931, 48], [], [], [], [], [827], [], [], [], [], [], [], [], [], [], [], [], [], [827], [], [], [], [], [936, 937, 48], [939, 941, 10, 48], [], [827], [], [], []] (by decide +kernel)
set_option maxRecDepth 100000 in
theorem ew_ok_150 : ew_Ok 150 ew_cd_150 := ew_Ok_of 150 ew_cd_150 [[], [], [], [], [], [], [], [], [], [], [], []] (by decide +kernel)
set_option maxRecDepth 100000 in
theorem ew_ok_151 : ew_Ok 151 ew_cd_151 := ew_Ok_of 151 ew_cd_151 [[], [], [933], [934], [927, 928, 48], [], [], [], [], [935], [927, 928, 48], [], [], [], [], [], [], [], [], [927, 928, 48], [], [], [], [], []] (by decide +kernel)
set_option maxRecDepth 100000 in
theorem ew_ok_152 : ew_Ok 152 ew_cd_152 := ew_Ok_of 152 ew_cd_152 [[], [], [], [], [], [], [], [], [], [], [], [], [], [], [], [], [], [], [], [], [], [], [], [], [], [], [], [], [], [], [], [], [], [], [], [], [], [], [], [], [], [], [], [], [], [], [], [], [], [], [], [], [], [], [], [], [], [], [], [], []] (by decide +kernel)
set_option maxRecDepth 100000 in
theorem ew_ok_153 : ew_Ok 153 ew_cd_153 := ew_Ok_of 153 ew_cd_153 [[], [943, 945, 11, 48], [], [], [822], [], [], [], [], [823], [], [], [], [], [824], [], [], [], [], [825], [], [], [], [], [826], [], [], [], [], [828], [], [827], [], [], [], [], [827], [], [], [827], []] (by decide +kernel)
set_option maxRecDepth 100000 in
theorem ew_ok_154 : ew_Ok 154 ew_cd_154 := ew_Ok_of 154 ew_cd_154 [[], [], [], [], [], [], [], [], [], [], [], [827], [], [], [], [], [828], [], [], [], [], [], [], [], [], [], [], [], [], [], [], [], [], [], [], [852], [], [], [], [], [], [], [], [], [], [], [], [], [], [], [], [], [], []] (by decide +kernel)
set_option maxRecDepth 100000 in
theorem ew_ok_155 : ew_Ok 155 ew_cd_155 := ew_Ok_of 155 ew_cd_155 [[], [], [951, 953, 12, 48], [], [], [], [], [828], [], [], [], [], [], [], [822], [], [], [], [], [823], [], [], [], [], [824], [], [], [], [], [825], [], [], [], [], [826], [], [], [], [], []] (by decide +kernel)
set_option maxRecDepth 100000 in
theorem ew_ok_156 : ew_Ok 156 ew_cd_156 := ew_Ok_of 156 ew_cd_156 [[], [], [], [], [827], [], [], [], [927, 928, 48], []] (by decide +kernel)
set_option maxRecDepth 100000 in
theorem ew_ok_157 : ew_Ok 157 ew_cd_157 := ew_Ok_of 157 ew_cd_157 [[], [], [951, 953, 12, 48], [], [], [], [], [823], [], [828], [], [], [], [], [], [930, 931, 48], [], [], [], [], [], [], [959, 961, 13, 48], [], [], [824], [], [828], [], [], [], [], [], [825], [], [828], [], [], [], [], [], []] (by decide +kernel)
set_option maxRecDepth 100000 in
theorem ew_ok_158 : ew_Ok 158 ew_cd_158 := ew_Ok_of 158 ew_cd_158 [[], [], [], [963, 965, 14, 48], [], [], [], [], [823], [], [828], [], [], [], [], [971, 972, 48], [], [823], [], [828], [], [], [], [], [], [], [], []] (by decide +kernel)
set_option maxRecDepth 100000 in
theorem ew_ok_159 : ew_Ok 159 ew_cd_159 := ew_Ok_of 159 ew_cd_159 [[], [], [], [], [], [822], [], [828], [], [], [], [], [], [], [], [], [], [828], [], [], [], [], [967, 969, 15, 48], [], [], [], [], [], [], [], [], [], [], [823], [], [828], [], [], [], [], [], [], [971, 972, 48], [], [], [825], [], [828], [], [], [], [], [], [824], [], [828], [], [], [], [], [], [], [934], [971, 972, 48], [934], [], [], [], [], [], [], [], [], []] (by decide +kernel)
set_option maxRecDepth 100000 in
theorem ew_ok_160 : ew_Ok 160 ew_cd_160 := ew_Ok_of 160 ew_cd_160 [[], [822], [], [], [], [], [825], [], [], [], [], [824], [], [], [], [], [], [], [], [], [825], [], [], [], [], [824], [], [], [], [], [933], [971, 972, 48], [], [], [], [], [825], [], [], [], [], [824], [], [], [], [933], [], [], [], [], [], [], [825], [], [], [], [], [824], [], [], [], [], [], [], []] (by decide +kernel)
set_option maxRecDepth 100000 in
theorem ew_ok_161 : ew_Ok 161 ew_cd_161 := ew_Ok_of 161 ew_cd_161 [[], [], [], [], [], [], [], [], [], [], [], [], [], [], [], []] (by decide +kernel)
set_option maxRecDepth 100000 in
theorem ew_ok_162 : ew_Ok 162 ew_cd_162 := ew_Ok_of 162 ew_cd_162 [[], [827], [], [], [], [], [], [827], [], [], [827], [], [], [829], [], [827], [], [], [], [], [829], [829], [], [], [830], [], [827], [], [], [], [], [830], [830], [], [827], []] (by decide +kernel)
set_option maxRecDepth 100000 in
theorem ew_ok_163 : ew_Ok 163 ew_cd_163 := ew_Ok_of 163 ew_cd_163 [[], [], [951, 953, 12, 48], [], [], [], [], [982, 983, 48], [], [], [], [], [959, 961, 13, 48], [], [], []] (by decide +kernel)
set_option maxRecDepth 100000 in
theorem ew_ok_164 : ew_Ok 164 ew_cd_164 := ew_Ok_of 164 ew_cd_164 [[], [], [985], [934], [927, 928, 48], []] (by decide +kernel)
set_option maxRecDepth 100000 in
theorem ew_ok_165 : ew_Ok 165 ew_cd_165 := ew_Ok_of 165 ew_cd_165 [[], [], [951, 953, 12, 48], [], [], [982, 983, 48], [], [], [], [], [990, 992, 16, 48], [], [994], []] (by decide +kernel)
set_option maxRecDepth 100000 in
theorem ew_ok_166 : ew_Ok 166 ew_cd_166 := ew_Ok_of 166 ew_cd_166 [[], [], [], [963, 965, 14, 48], [], [823], [], [828], [], [], [], [], [971, 972, 48], []] (by decide +kernel)
set_option maxRecDepth 100000 in
theorem ew_ok_167 : ew_Ok 167 ew_cd_167 := ew_Ok_of 167 ew_cd_167 [[], [], [951, 953, 12, 48], [], [], [], [], [], [], [951, 953, 12, 48], [], [], [], [], [], [829], [], [], [830], [], []] (by decide +kernel)
set_option maxRecDepth 100000 in
theorem ew_ok_168 : ew_Ok 168 ew_cd_168 := ew_Ok_of 168 ew_cd_168 [[], [], [], [1003], [927, 928, 48], [], [], [], [], [], [1004, 1005, 48], [], [], [], [], [831], [], [], [], [], [831], [], [], [], [], []] (by decide +kernel)
set_option maxRecDepth 100000 in
theorem ew_ok_169 : ew_Ok 169 ew_cd_169 := ew_Ok_of 169 ew_cd_169 [[], [], [], [], [], [934], [927, 928, 48], [], [], [], [], [1007], [927, 928, 48], [], [], [], [], [1008], [927, 928, 48], [], [], [], [], [935], [927, 928, 48], []] (by decide +kernel)
set_option maxRecDepth 100000 in
theorem ew_ok_170 : ew_Ok 170 ew_cd_170 := ew_Ok_of 170 ew_cd_170 [[], [982, 983, 48], [], [], [], [], [933], [927, 928, 48], [], [], [], [], [827], [], [], [], [], [], [], [], [1013, 1015, 17, 48], [], [], [], [], [], [], [1017, 1019, 18, 48], [], [], [], [1034, 1036, 21, 48], []] (by decide +kernel)
set_option maxRecDepth 100000 in
theorem ew_ok_171 : ew_Ok 171 ew_cd_171 := ew_Ok_of 171 ew_cd_171 [[], [827], [], [], [], [], [], [1017, 1019, 18, 48], [], [], [], [831], [], [], [], [], [], [], [], [831], [], [], [], [], [], [], [830], [], [], [], [830], [], [959, 961, 13, 48], [], [], [823], [], [828], [], [830], [], [], [1029, 1030, 48], [], [831], [], [], [], [], [], [], []] (by decide +kernel)
set_option maxRecDepth 100000 in
theorem ew_ok_172 : ew_Ok 172 ew_cd_172 := ew_Ok_of 172 ew_cd_172 [[], [], [], [1021, 1023, 19, 48], [], [], [], [1021, 1023, 19, 48], [1033, 384, 51], []] (by decide +kernel)
set_option maxRecDepth 100000 in
theorem ew_ok_173 : ew_Ok 173 ew_cd_173 := ew_Ok_of 173 ew_cd_173 [[], [], [829], [], [959, 961, 13, 48], [], [], [], [], [], [1025, 1027, 20, 48], [], [], [], [1025, 1027, 20, 48], [1029, 1030, 48], []] (by decide +kernel)
set_option maxRecDepth 100000 in
theorem ew_ok_174 : ew_Ok 174 ew_cd_174 := ew_Ok_of 174 ew_cd_174 [[], [823], [], [828], [], [829], [], [], []] (by decide +kernel)
set_option maxRecDepth 100000 in
theorem ew_ok_175 : ew_Ok 175 ew_cd_175 := ew_Ok_of 175 ew_cd_175 [[], [], [], [1032, 604, 51], [], [], [], [], [], [], [], [1033, 384, 51], []] (by decide +kernel)
set_option maxRecDepth 100000 in
theorem ew_ok_176 : ew_Ok 176 ew_cd_176 := ew_Ok_of 176 ew_cd_176 [[], [], [], [1021, 1023, 19, 48], [], [], [], [1021, 1023, 19, 48], [], [], [], [], []] (by decide +kernel)
set_option maxRecDepth 100000 in
theorem ew_ok_177 : ew_Ok 177 ew_cd_177 := ew_Ok_of 177 ew_cd_177 [[], [], [], [1042, 1043, 48], [], [], [], [], [], [], [1045], [927, 928, 48], [], [], [], [], [], [], [], [], [], [], [], [], [1013, 1015, 17, 48], [], [], [], [], [], [], [], [], [], [], [], [], [], [], [], [], [], []] (by decide +kernel)
set_option maxRecDepth 100000 in
theorem ew_ok_178 : ew_Ok 178 ew_cd_178 := ew_Ok_of 178 ew_cd_178 [[], [982, 983, 48], [], [], [982, 983, 48], [], [], [], [], [], [], [], [], [], [], [], [], []] (by decide +kernel)
set_option maxRecDepth 100000 in
theorem ew_ok_179 : ew_Ok 179 ew_cd_179 := ew_Ok_of 179 ew_cd_179 [[], [982, 983, 48], [], [], [], [], [], [927, 928, 48], [], [], [], [], [], [], [], [], [], [], [], [], [], [], [], [], [], [], [], [982, 983, 48], [], [], [], [], [], [], [], [1013, 1015, 17, 48], [], [], [], [], [], [], [1050], [], [], [], [], [], []] (by decide +kernel)
set_option maxRecDepth 100000 in
theorem ew_ok_180 : ew_Ok 180 ew_cd_180 := ew_Ok_of 180 ew_cd_180 [[], [982, 983, 48], [], [], [1055, 1056, 48], [], [], [], [], [933], [927, 928, 48], [], [], [], [], [], [1013, 1015, 17, 48], [], [], [], [], [], [], [], [1059, 1061, 22, 48], [], [], [], [], [1059, 1061, 22, 48], [], [], [], [], [1050], [], [], [], [], [], [], [1050], [], [], [], [], [], [], [], [], [], []] (by decide +kernel)
set_option maxRecDepth 100000 in
theorem ew_ok_181 : ew_Ok 181 ew_cd_181 := ew_Ok_of 181 ew_cd_181 [[], [], [], [1058], [927, 928, 48], []] (by decide +kernel)
set_option maxRecDepth 100000 in
theorem ew_ok_182 : ew_Ok 182 ew_cd_182 := ew_Ok_of 182 ew_cd_182 [[], [], [1034, 1036, 21, 48], [], [], [], [], [], [], [], [], [], [], [], [982, 983, 48], [], [], [], [], [], [1013, 1015, 17, 48], [], [], [], [], [], [1034, 1036, 21, 48], [], [], [], [], [], [], [], [], [], []] (by decide +kernel)
set_option maxRecDepth 100000 in
theorem ew_ok_183_0 : ew_Ok 183 ((ew_cd_183).take 120) := ew_Ok_of 183 _ [[], [], [], [1042, 1043, 48], [], [], [1055, 1056, 48], [], [], [], [], [926], [927, 928, 48], [], [], [], [], [], [], [], [], [], [], [], [], [], [], [], [], [], [], [], [], [], [], [1013, 1015, 17, 48], [], [], [], [], [], [], [835], [], [], [], [], [], [], [], [1034, 1036, 21, 48], [], [], [], [], [], [], [], [], [], [834], [], [], [], [], [], [], [835], [], [], [], [], [], [835], [], [], [], [], [], [], [], [], [834], [], [], [], [], [], [], [], [], [834], [], [], [], [], [], [], [], [], [], [], [], [], [], [], [], [], [], [], [], [], [], [834], [], [], [1067, 429, 51], [], [], []] (by decide +kernel)
set_option maxRecDepth 100000 in
theorem ew_ok_183_1 : ew_Ok 183 ((ew_cd_183).drop 120) := ew_Ok_of 183 _ [[], [], [], [], [], [], [1067, 429, 51], [], [], [], [], [], [], [834], [], [], [], [], [], [], [], [], [], [], [], [], [1067, 429, 51], [], [], [], [], [], [], [], [], [], [], [], [], [], [], [], [], []] (by decide +kernel)
theorem ew_ok_183 : ew_Ok 183 ew_cd_183 := ew_Ok_cut 120 ew_ok_183_0 (ew_ok_183_1)
set_option maxRecDepth 100000 in
theorem ew_ok_184 : ew_Ok 184 ew_cd_184 := ew_Ok_of 184 ew_cd_184 [[], [1055, 1056, 48], [], [], [], [], [], [927, 928, 48], [], [], [], [], [827], [], [], [], [], [], [], [1072, 1074, 23, 48], []] (by decide +kernel)
set_option maxRecDepth 100000 in
theorem ew_ok_185 : ew_Ok 185 ew_cd_185 := ew_Ok_of 185 ew_cd_185 [[], [1025, 1027, 20, 48], [], [], [], [], [], [829], [], [959, 961, 13, 48], [], [], [], [829], [], [959, 961, 13, 48], [], [], [], [], [], [], [], [], [], [829], [], [959, 961, 13, 48], [], [], [1029, 1030, 48], []] (by decide +kernel)
set_option maxRecDepth 100000 in
theorem ew_ok_186 : ew_Ok 186 ew_cd_186 := ew_Ok_of 186 ew_cd_186 [[], [1055, 1056, 48], [], [], [], [], [], [927, 928, 48], [], [], [], [], [827], [], [], [], [], [], [], [], [1080, 1082, 24, 48], []] (by decide +kernel)
set_option maxRecDepth 100000 in
theorem ew_ok_187 : ew_Ok 187 ew_cd_187 := ew_Ok_of 187 ew_cd_187 [[], [], [1084], [], [], [], [], [], [], [], [], [], [1072, 1074, 23, 48], [], [], [], [], [], [], [], [], [], [], [], [], [], [836], [836], [], [], [], [], []] (by decide +kernel)
set_option maxRecDepth 100000 in
theorem ew_ok_188 : ew_Ok 188 ew_cd_188 := ew_Ok_of 188 ew_cd_188 [[], [], [], [], [927, 928, 48], [], [], [], [], [827], [], [], [], [], [], [], [], [], [], [], [1080, 1082, 24, 48], [], [], [], [927, 928, 48], [], [], [836], [], [], []] (by decide +kernel)
set_option maxRecDepth 100000 in
theorem ew_ok_189 : ew_Ok 189 ew_cd_189 := ew_Ok_of 189 ew_cd_189 [[], [], [951, 953, 12, 48], [], [], [], [1093, 1095, 25, 48], [], [], []] (by decide +kernel)
set_option maxRecDepth 100000 in
theorem ew_ok_190 : ew_Ok 190 ew_cd_190 := ew_Ok_of 190 ew_cd_190 [[], [824], [], [828], [], [], [], [], [], [823], [], [828], [], [], [], [], [], [], [], [], [], [837], [], [], [], [], [], [], [], [], [], [], [], [], [], [], [], [], []] (by decide +kernel)
set_option maxRecDepth 100000 in
theorem ew_ok_191 : ew_Ok 191 ew_cd_191 := ew_Ok_of 191 ew_cd_191 [[], [], [951, 953, 12, 48], [], [], [], [], [], [], [1093, 1095, 25, 48], [], [], [], [927, 928, 48], [], [], [837], [], [], [], [], []] (by decide +kernel)
set_option maxRecDepth 100000 in
theorem ew_ok_192 : ew_Ok 192 ew_cd_192 := ew_Ok_of 192 ew_cd_192 [[], [], [951, 953, 12, 48], [], [], [], [], [], [], [1093, 1095, 25, 48], [], [], [], [927, 928, 48], [], [], [], [], [], [927, 928, 48], [], [994], [], [], [837], [], [], [], [], [], [], [], [], [], [], [], [], [], [], [], [837], [], [], [], [], [], [], [], [], [], [], [], [], [], [], [], [], [], []] (by decide +kernel)
set_option maxRecDepth 100000 in
theorem ew_ok_193 : ew_Ok 193 ew_cd_193 := ew_Ok_of 193 ew_cd_193 [[], [], [951, 953, 12, 48], [], [], [], [], [], [], [1007], [927, 928, 48], [], [], [], [], [823], [], [828], [], [], [], [], [], [], [], [1109], [], [], [], [], [], [], [], [824], [], [828], [], [], [], [], [], [], [], [], [], [], [], [], [], [], [1110, 381, 51], [], [], [], [], [], [], [], [], [], [], [], [], [], [], [], [], [], [], [], [], [], [], []] (by decide +kernel)
set_option maxRecDepth 100000 in
theorem ew_ok_194 : ew_Ok 194 ew_cd_194 := ew_Ok_of 194 ew_cd_194 [[], [982, 983, 48], [], [], [], [], [1045], [927, 928, 48], [], [994], [], [], [], [1115, 1117, 26, 48], [], [], [], [], [], [], [], [], [], [831], [], [], [], [], [], [], [], [831], [], [], [], [], [], [], [], [], [], [], [], [994], [], [1119], [], [831], [], [], [], [], [], [], [], [], [], [], [], [], [1120], [], [], [], [], [], [], [1120], [], [1119], [], [], [], [], [], [], [], [], [], [], [831], [], [], [], [], [], [], [], [], [1120], [], [], [], [], [], [1120], [], [1119], [], []] (by decide +kernel)
set_option maxRecDepth 100000 in
theorem ew_ok_195 : ew_Ok 195 ew_cd_195 := ew_Ok_of 195 ew_cd_195 [[], [831], [], [], [], [], [], [], [], [831], [], [], [], [971, 972, 48], []] (by decide +kernel)
set_option maxRecDepth 100000 in
theorem ew_ok_196 : ew_Ok 196 ew_cd_196 := ew_Ok_of 196 ew_cd_196 [[], [], [], [1125], [927, 928, 48], [], [], [], [], [831], [], [], [], [], [], [], [], [831], [], [], [], [], [], [], [], [831], [], [], [], [], [], [], [934], [], [], [], [], [], [], []] (by decide +kernel)
set_option maxRecDepth 100000 in
theorem ew_ok_197 : ew_Ok 197 ew_cd_197 := ew_Ok_of 197 ew_cd_197 [[], [], [951, 953, 12, 48], [], [], [982, 983, 48], [], [1130], [], [], [], [959, 961, 13, 48], [], [], [], [823], [], [828], [], [], [], [], [], [1131, 1132, 52], [], [994], []] (by decide +kernel)
set_option maxRecDepth 100000 in
theorem ew_ok_198 : ew_Ok 198 ew_cd_198 := ew_Ok_of 198 ew_cd_198 [[], [982, 983, 48], [], [], [], [], [], [927, 928, 48], [], [], [], [], [827], [], [], [], [], [], [], [], [1145, 1147, 27, 48], [1149, 1150, 53], [], [], [], [1145, 1147, 27, 48], [1159], [], [], []] (by decide +kernel)
set_option maxRecDepth 100000 in
theorem ew_ok_199 : ew_Ok 199 ew_cd_199 := ew_Ok_of 199 ew_cd_199 [[], [], [1013, 1015, 17, 48], [], [], [], [], [831], [], [], [], [], [1017, 1019, 18, 48], [], [], [], [831], [], [], [], [], [], [], []] (by decide +kernel)
set_option maxRecDepth 100000 in
theorem ew_ok_200 : ew_Ok 200 ew_cd_200 := ew_Ok_of 200 ew_cd_200 [[], [838], [], [], [], [], [838], [], [], [], [], [838], [], [], [], [], [838], [], [], [], [], [], [], [926], [927, 928, 48], [], [], [], [], [], [], [], [], [], [838], [], [], [982, 983, 48], [], [], [], [], [], [], [], [], [827], [], [], [], [], [], [], [], [], [], [], [], [], [838], [], [], [1145, 1147, 27, 48], [], [], [838], [], [], [1145, 1147, 27, 48], [], [], [], [], [], [], [], [], [], [838], [], [], [1050], [], []] (by decide +kernel)
set_option maxRecDepth 100000 in
theorem ew_ok_201 : ew_Ok 201 ew_cd_201 := ew_Ok_of 201 ew_cd_201 [[], [], [951, 953, 12, 48], [], [], [], [1168, 1170, 28, 48], [], [], [], [1172, 1174, 29, 48], [], [994], []] (by decide +kernel)
set_option maxRecDepth 100000 in
theorem ew_ok_202 : ew_Ok 202 ew_cd_202 := ew_Ok_of 202 ew_cd_202 [[], [822], [], [828], [], [], [], [], [], [], [], [], []] (by decide +kernel)
set_option maxRecDepth 100000 in
theorem ew_ok_203 : ew_Ok 203 ew_cd_203 := ew_Ok_of 203 ew_cd_203 [[], [828], [], [], [], [], [822], [], [], [], [], [933], [], [824], [], [], [], [], [], [], [824], [], [], [], [], [], [823], [], [], [], [], [], [823], [], [], [], [1176, 1177, 48], [], [], [], [822], [], [], [], [], [], [], [], [], [933], [], [], [], [], []] (by decide +kernel)
set_option maxRecDepth 100000 in
theorem ew_ok_204 : ew_Ok 204 ew_cd_204 := ew_Ok_of 204 ew_cd_204 [[], [], [], [], [], [], [], [], [], [], [], [], [], [], [], [], [], [], []] (by decide +kernel)
set_option maxRecDepth 100000 in
theorem ew_ok_205 : ew_Ok 205 ew_cd_205 := ew_Ok_of 205 ew_cd_205 [[], [], [], [], [], [], [], [], [], [], [], [], [], [], [], [], [], [], [951, 953, 12, 48], [], [], [], [1168, 1170, 28, 48], [], [994], [], [], [], [1172, 1174, 29, 48], [], [], [], [1172, 1174, 29, 48], [1176, 1177, 48], [], [], [], [1183], [], [], [], [], [], [], [], [], [], [], [], [], [], [], [], [], [], [994], []] (by decide +kernel)
set_option maxRecDepth 100000 in
theorem ew_ok_206 : ew_Ok 206 ew_cd_206 := ew_Ok_of 206 ew_cd_206 [[], [], [951, 953, 12, 48], [], [], [], [951, 953, 12, 48], [], [], [], [], [], [], [], [823], [], [828], [], [], [], [], [], [], [927, 928, 48], [], [], [], [], [], [823], [], [828], [], [], [], [], [], [], [927, 928, 48], [], [], [], [], [], [], [1050], [], [], [], [], [959, 961, 13, 48], [], [], [], [], [], [959, 961, 13, 48], [], [], [], [], [], [], [], []] (by decide +kernel)
set_option maxRecDepth 100000 in
theorem ew_ok_207 : ew_Ok 207 ew_cd_207 := ew_Ok_of 207 ew_cd_207 [[], [982, 983, 48], [], [], [], [], [], [1192, 1194, 30, 48], [], [840], []] (by decide +kernel)
set_option maxRecDepth 100000 in
theorem ew_ok_208 : ew_Ok 208 ew_cd_208 := ew_Ok_of 208 ew_cd_208 [[], [], [840], [], [], [], [], [], [], [], [], [], [], [1050], [], [], [], [], [], [], [1013, 1015, 17, 48], [], [], [], [], [], [], [], [], [1196, 1198, 31, 48], [], [], [1200, 1202, 32, 48], [], [], [], [], [], [], [], [], [], [], [], [], [1196, 1198, 31, 48], [], [], [], [], [1034, 1036, 21, 48], [], [1196, 1198, 31, 48], [], [], [], []] (by decide +kernel)
set_option maxRecDepth 100000 in
theorem ew_ok_209 : ew_Ok 209 ew_cd_209 := ew_Ok_of 209 ew_cd_209 [[], [839], [], [840], [], [], [], [], [840], [], [], [840], []] (by decide +kernel)
set_option maxRecDepth 100000 in
theorem ew_ok_210 : ew_Ok 210 ew_cd_210 := ew_Ok_of 210 ew_cd_210 [[], [], [], [], [1196, 1198, 31, 48], [], [1032, 604, 51], [], [], [], [], [], [], [], [], [], [], [], [], [], [], [], [], [], [], [], [], [], [], [], [1196, 1198, 31, 48], [], [], [], [], [], []] (by decide +kernel)
set_option maxRecDepth 100000 in
theorem ew_ok_211 : ew_Ok 211 ew_cd_211 := ew_Ok_of 211 ew_cd_211 [[], [982, 983, 48], [], [], [], [], [], [1192, 1194, 30, 48], [], [], [], [], [840], [], [], [], [927, 928, 48], [], [], [839], [], [], [], [], []] (by decide +kernel)
set_option maxRecDepth 100000 in
theorem ew_ok_212 : ew_Ok 212 ew_cd_212 := ew_Ok_of 212 ew_cd_212 [[], [982, 983, 48], [], [], [], [], [1212], [927, 928, 48], [], [], [], [], [933], [927, 928, 48], [], [], [], [], [], [], [1213, 1215, 33, 48], [], [], [], [], [], [841], [], [], [], [], [841], [], [], [], [], [], [], [], [], [], [], [841], [], [], [], [1217, 1219, 34, 48], [], [], [], [1217, 1219, 34, 48], [], [], [], [], [], [], [], [841], [], [], [], [], [], [841], [], [], [], [], [], [], [], [841], [], [], [1067, 429, 51], [], [], [], [], [], [], [], [], [], [], [], [], [], [1217, 1219, 34, 48], [], [], []] (by decide +kernel)
set_option maxRecDepth 100000 in
theorem ew_ok_213 : ew_Ok 213 ew_cd_213 := ew_Ok_of 213 ew_cd_213 [[], [], [], [], [], [], [], [], [], [], [], [], [], [], [], [], [1050], [], [], [], [], [], [], [1013, 1015, 17, 48], [], [], [], [], [841], [], [], [], [], [], [], [], [], [], [], [], [], [], []] (by decide +kernel)
set_option maxRecDepth 100000 in
theorem ew_ok_214 : ew_Ok 214 ew_cd_214 := ew_Ok_of 214 ew_cd_214 [[], [], [], [], [], [], [], [], [], [841], [], [], [], [], [], [], [], [], [], [], [], [], []] (by decide +kernel)
set_option maxRecDepth 100000 in
theorem ew_ok_215 : ew_Ok 215 ew_cd_215 := ew_Ok_of 215 ew_cd_215 [[], [], [], [1225], [927, 928, 48], [], [], [], [], [843], [], [], [], [], [], [842], [], [843], [], [], [], [], [843], [], [], [843], [], [843], []] (by decide +kernel)
set_option maxRecDepth 100000 in
theorem ew_ok_216 : ew_Ok 216 ew_cd_216 := ew_Ok_of 216 ew_cd_216 [[], [1230, 1232, 35, 48], [], [], [], [843], [], []] (by decide +kernel)
set_option maxRecDepth 100000 in
theorem ew_ok_217 : ew_Ok 217 ew_cd_217 := ew_Ok_of 217 ew_cd_217 [[], [], [845], [], [1234, 1236, 36, 48], [], [], [], [845], [], [], [], [], [1251, 1253, 39, 48], [], [], [845], [], [843], [], [], [], [845], [], [], [], [827], [], [], [829], [], [], [830], [], [], [831], [], [], [], [], [831], [], [], [], [], [], [], [], [845], [], [], [], [], [], [845], [], [], [1234, 1236, 36, 48], [], [], [1255, 1257, 40, 48], [], [], [], [827], [], [], [829], [], [], [830], [], [831], [], [], [], [], [831], [], [], [], [], [], [], [], [], [], [], [1251, 1253, 39, 48], [], [], [], [], [844], [], [], [844], [], []] (by decide +kernel)
set_option maxRecDepth 100000 in
theorem ew_ok_218 : ew_Ok 218 ew_cd_218 := ew_Ok_of 218 ew_cd_218 [[], [], [1238, 1240, 37, 48], [846], [], [846], [1242, 1243, 48], [], [], [], [], [], [], [], [], [846], [], [], [], [846], [], [], [], [846], [], [], [], [846], [], [], [], [], [], [], [845], [], [], [845], [], [], [1245, 1247, 38, 48], [847], [], [], [849], [], [847], [], [], [], [], [847], [], [], [], [], [], [], [], [1251, 1253, 39, 48], [], [], [], [], [], [1245, 1247, 38, 48], [848], [], [848], [], [], [], [], [], [1251, 1253, 39, 48], [], [], [], [1245, 1247, 38, 48], [849], [], [849], [], [], [], [], []] (by decide +kernel)
set_option maxRecDepth 100000 in
theorem ew_ok_219 : ew_Ok 219 ew_cd_219 := ew_Ok_of 219 ew_cd_219 [[], [845], [], [843], [], [], [842], [], [845], [], [], [], []] (by decide +kernel)
set_option maxRecDepth 100000 in
theorem ew_ok_220 : ew_Ok 220 ew_cd_220 := ew_Ok_of 220 ew_cd_220 [[], [], [], [], [], [], [], [], [], [], [], [], [], []] (by decide +kernel)
set_option maxRecDepth 100000 in
theorem ew_ok_221 : ew_Ok 221 ew_cd_221 := ew_Ok_of 221 ew_cd_221 [[], [1238, 1240, 37, 48], [], [1249], [1250], [927, 928, 48], [], [], [], [], [], [], [], [], [], [], [], [1238, 1240, 37, 48], [], [1249], [1250], [927, 928, 48], [], [], [], [], [], [1238, 1240, 37, 48], [], [], [], [], [], [], [845], [], [], [845], [], [], [], []] (by decide +kernel)
set_option maxRecDepth 100000 in
theorem ew_ok_222 : ew_Ok 222 ew_cd_222 := ew_Ok_of 222 ew_cd_222 [[], [1238, 1240, 37, 48], [], [], [], [], [], [], [845], [], [], [845], [], []] (by decide +kernel)
set_option maxRecDepth 100000 in
theorem ew_ok_223 : ew_Ok 223 ew_cd_223 := ew_Ok_of 223 ew_cd_223 [[], [846], [], [], [], [847], [], [830], [1259, 996, 997, 48], [], [], [], [], [], [], [], [], [847], [951, 953, 12, 48], [], [], [], [829], [], [847], [1259, 996, 997, 48], [], [], [], [], [], [], [], [], [], [847], [1260, 1000, 1001, 48], [], [], [], [], [], [], [], [], [847], [1260, 1000, 1001, 48], [], [], [], [], [], [], [], [846], [1242, 1243, 48], [], [848], [], [847], [], [849], [1261, 923, 924, 48], [], [], [], [], []] (by decide +kernel)
set_option maxRecDepth 100000 in
theorem ew_ok_224 : ew_Ok 224 ew_cd_224 := ew_Ok_of 224 ew_cd_224 [[], [1266, 1267, 48], [], [], [], [], [], [1109], [926], [927, 928, 48], [], [], [], [], [], [], [], [], [], [], [], [], [], [], [], [850], [], [], [], [], [851], [], [], [], [], [], [], [], [], [], [], [], [], [], [852], [], [], [], [], [], [], [], [], [], [], []] (by decide +kernel)
set_option maxRecDepth 100000 in
theorem ew_ok_225 : ew_Ok 225 ew_cd_225 := ew_Ok_of 225 ew_cd_225 [[], [], [], [1045], [927, 928, 48], []] (by decide +kernel)
set_option maxRecDepth 100000 in
theorem ew_ok_226 : ew_Ok 226 ew_cd_226 := ew_Ok_of 226 ew_cd_226 [[], [1266, 1267, 48], [], [], [], [], [], [], [951, 953, 12, 48], [], [], [], [], [850], [], [], [], [], [], [], [], [], [], [851], [], [], [], [], [], [927, 928, 48], [], [], [], [], [], [], [822], [], [828], [], [], [], [], [850], [], [], [1273, 1274, 48], [], [], [], [], [852], [], [], [], [], [], [], [], [], [], [], [828], [], [], [], [], []] (by decide +kernel)
set_option maxRecDepth 100000 in
theorem ew_ok_227 : ew_Ok 227 ew_cd_227 := ew_Ok_of 227 ew_cd_227 [[], [], [], [], [], [], [], [], [], [], [], [], [], [], [], [], [], [], [], [], []] (by decide +kernel)
set_option maxRecDepth 100000 in
theorem ew_ok_228 : ew_Ok 228 ew_cd_228 := ew_Ok_of 228 ew_cd_228 [[], [1266, 1267, 48], [], [], [], [], [1045], [927, 928, 48], [], [], [], [], [850], [], [], [], [], [], [], [], [], [], [851], [], [], [], [], [], [927, 928, 48], [], [], [], [], [852], [], [], [], [], [], [], [], [], [], [], [], [], [], [], [822], [], [], [], [], [], [], [], [823], [], [], [], [], [], [], [], [824], [], [], [], [], [825], [], [], []] (by decide +kernel)
set_option maxRecDepth 100000 in
theorem ew_ok_229 : ew_Ok 229 ew_cd_229 := ew_Ok_of 229 ew_cd_229 [[], [1266, 1267, 48], [], [], [1266, 1267, 48], [], [], [], [], [850], [], [], [], [], [], [], [850], [], [], [850], [], [], [], [], [851], [], [], [851], [], [], [], [], [], [], [], [], [], [852], [], [], [], [], [], [], [852], [], [], [], [], [], [], [], [], [], [], [851], [], [], []] (by decide +kernel)
set_option maxRecDepth 100000 in
theorem ew_ok_230 : ew_Ok 230 ew_cd_230 := ew_Ok_of 230 ew_cd_230 [[], [1288, 1289, 48], [], [], [], [], [], [], [], [], [], [], [], [], [], [], [853], [], [], [], [], [], [], [], [], [], [854], [], [], [], [], [], [], [], [], [], [], []] (by decide +kernel)
set_option maxRecDepth 100000 in
theorem ew_ok_231 : ew_Ok 231 ew_cd_231 := ew_Ok_of 231 ew_cd_231 [[], [], [], [933], [927, 928, 48], []] (by decide +kernel)
set_option maxRecDepth 100000 in
theorem ew_ok_232 : ew_Ok 232 ew_cd_232 := ew_Ok_of 232 ew_cd_232 [[], [1288, 1289, 48], [], [], [], [], [853], [], [], [], [], [], [], [], [], [], [853], [], [], [], [], [], [927, 928, 48], [], [], [], [], [854], [], [], [], [], [], [], [], [], []] (by decide +kernel)
set_option maxRecDepth 100000 in
theorem ew_ok_233 : ew_Ok 233 ew_cd_233 := ew_Ok_of 233 ew_cd_233 [[], [1288, 1289, 48], [], [], [], [], [], [853], [], [], [], [], [], [927, 928, 48], [], [], [854], [], [], [], [], [], [], [], [994], []] (by decide +kernel)
set_option maxRecDepth 100000 in
theorem ew_ok_234 : ew_Ok 234 ew_cd_234 := ew_Ok_of 234 ew_cd_234 [[], [1288, 1289, 48], [], [], [], [], [982, 983, 48], [], [], [], [], [853], [], [], [], [], [], [], [], [], [], [], [], [], [], [], [], [1050], [], [], [], [853], [], [], [], [], [], [1013, 1015, 17, 48], [], [], [854], [], [], [], [], [], [], [], [], [], [], [], [], []] (by decide +kernel)
set_option maxRecDepth 100000 in
theorem ew_ok_235 : ew_Ok 235 ew_cd_235 := ew_Ok_of 235 ew_cd_235 [[], [1288, 1289, 48], [], [], [], [], [982, 983, 48], [], [], [], [], [853], [], [], [], [], [], [], [], [], [], [], [], [], [], [], [], [1050], [], [], [], [853], [], [], [], [], [], [1013, 1015, 17, 48], [], [], [854], [], [], [], [], [], [], [], [], [], [], [], [], [], [], [], [], [], [853], [], [], [], [], [], [], []] (by decide +kernel)
set_option maxRecDepth 100000 in
theorem ew_ok_236 : ew_Ok 236 ew_cd_236 := ew_Ok_of 236 ew_cd_236 [[], [], [], [827], [], [], [843], [], [], [844], [], [], [829], [], [], [830], [], [], [], [1003], [1311], [927, 928, 48], [], [], [831], [], [], [], [], [], [], []] (by decide +kernel)
set_option maxRecDepth 100000 in
theorem ew_ok_237_0 : ew_Ok 237 ((ew_cd_237).take 120) := ew_Ok_of 237 _ [[], [], [833], [], [], [], [], [827], [], [], [832], [], [], [], [], [822], [], [828], [], [], [], [], [], [832], [], [], [], [], [], [], [823], [], [828], [], [], [], [], [], [832], [], [], [], [], [], [], [824], [], [828], [], [], [], [], [], [832], [], [], [], [], [], [], [825], [], [828], [], [], [], [], [], [832], [], [], [], [], [], [], [826], [], [828], [], [], [], [], [], [], [], [832], [], [], [827], [], [], [832], [], [], [829], [], [], [832], [], [], [830], [], [], [], [], [], [], [], [832], [], [], [], [], [831], [], [], [], [], [], []] (by decide +kernel)
set_option maxRecDepth 100000 in
theorem ew_ok_237_1 : ew_Ok 237 ((ew_cd_237).drop 120) := ew_Ok_of 237 _ [[827], []] (by decide +kernel)
theorem ew_ok_237 : ew_Ok 237 ew_cd_237 := ew_Ok_cut 120 ew_ok_237_0 (ew_ok_237_1)
set_option maxRecDepth 100000 in
theorem ew_ok_238 : ew_Ok 238 ew_cd_238 := ew_Ok_of 238 ew_cd_238 [[], [833], [], [], [], [], [], [827], [], [], [], [], [832], [], [], [], [], [], [832], [], [], [], [], [], [832], [], [], [], [], [], [], [], [832], [], [], [], [], [], [], [], [832], [], [], [], [], [], [], [], [832], [], [], [], [], [], [], [939, 941, 10, 48], [], [], [], [], [832], [], [], [829], [], [], [832], [], [], [830], [], [], [], [], [], [], [831], [], [], [832], [], [], [], [], [], [], [], [], [827], []] (by decide +kernel)
set_option maxRecDepth 100000 in
theorem ew_ok_239_0 : ew_Ok 239 ((ew_cd_239).take 120) := ew_Ok_of 239 _ [[54, 55, 42], [], [56, 57, 42], [], [816, 817, 48], [], [818, 819, 48], [], [], [], [], [], [], [], [], [], [], [], [], [], [], [], [], [], [], [], [], [], [], [], [], [], [], [], [], [], [], [], [], [], [], [], [], [210, 211, 212, 42], [], [], [], [], [], [], [], [], [], [], [], [], [], [], [], [], [], [], [], [], [], [922, 923, 924, 48], [], [], [], [], [], [], [], [], [], [], [], [], [], [], [262, 263, 264, 42], [], [], [], [], [], [], [], [], [], [], [], [947, 948, 949, 48], [], [], [], [], [], [], [], [], [], [], [], [], [], [], [], [], [], [], [], [274, 275, 276, 42], [], [], [], [], [], [], []] (by decide +kernel)
set_option maxRecDepth 100000 in
theorem ew_ok_239_1 : ew_Ok 239 (((ew_cd_239).drop 120).take 120) := ew_Ok_of 239 _ [[], [], [], [], [], [], [], [], [], [955, 956, 957, 48], [], [], [], [], [305, 306, 307, 42], [], [974, 975, 976, 48], [], [], [], [], [], [], [], [], [], [], [], [], [], [], [313, 314, 315, 42], [], [], [], [], [], [], [], [], [], [], [], [978, 979, 980, 48], [], [], [], [], [], [], [], [], [], [], [], [], [], [], [326, 327, 328, 42], [], [], [], [], [], [], [], [], [], [], [], [986, 987, 988, 48], [], [], [], [], [], [], [], [], [], [], [], [], [], [], [], [335, 336, 337, 42], [], [], [], [], [], [], [], [], [], [], [], [995, 996, 997, 48], [], [], [], [], [], [], [], [], [], [], [], [], [], [], [339, 340, 341, 42], [], [], [], [], [], []] (by decide +kernel)
set_option maxRecDepth 100000 in
theorem ew_ok_239_2 : ew_Ok 239 ((((ew_cd_239).drop 120).drop 120).take 120) := ew_Ok_of 239 _ [[], [], [], [], [], [999, 1000, 1001, 48], [], [], [], [], [], [], [], [], [], [], [], [], [], [], [362, 363, 364, 42], [], [], [], [], [], [], [], [], [], [], [], [1009, 1010, 1011, 48], [], [], [], [], [], [], [], [], [], [], [], [], [], [], [], [], [], [], [], [391, 392, 393, 42], [], [], [], [], [], [], [], [], [], [], [], [], [], [], [], [], [1038, 1039, 1040, 48], [], [], [], [], [], [], [], [], [], [], [], [], [], [], [398, 399, 400, 42], [], [], [], [], [], [], [], [], [], [], [], [1046, 1047, 1048, 48], [], [], [], [], [], [], [], [], [], [], [], [], [], [], [], [], [], [], [], [402, 403, 404, 42], [], [], []] (by decide +kernel)
set_option maxRecDepth 100000 in
theorem ew_ok_239_3 : ew_Ok 239 (((((ew_cd_239).drop 120).drop 120).drop 120).take 120) := ew_Ok_of 239 _ [[], [], [], [], [], [], [], [], [], [], [], [], [], [1051, 1052, 1053, 48], [], [], [], [], [], [], [], [], [], [], [], [], [], [], [], [], [], [], [], [], [], [], [], [], [416, 417, 418, 42], [], [], [], [], [], [], [], [], [], [], [], [], [], [], [], [], [], [], [], [], [], [1063, 1064, 1065, 48], [], [], [], [], [], [], [], [], [], [], [], [], [], [], [431, 432, 433, 42], [], [], [], [], [], [], [], [], [], [], [], [1068, 1069, 1070, 48], [], [], [], [], [], [], [], [], [], [], [], [], [], [], [439, 440, 441, 42], [], [], [], [], [], [], [], [], [], [], [], [1076, 1077, 1078, 48], [], [], [], [], []] (by decide +kernel)
set_option maxRecDepth 100000 in
theorem ew_ok_239_4 : ew_Ok 239 ((((((ew_cd_239).drop 120).drop 120).drop 120).drop 120).take 120) := ew_Ok_of 239 _ [[], [], [], [], [], [], [], [], [], [447, 448, 449, 42], [], [], [], [], [], [], [], [], [], [], [], [1085, 1086, 1087, 48], [], [], [], [], [], [], [], [], [], [451, 452, 453, 42], [], [], [], [], [], [], [1089, 1090, 1091, 48], [], [], [], [], [], [], [], [], [], [], [], [], [], [], [459, 460, 461, 42], [], [], [], [], [], [], [], [], [], [], [], [1097, 1098, 1099, 48], [], [], [], [], [], [], [], [], [], [], [], [], [], [], [], [], [], [], [], [463, 464, 465, 42], [], [], [], [], [], [], [], [], [], [], [], [], [], [], [], [], [1101, 1102, 1103, 48], [], [], [], [], [], [], [], [], [], [], [], [], [], [], [], [472, 473, 474, 42], []] (by decide +kernel)
set_option maxRecDepth 100000 in
theorem ew_ok_239_5 : ew_Ok 239 (((((((ew_cd_239).drop 120).drop 120).drop 120).drop 120).drop 120).take 120) := ew_Ok_of 239 _ [[], [], [], [], [], [], [], [], [], [], [1105, 1106, 1107, 48], [], [], [], [], [], [], [], [], [], [], [], [], [], [], [481, 482, 483, 42], [], [], [], [], [], [], [], [], [], [], [], [1111, 1112, 1113, 48], [], [], [], [], [], [], [], [], [], [], [504, 505, 506, 42], [], [], [], [], [], [], [1121, 1122, 1123, 48], [], [], [], [], [], [], [], [], [], [], [], [], [], [], [514, 515, 516, 42], [], [], [], [], [], [], [], [], [], [], [], [1126, 1127, 1128, 48], [], [], [], [], [], [], [], [], [], [], [], [], [], [], [], [525, 526, 527, 42], [], [], [], [], [], [], [], [], [], [], [], [1141, 1142, 1143, 48], [], [], [], [], [], [], [], [], []] (by decide +kernel)
set_option maxRecDepth 100000 in
theorem ew_ok_239_6 : ew_Ok 239 ((((((((ew_cd_239).drop 120).drop 120).drop 120).drop 120).drop 120).drop 120).take 120) := ew_Ok_of 239 _ [[], [], [], [], [], [], [], [], [], [], [], [], [], [], [], [], [], [], [], [], [538, 539, 540, 42], [], [], [], [], [], [], [], [], [], [], [], [], [], [], [], [], [], [], [], [], [], [], [], [], [], [], [1160, 1161, 1162, 48], [], [], [], [], [], [], [], [], [], [542, 543, 544, 42], [], [], [], [], [], [], [1164, 1165, 1166, 48], [], [], [], [], [], [], [], [], [], [], [555, 556, 557, 42], [], [], [], [], [], [], [1179, 1180, 1181, 48], [], [], [], [], [], [], [], [], [], [], [], [], [], [], [], [], [], [], [], [], [], [], [], [], [], [566, 567, 568, 42], [], [], [], [], [], [], [], [], [], [], []] (by decide +kernel)
set_option maxRecDepth 100000 in
theorem ew_ok_239_7 : ew_Ok 239 (((((((((ew_cd_239).drop 120).drop 120).drop 120).drop 120).drop 120).drop 120).drop 120).take 120) := ew_Ok_of 239 _ [[], [], [], [], [], [], [], [], [], [], [1184, 1185, 1186, 48], [], [], [], [], [], [], [], [], [], [581, 582, 583, 42], [], [], [], [], [], [], [1188, 1189, 1190, 48], [], [], [], [], [], [], [], [], [], [], [], [], [], [], [609, 610, 611, 42], [], [], [], [], [], [], [], [], [], [], [], [1204, 1205, 1206, 48], [], [], [], [], [], [], [], [], [], [], [], [], [], [], [], [], [], [], [], [617, 618, 619, 42], [], [], [], [], [], [], [], [], [], [], [], [], [], [], [], [], [1208, 1209, 1210, 48], [], [], [], [], [], [], [], [], [], [629, 630, 631, 42], [], [], [], [], [], [], [1221, 1222, 1223, 48], [], [], [], [], [637, 638, 639, 42], [], [1226, 1227, 1228, 48], [], [], [], []] (by decide +kernel)
set_option maxRecDepth 100000 in
theorem ew_ok_239_8 : ew_Ok 239 ((((((((((ew_cd_239).drop 120).drop 120).drop 120).drop 120).drop 120).drop 120).drop 120).drop 120).take 120) := ew_Ok_of 239 _ [[], [], [], [], [], [], [], [], [], [], [], [], [], [], [], [701, 702, 703, 42], [], [], [], [], [], [], [], [], [], [], [], [], [], [], [], [], [1262, 1263, 1264, 48], [], [], [], [], [], [], [], [], [], [], [], [], [], [], [], [], [], [], [], [714, 715, 716, 42], [], [], [], [], [], [], [], [], [], [], [], [], [], [], [], [], [1269, 1270, 1271, 48], [], [], [], [], [], [], [], [], [], [], [], [], [], [], [], [], [], [], [], [732, 733, 734, 42], [], [], [], [], [], [], [], [], [], [], [], [], [], [], [], [], [1276, 1277, 1278, 48], [], [], [], [], [], [], [], [], [], [], [], [], []] (by decide +kernel)
set_option maxRecDepth 100000 in
theorem ew_ok_239_9 : ew_Ok 239 (((((((((((ew_cd_239).drop 120).drop 120).drop 120).drop 120).drop 120).drop 120).drop 120).drop 120).drop 120).take 120) := ew_Ok_of 239 _ [[], [740, 741, 742, 42], [], [], [], [], [], [], [], [], [], [], [], [1280, 1281, 1282, 48], [], [], [], [], [], [], [], [], [], [], [], [], [], [], [748, 749, 750, 42], [], [], [], [], [], [], [], [], [], [], [], [1284, 1285, 1286, 48], [], [], [], [], [], [], [], [], [], [], [], [], [], [], [], [], [], [], [], [], [], [], [], [], [], [], [], [], [1320], [], [], [760, 761, 762, 42], [], [], [], [], [], [], [], [], [], [], [], [], [], [], [], [], [], [], [], [], [], [], [], [], [], [1320], [], [], [1291, 1292, 1293, 48], [], [], [], [], [], [], [], [], [], [], [], [], [], [], [777, 778, 779, 42], [], [], []] (by decide +kernel)
set_option maxRecDepth 100000 in
theorem ew_ok_239_10 : ew_Ok 239 (((((((((((ew_cd_239).drop 120).drop 120).drop 120).drop 120).drop 120).drop 120).drop 120).drop 120).drop 120).drop 120) := ew_Ok_of 239 _ [[], [], [], [], [], [], [], [], [1295, 1296, 1297, 48], [], [], [], [], [], [], [], [], [], [], [], [], [], [], [], [786, 787, 788, 42], [], [], [], [], [], [], [], [], [], [], [], [1299, 1300, 1301, 48], [], [], [], [], [], [], [], [], [], [], [], [], [], [], [790, 791, 792, 42], [], [], [], [], [], [], [], [], [], [], [], [1303, 1304, 1305, 48], [], [], [], [], [], [], [], [], [], [794, 795, 796, 42], [], [], [], [], [], [], [1307, 1308, 1309, 48], [], [], [], [], [798, 799, 800, 42], [], [1312, 1313, 1314, 48], [], [], [], [], [812, 813, 814, 42], [], [1316, 1317, 1318, 48], [], [], [], [], [], [], []] (by decide +kernel)
theorem ew_ok_239 : ew_Ok 239 ew_cd_239 := ew_Ok_cut 120 ew_ok_239_0 (ew_Ok_cut 120 ew_ok_239_1 (ew_Ok_cut 120 ew_ok_239_2 (ew_Ok_cut 120 ew_ok_239_3 (ew_Ok_cut 120 ew_ok_239_4 (ew_Ok_cut 120 ew_ok_239_5 (ew_Ok_cut 120 ew_ok_239_6 (ew_Ok_cut 120 ew_ok_239_7 (ew_Ok_cut 120 ew_ok_239_8 (ew_Ok_cut 120 ew_ok_239_9 (ew_ok_239_10))))))))))
def ew_allp (P : Nat → List ew_Ent → Prop) : Nat → List (List ew_Ent) → Prop
  | _, [] => True
  | i, l :: ls => P i l ∧ ew_allp P (i + 1) ls
theorem ew_allp_get {P : Nat → List ew_Ent → Prop} (h0 : ∀ i, P i []) : ∀ (ls : List (List ew_Ent)) (i : Nat), ew_allp P i ls → ∀ j, P (i + j) (ls.getD j [])
  | [], i, _, j => by simpa using h0 _
  | l :: ls, i, h, 0 => by simpa using h.1
  | l :: ls, i, h, j + 1 => by
    have := ew_allp_get h0 ls (i + 1) h.2 j
    rw [show i + (j + 1) = i + 1 + j by omega]
    simpa using this
set_option maxRecDepth 100000 in
theorem ew_ok_list : ew_allp ew_Ok 0 ew_codL := ⟨ew_ok_0, ew_ok_1, ew_ok_2, ew_ok_3, ew_ok_4, ew_ok_5, ew_ok_6, ew_ok_7, ew_ok_8, ew_ok_9, ew_ok_10, ew_ok_11, ew_ok_12, ew_ok_13, ew_ok_14, ew_ok_15, ew_ok_16, ew_ok_17, ew_ok_18, ew_ok_19, ew_ok_20, ew_ok_21, ew_ok_22, ew_ok_23, ew_ok_24, ew_ok_25, ew_ok_26, ew_ok_27, ew_ok_28, ew_ok_29, ew_ok_30, ew_ok_31, ew_ok_32, ew_ok_33, ew_ok_34, ew_ok_35, ew_ok_36, ew_ok_37, ew_ok_38, ew_ok_39, ew_ok_40, ew_ok_41, ew_ok_42, ew_ok_43, ew_ok_44, ew_ok_45, ew_ok_46, ew_ok_47, ew_ok_48, ew_ok_49, ew_ok_50, ew_ok_51, ew_ok_52, ew_ok_53, ew_ok_54, ew_ok_55, ew_ok_56, ew_ok_57, ew_ok_58, ew_ok_59, ew_ok_60, ew_ok_61, ew_ok_62, ew_ok_63, ew_ok_64, ew_ok_65, ew_ok_66, ew_ok_67, ew_ok_68, ew_ok_69, ew_ok_70, ew_ok_71, ew_ok_72, ew_ok_73, ew_ok_74, ew_ok_75, ew_ok_76, ew_ok_77, ew_ok_78, ew_ok_79, ew_ok_80, ew_ok_81, ew_ok_82, ew_ok_83, ew_ok_84, ew_ok_85, ew_ok_86, ew_ok_87, ew_ok_88, ew_ok_89, ew_ok_90, ew_ok_91, ew_ok_92, ew_ok_93, ew_ok_94, ew_ok_95, ew_ok_96, ew_ok_97, ew_ok_98, ew_ok_99, ew_ok_100, ew_ok_101, ew_ok_102, ew_ok_103, ew_ok_104, ew_ok_105, ew_ok_106, ew_ok_107, ew_ok_108, ew_ok_109, ew_ok_110, ew_ok_111, ew_ok_112, ew_ok_113, ew_ok_114, ew_ok_115, ew_ok_116, ew_ok_117, ew_ok_118, ew_ok_119, ew_ok_120, ew_ok_121, ew_ok_122, ew_ok_123, ew_ok_124, ew_ok_125, ew_ok_126, ew_ok_127, ew_ok_128, ew_ok_129, ew_ok_130, ew_ok_131, ew_ok_132, ew_ok_133, ew_ok_134, ew_ok_135, ew_ok_136, ew_ok_137, ew_ok_138, ew_ok_139, ew_ok_140, ew_ok_141, ew_ok_142, ew_ok_143, ew_ok_144, ew_ok_145, ew_ok_146, ew_ok_147, ew_ok_148, ew_ok_149, ew_ok_150, ew_ok_151, ew_ok_152, ew_ok_153, ew_ok_154, ew_ok_155, ew_ok_156, ew_ok_157, ew_ok_158, ew_ok_159, ew_ok_160, ew_ok_161, ew_ok_162, ew_ok_163, ew_ok_164, ew_ok_165, ew_ok_166, ew_ok_167, ew_ok_168, ew_ok_169, ew_ok_170, ew_ok_171, ew_ok_172, ew_ok_173, ew_ok_174, ew_ok_175, ew_ok_176, ew_ok_177, ew_ok_178, ew_ok_179, ew_ok_180, ew_ok_181, ew_ok_182, ew_ok_183, ew_ok_184, ew_ok_185, ew_ok_186, ew_ok_187, ew_ok_188, ew_ok_189, ew_ok_190, ew_ok_191, ew_ok_192, ew_ok_193, ew_ok_194, ew_ok_195, ew_ok_196, ew_ok_197, ew_ok_198, ew_ok_199, ew_ok_200, ew_ok_201, ew_ok_202, ew_ok_203, ew_ok_204, ew_ok_205, ew_ok_206, ew_ok_207, ew_ok_208, ew_ok_209, ew_ok_210, ew_ok_211, ew_ok_212, ew_ok_213, ew_ok_214, ew_ok_215, ew_ok_216, ew_ok_217, ew_ok_218, ew_ok_219, ew_ok_220, ew_ok_221, ew_ok_222, ew_ok_223, ew_ok_224, ew_ok_225, ew_ok_226, ew_ok_227, ew_ok_228, ew_ok_229, ew_ok_230, ew_ok_231, ew_ok_232, ew_ok_233, ew_ok_234, ew_ok_235, ew_ok_236, ew_ok_237, ew_ok_238, ew_ok_239, trivial⟩
theorem ew_ok_all (k : Nat) : ew_Ok k (ew_cod k) := by
  have h := ew_allp_get (P := ew_Ok) (fun i e h => by cases h) ew_codL 0 ew_ok_list k
  rw [Nat.zero_add] at h
  exact h
