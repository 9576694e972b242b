set_option maxRecDepth 20000 in
theorem ggL_law_X7_init : GoodIn wsL_law wsX7_init := goodIn_r _ [8, 9, 10, 11, 12, 13, 14, 15, 16, 17, 18, 19, 20, 21, 22, 23, 24, 25, 26, 27, 28, 29, 30, 31, 32, 33, 34, 35, 36, 37, 38, 39, 40, 41, 42, 43, 44, 45, 46, 47, 48, 49, 50, 51, 52, 53, 54, 55, 56, 57, 58, 59, 60, 61, 62, 63, 64, 65, 66, 67, 68, 69, 70, 71, 749, 750, 751, 752, 753, 754, 755, 721, 722, 723, 724, 725, 726, 727, 756, 757, 758, 759, 760, 761, 762, 763] (by decide +kernel) (by decide +kernel)
set_option maxRecDepth 20000 in
theorem gL_law_X7_init : GoodIn wsL_law (wsX7_init) := ggL_law_X7_init
set_option maxRecDepth 20000 in
theorem ggL_law_X8_init : GoodIn wsL_law wsX8_init := goodIn_r _ [74, 75, 10, 11, 44, 76, 77, 78, 79, 80, 81, 82, 83, 49, 84, 85, 86, 87, 88, 728, 729, 730, 731, 732, 733, 734, 735, 736, 737, 738, 739, 740, 741, 742, 743, 744, 745, 746, 747, 748] (by decide +kernel) (by decide +kernel)
set_option maxRecDepth 20000 in
theorem gL_law_X8_init : GoodIn wsL_law (wsX8_init) := ggL_law_X8_init
set_option maxRecDepth 20000 in
theorem ggL_law_X7_town : GoodIn wsL_law wsX7_town := goodIn_r _ [92, 30, 29, 17, 15, 25, 93, 94, 2, 95, 96, 97, 98, 99, 100, 101, 28, 102, 103, 104, 105, 106, 107, 71, 108, 109, 110, 111, 112, 113, 114, 115, 116, 117, 118, 119, 14, 120, 121, 122, 123, 124, 125, 70, 126, 127, 128, 129, 130, 131, 132, 133, 134, 135, 136, 137, 138, 139, 140, 141, 142, 143, 144, 145, 146, 147, 148, 149, 150, 45, 151, 152, 153, 154, 47, 155, 156, 157, 158, 159, 160, 161, 24, 162, 163, 721, 722, 723, 724, 725, 726, 727, 749, 750, 751, 752, 753, 754, 755, 761, 762, 763, 757, 758, 759, 760] (by decide +kernel) (by decide +kernel)
set_option maxRecDepth 20000 in
theorem gL_law_X7_town : GoodIn wsL_law (wsV RL 13 RX7 yX7_town wsX7_town) := goodIn_app (goodIn_of _ (by decide +kernel)) ggL_law_X7_town
set_option maxRecDepth 20000 in
theorem ggL_law_X8_town : GoodIn wsL_law wsX8_town := goodIn_r _ [167, 168, 169, 170, 171, 172, 173, 79, 81, 80, 82, 174, 175, 176, 5, 177, 178, 179, 180, 181, 182, 183, 184, 185, 186, 187, 76, 77, 188, 189, 190, 191, 192, 193, 194, 195, 196, 197, 198, 199, 78, 200, 201, 202, 203, 204, 205, 206, 207, 208, 209, 210, 728, 729, 730, 731, 732, 733, 734, 735, 736, 737, 738, 739, 740, 741, 742, 743, 744, 745, 746, 747, 748] (by decide +kernel) (by decide +kernel)
set_option maxRecDepth 20000 in
theorem gL_law_X8_town : GoodIn wsL_law (wsV RL 17 RX8 yX8_town wsX8_town) := goodIn_app (goodIn_of _ (by decide +kernel)) ggL_law_X8_town
set_option maxRecDepth 20000 in
theorem ggL_law_X7_ofPerson : GoodIn wsL_law wsX7_ofPerson := goodIn_r _ [214, 15, 215, 216, 217, 2, 218, 219, 220, 221, 14, 222, 121, 47, 223, 224, 225, 226, 227, 228, 229, 230, 48, 231, 232, 233, 234, 235, 236, 237, 238, 43, 45, 239, 240, 241, 242, 243, 42, 244, 245, 246, 247, 248, 36, 249, 250, 39, 251, 252, 253, 254, 255, 256, 257, 258, 259, 260, 261, 262, 263, 264, 265, 266, 267, 268, 269, 270, 721, 722, 723, 724, 725, 726, 727, 749, 750, 751, 752, 753, 754, 755] (by decide +kernel) (by decide +kernel)
set_option maxRecDepth 20000 in
theorem gL_law_X7_ofPerson : GoodIn wsL_law (wsV RL 18 RX7 yX7_ofPerson wsX7_ofPerson) := goodIn_app (goodIn_of _ (by decide +kernel)) ggL_law_X7_ofPerson
set_option maxRecDepth 20000 in
theorem ggL_law_X8_ofPerson : GoodIn wsL_law wsX8_ofPerson := goodIn_r _ [274, 79, 275, 276, 277, 5, 278, 171, 279, 280, 281, 282, 80, 208, 209, 210, 283, 284, 285, 286, 287, 288, 289, 290, 291, 292, 293, 294, 295, 296, 297, 298, 299, 300, 301, 302, 173, 728, 729, 730, 731, 732, 733, 734, 735, 736, 737, 738, 739, 740, 741, 742, 743, 744, 745, 746, 747, 748] (by decide +kernel) (by decide +kernel)
set_option maxRecDepth 20000 in
theorem gL_law_X8_ofPerson : GoodIn wsL_law (wsV RL 22 RX8 yX8_ofPerson wsX8_ofPerson) := goodIn_app (goodIn_of _ (by decide +kernel)) ggL_law_X8_ofPerson
set_option maxRecDepth 20000 in
theorem ggL_law_X7_owe : GoodIn wsL_law wsX7_owe := goodIn_r _ [306, 15, 215, 216, 217, 2, 218, 96, 97, 98, 721, 722, 723, 724, 725, 726, 727, 749, 750, 751, 752, 753, 754, 755] (by decide +kernel) (by decide +kernel)
set_option maxRecDepth 20000 in
theorem gL_law_X7_owe : GoodIn wsL_law (wsV RL 23 RX7 yX7_owe wsX7_owe) := goodIn_app (goodIn_of _ (by decide +kernel)) ggL_law_X7_owe
set_option maxRecDepth 20000 in
theorem ggL_law_X8_owe : GoodIn wsL_law wsX8_owe := goodIn_r _ [310, 80, 311, 312, 313, 5, 314, 275, 276, 277, 278, 171, 178, 179, 180, 208, 209, 210, 728, 729, 730, 731, 732, 733, 734, 735, 736, 737, 738, 739, 740, 741, 742, 743, 744, 745, 746, 747, 748] (by decide +kernel) (by decide +kernel)
set_option maxRecDepth 20000 in
theorem gL_law_X8_owe : GoodIn wsL_law (wsV RL 27 RX8 yX8_owe wsX8_owe) := goodIn_app (goodIn_of _ (by decide +kernel)) ggL_law_X8_owe
set_option maxRecDepth 20000 in
theorem ggL_law_X7_owes : GoodIn wsL_law wsX7_owes := goodIn_r _ [318, 15, 215, 216, 217, 2, 218, 721, 722, 723, 724, 725, 726, 727, 749, 750, 751, 752, 753, 754, 755] (by decide +kernel) (by decide +kernel)
set_option maxRecDepth 20000 in
theorem gL_law_X7_owes : GoodIn wsL_law (wsV RL 28 RX7 yX7_owes wsX7_owes) := goodIn_app (goodIn_of _ (by decide +kernel)) ggL_law_X7_owes
set_option maxRecDepth 20000 in
theorem ggL_law_X8_owes : GoodIn wsL_law wsX8_owes := goodIn_r _ [322, 80, 275, 276, 277, 5, 278, 171, 208, 209, 210, 728, 729, 730, 731, 732, 733, 734, 735, 736, 737, 738, 739, 740, 741, 742, 743, 744, 745, 746, 747, 748] (by decide +kernel) (by decide +kernel)
set_option maxRecDepth 20000 in
theorem gL_law_X8_owes : GoodIn wsL_law (wsV RL 31 RX8 yX8_owes wsX8_owes) := goodIn_app (goodIn_of _ (by decide +kernel)) ggL_law_X8_owes
set_option maxRecDepth 20000 in
theorem ggL_law_X7_weight : GoodIn wsL_law wsX7_weight := goodIn_r _ [326, 15, 215, 216, 217, 2, 218, 327, 236, 237, 14, 238, 43, 45, 47, 239, 240, 241, 242, 243, 42, 244, 245, 246, 247, 248, 36, 249, 250, 39, 251, 721, 722, 723, 724, 725, 726, 727, 749, 750, 751, 752, 753, 754, 755] (by decide +kernel) (by decide +kernel)
set_option maxRecDepth 20000 in
theorem gL_law_X7_weight : GoodIn wsL_law (wsV RL 32 RX7 yX7_weight wsX7_weight) := goodIn_app (goodIn_of _ (by decide +kernel)) ggL_law_X7_weight
set_option maxRecDepth 20000 in
theorem ggL_law_X8_weight : GoodIn wsL_law wsX8_weight := goodIn_r _ [331, 275, 276, 277, 5, 278, 171, 291, 292, 293, 294, 80, 79, 208, 209, 210, 728, 729, 730, 731, 732, 733, 734, 735, 736, 737, 738, 739, 740, 741, 742, 743, 744, 745, 746, 747, 748] (by decide +kernel) (by decide +kernel)
set_option maxRecDepth 20000 in
theorem gL_law_X8_weight : GoodIn wsL_law (wsV RL 35 RX8 yX8_weight wsX8_weight) := goodIn_app (goodIn_of _ (by decide +kernel)) ggL_law_X8_weight
set_option maxRecDepth 20000 in
theorem ggL_law_X7_bell : GoodIn wsL_law wsX7_bell := goodIn_r _ [335, 15, 96, 97, 2, 98, 336, 337, 338, 339, 721, 722, 723, 724, 725, 726, 727, 749, 750, 751, 752, 753, 754, 755] (by decide +kernel) (by decide +kernel)
set_option maxRecDepth 20000 in
theorem gL_law_X7_bell : GoodIn wsL_law (wsV RL 36 RX7 yX7_bell wsX7_bell) := goodIn_app (goodIn_of _ (by decide +kernel)) ggL_law_X7_bell
set_option maxRecDepth 20000 in
theorem ggL_law_X8_bell : GoodIn wsL_law wsX8_bell := goodIn_r _ [343, 171, 173, 178, 179, 5, 180, 728, 729, 730, 731, 732, 733, 734, 735, 736, 737, 738, 739, 740, 741, 742, 743, 744, 745, 746, 747, 748] (by decide +kernel) (by decide +kernel)
set_option maxRecDepth 20000 in
theorem gL_law_X8_bell : GoodIn wsL_law (wsV RL 40 RX8 yX8_bell wsX8_bell) := goodIn_app (goodIn_of _ (by decide +kernel)) ggL_law_X8_bell
set_option maxRecDepth 20000 in
theorem ggL_law_X7_lighter : GoodIn wsL_law wsX7_lighter := goodIn_r _ [347, 15, 215, 216, 217, 2, 218, 348, 232, 233, 14, 234, 121, 235, 236, 237, 238, 43, 45, 47, 239, 240, 241, 242, 243, 42, 244, 245, 246, 247, 248, 36, 249, 250, 39, 251, 721, 722, 723, 724, 725, 726, 727, 749, 750, 751, 752, 753, 754, 755] (by decide +kernel) (by decide +kernel)
set_option maxRecDepth 20000 in
theorem gL_law_X7_lighter : GoodIn wsL_law (wsV RL 41 RX7 yX7_lighter wsX7_lighter) := goodIn_app (goodIn_of _ (by decide +kernel)) ggL_law_X7_lighter
set_option maxRecDepth 20000 in
theorem ggL_law_X8_lighter : GoodIn wsL_law wsX8_lighter := goodIn_r _ [352, 275, 276, 277, 5, 278, 171, 287, 288, 289, 290, 291, 292, 293, 294, 80, 79, 208, 209, 210, 728, 729, 730, 731, 732, 733, 734, 735, 736, 737, 738, 739, 740, 741, 742, 743, 744, 745, 746, 747, 748] (by decide +kernel) (by decide +kernel)
set_option maxRecDepth 20000 in
theorem gL_law_X8_lighter : GoodIn wsL_law (wsV RL 44 RX8 yX8_lighter wsX8_lighter) := goodIn_app (goodIn_of _ (by decide +kernel)) ggL_law_X8_lighter
