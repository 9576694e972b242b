set_option maxRecDepth 20000 in
theorem ggL_law_X7_back : GoodIn wsL_law wsX7_back := goodIn_r _ [472, 25, 96, 97, 2, 98, 159, 160, 161, 24, 162, 163, 721, 722, 723, 724, 725, 726, 727, 757, 758, 759, 760] (by decide +kernel) (by decide +kernel)
set_option maxRecDepth 20000 in
theorem gL_law_X7_back : GoodIn wsL_law (wsV RL 79 RX7 yX7_back wsX7_back) := goodIn_app (goodIn_of _ (by decide +kernel)) ggL_law_X7_back
set_option maxRecDepth 20000 in
theorem ggL_law_X8_back : GoodIn wsL_law wsX8_back := goodIn_r _ [476, 174, 178, 179, 5, 180, 728, 729, 730, 731, 732, 733, 734, 735, 736, 737, 738, 739, 740, 741, 742, 743, 744, 745, 746, 747, 748] (by decide +kernel) (by decide +kernel)
set_option maxRecDepth 20000 in
theorem gL_law_X8_back : GoodIn wsL_law (wsV RL 82 RX8 yX8_back wsX8_back) := goodIn_app (goodIn_of _ (by decide +kernel)) ggL_law_X8_back
set_option maxRecDepth 20000 in
theorem ggL_law_X7_debts : GoodIn wsL_law wsX7_debts := goodIn_r _ [480, 16, 15, 25, 215, 216, 217, 2, 218, 155, 156, 157, 14, 158, 121, 142, 45, 47, 481, 482, 483, 24, 484, 485, 486, 487, 488, 163, 64, 489, 265, 266, 267, 490, 358, 359, 360, 50, 48, 264, 268, 269, 270, 227, 228, 229, 230, 231, 232, 233, 234, 235, 236, 237, 238, 43, 239, 240, 241, 242, 243, 42, 244, 245, 246, 247, 248, 36, 249, 250, 39, 251, 252, 253, 254, 255, 261, 262, 263, 491, 492, 493, 494, 65, 66, 495, 721, 722, 723, 724, 725, 726, 727, 749, 750, 751, 752, 753, 754, 755, 757, 758, 759, 760] (by decide +kernel) (by decide +kernel)
set_option maxRecDepth 20000 in
theorem gL_law_X7_debts : GoodIn wsL_law (wsV RL 83 RX7 yX7_debts wsX7_debts) := goodIn_app (goodIn_of _ (by decide +kernel)) ggL_law_X7_debts
set_option maxRecDepth 20000 in
theorem ggL_law_X8_debts : GoodIn wsL_law wsX8_debts := goodIn_r _ [499, 80, 311, 312, 313, 5, 314, 275, 276, 277, 278, 171, 208, 209, 210, 500, 501, 502, 503, 174, 86, 87, 88, 385, 386, 387, 388, 85, 287, 288, 289, 290, 291, 292, 293, 294, 79, 369, 370, 371, 372, 83, 84, 299, 300, 301, 302, 173, 283, 284, 285, 286, 295, 296, 297, 298, 389, 390, 391, 392, 728, 729, 730, 731, 732, 733, 734, 735, 736, 737, 738, 739, 740, 741, 742, 743, 744, 745, 746, 747, 748] (by decide +kernel) (by decide +kernel)
set_option maxRecDepth 20000 in
theorem gL_law_X8_debts : GoodIn wsL_law (wsV RL 86 RX8 yX8_debts wsX8_debts) := goodIn_app (goodIn_of _ (by decide +kernel)) ggL_law_X8_debts
set_option maxRecDepth 20000 in
theorem ggL_law_X7_kinds : GoodIn wsL_law wsX7_kinds := goodIn_r _ [507, 16, 15, 25, 215, 216, 217, 2, 218, 155, 156, 157, 14, 158, 121, 142, 45, 47, 481, 482, 483, 24, 484, 485, 486, 487, 488, 163, 64, 489, 265, 266, 267, 490, 358, 359, 360, 50, 48, 264, 268, 269, 270, 227, 228, 229, 230, 231, 232, 233, 234, 235, 236, 237, 238, 43, 239, 240, 241, 242, 243, 42, 244, 245, 246, 247, 248, 36, 249, 250, 39, 251, 252, 253, 254, 255, 261, 262, 263, 491, 492, 493, 494, 65, 66, 495, 721, 722, 723, 724, 725, 726, 727, 749, 750, 751, 752, 753, 754, 755, 757, 758, 759, 760] (by decide +kernel) (by decide +kernel)
set_option maxRecDepth 20000 in
theorem gL_law_X7_kinds : GoodIn wsL_law (wsV RL 87 RX7 yX7_kinds wsX7_kinds) := goodIn_app (goodIn_of _ (by decide +kernel)) ggL_law_X7_kinds
set_option maxRecDepth 20000 in
theorem ggL_law_X8_kinds : GoodIn wsL_law wsX8_kinds := goodIn_r _ [511, 79, 275, 276, 277, 5, 278, 171, 500, 501, 502, 503, 174, 86, 87, 88, 385, 386, 387, 388, 85, 80, 287, 288, 289, 290, 291, 292, 293, 294, 208, 209, 210, 369, 370, 371, 372, 83, 84, 299, 300, 301, 302, 173, 283, 284, 285, 286, 295, 296, 297, 298, 389, 390, 391, 392, 728, 729, 730, 731, 732, 733, 734, 735, 736, 737, 738, 739, 740, 741, 742, 743, 744, 745, 746, 747, 748] (by decide +kernel) (by decide +kernel)
set_option maxRecDepth 20000 in
theorem gL_law_X8_kinds : GoodIn wsL_law (wsV RL 90 RX8 yX8_kinds wsX8_kinds) := goodIn_app (goodIn_of _ (by decide +kernel)) ggL_law_X8_kinds
set_option maxRecDepth 20000 in
theorem ggL_law_X7_bells : GoodIn wsL_law wsX7_bells := goodIn_r _ [515, 16, 15, 25, 336, 337, 338, 2, 339, 155, 156, 157, 14, 158, 121, 142, 45, 47, 481, 482, 483, 24, 484, 485, 486, 487, 488, 163, 64, 489, 265, 266, 267, 490, 358, 359, 360, 50, 48, 264, 268, 269, 270, 227, 228, 229, 230, 231, 232, 233, 234, 235, 236, 237, 238, 43, 239, 240, 241, 242, 243, 42, 244, 245, 246, 247, 248, 36, 249, 250, 39, 251, 252, 253, 254, 255, 261, 262, 263, 491, 492, 493, 494, 65, 66, 495, 721, 722, 723, 724, 725, 726, 727, 749, 750, 751, 752, 753, 754, 755, 757, 758, 759, 760] (by decide +kernel) (by decide +kernel)
set_option maxRecDepth 20000 in
theorem gL_law_X7_bells : GoodIn wsL_law (wsV RL 91 RX7 yX7_bells wsX7_bells) := goodIn_app (goodIn_of _ (by decide +kernel)) ggL_law_X7_bells
set_option maxRecDepth 20000 in
theorem ggL_law_X8_bells : GoodIn wsL_law wsX8_bells := goodIn_r _ [519, 171, 173, 500, 501, 502, 5, 503, 174, 86, 87, 88, 385, 386, 387, 388, 85, 80, 287, 288, 289, 290, 291, 292, 293, 294, 79, 208, 209, 210, 369, 370, 371, 372, 83, 84, 299, 300, 301, 302, 283, 284, 285, 286, 295, 296, 297, 298, 389, 390, 391, 392, 728, 729, 730, 731, 732, 733, 734, 735, 736, 737, 738, 739, 740, 741, 742, 743, 744, 745, 746, 747, 748] (by decide +kernel) (by decide +kernel)
set_option maxRecDepth 20000 in
theorem gL_law_X8_bells : GoodIn wsL_law (wsV RL 94 RX8 yX8_bells wsX8_bells) := goodIn_app (goodIn_of _ (by decide +kernel)) ggL_law_X8_bells
set_option maxRecDepth 20000 in
theorem ggL_law_X7_odds : GoodIn wsL_law wsX7_odds := goodIn_r _ [523, 524, 15, 215, 216, 217, 2, 218, 96, 97, 98, 525, 526, 527, 14, 528, 121, 47, 348, 232, 233, 234, 235, 236, 237, 238, 43, 45, 239, 240, 241, 242, 243, 42, 244, 245, 246, 247, 248, 36, 249, 250, 39, 251, 721, 722, 723, 724, 725, 726, 727, 749, 750, 751, 752, 753, 754, 755] (by decide +kernel) (by decide +kernel)
set_option maxRecDepth 20000 in
theorem gL_law_X7_odds : GoodIn wsL_law (wsV RL 95 RX7 yX7_odds wsX7_odds) := goodIn_app (goodIn_of _ (by decide +kernel)) ggL_law_X7_odds
set_option maxRecDepth 20000 in
theorem ggL_law_X8_odds : GoodIn wsL_law wsX8_odds := goodIn_r _ [532, 533, 171, 80, 85, 275, 276, 277, 5, 278, 178, 179, 180, 208, 209, 210, 385, 386, 387, 388, 287, 288, 289, 290, 291, 292, 293, 294, 79, 389, 390, 391, 392, 534, 535, 536, 728, 729, 730, 731, 732, 733, 734, 735, 736, 737, 738, 739, 740, 741, 742, 743, 744, 745, 746, 747, 748] (by decide +kernel) (by decide +kernel)
set_option maxRecDepth 20000 in
theorem gL_law_X8_odds : GoodIn wsL_law (wsV RL 99 RX8 yX8_odds wsX8_odds) := goodIn_app (goodIn_of _ (by decide +kernel)) ggL_law_X8_odds
set_option maxRecDepth 20000 in
theorem ggL_law_X7_sheet : GoodIn wsL_law wsX7_sheet := goodIn_r _ [540, 30, 29, 93, 94, 2, 95, 96, 97, 98, 108, 109, 110, 111, 541, 542, 543, 28, 544, 103, 545, 269, 266, 270, 546, 265, 267, 71, 70, 721, 722, 723, 724, 725, 726, 727, 761, 762, 763] (by decide +kernel) (by decide +kernel)
set_option maxRecDepth 20000 in
theorem gL_law_X7_sheet : GoodIn wsL_law (wsV RL 100 RX7 yX7_sheet wsX7_sheet) := goodIn_app (goodIn_of _ (by decide +kernel)) ggL_law_X7_sheet
set_option maxRecDepth 20000 in
theorem ggL_law_X8_sheet : GoodIn wsL_law wsX8_sheet := goodIn_r _ [550, 168, 76, 77, 78, 175, 176, 5, 177, 178, 179, 180, 181, 182, 183, 188, 189, 190, 191, 728, 729, 730, 731, 732, 733, 734, 735, 736, 737, 738, 739, 740, 741, 742, 743, 744, 745, 746, 747, 748] (by decide +kernel) (by decide +kernel)
set_option maxRecDepth 20000 in
theorem gL_law_X8_sheet : GoodIn wsL_law (wsV RL 103 RX8 yX8_sheet wsX8_sheet) := goodIn_app (goodIn_of _ (by decide +kernel)) ggL_law_X8_sheet
set_option maxRecDepth 20000 in
theorem ggL_law_X7_lose : GoodIn wsL_law wsX7_lose := goodIn_r _ [554, 29, 93, 94, 2, 95, 112, 105, 106, 28, 107, 71, 555, 556, 557, 558, 721, 722, 723, 724, 725, 726, 727, 761, 762, 763] (by decide +kernel) (by decide +kernel)
set_option maxRecDepth 20000 in
theorem gL_law_X7_lose : GoodIn wsL_law (wsV RL 104 RX7 yX7_lose wsX7_lose) := goodIn_app (goodIn_of _ (by decide +kernel)) ggL_law_X7_lose
set_option maxRecDepth 20000 in
theorem ggL_law_X8_lose : GoodIn wsL_law wsX8_lose := goodIn_r _ [562, 76, 175, 176, 5, 177, 178, 179, 180, 728, 729, 730, 731, 732, 733, 734, 735, 736, 737, 738, 739, 740, 741, 742, 743, 744, 745, 746, 747, 748] (by decide +kernel) (by decide +kernel)
set_option maxRecDepth 20000 in
theorem gL_law_X8_lose : GoodIn wsL_law (wsV RL 107 RX8 yX8_lose wsX8_lose) := goodIn_app (goodIn_of _ (by decide +kernel)) ggL_law_X8_lose
set_option maxRecDepth 20000 in
theorem ggL_law_X7_put : GoodIn wsL_law wsX7_put := goodIn_r _ [566, 30, 29, 93, 94, 2, 95, 112, 105, 106, 28, 107, 71, 108, 109, 110, 111, 567, 127, 128, 129, 568, 569, 570, 571, 70, 103, 126, 721, 722, 723, 724, 725, 726, 727, 761, 762, 763] (by decide +kernel) (by decide +kernel)
set_option maxRecDepth 20000 in
theorem gL_law_X7_put : GoodIn wsL_law (wsV RL 108 RX7 yX7_put wsX7_put) := goodIn_app (goodIn_of _ (by decide +kernel)) ggL_law_X7_put
set_option maxRecDepth 20000 in
theorem ggL_law_X8_put : GoodIn wsL_law wsX8_put := goodIn_r _ [575, 168, 76, 77, 78, 175, 176, 5, 177, 178, 179, 180, 188, 189, 190, 191, 728, 729, 730, 731, 732, 733, 734, 735, 736, 737, 738, 739, 740, 741, 742, 743, 744, 745, 746, 747, 748] (by decide +kernel) (by decide +kernel)
set_option maxRecDepth 20000 in
theorem gL_law_X8_put : GoodIn wsL_law (wsV RL 111 RX8 yX8_put wsX8_put) := goodIn_app (goodIn_of _ (by decide +kernel)) ggL_law_X8_put
