set_option maxRecDepth 20000 in
theorem ggL_law_X7_dusks : GoodIn wsL_law wsX7_dusks := goodIn_r _ [356, 15, 96, 97, 2, 98, 336, 337, 338, 339, 357, 358, 359, 14, 360, 121, 50, 142, 48, 47, 264, 265, 266, 267, 268, 269, 270, 227, 228, 229, 230, 231, 232, 233, 234, 235, 236, 237, 238, 43, 45, 239, 240, 241, 242, 243, 42, 244, 245, 246, 247, 248, 36, 249, 250, 39, 251, 252, 253, 254, 255, 261, 262, 263, 361, 362, 363, 364, 721, 722, 723, 724, 725, 726, 727, 749, 750, 751, 752, 753, 754, 755] (by decide +kernel) (by decide +kernel)
set_option maxRecDepth 20000 in
theorem gL_law_X7_dusks : GoodIn wsL_law (wsV RL 45 RX7 yX7_dusks wsX7_dusks) := goodIn_app (goodIn_of _ (by decide +kernel)) ggL_law_X7_dusks
set_option maxRecDepth 20000 in
theorem ggL_law_X8_dusks : GoodIn wsL_law wsX8_dusks := goodIn_r _ [368, 171, 178, 179, 5, 180, 369, 370, 371, 372, 83, 84, 80, 287, 288, 289, 290, 291, 292, 293, 294, 79, 208, 209, 210, 299, 300, 301, 302, 173, 283, 284, 285, 286, 295, 296, 297, 298, 373, 374, 375, 376, 728, 729, 730, 731, 732, 733, 734, 735, 736, 737, 738, 739, 740, 741, 742, 743, 744, 745, 746, 747, 748] (by decide +kernel) (by decide +kernel)
set_option maxRecDepth 20000 in
theorem gL_law_X8_dusks : GoodIn wsL_law (wsV RL 48 RX8 yX8_dusks wsX8_dusks) := goodIn_app (goodIn_of _ (by decide +kernel)) ggL_law_X8_dusks
set_option maxRecDepth 20000 in
theorem ggL_law_X7_later : GoodIn wsL_law wsX7_later := goodIn_r _ [380, 16, 15, 215, 216, 217, 2, 218, 96, 97, 98, 155, 156, 157, 14, 158, 121, 142, 45, 47, 357, 358, 359, 360, 50, 48, 264, 265, 266, 267, 268, 269, 270, 227, 228, 229, 230, 231, 232, 233, 234, 235, 236, 237, 238, 43, 239, 240, 241, 242, 243, 42, 244, 245, 246, 247, 248, 36, 249, 250, 39, 251, 252, 253, 254, 255, 261, 262, 263, 348, 721, 722, 723, 724, 725, 726, 727, 749, 750, 751, 752, 753, 754, 755] (by decide +kernel) (by decide +kernel)
set_option maxRecDepth 20000 in
theorem gL_law_X7_later : GoodIn wsL_law (wsV RL 49 RX7 yX7_later wsX7_later) := goodIn_app (goodIn_of _ (by decide +kernel)) ggL_law_X7_later
set_option maxRecDepth 20000 in
theorem ggL_law_X8_later : GoodIn wsL_law wsX8_later := goodIn_r _ [384, 275, 276, 277, 5, 278, 171, 178, 179, 180, 385, 386, 387, 388, 85, 80, 369, 370, 371, 372, 83, 84, 287, 288, 289, 290, 291, 292, 293, 294, 79, 208, 209, 210, 299, 300, 301, 302, 173, 283, 284, 285, 286, 295, 296, 297, 298, 389, 390, 391, 392, 728, 729, 730, 731, 732, 733, 734, 735, 736, 737, 738, 739, 740, 741, 742, 743, 744, 745, 746, 747, 748] (by decide +kernel) (by decide +kernel)
set_option maxRecDepth 20000 in
theorem gL_law_X8_later : GoodIn wsL_law (wsV RL 52 RX8 yX8_later wsX8_later) := goodIn_app (goodIn_of _ (by decide +kernel)) ggL_law_X8_later
set_option maxRecDepth 20000 in
theorem ggL_law_X7_dark : GoodIn wsL_law wsX7_dark := goodIn_r _ [396, 16, 15, 336, 337, 338, 2, 339, 155, 156, 157, 14, 158, 121, 142, 45, 47, 361, 362, 363, 364, 231, 232, 233, 234, 235, 236, 237, 238, 43, 239, 240, 241, 242, 243, 42, 244, 245, 246, 247, 248, 36, 249, 250, 39, 251, 357, 358, 359, 360, 50, 48, 264, 265, 266, 267, 268, 269, 270, 227, 228, 229, 230, 252, 253, 254, 255, 261, 262, 263, 721, 722, 723, 724, 725, 726, 727, 749, 750, 751, 752, 753, 754, 755] (by decide +kernel) (by decide +kernel)
set_option maxRecDepth 20000 in
theorem gL_law_X7_dark : GoodIn wsL_law (wsV RL 53 RX7 yX7_dark wsX7_dark) := goodIn_app (goodIn_of _ (by decide +kernel)) ggL_law_X7_dark
set_option maxRecDepth 20000 in
theorem ggL_law_X8_dark : GoodIn wsL_law wsX8_dark := goodIn_r _ [400, 171, 385, 386, 387, 5, 388, 85, 80, 373, 374, 375, 376, 287, 288, 289, 290, 291, 292, 293, 294, 79, 208, 209, 210, 369, 370, 371, 372, 83, 84, 299, 300, 301, 302, 173, 283, 284, 285, 286, 295, 296, 297, 298, 389, 390, 391, 392, 728, 729, 730, 731, 732, 733, 734, 735, 736, 737, 738, 739, 740, 741, 742, 743, 744, 745, 746, 747, 748] (by decide +kernel) (by decide +kernel)
set_option maxRecDepth 20000 in
theorem gL_law_X8_dark : GoodIn wsL_law (wsV RL 57 RX8 yX8_dark wsX8_dark) := goodIn_app (goodIn_of _ (by decide +kernel)) ggL_law_X8_dark
set_option maxRecDepth 20000 in
theorem ggL_law_X7_ring : GoodIn wsL_law wsX7_ring := goodIn_r _ [404, 15, 215, 216, 217, 2, 218, 348, 232, 233, 14, 234, 121, 235, 236, 237, 238, 43, 45, 47, 239, 240, 241, 242, 243, 42, 244, 245, 246, 247, 248, 36, 249, 250, 39, 251, 721, 722, 723, 724, 725, 726, 727, 749, 750, 751, 752, 753, 754, 755] (by decide +kernel) (by decide +kernel)
set_option maxRecDepth 20000 in
theorem gL_law_X7_ring : GoodIn wsL_law (wsV RL 58 RX7 yX7_ring wsX7_ring) := goodIn_app (goodIn_of _ (by decide +kernel)) ggL_law_X7_ring
set_option maxRecDepth 20000 in
theorem ggL_law_X8_ring : GoodIn wsL_law wsX8_ring := goodIn_r _ [408, 171, 275, 276, 277, 5, 278, 287, 288, 289, 290, 291, 292, 293, 294, 80, 79, 208, 209, 210, 728, 729, 730, 731, 732, 733, 734, 735, 736, 737, 738, 739, 740, 741, 742, 743, 744, 745, 746, 747, 748] (by decide +kernel) (by decide +kernel)
set_option maxRecDepth 20000 in
theorem gL_law_X8_ring : GoodIn wsL_law (wsV RL 61 RX8 yX8_ring wsX8_ring) := goodIn_app (goodIn_of _ (by decide +kernel)) ggL_law_X8_ring
set_option maxRecDepth 20000 in
theorem ggL_law_X7_walk : GoodIn wsL_law wsX7_walk := goodIn_r _ [412, 30, 29, 215, 216, 217, 2, 218, 15, 93, 94, 95, 96, 97, 98, 99, 100, 101, 28, 102, 103, 104, 105, 106, 107, 71, 108, 109, 110, 111, 112, 113, 114, 115, 116, 413, 123, 124, 125, 70, 126, 127, 128, 129, 414, 415, 416, 417, 418, 266, 419, 420, 421, 422, 423, 223, 224, 225, 14, 226, 227, 228, 229, 230, 121, 48, 231, 232, 233, 234, 235, 236, 237, 238, 43, 45, 47, 239, 240, 241, 242, 243, 42, 244, 245, 246, 247, 248, 36, 249, 250, 39, 251, 252, 253, 254, 255, 424, 425, 426, 427, 721, 722, 723, 724, 725, 726, 727, 749, 750, 751, 752, 753, 754, 755, 761, 762, 763] (by decide +kernel) (by decide +kernel)
set_option maxRecDepth 20000 in
theorem gL_law_X7_walk : GoodIn wsL_law (wsV RL 62 RX7 yX7_walk wsX7_walk) := goodIn_app (goodIn_of _ (by decide +kernel)) ggL_law_X7_walk
set_option maxRecDepth 20000 in
theorem ggL_law_X8_walk : GoodIn wsL_law wsX8_walk := goodIn_r _ [431, 168, 78, 275, 276, 277, 5, 278, 171, 175, 176, 177, 178, 179, 180, 181, 182, 183, 184, 185, 186, 187, 76, 77, 188, 189, 190, 191, 432, 433, 434, 435, 283, 284, 285, 286, 287, 288, 289, 290, 291, 292, 293, 294, 80, 79, 208, 209, 210, 728, 729, 730, 731, 732, 733, 734, 735, 736, 737, 738, 739, 740, 741, 742, 743, 744, 745, 746, 747, 748] (by decide +kernel) (by decide +kernel)
set_option maxRecDepth 20000 in
theorem gL_law_X8_walk : GoodIn wsL_law (wsV RL 66 RX8 yX8_walk wsX8_walk) := goodIn_app (goodIn_of _ (by decide +kernel)) ggL_law_X8_walk
set_option maxRecDepth 20000 in
theorem ggL_law_X7_free : GoodIn wsL_law wsX7_free := goodIn_r _ [439, 16, 15, 215, 216, 217, 2, 218, 155, 156, 157, 14, 158, 121, 142, 45, 47, 440, 441, 442, 443, 231, 232, 233, 234, 235, 236, 237, 238, 43, 239, 240, 241, 242, 243, 42, 244, 245, 246, 247, 248, 36, 249, 250, 39, 251, 721, 722, 723, 724, 725, 726, 727, 749, 750, 751, 752, 753, 754, 755] (by decide +kernel) (by decide +kernel)
set_option maxRecDepth 20000 in
theorem gL_law_X7_free : GoodIn wsL_law (wsV RL 67 RX7 yX7_free wsX7_free) := goodIn_app (goodIn_of _ (by decide +kernel)) ggL_law_X7_free
set_option maxRecDepth 20000 in
theorem ggL_law_X8_free : GoodIn wsL_law wsX8_free := goodIn_r _ [447, 171, 80, 275, 276, 277, 5, 278, 208, 209, 210, 287, 288, 289, 290, 291, 292, 293, 294, 79, 728, 729, 730, 731, 732, 733, 734, 735, 736, 737, 738, 739, 740, 741, 742, 743, 744, 745, 746, 747, 748] (by decide +kernel) (by decide +kernel)
set_option maxRecDepth 20000 in
theorem gL_law_X8_free : GoodIn wsL_law (wsV RL 70 RX8 yX8_free wsX8_free) := goodIn_app (goodIn_of _ (by decide +kernel)) ggL_law_X8_free
set_option maxRecDepth 20000 in
theorem ggL_law_X7_haste : GoodIn wsL_law wsX7_haste := goodIn_r _ [451, 15, 452, 265, 266, 267, 336, 337, 338, 2, 339, 256, 257, 258, 14, 259, 260, 224, 225, 226, 227, 228, 229, 230, 121, 48, 231, 232, 233, 234, 235, 236, 237, 238, 43, 45, 47, 239, 240, 241, 242, 243, 42, 244, 245, 246, 247, 248, 36, 249, 250, 39, 251, 252, 253, 254, 255, 261, 262, 263, 264, 268, 269, 270, 721, 722, 723, 724, 725, 726, 727, 749, 750, 751, 752, 753, 754, 755] (by decide +kernel) (by decide +kernel)
set_option maxRecDepth 20000 in
theorem gL_law_X7_haste : GoodIn wsL_law (wsV RL 71 RX7 yX7_haste wsX7_haste) := goodIn_app (goodIn_of _ (by decide +kernel)) ggL_law_X7_haste
set_option maxRecDepth 20000 in
theorem ggL_law_X8_haste : GoodIn wsL_law wsX8_haste := goodIn_r _ [456, 171, 283, 284, 285, 5, 286, 287, 288, 289, 290, 291, 292, 293, 294, 80, 79, 208, 209, 210, 295, 296, 297, 298, 728, 729, 730, 731, 732, 733, 734, 735, 736, 737, 738, 739, 740, 741, 742, 743, 744, 745, 746, 747, 748] (by decide +kernel) (by decide +kernel)
set_option maxRecDepth 20000 in
theorem gL_law_X8_haste : GoodIn wsL_law (wsV RL 74 RX8 yX8_haste wsX8_haste) := goodIn_app (goodIn_of _ (by decide +kernel)) ggL_law_X8_haste
set_option maxRecDepth 20000 in
theorem ggL_law_X7_reading : GoodIn wsL_law wsX7_reading := goodIn_r _ [460, 25, 215, 216, 217, 2, 218, 15, 96, 97, 98, 461, 462, 463, 24, 464, 163, 64, 65, 66, 721, 722, 723, 724, 725, 726, 727, 749, 750, 751, 752, 753, 754, 755, 757, 758, 759, 760] (by decide +kernel) (by decide +kernel)
set_option maxRecDepth 20000 in
theorem gL_law_X7_reading : GoodIn wsL_law (wsV RL 75 RX7 yX7_reading wsX7_reading) := goodIn_app (goodIn_of _ (by decide +kernel)) ggL_law_X7_reading
set_option maxRecDepth 20000 in
theorem ggL_law_X8_reading : GoodIn wsL_law wsX8_reading := goodIn_r _ [468, 174, 86, 87, 88, 275, 276, 277, 5, 278, 171, 178, 179, 180, 728, 729, 730, 731, 732, 733, 734, 735, 736, 737, 738, 739, 740, 741, 742, 743, 744, 745, 746, 747, 748] (by decide +kernel) (by decide +kernel)
set_option maxRecDepth 20000 in
theorem gL_law_X8_reading : GoodIn wsL_law (wsV RL 78 RX8 yX8_reading wsX8_reading) := goodIn_app (goodIn_of _ (by decide +kernel)) ggL_law_X8_reading
