set_option maxRecDepth 20000 in
theorem ggL_law_X3_init : GoodIn wsL_law wsX3_init := goodIn_r _ [8, 9, 10, 11, 12, 13, 14, 15, 16, 17, 18, 19, 20, 21, 22, 23, 24, 25, 26, 27, 28, 29, 30, 31, 32, 33, 34, 35, 36, 37, 38, 39, 40, 41, 42, 43, 44, 45, 46, 47, 48, 49, 50, 51, 52, 53, 54, 55, 56, 57, 58, 59, 60, 61, 62, 63, 64, 568, 569, 570, 571, 572, 573, 550, 551, 552, 553, 554, 555, 556, 557, 574, 575, 576, 577, 578, 579, 580] (by decide +kernel) (by decide +kernel)
set_option maxRecDepth 20000 in
theorem gL_law_X3_init : GoodIn wsL_law (wsX3_init) := ggL_law_X3_init
set_option maxRecDepth 20000 in
theorem ggL_law_X4_init : GoodIn wsL_law wsX4_init := goodIn_r _ [67, 68, 10, 11, 27, 69, 70, 71, 21, 72, 73, 74, 75, 76, 77, 5, 78, 79, 80, 81, 82, 83, 84, 85, 86, 87, 558, 559, 560, 561, 562, 563, 564, 565, 566, 567] (by decide +kernel) (by decide +kernel)
set_option maxRecDepth 20000 in
theorem gL_law_X4_init : GoodIn wsL_law (wsX4_init) := ggL_law_X4_init
set_option maxRecDepth 20000 in
theorem ggL_law_X3_channels : GoodIn wsL_law wsX3_channels := goodIn_r _ [91, 92, 15, 19, 26, 93, 94, 39, 40, 14, 41, 42, 43, 44, 45, 46, 47, 48, 49, 50, 51, 95, 96, 97, 18, 98, 99, 100, 101, 102, 103, 25, 104, 105, 106, 63, 550, 551, 552, 553, 554, 555, 556, 557, 568, 569, 570, 571, 572, 573, 574, 575, 576, 577, 578, 579, 580] (by decide +kernel) (by decide +kernel)
set_option maxRecDepth 20000 in
theorem gL_law_X3_channels : GoodIn wsL_law (wsV RL 13 RX3 yX3_channels wsX3_channels) := goodIn_app (goodIn_of _ (by decide +kernel)) ggL_law_X3_channels
set_option maxRecDepth 20000 in
theorem ggL_law_X4_channels : GoodIn wsL_law wsX4_channels := goodIn_r _ [110, 111, 69, 112, 79, 113, 114, 5, 115, 75, 76, 77, 78, 80, 81, 82, 83, 84, 85, 86, 87, 73, 558, 559, 560, 561, 562, 563, 564, 565, 566, 567] (by decide +kernel) (by decide +kernel)
set_option maxRecDepth 20000 in
theorem gL_law_X4_channels : GoodIn wsL_law (wsV RL 17 RX4 yX4_channels wsX4_channels) := goodIn_app (goodIn_of _ (by decide +kernel)) ggL_law_X4_channels
set_option maxRecDepth 20000 in
theorem ggL_law_X3_user : GoodIn wsL_law wsX3_user := goodIn_r _ [119, 92, 15, 120, 121, 19, 26, 122, 123, 2, 124, 125, 126, 127, 128, 18, 129, 57, 99, 100, 130, 131, 132, 133, 134, 135, 136, 14, 137, 42, 43, 44, 45, 36, 138, 139, 140, 141, 37, 142, 143, 144, 145, 146, 147, 148, 149, 101, 102, 103, 25, 104, 105, 106, 63, 550, 551, 552, 553, 554, 555, 556, 557, 568, 569, 570, 571, 572, 573, 574, 575, 576, 577, 578, 579, 580] (by decide +kernel) (by decide +kernel)
set_option maxRecDepth 20000 in
theorem gL_law_X3_user : GoodIn wsL_law (wsV RL 18 RX3 yX3_user wsX3_user) := goodIn_app (goodIn_of _ (by decide +kernel)) ggL_law_X3_user
set_option maxRecDepth 20000 in
theorem ggL_law_X4_user : GoodIn wsL_law wsX4_user := goodIn_r _ [153, 111, 69, 154, 155, 156, 5, 157, 113, 114, 115, 158, 159, 160, 161, 112, 70, 162, 163, 164, 83, 84, 85, 86, 87, 73, 165, 166, 167, 168, 558, 559, 560, 561, 562, 563, 564, 565, 566, 567] (by decide +kernel) (by decide +kernel)
set_option maxRecDepth 20000 in
theorem gL_law_X4_user : GoodIn wsL_law (wsV RL 22 RX4 yX4_user wsX4_user) := goodIn_app (goodIn_of _ (by decide +kernel)) ggL_law_X4_user
set_option maxRecDepth 20000 in
theorem ggL_law_X3_open : GoodIn wsL_law wsX3_open := goodIn_r _ [172, 173, 15, 92, 174, 175, 176, 2, 177, 120, 178, 147, 148, 14, 149, 42, 179, 180, 181, 182, 19, 183, 26, 126, 127, 128, 18, 129, 57, 99, 100, 130, 131, 132, 133, 134, 135, 136, 137, 43, 44, 45, 36, 138, 139, 140, 141, 37, 101, 102, 103, 25, 104, 105, 106, 63, 550, 551, 552, 553, 554, 555, 556, 557, 568, 569, 570, 571, 572, 573, 574, 575, 576, 577, 578, 579, 580] (by decide +kernel) (by decide +kernel)
set_option maxRecDepth 20000 in
theorem gL_law_X3_open : GoodIn wsL_law (wsV RL 23 RX3 yX3_open wsX3_open) := goodIn_app (goodIn_of _ (by decide +kernel)) ggL_law_X3_open
set_option maxRecDepth 20000 in
theorem ggL_law_X4_open : GoodIn wsL_law wsX4_open := goodIn_r _ [187, 188, 111, 189, 190, 191, 5, 192, 69, 113, 114, 115, 165, 166, 167, 168, 193, 194, 195, 196, 158, 159, 160, 161, 112, 70, 162, 163, 164, 83, 84, 85, 86, 87, 73, 197, 198, 199, 200, 558, 559, 560, 561, 562, 563, 564, 565, 566, 567] (by decide +kernel) (by decide +kernel)
set_option maxRecDepth 20000 in
theorem gL_law_X4_open : GoodIn wsL_law (wsV RL 27 RX4 yX4_open wsX4_open) := goodIn_app (goodIn_of _ (by decide +kernel)) ggL_law_X4_open
set_option maxRecDepth 20000 in
theorem ggL_law_X3_set : GoodIn wsL_law wsX3_set := goodIn_r _ [204, 173, 92, 174, 175, 176, 2, 177, 15, 120, 122, 123, 124, 125, 179, 180, 181, 182, 19, 183, 26, 126, 127, 128, 18, 129, 57, 99, 100, 130, 131, 132, 133, 134, 135, 136, 14, 137, 42, 43, 44, 45, 36, 138, 139, 140, 141, 37, 101, 102, 103, 25, 104, 105, 106, 63, 550, 551, 552, 553, 554, 555, 556, 557, 568, 569, 570, 571, 572, 573, 574, 575, 576, 577, 578, 579, 580] (by decide +kernel) (by decide +kernel)
set_option maxRecDepth 20000 in
theorem gL_law_X3_set : GoodIn wsL_law (wsV RL 28 RX3 yX3_set wsX3_set) := goodIn_app (goodIn_of _ (by decide +kernel)) ggL_law_X3_set
set_option maxRecDepth 20000 in
theorem ggL_law_X4_set : GoodIn wsL_law wsX4_set := goodIn_r _ [208, 188, 111, 189, 190, 191, 5, 192, 69, 113, 114, 115, 155, 156, 157, 193, 194, 195, 196, 158, 159, 160, 161, 112, 70, 162, 163, 164, 83, 84, 85, 86, 87, 73, 197, 198, 199, 200, 558, 559, 560, 561, 562, 563, 564, 565, 566, 567] (by decide +kernel) (by decide +kernel)
set_option maxRecDepth 20000 in
theorem gL_law_X4_set : GoodIn wsL_law (wsV RL 32 RX4 yX4_set wsX4_set) := goodIn_app (goodIn_of _ (by decide +kernel)) ggL_law_X4_set
set_option maxRecDepth 20000 in
theorem ggL_law_X3_shut : GoodIn wsL_law wsX3_shut := goodIn_r _ [212, 173, 15, 213, 92, 214, 121, 19, 26, 120, 174, 175, 176, 2, 177, 126, 127, 128, 18, 129, 57, 99, 100, 130, 131, 132, 133, 134, 135, 136, 14, 137, 42, 43, 44, 45, 36, 138, 139, 140, 141, 37, 215, 216, 217, 218, 101, 102, 103, 25, 104, 105, 106, 63, 550, 551, 552, 553, 554, 555, 556, 557, 568, 569, 570, 571, 572, 573, 574, 575, 576, 577, 578, 579, 580] (by decide +kernel) (by decide +kernel)
set_option maxRecDepth 20000 in
theorem gL_law_X3_shut : GoodIn wsL_law (wsV RL 33 RX3 yX3_shut wsX3_shut) := goodIn_app (goodIn_of _ (by decide +kernel)) ggL_law_X3_shut
set_option maxRecDepth 20000 in
theorem ggL_law_X4_shut : GoodIn wsL_law wsX4_shut := goodIn_r _ [222, 69, 188, 111, 154, 189, 190, 191, 5, 192, 113, 114, 115, 158, 159, 160, 161, 112, 70, 162, 163, 164, 83, 84, 85, 86, 87, 73, 558, 559, 560, 561, 562, 563, 564, 565, 566, 567] (by decide +kernel) (by decide +kernel)
set_option maxRecDepth 20000 in
theorem gL_law_X4_shut : GoodIn wsL_law (wsV RL 36 RX4 yX4_shut wsX4_shut) := goodIn_app (goodIn_of _ (by decide +kernel)) ggL_law_X4_shut
set_option maxRecDepth 20000 in
theorem ggL_law_X3_drift : GoodIn wsL_law wsX3_drift := goodIn_r _ [226, 227, 92, 15, 120, 228, 19, 26, 126, 127, 128, 18, 129, 57, 99, 100, 130, 131, 132, 133, 134, 135, 136, 14, 137, 42, 43, 44, 45, 36, 138, 139, 140, 141, 37, 229, 230, 231, 232, 146, 147, 148, 149, 233, 234, 235, 236, 237, 238, 239, 240, 101, 102, 103, 25, 104, 105, 106, 63, 241, 242, 243, 244, 550, 551, 552, 553, 554, 555, 556, 557, 568, 569, 570, 571, 572, 573, 574, 575, 576, 577, 578, 579, 580] (by decide +kernel) (by decide +kernel)
set_option maxRecDepth 20000 in
theorem gL_law_X3_drift : GoodIn wsL_law (wsV RL 37 RX3 yX3_drift wsX3_drift) := goodIn_app (goodIn_of _ (by decide +kernel)) ggL_law_X3_drift
set_option maxRecDepth 20000 in
theorem ggL_law_X4_drift : GoodIn wsL_law wsX4_drift := goodIn_r _ [248, 249, 111, 69, 250, 251, 113, 114, 5, 115, 158, 159, 160, 161, 112, 70, 162, 163, 164, 83, 84, 85, 86, 87, 73, 252, 253, 254, 255, 256, 257, 258, 259, 260, 261, 165, 166, 167, 168, 197, 198, 199, 200, 558, 559, 560, 561, 562, 563, 564, 565, 566, 567] (by decide +kernel) (by decide +kernel)
set_option maxRecDepth 20000 in
theorem gL_law_X4_drift : GoodIn wsL_law (wsV RL 40 RX4 yX4_drift wsX4_drift) := goodIn_app (goodIn_of _ (by decide +kernel)) ggL_law_X4_drift
set_option maxRecDepth 20000 in
theorem ggL_law_X3_undo : GoodIn wsL_law wsX3_undo := goodIn_r _ [265, 19, 266, 228, 15, 26, 120, 267, 268, 269, 18, 270, 99, 57, 100, 134, 135, 136, 14, 137, 42, 43, 44, 45, 36, 138, 139, 140, 141, 37, 101, 102, 103, 25, 104, 105, 106, 63, 550, 551, 552, 553, 554, 555, 556, 557, 574, 575, 576, 568, 569, 570, 571, 572, 573, 577, 578, 579, 580] (by decide +kernel) (by decide +kernel)
set_option maxRecDepth 20000 in
theorem gL_law_X3_undo : GoodIn wsL_law (wsV RL 41 RX3 yX3_undo wsX3_undo) := goodIn_app (goodIn_of _ (by decide +kernel)) ggL_law_X3_undo
set_option maxRecDepth 20000 in
theorem ggL_law_X4_undo : GoodIn wsL_law wsX4_undo := goodIn_r _ [274, 112, 250, 70, 69, 162, 163, 5, 164, 83, 84, 85, 86, 87, 73, 558, 559, 560, 561, 562, 563, 564, 565, 566, 567] (by decide +kernel) (by decide +kernel)
set_option maxRecDepth 20000 in
theorem gL_law_X4_undo : GoodIn wsL_law (wsV RL 45 RX4 yX4_undo wsX4_undo) := goodIn_app (goodIn_of _ (by decide +kernel)) ggL_law_X4_undo
set_option maxRecDepth 20000 in
theorem ggL_law_X3_told : GoodIn wsL_law wsX3_told := goodIn_r _ [278, 15, 213, 93, 120, 214, 26, 279, 19, 266, 92, 241, 242, 243, 14, 244, 44, 36, 146, 147, 148, 149, 42, 280, 281, 282, 25, 283, 106, 63, 550, 551, 552, 553, 554, 555, 556, 557, 568, 569, 570, 571, 572, 573, 577, 578, 579, 580, 574, 575, 576] (by decide +kernel) (by decide +kernel)
set_option maxRecDepth 20000 in
theorem gL_law_X3_told : GoodIn wsL_law (wsV RL 46 RX3 yX3_told wsX3_told) := goodIn_app (goodIn_of _ (by decide +kernel)) ggL_law_X3_told
set_option maxRecDepth 20000 in
theorem ggL_law_X4_told : GoodIn wsL_law wsX4_told := goodIn_r _ [287, 69, 79, 87, 112, 111, 258, 259, 260, 5, 261, 165, 166, 167, 168, 197, 198, 199, 200, 288, 289, 290, 291, 73, 558, 559, 560, 561, 562, 563, 564, 565, 566, 567] (by decide +kernel) (by decide +kernel)
set_option maxRecDepth 20000 in
theorem gL_law_X4_told : GoodIn wsL_law (wsV RL 49 RX4 yX4_told wsX4_told) := goodIn_app (goodIn_of _ (by decide +kernel)) ggL_law_X4_told
set_option maxRecDepth 20000 in
theorem ggL_law_X3_userOf : GoodIn wsL_law wsX3_userOf := goodIn_r _ [295, 173, 92, 26, 296, 15, 183, 174, 175, 176, 2, 177, 120, 297, 298, 299, 25, 300, 106, 63, 550, 551, 552, 553, 554, 555, 556, 557, 577, 578, 579, 580, 568, 569, 570, 571, 572, 573] (by decide +kernel) (by decide +kernel)
set_option maxRecDepth 20000 in
theorem gL_law_X3_userOf : GoodIn wsL_law (wsV RL 50 RX3 yX3_userOf wsX3_userOf) := goodIn_app (goodIn_of _ (by decide +kernel)) ggL_law_X3_userOf
set_option maxRecDepth 20000 in
theorem ggL_law_X4_userOf : GoodIn wsL_law wsX4_userOf := goodIn_r _ [304, 188, 111, 69, 73, 189, 190, 191, 5, 192, 113, 114, 115, 197, 198, 199, 200, 558, 559, 560, 561, 562, 563, 564, 565, 566, 567] (by decide +kernel) (by decide +kernel)
set_option maxRecDepth 20000 in
theorem gL_law_X4_userOf : GoodIn wsL_law (wsV RL 53 RX4 yX4_userOf wsX4_userOf) := goodIn_app (goodIn_of _ (by decide +kernel)) ggL_law_X4_userOf
set_option maxRecDepth 20000 in
theorem ggL_law_X3_pointsAt : GoodIn wsL_law wsX3_pointsAt := goodIn_r _ [308, 173, 92, 15, 174, 175, 176, 2, 177, 120, 309, 310, 311, 312, 313, 314, 14, 315, 36, 316, 317, 318, 319, 42, 43, 238, 239, 240, 320, 321, 322, 323, 324, 325, 326, 550, 551, 552, 553, 554, 555, 556, 557, 568, 569, 570, 571, 572, 573] (by decide +kernel) (by decide +kernel)
set_option maxRecDepth 20000 in
theorem gL_law_X3_pointsAt : GoodIn wsL_law (wsV RL 54 RX3 yX3_pointsAt wsX3_pointsAt) := goodIn_app (goodIn_of _ (by decide +kernel)) ggL_law_X3_pointsAt
set_option maxRecDepth 20000 in
theorem ggL_law_X4_pointsAt : GoodIn wsL_law wsX4_pointsAt := goodIn_r _ [330, 188, 111, 189, 190, 191, 5, 192, 69, 113, 114, 115, 197, 198, 199, 200, 331, 332, 333, 334, 79, 558, 559, 560, 561, 562, 563, 564, 565, 566, 567] (by decide +kernel) (by decide +kernel)
set_option maxRecDepth 20000 in
theorem gL_law_X4_pointsAt : GoodIn wsL_law (wsV RL 57 RX4 yX4_pointsAt wsX4_pointsAt) := goodIn_app (goodIn_of _ (by decide +kernel)) ggL_law_X4_pointsAt
set_option maxRecDepth 20000 in
theorem ggL_law_X3_on : GoodIn wsL_law wsX3_on := goodIn_r _ [338, 173, 15, 92, 174, 175, 176, 2, 177, 120, 309, 310, 311, 339, 340, 341, 14, 342, 343, 313, 314, 315, 36, 344, 345, 346, 347, 348, 317, 318, 319, 42, 43, 238, 239, 240, 320, 321, 322, 323, 324, 325, 326, 349, 350, 351, 352, 353, 354, 355, 356, 357, 358, 359, 360, 361, 362, 363, 364, 365, 45, 37, 550, 551, 552, 553, 554, 555, 556, 557, 568, 569, 570, 571, 572, 573] (by decide +kernel) (by decide +kernel)
set_option maxRecDepth 20000 in
theorem gL_law_X3_on : GoodIn wsL_law (wsV RL 58 RX3 yX3_on wsX3_on) := goodIn_app (goodIn_of _ (by decide +kernel)) ggL_law_X3_on
set_option maxRecDepth 20000 in
theorem ggL_law_X4_on : GoodIn wsL_law wsX4_on := goodIn_r _ [369, 188, 111, 189, 190, 191, 5, 192, 69, 113, 114, 115, 370, 371, 372, 373, 374, 375, 376, 377, 197, 198, 199, 200, 378, 379, 380, 381, 331, 332, 333, 334, 79, 382, 383, 384, 385, 386, 387, 388, 558, 559, 560, 561, 562, 563, 564, 565, 566, 567] (by decide +kernel) (by decide +kernel)
set_option maxRecDepth 20000 in
theorem gL_law_X4_on : GoodIn wsL_law (wsV RL 61 RX4 yX4_on wsX4_on) := goodIn_app (goodIn_of _ (by decide +kernel)) ggL_law_X4_on
set_option maxRecDepth 20000 in
theorem ggL_law_X3_why : GoodIn wsL_law wsX3_why := goodIn_r _ [392, 173, 15, 92, 174, 175, 176, 2, 177, 120, 309, 310, 311, 393, 394, 395, 14, 396, 343, 313, 314, 315, 36, 344, 345, 346, 347, 348, 317, 318, 319, 42, 43, 238, 239, 240, 320, 321, 322, 323, 324, 325, 326, 349, 350, 351, 352, 353, 354, 355, 356, 357, 358, 359, 360, 361, 362, 363, 364, 365, 45, 37, 550, 551, 552, 553, 554, 555, 556, 557, 568, 569, 570, 571, 572, 573] (by decide +kernel) (by decide +kernel)
set_option maxRecDepth 20000 in
theorem gL_law_X3_why : GoodIn wsL_law (wsV RL 62 RX3 yX3_why wsX3_why) := goodIn_app (goodIn_of _ (by decide +kernel)) ggL_law_X3_why
set_option maxRecDepth 20000 in
theorem ggL_law_X4_why : GoodIn wsL_law wsX4_why := goodIn_r _ [400, 188, 111, 189, 190, 191, 5, 192, 69, 113, 114, 115, 374, 375, 376, 377, 197, 198, 199, 200, 378, 379, 380, 381, 331, 332, 333, 334, 79, 382, 383, 384, 385, 386, 387, 388, 558, 559, 560, 561, 562, 563, 564, 565, 566, 567] (by decide +kernel) (by decide +kernel)
set_option maxRecDepth 20000 in
theorem gL_law_X4_why : GoodIn wsL_law (wsV RL 65 RX4 yX4_why wsX4_why) := goodIn_app (goodIn_of _ (by decide +kernel)) ggL_law_X4_why
set_option maxRecDepth 20000 in
theorem ggL_law_X3_first : GoodIn wsL_law wsX3_first := goodIn_r _ [404, 173, 15, 405, 406, 407, 2, 408, 174, 175, 176, 177, 120, 409, 410, 411, 14, 412, 413, 340, 341, 342, 343, 313, 314, 315, 36, 344, 345, 346, 347, 348, 317, 318, 319, 42, 43, 238, 239, 240, 320, 321, 322, 323, 324, 325, 326, 349, 350, 351, 352, 353, 354, 355, 356, 357, 358, 359, 360, 361, 362, 363, 364, 365, 45, 37, 550, 551, 552, 553, 554, 555, 556, 557, 568, 569, 570, 571, 572, 573] (by decide +kernel) (by decide +kernel)
set_option maxRecDepth 20000 in
theorem gL_law_X3_first : GoodIn wsL_law (wsV RL 66 RX3 yX3_first wsX3_first) := goodIn_app (goodIn_of _ (by decide +kernel)) ggL_law_X3_first
set_option maxRecDepth 20000 in
theorem ggL_law_X4_first : GoodIn wsL_law wsX4_first := goodIn_r _ [417, 188, 418, 419, 420, 5, 421, 189, 190, 191, 192, 69, 113, 114, 115, 422, 423, 424, 425, 370, 371, 372, 373, 374, 375, 376, 377, 197, 198, 199, 200, 378, 379, 380, 381, 331, 332, 333, 334, 79, 382, 383, 384, 385, 386, 387, 388, 558, 559, 560, 561, 562, 563, 564, 565, 566, 567] (by decide +kernel) (by decide +kernel)
set_option maxRecDepth 20000 in
theorem gL_law_X4_first : GoodIn wsL_law (wsV RL 69 RX4 yX4_first wsX4_first) := goodIn_app (goodIn_of _ (by decide +kernel)) ggL_law_X4_first
set_option maxRecDepth 20000 in
theorem ggL_law_X3_worst : GoodIn wsL_law wsX3_worst := goodIn_r _ [429, 173, 92, 405, 406, 407, 2, 408, 174, 175, 176, 177, 15, 120, 430, 431, 432, 433, 434, 435, 436, 28, 29, 437, 438, 439, 132, 440, 441, 345, 346, 14, 347, 36, 348, 317, 318, 319, 42, 43, 238, 239, 240, 320, 321, 322, 323, 324, 325, 326, 349, 350, 351, 352, 353, 354, 355, 356, 357, 358, 359, 360, 361, 442, 443, 444, 445, 550, 551, 552, 553, 554, 555, 556, 557, 568, 569, 570, 571, 572, 573] (by decide +kernel) (by decide +kernel)
set_option maxRecDepth 20000 in
theorem gL_law_X3_worst : GoodIn wsL_law (wsV RL 70 RX3 yX3_worst wsX3_worst) := goodIn_app (goodIn_of _ (by decide +kernel)) ggL_law_X3_worst
set_option maxRecDepth 20000 in
theorem ggL_law_X4_worst : GoodIn wsL_law wsX4_worst := goodIn_r _ [449, 188, 111, 418, 419, 420, 5, 421, 189, 190, 191, 192, 69, 113, 114, 115, 450, 451, 452, 453, 454, 197, 198, 199, 200, 378, 379, 380, 381, 331, 332, 333, 334, 79, 382, 383, 384, 558, 559, 560, 561, 562, 563, 564, 565, 566, 567] (by decide +kernel) (by decide +kernel)
set_option maxRecDepth 20000 in
theorem gL_law_X4_worst : GoodIn wsL_law (wsV RL 73 RX4 yX4_worst wsX4_worst) := goodIn_app (goodIn_of _ (by decide +kernel)) ggL_law_X4_worst
set_option maxRecDepth 20000 in
theorem ggL_law_X3_bound : GoodIn wsL_law wsX3_bound := goodIn_r _ [458, 173, 92, 405, 406, 407, 2, 408, 174, 175, 176, 177, 15, 120, 430, 431, 432, 433, 434, 435, 436, 28, 29, 437, 438, 439, 132, 440, 441, 345, 346, 14, 347, 36, 348, 317, 318, 319, 42, 43, 238, 239, 240, 320, 321, 322, 323, 324, 325, 326, 349, 350, 351, 352, 353, 354, 355, 356, 357, 358, 359, 360, 361, 442, 443, 444, 445, 550, 551, 552, 553, 554, 555, 556, 557, 568, 569, 570, 571, 572, 573] (by decide +kernel) (by decide +kernel)
set_option maxRecDepth 20000 in
theorem gL_law_X3_bound : GoodIn wsL_law (wsV RL 74 RX3 yX3_bound wsX3_bound) := goodIn_app (goodIn_of _ (by decide +kernel)) ggL_law_X3_bound
set_option maxRecDepth 20000 in
theorem ggL_law_X4_bound : GoodIn wsL_law wsX4_bound := goodIn_r _ [462, 188, 111, 418, 419, 420, 5, 421, 189, 190, 191, 192, 69, 113, 114, 115, 450, 451, 452, 453, 454, 197, 198, 199, 200, 378, 379, 380, 381, 331, 332, 333, 334, 79, 382, 383, 384, 558, 559, 560, 561, 562, 563, 564, 565, 566, 567] (by decide +kernel) (by decide +kernel)
set_option maxRecDepth 20000 in
theorem gL_law_X4_bound : GoodIn wsL_law (wsV RL 77 RX4 yX4_bound wsX4_bound) := goodIn_app (goodIn_of _ (by decide +kernel)) ggL_law_X4_bound
set_option maxRecDepth 20000 in
theorem ggL_law_X3_together : GoodIn wsL_law wsX3_together := goodIn_r _ [466, 173, 92, 15, 405, 406, 407, 2, 408, 174, 175, 176, 177, 120, 409, 410, 411, 14, 412, 413, 340, 341, 342, 343, 313, 314, 315, 36, 344, 345, 346, 347, 348, 317, 318, 319, 42, 43, 238, 239, 240, 320, 321, 322, 323, 324, 325, 326, 349, 350, 351, 352, 353, 354, 355, 356, 357, 358, 359, 360, 361, 362, 363, 364, 365, 45, 37, 550, 551, 552, 553, 554, 555, 556, 557, 568, 569, 570, 571, 572, 573] (by decide +kernel) (by decide +kernel)
set_option maxRecDepth 20000 in
theorem gL_law_X3_together : GoodIn wsL_law (wsV RL 78 RX3 yX3_together wsX3_together) := goodIn_app (goodIn_of _ (by decide +kernel)) ggL_law_X3_together
set_option maxRecDepth 20000 in
theorem ggL_law_X4_together : GoodIn wsL_law wsX4_together := goodIn_r _ [470, 188, 111, 418, 419, 420, 5, 421, 189, 190, 191, 192, 69, 113, 114, 115, 422, 423, 424, 425, 370, 371, 372, 373, 374, 375, 376, 377, 197, 198, 199, 200, 378, 379, 380, 381, 331, 332, 333, 334, 79, 382, 383, 384, 385, 386, 387, 388, 558, 559, 560, 561, 562, 563, 564, 565, 566, 567] (by decide +kernel) (by decide +kernel)
set_option maxRecDepth 20000 in
theorem gL_law_X4_together : GoodIn wsL_law (wsV RL 81 RX4 yX4_together wsX4_together) := goodIn_app (goodIn_of _ (by decide +kernel)) ggL_law_X4_together
set_option maxRecDepth 20000 in
theorem ggL_law_X3_even : GoodIn wsL_law wsX3_even := goodIn_r _ [474, 173, 92, 15, 183, 213, 30, 438, 439, 132, 440, 475, 131, 133, 174, 175, 176, 2, 177, 120, 476, 477, 478, 479, 441, 345, 346, 14, 347, 36, 348, 317, 318, 319, 42, 43, 238, 239, 240, 320, 321, 322, 323, 324, 325, 326, 349, 350, 351, 352, 353, 354, 355, 356, 357, 358, 359, 360, 361, 480, 550, 551, 552, 553, 554, 555, 556, 557, 568, 569, 570, 571, 572, 573] (by decide +kernel) (by decide +kernel)
set_option maxRecDepth 20000 in
theorem gL_law_X3_even : GoodIn wsL_law (wsV RL 82 RX3 yX3_even wsX3_even) := goodIn_app (goodIn_of _ (by decide +kernel)) ggL_law_X3_even
set_option maxRecDepth 20000 in
theorem ggL_law_X4_even : GoodIn wsL_law wsX4_even := goodIn_r _ [484, 188, 111, 74, 69, 189, 190, 191, 5, 192, 113, 114, 115, 197, 198, 199, 200, 378, 379, 380, 381, 331, 332, 333, 334, 79, 382, 383, 384, 558, 559, 560, 561, 562, 563, 564, 565, 566, 567] (by decide +kernel) (by decide +kernel)
set_option maxRecDepth 20000 in
theorem gL_law_X4_even : GoodIn wsL_law (wsV RL 85 RX4 yX4_even wsX4_even) := goodIn_app (goodIn_of _ (by decide +kernel)) ggL_law_X4_even
set_option maxRecDepth 20000 in
theorem ggL_law_X3_run : GoodIn wsL_law wsX3_run := goodIn_r _ [488, 92, 15, 120, 228, 26, 279, 121, 489, 490, 491, 25, 492, 64, 106, 63, 105, 493, 340, 341, 14, 342, 343, 313, 314, 315, 36, 344, 345, 346, 347, 348, 317, 318, 319, 42, 43, 238, 239, 240, 320, 321, 322, 323, 324, 325, 326, 349, 350, 351, 352, 353, 354, 355, 356, 357, 358, 359, 360, 361, 362, 363, 364, 365, 45, 37, 494, 495, 496, 497, 498, 499, 500, 501, 280, 281, 282, 283, 550, 551, 552, 553, 554, 555, 556, 557, 568, 569, 570, 571, 572, 573, 577, 578, 579, 580] (by decide +kernel) (by decide +kernel)
set_option maxRecDepth 20000 in
theorem gL_law_X3_run : GoodIn wsL_law (wsV RL 86 RX3 yX3_run wsX3_run) := goodIn_app (goodIn_of _ (by decide +kernel)) ggL_law_X3_run
set_option maxRecDepth 20000 in
theorem ggL_law_X4_run : GoodIn wsL_law wsX4_run := goodIn_r _ [505, 111, 69, 250, 87, 154, 113, 114, 5, 115, 506, 507, 508, 509, 73, 422, 423, 424, 425, 370, 371, 372, 373, 374, 375, 376, 377, 197, 198, 199, 200, 378, 379, 380, 381, 331, 332, 333, 334, 79, 382, 383, 384, 385, 386, 387, 388, 510, 511, 512, 513, 288, 289, 290, 291, 558, 559, 560, 561, 562, 563, 564, 565, 566, 567] (by decide +kernel) (by decide +kernel)
set_option maxRecDepth 20000 in
theorem gL_law_X4_run : GoodIn wsL_law (wsV RL 89 RX4 yX4_run wsX4_run) := goodIn_app (goodIn_of _ (by decide +kernel)) ggL_law_X4_run
set_option maxRecDepth 20000 in
theorem ggL_law_X3_merge : GoodIn wsL_law wsX3_merge := goodIn_r _ [517, 15, 120, 228, 26, 279, 280, 281, 282, 25, 283, 106, 63, 489, 490, 491, 492, 64, 105, 493, 340, 341, 14, 342, 343, 313, 314, 315, 36, 344, 345, 346, 347, 348, 317, 318, 319, 42, 43, 238, 239, 240, 320, 321, 322, 323, 324, 325, 326, 349, 350, 351, 352, 353, 354, 355, 356, 357, 358, 359, 360, 361, 362, 363, 364, 365, 45, 37, 494, 495, 496, 497, 498, 499, 500, 501, 550, 551, 552, 553, 554, 555, 556, 557, 568, 569, 570, 571, 572, 573, 577, 578, 579, 580] (by decide +kernel) (by decide +kernel)
set_option maxRecDepth 20000 in
theorem gL_law_X3_merge : GoodIn wsL_law (wsV RL 90 RX3 yX3_merge wsX3_merge) := goodIn_app (goodIn_of _ (by decide +kernel)) ggL_law_X3_merge
set_option maxRecDepth 20000 in
theorem ggL_law_X4_merge : GoodIn wsL_law wsX4_merge := goodIn_r _ [521, 69, 250, 87, 288, 289, 290, 5, 291, 73, 506, 507, 508, 509, 422, 423, 424, 425, 370, 371, 372, 373, 374, 375, 376, 377, 197, 198, 199, 200, 378, 379, 380, 381, 331, 332, 333, 334, 79, 382, 383, 384, 385, 386, 387, 388, 113, 114, 115, 510, 511, 512, 513, 558, 559, 560, 561, 562, 563, 564, 565, 566, 567] (by decide +kernel) (by decide +kernel)
set_option maxRecDepth 20000 in
theorem gL_law_X4_merge : GoodIn wsL_law (wsV RL 93 RX4 yX4_merge wsX4_merge) := goodIn_app (goodIn_of _ (by decide +kernel)) ggL_law_X4_merge
set_option maxRecDepth 20000 in
theorem ggL_law_X3_part : GoodIn wsL_law wsX3_part := goodIn_r _ [525, 26, 279, 15, 120, 101, 102, 103, 25, 104, 105, 106, 63, 550, 551, 552, 553, 554, 555, 556, 557, 577, 578, 579, 580, 568, 569, 570, 571, 572, 573] (by decide +kernel) (by decide +kernel)
set_option maxRecDepth 20000 in
theorem gL_law_X3_part : GoodIn wsL_law (wsV RL 94 RX3 yX3_part wsX3_part) := goodIn_app (goodIn_of _ (by decide +kernel)) ggL_law_X3_part
set_option maxRecDepth 20000 in
theorem ggL_law_X4_part : GoodIn wsL_law wsX4_part := goodIn_r _ [529, 87, 83, 84, 85, 5, 86, 73, 558, 559, 560, 561, 562, 563, 564, 565, 566, 567] (by decide +kernel) (by decide +kernel)
set_option maxRecDepth 20000 in
theorem gL_law_X4_part : GoodIn wsL_law (wsV RL 97 RX4 yX4_part wsX4_part) := goodIn_app (goodIn_of _ (by decide +kernel)) ggL_law_X4_part
set_option maxRecDepth 20000 in
theorem ggL_law_X3_keep : GoodIn wsL_law wsX3_keep := goodIn_r _ [533, 173, 20, 15, 22, 120, 534, 535, 2, 536, 537, 135, 136, 14, 137, 42, 43, 44, 45, 36, 138, 139, 140, 141, 37, 550, 551, 552, 553, 554, 555, 556, 557, 568, 569, 570, 571, 572, 573] (by decide +kernel) (by decide +kernel)
set_option maxRecDepth 20000 in
theorem gL_law_X3_keep : GoodIn wsL_law (wsV RL 98 RX3 yX3_keep wsX3_keep) := goodIn_app (goodIn_of _ (by decide +kernel)) ggL_law_X3_keep
set_option maxRecDepth 20000 in
theorem ggL_law_X4_keep : GoodIn wsL_law wsX4_keep := goodIn_r _ [541, 188, 69, 71, 72, 113, 114, 5, 115, 162, 163, 164, 558, 559, 560, 561, 562, 563, 564, 565, 566, 567] (by decide +kernel) (by decide +kernel)
set_option maxRecDepth 20000 in
theorem gL_law_X4_keep : GoodIn wsL_law (wsV RL 101 RX4 yX4_keep wsX4_keep) := goodIn_app (goodIn_of _ (by decide +kernel)) ggL_law_X4_keep
set_option maxRecDepth 20000 in
theorem ggL_law_X3_goBack : GoodIn wsL_law wsX3_goBack := goodIn_r _ [545, 173, 22, 228, 15, 20, 19, 26, 120, 534, 535, 2, 536, 537, 135, 136, 14, 137, 42, 43, 44, 45, 36, 138, 139, 140, 141, 37, 95, 96, 97, 18, 98, 99, 100, 101, 102, 103, 25, 104, 105, 106, 63, 550, 551, 552, 553, 554, 555, 556, 557, 568, 569, 570, 571, 572, 573, 574, 575, 576, 577, 578, 579, 580] (by decide +kernel) (by decide +kernel)
set_option maxRecDepth 20000 in
theorem gL_law_X3_goBack : GoodIn wsL_law (wsV RL 102 RX3 yX3_goBack wsX3_goBack) := goodIn_app (goodIn_of _ (by decide +kernel)) ggL_law_X3_goBack
set_option maxRecDepth 20000 in
theorem ggL_law_X4_goBack : GoodIn wsL_law wsX4_goBack := goodIn_r _ [549, 188, 72, 250, 71, 69, 112, 113, 114, 5, 115, 162, 163, 164, 75, 76, 77, 78, 79, 80, 81, 82, 83, 84, 85, 86, 87, 73, 558, 559, 560, 561, 562, 563, 564, 565, 566, 567] (by decide +kernel) (by decide +kernel)
set_option maxRecDepth 20000 in
theorem gL_law_X4_goBack : GoodIn wsL_law (wsV RL 105 RX4 yX4_goBack wsX4_goBack) := goodIn_app (goodIn_of _ (by decide +kernel)) ggL_law_X4_goBack
