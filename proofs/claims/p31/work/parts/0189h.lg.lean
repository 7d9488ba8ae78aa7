set_option maxRecDepth 20000 in
theorem ggL_plays_J4_toString_0e30d : GoodIn wsL_plays wsJ4_toString_0e30d := goodIn_r _ [243, 244, 245, 131, 246, 247, 248, 249, 250, 251, 252, 12, 13, 153, 147, 152, 253, 254, 255, 256, 257, 9, 258, 16, 259, 260, 261, 262, 263, 3, 264, 265, 65, 266, 267, 68, 268, 115, 116, 117, 118, 14, 17, 269, 270, 99, 271, 101, 102, 103, 104, 105, 106, 272, 273, 274, 15, 107, 108, 91, 109, 110, 111, 112, 113, 275, 276, 277, 278, 279, 20, 280, 281, 282, 283, 177, 178, 179, 126, 127, 128, 180, 181, 182, 133, 183, 184, 136, 185, 284, 285, 286, 122, 141, 142, 22, 23, 24, 25, 287, 288, 289, 290, 1003, 1004, 1005, 1006, 968, 969, 970, 971] (by decide +kernel) (by decide +kernel)
set_option maxRecDepth 20000 in
theorem gL_plays_J4_toString_0e30d : GoodIn wsL_plays (wsV RL 127 RJ4 yJ4_toString_0e30d wsJ4_toString_0e30d) := goodIn_app (goodIn_of _ (by decide +kernel)) ggL_plays_J4_toString_0e30d
set_option maxRecDepth 20000 in
theorem ggL_plays_L_feeds : GoodIn wsL_plays wsL_feeds := goodIn_r _ [293, 45, 294, 144, 145, 131, 146, 147, 148, 149, 150, 151, 152, 153, 295, 296, 297, 298, 299, 300, 301, 302, 303, 304, 172, 305, 306, 235, 236, 133, 237, 238, 136, 239, 307, 308, 20, 309, 231, 232, 233, 126, 127, 128, 234, 284, 285, 286, 122, 141, 142, 310, 311, 312, 313, 314, 315, 316, 317, 318, 319, 320, 1003, 1004, 1005, 1006, 1007, 1008, 1009, 1010, 1011, 1012, 1013, 1014, 1015, 1016, 1017, 1018] (by decide +kernel) (by decide +kernel)
set_option maxRecDepth 20000 in
theorem gL_plays_L_feeds : GoodIn wsL_plays (va_wsS RL 147 yL_feeds wsL_feeds) := goodIn_app (goodIn_of _ (by decide +kernel)) ggL_plays_L_feeds
set_option maxRecDepth 20000 in
theorem ggL_plays_J4_length_8abf5 : GoodIn wsL_plays wsJ4_length_8abf5 := goodIn_r _ [264, 265, 260, 65, 266, 9, 267, 68, 968, 969, 970, 971] (by decide +kernel) (by decide +kernel)
set_option maxRecDepth 20000 in
theorem gL_plays_J4_length_8abf5 : GoodIn wsL_plays (wsV RL 151 RJ4 yJ4_length_8abf5 wsJ4_length_8abf5) := goodIn_app (goodIn_of _ (by decide +kernel)) ggL_plays_J4_length_8abf5
set_option maxRecDepth 20000 in
theorem gd_L_plays_X9_parse_0 : GoodIn wsL_plays [.code yX9_parse cX9_parse 3 (some .int)] := goodIn_r _ [326] (by decide +kernel) (by decide +kernel)
set_option maxRecDepth 20000 in
theorem gd_L_plays_X9_parse_r1 : GoodIn wsL_plays wsX9_parse_r1 := goodIn_r _ [327, 328, 315, 329, 320, 330, 331, 332, 333, 334, 335, 336, 337, 338, 339, 340, 341, 342, 343, 344, 345, 346, 347, 348] (by decide +kernel) (by decide +kernel)
set_option maxRecDepth 20000 in
theorem gd_L_plays_X9_parse_r2 : GoodIn wsL_plays wsX9_parse_r2 := goodIn_r _ [349, 350, 351, 352, 353, 354, 355, 356, 357, 358, 359, 360, 361, 362, 363, 364, 365, 366, 367, 368, 369, 370, 371, 372] (by decide +kernel) (by decide +kernel)
set_option maxRecDepth 20000 in
theorem gd_L_plays_X9_parse_r3 : GoodIn wsL_plays wsX9_parse_r3 := goodIn_r _ [99, 373, 374, 375, 376, 377, 378, 379, 380, 381, 382, 383, 384, 385, 386, 387, 388, 389, 390, 391, 392, 393, 394, 395] (by decide +kernel) (by decide +kernel)
set_option maxRecDepth 20000 in
theorem gd_L_plays_X9_parse_r4 : GoodIn wsL_plays wsX9_parse_r4 := goodIn_r _ [396, 397, 398, 399, 400, 401, 402, 403, 404, 405, 406, 407, 408, 409, 410, 411, 412, 413, 414, 415, 416, 417, 418, 419] (by decide +kernel) (by decide +kernel)
set_option maxRecDepth 20000 in
theorem gd_L_plays_X9_parse_r5 : GoodIn wsL_plays wsX9_parse_r5 := goodIn_r _ [420, 421, 422, 144, 145, 131, 146, 147, 148, 149, 150, 151, 152, 153, 423, 296, 297, 298, 299, 300, 301, 302, 303, 304] (by decide +kernel) (by decide +kernel)
set_option maxRecDepth 20000 in
theorem gd_L_plays_X9_parse_r6 : GoodIn wsL_plays wsX9_parse_r6 := goodIn_r _ [172, 305, 306, 235, 236, 133, 237, 238, 136, 239, 307, 308, 20, 309, 231, 232, 233, 126, 127, 128, 234, 284, 285, 286] (by decide +kernel) (by decide +kernel)
set_option maxRecDepth 20000 in
theorem gd_L_plays_X9_parse_r7 : GoodIn wsL_plays wsX9_parse_r7 := goodIn_r _ [122, 141, 142, 424, 425, 426, 427, 428, 429, 430, 431, 432, 433, 434, 435, 436, 437, 438, 439, 440, 441, 442, 443, 444] (by decide +kernel) (by decide +kernel)
set_option maxRecDepth 20000 in
theorem gd_L_plays_X9_parse_r8 : GoodIn wsL_plays wsX9_parse_r8 := goodIn_r _ [445, 446, 447, 448, 449, 450, 451, 452, 453, 454, 455, 456, 457, 458, 459, 460, 461, 462, 463, 464, 465, 466, 467, 468] (by decide +kernel) (by decide +kernel)
