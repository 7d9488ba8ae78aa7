set_option maxRecDepth 20000 in
theorem gd_L_law_L_plays_r8 : GoodIn wsL_law wsL_plays_r8 := goodIn_r _ [310, 311, 312, 313, 314, 315, 316, 317, 318, 319, 320, 321, 322, 323, 324, 325, 326, 327, 328, 329, 330, 331, 332, 333] (by decide +kernel) (by decide +kernel)
set_option maxRecDepth 20000 in
theorem gd_L_law_L_plays_r9 : GoodIn wsL_law wsL_plays_r9 := goodIn_r _ [334, 335, 336, 337, 338, 339, 340, 341, 342, 343, 344, 345, 346, 347, 348, 349, 350, 351, 352, 353, 354, 355, 356, 357] (by decide +kernel) (by decide +kernel)
set_option maxRecDepth 20000 in
theorem gd_L_law_L_plays_r10 : GoodIn wsL_law wsL_plays_r10 := goodIn_r _ [358, 359, 360, 361, 362, 363, 364, 365, 366, 367, 368, 369, 370, 371, 372, 373, 374, 375, 376, 377, 378, 379, 380, 381] (by decide +kernel) (by decide +kernel)
set_option maxRecDepth 20000 in
theorem gd_L_law_L_plays_r11 : GoodIn wsL_law wsL_plays_r11 := goodIn_r _ [382, 383, 384, 385, 386, 387, 388, 389, 390, 391, 392, 393, 394, 395, 396, 397, 398, 399, 400, 401, 402, 403, 404, 405] (by decide +kernel) (by decide +kernel)
set_option maxRecDepth 20000 in
theorem gd_L_law_L_plays_r12 : GoodIn wsL_law wsL_plays_r12 := goodIn_r _ [406, 407, 408, 409, 410, 411, 412, 413, 414, 415, 416, 417, 418, 419, 420, 421, 422, 423, 424, 425, 426, 427, 428, 429] (by decide +kernel) (by decide +kernel)
set_option maxRecDepth 20000 in
theorem gd_L_law_L_plays_r13 : GoodIn wsL_law wsL_plays_r13 := goodIn_r _ [430, 431, 432, 433, 434, 435, 436, 437, 438, 439, 440, 441, 442, 443, 444, 445, 446, 447, 448, 449, 450, 451, 452, 453] (by decide +kernel) (by decide +kernel)
set_option maxRecDepth 20000 in
theorem gd_L_law_L_plays_r14 : GoodIn wsL_law wsL_plays_r14 := goodIn_r _ [2, 454, 11, 455, 456, 457, 458, 10, 459, 460, 461, 462, 463, 464, 465, 466, 16, 21, 467, 12, 468, 469, 470, 15] (by decide +kernel) (by decide +kernel)
set_option maxRecDepth 20000 in
theorem gd_L_law_L_plays_r15 : GoodIn wsL_law wsL_plays_r15 := goodIn_r _ [471, 51, 472, 50, 473, 474, 46, 475, 85, 86, 19, 87, 67, 71, 88, 89, 90, 91, 92, 93, 94, 95, 96, 97] (by decide +kernel) (by decide +kernel)
set_option maxRecDepth 20000 in
theorem gd_L_law_L_plays_r16 : GoodIn wsL_law wsL_plays_r16 := goodIn_r _ [98, 99, 100, 66, 101, 102, 103, 104, 105, 106, 476, 477, 478, 479, 480, 481, 49, 482, 483, 484, 485, 486, 487, 488] (by decide +kernel) (by decide +kernel)
set_option maxRecDepth 20000 in
theorem gd_L_law_L_plays_r17 : GoodIn wsL_law wsL_plays_r17 := goodIn_r _ [489, 490, 56, 57, 58, 59, 491, 492, 493, 494, 495, 496, 497, 498, 499, 500, 501, 502, 503, 504, 505, 506, 507, 508] (by decide +kernel) (by decide +kernel)
set_option maxRecDepth 20000 in
theorem gd_L_law_L_plays_r18 : GoodIn wsL_law wsL_plays_r18 := goodIn_r _ [509, 510, 511, 512, 513, 514, 515, 516, 517, 518, 519, 520, 521, 522, 523, 524, 525, 526, 527, 528, 52, 529, 530, 531] (by decide +kernel) (by decide +kernel)
set_option maxRecDepth 20000 in
theorem gd_L_law_L_plays_r19 : GoodIn wsL_law wsL_plays_r19 := goodIn_r _ [532, 533, 534, 535, 536, 537, 70, 538, 539, 82, 540, 541, 542, 543, 83, 544, 545, 546, 547, 548, 549, 550, 551, 552] (by decide +kernel) (by decide +kernel)
set_option maxRecDepth 20000 in
theorem gd_L_law_L_plays_r20 : GoodIn wsL_law wsL_plays_r20 := goodIn_r _ [553, 554, 555, 556, 557, 558, 559, 560, 561, 562, 563, 564, 565, 72, 73, 566, 567, 568, 569, 570, 571, 572, 573, 574] (by decide +kernel) (by decide +kernel)
set_option maxRecDepth 20000 in
theorem gd_L_law_L_plays_r21 : GoodIn wsL_law wsL_plays_r21 := goodIn_r _ [74, 75, 575, 576, 577, 578, 579, 580, 581, 582, 583, 584, 585, 586, 587, 588, 589, 590, 591, 592, 593, 594, 595, 596] (by decide +kernel) (by decide +kernel)
