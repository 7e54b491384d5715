set_option maxRecDepth 20000 in
theorem ggL_law_X8_init : GoodIn wsL_law wsX8_init := goodIn_r _ [9, 10, 11, 12, 13, 14, 15, 16, 17, 18, 19, 20, 21, 22, 23, 24, 25, 26, 27, 28, 29, 30, 31, 32, 33, 34, 35, 36, 37, 38, 39, 40, 41, 42, 43, 44, 45, 46, 47, 48, 49, 50, 51, 52, 53, 54, 55, 56, 57, 58, 59, 60, 61, 62, 63, 64, 65, 66, 67, 68, 69, 70, 71, 72, 73, 74, 75, 76, 77, 78, 79, 80, 81, 82, 83, 84, 85, 86, 87, 88, 89, 90, 91, 92, 958, 959, 929, 930, 931, 932, 933, 934, 935, 936, 937, 960, 961, 962, 963, 964, 965, 966, 967, 968, 969, 970, 971, 972, 973, 974, 975, 976, 977, 978, 979, 980, 981, 982, 983, 984, 985, 986, 987, 988, 989, 990, 991, 992, 993, 994, 995, 996, 997] rfl (by decide +kernel)
set_option maxRecDepth 20000 in
theorem gL_law_X8_init : GoodIn wsL_law (wsX8_init) := ggL_law_X8_init
set_option maxRecDepth 20000 in
theorem ggL_law_X9_init : GoodIn wsL_law wsX9_init := goodIn_r _ [95, 96, 11, 12, 51, 97, 98, 99, 100, 101, 102, 103, 104, 938, 939, 940, 941, 942, 943, 944, 945, 946, 947, 948, 949, 950, 951, 952, 953, 954, 955, 956, 957] rfl (by decide +kernel)
set_option maxRecDepth 20000 in
theorem gL_law_X9_init : GoodIn wsL_law (wsX9_init) := ggL_law_X9_init
set_option maxRecDepth 20000 in
theorem ggL_law_X8_feed : GoodIn wsL_law wsX8_feed := goodIn_r _ [108, 16, 109, 110, 111, 112, 15, 113, 114, 47, 115, 116, 117, 118, 929, 930, 931, 932, 933, 934, 935, 936, 937, 958, 959] rfl (by decide +kernel)
set_option maxRecDepth 20000 in
theorem gL_law_X8_feed : GoodIn wsL_law (wsV RL 19 RX8 yX8_feed wsX8_feed) := goodIn_app (goodIn_r _ [105, 106, 107, 2] rfl (by decide +kernel)) ggL_law_X8_feed
set_option maxRecDepth 20000 in
theorem ggL_law_X9_feed : GoodIn wsL_law wsX9_feed := goodIn_r _ [122, 123, 124, 125, 126, 127, 5, 128, 97, 938, 939, 940, 941, 942, 943, 944, 945, 946, 947, 948, 949, 950, 951, 952, 953, 954, 955, 956, 957] rfl (by decide +kernel)
set_option maxRecDepth 20000 in
theorem gL_law_X9_feed : GoodIn wsL_law (wsV RL 23 RX9 yX9_feed wsX9_feed) := goodIn_app (goodIn_r _ [119, 120, 121, 5] rfl (by decide +kernel)) ggL_law_X9_feed
set_option maxRecDepth 20000 in
theorem ggL_law_X8_end : GoodIn wsL_law wsX8_end := goodIn_r _ [132, 16, 109, 929, 930, 931, 932, 933, 934, 935, 936, 937, 958, 959] rfl (by decide +kernel)
set_option maxRecDepth 20000 in
theorem gL_law_X8_end : GoodIn wsL_law (wsV RL 24 RX8 yX8_end wsX8_end) := goodIn_app (goodIn_r _ [129, 130, 131, 2] rfl (by decide +kernel)) ggL_law_X8_end
set_option maxRecDepth 20000 in
theorem ggL_law_X9_end : GoodIn wsL_law wsX9_end := goodIn_r _ [136, 123, 124, 938, 939, 940, 941, 942, 943, 944, 945, 946, 947, 948, 949, 950, 951, 952, 953, 954, 955, 956, 957] rfl (by decide +kernel)
set_option maxRecDepth 20000 in
theorem gL_law_X9_end : GoodIn wsL_law (wsV RL 28 RX9 yX9_end wsX9_end) := goodIn_app (goodIn_r _ [133, 134, 135, 5] rfl (by decide +kernel)) ggL_law_X9_end
set_option maxRecDepth 20000 in
theorem ggL_law_X8_text : GoodIn wsL_law wsX8_text := goodIn_r _ [140, 20, 16, 25, 109, 141, 42, 142, 24, 41, 143, 144, 145, 146, 147, 19, 148, 149, 150, 151, 152, 153, 154, 155, 156, 23, 157, 59, 158, 60, 61, 62, 63, 64, 159, 160, 161, 162, 163, 164, 165, 166, 167, 168, 169, 170, 171, 172, 173, 71, 174, 175, 176, 177, 178, 15, 179, 114, 47, 180, 181, 182, 183, 184, 185, 186, 187, 188, 189, 190, 191, 192, 193, 194, 195, 196, 197, 198, 199, 200, 201, 202, 203, 204, 205, 206, 207, 208, 209, 210, 211, 212, 213, 214, 215, 216, 217, 218, 219, 220, 221, 222, 223, 224, 225, 226, 227, 228, 229, 230, 231, 232, 233, 234, 235, 236, 237, 238, 239, 240, 241, 242, 243, 244, 245, 246, 247, 248, 249, 250, 251, 252, 253, 254, 255, 256, 257, 258, 259, 260, 261, 262, 263, 264, 265, 266, 267, 268, 269, 270, 271, 272, 273, 274, 275, 276, 277, 278, 279, 280, 281, 58, 282, 283, 73, 284, 285, 286, 287, 288, 289, 290, 52, 291, 292, 293, 294, 295, 70, 72, 296, 297, 298, 299, 300, 301, 302, 303, 304, 305, 306, 307, 308, 309, 310, 311, 74, 312, 313, 314, 315, 316, 317, 318, 319, 320, 321, 322, 323, 324, 325, 326, 327, 328, 329, 330, 331, 332, 333, 334, 335, 336, 337, 338, 339, 340, 341, 342, 343, 344, 345, 346, 929, 930, 931, 932, 933, 934, 935, 936, 937, 958, 959, 960, 961, 962, 963, 964, 965, 966, 967, 993, 994, 968, 969, 970, 971, 972, 973, 974, 975, 976, 977, 978, 979, 980, 981, 995, 996, 997] rfl (by decide +kernel)
set_option maxRecDepth 20000 in
theorem gL_law_X8_text : GoodIn wsL_law (wsV RL 29 RX8 yX8_text wsX8_text) := goodIn_app (goodIn_r _ [137, 138, 139, 2] rfl (by decide +kernel)) ggL_law_X8_text
set_option maxRecDepth 20000 in
theorem ggL_law_X9_text : GoodIn wsL_law wsX9_text := goodIn_r _ [350, 123, 124, 351, 352, 353, 99, 354, 355, 98, 356, 357, 358, 359, 5, 360, 97, 361, 362, 363, 364, 365, 366, 367, 368, 369, 370, 371, 372, 373, 374, 375, 376, 377, 378, 379, 380, 381, 382, 383, 384, 385, 386, 387, 388, 389, 390, 391, 392, 393, 394, 395, 396, 397, 398, 399, 400, 401, 402, 403, 404, 405, 406, 407, 408, 409, 410, 411, 412, 413, 414, 415, 416, 417, 418, 419, 938, 939, 940, 941, 942, 943, 944, 945, 946, 947, 948, 949, 950, 951, 952, 953, 954, 955, 956, 957] rfl (by decide +kernel)
set_option maxRecDepth 20000 in
theorem gL_law_X9_text : GoodIn wsL_law (wsV RL 33 RX9 yX9_text wsX9_text) := goodIn_app (goodIn_r _ [347, 348, 349, 5] rfl (by decide +kernel)) ggL_law_X9_text
set_option maxRecDepth 20000 in
theorem ggL_law_X8_fault : GoodIn wsL_law wsX8_fault := goodIn_r _ [423, 42, 929, 930, 931, 932, 933, 934, 935, 936, 937] rfl (by decide +kernel)
set_option maxRecDepth 20000 in
theorem gL_law_X8_fault : GoodIn wsL_law (wsV RL 34 RX8 yX8_fault wsX8_fault) := goodIn_app (goodIn_r _ [420, 421, 422, 2] rfl (by decide +kernel)) ggL_law_X8_fault
set_option maxRecDepth 20000 in
theorem ggL_law_X9_fault : GoodIn wsL_law wsX9_fault := goodIn_r _ [427, 123, 352, 938, 939, 940, 941, 942, 943, 944, 945, 946, 947, 948, 949, 950, 951, 952, 953, 954, 955, 956, 957] rfl (by decide +kernel)
set_option maxRecDepth 20000 in
theorem gL_law_X9_fault : GoodIn wsL_law (wsV RL 37 RX9 yX9_fault wsX9_fault) := goodIn_app (goodIn_r _ [424, 425, 426, 5] rfl (by decide +kernel)) ggL_law_X9_fault
set_option maxRecDepth 20000 in
theorem ggL_law_X8_now : GoodIn wsL_law wsX8_now := goodIn_r _ [431, 24, 432, 33, 29, 433, 434, 435, 37, 436, 437, 41, 143, 16, 109, 438, 439, 440, 441, 23, 442, 62, 443, 444, 445, 58, 446, 283, 73, 74, 447, 448, 449, 450, 60, 158, 451, 173, 71, 174, 165, 452, 453, 301, 302, 303, 454, 309, 310, 311, 455, 456, 457, 458, 160, 63, 64, 459, 460, 461, 2, 462, 463, 464, 465, 28, 466, 467, 70, 72, 80, 468, 469, 470, 471, 78, 79, 472, 473, 474, 475, 162, 159, 163, 476, 477, 478, 479, 480, 481, 482, 59, 483, 484, 485, 486, 487, 488, 489, 490, 32, 491, 84, 492, 493, 494, 495, 496, 497, 498, 499, 500, 501, 502, 503, 504, 505, 506, 507, 508, 509, 510, 85, 511, 512, 513, 514, 515, 516, 517, 518, 519, 520, 521, 522, 523, 524, 525, 526, 527, 528, 529, 530, 531, 532, 533, 534, 535, 536, 537, 538, 539, 540, 541, 542, 543, 544, 545, 546, 547, 548, 36, 549, 550, 551, 552, 553, 554, 555, 556, 557, 558, 559, 560, 561, 562, 563, 564, 565, 566, 567, 568, 569, 570, 571, 572, 573, 574, 929, 930, 931, 932, 933, 934, 935, 936, 937, 968, 969, 970, 971, 972, 973, 974, 975, 976, 977, 978, 979, 980, 981, 995, 996, 997, 987, 988, 989, 990, 991, 992, 993, 994, 958, 959, 982, 983, 984, 985, 986] rfl (by decide +kernel)
set_option maxRecDepth 20000 in
theorem gL_law_X8_now : GoodIn wsL_law (wsV RL 38 RX8 yX8_now wsX8_now) := goodIn_app (goodIn_r _ [428, 429, 430, 2] rfl (by decide +kernel)) ggL_law_X8_now
set_option maxRecDepth 20000 in
theorem ggL_law_X9_now : GoodIn wsL_law wsX9_now := goodIn_r _ [578, 123, 98, 579, 356, 124, 580, 581, 582, 583, 5, 584, 585, 586, 587, 588, 589, 590, 591, 592, 593, 594, 595, 596, 597, 598, 599, 600, 601, 602, 603, 604, 605, 606, 607, 608, 609, 101, 610, 611, 612, 613, 614, 615, 616, 617, 618, 619, 620, 621, 622, 623, 624, 625, 626, 627, 628, 629, 630, 102, 103, 631, 632, 633, 634, 635, 636, 637, 638, 639, 640, 641, 642, 643, 644, 645, 646, 647, 648, 649, 650, 651, 104, 938, 939, 940, 941, 942, 943, 944, 945, 946, 947, 948, 949, 950, 951, 952, 953, 954, 955, 956, 957] rfl (by decide +kernel)
set_option maxRecDepth 20000 in
theorem gL_law_X9_now : GoodIn wsL_law (wsV RL 42 RX9 yX9_now wsX9_now) := goodIn_app (goodIn_r _ [575, 576, 577, 5] rfl (by decide +kernel)) ggL_law_X9_now
set_option maxRecDepth 20000 in
theorem ggL_law_X8_tax : GoodIn wsL_law wsX8_tax := goodIn_r _ [655, 656, 24, 657, 658, 2, 659, 447, 448, 449, 23, 450, 60, 158, 451, 173, 71, 174, 165, 452, 453, 301, 302, 58, 303, 283, 73, 454, 309, 310, 311, 74, 929, 930, 931, 932, 933, 934, 935, 936, 937, 968, 969, 970, 971, 972, 973, 974, 975, 976, 977, 978, 979, 980, 981, 995, 996, 997] rfl (by decide +kernel)
set_option maxRecDepth 20000 in
theorem gL_law_X8_tax : GoodIn wsL_law (wsV RL 43 RX8 yX8_tax wsX8_tax) := goodIn_app (goodIn_r _ [652, 653, 654, 2] rfl (by decide +kernel)) ggL_law_X8_tax
set_option maxRecDepth 20000 in
theorem ggL_law_X9_tax : GoodIn wsL_law wsX9_tax := goodIn_r _ [663, 123, 664, 397, 398, 5, 399, 589, 590, 591, 592, 98, 593, 938, 939, 940, 941, 942, 943, 944, 945, 946, 947, 948, 949, 950, 951, 952, 953, 954, 955, 956, 957] rfl (by decide +kernel)
set_option maxRecDepth 20000 in
theorem gL_law_X9_tax : GoodIn wsL_law (wsV RL 46 RX9 yX9_tax wsX9_tax) := goodIn_app (goodIn_r _ [660, 661, 662, 5] rfl (by decide +kernel)) ggL_law_X9_tax
set_option maxRecDepth 20000 in
theorem ggL_law_X8_income : GoodIn wsL_law wsX8_income := goodIn_r _ [668, 24, 669, 670, 671, 2, 672, 657, 658, 659, 545, 444, 445, 58, 446, 283, 73, 74, 929, 930, 931, 932, 933, 934, 935, 936, 937, 968, 969, 970, 971, 972, 973, 974, 975, 976, 977, 978, 979, 980, 981, 995, 996, 997] rfl (by decide +kernel)
set_option maxRecDepth 20000 in
theorem gL_law_X8_income : GoodIn wsL_law (wsV RL 47 RX8 yX8_income wsX8_income) := goodIn_app (goodIn_r _ [665, 666, 667, 2] rfl (by decide +kernel)) ggL_law_X8_income
set_option maxRecDepth 20000 in
theorem ggL_law_X9_income : GoodIn wsL_law wsX9_income := goodIn_r _ [676, 123, 677, 678, 5, 679, 397, 398, 399, 585, 586, 587, 588, 98, 938, 939, 940, 941, 942, 943, 944, 945, 946, 947, 948, 949, 950, 951, 952, 953, 954, 955, 956, 957] rfl (by decide +kernel)
set_option maxRecDepth 20000 in
theorem gL_law_X9_income : GoodIn wsL_law (wsV RL 50 RX9 yX9_income wsX9_income) := goodIn_app (goodIn_r _ [673, 674, 675, 5] rfl (by decide +kernel)) ggL_law_X9_income
set_option maxRecDepth 20000 in
theorem ggL_law_X8_period : GoodIn wsL_law wsX8_period := goodIn_r _ [683, 24, 29, 437, 33, 684, 685, 686, 2, 687, 657, 658, 659, 688, 689, 690, 691, 473, 474, 23, 475, 162, 159, 163, 476, 477, 440, 441, 442, 62, 443, 444, 445, 58, 446, 283, 73, 74, 478, 448, 449, 450, 60, 158, 451, 173, 71, 174, 165, 452, 453, 301, 302, 303, 454, 309, 310, 311, 479, 480, 481, 482, 59, 483, 463, 464, 465, 28, 466, 467, 70, 72, 80, 468, 469, 470, 471, 78, 79, 472, 484, 485, 486, 487, 692, 693, 694, 695, 696, 697, 529, 530, 531, 532, 533, 534, 535, 488, 489, 490, 32, 491, 84, 492, 493, 494, 495, 496, 497, 498, 499, 500, 501, 502, 503, 504, 505, 506, 507, 508, 509, 510, 85, 511, 512, 513, 514, 698, 520, 521, 522, 523, 524, 525, 526, 527, 528, 536, 537, 538, 539, 540, 541, 542, 543, 544, 699, 700, 701, 929, 930, 931, 932, 933, 934, 935, 936, 937, 968, 969, 970, 971, 972, 973, 974, 975, 976, 977, 978, 979, 980, 981, 995, 996, 997, 982, 983, 984, 985, 986] rfl (by decide +kernel)
set_option maxRecDepth 20000 in
theorem gL_law_X8_period : GoodIn wsL_law (wsV RL 51 RX8 yX8_period wsX8_period) := goodIn_app (goodIn_r _ [680, 681, 682, 2] rfl (by decide +kernel)) ggL_law_X8_period
set_option maxRecDepth 20000 in
theorem ggL_law_X9_period : GoodIn wsL_law wsX9_period := goodIn_r _ [705, 123, 98, 101, 397, 398, 5, 399, 602, 603, 604, 605, 606, 607, 608, 609, 610, 611, 612, 613, 614, 615, 616, 617, 618, 619, 620, 621, 581, 582, 583, 584, 585, 586, 587, 588, 589, 590, 591, 592, 593, 622, 623, 624, 625, 626, 627, 628, 629, 630, 102, 103, 594, 595, 596, 597, 631, 632, 633, 634, 639, 640, 641, 642, 643, 644, 645, 646, 647, 938, 939, 940, 941, 942, 943, 944, 945, 946, 947, 948, 949, 950, 951, 952, 953, 954, 955, 956, 957] rfl (by decide +kernel)
set_option maxRecDepth 20000 in
theorem gL_law_X9_period : GoodIn wsL_law (wsV RL 54 RX9 yX9_period wsX9_period) := goodIn_app (goodIn_r _ [702, 703, 704, 5] rfl (by decide +kernel)) ggL_law_X9_period
set_option maxRecDepth 20000 in
theorem ggL_law_X8_unpaid : GoodIn wsL_law wsX8_unpaid := goodIn_r _ [709, 29, 24, 437, 685, 686, 2, 687, 657, 658, 659, 670, 671, 672, 463, 464, 465, 28, 466, 467, 70, 71, 72, 80, 468, 469, 470, 471, 78, 79, 472, 473, 474, 23, 475, 162, 159, 163, 476, 477, 440, 441, 442, 62, 443, 444, 445, 58, 446, 283, 73, 74, 478, 448, 449, 450, 60, 158, 451, 173, 174, 165, 452, 453, 301, 302, 303, 454, 309, 310, 311, 479, 480, 481, 482, 59, 483, 484, 485, 486, 487, 455, 456, 457, 458, 160, 63, 64, 710, 561, 562, 563, 564, 565, 529, 530, 531, 532, 533, 534, 535, 929, 930, 931, 932, 933, 934, 935, 936, 937, 968, 969, 970, 971, 972, 973, 974, 975, 976, 977, 978, 979, 980, 981, 982, 983, 984, 995, 996, 997] rfl (by decide +kernel)
set_option maxRecDepth 20000 in
theorem gL_law_X8_unpaid : GoodIn wsL_law (wsV RL 55 RX8 yX8_unpaid wsX8_unpaid) := goodIn_app (goodIn_r _ [706, 707, 708, 2] rfl (by decide +kernel)) ggL_law_X8_unpaid
set_option maxRecDepth 20000 in
theorem ggL_law_X9_unpaid : GoodIn wsL_law wsX9_unpaid := goodIn_r _ [714, 123, 397, 398, 5, 399, 677, 678, 679, 602, 603, 604, 605, 98, 606, 607, 608, 609, 101, 610, 611, 612, 613, 614, 615, 616, 617, 618, 619, 620, 621, 581, 582, 583, 584, 585, 586, 587, 588, 589, 590, 591, 592, 593, 622, 623, 624, 625, 626, 594, 595, 596, 597, 644, 645, 646, 647, 938, 939, 940, 941, 942, 943, 944, 945, 946, 947, 948, 949, 950, 951, 952, 953, 954, 955, 956, 957] rfl (by decide +kernel)
set_option maxRecDepth 20000 in
theorem gL_law_X9_unpaid : GoodIn wsL_law (wsV RL 58 RX9 yX9_unpaid wsX9_unpaid) := goodIn_app (goodIn_r _ [711, 712, 713, 5] rfl (by decide +kernel)) ggL_law_X9_unpaid
set_option maxRecDepth 20000 in
theorem ggL_law_X8_free : GoodIn wsL_law wsX8_free := goodIn_r _ [718, 29, 24, 437, 670, 671, 2, 672, 657, 658, 659, 463, 464, 465, 28, 466, 467, 70, 71, 72, 80, 468, 469, 470, 471, 78, 79, 472, 473, 474, 23, 475, 162, 159, 163, 476, 477, 440, 441, 442, 62, 443, 444, 445, 58, 446, 283, 73, 74, 478, 448, 449, 450, 60, 158, 451, 173, 174, 165, 452, 453, 301, 302, 303, 454, 309, 310, 311, 479, 480, 481, 482, 59, 483, 484, 485, 486, 487, 455, 456, 457, 458, 160, 63, 64, 719, 720, 721, 722, 723, 724, 725, 726, 727, 728, 729, 565, 529, 530, 531, 532, 533, 534, 535, 929, 930, 931, 932, 933, 934, 935, 936, 937, 968, 969, 970, 971, 972, 973, 974, 975, 976, 977, 978, 979, 980, 981, 982, 983, 984, 995, 996, 997] rfl (by decide +kernel)
set_option maxRecDepth 20000 in
theorem gL_law_X8_free : GoodIn wsL_law (wsV RL 59 RX8 yX8_free wsX8_free) := goodIn_app (goodIn_r _ [715, 716, 717, 2] rfl (by decide +kernel)) ggL_law_X8_free
set_option maxRecDepth 20000 in
theorem ggL_law_X9_free : GoodIn wsL_law wsX9_free := goodIn_r _ [733, 123, 677, 678, 5, 679, 397, 398, 399, 602, 603, 604, 605, 98, 606, 607, 608, 609, 101, 610, 611, 612, 613, 614, 615, 616, 617, 618, 619, 620, 621, 581, 582, 583, 584, 585, 586, 587, 588, 589, 590, 591, 592, 593, 622, 623, 624, 625, 626, 734, 735, 736, 737, 594, 595, 596, 597, 938, 939, 940, 941, 942, 943, 944, 945, 946, 947, 948, 949, 950, 951, 952, 953, 954, 955, 956, 957] rfl (by decide +kernel)
set_option maxRecDepth 20000 in
theorem gL_law_X9_free : GoodIn wsL_law (wsV RL 62 RX9 yX9_free wsX9_free) := goodIn_app (goodIn_r _ [730, 731, 732, 5] rfl (by decide +kernel)) ggL_law_X9_free
set_option maxRecDepth 20000 in
theorem ggL_law_X8_rate : GoodIn wsL_law wsX8_rate := goodIn_r _ [741, 24, 742, 670, 671, 2, 672, 657, 658, 659, 743, 744, 745, 58, 746, 283, 73, 74, 929, 930, 931, 932, 933, 934, 935, 936, 937, 968, 969, 970, 971, 972, 973, 974, 975, 976, 977, 978, 979, 980, 981, 995, 996, 997] rfl (by decide +kernel)
set_option maxRecDepth 20000 in
theorem gL_law_X8_rate : GoodIn wsL_law (wsV RL 63 RX8 yX8_rate wsX8_rate) := goodIn_app (goodIn_r _ [738, 739, 740, 2] rfl (by decide +kernel)) ggL_law_X8_rate
set_option maxRecDepth 20000 in
theorem ggL_law_X9_rate : GoodIn wsL_law wsX9_rate := goodIn_r _ [750, 123, 677, 678, 5, 679, 397, 398, 399, 631, 632, 633, 634, 98, 938, 939, 940, 941, 942, 943, 944, 945, 946, 947, 948, 949, 950, 951, 952, 953, 954, 955, 956, 957] rfl (by decide +kernel)
set_option maxRecDepth 20000 in
theorem gL_law_X9_rate : GoodIn wsL_law (wsV RL 66 RX9 yX9_rate wsX9_rate) := goodIn_app (goodIn_r _ [747, 748, 749, 5] rfl (by decide +kernel)) ggL_law_X9_rate
set_option maxRecDepth 20000 in
theorem ggL_law_X8_payment : GoodIn wsL_law wsX8_payment := goodIn_r _ [754, 24, 433, 755, 512, 513, 58, 514, 283, 699, 301, 302, 303, 73, 700, 309, 310, 311, 74, 929, 930, 931, 932, 933, 934, 935, 936, 937, 968, 969, 970, 971, 972, 973, 974, 975, 976, 977, 978, 979, 980, 981, 995, 996, 997] rfl (by decide +kernel)
set_option maxRecDepth 20000 in
theorem gL_law_X8_payment : GoodIn wsL_law (wsV RL 67 RX8 yX8_payment wsX8_payment) := goodIn_app (goodIn_r _ [751, 752, 753, 2] rfl (by decide +kernel)) ggL_law_X8_payment
set_option maxRecDepth 20000 in
theorem ggL_law_X9_payment : GoodIn wsL_law wsX9_payment := goodIn_r _ [759, 123, 98, 760, 761, 762, 5, 763, 397, 398, 399, 938, 939, 940, 941, 942, 943, 944, 945, 946, 947, 948, 949, 950, 951, 952, 953, 954, 955, 956, 957] rfl (by decide +kernel)
set_option maxRecDepth 20000 in
theorem gL_law_X9_payment : GoodIn wsL_law (wsV RL 70 RX9 yX9_payment wsX9_payment) := goodIn_app (goodIn_r _ [756, 757, 758, 5] rfl (by decide +kernel)) ggL_law_X9_payment
set_option maxRecDepth 20000 in
theorem ggL_law_L_late : GoodIn wsL_law wsL_late := goodIn_ca (goodIn_r _ [767, 768, 769, 770, 771, 2, 772, 773, 774, 37, 24, 29, 33, 436, 775, 776, 777, 778, 779, 459, 460, 461, 462, 437, 463, 464, 465, 28, 466, 467, 70, 71, 72, 80, 468, 469, 470, 471, 78, 79, 472, 473, 474, 23, 475, 162, 159, 163, 476, 477, 440, 441, 442, 62, 443, 444, 445, 58, 446, 283, 73, 74, 478, 448, 449, 450, 60, 158, 451, 173, 174, 165, 452, 453, 301, 302, 303, 454, 309, 310, 311, 479, 480, 481, 482, 59, 483, 484, 485, 486, 487, 488, 489, 490, 32, 491, 84, 492, 493, 494, 495, 496, 497, 498, 499, 500, 501, 502, 503, 504, 505, 506, 507, 508, 509, 510, 85, 511, 512, 513, 514, 546, 547, 548, 36, 549, 550, 551, 552, 553, 554, 555, 556, 557, 558, 559, 538, 539, 540, 560, 561, 562, 563, 564, 565, 529, 530, 531, 532, 533, 534, 535, 566, 542, 543, 544, 567, 568, 569, 570, 571, 572, 573, 574, 929, 930, 931, 932, 933, 934, 935, 936, 937, 987, 988, 989, 990, 991, 992, 968, 969, 970, 971, 972, 973, 974, 975, 976, 977, 978, 979, 980, 981, 982, 983, 984, 995, 996, 997, 985, 986] rfl (by decide +kernel)) (goodIn_sub (fun _ h => List.mem_append_right _ h) (by decide +kernel))
set_option maxRecDepth 20000 in
theorem gL_law_L_late : GoodIn wsL_law (va_wsS RL 71 yL_late wsL_late) := goodIn_app (goodIn_r _ [764, 765, 766] rfl (by decide +kernel)) ggL_law_L_late
set_option maxRecDepth 20000 in
theorem ggL_law_X9_late : GoodIn wsL_law wsX9_late := goodIn_r _ [783, 123, 579, 104, 648, 649, 650, 5, 651, 98, 102, 103, 602, 603, 604, 605, 606, 607, 608, 609, 101, 610, 611, 612, 613, 614, 615, 616, 617, 618, 619, 620, 621, 581, 582, 583, 584, 585, 586, 587, 588, 589, 590, 591, 592, 593, 622, 623, 624, 625, 626, 627, 628, 629, 630, 594, 595, 596, 597, 631, 632, 633, 634, 644, 645, 646, 647, 397, 398, 399, 784, 785, 786, 787, 938, 939, 940, 941, 942, 943, 944, 945, 946, 947, 948, 949, 950, 951, 952, 953, 954, 955, 956, 957] rfl (by decide +kernel)
set_option maxRecDepth 20000 in
theorem gL_law_X9_late : GoodIn wsL_law (wsV RL 76 RX9 yX9_late wsX9_late) := goodIn_app (goodIn_r _ [780, 781, 782, 5] rfl (by decide +kernel)) ggL_law_X9_late
set_option maxRecDepth 20000 in
theorem ggL_law_X9_thrown : GoodIn wsL_law wsX9_thrown := goodIn_r _ [791, 123, 938, 939, 940, 941, 942, 943, 944, 945, 946, 947, 948, 949, 950, 951, 952, 953, 954, 955, 956, 957] rfl (by decide +kernel)
set_option maxRecDepth 20000 in
theorem gL_law_X9_thrown : GoodIn wsL_law (wsV RL 77 RX9 yX9_thrown wsX9_thrown) := goodIn_app (goodIn_r _ [788, 789, 790, 5] rfl (by decide +kernel)) ggL_law_X9_thrown
set_option maxRecDepth 20000 in
theorem ggL_law_X8_moved : GoodIn wsL_law wsX8_moved := goodIn_r _ [795, 24, 433, 33, 29, 755, 512, 513, 58, 514, 283, 670, 671, 2, 672, 657, 658, 659, 700, 309, 310, 311, 74, 459, 460, 461, 462, 437, 463, 464, 465, 28, 466, 467, 70, 71, 72, 80, 468, 469, 470, 471, 78, 79, 472, 473, 474, 23, 475, 162, 159, 163, 476, 477, 440, 441, 442, 62, 443, 444, 445, 446, 73, 478, 448, 449, 450, 60, 158, 451, 173, 174, 165, 452, 453, 301, 302, 303, 454, 479, 480, 481, 482, 59, 483, 484, 485, 486, 487, 488, 489, 490, 32, 491, 84, 492, 493, 494, 495, 496, 497, 498, 499, 500, 501, 502, 503, 504, 505, 506, 507, 508, 509, 510, 85, 511, 699, 796, 797, 798, 799, 526, 515, 516, 517, 518, 519, 520, 521, 522, 523, 524, 525, 527, 528, 529, 530, 531, 532, 533, 534, 535, 536, 537, 538, 539, 540, 541, 542, 543, 544, 929, 930, 931, 932, 933, 934, 935, 936, 937, 968, 969, 970, 971, 972, 973, 974, 975, 976, 977, 978, 979, 980, 981, 995, 996, 997, 982, 983, 984, 985, 986] rfl (by decide +kernel)
set_option maxRecDepth 20000 in
theorem gL_law_X8_moved : GoodIn wsL_law (wsV RL 80 RX8 yX8_moved wsX8_moved) := goodIn_app (goodIn_r _ [792, 793, 794, 2] rfl (by decide +kernel)) ggL_law_X8_moved
set_option maxRecDepth 20000 in
theorem ggL_law_X9_moved : GoodIn wsL_law wsX9_moved := goodIn_r _ [803, 123, 760, 761, 762, 5, 763, 98, 397, 398, 399, 677, 678, 679, 804, 805, 806, 807, 598, 599, 600, 601, 602, 603, 604, 605, 606, 607, 608, 609, 101, 610, 611, 612, 613, 614, 615, 616, 617, 618, 619, 620, 621, 581, 582, 583, 584, 585, 586, 587, 588, 589, 590, 591, 592, 593, 622, 623, 624, 625, 626, 627, 628, 629, 630, 102, 103, 594, 595, 596, 597, 631, 632, 633, 634, 635, 636, 637, 638, 639, 640, 641, 642, 643, 644, 645, 646, 647, 938, 939, 940, 941, 942, 943, 944, 945, 946, 947, 948, 949, 950, 951, 952, 953, 954, 955, 956, 957] rfl (by decide +kernel)
set_option maxRecDepth 20000 in
theorem gL_law_X9_moved : GoodIn wsL_law (wsV RL 83 RX9 yX9_moved wsX9_moved) := goodIn_app (goodIn_r _ [800, 801, 802, 5] rfl (by decide +kernel)) ggL_law_X9_moved
set_option maxRecDepth 20000 in
theorem ggL_law_X8_were : GoodIn wsL_law wsX8_were := goodIn_r _ [811, 24, 433, 812, 33, 29, 755, 512, 513, 58, 514, 283, 657, 658, 2, 659, 459, 460, 461, 462, 437, 463, 464, 465, 28, 466, 467, 70, 71, 72, 80, 468, 469, 470, 471, 78, 79, 472, 473, 474, 23, 475, 162, 159, 163, 476, 477, 440, 441, 442, 62, 443, 444, 445, 446, 73, 74, 478, 448, 449, 450, 60, 158, 451, 173, 174, 165, 452, 453, 301, 302, 303, 454, 309, 310, 311, 479, 480, 481, 482, 59, 483, 484, 485, 486, 487, 488, 489, 490, 32, 491, 84, 492, 493, 494, 495, 496, 497, 498, 499, 500, 501, 502, 503, 504, 505, 506, 507, 508, 509, 510, 85, 511, 699, 700, 796, 797, 798, 799, 526, 515, 516, 517, 518, 519, 520, 521, 522, 523, 524, 525, 527, 528, 529, 530, 531, 532, 533, 534, 535, 536, 537, 538, 539, 540, 541, 542, 543, 544, 929, 930, 931, 932, 933, 934, 935, 936, 937, 968, 969, 970, 971, 972, 973, 974, 975, 976, 977, 978, 979, 980, 981, 995, 996, 997, 982, 983, 984, 985, 986] rfl (by decide +kernel)
set_option maxRecDepth 20000 in
theorem gL_law_X8_were : GoodIn wsL_law (wsV RL 84 RX8 yX8_were wsX8_were) := goodIn_app (goodIn_r _ [808, 809, 810, 2] rfl (by decide +kernel)) ggL_law_X8_were
set_option maxRecDepth 20000 in
theorem ggL_law_X9_were : GoodIn wsL_law wsX9_were := goodIn_r _ [816, 123, 384, 760, 761, 762, 5, 763, 98, 397, 398, 399, 804, 805, 806, 807, 598, 599, 600, 601, 602, 603, 604, 605, 606, 607, 608, 609, 101, 610, 611, 612, 613, 614, 615, 616, 617, 618, 619, 620, 621, 581, 582, 583, 584, 585, 586, 587, 588, 589, 590, 591, 592, 593, 622, 623, 624, 625, 626, 627, 628, 629, 630, 102, 103, 594, 595, 596, 597, 631, 632, 633, 634, 635, 636, 637, 638, 639, 640, 641, 642, 643, 644, 645, 646, 647, 938, 939, 940, 941, 942, 943, 944, 945, 946, 947, 948, 949, 950, 951, 952, 953, 954, 955, 956, 957] rfl (by decide +kernel)
set_option maxRecDepth 20000 in
theorem gL_law_X9_were : GoodIn wsL_law (wsV RL 87 RX9 yX9_were wsX9_were) := goodIn_app (goodIn_r _ [813, 814, 815, 5] rfl (by decide +kernel)) ggL_law_X9_were
set_option maxRecDepth 20000 in
theorem ggL_law_X8_barring : GoodIn wsL_law wsX8_barring := goodIn_r _ [820, 29, 24, 437, 33, 821, 822, 823, 2, 824, 688, 689, 690, 657, 658, 659, 463, 464, 465, 28, 466, 467, 70, 71, 72, 80, 468, 469, 470, 471, 78, 79, 472, 473, 474, 23, 475, 162, 159, 163, 476, 477, 440, 441, 442, 62, 443, 444, 445, 58, 446, 283, 73, 74, 478, 448, 449, 450, 60, 158, 451, 173, 174, 165, 452, 453, 301, 302, 303, 454, 309, 310, 311, 479, 480, 481, 482, 59, 483, 484, 485, 486, 487, 488, 489, 490, 32, 491, 84, 492, 493, 494, 495, 496, 497, 498, 499, 500, 501, 502, 503, 504, 505, 506, 507, 508, 509, 510, 85, 511, 512, 513, 514, 515, 516, 517, 518, 519, 520, 521, 522, 523, 524, 525, 526, 527, 528, 529, 530, 531, 532, 533, 534, 535, 536, 537, 538, 539, 540, 541, 542, 543, 544, 929, 930, 931, 932, 933, 934, 935, 936, 937, 968, 969, 970, 971, 972, 973, 974, 975, 976, 977, 978, 979, 980, 981, 982, 983, 984, 995, 996, 997, 985, 986] rfl (by decide +kernel)
set_option maxRecDepth 20000 in
theorem gL_law_X8_barring : GoodIn wsL_law (wsV RL 88 RX8 yX8_barring wsX8_barring) := goodIn_app (goodIn_r _ [817, 818, 819, 2] rfl (by decide +kernel)) ggL_law_X8_barring
set_option maxRecDepth 20000 in
theorem ggL_law_X9_barring : GoodIn wsL_law wsX9_barring := goodIn_r _ [828, 123, 829, 830, 831, 5, 832, 98, 397, 398, 399, 804, 805, 806, 807, 598, 599, 600, 601, 602, 603, 604, 605, 606, 607, 608, 609, 101, 610, 611, 612, 613, 614, 615, 616, 617, 618, 619, 620, 621, 581, 582, 583, 584, 585, 586, 587, 588, 589, 590, 591, 592, 593, 622, 623, 624, 625, 626, 627, 628, 629, 630, 102, 103, 594, 595, 596, 597, 631, 632, 633, 634, 635, 636, 637, 638, 639, 640, 641, 642, 643, 644, 645, 646, 647, 938, 939, 940, 941, 942, 943, 944, 945, 946, 947, 948, 949, 950, 951, 952, 953, 954, 955, 956, 957] rfl (by decide +kernel)
set_option maxRecDepth 20000 in
theorem gL_law_X9_barring : GoodIn wsL_law (wsV RL 91 RX9 yX9_barring wsX9_barring) := goodIn_app (goodIn_r _ [825, 826, 827, 5] rfl (by decide +kernel)) ggL_law_X9_barring
set_option maxRecDepth 20000 in
theorem ggL_law_X8_latest : GoodIn wsL_law wsX8_latest := goodIn_r _ [836, 24, 432, 837, 838, 2, 839, 812, 657, 658, 659, 459, 460, 461, 462, 29, 437, 33, 463, 464, 465, 28, 466, 467, 70, 71, 72, 80, 468, 469, 470, 471, 78, 79, 472, 473, 474, 23, 475, 162, 159, 163, 476, 477, 440, 441, 442, 62, 443, 444, 445, 58, 446, 283, 73, 74, 478, 448, 449, 450, 60, 158, 451, 173, 174, 165, 452, 453, 301, 302, 303, 454, 309, 310, 311, 479, 480, 481, 482, 59, 483, 484, 485, 486, 487, 488, 489, 490, 32, 491, 84, 492, 493, 494, 495, 496, 497, 498, 499, 500, 501, 502, 503, 504, 505, 506, 507, 508, 509, 510, 85, 511, 512, 513, 514, 840, 841, 842, 843, 796, 797, 798, 799, 526, 515, 516, 517, 518, 519, 520, 521, 522, 523, 524, 525, 527, 528, 529, 530, 531, 532, 533, 534, 535, 536, 537, 538, 539, 540, 541, 542, 543, 544, 929, 930, 931, 932, 933, 934, 935, 936, 937, 968, 969, 970, 971, 972, 973, 974, 975, 976, 977, 978, 979, 980, 981, 982, 983, 984, 995, 996, 997, 985, 986] rfl (by decide +kernel)
set_option maxRecDepth 20000 in
theorem gL_law_X8_latest : GoodIn wsL_law (wsV RL 92 RX8 yX8_latest wsX8_latest) := goodIn_app (goodIn_r _ [833, 834, 835, 2] rfl (by decide +kernel)) ggL_law_X8_latest
set_option maxRecDepth 20000 in
theorem ggL_law_X9_latest : GoodIn wsL_law wsX9_latest := goodIn_r _ [847, 123, 384, 98, 397, 398, 5, 399, 598, 599, 600, 601, 602, 603, 604, 605, 606, 607, 608, 609, 101, 610, 611, 612, 613, 614, 615, 616, 617, 618, 619, 620, 621, 581, 582, 583, 584, 585, 586, 587, 588, 589, 590, 591, 592, 593, 622, 623, 624, 625, 626, 627, 628, 629, 630, 102, 103, 594, 595, 596, 597, 631, 632, 633, 634, 635, 636, 637, 638, 639, 640, 641, 642, 643, 644, 645, 646, 647, 938, 939, 940, 941, 942, 943, 944, 945, 946, 947, 948, 949, 950, 951, 952, 953, 954, 955, 956, 957] rfl (by decide +kernel)
set_option maxRecDepth 20000 in
theorem gL_law_X9_latest : GoodIn wsL_law (wsV RL 95 RX9 yX9_latest wsX9_latest) := goodIn_app (goodIn_r _ [844, 845, 846, 5] rfl (by decide +kernel)) ggL_law_X9_latest
set_option maxRecDepth 20000 in
theorem ggL_law_X8_clears : GoodIn wsL_law wsX8_clears := goodIn_r _ [851, 29, 24, 437, 432, 723, 70, 71, 72, 670, 671, 2, 672, 657, 658, 659, 463, 464, 465, 28, 466, 467, 80, 468, 469, 470, 471, 78, 79, 472, 473, 474, 23, 475, 162, 159, 163, 476, 477, 440, 441, 442, 62, 443, 444, 445, 58, 446, 283, 73, 74, 478, 448, 449, 450, 60, 158, 451, 173, 174, 165, 452, 453, 301, 302, 303, 454, 309, 310, 311, 479, 480, 481, 482, 59, 483, 484, 485, 486, 487, 724, 725, 726, 727, 728, 729, 565, 529, 530, 531, 532, 533, 534, 535, 455, 456, 457, 458, 160, 63, 64, 929, 930, 931, 932, 933, 934, 935, 936, 937, 968, 969, 970, 971, 972, 973, 974, 975, 976, 977, 978, 979, 980, 981, 982, 983, 984, 995, 996, 997] rfl (by decide +kernel)
set_option maxRecDepth 20000 in
theorem gL_law_X8_clears : GoodIn wsL_law (wsV RL 96 RX8 yX8_clears wsX8_clears) := goodIn_app (goodIn_r _ [848, 849, 850, 2] rfl (by decide +kernel)) ggL_law_X8_clears
set_option maxRecDepth 20000 in
theorem ggL_law_X9_clears : GoodIn wsL_law wsX9_clears := goodIn_r _ [855, 123, 101, 677, 678, 5, 679, 397, 398, 399, 602, 603, 604, 605, 98, 606, 607, 608, 609, 610, 611, 612, 613, 614, 615, 616, 617, 618, 619, 620, 621, 581, 582, 583, 584, 585, 586, 587, 588, 589, 590, 591, 592, 593, 622, 623, 624, 625, 626, 594, 595, 596, 597, 938, 939, 940, 941, 942, 943, 944, 945, 946, 947, 948, 949, 950, 951, 952, 953, 954, 955, 956, 957] rfl (by decide +kernel)
set_option maxRecDepth 20000 in
theorem gL_law_X9_clears : GoodIn wsL_law (wsV RL 99 RX9 yX9_clears wsX9_clears) := goodIn_app (goodIn_r _ [852, 853, 854, 5] rfl (by decide +kernel)) ggL_law_X9_clears
set_option maxRecDepth 20000 in
theorem ggL_law_X8_earn : GoodIn wsL_law wsX8_earn := goodIn_r _ [859, 24, 669, 41, 657, 658, 2, 659, 837, 838, 839, 812, 860, 280, 281, 58, 282, 283, 73, 861, 335, 336, 337, 74, 862, 863, 864, 40, 865, 866, 92, 867, 868, 869, 870, 439, 440, 441, 23, 442, 62, 443, 444, 445, 446, 929, 930, 931, 932, 933, 934, 935, 936, 937, 968, 969, 970, 971, 972, 973, 974, 975, 976, 977, 978, 979, 980, 981, 995, 996, 997, 993, 994] rfl (by decide +kernel)
set_option maxRecDepth 20000 in
theorem gL_law_X8_earn : GoodIn wsL_law (wsV RL 100 RX8 yX8_earn wsX8_earn) := goodIn_app (goodIn_r _ [856, 857, 858, 2] rfl (by decide +kernel)) ggL_law_X8_earn
set_option maxRecDepth 20000 in
theorem ggL_law_X9_earn : GoodIn wsL_law wsX9_earn := goodIn_r _ [874, 123, 384, 98, 397, 398, 5, 399, 875, 876, 877, 878, 879, 880, 881, 882, 356, 100, 581, 582, 583, 584, 585, 586, 587, 588, 938, 939, 940, 941, 942, 943, 944, 945, 946, 947, 948, 949, 950, 951, 952, 953, 954, 955, 956, 957] rfl (by decide +kernel)
set_option maxRecDepth 20000 in
theorem gL_law_X9_earn : GoodIn wsL_law (wsV RL 103 RX9 yX9_earn wsX9_earn) := goodIn_app (goodIn_r _ [871, 872, 873, 5] rfl (by decide +kernel)) ggL_law_X9_earn
set_option maxRecDepth 20000 in
theorem ggL_law_X8_pay : GoodIn wsL_law wsX8_pay := goodIn_r _ [886, 24, 433, 41, 434, 670, 671, 2, 672, 657, 658, 659, 837, 838, 839, 812, 860, 280, 281, 58, 282, 283, 73, 861, 335, 336, 337, 74, 862, 863, 864, 40, 865, 866, 92, 867, 868, 869, 870, 929, 930, 931, 932, 933, 934, 935, 936, 937, 968, 969, 970, 971, 972, 973, 974, 975, 976, 977, 978, 979, 980, 981, 995, 996, 997, 993, 994] rfl (by decide +kernel)
set_option maxRecDepth 20000 in
theorem gL_law_X8_pay : GoodIn wsL_law (wsV RL 104 RX8 yX8_pay wsX8_pay) := goodIn_app (goodIn_r _ [883, 884, 885, 2] rfl (by decide +kernel)) ggL_law_X8_pay
set_option maxRecDepth 20000 in
theorem ggL_law_X9_pay : GoodIn wsL_law wsX9_pay := goodIn_r _ [890, 123, 384, 98, 677, 678, 5, 679, 397, 398, 399, 875, 876, 877, 878, 879, 880, 881, 882, 356, 100, 938, 939, 940, 941, 942, 943, 944, 945, 946, 947, 948, 949, 950, 951, 952, 953, 954, 955, 956, 957] rfl (by decide +kernel)
set_option maxRecDepth 20000 in
theorem gL_law_X9_pay : GoodIn wsL_law (wsV RL 107 RX9 yX9_pay wsX9_pay) := goodIn_app (goodIn_r _ [887, 888, 889, 5] rfl (by decide +kernel)) ggL_law_X9_pay
set_option maxRecDepth 20000 in
theorem ggL_law_X8_refund : GoodIn wsL_law wsX8_refund := goodIn_r _ [894, 24, 432, 435, 41, 657, 658, 2, 659, 837, 838, 839, 812, 459, 460, 461, 462, 29, 437, 33, 463, 464, 465, 28, 466, 467, 70, 71, 72, 80, 468, 469, 470, 471, 78, 79, 472, 473, 474, 23, 475, 162, 159, 163, 476, 477, 440, 441, 442, 62, 443, 444, 445, 58, 446, 283, 73, 74, 478, 448, 449, 450, 60, 158, 451, 173, 174, 165, 452, 453, 301, 302, 303, 454, 309, 310, 311, 479, 480, 481, 482, 59, 483, 484, 485, 486, 487, 488, 489, 490, 32, 491, 84, 492, 493, 494, 495, 496, 497, 498, 499, 500, 501, 502, 503, 504, 505, 506, 507, 508, 509, 510, 85, 511, 512, 513, 514, 895, 896, 897, 898, 899, 900, 538, 539, 540, 719, 720, 721, 722, 723, 724, 725, 726, 727, 728, 729, 565, 529, 530, 531, 532, 533, 534, 535, 860, 280, 281, 282, 861, 335, 336, 337, 862, 863, 864, 40, 865, 866, 92, 867, 868, 869, 870, 455, 456, 457, 458, 160, 63, 64, 929, 930, 931, 932, 933, 934, 935, 936, 937, 968, 969, 970, 971, 972, 973, 974, 975, 976, 977, 978, 979, 980, 981, 982, 983, 984, 995, 996, 997, 985, 986, 993, 994] rfl (by decide +kernel)
set_option maxRecDepth 20000 in
theorem gL_law_X8_refund : GoodIn wsL_law (wsV RL 108 RX8 yX8_refund wsX8_refund) := goodIn_app (goodIn_r _ [891, 892, 893, 2] rfl (by decide +kernel)) ggL_law_X8_refund
set_option maxRecDepth 20000 in
theorem ggL_law_X9_refund : GoodIn wsL_law wsX9_refund := goodIn_r _ [904, 123, 98, 384, 397, 398, 5, 399, 602, 603, 604, 605, 606, 607, 608, 609, 101, 610, 611, 612, 613, 614, 615, 616, 617, 618, 619, 620, 621, 581, 582, 583, 584, 585, 586, 587, 588, 589, 590, 591, 592, 593, 622, 623, 624, 625, 626, 734, 735, 736, 737, 594, 595, 596, 597, 875, 876, 877, 878, 879, 880, 881, 882, 356, 100, 938, 939, 940, 941, 942, 943, 944, 945, 946, 947, 948, 949, 950, 951, 952, 953, 954, 955, 956, 957] rfl (by decide +kernel)
set_option maxRecDepth 20000 in
theorem gL_law_X9_refund : GoodIn wsL_law (wsV RL 111 RX9 yX9_refund wsX9_refund) := goodIn_app (goodIn_r _ [901, 902, 903, 5] rfl (by decide +kernel)) ggL_law_X9_refund
set_option maxRecDepth 20000 in
theorem ggL_law_X8_bar : GoodIn wsL_law wsX8_bar := goodIn_r _ [908, 24, 437, 41, 821, 822, 823, 2, 824, 688, 689, 690, 657, 658, 659, 862, 863, 864, 40, 865, 866, 92, 867, 868, 869, 870, 929, 930, 931, 932, 933, 934, 935, 936, 937, 968, 969, 970, 971, 972, 973, 974, 975, 976, 977, 978, 979, 980, 981, 993, 994] rfl (by decide +kernel)
set_option maxRecDepth 20000 in
theorem gL_law_X8_bar : GoodIn wsL_law (wsV RL 112 RX8 yX8_bar wsX8_bar) := goodIn_app (goodIn_r _ [905, 906, 907, 2] rfl (by decide +kernel)) ggL_law_X8_bar
set_option maxRecDepth 20000 in
theorem ggL_law_X9_bar : GoodIn wsL_law wsX9_bar := goodIn_r _ [912, 123, 98, 829, 830, 831, 5, 832, 397, 398, 399, 879, 880, 881, 882, 356, 100, 938, 939, 940, 941, 942, 943, 944, 945, 946, 947, 948, 949, 950, 951, 952, 953, 954, 955, 956, 957] rfl (by decide +kernel)
set_option maxRecDepth 20000 in
theorem gL_law_X9_bar : GoodIn wsL_law (wsV RL 115 RX9 yX9_bar wsX9_bar) := goodIn_app (goodIn_r _ [909, 910, 911, 5] rfl (by decide +kernel)) ggL_law_X9_bar
set_option maxRecDepth 20000 in
theorem ggL_law_X8_undo : GoodIn wsL_law wsX8_undo := goodIn_r _ [916, 41, 24, 669, 433, 435, 437, 143, 917, 918, 919, 40, 920, 866, 92, 921, 922, 923, 58, 924, 283, 69, 70, 71, 72, 929, 930, 931, 932, 933, 934, 935, 936, 937, 968, 969, 970, 971, 972, 973, 974, 975, 976, 977, 978, 979, 980, 981, 993, 994, 995, 996, 997] rfl (by decide +kernel)
set_option maxRecDepth 20000 in
theorem gL_law_X8_undo : GoodIn wsL_law (wsV RL 116 RX8 yX8_undo wsX8_undo) := goodIn_app (goodIn_r _ [913, 914, 915, 2] rfl (by decide +kernel)) ggL_law_X8_undo
set_option maxRecDepth 20000 in
theorem ggL_law_X9_undo : GoodIn wsL_law wsX9_undo := goodIn_r _ [928, 123, 356, 98, 100, 938, 939, 940, 941, 942, 943, 944, 945, 946, 947, 948, 949, 950, 951, 952, 953, 954, 955, 956, 957] rfl (by decide +kernel)
set_option maxRecDepth 20000 in
theorem gL_law_X9_undo : GoodIn wsL_law (wsV RL 119 RX9 yX9_undo wsX9_undo) := goodIn_app (goodIn_r _ [925, 926, 927, 5] rfl (by decide +kernel)) ggL_law_X9_undo
