/-! The law's words -/
set_option maxRecDepth 20000 in
theorem ggL_law_X11_temper : GoodIn wsL_law wsX11_temper := goodIn_r _ [675, 23, 130, 32, 492, 15, 676, 493, 494, 495, 22, 496, 60, 131, 132, 14, 133, 677, 678, 2, 679, 175, 176, 177, 178, 179, 180, 181, 182, 44, 183, 184, 185, 186, 45, 137, 138, 139, 140, 37, 141, 680, 681, 682, 31, 683, 398, 562, 397, 88, 401, 402, 403, 404, 71, 75, 79, 83, 87, 405, 406, 407, 408, 86, 409, 410, 411, 412, 413, 82, 414, 415, 416, 417, 418, 419, 70, 420, 421, 422, 78, 423, 424, 425, 426, 427, 428, 429, 430, 431, 432, 433, 434, 435, 74, 436, 437, 438, 684, 685, 686, 687, 43, 146, 147, 148, 149, 925, 926, 927, 928, 929, 930, 931, 932, 933, 934, 935, 965, 966, 967, 968, 969, 970, 971, 972, 973, 974, 975, 976, 977, 978, 979, 957, 958, 959] (by decide +kernel) (by decide +kernel)
set_option maxRecDepth 20000 in
theorem gL_law_X11_temper : GoodIn wsL_law (wsV RL 102 RX11 yX11_temper wsX11_temper) := goodIn_app (goodIn_of _ (by decide +kernel)) ggL_law_X11_temper
set_option maxRecDepth 20000 in
theorem ggL_law_X12_temper : GoodIn wsL_law wsX12_temper := goodIn_r _ [691, 154, 118, 504, 505, 506, 5, 507, 158, 159, 160, 155, 156, 157, 195, 196, 197, 198, 113, 125, 161, 162, 163, 164, 165, 166, 222, 223, 224, 225, 114, 692, 693, 694, 695, 115, 464, 465, 466, 467, 468, 469, 470, 471, 472, 473, 474, 475, 476, 477, 478, 479, 167, 168, 169, 170, 936, 937, 938, 939, 940, 941, 942, 943, 944, 945, 946, 947, 948, 949, 950, 951, 952, 953, 954, 955, 956] (by decide +kernel) (by decide +kernel)
set_option maxRecDepth 20000 in
theorem gL_law_X12_temper : GoodIn wsL_law (wsV RL 106 RX12 yX12_temper wsX12_temper) := goodIn_app (goodIn_of _ (by decide +kernel)) ggL_law_X12_temper
set_option maxRecDepth 20000 in
theorem ggL_law_X11_told : GoodIn wsL_law wsX11_told := goodIn_r _ [699, 23, 130, 605, 32, 700, 15, 676, 493, 494, 495, 22, 496, 60, 131, 132, 14, 133, 677, 678, 2, 679, 606, 607, 608, 175, 176, 177, 178, 179, 180, 181, 182, 44, 183, 184, 185, 186, 45, 137, 138, 139, 140, 37, 141, 680, 681, 682, 31, 683, 398, 562, 397, 88, 401, 402, 403, 404, 71, 75, 79, 83, 87, 405, 406, 407, 408, 86, 409, 410, 411, 412, 413, 82, 414, 415, 416, 417, 418, 419, 70, 420, 421, 422, 78, 423, 424, 425, 426, 427, 428, 429, 430, 431, 432, 433, 434, 435, 74, 436, 437, 438, 684, 685, 686, 687, 43, 146, 147, 148, 149, 925, 926, 927, 928, 929, 930, 931, 932, 933, 934, 935, 965, 966, 967, 968, 969, 970, 971, 972, 973, 974, 975, 976, 977, 978, 979, 957, 958, 959] (by decide +kernel) (by decide +kernel)
set_option maxRecDepth 20000 in
theorem gL_law_X11_told : GoodIn wsL_law (wsV RL 107 RX11 yX11_told wsX11_told) := goodIn_app (goodIn_of _ (by decide +kernel)) ggL_law_X11_told
set_option maxRecDepth 20000 in
theorem ggL_law_X12_told : GoodIn wsL_law wsX12_told := goodIn_r _ [704, 154, 125, 118, 504, 505, 506, 5, 507, 158, 159, 160, 155, 156, 157, 195, 196, 197, 198, 113, 161, 162, 163, 164, 165, 166, 222, 223, 224, 225, 114, 692, 693, 694, 695, 115, 464, 465, 466, 467, 468, 469, 470, 471, 472, 473, 474, 475, 476, 477, 478, 479, 167, 168, 169, 170, 936, 937, 938, 939, 940, 941, 942, 943, 944, 945, 946, 947, 948, 949, 950, 951, 952, 953, 954, 955, 956] (by decide +kernel) (by decide +kernel)
set_option maxRecDepth 20000 in
theorem gL_law_X12_told : GoodIn wsL_law (wsV RL 110 RX12 yX12_told wsX12_told) := goodIn_app (goodIn_of _ (by decide +kernel)) ggL_law_X12_told
set_option maxRecDepth 20000 in
theorem ggL_law_X11_odds : GoodIn wsL_law wsX11_odds := goodIn_r _ [708, 23, 371, 372, 130, 266, 32, 606, 607, 2, 608, 709, 710, 711, 712, 713, 714, 31, 715, 89, 614, 716, 717, 718, 719, 398, 399, 579, 559, 560, 561, 396, 562, 563, 379, 380, 381, 397, 401, 402, 403, 404, 71, 75, 79, 83, 87, 405, 406, 407, 408, 86, 409, 410, 411, 412, 413, 82, 414, 415, 416, 417, 418, 419, 70, 420, 421, 422, 78, 423, 424, 425, 426, 427, 428, 429, 430, 431, 432, 433, 434, 435, 74, 436, 437, 438, 720, 721, 722, 723, 724, 725, 726, 925, 926, 927, 928, 929, 930, 931, 932, 933, 934, 935, 965, 966, 967, 968, 969, 970, 971, 972, 973, 974, 975, 976, 977, 978, 979] (by decide +kernel) (by decide +kernel)
set_option maxRecDepth 20000 in
theorem gL_law_X11_odds : GoodIn wsL_law (wsV RL 111 RX11 yX11_odds wsX11_odds) := goodIn_app (goodIn_of _ (by decide +kernel)) ggL_law_X11_odds
set_option maxRecDepth 20000 in
theorem ggL_law_X12_odds : GoodIn wsL_law wsX12_odds := goodIn_r _ [730, 451, 154, 118, 452, 453, 454, 5, 455, 158, 159, 160, 484, 485, 486, 487, 480, 481, 482, 483, 474, 475, 476, 547, 548, 549, 550, 460, 461, 462, 463, 464, 465, 466, 467, 468, 469, 470, 471, 472, 473, 477, 478, 479, 936, 937, 938, 939, 940, 941, 942, 943, 944, 945, 946, 947, 948, 949, 950, 951, 952, 953, 954, 955, 956] (by decide +kernel) (by decide +kernel)
set_option maxRecDepth 20000 in
theorem gL_law_X12_odds : GoodIn wsL_law (wsV RL 114 RX12 yX12_odds wsX12_odds) := goodIn_app (goodIn_of _ (by decide +kernel)) ggL_law_X12_odds
set_option maxRecDepth 20000 in
theorem ggL_law_X11_image : GoodIn wsL_law wsX11_image := goodIn_r _ [734, 130, 23, 371, 372, 25, 735, 736, 2, 737, 304, 305, 306, 22, 307, 57, 58, 59, 60, 61, 62, 63, 64, 925, 926, 927, 928, 929, 930, 931, 932, 933, 934, 935, 965, 966, 967, 968, 969, 970, 971, 972] (by decide +kernel) (by decide +kernel)
set_option maxRecDepth 20000 in
theorem gL_law_X11_image : GoodIn wsL_law (wsV RL 115 RX11 yX11_image wsX11_image) := goodIn_app (goodIn_of _ (by decide +kernel)) ggL_law_X11_image
set_option maxRecDepth 20000 in
theorem ggL_law_X12_image : GoodIn wsL_law wsX12_image := goodIn_r _ [741, 154, 451, 118, 121, 123, 158, 159, 5, 160, 452, 453, 454, 455, 355, 356, 357, 936, 937, 938, 939, 940, 941, 942, 943, 944, 945, 946, 947, 948, 949, 950, 951, 952, 953, 954, 955, 956] (by decide +kernel) (by decide +kernel)
set_option maxRecDepth 20000 in
theorem gL_law_X12_image : GoodIn wsL_law (wsV RL 118 RX12 yX12_image wsX12_image) := goodIn_app (goodIn_of _ (by decide +kernel)) ggL_law_X12_image
set_option maxRecDepth 20000 in
theorem ggL_law_X11_restore : GoodIn wsL_law wsX11_restore := goodIn_r _ [745, 130, 25, 371, 372, 23, 735, 736, 2, 737, 304, 305, 306, 22, 307, 57, 58, 59, 60, 61, 62, 63, 64, 308, 309, 310, 311, 27, 925, 926, 927, 928, 929, 930, 931, 932, 933, 934, 935, 965, 966, 967, 968, 969, 970, 971, 972] (by decide +kernel) (by decide +kernel)
set_option maxRecDepth 20000 in
theorem gL_law_X11_restore : GoodIn wsL_law (wsV RL 119 RX11 yX11_restore wsX11_restore) := goodIn_app (goodIn_of _ (by decide +kernel)) ggL_law_X11_restore
set_option maxRecDepth 20000 in
theorem ggL_law_X12_restore : GoodIn wsL_law wsX12_restore := goodIn_r _ [749, 154, 123, 451, 121, 118, 321, 158, 159, 5, 160, 355, 356, 357, 936, 937, 938, 939, 940, 941, 942, 943, 944, 945, 946, 947, 948, 949, 950, 951, 952, 953, 954, 955, 956] (by decide +kernel) (by decide +kernel)
set_option maxRecDepth 20000 in
theorem gL_law_X12_restore : GoodIn wsL_law (wsV RL 122 RX12 yX12_restore wsX12_restore) := goodIn_app (goodIn_of _ (by decide +kernel)) ggL_law_X12_restore
set_option maxRecDepth 20000 in
theorem ggL_law_X11_kind : GoodIn wsL_law wsX11_kind := goodIn_r _ [753, 23, 700, 130, 493, 494, 495, 22, 496, 60, 925, 926, 927, 928, 929, 930, 931, 932, 933, 934, 935, 965, 966, 967, 968, 969, 970, 971, 972] (by decide +kernel) (by decide +kernel)
set_option maxRecDepth 20000 in
theorem gL_law_X11_kind : GoodIn wsL_law (wsV RL 123 RX11 yX11_kind wsX11_kind) := goodIn_app (goodIn_of _ (by decide +kernel)) ggL_law_X11_kind
