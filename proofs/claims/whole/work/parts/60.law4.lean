/-! The law's words -/
set_option maxRecDepth 20000 in
theorem ggL_law_X12_dead : GoodIn wsL_law wsX12_dead := goodIn_r _ [592, 451, 154, 118, 452, 453, 454, 5, 455, 568, 569, 570, 158, 159, 160, 936, 937, 938, 939, 940, 941, 942, 943, 944, 945, 946, 947, 948, 949, 950, 951, 952, 953, 954, 955, 956] (by decide +kernel) (by decide +kernel)
set_option maxRecDepth 20000 in
theorem gL_law_X12_dead : GoodIn wsL_law (wsV RL 81 RX12 yX12_dead wsX12_dead) := goodIn_app (goodIn_of _ (by decide +kernel)) ggL_law_X12_dead
set_option maxRecDepth 20000 in
theorem ggL_law_X11_ends : GoodIn wsL_law wsX11_ends := goodIn_r _ [596, 23, 130, 32, 493, 494, 495, 22, 496, 60, 575, 576, 577, 31, 578, 399, 398, 579, 559, 560, 561, 396, 562, 563, 379, 380, 381, 397, 401, 402, 403, 404, 71, 75, 79, 83, 87, 405, 406, 407, 408, 86, 409, 410, 411, 412, 413, 82, 414, 415, 2, 416, 417, 418, 419, 70, 420, 421, 422, 78, 423, 424, 425, 426, 427, 428, 429, 430, 431, 432, 433, 434, 435, 74, 436, 437, 438, 540, 541, 542, 925, 926, 927, 928, 929, 930, 931, 932, 933, 934, 935, 965, 966, 967, 968, 969, 970, 971, 972, 973, 974, 975, 976, 977, 978, 979] (by decide +kernel) (by decide +kernel)
set_option maxRecDepth 20000 in
theorem gL_law_X11_ends : GoodIn wsL_law (wsV RL 82 RX11 yX11_ends wsX11_ends) := goodIn_app (goodIn_of _ (by decide +kernel)) ggL_law_X11_ends
set_option maxRecDepth 20000 in
theorem ggL_law_X12_ends : GoodIn wsL_law wsX12_ends := goodIn_r _ [600, 154, 504, 505, 506, 5, 507, 118, 158, 159, 160, 547, 548, 549, 550, 460, 461, 462, 463, 464, 465, 466, 467, 468, 469, 470, 471, 472, 473, 474, 475, 476, 477, 478, 479, 936, 937, 938, 939, 940, 941, 942, 943, 944, 945, 946, 947, 948, 949, 950, 951, 952, 953, 954, 955, 956] (by decide +kernel) (by decide +kernel)
set_option maxRecDepth 20000 in
theorem gL_law_X12_ends : GoodIn wsL_law (wsV RL 85 RX12 yX12_ends wsX12_ends) := goodIn_app (goodIn_of _ (by decide +kernel)) ggL_law_X12_ends
set_option maxRecDepth 20000 in
theorem ggL_law_X11_first : GoodIn wsL_law wsX11_first := goodIn_r _ [604, 23, 371, 372, 130, 32, 605, 387, 606, 607, 2, 608, 609, 610, 611, 31, 612, 613, 614, 562, 400, 389, 390, 22, 391, 64, 615, 576, 577, 578, 399, 398, 579, 559, 560, 561, 396, 563, 379, 380, 381, 397, 401, 402, 403, 404, 71, 75, 79, 83, 87, 405, 406, 407, 408, 86, 409, 410, 411, 412, 413, 82, 414, 415, 416, 417, 418, 419, 70, 420, 421, 422, 78, 423, 424, 425, 426, 427, 428, 429, 430, 431, 432, 433, 434, 435, 74, 436, 437, 438, 540, 541, 542, 925, 926, 927, 928, 929, 930, 931, 932, 933, 934, 935, 965, 966, 967, 968, 969, 970, 971, 972, 973, 974, 975, 976, 977, 978, 979] (by decide +kernel) (by decide +kernel)
set_option maxRecDepth 20000 in
theorem gL_law_X11_first : GoodIn wsL_law (wsV RL 86 RX11 yX11_first wsX11_first) := goodIn_app (goodIn_of _ (by decide +kernel)) ggL_law_X11_first
set_option maxRecDepth 20000 in
theorem ggL_law_X12_first : GoodIn wsL_law wsX12_first := goodIn_r _ [619, 451, 154, 125, 118, 452, 453, 454, 5, 455, 158, 159, 160, 480, 481, 482, 483, 547, 548, 549, 550, 460, 461, 462, 463, 464, 465, 466, 467, 468, 469, 470, 471, 472, 473, 474, 475, 476, 477, 478, 479, 936, 937, 938, 939, 940, 941, 942, 943, 944, 945, 946, 947, 948, 949, 950, 951, 952, 953, 954, 955, 956] (by decide +kernel) (by decide +kernel)
set_option maxRecDepth 20000 in
theorem gL_law_X12_first : GoodIn wsL_law (wsV RL 89 RX12 yX12_first wsX12_first) := goodIn_app (goodIn_of _ (by decide +kernel)) ggL_law_X12_first
set_option maxRecDepth 20000 in
theorem ggL_law_X11_toWrite : GoodIn wsL_law wsX11_toWrite := goodIn_r _ [623, 23, 130, 372, 32, 605, 386, 493, 494, 495, 22, 496, 60, 497, 498, 2, 499, 606, 607, 608, 388, 389, 390, 391, 64, 624, 625, 626, 31, 627, 613, 398, 579, 559, 560, 561, 396, 562, 563, 379, 380, 381, 397, 401, 402, 403, 404, 71, 75, 79, 83, 87, 405, 406, 407, 408, 86, 409, 410, 411, 412, 413, 82, 414, 415, 416, 417, 418, 419, 70, 420, 421, 422, 78, 423, 424, 425, 426, 427, 428, 429, 430, 431, 432, 433, 434, 435, 74, 436, 437, 438, 540, 541, 542, 558, 628, 925, 926, 927, 928, 929, 930, 931, 932, 933, 934, 935, 965, 966, 967, 968, 969, 970, 971, 972, 973, 974, 975, 976, 977, 978, 979] (by decide +kernel) (by decide +kernel)
set_option maxRecDepth 20000 in
theorem gL_law_X11_toWrite : GoodIn wsL_law (wsV RL 90 RX11 yX11_toWrite wsX11_toWrite) := goodIn_app (goodIn_of _ (by decide +kernel)) ggL_law_X11_toWrite
set_option maxRecDepth 20000 in
theorem ggL_law_X12_toWrite : GoodIn wsL_law wsX12_toWrite := goodIn_r _ [632, 154, 451, 125, 118, 504, 505, 506, 5, 507, 158, 159, 160, 480, 481, 482, 483, 464, 465, 466, 467, 468, 469, 470, 471, 472, 473, 474, 475, 476, 477, 478, 479, 936, 937, 938, 939, 940, 941, 942, 943, 944, 945, 946, 947, 948, 949, 950, 951, 952, 953, 954, 955, 956] (by decide +kernel) (by decide +kernel)
set_option maxRecDepth 20000 in
theorem gL_law_X12_toWrite : GoodIn wsL_law (wsV RL 93 RX12 yX12_toWrite wsX12_toWrite) := goodIn_app (goodIn_of _ (by decide +kernel)) ggL_law_X12_toWrite
set_option maxRecDepth 20000 in
theorem ggL_law_X11_toDeny : GoodIn wsL_law wsX11_toDeny := goodIn_r _ [636, 23, 130, 32, 605, 493, 494, 495, 22, 496, 60, 606, 607, 2, 608, 637, 638, 639, 31, 640, 613, 398, 399, 641, 425, 426, 427, 428, 429, 430, 579, 559, 560, 561, 396, 562, 563, 379, 380, 381, 397, 401, 402, 403, 404, 71, 75, 79, 83, 87, 405, 406, 407, 408, 86, 409, 410, 411, 412, 413, 82, 414, 415, 416, 417, 418, 419, 70, 420, 421, 422, 78, 423, 424, 431, 432, 433, 434, 435, 74, 436, 437, 438, 542, 925, 926, 927, 928, 929, 930, 931, 932, 933, 934, 935, 965, 966, 967, 968, 969, 970, 971, 972, 973, 974, 975, 976, 977, 978, 979] (by decide +kernel) (by decide +kernel)
set_option maxRecDepth 20000 in
theorem gL_law_X11_toDeny : GoodIn wsL_law (wsV RL 94 RX11 yX11_toDeny wsX11_toDeny) := goodIn_app (goodIn_of _ (by decide +kernel)) ggL_law_X11_toDeny
set_option maxRecDepth 20000 in
theorem ggL_law_X12_toDeny : GoodIn wsL_law wsX12_toDeny := goodIn_r _ [645, 154, 125, 118, 504, 505, 506, 5, 507, 158, 159, 160, 464, 465, 466, 467, 468, 469, 470, 471, 472, 473, 474, 475, 476, 477, 478, 479, 936, 937, 938, 939, 940, 941, 942, 943, 944, 945, 946, 947, 948, 949, 950, 951, 952, 953, 954, 955, 956] (by decide +kernel) (by decide +kernel)
set_option maxRecDepth 20000 in
theorem gL_law_X12_toDeny : GoodIn wsL_law (wsV RL 97 RX12 yX12_toDeny wsX12_toDeny) := goodIn_app (goodIn_of _ (by decide +kernel)) ggL_law_X12_toDeny
set_option maxRecDepth 20000 in
theorem ggL_law_X11_print : GoodIn wsL_law wsX11_print := goodIn_r _ [649, 23, 371, 372, 130, 606, 607, 2, 608, 650, 651, 652, 22, 653, 60, 59, 654, 655, 656, 657, 63, 658, 425, 426, 427, 428, 429, 430, 659, 660, 661, 662, 663, 664, 665, 666, 62, 667, 925, 926, 927, 928, 929, 930, 931, 932, 933, 934, 935, 965, 966, 967, 968, 969, 970, 971, 972] (by decide +kernel) (by decide +kernel)
set_option maxRecDepth 20000 in
theorem gL_law_X11_print : GoodIn wsL_law (wsV RL 98 RX11 yX11_print wsX11_print) := goodIn_app (goodIn_of _ (by decide +kernel)) ggL_law_X11_print
set_option maxRecDepth 20000 in
theorem ggL_law_X12_print : GoodIn wsL_law wsX12_print := goodIn_r _ [671, 451, 154, 118, 452, 453, 454, 5, 455, 158, 159, 160, 474, 475, 476, 477, 478, 479, 936, 937, 938, 939, 940, 941, 942, 943, 944, 945, 946, 947, 948, 949, 950, 951, 952, 953, 954, 955, 956] (by decide +kernel) (by decide +kernel)
set_option maxRecDepth 20000 in
theorem gL_law_X12_print : GoodIn wsL_law (wsV RL 101 RX12 yX12_print wsX12_print) := goodIn_app (goodIn_of _ (by decide +kernel)) ggL_law_X12_print
