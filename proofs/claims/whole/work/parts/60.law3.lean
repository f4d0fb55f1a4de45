/-! The law's words -/
set_option maxRecDepth 20000 in
theorem ggL_law_X11_spare : GoodIn wsL_law wsX11_spare := goodIn_r _ [519, 23, 130, 372, 387, 378, 379, 380, 381, 493, 494, 495, 22, 496, 60, 388, 389, 390, 391, 64, 374, 375, 376, 2, 377, 26, 28, 27, 304, 305, 306, 307, 57, 58, 59, 61, 62, 63, 925, 926, 927, 928, 929, 930, 931, 932, 933, 934, 935, 965, 966, 967, 968, 969, 970, 971, 972] (by decide +kernel) (by decide +kernel)
set_option maxRecDepth 20000 in
theorem gL_law_X11_spare : GoodIn wsL_law (wsV RL 58 RX11 yX11_spare wsX11_spare) := goodIn_app (goodIn_of _ (by decide +kernel)) ggL_law_X11_spare
set_option maxRecDepth 20000 in
theorem ggL_law_X12_spare : GoodIn wsL_law wsX12_spare := goodIn_r _ [523, 154, 451, 118, 504, 505, 506, 5, 507, 158, 159, 160, 480, 481, 482, 483, 456, 457, 458, 459, 321, 120, 355, 356, 357, 936, 937, 938, 939, 940, 941, 942, 943, 944, 945, 946, 947, 948, 949, 950, 951, 952, 953, 954, 955, 956] (by decide +kernel) (by decide +kernel)
set_option maxRecDepth 20000 in
theorem gL_law_X12_spare : GoodIn wsL_law (wsV RL 61 RX12 yX12_spare wsX12_spare) := goodIn_app (goodIn_of _ (by decide +kernel)) ggL_law_X12_spare
set_option maxRecDepth 20000 in
theorem ggL_law_X11_undo : GoodIn wsL_law wsX11_undo := goodIn_r _ [527, 27, 372, 28, 23, 26, 304, 305, 306, 22, 307, 57, 58, 59, 60, 61, 62, 63, 64, 925, 926, 927, 928, 929, 930, 931, 932, 933, 934, 935, 965, 966, 967, 968, 969, 970, 971, 972] (by decide +kernel) (by decide +kernel)
set_option maxRecDepth 20000 in
theorem gL_law_X11_undo : GoodIn wsL_law (wsV RL 62 RX11 yX11_undo wsX11_undo) := goodIn_app (goodIn_of _ (by decide +kernel)) ggL_law_X11_undo
set_option maxRecDepth 20000 in
theorem ggL_law_X12_undo : GoodIn wsL_law wsX12_undo := goodIn_r _ [531, 321, 451, 120, 118, 355, 356, 5, 357, 936, 937, 938, 939, 940, 941, 942, 943, 944, 945, 946, 947, 948, 949, 950, 951, 952, 953, 954, 955, 956] (by decide +kernel) (by decide +kernel)
set_option maxRecDepth 20000 in
theorem gL_law_X12_undo : GoodIn wsL_law (wsV RL 65 RX12 yX12_undo wsX12_undo) := goodIn_app (goodIn_of _ (by decide +kernel)) ggL_law_X12_undo
set_option maxRecDepth 20000 in
theorem ggL_law_X11_reader : GoodIn wsL_law wsX11_reader := goodIn_r _ [535, 23, 130, 386, 492, 387, 32, 493, 494, 495, 22, 496, 60, 536, 537, 538, 539, 62, 63, 540, 2, 541, 542, 425, 426, 427, 428, 429, 430, 392, 393, 394, 31, 395, 396, 397, 398, 399, 400, 389, 390, 391, 64, 401, 402, 403, 404, 71, 75, 79, 83, 87, 405, 406, 407, 408, 86, 409, 410, 411, 412, 413, 82, 414, 415, 416, 417, 418, 419, 70, 420, 421, 422, 78, 423, 424, 431, 432, 433, 434, 435, 74, 436, 437, 438, 925, 926, 927, 928, 929, 930, 931, 932, 933, 934, 935, 965, 966, 967, 968, 969, 970, 971, 972, 973, 974, 975, 976, 977, 978, 979] (by decide +kernel) (by decide +kernel)
set_option maxRecDepth 20000 in
theorem gL_law_X11_reader : GoodIn wsL_law (wsV RL 66 RX11 yX11_reader wsX11_reader) := goodIn_app (goodIn_of _ (by decide +kernel)) ggL_law_X11_reader
set_option maxRecDepth 20000 in
theorem ggL_law_X12_reader : GoodIn wsL_law wsX12_reader := goodIn_r _ [546, 154, 118, 504, 505, 506, 5, 507, 158, 159, 160, 547, 548, 549, 550, 460, 461, 462, 463, 464, 465, 466, 467, 468, 469, 470, 471, 472, 473, 474, 475, 476, 477, 478, 479, 936, 937, 938, 939, 940, 941, 942, 943, 944, 945, 946, 947, 948, 949, 950, 951, 952, 953, 954, 955, 956] (by decide +kernel) (by decide +kernel)
set_option maxRecDepth 20000 in
theorem gL_law_X12_reader : GoodIn wsL_law (wsV RL 69 RX12 yX12_reader wsX12_reader) := goodIn_app (goodIn_of _ (by decide +kernel)) ggL_law_X12_reader
set_option maxRecDepth 20000 in
theorem ggL_law_X11_deeds : GoodIn wsL_law wsX11_deeds := goodIn_r _ [554, 23, 130, 32, 386, 492, 493, 494, 495, 22, 496, 60, 555, 556, 2, 557, 558, 559, 560, 31, 561, 396, 562, 563, 379, 380, 381, 397, 401, 402, 403, 404, 71, 75, 79, 83, 87, 405, 406, 407, 408, 86, 409, 410, 411, 412, 413, 82, 414, 415, 416, 417, 418, 419, 70, 420, 421, 422, 78, 423, 424, 425, 426, 427, 428, 429, 430, 431, 432, 433, 434, 435, 74, 436, 437, 438, 925, 926, 927, 928, 929, 930, 931, 932, 933, 934, 935, 965, 966, 967, 968, 969, 970, 971, 972, 973, 974, 975, 976, 977, 978, 979] (by decide +kernel) (by decide +kernel)
set_option maxRecDepth 20000 in
theorem gL_law_X11_deeds : GoodIn wsL_law (wsV RL 70 RX11 yX11_deeds wsX11_deeds) := goodIn_app (goodIn_of _ (by decide +kernel)) ggL_law_X11_deeds
set_option maxRecDepth 20000 in
theorem ggL_law_X12_deeds : GoodIn wsL_law wsX12_deeds := goodIn_r _ [567, 154, 504, 505, 506, 5, 507, 118, 158, 159, 160, 568, 569, 570, 460, 461, 462, 463, 464, 465, 466, 467, 468, 469, 470, 471, 472, 473, 474, 475, 476, 477, 478, 479, 936, 937, 938, 939, 940, 941, 942, 943, 944, 945, 946, 947, 948, 949, 950, 951, 952, 953, 954, 955, 956] (by decide +kernel) (by decide +kernel)
set_option maxRecDepth 20000 in
theorem gL_law_X12_deeds : GoodIn wsL_law (wsV RL 73 RX12 yX12_deeds wsX12_deeds) := goodIn_app (goodIn_of _ (by decide +kernel)) ggL_law_X12_deeds
set_option maxRecDepth 20000 in
theorem ggL_law_X11_lines : GoodIn wsL_law wsX11_lines := goodIn_r _ [574, 23, 130, 32, 493, 494, 495, 22, 496, 60, 555, 556, 2, 557, 575, 576, 577, 31, 578, 399, 398, 579, 559, 560, 561, 396, 562, 563, 379, 380, 381, 397, 401, 402, 403, 404, 71, 75, 79, 83, 87, 405, 406, 407, 408, 86, 409, 410, 411, 412, 413, 82, 414, 415, 416, 417, 418, 419, 70, 420, 421, 422, 78, 423, 424, 425, 426, 427, 428, 429, 430, 431, 432, 433, 434, 435, 74, 436, 437, 438, 540, 541, 542, 925, 926, 927, 928, 929, 930, 931, 932, 933, 934, 935, 965, 966, 967, 968, 969, 970, 971, 972, 973, 974, 975, 976, 977, 978, 979] (by decide +kernel) (by decide +kernel)
set_option maxRecDepth 20000 in
theorem gL_law_X11_lines : GoodIn wsL_law (wsV RL 74 RX11 yX11_lines wsX11_lines) := goodIn_app (goodIn_of _ (by decide +kernel)) ggL_law_X11_lines
set_option maxRecDepth 20000 in
theorem ggL_law_X12_lines : GoodIn wsL_law wsX12_lines := goodIn_r _ [583, 154, 504, 505, 506, 5, 507, 118, 158, 159, 160, 568, 569, 570, 547, 548, 549, 550, 460, 461, 462, 463, 464, 465, 466, 467, 468, 469, 470, 471, 472, 473, 474, 475, 476, 477, 478, 479, 936, 937, 938, 939, 940, 941, 942, 943, 944, 945, 946, 947, 948, 949, 950, 951, 952, 953, 954, 955, 956] (by decide +kernel) (by decide +kernel)
set_option maxRecDepth 20000 in
theorem gL_law_X12_lines : GoodIn wsL_law (wsV RL 77 RX12 yX12_lines wsX12_lines) := goodIn_app (goodIn_of _ (by decide +kernel)) ggL_law_X12_lines
set_option maxRecDepth 20000 in
theorem ggL_law_X11_dead : GoodIn wsL_law wsX11_dead := goodIn_r _ [587, 23, 371, 372, 130, 555, 556, 2, 557, 588, 444, 445, 22, 446, 60, 64, 925, 926, 927, 928, 929, 930, 931, 932, 933, 934, 935, 965, 966, 967, 968, 969, 970, 971, 972] (by decide +kernel) (by decide +kernel)
set_option maxRecDepth 20000 in
theorem gL_law_X11_dead : GoodIn wsL_law (wsV RL 78 RX11 yX11_dead wsX11_dead) := goodIn_app (goodIn_of _ (by decide +kernel)) ggL_law_X11_dead
