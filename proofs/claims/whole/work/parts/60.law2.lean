/-! The law's words -/
set_option maxRecDepth 20000 in
theorem ggL_law_X12_feed : GoodIn wsL_law wsX12_feed := goodIn_r _ [258, 154, 259, 260, 117, 158, 159, 5, 160, 936, 937, 938, 939, 940, 941, 942, 943, 944, 945, 946, 947, 948, 949, 950, 951, 952, 953, 954, 955, 956] (by decide +kernel) (by decide +kernel)
set_option maxRecDepth 20000 in
theorem gL_law_X12_feed : GoodIn wsL_law (wsV RL 35 RX12 yX12_feed wsX12_feed) := goodIn_app (goodIn_of _ (by decide +kernel)) ggL_law_X12_feed
set_option maxRecDepth 20000 in
theorem ggL_law_X11_town : GoodIn wsL_law wsX11_town := goodIn_r _ [264, 19, 24, 265, 23, 266, 267, 268, 269, 18, 270, 52, 53, 50, 51, 271, 272, 273, 274, 22, 275, 57, 58, 59, 60, 276, 277, 278, 279, 280, 281, 282, 283, 284, 49, 285, 286, 287, 288, 289, 290, 291, 292, 293, 294, 295, 296, 297, 298, 299, 300, 301, 302, 303, 61, 62, 63, 64, 304, 305, 306, 307, 308, 309, 310, 2, 311, 27, 925, 926, 927, 928, 929, 930, 931, 932, 933, 934, 935, 965, 966, 967, 968, 969, 970, 971, 972, 960, 961, 962, 963, 964] (by decide +kernel) (by decide +kernel)
set_option maxRecDepth 20000 in
theorem gL_law_X11_town : GoodIn wsL_law (wsV RL 36 RX11 yX11_town wsX11_town) := goodIn_app (goodIn_of _ (by decide +kernel)) ggL_law_X11_town
set_option maxRecDepth 20000 in
theorem ggL_law_X12_town : GoodIn wsL_law wsX12_town := goodIn_r _ [315, 119, 316, 317, 318, 319, 259, 320, 118, 321, 322, 323, 324, 5, 325, 326, 327, 328, 329, 330, 117, 158, 159, 160, 331, 332, 333, 334, 335, 336, 337, 338, 339, 340, 341, 342, 343, 344, 345, 346, 347, 348, 349, 350, 351, 352, 353, 354, 355, 356, 357, 936, 937, 938, 939, 940, 941, 942, 943, 944, 945, 946, 947, 948, 949, 950, 951, 952, 953, 954, 955, 956] (by decide +kernel) (by decide +kernel)
set_option maxRecDepth 20000 in
theorem gL_law_X12_town : GoodIn wsL_law (wsV RL 40 RX12 yX12_town wsX12_town) := goodIn_app (goodIn_of _ (by decide +kernel)) ggL_law_X12_town
set_option maxRecDepth 20000 in
theorem ggL_law_X11_fault : GoodIn wsL_law wsX11_fault := goodIn_r _ [361, 19, 362, 925, 926, 927, 928, 929, 930, 931, 932, 933, 934, 935, 960, 961, 962, 963, 964] (by decide +kernel) (by decide +kernel)
set_option maxRecDepth 20000 in
theorem gL_law_X11_fault : GoodIn wsL_law (wsV RL 41 RX11 yX11_fault wsX11_fault) := goodIn_app (goodIn_of _ (by decide +kernel)) ggL_law_X11_fault
set_option maxRecDepth 20000 in
theorem ggL_law_X12_fault : GoodIn wsL_law wsX12_fault := goodIn_r _ [366, 335, 936, 937, 938, 939, 940, 941, 942, 943, 944, 945, 946, 947, 948, 949, 950, 951, 952, 953, 954, 955, 956] (by decide +kernel) (by decide +kernel)
set_option maxRecDepth 20000 in
theorem gL_law_X12_fault : GoodIn wsL_law (wsV RL 44 RX12 yX12_fault wsX12_fault) := goodIn_app (goodIn_of _ (by decide +kernel)) ggL_law_X12_fault
set_option maxRecDepth 20000 in
theorem ggL_law_X11_days : GoodIn wsL_law wsX11_days := goodIn_r _ [370, 23, 371, 372, 130, 373, 246, 374, 375, 376, 2, 377, 26, 28, 27, 378, 379, 380, 381, 304, 305, 306, 22, 307, 57, 58, 59, 60, 61, 62, 63, 64, 382, 383, 384, 385, 266, 386, 32, 387, 388, 389, 390, 391, 392, 393, 394, 31, 395, 396, 397, 398, 399, 400, 401, 402, 403, 404, 71, 75, 79, 83, 87, 405, 406, 407, 408, 86, 409, 410, 411, 412, 413, 82, 414, 415, 416, 417, 418, 419, 70, 420, 421, 422, 78, 423, 424, 425, 426, 427, 428, 429, 430, 431, 432, 433, 434, 435, 74, 436, 437, 438, 439, 440, 441, 442, 443, 444, 445, 446, 925, 926, 927, 928, 929, 930, 931, 932, 933, 934, 935, 965, 966, 967, 968, 969, 970, 971, 972, 973, 974, 975, 976, 977, 978, 979] (by decide +kernel) (by decide +kernel)
set_option maxRecDepth 20000 in
theorem gL_law_X11_days : GoodIn wsL_law (wsV RL 45 RX11 yX11_days wsX11_days) := goodIn_app (goodIn_of _ (by decide +kernel)) ggL_law_X11_days
set_option maxRecDepth 20000 in
theorem ggL_law_X12_days : GoodIn wsL_law wsX12_days := goodIn_r _ [450, 451, 154, 118, 260, 452, 453, 454, 5, 455, 158, 159, 160, 456, 457, 458, 459, 321, 120, 355, 356, 357, 460, 461, 462, 463, 464, 465, 466, 467, 468, 469, 470, 471, 472, 473, 474, 475, 476, 477, 478, 479, 480, 481, 482, 483, 484, 485, 486, 487, 936, 937, 938, 939, 940, 941, 942, 943, 944, 945, 946, 947, 948, 949, 950, 951, 952, 953, 954, 955, 956] (by decide +kernel) (by decide +kernel)
set_option maxRecDepth 20000 in
theorem gL_law_X12_days : GoodIn wsL_law (wsV RL 48 RX12 yX12_days wsX12_days) := goodIn_app (goodIn_of _ (by decide +kernel)) ggL_law_X12_days
set_option maxRecDepth 20000 in
theorem ggL_law_X11_write : GoodIn wsL_law wsX11_write := goodIn_r _ [491, 23, 130, 372, 492, 493, 494, 495, 22, 496, 60, 497, 498, 2, 499, 388, 389, 390, 391, 64, 374, 375, 376, 377, 26, 28, 27, 378, 379, 380, 381, 304, 305, 306, 307, 57, 58, 59, 61, 62, 63, 925, 926, 927, 928, 929, 930, 931, 932, 933, 934, 935, 965, 966, 967, 968, 969, 970, 971, 972] (by decide +kernel) (by decide +kernel)
set_option maxRecDepth 20000 in
theorem gL_law_X11_write : GoodIn wsL_law (wsV RL 49 RX11 yX11_write wsX11_write) := goodIn_app (goodIn_of _ (by decide +kernel)) ggL_law_X11_write
set_option maxRecDepth 20000 in
theorem ggL_law_X12_write : GoodIn wsL_law wsX12_write := goodIn_r _ [503, 154, 451, 118, 504, 505, 506, 5, 507, 158, 159, 160, 480, 481, 482, 483, 456, 457, 458, 459, 321, 120, 355, 356, 357, 936, 937, 938, 939, 940, 941, 942, 943, 944, 945, 946, 947, 948, 949, 950, 951, 952, 953, 954, 955, 956] (by decide +kernel) (by decide +kernel)
set_option maxRecDepth 20000 in
theorem gL_law_X12_write : GoodIn wsL_law (wsV RL 53 RX12 yX12_write wsX12_write) := goodIn_app (goodIn_of _ (by decide +kernel)) ggL_law_X12_write
set_option maxRecDepth 20000 in
theorem ggL_law_X11_deny : GoodIn wsL_law wsX11_deny := goodIn_r _ [511, 23, 130, 386, 372, 493, 494, 495, 22, 496, 60, 374, 375, 376, 2, 377, 26, 28, 27, 378, 379, 380, 381, 304, 305, 306, 307, 57, 58, 59, 61, 62, 63, 64, 925, 926, 927, 928, 929, 930, 931, 932, 933, 934, 935, 965, 966, 967, 968, 969, 970, 971, 972] (by decide +kernel) (by decide +kernel)
set_option maxRecDepth 20000 in
theorem gL_law_X11_deny : GoodIn wsL_law (wsV RL 54 RX11 yX11_deny wsX11_deny) := goodIn_app (goodIn_of _ (by decide +kernel)) ggL_law_X11_deny
set_option maxRecDepth 20000 in
theorem ggL_law_X12_deny : GoodIn wsL_law wsX12_deny := goodIn_r _ [515, 154, 118, 451, 504, 505, 506, 5, 507, 158, 159, 160, 474, 475, 476, 456, 457, 458, 459, 321, 120, 355, 356, 357, 936, 937, 938, 939, 940, 941, 942, 943, 944, 945, 946, 947, 948, 949, 950, 951, 952, 953, 954, 955, 956] (by decide +kernel) (by decide +kernel)
set_option maxRecDepth 20000 in
theorem gL_law_X12_deny : GoodIn wsL_law (wsV RL 57 RX12 yX12_deny wsX12_deny) := goodIn_app (goodIn_of _ (by decide +kernel)) ggL_law_X12_deny
