/-! The law's words -/
set_option maxRecDepth 20000 in
theorem ggL_law_X12_kind : GoodIn wsL_law wsX12_kind := goodIn_r _ [757, 154, 504, 505, 506, 5, 507, 118, 158, 159, 160, 758, 759, 760, 761, 936, 937, 938, 939, 940, 941, 942, 943, 944, 945, 946, 947, 948, 949, 950, 951, 952, 953, 954, 955, 956] (by decide +kernel) (by decide +kernel)
set_option maxRecDepth 20000 in
theorem gL_law_X12_kind : GoodIn wsL_law (wsV RL 126 RX12 yX12_kind wsX12_kind) := goodIn_app (goodIn_of _ (by decide +kernel)) ggL_law_X12_kind
set_option maxRecDepth 20000 in
theorem ggL_law_X11_as : GoodIn wsL_law wsX11_as := goodIn_r _ [765, 23, 130, 32, 700, 493, 494, 495, 22, 496, 60, 766, 402, 403, 31, 404, 71, 75, 79, 83, 87, 767, 768, 2, 769, 770, 771, 772, 773, 774, 137, 138, 139, 140, 37, 141, 146, 147, 148, 149, 925, 926, 927, 928, 929, 930, 931, 932, 933, 934, 935, 965, 966, 967, 968, 969, 970, 971, 972, 973, 974, 975, 976, 977, 978, 979] (by decide +kernel) (by decide +kernel)
set_option maxRecDepth 20000 in
theorem gL_law_X11_as : GoodIn wsL_law (wsV RL 127 RX11 yX11_as wsX11_as) := goodIn_app (goodIn_of _ (by decide +kernel)) ggL_law_X11_as
set_option maxRecDepth 20000 in
theorem ggL_law_X12_as : GoodIn wsL_law wsX12_as := goodIn_r _ [778, 154, 504, 505, 506, 5, 507, 118, 158, 159, 160, 758, 759, 760, 761, 167, 168, 169, 170, 165, 161, 162, 163, 164, 166, 936, 937, 938, 939, 940, 941, 942, 943, 944, 945, 946, 947, 948, 949, 950, 951, 952, 953, 954, 955, 956] (by decide +kernel) (by decide +kernel)
set_option maxRecDepth 20000 in
theorem gL_law_X12_as : GoodIn wsL_law (wsV RL 130 RX12 yX12_as wsX12_as) := goodIn_app (goodIn_of _ (by decide +kernel)) ggL_law_X12_as
set_option maxRecDepth 20000 in
theorem ggL_law_X11_ask : GoodIn wsL_law wsX11_ask := goodIn_r _ [782, 23, 130, 36, 32, 700, 493, 494, 495, 22, 496, 60, 606, 607, 2, 608, 783, 784, 785, 35, 786, 108, 766, 402, 403, 31, 404, 71, 75, 79, 83, 87, 787, 788, 789, 790, 791, 86, 792, 793, 794, 795, 796, 107, 797, 798, 412, 799, 82, 800, 801, 802, 803, 804, 93, 805, 806, 807, 808, 425, 426, 427, 428, 429, 430, 809, 810, 811, 70, 812, 813, 814, 815, 816, 817, 818, 819, 820, 821, 822, 823, 824, 825, 826, 827, 828, 829, 830, 78, 831, 832, 833, 433, 834, 835, 74, 836, 837, 838, 438, 839, 840, 841, 842, 843, 844, 845, 846, 847, 848, 849, 850, 851, 852, 853, 854, 855, 856, 857, 858, 859, 925, 926, 927, 928, 929, 930, 931, 932, 933, 934, 935, 965, 966, 967, 968, 969, 970, 971, 972, 980, 981, 973, 974, 975, 976, 977, 978, 979] (by decide +kernel) (by decide +kernel)
set_option maxRecDepth 20000 in
theorem gL_law_X11_ask : GoodIn wsL_law (wsV RL 131 RX11 yX11_ask wsX11_ask) := goodIn_app (goodIn_of _ (by decide +kernel)) ggL_law_X11_ask
set_option maxRecDepth 20000 in
theorem ggL_law_X12_ask : GoodIn wsL_law wsX12_ask := goodIn_r _ [863, 154, 864, 504, 505, 506, 5, 507, 118, 158, 159, 160, 758, 759, 760, 761, 865, 866, 867, 868, 869, 870, 871, 872, 124, 477, 478, 479, 873, 874, 875, 876, 877, 878, 879, 880, 881, 882, 883, 884, 936, 937, 938, 939, 940, 941, 942, 943, 944, 945, 946, 947, 948, 949, 950, 951, 952, 953, 954, 955, 956] (by decide +kernel) (by decide +kernel)
set_option maxRecDepth 20000 in
theorem gL_law_X12_ask : GoodIn wsL_law (wsV RL 134 RX12 yX12_ask wsX12_ask) := goodIn_app (goodIn_of _ (by decide +kernel)) ggL_law_X12_ask
set_option maxRecDepth 20000 in
theorem ggL_law_X11_trace : GoodIn wsL_law wsX11_trace := goodIn_r _ [888, 36, 889, 890, 891, 35, 892, 108, 107, 893, 925, 926, 927, 928, 929, 930, 931, 932, 933, 934, 935, 980, 981] (by decide +kernel) (by decide +kernel)
set_option maxRecDepth 20000 in
theorem gL_law_X11_trace : GoodIn wsL_law (wsV RL 135 RX11 yX11_trace wsX11_trace) := goodIn_app (goodIn_of _ (by decide +kernel)) ggL_law_X11_trace
set_option maxRecDepth 20000 in
theorem ggL_law_X12_trace : GoodIn wsL_law wsX12_trace := goodIn_r _ [897, 864, 124, 125, 158, 159, 5, 160, 936, 937, 938, 939, 940, 941, 942, 943, 944, 945, 946, 947, 948, 949, 950, 951, 952, 953, 954, 955, 956] (by decide +kernel) (by decide +kernel)
set_option maxRecDepth 20000 in
theorem gL_law_X12_trace : GoodIn wsL_law (wsV RL 138 RX12 yX12_trace wsX12_trace) := goodIn_app (goodIn_of _ (by decide +kernel)) ggL_law_X12_trace
set_option maxRecDepth 20000 in
theorem ggL_law_X11_count : GoodIn wsL_law wsX11_count := goodIn_r _ [901, 15, 23, 266, 373, 902, 27, 19, 903, 130, 904, 905, 906, 14, 907, 44, 439, 440, 441, 22, 442, 60, 443, 444, 445, 446, 64, 542, 425, 426, 427, 428, 429, 430, 908, 909, 910, 911, 912, 537, 538, 539, 62, 63, 540, 2, 541, 925, 926, 927, 928, 929, 930, 931, 932, 933, 934, 935, 965, 966, 967, 968, 969, 970, 971, 972, 960, 961, 962, 963, 964, 957, 958, 959] (by decide +kernel) (by decide +kernel)
set_option maxRecDepth 20000 in
theorem gL_law_X11_count : GoodIn wsL_law (wsV RL 139 RX11 yX11_count wsX11_count) := goodIn_app (goodIn_of _ (by decide +kernel)) ggL_law_X11_count
set_option maxRecDepth 20000 in
theorem ggL_law_X12_count : GoodIn wsL_law wsX12_count := goodIn_r _ [916, 118, 321, 259, 154, 195, 196, 197, 5, 198, 113, 125, 484, 485, 486, 487, 480, 481, 482, 483, 477, 478, 479, 547, 548, 549, 550, 460, 461, 462, 463, 464, 465, 466, 467, 468, 469, 470, 471, 472, 473, 474, 475, 476, 936, 937, 938, 939, 940, 941, 942, 943, 944, 945, 946, 947, 948, 949, 950, 951, 952, 953, 954, 955, 956] (by decide +kernel) (by decide +kernel)
set_option maxRecDepth 20000 in
theorem gL_law_X12_count : GoodIn wsL_law (wsV RL 142 RX12 yX12_count wsX12_count) := goodIn_app (goodIn_of _ (by decide +kernel)) ggL_law_X12_count
set_option maxRecDepth 20000 in
theorem ggL_law_X11_status : GoodIn wsL_law wsX11_status := goodIn_r _ [920, 37, 925, 926, 927, 928, 929, 930, 931, 932, 933, 934, 935] (by decide +kernel) (by decide +kernel)
set_option maxRecDepth 20000 in
theorem gL_law_X11_status : GoodIn wsL_law (wsV RL 143 RX11 yX11_status wsX11_status) := goodIn_app (goodIn_of _ (by decide +kernel)) ggL_law_X11_status
set_option maxRecDepth 20000 in
theorem ggL_law_X12_status : GoodIn wsL_law wsX12_status := goodIn_r _ [924, 165, 936, 937, 938, 939, 940, 941, 942, 943, 944, 945, 946, 947, 948, 949, 950, 951, 952, 953, 954, 955, 956] (by decide +kernel) (by decide +kernel)
set_option maxRecDepth 20000 in
theorem gL_law_X12_status : GoodIn wsL_law (wsV RL 146 RX12 yX12_status wsX12_status) := goodIn_app (goodIn_of _ (by decide +kernel)) ggL_law_X12_status
