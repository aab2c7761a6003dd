set_option maxRecDepth 20000 in
theorem ggL_law_L_name : GoodIn wsL_law wsL_name := goodIn_ca (goodIn_r _ [691, 164, 692, 693, 694, 2, 695, 21, 17, 25, 696, 483, 484, 485, 486, 170, 171, 487, 236, 237, 20, 238, 64, 697, 527, 528, 529, 65, 227, 62, 184, 185, 186, 15, 187, 56, 698, 699, 700, 701, 702, 703, 704, 24, 705, 72, 249, 706, 229, 230, 231, 232, 233, 234, 253, 254, 255, 71, 256, 257, 258, 259, 260, 261, 262, 263, 264, 265, 266, 267, 268, 269, 270, 271, 272, 273, 77, 707, 708, 709, 710, 55, 150, 151, 152, 153, 879, 880, 881, 882, 883, 884, 885, 886, 887, 916, 917, 918, 919, 920, 921, 956, 957, 914, 915, 943, 944, 945, 946, 947, 948, 949, 950, 951, 952, 953, 954, 955, 922, 940, 941, 942] (by decide +kernel) (by decide +kernel)) (goodIn_sub (fun _ h => List.mem_append_left _ (List.mem_append_left _ (List.mem_append_right _ h))) (by decide +kernel))
set_option maxRecDepth 20000 in
theorem gL_law_L_name : GoodIn wsL_law (va_wsS RL 125 yL_name wsL_name) := goodIn_app (goodIn_of _ (by decide +kernel)) ggL_law_L_name
set_option maxRecDepth 20000 in
theorem ggL_law_X11_name : GoodIn wsL_law wsX11_name := goodIn_r _ [714, 158, 715, 333, 130, 131, 123, 136, 122, 492, 493, 494, 5, 495, 128, 334, 335, 336, 337, 716, 717, 718, 719, 720, 721, 722, 723, 724, 725, 726, 727, 728, 729, 730, 731, 888, 889, 890, 891, 892, 893, 894, 895, 896, 897, 898, 899, 900, 901, 902, 903, 904, 905, 906, 907, 908, 909, 910, 911, 912, 913] (by decide +kernel) (by decide +kernel)
set_option maxRecDepth 20000 in
theorem gL_law_X11_name : GoodIn wsL_law (wsV RL 127 RX11 yX11_name wsX11_name) := goodIn_app (goodIn_of _ (by decide +kernel)) ggL_law_X11_name
set_option maxRecDepth 20000 in
theorem ggL_law_X10_octet : GoodIn wsL_law wsX10_octet := goodIn_r _ [735, 17, 736, 181, 182, 15, 183, 56, 55, 879, 880, 881, 882, 883, 884, 885, 886, 887, 914, 915] (by decide +kernel) (by decide +kernel)
set_option maxRecDepth 20000 in
theorem gL_law_X10_octet : GoodIn wsL_law (wsV RL 128 RX10 yX10_octet wsX10_octet) := goodIn_app (goodIn_of _ (by decide +kernel)) ggL_law_X10_octet
set_option maxRecDepth 20000 in
theorem ggL_law_X11_octet : GoodIn wsL_law wsX11_octet := goodIn_r _ [740, 158, 715, 136, 888, 889, 890, 891, 892, 893, 894, 895, 896, 897, 898, 899, 900, 901, 902, 903, 904, 905, 906, 907, 908, 909, 910, 911, 912, 913] (by decide +kernel) (by decide +kernel)
set_option maxRecDepth 20000 in
theorem gL_law_X11_octet : GoodIn wsL_law (wsV RL 131 RX11 yX11_octet wsX11_octet) := goodIn_app (goodIn_of _ (by decide +kernel)) ggL_law_X11_octet
set_option maxRecDepth 20000 in
theorem ggL_law_L_face : GoodIn wsL_law wsL_face := goodIn_ca (goodIn_r _ [743, 164, 744, 745, 746, 2, 747, 37, 483, 484, 485, 486, 170, 171, 21, 487, 236, 237, 20, 238, 64, 748, 749, 750, 36, 751, 106, 752, 753, 527, 528, 529, 65, 227, 62, 879, 880, 881, 882, 883, 884, 885, 886, 887, 916, 917, 918, 919, 920, 921, 933, 934, 943, 944, 945, 946, 947, 948, 949, 950, 951, 952, 953, 954, 955] (by decide +kernel) (by decide +kernel)) (goodIn_sub (fun _ h => List.mem_append_left _ (List.mem_append_left _ (List.mem_append_right _ h))) (by decide +kernel))
set_option maxRecDepth 20000 in
theorem gL_law_L_face : GoodIn wsL_law (va_wsS RL 132 yL_face wsL_face) := goodIn_app (goodIn_of _ (by decide +kernel)) ggL_law_L_face
set_option maxRecDepth 20000 in
theorem ggL_law_X11_face : GoodIn wsL_law wsX11_face := goodIn_r _ [757, 158, 333, 130, 131, 124, 492, 493, 494, 5, 495, 128, 334, 335, 336, 337, 354, 355, 356, 888, 889, 890, 891, 892, 893, 894, 895, 896, 897, 898, 899, 900, 901, 902, 903, 904, 905, 906, 907, 908, 909, 910, 911, 912, 913] (by decide +kernel) (by decide +kernel)
set_option maxRecDepth 20000 in
theorem gL_law_X11_face : GoodIn wsL_law (wsV RL 134 RX11 yX11_face wsX11_face) := goodIn_app (goodIn_of _ (by decide +kernel)) ggL_law_X11_face
set_option maxRecDepth 20000 in
theorem ggL_law_L_ring : GoodIn wsL_law wsL_ring := goodIn_ca (goodIn_r _ [760, 164, 761, 762, 763, 2, 764, 37, 483, 484, 485, 486, 170, 171, 21, 487, 236, 237, 20, 238, 64, 765, 766, 767, 36, 768, 769, 770, 771, 772, 106, 105, 753, 527, 528, 529, 65, 227, 62, 773, 774, 775, 776, 777, 778, 779, 780, 879, 880, 881, 882, 883, 884, 885, 886, 887, 916, 917, 918, 919, 920, 921, 933, 934, 943, 944, 945, 946, 947, 948, 949, 950, 951, 952, 953, 954, 955] (by decide +kernel) (by decide +kernel)) (goodIn_sub (fun _ h => List.mem_append_left _ (List.mem_append_left _ (List.mem_append_right _ h))) (by decide +kernel))
set_option maxRecDepth 20000 in
theorem gL_law_L_ring : GoodIn wsL_law (va_wsS RL 135 yL_ring wsL_ring) := goodIn_app (goodIn_of _ (by decide +kernel)) ggL_law_L_ring
set_option maxRecDepth 20000 in
theorem ggL_law_X11_ring : GoodIn wsL_law wsX11_ring := goodIn_r _ [784, 158, 128, 137, 492, 493, 494, 5, 495, 334, 335, 336, 337, 785, 786, 787, 788, 333, 130, 131, 124, 354, 355, 356, 789, 790, 791, 792, 888, 889, 890, 891, 892, 893, 894, 895, 896, 897, 898, 899, 900, 901, 902, 903, 904, 905, 906, 907, 908, 909, 910, 911, 912, 913] (by decide +kernel) (by decide +kernel)
set_option maxRecDepth 20000 in
theorem gL_law_X11_ring : GoodIn wsL_law (wsV RL 137 RX11 yX11_ring wsX11_ring) := goodIn_app (goodIn_of _ (by decide +kernel)) ggL_law_X11_ring
set_option maxRecDepth 20000 in
theorem ggL_law_L_change : GoodIn wsL_law wsL_change := goodIn_ca (goodIn_r _ [795, 164, 796, 797, 798, 2, 799, 170, 171, 800, 21, 41, 801, 802, 803, 40, 804, 805, 110, 879, 880, 881, 882, 883, 884, 885, 886, 887, 916, 917, 918, 919, 920, 921, 935, 936] (by decide +kernel) (by decide +kernel)) (goodIn_sub (fun _ h => List.mem_append_left _ (List.mem_append_left _ (List.mem_append_right _ h))) (by decide +kernel))
set_option maxRecDepth 20000 in
theorem gL_law_L_change : GoodIn wsL_law (va_wsS RL 138 yL_change wsL_change) := goodIn_app (goodIn_of _ (by decide +kernel)) ggL_law_L_change
set_option maxRecDepth 20000 in
theorem ggL_law_X11_change : GoodIn wsL_law wsX11_change := goodIn_r _ [809, 158, 333, 810, 138, 139, 334, 335, 336, 5, 337, 888, 889, 890, 891, 892, 893, 894, 895, 896, 897, 898, 899, 900, 901, 902, 903, 904, 905, 906, 907, 908, 909, 910, 911, 912, 913] (by decide +kernel) (by decide +kernel)
set_option maxRecDepth 20000 in
theorem gL_law_X11_change : GoodIn wsL_law (wsV RL 140 RX11 yX11_change wsX11_change) := goodIn_app (goodIn_of _ (by decide +kernel)) ggL_law_X11_change
set_option maxRecDepth 20000 in
theorem ggL_law_X10_alone : GoodIn wsL_law wsX10_alone := goodIn_r _ [814, 21, 41, 697, 527, 528, 20, 529, 65, 227, 62, 815, 816, 817, 40, 818, 805, 110, 819, 699, 700, 701, 820, 821, 822, 823, 879, 880, 881, 882, 883, 884, 885, 886, 887, 916, 917, 918, 919, 920, 921, 943, 944, 945, 946, 947, 948, 949, 950, 951, 952, 953, 954, 955, 935, 936] (by decide +kernel) (by decide +kernel)
set_option maxRecDepth 20000 in
theorem gL_law_X10_alone : GoodIn wsL_law (wsV RL 141 RX10 yX10_alone wsX10_alone) := goodIn_app (goodIn_of _ (by decide +kernel)) ggL_law_X10_alone
set_option maxRecDepth 20000 in
theorem ggL_law_X11_alone : GoodIn wsL_law wsX11_alone := goodIn_r _ [827, 158, 810, 333, 130, 131, 828, 829, 830, 5, 831, 138, 139, 888, 889, 890, 891, 892, 893, 894, 895, 896, 897, 898, 899, 900, 901, 902, 903, 904, 905, 906, 907, 908, 909, 910, 911, 912, 913] (by decide +kernel) (by decide +kernel)
set_option maxRecDepth 20000 in
theorem gL_law_X11_alone : GoodIn wsL_law (wsV RL 144 RX11 yX11_alone wsX11_alone) := goodIn_app (goodIn_of _ (by decide +kernel)) ggL_law_X11_alone
set_option maxRecDepth 20000 in
theorem ggL_law_X10_keep : GoodIn wsL_law wsX10_keep := goodIn_r _ [835, 45, 21, 836, 837, 838, 44, 839, 114, 840, 879, 880, 881, 882, 883, 884, 885, 886, 887, 937, 938, 939, 916, 917, 918, 919, 920, 921, 943, 944, 945, 946, 947, 948, 949, 950, 951, 952, 953, 954, 955] (by decide +kernel) (by decide +kernel)
set_option maxRecDepth 20000 in
theorem gL_law_X10_keep : GoodIn wsL_law (wsV RL 145 RX10 yX10_keep wsX10_keep) := goodIn_app (goodIn_of _ (by decide +kernel)) ggL_law_X10_keep
set_option maxRecDepth 20000 in
theorem ggL_law_X11_keep : GoodIn wsL_law wsX11_keep := goodIn_r _ [844, 158, 845, 140, 333, 130, 131, 888, 889, 890, 891, 892, 893, 894, 895, 896, 897, 898, 899, 900, 901, 902, 903, 904, 905, 906, 907, 908, 909, 910, 911, 912, 913] (by decide +kernel) (by decide +kernel)
set_option maxRecDepth 20000 in
theorem gL_law_X11_keep : GoodIn wsL_law (wsV RL 148 RX11 yX11_keep wsX11_keep) := goodIn_app (goodIn_of _ (by decide +kernel)) ggL_law_X11_keep
set_option maxRecDepth 20000 in
theorem ggL_law_X10_moves : GoodIn wsL_law wsX10_moves := goodIn_r _ [849, 45, 21, 850, 851, 852, 44, 853, 840, 116, 854, 855, 856, 857, 114, 858, 859, 860, 861, 51, 52, 53, 879, 880, 881, 882, 883, 884, 885, 886, 887, 937, 938, 939, 916, 917, 918, 919, 920, 921, 943, 944, 945, 946, 947, 948, 949, 950, 951, 952, 953, 954, 955] (by decide +kernel) (by decide +kernel)
set_option maxRecDepth 20000 in
theorem gL_law_X10_moves : GoodIn wsL_law (wsV RL 149 RX10 yX10_moves wsX10_moves) := goodIn_app (goodIn_of _ (by decide +kernel)) ggL_law_X10_moves
set_option maxRecDepth 20000 in
theorem ggL_law_X11_moves : GoodIn wsL_law wsX11_moves := goodIn_r _ [865, 158, 845, 141, 333, 130, 140, 131, 866, 867, 868, 5, 869, 888, 889, 890, 891, 892, 893, 894, 895, 896, 897, 898, 899, 900, 901, 902, 903, 904, 905, 906, 907, 908, 909, 910, 911, 912, 913] (by decide +kernel) (by decide +kernel)
set_option maxRecDepth 20000 in
theorem gL_law_X11_moves : GoodIn wsL_law (wsV RL 152 RX11 yX11_moves wsX11_moves) := goodIn_app (goodIn_of _ (by decide +kernel)) ggL_law_X11_moves
set_option maxRecDepth 20000 in
theorem ggL_law_X10_count : GoodIn wsL_law wsX10_count := goodIn_r _ [873, 21, 41, 16, 17, 874, 506, 507, 20, 508, 227, 62, 509, 510, 511, 209, 512, 219, 513, 514, 515, 516, 517, 217, 220, 879, 880, 881, 882, 883, 884, 885, 886, 887, 916, 917, 918, 919, 920, 921, 935, 936, 914, 915, 943, 944, 945, 946, 947, 948, 949, 950, 951, 952, 953, 954, 955] (by decide +kernel) (by decide +kernel)
set_option maxRecDepth 20000 in
theorem gL_law_X10_count : GoodIn wsL_law (wsV RL 153 RX10 yX10_count wsX10_count) := goodIn_app (goodIn_of _ (by decide +kernel)) ggL_law_X10_count
set_option maxRecDepth 20000 in
theorem ggL_law_X11_count : GoodIn wsL_law wsX11_count := goodIn_r _ [878, 158, 333, 130, 810, 159, 715, 543, 544, 545, 5, 546, 133, 131, 132, 547, 548, 549, 888, 889, 890, 891, 892, 893, 894, 895, 896, 897, 898, 899, 900, 901, 902, 903, 904, 905, 906, 907, 908, 909, 910, 911, 912, 913] (by decide +kernel) (by decide +kernel)
set_option maxRecDepth 20000 in
theorem gL_law_X11_count : GoodIn wsL_law (wsV RL 156 RX11 yX11_count wsX11_count) := goodIn_app (goodIn_of _ (by decide +kernel)) ggL_law_X11_count
abbrev vwCl : List vw_C := [(RJ0, TJ0, 4), (RJ4, TJ4, 4), (RJx4a65c, TJx4a65c, 3), (RX0, TX0, 1), (RX1, TX1, 3), (RX2, TX2, 6), (RX3, TX3, 2), (RX4, TX4, 6), (RX5, TX5, 13), (RX6, TX6, 4), (RX7, TX7, 2), (RX8, TX8, 2), (RX9, TX9, 2), (RX10, TX10, 9), (RX11, TX11, 26)]
