set_option maxRecDepth 20000 in
theorem ggL_law_X11_check : GoodIn wsL_law wsX11_check := goodIn_r _ [702, 57, 444, 445, 446, 56, 447, 117, 209, 2, 210, 155, 156, 157, 211, 212, 213, 66, 214, 75, 215, 216, 217, 218, 81, 82, 153, 154, 219, 220, 221, 222, 223, 224, 225, 226, 80, 227, 228, 229, 230, 158, 159, 160, 161, 33, 34, 35, 991, 992, 993, 994, 995, 996, 997, 998, 999, 1000, 1001, 1002, 1003, 1004, 1005, 1041, 1042, 1043, 1044, 1045, 1046, 1047, 1048, 1049, 1050, 1051] (by decide +kernel) (by decide +kernel)
set_option maxRecDepth 20000 in
theorem gL_law_X11_check : GoodIn wsL_law (wsV RL 85 RX11 yX11_check wsX11_check) := goodIn_app (goodIn_of _ (by decide +kernel)) ggL_law_X11_check
set_option maxRecDepth 20000 in
theorem ggL_law_X12_check : GoodIn wsL_law wsX12_check := goodIn_r _ [706, 504, 505, 506, 5, 507, 127, 170, 171, 172, 173, 174, 175, 176, 177, 178, 179, 180, 130, 181, 182, 183, 184, 1006, 1007, 1008, 1009, 1010, 1011, 1012, 1013, 1014, 1015, 1016, 1017, 1018, 1019, 1020, 1021, 1022, 1023, 1024, 1025, 1026, 1027, 1028] (by decide +kernel) (by decide +kernel)
set_option maxRecDepth 20000 in
theorem gL_law_X12_check : GoodIn wsL_law (wsV RL 88 RX12 yX12_check wsX12_check) := goodIn_app (goodIn_of _ (by decide +kernel)) ggL_law_X12_check
set_option maxRecDepth 20000 in
theorem ggL_law_X11_hired : GoodIn wsL_law wsX11_hired := goodIn_r _ [710, 57, 22, 283, 284, 285, 66, 286, 75, 627, 628, 629, 2, 630, 33, 711, 712, 713, 21, 714, 90, 715, 248, 249, 250, 716, 717, 718, 719, 216, 217, 218, 81, 82, 720, 522, 523, 56, 524, 115, 525, 526, 721, 534, 535, 536, 537, 538, 539, 540, 541, 542, 543, 544, 121, 545, 546, 547, 548, 549, 53, 550, 551, 552, 553, 554, 44, 555, 556, 557, 558, 559, 38, 560, 561, 562, 563, 564, 565, 566, 567, 568, 569, 570, 50, 571, 572, 573, 574, 575, 576, 577, 578, 579, 580, 581, 582, 583, 584, 585, 47, 586, 587, 588, 589, 590, 591, 592, 593, 41, 594, 595, 596, 597, 598, 599, 600, 601, 602, 603, 604, 531, 532, 722, 723, 724, 725, 726, 672, 78, 673, 89, 727, 728, 729, 730, 86, 731, 732, 733, 734, 735, 736, 737, 738, 88, 87, 739, 528, 529, 530, 119, 740, 741, 742, 743, 991, 992, 993, 994, 995, 996, 997, 998, 999, 1000, 1001, 1002, 1003, 1004, 1005, 1041, 1042, 1043, 1044, 1045, 1046, 1047, 1034, 1035, 1036, 1037, 1038, 1048, 1049, 1050, 1051] (by decide +kernel) (by decide +kernel)
set_option maxRecDepth 20000 in
theorem gL_law_X11_hired : GoodIn wsL_law (wsV RL 89 RX11 yX11_hired wsX11_hired) := goodIn_app (goodIn_of _ (by decide +kernel)) ggL_law_X11_hired
set_option maxRecDepth 20000 in
theorem ggL_law_X12_hired : GoodIn wsL_law wsX12_hired := goodIn_r _ [747, 127, 748, 749, 134, 170, 171, 5, 172, 177, 178, 179, 180, 130, 750, 751, 752, 753, 754, 755, 756, 757, 696, 697, 698, 758, 759, 760, 761, 239, 240, 241, 242, 613, 614, 615, 616, 617, 618, 619, 620, 621, 622, 1006, 1007, 1008, 1009, 1010, 1011, 1012, 1013, 1014, 1015, 1016, 1017, 1018, 1019, 1020, 1021, 1022, 1023, 1024, 1025, 1026, 1027, 1028] (by decide +kernel) (by decide +kernel)
set_option maxRecDepth 20000 in
theorem gL_law_X12_hired : GoodIn wsL_law (wsV RL 92 RX12 yX12_hired wsX12_hired) := goodIn_app (goodIn_of _ (by decide +kernel)) ggL_law_X12_hired
set_option maxRecDepth 20000 in
theorem ggL_law_X11_turns : GoodIn wsL_law wsX11_turns := goodIn_r _ [765, 57, 283, 284, 285, 66, 286, 75, 627, 628, 629, 2, 630, 33, 766, 767, 768, 769, 30, 660, 461, 78, 462, 28, 29, 770, 771, 772, 773, 247, 248, 249, 250, 774, 775, 776, 777, 671, 672, 673, 642, 216, 217, 218, 81, 82, 778, 779, 780, 781, 661, 153, 154, 155, 156, 157, 782, 783, 784, 785, 991, 992, 993, 994, 995, 996, 997, 998, 999, 1000, 1001, 1002, 1003, 1004, 1005, 1041, 1042, 1043, 1044, 1045, 1046, 1047, 1048, 1049, 1050, 1051] (by decide +kernel) (by decide +kernel)
set_option maxRecDepth 20000 in
theorem gL_law_X11_turns : GoodIn wsL_law (wsV RL 93 RX11 yX11_turns wsX11_turns) := goodIn_app (goodIn_of _ (by decide +kernel)) ggL_law_X11_turns
set_option maxRecDepth 20000 in
theorem ggL_law_X12_turns : GoodIn wsL_law wsX12_turns := goodIn_r _ [789, 127, 135, 136, 170, 171, 5, 172, 177, 178, 179, 180, 130, 790, 791, 792, 793, 239, 240, 241, 242, 696, 697, 698, 1006, 1007, 1008, 1009, 1010, 1011, 1012, 1013, 1014, 1015, 1016, 1017, 1018, 1019, 1020, 1021, 1022, 1023, 1024, 1025, 1026, 1027, 1028] (by decide +kernel) (by decide +kernel)
set_option maxRecDepth 20000 in
theorem gL_law_X12_turns : GoodIn wsL_law (wsV RL 96 RX12 yX12_turns wsX12_turns) := goodIn_app (goodIn_of _ (by decide +kernel)) ggL_law_X12_turns
set_option maxRecDepth 20000 in
theorem ggL_law_X11_treaty : GoodIn wsL_law wsX11_treaty := goodIn_r _ [797, 57, 247, 248, 249, 66, 250, 75, 798, 799, 800, 2, 801, 671, 672, 78, 673, 642, 216, 217, 218, 81, 82, 991, 992, 993, 994, 995, 996, 997, 998, 999, 1000, 1001, 1002, 1003, 1004, 1005, 1041, 1042, 1043, 1044, 1045, 1046, 1047, 1048, 1049, 1050, 1051] (by decide +kernel) (by decide +kernel)
set_option maxRecDepth 20000 in
theorem gL_law_X11_treaty : GoodIn wsL_law (wsV RL 97 RX11 yX11_treaty wsX11_treaty) := goodIn_app (goodIn_of _ (by decide +kernel)) ggL_law_X11_treaty
set_option maxRecDepth 20000 in
theorem ggL_law_X12_treaty : GoodIn wsL_law wsX12_treaty := goodIn_r _ [805, 127, 239, 240, 241, 5, 242, 696, 697, 698, 1006, 1007, 1008, 1009, 1010, 1011, 1012, 1013, 1014, 1015, 1016, 1017, 1018, 1019, 1020, 1021, 1022, 1023, 1024, 1025, 1026, 1027, 1028] (by decide +kernel) (by decide +kernel)
set_option maxRecDepth 20000 in
theorem gL_law_X12_treaty : GoodIn wsL_law (wsV RL 100 RX12 yX12_treaty wsX12_treaty) := goodIn_app (goodIn_of _ (by decide +kernel)) ggL_law_X12_treaty
set_option maxRecDepth 20000 in
theorem ggL_law_X11_look : GoodIn wsL_law wsX11_look := goodIn_r _ [809, 57, 448, 449, 450, 56, 451, 118, 209, 2, 210, 155, 156, 157, 211, 212, 213, 66, 214, 75, 215, 216, 217, 218, 81, 82, 153, 154, 219, 220, 221, 222, 223, 224, 225, 226, 80, 227, 228, 229, 230, 158, 159, 160, 161, 33, 34, 35, 991, 992, 993, 994, 995, 996, 997, 998, 999, 1000, 1001, 1002, 1003, 1004, 1005, 1041, 1042, 1043, 1044, 1045, 1046, 1047, 1048, 1049, 1050, 1051] (by decide +kernel) (by decide +kernel)
set_option maxRecDepth 20000 in
theorem gL_law_X11_look : GoodIn wsL_law (wsV RL 101 RX11 yX11_look wsX11_look) := goodIn_app (goodIn_of _ (by decide +kernel)) ggL_law_X11_look
set_option maxRecDepth 20000 in
theorem ggL_law_X12_look : GoodIn wsL_law wsX12_look := goodIn_r _ [813, 508, 509, 510, 5, 511, 127, 170, 171, 172, 173, 174, 175, 176, 177, 178, 179, 180, 130, 181, 182, 183, 184, 1006, 1007, 1008, 1009, 1010, 1011, 1012, 1013, 1014, 1015, 1016, 1017, 1018, 1019, 1020, 1021, 1022, 1023, 1024, 1025, 1026, 1027, 1028] (by decide +kernel) (by decide +kernel)
set_option maxRecDepth 20000 in
theorem gL_law_X12_look : GoodIn wsL_law (wsV RL 104 RX12 yX12_look wsX12_look) := goodIn_app (goodIn_of _ (by decide +kernel)) ggL_law_X12_look
set_option maxRecDepth 20000 in
theorem ggL_law_X11_forget : GoodIn wsL_law wsX11_forget := goodIn_r _ [817, 57, 818, 335, 336, 66, 337, 75, 991, 992, 993, 994, 995, 996, 997, 998, 999, 1000, 1001, 1002, 1003, 1004, 1005, 1041, 1042, 1043, 1044, 1045, 1046, 1047, 1048, 1049, 1050, 1051] (by decide +kernel) (by decide +kernel)
set_option maxRecDepth 20000 in
theorem gL_law_X11_forget : GoodIn wsL_law (wsV RL 105 RX11 yX11_forget wsX11_forget) := goodIn_app (goodIn_of _ (by decide +kernel)) ggL_law_X11_forget
set_option maxRecDepth 20000 in
theorem ggL_law_X12_forget : GoodIn wsL_law wsX12_forget := goodIn_r _ [822, 127, 1006, 1007, 1008, 1009, 1010, 1011, 1012, 1013, 1014, 1015, 1016, 1017, 1018, 1019, 1020, 1021, 1022, 1023, 1024, 1025, 1026, 1027, 1028] (by decide +kernel) (by decide +kernel)
set_option maxRecDepth 20000 in
theorem gL_law_X12_forget : GoodIn wsL_law (wsV RL 108 RX12 yX12_forget wsX12_forget) := goodIn_app (goodIn_of _ (by decide +kernel)) ggL_law_X12_forget
set_option maxRecDepth 20000 in
theorem ggL_law_X11_done : GoodIn wsL_law wsX11_done := goodIn_r _ [826, 827, 828, 829, 2, 830, 26, 57, 831, 832, 833, 25, 834, 95, 835, 836, 837, 838, 839, 840, 841, 842, 843, 844, 845, 247, 248, 249, 66, 250, 75, 642, 216, 217, 218, 81, 82, 674, 522, 523, 56, 524, 115, 525, 526, 846, 847, 848, 849, 850, 851, 852, 853, 96, 854, 771, 772, 773, 855, 856, 857, 858, 991, 992, 993, 994, 995, 996, 997, 998, 999, 1000, 1001, 1002, 1003, 1004, 1005, 1041, 1042, 1043, 1044, 1045, 1046, 1047, 1039, 1040, 1048, 1049, 1050, 1051] (by decide +kernel) (by decide +kernel)
set_option maxRecDepth 20000 in
theorem gL_law_X11_done : GoodIn wsL_law (wsV RL 109 RX11 yX11_done wsX11_done) := goodIn_app (goodIn_of _ (by decide +kernel)) ggL_law_X11_done
set_option maxRecDepth 20000 in
theorem ggL_law_X12_done : GoodIn wsL_law wsX12_done := goodIn_r _ [862, 863, 864, 865, 5, 866, 137, 127, 867, 868, 869, 870, 239, 240, 241, 242, 170, 171, 172, 1006, 1007, 1008, 1009, 1010, 1011, 1012, 1013, 1014, 1015, 1016, 1017, 1018, 1019, 1020, 1021, 1022, 1023, 1024, 1025, 1026, 1027, 1028] (by decide +kernel) (by decide +kernel)
set_option maxRecDepth 20000 in
theorem gL_law_X12_done : GoodIn wsL_law (wsV RL 112 RX12 yX12_done wsX12_done) := goodIn_app (goodIn_of _ (by decide +kernel)) ggL_law_X12_done
set_option maxRecDepth 20000 in
theorem ggL_law_X11_sure : GoodIn wsL_law wsX11_sure := goodIn_r _ [874, 57, 34, 283, 284, 285, 66, 286, 75, 627, 628, 629, 2, 630, 33, 827, 828, 829, 830, 26, 831, 832, 833, 25, 834, 95, 835, 836, 837, 838, 839, 840, 841, 842, 843, 844, 845, 247, 248, 249, 250, 642, 216, 217, 218, 81, 82, 674, 522, 523, 56, 524, 115, 525, 526, 846, 847, 848, 849, 850, 851, 852, 853, 96, 854, 771, 772, 773, 855, 856, 857, 858, 991, 992, 993, 994, 995, 996, 997, 998, 999, 1000, 1001, 1002, 1003, 1004, 1005, 1041, 1042, 1043, 1044, 1045, 1046, 1047, 1048, 1049, 1050, 1051, 1039, 1040] (by decide +kernel) (by decide +kernel)
set_option maxRecDepth 20000 in
theorem gL_law_X11_sure : GoodIn wsL_law (wsV RL 113 RX11 yX11_sure wsX11_sure) := goodIn_app (goodIn_of _ (by decide +kernel)) ggL_law_X11_sure
set_option maxRecDepth 20000 in
theorem ggL_law_X12_sure : GoodIn wsL_law wsX12_sure := goodIn_r _ [878, 292, 293, 294, 5, 295, 127, 170, 171, 172, 177, 178, 179, 180, 130, 863, 864, 865, 866, 137, 867, 868, 869, 870, 239, 240, 241, 242, 259, 260, 261, 262, 1006, 1007, 1008, 1009, 1010, 1011, 1012, 1013, 1014, 1015, 1016, 1017, 1018, 1019, 1020, 1021, 1022, 1023, 1024, 1025, 1026, 1027, 1028] (by decide +kernel) (by decide +kernel)
set_option maxRecDepth 20000 in
theorem gL_law_X12_sure : GoodIn wsL_law (wsV RL 116 RX12 yX12_sure wsX12_sure) := goodIn_app (goodIn_of _ (by decide +kernel)) ggL_law_X12_sure
set_option maxRecDepth 20000 in
theorem ggL_law_X11_chance : GoodIn wsL_law wsX11_chance := goodIn_r _ [882, 26, 57, 883, 661, 153, 2, 154, 155, 156, 157, 158, 159, 160, 161, 33, 34, 35, 831, 832, 833, 25, 834, 95, 835, 836, 837, 838, 839, 840, 841, 247, 248, 249, 66, 250, 75, 884, 885, 886, 887, 642, 216, 217, 218, 81, 82, 850, 851, 852, 853, 96, 854, 771, 772, 773, 855, 856, 857, 858, 888, 889, 890, 891, 31, 32, 892, 893, 894, 991, 992, 993, 994, 995, 996, 997, 998, 999, 1000, 1001, 1002, 1003, 1004, 1005, 1041, 1042, 1043, 1044, 1045, 1046, 1047, 1039, 1040, 1048, 1049, 1050, 1051] (by decide +kernel) (by decide +kernel)
set_option maxRecDepth 20000 in
theorem gL_law_X11_chance : GoodIn wsL_law (wsV RL 117 RX11 yX11_chance wsX11_chance) := goodIn_app (goodIn_of _ (by decide +kernel)) ggL_law_X11_chance
