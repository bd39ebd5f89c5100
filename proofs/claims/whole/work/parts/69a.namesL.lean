set_option maxRecDepth 20000 in
theorem ggL_law_X11_init : GoodIn wsL_law wsX11_init := goodIn_r _ [9, 10, 11, 12, 13, 14, 15, 16, 17, 18, 19, 20, 21, 22, 23, 24, 25, 26, 27, 28, 29, 30, 31, 32, 33, 34, 35, 36, 37, 38, 39, 40, 41, 42, 43, 44, 45, 46, 47, 48, 49, 50, 51, 52, 53, 54, 55, 56, 57, 58, 59, 60, 61, 62, 63, 64, 65, 66, 67, 68, 69, 70, 71, 72, 73, 74, 75, 76, 77, 78, 79, 80, 81, 82, 83, 84, 85, 86, 87, 88, 89, 90, 91, 92, 93, 94, 95, 96, 97, 98, 99, 100, 101, 102, 103, 104, 105, 106, 107, 108, 109, 110, 111, 112, 113, 114, 115, 116, 117, 118, 119, 120, 121, 122, 991, 992, 993, 994, 995, 996, 997, 998, 999, 1000, 1001, 1002, 1003, 1004, 1005, 1029, 1030, 1031, 1032, 1033, 1034, 1035, 1036, 1037, 1038, 1039, 1040, 1041, 1042, 1043, 1044, 1045, 1046, 1047, 1048, 1049, 1050, 1051] (by decide +kernel) (by decide +kernel)
set_option maxRecDepth 20000 in
theorem gL_law_X11_init : GoodIn wsL_law (wsX11_init) := ggL_law_X11_init
set_option maxRecDepth 20000 in
theorem ggL_law_X12_init : GoodIn wsL_law wsX12_init := goodIn_r _ [125, 126, 11, 12, 27, 127, 128, 129, 130, 62, 131, 132, 133, 134, 135, 136, 137, 94, 138, 139, 140, 141, 142, 143, 5, 144, 1006, 1007, 1008, 1009, 1010, 1011, 1012, 1013, 1014, 1015, 1016, 1017, 1018, 1019, 1020, 1021, 1022, 1023, 1024, 1025, 1026, 1027, 1028] (by decide +kernel) (by decide +kernel)
set_option maxRecDepth 20000 in
theorem gL_law_X12_init : GoodIn wsL_law (wsX12_init) := ggL_law_X12_init
set_option maxRecDepth 20000 in
theorem ggL_law_X11_wall : GoodIn wsL_law wsX11_wall := goodIn_r _ [148, 57, 149, 150, 151, 56, 152, 119, 153, 2, 154, 155, 156, 157, 158, 159, 160, 161, 33, 34, 35, 991, 992, 993, 994, 995, 996, 997, 998, 999, 1000, 1001, 1002, 1003, 1004, 1005, 1041, 1042, 1043, 1044, 1045, 1046, 1047] (by decide +kernel) (by decide +kernel)
set_option maxRecDepth 20000 in
theorem gL_law_X11_wall : GoodIn wsL_law (wsV RL 13 RX11 yX11_wall wsX11_wall) := goodIn_app (goodIn_of _ (by decide +kernel)) ggL_law_X11_wall
set_option maxRecDepth 20000 in
theorem ggL_law_X12_wall : GoodIn wsL_law wsX12_wall := goodIn_r _ [165, 166, 167, 168, 5, 169, 127, 170, 171, 172, 173, 174, 175, 176, 177, 178, 179, 180, 130, 181, 182, 183, 184, 1006, 1007, 1008, 1009, 1010, 1011, 1012, 1013, 1014, 1015, 1016, 1017, 1018, 1019, 1020, 1021, 1022, 1023, 1024, 1025, 1026, 1027, 1028] (by decide +kernel) (by decide +kernel)
set_option maxRecDepth 20000 in
theorem gL_law_X12_wall : GoodIn wsL_law (wsV RL 17 RX12 yX12_wall wsX12_wall) := goodIn_app (goodIn_of _ (by decide +kernel)) ggL_law_X12_wall
set_option maxRecDepth 20000 in
theorem ggL_law_X11_coach : GoodIn wsL_law wsX11_coach := goodIn_r _ [188, 57, 189, 190, 191, 56, 192, 120, 153, 2, 154, 155, 156, 157, 158, 159, 160, 161, 33, 34, 35, 991, 992, 993, 994, 995, 996, 997, 998, 999, 1000, 1001, 1002, 1003, 1004, 1005, 1041, 1042, 1043, 1044, 1045, 1046, 1047] (by decide +kernel) (by decide +kernel)
set_option maxRecDepth 20000 in
theorem gL_law_X11_coach : GoodIn wsL_law (wsV RL 18 RX11 yX11_coach wsX11_coach) := goodIn_app (goodIn_of _ (by decide +kernel)) ggL_law_X11_coach
set_option maxRecDepth 20000 in
theorem ggL_law_X12_coach : GoodIn wsL_law wsX12_coach := goodIn_r _ [196, 197, 198, 199, 5, 200, 127, 170, 171, 172, 173, 174, 175, 176, 177, 178, 179, 180, 130, 181, 182, 183, 184, 1006, 1007, 1008, 1009, 1010, 1011, 1012, 1013, 1014, 1015, 1016, 1017, 1018, 1019, 1020, 1021, 1022, 1023, 1024, 1025, 1026, 1027, 1028] (by decide +kernel) (by decide +kernel)
set_option maxRecDepth 20000 in
theorem gL_law_X12_coach : GoodIn wsL_law (wsV RL 21 RX12 yX12_coach wsX12_coach) := goodIn_app (goodIn_of _ (by decide +kernel)) ggL_law_X12_coach
set_option maxRecDepth 20000 in
theorem ggL_law_X11_passer : GoodIn wsL_law wsX11_passer := goodIn_r _ [204, 57, 205, 206, 207, 56, 208, 115, 121, 209, 2, 210, 155, 156, 157, 211, 212, 213, 66, 214, 75, 215, 216, 217, 218, 81, 82, 153, 154, 219, 220, 221, 222, 223, 224, 225, 226, 80, 227, 228, 229, 230, 158, 159, 160, 161, 33, 34, 35, 991, 992, 993, 994, 995, 996, 997, 998, 999, 1000, 1001, 1002, 1003, 1004, 1005, 1041, 1042, 1043, 1044, 1045, 1046, 1047, 1048, 1049, 1050, 1051] (by decide +kernel) (by decide +kernel)
set_option maxRecDepth 20000 in
theorem gL_law_X11_passer : GoodIn wsL_law (wsV RL 22 RX11 yX11_passer wsX11_passer) := goodIn_app (goodIn_of _ (by decide +kernel)) ggL_law_X11_passer
set_option maxRecDepth 20000 in
theorem ggL_law_X12_passer : GoodIn wsL_law wsX12_passer := goodIn_r _ [234, 235, 236, 237, 5, 238, 127, 239, 240, 241, 242, 170, 171, 172, 173, 174, 175, 176, 177, 178, 179, 180, 130, 181, 182, 183, 184, 1006, 1007, 1008, 1009, 1010, 1011, 1012, 1013, 1014, 1015, 1016, 1017, 1018, 1019, 1020, 1021, 1022, 1023, 1024, 1025, 1026, 1027, 1028] (by decide +kernel) (by decide +kernel)
set_option maxRecDepth 20000 in
theorem gL_law_X12_passer : GoodIn wsL_law (wsV RL 26 RX12 yX12_passer wsX12_passer) := goodIn_app (goodIn_of _ (by decide +kernel)) ggL_law_X12_passer
set_option maxRecDepth 20000 in
theorem ggL_law_X11_undo : GoodIn wsL_law wsX11_undo := goodIn_r _ [246, 57, 247, 248, 249, 66, 250, 75, 158, 159, 160, 2, 161, 33, 34, 35, 251, 252, 253, 254, 991, 992, 993, 994, 995, 996, 997, 998, 999, 1000, 1001, 1002, 1003, 1004, 1005, 1041, 1042, 1043, 1044, 1045, 1046, 1047, 1048, 1049, 1050, 1051] (by decide +kernel) (by decide +kernel)
set_option maxRecDepth 20000 in
theorem gL_law_X11_undo : GoodIn wsL_law (wsV RL 27 RX11 yX11_undo wsX11_undo) := goodIn_app (goodIn_of _ (by decide +kernel)) ggL_law_X11_undo
set_option maxRecDepth 20000 in
theorem ggL_law_X12_undo : GoodIn wsL_law wsX12_undo := goodIn_r _ [258, 127, 259, 260, 261, 5, 262, 130, 1006, 1007, 1008, 1009, 1010, 1011, 1012, 1013, 1014, 1015, 1016, 1017, 1018, 1019, 1020, 1021, 1022, 1023, 1024, 1025, 1026, 1027, 1028] (by decide +kernel) (by decide +kernel)
set_option maxRecDepth 20000 in
theorem gL_law_X12_undo : GoodIn wsL_law (wsV RL 31 RX12 yX12_undo wsX12_undo) := goodIn_app (goodIn_of _ (by decide +kernel)) ggL_law_X12_undo
set_option maxRecDepth 20000 in
theorem ggL_law_X11_beast : GoodIn wsL_law wsX11_beast := goodIn_r _ [266, 57, 267, 268, 269, 56, 270, 116, 209, 2, 210, 155, 156, 157, 153, 154, 219, 220, 221, 66, 222, 75, 223, 224, 225, 226, 80, 227, 228, 229, 230, 81, 82, 158, 159, 160, 161, 33, 34, 35, 991, 992, 993, 994, 995, 996, 997, 998, 999, 1000, 1001, 1002, 1003, 1004, 1005, 1041, 1042, 1043, 1044, 1045, 1046, 1047, 1048, 1049, 1050, 1051] (by decide +kernel) (by decide +kernel)
set_option maxRecDepth 20000 in
theorem gL_law_X11_beast : GoodIn wsL_law (wsV RL 32 RX11 yX11_beast wsX11_beast) := goodIn_app (goodIn_of _ (by decide +kernel)) ggL_law_X11_beast
set_option maxRecDepth 20000 in
theorem ggL_law_X12_beast : GoodIn wsL_law wsX12_beast := goodIn_r _ [274, 275, 276, 277, 5, 278, 127, 170, 171, 172, 173, 174, 175, 176, 177, 178, 179, 180, 130, 181, 182, 183, 184, 1006, 1007, 1008, 1009, 1010, 1011, 1012, 1013, 1014, 1015, 1016, 1017, 1018, 1019, 1020, 1021, 1022, 1023, 1024, 1025, 1026, 1027, 1028] (by decide +kernel) (by decide +kernel)
set_option maxRecDepth 20000 in
theorem gL_law_X12_beast : GoodIn wsL_law (wsV RL 36 RX12 yX12_beast wsX12_beast) := goodIn_app (goodIn_of _ (by decide +kernel)) ggL_law_X12_beast
set_option maxRecDepth 20000 in
theorem ggL_law_X11_odds : GoodIn wsL_law wsX11_odds := goodIn_r _ [282, 57, 283, 284, 285, 66, 286, 75, 155, 156, 2, 157, 158, 159, 160, 161, 33, 34, 35, 287, 228, 229, 230, 81, 82, 991, 992, 993, 994, 995, 996, 997, 998, 999, 1000, 1001, 1002, 1003, 1004, 1005, 1041, 1042, 1043, 1044, 1045, 1046, 1047, 1048, 1049, 1050, 1051] (by decide +kernel) (by decide +kernel)
set_option maxRecDepth 20000 in
theorem gL_law_X11_odds : GoodIn wsL_law (wsV RL 37 RX11 yX11_odds wsX11_odds) := goodIn_app (goodIn_of _ (by decide +kernel)) ggL_law_X11_odds
set_option maxRecDepth 20000 in
theorem ggL_law_X12_odds : GoodIn wsL_law wsX12_odds := goodIn_r _ [291, 127, 292, 293, 294, 5, 295, 170, 171, 172, 177, 178, 179, 180, 130, 1006, 1007, 1008, 1009, 1010, 1011, 1012, 1013, 1014, 1015, 1016, 1017, 1018, 1019, 1020, 1021, 1022, 1023, 1024, 1025, 1026, 1027, 1028] (by decide +kernel) (by decide +kernel)
set_option maxRecDepth 20000 in
theorem gL_law_X12_odds : GoodIn wsL_law (wsV RL 41 RX12 yX12_odds wsX12_odds) := goodIn_app (goodIn_of _ (by decide +kernel)) ggL_law_X12_odds
set_option maxRecDepth 20000 in
theorem ggL_law_X11_type : GoodIn wsL_law wsX11_type := goodIn_r _ [299, 18, 155, 156, 2, 157, 158, 159, 160, 161, 33, 34, 35, 300, 301, 302, 17, 303, 68, 304, 305, 306, 307, 63, 991, 992, 993, 994, 995, 996, 997, 998, 999, 1000, 1001, 1002, 1003, 1004, 1005, 1029, 1030, 1031, 1032, 1033] (by decide +kernel) (by decide +kernel)
set_option maxRecDepth 20000 in
theorem gL_law_X11_type : GoodIn wsL_law (wsV RL 44 RX11 yX11_type wsX11_type) := goodIn_app (goodIn_of _ (by decide +kernel)) ggL_law_X11_type
set_option maxRecDepth 20000 in
theorem ggL_law_X12_type : GoodIn wsL_law wsX12_type := goodIn_r _ [311, 312, 131, 313, 170, 171, 5, 172, 177, 178, 179, 180, 130, 181, 182, 183, 184, 1006, 1007, 1008, 1009, 1010, 1011, 1012, 1013, 1014, 1015, 1016, 1017, 1018, 1019, 1020, 1021, 1022, 1023, 1024, 1025, 1026, 1027, 1028] (by decide +kernel) (by decide +kernel)
set_option maxRecDepth 20000 in
theorem gL_law_X12_type : GoodIn wsL_law (wsV RL 48 RX12 yX12_type wsX12_type) := goodIn_app (goodIn_of _ (by decide +kernel)) ggL_law_X12_type
set_option maxRecDepth 20000 in
theorem ggL_law_X11_clear : GoodIn wsL_law wsX11_clear := goodIn_r _ [317, 18, 318, 319, 320, 17, 321, 68, 991, 992, 993, 994, 995, 996, 997, 998, 999, 1000, 1001, 1002, 1003, 1004, 1005, 1029, 1030, 1031, 1032, 1033] (by decide +kernel) (by decide +kernel)
set_option maxRecDepth 20000 in
theorem gL_law_X11_clear : GoodIn wsL_law (wsV RL 49 RX11 yX11_clear wsX11_clear) := goodIn_app (goodIn_of _ (by decide +kernel)) ggL_law_X11_clear
