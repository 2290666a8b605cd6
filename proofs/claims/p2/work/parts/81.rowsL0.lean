set_option maxRecDepth 20000 in
theorem ggL_law_X11_init : GoodIn wsL_law wsX11_init := goodIn_r _ [8, 9, 10, 11, 12, 13, 14, 15, 16, 17, 18, 19, 20, 21, 22, 23, 24, 25, 26, 27, 28, 29, 30, 31, 32, 33, 34, 35, 36, 37, 38, 39, 40, 41, 42, 43, 44, 45, 46, 47, 48, 49, 50, 51, 52, 53, 54, 55, 56, 57, 58, 59, 60, 61, 62, 63, 64, 65, 66, 67, 68, 69, 70, 71, 72, 73, 74, 75, 76, 77, 78, 79, 80, 81, 82, 83, 84, 85, 951, 952, 953, 954, 955, 956, 957, 958, 959, 960, 961, 962, 963, 988, 989, 990, 991, 992, 993, 994, 995, 996, 997, 998, 999, 1000, 1001, 1002, 1003, 1004, 1005, 1006, 1007, 1008, 1009, 1010, 1011] (by decide +kernel) (by decide +kernel)
set_option maxRecDepth 20000 in
theorem gL_law_X11_init : GoodIn wsL_law (wsX11_init) := ggL_law_X11_init
set_option maxRecDepth 20000 in
theorem ggL_law_X12_init : GoodIn wsL_law wsX12_init := goodIn_r _ [88, 89, 10, 11, 45, 90, 91, 92, 93, 94, 67, 95, 96, 97, 98, 99, 100, 964, 965, 966, 967, 968, 969, 970, 971, 972, 973, 974, 975, 976, 977, 978, 979, 980, 981, 982, 983, 984, 985, 986, 987] (by decide +kernel) (by decide +kernel)
set_option maxRecDepth 20000 in
theorem gL_law_X12_init : GoodIn wsL_law (wsX12_init) := ggL_law_X12_init
set_option maxRecDepth 20000 in
theorem ggL_law_X11_picture : GoodIn wsL_law wsX11_picture := goodIn_r _ [104, 105, 106, 39, 13, 12, 107, 108, 109, 110, 111, 2, 112, 113, 114, 115, 116, 117, 38, 118, 75, 119, 120, 121, 122, 123, 124, 125, 126, 127, 128, 10, 11, 129, 130, 131, 132, 133, 134, 135, 136, 137, 45, 138, 139, 951, 952, 953, 954, 955, 956, 957, 958, 959, 960, 961, 962, 963, 1012, 1013, 1014, 1003, 1004, 1005, 1009, 1010, 1011, 1015, 1016, 1017, 1018, 1019, 1020, 1021, 1022] (by decide +kernel) (by decide +kernel)
set_option maxRecDepth 20000 in
theorem gL_law_X11_picture : GoodIn wsL_law (wsV RL 13 RX11 yX11_picture wsX11_picture) := goodIn_app (goodIn_of _ (by decide +kernel)) ggL_law_X11_picture
set_option maxRecDepth 20000 in
theorem ggL_law_X12_picture : GoodIn wsL_law wsX12_picture := goodIn_r _ [143, 90, 144, 145, 146, 147, 5, 148, 149, 150, 151, 152, 153, 91, 154, 155, 964, 965, 966, 967, 968, 969, 970, 971, 972, 973, 974, 975, 976, 977, 978, 979, 980, 981, 982, 983, 984, 985, 986, 987] (by decide +kernel) (by decide +kernel)
set_option maxRecDepth 20000 in
theorem gL_law_X12_picture : GoodIn wsL_law (wsV RL 17 RX12 yX12_picture wsX12_picture) := goodIn_app (goodIn_of _ (by decide +kernel)) ggL_law_X12_picture
set_option maxRecDepth 20000 in
theorem ggL_law_X11_place : GoodIn wsL_law wsX11_place := goodIn_r _ [159, 160, 106, 39, 161, 162, 163, 2, 164, 105, 13, 165, 166, 167, 168, 169, 170, 109, 110, 111, 112, 113, 114, 171, 172, 173, 108, 174, 132, 175, 176, 177, 131, 178, 179, 115, 116, 117, 38, 118, 75, 119, 120, 121, 122, 123, 124, 180, 181, 182, 183, 133, 184, 185, 186, 187, 138, 139, 188, 189, 190, 191, 192, 193, 194, 195, 196, 197, 198, 199, 200, 201, 202, 203, 204, 205, 206, 207, 208, 209, 210, 951, 952, 953, 954, 955, 956, 957, 958, 959, 960, 961, 962, 963, 1012, 1013, 1014, 1015, 1016, 1017, 1018, 1019, 1020, 1021, 1022, 1003, 1004, 1005, 1009, 1010, 1011] (by decide +kernel) (by decide +kernel)
set_option maxRecDepth 20000 in
theorem gL_law_X11_place : GoodIn wsL_law (wsV RL 18 RX11 yX11_place wsX11_place) := goodIn_app (goodIn_of _ (by decide +kernel)) ggL_law_X11_place
set_option maxRecDepth 20000 in
theorem ggL_law_X12_place : GoodIn wsL_law wsX12_place := goodIn_r _ [214, 215, 90, 144, 216, 217, 218, 5, 219, 220, 221, 222, 223, 224, 225, 145, 146, 147, 148, 149, 150, 151, 152, 153, 91, 154, 155, 964, 965, 966, 967, 968, 969, 970, 971, 972, 973, 974, 975, 976, 977, 978, 979, 980, 981, 982, 983, 984, 985, 986, 987] (by decide +kernel) (by decide +kernel)
set_option maxRecDepth 20000 in
theorem gL_law_X12_place : GoodIn wsL_law (wsV RL 22 RX12 yX12_place wsX12_place) := goodIn_app (goodIn_of _ (by decide +kernel)) ggL_law_X12_place
set_option maxRecDepth 20000 in
theorem ggL_law_X11_unplace : GoodIn wsL_law wsX11_unplace := goodIn_r _ [229, 160, 230, 39, 161, 162, 163, 2, 164, 105, 13, 109, 110, 111, 112, 113, 114, 171, 172, 173, 108, 174, 132, 175, 176, 177, 131, 178, 179, 115, 116, 117, 38, 118, 75, 119, 120, 121, 122, 123, 124, 231, 232, 233, 234, 133, 235, 236, 237, 238, 138, 239, 240, 241, 242, 139, 243, 244, 245, 246, 247, 248, 249, 250, 188, 189, 190, 191, 192, 193, 194, 195, 196, 197, 198, 199, 200, 201, 202, 203, 204, 205, 206, 207, 208, 209, 210, 951, 952, 953, 954, 955, 956, 957, 958, 959, 960, 961, 962, 963, 1012, 1013, 1014, 1015, 1016, 1017, 1018, 1019, 1020, 1021, 1022, 1003, 1004, 1005, 1009, 1010, 1011] (by decide +kernel) (by decide +kernel)
set_option maxRecDepth 20000 in
theorem gL_law_X11_unplace : GoodIn wsL_law (wsV RL 23 RX11 yX11_unplace wsX11_unplace) := goodIn_app (goodIn_of _ (by decide +kernel)) ggL_law_X11_unplace
set_option maxRecDepth 20000 in
theorem ggL_law_X12_unplace : GoodIn wsL_law wsX12_unplace := goodIn_r _ [254, 215, 90, 255, 216, 217, 218, 5, 219, 220, 221, 222, 145, 146, 147, 148, 149, 150, 151, 152, 153, 91, 154, 155, 964, 965, 966, 967, 968, 969, 970, 971, 972, 973, 974, 975, 976, 977, 978, 979, 980, 981, 982, 983, 984, 985, 986, 987] (by decide +kernel) (by decide +kernel)
set_option maxRecDepth 20000 in
theorem gL_law_X12_unplace : GoodIn wsL_law (wsV RL 27 RX12 yX12_unplace wsX12_unplace) := goodIn_app (goodIn_of _ (by decide +kernel)) ggL_law_X12_unplace
set_option maxRecDepth 20000 in
theorem ggL_law_X11_led : GoodIn wsL_law wsX11_led := goodIn_r _ [259, 160, 230, 161, 162, 163, 2, 164, 105, 13, 165, 166, 167, 168, 169, 170, 109, 110, 111, 112, 113, 114, 260, 261, 262, 108, 263, 133, 132, 264, 265, 266, 131, 267, 192, 268, 208, 209, 210, 195, 194, 269, 270, 271, 272, 273, 274, 275, 276, 202, 123, 203, 277, 278, 279, 951, 952, 953, 954, 955, 956, 957, 958, 959, 960, 961, 962, 963, 1012, 1013, 1014, 1015, 1016, 1017, 1018, 1019, 1020, 1021, 1022] (by decide +kernel) (by decide +kernel)
set_option maxRecDepth 20000 in
theorem gL_law_X11_led : GoodIn wsL_law (wsV RL 28 RX11 yX11_led wsX11_led) := goodIn_app (goodIn_of _ (by decide +kernel)) ggL_law_X11_led
set_option maxRecDepth 20000 in
theorem ggL_law_X12_led : GoodIn wsL_law wsX12_led := goodIn_r _ [283, 215, 255, 284, 285, 216, 217, 218, 5, 219, 90, 220, 221, 222, 223, 224, 225, 145, 146, 147, 148, 149, 286, 287, 288, 289, 290, 291, 292, 293, 294, 295, 296, 297, 298, 299, 300, 301, 302, 303, 304, 964, 965, 966, 967, 968, 969, 970, 971, 972, 973, 974, 975, 976, 977, 978, 979, 980, 981, 982, 983, 984, 985, 986, 987] (by decide +kernel) (by decide +kernel)
set_option maxRecDepth 20000 in
theorem gL_law_X12_led : GoodIn wsL_law (wsV RL 32 RX12 yX12_led wsX12_led) := goodIn_app (goodIn_of _ (by decide +kernel)) ggL_law_X12_led
set_option maxRecDepth 20000 in
theorem ggL_law_X11_miss : GoodIn wsL_law wsX11_miss := goodIn_r _ [308, 160, 230, 161, 162, 163, 2, 164, 105, 13, 109, 110, 111, 112, 113, 114, 260, 261, 262, 108, 263, 133, 132, 264, 265, 266, 131, 267, 192, 309, 310, 311, 312, 193, 194, 313, 314, 315, 316, 179, 273, 274, 275, 276, 202, 123, 203, 277, 278, 279, 951, 952, 953, 954, 955, 956, 957, 958, 959, 960, 961, 962, 963, 1012, 1013, 1014, 1015, 1016, 1017, 1018, 1019, 1020, 1021, 1022] (by decide +kernel) (by decide +kernel)
set_option maxRecDepth 20000 in
theorem gL_law_X11_miss : GoodIn wsL_law (wsV RL 33 RX11 yX11_miss wsX11_miss) := goodIn_app (goodIn_of _ (by decide +kernel)) ggL_law_X11_miss
set_option maxRecDepth 20000 in
theorem ggL_law_X12_miss : GoodIn wsL_law wsX12_miss := goodIn_r _ [320, 215, 255, 284, 293, 290, 291, 294, 285, 216, 217, 218, 5, 219, 90, 220, 221, 222, 145, 146, 147, 148, 149, 286, 287, 288, 289, 292, 299, 300, 301, 302, 303, 304, 964, 965, 966, 967, 968, 969, 970, 971, 972, 973, 974, 975, 976, 977, 978, 979, 980, 981, 982, 983, 984, 985, 986, 987] (by decide +kernel) (by decide +kernel)
set_option maxRecDepth 20000 in
theorem gL_law_X12_miss : GoodIn wsL_law (wsV RL 37 RX12 yX12_miss wsX12_miss) := goodIn_app (goodIn_of _ (by decide +kernel)) ggL_law_X12_miss
set_option maxRecDepth 20000 in
theorem ggL_law_X11_doubt : GoodIn wsL_law wsX11_doubt := goodIn_r _ [324, 160, 230, 161, 162, 163, 2, 164, 105, 13, 109, 110, 111, 112, 113, 114, 325, 326, 327, 108, 328, 132, 133, 329, 265, 266, 131, 267, 192, 330, 331, 332, 333, 334, 205, 123, 206, 335, 336, 337, 338, 200, 951, 952, 953, 954, 955, 956, 957, 958, 959, 960, 961, 962, 963, 1012, 1013, 1014, 1015, 1016, 1017, 1018, 1019, 1020, 1021, 1022] (by decide +kernel) (by decide +kernel)
set_option maxRecDepth 20000 in
theorem gL_law_X11_doubt : GoodIn wsL_law (wsV RL 38 RX11 yX11_doubt wsX11_doubt) := goodIn_app (goodIn_of _ (by decide +kernel)) ggL_law_X11_doubt
set_option maxRecDepth 20000 in
theorem ggL_law_X12_doubt : GoodIn wsL_law wsX12_doubt := goodIn_r _ [342, 215, 255, 216, 217, 218, 5, 219, 90, 220, 221, 222, 145, 146, 147, 148, 149, 343, 344, 345, 346, 347, 284, 285, 286, 287, 288, 289, 290, 291, 292, 293, 294, 295, 296, 297, 298, 964, 965, 966, 967, 968, 969, 970, 971, 972, 973, 974, 975, 976, 977, 978, 979, 980, 981, 982, 983, 984, 985, 986, 987] (by decide +kernel) (by decide +kernel)
set_option maxRecDepth 20000 in
theorem gL_law_X12_doubt : GoodIn wsL_law (wsV RL 41 RX12 yX12_doubt wsX12_doubt) := goodIn_app (goodIn_of _ (by decide +kernel)) ggL_law_X12_doubt
set_option maxRecDepth 20000 in
theorem ggL_law_X11_mark : GoodIn wsL_law wsX11_mark := goodIn_r _ [351, 160, 352, 106, 39, 15, 14, 353, 354, 161, 162, 163, 2, 164, 105, 13, 165, 166, 167, 168, 169, 170, 355, 356, 357, 358, 359, 360, 361, 362, 363, 364, 109, 110, 111, 112, 113, 114, 115, 116, 117, 38, 118, 75, 119, 120, 121, 122, 123, 124, 365, 366, 367, 368, 10, 11, 369, 370, 371, 372, 373, 374, 951, 952, 953, 954, 955, 956, 957, 958, 959, 960, 961, 962, 963, 1023, 1024, 1025, 1026, 1027, 1028, 1003, 1004, 1005, 1009, 1010, 1011] (by decide +kernel) (by decide +kernel)
set_option maxRecDepth 20000 in
theorem gL_law_X11_mark : GoodIn wsL_law (wsV RL 42 RX11 yX11_mark wsX11_mark) := goodIn_app (goodIn_of _ (by decide +kernel)) ggL_law_X11_mark
set_option maxRecDepth 20000 in
theorem ggL_law_X12_mark : GoodIn wsL_law wsX12_mark := goodIn_r _ [378, 215, 90, 144, 216, 217, 218, 5, 219, 220, 221, 222, 223, 224, 225, 145, 146, 147, 148, 149, 379, 380, 381, 150, 151, 152, 153, 91, 154, 155, 964, 965, 966, 967, 968, 969, 970, 971, 972, 973, 974, 975, 976, 977, 978, 979, 980, 981, 982, 983, 984, 985, 986, 987] (by decide +kernel) (by decide +kernel)
set_option maxRecDepth 20000 in
theorem gL_law_X12_mark : GoodIn wsL_law (wsV RL 46 RX12 yX12_mark wsX12_mark) := goodIn_app (goodIn_of _ (by decide +kernel)) ggL_law_X12_mark
set_option maxRecDepth 20000 in
theorem ggL_law_X11_as : GoodIn wsL_law wsX11_as := goodIn_r _ [385, 160, 386, 387, 388, 389, 2, 390, 352, 15, 358, 359, 360, 361, 168, 169, 170, 109, 110, 111, 112, 113, 114, 362, 363, 364, 1023, 1024, 1025, 1026, 1027, 1028, 951, 952, 953, 954, 955, 956, 957, 958, 959, 960, 961, 962, 963] (by decide +kernel) (by decide +kernel)
set_option maxRecDepth 20000 in
theorem gL_law_X11_as : GoodIn wsL_law (wsV RL 47 RX11 yX11_as wsX11_as) := goodIn_app (goodIn_of _ (by decide +kernel)) ggL_law_X11_as
set_option maxRecDepth 20000 in
theorem ggL_law_X12_as : GoodIn wsL_law wsX12_as := goodIn_r _ [394, 215, 395, 396, 397, 398, 5, 399, 90, 220, 221, 222, 145, 146, 147, 148, 149, 400, 401, 402, 403, 379, 380, 381, 964, 965, 966, 967, 968, 969, 970, 971, 972, 973, 974, 975, 976, 977, 978, 979, 980, 981, 982, 983, 984, 985, 986, 987] (by decide +kernel) (by decide +kernel)
set_option maxRecDepth 20000 in
theorem gL_law_X12_as : GoodIn wsL_law (wsV RL 51 RX12 yX12_as wsX12_as) := goodIn_app (goodIn_of _ (by decide +kernel)) ggL_law_X12_as
set_option maxRecDepth 20000 in
theorem ggL_law_X11_at : GoodIn wsL_law wsX11_at := goodIn_r _ [407, 160, 230, 387, 388, 389, 2, 390, 352, 15, 109, 110, 111, 112, 113, 114, 408, 409, 410, 354, 411, 369, 412, 261, 262, 108, 263, 133, 132, 413, 265, 266, 131, 267, 192, 414, 415, 416, 417, 372, 371, 418, 419, 420, 421, 207, 208, 209, 210, 195, 194, 422, 423, 424, 425, 951, 952, 953, 954, 955, 956, 957, 958, 959, 960, 961, 962, 963, 1023, 1024, 1025, 1026, 1027, 1028, 1012, 1013, 1014, 1015, 1016, 1017, 1018, 1019, 1020, 1021, 1022] (by decide +kernel) (by decide +kernel)
set_option maxRecDepth 20000 in
theorem gL_law_X11_at : GoodIn wsL_law (wsV RL 52 RX11 yX11_at wsX11_at) := goodIn_app (goodIn_of _ (by decide +kernel)) ggL_law_X11_at
set_option maxRecDepth 20000 in
theorem ggL_law_X12_at : GoodIn wsL_law wsX12_at := goodIn_r _ [429, 215, 255, 284, 285, 396, 397, 398, 5, 399, 90, 220, 221, 222, 145, 146, 147, 148, 149, 400, 401, 402, 403, 286, 287, 288, 289, 290, 291, 292, 293, 294, 295, 296, 297, 298, 430, 431, 432, 964, 965, 966, 967, 968, 969, 970, 971, 972, 973, 974, 975, 976, 977, 978, 979, 980, 981, 982, 983, 984, 985, 986, 987] (by decide +kernel) (by decide +kernel)
set_option maxRecDepth 20000 in
theorem gL_law_X12_at : GoodIn wsL_law (wsV RL 56 RX12 yX12_at wsX12_at) := goodIn_app (goodIn_of _ (by decide +kernel)) ggL_law_X12_at
set_option maxRecDepth 20000 in
theorem ggL_law_X11_agree : GoodIn wsL_law wsX11_agree := goodIn_r _ [436, 160, 387, 388, 389, 2, 390, 352, 15, 109, 110, 111, 112, 113, 114, 437, 438, 439, 354, 440, 370, 369, 441, 202, 123, 203, 442, 443, 444, 445, 446, 326, 327, 108, 328, 132, 133, 329, 265, 266, 131, 267, 192, 447, 331, 332, 333, 334, 205, 206, 335, 336, 337, 338, 200, 448, 415, 416, 417, 372, 371, 412, 261, 262, 263, 418, 419, 420, 421, 207, 208, 209, 210, 195, 194, 422, 423, 424, 425, 951, 952, 953, 954, 955, 956, 957, 958, 959, 960, 961, 962, 963, 1023, 1024, 1025, 1026, 1027, 1028, 1012, 1013, 1014, 1015, 1016, 1017, 1018, 1019, 1020, 1021, 1022] (by decide +kernel) (by decide +kernel)
set_option maxRecDepth 20000 in
theorem gL_law_X11_agree : GoodIn wsL_law (wsV RL 57 RX11 yX11_agree wsX11_agree) := goodIn_app (goodIn_of _ (by decide +kernel)) ggL_law_X11_agree
set_option maxRecDepth 20000 in
theorem ggL_law_X12_agree : GoodIn wsL_law wsX12_agree := goodIn_r _ [452, 215, 396, 397, 398, 5, 399, 90, 220, 221, 222, 145, 146, 147, 148, 149, 453, 454, 455, 456, 97, 95, 284, 285, 96, 400, 401, 402, 403, 343, 344, 345, 346, 347, 286, 287, 288, 289, 290, 291, 292, 293, 294, 295, 296, 297, 298, 430, 431, 432, 457, 458, 459, 460, 964, 965, 966, 967, 968, 969, 970, 971, 972, 973, 974, 975, 976, 977, 978, 979, 980, 981, 982, 983, 984, 985, 986, 987] (by decide +kernel) (by decide +kernel)
set_option maxRecDepth 20000 in
theorem gL_law_X12_agree : GoodIn wsL_law (wsV RL 60 RX12 yX12_agree wsX12_agree) := goodIn_app (goodIn_of _ (by decide +kernel)) ggL_law_X12_agree
set_option maxRecDepth 20000 in
theorem ggL_law_X11_group : GoodIn wsL_law wsX11_group := goodIn_r _ [464, 160, 19, 15, 352, 387, 388, 389, 2, 390, 109, 110, 111, 112, 113, 114, 465, 466, 467, 18, 468, 469, 470, 46, 471, 472, 473, 474, 122, 123, 124, 475, 61, 62, 63, 476, 477, 478, 479, 47, 480, 438, 439, 354, 440, 370, 369, 441, 202, 203, 442, 443, 444, 445, 446, 326, 327, 108, 328, 132, 133, 329, 265, 266, 131, 267, 192, 447, 331, 332, 333, 334, 205, 206, 335, 336, 337, 338, 200, 448, 415, 416, 417, 372, 371, 412, 261, 262, 263, 418, 419, 420, 421, 207, 208, 209, 210, 195, 194, 422, 423, 424, 425, 481, 482, 483, 484, 951, 952, 953, 954, 955, 956, 957, 958, 959, 960, 961, 962, 963, 988, 989, 990, 991, 992, 1023, 1024, 1025, 1026, 1027, 1028, 1012, 1013, 1014, 1015, 1016, 1017, 1018, 1019, 1020, 1021, 1022] (by decide +kernel) (by decide +kernel)
set_option maxRecDepth 20000 in
theorem gL_law_X11_group : GoodIn wsL_law (wsV RL 61 RX11 yX11_group wsX11_group) := goodIn_app (goodIn_of _ (by decide +kernel)) ggL_law_X11_group
set_option maxRecDepth 20000 in
theorem ggL_law_X12_group : GoodIn wsL_law wsX12_group := goodIn_r _ [488, 215, 98, 396, 397, 398, 5, 399, 90, 220, 221, 222, 145, 146, 147, 148, 149, 489, 490, 491, 492, 493, 453, 454, 455, 456, 97, 95, 284, 285, 96, 400, 401, 402, 403, 343, 344, 345, 346, 347, 286, 287, 288, 289, 290, 291, 292, 293, 294, 295, 296, 297, 298, 430, 431, 432, 494, 495, 496, 497, 457, 458, 459, 460, 964, 965, 966, 967, 968, 969, 970, 971, 972, 973, 974, 975, 976, 977, 978, 979, 980, 981, 982, 983, 984, 985, 986, 987] (by decide +kernel) (by decide +kernel)
set_option maxRecDepth 20000 in
theorem gL_law_X12_group : GoodIn wsL_law (wsV RL 64 RX12 yX12_group wsX12_group) := goodIn_app (goodIn_of _ (by decide +kernel)) ggL_law_X12_group
set_option maxRecDepth 20000 in
theorem ggL_law_X11_groups : GoodIn wsL_law wsX11_groups := goodIn_r _ [501, 19, 15, 352, 465, 466, 467, 18, 468, 469, 470, 46, 471, 472, 473, 474, 122, 123, 124, 475, 61, 62, 63, 476, 477, 478, 479, 47, 480, 438, 439, 354, 440, 370, 369, 441, 202, 203, 442, 443, 444, 445, 446, 326, 327, 108, 328, 132, 133, 329, 265, 266, 131, 267, 192, 447, 331, 332, 333, 334, 205, 206, 335, 336, 337, 338, 200, 448, 415, 416, 417, 372, 371, 412, 261, 262, 263, 418, 419, 420, 421, 207, 208, 209, 210, 195, 194, 422, 423, 424, 425, 502, 503, 504, 505, 951, 952, 953, 954, 955, 956, 957, 958, 959, 960, 961, 962, 963, 988, 989, 990, 991, 992, 1023, 1024, 1025, 1026, 1027, 1028, 1012, 1013, 1014, 1015, 1016, 1017, 1018, 1019, 1020, 1021, 1022] (by decide +kernel) (by decide +kernel)
set_option maxRecDepth 20000 in
theorem gL_law_X11_groups : GoodIn wsL_law (wsV RL 65 RX11 yX11_groups wsX11_groups) := goodIn_app (goodIn_of _ (by decide +kernel)) ggL_law_X11_groups
set_option maxRecDepth 20000 in
theorem ggL_law_X12_groups : GoodIn wsL_law wsX12_groups := goodIn_r _ [509, 493, 489, 490, 491, 5, 492, 90, 98, 453, 454, 455, 456, 97, 95, 284, 285, 96, 400, 401, 402, 403, 343, 344, 345, 346, 347, 286, 287, 288, 289, 290, 291, 292, 293, 294, 295, 296, 297, 298, 430, 431, 432, 494, 495, 496, 497, 457, 458, 459, 460, 964, 965, 966, 967, 968, 969, 970, 971, 972, 973, 974, 975, 976, 977, 978, 979, 980, 981, 982, 983, 984, 985, 986, 987] (by decide +kernel) (by decide +kernel)
set_option maxRecDepth 20000 in
theorem gL_law_X12_groups : GoodIn wsL_law (wsV RL 68 RX12 yX12_groups wsX12_groups) := goodIn_app (goodIn_of _ (by decide +kernel)) ggL_law_X12_groups
set_option maxRecDepth 20000 in
theorem ggL_law_X11_rivals : GoodIn wsL_law wsX11_rivals := goodIn_r _ [513, 19, 15, 352, 160, 465, 466, 467, 18, 468, 469, 470, 46, 471, 472, 473, 474, 122, 123, 124, 475, 61, 62, 63, 476, 477, 478, 479, 47, 480, 438, 439, 354, 440, 370, 369, 441, 202, 203, 442, 443, 444, 445, 446, 326, 327, 108, 328, 132, 133, 329, 265, 266, 131, 267, 192, 447, 331, 332, 333, 334, 205, 206, 335, 336, 337, 338, 200, 448, 415, 416, 417, 372, 371, 412, 261, 262, 263, 418, 419, 420, 421, 207, 208, 209, 210, 195, 194, 422, 423, 424, 425, 514, 515, 516, 517, 518, 519, 520, 521, 522, 109, 110, 111, 2, 112, 113, 114, 951, 952, 953, 954, 955, 956, 957, 958, 959, 960, 961, 962, 963, 988, 989, 990, 991, 992, 1023, 1024, 1025, 1026, 1027, 1028, 1012, 1013, 1014, 1015, 1016, 1017, 1018, 1019, 1020, 1021, 1022] (by decide +kernel) (by decide +kernel)
set_option maxRecDepth 20000 in
theorem gL_law_X11_rivals : GoodIn wsL_law (wsV RL 69 RX11 yX11_rivals wsX11_rivals) := goodIn_app (goodIn_of _ (by decide +kernel)) ggL_law_X11_rivals
set_option maxRecDepth 20000 in
theorem ggL_law_X12_rivals : GoodIn wsL_law wsX12_rivals := goodIn_r _ [526, 215, 90, 98, 527, 528, 529, 5, 530, 493, 489, 490, 491, 492, 453, 454, 455, 456, 97, 95, 284, 285, 96, 400, 401, 402, 403, 343, 344, 345, 346, 347, 286, 287, 288, 289, 290, 291, 292, 293, 294, 295, 296, 297, 298, 430, 431, 432, 494, 495, 496, 497, 457, 458, 459, 460, 220, 221, 222, 145, 146, 147, 148, 149, 964, 965, 966, 967, 968, 969, 970, 971, 972, 973, 974, 975, 976, 977, 978, 979, 980, 981, 982, 983, 984, 985, 986, 987] (by decide +kernel) (by decide +kernel)
set_option maxRecDepth 20000 in
theorem gL_law_X12_rivals : GoodIn wsL_law (wsV RL 72 RX12 yX12_rivals wsX12_rivals) := goodIn_app (goodIn_of _ (by decide +kernel)) ggL_law_X12_rivals
set_option maxRecDepth 20000 in
theorem ggL_law_X11_sign : GoodIn wsL_law wsX11_sign := goodIn_r _ [534, 160, 23, 106, 39, 535, 536, 2, 537, 168, 169, 170, 109, 110, 111, 112, 113, 114, 538, 539, 540, 22, 541, 542, 115, 116, 117, 38, 118, 75, 119, 120, 121, 122, 123, 124, 543, 544, 545, 546, 52, 951, 952, 953, 954, 955, 956, 957, 958, 959, 960, 961, 962, 963, 993, 994, 995, 1003, 1004, 1005, 1009, 1010, 1011] (by decide +kernel) (by decide +kernel)
set_option maxRecDepth 20000 in
theorem gL_law_X11_sign : GoodIn wsL_law (wsV RL 73 RX11 yX11_sign wsX11_sign) := goodIn_app (goodIn_of _ (by decide +kernel)) ggL_law_X11_sign
set_option maxRecDepth 20000 in
theorem ggL_law_X12_sign : GoodIn wsL_law wsX12_sign := goodIn_r _ [550, 215, 90, 144, 551, 552, 5, 553, 220, 221, 222, 145, 146, 147, 148, 149, 150, 151, 152, 153, 91, 154, 155, 964, 965, 966, 967, 968, 969, 970, 971, 972, 973, 974, 975, 976, 977, 978, 979, 980, 981, 982, 983, 984, 985, 986, 987] (by decide +kernel) (by decide +kernel)
set_option maxRecDepth 20000 in
theorem gL_law_X12_sign : GoodIn wsL_law (wsV RL 76 RX12 yX12_sign wsX12_sign) := goodIn_app (goodIn_of _ (by decide +kernel)) ggL_law_X12_sign
set_option maxRecDepth 20000 in
theorem ggL_law_X11_blank : GoodIn wsL_law wsX11_blank := goodIn_r _ [557, 23, 39, 538, 539, 540, 22, 541, 542, 115, 116, 117, 38, 118, 75, 119, 120, 121, 122, 123, 124, 558, 559, 560, 561, 52, 562, 563, 564, 565, 566, 567, 568, 569, 951, 952, 953, 954, 955, 956, 957, 958, 959, 960, 961, 962, 963, 993, 994, 995, 1003, 1004, 1005, 1009, 1010, 1011] (by decide +kernel) (by decide +kernel)
set_option maxRecDepth 20000 in
theorem gL_law_X11_blank : GoodIn wsL_law (wsV RL 77 RX11 yX11_blank wsX11_blank) := goodIn_app (goodIn_of _ (by decide +kernel)) ggL_law_X11_blank
set_option maxRecDepth 20000 in
theorem ggL_law_X12_blank : GoodIn wsL_law wsX12_blank := goodIn_r _ [573, 90, 150, 151, 152, 5, 153, 91, 154, 155, 964, 965, 966, 967, 968, 969, 970, 971, 972, 973, 974, 975, 976, 977, 978, 979, 980, 981, 982, 983, 984, 985, 986, 987] (by decide +kernel) (by decide +kernel)
set_option maxRecDepth 20000 in
theorem gL_law_X12_blank : GoodIn wsL_law (wsV RL 80 RX12 yX12_blank wsX12_blank) := goodIn_app (goodIn_of _ (by decide +kernel)) ggL_law_X12_blank
set_option maxRecDepth 20000 in
theorem ggL_law_X11_wrong : GoodIn wsL_law wsX11_wrong := goodIn_r _ [577, 23, 578, 579, 580, 22, 581, 542, 52, 582, 583, 584, 951, 952, 953, 954, 955, 956, 957, 958, 959, 960, 961, 962, 963, 993, 994, 995] (by decide +kernel) (by decide +kernel)
set_option maxRecDepth 20000 in
theorem gL_law_X11_wrong : GoodIn wsL_law (wsV RL 81 RX11 yX11_wrong wsX11_wrong) := goodIn_app (goodIn_of _ (by decide +kernel)) ggL_law_X11_wrong
set_option maxRecDepth 20000 in
theorem ggL_law_X12_wrong : GoodIn wsL_law wsX12_wrong := goodIn_r _ [588, 589, 590, 591, 5, 592, 90, 964, 965, 966, 967, 968, 969, 970, 971, 972, 973, 974, 975, 976, 977, 978, 979, 980, 981, 982, 983, 984, 985, 986, 987] (by decide +kernel) (by decide +kernel)
set_option maxRecDepth 20000 in
theorem gL_law_X12_wrong : GoodIn wsL_law (wsV RL 84 RX12 yX12_wrong wsX12_wrong) := goodIn_app (goodIn_of _ (by decide +kernel)) ggL_law_X12_wrong
set_option maxRecDepth 20000 in
theorem ggL_law_X11_is : GoodIn wsL_law wsX11_is := goodIn_r _ [596, 19, 15, 352, 160, 23, 386, 465, 466, 467, 18, 468, 469, 470, 46, 471, 472, 473, 474, 122, 123, 124, 475, 61, 62, 63, 476, 477, 478, 479, 47, 480, 438, 439, 354, 440, 370, 369, 441, 202, 203, 442, 443, 444, 445, 446, 326, 327, 108, 328, 132, 133, 329, 265, 266, 131, 267, 192, 447, 331, 332, 333, 334, 205, 206, 335, 336, 337, 338, 200, 448, 415, 416, 417, 372, 371, 412, 261, 262, 263, 418, 419, 420, 421, 207, 208, 209, 210, 195, 194, 422, 423, 424, 425, 514, 515, 516, 517, 109, 110, 111, 2, 112, 113, 114, 578, 579, 580, 22, 581, 542, 52, 582, 583, 584, 597, 598, 599, 600, 48, 601, 602, 603, 604, 605, 606, 607, 608, 609, 610, 611, 612, 613, 614, 53, 615, 616, 617, 169, 170, 951, 952, 953, 954, 955, 956, 957, 958, 959, 960, 961, 962, 963, 988, 989, 990, 991, 992, 1023, 1024, 1025, 1026, 1027, 1028, 1012, 1013, 1014, 1015, 1016, 1017, 1018, 1019, 1020, 1021, 1022, 993, 994, 995] (by decide +kernel) (by decide +kernel)
set_option maxRecDepth 20000 in
theorem gL_law_X11_is : GoodIn wsL_law (wsV RL 85 RX11 yX11_is wsX11_is) := goodIn_app (goodIn_of _ (by decide +kernel)) ggL_law_X11_is
set_option maxRecDepth 20000 in
theorem ggL_law_X12_is : GoodIn wsL_law wsX12_is := goodIn_r _ [621, 215, 395, 90, 99, 527, 528, 529, 5, 530, 493, 489, 490, 491, 492, 98, 453, 454, 455, 456, 97, 95, 284, 285, 96, 400, 401, 402, 403, 343, 344, 345, 346, 347, 286, 287, 288, 289, 290, 291, 292, 293, 294, 295, 296, 297, 298, 430, 431, 432, 494, 495, 496, 497, 457, 458, 459, 460, 220, 221, 222, 145, 146, 147, 148, 149, 589, 590, 591, 592, 622, 623, 624, 625, 964, 965, 966, 967, 968, 969, 970, 971, 972, 973, 974, 975, 976, 977, 978, 979, 980, 981, 982, 983, 984, 985, 986, 987] (by decide +kernel) (by decide +kernel)
set_option maxRecDepth 20000 in
theorem gL_law_X12_is : GoodIn wsL_law (wsV RL 88 RX12 yX12_is wsX12_is) := goodIn_app (goodIn_of _ (by decide +kernel)) ggL_law_X12_is
set_option maxRecDepth 20000 in
theorem ggL_law_X11_field : GoodIn wsL_law wsX11_field := goodIn_r _ [629, 160, 630, 106, 39, 25, 24, 631, 632, 633, 634, 2, 635, 168, 169, 170, 109, 110, 111, 112, 113, 114, 115, 116, 117, 38, 118, 75, 119, 120, 121, 122, 123, 124, 636, 637, 638, 639, 10, 11, 45, 640, 641, 642, 643, 644, 645, 646, 951, 952, 953, 954, 955, 956, 957, 958, 959, 960, 961, 962, 963, 1029, 1030, 1031, 1032, 1033, 1034, 1035, 1036, 1037, 1003, 1004, 1005, 1009, 1010, 1011] (by decide +kernel) (by decide +kernel)
set_option maxRecDepth 20000 in
theorem gL_law_X11_field : GoodIn wsL_law (wsV RL 89 RX11 yX11_field wsX11_field) := goodIn_app (goodIn_of _ (by decide +kernel)) ggL_law_X11_field
set_option maxRecDepth 20000 in
theorem ggL_law_X12_field : GoodIn wsL_law wsX12_field := goodIn_r _ [650, 215, 90, 144, 220, 221, 5, 222, 145, 146, 147, 148, 149, 150, 151, 152, 153, 91, 154, 155, 964, 965, 966, 967, 968, 969, 970, 971, 972, 973, 974, 975, 976, 977, 978, 979, 980, 981, 982, 983, 984, 985, 986, 987] (by decide +kernel) (by decide +kernel)
set_option maxRecDepth 20000 in
theorem gL_law_X12_field : GoodIn wsL_law (wsV RL 93 RX12 yX12_field wsX12_field) := goodIn_app (goodIn_of _ (by decide +kernel)) ggL_law_X12_field
set_option maxRecDepth 20000 in
theorem ggL_law_X11_look : GoodIn wsL_law wsX11_look := goodIn_r _ [654, 160, 386, 106, 39, 655, 656, 657, 2, 658, 630, 25, 633, 634, 635, 168, 169, 170, 109, 110, 111, 112, 113, 114, 659, 660, 661, 632, 662, 663, 664, 665, 666, 667, 668, 115, 116, 117, 38, 118, 75, 119, 120, 121, 122, 123, 124, 669, 670, 671, 672, 640, 641, 643, 951, 952, 953, 954, 955, 956, 957, 958, 959, 960, 961, 962, 963, 1029, 1030, 1031, 1032, 1033, 1034, 1035, 1036, 1037, 1003, 1004, 1005, 1009, 1010, 1011] (by decide +kernel) (by decide +kernel)
set_option maxRecDepth 20000 in
theorem gL_law_X11_look : GoodIn wsL_law (wsV RL 94 RX11 yX11_look wsX11_look) := goodIn_app (goodIn_of _ (by decide +kernel)) ggL_law_X11_look
set_option maxRecDepth 20000 in
theorem ggL_law_X12_look : GoodIn wsL_law wsX12_look := goodIn_r _ [676, 215, 395, 144, 90, 677, 678, 679, 5, 680, 220, 221, 222, 681, 682, 683, 145, 146, 147, 148, 149, 684, 685, 686, 687, 150, 151, 152, 153, 91, 154, 155, 964, 965, 966, 967, 968, 969, 970, 971, 972, 973, 974, 975, 976, 977, 978, 979, 980, 981, 982, 983, 984, 985, 986, 987] (by decide +kernel) (by decide +kernel)
set_option maxRecDepth 20000 in
theorem gL_law_X12_look : GoodIn wsL_law (wsV RL 98 RX12 yX12_look wsX12_look) := goodIn_app (goodIn_of _ (by decide +kernel)) ggL_law_X12_look
set_option maxRecDepth 20000 in
theorem ggL_law_X11_belief : GoodIn wsL_law wsX11_belief := goodIn_r _ [691, 160, 29, 655, 656, 657, 2, 658, 630, 25, 109, 110, 111, 112, 113, 114, 692, 693, 694, 632, 695, 645, 696, 668, 644, 640, 641, 697, 698, 699, 700, 643, 701, 702, 703, 28, 704, 58, 705, 706, 707, 634, 635, 168, 169, 170, 708, 709, 710, 711, 59, 274, 275, 276, 202, 123, 203, 277, 278, 279, 951, 952, 953, 954, 955, 956, 957, 958, 959, 960, 961, 962, 963, 1029, 1030, 1031, 1032, 1033, 1034, 1035, 1036, 1037, 996, 997] (by decide +kernel) (by decide +kernel)
set_option maxRecDepth 20000 in
theorem gL_law_X11_belief : GoodIn wsL_law (wsV RL 99 RX11 yX11_belief wsX11_belief) := goodIn_app (goodIn_of _ (by decide +kernel)) ggL_law_X11_belief
set_option maxRecDepth 20000 in
theorem ggL_law_X12_belief : GoodIn wsL_law wsX12_belief := goodIn_r _ [715, 215, 90, 677, 678, 679, 5, 680, 220, 221, 222, 145, 146, 147, 148, 149, 716, 717, 718, 719, 684, 685, 686, 687, 720, 721, 722, 299, 300, 301, 302, 303, 304, 964, 965, 966, 967, 968, 969, 970, 971, 972, 973, 974, 975, 976, 977, 978, 979, 980, 981, 982, 983, 984, 985, 986, 987] (by decide +kernel) (by decide +kernel)
set_option maxRecDepth 20000 in
theorem gL_law_X12_belief : GoodIn wsL_law (wsV RL 102 RX12 yX12_belief wsX12_belief) := goodIn_app (goodIn_of _ (by decide +kernel)) ggL_law_X12_belief
set_option maxRecDepth 20000 in
theorem ggL_law_X11_showing : GoodIn wsL_law wsX11_showing := goodIn_r _ [726, 160, 29, 633, 634, 2, 635, 168, 169, 170, 109, 110, 111, 112, 113, 114, 727, 709, 710, 28, 711, 59, 705, 706, 707, 728, 702, 703, 704, 58, 951, 952, 953, 954, 955, 956, 957, 958, 959, 960, 961, 962, 963, 996, 997] (by decide +kernel) (by decide +kernel)
set_option maxRecDepth 20000 in
theorem gL_law_X11_showing : GoodIn wsL_law (wsV RL 103 RX11 yX11_showing wsX11_showing) := goodIn_app (goodIn_of _ (by decide +kernel)) ggL_law_X11_showing
set_option maxRecDepth 20000 in
theorem ggL_law_X12_showing : GoodIn wsL_law wsX12_showing := goodIn_r _ [732, 215, 90, 220, 221, 5, 222, 681, 682, 683, 145, 146, 147, 148, 149, 720, 721, 722, 964, 965, 966, 967, 968, 969, 970, 971, 972, 973, 974, 975, 976, 977, 978, 979, 980, 981, 982, 983, 984, 985, 986, 987] (by decide +kernel) (by decide +kernel)
set_option maxRecDepth 20000 in
theorem gL_law_X12_showing : GoodIn wsL_law (wsV RL 106 RX12 yX12_showing wsX12_showing) := goodIn_app (goodIn_of _ (by decide +kernel)) ggL_law_X12_showing
set_option maxRecDepth 20000 in
theorem ggL_law_X11_dig : GoodIn wsL_law wsX11_dig := goodIn_r _ [736, 160, 386, 39, 29, 655, 656, 657, 2, 658, 630, 25, 109, 110, 111, 112, 113, 114, 659, 660, 661, 632, 662, 663, 115, 116, 117, 38, 118, 75, 119, 120, 121, 122, 123, 124, 737, 738, 739, 740, 741, 742, 743, 744, 745, 668, 644, 640, 641, 643, 706, 28, 707, 634, 635, 168, 169, 170, 746, 747, 748, 749, 58, 59, 951, 952, 953, 954, 955, 956, 957, 958, 959, 960, 961, 962, 963, 1029, 1030, 1031, 1032, 1033, 1034, 1035, 1036, 1037, 1003, 1004, 1005, 1009, 1010, 1011, 996, 997] (by decide +kernel) (by decide +kernel)
set_option maxRecDepth 20000 in
theorem gL_law_X11_dig : GoodIn wsL_law (wsV RL 107 RX11 yX11_dig wsX11_dig) := goodIn_app (goodIn_of _ (by decide +kernel)) ggL_law_X11_dig
set_option maxRecDepth 20000 in
theorem ggL_law_X12_dig : GoodIn wsL_law wsX12_dig := goodIn_r _ [753, 215, 395, 90, 677, 678, 679, 5, 680, 220, 221, 222, 145, 146, 147, 148, 149, 684, 685, 686, 687, 150, 151, 152, 153, 91, 154, 155, 720, 721, 722, 964, 965, 966, 967, 968, 969, 970, 971, 972, 973, 974, 975, 976, 977, 978, 979, 980, 981, 982, 983, 984, 985, 986, 987] (by decide +kernel) (by decide +kernel)
set_option maxRecDepth 20000 in
theorem gL_law_X12_dig : GoodIn wsL_law (wsV RL 110 RX12 yX12_dig wsX12_dig) := goodIn_app (goodIn_of _ (by decide +kernel)) ggL_law_X12_dig
set_option maxRecDepth 20000 in
theorem ggL_law_X11_plan : GoodIn wsL_law wsX11_plan := goodIn_r _ [757, 160, 33, 758, 759, 2, 760, 168, 169, 170, 633, 634, 635, 109, 110, 111, 112, 113, 114, 761, 762, 763, 764, 25, 630, 29, 765, 766, 767, 32, 768, 68, 69, 769, 770, 771, 632, 772, 644, 663, 696, 645, 708, 709, 710, 28, 711, 59, 705, 706, 707, 697, 698, 699, 700, 668, 643, 701, 702, 703, 704, 58, 773, 774, 775, 776, 777, 778, 779, 780, 122, 123, 124, 781, 782, 783, 784, 785, 786, 787, 788, 951, 952, 953, 954, 955, 956, 957, 958, 959, 960, 961, 962, 963, 998, 999, 1000, 1001, 1002, 1029, 1030, 1031, 1032, 1033, 1034, 1035, 1036, 1037, 996, 997] (by decide +kernel) (by decide +kernel)
set_option maxRecDepth 20000 in
theorem gL_law_X11_plan : GoodIn wsL_law (wsV RL 111 RX11 yX11_plan wsX11_plan) := goodIn_app (goodIn_of _ (by decide +kernel)) ggL_law_X11_plan
set_option maxRecDepth 20000 in
theorem ggL_law_X12_plan : GoodIn wsL_law wsX12_plan := goodIn_r _ [792, 215, 793, 220, 221, 5, 222, 681, 682, 683, 145, 146, 147, 148, 149, 794, 795, 796, 797, 798, 90, 799, 800, 801, 802, 684, 685, 686, 687, 716, 717, 718, 719, 720, 721, 722, 964, 965, 966, 967, 968, 969, 970, 971, 972, 973, 974, 975, 976, 977, 978, 979, 980, 981, 982, 983, 984, 985, 986, 987] (by decide +kernel) (by decide +kernel)
set_option maxRecDepth 20000 in
theorem gL_law_X12_plan : GoodIn wsL_law (wsV RL 114 RX12 yX12_plan wsX12_plan) := goodIn_app (goodIn_of _ (by decide +kernel)) ggL_law_X12_plan
set_option maxRecDepth 20000 in
theorem ggL_law_X11_brings : GoodIn wsL_law wsX11_brings := goodIn_r _ [806, 160, 33, 758, 759, 2, 760, 168, 169, 170, 633, 634, 635, 109, 110, 111, 112, 113, 114, 761, 762, 763, 764, 25, 630, 29, 765, 766, 767, 32, 768, 68, 69, 769, 770, 771, 632, 772, 644, 663, 696, 645, 708, 709, 710, 28, 711, 59, 705, 706, 707, 697, 698, 699, 700, 668, 643, 701, 702, 703, 704, 58, 773, 774, 775, 776, 777, 778, 779, 780, 122, 123, 124, 781, 782, 783, 784, 807, 808, 809, 810, 951, 952, 953, 954, 955, 956, 957, 958, 959, 960, 961, 962, 963, 998, 999, 1000, 1001, 1002, 1029, 1030, 1031, 1032, 1033, 1034, 1035, 1036, 1037, 996, 997] (by decide +kernel) (by decide +kernel)
set_option maxRecDepth 20000 in
theorem gL_law_X11_brings : GoodIn wsL_law (wsV RL 115 RX11 yX11_brings wsX11_brings) := goodIn_app (goodIn_of _ (by decide +kernel)) ggL_law_X11_brings
set_option maxRecDepth 20000 in
theorem ggL_law_X12_brings : GoodIn wsL_law wsX12_brings := goodIn_r _ [814, 215, 798, 220, 221, 5, 222, 681, 682, 683, 145, 146, 147, 148, 149, 794, 795, 796, 797, 793, 90, 799, 800, 801, 802, 684, 685, 686, 687, 716, 717, 718, 719, 720, 721, 722, 964, 965, 966, 967, 968, 969, 970, 971, 972, 973, 974, 975, 976, 977, 978, 979, 980, 981, 982, 983, 984, 985, 986, 987] (by decide +kernel) (by decide +kernel)
set_option maxRecDepth 20000 in
theorem gL_law_X12_brings : GoodIn wsL_law (wsV RL 118 RX12 yX12_brings wsX12_brings) := goodIn_app (goodIn_of _ (by decide +kernel)) ggL_law_X12_brings
set_option maxRecDepth 20000 in
theorem ggL_law_X11_sheet : GoodIn wsL_law wsX11_sheet := goodIn_r _ [818, 160, 819, 820, 821, 822, 2, 823, 35, 824, 825, 826, 109, 110, 111, 112, 113, 114, 827, 828, 829, 41, 830, 831, 832, 85, 833, 61, 62, 63, 834, 835, 836, 837, 951, 952, 953, 954, 955, 956, 957, 958, 959, 960, 961, 962, 963, 1006, 1007, 1008] (by decide +kernel) (by decide +kernel)
set_option maxRecDepth 20000 in
theorem gL_law_X11_sheet : GoodIn wsL_law (wsV RL 119 RX11 yX11_sheet wsX11_sheet) := goodIn_app (goodIn_of _ (by decide +kernel)) ggL_law_X11_sheet
set_option maxRecDepth 20000 in
theorem ggL_law_X12_sheet : GoodIn wsL_law wsX12_sheet := goodIn_r _ [841, 215, 842, 92, 93, 94, 843, 844, 5, 845, 220, 221, 222, 145, 146, 147, 148, 149, 964, 965, 966, 967, 968, 969, 970, 971, 972, 973, 974, 975, 976, 977, 978, 979, 980, 981, 982, 983, 984, 985, 986, 987] (by decide +kernel) (by decide +kernel)
set_option maxRecDepth 20000 in
theorem gL_law_X12_sheet : GoodIn wsL_law (wsV RL 122 RX12 yX12_sheet wsX12_sheet) := goodIn_app (goodIn_of _ (by decide +kernel)) ggL_law_X12_sheet
set_option maxRecDepth 20000 in
theorem ggL_law_X11_put : GoodIn wsL_law wsX11_put := goodIn_r _ [849, 160, 850, 820, 821, 822, 2, 823, 35, 109, 110, 111, 112, 113, 114, 851, 852, 853, 41, 854, 831, 855, 856, 857, 858, 832, 859, 860, 861, 862, 85, 951, 952, 953, 954, 955, 956, 957, 958, 959, 960, 961, 962, 963, 1006, 1007, 1008] (by decide +kernel) (by decide +kernel)
set_option maxRecDepth 20000 in
theorem gL_law_X11_put : GoodIn wsL_law (wsV RL 123 RX11 yX11_put wsX11_put) := goodIn_app (goodIn_of _ (by decide +kernel)) ggL_law_X11_put
set_option maxRecDepth 20000 in
theorem ggL_law_X12_put : GoodIn wsL_law wsX12_put := goodIn_r _ [866, 215, 92, 867, 93, 94, 843, 844, 5, 845, 220, 221, 222, 145, 146, 147, 148, 149, 964, 965, 966, 967, 968, 969, 970, 971, 972, 973, 974, 975, 976, 977, 978, 979, 980, 981, 982, 983, 984, 985, 986, 987] (by decide +kernel) (by decide +kernel)
set_option maxRecDepth 20000 in
theorem gL_law_X12_put : GoodIn wsL_law (wsV RL 126 RX12 yX12_put wsX12_put) := goodIn_app (goodIn_of _ (by decide +kernel)) ggL_law_X12_put
set_option maxRecDepth 20000 in
theorem ggL_law_X11_copy : GoodIn wsL_law wsX11_copy := goodIn_r _ [871, 160, 850, 386, 820, 821, 822, 2, 823, 35, 109, 110, 111, 112, 113, 114, 851, 852, 853, 41, 854, 831, 872, 873, 874, 875, 855, 856, 857, 858, 832, 876, 877, 878, 879, 85, 880, 563, 564, 565, 881, 951, 952, 953, 954, 955, 956, 957, 958, 959, 960, 961, 962, 963, 1006, 1007, 1008] (by decide +kernel) (by decide +kernel)
set_option maxRecDepth 20000 in
theorem gL_law_X11_copy : GoodIn wsL_law (wsV RL 127 RX11 yX11_copy wsX11_copy) := goodIn_app (goodIn_of _ (by decide +kernel)) ggL_law_X11_copy
set_option maxRecDepth 20000 in
theorem ggL_law_X12_copy : GoodIn wsL_law wsX12_copy := goodIn_r _ [885, 215, 92, 867, 395, 93, 100, 94, 843, 844, 5, 845, 220, 221, 222, 145, 146, 147, 148, 149, 964, 965, 966, 967, 968, 969, 970, 971, 972, 973, 974, 975, 976, 977, 978, 979, 980, 981, 982, 983, 984, 985, 986, 987] (by decide +kernel) (by decide +kernel)
set_option maxRecDepth 20000 in
theorem gL_law_X12_copy : GoodIn wsL_law (wsV RL 130 RX12 yX12_copy wsX12_copy) := goodIn_app (goodIn_of _ (by decide +kernel)) ggL_law_X12_copy
set_option maxRecDepth 20000 in
theorem ggL_law_X11_text : GoodIn wsL_law wsX11_text := goodIn_r _ [889, 160, 850, 819, 23, 39, 820, 821, 822, 2, 823, 35, 109, 110, 111, 112, 113, 114, 851, 852, 853, 41, 854, 831, 834, 835, 836, 837, 832, 890, 891, 892, 893, 85, 536, 537, 168, 169, 170, 538, 539, 540, 22, 541, 542, 115, 116, 117, 38, 118, 75, 119, 120, 121, 122, 123, 124, 558, 559, 560, 561, 52, 562, 563, 564, 565, 894, 895, 896, 897, 898, 899, 602, 603, 951, 952, 953, 954, 955, 956, 957, 958, 959, 960, 961, 962, 963, 1006, 1007, 1008, 993, 994, 995, 1003, 1004, 1005, 1009, 1010, 1011] (by decide +kernel) (by decide +kernel)
set_option maxRecDepth 20000 in
theorem gL_law_X11_text : GoodIn wsL_law (wsV RL 131 RX11 yX11_text wsX11_text) := goodIn_app (goodIn_of _ (by decide +kernel)) ggL_law_X11_text
set_option maxRecDepth 20000 in
theorem ggL_law_X12_text : GoodIn wsL_law wsX12_text := goodIn_r _ [903, 215, 92, 867, 93, 842, 94, 90, 843, 844, 5, 845, 220, 221, 222, 145, 146, 147, 148, 149, 551, 552, 553, 150, 151, 152, 153, 91, 154, 155, 964, 965, 966, 967, 968, 969, 970, 971, 972, 973, 974, 975, 976, 977, 978, 979, 980, 981, 982, 983, 984, 985, 986, 987] (by decide +kernel) (by decide +kernel)
set_option maxRecDepth 20000 in
theorem gL_law_X12_text : GoodIn wsL_law (wsV RL 134 RX12 yX12_text wsX12_text) := goodIn_app (goodIn_of _ (by decide +kernel)) ggL_law_X12_text
set_option maxRecDepth 20000 in
theorem ggL_law_X11_undo : GoodIn wsL_law wsX11_undo := goodIn_r _ [907, 39, 230, 908, 909, 910, 38, 911, 120, 119, 75, 109, 110, 111, 2, 112, 113, 114, 912, 913, 914, 915, 105, 352, 23, 630, 161, 162, 163, 164, 13, 916, 917, 918, 243, 244, 245, 108, 246, 132, 133, 247, 248, 249, 131, 250, 179, 188, 189, 190, 191, 138, 139, 192, 193, 194, 195, 196, 197, 198, 199, 200, 201, 202, 123, 203, 204, 205, 206, 207, 208, 209, 210, 180, 181, 182, 183, 184, 185, 186, 187, 919, 920, 921, 22, 922, 542, 894, 895, 896, 897, 898, 122, 124, 899, 602, 603, 52, 562, 563, 564, 565, 655, 656, 657, 658, 25, 923, 924, 925, 926, 29, 927, 928, 929, 632, 930, 668, 931, 932, 933, 934, 663, 741, 742, 743, 744, 745, 644, 640, 641, 643, 706, 28, 707, 634, 635, 168, 169, 170, 746, 747, 748, 749, 58, 59, 935, 936, 937, 938, 951, 952, 953, 954, 955, 956, 957, 958, 959, 960, 961, 962, 963, 1003, 1004, 1005, 1009, 1010, 1011, 1012, 1013, 1014, 1015, 1016, 1017, 1018, 1019, 1020, 1021, 1022, 993, 994, 995, 1029, 1030, 1031, 1032, 1033, 1034, 1035, 1036, 1037, 996, 997] (by decide +kernel) (by decide +kernel)
set_option maxRecDepth 20000 in
theorem gL_law_X11_undo : GoodIn wsL_law (wsV RL 135 RX11 yX11_undo wsX11_undo) := goodIn_app (goodIn_of _ (by decide +kernel)) ggL_law_X11_undo
set_option maxRecDepth 20000 in
theorem ggL_law_X12_undo : GoodIn wsL_law wsX12_undo := goodIn_r _ [942, 155, 255, 154, 90, 91, 145, 146, 147, 5, 148, 149, 964, 965, 966, 967, 968, 969, 970, 971, 972, 973, 974, 975, 976, 977, 978, 979, 980, 981, 982, 983, 984, 985, 986, 987] (by decide +kernel) (by decide +kernel)
set_option maxRecDepth 20000 in
theorem gL_law_X12_undo : GoodIn wsL_law (wsV RL 138 RX12 yX12_undo wsX12_undo) := goodIn_app (goodIn_of _ (by decide +kernel)) ggL_law_X12_undo
set_option maxRecDepth 20000 in
theorem ggL_law_X11_all : GoodIn wsL_law wsX11_all := goodIn_r _ [946, 105, 352, 630, 23, 114, 160, 538, 539, 540, 22, 541, 542, 109, 110, 111, 2, 112, 113, 951, 952, 953, 954, 955, 956, 957, 958, 959, 960, 961, 962, 963, 993, 994, 995] (by decide +kernel) (by decide +kernel)
set_option maxRecDepth 20000 in
theorem gL_law_X11_all : GoodIn wsL_law (wsV RL 139 RX11 yX11_all wsX11_all) := goodIn_app (goodIn_of _ (by decide +kernel)) ggL_law_X11_all
set_option maxRecDepth 20000 in
theorem ggL_law_X12_all : GoodIn wsL_law wsX12_all := goodIn_r _ [950, 90, 149, 215, 145, 146, 147, 5, 148, 964, 965, 966, 967, 968, 969, 970, 971, 972, 973, 974, 975, 976, 977, 978, 979, 980, 981, 982, 983, 984, 985, 986, 987] (by decide +kernel) (by decide +kernel)
set_option maxRecDepth 20000 in
theorem gL_law_X12_all : GoodIn wsL_law (wsV RL 142 RX12 yX12_all wsX12_all) := goodIn_app (goodIn_of _ (by decide +kernel)) ggL_law_X12_all
theorem dL_law_0 : decode cL_law 0 = .ok (.new 7, 3) := by decide +kernel
theorem dL_law_3 : decode cL_law 3 = .ok (.dup, 1) := by decide +kernel
theorem dL_law_4 : decode cL_law 4 = .ok (.invokespecial 9, 3) := by decide +kernel
theorem dL_law_7 : decode cL_law 7 = .ok (.astore_n 1, 1) := by decide +kernel
theorem dL_law_8 : decode cL_law 8 = .ok (.new 10, 3) := by decide +kernel
theorem dL_law_11 : decode cL_law 11 = .ok (.dup, 1) := by decide +kernel
theorem dL_law_12 : decode cL_law 12 = .ok (.invokespecial 12, 3) := by decide +kernel
theorem dL_law_15 : decode cL_law 15 = .ok (.astore_n 2, 1) := by decide +kernel
theorem dL_law_16 : decode cL_law 16 = .ok (.iconst 0, 1) := by decide +kernel
theorem dL_law_17 : decode cL_law 17 = .ok (.istore_n 3, 1) := by decide +kernel
theorem dL_law_18 : decode cL_law 18 = .ok (.iload_n 3, 1) := by decide +kernel
theorem dL_law_19 : decode cL_law 19 = .ok (.aload_n 0, 1) := by decide +kernel
theorem dL_law_20 : decode cL_law 20 = .ok (.arraylength, 1) := by decide +kernel
theorem dL_law_21 : decode cL_law 21 = .ok (.bipush 7, 2) := by decide +kernel
theorem dL_law_23 : decode cL_law 23 = .ok (.isub, 1) := by decide +kernel
theorem dL_law_24 : decode cL_law 24 = .ok (.if_icmp .gt 1327, 3) := by decide +kernel
theorem dL_law_27 : decode cL_law 27 = .ok (.aload_n 0, 1) := by decide +kernel
theorem dL_law_28 : decode cL_law 28 = .ok (.iload_n 3, 1) := by decide +kernel
theorem dL_law_29 : decode cL_law 29 = .ok (.iaload, 1) := by decide +kernel
theorem dL_law_30 : decode cL_law 30 = .ok (.bipush 31, 2) := by decide +kernel
theorem dL_law_32 : decode cL_law 32 = .ok (.iand, 1) := by decide +kernel
theorem dL_law_33 : decode cL_law 33 = .ok (.tableswitch 1312 0 29 #[135, 149, 212, 235, 320, 395, 418, 493, 526, 575, 608, 631, 644, 667, 690, 703, 716, 739, 782, 851, 900, 969, 1018, 1061, 1104, 1147, 1190, 1253, 1276, 1289], 135) := by decide +kernel
theorem dL_law_168 : decode cL_law 168 = .ok (.aload_n 1, 1) := by decide +kernel
theorem dL_law_169 : decode cL_law 169 = .ok (.invokevirtual 13, 3) := by decide +kernel
theorem dL_law_172 : decode cL_law 172 = .ok (.aload_n 2, 1) := by decide +kernel
theorem dL_law_173 : decode cL_law 173 = .ok (.invokevirtual 17, 3) := by decide +kernel
theorem dL_law_176 : decode cL_law 176 = .ok (.lcmp, 1) := by decide +kernel
theorem dL_law_177 : decode cL_law 177 = .ok (.ifCond .eq 1168, 3) := by decide +kernel
theorem dL_law_180 : decode cL_law 180 = .ok (.iconst 0, 1) := by decide +kernel
theorem dL_law_181 : decode cL_law 181 = .ok (.ireturn, 1) := by decide +kernel
theorem dL_law_182 : decode cL_law 182 = .ok (.aload_n 1, 1) := by decide +kernel
theorem dL_law_183 : decode cL_law 183 = .ok (.aload_n 0, 1) := by decide +kernel
theorem dL_law_184 : decode cL_law 184 = .ok (.iload_n 3, 1) := by decide +kernel
theorem dL_law_185 : decode cL_law 185 = .ok (.iconst 1, 1) := by decide +kernel
theorem dL_law_186 : decode cL_law 186 = .ok (.iadd, 1) := by decide +kernel
theorem dL_law_187 : decode cL_law 187 = .ok (.iaload, 1) := by decide +kernel
theorem dL_law_188 : decode cL_law 188 = .ok (.aload_n 0, 1) := by decide +kernel
theorem dL_law_189 : decode cL_law 189 = .ok (.iload_n 3, 1) := by decide +kernel
theorem dL_law_190 : decode cL_law 190 = .ok (.iconst 2, 1) := by decide +kernel
theorem dL_law_191 : decode cL_law 191 = .ok (.iadd, 1) := by decide +kernel
theorem dL_law_192 : decode cL_law 192 = .ok (.iaload, 1) := by decide +kernel
theorem dL_law_193 : decode cL_law 193 = .ok (.aload_n 0, 1) := by decide +kernel
theorem dL_law_194 : decode cL_law 194 = .ok (.iload_n 3, 1) := by decide +kernel
theorem dL_law_195 : decode cL_law 195 = .ok (.iconst 3, 1) := by decide +kernel
theorem dL_law_196 : decode cL_law 196 = .ok (.iadd, 1) := by decide +kernel
theorem dL_law_197 : decode cL_law 197 = .ok (.iaload, 1) := by decide +kernel
theorem dL_law_198 : decode cL_law 198 = .ok (.aload_n 0, 1) := by decide +kernel
theorem dL_law_199 : decode cL_law 199 = .ok (.iload_n 3, 1) := by decide +kernel
theorem dL_law_200 : decode cL_law 200 = .ok (.iconst 4, 1) := by decide +kernel
theorem dL_law_201 : decode cL_law 201 = .ok (.iadd, 1) := by decide +kernel
theorem dL_law_202 : decode cL_law 202 = .ok (.iaload, 1) := by decide +kernel
theorem dL_law_203 : decode cL_law 203 = .ok (.aload_n 0, 1) := by decide +kernel
theorem dL_law_204 : decode cL_law 204 = .ok (.iload_n 3, 1) := by decide +kernel
theorem dL_law_205 : decode cL_law 205 = .ok (.iconst 5, 1) := by decide +kernel
theorem dL_law_206 : decode cL_law 206 = .ok (.iadd, 1) := by decide +kernel
theorem dL_law_207 : decode cL_law 207 = .ok (.iaload, 1) := by decide +kernel
theorem dL_law_208 : decode cL_law 208 = .ok (.invokevirtual 18, 3) := by decide +kernel
theorem dL_law_211 : decode cL_law 211 = .ok (.pop2, 1) := by decide +kernel
theorem dL_law_212 : decode cL_law 212 = .ok (.aload_n 2, 1) := by decide +kernel
theorem dL_law_213 : decode cL_law 213 = .ok (.aload_n 0, 1) := by decide +kernel
theorem dL_law_214 : decode cL_law 214 = .ok (.iload_n 3, 1) := by decide +kernel
theorem dL_law_215 : decode cL_law 215 = .ok (.iconst 1, 1) := by decide +kernel
theorem dL_law_216 : decode cL_law 216 = .ok (.iadd, 1) := by decide +kernel
theorem dL_law_217 : decode cL_law 217 = .ok (.iaload, 1) := by decide +kernel
theorem dL_law_218 : decode cL_law 218 = .ok (.aload_n 0, 1) := by decide +kernel
theorem dL_law_219 : decode cL_law 219 = .ok (.iload_n 3, 1) := by decide +kernel
theorem dL_law_220 : decode cL_law 220 = .ok (.iconst 2, 1) := by decide +kernel
theorem dL_law_221 : decode cL_law 221 = .ok (.iadd, 1) := by decide +kernel
theorem dL_law_222 : decode cL_law 222 = .ok (.iaload, 1) := by decide +kernel
theorem dL_law_223 : decode cL_law 223 = .ok (.aload_n 0, 1) := by decide +kernel
theorem dL_law_224 : decode cL_law 224 = .ok (.iload_n 3, 1) := by decide +kernel
theorem dL_law_225 : decode cL_law 225 = .ok (.iconst 3, 1) := by decide +kernel
theorem dL_law_226 : decode cL_law 226 = .ok (.iadd, 1) := by decide +kernel
theorem dL_law_227 : decode cL_law 227 = .ok (.iaload, 1) := by decide +kernel
theorem dL_law_228 : decode cL_law 228 = .ok (.aload_n 0, 1) := by decide +kernel
theorem dL_law_229 : decode cL_law 229 = .ok (.iload_n 3, 1) := by decide +kernel
theorem dL_law_230 : decode cL_law 230 = .ok (.iconst 4, 1) := by decide +kernel
theorem dL_law_231 : decode cL_law 231 = .ok (.iadd, 1) := by decide +kernel
theorem dL_law_232 : decode cL_law 232 = .ok (.iaload, 1) := by decide +kernel
theorem dL_law_233 : decode cL_law 233 = .ok (.aload_n 0, 1) := by decide +kernel
theorem dL_law_234 : decode cL_law 234 = .ok (.iload_n 3, 1) := by decide +kernel
theorem dL_law_235 : decode cL_law 235 = .ok (.iconst 5, 1) := by decide +kernel
theorem dL_law_236 : decode cL_law 236 = .ok (.iadd, 1) := by decide +kernel
theorem dL_law_237 : decode cL_law 237 = .ok (.iaload, 1) := by decide +kernel
theorem dL_law_238 : decode cL_law 238 = .ok (.invokevirtual 22, 3) := by decide +kernel
theorem dL_law_241 : decode cL_law 241 = .ok (.pop2, 1) := by decide +kernel
theorem dL_law_242 : decode cL_law 242 = .ok (.goto 1103, 3) := by decide +kernel
theorem dL_law_245 : decode cL_law 245 = .ok (.aload_n 1, 1) := by decide +kernel
theorem dL_law_246 : decode cL_law 246 = .ok (.aload_n 0, 1) := by decide +kernel
theorem dL_law_247 : decode cL_law 247 = .ok (.iload_n 3, 1) := by decide +kernel
theorem dL_law_248 : decode cL_law 248 = .ok (.iconst 1, 1) := by decide +kernel
theorem dL_law_249 : decode cL_law 249 = .ok (.iadd, 1) := by decide +kernel
theorem dL_law_250 : decode cL_law 250 = .ok (.iaload, 1) := by decide +kernel
theorem dL_law_251 : decode cL_law 251 = .ok (.invokevirtual 23, 3) := by decide +kernel
theorem dL_law_254 : decode cL_law 254 = .ok (.pop2, 1) := by decide +kernel
theorem dL_law_255 : decode cL_law 255 = .ok (.aload_n 2, 1) := by decide +kernel
theorem dL_law_256 : decode cL_law 256 = .ok (.aload_n 0, 1) := by decide +kernel
theorem dL_law_257 : decode cL_law 257 = .ok (.iload_n 3, 1) := by decide +kernel
theorem dL_law_258 : decode cL_law 258 = .ok (.iconst 1, 1) := by decide +kernel
theorem dL_law_259 : decode cL_law 259 = .ok (.iadd, 1) := by decide +kernel
theorem dL_law_260 : decode cL_law 260 = .ok (.iaload, 1) := by decide +kernel
theorem dL_law_261 : decode cL_law 261 = .ok (.invokevirtual 27, 3) := by decide +kernel
theorem dL_law_264 : decode cL_law 264 = .ok (.pop2, 1) := by decide +kernel
theorem dL_law_265 : decode cL_law 265 = .ok (.goto 1080, 3) := by decide +kernel
theorem dL_law_268 : decode cL_law 268 = .ok (.aload_n 1, 1) := by decide +kernel
theorem dL_law_269 : decode cL_law 269 = .ok (.aload_n 0, 1) := by decide +kernel
theorem dL_law_270 : decode cL_law 270 = .ok (.iload_n 3, 1) := by decide +kernel
theorem dL_law_271 : decode cL_law 271 = .ok (.iconst 1, 1) := by decide +kernel
theorem dL_law_272 : decode cL_law 272 = .ok (.iadd, 1) := by decide +kernel
theorem dL_law_273 : decode cL_law 273 = .ok (.iaload, 1) := by decide +kernel
theorem dL_law_274 : decode cL_law 274 = .ok (.aload_n 0, 1) := by decide +kernel
theorem dL_law_275 : decode cL_law 275 = .ok (.iload_n 3, 1) := by decide +kernel
theorem dL_law_276 : decode cL_law 276 = .ok (.iconst 2, 1) := by decide +kernel
theorem dL_law_277 : decode cL_law 277 = .ok (.iadd, 1) := by decide +kernel
theorem dL_law_278 : decode cL_law 278 = .ok (.iaload, 1) := by decide +kernel
theorem dL_law_279 : decode cL_law 279 = .ok (.ifCond .eq 7, 3) := by decide +kernel
theorem dL_law_282 : decode cL_law 282 = .ok (.iconst 1, 1) := by decide +kernel
theorem dL_law_283 : decode cL_law 283 = .ok (.goto 4, 3) := by decide +kernel
theorem dL_law_286 : decode cL_law 286 = .ok (.iconst 0, 1) := by decide +kernel
theorem dL_law_287 : decode cL_law 287 = .ok (.aload_n 0, 1) := by decide +kernel
theorem dL_law_288 : decode cL_law 288 = .ok (.iload_n 3, 1) := by decide +kernel
theorem dL_law_289 : decode cL_law 289 = .ok (.iconst 3, 1) := by decide +kernel
theorem dL_law_290 : decode cL_law 290 = .ok (.iadd, 1) := by decide +kernel
theorem dL_law_291 : decode cL_law 291 = .ok (.iaload, 1) := by decide +kernel
theorem dL_law_292 : decode cL_law 292 = .ok (.aload_n 0, 1) := by decide +kernel
theorem dL_law_293 : decode cL_law 293 = .ok (.iload_n 3, 1) := by decide +kernel
theorem dL_law_294 : decode cL_law 294 = .ok (.iconst 4, 1) := by decide +kernel
theorem dL_law_295 : decode cL_law 295 = .ok (.iadd, 1) := by decide +kernel
theorem dL_law_296 : decode cL_law 296 = .ok (.iaload, 1) := by decide +kernel
theorem dL_law_297 : decode cL_law 297 = .ok (.ifCond .eq 7, 3) := by decide +kernel
theorem dL_law_300 : decode cL_law 300 = .ok (.iconst 1, 1) := by decide +kernel
theorem dL_law_301 : decode cL_law 301 = .ok (.goto 4, 3) := by decide +kernel
theorem dL_law_304 : decode cL_law 304 = .ok (.iconst 0, 1) := by decide +kernel
theorem dL_law_305 : decode cL_law 305 = .ok (.invokevirtual 28, 3) := by decide +kernel
theorem dL_law_308 : decode cL_law 308 = .ok (.pop2, 1) := by decide +kernel
theorem dL_law_309 : decode cL_law 309 = .ok (.aload_n 2, 1) := by decide +kernel
theorem dL_law_310 : decode cL_law 310 = .ok (.aload_n 0, 1) := by decide +kernel
theorem dL_law_311 : decode cL_law 311 = .ok (.iload_n 3, 1) := by decide +kernel
theorem dL_law_312 : decode cL_law 312 = .ok (.iconst 1, 1) := by decide +kernel
theorem dL_law_313 : decode cL_law 313 = .ok (.iadd, 1) := by decide +kernel
theorem dL_law_314 : decode cL_law 314 = .ok (.iaload, 1) := by decide +kernel
theorem dL_law_315 : decode cL_law 315 = .ok (.aload_n 0, 1) := by decide +kernel
theorem dL_law_316 : decode cL_law 316 = .ok (.iload_n 3, 1) := by decide +kernel
theorem dL_law_317 : decode cL_law 317 = .ok (.iconst 2, 1) := by decide +kernel
theorem dL_law_318 : decode cL_law 318 = .ok (.iadd, 1) := by decide +kernel
theorem dL_law_319 : decode cL_law 319 = .ok (.iaload, 1) := by decide +kernel
theorem dL_law_320 : decode cL_law 320 = .ok (.ifCond .eq 7, 3) := by decide +kernel
theorem dL_law_323 : decode cL_law 323 = .ok (.iconst 1, 1) := by decide +kernel
theorem dL_law_324 : decode cL_law 324 = .ok (.goto 4, 3) := by decide +kernel
theorem dL_law_327 : decode cL_law 327 = .ok (.iconst 0, 1) := by decide +kernel
theorem dL_law_328 : decode cL_law 328 = .ok (.aload_n 0, 1) := by decide +kernel
theorem dL_law_329 : decode cL_law 329 = .ok (.iload_n 3, 1) := by decide +kernel
theorem dL_law_330 : decode cL_law 330 = .ok (.iconst 3, 1) := by decide +kernel
theorem dL_law_331 : decode cL_law 331 = .ok (.iadd, 1) := by decide +kernel
theorem dL_law_332 : decode cL_law 332 = .ok (.iaload, 1) := by decide +kernel
theorem dL_law_333 : decode cL_law 333 = .ok (.aload_n 0, 1) := by decide +kernel
theorem dL_law_334 : decode cL_law 334 = .ok (.iload_n 3, 1) := by decide +kernel
theorem dL_law_335 : decode cL_law 335 = .ok (.iconst 4, 1) := by decide +kernel
theorem dL_law_336 : decode cL_law 336 = .ok (.iadd, 1) := by decide +kernel
theorem dL_law_337 : decode cL_law 337 = .ok (.iaload, 1) := by decide +kernel
theorem dL_law_338 : decode cL_law 338 = .ok (.ifCond .eq 7, 3) := by decide +kernel
theorem dL_law_341 : decode cL_law 341 = .ok (.iconst 1, 1) := by decide +kernel
theorem dL_law_342 : decode cL_law 342 = .ok (.goto 4, 3) := by decide +kernel
theorem dL_law_345 : decode cL_law 345 = .ok (.iconst 0, 1) := by decide +kernel
theorem dL_law_346 : decode cL_law 346 = .ok (.invokevirtual 32, 3) := by decide +kernel
theorem dL_law_349 : decode cL_law 349 = .ok (.pop2, 1) := by decide +kernel
theorem dL_law_350 : decode cL_law 350 = .ok (.goto 995, 3) := by decide +kernel
theorem dL_law_353 : decode cL_law 353 = .ok (.aload_n 1, 1) := by decide +kernel
theorem dL_law_354 : decode cL_law 354 = .ok (.aload_n 0, 1) := by decide +kernel
theorem dL_law_355 : decode cL_law 355 = .ok (.iload_n 3, 1) := by decide +kernel
theorem dL_law_356 : decode cL_law 356 = .ok (.iconst 1, 1) := by decide +kernel
theorem dL_law_357 : decode cL_law 357 = .ok (.iadd, 1) := by decide +kernel
theorem dL_law_358 : decode cL_law 358 = .ok (.iaload, 1) := by decide +kernel
theorem dL_law_359 : decode cL_law 359 = .ok (.aload_n 0, 1) := by decide +kernel
theorem dL_law_360 : decode cL_law 360 = .ok (.iload_n 3, 1) := by decide +kernel
theorem dL_law_361 : decode cL_law 361 = .ok (.iconst 2, 1) := by decide +kernel
theorem dL_law_362 : decode cL_law 362 = .ok (.iadd, 1) := by decide +kernel
theorem dL_law_363 : decode cL_law 363 = .ok (.iaload, 1) := by decide +kernel
theorem dL_law_364 : decode cL_law 364 = .ok (.ifCond .eq 7, 3) := by decide +kernel
theorem dL_law_367 : decode cL_law 367 = .ok (.iconst 1, 1) := by decide +kernel
theorem dL_law_368 : decode cL_law 368 = .ok (.goto 4, 3) := by decide +kernel
theorem dL_law_371 : decode cL_law 371 = .ok (.iconst 0, 1) := by decide +kernel
theorem dL_law_372 : decode cL_law 372 = .ok (.aload_n 0, 1) := by decide +kernel
theorem dL_law_373 : decode cL_law 373 = .ok (.iload_n 3, 1) := by decide +kernel
theorem dL_law_374 : decode cL_law 374 = .ok (.iconst 3, 1) := by decide +kernel
theorem dL_law_375 : decode cL_law 375 = .ok (.iadd, 1) := by decide +kernel
theorem dL_law_376 : decode cL_law 376 = .ok (.iaload, 1) := by decide +kernel
theorem dL_law_377 : decode cL_law 377 = .ok (.ifCond .eq 7, 3) := by decide +kernel
theorem dL_law_380 : decode cL_law 380 = .ok (.iconst 1, 1) := by decide +kernel
theorem dL_law_381 : decode cL_law 381 = .ok (.goto 4, 3) := by decide +kernel
theorem dL_law_384 : decode cL_law 384 = .ok (.iconst 0, 1) := by decide +kernel
theorem dL_law_385 : decode cL_law 385 = .ok (.invokevirtual 33, 3) := by decide +kernel
theorem dL_law_388 : decode cL_law 388 = .ok (.pop2, 1) := by decide +kernel
theorem dL_law_389 : decode cL_law 389 = .ok (.aload_n 2, 1) := by decide +kernel
theorem dL_law_390 : decode cL_law 390 = .ok (.aload_n 0, 1) := by decide +kernel
theorem dL_law_391 : decode cL_law 391 = .ok (.iload_n 3, 1) := by decide +kernel
theorem dL_law_392 : decode cL_law 392 = .ok (.iconst 1, 1) := by decide +kernel
theorem dL_law_393 : decode cL_law 393 = .ok (.iadd, 1) := by decide +kernel
theorem dL_law_394 : decode cL_law 394 = .ok (.iaload, 1) := by decide +kernel
theorem dL_law_395 : decode cL_law 395 = .ok (.aload_n 0, 1) := by decide +kernel
theorem dL_law_396 : decode cL_law 396 = .ok (.iload_n 3, 1) := by decide +kernel
theorem dL_law_397 : decode cL_law 397 = .ok (.iconst 2, 1) := by decide +kernel
theorem dL_law_398 : decode cL_law 398 = .ok (.iadd, 1) := by decide +kernel
theorem dL_law_399 : decode cL_law 399 = .ok (.iaload, 1) := by decide +kernel
theorem dL_law_400 : decode cL_law 400 = .ok (.ifCond .eq 7, 3) := by decide +kernel
theorem dL_law_403 : decode cL_law 403 = .ok (.iconst 1, 1) := by decide +kernel
theorem dL_law_404 : decode cL_law 404 = .ok (.goto 4, 3) := by decide +kernel
theorem dL_law_407 : decode cL_law 407 = .ok (.iconst 0, 1) := by decide +kernel
theorem dL_law_408 : decode cL_law 408 = .ok (.aload_n 0, 1) := by decide +kernel
theorem dL_law_409 : decode cL_law 409 = .ok (.iload_n 3, 1) := by decide +kernel
theorem dL_law_410 : decode cL_law 410 = .ok (.iconst 3, 1) := by decide +kernel
theorem dL_law_411 : decode cL_law 411 = .ok (.iadd, 1) := by decide +kernel
theorem dL_law_412 : decode cL_law 412 = .ok (.iaload, 1) := by decide +kernel
theorem dL_law_413 : decode cL_law 413 = .ok (.ifCond .eq 7, 3) := by decide +kernel
theorem dL_law_416 : decode cL_law 416 = .ok (.iconst 1, 1) := by decide +kernel
theorem dL_law_417 : decode cL_law 417 = .ok (.goto 4, 3) := by decide +kernel
theorem dL_law_420 : decode cL_law 420 = .ok (.iconst 0, 1) := by decide +kernel
theorem dL_law_421 : decode cL_law 421 = .ok (.invokevirtual 37, 3) := by decide +kernel
theorem dL_law_424 : decode cL_law 424 = .ok (.pop2, 1) := by decide +kernel
theorem dL_law_425 : decode cL_law 425 = .ok (.goto 920, 3) := by decide +kernel
theorem dL_law_428 : decode cL_law 428 = .ok (.aload_n 1, 1) := by decide +kernel
theorem dL_law_429 : decode cL_law 429 = .ok (.aload_n 0, 1) := by decide +kernel
theorem dL_law_430 : decode cL_law 430 = .ok (.iload_n 3, 1) := by decide +kernel
theorem dL_law_431 : decode cL_law 431 = .ok (.iconst 1, 1) := by decide +kernel
theorem dL_law_432 : decode cL_law 432 = .ok (.iadd, 1) := by decide +kernel
theorem dL_law_433 : decode cL_law 433 = .ok (.iaload, 1) := by decide +kernel
theorem dL_law_434 : decode cL_law 434 = .ok (.invokevirtual 38, 3) := by decide +kernel
theorem dL_law_437 : decode cL_law 437 = .ok (.pop2, 1) := by decide +kernel
theorem dL_law_438 : decode cL_law 438 = .ok (.aload_n 2, 1) := by decide +kernel
theorem dL_law_439 : decode cL_law 439 = .ok (.aload_n 0, 1) := by decide +kernel
theorem dL_law_440 : decode cL_law 440 = .ok (.iload_n 3, 1) := by decide +kernel
theorem dL_law_441 : decode cL_law 441 = .ok (.iconst 1, 1) := by decide +kernel
theorem dL_law_442 : decode cL_law 442 = .ok (.iadd, 1) := by decide +kernel
theorem dL_law_443 : decode cL_law 443 = .ok (.iaload, 1) := by decide +kernel
theorem dL_law_444 : decode cL_law 444 = .ok (.invokevirtual 41, 3) := by decide +kernel
theorem dL_law_447 : decode cL_law 447 = .ok (.pop2, 1) := by decide +kernel
theorem dL_law_448 : decode cL_law 448 = .ok (.goto 897, 3) := by decide +kernel
theorem dL_law_451 : decode cL_law 451 = .ok (.aload_n 1, 1) := by decide +kernel
theorem dL_law_452 : decode cL_law 452 = .ok (.aload_n 0, 1) := by decide +kernel
theorem dL_law_453 : decode cL_law 453 = .ok (.iload_n 3, 1) := by decide +kernel
theorem dL_law_454 : decode cL_law 454 = .ok (.iconst 1, 1) := by decide +kernel
theorem dL_law_455 : decode cL_law 455 = .ok (.iadd, 1) := by decide +kernel
theorem dL_law_456 : decode cL_law 456 = .ok (.iaload, 1) := by decide +kernel
theorem dL_law_457 : decode cL_law 457 = .ok (.aload_n 0, 1) := by decide +kernel
theorem dL_law_458 : decode cL_law 458 = .ok (.iload_n 3, 1) := by decide +kernel
theorem dL_law_459 : decode cL_law 459 = .ok (.iconst 2, 1) := by decide +kernel
theorem dL_law_460 : decode cL_law 460 = .ok (.iadd, 1) := by decide +kernel
theorem dL_law_461 : decode cL_law 461 = .ok (.iaload, 1) := by decide +kernel
theorem dL_law_462 : decode cL_law 462 = .ok (.aload_n 0, 1) := by decide +kernel
theorem dL_law_463 : decode cL_law 463 = .ok (.iload_n 3, 1) := by decide +kernel
theorem dL_law_464 : decode cL_law 464 = .ok (.iconst 3, 1) := by decide +kernel
theorem dL_law_465 : decode cL_law 465 = .ok (.iadd, 1) := by decide +kernel
theorem dL_law_466 : decode cL_law 466 = .ok (.iaload, 1) := by decide +kernel
theorem dL_law_467 : decode cL_law 467 = .ok (.aload_n 0, 1) := by decide +kernel
theorem dL_law_468 : decode cL_law 468 = .ok (.iload_n 3, 1) := by decide +kernel
theorem dL_law_469 : decode cL_law 469 = .ok (.iconst 4, 1) := by decide +kernel
theorem dL_law_470 : decode cL_law 470 = .ok (.iadd, 1) := by decide +kernel
theorem dL_law_471 : decode cL_law 471 = .ok (.iaload, 1) := by decide +kernel
theorem dL_law_472 : decode cL_law 472 = .ok (.aload_n 0, 1) := by decide +kernel
theorem dL_law_473 : decode cL_law 473 = .ok (.iload_n 3, 1) := by decide +kernel
theorem dL_law_474 : decode cL_law 474 = .ok (.iconst 5, 1) := by decide +kernel
theorem dL_law_475 : decode cL_law 475 = .ok (.iadd, 1) := by decide +kernel
theorem dL_law_476 : decode cL_law 476 = .ok (.iaload, 1) := by decide +kernel
theorem dL_law_477 : decode cL_law 477 = .ok (.aload_n 0, 1) := by decide +kernel
theorem dL_law_478 : decode cL_law 478 = .ok (.iload_n 3, 1) := by decide +kernel
theorem dL_law_479 : decode cL_law 479 = .ok (.bipush 6, 2) := by decide +kernel
theorem dL_law_481 : decode cL_law 481 = .ok (.iadd, 1) := by decide +kernel
theorem dL_law_482 : decode cL_law 482 = .ok (.iaload, 1) := by decide +kernel
theorem dL_law_483 : decode cL_law 483 = .ok (.invokevirtual 42, 3) := by decide +kernel
theorem dL_law_486 : decode cL_law 486 = .ok (.pop2, 1) := by decide +kernel
theorem dL_law_487 : decode cL_law 487 = .ok (.aload_n 2, 1) := by decide +kernel
theorem dL_law_488 : decode cL_law 488 = .ok (.aload_n 0, 1) := by decide +kernel
theorem dL_law_489 : decode cL_law 489 = .ok (.iload_n 3, 1) := by decide +kernel
theorem dL_law_490 : decode cL_law 490 = .ok (.iconst 1, 1) := by decide +kernel
theorem dL_law_491 : decode cL_law 491 = .ok (.iadd, 1) := by decide +kernel
theorem dL_law_492 : decode cL_law 492 = .ok (.iaload, 1) := by decide +kernel
theorem dL_law_493 : decode cL_law 493 = .ok (.aload_n 0, 1) := by decide +kernel
theorem dL_law_494 : decode cL_law 494 = .ok (.iload_n 3, 1) := by decide +kernel
theorem dL_law_495 : decode cL_law 495 = .ok (.iconst 2, 1) := by decide +kernel
theorem dL_law_496 : decode cL_law 496 = .ok (.iadd, 1) := by decide +kernel
theorem dL_law_497 : decode cL_law 497 = .ok (.iaload, 1) := by decide +kernel
theorem dL_law_498 : decode cL_law 498 = .ok (.aload_n 0, 1) := by decide +kernel
theorem dL_law_499 : decode cL_law 499 = .ok (.iload_n 3, 1) := by decide +kernel
theorem dL_law_500 : decode cL_law 500 = .ok (.iconst 3, 1) := by decide +kernel
theorem dL_law_501 : decode cL_law 501 = .ok (.iadd, 1) := by decide +kernel
theorem dL_law_502 : decode cL_law 502 = .ok (.iaload, 1) := by decide +kernel
theorem dL_law_503 : decode cL_law 503 = .ok (.aload_n 0, 1) := by decide +kernel
theorem dL_law_504 : decode cL_law 504 = .ok (.iload_n 3, 1) := by decide +kernel
theorem dL_law_505 : decode cL_law 505 = .ok (.iconst 4, 1) := by decide +kernel
theorem dL_law_506 : decode cL_law 506 = .ok (.iadd, 1) := by decide +kernel
theorem dL_law_507 : decode cL_law 507 = .ok (.iaload, 1) := by decide +kernel
theorem dL_law_508 : decode cL_law 508 = .ok (.aload_n 0, 1) := by decide +kernel
theorem dL_law_509 : decode cL_law 509 = .ok (.iload_n 3, 1) := by decide +kernel
theorem dL_law_510 : decode cL_law 510 = .ok (.iconst 5, 1) := by decide +kernel
theorem dL_law_511 : decode cL_law 511 = .ok (.iadd, 1) := by decide +kernel
theorem dL_law_512 : decode cL_law 512 = .ok (.iaload, 1) := by decide +kernel
theorem dL_law_513 : decode cL_law 513 = .ok (.aload_n 0, 1) := by decide +kernel
theorem dL_law_514 : decode cL_law 514 = .ok (.iload_n 3, 1) := by decide +kernel
theorem dL_law_515 : decode cL_law 515 = .ok (.bipush 6, 2) := by decide +kernel
theorem dL_law_517 : decode cL_law 517 = .ok (.iadd, 1) := by decide +kernel
theorem dL_law_518 : decode cL_law 518 = .ok (.iaload, 1) := by decide +kernel
theorem dL_law_519 : decode cL_law 519 = .ok (.invokevirtual 46, 3) := by decide +kernel
theorem dL_law_522 : decode cL_law 522 = .ok (.pop2, 1) := by decide +kernel
theorem dL_law_523 : decode cL_law 523 = .ok (.goto 822, 3) := by decide +kernel
theorem dL_law_526 : decode cL_law 526 = .ok (.aload_n 1, 1) := by decide +kernel
theorem dL_law_527 : decode cL_law 527 = .ok (.aload_n 0, 1) := by decide +kernel
theorem dL_law_528 : decode cL_law 528 = .ok (.iload_n 3, 1) := by decide +kernel
theorem dL_law_529 : decode cL_law 529 = .ok (.iconst 1, 1) := by decide +kernel
theorem dL_law_530 : decode cL_law 530 = .ok (.iadd, 1) := by decide +kernel
theorem dL_law_531 : decode cL_law 531 = .ok (.iaload, 1) := by decide +kernel
theorem dL_law_532 : decode cL_law 532 = .ok (.aload_n 0, 1) := by decide +kernel
theorem dL_law_533 : decode cL_law 533 = .ok (.iload_n 3, 1) := by decide +kernel
theorem dL_law_534 : decode cL_law 534 = .ok (.iconst 2, 1) := by decide +kernel
theorem dL_law_535 : decode cL_law 535 = .ok (.iadd, 1) := by decide +kernel
theorem dL_law_536 : decode cL_law 536 = .ok (.iaload, 1) := by decide +kernel
theorem dL_law_537 : decode cL_law 537 = .ok (.invokevirtual 47, 3) := by decide +kernel
theorem dL_law_540 : decode cL_law 540 = .ok (.pop2, 1) := by decide +kernel
theorem dL_law_541 : decode cL_law 541 = .ok (.aload_n 2, 1) := by decide +kernel
theorem dL_law_542 : decode cL_law 542 = .ok (.aload_n 0, 1) := by decide +kernel
theorem dL_law_543 : decode cL_law 543 = .ok (.iload_n 3, 1) := by decide +kernel
theorem dL_law_544 : decode cL_law 544 = .ok (.iconst 1, 1) := by decide +kernel
theorem dL_law_545 : decode cL_law 545 = .ok (.iadd, 1) := by decide +kernel
theorem dL_law_546 : decode cL_law 546 = .ok (.iaload, 1) := by decide +kernel
theorem dL_law_547 : decode cL_law 547 = .ok (.aload_n 0, 1) := by decide +kernel
theorem dL_law_548 : decode cL_law 548 = .ok (.iload_n 3, 1) := by decide +kernel
theorem dL_law_549 : decode cL_law 549 = .ok (.iconst 2, 1) := by decide +kernel
theorem dL_law_550 : decode cL_law 550 = .ok (.iadd, 1) := by decide +kernel
theorem dL_law_551 : decode cL_law 551 = .ok (.iaload, 1) := by decide +kernel
theorem dL_law_552 : decode cL_law 552 = .ok (.invokevirtual 51, 3) := by decide +kernel
theorem dL_law_555 : decode cL_law 555 = .ok (.pop2, 1) := by decide +kernel
theorem dL_law_556 : decode cL_law 556 = .ok (.goto 789, 3) := by decide +kernel
theorem dL_law_559 : decode cL_law 559 = .ok (.aload_n 1, 1) := by decide +kernel
theorem dL_law_560 : decode cL_law 560 = .ok (.aload_n 0, 1) := by decide +kernel
theorem dL_law_561 : decode cL_law 561 = .ok (.iload_n 3, 1) := by decide +kernel
theorem dL_law_562 : decode cL_law 562 = .ok (.iconst 1, 1) := by decide +kernel
theorem dL_law_563 : decode cL_law 563 = .ok (.iadd, 1) := by decide +kernel
theorem dL_law_564 : decode cL_law 564 = .ok (.iaload, 1) := by decide +kernel
theorem dL_law_565 : decode cL_law 565 = .ok (.aload_n 0, 1) := by decide +kernel
theorem dL_law_566 : decode cL_law 566 = .ok (.iload_n 3, 1) := by decide +kernel
theorem dL_law_567 : decode cL_law 567 = .ok (.iconst 2, 1) := by decide +kernel
theorem dL_law_568 : decode cL_law 568 = .ok (.iadd, 1) := by decide +kernel
theorem dL_law_569 : decode cL_law 569 = .ok (.iaload, 1) := by decide +kernel
theorem dL_law_570 : decode cL_law 570 = .ok (.ifCond .eq 7, 3) := by decide +kernel
theorem dL_law_573 : decode cL_law 573 = .ok (.iconst 1, 1) := by decide +kernel
theorem dL_law_574 : decode cL_law 574 = .ok (.goto 4, 3) := by decide +kernel
theorem dL_law_577 : decode cL_law 577 = .ok (.iconst 0, 1) := by decide +kernel
theorem dL_law_578 : decode cL_law 578 = .ok (.invokevirtual 52, 3) := by decide +kernel
theorem dL_law_581 : decode cL_law 581 = .ok (.pop2, 1) := by decide +kernel
theorem dL_law_582 : decode cL_law 582 = .ok (.aload_n 2, 1) := by decide +kernel
theorem dL_law_583 : decode cL_law 583 = .ok (.aload_n 0, 1) := by decide +kernel
theorem dL_law_584 : decode cL_law 584 = .ok (.iload_n 3, 1) := by decide +kernel
theorem dL_law_585 : decode cL_law 585 = .ok (.iconst 1, 1) := by decide +kernel
theorem dL_law_586 : decode cL_law 586 = .ok (.iadd, 1) := by decide +kernel
theorem dL_law_587 : decode cL_law 587 = .ok (.iaload, 1) := by decide +kernel
theorem dL_law_588 : decode cL_law 588 = .ok (.aload_n 0, 1) := by decide +kernel
theorem dL_law_589 : decode cL_law 589 = .ok (.iload_n 3, 1) := by decide +kernel
theorem dL_law_590 : decode cL_law 590 = .ok (.iconst 2, 1) := by decide +kernel
theorem dL_law_591 : decode cL_law 591 = .ok (.iadd, 1) := by decide +kernel
theorem dL_law_592 : decode cL_law 592 = .ok (.iaload, 1) := by decide +kernel
theorem dL_law_593 : decode cL_law 593 = .ok (.ifCond .eq 7, 3) := by decide +kernel
theorem dL_law_596 : decode cL_law 596 = .ok (.iconst 1, 1) := by decide +kernel
theorem dL_law_597 : decode cL_law 597 = .ok (.goto 4, 3) := by decide +kernel
theorem dL_law_600 : decode cL_law 600 = .ok (.iconst 0, 1) := by decide +kernel
theorem dL_law_601 : decode cL_law 601 = .ok (.invokevirtual 56, 3) := by decide +kernel
theorem dL_law_604 : decode cL_law 604 = .ok (.pop2, 1) := by decide +kernel
theorem dL_law_605 : decode cL_law 605 = .ok (.goto 740, 3) := by decide +kernel
theorem dL_law_608 : decode cL_law 608 = .ok (.aload_n 1, 1) := by decide +kernel
theorem dL_law_609 : decode cL_law 609 = .ok (.aload_n 0, 1) := by decide +kernel
theorem dL_law_610 : decode cL_law 610 = .ok (.iload_n 3, 1) := by decide +kernel
theorem dL_law_611 : decode cL_law 611 = .ok (.iconst 1, 1) := by decide +kernel
theorem dL_law_612 : decode cL_law 612 = .ok (.iadd, 1) := by decide +kernel
theorem dL_law_613 : decode cL_law 613 = .ok (.iaload, 1) := by decide +kernel
theorem dL_law_614 : decode cL_law 614 = .ok (.aload_n 0, 1) := by decide +kernel
theorem dL_law_615 : decode cL_law 615 = .ok (.iload_n 3, 1) := by decide +kernel
theorem dL_law_616 : decode cL_law 616 = .ok (.iconst 2, 1) := by decide +kernel
theorem dL_law_617 : decode cL_law 617 = .ok (.iadd, 1) := by decide +kernel
theorem dL_law_618 : decode cL_law 618 = .ok (.iaload, 1) := by decide +kernel
theorem dL_law_619 : decode cL_law 619 = .ok (.invokevirtual 57, 3) := by decide +kernel
theorem dL_law_622 : decode cL_law 622 = .ok (.pop2, 1) := by decide +kernel
theorem dL_law_623 : decode cL_law 623 = .ok (.aload_n 2, 1) := by decide +kernel
theorem dL_law_624 : decode cL_law 624 = .ok (.aload_n 0, 1) := by decide +kernel
theorem dL_law_625 : decode cL_law 625 = .ok (.iload_n 3, 1) := by decide +kernel
theorem dL_law_626 : decode cL_law 626 = .ok (.iconst 1, 1) := by decide +kernel
theorem dL_law_627 : decode cL_law 627 = .ok (.iadd, 1) := by decide +kernel
theorem dL_law_628 : decode cL_law 628 = .ok (.iaload, 1) := by decide +kernel
theorem dL_law_629 : decode cL_law 629 = .ok (.aload_n 0, 1) := by decide +kernel
theorem dL_law_630 : decode cL_law 630 = .ok (.iload_n 3, 1) := by decide +kernel
theorem dL_law_631 : decode cL_law 631 = .ok (.iconst 2, 1) := by decide +kernel
theorem dL_law_632 : decode cL_law 632 = .ok (.iadd, 1) := by decide +kernel
theorem dL_law_633 : decode cL_law 633 = .ok (.iaload, 1) := by decide +kernel
theorem dL_law_634 : decode cL_law 634 = .ok (.invokevirtual 60, 3) := by decide +kernel
theorem dL_law_637 : decode cL_law 637 = .ok (.pop2, 1) := by decide +kernel
theorem dL_law_638 : decode cL_law 638 = .ok (.goto 707, 3) := by decide +kernel
theorem dL_law_641 : decode cL_law 641 = .ok (.aload_n 1, 1) := by decide +kernel
theorem dL_law_642 : decode cL_law 642 = .ok (.aload_n 0, 1) := by decide +kernel
theorem dL_law_643 : decode cL_law 643 = .ok (.iload_n 3, 1) := by decide +kernel
theorem dL_law_644 : decode cL_law 644 = .ok (.iconst 1, 1) := by decide +kernel
theorem dL_law_645 : decode cL_law 645 = .ok (.iadd, 1) := by decide +kernel
theorem dL_law_646 : decode cL_law 646 = .ok (.iaload, 1) := by decide +kernel
theorem dL_law_647 : decode cL_law 647 = .ok (.invokevirtual 61, 3) := by decide +kernel
theorem dL_law_650 : decode cL_law 650 = .ok (.pop2, 1) := by decide +kernel
theorem dL_law_651 : decode cL_law 651 = .ok (.aload_n 2, 1) := by decide +kernel
theorem dL_law_652 : decode cL_law 652 = .ok (.aload_n 0, 1) := by decide +kernel
theorem dL_law_653 : decode cL_law 653 = .ok (.iload_n 3, 1) := by decide +kernel
theorem dL_law_654 : decode cL_law 654 = .ok (.iconst 1, 1) := by decide +kernel
theorem dL_law_655 : decode cL_law 655 = .ok (.iadd, 1) := by decide +kernel
theorem dL_law_656 : decode cL_law 656 = .ok (.iaload, 1) := by decide +kernel
theorem dL_law_657 : decode cL_law 657 = .ok (.invokevirtual 64, 3) := by decide +kernel
theorem dL_law_660 : decode cL_law 660 = .ok (.pop2, 1) := by decide +kernel
theorem dL_law_661 : decode cL_law 661 = .ok (.goto 684, 3) := by decide +kernel
theorem dL_law_664 : decode cL_law 664 = .ok (.aload_n 1, 1) := by decide +kernel
theorem dL_law_665 : decode cL_law 665 = .ok (.invokevirtual 65, 3) := by decide +kernel
theorem dL_law_668 : decode cL_law 668 = .ok (.pop2, 1) := by decide +kernel
theorem dL_law_669 : decode cL_law 669 = .ok (.aload_n 2, 1) := by decide +kernel
theorem dL_law_670 : decode cL_law 670 = .ok (.invokevirtual 68, 3) := by decide +kernel
theorem dL_law_673 : decode cL_law 673 = .ok (.pop2, 1) := by decide +kernel
theorem dL_law_674 : decode cL_law 674 = .ok (.goto 671, 3) := by decide +kernel
theorem dL_law_677 : decode cL_law 677 = .ok (.aload_n 1, 1) := by decide +kernel
theorem dL_law_678 : decode cL_law 678 = .ok (.aload_n 0, 1) := by decide +kernel
theorem dL_law_679 : decode cL_law 679 = .ok (.iload_n 3, 1) := by decide +kernel
theorem dL_law_680 : decode cL_law 680 = .ok (.iconst 1, 1) := by decide +kernel
theorem dL_law_681 : decode cL_law 681 = .ok (.iadd, 1) := by decide +kernel
theorem dL_law_682 : decode cL_law 682 = .ok (.iaload, 1) := by decide +kernel
theorem dL_law_683 : decode cL_law 683 = .ok (.invokevirtual 69, 3) := by decide +kernel
theorem dL_law_686 : decode cL_law 686 = .ok (.pop2, 1) := by decide +kernel
theorem dL_law_687 : decode cL_law 687 = .ok (.aload_n 2, 1) := by decide +kernel
theorem dL_law_688 : decode cL_law 688 = .ok (.aload_n 0, 1) := by decide +kernel
theorem dL_law_689 : decode cL_law 689 = .ok (.iload_n 3, 1) := by decide +kernel
theorem dL_law_690 : decode cL_law 690 = .ok (.iconst 1, 1) := by decide +kernel
theorem dL_law_691 : decode cL_law 691 = .ok (.iadd, 1) := by decide +kernel
theorem dL_law_692 : decode cL_law 692 = .ok (.iaload, 1) := by decide +kernel
theorem dL_law_693 : decode cL_law 693 = .ok (.invokevirtual 72, 3) := by decide +kernel
theorem dL_law_696 : decode cL_law 696 = .ok (.pop2, 1) := by decide +kernel
theorem dL_law_697 : decode cL_law 697 = .ok (.goto 648, 3) := by decide +kernel
theorem dL_law_700 : decode cL_law 700 = .ok (.aload_n 1, 1) := by decide +kernel
theorem dL_law_701 : decode cL_law 701 = .ok (.aload_n 0, 1) := by decide +kernel
theorem dL_law_702 : decode cL_law 702 = .ok (.iload_n 3, 1) := by decide +kernel
theorem dL_law_703 : decode cL_law 703 = .ok (.iconst 1, 1) := by decide +kernel
theorem dL_law_704 : decode cL_law 704 = .ok (.iadd, 1) := by decide +kernel
theorem dL_law_705 : decode cL_law 705 = .ok (.iaload, 1) := by decide +kernel
theorem dL_law_706 : decode cL_law 706 = .ok (.invokevirtual 73, 3) := by decide +kernel
theorem dL_law_709 : decode cL_law 709 = .ok (.pop2, 1) := by decide +kernel
theorem dL_law_710 : decode cL_law 710 = .ok (.aload_n 2, 1) := by decide +kernel
theorem dL_law_711 : decode cL_law 711 = .ok (.aload_n 0, 1) := by decide +kernel
theorem dL_law_712 : decode cL_law 712 = .ok (.iload_n 3, 1) := by decide +kernel
theorem dL_law_713 : decode cL_law 713 = .ok (.iconst 1, 1) := by decide +kernel
theorem dL_law_714 : decode cL_law 714 = .ok (.iadd, 1) := by decide +kernel
theorem dL_law_715 : decode cL_law 715 = .ok (.iaload, 1) := by decide +kernel
theorem dL_law_716 : decode cL_law 716 = .ok (.invokevirtual 76, 3) := by decide +kernel
theorem dL_law_719 : decode cL_law 719 = .ok (.pop2, 1) := by decide +kernel
theorem dL_law_720 : decode cL_law 720 = .ok (.goto 625, 3) := by decide +kernel
theorem dL_law_723 : decode cL_law 723 = .ok (.aload_n 1, 1) := by decide +kernel
theorem dL_law_724 : decode cL_law 724 = .ok (.invokevirtual 77, 3) := by decide +kernel
theorem dL_law_727 : decode cL_law 727 = .ok (.pop2, 1) := by decide +kernel
theorem dL_law_728 : decode cL_law 728 = .ok (.aload_n 2, 1) := by decide +kernel
theorem dL_law_729 : decode cL_law 729 = .ok (.invokevirtual 80, 3) := by decide +kernel
theorem dL_law_732 : decode cL_law 732 = .ok (.pop2, 1) := by decide +kernel
theorem dL_law_733 : decode cL_law 733 = .ok (.goto 612, 3) := by decide +kernel
theorem dL_law_736 : decode cL_law 736 = .ok (.aload_n 1, 1) := by decide +kernel
theorem dL_law_737 : decode cL_law 737 = .ok (.invokevirtual 81, 3) := by decide +kernel
theorem dL_law_740 : decode cL_law 740 = .ok (.pop2, 1) := by decide +kernel
theorem dL_law_741 : decode cL_law 741 = .ok (.aload_n 2, 1) := by decide +kernel
theorem dL_law_742 : decode cL_law 742 = .ok (.invokevirtual 84, 3) := by decide +kernel
theorem dL_law_745 : decode cL_law 745 = .ok (.pop2, 1) := by decide +kernel
theorem dL_law_746 : decode cL_law 746 = .ok (.goto 599, 3) := by decide +kernel
theorem dL_law_749 : decode cL_law 749 = .ok (.aload_n 1, 1) := by decide +kernel
theorem dL_law_750 : decode cL_law 750 = .ok (.aload_n 0, 1) := by decide +kernel
theorem dL_law_751 : decode cL_law 751 = .ok (.iload_n 3, 1) := by decide +kernel
theorem dL_law_752 : decode cL_law 752 = .ok (.iconst 1, 1) := by decide +kernel
theorem dL_law_753 : decode cL_law 753 = .ok (.iadd, 1) := by decide +kernel
theorem dL_law_754 : decode cL_law 754 = .ok (.iaload, 1) := by decide +kernel
theorem dL_law_755 : decode cL_law 755 = .ok (.invokevirtual 85, 3) := by decide +kernel
theorem dL_law_758 : decode cL_law 758 = .ok (.pop2, 1) := by decide +kernel
theorem dL_law_759 : decode cL_law 759 = .ok (.aload_n 2, 1) := by decide +kernel
theorem dL_law_760 : decode cL_law 760 = .ok (.aload_n 0, 1) := by decide +kernel
theorem dL_law_761 : decode cL_law 761 = .ok (.iload_n 3, 1) := by decide +kernel
theorem dL_law_762 : decode cL_law 762 = .ok (.iconst 1, 1) := by decide +kernel
theorem dL_law_763 : decode cL_law 763 = .ok (.iadd, 1) := by decide +kernel
theorem dL_law_764 : decode cL_law 764 = .ok (.iaload, 1) := by decide +kernel
theorem dL_law_765 : decode cL_law 765 = .ok (.invokevirtual 88, 3) := by decide +kernel
theorem dL_law_768 : decode cL_law 768 = .ok (.pop2, 1) := by decide +kernel
theorem dL_law_769 : decode cL_law 769 = .ok (.goto 576, 3) := by decide +kernel
theorem dL_law_772 : decode cL_law 772 = .ok (.aload_n 1, 1) := by decide +kernel
theorem dL_law_773 : decode cL_law 773 = .ok (.aload_n 0, 1) := by decide +kernel
theorem dL_law_774 : decode cL_law 774 = .ok (.iload_n 3, 1) := by decide +kernel
theorem dL_law_775 : decode cL_law 775 = .ok (.iconst 1, 1) := by decide +kernel
theorem dL_law_776 : decode cL_law 776 = .ok (.iadd, 1) := by decide +kernel
theorem dL_law_777 : decode cL_law 777 = .ok (.iaload, 1) := by decide +kernel
theorem dL_law_778 : decode cL_law 778 = .ok (.aload_n 0, 1) := by decide +kernel
theorem dL_law_779 : decode cL_law 779 = .ok (.iload_n 3, 1) := by decide +kernel
theorem dL_law_780 : decode cL_law 780 = .ok (.iconst 2, 1) := by decide +kernel
theorem dL_law_781 : decode cL_law 781 = .ok (.iadd, 1) := by decide +kernel
theorem dL_law_782 : decode cL_law 782 = .ok (.iaload, 1) := by decide +kernel
theorem dL_law_783 : decode cL_law 783 = .ok (.aload_n 0, 1) := by decide +kernel
theorem dL_law_784 : decode cL_law 784 = .ok (.iload_n 3, 1) := by decide +kernel
theorem dL_law_785 : decode cL_law 785 = .ok (.iconst 3, 1) := by decide +kernel
theorem dL_law_786 : decode cL_law 786 = .ok (.iadd, 1) := by decide +kernel
theorem dL_law_787 : decode cL_law 787 = .ok (.iaload, 1) := by decide +kernel
theorem dL_law_788 : decode cL_law 788 = .ok (.invokevirtual 89, 3) := by decide +kernel
theorem dL_law_791 : decode cL_law 791 = .ok (.pop2, 1) := by decide +kernel
theorem dL_law_792 : decode cL_law 792 = .ok (.aload_n 2, 1) := by decide +kernel
theorem dL_law_793 : decode cL_law 793 = .ok (.aload_n 0, 1) := by decide +kernel
theorem dL_law_794 : decode cL_law 794 = .ok (.iload_n 3, 1) := by decide +kernel
theorem dL_law_795 : decode cL_law 795 = .ok (.iconst 1, 1) := by decide +kernel
theorem dL_law_796 : decode cL_law 796 = .ok (.iadd, 1) := by decide +kernel
theorem dL_law_797 : decode cL_law 797 = .ok (.iaload, 1) := by decide +kernel
theorem dL_law_798 : decode cL_law 798 = .ok (.aload_n 0, 1) := by decide +kernel
theorem dL_law_799 : decode cL_law 799 = .ok (.iload_n 3, 1) := by decide +kernel
theorem dL_law_800 : decode cL_law 800 = .ok (.iconst 2, 1) := by decide +kernel
theorem dL_law_801 : decode cL_law 801 = .ok (.iadd, 1) := by decide +kernel
theorem dL_law_802 : decode cL_law 802 = .ok (.iaload, 1) := by decide +kernel
theorem dL_law_803 : decode cL_law 803 = .ok (.aload_n 0, 1) := by decide +kernel
theorem dL_law_804 : decode cL_law 804 = .ok (.iload_n 3, 1) := by decide +kernel
theorem dL_law_805 : decode cL_law 805 = .ok (.iconst 3, 1) := by decide +kernel
theorem dL_law_806 : decode cL_law 806 = .ok (.iadd, 1) := by decide +kernel
theorem dL_law_807 : decode cL_law 807 = .ok (.iaload, 1) := by decide +kernel
theorem dL_law_808 : decode cL_law 808 = .ok (.invokevirtual 93, 3) := by decide +kernel
theorem dL_law_811 : decode cL_law 811 = .ok (.pop2, 1) := by decide +kernel
theorem dL_law_812 : decode cL_law 812 = .ok (.goto 533, 3) := by decide +kernel
theorem dL_law_815 : decode cL_law 815 = .ok (.aload_n 1, 1) := by decide +kernel
theorem dL_law_816 : decode cL_law 816 = .ok (.aload_n 0, 1) := by decide +kernel
theorem dL_law_817 : decode cL_law 817 = .ok (.iload_n 3, 1) := by decide +kernel
theorem dL_law_818 : decode cL_law 818 = .ok (.iconst 1, 1) := by decide +kernel
theorem dL_law_819 : decode cL_law 819 = .ok (.iadd, 1) := by decide +kernel
theorem dL_law_820 : decode cL_law 820 = .ok (.iaload, 1) := by decide +kernel
theorem dL_law_821 : decode cL_law 821 = .ok (.aload_n 0, 1) := by decide +kernel
theorem dL_law_822 : decode cL_law 822 = .ok (.iload_n 3, 1) := by decide +kernel
theorem dL_law_823 : decode cL_law 823 = .ok (.iconst 2, 1) := by decide +kernel
theorem dL_law_824 : decode cL_law 824 = .ok (.iadd, 1) := by decide +kernel
theorem dL_law_825 : decode cL_law 825 = .ok (.iaload, 1) := by decide +kernel
theorem dL_law_826 : decode cL_law 826 = .ok (.aload_n 0, 1) := by decide +kernel
theorem dL_law_827 : decode cL_law 827 = .ok (.iload_n 3, 1) := by decide +kernel
theorem dL_law_828 : decode cL_law 828 = .ok (.iconst 3, 1) := by decide +kernel
theorem dL_law_829 : decode cL_law 829 = .ok (.iadd, 1) := by decide +kernel
theorem dL_law_830 : decode cL_law 830 = .ok (.iaload, 1) := by decide +kernel
theorem dL_law_831 : decode cL_law 831 = .ok (.aload_n 0, 1) := by decide +kernel
theorem dL_law_832 : decode cL_law 832 = .ok (.iload_n 3, 1) := by decide +kernel
theorem dL_law_833 : decode cL_law 833 = .ok (.iconst 4, 1) := by decide +kernel
theorem dL_law_834 : decode cL_law 834 = .ok (.iadd, 1) := by decide +kernel
theorem dL_law_835 : decode cL_law 835 = .ok (.iaload, 1) := by decide +kernel
theorem dL_law_836 : decode cL_law 836 = .ok (.ifCond .eq 7, 3) := by decide +kernel
theorem dL_law_839 : decode cL_law 839 = .ok (.iconst 1, 1) := by decide +kernel
theorem dL_law_840 : decode cL_law 840 = .ok (.goto 4, 3) := by decide +kernel
theorem dL_law_843 : decode cL_law 843 = .ok (.iconst 0, 1) := by decide +kernel
theorem dL_law_844 : decode cL_law 844 = .ok (.invokevirtual 94, 3) := by decide +kernel
theorem dL_law_847 : decode cL_law 847 = .ok (.pop2, 1) := by decide +kernel
theorem dL_law_848 : decode cL_law 848 = .ok (.aload_n 2, 1) := by decide +kernel
theorem dL_law_849 : decode cL_law 849 = .ok (.aload_n 0, 1) := by decide +kernel
theorem dL_law_850 : decode cL_law 850 = .ok (.iload_n 3, 1) := by decide +kernel
theorem dL_law_851 : decode cL_law 851 = .ok (.iconst 1, 1) := by decide +kernel
theorem dL_law_852 : decode cL_law 852 = .ok (.iadd, 1) := by decide +kernel
theorem dL_law_853 : decode cL_law 853 = .ok (.iaload, 1) := by decide +kernel
theorem dL_law_854 : decode cL_law 854 = .ok (.aload_n 0, 1) := by decide +kernel
theorem dL_law_855 : decode cL_law 855 = .ok (.iload_n 3, 1) := by decide +kernel
theorem dL_law_856 : decode cL_law 856 = .ok (.iconst 2, 1) := by decide +kernel
theorem dL_law_857 : decode cL_law 857 = .ok (.iadd, 1) := by decide +kernel
theorem dL_law_858 : decode cL_law 858 = .ok (.iaload, 1) := by decide +kernel
theorem dL_law_859 : decode cL_law 859 = .ok (.aload_n 0, 1) := by decide +kernel
theorem dL_law_860 : decode cL_law 860 = .ok (.iload_n 3, 1) := by decide +kernel
theorem dL_law_861 : decode cL_law 861 = .ok (.iconst 3, 1) := by decide +kernel
theorem dL_law_862 : decode cL_law 862 = .ok (.iadd, 1) := by decide +kernel
theorem dL_law_863 : decode cL_law 863 = .ok (.iaload, 1) := by decide +kernel
theorem dL_law_864 : decode cL_law 864 = .ok (.aload_n 0, 1) := by decide +kernel
theorem dL_law_865 : decode cL_law 865 = .ok (.iload_n 3, 1) := by decide +kernel
theorem dL_law_866 : decode cL_law 866 = .ok (.iconst 4, 1) := by decide +kernel
theorem dL_law_867 : decode cL_law 867 = .ok (.iadd, 1) := by decide +kernel
theorem dL_law_868 : decode cL_law 868 = .ok (.iaload, 1) := by decide +kernel
theorem dL_law_869 : decode cL_law 869 = .ok (.ifCond .eq 7, 3) := by decide +kernel
theorem dL_law_872 : decode cL_law 872 = .ok (.iconst 1, 1) := by decide +kernel
theorem dL_law_873 : decode cL_law 873 = .ok (.goto 4, 3) := by decide +kernel
theorem dL_law_876 : decode cL_law 876 = .ok (.iconst 0, 1) := by decide +kernel
theorem dL_law_877 : decode cL_law 877 = .ok (.invokevirtual 98, 3) := by decide +kernel
theorem dL_law_880 : decode cL_law 880 = .ok (.pop2, 1) := by decide +kernel
theorem dL_law_881 : decode cL_law 881 = .ok (.goto 464, 3) := by decide +kernel
theorem dL_law_884 : decode cL_law 884 = .ok (.aload_n 1, 1) := by decide +kernel
theorem dL_law_885 : decode cL_law 885 = .ok (.aload_n 0, 1) := by decide +kernel
