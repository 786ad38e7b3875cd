set_option maxRecDepth 20000 in
theorem ggL_law_X5_init : GoodIn wsL_law wsX5_init := goodIn_r _ [9, 10, 11, 12, 13, 14, 15, 16, 17, 18, 19, 20, 21, 22, 23, 24, 25, 26, 27, 28, 29, 30, 31, 32, 33, 34, 35, 36, 37, 38, 39, 40, 41, 42, 43, 44, 45, 46, 47, 48, 49, 50, 51, 52, 53, 54, 55, 56, 57, 58, 59, 60, 61, 62, 63, 64, 65, 66, 67, 68, 69, 70, 71, 72, 73, 74, 75, 76, 77, 78, 79, 80, 81, 82, 739, 740, 741, 742, 743, 744, 745, 746, 747, 704, 705, 706, 707, 748, 749, 750, 751, 752, 753, 754, 755, 756, 757, 758, 759, 760, 761, 762, 763, 764, 765, 766, 767, 768, 769, 770, 771, 772, 773, 774, 775, 776, 777] (by decide +kernel) (by decide +kernel)
set_option maxRecDepth 20000 in
theorem gL_law_X5_init : GoodIn wsL_law (wsX5_init) := ggL_law_X5_init
set_option maxRecDepth 20000 in
theorem ggL_law_X6_init : GoodIn wsL_law wsX6_init := goodIn_r _ [85, 86, 11, 12, 35, 87, 88, 89, 41, 90, 91, 92, 93, 94, 95, 96, 97, 98, 99, 100, 101, 102, 103, 104, 105, 106, 708, 709, 710, 711, 712, 713, 714, 715, 716, 717, 718, 719, 720, 721, 722, 723, 724, 725, 726, 727, 728, 729, 730, 731, 732, 733, 734, 735, 736, 737, 738] (by decide +kernel) (by decide +kernel)
set_option maxRecDepth 20000 in
theorem gL_law_X6_init : GoodIn wsL_law (wsX6_init) := ggL_law_X6_init
set_option maxRecDepth 20000 in
theorem ggL_law_X5_name : GoodIn wsL_law wsX5_name := goodIn_r _ [110, 111, 112, 16, 113, 114, 20, 115, 116, 117, 2, 118, 119, 120, 121, 15, 122, 33, 38, 39, 40, 123, 124, 125, 126, 34, 44, 42, 127, 128, 129, 130, 131, 132, 133, 134, 135, 136, 137, 138, 139, 140, 141, 704, 705, 706, 707, 739, 740, 741, 742, 743, 744, 745, 746, 747, 748, 749, 750, 751, 752, 753, 754, 755, 756, 757, 758, 759] (by decide +kernel) (by decide +kernel)
set_option maxRecDepth 20000 in
theorem gL_law_X5_name : GoodIn wsL_law (wsV RL 13 RX5 yX5_name wsX5_name) := goodIn_app (goodIn_of _ (by decide +kernel)) ggL_law_X5_name
set_option maxRecDepth 20000 in
theorem ggL_law_X6_name : GoodIn wsL_law wsX6_name := goodIn_r _ [145, 146, 147, 148, 149, 150, 87, 88, 89, 90, 151, 152, 5, 153, 154, 155, 156, 157, 708, 709, 710, 711, 712, 713, 714, 715, 716, 717, 718, 719, 720, 721, 722, 723, 724, 725, 726, 727, 728, 729, 730, 731, 732, 733, 734, 735, 736, 737, 738] (by decide +kernel) (by decide +kernel)
set_option maxRecDepth 20000 in
theorem gL_law_X6_name : GoodIn wsL_law (wsV RL 17 RX6 yX6_name wsX6_name) := goodIn_app (goodIn_of _ (by decide +kernel)) ggL_law_X6_name
set_option maxRecDepth 20000 in
theorem ggL_law_X5_points : GoodIn wsL_law wsX5_points := goodIn_r _ [161, 16, 162, 704, 705, 706, 707, 739, 740, 741, 742, 743, 744, 745, 746, 747] (by decide +kernel) (by decide +kernel)
set_option maxRecDepth 20000 in
theorem gL_law_X5_points : GoodIn wsL_law (wsV RL 18 RX5 yX5_points wsX5_points) := goodIn_app (goodIn_of _ (by decide +kernel)) ggL_law_X5_points
set_option maxRecDepth 20000 in
theorem ggL_law_X6_points : GoodIn wsL_law wsX6_points := goodIn_r _ [166, 148, 88, 90, 708, 709, 710, 711, 712, 713, 714, 715, 716, 717, 718, 719, 720, 721, 722, 723, 724, 725, 726, 727, 728, 729, 730, 731, 732, 733, 734, 735, 736, 737, 738] (by decide +kernel) (by decide +kernel)
set_option maxRecDepth 20000 in
theorem gL_law_X6_points : GoodIn wsL_law (wsV RL 22 RX6 yX6_points wsX6_points) := goodIn_app (goodIn_of _ (by decide +kernel)) ggL_law_X6_points
set_option maxRecDepth 20000 in
theorem ggL_law_X5_value : GoodIn wsL_law wsX5_value := goodIn_r _ [170, 16, 113, 171, 172, 173, 174, 2, 175, 162, 116, 117, 118, 176, 177, 178, 15, 179, 34, 33, 42, 38, 44, 180, 181, 182, 183, 39, 40, 139, 140, 141, 184, 185, 704, 705, 706, 707, 739, 740, 741, 742, 743, 744, 745, 746, 747] (by decide +kernel) (by decide +kernel)
set_option maxRecDepth 20000 in
theorem gL_law_X5_value : GoodIn wsL_law (wsV RL 25 RX5 yX5_value wsX5_value) := goodIn_app (goodIn_of _ (by decide +kernel)) ggL_law_X5_value
set_option maxRecDepth 20000 in
theorem ggL_law_X6_value : GoodIn wsL_law wsX6_value := goodIn_r _ [189, 148, 91, 190, 191, 192, 5, 193, 194, 164, 165, 166, 88, 90, 151, 152, 153, 195, 196, 197, 198, 199, 200, 201, 202, 89, 203, 204, 205, 206, 708, 709, 710, 711, 712, 713, 714, 715, 716, 717, 718, 719, 720, 721, 722, 723, 724, 725, 726, 727, 728, 729, 730, 731, 732, 733, 734, 735, 736, 737, 738] (by decide +kernel) (by decide +kernel)
set_option maxRecDepth 20000 in
theorem gL_law_X6_value : GoodIn wsL_law (wsV RL 29 RX6 yX6_value wsX6_value) := goodIn_app (goodIn_of _ (by decide +kernel)) ggL_law_X6_value
set_option maxRecDepth 20000 in
theorem ggL_law_X5_number : GoodIn wsL_law wsX5_number := goodIn_r _ [210, 16, 171, 211, 212, 213, 214, 15, 215, 33, 38, 180, 181, 182, 183, 39, 40, 139, 140, 141, 216, 217, 218, 219, 34, 42, 44, 184, 2, 185, 704, 705, 706, 707, 739, 740, 741, 742, 743, 744, 745, 746, 747] (by decide +kernel) (by decide +kernel)
set_option maxRecDepth 20000 in
theorem gL_law_X5_number : GoodIn wsL_law (wsV RL 30 RX5 yX5_number wsX5_number) := goodIn_app (goodIn_of _ (by decide +kernel)) ggL_law_X5_number
set_option maxRecDepth 20000 in
theorem ggL_law_X6_number : GoodIn wsL_law wsX6_number := goodIn_r _ [223, 148, 91, 224, 87, 225, 199, 200, 201, 5, 202, 88, 89, 226, 227, 228, 229, 203, 204, 205, 206, 90, 708, 709, 710, 711, 712, 713, 714, 715, 716, 717, 718, 719, 720, 721, 722, 723, 724, 725, 726, 727, 728, 729, 730, 731, 732, 733, 734, 735, 736, 737, 738] (by decide +kernel) (by decide +kernel)
set_option maxRecDepth 20000 in
theorem gL_law_X6_number : GoodIn wsL_law (wsV RL 34 RX6 yX6_number wsX6_number) := goodIn_app (goodIn_of _ (by decide +kernel)) ggL_law_X6_number
set_option maxRecDepth 20000 in
theorem ggL_law_X5_distance : GoodIn wsL_law wsX5_distance := goodIn_r _ [233, 16, 171, 234, 172, 173, 174, 2, 175, 162, 116, 117, 118, 176, 177, 178, 15, 179, 34, 33, 42, 38, 44, 180, 181, 182, 183, 39, 40, 139, 140, 141, 184, 185, 235, 236, 237, 238, 239, 240, 241, 242, 243, 244, 245, 246, 704, 705, 706, 707, 739, 740, 741, 742, 743, 744, 745, 746, 747] (by decide +kernel) (by decide +kernel)
set_option maxRecDepth 20000 in
theorem gL_law_X5_distance : GoodIn wsL_law (wsV RL 35 RX5 yX5_distance wsX5_distance) := goodIn_app (goodIn_of _ (by decide +kernel)) ggL_law_X5_distance
set_option maxRecDepth 20000 in
theorem ggL_law_X6_distance : GoodIn wsL_law wsX6_distance := goodIn_r _ [250, 190, 191, 192, 5, 193, 194, 164, 165, 166, 148, 88, 90, 151, 152, 153, 251, 252, 253, 254, 91, 87, 195, 196, 197, 198, 199, 200, 201, 202, 89, 203, 204, 205, 206, 708, 709, 710, 711, 712, 713, 714, 715, 716, 717, 718, 719, 720, 721, 722, 723, 724, 725, 726, 727, 728, 729, 730, 731, 732, 733, 734, 735, 736, 737, 738] (by decide +kernel) (by decide +kernel)
set_option maxRecDepth 20000 in
theorem gL_law_X6_distance : GoodIn wsL_law (wsV RL 39 RX6 yX6_distance wsX6_distance) := goodIn_app (goodIn_of _ (by decide +kernel)) ggL_law_X6_distance
set_option maxRecDepth 20000 in
theorem ggL_law_X5_trial : GoodIn wsL_law wsX5_trial := goodIn_r _ [258, 259, 20, 115, 116, 117, 2, 118, 260, 261, 262, 263, 16, 162, 171, 264, 265, 266, 267, 268, 269, 270, 271, 272, 273, 274, 275, 276, 277, 278, 279, 280, 281, 282, 283, 284, 285, 286, 287, 15, 288, 33, 38, 180, 181, 182, 183, 39, 40, 139, 140, 141, 289, 290, 216, 217, 218, 219, 34, 42, 44, 184, 185, 291, 292, 293, 19, 294, 49, 51, 52, 57, 58, 295, 177, 178, 179, 704, 705, 706, 707, 748, 749, 750, 751, 752, 753, 754, 755, 756, 757, 758, 759, 739, 740, 741, 742, 743, 744, 745, 746, 747] (by decide +kernel) (by decide +kernel)
set_option maxRecDepth 20000 in
theorem gL_law_X5_trial : GoodIn wsL_law (wsV RL 40 RX5 yX5_trial wsX5_trial) := goodIn_app (goodIn_of _ (by decide +kernel)) ggL_law_X5_trial
set_option maxRecDepth 20000 in
theorem ggL_law_X6_trial : GoodIn wsL_law wsX6_trial := goodIn_r _ [299, 300, 150, 148, 91, 87, 151, 152, 5, 153, 194, 164, 165, 166, 88, 90, 301, 302, 303, 304, 305, 306, 307, 308, 309, 310, 311, 312, 313, 314, 92, 93, 94, 95, 199, 200, 201, 202, 89, 226, 227, 228, 229, 203, 204, 205, 206, 708, 709, 710, 711, 712, 713, 714, 715, 716, 717, 718, 719, 720, 721, 722, 723, 724, 725, 726, 727, 728, 729, 730, 731, 732, 733, 734, 735, 736, 737, 738] (by decide +kernel) (by decide +kernel)
set_option maxRecDepth 20000 in
theorem gL_law_X6_trial : GoodIn wsL_law (wsV RL 44 RX6 yX6_trial wsX6_trial) := goodIn_app (goodIn_of _ (by decide +kernel)) ggL_law_X6_trial
set_option maxRecDepth 20000 in
theorem ggL_law_X5_guess : GoodIn wsL_law wsX5_guess := goodIn_r _ [318, 319, 320, 20, 115, 116, 117, 2, 118, 321, 322, 323, 19, 324, 57, 325, 50, 326, 280, 269, 281, 282, 283, 284, 327, 268, 270, 271, 272, 273, 274, 275, 276, 277, 278, 279, 328, 329, 330, 331, 332, 49, 52, 58, 53, 60, 295, 177, 178, 15, 179, 34, 33, 42, 38, 44, 180, 181, 182, 183, 39, 40, 139, 140, 141, 184, 185, 333, 236, 237, 238, 239, 240, 241, 242, 243, 244, 245, 246, 334, 335, 336, 337, 59, 338, 339, 340, 291, 292, 293, 294, 51, 704, 705, 706, 707, 748, 749, 750, 751, 752, 753, 754, 755, 756, 757, 758, 759, 739, 740, 741, 742, 743, 744, 745, 746, 747] (by decide +kernel) (by decide +kernel)
set_option maxRecDepth 20000 in
theorem gL_law_X5_guess : GoodIn wsL_law (wsV RL 45 RX5 yX5_guess wsX5_guess) := goodIn_app (goodIn_of _ (by decide +kernel)) ggL_law_X5_guess
set_option maxRecDepth 20000 in
theorem ggL_law_X6_guess : GoodIn wsL_law wsX6_guess := goodIn_r _ [344, 345, 346, 150, 347, 151, 152, 5, 153, 305, 306, 307, 308, 309, 310, 194, 164, 165, 166, 148, 88, 90, 301, 302, 303, 304, 348, 349, 350, 351, 98, 99, 93, 92, 94, 251, 252, 253, 254, 91, 87, 195, 196, 197, 198, 199, 200, 201, 202, 89, 203, 204, 205, 206, 311, 312, 313, 314, 95, 708, 709, 710, 711, 712, 713, 714, 715, 716, 717, 718, 719, 720, 721, 722, 723, 724, 725, 726, 727, 728, 729, 730, 731, 732, 733, 734, 735, 736, 737, 738] (by decide +kernel) (by decide +kernel)
set_option maxRecDepth 20000 in
theorem gL_law_X6_guess : GoodIn wsL_law (wsV RL 48 RX6 yX6_guess wsX6_guess) := goodIn_app (goodIn_of _ (by decide +kernel)) ggL_law_X6_guess
set_option maxRecDepth 20000 in
theorem ggL_law_X5_forecast : GoodIn wsL_law wsX5_forecast := goodIn_r _ [355, 320, 356, 20, 357, 358, 359, 339, 245, 340, 360, 361, 362, 172, 173, 174, 2, 175, 16, 162, 116, 117, 118, 363, 329, 330, 19, 331, 57, 332, 49, 52, 58, 53, 60, 295, 177, 178, 15, 179, 34, 33, 42, 38, 44, 180, 181, 182, 183, 39, 40, 139, 140, 141, 184, 185, 333, 236, 237, 238, 239, 240, 241, 242, 243, 244, 246, 334, 335, 336, 337, 59, 338, 364, 365, 366, 264, 265, 266, 367, 704, 705, 706, 707, 748, 749, 750, 751, 752, 753, 754, 755, 756, 757, 758, 759, 739, 740, 741, 742, 743, 744, 745, 746, 747] (by decide +kernel) (by decide +kernel)
set_option maxRecDepth 20000 in
theorem gL_law_X5_forecast : GoodIn wsL_law (wsV RL 49 RX5 yX5_forecast wsX5_forecast) := goodIn_app (goodIn_of _ (by decide +kernel)) ggL_law_X5_forecast
set_option maxRecDepth 20000 in
theorem ggL_law_X6_forecast : GoodIn wsL_law wsX6_forecast := goodIn_r _ [371, 346, 372, 347, 373, 190, 191, 192, 5, 193, 194, 164, 165, 166, 148, 88, 90, 151, 152, 153, 348, 349, 350, 351, 150, 98, 99, 93, 92, 94, 251, 252, 253, 254, 91, 87, 195, 196, 197, 198, 199, 200, 201, 202, 89, 203, 204, 205, 206, 374, 375, 376, 708, 709, 710, 711, 712, 713, 714, 715, 716, 717, 718, 719, 720, 721, 722, 723, 724, 725, 726, 727, 728, 729, 730, 731, 732, 733, 734, 735, 736, 737, 738] (by decide +kernel) (by decide +kernel)
set_option maxRecDepth 20000 in
theorem gL_law_X6_forecast : GoodIn wsL_law (wsV RL 53 RX6 yX6_forecast wsX6_forecast) := goodIn_app (goodIn_of _ (by decide +kernel)) ggL_law_X6_forecast
set_option maxRecDepth 20000 in
theorem ggL_law_X5_score : GoodIn wsL_law wsX5_score := goodIn_r _ [380, 20, 381, 382, 383, 384, 2, 385, 115, 116, 117, 118, 386, 387, 388, 389, 390, 391, 392, 393, 19, 394, 52, 53, 50, 704, 705, 706, 707, 748, 749, 750, 751, 752, 753, 754, 755, 756, 757, 758, 759] (by decide +kernel) (by decide +kernel)
set_option maxRecDepth 20000 in
theorem gL_law_X5_score : GoodIn wsL_law (wsV RL 54 RX5 yX5_score wsX5_score) := goodIn_app (goodIn_of _ (by decide +kernel)) ggL_law_X5_score
set_option maxRecDepth 20000 in
theorem ggL_law_X6_score : GoodIn wsL_law wsX6_score := goodIn_r _ [398, 93, 94, 150, 399, 400, 401, 5, 402, 151, 152, 153, 403, 404, 405, 406, 407, 708, 709, 710, 711, 712, 713, 714, 715, 716, 717, 718, 719, 720, 721, 722, 723, 724, 725, 726, 727, 728, 729, 730, 731, 732, 733, 734, 735, 736, 737, 738] (by decide +kernel) (by decide +kernel)
set_option maxRecDepth 20000 in
theorem gL_law_X6_score : GoodIn wsL_law (wsV RL 58 RX6 yX6_score wsX6_score) := goodIn_app (goodIn_of _ (by decide +kernel)) ggL_law_X6_score
set_option maxRecDepth 20000 in
theorem ggL_law_X5_report : GoodIn wsL_law wsX5_report := goodIn_r _ [411, 412, 20, 381, 413, 382, 383, 384, 2, 385, 115, 116, 117, 118, 386, 387, 388, 389, 390, 414, 415, 416, 19, 417, 54, 56, 52, 418, 419, 420, 421, 49, 61, 422, 423, 424, 425, 704, 705, 706, 707, 748, 749, 750, 751, 752, 753, 754, 755, 756, 757, 758, 759] (by decide +kernel) (by decide +kernel)
set_option maxRecDepth 20000 in
theorem gL_law_X5_report : GoodIn wsL_law (wsV RL 59 RX5 yX5_report wsX5_report) := goodIn_app (goodIn_of _ (by decide +kernel)) ggL_law_X5_report
set_option maxRecDepth 20000 in
theorem ggL_law_X6_report : GoodIn wsL_law wsX6_report := goodIn_r _ [429, 430, 93, 95, 96, 399, 400, 401, 5, 402, 150, 151, 152, 153, 403, 404, 405, 406, 407, 431, 432, 433, 434, 708, 709, 710, 711, 712, 713, 714, 715, 716, 717, 718, 719, 720, 721, 722, 723, 724, 725, 726, 727, 728, 729, 730, 731, 732, 733, 734, 735, 736, 737, 738] (by decide +kernel) (by decide +kernel)
set_option maxRecDepth 20000 in
theorem gL_law_X6_report : GoodIn wsL_law (wsV RL 62 RX6 yX6_report wsX6_report) := goodIn_app (goodIn_of _ (by decide +kernel)) ggL_law_X6_report
set_option maxRecDepth 20000 in
theorem ggL_law_X5_told : GoodIn wsL_law wsX5_told := goodIn_r _ [438, 20, 381, 439, 413, 24, 440, 382, 383, 384, 2, 385, 115, 116, 117, 118, 441, 442, 443, 23, 444, 69, 704, 705, 706, 707, 748, 749, 750, 751, 752, 753, 754, 755, 756, 757, 758, 759, 760, 761, 762, 763, 764, 765, 766, 767, 768, 769] (by decide +kernel) (by decide +kernel)
set_option maxRecDepth 20000 in
theorem gL_law_X5_told : GoodIn wsL_law (wsV RL 63 RX5 yX5_told wsX5_told) := goodIn_app (goodIn_of _ (by decide +kernel)) ggL_law_X5_told
set_option maxRecDepth 20000 in
theorem ggL_law_X6_told : GoodIn wsL_law wsX6_told := goodIn_r _ [448, 93, 94, 95, 100, 101, 103, 399, 400, 401, 5, 402, 150, 151, 152, 153, 708, 709, 710, 711, 712, 713, 714, 715, 716, 717, 718, 719, 720, 721, 722, 723, 724, 725, 726, 727, 728, 729, 730, 731, 732, 733, 734, 735, 736, 737, 738] (by decide +kernel) (by decide +kernel)
set_option maxRecDepth 20000 in
theorem gL_law_X6_told : GoodIn wsL_law (wsV RL 66 RX6 yX6_told wsX6_told) := goodIn_app (goodIn_of _ (by decide +kernel)) ggL_law_X6_told
set_option maxRecDepth 20000 in
theorem ggL_law_X5_point : GoodIn wsL_law wsX5_point := goodIn_r _ [452, 20, 453, 112, 382, 383, 384, 2, 385, 115, 116, 117, 118, 704, 705, 706, 707, 748, 749, 750, 751, 752, 753, 754, 755, 756, 757, 758, 759] (by decide +kernel) (by decide +kernel)
set_option maxRecDepth 20000 in
theorem gL_law_X5_point : GoodIn wsL_law (wsV RL 67 RX5 yX5_point wsX5_point) := goodIn_app (goodIn_of _ (by decide +kernel)) ggL_law_X5_point
set_option maxRecDepth 20000 in
theorem ggL_law_X6_point : GoodIn wsL_law wsX6_point := goodIn_r _ [457, 147, 92, 399, 400, 401, 5, 402, 150, 151, 152, 153, 708, 709, 710, 711, 712, 713, 714, 715, 716, 717, 718, 719, 720, 721, 722, 723, 724, 725, 726, 727, 728, 729, 730, 731, 732, 733, 734, 735, 736, 737, 738] (by decide +kernel) (by decide +kernel)
set_option maxRecDepth 20000 in
theorem gL_law_X6_point : GoodIn wsL_law (wsV RL 71 RX6 yX6_point wsX6_point) := goodIn_app (goodIn_of _ (by decide +kernel)) ggL_law_X6_point
set_option maxRecDepth 20000 in
theorem ggL_law_X5_reported : GoodIn wsL_law wsX5_reported := goodIn_r _ [461, 20, 413, 462, 463, 382, 383, 384, 2, 385, 115, 116, 117, 118, 704, 705, 706, 707, 748, 749, 750, 751, 752, 753, 754, 755, 756, 757, 758, 759] (by decide +kernel) (by decide +kernel)
set_option maxRecDepth 20000 in
theorem gL_law_X5_reported : GoodIn wsL_law (wsV RL 72 RX5 yX5_reported wsX5_reported) := goodIn_app (goodIn_of _ (by decide +kernel)) ggL_law_X5_reported
set_option maxRecDepth 20000 in
theorem ggL_law_X6_reported : GoodIn wsL_law wsX6_reported := goodIn_r _ [467, 95, 468, 96, 399, 400, 401, 5, 402, 150, 151, 152, 153, 708, 709, 710, 711, 712, 713, 714, 715, 716, 717, 718, 719, 720, 721, 722, 723, 724, 725, 726, 727, 728, 729, 730, 731, 732, 733, 734, 735, 736, 737, 738] (by decide +kernel) (by decide +kernel)
set_option maxRecDepth 20000 in
theorem gL_law_X6_reported : GoodIn wsL_law (wsV RL 75 RX6 yX6_reported wsX6_reported) := goodIn_app (goodIn_of _ (by decide +kernel)) ggL_law_X6_reported
set_option maxRecDepth 20000 in
theorem ggL_law_X5_best : GoodIn wsL_law wsX5_best := goodIn_r _ [472, 20, 473, 474, 475, 19, 476, 49, 52, 53, 704, 705, 706, 707, 748, 749, 750, 751, 752, 753, 754, 755, 756, 757, 758, 759] (by decide +kernel) (by decide +kernel)
set_option maxRecDepth 20000 in
theorem gL_law_X5_best : GoodIn wsL_law (wsV RL 76 RX5 yX5_best wsX5_best) := goodIn_app (goodIn_of _ (by decide +kernel)) ggL_law_X5_best
set_option maxRecDepth 20000 in
theorem ggL_law_X6_best : GoodIn wsL_law wsX6_best := goodIn_r _ [480, 150, 93, 94, 708, 709, 710, 711, 712, 713, 714, 715, 716, 717, 718, 719, 720, 721, 722, 723, 724, 725, 726, 727, 728, 729, 730, 731, 732, 733, 734, 735, 736, 737, 738] (by decide +kernel) (by decide +kernel)
set_option maxRecDepth 20000 in
theorem gL_law_X6_best : GoodIn wsL_law (wsV RL 80 RX6 yX6_best wsX6_best) := goodIn_app (goodIn_of _ (by decide +kernel)) ggL_law_X6_best
set_option maxRecDepth 20000 in
theorem ggL_law_X5_bracket : GoodIn wsL_law wsX5_bracket := goodIn_r _ [484, 412, 20, 115, 390, 259, 320, 24, 116, 117, 2, 118, 485, 486, 487, 23, 488, 66, 489, 67, 490, 491, 492, 68, 69, 493, 494, 704, 705, 706, 707, 748, 749, 750, 751, 752, 753, 754, 755, 756, 757, 758, 759, 760, 761, 762, 763, 764, 765, 766, 767, 768, 769] (by decide +kernel) (by decide +kernel)
set_option maxRecDepth 20000 in
theorem gL_law_X5_bracket : GoodIn wsL_law (wsV RL 81 RX5 yX5_bracket wsX5_bracket) := goodIn_app (goodIn_of _ (by decide +kernel)) ggL_law_X5_bracket
set_option maxRecDepth 20000 in
theorem ggL_law_X6_bracket : GoodIn wsL_law wsX6_bracket := goodIn_r _ [498, 430, 150, 407, 300, 346, 499, 500, 501, 502, 503, 504, 100, 151, 152, 5, 153, 505, 506, 507, 508, 101, 102, 103, 708, 709, 710, 711, 712, 713, 714, 715, 716, 717, 718, 719, 720, 721, 722, 723, 724, 725, 726, 727, 728, 729, 730, 731, 732, 733, 734, 735, 736, 737, 738] (by decide +kernel) (by decide +kernel)
set_option maxRecDepth 20000 in
theorem gL_law_X6_bracket : GoodIn wsL_law (wsV RL 85 RX6 yX6_bracket wsX6_bracket) := goodIn_app (goodIn_of _ (by decide +kernel)) ggL_law_X6_bracket
set_option maxRecDepth 20000 in
theorem ggL_law_X5_result : GoodIn wsL_law wsX5_result := goodIn_r _ [512, 24, 382, 383, 384, 2, 385, 20, 115, 116, 117, 118, 386, 387, 388, 389, 390, 513, 514, 515, 23, 516, 69, 517, 518, 519, 520, 68, 67, 491, 494, 704, 705, 706, 707, 748, 749, 750, 751, 752, 753, 754, 755, 756, 757, 758, 759, 760, 761, 762, 763, 764, 765, 766, 767, 768, 769] (by decide +kernel) (by decide +kernel)
set_option maxRecDepth 20000 in
theorem gL_law_X5_result : GoodIn wsL_law (wsV RL 86 RX5 yX5_result wsX5_result) := goodIn_app (goodIn_of _ (by decide +kernel)) ggL_law_X5_result
set_option maxRecDepth 20000 in
theorem ggL_law_X6_result : GoodIn wsL_law wsX6_result := goodIn_r _ [524, 499, 100, 101, 102, 103, 504, 500, 399, 400, 401, 5, 402, 150, 151, 152, 153, 403, 404, 405, 406, 407, 525, 526, 527, 528, 708, 709, 710, 711, 712, 713, 714, 715, 716, 717, 718, 719, 720, 721, 722, 723, 724, 725, 726, 727, 728, 729, 730, 731, 732, 733, 734, 735, 736, 737, 738] (by decide +kernel) (by decide +kernel)
set_option maxRecDepth 20000 in
theorem gL_law_X6_result : GoodIn wsL_law (wsV RL 89 RX6 yX6_result wsX6_result) := goodIn_app (goodIn_of _ (by decide +kernel)) ggL_law_X6_result
set_option maxRecDepth 20000 in
theorem ggL_law_X5_halve : GoodIn wsL_law wsX5_halve := goodIn_r _ [532, 24, 533, 534, 535, 23, 536, 66, 489, 494, 537, 538, 539, 540, 493, 492, 541, 542, 245, 543, 490, 491, 544, 545, 546, 547, 184, 2, 185, 548, 549, 550, 551, 69, 68, 552, 553, 554, 555, 704, 705, 706, 707, 760, 761, 762, 763, 764, 765, 766, 767, 768, 769] (by decide +kernel) (by decide +kernel)
set_option maxRecDepth 20000 in
theorem gL_law_X5_halve : GoodIn wsL_law (wsV RL 90 RX5 yX5_halve wsX5_halve) := goodIn_app (goodIn_of _ (by decide +kernel)) ggL_law_X5_halve
set_option maxRecDepth 20000 in
theorem ggL_law_X6_halve : GoodIn wsL_law wsX6_halve := goodIn_r _ [559, 499, 503, 501, 98, 100, 101, 103, 500, 560, 561, 502, 525, 526, 527, 5, 528, 102, 562, 563, 564, 565, 505, 506, 507, 508, 708, 709, 710, 711, 712, 713, 714, 715, 716, 717, 718, 719, 720, 721, 722, 723, 724, 725, 726, 727, 728, 729, 730, 731, 732, 733, 734, 735, 736, 737, 738] (by decide +kernel) (by decide +kernel)
set_option maxRecDepth 20000 in
theorem gL_law_X6_halve : GoodIn wsL_law (wsV RL 93 RX6 yX6_halve wsX6_halve) := goodIn_app (goodIn_of _ (by decide +kernel)) ggL_law_X6_halve
set_option maxRecDepth 20000 in
theorem ggL_law_X5_round : GoodIn wsL_law wsX5_round := goodIn_r _ [569, 570, 24, 571, 116, 117, 2, 118, 572, 573, 574, 23, 575, 493, 490, 491, 489, 704, 705, 706, 707, 760, 761, 762, 763, 764, 765, 766, 767, 768, 769] (by decide +kernel) (by decide +kernel)
set_option maxRecDepth 20000 in
theorem gL_law_X5_round : GoodIn wsL_law (wsV RL 94 RX5 yX5_round wsX5_round) := goodIn_app (goodIn_of _ (by decide +kernel)) ggL_law_X5_round
set_option maxRecDepth 20000 in
theorem ggL_law_X6_round : GoodIn wsL_law wsX6_round := goodIn_r _ [579, 580, 499, 502, 500, 503, 151, 152, 5, 153, 562, 563, 564, 565, 100, 708, 709, 710, 711, 712, 713, 714, 715, 716, 717, 718, 719, 720, 721, 722, 723, 724, 725, 726, 727, 728, 729, 730, 731, 732, 733, 734, 735, 736, 737, 738] (by decide +kernel) (by decide +kernel)
set_option maxRecDepth 20000 in
theorem gL_law_X6_round : GoodIn wsL_law (wsV RL 98 RX6 yX6_round wsX6_round) := goodIn_app (goodIn_of _ (by decide +kernel)) ggL_law_X6_round
set_option maxRecDepth 20000 in
theorem ggL_law_X5_cost : GoodIn wsL_law wsX5_cost := goodIn_r _ [584, 24, 585, 704, 705, 706, 707, 760, 761, 762, 763, 764, 765, 766, 767, 768, 769] (by decide +kernel) (by decide +kernel)
set_option maxRecDepth 20000 in
theorem gL_law_X5_cost : GoodIn wsL_law (wsV RL 99 RX5 yX5_cost wsX5_cost) := goodIn_app (goodIn_of _ (by decide +kernel)) ggL_law_X5_cost
set_option maxRecDepth 20000 in
theorem ggL_law_X6_cost : GoodIn wsL_law wsX6_cost := goodIn_r _ [589, 504, 708, 709, 710, 711, 712, 713, 714, 715, 716, 717, 718, 719, 720, 721, 722, 723, 724, 725, 726, 727, 728, 729, 730, 731, 732, 733, 734, 735, 736, 737, 738] (by decide +kernel) (by decide +kernel)
set_option maxRecDepth 20000 in
theorem gL_law_X6_cost : GoodIn wsL_law (wsV RL 102 RX6 yX6_cost wsX6_cost) := goodIn_app (goodIn_of _ (by decide +kernel)) ggL_law_X6_cost
set_option maxRecDepth 20000 in
theorem ggL_law_X5_plan : GoodIn wsL_law wsX5_plan := goodIn_r _ [593, 390, 259, 320, 112, 116, 117, 2, 118, 594, 595, 596, 597, 598, 599, 600, 601, 602, 367, 184, 185] (by decide +kernel) (by decide +kernel)
set_option maxRecDepth 20000 in
theorem gL_law_X5_plan : GoodIn wsL_law (wsV RL 103 RX5 yX5_plan wsX5_plan) := goodIn_app (goodIn_of _ (by decide +kernel)) ggL_law_X5_plan
set_option maxRecDepth 20000 in
theorem ggL_law_X6_plan : GoodIn wsL_law wsX6_plan := goodIn_r _ [606, 407, 300, 346, 147, 151, 152, 5, 153] (by decide +kernel) (by decide +kernel)
set_option maxRecDepth 20000 in
theorem gL_law_X6_plan : GoodIn wsL_law (wsV RL 106 RX6 yX6_plan wsX6_plan) := goodIn_app (goodIn_of _ (by decide +kernel)) ggL_law_X6_plan
set_option maxRecDepth 20000 in
theorem ggL_law_X5_folds : GoodIn wsL_law wsX5_folds := goodIn_r _ [610, 611, 259, 612, 28, 116, 117, 2, 118, 613, 614, 615, 27, 616, 74, 75, 76, 79, 81, 82, 77, 78, 617, 618, 129, 619, 620, 280, 269, 281, 282, 283, 284, 621, 622, 623, 624, 625, 626, 627, 628, 265, 266, 184, 185, 704, 705, 706, 707, 770, 771, 772, 773, 774, 775, 776, 777] (by decide +kernel) (by decide +kernel)
set_option maxRecDepth 20000 in
theorem gL_law_X5_folds : GoodIn wsL_law (wsV RL 107 RX5 yX5_folds wsX5_folds) := goodIn_app (goodIn_of _ (by decide +kernel)) ggL_law_X5_folds
set_option maxRecDepth 20000 in
theorem ggL_law_X6_folds : GoodIn wsL_law wsX6_folds := goodIn_r _ [632, 633, 300, 634, 635, 636, 637, 104, 106, 105, 151, 152, 5, 153, 305, 306, 307, 308, 309, 310, 708, 709, 710, 711, 712, 713, 714, 715, 716, 717, 718, 719, 720, 721, 722, 723, 724, 725, 726, 727, 728, 729, 730, 731, 732, 733, 734, 735, 736, 737, 738] (by decide +kernel) (by decide +kernel)
set_option maxRecDepth 20000 in
theorem gL_law_X6_folds : GoodIn wsL_law (wsV RL 110 RX6 yX6_folds wsX6_folds) := goodIn_app (goodIn_of _ (by decide +kernel)) ggL_law_X6_folds
set_option maxRecDepth 20000 in
theorem ggL_law_X5_fold : GoodIn wsL_law wsX5_fold := goodIn_r _ [641, 28, 642, 643, 644, 645, 646, 2, 647, 648, 116, 117, 118, 704, 705, 706, 707, 770, 771, 772, 773, 774, 775, 776, 777] (by decide +kernel) (by decide +kernel)
set_option maxRecDepth 20000 in
theorem gL_law_X5_fold : GoodIn wsL_law (wsV RL 111 RX5 yX5_fold wsX5_fold) := goodIn_app (goodIn_of _ (by decide +kernel)) ggL_law_X5_fold
set_option maxRecDepth 20000 in
theorem ggL_law_X6_fold : GoodIn wsL_law wsX6_fold := goodIn_r _ [652, 635, 151, 152, 5, 153, 653, 654, 655, 656, 104, 636, 657, 658, 659, 660, 637, 708, 709, 710, 711, 712, 713, 714, 715, 716, 717, 718, 719, 720, 721, 722, 723, 724, 725, 726, 727, 728, 729, 730, 731, 732, 733, 734, 735, 736, 737, 738] (by decide +kernel) (by decide +kernel)
set_option maxRecDepth 20000 in
theorem gL_law_X6_fold : GoodIn wsL_law (wsV RL 114 RX6 yX6_fold wsX6_fold) := goodIn_app (goodIn_of _ (by decide +kernel)) ggL_law_X6_fold
set_option maxRecDepth 20000 in
theorem ggL_law_X5_use : GoodIn wsL_law wsX5_use := goodIn_r _ [664, 112, 28, 665, 666, 667, 668, 669, 2, 670, 671, 116, 117, 118, 672, 673, 674, 27, 675, 79, 74, 77, 676, 677, 678, 679, 81, 78, 704, 705, 706, 707, 770, 771, 772, 773, 774, 775, 776, 777] (by decide +kernel) (by decide +kernel)
set_option maxRecDepth 20000 in
theorem gL_law_X5_use : GoodIn wsL_law (wsV RL 115 RX5 yX5_use wsX5_use) := goodIn_app (goodIn_of _ (by decide +kernel)) ggL_law_X5_use
set_option maxRecDepth 20000 in
theorem ggL_law_X6_use : GoodIn wsL_law wsX6_use := goodIn_r _ [683, 635, 636, 147, 637, 105, 106, 151, 152, 5, 153, 653, 654, 655, 656, 104, 657, 658, 659, 660, 708, 709, 710, 711, 712, 713, 714, 715, 716, 717, 718, 719, 720, 721, 722, 723, 724, 725, 726, 727, 728, 729, 730, 731, 732, 733, 734, 735, 736, 737, 738] (by decide +kernel) (by decide +kernel)
set_option maxRecDepth 20000 in
theorem gL_law_X6_use : GoodIn wsL_law (wsV RL 118 RX6 yX6_use wsX6_use) := goodIn_app (goodIn_of _ (by decide +kernel)) ggL_law_X6_use
set_option maxRecDepth 20000 in
theorem ggL_law_X5_used : GoodIn wsL_law wsX5_used := goodIn_r _ [687, 28, 644, 645, 646, 2, 647, 648, 116, 117, 118, 667, 668, 669, 670, 671, 688, 689, 690, 27, 691, 77, 79, 76, 78, 81, 692, 693, 694, 695, 696, 697, 698, 699, 704, 705, 706, 707, 770, 771, 772, 773, 774, 775, 776, 777] (by decide +kernel) (by decide +kernel)
set_option maxRecDepth 20000 in
theorem gL_law_X5_used : GoodIn wsL_law (wsV RL 119 RX5 yX5_used wsX5_used) := goodIn_app (goodIn_of _ (by decide +kernel)) ggL_law_X5_used
set_option maxRecDepth 20000 in
theorem ggL_law_X6_used : GoodIn wsL_law wsX6_used := goodIn_r _ [703, 635, 636, 300, 106, 151, 152, 5, 153, 708, 709, 710, 711, 712, 713, 714, 715, 716, 717, 718, 719, 720, 721, 722, 723, 724, 725, 726, 727, 728, 729, 730, 731, 732, 733, 734, 735, 736, 737, 738] (by decide +kernel) (by decide +kernel)
set_option maxRecDepth 20000 in
theorem gL_law_X6_used : GoodIn wsL_law (wsV RL 122 RX6 yX6_used wsX6_used) := goodIn_app (goodIn_of _ (by decide +kernel)) ggL_law_X6_used
