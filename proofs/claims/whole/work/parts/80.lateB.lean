set_option maxRecDepth 20000 in
theorem ggX7_solve_X5_find : GoodIn wsX7_solve wsX5_find := goodIn_r _ [13, 14, 15, 16, 12, 17, 18, 19, 20, 21, 22, 23, 24, 25, 26, 27, 28, 29, 30, 31, 32, 33, 34, 35, 36, 37, 38, 39, 40, 41, 42, 43, 44, 45, 46, 47, 48, 49, 50, 51, 52, 53, 54, 55, 56, 57, 58, 59, 60, 61, 62, 63, 64, 217, 218, 219, 220, 221, 222, 223, 224, 225, 226, 227, 228, 229, 230, 231] (by decide +kernel) (by decide +kernel)
set_option maxRecDepth 20000 in
theorem gX7_solve_X5_find : GoodIn wsX7_solve (wsV RX7 158 RX5 yX5_find wsX5_find) := goodIn_app (goodIn_of _ (by decide +kernel)) ggX7_solve_X5_find
set_option maxRecDepth 20000 in
theorem ggX7_solve_X1_derive : GoodIn wsX7_solve wsX1_derive := goodIn_r _ [69, 70, 71, 72, 73, 74, 75, 76, 57, 77, 78, 79, 80, 81, 82, 83, 84, 85, 86, 87, 88, 89, 90, 91, 92, 93, 94, 95, 68, 96, 97, 98, 99, 100, 101, 102, 103, 104, 105, 106, 30, 107, 32, 108, 28, 29, 31, 109, 110, 111, 112, 113, 114, 115, 116, 117, 118, 119, 120, 121, 122, 123, 124, 125, 126, 127, 128, 129, 130, 131, 132, 133, 134, 135, 136, 137, 138, 139, 140, 141, 142, 143, 144, 145, 146, 147, 148, 149, 150, 151, 152, 153, 154, 155, 156, 157, 158, 159, 160, 161, 162, 163, 164, 165, 166, 167, 168, 169, 170, 171, 172, 173, 174, 175, 212, 213, 214, 215, 216, 232, 233, 234, 235, 236, 237, 238, 239, 240, 241, 242, 243, 244, 245, 246, 247, 248, 249, 250, 251, 252, 253, 217, 218, 219, 220, 221, 222, 223, 224, 225, 226, 227, 228, 229, 230, 231, 254, 255] (by decide +kernel) (by decide +kernel)
set_option maxRecDepth 20000 in
theorem gX7_solve_X1_derive : GoodIn wsX7_solve (wsV RX7 162 RX1 yX1_derive wsX1_derive) := goodIn_app (goodIn_of _ (by decide +kernel)) ggX7_solve_X1_derive
set_option maxRecDepth 20000 in
theorem ggX7_solve_X6_lay : GoodIn wsX7_solve wsX6_lay := goodIn_r _ [180, 181, 182, 183, 184, 185, 186, 76, 57, 77, 78, 79, 80, 81, 82, 187, 188, 189, 190, 191, 192, 193, 194, 195, 179, 196, 197, 198, 199, 200, 201, 202, 203, 256, 257, 258, 259, 260, 261, 241, 242, 243, 244, 245, 246, 247, 248, 249] (by decide +kernel) (by decide +kernel)
set_option maxRecDepth 20000 in
theorem gX7_solve_X6_lay : GoodIn wsX7_solve (wsV RX7 168 RX6 yX6_lay wsX6_lay) := goodIn_app (goodIn_of _ (by decide +kernel)) ggX7_solve_X6_lay
set_option maxRecDepth 20000 in
theorem ggX7_put_X7_requireTrip : GoodIn wsX7_put wsX7_requireTrip := goodIn_ca (goodIn_r _ [10, 11, 12, 13, 35, 36, 37, 38, 39, 40, 41, 42] (by decide +kernel) (by decide +kernel)) (goodIn_sub (fun _ h => List.mem_cons_of_mem _ (List.mem_append_right _ h)) (by decide +kernel))
set_option maxRecDepth 20000 in
theorem gX7_put_X7_requireTrip : GoodIn wsX7_put (wsV RX7 184 RX7 yX7_requireTrip wsX7_requireTrip) := goodIn_app (goodIn_of _ (by decide +kernel)) ggX7_put_X7_requireTrip
set_option maxRecDepth 20000 in
theorem ggX7_put_X7_isIndex : GoodIn wsX7_put wsX7_isIndex := goodIn_r _ [16] (by decide +kernel) (by decide +kernel)
set_option maxRecDepth 20000 in
theorem gX7_put_X7_isIndex : GoodIn wsX7_put (va_wsS RX7 93 yX7_isIndex wsX7_isIndex) := goodIn_app (goodIn_of _ (by decide +kernel)) ggX7_put_X7_isIndex
set_option maxRecDepth 20000 in
theorem ggX7_put_X6_replace : GoodIn wsX7_put wsX6_replace := goodIn_r _ [21, 22, 23, 24, 25, 20, 26, 27, 28, 29, 30, 31, 32, 33, 34, 52, 53, 54, 55, 56, 57, 43, 44, 45, 46, 47, 48, 49, 50, 51] (by decide +kernel) (by decide +kernel)
set_option maxRecDepth 20000 in
theorem gX7_put_X6_replace : GoodIn wsX7_put (wsV RX7 192 RX6 yX6_replace wsX6_replace) := goodIn_app (goodIn_of _ (by decide +kernel)) ggX7_put_X6_replace
set_option maxRecDepth 20000 in
theorem ggX7_turn_X7_requireTrip : GoodIn wsX7_turn wsX7_requireTrip := goodIn_ca (goodIn_r _ [10, 11, 12, 13, 38, 39, 40, 41, 42, 43, 44, 45] (by decide +kernel) (by decide +kernel)) (goodIn_sub (fun _ h => List.mem_cons_of_mem _ (List.mem_append_right _ h)) (by decide +kernel))
set_option maxRecDepth 20000 in
theorem gX7_turn_X7_requireTrip : GoodIn wsX7_turn (wsV RX7 184 RX7 yX7_requireTrip wsX7_requireTrip) := goodIn_app (goodIn_of _ (by decide +kernel)) ggX7_turn_X7_requireTrip
set_option maxRecDepth 20000 in
theorem ggX7_turn_X7_isIndex : GoodIn wsX7_turn wsX7_isIndex := goodIn_r _ [16] (by decide +kernel) (by decide +kernel)
set_option maxRecDepth 20000 in
theorem gX7_turn_X7_isIndex : GoodIn wsX7_turn (va_wsS RX7 93 yX7_isIndex wsX7_isIndex) := goodIn_app (goodIn_of _ (by decide +kernel)) ggX7_turn_X7_isIndex
set_option maxRecDepth 20000 in
theorem ggX7_turn_X6_beginAt : GoodIn wsX7_turn wsX6_beginAt := goodIn_r _ [21, 22, 23, 24, 25, 20, 26, 27, 28, 29, 30, 31, 32, 33, 55, 56, 57, 58, 59, 60, 46, 47, 48, 49, 50, 51, 52, 53, 54] (by decide +kernel) (by decide +kernel)
set_option maxRecDepth 20000 in
theorem gX7_turn_X6_beginAt : GoodIn wsX7_turn (wsV RX7 197 RX6 yX6_beginAt wsX6_beginAt) := goodIn_app (goodIn_of _ (by decide +kernel)) ggX7_turn_X6_beginAt
set_option maxRecDepth 20000 in
theorem ggX7_turn_X6_reverse : GoodIn wsX7_turn wsX6_reverse := goodIn_r _ [37, 28, 29, 22, 27, 23, 24, 25, 20, 26, 30, 31, 32, 33, 55, 56, 57, 58, 59, 60, 46, 47, 48, 49, 50, 51, 52, 53, 54] (by decide +kernel) (by decide +kernel)
set_option maxRecDepth 20000 in
theorem gX7_turn_X6_reverse : GoodIn wsX7_turn (wsV RX7 201 RX6 yX6_reverse wsX6_reverse) := goodIn_app (goodIn_of _ (by decide +kernel)) ggX7_turn_X6_reverse
set_option maxRecDepth 20000 in
theorem ggX7_cost_X7_requireTrip : GoodIn wsX7_cost wsX7_requireTrip := goodIn_ca (goodIn_r _ [6, 7, 8, 9, 61, 62, 63, 64, 65, 66, 67, 68] (by decide +kernel) (by decide +kernel)) (goodIn_sub (fun _ h => List.mem_cons_of_mem _ (List.mem_append_right _ h)) (by decide +kernel))
set_option maxRecDepth 20000 in
theorem gX7_cost_X7_requireTrip : GoodIn wsX7_cost (wsV RX7 184 RX7 yX7_requireTrip wsX7_requireTrip) := goodIn_app (goodIn_of _ (by decide +kernel)) ggX7_cost_X7_requireTrip
set_option maxRecDepth 20000 in
theorem ggX7_cost_X6_hasEachCityOnce : GoodIn wsX7_cost wsX6_hasEachCityOnce := goodIn_r _ [14, 15, 16, 17, 18, 19, 5, 20, 21, 22, 23, 24, 25, 26, 27, 28, 29, 30, 31, 32, 33, 34, 35, 69, 70, 71, 72, 73, 74, 75, 76, 77, 78, 79, 80, 81, 82, 83, 84, 85, 86, 87] (by decide +kernel) (by decide +kernel)
set_option maxRecDepth 20000 in
theorem gX7_cost_X6_hasEachCityOnce : GoodIn wsX7_cost (wsV RX7 204 RX6 yX6_hasEachCityOnce wsX6_hasEachCityOnce) := goodIn_app (goodIn_of _ (by decide +kernel)) ggX7_cost_X6_hasEachCityOnce
set_option maxRecDepth 20000 in
theorem ggX7_cost_X6_total : GoodIn wsX7_cost wsX6_total := goodIn_r _ [39, 15, 18, 16, 40, 41, 42, 43, 44, 45, 46, 47, 48, 49, 50, 51, 52, 53, 54, 55, 56, 57, 58, 59, 60, 69, 70, 71, 72, 73, 74, 75, 76, 77, 78, 79, 80, 81, 82, 83] (by decide +kernel) (by decide +kernel)
set_option maxRecDepth 20000 in
theorem gX7_cost_X6_total : GoodIn wsX7_cost (wsV RX7 207 RX6 yX6_total wsX6_total) := goodIn_app (goodIn_of _ (by decide +kernel)) ggX7_cost_X6_total
set_option maxRecDepth 20000 in
theorem ggX7_pull_X7_requireTrip : GoodIn wsX7_pull wsX7_requireTrip := goodIn_ca (goodIn_r _ [11, 12, 13, 14, 253, 254, 255, 256, 257, 258, 259, 260] (by decide +kernel) (by decide +kernel)) (goodIn_sub (fun _ h => List.mem_cons_of_mem _ (List.mem_append_right _ h)) (by decide +kernel))
set_option maxRecDepth 20000 in
theorem gX7_pull_X7_requireTrip : GoodIn wsX7_pull (wsV RX7 184 RX7 yX7_requireTrip wsX7_requireTrip) := goodIn_app (goodIn_of _ (by decide +kernel)) ggX7_pull_X7_requireTrip
set_option maxRecDepth 20000 in
theorem ggX7_pull_X6_isGood : GoodIn wsX7_pull wsX6_isGood := goodIn_r _ [19, 20, 21, 22, 23, 24, 18, 25, 26, 27, 28, 10, 29, 30, 31, 32, 33, 34, 35, 36, 37, 38, 39, 40, 41, 42, 43, 44, 45, 46, 47, 48, 49, 50, 51, 52, 53, 54, 55, 56, 57, 58, 59, 60, 61, 62, 63, 64, 65, 66, 67, 68, 69, 276, 277, 278, 279, 280, 281, 282, 283, 284, 285, 286, 287, 288, 289, 290, 291, 292, 293, 294] (by decide +kernel) (by decide +kernel)
set_option maxRecDepth 20000 in
theorem gX7_pull_X6_isGood : GoodIn wsX7_pull (wsV RX7 210 RX6 yX6_isGood wsX6_isGood) := goodIn_app (goodIn_of _ (by decide +kernel)) ggX7_pull_X6_isGood
set_option maxRecDepth 20000 in
theorem ggX7_pull_X6_pickCover : GoodIn wsX7_pull wsX6_pickCover := goodIn_r _ [73, 74, 20, 75, 21, 28, 10, 29, 30, 31, 32, 33, 34, 35, 36, 37, 38, 39, 40, 41, 42, 43, 44, 76, 77, 78, 18, 79, 27, 80, 81, 82, 83, 84, 85, 86, 87, 88, 89, 90, 61, 62, 52, 63, 64, 91, 92, 93, 94, 95, 276, 277, 278, 279, 280, 281, 282, 283, 284, 285, 286, 287, 288, 289, 290, 291, 292, 293, 294] (by decide +kernel) (by decide +kernel)
set_option maxRecDepth 20000 in
theorem gX7_pull_X6_pickCover : GoodIn wsX7_pull (wsV RX7 213 RX6 yX6_pickCover wsX6_pickCover) := goodIn_app (goodIn_of _ (by decide +kernel)) ggX7_pull_X6_pickCover
set_option maxRecDepth 20000 in
theorem ggX7_pull_X7_pickedChoice : GoodIn wsX7_pull wsX7_pickedChoice := goodIn_r _ [99, 2, 100, 1, 101, 102, 103, 104, 105, 106, 107, 108, 109, 110, 111, 112, 10, 113, 253, 254, 255, 256, 257, 258, 259, 260, 261, 262, 263, 264, 265, 266, 267, 268, 269, 270, 276, 277, 278, 279, 280, 281, 295, 296, 297, 298, 299, 300, 301, 302, 303] (by decide +kernel) (by decide +kernel)
set_option maxRecDepth 20000 in
theorem gX7_pull_X7_pickedChoice : GoodIn wsX7_pull (wsV RX7 216 RX7 yX7_pickedChoice wsX7_pickedChoice) := goodIn_app (goodIn_of _ (by decide +kernel)) ggX7_pull_X7_pickedChoice
set_option maxRecDepth 20000 in
theorem ggX7_pull_X5_follow : GoodIn wsX7_pull wsX5_follow := goodIn_r _ [118, 119, 120, 121, 122, 123, 124, 117, 125, 126, 127, 128, 129, 130, 131, 132, 133, 134, 135, 136, 137, 138, 139, 140, 141, 142, 143, 144, 145, 146, 147, 148, 149, 150, 151, 152, 153, 10, 154, 155, 156, 157, 158, 159, 160, 161, 162, 163, 164, 271, 272, 273, 274, 275, 261, 262, 263, 264, 265, 266, 267, 268, 269, 270] (by decide +kernel) (by decide +kernel)
set_option maxRecDepth 20000 in
theorem gX7_pull_X5_follow : GoodIn wsX7_pull (wsV RX7 219 RX5 yX5_follow wsX5_follow) := goodIn_app (goodIn_of _ (by decide +kernel)) ggX7_pull_X5_follow
set_option maxRecDepth 20000 in
theorem ggX7_pull_X1_derive : GoodIn wsX7_pull wsX1_derive := goodIn_r _ [169, 170, 171, 172, 173, 174, 175, 28, 10, 29, 30, 31, 32, 33, 34, 176, 36, 37, 38, 39, 40, 41, 42, 43, 44, 177, 178, 179, 168, 180, 181, 182, 183, 184, 185, 186, 187, 188, 189, 190, 137, 191, 139, 192, 135, 136, 138, 193, 194, 195, 106, 196, 109, 197, 198, 199, 200, 201, 202, 203, 204, 205, 206, 207, 208, 209, 210, 104, 105, 107, 108, 110, 211, 212, 213, 214, 215, 216, 217, 218, 219, 220, 221, 222, 223, 224, 225, 226, 227, 228, 229, 230, 231, 232, 233, 234, 235, 236, 237, 238, 239, 240, 241, 242, 243, 244, 245, 246, 247, 248, 249, 250, 251, 252, 304, 305, 306, 307, 308, 295, 296, 297, 298, 299, 300, 301, 302, 303, 282, 283, 284, 285, 286, 287, 288, 289, 290, 291, 292, 293, 294, 271, 272, 273, 274, 275, 261, 262, 263, 264, 265, 266, 267, 268, 269, 270, 309, 310] (by decide +kernel) (by decide +kernel)
set_option maxRecDepth 20000 in
theorem gX7_pull_X1_derive : GoodIn wsX7_pull (wsV RX7 162 RX1 yX1_derive wsX1_derive) := goodIn_app (goodIn_of _ (by decide +kernel)) ggX7_pull_X1_derive
set_option maxRecDepth 20000 in
theorem ggX7_replay_X5_follow : GoodIn wsX7_replay wsX5_follow := goodIn_r _ [9, 10, 11, 12, 13, 14, 15, 8, 16, 17, 18, 19, 20, 21, 22, 23, 24, 25, 26, 27, 28, 29, 30, 31, 32, 33, 34, 35, 36, 37, 38, 39, 40, 41, 42, 43, 44, 45, 46, 47, 48, 49, 50, 51, 52, 53, 54, 55, 56, 65, 66, 67, 68, 69, 70, 71, 72, 73, 74, 75, 76, 77, 78, 79] (by decide +kernel) (by decide +kernel)
set_option maxRecDepth 20000 in
theorem gX7_replay_X5_follow : GoodIn wsX7_replay (wsV RX7 219 RX5 yX5_follow wsX5_follow) := goodIn_app (goodIn_of _ (by decide +kernel)) ggX7_replay_X5_follow
