set_option maxRecDepth 20000 in
theorem inlX0 : ∀ w ∈ wsX00, w ∈ wsL_law := fun _ h => List.mem_append_left _ (List.mem_append_left _ (List.mem_append_left _ (List.mem_append_left _ (List.mem_append_left _ (List.mem_append_right _ h)))))
set_option maxRecDepth 20000 in
theorem inX0 : ∀ w ∈ wsX00, w ∈ lw_tbl := fun w h => wsL_law_in w (inlX0 w h)
set_option maxRecDepth 20000 in
theorem inlX1 : ∀ w ∈ wsX10, w ∈ wsL_law := fun _ h => List.mem_append_left _ (List.mem_append_left _ (List.mem_append_left _ (List.mem_append_left _ (List.mem_append_right _ h))))
set_option maxRecDepth 20000 in
theorem inX1 : ∀ w ∈ wsX10, w ∈ lw_tbl := fun w h => wsL_law_in w (inlX1 w h)
set_option maxRecDepth 20000 in
theorem inlX2 : ∀ w ∈ wsX20, w ∈ wsL_law := fun _ h => List.mem_append_left _ (List.mem_append_left _ (List.mem_append_right _ h))
set_option maxRecDepth 20000 in
theorem inX2 : ∀ w ∈ wsX20, w ∈ lw_tbl := fun w h => wsL_law_in w (inlX2 w h)
set_option maxRecDepth 20000 in
theorem inlX3 : ∀ w ∈ wsX30, w ∈ wsL_law := fun _ h => List.mem_append_left _ (List.mem_append_right _ h)
set_option maxRecDepth 20000 in
theorem inX3 : ∀ w ∈ wsX30, w ∈ lw_tbl := fun w h => wsL_law_in w (inlX3 w h)
set_option maxRecDepth 20000 in
theorem inlX4 : ∀ w ∈ wsX40, w ∈ wsL_law := fun _ h => List.mem_append_left _ (List.mem_append_left _ (List.mem_append_left _ (List.mem_append_right _ h)))
set_option maxRecDepth 20000 in
theorem inX4 : ∀ w ∈ wsX40, w ∈ lw_tbl := fun w h => wsL_law_in w (inlX4 w h)
set_option maxRecDepth 20000 in
theorem inlX5 : ∀ w ∈ wsX50, w ∈ wsL_law := fun _ h => List.mem_append_left _ (List.mem_append_left _ (List.mem_append_left _ (List.mem_append_left _ (List.mem_append_left _ (List.mem_append_left _ (List.mem_append_left _ (List.mem_append_right _ h)))))))
set_option maxRecDepth 20000 in
theorem inX5 : ∀ w ∈ wsX50, w ∈ lw_tbl := fun w h => wsL_law_in w (inlX5 w h)
set_option maxRecDepth 20000 in
theorem inlX6 : ∀ w ∈ wsX60, w ∈ wsL_law := fun _ h => List.mem_append_left _ (List.mem_append_left _ (List.mem_append_left _ (List.mem_append_left _ (List.mem_append_left _ (List.mem_append_left _ (List.mem_append_right _ h))))))
set_option maxRecDepth 20000 in
theorem inX6 : ∀ w ∈ wsX60, w ∈ lw_tbl := fun w h => wsL_law_in w (inlX6 w h)
set_option maxRecDepth 20000 in
theorem ggL_law_X5_init : GoodIn wsL_law wsX5_init := goodIn_r _ [8, 9, 10, 11, 12, 13, 14, 15, 16, 17, 18, 19, 20, 21, 22, 23, 24, 25, 26, 27, 28, 29, 30, 31, 32, 33, 34, 35, 36, 37, 38, 39, 40, 41, 42, 43, 44, 45, 46, 47, 48, 49, 50, 51, 52, 53, 54, 55, 56, 57, 58, 59, 60, 61, 62, 63, 64, 65, 66, 67, 68, 69, 70, 679, 680, 681, 682, 683, 684, 651, 652, 653, 654, 655, 685, 686, 687, 688, 689, 690, 691, 692, 693, 694, 695, 696, 697, 698, 699, 700, 701, 702, 703, 704, 705, 706, 707, 708] (by decide +kernel) (by decide +kernel)
set_option maxRecDepth 20000 in
theorem gL_law_X5_init : GoodIn wsL_law (wsX5_init) := ggL_law_X5_init
set_option maxRecDepth 20000 in
theorem ggL_law_X6_init : GoodIn wsL_law wsX6_init := goodIn_r _ [73, 74, 10, 11, 35, 75, 76, 77, 78, 79, 80, 81, 82, 83, 84, 85, 62, 86, 87, 88, 89, 90, 656, 657, 658, 659, 660, 661, 662, 663, 664, 665, 666, 667, 668, 669, 670, 671, 672, 673, 674, 675, 676, 677, 678] (by decide +kernel) (by decide +kernel)
set_option maxRecDepth 20000 in
theorem gL_law_X6_init : GoodIn wsL_law (wsX6_init) := ggL_law_X6_init
set_option maxRecDepth 20000 in
theorem ggL_law_X5_station : GoodIn wsL_law wsX5_station := goodIn_r _ [94, 15, 95, 19, 96, 97, 2, 98, 99, 100, 101, 18, 102, 103, 104, 105, 106, 14, 107, 36, 108, 651, 652, 653, 654, 655, 679, 680, 681, 682, 683, 684, 685, 686, 687, 688, 689, 690, 691] (by decide +kernel) (by decide +kernel)
set_option maxRecDepth 20000 in
theorem gL_law_X5_station : GoodIn wsL_law (wsV RL 13 RX5 yX5_station wsX5_station) := goodIn_app (goodIn_of _ (by decide +kernel)) ggL_law_X5_station
set_option maxRecDepth 20000 in
theorem ggL_law_X6_station : GoodIn wsL_law wsX6_station := goodIn_r _ [112, 113, 114, 75, 115, 116, 117, 5, 118, 656, 657, 658, 659, 660, 661, 662, 663, 664, 665, 666, 667, 668, 669, 670, 671, 672, 673, 674, 675, 676, 677, 678] (by decide +kernel) (by decide +kernel)
set_option maxRecDepth 20000 in
theorem gL_law_X6_station : GoodIn wsL_law (wsV RL 17 RX6 yX6_station wsX6_station) := goodIn_app (goodIn_of _ (by decide +kernel)) ggL_law_X6_station
set_option maxRecDepth 20000 in
theorem ggL_law_X5_arc : GoodIn wsL_law wsX5_arc := goodIn_r _ [122, 15, 123, 19, 124, 125, 126, 14, 127, 108, 97, 2, 98, 96, 128, 129, 130, 131, 37, 132, 38, 39, 99, 100, 101, 18, 102, 103, 133, 134, 135, 136, 137, 48, 138, 139, 140, 141, 142, 143, 144, 46, 145, 146, 147, 148, 44, 45, 651, 652, 653, 654, 655, 679, 680, 681, 682, 683, 684, 685, 686, 687, 688, 689, 690, 691] (by decide +kernel) (by decide +kernel)
set_option maxRecDepth 20000 in
theorem gL_law_X5_arc : GoodIn wsL_law (wsV RL 18 RX5 yX5_arc wsX5_arc) := goodIn_app (goodIn_of _ (by decide +kernel)) ggL_law_X5_arc
set_option maxRecDepth 20000 in
theorem ggL_law_X6_arc : GoodIn wsL_law wsX6_arc := goodIn_r _ [152, 153, 154, 76, 77, 78, 115, 155, 156, 157, 5, 158, 114, 116, 117, 118, 656, 657, 658, 659, 660, 661, 662, 663, 664, 665, 666, 667, 668, 669, 670, 671, 672, 673, 674, 675, 676, 677, 678] (by decide +kernel) (by decide +kernel)
set_option maxRecDepth 20000 in
theorem gL_law_X6_arc : GoodIn wsL_law (wsV RL 22 RX6 yX6_arc wsX6_arc) := goodIn_app (goodIn_of _ (by decide +kernel)) ggL_law_X6_arc
set_option maxRecDepth 20000 in
theorem ggL_law_X5_time : GoodIn wsL_law wsX5_time := goodIn_r _ [162, 15, 163, 124, 125, 126, 14, 127, 108, 97, 2, 98, 96, 651, 652, 653, 654, 655, 679, 680, 681, 682, 683, 684] (by decide +kernel) (by decide +kernel)
set_option maxRecDepth 20000 in
theorem gL_law_X5_time : GoodIn wsL_law (wsV RL 23 RX5 yX5_time wsX5_time) := goodIn_app (goodIn_of _ (by decide +kernel)) ggL_law_X5_time
set_option maxRecDepth 20000 in
theorem ggL_law_X6_time : GoodIn wsL_law wsX6_time := goodIn_r _ [167, 113, 75, 155, 156, 157, 5, 158, 114, 116, 117, 118, 656, 657, 658, 659, 660, 661, 662, 663, 664, 665, 666, 667, 668, 669, 670, 671, 672, 673, 674, 675, 676, 677, 678] (by decide +kernel) (by decide +kernel)
set_option maxRecDepth 20000 in
theorem gL_law_X6_time : GoodIn wsL_law (wsV RL 27 RX6 yX6_time wsX6_time) := goodIn_app (goodIn_of _ (by decide +kernel)) ggL_law_X6_time
set_option maxRecDepth 20000 in
theorem ggL_law_X5_put : GoodIn wsL_law wsX5_put := goodIn_r _ [171, 15, 172, 173, 174, 175, 14, 176, 132, 97, 2, 98, 96, 651, 652, 653, 654, 655, 679, 680, 681, 682, 683, 684] (by decide +kernel) (by decide +kernel)
set_option maxRecDepth 20000 in
theorem gL_law_X5_put : GoodIn wsL_law (wsV RL 28 RX5 yX5_put wsX5_put) := goodIn_app (goodIn_of _ (by decide +kernel)) ggL_law_X5_put
set_option maxRecDepth 20000 in
theorem ggL_law_X6_put : GoodIn wsL_law wsX6_put := goodIn_r _ [180, 153, 78, 181, 182, 183, 5, 184, 154, 116, 117, 118, 656, 657, 658, 659, 660, 661, 662, 663, 664, 665, 666, 667, 668, 669, 670, 671, 672, 673, 674, 675, 676, 677, 678] (by decide +kernel) (by decide +kernel)
set_option maxRecDepth 20000 in
theorem gL_law_X6_put : GoodIn wsL_law (wsV RL 31 RX6 yX6_put wsX6_put) := goodIn_app (goodIn_of _ (by decide +kernel)) ggL_law_X6_put
set_option maxRecDepth 20000 in
theorem ggL_law_X5_about : GoodIn wsL_law wsX5_about := goodIn_r _ [188, 15, 189, 190, 172, 173, 174, 175, 14, 176, 132, 97, 2, 98, 651, 652, 653, 654, 655, 679, 680, 681, 682, 683, 684] (by decide +kernel) (by decide +kernel)
set_option maxRecDepth 20000 in
theorem gL_law_X5_about : GoodIn wsL_law (wsV RL 32 RX5 yX5_about wsX5_about) := goodIn_app (goodIn_of _ (by decide +kernel)) ggL_law_X5_about
set_option maxRecDepth 20000 in
theorem ggL_law_X6_about : GoodIn wsL_law wsX6_about := goodIn_r _ [194, 76, 77, 78, 181, 182, 183, 5, 184, 154, 116, 117, 118, 656, 657, 658, 659, 660, 661, 662, 663, 664, 665, 666, 667, 668, 669, 670, 671, 672, 673, 674, 675, 676, 677, 678] (by decide +kernel) (by decide +kernel)
set_option maxRecDepth 20000 in
theorem gL_law_X6_about : GoodIn wsL_law (wsV RL 35 RX6 yX6_about wsX6_about) := goodIn_app (goodIn_of _ (by decide +kernel)) ggL_law_X6_about
set_option maxRecDepth 20000 in
theorem ggL_law_X5_ready : GoodIn wsL_law wsX5_ready := goodIn_r _ [198, 15, 124, 125, 126, 14, 127, 108, 97, 2, 98, 199, 200, 201, 202, 132, 38, 39, 651, 652, 653, 654, 655, 679, 680, 681, 682, 683, 684] (by decide +kernel) (by decide +kernel)
set_option maxRecDepth 20000 in
theorem gL_law_X5_ready : GoodIn wsL_law (wsV RL 36 RX5 yX5_ready wsX5_ready) := goodIn_app (goodIn_of _ (by decide +kernel)) ggL_law_X5_ready
set_option maxRecDepth 20000 in
theorem ggL_law_X6_ready : GoodIn wsL_law wsX6_ready := goodIn_r _ [206, 155, 156, 157, 5, 158, 114, 116, 117, 118, 207, 208, 209, 210, 154, 77, 78, 656, 657, 658, 659, 660, 661, 662, 663, 664, 665, 666, 667, 668, 669, 670, 671, 672, 673, 674, 675, 676, 677, 678] (by decide +kernel) (by decide +kernel)
set_option maxRecDepth 20000 in
theorem gL_law_X6_ready : GoodIn wsL_law (wsV RL 39 RX6 yX6_ready wsX6_ready) := goodIn_app (goodIn_of _ (by decide +kernel)) ggL_law_X6_ready
set_option maxRecDepth 20000 in
theorem ggL_law_X5_fire : GoodIn wsL_law wsX5_fire := goodIn_r _ [214, 15, 124, 125, 126, 14, 127, 108, 97, 2, 98, 199, 200, 201, 202, 132, 38, 39, 215, 216, 217, 218, 37, 219, 220, 221, 222, 223, 224, 225, 226, 227, 651, 652, 653, 654, 655, 679, 680, 681, 682, 683, 684] (by decide +kernel) (by decide +kernel)
set_option maxRecDepth 20000 in
theorem gL_law_X5_fire : GoodIn wsL_law (wsV RL 40 RX5 yX5_fire wsX5_fire) := goodIn_app (goodIn_of _ (by decide +kernel)) ggL_law_X5_fire
set_option maxRecDepth 20000 in
theorem ggL_law_X6_fire : GoodIn wsL_law wsX6_fire := goodIn_r _ [231, 155, 156, 157, 5, 158, 114, 116, 117, 118, 207, 208, 209, 210, 154, 77, 78, 232, 233, 234, 235, 76, 236, 237, 238, 239, 240, 241, 242, 243, 656, 657, 658, 659, 660, 661, 662, 663, 664, 665, 666, 667, 668, 669, 670, 671, 672, 673, 674, 675, 676, 677, 678] (by decide +kernel) (by decide +kernel)
set_option maxRecDepth 20000 in
theorem gL_law_X6_fire : GoodIn wsL_law (wsV RL 43 RX6 yX6_fire wsX6_fire) := goodIn_app (goodIn_of _ (by decide +kernel)) ggL_law_X6_fire
set_option maxRecDepth 20000 in
theorem ggL_law_X5_round : GoodIn wsL_law wsX5_round := goodIn_r _ [247, 15, 95, 199, 200, 201, 14, 202, 132, 38, 39, 215, 216, 217, 218, 37, 219, 220, 221, 222, 651, 652, 653, 654, 655, 679, 680, 681, 682, 683, 684] (by decide +kernel) (by decide +kernel)
set_option maxRecDepth 20000 in
theorem gL_law_X5_round : GoodIn wsL_law (wsV RL 44 RX5 yX5_round wsX5_round) := goodIn_app (goodIn_of _ (by decide +kernel)) ggL_law_X5_round
set_option maxRecDepth 20000 in
theorem ggL_law_X6_round : GoodIn wsL_law wsX6_round := goodIn_r _ [251, 114, 207, 208, 209, 5, 210, 154, 77, 78, 232, 233, 234, 235, 76, 236, 237, 238, 239, 656, 657, 658, 659, 660, 661, 662, 663, 664, 665, 666, 667, 668, 669, 670, 671, 672, 673, 674, 675, 676, 677, 678] (by decide +kernel) (by decide +kernel)
set_option maxRecDepth 20000 in
theorem gL_law_X6_round : GoodIn wsL_law (wsV RL 48 RX6 yX6_round wsX6_round) := goodIn_app (goodIn_of _ (by decide +kernel)) ggL_law_X6_round
set_option maxRecDepth 20000 in
theorem ggL_law_X5_loops : GoodIn wsL_law wsX5_loops := goodIn_r _ [255, 19, 256, 651, 652, 653, 654, 655, 685, 686, 687, 688, 689, 690, 691] (by decide +kernel) (by decide +kernel)
set_option maxRecDepth 20000 in
theorem gL_law_X5_loops : GoodIn wsL_law (wsV RL 49 RX5 yX5_loops wsX5_loops) := goodIn_app (goodIn_of _ (by decide +kernel)) ggL_law_X5_loops
set_option maxRecDepth 20000 in
theorem ggL_law_X6_loops : GoodIn wsL_law wsX6_loops := goodIn_r _ [260, 261, 262, 263, 264, 5, 265, 114, 154, 77, 81, 266, 267, 268, 269, 76, 270, 271, 272, 273, 79, 80, 656, 657, 658, 659, 660, 661, 662, 663, 664, 665, 666, 667, 668, 669, 670, 671, 672, 673, 674, 675, 676, 677, 678] (by decide +kernel) (by decide +kernel)
set_option maxRecDepth 20000 in
theorem gL_law_X6_loops : GoodIn wsL_law (wsV RL 52 RX6 yX6_loops wsX6_loops) := goodIn_app (goodIn_of _ (by decide +kernel)) ggL_law_X6_loops
set_option maxRecDepth 20000 in
theorem ggL_law_X5_loop : GoodIn wsL_law wsX5_loop := goodIn_r _ [277, 19, 278, 279, 280, 18, 281, 137, 97, 2, 98, 282, 283, 284, 285, 45, 44, 651, 652, 653, 654, 655, 685, 686, 687, 688, 689, 690, 691] (by decide +kernel) (by decide +kernel)
set_option maxRecDepth 20000 in
theorem gL_law_X5_loop : GoodIn wsL_law (wsV RL 53 RX5 yX5_loop wsX5_loop) := goodIn_app (goodIn_of _ (by decide +kernel)) ggL_law_X5_loop
set_option maxRecDepth 20000 in
theorem ggL_law_X6_loop : GoodIn wsL_law wsX6_loop := goodIn_r _ [289, 261, 80, 79, 262, 263, 264, 5, 265, 114, 154, 77, 81, 266, 267, 268, 269, 76, 270, 271, 272, 273, 116, 117, 118, 656, 657, 658, 659, 660, 661, 662, 663, 664, 665, 666, 667, 668, 669, 670, 671, 672, 673, 674, 675, 676, 677, 678] (by decide +kernel) (by decide +kernel)
set_option maxRecDepth 20000 in
theorem gL_law_X6_loop : GoodIn wsL_law (wsV RL 56 RX6 yX6_loop wsX6_loop) := goodIn_app (goodIn_of _ (by decide +kernel)) ggL_law_X6_loop
set_option maxRecDepth 20000 in
theorem ggL_law_X5_sum : GoodIn wsL_law wsX5_sum := goodIn_r _ [293, 19, 15, 172, 278, 279, 280, 18, 281, 137, 97, 2, 98, 294, 295, 296, 297, 45, 44, 298, 299, 300, 301, 48, 302, 143, 651, 652, 653, 654, 655, 679, 680, 681, 682, 683, 684, 685, 686, 687, 688, 689, 690, 691] (by decide +kernel) (by decide +kernel)
set_option maxRecDepth 20000 in
theorem gL_law_X5_sum : GoodIn wsL_law (wsV RL 57 RX5 yX5_sum wsX5_sum) := goodIn_app (goodIn_of _ (by decide +kernel)) ggL_law_X5_sum
set_option maxRecDepth 20000 in
theorem ggL_law_X6_sum : GoodIn wsL_law wsX6_sum := goodIn_r _ [306, 261, 262, 263, 264, 5, 265, 114, 154, 77, 81, 266, 267, 268, 269, 76, 270, 271, 272, 273, 79, 80, 116, 117, 118, 307, 308, 309, 310, 78, 311, 312, 313, 314, 75, 656, 657, 658, 659, 660, 661, 662, 663, 664, 665, 666, 667, 668, 669, 670, 671, 672, 673, 674, 675, 676, 677, 678] (by decide +kernel) (by decide +kernel)
set_option maxRecDepth 20000 in
theorem gL_law_X6_sum : GoodIn wsL_law (wsV RL 61 RX6 yX6_sum wsX6_sum) := goodIn_app (goodIn_of _ (by decide +kernel)) ggL_law_X6_sum
set_option maxRecDepth 20000 in
theorem ggL_law_X5_pace : GoodIn wsL_law wsX5_pace := goodIn_r _ [318, 19, 319, 15, 172, 320, 321, 322, 18, 323, 137, 48, 324, 325, 299, 300, 301, 45, 302, 143, 44, 326, 295, 296, 297, 278, 279, 280, 281, 97, 2, 98, 294, 298, 327, 328, 329, 330, 331, 332, 333, 334, 335, 336, 651, 652, 653, 654, 655, 679, 680, 681, 682, 683, 684, 685, 686, 687, 688, 689, 690, 691] (by decide +kernel) (by decide +kernel)
set_option maxRecDepth 20000 in
theorem gL_law_X5_pace : GoodIn wsL_law (wsV RL 62 RX5 yX5_pace wsX5_pace) := goodIn_app (goodIn_of _ (by decide +kernel)) ggL_law_X5_pace
set_option maxRecDepth 20000 in
theorem ggL_law_X6_pace : GoodIn wsL_law wsX6_pace := goodIn_r _ [340, 341, 262, 263, 264, 5, 265, 261, 114, 154, 77, 81, 266, 267, 268, 269, 76, 270, 271, 272, 273, 79, 80, 342, 343, 344, 345, 307, 308, 309, 310, 78, 311, 312, 313, 314, 75, 346, 347, 348, 349, 350, 351, 656, 657, 658, 659, 660, 661, 662, 663, 664, 665, 666, 667, 668, 669, 670, 671, 672, 673, 674, 675, 676, 677, 678] (by decide +kernel) (by decide +kernel)
set_option maxRecDepth 20000 in
theorem gL_law_X6_pace : GoodIn wsL_law (wsV RL 66 RX6 yX6_pace wsX6_pace) := goodIn_app (goodIn_of _ (by decide +kernel)) ggL_law_X6_pace
set_option maxRecDepth 20000 in
theorem ggL_law_X5_slowest : GoodIn wsL_law wsX5_slowest := goodIn_r _ [355, 19, 320, 321, 322, 18, 323, 137, 48, 324, 325, 299, 300, 301, 45, 302, 143, 44, 326, 295, 296, 297, 651, 652, 653, 654, 655, 685, 686, 687, 688, 689, 690, 691, 679, 680, 681, 682, 683, 684] (by decide +kernel) (by decide +kernel)
set_option maxRecDepth 20000 in
theorem gL_law_X5_slowest : GoodIn wsL_law (wsV RL 67 RX5 yX5_slowest wsX5_slowest) := goodIn_app (goodIn_of _ (by decide +kernel)) ggL_law_X5_slowest
set_option maxRecDepth 20000 in
theorem ggL_law_X6_slowest : GoodIn wsL_law wsX6_slowest := goodIn_r _ [359, 262, 263, 264, 5, 265, 261, 114, 154, 77, 81, 266, 267, 268, 269, 76, 270, 271, 272, 273, 79, 80, 342, 343, 344, 345, 307, 308, 309, 310, 78, 311, 312, 313, 314, 75, 656, 657, 658, 659, 660, 661, 662, 663, 664, 665, 666, 667, 668, 669, 670, 671, 672, 673, 674, 675, 676, 677, 678] (by decide +kernel) (by decide +kernel)
set_option maxRecDepth 20000 in
theorem gL_law_X6_slowest : GoodIn wsL_law (wsV RL 70 RX6 yX6_slowest wsX6_slowest) := goodIn_app (goodIn_of _ (by decide +kernel)) ggL_law_X6_slowest
set_option maxRecDepth 20000 in
theorem ggL_law_X5_begins : GoodIn wsL_law wsX5_begins := goodIn_r _ [363, 15, 23, 124, 125, 126, 14, 127, 108, 97, 2, 98, 96, 364, 365, 366, 22, 367, 53, 368, 369, 370, 371, 372, 373, 55, 374, 375, 376, 377, 378, 379, 380, 381, 382, 383, 384, 385, 386, 54, 387, 388, 389, 390, 391, 392, 393, 394, 395, 396, 397, 398, 399, 400, 335, 401, 651, 652, 653, 654, 655, 679, 680, 681, 682, 683, 684, 692, 693, 694, 695, 696] (by decide +kernel) (by decide +kernel)
set_option maxRecDepth 20000 in
theorem gL_law_X5_begins : GoodIn wsL_law (wsV RL 71 RX5 yX5_begins wsX5_begins) := goodIn_app (goodIn_of _ (by decide +kernel)) ggL_law_X5_begins
set_option maxRecDepth 20000 in
theorem ggL_law_X6_begins : GoodIn wsL_law wsX6_begins := goodIn_r _ [405, 406, 114, 82, 155, 156, 157, 5, 158, 116, 117, 118, 407, 408, 409, 410, 154, 77, 78, 76, 75, 656, 657, 658, 659, 660, 661, 662, 663, 664, 665, 666, 667, 668, 669, 670, 671, 672, 673, 674, 675, 676, 677, 678] (by decide +kernel) (by decide +kernel)
set_option maxRecDepth 20000 in
theorem gL_law_X6_begins : GoodIn wsL_law (wsV RL 74 RX6 yX6_begins wsX6_begins) := goodIn_app (goodIn_of _ (by decide +kernel)) ggL_law_X6_begins
set_option maxRecDepth 20000 in
theorem ggL_law_X5_note : GoodIn wsL_law wsX5_note := goodIn_r _ [414, 19, 256, 415, 416, 417, 18, 418, 48, 324, 47, 419, 420, 421, 422, 103, 651, 652, 653, 654, 655, 685, 686, 687, 688, 689, 690, 691, 679, 680, 681, 682, 683, 684] (by decide +kernel) (by decide +kernel)
set_option maxRecDepth 20000 in
theorem gL_law_X5_note : GoodIn wsL_law (wsV RL 75 RX5 yX5_note wsX5_note) := goodIn_app (goodIn_of _ (by decide +kernel)) ggL_law_X5_note
set_option maxRecDepth 20000 in
theorem ggL_law_X6_note : GoodIn wsL_law wsX6_note := goodIn_r _ [426, 115, 261, 427, 83, 262, 263, 264, 5, 265, 114, 154, 77, 81, 266, 267, 268, 269, 76, 270, 271, 272, 273, 79, 80, 307, 308, 309, 310, 78, 656, 657, 658, 659, 660, 661, 662, 663, 664, 665, 666, 667, 668, 669, 670, 671, 672, 673, 674, 675, 676, 677, 678] (by decide +kernel) (by decide +kernel)
set_option maxRecDepth 20000 in
theorem gL_law_X6_note : GoodIn wsL_law (wsV RL 78 RX6 yX6_note wsX6_note) := goodIn_app (goodIn_of _ (by decide +kernel)) ggL_law_X6_note
set_option maxRecDepth 20000 in
theorem ggL_law_X5_audit : GoodIn wsL_law wsX5_audit := goodIn_r _ [431, 19, 432, 433, 434, 435, 18, 436, 137, 48, 324, 47, 326, 295, 296, 297, 45, 44, 651, 652, 653, 654, 655, 685, 686, 687, 688, 689, 690, 691, 679, 680, 681, 682, 683, 684] (by decide +kernel) (by decide +kernel)
set_option maxRecDepth 20000 in
theorem gL_law_X5_audit : GoodIn wsL_law (wsV RL 79 RX5 yX5_audit wsX5_audit) := goodIn_app (goodIn_of _ (by decide +kernel)) ggL_law_X5_audit
set_option maxRecDepth 20000 in
theorem ggL_law_X6_audit : GoodIn wsL_law wsX6_audit := goodIn_r _ [440, 115, 427, 83, 262, 263, 264, 5, 265, 261, 114, 154, 77, 81, 266, 267, 268, 269, 76, 270, 271, 272, 273, 79, 80, 307, 308, 309, 310, 78, 656, 657, 658, 659, 660, 661, 662, 663, 664, 665, 666, 667, 668, 669, 670, 671, 672, 673, 674, 675, 676, 677, 678] (by decide +kernel) (by decide +kernel)
set_option maxRecDepth 20000 in
theorem gL_law_X6_audit : GoodIn wsL_law (wsV RL 83 RX6 yX6_audit wsX6_audit) := goodIn_app (goodIn_of _ (by decide +kernel)) ggL_law_X6_audit
set_option maxRecDepth 20000 in
theorem ggL_law_X5_cards : GoodIn wsL_law wsX5_cards := goodIn_r _ [444, 15, 19, 173, 174, 175, 14, 176, 132, 97, 2, 98, 96, 445, 446, 447, 18, 448, 137, 48, 324, 449, 400, 335, 401, 325, 299, 300, 301, 45, 302, 143, 44, 326, 295, 296, 297, 450, 451, 452, 453, 651, 652, 653, 654, 655, 679, 680, 681, 682, 683, 684, 685, 686, 687, 688, 689, 690, 691] (by decide +kernel) (by decide +kernel)
set_option maxRecDepth 20000 in
theorem gL_law_X5_cards : GoodIn wsL_law (wsV RL 84 RX5 yX5_cards wsX5_cards) := goodIn_app (goodIn_of _ (by decide +kernel)) ggL_law_X5_cards
set_option maxRecDepth 20000 in
theorem ggL_law_X6_cards : GoodIn wsL_law wsX6_cards := goodIn_r _ [457, 458, 78, 181, 182, 183, 5, 184, 154, 116, 117, 118, 262, 263, 264, 265, 261, 114, 77, 81, 266, 267, 268, 269, 76, 270, 271, 272, 273, 79, 80, 459, 460, 461, 462, 307, 308, 309, 310, 311, 312, 313, 314, 75, 656, 657, 658, 659, 660, 661, 662, 663, 664, 665, 666, 667, 668, 669, 670, 671, 672, 673, 674, 675, 676, 677, 678] (by decide +kernel) (by decide +kernel)
set_option maxRecDepth 20000 in
theorem gL_law_X6_cards : GoodIn wsL_law (wsV RL 87 RX6 yX6_cards wsX6_cards) := goodIn_app (goodIn_of _ (by decide +kernel)) ggL_law_X6_cards
set_option maxRecDepth 20000 in
theorem ggL_law_X5_machine : GoodIn wsL_law wsX5_machine := goodIn_r _ [466, 27, 467, 468, 96, 97, 2, 98, 651, 652, 653, 654, 655, 697, 698, 699, 700, 701, 702] (by decide +kernel) (by decide +kernel)
set_option maxRecDepth 20000 in
theorem gL_law_X5_machine : GoodIn wsL_law (wsV RL 88 RX5 yX5_machine wsX5_machine) := goodIn_app (goodIn_of _ (by decide +kernel)) ggL_law_X5_machine
set_option maxRecDepth 20000 in
theorem ggL_law_X6_machine : GoodIn wsL_law wsX6_machine := goodIn_r _ [472, 473, 84, 85, 116, 117, 5, 118, 656, 657, 658, 659, 660, 661, 662, 663, 664, 665, 666, 667, 668, 669, 670, 671, 672, 673, 674, 675, 676, 677, 678] (by decide +kernel) (by decide +kernel)
set_option maxRecDepth 20000 in
theorem gL_law_X6_machine : GoodIn wsL_law (wsV RL 91 RX6 yX6_machine wsX6_machine) := goodIn_app (goodIn_of _ (by decide +kernel)) ggL_law_X6_machine
set_option maxRecDepth 20000 in
theorem ggL_law_X5_store : GoodIn wsL_law wsX5_store := goodIn_r _ [477, 27, 478, 96, 97, 2, 98, 651, 652, 653, 654, 655, 697, 698, 699, 700, 701, 702] (by decide +kernel) (by decide +kernel)
set_option maxRecDepth 20000 in
theorem gL_law_X5_store : GoodIn wsL_law (wsV RL 92 RX5 yX5_store wsX5_store) := goodIn_app (goodIn_of _ (by decide +kernel)) ggL_law_X5_store
set_option maxRecDepth 20000 in
theorem ggL_law_X6_store : GoodIn wsL_law wsX6_store := goodIn_r _ [482, 483, 484, 116, 117, 5, 118, 656, 657, 658, 659, 660, 661, 662, 663, 664, 665, 666, 667, 668, 669, 670, 671, 672, 673, 674, 675, 676, 677, 678] (by decide +kernel) (by decide +kernel)
set_option maxRecDepth 20000 in
theorem gL_law_X6_store : GoodIn wsL_law (wsV RL 95 RX6 yX6_store wsX6_store) := goodIn_app (goodIn_of _ (by decide +kernel)) ggL_law_X6_store
set_option maxRecDepth 20000 in
theorem ggL_law_X5_given : GoodIn wsL_law wsX5_given := goodIn_r _ [488, 489, 27, 478, 96, 97, 2, 98, 490, 491, 492, 26, 493, 494, 495, 496, 497, 498, 61, 63, 499, 500, 501, 502, 59, 60, 503, 504, 505, 506, 507, 508, 509, 510, 511, 512, 513, 64, 514, 515, 516, 517, 518, 519, 520, 521, 522, 523, 524, 525, 335, 526, 527, 400, 401, 528, 529, 530, 327, 328, 329, 330, 331, 332, 333, 334, 336, 651, 652, 653, 654, 655, 697, 698, 699, 700, 701, 702] (by decide +kernel) (by decide +kernel)
set_option maxRecDepth 20000 in
theorem gL_law_X5_given : GoodIn wsL_law (wsV RL 96 RX5 yX5_given wsX5_given) := goodIn_app (goodIn_of _ (by decide +kernel)) ggL_law_X5_given
set_option maxRecDepth 20000 in
theorem ggL_law_X6_given : GoodIn wsL_law wsX6_given := goodIn_r _ [534, 535, 484, 536, 537, 5, 538, 539, 116, 117, 118, 540, 541, 542, 543, 86, 87, 544, 545, 546, 547, 548, 549, 550, 551, 84, 85, 552, 553, 554, 555, 346, 347, 348, 349, 350, 351, 656, 657, 658, 659, 660, 661, 662, 663, 664, 665, 666, 667, 668, 669, 670, 671, 672, 673, 674, 675, 676, 677, 678] (by decide +kernel) (by decide +kernel)
set_option maxRecDepth 20000 in
theorem gL_law_X6_given : GoodIn wsL_law (wsV RL 100 RX6 yX6_given wsX6_given) := goodIn_app (goodIn_of _ (by decide +kernel)) ggL_law_X6_given
set_option maxRecDepth 20000 in
theorem ggL_law_X5_just : GoodIn wsL_law wsX5_just := goodIn_r _ [559, 489, 27, 96, 97, 2, 98, 560, 561, 562, 26, 563, 564, 63, 495, 496, 497, 498, 61, 499, 500, 501, 502, 59, 60, 503, 504, 505, 506, 507, 508, 509, 510, 511, 512, 513, 64, 514, 515, 516, 517, 518, 519, 520, 521, 522, 523, 524, 525, 335, 526, 527, 400, 401, 528, 529, 530, 327, 328, 329, 330, 331, 332, 333, 334, 336, 651, 652, 653, 654, 655, 697, 698, 699, 700, 701, 702] (by decide +kernel) (by decide +kernel)
set_option maxRecDepth 20000 in
theorem gL_law_X5_just : GoodIn wsL_law (wsV RL 101 RX5 yX5_just wsX5_just) := goodIn_app (goodIn_of _ (by decide +kernel)) ggL_law_X5_just
set_option maxRecDepth 20000 in
theorem ggL_law_X6_just : GoodIn wsL_law wsX6_just := goodIn_r _ [568, 539, 535, 484, 86, 536, 537, 5, 538, 116, 117, 118, 540, 541, 542, 543, 87, 544, 545, 546, 547, 548, 549, 550, 551, 84, 85, 346, 347, 348, 349, 350, 351, 656, 657, 658, 659, 660, 661, 662, 663, 664, 665, 666, 667, 668, 669, 670, 671, 672, 673, 674, 675, 676, 677, 678] (by decide +kernel) (by decide +kernel)
set_option maxRecDepth 20000 in
theorem gL_law_X6_just : GoodIn wsL_law (wsV RL 105 RX6 yX6_just wsX6_just) := goodIn_app (goodIn_of _ (by decide +kernel)) ggL_law_X6_just
set_option maxRecDepth 20000 in
theorem ggL_law_X5_least : GoodIn wsL_law wsX5_least := goodIn_r _ [572, 27, 96, 97, 2, 98, 528, 529, 26, 530, 490, 491, 492, 493, 494, 495, 496, 497, 498, 61, 63, 499, 500, 501, 502, 59, 60, 503, 504, 505, 506, 507, 508, 509, 510, 511, 512, 513, 64, 514, 515, 516, 517, 518, 519, 520, 521, 522, 523, 524, 525, 335, 526, 527, 400, 401, 651, 652, 653, 654, 655, 697, 698, 699, 700, 701, 702] (by decide +kernel) (by decide +kernel)
set_option maxRecDepth 20000 in
theorem gL_law_X5_least : GoodIn wsL_law (wsV RL 106 RX5 yX5_least wsX5_least) := goodIn_app (goodIn_of _ (by decide +kernel)) ggL_law_X5_least
set_option maxRecDepth 20000 in
theorem ggL_law_X6_least : GoodIn wsL_law wsX6_least := goodIn_r _ [576, 458, 536, 537, 5, 538, 539, 116, 117, 118, 540, 541, 542, 543, 86, 87, 544, 545, 546, 547, 548, 549, 550, 551, 84, 85, 552, 553, 554, 555, 656, 657, 658, 659, 660, 661, 662, 663, 664, 665, 666, 667, 668, 669, 670, 671, 672, 673, 674, 675, 676, 677, 678] (by decide +kernel) (by decide +kernel)
set_option maxRecDepth 20000 in
theorem gL_law_X6_least : GoodIn wsL_law (wsV RL 109 RX6 yX6_least wsX6_least) := goodIn_app (goodIn_of _ (by decide +kernel)) ggL_law_X6_least
set_option maxRecDepth 20000 in
theorem ggL_law_X5_demand : GoodIn wsL_law wsX5_demand := goodIn_r _ [580, 31, 581, 96, 97, 2, 98, 582, 583, 584, 30, 585, 586, 68, 69, 587, 588, 70, 589, 400, 335, 401, 590, 591, 592, 593, 594, 595, 596, 597, 598, 599, 600, 651, 652, 653, 654, 655, 703, 704, 705, 706, 707, 708] (by decide +kernel) (by decide +kernel)
set_option maxRecDepth 20000 in
theorem gL_law_X5_demand : GoodIn wsL_law (wsV RL 110 RX5 yX5_demand wsX5_demand) := goodIn_app (goodIn_of _ (by decide +kernel)) ggL_law_X5_demand
set_option maxRecDepth 20000 in
theorem ggL_law_X6_demand : GoodIn wsL_law wsX6_demand := goodIn_r _ [604, 605, 113, 88, 116, 117, 5, 118, 656, 657, 658, 659, 660, 661, 662, 663, 664, 665, 666, 667, 668, 669, 670, 671, 672, 673, 674, 675, 676, 677, 678] (by decide +kernel) (by decide +kernel)
set_option maxRecDepth 20000 in
theorem gL_law_X6_demand : GoodIn wsL_law (wsV RL 113 RX6 yX6_demand wsX6_demand) := goodIn_app (goodIn_of _ (by decide +kernel)) ggL_law_X6_demand
set_option maxRecDepth 20000 in
theorem ggL_law_X5_at : GoodIn wsL_law wsX5_at := goodIn_r _ [609, 31, 610, 611, 96, 97, 2, 98, 651, 652, 653, 654, 655, 703, 704, 705, 706, 707, 708] (by decide +kernel) (by decide +kernel)
set_option maxRecDepth 20000 in
theorem gL_law_X5_at : GoodIn wsL_law (wsV RL 114 RX5 yX5_at wsX5_at) := goodIn_app (goodIn_of _ (by decide +kernel)) ggL_law_X5_at
set_option maxRecDepth 20000 in
theorem ggL_law_X6_at : GoodIn wsL_law wsX6_at := goodIn_r _ [615, 616, 90, 617, 618, 619, 5, 620, 88, 89, 116, 117, 118, 656, 657, 658, 659, 660, 661, 662, 663, 664, 665, 666, 667, 668, 669, 670, 671, 672, 673, 674, 675, 676, 677, 678] (by decide +kernel) (by decide +kernel)
set_option maxRecDepth 20000 in
theorem gL_law_X6_at : GoodIn wsL_law (wsV RL 117 RX6 yX6_at wsX6_at) := goodIn_app (goodIn_of _ (by decide +kernel)) ggL_law_X6_at
set_option maxRecDepth 20000 in
theorem ggL_law_X5_rough : GoodIn wsL_law wsX5_rough := goodIn_r _ [624, 31, 625, 651, 652, 653, 654, 655, 703, 704, 705, 706, 707, 708] (by decide +kernel) (by decide +kernel)
set_option maxRecDepth 20000 in
theorem gL_law_X5_rough : GoodIn wsL_law (wsV RL 118 RX5 yX5_rough wsX5_rough) := goodIn_app (goodIn_of _ (by decide +kernel)) ggL_law_X5_rough
set_option maxRecDepth 20000 in
theorem ggL_law_X6_rough : GoodIn wsL_law wsX6_rough := goodIn_r _ [629, 617, 618, 619, 5, 620, 616, 88, 89, 90, 656, 657, 658, 659, 660, 661, 662, 663, 664, 665, 666, 667, 668, 669, 670, 671, 672, 673, 674, 675, 676, 677, 678] (by decide +kernel) (by decide +kernel)
set_option maxRecDepth 20000 in
theorem gL_law_X6_rough : GoodIn wsL_law (wsV RL 121 RX6 yX6_rough wsX6_rough) := goodIn_app (goodIn_of _ (by decide +kernel)) ggL_law_X6_rough
set_option maxRecDepth 20000 in
theorem ggL_law_X5_changes : GoodIn wsL_law wsX5_changes := goodIn_r _ [633, 31, 634, 651, 652, 653, 654, 655, 703, 704, 705, 706, 707, 708] (by decide +kernel) (by decide +kernel)
set_option maxRecDepth 20000 in
theorem gL_law_X5_changes : GoodIn wsL_law (wsV RL 122 RX5 yX5_changes wsX5_changes) := goodIn_app (goodIn_of _ (by decide +kernel)) ggL_law_X5_changes
set_option maxRecDepth 20000 in
theorem ggL_law_X6_changes : GoodIn wsL_law wsX6_changes := goodIn_r _ [638, 616, 90, 617, 618, 619, 5, 620, 88, 89, 656, 657, 658, 659, 660, 661, 662, 663, 664, 665, 666, 667, 668, 669, 670, 671, 672, 673, 674, 675, 676, 677, 678] (by decide +kernel) (by decide +kernel)
set_option maxRecDepth 20000 in
theorem gL_law_X6_changes : GoodIn wsL_law (wsV RL 125 RX6 yX6_changes wsX6_changes) := goodIn_app (goodIn_of _ (by decide +kernel)) ggL_law_X6_changes
set_option maxRecDepth 20000 in
theorem ggL_law_X5_total : GoodIn wsL_law wsX5_total := goodIn_r _ [642, 15, 95, 123, 27, 478, 31, 610, 643, 644, 645, 14, 646, 132, 39, 223, 224, 225, 226, 108, 227, 200, 201, 202, 38, 651, 652, 653, 654, 655, 679, 680, 681, 682, 683, 684, 697, 698, 699, 700, 701, 702, 703, 704, 705, 706, 707, 708] (by decide +kernel) (by decide +kernel)
set_option maxRecDepth 20000 in
theorem gL_law_X5_total : GoodIn wsL_law (wsV RL 126 RX5 yX5_total wsX5_total) := goodIn_app (goodIn_of _ (by decide +kernel)) ggL_law_X5_total
set_option maxRecDepth 20000 in
theorem ggL_law_X6_total : GoodIn wsL_law wsX6_total := goodIn_r _ [650, 154, 78, 114, 484, 616, 617, 618, 619, 5, 620, 88, 89, 90, 240, 241, 242, 243, 207, 208, 209, 210, 77, 656, 657, 658, 659, 660, 661, 662, 663, 664, 665, 666, 667, 668, 669, 670, 671, 672, 673, 674, 675, 676, 677, 678] (by decide +kernel) (by decide +kernel)
set_option maxRecDepth 20000 in
theorem gL_law_X6_total : GoodIn wsL_law (wsV RL 129 RX6 yX6_total wsX6_total) := goodIn_app (goodIn_of _ (by decide +kernel)) ggL_law_X6_total
