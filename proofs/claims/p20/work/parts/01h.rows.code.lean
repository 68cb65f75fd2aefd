set_option maxRecDepth 20000 in
theorem ggL_build_X3_init : GoodIn wsL_build wsX3_init := goodIn_r _ [8, 9, 10, 11, 12, 13, 14, 15, 16, 17, 18, 19, 20, 21, 22, 23, 3, 24, 152, 153, 154, 155, 156, 157, 158, 159, 160] (by decide +kernel) (by decide +kernel)
set_option maxRecDepth 20000 in
theorem gL_build_X3_init : GoodIn wsL_build (wsX3_init) := ggL_build_X3_init
set_option maxRecDepth 20000 in
theorem ggL_build_L_cell : GoodIn wsL_build wsL_cell := goodIn_r _ [28, 29] (by decide +kernel) (by decide +kernel)
set_option maxRecDepth 20000 in
theorem gL_build_L_cell : GoodIn wsL_build (va_wsS RL 12 yL_cell wsL_cell) := goodIn_app (goodIn_of _ (by decide +kernel)) ggL_build_L_cell
set_option maxRecDepth 20000 in
theorem ggL_build_L_below : GoodIn wsL_build wsL_below := goodIn_r _ [32, 33] (by decide +kernel) (by decide +kernel)
set_option maxRecDepth 20000 in
theorem gL_build_L_below : GoodIn wsL_build (va_wsS RL 18 yL_below wsL_below) := goodIn_app (goodIn_of _ (by decide +kernel)) ggL_build_L_below
set_option maxRecDepth 20000 in
theorem ggL_build_X2_setFlow : GoodIn wsL_build wsX2_setFlow := goodIn_ca (goodIn_ca (goodIn_r _ [38, 39, 40, 41, 42, 43, 44, 45, 37, 46, 161, 162, 163, 164, 165, 166, 167, 168, 169, 170, 171, 172, 173, 174, 175, 176, 177, 178] (by decide +kernel) (by decide +kernel)) (goodIn_sub (fun _ h => List.mem_cons_of_mem _ (List.mem_append_left _ (List.mem_append_left _ (List.mem_append_right _ h)))) (by decide +kernel))) (goodIn_sub (fun _ h => List.mem_cons_of_mem _ (List.mem_append_left _ (List.mem_append_right _ h))) (by decide +kernel))
set_option maxRecDepth 20000 in
theorem gL_build_X2_setFlow : GoodIn wsL_build (wsV RL 22 RX2 yX2_setFlow wsX2_setFlow) := goodIn_app (goodIn_of _ (by decide +kernel)) ggL_build_X2_setFlow
set_option maxRecDepth 20000 in
theorem ggL_build_X2_setHardness : GoodIn wsL_build wsX2_setHardness := goodIn_ca (goodIn_ca (goodIn_r _ [50, 39, 40, 41, 42, 43, 51, 52, 37, 53, 54, 55, 56, 44, 45, 46, 161, 162, 163, 164, 165, 166, 167, 168, 169, 170, 171, 172, 173, 174, 175, 176, 177, 178] (by decide +kernel) (by decide +kernel)) (goodIn_sub (fun _ h => List.mem_cons_of_mem _ (List.mem_append_left _ (List.mem_append_left _ (List.mem_append_right _ h)))) (by decide +kernel))) (goodIn_sub (fun _ h => List.mem_cons_of_mem _ (List.mem_append_left _ (List.mem_append_right _ h))) (by decide +kernel))
set_option maxRecDepth 20000 in
theorem gL_build_X2_setHardness : GoodIn wsL_build (wsV RL 31 RX2 yX2_setHardness wsX2_setHardness) := goodIn_app (goodIn_of _ (by decide +kernel)) ggL_build_X2_setHardness
set_option maxRecDepth 20000 in
theorem ggL_build_L_slip : GoodIn wsL_build wsL_slip := goodIn_ca (goodIn_ca (goodIn_ca (goodIn_r _ [59, 60, 30, 31, 27, 32, 33, 61, 62, 63, 3, 64, 65, 66, 67, 68, 20, 15, 69, 70, 71, 72, 73, 74, 75, 76, 77, 78, 79, 80, 81, 82, 83, 19, 84, 85, 86, 87, 12, 16, 17, 21, 22, 23, 24, 88, 89, 90, 37, 91, 39, 40, 41, 42, 92, 93, 43, 94, 95, 96, 97, 98, 99, 100, 101, 102, 103, 104, 105, 106, 107, 108, 109, 110, 111, 112, 113, 114, 115, 116, 117, 118, 119, 120, 55, 56, 121, 122, 123, 124, 125, 126, 127, 128, 129, 130, 131, 132, 133, 134, 135, 136, 137, 138, 139, 140, 141, 142, 143, 144, 145, 146, 147, 148, 149, 150, 151, 152, 153, 154, 155, 156, 157, 158, 159, 160, 161, 162, 163, 164, 165, 166, 167, 168, 169, 170, 171, 172, 173, 174, 175, 176, 177, 178] (by decide +kernel) (by decide +kernel)) (goodIn_sub (fun _ h => List.mem_cons_of_mem _ (List.mem_append_left _ (List.mem_append_left _ (List.mem_append_right _ h)))) (by decide +kernel))) (goodIn_sub (fun _ h => List.mem_cons_of_mem _ (List.mem_append_left _ (List.mem_append_right _ h))) (by decide +kernel))) (goodIn_sub (fun _ h => List.mem_cons_of_mem _ (List.mem_append_right _ h)) (by decide +kernel))
set_option maxRecDepth 20000 in
theorem gL_build_L_slip : GoodIn wsL_build (va_wsS RL 38 yL_slip wsL_slip) := goodIn_app (goodIn_of _ (by decide +kernel)) ggL_build_L_slip
set_option maxRecDepth 20000 in
theorem ggL_slip_L_below : GoodIn wsL_slip wsL_below := goodIn_r _ [5, 6] (by decide +kernel) (by decide +kernel)
set_option maxRecDepth 20000 in
theorem gL_slip_L_below : GoodIn wsL_slip (va_wsS RL 18 yL_below wsL_below) := goodIn_app (goodIn_of _ (by decide +kernel)) ggL_slip_L_below
set_option maxRecDepth 20000 in
theorem ggL_slip_X3_can : GoodIn wsL_slip wsX3_can := goodIn_r _ [11, 12, 13, 14, 15, 16, 17, 18, 19, 20, 10, 21, 22, 23, 24, 25, 26, 27, 28, 29, 30, 31, 32, 33, 117, 118, 119, 120, 121, 122, 123, 124, 125] (by decide +kernel) (by decide +kernel)
set_option maxRecDepth 20000 in
theorem gL_slip_X3_can : GoodIn wsL_slip (wsV RL 45 RX3 yX3_can wsX3_can) := goodIn_app (goodIn_of _ (by decide +kernel)) ggL_slip_X3_can
set_option maxRecDepth 20000 in
theorem ggL_slip_X3_bulge : GoodIn wsL_slip wsX3_bulge := goodIn_r _ [37, 16, 38, 39, 40, 26, 27, 10, 28, 41, 42, 43, 44, 33, 117, 118, 119, 120, 121, 122, 123, 124, 125] (by decide +kernel) (by decide +kernel)
set_option maxRecDepth 20000 in
theorem gL_slip_X3_bulge : GoodIn wsL_slip (wsV RL 49 RX3 yX3_bulge wsX3_bulge) := goodIn_app (goodIn_of _ (by decide +kernel)) ggL_slip_X3_bulge
set_option maxRecDepth 20000 in
theorem ggL_slip_X2_slip : GoodIn wsL_slip wsX2_slip := goodIn_ca (goodIn_ca (goodIn_ca (goodIn_r _ [49, 50, 51, 52, 53, 54, 55, 56, 57, 58, 59, 60, 61, 62, 63, 64, 65, 66, 67, 68, 69, 70, 71, 72, 73, 74, 75, 76, 48, 77, 78, 79, 80, 81, 82, 83, 84, 85, 86, 87, 88, 89, 90, 91, 92, 93, 94, 95, 96, 97, 98, 99, 100, 101, 102, 103, 104, 105, 106, 14, 107, 108, 109, 110, 111, 112, 113, 114, 115, 116, 126, 127, 128, 129, 130, 131, 132, 133, 134, 135, 136, 137, 138, 139, 140, 141, 142, 143] (by decide +kernel) (by decide +kernel)) (goodIn_sub (fun _ h => List.mem_cons_of_mem _ (List.mem_append_left _ (List.mem_append_left _ (List.mem_append_right _ h)))) (by decide +kernel))) (goodIn_sub (fun _ h => List.mem_cons_of_mem _ (List.mem_append_left _ (List.mem_append_right _ h))) (by decide +kernel))) (goodIn_sub (fun _ h => List.mem_cons_of_mem _ (List.mem_append_right _ h)) (by decide +kernel))
set_option maxRecDepth 20000 in
theorem gL_slip_X2_slip : GoodIn wsL_slip (wsV RL 53 RX2 yX2_slip wsX2_slip) := goodIn_app (goodIn_of _ (by decide +kernel)) ggL_slip_X2_slip
set_option maxRecDepth 20000 in
theorem ggL_act_L_below : GoodIn wsL_act wsL_below := goodIn_r _ [8, 9] (by decide +kernel) (by decide +kernel)
set_option maxRecDepth 20000 in
theorem gL_act_L_below : GoodIn wsL_act (va_wsS RL 18 yL_below wsL_below) := goodIn_app (goodIn_of _ (by decide +kernel)) ggL_act_L_below
set_option maxRecDepth 20000 in
theorem ggL_act_L_slip : GoodIn wsL_act wsL_slip := goodIn_ca (goodIn_ca (goodIn_ca (goodIn_r _ [12, 3, 5, 6, 7, 8, 9, 13, 14, 15, 16, 17, 18, 19, 20, 21, 22, 23, 24, 25, 26, 27, 28, 29, 30, 31, 32, 33, 34, 35, 36, 37, 38, 39, 40, 41, 42, 43, 44, 45, 46, 47, 48, 49, 50, 51, 52, 53, 54, 55, 56, 57, 58, 59, 60, 61, 62, 63, 64, 65, 66, 67, 68, 69, 70, 71, 72, 73, 74, 75, 76, 77, 78, 79, 80, 81, 82, 83, 84, 85, 86, 87, 88, 89, 90, 91, 92, 93, 94, 95, 96, 97, 98, 99, 100, 101, 102, 103, 104, 105, 106, 107, 108, 109, 110, 111, 112, 113, 114, 115, 116, 117, 118, 119, 120, 121, 122, 167, 168, 169, 170, 171, 172, 173, 174, 175, 176, 177, 178, 179, 180, 181, 182, 183, 184, 185, 186, 187, 188, 189, 190, 191, 192, 193] (by decide +kernel) (by decide +kernel)) (goodIn_sub (fun _ h => List.mem_cons_of_mem _ (List.mem_append_left _ (List.mem_append_left _ (List.mem_append_right _ h)))) (by decide +kernel))) (goodIn_sub (fun _ h => List.mem_cons_of_mem _ (List.mem_append_left _ (List.mem_append_right _ h))) (by decide +kernel))) (goodIn_sub (fun _ h => List.mem_cons_of_mem _ (List.mem_append_right _ h)) (by decide +kernel))
set_option maxRecDepth 20000 in
theorem gL_act_L_slip : GoodIn wsL_act (va_wsS RL 38 yL_slip wsL_slip) := goodIn_app (goodIn_of _ (by decide +kernel)) ggL_act_L_slip
set_option maxRecDepth 20000 in
theorem ggL_act_X2_setStones : GoodIn wsL_act wsX2_setStones := goodIn_ca (goodIn_r _ [126, 56, 57, 62, 127, 128, 54, 129, 130, 90, 91, 131, 64, 132, 133, 89, 176, 177, 178, 179, 180, 181, 182, 183, 184, 185, 186, 187, 188, 189, 190, 191, 192, 193] (by decide +kernel) (by decide +kernel)) (goodIn_sub (fun _ h => List.mem_cons_of_mem _ (List.mem_append_left _ (List.mem_append_left _ (List.mem_append_right _ h)))) (by decide +kernel))
set_option maxRecDepth 20000 in
theorem gL_act_X2_setStones : GoodIn wsL_act (wsV RL 59 RX2 yX2_setStones wsX2_setStones) := goodIn_app (goodIn_of _ (by decide +kernel)) ggL_act_X2_setStones
set_option maxRecDepth 20000 in
theorem ggL_act_X2_setHardness : GoodIn wsL_act wsX2_setHardness := goodIn_ca (goodIn_ca (goodIn_r _ [137, 56, 57, 58, 59, 62, 127, 128, 54, 129, 130, 90, 91, 138, 139, 140, 176, 177, 178, 179, 180, 181, 182, 183, 184, 185, 186, 187, 188, 189, 190, 191, 192, 193] (by decide +kernel) (by decide +kernel)) (goodIn_sub (fun _ h => List.mem_cons_of_mem _ (List.mem_append_left _ (List.mem_append_left _ (List.mem_append_right _ h)))) (by decide +kernel))) (goodIn_sub (fun _ h => List.mem_cons_of_mem _ (List.mem_append_left _ (List.mem_append_right _ h))) (by decide +kernel))
set_option maxRecDepth 20000 in
theorem gL_act_X2_setHardness : GoodIn wsL_act (wsV RL 31 RX2 yX2_setHardness wsX2_setHardness) := goodIn_app (goodIn_of _ (by decide +kernel)) ggL_act_X2_setHardness
set_option maxRecDepth 20000 in
theorem ggL_act_X3_neck : GoodIn wsL_act wsX3_neck := goodIn_r _ [144, 44, 22, 32, 33, 16, 34, 35, 36, 37, 38, 39, 167, 168, 169, 170, 171, 172, 173, 174, 175] (by decide +kernel) (by decide +kernel)
set_option maxRecDepth 20000 in
theorem gL_act_X3_neck : GoodIn wsL_act (wsV RL 63 RX3 yX3_neck wsX3_neck) := goodIn_app (goodIn_of _ (by decide +kernel)) ggL_act_X3_neck
set_option maxRecDepth 20000 in
theorem ggL_act_X3_through : GoodIn wsL_act wsX3_through := goodIn_r _ [148, 22, 44, 46, 149, 47, 48, 49, 16, 50, 39, 167, 168, 169, 170, 171, 172, 173, 174, 175] (by decide +kernel) (by decide +kernel)
set_option maxRecDepth 20000 in
theorem gL_act_X3_through : GoodIn wsL_act (wsV RL 67 RX3 yX3_through wsX3_through) := goodIn_app (goodIn_of _ (by decide +kernel)) ggL_act_X3_through
set_option maxRecDepth 20000 in
theorem ggL_act_X2_dig : GoodIn wsL_act wsX2_dig := goodIn_ca (goodIn_ca (goodIn_r _ [153, 56, 57, 60, 61, 62, 63, 64, 65, 66, 67, 154, 155, 156, 81, 76, 114, 54, 115, 116, 82, 83, 157, 158, 159, 88, 105, 160, 95, 96, 97, 98, 161, 162, 77, 78, 79, 80, 90, 91, 107, 108, 109, 110, 111, 112, 20, 113, 71, 117, 118, 119, 120, 121, 122, 176, 177, 178, 179, 180, 181, 182, 183, 184, 185, 186, 187, 188, 189, 190, 191, 192, 193] (by decide +kernel) (by decide +kernel)) (goodIn_sub (fun _ h => List.mem_cons_of_mem _ (List.mem_append_left _ (List.mem_append_left _ (List.mem_append_right _ h)))) (by decide +kernel))) (goodIn_sub (fun _ h => List.mem_cons_of_mem _ (List.mem_append_right _ h)) (by decide +kernel))
set_option maxRecDepth 20000 in
theorem gL_act_X2_dig : GoodIn wsL_act (wsV RL 70 RX2 yX2_dig wsX2_dig) := goodIn_app (goodIn_of _ (by decide +kernel)) ggL_act_X2_dig
set_option maxRecDepth 20000 in
theorem ggL_act_X2_setFlow : GoodIn wsL_act wsX2_setFlow := goodIn_ca (goodIn_ca (goodIn_r _ [166, 56, 57, 58, 59, 62, 138, 139, 54, 140, 176, 177, 178, 179, 180, 181, 182, 183, 184, 185, 186, 187, 188, 189, 190, 191, 192, 193] (by decide +kernel) (by decide +kernel)) (goodIn_sub (fun _ h => List.mem_cons_of_mem _ (List.mem_append_left _ (List.mem_append_left _ (List.mem_append_right _ h)))) (by decide +kernel))) (goodIn_sub (fun _ h => List.mem_cons_of_mem _ (List.mem_append_left _ (List.mem_append_right _ h))) (by decide +kernel))
set_option maxRecDepth 20000 in
theorem gL_act_X2_setFlow : GoodIn wsL_act (wsV RL 22 RX2 yX2_setFlow wsX2_setFlow) := goodIn_app (goodIn_of _ (by decide +kernel)) ggL_act_X2_setFlow
set_option maxRecDepth 20000 in
theorem ggL_law_X2_init : GoodIn wsL_law wsX2_init := goodIn_r _ [14, 15, 16, 17, 4, 18, 19, 20, 21, 22, 23, 24, 25, 26, 27, 28, 29, 30, 3, 31, 32, 33, 34, 35, 36, 37, 38, 39, 40, 41, 42, 43, 44, 45, 46, 47, 48, 8, 49, 50, 2, 51, 52, 53, 54, 55, 56, 57, 58, 59, 60, 61, 62, 63, 64, 65, 66, 67, 68, 69, 70, 71, 72, 73, 74, 75, 348, 349, 350, 351, 361, 362, 363, 364, 365, 366, 367, 368, 369, 370, 371, 372, 373, 374, 375, 376, 377, 378, 379] (by decide +kernel) (by decide +kernel)
set_option maxRecDepth 20000 in
theorem gL_law_X2_init : GoodIn wsL_law (wsX2_init) := ggL_law_X2_init
set_option maxRecDepth 20000 in
theorem ggL_law_L_build : GoodIn wsL_law wsL_build := goodIn_ca (goodIn_ca (goodIn_ca (goodIn_r _ [79, 80, 81, 82, 5, 83, 84, 85, 86, 87, 16, 17, 3, 88, 4, 89, 90, 91, 92, 93, 94, 95, 96, 97, 98, 99, 100, 78, 101, 102, 103, 104, 105, 106, 107, 108, 109, 2, 110, 111, 112, 113, 114, 22, 115, 116, 117, 118, 119, 120, 121, 122, 123, 124, 125, 50, 51, 126, 127, 128, 129, 130, 131, 132, 133, 134, 7, 8, 9, 135, 136, 137, 138, 139, 140, 141, 142, 143, 144, 145, 146, 147, 148, 149, 150, 151, 152, 153, 154, 155, 156, 157, 158, 159, 57, 21, 58, 59, 42, 160, 161, 162, 39, 163, 164, 165, 166, 56, 52, 53, 54, 55, 37, 63, 64, 167, 168, 169, 170, 38, 33, 171, 172, 173, 174, 175, 176, 177, 178, 179, 180, 181, 182, 32, 34, 35, 43, 44, 45, 46, 47, 48, 49, 60, 61, 62, 65, 66, 67, 68, 40, 41, 352, 353, 354, 355, 356, 357, 358, 359, 360, 348, 349, 350, 351, 361, 362, 363, 364, 365, 366, 367, 368, 369, 370, 371, 372, 373, 374] (by decide +kernel) (by decide +kernel)) (goodIn_sub (fun _ h => List.mem_append_left _ (List.mem_append_left _ (List.mem_append_right _ h))) (by decide +kernel))) (goodIn_sub (fun _ h => List.mem_append_left _ (List.mem_append_right _ h)) (by decide +kernel))) (goodIn_sub (fun _ h => List.mem_append_right _ h) (by decide +kernel))
set_option maxRecDepth 20000 in
theorem gL_law_L_build : GoodIn wsL_law (va_wsS RL 74 yL_build wsL_build) := goodIn_app (goodIn_of _ (by decide +kernel)) ggL_law_L_build
set_option maxRecDepth 20000 in
theorem ggL_law_L_cell : GoodIn wsL_law wsL_cell := goodIn_r _ [101, 102] (by decide +kernel) (by decide +kernel)
set_option maxRecDepth 20000 in
theorem gL_law_L_cell : GoodIn wsL_law (va_wsS RL 12 yL_cell wsL_cell) := goodIn_app (goodIn_of _ (by decide +kernel)) ggL_law_L_cell
set_option maxRecDepth 20000 in
theorem ggL_law_L_below : GoodIn wsL_law wsL_below := goodIn_r _ [105, 106] (by decide +kernel) (by decide +kernel)
set_option maxRecDepth 20000 in
theorem gL_law_L_below : GoodIn wsL_law (va_wsS RL 18 yL_below wsL_below) := goodIn_app (goodIn_of _ (by decide +kernel)) ggL_law_L_below
set_option maxRecDepth 20000 in
theorem ggL_law_X2_addFarm : GoodIn wsL_law wsX2_addFarm := goodIn_ca (goodIn_ca (goodIn_r _ [186, 113, 114, 158, 159, 27, 187, 188, 2, 189, 190, 26, 191, 192, 193, 72, 73, 74, 75, 348, 349, 350, 351, 375, 376, 377, 378, 379] (by decide +kernel) (by decide +kernel)) (goodIn_sub (fun _ h => List.mem_append_left _ (List.mem_append_right _ h)) (by decide +kernel))) (goodIn_sub (fun _ h => List.mem_append_right _ h) (by decide +kernel))
set_option maxRecDepth 20000 in
theorem gL_law_X2_addFarm : GoodIn wsL_law (wsV RL 78 RX2 yX2_addFarm wsX2_addFarm) := goodIn_app (goodIn_of _ (by decide +kernel)) ggL_law_X2_addFarm
set_option maxRecDepth 20000 in
theorem ggL_law_L_act : GoodIn wsL_law wsL_act := goodIn_ca (goodIn_ca (goodIn_ca (goodIn_r _ [196, 11, 83, 129, 5, 103, 104, 78, 105, 106, 126, 127, 128, 130, 131, 132, 82, 133, 134, 7, 8, 9, 94, 89, 135, 136, 137, 138, 139, 140, 141, 142, 143, 144, 145, 146, 147, 148, 149, 93, 150, 151, 152, 153, 3, 90, 91, 95, 96, 97, 98, 154, 155, 156, 2, 157, 111, 112, 113, 114, 158, 159, 22, 57, 21, 58, 59, 42, 160, 161, 162, 39, 163, 164, 165, 166, 56, 52, 53, 54, 55, 37, 63, 64, 167, 168, 169, 170, 38, 33, 50, 51, 171, 172, 173, 174, 175, 176, 177, 178, 179, 180, 181, 182, 32, 34, 35, 43, 44, 45, 46, 47, 48, 49, 60, 61, 62, 65, 66, 67, 68, 40, 41, 197, 198, 199, 200, 122, 123, 124, 125, 201, 202, 203, 118, 119, 120, 121, 115, 116, 117, 204, 205, 206, 207, 208, 209, 210, 211, 212, 213, 214, 215, 216, 217, 218, 219, 220, 221, 222, 223, 224, 225, 107, 108, 109, 110, 352, 353, 354, 355, 356, 357, 358, 359, 360, 348, 349, 350, 351, 361, 362, 363, 364, 365, 366, 367, 368, 369, 370, 371, 372, 373, 374] (by decide +kernel) (by decide +kernel)) (goodIn_sub (fun _ h => List.mem_append_left _ (List.mem_append_left _ (List.mem_append_right _ h))) (by decide +kernel))) (goodIn_sub (fun _ h => List.mem_append_left _ (List.mem_append_right _ h)) (by decide +kernel))) (goodIn_sub (fun _ h => List.mem_append_right _ h) (by decide +kernel))
set_option maxRecDepth 20000 in
theorem gL_law_L_act : GoodIn wsL_law (va_wsS RL 82 yL_act wsL_act) := goodIn_app (goodIn_of _ (by decide +kernel)) ggL_law_L_act
set_option maxRecDepth 20000 in
theorem ggL_law_X2_count : GoodIn wsL_law wsX2_count := goodIn_ca (goodIn_r _ [229, 111, 112, 230, 231, 232, 2, 233, 22, 27, 234, 21, 235, 236, 34, 223, 201, 202, 203, 33, 237, 238, 239, 42, 163, 164, 165, 166, 39, 56, 57, 58, 59, 240, 241, 242, 32, 348, 349, 350, 351, 361, 362, 363, 364, 365, 366, 367, 368, 369, 370, 371, 372, 373, 374, 375, 376, 377, 378, 379] (by decide +kernel) (by decide +kernel)) (goodIn_sub (fun _ h => List.mem_append_left _ (List.mem_append_left _ (List.mem_append_right _ h))) (by decide +kernel))
set_option maxRecDepth 20000 in
theorem gL_law_X2_count : GoodIn wsL_law (wsV RL 85 RX2 yX2_count wsX2_count) := goodIn_app (goodIn_of _ (by decide +kernel)) ggL_law_X2_count
set_option maxRecDepth 20000 in
theorem ggL_law_X2_cell : GoodIn wsL_law wsX2_cell := goodIn_ca (goodIn_r _ [246, 111, 112, 22, 27, 122, 123, 2, 124, 125, 50, 51, 247, 21, 248, 249, 34, 223, 47, 48, 8, 49, 250, 26, 251, 252, 193, 72, 74, 73, 75, 348, 349, 350, 351, 361, 362, 363, 364, 365, 366, 367, 368, 369, 370, 371, 372, 373, 374, 375, 376, 377, 378, 379] (by decide +kernel) (by decide +kernel)) (goodIn_sub (fun _ h => List.mem_append_left _ (List.mem_append_left _ (List.mem_append_right _ h))) (by decide +kernel))
set_option maxRecDepth 20000 in
theorem gL_law_X2_cell : GoodIn wsL_law (wsV RL 89 RX2 yX2_cell wsX2_cell) := goodIn_app (goodIn_of _ (by decide +kernel)) ggL_law_X2_cell
set_option maxRecDepth 20000 in
theorem ggL_law_X2_course : GoodIn wsL_law wsX2_course := goodIn_ca (goodIn_r _ [256, 111, 112, 22, 57, 21, 58, 59, 42, 164, 165, 166, 39, 56, 348, 349, 350, 351, 361, 362, 363, 364, 365, 366, 367, 368, 369, 370, 371, 372, 373, 374] (by decide +kernel) (by decide +kernel)) (goodIn_sub (fun _ h => List.mem_append_left _ (List.mem_append_left _ (List.mem_append_right _ h))) (by decide +kernel))
set_option maxRecDepth 20000 in
theorem gL_law_X2_course : GoodIn wsL_law (wsV RL 91 RX2 yX2_course wsX2_course) := goodIn_app (goodIn_of _ (by decide +kernel)) ggL_law_X2_course
set_option maxRecDepth 20000 in
theorem ggL_law_X2_foresee : GoodIn wsL_law wsX2_foresee := goodIn_ca (goodIn_ca (goodIn_r _ [260, 113, 114, 111, 112, 23, 22, 261, 21, 262, 263, 31, 174, 175, 176, 177, 32, 33, 34, 36, 37, 38, 39, 40, 41, 42, 223, 224, 35, 264, 265, 266, 267, 268, 269, 270, 271, 272, 273, 274, 167, 168, 169, 170, 50, 2, 51, 275, 276, 277, 278, 178, 160, 161, 162, 163, 164, 165, 166, 56, 57, 58, 59, 52, 53, 54, 55, 63, 64, 279, 171, 172, 173, 179, 180, 181, 182, 43, 44, 45, 46, 47, 48, 8, 49, 60, 61, 62, 65, 66, 67, 68, 280, 281, 282, 283, 284, 285, 286, 287, 288, 289, 290, 291, 292, 293, 294, 295, 296, 220, 221, 222, 225, 217, 218, 219, 348, 349, 350, 351, 361, 362, 363, 364, 365, 366, 367, 368, 369, 370, 371, 372, 373, 374] (by decide +kernel) (by decide +kernel)) (goodIn_sub (fun _ h => List.mem_append_left _ (List.mem_append_right _ h)) (by decide +kernel))) (goodIn_sub (fun _ h => List.mem_append_left _ (List.mem_append_left _ (List.mem_append_right _ h))) (by decide +kernel))
set_option maxRecDepth 20000 in
theorem gL_law_X2_foresee : GoodIn wsL_law (wsV RL 93 RX2 yX2_foresee wsX2_foresee) := goodIn_app (goodIn_of _ (by decide +kernel)) ggL_law_X2_foresee
set_option maxRecDepth 20000 in
theorem ggL_law_X2_loses : GoodIn wsL_law wsX2_loses := goodIn_ca (goodIn_r _ [300, 111, 112, 27, 22, 23, 301, 26, 302, 303, 193, 304, 305, 306, 73, 75, 72, 74, 307, 123, 2, 124, 308, 309, 310, 50, 51, 247, 21, 248, 249, 34, 223, 47, 48, 8, 49, 261, 262, 263, 31, 174, 175, 176, 177, 32, 33, 36, 37, 38, 39, 40, 41, 42, 224, 35, 264, 265, 266, 267, 268, 269, 270, 271, 272, 273, 274, 167, 168, 169, 170, 275, 276, 277, 278, 178, 160, 161, 162, 163, 164, 165, 166, 56, 57, 58, 59, 52, 53, 54, 55, 63, 64, 279, 171, 172, 173, 179, 180, 181, 182, 43, 44, 45, 46, 60, 61, 62, 65, 66, 67, 68, 280, 281, 282, 283, 284, 285, 286, 287, 288, 289, 290, 291, 292, 293, 294, 295, 296, 220, 221, 222, 225, 217, 218, 219, 348, 349, 350, 351, 375, 376, 377, 378, 379, 361, 362, 363, 364, 365, 366, 367, 368, 369, 370, 371, 372, 373, 374] (by decide +kernel) (by decide +kernel)) (goodIn_sub (fun _ h => List.mem_append_left _ (List.mem_append_left _ (List.mem_append_right _ h))) (by decide +kernel))
set_option maxRecDepth 20000 in
theorem gL_law_X2_loses : GoodIn wsL_law (wsV RL 96 RX2 yX2_loses wsX2_loses) := goodIn_app (goodIn_of _ (by decide +kernel)) ggL_law_X2_loses
set_option maxRecDepth 20000 in
theorem ggL_law_X2_farm : GoodIn wsL_law wsX2_farm := goodIn_ca (goodIn_r _ [314, 111, 112, 27, 22, 301, 26, 302, 303, 193, 304, 305, 306, 73, 75, 72, 74, 307, 123, 2, 124, 308, 309, 310, 50, 51, 247, 21, 248, 249, 34, 223, 47, 48, 8, 49, 348, 349, 350, 351, 375, 376, 377, 378, 379, 361, 362, 363, 364, 365, 366, 367, 368, 369, 370, 371, 372, 373, 374] (by decide +kernel) (by decide +kernel)) (goodIn_sub (fun _ h => List.mem_append_left _ (List.mem_append_left _ (List.mem_append_right _ h))) (by decide +kernel))
set_option maxRecDepth 20000 in
theorem gL_law_X2_farm : GoodIn wsL_law (wsV RL 99 RX2 yX2_farm wsX2_farm) := goodIn_app (goodIn_of _ (by decide +kernel)) ggL_law_X2_farm
set_option maxRecDepth 20000 in
theorem ggL_law_X2_pass : GoodIn wsL_law wsX2_pass := goodIn_ca (goodIn_r _ [318, 113, 114, 22, 264, 21, 265, 266, 36, 223, 267, 268, 269, 270, 271, 272, 273, 274, 42, 41, 32, 167, 168, 169, 170, 38, 33, 50, 2, 51, 275, 276, 277, 278, 31, 40, 178, 160, 161, 162, 39, 163, 164, 165, 166, 56, 57, 58, 59, 52, 53, 54, 55, 37, 63, 64, 279, 171, 172, 173, 174, 175, 176, 177, 179, 180, 181, 182, 34, 35, 43, 44, 45, 46, 47, 48, 8, 49, 60, 61, 62, 65, 66, 67, 68, 280, 281, 282, 283, 284, 285, 286, 287, 288, 289, 290, 291, 292, 293, 294, 295, 296, 220, 221, 222, 224, 225, 217, 218, 219, 348, 349, 350, 351, 361, 362, 363, 364, 365, 366, 367, 368, 369, 370, 371, 372, 373, 374] (by decide +kernel) (by decide +kernel)) (goodIn_sub (fun _ h => List.mem_append_left _ (List.mem_append_right _ h)) (by decide +kernel))
set_option maxRecDepth 20000 in
theorem gL_law_X2_pass : GoodIn wsL_law (wsV RL 102 RX2 yX2_pass wsX2_pass) := goodIn_app (goodIn_of _ (by decide +kernel)) ggL_law_X2_pass
set_option maxRecDepth 20000 in
theorem ggL_law_X3_pass : GoodIn wsL_law wsX3_pass := goodIn_r _ [322, 92, 323, 94, 3, 89, 90, 88, 91, 324, 325, 326, 82, 327, 135, 136, 137, 138, 139, 140, 141, 142, 143, 144, 145, 146, 147, 148, 149, 93, 328, 131, 132, 133, 134, 7, 8, 9, 329, 151, 152, 153, 95, 96, 97, 98, 330, 331, 332, 333, 334, 205, 206, 207, 335, 209, 210, 211, 212, 352, 353, 354, 355, 356, 357, 358, 359, 360] (by decide +kernel) (by decide +kernel)
set_option maxRecDepth 20000 in
theorem gL_law_X3_pass : GoodIn wsL_law (wsV RL 105 RX3 yX3_pass wsX3_pass) := goodIn_app (goodIn_of _ (by decide +kernel)) ggL_law_X3_pass
set_option maxRecDepth 20000 in
theorem ggL_law_X2_neck : GoodIn wsL_law wsX2_neck := goodIn_ca (goodIn_r _ [339, 111, 112, 22, 23, 340, 21, 341, 342, 42, 37, 63, 2, 64, 292, 293, 294, 295, 38, 50, 51, 285, 286, 287, 288, 289, 290, 291, 52, 53, 54, 55, 56, 57, 58, 59, 261, 262, 263, 31, 174, 175, 176, 177, 32, 33, 34, 36, 39, 40, 41, 223, 224, 35, 281, 282, 283, 284, 296, 220, 221, 222, 225, 217, 218, 219, 60, 61, 62, 43, 44, 45, 46, 47, 48, 8, 49, 65, 66, 67, 68, 348, 349, 350, 351, 361, 362, 363, 364, 365, 366, 367, 368, 369, 370, 371, 372, 373, 374] (by decide +kernel) (by decide +kernel)) (goodIn_sub (fun _ h => List.mem_append_left _ (List.mem_append_left _ (List.mem_append_right _ h))) (by decide +kernel))
set_option maxRecDepth 20000 in
theorem gL_law_X2_neck : GoodIn wsL_law (wsV RL 108 RX2 yX2_neck wsX2_neck) := goodIn_app (goodIn_of _ (by decide +kernel)) ggL_law_X2_neck
set_option maxRecDepth 20000 in
theorem ggL_law_X2_winding : GoodIn wsL_law wsX2_winding := goodIn_r _ [346, 22, 347, 348, 349, 350, 351, 361, 362, 363, 364, 365, 366, 367, 368, 369, 370, 371, 372, 373, 374] (by decide +kernel) (by decide +kernel)
set_option maxRecDepth 20000 in
theorem gL_law_X2_winding : GoodIn wsL_law (wsV RL 115 RX2 yX2_winding wsX2_winding) := goodIn_app (goodIn_of _ (by decide +kernel)) ggL_law_X2_winding
