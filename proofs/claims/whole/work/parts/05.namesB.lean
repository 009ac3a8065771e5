def wsX3_begin : List Cond := .code yX3_begin cX3_begin 5 none :: ((wsX3_begin_r1 ++ wsX3_begin_r2) ++ wsX30 ++ wsX10 ++ wsX20 ++ wsX00 ++ (vx_atS RX3 52 "java/lang/IllegalArgumentException" ["java/lang/RuntimeException", "java/lang/Exception"]).filter goodWord)
def wsX3_put : List Cond := .code yX3_put cX3_put 4 (some .int) :: ([.classLink RX3 48 "java/lang/IllegalArgumentException", .initialized "java/lang/IllegalArgumentException", .classLink RX3 69 "java/lang/UnsupportedOperationException", .initialized "java/lang/UnsupportedOperationException", .fieldLink RX3 33 "CutYard" "inHand" "I", .fieldLink RX3 29 "CutYard" "hand" "[B"] ++ wsX30 ++ (vx_atS RX3 52 "java/lang/IllegalArgumentException" ["java/lang/RuntimeException", "java/lang/Exception"]).filter goodWord ++ (vx_atS RX3 73 "java/lang/UnsupportedOperationException" ["java/lang/RuntimeException", "java/lang/Exception"]).filter goodWord)
def wsX3_fileAt : List Cond := .code yX3_fileAt cX3_fileAt 2 (some (.object "CutYard$Content")) :: ([.classLink RX3 117 "java/lang/IndexOutOfBoundsException", .initialized "java/lang/IndexOutOfBoundsException", .fieldLink RX3 25 "CutYard" "files" "[LCutYard$Content;"] ++ wsX30 ++ (vx_atS RX3 121 "java/lang/IndexOutOfBoundsException" ["java/lang/RuntimeException", "java/lang/Exception"]).filter goodWord)
def wsX3_fillFile : List Cond := .code yX3_fillFile cX3_fillFile 7 (some .int) :: ((wsX3_fillFile_r1 ++ (wsX3_fillFile_r2 ++ (wsX3_fillFile_r3 ++ (wsX3_fillFile_r4 ++ wsX3_fillFile_r5)))) ++ wsX30 ++ wsX20 ++ wsX00 ++ wsX10 ++ (vx_atS RX3 73 "java/lang/UnsupportedOperationException" ["java/lang/RuntimeException", "java/lang/Exception"]).filter goodWord)
def wsX3_store : List Cond := .code yX3_store cX3_store 2 (some .int) :: ((wsX3_store_r1 ++ (wsX3_store_r2 ++ (wsX3_store_r3 ++ (wsX3_store_r4 ++ (wsX3_store_r5 ++ wsX3_store_r6))))) ++ wsX30 ++ wsX20 ++ wsX00 ++ wsX10 ++ (vx_atS RX3 121 "java/lang/IndexOutOfBoundsException" ["java/lang/RuntimeException", "java/lang/Exception"]).filter goodWord ++ (vx_atS RX3 73 "java/lang/UnsupportedOperationException" ["java/lang/RuntimeException", "java/lang/Exception"]).filter goodWord)
def wsX3_edit : List Cond := .code yX3_edit cX3_edit 6 (some .int) :: ((wsX3_edit_r1 ++ (wsX3_edit_r2 ++ (wsX3_edit_r3 ++ (wsX3_edit_r4 ++ (wsX3_edit_r5 ++ (wsX3_edit_r6 ++ wsX3_edit_r7)))))) ++ wsX00 ++ wsX30 ++ wsX20 ++ wsX10 ++ (vx_atS RX3 52 "java/lang/IllegalArgumentException" ["java/lang/RuntimeException", "java/lang/Exception"]).filter goodWord ++ (vx_atS RX3 73 "java/lang/UnsupportedOperationException" ["java/lang/RuntimeException", "java/lang/Exception"]).filter goodWord ++ (vx_atS RX3 121 "java/lang/IndexOutOfBoundsException" ["java/lang/RuntimeException", "java/lang/Exception"]).filter goodWord)
def wsX3_copy : List Cond := .code yX3_copy cX3_copy 6 none :: ((wsX3_copy_r1 ++ (wsX3_copy_r2 ++ wsX3_copy_r3)) ++ wsX00 ++ wsX30 ++ wsX20 ++ (vx_atS RX3 121 "java/lang/IndexOutOfBoundsException" ["java/lang/RuntimeException", "java/lang/Exception"]).filter goodWord)
def wsX3_size : List Cond := .code yX3_size cX3_size 2 (some .int) :: ([.methodLink RX3 74 yX3_fileAt, .instanceMethod yX3_fileAt, .selects RX3 yX3_fileAt yX3_fileAt, .initialized RX3, .code yX3_fileAt cX3_fileAt 2 (some (.object "CutYard$Content")), .classLink RX3 117 "java/lang/IndexOutOfBoundsException", .initialized "java/lang/IndexOutOfBoundsException", .fieldLink RX3 25 "CutYard" "files" "[LCutYard$Content;"] ++ wsX00 ++ wsX30 ++ (vx_atS RX3 121 "java/lang/IndexOutOfBoundsException" ["java/lang/RuntimeException", "java/lang/Exception"]).filter goodWord)
def wsX3_get : List Cond := .code yX3_get cX3_get 6 (some .int) :: ((wsX3_get_r1 ++ wsX3_get_r2) ++ wsX00 ++ wsX30 ++ wsX20 ++ (vx_atS RX3 121 "java/lang/IndexOutOfBoundsException" ["java/lang/RuntimeException", "java/lang/Exception"]).filter goodWord)
def wsX3_parts : List Cond := .code yX3_parts cX3_parts 2 (some .int) :: ([.methodLink RX3 74 yX3_fileAt, .instanceMethod yX3_fileAt, .selects RX3 yX3_fileAt yX3_fileAt, .initialized RX3, .code yX3_fileAt cX3_fileAt 2 (some (.object "CutYard$Content")), .classLink RX3 117 "java/lang/IndexOutOfBoundsException", .initialized "java/lang/IndexOutOfBoundsException", .fieldLink RX3 25 "CutYard" "files" "[LCutYard$Content;"] ++ wsX00 ++ wsX30 ++ (vx_atS RX3 121 "java/lang/IndexOutOfBoundsException" ["java/lang/RuntimeException", "java/lang/Exception"]).filter goodWord)
def wsX3_part : List Cond := .code yX3_part cX3_part 4 (some .int) :: ([.classLink RX3 117 "java/lang/IndexOutOfBoundsException", .initialized "java/lang/IndexOutOfBoundsException", .methodLink RX3 74 yX3_fileAt, .instanceMethod yX3_fileAt, .selects RX3 yX3_fileAt yX3_fileAt, .initialized RX3, .code yX3_fileAt cX3_fileAt 2 (some (.object "CutYard$Content")), .fieldLink RX3 25 "CutYard" "files" "[LCutYard$Content;"] ++ wsX00 ++ wsX30 ++ (vx_atS RX3 121 "java/lang/IndexOutOfBoundsException" ["java/lang/RuntimeException", "java/lang/Exception"]).filter goodWord)
def wsX3_about : List Cond := .code yX3_about cX3_about 3 (some .int) :: ((wsX3_about_r1 ++ wsX3_about_r2) ++ wsX30 ++ wsX20 ++ wsX00 ++ vz_at.filter goodWord ++ (vx_atS RX3 52 "java/lang/IllegalArgumentException" ["java/lang/RuntimeException", "java/lang/Exception"]).filter goodWord)
def wsX3_common : List Cond := .code yX3_common cX3_common 8 (some .int) :: ((wsX3_common_r1 ++ wsX3_common_r2) ++ wsX30 ++ wsX00 ++ wsX20 ++ (vx_atS RX3 121 "java/lang/IndexOutOfBoundsException" ["java/lang/RuntimeException", "java/lang/Exception"]).filter goodWord)
def wsX3_all : List Cond := .code yX3_all cX3_all 2 (some .int) :: ([.classLink RX3 48 "java/lang/IllegalArgumentException", .initialized "java/lang/IllegalArgumentException", .fieldLink RX3 19 "CutYard" "stock" "LCutYard$Stock;", .fieldLink RX3 33 "CutYard" "inHand" "I"] ++ wsX30 ++ wsX20 ++ (vx_atS RX3 52 "java/lang/IllegalArgumentException" ["java/lang/RuntimeException", "java/lang/Exception"]).filter goodWord)
set_option maxRecDepth 20000 in
theorem ggX3_begin_X1_setRule : GoodIn wsX3_begin wsX1_setRule := goodIn_r _ [10, 11, 12, 13, 43, 44, 45] (by decide +kernel) (by decide +kernel)
set_option maxRecDepth 20000 in
theorem gX3_begin_X1_setRule : GoodIn wsX3_begin (wsV RX3 59 RX1 yX1_setRule wsX1_setRule) := goodIn_app (goodIn_of _ (by decide +kernel)) ggX3_begin_X1_setRule
set_option maxRecDepth 20000 in
theorem ggX3_begin_X2_empty : GoodIn wsX3_begin wsX2_empty := goodIn_r _ [18, 19, 20, 21, 22, 23, 24, 25, 26, 27, 46, 47, 48, 49, 50, 51, 52, 53, 54] (by decide +kernel) (by decide +kernel)
set_option maxRecDepth 20000 in
theorem gX3_begin_X2_empty : GoodIn wsX3_begin (wsV RX3 63 RX2 yX2_empty wsX2_empty) := goodIn_app (goodIn_of _ (by decide +kernel)) ggX3_begin_X2_empty
set_option maxRecDepth 20000 in
theorem ggX3_begin_X0_empty : GoodIn wsX3_begin wsX0_empty := goodIn_r _ [32, 33, 34, 55, 56, 57] (by decide +kernel) (by decide +kernel)
set_option maxRecDepth 20000 in
theorem gX3_begin_X0_empty : GoodIn wsX3_begin (wsV RX3 66 RX0 yX0_empty wsX0_empty) := goodIn_app (goodIn_of _ (by decide +kernel)) ggX3_begin_X0_empty
set_option maxRecDepth 20000 in
theorem ggX3_store_X3_fileAt : GoodIn wsX3_store wsX3_fileAt := goodIn_ca (goodIn_r _ [7, 8, 9, 10, 133, 134, 135, 136, 137, 138, 139, 140] (by decide +kernel) (by decide +kernel)) (goodIn_sub (fun _ h => List.mem_cons_of_mem _ (List.mem_append_left _ (List.mem_append_right _ h))) (by decide +kernel))
set_option maxRecDepth 20000 in
theorem gX3_store_X3_fileAt : GoodIn wsX3_store (wsV RX3 74 RX3 yX3_fileAt wsX3_fileAt) := goodIn_app (goodIn_of _ (by decide +kernel)) ggX3_store_X3_fileAt
set_option maxRecDepth 20000 in
theorem ggX3_store_X3_fillFile : GoodIn wsX3_store wsX3_fillFile := goodIn_ca (goodIn_r _ [14, 15, 16, 17, 18, 2, 19, 20, 21, 6, 22, 23, 24, 25, 26, 27, 28, 29, 30, 31, 32, 33, 34, 35, 36, 37, 38, 39, 40, 41, 42, 43, 44, 45, 46, 47, 48, 49, 50, 51, 52, 53, 54, 55, 56, 57, 58, 59, 60, 61, 62, 63, 64, 65, 66, 67, 68, 69, 70, 71, 72, 73, 74, 75, 76, 77, 78, 79, 80, 81, 82, 83, 84, 85, 86, 87, 88, 89, 90, 91, 92, 93, 94, 95, 96, 97, 98, 99, 100, 101, 102, 103, 104, 105, 106, 107, 108, 109, 110, 111, 112, 113, 114, 115, 116, 117, 118, 119, 120, 121, 122, 123, 124, 125, 126, 127, 128, 129, 130, 131, 132, 133, 134, 135, 136, 137, 138, 139, 140, 141, 142, 143, 144, 145, 146, 147, 148, 149, 150, 151, 152, 153, 154, 155] (by decide +kernel) (by decide +kernel)) (goodIn_sub (fun _ h => List.mem_cons_of_mem _ (List.mem_append_right _ h)) (by decide +kernel))
set_option maxRecDepth 20000 in
theorem gX3_store_X3_fillFile : GoodIn wsX3_store (wsV RX3 78 RX3 yX3_fillFile wsX3_fillFile) := goodIn_app (goodIn_of _ (by decide +kernel)) ggX3_store_X3_fillFile
set_option maxRecDepth 20000 in
theorem ggX3_edit_X3_fileAt : GoodIn wsX3_edit wsX3_fileAt := goodIn_ca (goodIn_r _ [16, 17, 18, 19, 152, 153, 154, 155, 156, 157, 158, 159] (by decide +kernel) (by decide +kernel)) (goodIn_sub (fun _ h => List.mem_cons_of_mem _ (List.mem_append_right _ h)) (by decide +kernel))
set_option maxRecDepth 20000 in
theorem gX3_edit_X3_fileAt : GoodIn wsX3_edit (wsV RX3 74 RX3 yX3_fileAt wsX3_fileAt) := goodIn_app (goodIn_of _ (by decide +kernel)) ggX3_edit_X3_fileAt
set_option maxRecDepth 20000 in
theorem ggX3_edit_X3_layOut : GoodIn wsX3_edit wsX3_layOut := goodIn_r _ [23, 24, 6, 25, 26, 27, 28, 29, 30, 31, 8, 9, 10, 32, 33, 34, 35, 36, 37, 38, 39, 40, 41, 149, 150, 151, 152, 153, 154, 155, 156, 157, 158, 159, 160, 161, 162, 163, 164, 165, 166, 167, 168] (by decide +kernel) (by decide +kernel)
set_option maxRecDepth 20000 in
theorem gX3_edit_X3_layOut : GoodIn wsX3_edit (wsV RX3 89 RX3 yX3_layOut wsX3_layOut) := goodIn_app (goodIn_of _ (by decide +kernel)) ggX3_edit_X3_layOut
set_option maxRecDepth 20000 in
theorem ggX3_edit_X3_fillFile : GoodIn wsX3_edit wsX3_fillFile := goodIn_ca (goodIn_r _ [45, 3, 4, 24, 46, 5, 47, 48, 49, 15, 50, 51, 52, 53, 54, 55, 56, 57, 58, 59, 60, 61, 62, 63, 64, 65, 66, 67, 68, 69, 70, 71, 72, 73, 28, 74, 75, 76, 77, 78, 79, 80, 81, 82, 83, 36, 84, 37, 38, 39, 40, 41, 85, 86, 87, 88, 30, 89, 90, 91, 92, 31, 8, 9, 10, 93, 94, 95, 96, 97, 98, 99, 100, 101, 102, 103, 104, 105, 106, 107, 108, 109, 110, 111, 112, 113, 114, 115, 116, 117, 118, 119, 120, 121, 122, 123, 124, 125, 126, 127, 128, 129, 130, 131, 132, 133, 134, 135, 136, 137, 138, 139, 140, 141, 142, 143, 144, 145, 146, 147, 148, 152, 153, 154, 155, 156, 157, 158, 159, 160, 161, 162, 163, 164, 165, 166, 167, 168, 149, 150, 151, 169, 170, 171] (by decide +kernel) (by decide +kernel)) (goodIn_sub (fun _ h => List.mem_cons_of_mem _ (List.mem_append_left _ (List.mem_append_right _ h))) (by decide +kernel))
set_option maxRecDepth 20000 in
theorem gX3_edit_X3_fillFile : GoodIn wsX3_edit (wsV RX3 78 RX3 yX3_fillFile wsX3_fillFile) := goodIn_app (goodIn_of _ (by decide +kernel)) ggX3_edit_X3_fillFile
set_option maxRecDepth 20000 in
theorem ggX3_copy_X3_fileAt : GoodIn wsX3_copy wsX3_fileAt := goodIn_ca (goodIn_r _ [6, 7, 8, 9, 63, 64, 65, 66, 67, 68, 69, 70] (by decide +kernel) (by decide +kernel)) (goodIn_sub (fun _ h => List.mem_cons_of_mem _ (List.mem_append_right _ h)) (by decide +kernel))
set_option maxRecDepth 20000 in
theorem gX3_copy_X3_fileAt : GoodIn wsX3_copy (wsV RX3 74 RX3 yX3_fileAt wsX3_fileAt) := goodIn_app (goodIn_of _ (by decide +kernel)) ggX3_copy_X3_fileAt
set_option maxRecDepth 20000 in
theorem ggX3_copy_X2_useAgain : GoodIn wsX3_copy wsX2_useAgain := goodIn_r _ [14, 15, 16, 17, 18, 13, 19, 71, 72, 73, 74, 75, 76, 77, 78, 79] (by decide +kernel) (by decide +kernel)
set_option maxRecDepth 20000 in
theorem gX3_copy_X2_useAgain : GoodIn wsX3_copy (wsV RX3 105 RX2 yX2_useAgain wsX2_useAgain) := goodIn_app (goodIn_of _ (by decide +kernel)) ggX3_copy_X2_useAgain
set_option maxRecDepth 20000 in
theorem ggX3_copy_X3_giveBack : GoodIn wsX3_copy wsX3_giveBack := goodIn_r _ [23, 1, 24, 25, 26, 13, 27, 15, 28, 29, 30, 31, 32, 33, 34, 35, 16, 17, 18, 19, 36, 37, 38, 39, 40, 41, 42, 63, 64, 65, 66, 67, 68, 69, 70, 71, 72, 73, 74, 75, 76, 77, 78, 79] (by decide +kernel) (by decide +kernel)
set_option maxRecDepth 20000 in
theorem gX3_copy_X3_giveBack : GoodIn wsX3_copy (wsV RX3 109 RX3 yX3_giveBack wsX3_giveBack) := goodIn_app (goodIn_of _ (by decide +kernel)) ggX3_copy_X3_giveBack
set_option maxRecDepth 20000 in
theorem ggX3_copy_X0_become : GoodIn wsX3_copy wsX0_become := goodIn_r _ [47, 48, 49, 50, 31, 51, 52, 30, 32, 53, 54, 55, 56, 57, 58, 59, 60, 61, 62] (by decide +kernel) (by decide +kernel)
set_option maxRecDepth 20000 in
theorem gX3_copy_X0_become : GoodIn wsX3_copy (wsV RX3 113 RX0 yX0_become wsX0_become) := goodIn_app (goodIn_of _ (by decide +kernel)) ggX3_copy_X0_become
set_option maxRecDepth 20000 in
theorem ggX3_size_X3_fileAt : GoodIn wsX3_size wsX3_fileAt := goodIn_ca (goodIn_r _ [5, 6, 7, 8, 12, 13, 14, 15, 16, 17, 18, 19] (by decide +kernel) (by decide +kernel)) (goodIn_sub (fun _ h => List.mem_cons_of_mem _ (List.mem_append_right _ h)) (by decide +kernel))
set_option maxRecDepth 20000 in
theorem gX3_size_X3_fileAt : GoodIn wsX3_size (wsV RX3 74 RX3 yX3_fileAt wsX3_fileAt) := goodIn_app (goodIn_of _ (by decide +kernel)) ggX3_size_X3_fileAt
set_option maxRecDepth 20000 in
theorem ggX3_get_X3_fileAt : GoodIn wsX3_get wsX3_fileAt := goodIn_ca (goodIn_r _ [8, 1, 2, 9, 30, 31, 32, 33, 34, 35, 36, 37] (by decide +kernel) (by decide +kernel)) (goodIn_sub (fun _ h => List.mem_cons_of_mem _ (List.mem_append_right _ h)) (by decide +kernel))
set_option maxRecDepth 20000 in
theorem gX3_get_X3_fileAt : GoodIn wsX3_get (wsV RX3 74 RX3 yX3_fileAt wsX3_fileAt) := goodIn_app (goodIn_of _ (by decide +kernel)) ggX3_get_X3_fileAt
set_option maxRecDepth 20000 in
theorem ggX3_get_X2_lengthOf : GoodIn wsX3_get wsX2_lengthOf := goodIn_r _ [14, 15, 16, 17, 18, 13, 19, 20, 38, 39, 40, 41, 42, 43, 44, 45, 46] (by decide +kernel) (by decide +kernel)
set_option maxRecDepth 20000 in
theorem gX3_get_X2_lengthOf : GoodIn wsX3_get (wsV RX3 122 RX2 yX2_lengthOf wsX2_lengthOf) := goodIn_app (goodIn_of _ (by decide +kernel)) ggX3_get_X2_lengthOf
set_option maxRecDepth 20000 in
theorem ggX3_get_X2_byteOf : GoodIn wsX3_get wsX2_byteOf := goodIn_r _ [24, 25, 26, 11, 12, 13, 14, 15, 16, 17, 18, 19, 20, 38, 39, 40, 41, 42, 43, 44, 45, 46] (by decide +kernel) (by decide +kernel)
set_option maxRecDepth 20000 in
theorem gX3_get_X2_byteOf : GoodIn wsX3_get (wsV RX3 126 RX2 yX2_byteOf wsX2_byteOf) := goodIn_app (goodIn_of _ (by decide +kernel)) ggX3_get_X2_byteOf
set_option maxRecDepth 20000 in
theorem ggX3_parts_X3_fileAt : GoodIn wsX3_parts wsX3_fileAt := goodIn_ca (goodIn_r _ [5, 6, 7, 8, 12, 13, 14, 15, 16, 17, 18, 19] (by decide +kernel) (by decide +kernel)) (goodIn_sub (fun _ h => List.mem_cons_of_mem _ (List.mem_append_right _ h)) (by decide +kernel))
set_option maxRecDepth 20000 in
theorem gX3_parts_X3_fileAt : GoodIn wsX3_parts (wsV RX3 74 RX3 yX3_fileAt wsX3_fileAt) := goodIn_app (goodIn_of _ (by decide +kernel)) ggX3_parts_X3_fileAt
set_option maxRecDepth 20000 in
theorem ggX3_part_X3_fileAt : GoodIn wsX3_part wsX3_fileAt := goodIn_ca (goodIn_r _ [7, 1, 2, 8, 12, 13, 14, 15, 16, 17, 18, 19] (by decide +kernel) (by decide +kernel)) (goodIn_sub (fun _ h => List.mem_cons_of_mem _ (List.mem_append_right _ h)) (by decide +kernel))
set_option maxRecDepth 20000 in
theorem gX3_part_X3_fileAt : GoodIn wsX3_part (wsV RX3 74 RX3 yX3_fileAt wsX3_fileAt) := goodIn_app (goodIn_of _ (by decide +kernel)) ggX3_part_X3_fileAt
set_option maxRecDepth 20000 in
theorem ggX3_about_X2_has : GoodIn wsX3_about wsX2_has := goodIn_r _ [10, 11, 43, 44, 45, 46, 47, 48, 49, 50, 51] (by decide +kernel) (by decide +kernel)
set_option maxRecDepth 20000 in
theorem gX3_about_X2_has : GoodIn wsX3_about (wsV RX3 132 RX2 yX2_has wsX2_has) := goodIn_app (goodIn_of _ (by decide +kernel)) ggX3_about_X2_has
set_option maxRecDepth 20000 in
theorem ggX3_about_X2_lengthOf : GoodIn wsX3_about wsX2_lengthOf := goodIn_r _ [15, 16, 17, 7, 8, 9, 10, 11, 43, 44, 45, 46, 47, 48, 49, 50, 51] (by decide +kernel) (by decide +kernel)
set_option maxRecDepth 20000 in
theorem gX3_about_X2_lengthOf : GoodIn wsX3_about (wsV RX3 122 RX2 yX2_lengthOf wsX2_lengthOf) := goodIn_app (goodIn_of _ (by decide +kernel)) ggX3_about_X2_lengthOf
set_option maxRecDepth 20000 in
theorem ggX3_about_X2_usesOf : GoodIn wsX3_about wsX2_usesOf := goodIn_r _ [21, 11, 17, 7, 8, 9, 10, 43, 44, 45, 46, 47, 48, 49, 50, 51] (by decide +kernel) (by decide +kernel)
set_option maxRecDepth 20000 in
theorem gX3_about_X2_usesOf : GoodIn wsX3_about (wsV RX3 139 RX2 yX2_usesOf wsX2_usesOf) := goodIn_app (goodIn_of _ (by decide +kernel)) ggX3_about_X2_usesOf
set_option maxRecDepth 20000 in
theorem ggX3_about_X3_filesWith : GoodIn wsX3_about wsX3_filesWith := goodIn_r _ [26, 27, 28, 29, 30, 31, 32, 33, 34, 35, 36, 37, 38, 39, 40, 41, 42, 52, 53, 54] (by decide +kernel) (by decide +kernel)
set_option maxRecDepth 20000 in
theorem gX3_about_X3_filesWith : GoodIn wsX3_about (wsV RX3 142 RX3 yX3_filesWith wsX3_filesWith) := goodIn_app (goodIn_of _ (by decide +kernel)) ggX3_about_X3_filesWith
set_option maxRecDepth 20000 in
theorem ggX3_common_X3_fileAt : GoodIn wsX3_common wsX3_fileAt := goodIn_ca (goodIn_r _ [7, 8, 9, 10, 27, 28, 29, 30, 31, 32, 33, 34] (by decide +kernel) (by decide +kernel)) (goodIn_sub (fun _ h => List.mem_cons_of_mem _ (List.mem_append_right _ h)) (by decide +kernel))
set_option maxRecDepth 20000 in
theorem gX3_common_X3_fileAt : GoodIn wsX3_common (wsV RX3 74 RX3 yX3_fileAt wsX3_fileAt) := goodIn_app (goodIn_of _ (by decide +kernel)) ggX3_common_X3_fileAt
set_option maxRecDepth 20000 in
theorem ggX3_common_J7_fill_53178 : GoodIn wsX3_common wsJ7_fill_53178 := goodIn_r _ [14] (by decide +kernel) (by decide +kernel)
set_option maxRecDepth 20000 in
theorem gX3_common_J7_fill_53178 : GoodIn wsX3_common (va_wsS RX3 147 yJ7_fill_53178 wsJ7_fill_53178) := goodIn_app (goodIn_of _ (by decide +kernel)) ggX3_common_J7_fill_53178
set_option maxRecDepth 20000 in
theorem ggX3_common_X2_has : GoodIn wsX3_common wsX2_has := goodIn_r _ [19, 20, 38, 39, 40, 41, 42, 43, 44, 45, 46] (by decide +kernel) (by decide +kernel)
set_option maxRecDepth 20000 in
theorem gX3_common_X2_has : GoodIn wsX3_common (wsV RX3 132 RX2 yX2_has wsX2_has) := goodIn_app (goodIn_of _ (by decide +kernel)) ggX3_common_X2_has
set_option maxRecDepth 20000 in
theorem ggX3_common_X2_lengthOf : GoodIn wsX3_common wsX2_lengthOf := goodIn_r _ [24, 25, 26, 16, 17, 18, 19, 20, 38, 39, 40, 41, 42, 43, 44, 45, 46] (by decide +kernel) (by decide +kernel)
set_option maxRecDepth 20000 in
theorem gX3_common_X2_lengthOf : GoodIn wsX3_common (wsV RX3 122 RX2 yX2_lengthOf wsX2_lengthOf) := goodIn_app (goodIn_of _ (by decide +kernel)) ggX3_common_X2_lengthOf
set_option maxRecDepth 20000 in
theorem ggX3_fillFile_X3_takeParts : GoodIn wsX3_fillFile wsX3_takeParts := goodIn_r _ [10, 11, 3, 4, 12, 13, 14, 15, 16, 17, 18, 19, 20, 21, 22, 23, 24, 25, 26, 27, 28, 29, 30, 31, 32, 33, 34, 35, 36, 37, 38, 39, 40, 41, 42, 43, 44, 45, 46, 47, 48, 49, 50, 51, 52, 53, 54, 55, 56, 57, 58, 59, 60, 61, 62, 63, 64, 65, 66, 67, 68, 69, 70, 71, 72, 73, 74, 75, 76, 77, 78, 79, 80, 81, 82, 83, 84, 85, 86, 87, 88, 89, 90, 91, 92, 93, 94, 95, 96, 97, 98, 99, 9, 100, 101, 102, 103, 104, 105, 106, 107, 108, 121, 122, 123, 124, 125, 126, 127, 128, 141, 142, 143, 129, 130, 131, 132, 133, 134, 135, 136, 137] (by decide +kernel) (by decide +kernel)
set_option maxRecDepth 20000 in
theorem gX3_fillFile_X3_takeParts : GoodIn wsX3_fillFile (wsV RX3 156 RX3 yX3_takeParts wsX3_takeParts) := goodIn_app (goodIn_of _ (by decide +kernel)) ggX3_fillFile_X3_takeParts
set_option maxRecDepth 20000 in
theorem ggX3_fillFile_X3_giveBack : GoodIn wsX3_fillFile wsX3_giveBack := goodIn_r _ [100, 3, 101, 102, 103, 34, 104, 51, 71, 79, 19, 20, 21, 65, 66, 45, 47, 48, 49, 50, 105, 106, 107, 108, 44, 43, 46, 121, 122, 123, 124, 125, 126, 127, 128, 129, 130, 131, 132, 133, 134, 135, 136, 137] (by decide +kernel) (by decide +kernel)
set_option maxRecDepth 20000 in
theorem gX3_fillFile_X3_giveBack : GoodIn wsX3_fillFile (wsV RX3 109 RX3 yX3_giveBack wsX3_giveBack) := goodIn_app (goodIn_of _ (by decide +kernel)) ggX3_fillFile_X3_giveBack
set_option maxRecDepth 20000 in
theorem ggX3_fillFile_X0_become : GoodIn wsX3_fillFile wsX0_become := goodIn_r _ [113, 114, 115, 77, 20, 78, 116, 19, 21, 117, 118, 62, 63, 64, 119, 120, 138, 139, 140] (by decide +kernel) (by decide +kernel)
set_option maxRecDepth 20000 in
theorem gX3_fillFile_X0_become : GoodIn wsX3_fillFile (wsV RX3 113 RX0 yX0_become wsX0_become) := goodIn_app (goodIn_of _ (by decide +kernel)) ggX3_fillFile_X0_become
