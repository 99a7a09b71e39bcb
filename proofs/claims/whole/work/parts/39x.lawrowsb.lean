theorem dL_copied_19 : decode cL_copied 19 = .ok (.ireturn, 1) := by decide +kernel
set_option maxRecDepth 20000 in
theorem ggL_meanPitch_X4_meanPitch : GoodIn wsL_meanPitch wsX4_meanPitch := goodIn_ca (goodIn_ca (goodIn_r _ [7, 8, 9, 10, 11, 12, 6, 13, 14, 15, 16, 17, 18, 19, 20, 21, 22, 23, 24, 25, 26, 27, 28, 29, 30, 31, 32, 33, 34, 35, 36, 37, 38, 39, 40, 41, 42, 43, 44, 45, 46, 47, 48, 49, 50, 51, 52, 53] (by decide +kernel) (by decide +kernel)) (goodIn_sub (fun _ h => List.mem_cons_of_mem _ (List.mem_append_left _ (List.mem_append_right _ h))) (by decide +kernel))) (goodIn_sub (fun _ h => List.mem_cons_of_mem _ (List.mem_append_right _ h)) (by decide +kernel))
set_option maxRecDepth 20000 in
theorem gL_meanPitch_X4_meanPitch : GoodIn wsL_meanPitch (wsV RL 129 RX4 yX4_meanPitch wsX4_meanPitch) := goodIn_app (goodIn_of _ (by decide +kernel)) ggL_meanPitch_X4_meanPitch
theorem dL_meanPitch_0 : decode cL_meanPitch 0 = .ok (.aload_n 2, 1) := by decide +kernel
theorem dL_meanPitch_1 : decode cL_meanPitch 1 = .ok (.iconst 0, 1) := by decide +kernel
theorem dL_meanPitch_2 : decode cL_meanPitch 2 = .ok (.aload_n 0, 1) := by decide +kernel
theorem dL_meanPitch_3 : decode cL_meanPitch 3 = .ok (.iload_n 1, 1) := by decide +kernel
theorem dL_meanPitch_4 : decode cL_meanPitch 4 = .ok (.invokevirtual 129, 3) := by decide +kernel
theorem dL_meanPitch_7 : decode cL_meanPitch 7 = .ok (.dastore, 1) := by decide +kernel
theorem dL_meanPitch_8 : decode cL_meanPitch 8 = .ok (.goto 9, 3) := by decide +kernel
theorem dL_meanPitch_11 : decode cL_meanPitch 11 = .ok (.astore_n 3, 1) := by decide +kernel
theorem dL_meanPitch_12 : decode cL_meanPitch 12 = .ok (.iconst 1, 1) := by decide +kernel
theorem dL_meanPitch_13 : decode cL_meanPitch 13 = .ok (.ireturn, 1) := by decide +kernel
theorem dL_meanPitch_14 : decode cL_meanPitch 14 = .ok (.astore_n 3, 1) := by decide +kernel
theorem dL_meanPitch_15 : decode cL_meanPitch 15 = .ok (.iconst 2, 1) := by decide +kernel
theorem dL_meanPitch_16 : decode cL_meanPitch 16 = .ok (.ireturn, 1) := by decide +kernel
theorem dL_meanPitch_17 : decode cL_meanPitch 17 = .ok (.iconst 0, 1) := by decide +kernel
theorem dL_meanPitch_18 : decode cL_meanPitch 18 = .ok (.ireturn, 1) := by decide +kernel
set_option maxRecDepth 20000 in
theorem ggL_restShare_X4_restShare : GoodIn wsL_restShare wsX4_restShare := goodIn_ca (goodIn_ca (goodIn_r _ [7, 8, 9, 10, 11, 12, 13, 6, 14, 15, 16, 17, 18, 19, 20, 21, 22, 23, 24, 25, 26, 27, 28, 29, 30, 31, 32, 33, 34, 35, 36, 37, 38, 39, 40, 41, 42, 43, 44, 45, 46, 47, 48, 49, 50, 51, 52, 53, 54, 55, 56, 57, 58, 59] (by decide +kernel) (by decide +kernel)) (goodIn_sub (fun _ h => List.mem_cons_of_mem _ (List.mem_append_left _ (List.mem_append_right _ h))) (by decide +kernel))) (goodIn_sub (fun _ h => List.mem_cons_of_mem _ (List.mem_append_right _ h)) (by decide +kernel))
set_option maxRecDepth 20000 in
theorem gL_restShare_X4_restShare : GoodIn wsL_restShare (wsV RL 135 RX4 yX4_restShare wsX4_restShare) := goodIn_app (goodIn_of _ (by decide +kernel)) ggL_restShare_X4_restShare
theorem dL_restShare_0 : decode cL_restShare 0 = .ok (.aload_n 2, 1) := by decide +kernel
theorem dL_restShare_1 : decode cL_restShare 1 = .ok (.iconst 0, 1) := by decide +kernel
theorem dL_restShare_2 : decode cL_restShare 2 = .ok (.aload_n 0, 1) := by decide +kernel
theorem dL_restShare_3 : decode cL_restShare 3 = .ok (.iload_n 1, 1) := by decide +kernel
theorem dL_restShare_4 : decode cL_restShare 4 = .ok (.invokevirtual 135, 3) := by decide +kernel
theorem dL_restShare_7 : decode cL_restShare 7 = .ok (.f2d, 1) := by decide +kernel
theorem dL_restShare_8 : decode cL_restShare 8 = .ok (.dastore, 1) := by decide +kernel
theorem dL_restShare_9 : decode cL_restShare 9 = .ok (.goto 9, 3) := by decide +kernel
theorem dL_restShare_12 : decode cL_restShare 12 = .ok (.astore_n 3, 1) := by decide +kernel
theorem dL_restShare_13 : decode cL_restShare 13 = .ok (.iconst 1, 1) := by decide +kernel
theorem dL_restShare_14 : decode cL_restShare 14 = .ok (.ireturn, 1) := by decide +kernel
theorem dL_restShare_15 : decode cL_restShare 15 = .ok (.astore_n 3, 1) := by decide +kernel
theorem dL_restShare_16 : decode cL_restShare 16 = .ok (.iconst 2, 1) := by decide +kernel
theorem dL_restShare_17 : decode cL_restShare 17 = .ok (.ireturn, 1) := by decide +kernel
theorem dL_restShare_18 : decode cL_restShare 18 = .ok (.iconst 0, 1) := by decide +kernel
theorem dL_restShare_19 : decode cL_restShare 19 = .ok (.ireturn, 1) := by decide +kernel
set_option maxRecDepth 20000 in
theorem ggL_law_X4_init : GoodIn wsL_law wsX4_init := goodIn_r _ [10, 11, 12, 13, 14, 15, 16, 17, 18, 19, 20, 21, 22, 23, 24, 25, 26, 27, 28, 29, 30, 31, 32, 33, 34, 35, 36, 37, 38, 39, 40, 41, 42, 43, 44, 45, 46, 963, 964, 965, 966, 967, 968, 969, 970, 971, 972, 1000, 1001, 1002, 1003, 1004, 1005, 1006, 1007, 1008, 1009, 1010, 1011] (by decide +kernel) (by decide +kernel)
set_option maxRecDepth 20000 in
theorem gL_law_X4_init : GoodIn wsL_law (wsX4_init) := ggL_law_X4_init
set_option maxRecDepth 20000 in
theorem ggL_law_X5_init : GoodIn wsL_law wsX5_init := goodIn_r _ [49, 50, 12, 13, 33, 51, 52, 53, 54, 55, 56, 57, 58, 59, 60, 61, 39, 62, 63, 64, 65, 66, 67, 68, 69, 70, 71, 72, 973, 974, 975, 976, 977, 978, 979, 980, 981, 982, 983, 984, 985, 986, 987, 988, 989, 990, 991, 992, 993, 994, 995, 996, 997, 998, 999] (by decide +kernel) (by decide +kernel)
set_option maxRecDepth 20000 in
theorem gL_law_X5_init : GoodIn wsL_law (wsX5_init) := ggL_law_X5_init
set_option maxRecDepth 20000 in
theorem ggL_law_L_addPart : GoodIn wsL_law wsL_addPart := goodIn_ca (goodIn_ca (goodIn_ca (goodIn_r _ [76, 77, 78, 79, 80, 81, 2, 82, 83, 84, 85, 86, 24, 15, 14, 87, 88, 89, 90, 91, 92, 12, 13, 93, 94, 963, 964, 965, 966, 967, 968, 969, 970, 971, 972, 1012, 1013] (by decide +kernel) (by decide +kernel)) (goodIn_sub (fun _ h => List.mem_append_left _ (List.mem_append_left _ (List.mem_append_left _ (List.mem_append_left _ (List.mem_append_left _ (List.mem_append_left _ (List.mem_append_left _ (List.mem_append_right _ h)))))))) (by decide +kernel))) (goodIn_sub (fun _ h => List.mem_append_left _ (List.mem_append_left _ (List.mem_append_left _ (List.mem_append_left _ (List.mem_append_left _ (List.mem_append_left _ (List.mem_append_right _ h))))))) (by decide +kernel))) (goodIn_sub (fun _ h => List.mem_append_left _ (List.mem_append_left _ (List.mem_append_left _ (List.mem_append_left _ (List.mem_append_left _ (List.mem_append_right _ h)))))) (by decide +kernel))
set_option maxRecDepth 20000 in
theorem gL_law_L_addPart : GoodIn wsL_law (va_wsS RL 143 yL_addPart wsL_addPart) := goodIn_app (goodIn_of _ (by decide +kernel)) ggL_law_L_addPart
set_option maxRecDepth 20000 in
theorem ggL_law_X5_addPart : GoodIn wsL_law wsX5_addPart := goodIn_ca (goodIn_r _ [98, 99, 100, 51, 101, 102, 5, 103, 104, 105, 106, 107, 973, 974, 975, 976, 977, 978, 979, 980, 981, 982, 983, 984, 985, 986, 987, 988, 989, 990, 991, 992, 993, 994, 995, 996, 997, 998, 999] (by decide +kernel) (by decide +kernel)) (goodIn_sub (fun _ h => List.mem_append_left _ (List.mem_append_left _ (List.mem_append_left _ (List.mem_append_left _ (List.mem_append_left _ (List.mem_append_left _ (List.mem_append_left _ (List.mem_append_right _ h)))))))) (by decide +kernel))
set_option maxRecDepth 20000 in
theorem gL_law_X5_addPart : GoodIn wsL_law (wsV RL 148 RX5 yX5_addPart wsX5_addPart) := goodIn_app (goodIn_of _ (by decide +kernel)) ggL_law_X5_addPart
set_option maxRecDepth 20000 in
theorem ggL_law_X5_thrown : GoodIn wsL_law wsX5_thrown := goodIn_r _ [111, 99, 973, 974, 975, 976, 977, 978, 979, 980, 981, 982, 983, 984, 985, 986, 987, 988, 989, 990, 991, 992, 993, 994, 995, 996, 997, 998, 999] (by decide +kernel) (by decide +kernel)
set_option maxRecDepth 20000 in
theorem gL_law_X5_thrown : GoodIn wsL_law (wsV RL 149 RX5 yX5_thrown wsX5_thrown) := goodIn_app (goodIn_of _ (by decide +kernel)) ggL_law_X5_thrown
set_option maxRecDepth 20000 in
theorem ggL_law_L_addBar : GoodIn wsL_law wsL_addBar := goodIn_ca (goodIn_ca (goodIn_ca (goodIn_r _ [114, 77, 78, 115, 116, 117, 2, 118, 83, 84, 85, 86, 25, 17, 16, 119, 120, 121, 122, 123, 124, 125, 126, 127, 12, 13, 128, 129, 130, 963, 964, 965, 966, 967, 968, 969, 970, 971, 972, 1014, 1015, 1016] (by decide +kernel) (by decide +kernel)) (goodIn_sub (fun _ h => List.mem_append_left _ (List.mem_append_left _ (List.mem_append_left _ (List.mem_append_left _ (List.mem_append_left _ (List.mem_append_left _ (List.mem_append_left _ (List.mem_append_right _ h)))))))) (by decide +kernel))) (goodIn_sub (fun _ h => List.mem_append_left _ (List.mem_append_left _ (List.mem_append_left _ (List.mem_append_left _ (List.mem_append_left _ (List.mem_append_left _ (List.mem_append_right _ h))))))) (by decide +kernel))) (goodIn_sub (fun _ h => List.mem_append_left _ (List.mem_append_left _ (List.mem_append_left _ (List.mem_append_left _ (List.mem_append_left _ (List.mem_append_right _ h)))))) (by decide +kernel))
set_option maxRecDepth 20000 in
theorem gL_law_L_addBar : GoodIn wsL_law (va_wsS RL 153 yL_addBar wsL_addBar) := goodIn_app (goodIn_of _ (by decide +kernel)) ggL_law_L_addBar
set_option maxRecDepth 20000 in
theorem ggL_law_X5_addBar : GoodIn wsL_law wsX5_addBar := goodIn_ca (goodIn_r _ [134, 99, 135, 52, 53, 62, 101, 102, 5, 103, 104, 105, 106, 107, 973, 974, 975, 976, 977, 978, 979, 980, 981, 982, 983, 984, 985, 986, 987, 988, 989, 990, 991, 992, 993, 994, 995, 996, 997, 998, 999] (by decide +kernel) (by decide +kernel)) (goodIn_sub (fun _ h => List.mem_append_left _ (List.mem_append_left _ (List.mem_append_left _ (List.mem_append_left _ (List.mem_append_left _ (List.mem_append_left _ (List.mem_append_left _ (List.mem_append_right _ h)))))))) (by decide +kernel))
set_option maxRecDepth 20000 in
theorem gL_law_X5_addBar : GoodIn wsL_law (wsV RL 156 RX5 yX5_addBar wsX5_addBar) := goodIn_app (goodIn_of _ (by decide +kernel)) ggL_law_X5_addBar
set_option maxRecDepth 20000 in
theorem ggL_law_L_setMark : GoodIn wsL_law wsL_setMark := goodIn_ca (goodIn_ca (goodIn_r _ [138, 139, 140, 141, 142, 2, 143, 144, 145, 146, 147, 148, 149, 150, 151, 152, 153, 154, 17, 1014, 1015, 1016, 963, 964, 965, 966, 967, 968, 969, 970, 971, 972] (by decide +kernel) (by decide +kernel)) (goodIn_sub (fun _ h => List.mem_append_left _ (List.mem_append_left _ (List.mem_append_left _ (List.mem_append_left _ (List.mem_append_left _ (List.mem_append_left _ (List.mem_append_left _ (List.mem_append_right _ h)))))))) (by decide +kernel))) (goodIn_sub (fun _ h => List.mem_append_left _ (List.mem_append_left _ (List.mem_append_left _ (List.mem_append_left _ (List.mem_append_right _ h))))) (by decide +kernel))
set_option maxRecDepth 20000 in
theorem gL_law_L_setMark : GoodIn wsL_law (va_wsS RL 157 yL_setMark wsL_setMark) := goodIn_app (goodIn_of _ (by decide +kernel)) ggL_law_L_setMark
set_option maxRecDepth 20000 in
theorem ggL_law_X5_setMark : GoodIn wsL_law wsX5_setMark := goodIn_ca (goodIn_r _ [158, 99, 62, 159, 160, 161, 5, 162, 135, 101, 102, 103, 163, 164, 165, 166, 973, 974, 975, 976, 977, 978, 979, 980, 981, 982, 983, 984, 985, 986, 987, 988, 989, 990, 991, 992, 993, 994, 995, 996, 997, 998, 999] (by decide +kernel) (by decide +kernel)) (goodIn_sub (fun _ h => List.mem_append_left _ (List.mem_append_left _ (List.mem_append_left _ (List.mem_append_left _ (List.mem_append_left _ (List.mem_append_left _ (List.mem_append_left _ (List.mem_append_right _ h)))))))) (by decide +kernel))
set_option maxRecDepth 20000 in
theorem gL_law_X5_setMark : GoodIn wsL_law (wsV RL 160 RX5 yX5_setMark wsX5_setMark) := goodIn_app (goodIn_of _ (by decide +kernel)) ggL_law_X5_setMark
set_option maxRecDepth 20000 in
theorem ggL_law_L_setKey : GoodIn wsL_law wsL_setKey := goodIn_ca (goodIn_ca (goodIn_ca (goodIn_r _ [169, 139, 77, 170, 171, 172, 2, 173, 83, 84, 174, 145, 146, 147, 148, 149, 150, 151, 152, 153, 154, 17, 121, 122, 123, 1014, 1015, 1016, 963, 964, 965, 966, 967, 968, 969, 970, 971, 972] (by decide +kernel) (by decide +kernel)) (goodIn_sub (fun _ h => List.mem_append_left _ (List.mem_append_left _ (List.mem_append_left _ (List.mem_append_left _ (List.mem_append_left _ (List.mem_append_left _ (List.mem_append_left _ (List.mem_append_right _ h)))))))) (by decide +kernel))) (goodIn_sub (fun _ h => List.mem_append_left _ (List.mem_append_left _ (List.mem_append_left _ (List.mem_append_left _ (List.mem_append_left _ (List.mem_append_left _ (List.mem_append_right _ h))))))) (by decide +kernel))) (goodIn_sub (fun _ h => List.mem_append_left _ (List.mem_append_left _ (List.mem_append_left _ (List.mem_append_left _ (List.mem_append_right _ h))))) (by decide +kernel))
set_option maxRecDepth 20000 in
theorem gL_law_L_setKey : GoodIn wsL_law (va_wsS RL 161 yL_setKey wsL_setKey) := goodIn_app (goodIn_of _ (by decide +kernel)) ggL_law_L_setKey
set_option maxRecDepth 20000 in
theorem ggL_law_X5_setKey : GoodIn wsL_law wsX5_setKey := goodIn_ca (goodIn_r _ [178, 99, 53, 159, 160, 161, 5, 162, 135, 101, 102, 103, 104, 105, 106, 107, 973, 974, 975, 976, 977, 978, 979, 980, 981, 982, 983, 984, 985, 986, 987, 988, 989, 990, 991, 992, 993, 994, 995, 996, 997, 998, 999] (by decide +kernel) (by decide +kernel)) (goodIn_sub (fun _ h => List.mem_append_left _ (List.mem_append_left _ (List.mem_append_left _ (List.mem_append_left _ (List.mem_append_left _ (List.mem_append_left _ (List.mem_append_left _ (List.mem_append_right _ h)))))))) (by decide +kernel))
set_option maxRecDepth 20000 in
theorem gL_law_X5_setKey : GoodIn wsL_law (wsV RL 164 RX5 yX5_setKey wsX5_setKey) := goodIn_app (goodIn_of _ (by decide +kernel)) ggL_law_X5_setKey
set_option maxRecDepth 20000 in
theorem ggL_law_L_addNote : GoodIn wsL_law wsL_addNote := goodIn_ca (goodIn_ca (goodIn_ca (goodIn_ca (goodIn_ca (goodIn_r _ [181, 139, 77, 182, 78, 183, 184, 185, 2, 186, 83, 84, 187, 188, 85, 86, 18, 189, 190, 26, 19, 191, 192, 193, 194, 149, 150, 195, 196, 197, 198, 15, 145, 146, 147, 148, 151, 152, 153, 154, 17, 199, 200, 201, 202, 203, 204, 120, 205, 128, 206, 207, 208, 209, 12, 13, 210, 211, 212, 213, 214, 215, 216, 217, 218, 219, 220, 221, 222, 223, 224, 225, 226, 227, 228, 229, 230, 231, 232, 233, 234, 235, 236, 1017, 1018, 1019, 1020, 1021, 1022, 1023, 1024, 1025, 1026, 1027, 963, 964, 965, 966, 967, 968, 969, 970, 971, 972, 1014, 1015, 1016] (by decide +kernel) (by decide +kernel)) (goodIn_sub (fun _ h => List.mem_append_left _ (List.mem_append_left _ (List.mem_append_left _ (List.mem_append_left _ (List.mem_append_left _ (List.mem_append_left _ (List.mem_append_left _ (List.mem_append_right _ h)))))))) (by decide +kernel))) (goodIn_sub (fun _ h => List.mem_append_left _ (List.mem_append_left _ (List.mem_append_left _ (List.mem_append_left _ (List.mem_append_left _ (List.mem_append_left _ (List.mem_append_right _ h))))))) (by decide +kernel))) (goodIn_sub (fun _ h => List.mem_append_left _ (List.mem_append_left _ (List.mem_append_left _ (List.mem_append_right _ h)))) (by decide +kernel))) (goodIn_sub (fun _ h => List.mem_append_left _ (List.mem_append_left _ (List.mem_append_left _ (List.mem_append_left _ (List.mem_append_left _ (List.mem_append_right _ h)))))) (by decide +kernel))) (goodIn_sub (fun _ h => List.mem_append_left _ (List.mem_append_left _ (List.mem_append_left _ (List.mem_append_left _ (List.mem_append_right _ h))))) (by decide +kernel))
set_option maxRecDepth 20000 in
theorem gL_law_L_addNote : GoodIn wsL_law (va_wsS RL 165 yL_addNote wsL_addNote) := goodIn_app (goodIn_of _ (by decide +kernel)) ggL_law_L_addNote
set_option maxRecDepth 20000 in
theorem ggL_law_X5_addNote : GoodIn wsL_law wsX5_addNote := goodIn_ca (goodIn_r _ [240, 99, 241, 54, 55, 56, 57, 58, 59, 242, 243, 244, 5, 245, 100, 101, 102, 103, 159, 160, 161, 162, 135, 104, 105, 106, 107, 246, 247, 248, 249, 52, 250, 251, 252, 253, 254, 255, 256, 257, 63, 973, 974, 975, 976, 977, 978, 979, 980, 981, 982, 983, 984, 985, 986, 987, 988, 989, 990, 991, 992, 993, 994, 995, 996, 997, 998, 999] (by decide +kernel) (by decide +kernel)) (goodIn_sub (fun _ h => List.mem_append_left _ (List.mem_append_left _ (List.mem_append_left _ (List.mem_append_left _ (List.mem_append_left _ (List.mem_append_left _ (List.mem_append_left _ (List.mem_append_right _ h)))))))) (by decide +kernel))
set_option maxRecDepth 20000 in
theorem gL_law_X5_addNote : GoodIn wsL_law (wsV RL 168 RX5 yX5_addNote wsX5_addNote) := goodIn_app (goodIn_of _ (by decide +kernel)) ggL_law_X5_addNote
set_option maxRecDepth 20000 in
theorem ggL_law_L_correct : GoodIn wsL_law wsL_correct := goodIn_ca (goodIn_ca (goodIn_ca (goodIn_r _ [260, 261, 77, 262, 263, 264, 2, 265, 83, 84, 266, 267, 268, 269, 270, 271, 272, 273, 274, 275, 276, 277, 278, 19, 199, 200, 201, 1017, 1018, 1019, 1020, 1021, 1022, 1023, 1024, 1025, 1026, 1027, 963, 964, 965, 966, 967, 968, 969, 970, 971, 972] (by decide +kernel) (by decide +kernel)) (goodIn_sub (fun _ h => List.mem_append_left _ (List.mem_append_left _ (List.mem_append_left _ (List.mem_append_left _ (List.mem_append_left _ (List.mem_append_left _ (List.mem_append_left _ (List.mem_append_right _ h)))))))) (by decide +kernel))) (goodIn_sub (fun _ h => List.mem_append_left _ (List.mem_append_left _ (List.mem_append_left _ (List.mem_append_left _ (List.mem_append_left _ (List.mem_append_left _ (List.mem_append_right _ h))))))) (by decide +kernel))) (goodIn_sub (fun _ h => List.mem_append_left _ (List.mem_append_left _ (List.mem_append_right _ h))) (by decide +kernel))
set_option maxRecDepth 20000 in
theorem gL_law_L_correct : GoodIn wsL_law (va_wsS RL 169 yL_correct wsL_correct) := goodIn_app (goodIn_of _ (by decide +kernel)) ggL_law_L_correct
set_option maxRecDepth 20000 in
theorem ggL_law_X5_correct : GoodIn wsL_law wsX5_correct := goodIn_ca (goodIn_r _ [282, 99, 59, 283, 284, 285, 5, 286, 241, 63, 101, 102, 103, 104, 105, 106, 107, 973, 974, 975, 976, 977, 978, 979, 980, 981, 982, 983, 984, 985, 986, 987, 988, 989, 990, 991, 992, 993, 994, 995, 996, 997, 998, 999] (by decide +kernel) (by decide +kernel)) (goodIn_sub (fun _ h => List.mem_append_left _ (List.mem_append_left _ (List.mem_append_left _ (List.mem_append_left _ (List.mem_append_left _ (List.mem_append_left _ (List.mem_append_left _ (List.mem_append_right _ h)))))))) (by decide +kernel))
set_option maxRecDepth 20000 in
theorem gL_law_X5_correct : GoodIn wsL_law (wsV RL 171 RX5 yX5_correct wsX5_correct) := goodIn_app (goodIn_of _ (by decide +kernel)) ggL_law_X5_correct
set_option maxRecDepth 20000 in
theorem ggL_law_L_stretch : GoodIn wsL_law wsL_stretch := goodIn_ca (goodIn_ca (goodIn_ca (goodIn_ca (goodIn_r _ [289, 261, 77, 182, 290, 291, 292, 2, 293, 83, 84, 187, 188, 226, 228, 294, 267, 268, 269, 270, 271, 272, 273, 274, 275, 276, 277, 278, 19, 151, 152, 153, 154, 17, 202, 203, 204, 120, 205, 128, 221, 222, 223, 224, 225, 227, 229, 230, 231, 190, 232, 210, 215, 216, 233, 234, 235, 236, 218, 219, 1017, 1018, 1019, 1020, 1021, 1022, 1023, 1024, 1025, 1026, 1027, 963, 964, 965, 966, 967, 968, 969, 970, 971, 972, 1014, 1015, 1016] (by decide +kernel) (by decide +kernel)) (goodIn_sub (fun _ h => List.mem_append_left _ (List.mem_append_left _ (List.mem_append_left _ (List.mem_append_left _ (List.mem_append_left _ (List.mem_append_left _ (List.mem_append_left _ (List.mem_append_right _ h)))))))) (by decide +kernel))) (goodIn_sub (fun _ h => List.mem_append_left _ (List.mem_append_left _ (List.mem_append_left _ (List.mem_append_left _ (List.mem_append_left _ (List.mem_append_left _ (List.mem_append_right _ h))))))) (by decide +kernel))) (goodIn_sub (fun _ h => List.mem_append_left _ (List.mem_append_left _ (List.mem_append_left _ (List.mem_append_right _ h)))) (by decide +kernel))) (goodIn_sub (fun _ h => List.mem_append_left _ (List.mem_append_left _ (List.mem_append_right _ h))) (by decide +kernel))
set_option maxRecDepth 20000 in
theorem gL_law_L_stretch : GoodIn wsL_law (va_wsS RL 172 yL_stretch wsL_stretch) := goodIn_app (goodIn_of _ (by decide +kernel)) ggL_law_L_stretch
set_option maxRecDepth 20000 in
theorem ggL_law_X5_stretch : GoodIn wsL_law wsX5_stretch := goodIn_ca (goodIn_r _ [298, 99, 55, 57, 54, 56, 58, 283, 284, 285, 5, 286, 241, 63, 101, 102, 103, 104, 105, 106, 107, 246, 247, 248, 249, 52, 250, 251, 252, 253, 254, 255, 256, 257, 973, 974, 975, 976, 977, 978, 979, 980, 981, 982, 983, 984, 985, 986, 987, 988, 989, 990, 991, 992, 993, 994, 995, 996, 997, 998, 999] (by decide +kernel) (by decide +kernel)) (goodIn_sub (fun _ h => List.mem_append_left _ (List.mem_append_left _ (List.mem_append_left _ (List.mem_append_left _ (List.mem_append_left _ (List.mem_append_left _ (List.mem_append_left _ (List.mem_append_right _ h)))))))) (by decide +kernel))
set_option maxRecDepth 20000 in
theorem gL_law_X5_stretch : GoodIn wsL_law (wsV RL 174 RX5 yX5_stretch wsX5_stretch) := goodIn_app (goodIn_of _ (by decide +kernel)) ggL_law_X5_stretch
set_option maxRecDepth 20000 in
theorem ggL_law_L_takeOut : GoodIn wsL_law wsL_takeOut := goodIn_ca (goodIn_ca (goodIn_r _ [301, 261, 302, 303, 304, 2, 305, 274, 267, 225, 268, 269, 270, 271, 272, 273, 275, 276, 277, 278, 19, 306, 307, 308, 309, 1017, 1018, 1019, 1020, 1021, 1022, 1023, 1024, 1025, 1026, 1027, 963, 964, 965, 966, 967, 968, 969, 970, 971, 972] (by decide +kernel) (by decide +kernel)) (goodIn_sub (fun _ h => List.mem_append_left _ (List.mem_append_left _ (List.mem_append_left _ (List.mem_append_left _ (List.mem_append_left _ (List.mem_append_left _ (List.mem_append_left _ (List.mem_append_right _ h)))))))) (by decide +kernel))) (goodIn_sub (fun _ h => List.mem_append_left _ (List.mem_append_left _ (List.mem_append_right _ h))) (by decide +kernel))
set_option maxRecDepth 20000 in
theorem gL_law_L_takeOut : GoodIn wsL_law (va_wsS RL 175 yL_takeOut wsL_takeOut) := goodIn_app (goodIn_of _ (by decide +kernel)) ggL_law_L_takeOut
set_option maxRecDepth 20000 in
theorem ggL_law_X5_takeOut : GoodIn wsL_law wsX5_takeOut := goodIn_ca (goodIn_r _ [313, 99, 63, 54, 283, 284, 285, 5, 286, 241, 101, 102, 103, 104, 105, 106, 107, 314, 315, 316, 317, 973, 974, 975, 976, 977, 978, 979, 980, 981, 982, 983, 984, 985, 986, 987, 988, 989, 990, 991, 992, 993, 994, 995, 996, 997, 998, 999] (by decide +kernel) (by decide +kernel)) (goodIn_sub (fun _ h => List.mem_append_left _ (List.mem_append_left _ (List.mem_append_left _ (List.mem_append_left _ (List.mem_append_left _ (List.mem_append_left _ (List.mem_append_left _ (List.mem_append_right _ h)))))))) (by decide +kernel))
set_option maxRecDepth 20000 in
theorem gL_law_X5_takeOut : GoodIn wsL_law (wsV RL 177 RX5 yX5_takeOut wsX5_takeOut) := goodIn_app (goodIn_of _ (by decide +kernel)) ggL_law_X5_takeOut
set_option maxRecDepth 20000 in
theorem ggL_law_L_notesIn : GoodIn wsL_law wsL_notesIn := goodIn_ca (goodIn_ca (goodIn_r _ [320, 139, 321, 322, 323, 2, 324, 191, 192, 193, 194, 149, 150, 195, 196, 197, 198, 15, 145, 146, 147, 148, 151, 152, 153, 154, 17, 325, 326, 327, 328, 19, 229, 230, 231, 190, 232, 210, 215, 216, 963, 964, 965, 966, 967, 968, 969, 970, 971, 972, 1017, 1018, 1019, 1020, 1021, 1022, 1023, 1024, 1025, 1026, 1027] (by decide +kernel) (by decide +kernel)) (goodIn_sub (fun _ h => List.mem_append_left _ (List.mem_append_left _ (List.mem_append_left _ (List.mem_append_left _ (List.mem_append_left _ (List.mem_append_left _ (List.mem_append_left _ (List.mem_append_right _ h)))))))) (by decide +kernel))) (goodIn_sub (fun _ h => List.mem_append_left _ (List.mem_append_left _ (List.mem_append_left _ (List.mem_append_left _ (List.mem_append_right _ h))))) (by decide +kernel))
set_option maxRecDepth 20000 in
theorem gL_law_L_notesIn : GoodIn wsL_law (va_wsS RL 178 yL_notesIn wsL_notesIn) := goodIn_app (goodIn_of _ (by decide +kernel)) ggL_law_L_notesIn
set_option maxRecDepth 20000 in
theorem ggL_law_X5_notesIn : GoodIn wsL_law wsX5_notesIn := goodIn_ca (goodIn_r _ [332, 333, 334, 335, 5, 336, 99, 242, 243, 244, 245, 100, 101, 102, 103, 159, 160, 161, 162, 135, 337, 338, 339, 340, 241, 254, 255, 256, 257, 63, 54, 55, 973, 974, 975, 976, 977, 978, 979, 980, 981, 982, 983, 984, 985, 986, 987, 988, 989, 990, 991, 992, 993, 994, 995, 996, 997, 998, 999] (by decide +kernel) (by decide +kernel)) (goodIn_sub (fun _ h => List.mem_append_left _ (List.mem_append_left _ (List.mem_append_left _ (List.mem_append_left _ (List.mem_append_left _ (List.mem_append_left _ (List.mem_append_left _ (List.mem_append_right _ h)))))))) (by decide +kernel))
set_option maxRecDepth 20000 in
theorem gL_law_X5_notesIn : GoodIn wsL_law (wsV RL 180 RX5 yX5_notesIn wsX5_notesIn) := goodIn_app (goodIn_of _ (by decide +kernel)) ggL_law_X5_notesIn
set_option maxRecDepth 20000 in
theorem ggL_law_L_noteAt : GoodIn wsL_law wsL_noteAt := goodIn_ca (goodIn_ca (goodIn_ca (goodIn_r _ [343, 139, 261, 344, 345, 346, 2, 347, 191, 192, 193, 194, 149, 150, 195, 196, 197, 198, 15, 145, 146, 147, 148, 151, 152, 153, 154, 17, 348, 349, 350, 351, 272, 273, 19, 229, 230, 231, 190, 232, 210, 215, 216, 352, 353, 354, 355, 225, 226, 356, 357, 358, 359, 218, 217, 963, 964, 965, 966, 967, 968, 969, 970, 971, 972, 1017, 1018, 1019, 1020, 1021, 1022, 1023, 1024, 1025, 1026, 1027] (by decide +kernel) (by decide +kernel)) (goodIn_sub (fun _ h => List.mem_append_left _ (List.mem_append_left _ (List.mem_append_left _ (List.mem_append_left _ (List.mem_append_left _ (List.mem_append_left _ (List.mem_append_left _ (List.mem_append_right _ h)))))))) (by decide +kernel))) (goodIn_sub (fun _ h => List.mem_append_left _ (List.mem_append_left _ (List.mem_append_left _ (List.mem_append_left _ (List.mem_append_right _ h))))) (by decide +kernel))) (goodIn_sub (fun _ h => List.mem_append_left _ (List.mem_append_left _ (List.mem_append_right _ h))) (by decide +kernel))
set_option maxRecDepth 20000 in
theorem gL_law_L_noteAt : GoodIn wsL_law (va_wsS RL 181 yL_noteAt wsL_noteAt) := goodIn_app (goodIn_of _ (by decide +kernel)) ggL_law_L_noteAt
set_option maxRecDepth 20000 in
theorem ggL_law_X5_noteAt : GoodIn wsL_law wsX5_noteAt := goodIn_ca (goodIn_r _ [363, 333, 334, 335, 5, 336, 99, 242, 243, 244, 245, 100, 101, 102, 103, 159, 160, 161, 162, 135, 364, 365, 366, 367, 241, 57, 56, 254, 255, 256, 257, 63, 54, 55, 104, 105, 106, 107, 973, 974, 975, 976, 977, 978, 979, 980, 981, 982, 983, 984, 985, 986, 987, 988, 989, 990, 991, 992, 993, 994, 995, 996, 997, 998, 999] (by decide +kernel) (by decide +kernel)) (goodIn_sub (fun _ h => List.mem_append_left _ (List.mem_append_left _ (List.mem_append_left _ (List.mem_append_left _ (List.mem_append_left _ (List.mem_append_left _ (List.mem_append_left _ (List.mem_append_right _ h)))))))) (by decide +kernel))
set_option maxRecDepth 20000 in
theorem gL_law_X5_noteAt : GoodIn wsL_law (wsV RL 184 RX5 yX5_noteAt wsX5_noteAt) := goodIn_app (goodIn_of _ (by decide +kernel)) ggL_law_X5_noteAt
set_option maxRecDepth 20000 in
theorem ggL_law_L_pitchOf : GoodIn wsL_law wsL_pitchOf := goodIn_ca (goodIn_ca (goodIn_r _ [370, 261, 371, 372, 373, 2, 374, 266, 268, 269, 270, 271, 272, 273, 274, 275, 276, 277, 278, 19, 1017, 1018, 1019, 1020, 1021, 1022, 1023, 1024, 1025, 1026, 1027, 963, 964, 965, 966, 967, 968, 969, 970, 971, 972] (by decide +kernel) (by decide +kernel)) (goodIn_sub (fun _ h => List.mem_append_left _ (List.mem_append_left _ (List.mem_append_left _ (List.mem_append_left _ (List.mem_append_left _ (List.mem_append_left _ (List.mem_append_left _ (List.mem_append_right _ h)))))))) (by decide +kernel))) (goodIn_sub (fun _ h => List.mem_append_left _ (List.mem_append_left _ (List.mem_append_right _ h))) (by decide +kernel))
set_option maxRecDepth 20000 in
theorem gL_law_L_pitchOf : GoodIn wsL_law (va_wsS RL 185 yL_pitchOf wsL_pitchOf) := goodIn_app (goodIn_of _ (by decide +kernel)) ggL_law_L_pitchOf
set_option maxRecDepth 20000 in
theorem ggL_law_X5_pitchOf : GoodIn wsL_law wsX5_pitchOf := goodIn_ca (goodIn_r _ [378, 59, 379, 380, 381, 5, 382, 99, 283, 284, 285, 286, 241, 63, 101, 102, 103, 973, 974, 975, 976, 977, 978, 979, 980, 981, 982, 983, 984, 985, 986, 987, 988, 989, 990, 991, 992, 993, 994, 995, 996, 997, 998, 999] (by decide +kernel) (by decide +kernel)) (goodIn_sub (fun _ h => List.mem_append_left _ (List.mem_append_left _ (List.mem_append_left _ (List.mem_append_left _ (List.mem_append_left _ (List.mem_append_left _ (List.mem_append_left _ (List.mem_append_right _ h)))))))) (by decide +kernel))
set_option maxRecDepth 20000 in
theorem gL_law_X5_pitchOf : GoodIn wsL_law (wsV RL 187 RX5 yX5_pitchOf wsX5_pitchOf) := goodIn_app (goodIn_of _ (by decide +kernel)) ggL_law_X5_pitchOf
set_option maxRecDepth 20000 in
theorem ggL_law_L_lengthOf : GoodIn wsL_law wsL_lengthOf := goodIn_ca (goodIn_ca (goodIn_r _ [385, 261, 386, 387, 388, 2, 389, 294, 268, 269, 270, 271, 272, 273, 274, 275, 276, 277, 278, 19, 1017, 1018, 1019, 1020, 1021, 1022, 1023, 1024, 1025, 1026, 1027, 963, 964, 965, 966, 967, 968, 969, 970, 971, 972] (by decide +kernel) (by decide +kernel)) (goodIn_sub (fun _ h => List.mem_append_left _ (List.mem_append_left _ (List.mem_append_left _ (List.mem_append_left _ (List.mem_append_left _ (List.mem_append_left _ (List.mem_append_left _ (List.mem_append_right _ h)))))))) (by decide +kernel))) (goodIn_sub (fun _ h => List.mem_append_left _ (List.mem_append_left _ (List.mem_append_right _ h))) (by decide +kernel))
set_option maxRecDepth 20000 in
theorem gL_law_L_lengthOf : GoodIn wsL_law (va_wsS RL 188 yL_lengthOf wsL_lengthOf) := goodIn_app (goodIn_of _ (by decide +kernel)) ggL_law_L_lengthOf
set_option maxRecDepth 20000 in
theorem ggL_law_X5_lengthOf : GoodIn wsL_law wsX5_lengthOf := goodIn_ca (goodIn_r _ [393, 58, 379, 380, 381, 5, 382, 99, 283, 284, 285, 286, 241, 63, 101, 102, 103, 973, 974, 975, 976, 977, 978, 979, 980, 981, 982, 983, 984, 985, 986, 987, 988, 989, 990, 991, 992, 993, 994, 995, 996, 997, 998, 999] (by decide +kernel) (by decide +kernel)) (goodIn_sub (fun _ h => List.mem_append_left _ (List.mem_append_left _ (List.mem_append_left _ (List.mem_append_left _ (List.mem_append_left _ (List.mem_append_left _ (List.mem_append_left _ (List.mem_append_right _ h)))))))) (by decide +kernel))
set_option maxRecDepth 20000 in
theorem gL_law_X5_lengthOf : GoodIn wsL_law (wsV RL 190 RX5 yX5_lengthOf wsX5_lengthOf) := goodIn_app (goodIn_of _ (by decide +kernel)) ggL_law_X5_lengthOf
set_option maxRecDepth 20000 in
theorem ggL_law_L_isDivided : GoodIn wsL_law wsL_isDivided := goodIn_ca (goodIn_ca (goodIn_r _ [396, 139, 397, 398, 399, 2, 400, 191, 192, 193, 194, 149, 150, 195, 196, 197, 198, 15, 145, 146, 147, 148, 151, 152, 153, 154, 17, 401, 402, 403, 404, 19, 227, 229, 230, 231, 190, 232, 210, 215, 216, 963, 964, 965, 966, 967, 968, 969, 970, 971, 972, 1017, 1018, 1019, 1020, 1021, 1022, 1023, 1024, 1025, 1026, 1027] (by decide +kernel) (by decide +kernel)) (goodIn_sub (fun _ h => List.mem_append_left _ (List.mem_append_left _ (List.mem_append_left _ (List.mem_append_left _ (List.mem_append_left _ (List.mem_append_left _ (List.mem_append_left _ (List.mem_append_right _ h)))))))) (by decide +kernel))) (goodIn_sub (fun _ h => List.mem_append_left _ (List.mem_append_left _ (List.mem_append_left _ (List.mem_append_left _ (List.mem_append_right _ h))))) (by decide +kernel))
set_option maxRecDepth 20000 in
theorem gL_law_L_isDivided : GoodIn wsL_law (va_wsS RL 191 yL_isDivided wsL_isDivided) := goodIn_app (goodIn_of _ (by decide +kernel)) ggL_law_L_isDivided
set_option maxRecDepth 20000 in
theorem ggL_law_X5_isDivided : GoodIn wsL_law wsX5_isDivided := goodIn_ca (goodIn_r _ [408, 241, 56, 333, 334, 335, 5, 336, 99, 242, 243, 244, 245, 100, 101, 102, 103, 159, 160, 161, 162, 135, 254, 255, 256, 257, 63, 54, 55, 973, 974, 975, 976, 977, 978, 979, 980, 981, 982, 983, 984, 985, 986, 987, 988, 989, 990, 991, 992, 993, 994, 995, 996, 997, 998, 999] (by decide +kernel) (by decide +kernel)) (goodIn_sub (fun _ h => List.mem_append_left _ (List.mem_append_left _ (List.mem_append_left _ (List.mem_append_left _ (List.mem_append_left _ (List.mem_append_left _ (List.mem_append_left _ (List.mem_append_right _ h)))))))) (by decide +kernel))
set_option maxRecDepth 20000 in
theorem gL_law_X5_isDivided : GoodIn wsL_law (wsV RL 193 RX5 yX5_isDivided wsX5_isDivided) := goodIn_app (goodIn_of _ (by decide +kernel)) ggL_law_X5_isDivided
set_option maxRecDepth 20000 in
theorem ggL_law_L_written : GoodIn wsL_law wsL_written := goodIn_ca (goodIn_ca (goodIn_r _ [411, 261, 412, 413, 414, 2, 415, 268, 269, 270, 271, 272, 273, 274, 275, 276, 277, 278, 19, 416, 417, 418, 419, 225, 266, 420, 195, 196, 197, 198, 15, 1017, 1018, 1019, 1020, 1021, 1022, 1023, 1024, 1025, 1026, 1027, 963, 964, 965, 966, 967, 968, 969, 970, 971, 972, 1012, 1013] (by decide +kernel) (by decide +kernel)) (goodIn_sub (fun _ h => List.mem_append_left _ (List.mem_append_left _ (List.mem_append_left _ (List.mem_append_left _ (List.mem_append_left _ (List.mem_append_left _ (List.mem_append_left _ (List.mem_append_right _ h)))))))) (by decide +kernel))) (goodIn_sub (fun _ h => List.mem_append_left _ (List.mem_append_left _ (List.mem_append_right _ h))) (by decide +kernel))
set_option maxRecDepth 20000 in
theorem gL_law_L_written : GoodIn wsL_law (va_wsS RL 194 yL_written wsL_written) := goodIn_app (goodIn_of _ (by decide +kernel)) ggL_law_L_written
set_option maxRecDepth 20000 in
theorem ggL_law_X5_written : GoodIn wsL_law wsX5_written := goodIn_ca (goodIn_r _ [424, 379, 380, 381, 5, 382, 99, 283, 284, 285, 286, 241, 63, 101, 102, 103, 425, 426, 427, 428, 59, 51, 54, 973, 974, 975, 976, 977, 978, 979, 980, 981, 982, 983, 984, 985, 986, 987, 988, 989, 990, 991, 992, 993, 994, 995, 996, 997, 998, 999] (by decide +kernel) (by decide +kernel)) (goodIn_sub (fun _ h => List.mem_append_left _ (List.mem_append_left _ (List.mem_append_left _ (List.mem_append_left _ (List.mem_append_left _ (List.mem_append_left _ (List.mem_append_left _ (List.mem_append_right _ h)))))))) (by decide +kernel))
set_option maxRecDepth 20000 in
theorem gL_law_X5_written : GoodIn wsL_law (wsV RL 196 RX5 yX5_written wsX5_written) := goodIn_app (goodIn_of _ (by decide +kernel)) ggL_law_X5_written
set_option maxRecDepth 20000 in
theorem ggL_law_L_writtenKey : GoodIn wsL_law wsL_writtenKey := goodIn_ca (goodIn_ca (goodIn_r _ [431, 139, 432, 433, 434, 2, 435, 420, 174, 191, 192, 193, 194, 149, 150, 195, 196, 197, 198, 15, 145, 146, 147, 148, 151, 152, 153, 154, 17, 436, 437, 438, 439, 440, 441, 442, 1012, 1013, 1014, 1015, 1016, 963, 964, 965, 966, 967, 968, 969, 970, 971, 972] (by decide +kernel) (by decide +kernel)) (goodIn_sub (fun _ h => List.mem_append_left _ (List.mem_append_left _ (List.mem_append_left _ (List.mem_append_left _ (List.mem_append_left _ (List.mem_append_left _ (List.mem_append_left _ (List.mem_append_right _ h)))))))) (by decide +kernel))) (goodIn_sub (fun _ h => List.mem_append_left _ (List.mem_append_left _ (List.mem_append_left _ (List.mem_append_left _ (List.mem_append_right _ h))))) (by decide +kernel))
set_option maxRecDepth 20000 in
theorem gL_law_L_writtenKey : GoodIn wsL_law (va_wsS RL 197 yL_writtenKey wsL_writtenKey) := goodIn_app (goodIn_of _ (by decide +kernel)) ggL_law_L_writtenKey
set_option maxRecDepth 20000 in
theorem ggL_law_X5_writtenKey : GoodIn wsL_law wsX5_writtenKey := goodIn_ca (goodIn_ca (goodIn_r _ [446, 333, 334, 335, 5, 336, 99, 242, 243, 244, 245, 100, 101, 102, 103, 159, 160, 161, 162, 135, 447, 448, 449, 450, 53, 51, 451, 452, 453, 973, 974, 975, 976, 977, 978, 979, 980, 981, 982, 983, 984, 985, 986, 987, 988, 989, 990, 991, 992, 993, 994, 995, 996, 997, 998, 999] (by decide +kernel) (by decide +kernel)) (goodIn_sub (fun _ h => List.mem_append_left _ (List.mem_append_left _ (List.mem_append_left _ (List.mem_append_left _ (List.mem_append_left _ (List.mem_append_left _ (List.mem_append_left _ (List.mem_append_right _ h)))))))) (by decide +kernel))) (goodIn_sub (fun _ h => List.mem_append_left _ (List.mem_append_right _ h)) (by decide +kernel))
set_option maxRecDepth 20000 in
theorem gL_law_X5_writtenKey : GoodIn wsL_law (wsV RL 199 RX5 yX5_writtenKey wsX5_writtenKey) := goodIn_app (goodIn_of _ (by decide +kernel)) ggL_law_X5_writtenKey
set_option maxRecDepth 20000 in
theorem ggL_law_L_letterOf : GoodIn wsL_law wsL_letterOf := goodIn_ca (goodIn_ca (goodIn_r _ [456, 261, 457, 458, 459, 2, 460, 268, 269, 270, 271, 272, 273, 274, 275, 276, 277, 278, 19, 461, 462, 463, 464, 225, 226, 174, 420, 195, 196, 197, 198, 15, 151, 152, 153, 154, 17, 436, 437, 438, 439, 440, 441, 442, 416, 417, 418, 419, 266, 465, 466, 467, 1017, 1018, 1019, 1020, 1021, 1022, 1023, 1024, 1025, 1026, 1027, 963, 964, 965, 966, 967, 968, 969, 970, 971, 972, 1014, 1015, 1016, 1012, 1013] (by decide +kernel) (by decide +kernel)) (goodIn_sub (fun _ h => List.mem_append_left _ (List.mem_append_left _ (List.mem_append_left _ (List.mem_append_left _ (List.mem_append_left _ (List.mem_append_left _ (List.mem_append_left _ (List.mem_append_right _ h)))))))) (by decide +kernel))) (goodIn_sub (fun _ h => List.mem_append_left _ (List.mem_append_left _ (List.mem_append_right _ h))) (by decide +kernel))
set_option maxRecDepth 20000 in
theorem gL_law_L_letterOf : GoodIn wsL_law (va_wsS RL 200 yL_letterOf wsL_letterOf) := goodIn_app (goodIn_of _ (by decide +kernel)) ggL_law_L_letterOf
set_option maxRecDepth 20000 in
theorem ggL_law_X5_letterOf : GoodIn wsL_law wsX5_letterOf := goodIn_ca (goodIn_ca (goodIn_r _ [471, 379, 380, 381, 5, 382, 99, 283, 284, 285, 286, 241, 63, 101, 102, 103, 472, 473, 474, 475, 54, 55, 447, 448, 449, 450, 53, 51, 451, 452, 453, 425, 426, 427, 428, 59, 476, 477, 478, 479, 480, 481, 482, 483, 484, 485, 486, 487, 488, 489, 490, 491, 492, 493, 494, 495, 496, 497, 498, 499, 500, 501, 502, 503, 504, 505, 506, 507, 508, 509, 510, 511, 512, 513, 514, 515, 516, 973, 974, 975, 976, 977, 978, 979, 980, 981, 982, 983, 984, 985, 986, 987, 988, 989, 990, 991, 992, 993, 994, 995, 996, 997, 998, 999, 1028, 1029] (by decide +kernel) (by decide +kernel)) (goodIn_sub (fun _ h => List.mem_append_left _ (List.mem_append_left _ (List.mem_append_left _ (List.mem_append_left _ (List.mem_append_left _ (List.mem_append_left _ (List.mem_append_left _ (List.mem_append_right _ h)))))))) (by decide +kernel))) (goodIn_sub (fun _ h => List.mem_append_left _ (List.mem_append_right _ h)) (by decide +kernel))
set_option maxRecDepth 20000 in
theorem gL_law_X5_letterOf : GoodIn wsL_law (wsV RL 202 RX5 yX5_letterOf wsX5_letterOf) := goodIn_app (goodIn_of _ (by decide +kernel)) ggL_law_X5_letterOf
set_option maxRecDepth 20000 in
theorem ggL_law_L_accidentalOf : GoodIn wsL_law wsL_accidentalOf := goodIn_ca (goodIn_ca (goodIn_r _ [519, 261, 520, 521, 522, 2, 523, 268, 269, 270, 271, 272, 273, 274, 275, 276, 277, 278, 19, 461, 462, 463, 464, 225, 226, 174, 420, 195, 196, 197, 198, 15, 151, 152, 153, 154, 17, 436, 437, 438, 439, 440, 441, 442, 416, 417, 418, 419, 266, 524, 525, 526, 527, 528, 529, 1017, 1018, 1019, 1020, 1021, 1022, 1023, 1024, 1025, 1026, 1027, 963, 964, 965, 966, 967, 968, 969, 970, 971, 972, 1014, 1015, 1016, 1012, 1013] (by decide +kernel) (by decide +kernel)) (goodIn_sub (fun _ h => List.mem_append_left _ (List.mem_append_left _ (List.mem_append_left _ (List.mem_append_left _ (List.mem_append_left _ (List.mem_append_left _ (List.mem_append_left _ (List.mem_append_right _ h)))))))) (by decide +kernel))) (goodIn_sub (fun _ h => List.mem_append_left _ (List.mem_append_left _ (List.mem_append_right _ h))) (by decide +kernel))
set_option maxRecDepth 20000 in
theorem gL_law_L_accidentalOf : GoodIn wsL_law (va_wsS RL 203 yL_accidentalOf wsL_accidentalOf) := goodIn_app (goodIn_of _ (by decide +kernel)) ggL_law_L_accidentalOf
set_option maxRecDepth 20000 in
theorem ggL_law_X5_accidentalOf : GoodIn wsL_law wsX5_accidentalOf := goodIn_ca (goodIn_ca (goodIn_r _ [533, 379, 380, 381, 5, 382, 99, 283, 284, 285, 286, 241, 63, 101, 102, 103, 472, 473, 474, 475, 54, 55, 447, 448, 449, 450, 53, 51, 451, 452, 453, 425, 426, 427, 428, 59, 973, 974, 975, 976, 977, 978, 979, 980, 981, 982, 983, 984, 985, 986, 987, 988, 989, 990, 991, 992, 993, 994, 995, 996, 997, 998, 999] (by decide +kernel) (by decide +kernel)) (goodIn_sub (fun _ h => List.mem_append_left _ (List.mem_append_left _ (List.mem_append_left _ (List.mem_append_left _ (List.mem_append_left _ (List.mem_append_left _ (List.mem_append_left _ (List.mem_append_right _ h)))))))) (by decide +kernel))) (goodIn_sub (fun _ h => List.mem_append_left _ (List.mem_append_right _ h)) (by decide +kernel))
set_option maxRecDepth 20000 in
theorem gL_law_X5_accidentalOf : GoodIn wsL_law (wsV RL 205 RX5 yX5_accidentalOf wsX5_accidentalOf) := goodIn_app (goodIn_of _ (by decide +kernel)) ggL_law_X5_accidentalOf
set_option maxRecDepth 20000 in
theorem ggL_law_L_rests : GoodIn wsL_law wsL_rests := goodIn_ca (goodIn_ca (goodIn_r _ [536, 139, 537, 538, 539, 2, 540, 23, 191, 192, 193, 194, 149, 150, 195, 196, 197, 198, 15, 541, 542, 543, 544, 27, 28, 17, 545, 546, 547, 22, 548, 45, 46, 44, 549, 550, 551, 552, 553, 19, 228, 554, 555, 556, 557, 294, 558, 559, 560, 144, 229, 230, 231, 190, 232, 210, 215, 216, 561, 562, 563, 564, 565, 566, 567, 568, 34, 35, 36, 37, 38, 40, 569, 570, 571, 572, 573, 574, 575, 576, 577, 578, 579, 580, 963, 964, 965, 966, 967, 968, 969, 970, 971, 972, 1000, 1001, 1002, 1003, 1004, 1005, 1006, 1007, 1008, 1009, 1010, 1011, 1014, 1015, 1016, 1017, 1018, 1019, 1020, 1021, 1022, 1023, 1024, 1025, 1026, 1027] (by decide +kernel) (by decide +kernel)) (goodIn_sub (fun _ h => List.mem_append_left _ (List.mem_append_left _ (List.mem_append_left _ (List.mem_append_left _ (List.mem_append_left _ (List.mem_append_left _ (List.mem_append_left _ (List.mem_append_right _ h)))))))) (by decide +kernel))) (goodIn_sub (fun _ h => List.mem_append_left _ (List.mem_append_left _ (List.mem_append_left _ (List.mem_append_left _ (List.mem_append_right _ h))))) (by decide +kernel))
set_option maxRecDepth 20000 in
theorem gL_law_L_rests : GoodIn wsL_law (va_wsS RL 206 yL_rests wsL_rests) := goodIn_app (goodIn_of _ (by decide +kernel)) ggL_law_L_rests
set_option maxRecDepth 20000 in
theorem ggL_law_X5_rests : GoodIn wsL_law wsX5_rests := goodIn_ca (goodIn_r _ [584, 585, 69, 586, 587, 588, 5, 589, 99, 242, 243, 244, 245, 100, 101, 102, 103, 590, 591, 592, 593, 135, 62, 68, 337, 338, 339, 340, 241, 254, 255, 256, 257, 63, 54, 55, 973, 974, 975, 976, 977, 978, 979, 980, 981, 982, 983, 984, 985, 986, 987, 988, 989, 990, 991, 992, 993, 994, 995, 996, 997, 998, 999] (by decide +kernel) (by decide +kernel)) (goodIn_sub (fun _ h => List.mem_append_left _ (List.mem_append_left _ (List.mem_append_left _ (List.mem_append_left _ (List.mem_append_left _ (List.mem_append_left _ (List.mem_append_left _ (List.mem_append_right _ h)))))))) (by decide +kernel))
set_option maxRecDepth 20000 in
theorem gL_law_X5_rests : GoodIn wsL_law (wsV RL 208 RX5 yX5_rests wsX5_rests) := goodIn_app (goodIn_of _ (by decide +kernel)) ggL_law_X5_rests
set_option maxRecDepth 20000 in
theorem ggL_law_L_restFirst : GoodIn wsL_law wsL_restFirst := goodIn_ca (goodIn_ca (goodIn_r _ [596, 139, 597, 598, 599, 2, 600, 23, 191, 192, 193, 194, 149, 150, 195, 196, 197, 198, 15, 601, 602, 603, 604, 541, 542, 543, 544, 27, 28, 17, 545, 546, 547, 22, 548, 45, 46, 44, 549, 550, 551, 552, 553, 19, 228, 554, 555, 556, 557, 294, 558, 559, 560, 144, 229, 230, 231, 190, 232, 210, 215, 216, 561, 562, 563, 564, 565, 566, 567, 568, 34, 35, 36, 37, 38, 40, 569, 570, 571, 572, 573, 574, 575, 576, 605, 606, 607, 608, 609, 610, 611, 612, 963, 964, 965, 966, 967, 968, 969, 970, 971, 972, 1000, 1001, 1002, 1003, 1004, 1005, 1006, 1007, 1008, 1009, 1010, 1011, 1014, 1015, 1016, 1017, 1018, 1019, 1020, 1021, 1022, 1023, 1024, 1025, 1026, 1027] (by decide +kernel) (by decide +kernel)) (goodIn_sub (fun _ h => List.mem_append_left _ (List.mem_append_left _ (List.mem_append_left _ (List.mem_append_left _ (List.mem_append_left _ (List.mem_append_left _ (List.mem_append_left _ (List.mem_append_right _ h)))))))) (by decide +kernel))) (goodIn_sub (fun _ h => List.mem_append_left _ (List.mem_append_left _ (List.mem_append_left _ (List.mem_append_left _ (List.mem_append_right _ h))))) (by decide +kernel))
set_option maxRecDepth 20000 in
theorem gL_law_L_restFirst : GoodIn wsL_law (va_wsS RL 209 yL_restFirst wsL_restFirst) := goodIn_app (goodIn_of _ (by decide +kernel)) ggL_law_L_restFirst
set_option maxRecDepth 20000 in
theorem ggL_law_X5_restFirst : GoodIn wsL_law wsX5_restFirst := goodIn_ca (goodIn_r _ [616, 68, 586, 587, 588, 5, 589, 99, 242, 243, 244, 245, 100, 101, 102, 103, 617, 618, 619, 620, 585, 69, 590, 591, 592, 593, 135, 62, 337, 338, 339, 340, 241, 254, 255, 256, 257, 63, 54, 55, 104, 105, 106, 107, 973, 974, 975, 976, 977, 978, 979, 980, 981, 982, 983, 984, 985, 986, 987, 988, 989, 990, 991, 992, 993, 994, 995, 996, 997, 998, 999] (by decide +kernel) (by decide +kernel)) (goodIn_sub (fun _ h => List.mem_append_left _ (List.mem_append_left _ (List.mem_append_left _ (List.mem_append_left _ (List.mem_append_left _ (List.mem_append_left _ (List.mem_append_left _ (List.mem_append_right _ h)))))))) (by decide +kernel))
set_option maxRecDepth 20000 in
theorem gL_law_X5_restFirst : GoodIn wsL_law (wsV RL 211 RX5 yX5_restFirst wsX5_restFirst) := goodIn_app (goodIn_of _ (by decide +kernel)) ggL_law_X5_restFirst
set_option maxRecDepth 20000 in
theorem ggL_law_L_restBars : GoodIn wsL_law wsL_restBars := goodIn_ca (goodIn_ca (goodIn_r _ [623, 139, 624, 625, 626, 2, 627, 23, 191, 192, 193, 194, 149, 150, 195, 196, 197, 198, 15, 601, 602, 603, 604, 541, 542, 543, 544, 27, 28, 17, 545, 546, 547, 22, 548, 45, 46, 44, 549, 550, 551, 552, 553, 19, 228, 554, 555, 556, 557, 294, 558, 559, 560, 144, 229, 230, 231, 190, 232, 210, 215, 216, 561, 562, 563, 564, 565, 566, 567, 568, 34, 35, 36, 37, 38, 40, 569, 570, 571, 572, 573, 574, 575, 576, 605, 606, 607, 608, 628, 629, 630, 631, 963, 964, 965, 966, 967, 968, 969, 970, 971, 972, 1000, 1001, 1002, 1003, 1004, 1005, 1006, 1007, 1008, 1009, 1010, 1011, 1014, 1015, 1016, 1017, 1018, 1019, 1020, 1021, 1022, 1023, 1024, 1025, 1026, 1027] (by decide +kernel) (by decide +kernel)) (goodIn_sub (fun _ h => List.mem_append_left _ (List.mem_append_left _ (List.mem_append_left _ (List.mem_append_left _ (List.mem_append_left _ (List.mem_append_left _ (List.mem_append_left _ (List.mem_append_right _ h)))))))) (by decide +kernel))) (goodIn_sub (fun _ h => List.mem_append_left _ (List.mem_append_left _ (List.mem_append_left _ (List.mem_append_left _ (List.mem_append_right _ h))))) (by decide +kernel))
set_option maxRecDepth 20000 in
theorem gL_law_L_restBars : GoodIn wsL_law (va_wsS RL 212 yL_restBars wsL_restBars) := goodIn_app (goodIn_of _ (by decide +kernel)) ggL_law_L_restBars
set_option maxRecDepth 20000 in
theorem ggL_law_X5_restBars : GoodIn wsL_law wsX5_restBars := goodIn_ca (goodIn_r _ [635, 69, 586, 587, 588, 5, 589, 99, 242, 243, 244, 245, 100, 101, 102, 103, 617, 618, 619, 620, 585, 590, 591, 592, 593, 135, 62, 68, 337, 338, 339, 340, 241, 254, 255, 256, 257, 63, 54, 55, 104, 105, 106, 107, 973, 974, 975, 976, 977, 978, 979, 980, 981, 982, 983, 984, 985, 986, 987, 988, 989, 990, 991, 992, 993, 994, 995, 996, 997, 998, 999] (by decide +kernel) (by decide +kernel)) (goodIn_sub (fun _ h => List.mem_append_left _ (List.mem_append_left _ (List.mem_append_left _ (List.mem_append_left _ (List.mem_append_left _ (List.mem_append_left _ (List.mem_append_left _ (List.mem_append_right _ h)))))))) (by decide +kernel))
set_option maxRecDepth 20000 in
theorem gL_law_X5_restBars : GoodIn wsL_law (wsV RL 214 RX5 yX5_restBars wsX5_restBars) := goodIn_app (goodIn_of _ (by decide +kernel)) ggL_law_X5_restBars
set_option maxRecDepth 20000 in
theorem ggL_law_L_setPage : GoodIn wsL_law wsL_setPage := goodIn_ca (goodIn_ca (goodIn_r _ [638, 77, 639, 640, 641, 2, 642, 83, 84, 27, 963, 964, 965, 966, 967, 968, 969, 970, 971, 972] (by decide +kernel) (by decide +kernel)) (goodIn_sub (fun _ h => List.mem_append_left _ (List.mem_append_left _ (List.mem_append_left _ (List.mem_append_left _ (List.mem_append_left _ (List.mem_append_left _ (List.mem_append_left _ (List.mem_append_right _ h)))))))) (by decide +kernel))) (goodIn_sub (fun _ h => List.mem_append_left _ (List.mem_append_left _ (List.mem_append_left _ (List.mem_append_left _ (List.mem_append_left _ (List.mem_append_left _ (List.mem_append_right _ h))))))) (by decide +kernel))
set_option maxRecDepth 20000 in
theorem gL_law_L_setPage : GoodIn wsL_law (va_wsS RL 215 yL_setPage wsL_setPage) := goodIn_app (goodIn_of _ (by decide +kernel)) ggL_law_L_setPage
set_option maxRecDepth 20000 in
theorem ggL_law_X5_setPage : GoodIn wsL_law wsX5_setPage := goodIn_r _ [646, 99, 65, 101, 102, 5, 103, 104, 105, 106, 107, 973, 974, 975, 976, 977, 978, 979, 980, 981, 982, 983, 984, 985, 986, 987, 988, 989, 990, 991, 992, 993, 994, 995, 996, 997, 998, 999] (by decide +kernel) (by decide +kernel)
set_option maxRecDepth 20000 in
theorem gL_law_X5_setPage : GoodIn wsL_law (wsV RL 217 RX5 yX5_setPage wsX5_setPage) := goodIn_app (goodIn_of _ (by decide +kernel)) ggL_law_X5_setPage
set_option maxRecDepth 20000 in
theorem ggL_law_L_setTurn : GoodIn wsL_law wsL_setTurn := goodIn_ca (goodIn_ca (goodIn_r _ [649, 77, 650, 651, 652, 2, 653, 83, 84, 28, 963, 964, 965, 966, 967, 968, 969, 970, 971, 972] (by decide +kernel) (by decide +kernel)) (goodIn_sub (fun _ h => List.mem_append_left _ (List.mem_append_left _ (List.mem_append_left _ (List.mem_append_left _ (List.mem_append_left _ (List.mem_append_left _ (List.mem_append_left _ (List.mem_append_right _ h)))))))) (by decide +kernel))) (goodIn_sub (fun _ h => List.mem_append_left _ (List.mem_append_left _ (List.mem_append_left _ (List.mem_append_left _ (List.mem_append_left _ (List.mem_append_left _ (List.mem_append_right _ h))))))) (by decide +kernel))
set_option maxRecDepth 20000 in
theorem gL_law_L_setTurn : GoodIn wsL_law (va_wsS RL 218 yL_setTurn wsL_setTurn) := goodIn_app (goodIn_of _ (by decide +kernel)) ggL_law_L_setTurn
set_option maxRecDepth 20000 in
theorem ggL_law_X5_setTurn : GoodIn wsL_law wsX5_setTurn := goodIn_r _ [657, 99, 66, 101, 102, 5, 103, 104, 105, 106, 107, 973, 974, 975, 976, 977, 978, 979, 980, 981, 982, 983, 984, 985, 986, 987, 988, 989, 990, 991, 992, 993, 994, 995, 996, 997, 998, 999] (by decide +kernel) (by decide +kernel)
set_option maxRecDepth 20000 in
theorem gL_law_X5_setTurn : GoodIn wsL_law (wsV RL 220 RX5 yX5_setTurn wsX5_setTurn) := goodIn_app (goodIn_of _ (by decide +kernel)) ggL_law_X5_setTurn
set_option maxRecDepth 20000 in
theorem ggL_law_L_setCue : GoodIn wsL_law wsL_setCue := goodIn_ca (goodIn_ca (goodIn_r _ [660, 77, 661, 662, 663, 2, 664, 83, 84, 29, 963, 964, 965, 966, 967, 968, 969, 970, 971, 972] (by decide +kernel) (by decide +kernel)) (goodIn_sub (fun _ h => List.mem_append_left _ (List.mem_append_left _ (List.mem_append_left _ (List.mem_append_left _ (List.mem_append_left _ (List.mem_append_left _ (List.mem_append_left _ (List.mem_append_right _ h)))))))) (by decide +kernel))) (goodIn_sub (fun _ h => List.mem_append_left _ (List.mem_append_left _ (List.mem_append_left _ (List.mem_append_left _ (List.mem_append_left _ (List.mem_append_left _ (List.mem_append_right _ h))))))) (by decide +kernel))
set_option maxRecDepth 20000 in
theorem gL_law_L_setCue : GoodIn wsL_law (va_wsS RL 221 yL_setCue wsL_setCue) := goodIn_app (goodIn_of _ (by decide +kernel)) ggL_law_L_setCue
set_option maxRecDepth 20000 in
theorem ggL_law_X5_setCue : GoodIn wsL_law wsX5_setCue := goodIn_r _ [668, 99, 67, 101, 102, 5, 103, 104, 105, 106, 107, 973, 974, 975, 976, 977, 978, 979, 980, 981, 982, 983, 984, 985, 986, 987, 988, 989, 990, 991, 992, 993, 994, 995, 996, 997, 998, 999] (by decide +kernel) (by decide +kernel)
set_option maxRecDepth 20000 in
theorem gL_law_X5_setCue : GoodIn wsL_law (wsV RL 223 RX5 yX5_setCue wsX5_setCue) := goodIn_app (goodIn_of _ (by decide +kernel)) ggL_law_X5_setCue
set_option maxRecDepth 20000 in
theorem ggL_law_L_hardTurns : GoodIn wsL_law wsL_hardTurns := goodIn_ca (goodIn_ca (goodIn_r _ [671, 139, 672, 673, 674, 2, 675, 23, 191, 192, 193, 194, 149, 150, 195, 196, 197, 198, 15, 541, 542, 543, 544, 27, 28, 17, 545, 546, 547, 22, 548, 45, 46, 44, 549, 550, 551, 552, 553, 19, 228, 554, 555, 556, 557, 294, 558, 559, 560, 144, 229, 230, 231, 190, 232, 210, 215, 216, 561, 562, 563, 564, 565, 566, 567, 568, 34, 35, 36, 37, 38, 40, 569, 570, 571, 572, 573, 574, 575, 576, 676, 677, 678, 679, 41, 680, 42, 43, 681, 682, 683, 684, 685, 686, 687, 688, 689, 690, 691, 692, 963, 964, 965, 966, 967, 968, 969, 970, 971, 972, 1000, 1001, 1002, 1003, 1004, 1005, 1006, 1007, 1008, 1009, 1010, 1011, 1014, 1015, 1016, 1017, 1018, 1019, 1020, 1021, 1022, 1023, 1024, 1025, 1026, 1027] (by decide +kernel) (by decide +kernel)) (goodIn_sub (fun _ h => List.mem_append_left _ (List.mem_append_left _ (List.mem_append_left _ (List.mem_append_left _ (List.mem_append_left _ (List.mem_append_left _ (List.mem_append_left _ (List.mem_append_right _ h)))))))) (by decide +kernel))) (goodIn_sub (fun _ h => List.mem_append_left _ (List.mem_append_left _ (List.mem_append_left _ (List.mem_append_left _ (List.mem_append_right _ h))))) (by decide +kernel))
set_option maxRecDepth 20000 in
theorem gL_law_L_hardTurns : GoodIn wsL_law (va_wsS RL 224 yL_hardTurns wsL_hardTurns) := goodIn_app (goodIn_of _ (by decide +kernel)) ggL_law_L_hardTurns
set_option maxRecDepth 20000 in
theorem ggL_law_X5_hardTurns : GoodIn wsL_law wsX5_hardTurns := goodIn_ca (goodIn_r _ [696, 70, 586, 587, 588, 5, 589, 99, 242, 243, 244, 245, 100, 101, 102, 103, 697, 698, 699, 700, 585, 71, 72, 69, 68, 65, 590, 591, 592, 593, 135, 62, 337, 338, 339, 340, 241, 254, 255, 256, 257, 63, 54, 55, 701, 702, 703, 704, 66, 705, 706, 707, 708, 52, 57, 58, 709, 555, 556, 557, 710, 711, 712, 713, 714, 559, 560, 973, 974, 975, 976, 977, 978, 979, 980, 981, 982, 983, 984, 985, 986, 987, 988, 989, 990, 991, 992, 993, 994, 995, 996, 997, 998, 999] (by decide +kernel) (by decide +kernel)) (goodIn_sub (fun _ h => List.mem_append_left _ (List.mem_append_left _ (List.mem_append_left _ (List.mem_append_left _ (List.mem_append_left _ (List.mem_append_left _ (List.mem_append_left _ (List.mem_append_right _ h)))))))) (by decide +kernel))
set_option maxRecDepth 20000 in
theorem gL_law_X5_hardTurns : GoodIn wsL_law (wsV RL 226 RX5 yX5_hardTurns wsX5_hardTurns) := goodIn_app (goodIn_of _ (by decide +kernel)) ggL_law_X5_hardTurns
set_option maxRecDepth 20000 in
theorem ggL_law_L_hardTurnsByTrying : GoodIn wsL_law wsL_hardTurnsByTrying := goodIn_ca (goodIn_ca (goodIn_r _ [717, 139, 718, 719, 720, 2, 721, 23, 191, 192, 193, 194, 149, 150, 195, 196, 197, 198, 15, 541, 542, 543, 544, 27, 28, 17, 545, 546, 547, 22, 548, 45, 46, 44, 549, 550, 551, 552, 553, 19, 228, 554, 555, 556, 557, 294, 558, 559, 560, 144, 229, 230, 231, 190, 232, 210, 215, 216, 561, 562, 563, 564, 565, 566, 567, 568, 34, 35, 36, 37, 38, 40, 569, 570, 571, 572, 573, 574, 575, 576, 722, 723, 724, 685, 686, 687, 688, 725, 963, 964, 965, 966, 967, 968, 969, 970, 971, 972, 1000, 1001, 1002, 1003, 1004, 1005, 1006, 1007, 1008, 1009, 1010, 1011, 1014, 1015, 1016, 1017, 1018, 1019, 1020, 1021, 1022, 1023, 1024, 1025, 1026, 1027] (by decide +kernel) (by decide +kernel)) (goodIn_sub (fun _ h => List.mem_append_left _ (List.mem_append_left _ (List.mem_append_left _ (List.mem_append_left _ (List.mem_append_left _ (List.mem_append_left _ (List.mem_append_left _ (List.mem_append_right _ h)))))))) (by decide +kernel))) (goodIn_sub (fun _ h => List.mem_append_left _ (List.mem_append_left _ (List.mem_append_left _ (List.mem_append_left _ (List.mem_append_right _ h))))) (by decide +kernel))
set_option maxRecDepth 20000 in
theorem gL_law_L_hardTurnsByTrying : GoodIn wsL_law (va_wsS RL 227 yL_hardTurnsByTrying wsL_hardTurnsByTrying) := goodIn_app (goodIn_of _ (by decide +kernel)) ggL_law_L_hardTurnsByTrying
set_option maxRecDepth 20000 in
theorem ggL_law_X5_hardTurnsByTrying : GoodIn wsL_law wsX5_hardTurnsByTrying := goodIn_ca (goodIn_r _ [729, 730, 694, 695, 5, 696, 70, 586, 587, 588, 589, 99, 242, 243, 244, 245, 100, 101, 102, 103, 697, 698, 699, 700, 585, 71, 72, 69, 68, 65, 590, 591, 592, 593, 135, 62, 337, 338, 339, 340, 241, 254, 255, 256, 257, 63, 54, 55, 701, 702, 703, 704, 66, 705, 706, 707, 708, 52, 57, 58, 709, 555, 556, 557, 710, 711, 712, 713, 714, 559, 560, 973, 974, 975, 976, 977, 978, 979, 980, 981, 982, 983, 984, 985, 986, 987, 988, 989, 990, 991, 992, 993, 994, 995, 996, 997, 998, 999] (by decide +kernel) (by decide +kernel)) (goodIn_sub (fun _ h => List.mem_append_left _ (List.mem_append_left _ (List.mem_append_left _ (List.mem_append_left _ (List.mem_append_left _ (List.mem_append_left _ (List.mem_append_left _ (List.mem_append_right _ h)))))))) (by decide +kernel))
set_option maxRecDepth 20000 in
theorem gL_law_X5_hardTurnsByTrying : GoodIn wsL_law (wsV RL 229 RX5 yX5_hardTurnsByTrying wsX5_hardTurnsByTrying) := goodIn_app (goodIn_of _ (by decide +kernel)) ggL_law_X5_hardTurnsByTrying
set_option maxRecDepth 20000 in
theorem ggL_law_L_pages : GoodIn wsL_law wsL_pages := goodIn_ca (goodIn_ca (goodIn_r _ [733, 139, 734, 735, 736, 2, 737, 23, 191, 192, 193, 194, 149, 150, 195, 196, 197, 198, 15, 541, 542, 543, 544, 27, 28, 17, 545, 546, 547, 22, 548, 45, 46, 44, 549, 550, 551, 552, 553, 19, 228, 554, 555, 556, 557, 294, 558, 559, 560, 144, 229, 230, 231, 190, 232, 210, 215, 216, 561, 562, 563, 564, 565, 566, 567, 568, 34, 35, 36, 37, 38, 40, 569, 570, 571, 572, 573, 574, 575, 576, 676, 677, 678, 679, 41, 680, 42, 43, 681, 682, 683, 684, 685, 686, 687, 688, 738, 739, 740, 741, 963, 964, 965, 966, 967, 968, 969, 970, 971, 972, 1000, 1001, 1002, 1003, 1004, 1005, 1006, 1007, 1008, 1009, 1010, 1011, 1014, 1015, 1016, 1017, 1018, 1019, 1020, 1021, 1022, 1023, 1024, 1025, 1026, 1027] (by decide +kernel) (by decide +kernel)) (goodIn_sub (fun _ h => List.mem_append_left _ (List.mem_append_left _ (List.mem_append_left _ (List.mem_append_left _ (List.mem_append_left _ (List.mem_append_left _ (List.mem_append_left _ (List.mem_append_right _ h)))))))) (by decide +kernel))) (goodIn_sub (fun _ h => List.mem_append_left _ (List.mem_append_left _ (List.mem_append_left _ (List.mem_append_left _ (List.mem_append_right _ h))))) (by decide +kernel))
set_option maxRecDepth 20000 in
theorem gL_law_L_pages : GoodIn wsL_law (va_wsS RL 230 yL_pages wsL_pages) := goodIn_app (goodIn_of _ (by decide +kernel)) ggL_law_L_pages
set_option maxRecDepth 20000 in
theorem ggL_law_X5_pages : GoodIn wsL_law wsX5_pages := goodIn_ca (goodIn_r _ [745, 71, 586, 587, 588, 5, 589, 99, 242, 243, 244, 245, 100, 101, 102, 103, 697, 698, 699, 700, 70, 585, 72, 69, 68, 65, 590, 591, 592, 593, 135, 62, 337, 338, 339, 340, 241, 254, 255, 256, 257, 63, 54, 55, 701, 702, 703, 704, 66, 705, 706, 707, 708, 52, 57, 58, 709, 555, 556, 557, 710, 711, 712, 713, 714, 559, 560, 973, 974, 975, 976, 977, 978, 979, 980, 981, 982, 983, 984, 985, 986, 987, 988, 989, 990, 991, 992, 993, 994, 995, 996, 997, 998, 999] (by decide +kernel) (by decide +kernel)) (goodIn_sub (fun _ h => List.mem_append_left _ (List.mem_append_left _ (List.mem_append_left _ (List.mem_append_left _ (List.mem_append_left _ (List.mem_append_left _ (List.mem_append_left _ (List.mem_append_right _ h)))))))) (by decide +kernel))
set_option maxRecDepth 20000 in
theorem gL_law_X5_pages : GoodIn wsL_law (wsV RL 232 RX5 yX5_pages wsX5_pages) := goodIn_app (goodIn_of _ (by decide +kernel)) ggL_law_X5_pages
set_option maxRecDepth 20000 in
theorem ggL_law_L_pageEnd : GoodIn wsL_law wsL_pageEnd := goodIn_ca (goodIn_ca (goodIn_ca (goodIn_r _ [748, 139, 261, 749, 750, 751, 2, 752, 272, 273, 23, 191, 192, 193, 194, 149, 150, 195, 196, 197, 198, 15, 541, 542, 543, 544, 27, 28, 17, 545, 546, 547, 22, 548, 45, 46, 44, 549, 550, 551, 552, 553, 19, 228, 554, 555, 556, 557, 294, 558, 559, 560, 144, 229, 230, 231, 190, 232, 210, 215, 216, 561, 562, 563, 564, 565, 566, 567, 568, 34, 35, 36, 37, 38, 40, 569, 570, 571, 572, 573, 574, 575, 576, 676, 677, 678, 679, 41, 680, 42, 43, 681, 682, 683, 684, 685, 686, 687, 688, 738, 739, 740, 741, 753, 754, 755, 756, 757, 758, 759, 760, 963, 964, 965, 966, 967, 968, 969, 970, 971, 972, 1000, 1001, 1002, 1003, 1004, 1005, 1006, 1007, 1008, 1009, 1010, 1011, 1014, 1015, 1016, 1017, 1018, 1019, 1020, 1021, 1022, 1023, 1024, 1025, 1026, 1027] (by decide +kernel) (by decide +kernel)) (goodIn_sub (fun _ h => List.mem_append_left _ (List.mem_append_left _ (List.mem_append_left _ (List.mem_append_left _ (List.mem_append_left _ (List.mem_append_left _ (List.mem_append_left _ (List.mem_append_right _ h)))))))) (by decide +kernel))) (goodIn_sub (fun _ h => List.mem_append_left _ (List.mem_append_left _ (List.mem_append_right _ h))) (by decide +kernel))) (goodIn_sub (fun _ h => List.mem_append_left _ (List.mem_append_left _ (List.mem_append_left _ (List.mem_append_left _ (List.mem_append_right _ h))))) (by decide +kernel))
set_option maxRecDepth 20000 in
theorem gL_law_L_pageEnd : GoodIn wsL_law (va_wsS RL 233 yL_pageEnd wsL_pageEnd) := goodIn_app (goodIn_of _ (by decide +kernel)) ggL_law_L_pageEnd
set_option maxRecDepth 20000 in
theorem ggL_law_X5_pageEnd : GoodIn wsL_law wsX5_pageEnd := goodIn_ca (goodIn_r _ [764, 71, 72, 586, 587, 588, 5, 589, 99, 242, 243, 244, 245, 100, 101, 102, 103, 697, 698, 699, 700, 70, 585, 69, 68, 65, 590, 591, 592, 593, 135, 62, 337, 338, 339, 340, 241, 254, 255, 256, 257, 63, 54, 55, 701, 702, 703, 704, 66, 705, 706, 707, 708, 52, 57, 58, 709, 555, 556, 557, 710, 711, 712, 713, 714, 559, 560, 104, 105, 106, 107, 973, 974, 975, 976, 977, 978, 979, 980, 981, 982, 983, 984, 985, 986, 987, 988, 989, 990, 991, 992, 993, 994, 995, 996, 997, 998, 999] (by decide +kernel) (by decide +kernel)) (goodIn_sub (fun _ h => List.mem_append_left _ (List.mem_append_left _ (List.mem_append_left _ (List.mem_append_left _ (List.mem_append_left _ (List.mem_append_left _ (List.mem_append_left _ (List.mem_append_right _ h)))))))) (by decide +kernel))
set_option maxRecDepth 20000 in
theorem gL_law_X5_pageEnd : GoodIn wsL_law (wsV RL 235 RX5 yX5_pageEnd wsX5_pageEnd) := goodIn_app (goodIn_of _ (by decide +kernel)) ggL_law_X5_pageEnd
set_option maxRecDepth 20000 in
theorem ggL_law_L_cuePart : GoodIn wsL_law wsL_cuePart := goodIn_ca (goodIn_ca (goodIn_ca (goodIn_r _ [767, 139, 182, 768, 769, 770, 2, 771, 191, 192, 193, 194, 149, 150, 195, 196, 197, 198, 15, 601, 602, 603, 604, 23, 541, 542, 543, 544, 27, 28, 17, 545, 546, 547, 22, 548, 45, 46, 44, 549, 550, 551, 552, 553, 19, 228, 554, 555, 556, 557, 294, 558, 559, 560, 144, 229, 230, 231, 190, 232, 210, 215, 216, 561, 562, 563, 564, 565, 566, 567, 568, 34, 35, 36, 37, 38, 40, 569, 570, 571, 572, 573, 574, 575, 576, 605, 606, 607, 608, 772, 773, 774, 775, 187, 188, 29, 25, 757, 758, 759, 760, 628, 629, 630, 631, 776, 777, 778, 779, 24, 325, 326, 327, 328, 963, 964, 965, 966, 967, 968, 969, 970, 971, 972, 1000, 1001, 1002, 1003, 1004, 1005, 1006, 1007, 1008, 1009, 1010, 1011, 1014, 1015, 1016, 1017, 1018, 1019, 1020, 1021, 1022, 1023, 1024, 1025, 1026, 1027] (by decide +kernel) (by decide +kernel)) (goodIn_sub (fun _ h => List.mem_append_left _ (List.mem_append_left _ (List.mem_append_left _ (List.mem_append_left _ (List.mem_append_left _ (List.mem_append_left _ (List.mem_append_left _ (List.mem_append_right _ h)))))))) (by decide +kernel))) (goodIn_sub (fun _ h => List.mem_append_left _ (List.mem_append_left _ (List.mem_append_left _ (List.mem_append_left _ (List.mem_append_right _ h))))) (by decide +kernel))) (goodIn_sub (fun _ h => List.mem_append_left _ (List.mem_append_left _ (List.mem_append_left _ (List.mem_append_right _ h)))) (by decide +kernel))
set_option maxRecDepth 20000 in
theorem gL_law_L_cuePart : GoodIn wsL_law (va_wsS RL 236 yL_cuePart wsL_cuePart) := goodIn_app (goodIn_of _ (by decide +kernel)) ggL_law_L_cuePart
set_option maxRecDepth 20000 in
theorem ggL_law_X5_cuePart : GoodIn wsL_law wsX5_cuePart := goodIn_ca (goodIn_r _ [783, 586, 587, 588, 5, 589, 99, 242, 243, 244, 245, 100, 101, 102, 103, 617, 618, 619, 620, 585, 69, 590, 591, 592, 593, 135, 62, 68, 337, 338, 339, 340, 241, 254, 255, 256, 257, 63, 54, 55, 104, 105, 106, 107, 784, 785, 786, 787, 67, 710, 711, 712, 713, 714, 559, 556, 560, 973, 974, 975, 976, 977, 978, 979, 980, 981, 982, 983, 984, 985, 986, 987, 988, 989, 990, 991, 992, 993, 994, 995, 996, 997, 998, 999] (by decide +kernel) (by decide +kernel)) (goodIn_sub (fun _ h => List.mem_append_left _ (List.mem_append_left _ (List.mem_append_left _ (List.mem_append_left _ (List.mem_append_left _ (List.mem_append_left _ (List.mem_append_left _ (List.mem_append_right _ h)))))))) (by decide +kernel))
set_option maxRecDepth 20000 in
theorem gL_law_X5_cuePart : GoodIn wsL_law (wsV RL 238 RX5 yX5_cuePart wsX5_cuePart) := goodIn_app (goodIn_of _ (by decide +kernel)) ggL_law_X5_cuePart
set_option maxRecDepth 20000 in
theorem ggL_law_L_cuePitch : GoodIn wsL_law wsL_cuePitch := goodIn_ca (goodIn_ca (goodIn_ca (goodIn_ca (goodIn_r _ [790, 139, 182, 261, 791, 792, 793, 2, 794, 23, 266, 420, 191, 192, 193, 194, 149, 150, 195, 196, 197, 198, 15, 601, 602, 603, 604, 541, 542, 543, 544, 27, 28, 17, 545, 546, 547, 22, 548, 45, 46, 44, 549, 550, 551, 552, 553, 19, 228, 554, 555, 556, 557, 294, 558, 559, 560, 144, 229, 230, 231, 190, 232, 210, 215, 216, 561, 562, 563, 564, 565, 566, 567, 568, 34, 35, 36, 37, 38, 40, 569, 570, 571, 572, 573, 574, 575, 576, 605, 606, 607, 608, 772, 773, 774, 775, 187, 188, 29, 25, 757, 758, 759, 760, 628, 629, 630, 631, 776, 777, 778, 779, 24, 325, 326, 327, 328, 348, 349, 350, 351, 272, 273, 352, 353, 354, 355, 225, 226, 356, 357, 358, 359, 218, 217, 268, 269, 270, 271, 274, 275, 276, 277, 278, 963, 964, 965, 966, 967, 968, 969, 970, 971, 972, 1017, 1018, 1019, 1020, 1021, 1022, 1023, 1024, 1025, 1026, 1027, 1012, 1013, 1000, 1001, 1002, 1003, 1004, 1005, 1006, 1007, 1008, 1009, 1010, 1011, 1014, 1015, 1016] (by decide +kernel) (by decide +kernel)) (goodIn_sub (fun _ h => List.mem_append_left _ (List.mem_append_left _ (List.mem_append_left _ (List.mem_append_left _ (List.mem_append_left _ (List.mem_append_left _ (List.mem_append_left _ (List.mem_append_right _ h)))))))) (by decide +kernel))) (goodIn_sub (fun _ h => List.mem_append_left _ (List.mem_append_left _ (List.mem_append_left _ (List.mem_append_left _ (List.mem_append_right _ h))))) (by decide +kernel))) (goodIn_sub (fun _ h => List.mem_append_left _ (List.mem_append_left _ (List.mem_append_left _ (List.mem_append_right _ h)))) (by decide +kernel))) (goodIn_sub (fun _ h => List.mem_append_left _ (List.mem_append_left _ (List.mem_append_right _ h))) (by decide +kernel))
set_option maxRecDepth 20000 in
theorem gL_law_L_cuePitch : GoodIn wsL_law (va_wsS RL 239 yL_cuePitch wsL_cuePitch) := goodIn_app (goodIn_of _ (by decide +kernel)) ggL_law_L_cuePitch
set_option maxRecDepth 20000 in
theorem ggL_law_X5_cuePitch : GoodIn wsL_law wsX5_cuePitch := goodIn_ca (goodIn_r _ [798, 99, 59, 51, 799, 781, 782, 5, 783, 586, 587, 588, 589, 242, 243, 244, 245, 100, 101, 102, 103, 617, 618, 619, 620, 585, 69, 590, 591, 592, 593, 135, 62, 68, 337, 338, 339, 340, 241, 254, 255, 256, 257, 63, 54, 55, 104, 105, 106, 107, 784, 785, 786, 787, 67, 710, 711, 712, 713, 714, 559, 556, 560, 364, 365, 366, 367, 57, 56, 973, 974, 975, 976, 977, 978, 979, 980, 981, 982, 983, 984, 985, 986, 987, 988, 989, 990, 991, 992, 993, 994, 995, 996, 997, 998, 999] (by decide +kernel) (by decide +kernel)) (goodIn_sub (fun _ h => List.mem_append_left _ (List.mem_append_left _ (List.mem_append_left _ (List.mem_append_left _ (List.mem_append_left _ (List.mem_append_left _ (List.mem_append_left _ (List.mem_append_right _ h)))))))) (by decide +kernel))
set_option maxRecDepth 20000 in
theorem gL_law_X5_cuePitch : GoodIn wsL_law (wsV RL 241 RX5 yX5_cuePitch wsX5_cuePitch) := goodIn_app (goodIn_of _ (by decide +kernel)) ggL_law_X5_cuePitch
set_option maxRecDepth 20000 in
theorem ggL_law_L_copyOut : GoodIn wsL_law wsL_copyOut := goodIn_ca (goodIn_ca (goodIn_r _ [802, 139, 803, 804, 805, 2, 806, 807, 191, 192, 193, 194, 149, 150, 195, 196, 197, 198, 15, 808, 809, 810, 811, 19, 225, 812, 813, 814, 190, 815, 210, 211, 220, 213, 219, 212, 214, 306, 307, 308, 309, 274, 1012, 1013, 963, 964, 965, 966, 967, 968, 969, 970, 971, 972, 1017, 1018, 1019, 1020, 1021, 1022, 1023, 1024, 1025, 1026, 1027] (by decide +kernel) (by decide +kernel)) (goodIn_sub (fun _ h => List.mem_append_left _ (List.mem_append_left _ (List.mem_append_left _ (List.mem_append_left _ (List.mem_append_left _ (List.mem_append_left _ (List.mem_append_left _ (List.mem_append_right _ h)))))))) (by decide +kernel))) (goodIn_sub (fun _ h => List.mem_append_left _ (List.mem_append_left _ (List.mem_append_left _ (List.mem_append_left _ (List.mem_append_right _ h))))) (by decide +kernel))
set_option maxRecDepth 20000 in
theorem gL_law_L_copyOut : GoodIn wsL_law (va_wsS RL 242 yL_copyOut wsL_copyOut) := goodIn_app (goodIn_of _ (by decide +kernel)) ggL_law_L_copyOut
set_option maxRecDepth 20000 in
theorem ggL_law_X5_copyOut : GoodIn wsL_law wsX5_copyOut := goodIn_ca (goodIn_r _ [819, 586, 587, 588, 5, 589, 99, 242, 243, 244, 245, 100, 101, 102, 103, 820, 821, 822, 823, 64, 241, 54, 60, 63, 58, 61, 59, 314, 315, 316, 317, 973, 974, 975, 976, 977, 978, 979, 980, 981, 982, 983, 984, 985, 986, 987, 988, 989, 990, 991, 992, 993, 994, 995, 996, 997, 998, 999] (by decide +kernel) (by decide +kernel)) (goodIn_sub (fun _ h => List.mem_append_left _ (List.mem_append_left _ (List.mem_append_left _ (List.mem_append_left _ (List.mem_append_left _ (List.mem_append_left _ (List.mem_append_left _ (List.mem_append_right _ h)))))))) (by decide +kernel))
set_option maxRecDepth 20000 in
theorem gL_law_X5_copyOut : GoodIn wsL_law (wsV RL 244 RX5 yX5_copyOut wsX5_copyOut) := goodIn_app (goodIn_of _ (by decide +kernel)) ggL_law_X5_copyOut
set_option maxRecDepth 20000 in
theorem ggL_law_L_carry : GoodIn wsL_law wsL_carry := goodIn_ca (goodIn_ca (goodIn_ca (goodIn_r _ [826, 139, 78, 827, 828, 829, 2, 830, 831, 832, 833, 834, 85, 86, 807, 191, 192, 193, 194, 149, 150, 195, 196, 197, 198, 15, 835, 836, 837, 838, 19, 225, 267, 839, 840, 841, 190, 842, 210, 211, 220, 213, 219, 212, 808, 809, 810, 811, 812, 813, 814, 815, 214, 1012, 1013, 963, 964, 965, 966, 967, 968, 969, 970, 971, 972, 1017, 1018, 1019, 1020, 1021, 1022, 1023, 1024, 1025, 1026, 1027] (by decide +kernel) (by decide +kernel)) (goodIn_sub (fun _ h => List.mem_append_left _ (List.mem_append_left _ (List.mem_append_left _ (List.mem_append_left _ (List.mem_append_left _ (List.mem_append_left _ (List.mem_append_left _ (List.mem_append_right _ h)))))))) (by decide +kernel))) (goodIn_sub (fun _ h => List.mem_append_left _ (List.mem_append_left _ (List.mem_append_left _ (List.mem_append_left _ (List.mem_append_left _ (List.mem_append_right _ h)))))) (by decide +kernel))) (goodIn_sub (fun _ h => List.mem_append_left _ (List.mem_append_left _ (List.mem_append_left _ (List.mem_append_left _ (List.mem_append_right _ h))))) (by decide +kernel))
set_option maxRecDepth 20000 in
theorem gL_law_L_carry : GoodIn wsL_law (va_wsS RL 245 yL_carry wsL_carry) := goodIn_app (goodIn_of _ (by decide +kernel)) ggL_law_L_carry
set_option maxRecDepth 20000 in
theorem ggL_law_X5_carry : GoodIn wsL_law wsX5_carry := goodIn_ca (goodIn_r _ [846, 847, 848, 849, 5, 850, 64, 99, 586, 587, 588, 589, 242, 243, 244, 245, 100, 101, 102, 103, 104, 105, 106, 107, 851, 852, 853, 854, 241, 54, 63, 60, 58, 61, 59, 820, 821, 822, 823, 973, 974, 975, 976, 977, 978, 979, 980, 981, 982, 983, 984, 985, 986, 987, 988, 989, 990, 991, 992, 993, 994, 995, 996, 997, 998, 999] (by decide +kernel) (by decide +kernel)) (goodIn_sub (fun _ h => List.mem_append_left _ (List.mem_append_left _ (List.mem_append_left _ (List.mem_append_left _ (List.mem_append_left _ (List.mem_append_left _ (List.mem_append_left _ (List.mem_append_right _ h)))))))) (by decide +kernel))
set_option maxRecDepth 20000 in
theorem gL_law_X5_carry : GoodIn wsL_law (wsV RL 247 RX5 yX5_carry wsX5_carry) := goodIn_app (goodIn_of _ (by decide +kernel)) ggL_law_X5_carry
set_option maxRecDepth 20000 in
theorem ggL_law_L_differences : GoodIn wsL_law wsL_differences := goodIn_ca (goodIn_ca (goodIn_ca (goodIn_r _ [857, 139, 78, 858, 859, 860, 2, 861, 831, 832, 833, 834, 85, 86, 807, 191, 192, 193, 194, 149, 150, 195, 196, 197, 198, 15, 835, 836, 837, 838, 19, 225, 267, 839, 840, 841, 190, 842, 210, 211, 220, 213, 219, 212, 1012, 1013, 963, 964, 965, 966, 967, 968, 969, 970, 971, 972, 1017, 1018, 1019, 1020, 1021, 1022, 1023, 1024, 1025, 1026, 1027] (by decide +kernel) (by decide +kernel)) (goodIn_sub (fun _ h => List.mem_append_left _ (List.mem_append_left _ (List.mem_append_left _ (List.mem_append_left _ (List.mem_append_left _ (List.mem_append_left _ (List.mem_append_left _ (List.mem_append_right _ h)))))))) (by decide +kernel))) (goodIn_sub (fun _ h => List.mem_append_left _ (List.mem_append_left _ (List.mem_append_left _ (List.mem_append_left _ (List.mem_append_left _ (List.mem_append_right _ h)))))) (by decide +kernel))) (goodIn_sub (fun _ h => List.mem_append_left _ (List.mem_append_left _ (List.mem_append_left _ (List.mem_append_left _ (List.mem_append_right _ h))))) (by decide +kernel))
set_option maxRecDepth 20000 in
theorem gL_law_L_differences : GoodIn wsL_law (va_wsS RL 248 yL_differences wsL_differences) := goodIn_app (goodIn_of _ (by decide +kernel)) ggL_law_L_differences
set_option maxRecDepth 20000 in
theorem ggL_law_X5_differences : GoodIn wsL_law wsX5_differences := goodIn_ca (goodIn_r _ [865, 847, 848, 849, 5, 850, 64, 99, 586, 587, 588, 589, 242, 243, 244, 245, 100, 101, 102, 103, 104, 105, 106, 107, 851, 852, 853, 854, 241, 54, 63, 60, 58, 61, 59, 973, 974, 975, 976, 977, 978, 979, 980, 981, 982, 983, 984, 985, 986, 987, 988, 989, 990, 991, 992, 993, 994, 995, 996, 997, 998, 999] (by decide +kernel) (by decide +kernel)) (goodIn_sub (fun _ h => List.mem_append_left _ (List.mem_append_left _ (List.mem_append_left _ (List.mem_append_left _ (List.mem_append_left _ (List.mem_append_left _ (List.mem_append_left _ (List.mem_append_right _ h)))))))) (by decide +kernel))
set_option maxRecDepth 20000 in
theorem gL_law_X5_differences : GoodIn wsL_law (wsV RL 250 RX5 yX5_differences wsX5_differences) := goodIn_app (goodIn_of _ (by decide +kernel)) ggL_law_X5_differences
set_option maxRecDepth 20000 in
theorem ggL_law_L_differencesByComparing : GoodIn wsL_law wsL_differencesByComparing := goodIn_ca (goodIn_ca (goodIn_ca (goodIn_r _ [868, 139, 78, 869, 870, 871, 2, 872, 831, 832, 833, 834, 85, 86, 807, 191, 192, 193, 194, 149, 150, 195, 196, 197, 198, 15, 873, 874, 875, 876, 19, 225, 839, 840, 841, 190, 842, 210, 211, 220, 213, 219, 212, 1012, 1013, 963, 964, 965, 966, 967, 968, 969, 970, 971, 972, 1017, 1018, 1019, 1020, 1021, 1022, 1023, 1024, 1025, 1026, 1027] (by decide +kernel) (by decide +kernel)) (goodIn_sub (fun _ h => List.mem_append_left _ (List.mem_append_left _ (List.mem_append_left _ (List.mem_append_left _ (List.mem_append_left _ (List.mem_append_left _ (List.mem_append_left _ (List.mem_append_right _ h)))))))) (by decide +kernel))) (goodIn_sub (fun _ h => List.mem_append_left _ (List.mem_append_left _ (List.mem_append_left _ (List.mem_append_left _ (List.mem_append_left _ (List.mem_append_right _ h)))))) (by decide +kernel))) (goodIn_sub (fun _ h => List.mem_append_left _ (List.mem_append_left _ (List.mem_append_left _ (List.mem_append_left _ (List.mem_append_right _ h))))) (by decide +kernel))
set_option maxRecDepth 20000 in
theorem gL_law_L_differencesByComparing : GoodIn wsL_law (va_wsS RL 251 yL_differencesByComparing wsL_differencesByComparing) := goodIn_app (goodIn_of _ (by decide +kernel)) ggL_law_L_differencesByComparing
set_option maxRecDepth 20000 in
theorem ggL_law_X5_differencesByComparing : GoodIn wsL_law wsX5_differencesByComparing := goodIn_ca (goodIn_r _ [880, 881, 863, 864, 5, 865, 847, 848, 849, 850, 64, 99, 586, 587, 588, 589, 242, 243, 244, 245, 100, 101, 102, 103, 104, 105, 106, 107, 851, 852, 853, 854, 241, 54, 63, 60, 58, 61, 59, 973, 974, 975, 976, 977, 978, 979, 980, 981, 982, 983, 984, 985, 986, 987, 988, 989, 990, 991, 992, 993, 994, 995, 996, 997, 998, 999] (by decide +kernel) (by decide +kernel)) (goodIn_sub (fun _ h => List.mem_append_left _ (List.mem_append_left _ (List.mem_append_left _ (List.mem_append_left _ (List.mem_append_left _ (List.mem_append_left _ (List.mem_append_left _ (List.mem_append_right _ h)))))))) (by decide +kernel))
set_option maxRecDepth 20000 in
theorem gL_law_X5_differencesByComparing : GoodIn wsL_law (wsV RL 253 RX5 yX5_differencesByComparing wsX5_differencesByComparing) := goodIn_app (goodIn_of _ (by decide +kernel)) ggL_law_X5_differencesByComparing
set_option maxRecDepth 20000 in
theorem ggL_law_L_copied : GoodIn wsL_law wsL_copied := goodIn_ca (goodIn_ca (goodIn_ca (goodIn_r _ [884, 261, 78, 885, 886, 887, 2, 888, 272, 273, 85, 86, 225, 807, 889, 890, 420, 275, 276, 277, 278, 19, 195, 196, 197, 198, 15, 1017, 1018, 1019, 1020, 1021, 1022, 1023, 1024, 1025, 1026, 1027, 1012, 1013, 963, 964, 965, 966, 967, 968, 969, 970, 971, 972] (by decide +kernel) (by decide +kernel)) (goodIn_sub (fun _ h => List.mem_append_left _ (List.mem_append_left _ (List.mem_append_left _ (List.mem_append_left _ (List.mem_append_left _ (List.mem_append_left _ (List.mem_append_left _ (List.mem_append_right _ h)))))))) (by decide +kernel))) (goodIn_sub (fun _ h => List.mem_append_left _ (List.mem_append_left _ (List.mem_append_right _ h))) (by decide +kernel))) (goodIn_sub (fun _ h => List.mem_append_left _ (List.mem_append_left _ (List.mem_append_left _ (List.mem_append_left _ (List.mem_append_left _ (List.mem_append_right _ h)))))) (by decide +kernel))
set_option maxRecDepth 20000 in
theorem gL_law_L_copied : GoodIn wsL_law (va_wsS RL 254 yL_copied wsL_copied) := goodIn_app (goodIn_of _ (by decide +kernel)) ggL_law_L_copied
set_option maxRecDepth 20000 in
theorem ggL_law_X5_copied : GoodIn wsL_law wsX5_copied := goodIn_ca (goodIn_r _ [894, 99, 241, 64, 54, 60, 61, 51, 101, 102, 5, 103, 104, 105, 106, 107, 973, 974, 975, 976, 977, 978, 979, 980, 981, 982, 983, 984, 985, 986, 987, 988, 989, 990, 991, 992, 993, 994, 995, 996, 997, 998, 999] (by decide +kernel) (by decide +kernel)) (goodIn_sub (fun _ h => List.mem_append_left _ (List.mem_append_left _ (List.mem_append_left _ (List.mem_append_left _ (List.mem_append_left _ (List.mem_append_left _ (List.mem_append_left _ (List.mem_append_right _ h)))))))) (by decide +kernel))
set_option maxRecDepth 20000 in
theorem gL_law_X5_copied : GoodIn wsL_law (wsV RL 256 RX5 yX5_copied wsX5_copied) := goodIn_app (goodIn_of _ (by decide +kernel)) ggL_law_X5_copied
set_option maxRecDepth 20000 in
theorem ggL_law_X4_ticks : GoodIn wsL_law wsX4_ticks := goodIn_r _ [898, 19, 274, 294, 963, 964, 965, 966, 967, 968, 969, 970, 971, 972, 1017, 1018, 1019, 1020, 1021, 1022, 1023, 1024, 1025, 1026, 1027] (by decide +kernel) (by decide +kernel)
set_option maxRecDepth 20000 in
theorem gL_law_X4_ticks : GoodIn wsL_law (wsV RL 257 RX4 yX4_ticks wsX4_ticks) := goodIn_app (goodIn_of _ (by decide +kernel)) ggL_law_X4_ticks
set_option maxRecDepth 20000 in
theorem ggL_law_X5_ticks : GoodIn wsL_law wsX5_ticks := goodIn_ca (goodIn_r _ [902, 99, 241, 63, 58, 973, 974, 975, 976, 977, 978, 979, 980, 981, 982, 983, 984, 985, 986, 987, 988, 989, 990, 991, 992, 993, 994, 995, 996, 997, 998, 999] (by decide +kernel) (by decide +kernel)) (goodIn_sub (fun _ h => List.mem_append_left _ (List.mem_append_left _ (List.mem_append_left _ (List.mem_append_left _ (List.mem_append_left _ (List.mem_append_left _ (List.mem_append_left _ (List.mem_append_right _ h)))))))) (by decide +kernel))
set_option maxRecDepth 20000 in
theorem gL_law_X5_ticks : GoodIn wsL_law (wsV RL 261 RX5 yX5_ticks wsX5_ticks) := goodIn_app (goodIn_of _ (by decide +kernel)) ggL_law_X5_ticks
set_option maxRecDepth 20000 in
theorem ggL_law_L_meanPitch : GoodIn wsL_law wsL_meanPitch := goodIn_ca (goodIn_ca (goodIn_ca (goodIn_r _ [905, 139, 906, 907, 908, 909, 2, 910, 911, 912, 191, 192, 193, 194, 149, 150, 195, 196, 197, 198, 15, 306, 307, 308, 309, 19, 274, 225, 913, 914, 915, 916, 266, 963, 964, 965, 966, 967, 968, 969, 970, 971, 972, 1017, 1018, 1019, 1020, 1021, 1022, 1023, 1024, 1025, 1026, 1027] (by decide +kernel) (by decide +kernel)) (goodIn_sub (fun _ h => List.mem_append_left _ (List.mem_append_left _ (List.mem_append_left _ (List.mem_append_left _ (List.mem_append_left _ (List.mem_append_left _ (List.mem_append_left _ (List.mem_append_right _ h)))))))) (by decide +kernel))) (goodIn_sub (fun _ h => List.mem_append_right _ h) (by decide +kernel))) (goodIn_sub (fun _ h => List.mem_append_left _ (List.mem_append_left _ (List.mem_append_left _ (List.mem_append_left _ (List.mem_append_right _ h))))) (by decide +kernel))
set_option maxRecDepth 20000 in
theorem gL_law_L_meanPitch : GoodIn wsL_law (va_wsS RL 262 yL_meanPitch wsL_meanPitch) := goodIn_app (goodIn_of _ (by decide +kernel)) ggL_law_L_meanPitch
set_option maxRecDepth 20000 in
theorem ggL_law_X5_meanPitch : GoodIn wsL_law wsX5_meanPitch := goodIn_ca (goodIn_r _ [920, 241, 63, 54, 59, 586, 587, 588, 5, 589, 99, 242, 243, 244, 245, 100, 101, 102, 103, 314, 315, 316, 317, 104, 105, 106, 107, 973, 974, 975, 976, 977, 978, 979, 980, 981, 982, 983, 984, 985, 986, 987, 988, 989, 990, 991, 992, 993, 994, 995, 996, 997, 998, 999] (by decide +kernel) (by decide +kernel)) (goodIn_sub (fun _ h => List.mem_append_left _ (List.mem_append_left _ (List.mem_append_left _ (List.mem_append_left _ (List.mem_append_left _ (List.mem_append_left _ (List.mem_append_left _ (List.mem_append_right _ h)))))))) (by decide +kernel))
set_option maxRecDepth 20000 in
theorem gL_law_X5_meanPitch : GoodIn wsL_law (wsV RL 265 RX5 yX5_meanPitch wsX5_meanPitch) := goodIn_app (goodIn_of _ (by decide +kernel)) ggL_law_X5_meanPitch
set_option maxRecDepth 20000 in
theorem ggL_law_L_restShare : GoodIn wsL_law wsL_restShare := goodIn_ca (goodIn_ca (goodIn_ca (goodIn_r _ [923, 139, 906, 924, 925, 926, 2, 927, 911, 912, 25, 191, 192, 193, 194, 149, 150, 195, 196, 197, 198, 15, 928, 929, 930, 931, 325, 326, 327, 328, 19, 229, 230, 231, 190, 232, 210, 215, 216, 963, 964, 965, 966, 967, 968, 969, 970, 971, 972, 1017, 1018, 1019, 1020, 1021, 1022, 1023, 1024, 1025, 1026, 1027] (by decide +kernel) (by decide +kernel)) (goodIn_sub (fun _ h => List.mem_append_left _ (List.mem_append_left _ (List.mem_append_left _ (List.mem_append_left _ (List.mem_append_left _ (List.mem_append_left _ (List.mem_append_left _ (List.mem_append_right _ h)))))))) (by decide +kernel))) (goodIn_sub (fun _ h => List.mem_append_right _ h) (by decide +kernel))) (goodIn_sub (fun _ h => List.mem_append_left _ (List.mem_append_left _ (List.mem_append_left _ (List.mem_append_left _ (List.mem_append_right _ h))))) (by decide +kernel))
set_option maxRecDepth 20000 in
theorem gL_law_L_restShare : GoodIn wsL_law (va_wsS RL 266 yL_restShare wsL_restShare) := goodIn_app (goodIn_of _ (by decide +kernel)) ggL_law_L_restShare
set_option maxRecDepth 20000 in
theorem ggL_law_X5_restShare : GoodIn wsL_law wsX5_restShare := goodIn_ca (goodIn_r _ [935, 135, 586, 587, 588, 5, 589, 99, 242, 243, 244, 245, 100, 101, 102, 103, 104, 105, 106, 107, 337, 338, 339, 340, 241, 254, 255, 256, 257, 63, 54, 55, 973, 974, 975, 976, 977, 978, 979, 980, 981, 982, 983, 984, 985, 986, 987, 988, 989, 990, 991, 992, 993, 994, 995, 996, 997, 998, 999] (by decide +kernel) (by decide +kernel)) (goodIn_sub (fun _ h => List.mem_append_left _ (List.mem_append_left _ (List.mem_append_left _ (List.mem_append_left _ (List.mem_append_left _ (List.mem_append_left _ (List.mem_append_left _ (List.mem_append_right _ h)))))))) (by decide +kernel))
set_option maxRecDepth 20000 in
theorem gL_law_X5_restShare : GoodIn wsL_law (wsV RL 268 RX5 yX5_restShare wsX5_restShare) := goodIn_app (goodIn_of _ (by decide +kernel)) ggL_law_X5_restShare
set_option maxRecDepth 20000 in
theorem ggL_law_X4_isTrue : GoodIn wsL_law wsX4_isTrue := goodIn_ca (goodIn_r _ [939, 15, 940, 941, 942, 2, 943, 23, 541, 542, 543, 544, 27, 28, 17, 545, 546, 547, 22, 548, 45, 46, 44, 549, 550, 551, 552, 553, 19, 228, 554, 555, 556, 557, 294, 558, 559, 560, 144, 229, 230, 231, 190, 232, 210, 215, 216, 561, 562, 563, 564, 565, 566, 567, 568, 34, 35, 36, 37, 38, 40, 569, 570, 571, 572, 573, 574, 575, 576, 676, 677, 678, 679, 41, 680, 42, 43, 681, 682, 683, 684, 685, 686, 687, 688, 689, 690, 691, 692, 722, 723, 724, 725, 944, 945, 946, 947, 807, 195, 196, 197, 198, 835, 836, 837, 838, 225, 267, 839, 840, 841, 842, 211, 220, 213, 219, 212, 873, 874, 875, 876, 948, 949, 950, 951, 274, 952, 953, 954, 955, 461, 462, 463, 464, 226, 174, 420, 151, 152, 153, 154, 436, 437, 438, 439, 440, 441, 442, 416, 417, 418, 419, 266, 465, 466, 467, 956, 957, 958, 524, 525, 526, 527, 528, 529, 963, 964, 965, 966, 967, 968, 969, 970, 971, 972, 1000, 1001, 1002, 1003, 1004, 1005, 1006, 1007, 1008, 1009, 1010, 1011, 1014, 1015, 1016, 1017, 1018, 1019, 1020, 1021, 1022, 1023, 1024, 1025, 1026, 1027, 1012, 1013] (by decide +kernel) (by decide +kernel)) (goodIn_sub (fun _ h => List.mem_append_left _ (List.mem_append_left _ (List.mem_append_left _ (List.mem_append_left _ (List.mem_append_left _ (List.mem_append_left _ (List.mem_append_left _ (List.mem_append_right _ h)))))))) (by decide +kernel))
set_option maxRecDepth 20000 in
theorem gL_law_X4_isTrue : GoodIn wsL_law (wsV RL 269 RX4 yX4_isTrue wsX4_isTrue) := goodIn_app (goodIn_of _ (by decide +kernel)) ggL_law_X4_isTrue
set_option maxRecDepth 20000 in
theorem ggL_law_X5_isTrue : GoodIn wsL_law wsX5_isTrue := goodIn_r _ [962, 99, 973, 974, 975, 976, 977, 978, 979, 980, 981, 982, 983, 984, 985, 986, 987, 988, 989, 990, 991, 992, 993, 994, 995, 996, 997, 998, 999] (by decide +kernel) (by decide +kernel)
set_option maxRecDepth 20000 in
theorem gL_law_X5_isTrue : GoodIn wsL_law (wsV RL 273 RX5 yX5_isTrue wsX5_isTrue) := goodIn_app (goodIn_of _ (by decide +kernel)) ggL_law_X5_isTrue
theorem dL_law_0 : decode cL_law 0 = .ok (.new 8, 3) := by decide +kernel
theorem dL_law_3 : decode cL_law 3 = .ok (.dup, 1) := by decide +kernel
theorem dL_law_4 : decode cL_law 4 = .ok (.invokespecial 139, 3) := by decide +kernel
theorem dL_law_7 : decode cL_law 7 = .ok (.astore_n 1, 1) := by decide +kernel
theorem dL_law_8 : decode cL_law 8 = .ok (.new 140, 3) := by decide +kernel
theorem dL_law_11 : decode cL_law 11 = .ok (.dup, 1) := by decide +kernel
theorem dL_law_12 : decode cL_law 12 = .ok (.invokespecial 142, 3) := by decide +kernel
theorem dL_law_15 : decode cL_law 15 = .ok (.astore_n 2, 1) := by decide +kernel
theorem dL_law_16 : decode cL_law 16 = .ok (.iconst 1, 1) := by decide +kernel
theorem dL_law_17 : decode cL_law 17 = .ok (.newarray .long, 2) := by decide +kernel
theorem dL_law_19 : decode cL_law 19 = .ok (.astore_n 3, 1) := by decide +kernel
theorem dL_law_20 : decode cL_law 20 = .ok (.iconst 1, 1) := by decide +kernel
theorem dL_law_21 : decode cL_law 21 = .ok (.newarray .double, 2) := by decide +kernel
theorem dL_law_23 : decode cL_law 23 = .ok (.astore 4, 2) := by decide +kernel
theorem dL_law_25 : decode cL_law 25 = .ok (.iconst 0, 1) := by decide +kernel
theorem dL_law_26 : decode cL_law 26 = .ok (.istore 5, 2) := by decide +kernel
theorem dL_law_28 : decode cL_law 28 = .ok (.iload 5, 2) := by decide +kernel
theorem dL_law_30 : decode cL_law 30 = .ok (.aload_n 0, 1) := by decide +kernel
theorem dL_law_31 : decode cL_law 31 = .ok (.arraylength, 1) := by decide +kernel
theorem dL_law_32 : decode cL_law 32 = .ok (.bipush 7, 2) := by decide +kernel
theorem dL_law_34 : decode cL_law 34 = .ok (.isub, 1) := by decide +kernel
theorem dL_law_35 : decode cL_law 35 = .ok (.if_icmp .gt 2581, 3) := by decide +kernel
theorem dL_law_38 : decode cL_law 38 = .ok (.aload_n 0, 1) := by decide +kernel
theorem dL_law_39 : decode cL_law 39 = .ok (.iload 5, 2) := by decide +kernel
theorem dL_law_41 : decode cL_law 41 = .ok (.iaload, 1) := by decide +kernel
theorem dL_law_42 : decode cL_law 42 = .ok (.bipush 63, 2) := by decide +kernel
theorem dL_law_44 : decode cL_law 44 = .ok (.iand, 1) := by decide +kernel
theorem dL_law_45 : decode cL_law 45 = .ok (.tableswitch 2565 0 37 #[167, 223, 319, 410, 478, 596, 664, 732, 788, 856, 936, 992, 1048, 1123, 1179, 1247, 1303, 1359, 1415, 1483, 1551, 1607, 1663, 1719, 1775, 1831, 1887, 1955, 2023, 2103, 2159, 2215, 2271, 2327, 2383, 2397, 2474, 2552], 167) := by decide +kernel
theorem dL_law_212 : decode cL_law 212 = .ok (.aload_n 1, 1) := by decide +kernel
theorem dL_law_213 : decode cL_law 213 = .ok (.aload_n 0, 1) := by decide +kernel
theorem dL_law_214 : decode cL_law 214 = .ok (.iload 5, 2) := by decide +kernel
theorem dL_law_216 : decode cL_law 216 = .ok (.iconst 1, 1) := by decide +kernel
theorem dL_law_217 : decode cL_law 217 = .ok (.iadd, 1) := by decide +kernel
theorem dL_law_218 : decode cL_law 218 = .ok (.iaload, 1) := by decide +kernel
theorem dL_law_219 : decode cL_law 219 = .ok (.aload_n 3, 1) := by decide +kernel
theorem dL_law_220 : decode cL_law 220 = .ok (.invokestatic 143, 3) := by decide +kernel
theorem dL_law_223 : decode cL_law 223 = .ok (.istore 6, 2) := by decide +kernel
theorem dL_law_225 : decode cL_law 225 = .ok (.aload_n 2, 1) := by decide +kernel
theorem dL_law_226 : decode cL_law 226 = .ok (.aload_n 0, 1) := by decide +kernel
theorem dL_law_227 : decode cL_law 227 = .ok (.iload 5, 2) := by decide +kernel
theorem dL_law_229 : decode cL_law 229 = .ok (.iconst 1, 1) := by decide +kernel
theorem dL_law_230 : decode cL_law 230 = .ok (.iadd, 1) := by decide +kernel
theorem dL_law_231 : decode cL_law 231 = .ok (.iaload, 1) := by decide +kernel
theorem dL_law_232 : decode cL_law 232 = .ok (.invokevirtual 148, 3) := by decide +kernel
theorem dL_law_235 : decode cL_law 235 = .ok (.istore 7, 2) := by decide +kernel
theorem dL_law_237 : decode cL_law 237 = .ok (.aload_n 2, 1) := by decide +kernel
theorem dL_law_238 : decode cL_law 238 = .ok (.invokevirtual 149, 3) := by decide +kernel
theorem dL_law_241 : decode cL_law 241 = .ok (.iload 6, 2) := by decide +kernel
theorem dL_law_243 : decode cL_law 243 = .ok (.if_icmp .eq 5, 3) := by decide +kernel
theorem dL_law_246 : decode cL_law 246 = .ok (.iconst 0, 1) := by decide +kernel
theorem dL_law_247 : decode cL_law 247 = .ok (.ireturn, 1) := by decide +kernel
theorem dL_law_248 : decode cL_law 248 = .ok (.iload 6, 2) := by decide +kernel
theorem dL_law_250 : decode cL_law 250 = .ok (.ifCond .ne 15, 3) := by decide +kernel
theorem dL_law_253 : decode cL_law 253 = .ok (.aload_n 3, 1) := by decide +kernel
theorem dL_law_254 : decode cL_law 254 = .ok (.iconst 0, 1) := by decide +kernel
theorem dL_law_255 : decode cL_law 255 = .ok (.laload, 1) := by decide +kernel
theorem dL_law_256 : decode cL_law 256 = .ok (.iload 7, 2) := by decide +kernel
theorem dL_law_258 : decode cL_law 258 = .ok (.i2l, 1) := by decide +kernel
theorem dL_law_259 : decode cL_law 259 = .ok (.lcmp, 1) := by decide +kernel
theorem dL_law_260 : decode cL_law 260 = .ok (.ifCond .eq 5, 3) := by decide +kernel
theorem dL_law_263 : decode cL_law 263 = .ok (.iconst 0, 1) := by decide +kernel
theorem dL_law_264 : decode cL_law 264 = .ok (.ireturn, 1) := by decide +kernel
theorem dL_law_265 : decode cL_law 265 = .ok (.goto 2345, 3) := by decide +kernel
theorem dL_law_268 : decode cL_law 268 = .ok (.aload_n 1, 1) := by decide +kernel
theorem dL_law_269 : decode cL_law 269 = .ok (.aload_n 0, 1) := by decide +kernel
theorem dL_law_270 : decode cL_law 270 = .ok (.iload 5, 2) := by decide +kernel
theorem dL_law_272 : decode cL_law 272 = .ok (.iconst 1, 1) := by decide +kernel
theorem dL_law_273 : decode cL_law 273 = .ok (.iadd, 1) := by decide +kernel
theorem dL_law_274 : decode cL_law 274 = .ok (.iaload, 1) := by decide +kernel
theorem dL_law_275 : decode cL_law 275 = .ok (.aload_n 0, 1) := by decide +kernel
theorem dL_law_276 : decode cL_law 276 = .ok (.iload 5, 2) := by decide +kernel
theorem dL_law_278 : decode cL_law 278 = .ok (.iconst 2, 1) := by decide +kernel
theorem dL_law_279 : decode cL_law 279 = .ok (.iadd, 1) := by decide +kernel
theorem dL_law_280 : decode cL_law 280 = .ok (.iaload, 1) := by decide +kernel
theorem dL_law_281 : decode cL_law 281 = .ok (.aload_n 0, 1) := by decide +kernel
theorem dL_law_282 : decode cL_law 282 = .ok (.iload 5, 2) := by decide +kernel
theorem dL_law_284 : decode cL_law 284 = .ok (.iconst 3, 1) := by decide +kernel
theorem dL_law_285 : decode cL_law 285 = .ok (.iadd, 1) := by decide +kernel
theorem dL_law_286 : decode cL_law 286 = .ok (.iaload, 1) := by decide +kernel
theorem dL_law_287 : decode cL_law 287 = .ok (.ifCond .eq 7, 3) := by decide +kernel
theorem dL_law_290 : decode cL_law 290 = .ok (.iconst 1, 1) := by decide +kernel
theorem dL_law_291 : decode cL_law 291 = .ok (.goto 4, 3) := by decide +kernel
theorem dL_law_294 : decode cL_law 294 = .ok (.iconst 0, 1) := by decide +kernel
theorem dL_law_295 : decode cL_law 295 = .ok (.aload_n 3, 1) := by decide +kernel
theorem dL_law_296 : decode cL_law 296 = .ok (.invokestatic 153, 3) := by decide +kernel
theorem dL_law_299 : decode cL_law 299 = .ok (.istore 6, 2) := by decide +kernel
theorem dL_law_301 : decode cL_law 301 = .ok (.aload_n 2, 1) := by decide +kernel
theorem dL_law_302 : decode cL_law 302 = .ok (.aload_n 0, 1) := by decide +kernel
theorem dL_law_303 : decode cL_law 303 = .ok (.iload 5, 2) := by decide +kernel
theorem dL_law_305 : decode cL_law 305 = .ok (.iconst 1, 1) := by decide +kernel
theorem dL_law_306 : decode cL_law 306 = .ok (.iadd, 1) := by decide +kernel
theorem dL_law_307 : decode cL_law 307 = .ok (.iaload, 1) := by decide +kernel
theorem dL_law_308 : decode cL_law 308 = .ok (.aload_n 0, 1) := by decide +kernel
theorem dL_law_309 : decode cL_law 309 = .ok (.iload 5, 2) := by decide +kernel
theorem dL_law_311 : decode cL_law 311 = .ok (.iconst 2, 1) := by decide +kernel
theorem dL_law_312 : decode cL_law 312 = .ok (.iadd, 1) := by decide +kernel
theorem dL_law_313 : decode cL_law 313 = .ok (.iaload, 1) := by decide +kernel
theorem dL_law_314 : decode cL_law 314 = .ok (.aload_n 0, 1) := by decide +kernel
theorem dL_law_315 : decode cL_law 315 = .ok (.iload 5, 2) := by decide +kernel
theorem dL_law_317 : decode cL_law 317 = .ok (.iconst 3, 1) := by decide +kernel
theorem dL_law_318 : decode cL_law 318 = .ok (.iadd, 1) := by decide +kernel
theorem dL_law_319 : decode cL_law 319 = .ok (.iaload, 1) := by decide +kernel
theorem dL_law_320 : decode cL_law 320 = .ok (.ifCond .eq 7, 3) := by decide +kernel
theorem dL_law_323 : decode cL_law 323 = .ok (.iconst 1, 1) := by decide +kernel
theorem dL_law_324 : decode cL_law 324 = .ok (.goto 4, 3) := by decide +kernel
theorem dL_law_327 : decode cL_law 327 = .ok (.iconst 0, 1) := by decide +kernel
theorem dL_law_328 : decode cL_law 328 = .ok (.invokevirtual 156, 3) := by decide +kernel
theorem dL_law_331 : decode cL_law 331 = .ok (.istore 7, 2) := by decide +kernel
theorem dL_law_333 : decode cL_law 333 = .ok (.aload_n 2, 1) := by decide +kernel
theorem dL_law_334 : decode cL_law 334 = .ok (.invokevirtual 149, 3) := by decide +kernel
theorem dL_law_337 : decode cL_law 337 = .ok (.iload 6, 2) := by decide +kernel
theorem dL_law_339 : decode cL_law 339 = .ok (.if_icmp .eq 5, 3) := by decide +kernel
theorem dL_law_342 : decode cL_law 342 = .ok (.iconst 0, 1) := by decide +kernel
theorem dL_law_343 : decode cL_law 343 = .ok (.ireturn, 1) := by decide +kernel
theorem dL_law_344 : decode cL_law 344 = .ok (.iload 6, 2) := by decide +kernel
theorem dL_law_346 : decode cL_law 346 = .ok (.ifCond .ne 15, 3) := by decide +kernel
theorem dL_law_349 : decode cL_law 349 = .ok (.aload_n 3, 1) := by decide +kernel
theorem dL_law_350 : decode cL_law 350 = .ok (.iconst 0, 1) := by decide +kernel
theorem dL_law_351 : decode cL_law 351 = .ok (.laload, 1) := by decide +kernel
theorem dL_law_352 : decode cL_law 352 = .ok (.iload 7, 2) := by decide +kernel
theorem dL_law_354 : decode cL_law 354 = .ok (.i2l, 1) := by decide +kernel
theorem dL_law_355 : decode cL_law 355 = .ok (.lcmp, 1) := by decide +kernel
theorem dL_law_356 : decode cL_law 356 = .ok (.ifCond .eq 5, 3) := by decide +kernel
theorem dL_law_359 : decode cL_law 359 = .ok (.iconst 0, 1) := by decide +kernel
theorem dL_law_360 : decode cL_law 360 = .ok (.ireturn, 1) := by decide +kernel
theorem dL_law_361 : decode cL_law 361 = .ok (.goto 2249, 3) := by decide +kernel
theorem dL_law_364 : decode cL_law 364 = .ok (.aload_n 1, 1) := by decide +kernel
theorem dL_law_365 : decode cL_law 365 = .ok (.aload_n 0, 1) := by decide +kernel
theorem dL_law_366 : decode cL_law 366 = .ok (.iload 5, 2) := by decide +kernel
theorem dL_law_368 : decode cL_law 368 = .ok (.iconst 1, 1) := by decide +kernel
theorem dL_law_369 : decode cL_law 369 = .ok (.iadd, 1) := by decide +kernel
theorem dL_law_370 : decode cL_law 370 = .ok (.iaload, 1) := by decide +kernel
theorem dL_law_371 : decode cL_law 371 = .ok (.aload_n 0, 1) := by decide +kernel
theorem dL_law_372 : decode cL_law 372 = .ok (.iload 5, 2) := by decide +kernel
theorem dL_law_374 : decode cL_law 374 = .ok (.iconst 2, 1) := by decide +kernel
theorem dL_law_375 : decode cL_law 375 = .ok (.iadd, 1) := by decide +kernel
theorem dL_law_376 : decode cL_law 376 = .ok (.iaload, 1) := by decide +kernel
theorem dL_law_377 : decode cL_law 377 = .ok (.ifCond .eq 7, 3) := by decide +kernel
theorem dL_law_380 : decode cL_law 380 = .ok (.iconst 1, 1) := by decide +kernel
theorem dL_law_381 : decode cL_law 381 = .ok (.goto 4, 3) := by decide +kernel
theorem dL_law_384 : decode cL_law 384 = .ok (.iconst 0, 1) := by decide +kernel
theorem dL_law_385 : decode cL_law 385 = .ok (.aload_n 3, 1) := by decide +kernel
theorem dL_law_386 : decode cL_law 386 = .ok (.invokestatic 157, 3) := by decide +kernel
theorem dL_law_389 : decode cL_law 389 = .ok (.istore 6, 2) := by decide +kernel
theorem dL_law_391 : decode cL_law 391 = .ok (.aload_n 2, 1) := by decide +kernel
theorem dL_law_392 : decode cL_law 392 = .ok (.aload_n 0, 1) := by decide +kernel
theorem dL_law_393 : decode cL_law 393 = .ok (.iload 5, 2) := by decide +kernel
theorem dL_law_395 : decode cL_law 395 = .ok (.iconst 1, 1) := by decide +kernel
theorem dL_law_396 : decode cL_law 396 = .ok (.iadd, 1) := by decide +kernel
theorem dL_law_397 : decode cL_law 397 = .ok (.iaload, 1) := by decide +kernel
theorem dL_law_398 : decode cL_law 398 = .ok (.aload_n 0, 1) := by decide +kernel
theorem dL_law_399 : decode cL_law 399 = .ok (.iload 5, 2) := by decide +kernel
theorem dL_law_401 : decode cL_law 401 = .ok (.iconst 2, 1) := by decide +kernel
theorem dL_law_402 : decode cL_law 402 = .ok (.iadd, 1) := by decide +kernel
theorem dL_law_403 : decode cL_law 403 = .ok (.iaload, 1) := by decide +kernel
theorem dL_law_404 : decode cL_law 404 = .ok (.ifCond .eq 7, 3) := by decide +kernel
theorem dL_law_407 : decode cL_law 407 = .ok (.iconst 1, 1) := by decide +kernel
theorem dL_law_408 : decode cL_law 408 = .ok (.goto 4, 3) := by decide +kernel
theorem dL_law_411 : decode cL_law 411 = .ok (.iconst 0, 1) := by decide +kernel
theorem dL_law_412 : decode cL_law 412 = .ok (.invokevirtual 160, 3) := by decide +kernel
theorem dL_law_415 : decode cL_law 415 = .ok (.istore 7, 2) := by decide +kernel
theorem dL_law_417 : decode cL_law 417 = .ok (.aload_n 2, 1) := by decide +kernel
theorem dL_law_418 : decode cL_law 418 = .ok (.invokevirtual 149, 3) := by decide +kernel
theorem dL_law_421 : decode cL_law 421 = .ok (.iload 6, 2) := by decide +kernel
theorem dL_law_423 : decode cL_law 423 = .ok (.if_icmp .eq 5, 3) := by decide +kernel
theorem dL_law_426 : decode cL_law 426 = .ok (.iconst 0, 1) := by decide +kernel
theorem dL_law_427 : decode cL_law 427 = .ok (.ireturn, 1) := by decide +kernel
theorem dL_law_428 : decode cL_law 428 = .ok (.iload 6, 2) := by decide +kernel
theorem dL_law_430 : decode cL_law 430 = .ok (.ifCond .ne 22, 3) := by decide +kernel
theorem dL_law_433 : decode cL_law 433 = .ok (.aload_n 3, 1) := by decide +kernel
theorem dL_law_434 : decode cL_law 434 = .ok (.iconst 0, 1) := by decide +kernel
theorem dL_law_435 : decode cL_law 435 = .ok (.laload, 1) := by decide +kernel
theorem dL_law_436 : decode cL_law 436 = .ok (.iload 7, 2) := by decide +kernel
theorem dL_law_438 : decode cL_law 438 = .ok (.ifCond .eq 7, 3) := by decide +kernel
theorem dL_law_441 : decode cL_law 441 = .ok (.lconst 1, 1) := by decide +kernel
theorem dL_law_442 : decode cL_law 442 = .ok (.goto 4, 3) := by decide +kernel
theorem dL_law_445 : decode cL_law 445 = .ok (.lconst 0, 1) := by decide +kernel
theorem dL_law_446 : decode cL_law 446 = .ok (.lcmp, 1) := by decide +kernel
theorem dL_law_447 : decode cL_law 447 = .ok (.ifCond .eq 5, 3) := by decide +kernel
theorem dL_law_450 : decode cL_law 450 = .ok (.iconst 0, 1) := by decide +kernel
theorem dL_law_451 : decode cL_law 451 = .ok (.ireturn, 1) := by decide +kernel
theorem dL_law_452 : decode cL_law 452 = .ok (.goto 2158, 3) := by decide +kernel
theorem dL_law_455 : decode cL_law 455 = .ok (.aload_n 1, 1) := by decide +kernel
theorem dL_law_456 : decode cL_law 456 = .ok (.aload_n 0, 1) := by decide +kernel
theorem dL_law_457 : decode cL_law 457 = .ok (.iload 5, 2) := by decide +kernel
theorem dL_law_459 : decode cL_law 459 = .ok (.iconst 1, 1) := by decide +kernel
theorem dL_law_460 : decode cL_law 460 = .ok (.iadd, 1) := by decide +kernel
theorem dL_law_461 : decode cL_law 461 = .ok (.iaload, 1) := by decide +kernel
theorem dL_law_462 : decode cL_law 462 = .ok (.aload_n 0, 1) := by decide +kernel
theorem dL_law_463 : decode cL_law 463 = .ok (.iload 5, 2) := by decide +kernel
theorem dL_law_465 : decode cL_law 465 = .ok (.iconst 2, 1) := by decide +kernel
theorem dL_law_466 : decode cL_law 466 = .ok (.iadd, 1) := by decide +kernel
theorem dL_law_467 : decode cL_law 467 = .ok (.iaload, 1) := by decide +kernel
theorem dL_law_468 : decode cL_law 468 = .ok (.aload_n 3, 1) := by decide +kernel
theorem dL_law_469 : decode cL_law 469 = .ok (.invokestatic 161, 3) := by decide +kernel
theorem dL_law_472 : decode cL_law 472 = .ok (.istore 6, 2) := by decide +kernel
theorem dL_law_474 : decode cL_law 474 = .ok (.aload_n 2, 1) := by decide +kernel
theorem dL_law_475 : decode cL_law 475 = .ok (.aload_n 0, 1) := by decide +kernel
theorem dL_law_476 : decode cL_law 476 = .ok (.iload 5, 2) := by decide +kernel
theorem dL_law_478 : decode cL_law 478 = .ok (.iconst 1, 1) := by decide +kernel
theorem dL_law_479 : decode cL_law 479 = .ok (.iadd, 1) := by decide +kernel
theorem dL_law_480 : decode cL_law 480 = .ok (.iaload, 1) := by decide +kernel
theorem dL_law_481 : decode cL_law 481 = .ok (.aload_n 0, 1) := by decide +kernel
theorem dL_law_482 : decode cL_law 482 = .ok (.iload 5, 2) := by decide +kernel
theorem dL_law_484 : decode cL_law 484 = .ok (.iconst 2, 1) := by decide +kernel
theorem dL_law_485 : decode cL_law 485 = .ok (.iadd, 1) := by decide +kernel
theorem dL_law_486 : decode cL_law 486 = .ok (.iaload, 1) := by decide +kernel
theorem dL_law_487 : decode cL_law 487 = .ok (.invokevirtual 164, 3) := by decide +kernel
theorem dL_law_490 : decode cL_law 490 = .ok (.istore 7, 2) := by decide +kernel
theorem dL_law_492 : decode cL_law 492 = .ok (.aload_n 2, 1) := by decide +kernel
theorem dL_law_493 : decode cL_law 493 = .ok (.invokevirtual 149, 3) := by decide +kernel
theorem dL_law_496 : decode cL_law 496 = .ok (.iload 6, 2) := by decide +kernel
theorem dL_law_498 : decode cL_law 498 = .ok (.if_icmp .eq 5, 3) := by decide +kernel
theorem dL_law_501 : decode cL_law 501 = .ok (.iconst 0, 1) := by decide +kernel
theorem dL_law_502 : decode cL_law 502 = .ok (.ireturn, 1) := by decide +kernel
theorem dL_law_503 : decode cL_law 503 = .ok (.iload 6, 2) := by decide +kernel
theorem dL_law_505 : decode cL_law 505 = .ok (.ifCond .ne 15, 3) := by decide +kernel
theorem dL_law_508 : decode cL_law 508 = .ok (.aload_n 3, 1) := by decide +kernel
theorem dL_law_509 : decode cL_law 509 = .ok (.iconst 0, 1) := by decide +kernel
theorem dL_law_510 : decode cL_law 510 = .ok (.laload, 1) := by decide +kernel
theorem dL_law_511 : decode cL_law 511 = .ok (.iload 7, 2) := by decide +kernel
theorem dL_law_513 : decode cL_law 513 = .ok (.i2l, 1) := by decide +kernel
theorem dL_law_514 : decode cL_law 514 = .ok (.lcmp, 1) := by decide +kernel
theorem dL_law_515 : decode cL_law 515 = .ok (.ifCond .eq 5, 3) := by decide +kernel
theorem dL_law_518 : decode cL_law 518 = .ok (.iconst 0, 1) := by decide +kernel
theorem dL_law_519 : decode cL_law 519 = .ok (.ireturn, 1) := by decide +kernel
theorem dL_law_520 : decode cL_law 520 = .ok (.goto 2090, 3) := by decide +kernel
theorem dL_law_523 : decode cL_law 523 = .ok (.aload_n 1, 1) := by decide +kernel
theorem dL_law_524 : decode cL_law 524 = .ok (.aload_n 0, 1) := by decide +kernel
theorem dL_law_525 : decode cL_law 525 = .ok (.iload 5, 2) := by decide +kernel
theorem dL_law_527 : decode cL_law 527 = .ok (.iconst 1, 1) := by decide +kernel
theorem dL_law_528 : decode cL_law 528 = .ok (.iadd, 1) := by decide +kernel
theorem dL_law_529 : decode cL_law 529 = .ok (.iaload, 1) := by decide +kernel
theorem dL_law_530 : decode cL_law 530 = .ok (.aload_n 0, 1) := by decide +kernel
theorem dL_law_531 : decode cL_law 531 = .ok (.iload 5, 2) := by decide +kernel
theorem dL_law_533 : decode cL_law 533 = .ok (.iconst 2, 1) := by decide +kernel
theorem dL_law_534 : decode cL_law 534 = .ok (.iadd, 1) := by decide +kernel
theorem dL_law_535 : decode cL_law 535 = .ok (.iaload, 1) := by decide +kernel
theorem dL_law_536 : decode cL_law 536 = .ok (.aload_n 0, 1) := by decide +kernel
theorem dL_law_537 : decode cL_law 537 = .ok (.iload 5, 2) := by decide +kernel
theorem dL_law_539 : decode cL_law 539 = .ok (.iconst 3, 1) := by decide +kernel
theorem dL_law_540 : decode cL_law 540 = .ok (.iadd, 1) := by decide +kernel
theorem dL_law_541 : decode cL_law 541 = .ok (.iaload, 1) := by decide +kernel
theorem dL_law_542 : decode cL_law 542 = .ok (.aload_n 0, 1) := by decide +kernel
theorem dL_law_543 : decode cL_law 543 = .ok (.iload 5, 2) := by decide +kernel
theorem dL_law_545 : decode cL_law 545 = .ok (.iconst 4, 1) := by decide +kernel
theorem dL_law_546 : decode cL_law 546 = .ok (.iadd, 1) := by decide +kernel
theorem dL_law_547 : decode cL_law 547 = .ok (.iaload, 1) := by decide +kernel
theorem dL_law_548 : decode cL_law 548 = .ok (.aload_n 0, 1) := by decide +kernel
theorem dL_law_549 : decode cL_law 549 = .ok (.iload 5, 2) := by decide +kernel
theorem dL_law_551 : decode cL_law 551 = .ok (.iconst 5, 1) := by decide +kernel
theorem dL_law_552 : decode cL_law 552 = .ok (.iadd, 1) := by decide +kernel
theorem dL_law_553 : decode cL_law 553 = .ok (.iaload, 1) := by decide +kernel
theorem dL_law_554 : decode cL_law 554 = .ok (.aload_n 0, 1) := by decide +kernel
theorem dL_law_555 : decode cL_law 555 = .ok (.iload 5, 2) := by decide +kernel
theorem dL_law_557 : decode cL_law 557 = .ok (.bipush 6, 2) := by decide +kernel
theorem dL_law_559 : decode cL_law 559 = .ok (.iadd, 1) := by decide +kernel
theorem dL_law_560 : decode cL_law 560 = .ok (.iaload, 1) := by decide +kernel
theorem dL_law_561 : decode cL_law 561 = .ok (.aload_n 3, 1) := by decide +kernel
theorem dL_law_562 : decode cL_law 562 = .ok (.invokestatic 165, 3) := by decide +kernel
theorem dL_law_565 : decode cL_law 565 = .ok (.istore 6, 2) := by decide +kernel
theorem dL_law_567 : decode cL_law 567 = .ok (.aload_n 2, 1) := by decide +kernel
theorem dL_law_568 : decode cL_law 568 = .ok (.aload_n 0, 1) := by decide +kernel
theorem dL_law_569 : decode cL_law 569 = .ok (.iload 5, 2) := by decide +kernel
theorem dL_law_571 : decode cL_law 571 = .ok (.iconst 1, 1) := by decide +kernel
theorem dL_law_572 : decode cL_law 572 = .ok (.iadd, 1) := by decide +kernel
theorem dL_law_573 : decode cL_law 573 = .ok (.iaload, 1) := by decide +kernel
theorem dL_law_574 : decode cL_law 574 = .ok (.aload_n 0, 1) := by decide +kernel
theorem dL_law_575 : decode cL_law 575 = .ok (.iload 5, 2) := by decide +kernel
theorem dL_law_577 : decode cL_law 577 = .ok (.iconst 2, 1) := by decide +kernel
theorem dL_law_578 : decode cL_law 578 = .ok (.iadd, 1) := by decide +kernel
theorem dL_law_579 : decode cL_law 579 = .ok (.iaload, 1) := by decide +kernel
theorem dL_law_580 : decode cL_law 580 = .ok (.aload_n 0, 1) := by decide +kernel
theorem dL_law_581 : decode cL_law 581 = .ok (.iload 5, 2) := by decide +kernel
theorem dL_law_583 : decode cL_law 583 = .ok (.iconst 3, 1) := by decide +kernel
theorem dL_law_584 : decode cL_law 584 = .ok (.iadd, 1) := by decide +kernel
theorem dL_law_585 : decode cL_law 585 = .ok (.iaload, 1) := by decide +kernel
theorem dL_law_586 : decode cL_law 586 = .ok (.aload_n 0, 1) := by decide +kernel
theorem dL_law_587 : decode cL_law 587 = .ok (.iload 5, 2) := by decide +kernel
theorem dL_law_589 : decode cL_law 589 = .ok (.iconst 4, 1) := by decide +kernel
theorem dL_law_590 : decode cL_law 590 = .ok (.iadd, 1) := by decide +kernel
theorem dL_law_591 : decode cL_law 591 = .ok (.iaload, 1) := by decide +kernel
theorem dL_law_592 : decode cL_law 592 = .ok (.aload_n 0, 1) := by decide +kernel
theorem dL_law_593 : decode cL_law 593 = .ok (.iload 5, 2) := by decide +kernel
theorem dL_law_595 : decode cL_law 595 = .ok (.iconst 5, 1) := by decide +kernel
theorem dL_law_596 : decode cL_law 596 = .ok (.iadd, 1) := by decide +kernel
theorem dL_law_597 : decode cL_law 597 = .ok (.iaload, 1) := by decide +kernel
theorem dL_law_598 : decode cL_law 598 = .ok (.aload_n 0, 1) := by decide +kernel
theorem dL_law_599 : decode cL_law 599 = .ok (.iload 5, 2) := by decide +kernel
theorem dL_law_601 : decode cL_law 601 = .ok (.bipush 6, 2) := by decide +kernel
theorem dL_law_603 : decode cL_law 603 = .ok (.iadd, 1) := by decide +kernel
theorem dL_law_604 : decode cL_law 604 = .ok (.iaload, 1) := by decide +kernel
theorem dL_law_605 : decode cL_law 605 = .ok (.invokevirtual 168, 3) := by decide +kernel
theorem dL_law_608 : decode cL_law 608 = .ok (.istore 7, 2) := by decide +kernel
theorem dL_law_610 : decode cL_law 610 = .ok (.aload_n 2, 1) := by decide +kernel
theorem dL_law_611 : decode cL_law 611 = .ok (.invokevirtual 149, 3) := by decide +kernel
theorem dL_law_614 : decode cL_law 614 = .ok (.iload 6, 2) := by decide +kernel
theorem dL_law_616 : decode cL_law 616 = .ok (.if_icmp .eq 5, 3) := by decide +kernel
theorem dL_law_619 : decode cL_law 619 = .ok (.iconst 0, 1) := by decide +kernel
theorem dL_law_620 : decode cL_law 620 = .ok (.ireturn, 1) := by decide +kernel
theorem dL_law_621 : decode cL_law 621 = .ok (.iload 6, 2) := by decide +kernel
theorem dL_law_623 : decode cL_law 623 = .ok (.ifCond .ne 15, 3) := by decide +kernel
theorem dL_law_626 : decode cL_law 626 = .ok (.aload_n 3, 1) := by decide +kernel
theorem dL_law_627 : decode cL_law 627 = .ok (.iconst 0, 1) := by decide +kernel
theorem dL_law_628 : decode cL_law 628 = .ok (.laload, 1) := by decide +kernel
theorem dL_law_629 : decode cL_law 629 = .ok (.iload 7, 2) := by decide +kernel
theorem dL_law_631 : decode cL_law 631 = .ok (.i2l, 1) := by decide +kernel
theorem dL_law_632 : decode cL_law 632 = .ok (.lcmp, 1) := by decide +kernel
theorem dL_law_633 : decode cL_law 633 = .ok (.ifCond .eq 5, 3) := by decide +kernel
theorem dL_law_636 : decode cL_law 636 = .ok (.iconst 0, 1) := by decide +kernel
theorem dL_law_637 : decode cL_law 637 = .ok (.ireturn, 1) := by decide +kernel
theorem dL_law_638 : decode cL_law 638 = .ok (.goto 1972, 3) := by decide +kernel
theorem dL_law_641 : decode cL_law 641 = .ok (.aload_n 1, 1) := by decide +kernel
theorem dL_law_642 : decode cL_law 642 = .ok (.aload_n 0, 1) := by decide +kernel
theorem dL_law_643 : decode cL_law 643 = .ok (.iload 5, 2) := by decide +kernel
theorem dL_law_645 : decode cL_law 645 = .ok (.iconst 1, 1) := by decide +kernel
theorem dL_law_646 : decode cL_law 646 = .ok (.iadd, 1) := by decide +kernel
theorem dL_law_647 : decode cL_law 647 = .ok (.iaload, 1) := by decide +kernel
theorem dL_law_648 : decode cL_law 648 = .ok (.aload_n 0, 1) := by decide +kernel
theorem dL_law_649 : decode cL_law 649 = .ok (.iload 5, 2) := by decide +kernel
theorem dL_law_651 : decode cL_law 651 = .ok (.iconst 2, 1) := by decide +kernel
theorem dL_law_652 : decode cL_law 652 = .ok (.iadd, 1) := by decide +kernel
theorem dL_law_653 : decode cL_law 653 = .ok (.iaload, 1) := by decide +kernel
theorem dL_law_654 : decode cL_law 654 = .ok (.aload_n 3, 1) := by decide +kernel
theorem dL_law_655 : decode cL_law 655 = .ok (.invokestatic 169, 3) := by decide +kernel
theorem dL_law_658 : decode cL_law 658 = .ok (.istore 6, 2) := by decide +kernel
theorem dL_law_660 : decode cL_law 660 = .ok (.aload_n 2, 1) := by decide +kernel
theorem dL_law_661 : decode cL_law 661 = .ok (.aload_n 0, 1) := by decide +kernel
theorem dL_law_662 : decode cL_law 662 = .ok (.iload 5, 2) := by decide +kernel
theorem dL_law_664 : decode cL_law 664 = .ok (.iconst 1, 1) := by decide +kernel
theorem dL_law_665 : decode cL_law 665 = .ok (.iadd, 1) := by decide +kernel
theorem dL_law_666 : decode cL_law 666 = .ok (.iaload, 1) := by decide +kernel
theorem dL_law_667 : decode cL_law 667 = .ok (.aload_n 0, 1) := by decide +kernel
theorem dL_law_668 : decode cL_law 668 = .ok (.iload 5, 2) := by decide +kernel
theorem dL_law_670 : decode cL_law 670 = .ok (.iconst 2, 1) := by decide +kernel
theorem dL_law_671 : decode cL_law 671 = .ok (.iadd, 1) := by decide +kernel
theorem dL_law_672 : decode cL_law 672 = .ok (.iaload, 1) := by decide +kernel
theorem dL_law_673 : decode cL_law 673 = .ok (.invokevirtual 171, 3) := by decide +kernel
theorem dL_law_676 : decode cL_law 676 = .ok (.istore 7, 2) := by decide +kernel
theorem dL_law_678 : decode cL_law 678 = .ok (.aload_n 2, 1) := by decide +kernel
theorem dL_law_679 : decode cL_law 679 = .ok (.invokevirtual 149, 3) := by decide +kernel
theorem dL_law_682 : decode cL_law 682 = .ok (.iload 6, 2) := by decide +kernel
theorem dL_law_684 : decode cL_law 684 = .ok (.if_icmp .eq 5, 3) := by decide +kernel
theorem dL_law_687 : decode cL_law 687 = .ok (.iconst 0, 1) := by decide +kernel
theorem dL_law_688 : decode cL_law 688 = .ok (.ireturn, 1) := by decide +kernel
theorem dL_law_689 : decode cL_law 689 = .ok (.iload 6, 2) := by decide +kernel
theorem dL_law_691 : decode cL_law 691 = .ok (.ifCond .ne 15, 3) := by decide +kernel
theorem dL_law_694 : decode cL_law 694 = .ok (.aload_n 3, 1) := by decide +kernel
theorem dL_law_695 : decode cL_law 695 = .ok (.iconst 0, 1) := by decide +kernel
theorem dL_law_696 : decode cL_law 696 = .ok (.laload, 1) := by decide +kernel
theorem dL_law_697 : decode cL_law 697 = .ok (.iload 7, 2) := by decide +kernel
theorem dL_law_699 : decode cL_law 699 = .ok (.i2l, 1) := by decide +kernel
theorem dL_law_700 : decode cL_law 700 = .ok (.lcmp, 1) := by decide +kernel
theorem dL_law_701 : decode cL_law 701 = .ok (.ifCond .eq 5, 3) := by decide +kernel
theorem dL_law_704 : decode cL_law 704 = .ok (.iconst 0, 1) := by decide +kernel
theorem dL_law_705 : decode cL_law 705 = .ok (.ireturn, 1) := by decide +kernel
theorem dL_law_706 : decode cL_law 706 = .ok (.goto 1904, 3) := by decide +kernel
theorem dL_law_709 : decode cL_law 709 = .ok (.aload_n 1, 1) := by decide +kernel
theorem dL_law_710 : decode cL_law 710 = .ok (.aload_n 0, 1) := by decide +kernel
theorem dL_law_711 : decode cL_law 711 = .ok (.iload 5, 2) := by decide +kernel
theorem dL_law_713 : decode cL_law 713 = .ok (.iconst 1, 1) := by decide +kernel
theorem dL_law_714 : decode cL_law 714 = .ok (.iadd, 1) := by decide +kernel
theorem dL_law_715 : decode cL_law 715 = .ok (.iaload, 1) := by decide +kernel
theorem dL_law_716 : decode cL_law 716 = .ok (.aload_n 0, 1) := by decide +kernel
theorem dL_law_717 : decode cL_law 717 = .ok (.iload 5, 2) := by decide +kernel
theorem dL_law_719 : decode cL_law 719 = .ok (.iconst 2, 1) := by decide +kernel
theorem dL_law_720 : decode cL_law 720 = .ok (.iadd, 1) := by decide +kernel
theorem dL_law_721 : decode cL_law 721 = .ok (.iaload, 1) := by decide +kernel
theorem dL_law_722 : decode cL_law 722 = .ok (.aload_n 3, 1) := by decide +kernel
theorem dL_law_723 : decode cL_law 723 = .ok (.invokestatic 172, 3) := by decide +kernel
theorem dL_law_726 : decode cL_law 726 = .ok (.istore 6, 2) := by decide +kernel
theorem dL_law_728 : decode cL_law 728 = .ok (.aload_n 2, 1) := by decide +kernel
theorem dL_law_729 : decode cL_law 729 = .ok (.aload_n 0, 1) := by decide +kernel
theorem dL_law_730 : decode cL_law 730 = .ok (.iload 5, 2) := by decide +kernel
theorem dL_law_732 : decode cL_law 732 = .ok (.iconst 1, 1) := by decide +kernel
theorem dL_law_733 : decode cL_law 733 = .ok (.iadd, 1) := by decide +kernel
theorem dL_law_734 : decode cL_law 734 = .ok (.iaload, 1) := by decide +kernel
theorem dL_law_735 : decode cL_law 735 = .ok (.aload_n 0, 1) := by decide +kernel
theorem dL_law_736 : decode cL_law 736 = .ok (.iload 5, 2) := by decide +kernel
theorem dL_law_738 : decode cL_law 738 = .ok (.iconst 2, 1) := by decide +kernel
theorem dL_law_739 : decode cL_law 739 = .ok (.iadd, 1) := by decide +kernel
theorem dL_law_740 : decode cL_law 740 = .ok (.iaload, 1) := by decide +kernel
theorem dL_law_741 : decode cL_law 741 = .ok (.invokevirtual 174, 3) := by decide +kernel
theorem dL_law_744 : decode cL_law 744 = .ok (.istore 7, 2) := by decide +kernel
theorem dL_law_746 : decode cL_law 746 = .ok (.aload_n 2, 1) := by decide +kernel
theorem dL_law_747 : decode cL_law 747 = .ok (.invokevirtual 149, 3) := by decide +kernel
theorem dL_law_750 : decode cL_law 750 = .ok (.iload 6, 2) := by decide +kernel
theorem dL_law_752 : decode cL_law 752 = .ok (.if_icmp .eq 5, 3) := by decide +kernel
theorem dL_law_755 : decode cL_law 755 = .ok (.iconst 0, 1) := by decide +kernel
theorem dL_law_756 : decode cL_law 756 = .ok (.ireturn, 1) := by decide +kernel
theorem dL_law_757 : decode cL_law 757 = .ok (.iload 6, 2) := by decide +kernel
theorem dL_law_759 : decode cL_law 759 = .ok (.ifCond .ne 15, 3) := by decide +kernel
theorem dL_law_762 : decode cL_law 762 = .ok (.aload_n 3, 1) := by decide +kernel
theorem dL_law_763 : decode cL_law 763 = .ok (.iconst 0, 1) := by decide +kernel
theorem dL_law_764 : decode cL_law 764 = .ok (.laload, 1) := by decide +kernel
