theorem dL_addPart_0 : decode cL_addPart 0 = .ok (.aload_n 2, 1) := by decide +kernel
theorem dL_addPart_1 : decode cL_addPart 1 = .ok (.iconst 0, 1) := by decide +kernel
theorem dL_addPart_2 : decode cL_addPart 2 = .ok (.aload_n 0, 1) := by decide +kernel
theorem dL_addPart_3 : decode cL_addPart 3 = .ok (.iload_n 1, 1) := by decide +kernel
theorem dL_addPart_4 : decode cL_addPart 4 = .ok (.invokevirtual 7, 3) := by decide +kernel
theorem dL_addPart_7 : decode cL_addPart 7 = .ok (.i2l, 1) := by decide +kernel
theorem dL_addPart_8 : decode cL_addPart 8 = .ok (.lastore, 1) := by decide +kernel
theorem dL_addPart_9 : decode cL_addPart 9 = .ok (.goto 9, 3) := by decide +kernel
theorem dL_addPart_12 : decode cL_addPart 12 = .ok (.astore_n 3, 1) := by decide +kernel
theorem dL_addPart_13 : decode cL_addPart 13 = .ok (.iconst 1, 1) := by decide +kernel
theorem dL_addPart_14 : decode cL_addPart 14 = .ok (.ireturn, 1) := by decide +kernel
theorem dL_addPart_15 : decode cL_addPart 15 = .ok (.astore_n 3, 1) := by decide +kernel
theorem dL_addPart_16 : decode cL_addPart 16 = .ok (.iconst 2, 1) := by decide +kernel
theorem dL_addPart_17 : decode cL_addPart 17 = .ok (.ireturn, 1) := by decide +kernel
theorem dL_addPart_18 : decode cL_addPart 18 = .ok (.iconst 0, 1) := by decide +kernel
theorem dL_addPart_19 : decode cL_addPart 19 = .ok (.ireturn, 1) := by decide +kernel
set_option maxRecDepth 20000 in
theorem ggL_addBar_X4_addBar : GoodIn wsL_addBar wsX4_addBar := goodIn_ca (goodIn_ca (goodIn_r _ [7, 8, 9, 10, 11, 12, 13, 14, 15, 16, 17, 18, 6, 19, 20, 21, 22, 23, 24, 25, 26, 27, 28, 29, 30, 31, 32, 33, 34, 35, 36, 37, 38, 39, 40, 41] (by decide +kernel) (by decide +kernel)) (goodIn_sub (fun _ h => List.mem_cons_of_mem _ (List.mem_append_left _ (List.mem_append_right _ h))) (by decide +kernel))) (goodIn_sub (fun _ h => List.mem_cons_of_mem _ (List.mem_append_right _ h)) (by decide +kernel))
set_option maxRecDepth 20000 in
theorem gL_addBar_X4_addBar : GoodIn wsL_addBar (wsV RL 17 RX4 yX4_addBar wsX4_addBar) := goodIn_app (goodIn_of _ (by decide +kernel)) ggL_addBar_X4_addBar
theorem dL_addBar_0 : decode cL_addBar 0 = .ok (.aload 4, 2) := by decide +kernel
theorem dL_addBar_2 : decode cL_addBar 2 = .ok (.iconst 0, 1) := by decide +kernel
theorem dL_addBar_3 : decode cL_addBar 3 = .ok (.aload_n 0, 1) := by decide +kernel
theorem dL_addBar_4 : decode cL_addBar 4 = .ok (.iload_n 1, 1) := by decide +kernel
theorem dL_addBar_5 : decode cL_addBar 5 = .ok (.iload_n 2, 1) := by decide +kernel
theorem dL_addBar_6 : decode cL_addBar 6 = .ok (.iload_n 3, 1) := by decide +kernel
theorem dL_addBar_7 : decode cL_addBar 7 = .ok (.invokevirtual 17, 3) := by decide +kernel
theorem dL_addBar_10 : decode cL_addBar 10 = .ok (.i2l, 1) := by decide +kernel
theorem dL_addBar_11 : decode cL_addBar 11 = .ok (.lastore, 1) := by decide +kernel
theorem dL_addBar_12 : decode cL_addBar 12 = .ok (.goto 11, 3) := by decide +kernel
theorem dL_addBar_15 : decode cL_addBar 15 = .ok (.astore 5, 2) := by decide +kernel
theorem dL_addBar_17 : decode cL_addBar 17 = .ok (.iconst 1, 1) := by decide +kernel
theorem dL_addBar_18 : decode cL_addBar 18 = .ok (.ireturn, 1) := by decide +kernel
theorem dL_addBar_19 : decode cL_addBar 19 = .ok (.astore 5, 2) := by decide +kernel
theorem dL_addBar_21 : decode cL_addBar 21 = .ok (.iconst 2, 1) := by decide +kernel
theorem dL_addBar_22 : decode cL_addBar 22 = .ok (.ireturn, 1) := by decide +kernel
theorem dL_addBar_23 : decode cL_addBar 23 = .ok (.iconst 0, 1) := by decide +kernel
theorem dL_addBar_24 : decode cL_addBar 24 = .ok (.ireturn, 1) := by decide +kernel
set_option maxRecDepth 20000 in
theorem ggL_setMark_X4_setMark : GoodIn wsL_setMark wsX4_setMark := goodIn_ca (goodIn_r _ [6, 7, 8, 9, 10, 5, 11, 12, 13, 14, 15, 16, 17, 18, 19, 20, 21, 22, 23, 24, 25, 26, 27, 28, 29, 30, 31] (by decide +kernel) (by decide +kernel)) (goodIn_sub (fun _ h => List.mem_cons_of_mem _ (List.mem_append_right _ h)) (by decide +kernel))
set_option maxRecDepth 20000 in
theorem gL_setMark_X4_setMark : GoodIn wsL_setMark (wsV RL 21 RX4 yX4_setMark wsX4_setMark) := goodIn_app (goodIn_of _ (by decide +kernel)) ggL_setMark_X4_setMark
theorem dL_setMark_0 : decode cL_setMark 0 = .ok (.aload_n 3, 1) := by decide +kernel
theorem dL_setMark_1 : decode cL_setMark 1 = .ok (.iconst 0, 1) := by decide +kernel
theorem dL_setMark_2 : decode cL_setMark 2 = .ok (.aload_n 0, 1) := by decide +kernel
theorem dL_setMark_3 : decode cL_setMark 3 = .ok (.iload_n 1, 1) := by decide +kernel
theorem dL_setMark_4 : decode cL_setMark 4 = .ok (.iload_n 2, 1) := by decide +kernel
theorem dL_setMark_5 : decode cL_setMark 5 = .ok (.invokevirtual 21, 3) := by decide +kernel
theorem dL_setMark_8 : decode cL_setMark 8 = .ok (.ifCond .eq 7, 3) := by decide +kernel
theorem dL_setMark_11 : decode cL_setMark 11 = .ok (.lconst 1, 1) := by decide +kernel
theorem dL_setMark_12 : decode cL_setMark 12 = .ok (.goto 4, 3) := by decide +kernel
theorem dL_setMark_15 : decode cL_setMark 15 = .ok (.lconst 0, 1) := by decide +kernel
theorem dL_setMark_16 : decode cL_setMark 16 = .ok (.lastore, 1) := by decide +kernel
theorem dL_setMark_17 : decode cL_setMark 17 = .ok (.goto 7, 3) := by decide +kernel
theorem dL_setMark_20 : decode cL_setMark 20 = .ok (.astore 4, 2) := by decide +kernel
theorem dL_setMark_22 : decode cL_setMark 22 = .ok (.iconst 1, 1) := by decide +kernel
theorem dL_setMark_23 : decode cL_setMark 23 = .ok (.ireturn, 1) := by decide +kernel
theorem dL_setMark_24 : decode cL_setMark 24 = .ok (.iconst 0, 1) := by decide +kernel
theorem dL_setMark_25 : decode cL_setMark 25 = .ok (.ireturn, 1) := by decide +kernel
set_option maxRecDepth 20000 in
theorem ggL_setKey_X4_setKey : GoodIn wsL_setKey wsX4_setKey := goodIn_ca (goodIn_ca (goodIn_r _ [7, 8, 9, 10, 11, 12, 13, 6, 14, 15, 16, 17, 18, 19, 20, 21, 22, 23, 24, 25, 26, 27, 28, 29, 30, 31, 32, 33, 34, 35, 36, 37] (by decide +kernel) (by decide +kernel)) (goodIn_sub (fun _ h => List.mem_cons_of_mem _ (List.mem_append_left _ (List.mem_append_right _ h))) (by decide +kernel))) (goodIn_sub (fun _ h => List.mem_cons_of_mem _ (List.mem_append_right _ h)) (by decide +kernel))
set_option maxRecDepth 20000 in
theorem gL_setKey_X4_setKey : GoodIn wsL_setKey (wsV RL 27 RX4 yX4_setKey wsX4_setKey) := goodIn_app (goodIn_of _ (by decide +kernel)) ggL_setKey_X4_setKey
theorem dL_setKey_0 : decode cL_setKey 0 = .ok (.aload_n 3, 1) := by decide +kernel
theorem dL_setKey_1 : decode cL_setKey 1 = .ok (.iconst 0, 1) := by decide +kernel
theorem dL_setKey_2 : decode cL_setKey 2 = .ok (.aload_n 0, 1) := by decide +kernel
theorem dL_setKey_3 : decode cL_setKey 3 = .ok (.iload_n 1, 1) := by decide +kernel
theorem dL_setKey_4 : decode cL_setKey 4 = .ok (.iload_n 2, 1) := by decide +kernel
theorem dL_setKey_5 : decode cL_setKey 5 = .ok (.invokevirtual 27, 3) := by decide +kernel
theorem dL_setKey_8 : decode cL_setKey 8 = .ok (.i2l, 1) := by decide +kernel
theorem dL_setKey_9 : decode cL_setKey 9 = .ok (.lastore, 1) := by decide +kernel
theorem dL_setKey_10 : decode cL_setKey 10 = .ok (.goto 11, 3) := by decide +kernel
theorem dL_setKey_13 : decode cL_setKey 13 = .ok (.astore 4, 2) := by decide +kernel
theorem dL_setKey_15 : decode cL_setKey 15 = .ok (.iconst 1, 1) := by decide +kernel
theorem dL_setKey_16 : decode cL_setKey 16 = .ok (.ireturn, 1) := by decide +kernel
theorem dL_setKey_17 : decode cL_setKey 17 = .ok (.astore 4, 2) := by decide +kernel
theorem dL_setKey_19 : decode cL_setKey 19 = .ok (.iconst 2, 1) := by decide +kernel
theorem dL_setKey_20 : decode cL_setKey 20 = .ok (.ireturn, 1) := by decide +kernel
theorem dL_setKey_21 : decode cL_setKey 21 = .ok (.iconst 0, 1) := by decide +kernel
theorem dL_setKey_22 : decode cL_setKey 22 = .ok (.ireturn, 1) := by decide +kernel
set_option maxRecDepth 20000 in
theorem ggL_addNote_X4_addNote : GoodIn wsL_addNote wsX4_addNote := goodIn_ca (goodIn_ca (goodIn_ca (goodIn_ca (goodIn_r _ [9, 10, 11, 12, 13, 14, 15, 16, 17, 18, 19, 20, 21, 22, 23, 8, 24, 25, 26, 27, 28, 29, 30, 31, 32, 33, 34, 35, 36, 37, 38, 39, 40, 41, 42, 43, 44, 45, 46, 47, 48, 49, 50, 51, 52, 53, 54, 55, 56, 57, 58, 59, 60, 61, 62, 63, 64, 65, 66, 67, 68, 69, 70, 71, 72, 73, 74, 75, 76, 77, 78, 79, 80, 81, 82, 83, 84, 85, 86, 87, 88, 89, 90, 91, 92, 93, 94, 95, 96, 97, 98, 99, 100, 101, 102, 103, 104, 105, 106] (by decide +kernel) (by decide +kernel)) (goodIn_sub (fun _ h => List.mem_cons_of_mem _ (List.mem_append_left _ (List.mem_append_left _ (List.mem_append_left _ (List.mem_append_right _ h))))) (by decide +kernel))) (goodIn_sub (fun _ h => List.mem_cons_of_mem _ (List.mem_append_left _ (List.mem_append_left _ (List.mem_append_right _ h)))) (by decide +kernel))) (goodIn_sub (fun _ h => List.mem_cons_of_mem _ (List.mem_append_left _ (List.mem_append_right _ h))) (by decide +kernel))) (goodIn_sub (fun _ h => List.mem_cons_of_mem _ (List.mem_append_right _ h)) (by decide +kernel))
set_option maxRecDepth 20000 in
theorem gL_addNote_X4_addNote : GoodIn wsL_addNote (wsV RL 31 RX4 yX4_addNote wsX4_addNote) := goodIn_app (goodIn_of _ (by decide +kernel)) ggL_addNote_X4_addNote
theorem dL_addNote_0 : decode cL_addNote 0 = .ok (.aload 7, 2) := by decide +kernel
theorem dL_addNote_2 : decode cL_addNote 2 = .ok (.iconst 0, 1) := by decide +kernel
theorem dL_addNote_3 : decode cL_addNote 3 = .ok (.aload_n 0, 1) := by decide +kernel
theorem dL_addNote_4 : decode cL_addNote 4 = .ok (.iload_n 1, 1) := by decide +kernel
theorem dL_addNote_5 : decode cL_addNote 5 = .ok (.iload_n 2, 1) := by decide +kernel
theorem dL_addNote_6 : decode cL_addNote 6 = .ok (.iload_n 3, 1) := by decide +kernel
theorem dL_addNote_7 : decode cL_addNote 7 = .ok (.iload 4, 2) := by decide +kernel
theorem dL_addNote_9 : decode cL_addNote 9 = .ok (.iload 5, 2) := by decide +kernel
theorem dL_addNote_11 : decode cL_addNote 11 = .ok (.iload 6, 2) := by decide +kernel
theorem dL_addNote_13 : decode cL_addNote 13 = .ok (.invokevirtual 31, 3) := by decide +kernel
theorem dL_addNote_16 : decode cL_addNote 16 = .ok (.i2l, 1) := by decide +kernel
theorem dL_addNote_17 : decode cL_addNote 17 = .ok (.lastore, 1) := by decide +kernel
theorem dL_addNote_18 : decode cL_addNote 18 = .ok (.goto 19, 3) := by decide +kernel
theorem dL_addNote_21 : decode cL_addNote 21 = .ok (.astore 8, 2) := by decide +kernel
theorem dL_addNote_23 : decode cL_addNote 23 = .ok (.iconst 1, 1) := by decide +kernel
theorem dL_addNote_24 : decode cL_addNote 24 = .ok (.ireturn, 1) := by decide +kernel
theorem dL_addNote_25 : decode cL_addNote 25 = .ok (.astore 8, 2) := by decide +kernel
theorem dL_addNote_27 : decode cL_addNote 27 = .ok (.iconst 2, 1) := by decide +kernel
theorem dL_addNote_28 : decode cL_addNote 28 = .ok (.ireturn, 1) := by decide +kernel
theorem dL_addNote_29 : decode cL_addNote 29 = .ok (.astore 8, 2) := by decide +kernel
theorem dL_addNote_31 : decode cL_addNote 31 = .ok (.iconst 3, 1) := by decide +kernel
theorem dL_addNote_32 : decode cL_addNote 32 = .ok (.ireturn, 1) := by decide +kernel
theorem dL_addNote_33 : decode cL_addNote 33 = .ok (.astore 8, 2) := by decide +kernel
theorem dL_addNote_35 : decode cL_addNote 35 = .ok (.iconst 4, 1) := by decide +kernel
theorem dL_addNote_36 : decode cL_addNote 36 = .ok (.ireturn, 1) := by decide +kernel
theorem dL_addNote_37 : decode cL_addNote 37 = .ok (.iconst 0, 1) := by decide +kernel
theorem dL_addNote_38 : decode cL_addNote 38 = .ok (.ireturn, 1) := by decide +kernel
set_option maxRecDepth 20000 in
theorem ggL_correct_X4_correct : GoodIn wsL_correct wsX4_correct := goodIn_ca (goodIn_ca (goodIn_r _ [7, 8, 9, 10, 11, 12, 13, 14, 6, 15, 16, 17, 18, 19, 20, 21, 22, 23, 24, 25, 26, 27, 28, 29, 30, 31, 32, 33, 34, 35, 36, 37, 38, 39, 40, 41, 42, 43, 44, 45, 46, 47] (by decide +kernel) (by decide +kernel)) (goodIn_sub (fun _ h => List.mem_cons_of_mem _ (List.mem_append_left _ (List.mem_append_right _ h))) (by decide +kernel))) (goodIn_sub (fun _ h => List.mem_cons_of_mem _ (List.mem_append_right _ h)) (by decide +kernel))
set_option maxRecDepth 20000 in
theorem gL_correct_X4_correct : GoodIn wsL_correct (wsV RL 37 RX4 yX4_correct wsX4_correct) := goodIn_app (goodIn_of _ (by decide +kernel)) ggL_correct_X4_correct
theorem dL_correct_0 : decode cL_correct 0 = .ok (.aload_n 3, 1) := by decide +kernel
theorem dL_correct_1 : decode cL_correct 1 = .ok (.iconst 0, 1) := by decide +kernel
theorem dL_correct_2 : decode cL_correct 2 = .ok (.aload_n 0, 1) := by decide +kernel
theorem dL_correct_3 : decode cL_correct 3 = .ok (.iload_n 1, 1) := by decide +kernel
theorem dL_correct_4 : decode cL_correct 4 = .ok (.iload_n 2, 1) := by decide +kernel
theorem dL_correct_5 : decode cL_correct 5 = .ok (.invokevirtual 37, 3) := by decide +kernel
theorem dL_correct_8 : decode cL_correct 8 = .ok (.i2l, 1) := by decide +kernel
theorem dL_correct_9 : decode cL_correct 9 = .ok (.lastore, 1) := by decide +kernel
theorem dL_correct_10 : decode cL_correct 10 = .ok (.goto 11, 3) := by decide +kernel
theorem dL_correct_13 : decode cL_correct 13 = .ok (.astore 4, 2) := by decide +kernel
theorem dL_correct_15 : decode cL_correct 15 = .ok (.iconst 1, 1) := by decide +kernel
theorem dL_correct_16 : decode cL_correct 16 = .ok (.ireturn, 1) := by decide +kernel
theorem dL_correct_17 : decode cL_correct 17 = .ok (.astore 4, 2) := by decide +kernel
theorem dL_correct_19 : decode cL_correct 19 = .ok (.iconst 2, 1) := by decide +kernel
theorem dL_correct_20 : decode cL_correct 20 = .ok (.ireturn, 1) := by decide +kernel
theorem dL_correct_21 : decode cL_correct 21 = .ok (.iconst 0, 1) := by decide +kernel
theorem dL_correct_22 : decode cL_correct 22 = .ok (.ireturn, 1) := by decide +kernel
set_option maxRecDepth 20000 in
theorem ggL_stretch_X4_stretch : GoodIn wsL_stretch wsX4_stretch := goodIn_ca (goodIn_ca (goodIn_ca (goodIn_r _ [8, 9, 10, 11, 12, 13, 14, 15, 16, 17, 18, 19, 7, 20, 21, 22, 23, 24, 25, 26, 27, 28, 29, 30, 31, 32, 33, 34, 35, 36, 37, 38, 39, 40, 41, 42, 43, 44, 45, 46, 47, 48, 49, 50, 51, 52, 53, 54, 55, 56, 57, 58, 59, 60, 61, 62, 63, 64, 65, 66, 67, 68, 69, 70, 71, 72, 73, 74, 75, 76, 77, 78, 79, 80, 81, 82, 83] (by decide +kernel) (by decide +kernel)) (goodIn_sub (fun _ h => List.mem_cons_of_mem _ (List.mem_append_left _ (List.mem_append_left _ (List.mem_append_right _ h)))) (by decide +kernel))) (goodIn_sub (fun _ h => List.mem_cons_of_mem _ (List.mem_append_left _ (List.mem_append_right _ h))) (by decide +kernel))) (goodIn_sub (fun _ h => List.mem_cons_of_mem _ (List.mem_append_right _ h)) (by decide +kernel))
set_option maxRecDepth 20000 in
theorem gL_stretch_X4_stretch : GoodIn wsL_stretch (wsV RL 42 RX4 yX4_stretch wsX4_stretch) := goodIn_app (goodIn_of _ (by decide +kernel)) ggL_stretch_X4_stretch
theorem dL_stretch_0 : decode cL_stretch 0 = .ok (.aload_n 3, 1) := by decide +kernel
theorem dL_stretch_1 : decode cL_stretch 1 = .ok (.iconst 0, 1) := by decide +kernel
theorem dL_stretch_2 : decode cL_stretch 2 = .ok (.aload_n 0, 1) := by decide +kernel
theorem dL_stretch_3 : decode cL_stretch 3 = .ok (.iload_n 1, 1) := by decide +kernel
theorem dL_stretch_4 : decode cL_stretch 4 = .ok (.iload_n 2, 1) := by decide +kernel
theorem dL_stretch_5 : decode cL_stretch 5 = .ok (.invokevirtual 42, 3) := by decide +kernel
theorem dL_stretch_8 : decode cL_stretch 8 = .ok (.i2l, 1) := by decide +kernel
theorem dL_stretch_9 : decode cL_stretch 9 = .ok (.lastore, 1) := by decide +kernel
theorem dL_stretch_10 : decode cL_stretch 10 = .ok (.goto 15, 3) := by decide +kernel
theorem dL_stretch_13 : decode cL_stretch 13 = .ok (.astore 4, 2) := by decide +kernel
theorem dL_stretch_15 : decode cL_stretch 15 = .ok (.iconst 1, 1) := by decide +kernel
theorem dL_stretch_16 : decode cL_stretch 16 = .ok (.ireturn, 1) := by decide +kernel
theorem dL_stretch_17 : decode cL_stretch 17 = .ok (.astore 4, 2) := by decide +kernel
theorem dL_stretch_19 : decode cL_stretch 19 = .ok (.iconst 2, 1) := by decide +kernel
theorem dL_stretch_20 : decode cL_stretch 20 = .ok (.ireturn, 1) := by decide +kernel
theorem dL_stretch_21 : decode cL_stretch 21 = .ok (.astore 4, 2) := by decide +kernel
theorem dL_stretch_23 : decode cL_stretch 23 = .ok (.iconst 3, 1) := by decide +kernel
theorem dL_stretch_24 : decode cL_stretch 24 = .ok (.ireturn, 1) := by decide +kernel
theorem dL_stretch_25 : decode cL_stretch 25 = .ok (.iconst 0, 1) := by decide +kernel
theorem dL_stretch_26 : decode cL_stretch 26 = .ok (.ireturn, 1) := by decide +kernel
set_option maxRecDepth 20000 in
theorem ggL_takeOut_X4_takeOut : GoodIn wsL_takeOut wsX4_takeOut := goodIn_ca (goodIn_r _ [6, 7, 8, 9, 10, 11, 12, 5, 13, 14, 15, 16, 17, 18, 19, 20, 21, 22, 23, 24, 25, 26, 27, 28, 29, 30, 31, 32, 33, 34, 35, 36, 37, 38, 39, 40, 41, 42, 43, 44, 45] (by decide +kernel) (by decide +kernel)) (goodIn_sub (fun _ h => List.mem_cons_of_mem _ (List.mem_append_right _ h)) (by decide +kernel))
set_option maxRecDepth 20000 in
theorem gL_takeOut_X4_takeOut : GoodIn wsL_takeOut (wsV RL 45 RX4 yX4_takeOut wsX4_takeOut) := goodIn_app (goodIn_of _ (by decide +kernel)) ggL_takeOut_X4_takeOut
theorem dL_takeOut_0 : decode cL_takeOut 0 = .ok (.aload_n 2, 1) := by decide +kernel
theorem dL_takeOut_1 : decode cL_takeOut 1 = .ok (.iconst 0, 1) := by decide +kernel
theorem dL_takeOut_2 : decode cL_takeOut 2 = .ok (.aload_n 0, 1) := by decide +kernel
theorem dL_takeOut_3 : decode cL_takeOut 3 = .ok (.iload_n 1, 1) := by decide +kernel
theorem dL_takeOut_4 : decode cL_takeOut 4 = .ok (.invokevirtual 45, 3) := by decide +kernel
theorem dL_takeOut_7 : decode cL_takeOut 7 = .ok (.i2l, 1) := by decide +kernel
theorem dL_takeOut_8 : decode cL_takeOut 8 = .ok (.lastore, 1) := by decide +kernel
theorem dL_takeOut_9 : decode cL_takeOut 9 = .ok (.goto 6, 3) := by decide +kernel
theorem dL_takeOut_12 : decode cL_takeOut 12 = .ok (.astore_n 3, 1) := by decide +kernel
theorem dL_takeOut_13 : decode cL_takeOut 13 = .ok (.iconst 1, 1) := by decide +kernel
theorem dL_takeOut_14 : decode cL_takeOut 14 = .ok (.ireturn, 1) := by decide +kernel
theorem dL_takeOut_15 : decode cL_takeOut 15 = .ok (.iconst 0, 1) := by decide +kernel
theorem dL_takeOut_16 : decode cL_takeOut 16 = .ok (.ireturn, 1) := by decide +kernel
set_option maxRecDepth 20000 in
theorem ggL_notesIn_X4_notesIn : GoodIn wsL_notesIn wsX4_notesIn := goodIn_ca (goodIn_r _ [6, 7, 8, 9, 5, 10, 11, 12, 13, 14, 15, 16, 17, 18, 19, 20, 21, 22, 23, 24, 25, 26, 27, 28, 29, 30, 31, 32, 33, 34, 35, 36, 37, 38, 39, 40, 41, 42, 43, 44, 45, 46, 47, 48, 49, 50, 51, 52, 53, 54, 55, 56, 57, 58, 59, 60] (by decide +kernel) (by decide +kernel)) (goodIn_sub (fun _ h => List.mem_cons_of_mem _ (List.mem_append_right _ h)) (by decide +kernel))
set_option maxRecDepth 20000 in
theorem gL_notesIn_X4_notesIn : GoodIn wsL_notesIn (wsV RL 48 RX4 yX4_notesIn wsX4_notesIn) := goodIn_app (goodIn_of _ (by decide +kernel)) ggL_notesIn_X4_notesIn
theorem dL_notesIn_0 : decode cL_notesIn 0 = .ok (.aload_n 3, 1) := by decide +kernel
theorem dL_notesIn_1 : decode cL_notesIn 1 = .ok (.iconst 0, 1) := by decide +kernel
theorem dL_notesIn_2 : decode cL_notesIn 2 = .ok (.aload_n 0, 1) := by decide +kernel
theorem dL_notesIn_3 : decode cL_notesIn 3 = .ok (.iload_n 1, 1) := by decide +kernel
theorem dL_notesIn_4 : decode cL_notesIn 4 = .ok (.iload_n 2, 1) := by decide +kernel
theorem dL_notesIn_5 : decode cL_notesIn 5 = .ok (.invokevirtual 48, 3) := by decide +kernel
theorem dL_notesIn_8 : decode cL_notesIn 8 = .ok (.i2l, 1) := by decide +kernel
theorem dL_notesIn_9 : decode cL_notesIn 9 = .ok (.lastore, 1) := by decide +kernel
theorem dL_notesIn_10 : decode cL_notesIn 10 = .ok (.goto 7, 3) := by decide +kernel
theorem dL_notesIn_13 : decode cL_notesIn 13 = .ok (.astore 4, 2) := by decide +kernel
theorem dL_notesIn_15 : decode cL_notesIn 15 = .ok (.iconst 1, 1) := by decide +kernel
theorem dL_notesIn_16 : decode cL_notesIn 16 = .ok (.ireturn, 1) := by decide +kernel
theorem dL_notesIn_17 : decode cL_notesIn 17 = .ok (.iconst 0, 1) := by decide +kernel
theorem dL_notesIn_18 : decode cL_notesIn 18 = .ok (.ireturn, 1) := by decide +kernel
set_option maxRecDepth 20000 in
theorem ggL_noteAt_X4_noteAt : GoodIn wsL_noteAt wsX4_noteAt := goodIn_ca (goodIn_ca (goodIn_r _ [7, 8, 9, 10, 6, 11, 12, 13, 14, 15, 16, 17, 18, 19, 20, 21, 22, 23, 24, 25, 26, 27, 28, 29, 30, 31, 32, 33, 34, 35, 36, 37, 38, 39, 40, 41, 42, 43, 44, 45, 46, 47, 48, 49, 50, 51, 52, 53, 54, 55, 56, 57, 58, 59, 60, 61, 62, 63, 64, 65, 66, 67, 68, 69, 70, 71, 72, 73, 74, 75] (by decide +kernel) (by decide +kernel)) (goodIn_sub (fun _ h => List.mem_cons_of_mem _ (List.mem_append_left _ (List.mem_append_right _ h))) (by decide +kernel))) (goodIn_sub (fun _ h => List.mem_cons_of_mem _ (List.mem_append_right _ h)) (by decide +kernel))
set_option maxRecDepth 20000 in
theorem gL_noteAt_X4_noteAt : GoodIn wsL_noteAt (wsV RL 51 RX4 yX4_noteAt wsX4_noteAt) := goodIn_app (goodIn_of _ (by decide +kernel)) ggL_noteAt_X4_noteAt
theorem dL_noteAt_0 : decode cL_noteAt 0 = .ok (.aload 4, 2) := by decide +kernel
theorem dL_noteAt_2 : decode cL_noteAt 2 = .ok (.iconst 0, 1) := by decide +kernel
theorem dL_noteAt_3 : decode cL_noteAt 3 = .ok (.aload_n 0, 1) := by decide +kernel
theorem dL_noteAt_4 : decode cL_noteAt 4 = .ok (.iload_n 1, 1) := by decide +kernel
theorem dL_noteAt_5 : decode cL_noteAt 5 = .ok (.iload_n 2, 1) := by decide +kernel
theorem dL_noteAt_6 : decode cL_noteAt 6 = .ok (.iload_n 3, 1) := by decide +kernel
theorem dL_noteAt_7 : decode cL_noteAt 7 = .ok (.invokevirtual 51, 3) := by decide +kernel
theorem dL_noteAt_10 : decode cL_noteAt 10 = .ok (.i2l, 1) := by decide +kernel
theorem dL_noteAt_11 : decode cL_noteAt 11 = .ok (.lastore, 1) := by decide +kernel
theorem dL_noteAt_12 : decode cL_noteAt 12 = .ok (.goto 11, 3) := by decide +kernel
theorem dL_noteAt_15 : decode cL_noteAt 15 = .ok (.astore 5, 2) := by decide +kernel
theorem dL_noteAt_17 : decode cL_noteAt 17 = .ok (.iconst 1, 1) := by decide +kernel
theorem dL_noteAt_18 : decode cL_noteAt 18 = .ok (.ireturn, 1) := by decide +kernel
theorem dL_noteAt_19 : decode cL_noteAt 19 = .ok (.astore 5, 2) := by decide +kernel
theorem dL_noteAt_21 : decode cL_noteAt 21 = .ok (.iconst 2, 1) := by decide +kernel
theorem dL_noteAt_22 : decode cL_noteAt 22 = .ok (.ireturn, 1) := by decide +kernel
theorem dL_noteAt_23 : decode cL_noteAt 23 = .ok (.iconst 0, 1) := by decide +kernel
theorem dL_noteAt_24 : decode cL_noteAt 24 = .ok (.ireturn, 1) := by decide +kernel
set_option maxRecDepth 20000 in
theorem ggL_pitchOf_X4_pitchOf : GoodIn wsL_pitchOf wsX4_pitchOf := goodIn_ca (goodIn_r _ [6, 7, 8, 9, 10, 5, 11, 12, 13, 14, 15, 16, 17, 18, 19, 20, 21, 22, 23, 24, 25, 26, 27, 28, 29, 30, 31, 32, 33, 34, 35, 36, 37, 38, 39, 40] (by decide +kernel) (by decide +kernel)) (goodIn_sub (fun _ h => List.mem_cons_of_mem _ (List.mem_append_right _ h)) (by decide +kernel))
set_option maxRecDepth 20000 in
theorem gL_pitchOf_X4_pitchOf : GoodIn wsL_pitchOf (wsV RL 55 RX4 yX4_pitchOf wsX4_pitchOf) := goodIn_app (goodIn_of _ (by decide +kernel)) ggL_pitchOf_X4_pitchOf
theorem dL_pitchOf_0 : decode cL_pitchOf 0 = .ok (.aload_n 2, 1) := by decide +kernel
theorem dL_pitchOf_1 : decode cL_pitchOf 1 = .ok (.iconst 0, 1) := by decide +kernel
theorem dL_pitchOf_2 : decode cL_pitchOf 2 = .ok (.aload_n 0, 1) := by decide +kernel
theorem dL_pitchOf_3 : decode cL_pitchOf 3 = .ok (.iload_n 1, 1) := by decide +kernel
theorem dL_pitchOf_4 : decode cL_pitchOf 4 = .ok (.invokevirtual 55, 3) := by decide +kernel
theorem dL_pitchOf_7 : decode cL_pitchOf 7 = .ok (.i2l, 1) := by decide +kernel
theorem dL_pitchOf_8 : decode cL_pitchOf 8 = .ok (.lastore, 1) := by decide +kernel
theorem dL_pitchOf_9 : decode cL_pitchOf 9 = .ok (.goto 6, 3) := by decide +kernel
theorem dL_pitchOf_12 : decode cL_pitchOf 12 = .ok (.astore_n 3, 1) := by decide +kernel
theorem dL_pitchOf_13 : decode cL_pitchOf 13 = .ok (.iconst 1, 1) := by decide +kernel
theorem dL_pitchOf_14 : decode cL_pitchOf 14 = .ok (.ireturn, 1) := by decide +kernel
theorem dL_pitchOf_15 : decode cL_pitchOf 15 = .ok (.iconst 0, 1) := by decide +kernel
theorem dL_pitchOf_16 : decode cL_pitchOf 16 = .ok (.ireturn, 1) := by decide +kernel
set_option maxRecDepth 20000 in
theorem ggL_lengthOf_X4_lengthOf : GoodIn wsL_lengthOf wsX4_lengthOf := goodIn_ca (goodIn_r _ [6, 7, 8, 9, 10, 5, 11, 12, 13, 14, 15, 16, 17, 18, 19, 20, 21, 22, 23, 24, 25, 26, 27, 28, 29, 30, 31, 32, 33, 34, 35, 36, 37, 38, 39, 40] (by decide +kernel) (by decide +kernel)) (goodIn_sub (fun _ h => List.mem_cons_of_mem _ (List.mem_append_right _ h)) (by decide +kernel))
set_option maxRecDepth 20000 in
theorem gL_lengthOf_X4_lengthOf : GoodIn wsL_lengthOf (wsV RL 58 RX4 yX4_lengthOf wsX4_lengthOf) := goodIn_app (goodIn_of _ (by decide +kernel)) ggL_lengthOf_X4_lengthOf
theorem dL_lengthOf_0 : decode cL_lengthOf 0 = .ok (.aload_n 2, 1) := by decide +kernel
theorem dL_lengthOf_1 : decode cL_lengthOf 1 = .ok (.iconst 0, 1) := by decide +kernel
theorem dL_lengthOf_2 : decode cL_lengthOf 2 = .ok (.aload_n 0, 1) := by decide +kernel
theorem dL_lengthOf_3 : decode cL_lengthOf 3 = .ok (.iload_n 1, 1) := by decide +kernel
theorem dL_lengthOf_4 : decode cL_lengthOf 4 = .ok (.invokevirtual 58, 3) := by decide +kernel
theorem dL_lengthOf_7 : decode cL_lengthOf 7 = .ok (.i2l, 1) := by decide +kernel
theorem dL_lengthOf_8 : decode cL_lengthOf 8 = .ok (.lastore, 1) := by decide +kernel
theorem dL_lengthOf_9 : decode cL_lengthOf 9 = .ok (.goto 6, 3) := by decide +kernel
theorem dL_lengthOf_12 : decode cL_lengthOf 12 = .ok (.astore_n 3, 1) := by decide +kernel
theorem dL_lengthOf_13 : decode cL_lengthOf 13 = .ok (.iconst 1, 1) := by decide +kernel
theorem dL_lengthOf_14 : decode cL_lengthOf 14 = .ok (.ireturn, 1) := by decide +kernel
theorem dL_lengthOf_15 : decode cL_lengthOf 15 = .ok (.iconst 0, 1) := by decide +kernel
theorem dL_lengthOf_16 : decode cL_lengthOf 16 = .ok (.ireturn, 1) := by decide +kernel
set_option maxRecDepth 20000 in
theorem ggL_isDivided_X4_isDivided : GoodIn wsL_isDivided wsX4_isDivided := goodIn_ca (goodIn_r _ [6, 7, 8, 9, 5, 10, 11, 12, 13, 14, 15, 16, 17, 18, 19, 20, 21, 22, 23, 24, 25, 26, 27, 28, 29, 30, 31, 32, 33, 34, 35, 36, 37, 38, 39, 40, 41, 42, 43, 44, 45, 46, 47, 48, 49, 50, 51, 52, 53, 54, 55, 56, 57, 58, 59, 60, 61] (by decide +kernel) (by decide +kernel)) (goodIn_sub (fun _ h => List.mem_cons_of_mem _ (List.mem_append_right _ h)) (by decide +kernel))
set_option maxRecDepth 20000 in
theorem gL_isDivided_X4_isDivided : GoodIn wsL_isDivided (wsV RL 61 RX4 yX4_isDivided wsX4_isDivided) := goodIn_app (goodIn_of _ (by decide +kernel)) ggL_isDivided_X4_isDivided
theorem dL_isDivided_0 : decode cL_isDivided 0 = .ok (.aload_n 3, 1) := by decide +kernel
theorem dL_isDivided_1 : decode cL_isDivided 1 = .ok (.iconst 0, 1) := by decide +kernel
theorem dL_isDivided_2 : decode cL_isDivided 2 = .ok (.aload_n 0, 1) := by decide +kernel
theorem dL_isDivided_3 : decode cL_isDivided 3 = .ok (.iload_n 1, 1) := by decide +kernel
theorem dL_isDivided_4 : decode cL_isDivided 4 = .ok (.iload_n 2, 1) := by decide +kernel
theorem dL_isDivided_5 : decode cL_isDivided 5 = .ok (.invokevirtual 61, 3) := by decide +kernel
theorem dL_isDivided_8 : decode cL_isDivided 8 = .ok (.ifCond .eq 7, 3) := by decide +kernel
theorem dL_isDivided_11 : decode cL_isDivided 11 = .ok (.lconst 1, 1) := by decide +kernel
theorem dL_isDivided_12 : decode cL_isDivided 12 = .ok (.goto 4, 3) := by decide +kernel
theorem dL_isDivided_15 : decode cL_isDivided 15 = .ok (.lconst 0, 1) := by decide +kernel
theorem dL_isDivided_16 : decode cL_isDivided 16 = .ok (.lastore, 1) := by decide +kernel
theorem dL_isDivided_17 : decode cL_isDivided 17 = .ok (.goto 7, 3) := by decide +kernel
theorem dL_isDivided_20 : decode cL_isDivided 20 = .ok (.astore 4, 2) := by decide +kernel
theorem dL_isDivided_22 : decode cL_isDivided 22 = .ok (.iconst 1, 1) := by decide +kernel
theorem dL_isDivided_23 : decode cL_isDivided 23 = .ok (.ireturn, 1) := by decide +kernel
theorem dL_isDivided_24 : decode cL_isDivided 24 = .ok (.iconst 0, 1) := by decide +kernel
theorem dL_isDivided_25 : decode cL_isDivided 25 = .ok (.ireturn, 1) := by decide +kernel
set_option maxRecDepth 20000 in
theorem ggL_written_X4_written : GoodIn wsL_written wsX4_written := goodIn_ca (goodIn_r _ [6, 7, 8, 9, 5, 10, 11, 12, 13, 14, 15, 16, 17, 18, 19, 20, 21, 22, 23, 24, 25, 26, 27, 28, 29, 30, 31, 32, 33, 34, 35, 36, 37, 38, 39, 40, 41, 42, 43, 44, 45, 46, 47, 48, 49, 50, 51, 52, 53] (by decide +kernel) (by decide +kernel)) (goodIn_sub (fun _ h => List.mem_cons_of_mem _ (List.mem_append_right _ h)) (by decide +kernel))
set_option maxRecDepth 20000 in
theorem gL_written_X4_written : GoodIn wsL_written (wsV RL 65 RX4 yX4_written wsX4_written) := goodIn_app (goodIn_of _ (by decide +kernel)) ggL_written_X4_written
theorem dL_written_0 : decode cL_written 0 = .ok (.aload_n 2, 1) := by decide +kernel
theorem dL_written_1 : decode cL_written 1 = .ok (.iconst 0, 1) := by decide +kernel
theorem dL_written_2 : decode cL_written 2 = .ok (.aload_n 0, 1) := by decide +kernel
theorem dL_written_3 : decode cL_written 3 = .ok (.iload_n 1, 1) := by decide +kernel
theorem dL_written_4 : decode cL_written 4 = .ok (.invokevirtual 65, 3) := by decide +kernel
theorem dL_written_7 : decode cL_written 7 = .ok (.i2l, 1) := by decide +kernel
theorem dL_written_8 : decode cL_written 8 = .ok (.lastore, 1) := by decide +kernel
theorem dL_written_9 : decode cL_written 9 = .ok (.goto 6, 3) := by decide +kernel
theorem dL_written_12 : decode cL_written 12 = .ok (.astore_n 3, 1) := by decide +kernel
theorem dL_written_13 : decode cL_written 13 = .ok (.iconst 1, 1) := by decide +kernel
theorem dL_written_14 : decode cL_written 14 = .ok (.ireturn, 1) := by decide +kernel
theorem dL_written_15 : decode cL_written 15 = .ok (.iconst 0, 1) := by decide +kernel
theorem dL_written_16 : decode cL_written 16 = .ok (.ireturn, 1) := by decide +kernel
set_option maxRecDepth 20000 in
theorem ggL_writtenKey_X4_writtenKey : GoodIn wsL_writtenKey wsX4_writtenKey := goodIn_ca (goodIn_r _ [6, 7, 8, 9, 10, 11, 5, 12, 13, 14, 15, 16, 17, 18, 19, 20, 21, 22, 23, 24, 25, 26, 27, 28, 29, 30, 31, 32, 33, 34, 35, 36, 37, 38, 39, 40, 41, 42, 43, 44, 45, 46, 47, 48, 49, 50] (by decide +kernel) (by decide +kernel)) (goodIn_sub (fun _ h => List.mem_cons_of_mem _ (List.mem_append_right _ h)) (by decide +kernel))
set_option maxRecDepth 20000 in
theorem gL_writtenKey_X4_writtenKey : GoodIn wsL_writtenKey (wsV RL 68 RX4 yX4_writtenKey wsX4_writtenKey) := goodIn_app (goodIn_of _ (by decide +kernel)) ggL_writtenKey_X4_writtenKey
theorem dL_writtenKey_0 : decode cL_writtenKey 0 = .ok (.aload_n 3, 1) := by decide +kernel
theorem dL_writtenKey_1 : decode cL_writtenKey 1 = .ok (.iconst 0, 1) := by decide +kernel
theorem dL_writtenKey_2 : decode cL_writtenKey 2 = .ok (.aload_n 0, 1) := by decide +kernel
theorem dL_writtenKey_3 : decode cL_writtenKey 3 = .ok (.iload_n 1, 1) := by decide +kernel
theorem dL_writtenKey_4 : decode cL_writtenKey 4 = .ok (.iload_n 2, 1) := by decide +kernel
theorem dL_writtenKey_5 : decode cL_writtenKey 5 = .ok (.invokevirtual 68, 3) := by decide +kernel
theorem dL_writtenKey_8 : decode cL_writtenKey 8 = .ok (.i2l, 1) := by decide +kernel
theorem dL_writtenKey_9 : decode cL_writtenKey 9 = .ok (.lastore, 1) := by decide +kernel
theorem dL_writtenKey_10 : decode cL_writtenKey 10 = .ok (.goto 7, 3) := by decide +kernel
theorem dL_writtenKey_13 : decode cL_writtenKey 13 = .ok (.astore 4, 2) := by decide +kernel
theorem dL_writtenKey_15 : decode cL_writtenKey 15 = .ok (.iconst 1, 1) := by decide +kernel
theorem dL_writtenKey_16 : decode cL_writtenKey 16 = .ok (.ireturn, 1) := by decide +kernel
theorem dL_writtenKey_17 : decode cL_writtenKey 17 = .ok (.iconst 0, 1) := by decide +kernel
theorem dL_writtenKey_18 : decode cL_writtenKey 18 = .ok (.ireturn, 1) := by decide +kernel
set_option maxRecDepth 20000 in
theorem ggL_letterOf_X4_letterOf : GoodIn wsL_letterOf wsX4_letterOf := goodIn_ca (goodIn_r _ [6, 7, 8, 9, 5, 10, 11, 12, 13, 14, 15, 16, 17, 18, 19, 20, 21, 22, 23, 24, 25, 26, 27, 28, 29, 30, 31, 32, 33, 34, 35, 36, 37, 38, 39, 40, 41, 42, 43, 44, 45, 46, 47, 48, 49, 50, 51, 52, 53, 54, 55, 56, 57, 58, 59, 60, 61, 62, 63, 64, 65, 66, 67, 68, 69, 70, 71, 72, 73, 74, 75, 76, 77] (by decide +kernel) (by decide +kernel)) (goodIn_sub (fun _ h => List.mem_cons_of_mem _ (List.mem_append_right _ h)) (by decide +kernel))
set_option maxRecDepth 20000 in
theorem gL_letterOf_X4_letterOf : GoodIn wsL_letterOf (wsV RL 71 RX4 yX4_letterOf wsX4_letterOf) := goodIn_app (goodIn_of _ (by decide +kernel)) ggL_letterOf_X4_letterOf
theorem dL_letterOf_0 : decode cL_letterOf 0 = .ok (.aload_n 2, 1) := by decide +kernel
theorem dL_letterOf_1 : decode cL_letterOf 1 = .ok (.iconst 0, 1) := by decide +kernel
theorem dL_letterOf_2 : decode cL_letterOf 2 = .ok (.aload_n 0, 1) := by decide +kernel
theorem dL_letterOf_3 : decode cL_letterOf 3 = .ok (.iload_n 1, 1) := by decide +kernel
theorem dL_letterOf_4 : decode cL_letterOf 4 = .ok (.invokevirtual 71, 3) := by decide +kernel
theorem dL_letterOf_7 : decode cL_letterOf 7 = .ok (.i2l, 1) := by decide +kernel
theorem dL_letterOf_8 : decode cL_letterOf 8 = .ok (.lastore, 1) := by decide +kernel
theorem dL_letterOf_9 : decode cL_letterOf 9 = .ok (.goto 6, 3) := by decide +kernel
theorem dL_letterOf_12 : decode cL_letterOf 12 = .ok (.astore_n 3, 1) := by decide +kernel
theorem dL_letterOf_13 : decode cL_letterOf 13 = .ok (.iconst 1, 1) := by decide +kernel
theorem dL_letterOf_14 : decode cL_letterOf 14 = .ok (.ireturn, 1) := by decide +kernel
theorem dL_letterOf_15 : decode cL_letterOf 15 = .ok (.iconst 0, 1) := by decide +kernel
theorem dL_letterOf_16 : decode cL_letterOf 16 = .ok (.ireturn, 1) := by decide +kernel
set_option maxRecDepth 20000 in
theorem ggL_accidentalOf_X4_accidentalOf : GoodIn wsL_accidentalOf wsX4_accidentalOf := goodIn_ca (goodIn_r _ [6, 7, 8, 9, 5, 10, 11, 12, 13, 14, 15, 16, 17, 18, 19, 20, 21, 22, 23, 24, 25, 26, 27, 28, 29, 30, 31, 32, 33, 34, 35, 36, 37, 38, 39, 40, 41, 42, 43, 44, 45, 46, 47, 48, 49, 50, 51, 52, 53, 54, 55, 56, 57, 58, 59, 60, 61, 62, 63, 64, 65, 66, 67, 68, 69, 70, 71, 72, 73, 74, 75, 76, 77, 78, 79, 80] (by decide +kernel) (by decide +kernel)) (goodIn_sub (fun _ h => List.mem_cons_of_mem _ (List.mem_append_right _ h)) (by decide +kernel))
set_option maxRecDepth 20000 in
theorem gL_accidentalOf_X4_accidentalOf : GoodIn wsL_accidentalOf (wsV RL 75 RX4 yX4_accidentalOf wsX4_accidentalOf) := goodIn_app (goodIn_of _ (by decide +kernel)) ggL_accidentalOf_X4_accidentalOf
theorem dL_accidentalOf_0 : decode cL_accidentalOf 0 = .ok (.aload_n 2, 1) := by decide +kernel
theorem dL_accidentalOf_1 : decode cL_accidentalOf 1 = .ok (.iconst 0, 1) := by decide +kernel
theorem dL_accidentalOf_2 : decode cL_accidentalOf 2 = .ok (.aload_n 0, 1) := by decide +kernel
theorem dL_accidentalOf_3 : decode cL_accidentalOf 3 = .ok (.iload_n 1, 1) := by decide +kernel
theorem dL_accidentalOf_4 : decode cL_accidentalOf 4 = .ok (.invokevirtual 75, 3) := by decide +kernel
theorem dL_accidentalOf_7 : decode cL_accidentalOf 7 = .ok (.i2l, 1) := by decide +kernel
theorem dL_accidentalOf_8 : decode cL_accidentalOf 8 = .ok (.lastore, 1) := by decide +kernel
theorem dL_accidentalOf_9 : decode cL_accidentalOf 9 = .ok (.goto 6, 3) := by decide +kernel
theorem dL_accidentalOf_12 : decode cL_accidentalOf 12 = .ok (.astore_n 3, 1) := by decide +kernel
theorem dL_accidentalOf_13 : decode cL_accidentalOf 13 = .ok (.iconst 1, 1) := by decide +kernel
theorem dL_accidentalOf_14 : decode cL_accidentalOf 14 = .ok (.ireturn, 1) := by decide +kernel
theorem dL_accidentalOf_15 : decode cL_accidentalOf 15 = .ok (.iconst 0, 1) := by decide +kernel
theorem dL_accidentalOf_16 : decode cL_accidentalOf 16 = .ok (.ireturn, 1) := by decide +kernel
set_option maxRecDepth 20000 in
theorem ggL_rests_X4_rests : GoodIn wsL_rests wsX4_rests := goodIn_ca (goodIn_ca (goodIn_r _ [6, 7, 8, 9, 10, 5, 11, 12, 13, 14, 15, 16, 17, 18, 19, 20, 21, 22, 23, 24, 25, 26, 27, 28, 29, 30, 31, 32, 33, 34, 35, 36, 37, 38, 39, 40, 41, 42, 43, 44, 45, 46, 47, 48, 49, 50, 51, 52, 53, 54, 55, 56, 57, 58, 59, 60, 61, 62, 63, 64, 65, 66, 67, 68, 69, 70, 71, 72, 73, 74, 75, 76, 77, 78, 79, 80, 81, 82, 83, 84, 85, 86, 87, 88, 89, 90, 91, 92, 93, 94, 95, 96, 97, 98, 99, 100, 101, 102, 103, 104, 105, 106, 107, 108, 109, 110, 111, 112, 113, 114, 115, 116, 117, 118, 119] (by decide +kernel) (by decide +kernel)) (goodIn_sub (fun _ h => List.mem_cons_of_mem _ (List.mem_append_right _ h)) (by decide +kernel))) (goodIn_sub (fun _ h => List.mem_cons_of_mem _ (List.mem_append_left _ (List.mem_append_right _ h))) (by decide +kernel))
set_option maxRecDepth 20000 in
theorem gL_rests_X4_rests : GoodIn wsL_rests (wsV RL 78 RX4 yX4_rests wsX4_rests) := goodIn_app (goodIn_of _ (by decide +kernel)) ggL_rests_X4_rests
theorem dL_rests_0 : decode cL_rests 0 = .ok (.aload_n 2, 1) := by decide +kernel
theorem dL_rests_1 : decode cL_rests 1 = .ok (.iconst 0, 1) := by decide +kernel
theorem dL_rests_2 : decode cL_rests 2 = .ok (.aload_n 0, 1) := by decide +kernel
theorem dL_rests_3 : decode cL_rests 3 = .ok (.iload_n 1, 1) := by decide +kernel
theorem dL_rests_4 : decode cL_rests 4 = .ok (.invokevirtual 78, 3) := by decide +kernel
theorem dL_rests_7 : decode cL_rests 7 = .ok (.i2l, 1) := by decide +kernel
theorem dL_rests_8 : decode cL_rests 8 = .ok (.lastore, 1) := by decide +kernel
theorem dL_rests_9 : decode cL_rests 9 = .ok (.goto 6, 3) := by decide +kernel
theorem dL_rests_12 : decode cL_rests 12 = .ok (.astore_n 3, 1) := by decide +kernel
theorem dL_rests_13 : decode cL_rests 13 = .ok (.iconst 1, 1) := by decide +kernel
theorem dL_rests_14 : decode cL_rests 14 = .ok (.ireturn, 1) := by decide +kernel
theorem dL_rests_15 : decode cL_rests 15 = .ok (.iconst 0, 1) := by decide +kernel
theorem dL_rests_16 : decode cL_rests 16 = .ok (.ireturn, 1) := by decide +kernel
set_option maxRecDepth 20000 in
theorem ggL_restFirst_X4_restFirst : GoodIn wsL_restFirst wsX4_restFirst := goodIn_ca (goodIn_ca (goodIn_r _ [6, 7, 8, 9, 10, 5, 11, 12, 13, 14, 15, 16, 17, 18, 19, 20, 21, 22, 23, 24, 25, 26, 27, 28, 29, 30, 31, 32, 33, 34, 35, 36, 37, 38, 39, 40, 41, 42, 43, 44, 45, 46, 47, 48, 49, 50, 51, 52, 53, 54, 55, 56, 57, 58, 59, 60, 61, 62, 63, 64, 65, 66, 67, 68, 69, 70, 71, 72, 73, 74, 75, 76, 77, 78, 79, 80, 81, 82, 83, 84, 85, 86, 87, 88, 89, 90, 91, 92, 93, 94, 95, 96, 97, 98, 99, 100, 101, 102, 103, 104, 105, 106, 107, 108, 109, 110, 111, 112, 113, 114, 115, 116, 117, 118, 119, 120, 121, 122, 123, 124, 125, 126, 127] (by decide +kernel) (by decide +kernel)) (goodIn_sub (fun _ h => List.mem_cons_of_mem _ (List.mem_append_right _ h)) (by decide +kernel))) (goodIn_sub (fun _ h => List.mem_cons_of_mem _ (List.mem_append_left _ (List.mem_append_right _ h))) (by decide +kernel))
set_option maxRecDepth 20000 in
theorem gL_restFirst_X4_restFirst : GoodIn wsL_restFirst (wsV RL 81 RX4 yX4_restFirst wsX4_restFirst) := goodIn_app (goodIn_of _ (by decide +kernel)) ggL_restFirst_X4_restFirst
theorem dL_restFirst_0 : decode cL_restFirst 0 = .ok (.aload_n 3, 1) := by decide +kernel
theorem dL_restFirst_1 : decode cL_restFirst 1 = .ok (.iconst 0, 1) := by decide +kernel
theorem dL_restFirst_2 : decode cL_restFirst 2 = .ok (.aload_n 0, 1) := by decide +kernel
theorem dL_restFirst_3 : decode cL_restFirst 3 = .ok (.iload_n 1, 1) := by decide +kernel
theorem dL_restFirst_4 : decode cL_restFirst 4 = .ok (.iload_n 2, 1) := by decide +kernel
theorem dL_restFirst_5 : decode cL_restFirst 5 = .ok (.invokevirtual 81, 3) := by decide +kernel
theorem dL_restFirst_8 : decode cL_restFirst 8 = .ok (.i2l, 1) := by decide +kernel
theorem dL_restFirst_9 : decode cL_restFirst 9 = .ok (.lastore, 1) := by decide +kernel
theorem dL_restFirst_10 : decode cL_restFirst 10 = .ok (.goto 7, 3) := by decide +kernel
theorem dL_restFirst_13 : decode cL_restFirst 13 = .ok (.astore 4, 2) := by decide +kernel
theorem dL_restFirst_15 : decode cL_restFirst 15 = .ok (.iconst 1, 1) := by decide +kernel
theorem dL_restFirst_16 : decode cL_restFirst 16 = .ok (.ireturn, 1) := by decide +kernel
theorem dL_restFirst_17 : decode cL_restFirst 17 = .ok (.iconst 0, 1) := by decide +kernel
theorem dL_restFirst_18 : decode cL_restFirst 18 = .ok (.ireturn, 1) := by decide +kernel
set_option maxRecDepth 20000 in
theorem ggL_restBars_X4_restBars : GoodIn wsL_restBars wsX4_restBars := goodIn_ca (goodIn_ca (goodIn_r _ [6, 7, 8, 9, 10, 5, 11, 12, 13, 14, 15, 16, 17, 18, 19, 20, 21, 22, 23, 24, 25, 26, 27, 28, 29, 30, 31, 32, 33, 34, 35, 36, 37, 38, 39, 40, 41, 42, 43, 44, 45, 46, 47, 48, 49, 50, 51, 52, 53, 54, 55, 56, 57, 58, 59, 60, 61, 62, 63, 64, 65, 66, 67, 68, 69, 70, 71, 72, 73, 74, 75, 76, 77, 78, 79, 80, 81, 82, 83, 84, 85, 86, 87, 88, 89, 90, 91, 92, 93, 94, 95, 96, 97, 98, 99, 100, 101, 102, 103, 104, 105, 106, 107, 108, 109, 110, 111, 112, 113, 114, 115, 116, 117, 118, 119, 120, 121, 122, 123, 124, 125, 126, 127] (by decide +kernel) (by decide +kernel)) (goodIn_sub (fun _ h => List.mem_cons_of_mem _ (List.mem_append_right _ h)) (by decide +kernel))) (goodIn_sub (fun _ h => List.mem_cons_of_mem _ (List.mem_append_left _ (List.mem_append_right _ h))) (by decide +kernel))
set_option maxRecDepth 20000 in
theorem gL_restBars_X4_restBars : GoodIn wsL_restBars (wsV RL 84 RX4 yX4_restBars wsX4_restBars) := goodIn_app (goodIn_of _ (by decide +kernel)) ggL_restBars_X4_restBars
theorem dL_restBars_0 : decode cL_restBars 0 = .ok (.aload_n 3, 1) := by decide +kernel
theorem dL_restBars_1 : decode cL_restBars 1 = .ok (.iconst 0, 1) := by decide +kernel
theorem dL_restBars_2 : decode cL_restBars 2 = .ok (.aload_n 0, 1) := by decide +kernel
theorem dL_restBars_3 : decode cL_restBars 3 = .ok (.iload_n 1, 1) := by decide +kernel
theorem dL_restBars_4 : decode cL_restBars 4 = .ok (.iload_n 2, 1) := by decide +kernel
theorem dL_restBars_5 : decode cL_restBars 5 = .ok (.invokevirtual 84, 3) := by decide +kernel
theorem dL_restBars_8 : decode cL_restBars 8 = .ok (.i2l, 1) := by decide +kernel
theorem dL_restBars_9 : decode cL_restBars 9 = .ok (.lastore, 1) := by decide +kernel
theorem dL_restBars_10 : decode cL_restBars 10 = .ok (.goto 7, 3) := by decide +kernel
theorem dL_restBars_13 : decode cL_restBars 13 = .ok (.astore 4, 2) := by decide +kernel
theorem dL_restBars_15 : decode cL_restBars 15 = .ok (.iconst 1, 1) := by decide +kernel
theorem dL_restBars_16 : decode cL_restBars 16 = .ok (.ireturn, 1) := by decide +kernel
theorem dL_restBars_17 : decode cL_restBars 17 = .ok (.iconst 0, 1) := by decide +kernel
theorem dL_restBars_18 : decode cL_restBars 18 = .ok (.ireturn, 1) := by decide +kernel
set_option maxRecDepth 20000 in
theorem ggL_setPage_X4_setPage : GoodIn wsL_setPage wsX4_setPage := goodIn_ca (goodIn_r _ [6, 7, 8, 9, 10, 11, 12, 13, 14, 15, 16, 17, 18, 19] (by decide +kernel) (by decide +kernel)) (goodIn_sub (fun _ h => List.mem_cons_of_mem _ (List.mem_append_right _ h)) (by decide +kernel))
set_option maxRecDepth 20000 in
theorem gL_setPage_X4_setPage : GoodIn wsL_setPage (wsV RL 87 RX4 yX4_setPage wsX4_setPage) := goodIn_app (goodIn_of _ (by decide +kernel)) ggL_setPage_X4_setPage
theorem dL_setPage_0 : decode cL_setPage 0 = .ok (.aload_n 2, 1) := by decide +kernel
theorem dL_setPage_1 : decode cL_setPage 1 = .ok (.iconst 0, 1) := by decide +kernel
theorem dL_setPage_2 : decode cL_setPage 2 = .ok (.aload_n 0, 1) := by decide +kernel
theorem dL_setPage_3 : decode cL_setPage 3 = .ok (.iload_n 1, 1) := by decide +kernel
theorem dL_setPage_4 : decode cL_setPage 4 = .ok (.invokevirtual 87, 3) := by decide +kernel
theorem dL_setPage_7 : decode cL_setPage 7 = .ok (.i2l, 1) := by decide +kernel
theorem dL_setPage_8 : decode cL_setPage 8 = .ok (.lastore, 1) := by decide +kernel
theorem dL_setPage_9 : decode cL_setPage 9 = .ok (.goto 6, 3) := by decide +kernel
theorem dL_setPage_12 : decode cL_setPage 12 = .ok (.astore_n 3, 1) := by decide +kernel
theorem dL_setPage_13 : decode cL_setPage 13 = .ok (.iconst 1, 1) := by decide +kernel
theorem dL_setPage_14 : decode cL_setPage 14 = .ok (.ireturn, 1) := by decide +kernel
theorem dL_setPage_15 : decode cL_setPage 15 = .ok (.iconst 0, 1) := by decide +kernel
theorem dL_setPage_16 : decode cL_setPage 16 = .ok (.ireturn, 1) := by decide +kernel
set_option maxRecDepth 20000 in
theorem ggL_setTurn_X4_setTurn : GoodIn wsL_setTurn wsX4_setTurn := goodIn_ca (goodIn_r _ [6, 7, 8, 9, 10, 11, 12, 13, 14, 15, 16, 17, 18, 19] (by decide +kernel) (by decide +kernel)) (goodIn_sub (fun _ h => List.mem_cons_of_mem _ (List.mem_append_right _ h)) (by decide +kernel))
set_option maxRecDepth 20000 in
theorem gL_setTurn_X4_setTurn : GoodIn wsL_setTurn (wsV RL 90 RX4 yX4_setTurn wsX4_setTurn) := goodIn_app (goodIn_of _ (by decide +kernel)) ggL_setTurn_X4_setTurn
theorem dL_setTurn_0 : decode cL_setTurn 0 = .ok (.aload_n 2, 1) := by decide +kernel
theorem dL_setTurn_1 : decode cL_setTurn 1 = .ok (.iconst 0, 1) := by decide +kernel
theorem dL_setTurn_2 : decode cL_setTurn 2 = .ok (.aload_n 0, 1) := by decide +kernel
theorem dL_setTurn_3 : decode cL_setTurn 3 = .ok (.iload_n 1, 1) := by decide +kernel
theorem dL_setTurn_4 : decode cL_setTurn 4 = .ok (.invokevirtual 90, 3) := by decide +kernel
theorem dL_setTurn_7 : decode cL_setTurn 7 = .ok (.i2l, 1) := by decide +kernel
theorem dL_setTurn_8 : decode cL_setTurn 8 = .ok (.lastore, 1) := by decide +kernel
theorem dL_setTurn_9 : decode cL_setTurn 9 = .ok (.goto 6, 3) := by decide +kernel
theorem dL_setTurn_12 : decode cL_setTurn 12 = .ok (.astore_n 3, 1) := by decide +kernel
theorem dL_setTurn_13 : decode cL_setTurn 13 = .ok (.iconst 1, 1) := by decide +kernel
theorem dL_setTurn_14 : decode cL_setTurn 14 = .ok (.ireturn, 1) := by decide +kernel
theorem dL_setTurn_15 : decode cL_setTurn 15 = .ok (.iconst 0, 1) := by decide +kernel
theorem dL_setTurn_16 : decode cL_setTurn 16 = .ok (.ireturn, 1) := by decide +kernel
set_option maxRecDepth 20000 in
theorem ggL_setCue_X4_setCue : GoodIn wsL_setCue wsX4_setCue := goodIn_ca (goodIn_r _ [6, 7, 8, 9, 10, 11, 12, 13, 14, 15, 16, 17, 18, 19] (by decide +kernel) (by decide +kernel)) (goodIn_sub (fun _ h => List.mem_cons_of_mem _ (List.mem_append_right _ h)) (by decide +kernel))
set_option maxRecDepth 20000 in
theorem gL_setCue_X4_setCue : GoodIn wsL_setCue (wsV RL 93 RX4 yX4_setCue wsX4_setCue) := goodIn_app (goodIn_of _ (by decide +kernel)) ggL_setCue_X4_setCue
theorem dL_setCue_0 : decode cL_setCue 0 = .ok (.aload_n 2, 1) := by decide +kernel
theorem dL_setCue_1 : decode cL_setCue 1 = .ok (.iconst 0, 1) := by decide +kernel
theorem dL_setCue_2 : decode cL_setCue 2 = .ok (.aload_n 0, 1) := by decide +kernel
theorem dL_setCue_3 : decode cL_setCue 3 = .ok (.iload_n 1, 1) := by decide +kernel
theorem dL_setCue_4 : decode cL_setCue 4 = .ok (.invokevirtual 93, 3) := by decide +kernel
theorem dL_setCue_7 : decode cL_setCue 7 = .ok (.i2l, 1) := by decide +kernel
theorem dL_setCue_8 : decode cL_setCue 8 = .ok (.lastore, 1) := by decide +kernel
theorem dL_setCue_9 : decode cL_setCue 9 = .ok (.goto 6, 3) := by decide +kernel
theorem dL_setCue_12 : decode cL_setCue 12 = .ok (.astore_n 3, 1) := by decide +kernel
theorem dL_setCue_13 : decode cL_setCue 13 = .ok (.iconst 1, 1) := by decide +kernel
theorem dL_setCue_14 : decode cL_setCue 14 = .ok (.ireturn, 1) := by decide +kernel
theorem dL_setCue_15 : decode cL_setCue 15 = .ok (.iconst 0, 1) := by decide +kernel
theorem dL_setCue_16 : decode cL_setCue 16 = .ok (.ireturn, 1) := by decide +kernel
set_option maxRecDepth 20000 in
theorem ggL_hardTurns_X4_hardTurns : GoodIn wsL_hardTurns wsX4_hardTurns := goodIn_ca (goodIn_ca (goodIn_r _ [6, 7, 8, 9, 10, 5, 11, 12, 13, 14, 15, 16, 17, 18, 19, 20, 21, 22, 23, 24, 25, 26, 27, 28, 29, 30, 31, 32, 33, 34, 35, 36, 37, 38, 39, 40, 41, 42, 43, 44, 45, 46, 47, 48, 49, 50, 51, 52, 53, 54, 55, 56, 57, 58, 59, 60, 61, 62, 63, 64, 65, 66, 67, 68, 69, 70, 71, 72, 73, 74, 75, 76, 77, 78, 79, 80, 81, 82, 83, 84, 85, 86, 87, 88, 89, 90, 91, 92, 93, 94, 95, 96, 97, 98, 99, 100, 101, 102, 103, 104, 105, 106, 107, 108, 109, 110, 111, 112, 113, 114, 115, 116, 117, 118, 119, 120, 121, 122, 123, 124, 125, 126, 127, 128, 129, 130, 131, 132, 133, 134, 135] (by decide +kernel) (by decide +kernel)) (goodIn_sub (fun _ h => List.mem_cons_of_mem _ (List.mem_append_right _ h)) (by decide +kernel))) (goodIn_sub (fun _ h => List.mem_cons_of_mem _ (List.mem_append_left _ (List.mem_append_right _ h))) (by decide +kernel))
set_option maxRecDepth 20000 in
theorem gL_hardTurns_X4_hardTurns : GoodIn wsL_hardTurns (wsV RL 96 RX4 yX4_hardTurns wsX4_hardTurns) := goodIn_app (goodIn_of _ (by decide +kernel)) ggL_hardTurns_X4_hardTurns
theorem dL_hardTurns_0 : decode cL_hardTurns 0 = .ok (.aload_n 2, 1) := by decide +kernel
theorem dL_hardTurns_1 : decode cL_hardTurns 1 = .ok (.iconst 0, 1) := by decide +kernel
theorem dL_hardTurns_2 : decode cL_hardTurns 2 = .ok (.aload_n 0, 1) := by decide +kernel
theorem dL_hardTurns_3 : decode cL_hardTurns 3 = .ok (.iload_n 1, 1) := by decide +kernel
theorem dL_hardTurns_4 : decode cL_hardTurns 4 = .ok (.invokevirtual 96, 3) := by decide +kernel
theorem dL_hardTurns_7 : decode cL_hardTurns 7 = .ok (.i2l, 1) := by decide +kernel
theorem dL_hardTurns_8 : decode cL_hardTurns 8 = .ok (.lastore, 1) := by decide +kernel
theorem dL_hardTurns_9 : decode cL_hardTurns 9 = .ok (.goto 6, 3) := by decide +kernel
theorem dL_hardTurns_12 : decode cL_hardTurns 12 = .ok (.astore_n 3, 1) := by decide +kernel
theorem dL_hardTurns_13 : decode cL_hardTurns 13 = .ok (.iconst 1, 1) := by decide +kernel
theorem dL_hardTurns_14 : decode cL_hardTurns 14 = .ok (.ireturn, 1) := by decide +kernel
theorem dL_hardTurns_15 : decode cL_hardTurns 15 = .ok (.iconst 0, 1) := by decide +kernel
theorem dL_hardTurns_16 : decode cL_hardTurns 16 = .ok (.ireturn, 1) := by decide +kernel
set_option maxRecDepth 20000 in
theorem ggL_hardTurnsByTrying_X4_hardTurnsByTrying : GoodIn wsL_hardTurnsByTrying wsX4_hardTurnsByTrying := goodIn_ca (goodIn_ca (goodIn_r _ [6, 7, 8, 9, 10, 5, 11, 12, 13, 14, 15, 16, 17, 18, 19, 20, 21, 22, 23, 24, 25, 26, 27, 28, 29, 30, 31, 32, 33, 34, 35, 36, 37, 38, 39, 40, 41, 42, 43, 44, 45, 46, 47, 48, 49, 50, 51, 52, 53, 54, 55, 56, 57, 58, 59, 60, 61, 62, 63, 64, 65, 66, 67, 68, 69, 70, 71, 72, 73, 74, 75, 76, 77, 78, 79, 80, 81, 82, 83, 84, 85, 86, 87, 88, 89, 90, 91, 92, 93, 94, 95, 96, 97, 98, 99, 100, 101, 102, 103, 104, 105, 106, 107, 108, 109, 110, 111, 112, 113, 114, 115, 116, 117, 118, 119, 120, 121, 122, 123] (by decide +kernel) (by decide +kernel)) (goodIn_sub (fun _ h => List.mem_cons_of_mem _ (List.mem_append_right _ h)) (by decide +kernel))) (goodIn_sub (fun _ h => List.mem_cons_of_mem _ (List.mem_append_left _ (List.mem_append_right _ h))) (by decide +kernel))
set_option maxRecDepth 20000 in
theorem gL_hardTurnsByTrying_X4_hardTurnsByTrying : GoodIn wsL_hardTurnsByTrying (wsV RL 99 RX4 yX4_hardTurnsByTrying wsX4_hardTurnsByTrying) := goodIn_app (goodIn_of _ (by decide +kernel)) ggL_hardTurnsByTrying_X4_hardTurnsByTrying
theorem dL_hardTurnsByTrying_0 : decode cL_hardTurnsByTrying 0 = .ok (.aload_n 2, 1) := by decide +kernel
theorem dL_hardTurnsByTrying_1 : decode cL_hardTurnsByTrying 1 = .ok (.iconst 0, 1) := by decide +kernel
theorem dL_hardTurnsByTrying_2 : decode cL_hardTurnsByTrying 2 = .ok (.aload_n 0, 1) := by decide +kernel
theorem dL_hardTurnsByTrying_3 : decode cL_hardTurnsByTrying 3 = .ok (.iload_n 1, 1) := by decide +kernel
theorem dL_hardTurnsByTrying_4 : decode cL_hardTurnsByTrying 4 = .ok (.invokevirtual 99, 3) := by decide +kernel
theorem dL_hardTurnsByTrying_7 : decode cL_hardTurnsByTrying 7 = .ok (.i2l, 1) := by decide +kernel
theorem dL_hardTurnsByTrying_8 : decode cL_hardTurnsByTrying 8 = .ok (.lastore, 1) := by decide +kernel
theorem dL_hardTurnsByTrying_9 : decode cL_hardTurnsByTrying 9 = .ok (.goto 6, 3) := by decide +kernel
theorem dL_hardTurnsByTrying_12 : decode cL_hardTurnsByTrying 12 = .ok (.astore_n 3, 1) := by decide +kernel
theorem dL_hardTurnsByTrying_13 : decode cL_hardTurnsByTrying 13 = .ok (.iconst 1, 1) := by decide +kernel
theorem dL_hardTurnsByTrying_14 : decode cL_hardTurnsByTrying 14 = .ok (.ireturn, 1) := by decide +kernel
theorem dL_hardTurnsByTrying_15 : decode cL_hardTurnsByTrying 15 = .ok (.iconst 0, 1) := by decide +kernel
theorem dL_hardTurnsByTrying_16 : decode cL_hardTurnsByTrying 16 = .ok (.ireturn, 1) := by decide +kernel
set_option maxRecDepth 20000 in
theorem ggL_pages_X4_pages : GoodIn wsL_pages wsX4_pages := goodIn_ca (goodIn_ca (goodIn_r _ [6, 7, 8, 9, 10, 5, 11, 12, 13, 14, 15, 16, 17, 18, 19, 20, 21, 22, 23, 24, 25, 26, 27, 28, 29, 30, 31, 32, 33, 34, 35, 36, 37, 38, 39, 40, 41, 42, 43, 44, 45, 46, 47, 48, 49, 50, 51, 52, 53, 54, 55, 56, 57, 58, 59, 60, 61, 62, 63, 64, 65, 66, 67, 68, 69, 70, 71, 72, 73, 74, 75, 76, 77, 78, 79, 80, 81, 82, 83, 84, 85, 86, 87, 88, 89, 90, 91, 92, 93, 94, 95, 96, 97, 98, 99, 100, 101, 102, 103, 104, 105, 106, 107, 108, 109, 110, 111, 112, 113, 114, 115, 116, 117, 118, 119, 120, 121, 122, 123, 124, 125, 126, 127, 128, 129, 130, 131, 132, 133, 134, 135] (by decide +kernel) (by decide +kernel)) (goodIn_sub (fun _ h => List.mem_cons_of_mem _ (List.mem_append_right _ h)) (by decide +kernel))) (goodIn_sub (fun _ h => List.mem_cons_of_mem _ (List.mem_append_left _ (List.mem_append_right _ h))) (by decide +kernel))
set_option maxRecDepth 20000 in
theorem gL_pages_X4_pages : GoodIn wsL_pages (wsV RL 102 RX4 yX4_pages wsX4_pages) := goodIn_app (goodIn_of _ (by decide +kernel)) ggL_pages_X4_pages
theorem dL_pages_0 : decode cL_pages 0 = .ok (.aload_n 2, 1) := by decide +kernel
theorem dL_pages_1 : decode cL_pages 1 = .ok (.iconst 0, 1) := by decide +kernel
theorem dL_pages_2 : decode cL_pages 2 = .ok (.aload_n 0, 1) := by decide +kernel
theorem dL_pages_3 : decode cL_pages 3 = .ok (.iload_n 1, 1) := by decide +kernel
theorem dL_pages_4 : decode cL_pages 4 = .ok (.invokevirtual 102, 3) := by decide +kernel
theorem dL_pages_7 : decode cL_pages 7 = .ok (.i2l, 1) := by decide +kernel
theorem dL_pages_8 : decode cL_pages 8 = .ok (.lastore, 1) := by decide +kernel
theorem dL_pages_9 : decode cL_pages 9 = .ok (.goto 6, 3) := by decide +kernel
theorem dL_pages_12 : decode cL_pages 12 = .ok (.astore_n 3, 1) := by decide +kernel
theorem dL_pages_13 : decode cL_pages 13 = .ok (.iconst 1, 1) := by decide +kernel
theorem dL_pages_14 : decode cL_pages 14 = .ok (.ireturn, 1) := by decide +kernel
theorem dL_pages_15 : decode cL_pages 15 = .ok (.iconst 0, 1) := by decide +kernel
theorem dL_pages_16 : decode cL_pages 16 = .ok (.ireturn, 1) := by decide +kernel
set_option maxRecDepth 20000 in
theorem ggL_pageEnd_X4_pageEnd : GoodIn wsL_pageEnd wsX4_pageEnd := goodIn_ca (goodIn_ca (goodIn_ca (goodIn_r _ [7, 8, 9, 10, 11, 12, 13, 6, 14, 15, 16, 17, 18, 19, 20, 21, 22, 23, 24, 25, 26, 27, 28, 29, 30, 31, 32, 33, 34, 35, 36, 37, 38, 39, 40, 41, 42, 43, 44, 45, 46, 47, 48, 49, 50, 51, 52, 53, 54, 55, 56, 57, 58, 59, 60, 61, 62, 63, 64, 65, 66, 67, 68, 69, 70, 71, 72, 73, 74, 75, 76, 77, 78, 79, 80, 81, 82, 83, 84, 85, 86, 87, 88, 89, 90, 91, 92, 93, 94, 95, 96, 97, 98, 99, 100, 101, 102, 103, 104, 105, 106, 107, 108, 109, 110, 111, 112, 113, 114, 115, 116, 117, 118, 119, 120, 121, 122, 123, 124, 125, 126, 127, 128, 129, 130, 131, 132, 133, 134, 135, 136, 137, 138, 139, 140, 141, 142, 143, 144, 145, 146] (by decide +kernel) (by decide +kernel)) (goodIn_sub (fun _ h => List.mem_cons_of_mem _ (List.mem_append_left _ (List.mem_append_right _ h))) (by decide +kernel))) (goodIn_sub (fun _ h => List.mem_cons_of_mem _ (List.mem_append_right _ h)) (by decide +kernel))) (goodIn_sub (fun _ h => List.mem_cons_of_mem _ (List.mem_append_left _ (List.mem_append_left _ (List.mem_append_right _ h)))) (by decide +kernel))
set_option maxRecDepth 20000 in
theorem gL_pageEnd_X4_pageEnd : GoodIn wsL_pageEnd (wsV RL 105 RX4 yX4_pageEnd wsX4_pageEnd) := goodIn_app (goodIn_of _ (by decide +kernel)) ggL_pageEnd_X4_pageEnd
theorem dL_pageEnd_0 : decode cL_pageEnd 0 = .ok (.aload_n 3, 1) := by decide +kernel
theorem dL_pageEnd_1 : decode cL_pageEnd 1 = .ok (.iconst 0, 1) := by decide +kernel
theorem dL_pageEnd_2 : decode cL_pageEnd 2 = .ok (.aload_n 0, 1) := by decide +kernel
theorem dL_pageEnd_3 : decode cL_pageEnd 3 = .ok (.iload_n 1, 1) := by decide +kernel
theorem dL_pageEnd_4 : decode cL_pageEnd 4 = .ok (.iload_n 2, 1) := by decide +kernel
theorem dL_pageEnd_5 : decode cL_pageEnd 5 = .ok (.invokevirtual 105, 3) := by decide +kernel
theorem dL_pageEnd_8 : decode cL_pageEnd 8 = .ok (.i2l, 1) := by decide +kernel
theorem dL_pageEnd_9 : decode cL_pageEnd 9 = .ok (.lastore, 1) := by decide +kernel
theorem dL_pageEnd_10 : decode cL_pageEnd 10 = .ok (.goto 11, 3) := by decide +kernel
theorem dL_pageEnd_13 : decode cL_pageEnd 13 = .ok (.astore 4, 2) := by decide +kernel
theorem dL_pageEnd_15 : decode cL_pageEnd 15 = .ok (.iconst 1, 1) := by decide +kernel
theorem dL_pageEnd_16 : decode cL_pageEnd 16 = .ok (.ireturn, 1) := by decide +kernel
theorem dL_pageEnd_17 : decode cL_pageEnd 17 = .ok (.astore 4, 2) := by decide +kernel
theorem dL_pageEnd_19 : decode cL_pageEnd 19 = .ok (.iconst 2, 1) := by decide +kernel
theorem dL_pageEnd_20 : decode cL_pageEnd 20 = .ok (.ireturn, 1) := by decide +kernel
theorem dL_pageEnd_21 : decode cL_pageEnd 21 = .ok (.iconst 0, 1) := by decide +kernel
theorem dL_pageEnd_22 : decode cL_pageEnd 22 = .ok (.ireturn, 1) := by decide +kernel
set_option maxRecDepth 20000 in
theorem ggL_cuePart_X4_cuePart : GoodIn wsL_cuePart wsX4_cuePart := goodIn_ca (goodIn_ca (goodIn_ca (goodIn_r _ [7, 8, 9, 10, 6, 11, 12, 13, 14, 15, 16, 17, 18, 19, 20, 21, 22, 23, 24, 25, 26, 27, 28, 29, 30, 31, 32, 33, 34, 35, 36, 37, 38, 39, 40, 41, 42, 43, 44, 45, 46, 47, 48, 49, 50, 51, 52, 53, 54, 55, 56, 57, 58, 59, 60, 61, 62, 63, 64, 65, 66, 67, 68, 69, 70, 71, 72, 73, 74, 75, 76, 77, 78, 79, 80, 81, 82, 83, 84, 85, 86, 87, 88, 89, 90, 91, 92, 93, 94, 95, 96, 97, 98, 99, 100, 101, 102, 103, 104, 105, 106, 107, 108, 109, 110, 111, 112, 113, 114, 115, 116, 117, 118, 119, 120, 121, 122, 123, 124, 125, 126, 127, 128, 129, 130, 131, 132, 133, 134, 135, 136, 137, 138, 139, 140, 141, 142, 143, 144, 145, 146, 147, 148, 149] (by decide +kernel) (by decide +kernel)) (goodIn_sub (fun _ h => List.mem_cons_of_mem _ (List.mem_append_left _ (List.mem_append_right _ h))) (by decide +kernel))) (goodIn_sub (fun _ h => List.mem_cons_of_mem _ (List.mem_append_left _ (List.mem_append_left _ (List.mem_append_right _ h)))) (by decide +kernel))) (goodIn_sub (fun _ h => List.mem_cons_of_mem _ (List.mem_append_right _ h)) (by decide +kernel))
set_option maxRecDepth 20000 in
theorem gL_cuePart_X4_cuePart : GoodIn wsL_cuePart (wsV RL 108 RX4 yX4_cuePart wsX4_cuePart) := goodIn_app (goodIn_of _ (by decide +kernel)) ggL_cuePart_X4_cuePart
theorem dL_cuePart_0 : decode cL_cuePart 0 = .ok (.aload_n 3, 1) := by decide +kernel
theorem dL_cuePart_1 : decode cL_cuePart 1 = .ok (.iconst 0, 1) := by decide +kernel
theorem dL_cuePart_2 : decode cL_cuePart 2 = .ok (.aload_n 0, 1) := by decide +kernel
theorem dL_cuePart_3 : decode cL_cuePart 3 = .ok (.iload_n 1, 1) := by decide +kernel
theorem dL_cuePart_4 : decode cL_cuePart 4 = .ok (.iload_n 2, 1) := by decide +kernel
theorem dL_cuePart_5 : decode cL_cuePart 5 = .ok (.invokevirtual 108, 3) := by decide +kernel
theorem dL_cuePart_8 : decode cL_cuePart 8 = .ok (.i2l, 1) := by decide +kernel
theorem dL_cuePart_9 : decode cL_cuePart 9 = .ok (.lastore, 1) := by decide +kernel
theorem dL_cuePart_10 : decode cL_cuePart 10 = .ok (.goto 11, 3) := by decide +kernel
theorem dL_cuePart_13 : decode cL_cuePart 13 = .ok (.astore 4, 2) := by decide +kernel
theorem dL_cuePart_15 : decode cL_cuePart 15 = .ok (.iconst 1, 1) := by decide +kernel
theorem dL_cuePart_16 : decode cL_cuePart 16 = .ok (.ireturn, 1) := by decide +kernel
theorem dL_cuePart_17 : decode cL_cuePart 17 = .ok (.astore 4, 2) := by decide +kernel
theorem dL_cuePart_19 : decode cL_cuePart 19 = .ok (.iconst 2, 1) := by decide +kernel
theorem dL_cuePart_20 : decode cL_cuePart 20 = .ok (.ireturn, 1) := by decide +kernel
theorem dL_cuePart_21 : decode cL_cuePart 21 = .ok (.iconst 0, 1) := by decide +kernel
theorem dL_cuePart_22 : decode cL_cuePart 22 = .ok (.ireturn, 1) := by decide +kernel
set_option maxRecDepth 20000 in
theorem ggL_cuePitch_X4_cuePitch : GoodIn wsL_cuePitch wsX4_cuePitch := goodIn_ca (goodIn_ca (goodIn_ca (goodIn_ca (goodIn_r _ [8, 9, 10, 11, 12, 13, 14, 7, 15, 16, 17, 18, 19, 20, 21, 22, 23, 24, 25, 26, 27, 28, 29, 30, 31, 32, 33, 34, 35, 36, 37, 38, 39, 40, 41, 42, 43, 44, 45, 46, 47, 48, 49, 50, 51, 52, 53, 54, 55, 56, 57, 58, 59, 60, 61, 62, 63, 64, 65, 66, 67, 68, 69, 70, 71, 72, 73, 74, 75, 76, 77, 78, 79, 80, 81, 82, 83, 84, 85, 86, 87, 88, 89, 90, 91, 92, 93, 94, 95, 96, 97, 98, 99, 100, 101, 102, 103, 104, 105, 106, 107, 108, 109, 110, 111, 112, 113, 114, 115, 116, 117, 118, 119, 120, 121, 122, 123, 124, 125, 126, 127, 128, 129, 130, 131, 132, 133, 134, 135, 136, 137, 138, 139, 140, 141, 142, 143, 144, 145, 146, 147, 148, 149, 150, 151, 152, 153, 154, 155, 156, 157, 158, 159, 160, 161, 162, 163, 164, 165, 166, 167, 168, 169, 170, 171, 172, 173, 174, 175, 176, 177, 178, 179, 180, 181] (by decide +kernel) (by decide +kernel)) (goodIn_sub (fun _ h => List.mem_cons_of_mem _ (List.mem_append_left _ (List.mem_append_left _ (List.mem_append_right _ h)))) (by decide +kernel))) (goodIn_sub (fun _ h => List.mem_cons_of_mem _ (List.mem_append_left _ (List.mem_append_left _ (List.mem_append_left _ (List.mem_append_right _ h))))) (by decide +kernel))) (goodIn_sub (fun _ h => List.mem_cons_of_mem _ (List.mem_append_left _ (List.mem_append_right _ h))) (by decide +kernel))) (goodIn_sub (fun _ h => List.mem_cons_of_mem _ (List.mem_append_right _ h)) (by decide +kernel))
set_option maxRecDepth 20000 in
theorem gL_cuePitch_X4_cuePitch : GoodIn wsL_cuePitch (wsV RL 111 RX4 yX4_cuePitch wsX4_cuePitch) := goodIn_app (goodIn_of _ (by decide +kernel)) ggL_cuePitch_X4_cuePitch
theorem dL_cuePitch_0 : decode cL_cuePitch 0 = .ok (.aload 4, 2) := by decide +kernel
theorem dL_cuePitch_2 : decode cL_cuePitch 2 = .ok (.iconst 0, 1) := by decide +kernel
theorem dL_cuePitch_3 : decode cL_cuePitch 3 = .ok (.aload_n 0, 1) := by decide +kernel
theorem dL_cuePitch_4 : decode cL_cuePitch 4 = .ok (.iload_n 1, 1) := by decide +kernel
theorem dL_cuePitch_5 : decode cL_cuePitch 5 = .ok (.iload_n 2, 1) := by decide +kernel
theorem dL_cuePitch_6 : decode cL_cuePitch 6 = .ok (.iload_n 3, 1) := by decide +kernel
theorem dL_cuePitch_7 : decode cL_cuePitch 7 = .ok (.invokevirtual 111, 3) := by decide +kernel
theorem dL_cuePitch_10 : decode cL_cuePitch 10 = .ok (.i2l, 1) := by decide +kernel
theorem dL_cuePitch_11 : decode cL_cuePitch 11 = .ok (.lastore, 1) := by decide +kernel
theorem dL_cuePitch_12 : decode cL_cuePitch 12 = .ok (.goto 15, 3) := by decide +kernel
theorem dL_cuePitch_15 : decode cL_cuePitch 15 = .ok (.astore 5, 2) := by decide +kernel
theorem dL_cuePitch_17 : decode cL_cuePitch 17 = .ok (.iconst 1, 1) := by decide +kernel
theorem dL_cuePitch_18 : decode cL_cuePitch 18 = .ok (.ireturn, 1) := by decide +kernel
theorem dL_cuePitch_19 : decode cL_cuePitch 19 = .ok (.astore 5, 2) := by decide +kernel
theorem dL_cuePitch_21 : decode cL_cuePitch 21 = .ok (.iconst 2, 1) := by decide +kernel
theorem dL_cuePitch_22 : decode cL_cuePitch 22 = .ok (.ireturn, 1) := by decide +kernel
theorem dL_cuePitch_23 : decode cL_cuePitch 23 = .ok (.astore 5, 2) := by decide +kernel
theorem dL_cuePitch_25 : decode cL_cuePitch 25 = .ok (.iconst 3, 1) := by decide +kernel
theorem dL_cuePitch_26 : decode cL_cuePitch 26 = .ok (.ireturn, 1) := by decide +kernel
theorem dL_cuePitch_27 : decode cL_cuePitch 27 = .ok (.iconst 0, 1) := by decide +kernel
theorem dL_cuePitch_28 : decode cL_cuePitch 28 = .ok (.ireturn, 1) := by decide +kernel
set_option maxRecDepth 20000 in
theorem ggL_copyOut_X4_copyOut : GoodIn wsL_copyOut wsX4_copyOut := goodIn_ca (goodIn_r _ [6, 7, 8, 9, 10, 5, 11, 12, 13, 14, 15, 16, 17, 18, 19, 20, 21, 22, 23, 24, 25, 26, 27, 28, 29, 30, 31, 32, 33, 34, 35, 36, 37, 38, 39, 40, 41, 42, 43, 44, 45, 46, 47, 48, 49, 50, 51, 52, 53, 54, 55, 56, 57, 58, 59, 60, 61, 62, 63, 64] (by decide +kernel) (by decide +kernel)) (goodIn_sub (fun _ h => List.mem_cons_of_mem _ (List.mem_append_right _ h)) (by decide +kernel))
set_option maxRecDepth 20000 in
theorem gL_copyOut_X4_copyOut : GoodIn wsL_copyOut (wsV RL 114 RX4 yX4_copyOut wsX4_copyOut) := goodIn_app (goodIn_of _ (by decide +kernel)) ggL_copyOut_X4_copyOut
theorem dL_copyOut_0 : decode cL_copyOut 0 = .ok (.aload_n 2, 1) := by decide +kernel
theorem dL_copyOut_1 : decode cL_copyOut 1 = .ok (.iconst 0, 1) := by decide +kernel
theorem dL_copyOut_2 : decode cL_copyOut 2 = .ok (.aload_n 0, 1) := by decide +kernel
theorem dL_copyOut_3 : decode cL_copyOut 3 = .ok (.iload_n 1, 1) := by decide +kernel
theorem dL_copyOut_4 : decode cL_copyOut 4 = .ok (.invokevirtual 114, 3) := by decide +kernel
theorem dL_copyOut_7 : decode cL_copyOut 7 = .ok (.i2l, 1) := by decide +kernel
theorem dL_copyOut_8 : decode cL_copyOut 8 = .ok (.lastore, 1) := by decide +kernel
theorem dL_copyOut_9 : decode cL_copyOut 9 = .ok (.goto 6, 3) := by decide +kernel
theorem dL_copyOut_12 : decode cL_copyOut 12 = .ok (.astore_n 3, 1) := by decide +kernel
theorem dL_copyOut_13 : decode cL_copyOut 13 = .ok (.iconst 1, 1) := by decide +kernel
theorem dL_copyOut_14 : decode cL_copyOut 14 = .ok (.ireturn, 1) := by decide +kernel
theorem dL_copyOut_15 : decode cL_copyOut 15 = .ok (.iconst 0, 1) := by decide +kernel
theorem dL_copyOut_16 : decode cL_copyOut 16 = .ok (.ireturn, 1) := by decide +kernel
set_option maxRecDepth 20000 in
theorem ggL_carry_X4_carry : GoodIn wsL_carry wsX4_carry := goodIn_ca (goodIn_ca (goodIn_r _ [7, 8, 9, 10, 6, 11, 12, 13, 14, 15, 16, 17, 18, 19, 20, 21, 22, 23, 24, 25, 26, 27, 28, 29, 30, 31, 32, 33, 34, 35, 36, 37, 38, 39, 40, 41, 42, 43, 44, 45, 46, 47, 48, 49, 50, 51, 52, 53, 54, 55, 56, 57, 58, 59, 60, 61, 62, 63, 64, 65, 66, 67, 68, 69, 70, 71, 72, 73, 74, 75] (by decide +kernel) (by decide +kernel)) (goodIn_sub (fun _ h => List.mem_cons_of_mem _ (List.mem_append_left _ (List.mem_append_right _ h))) (by decide +kernel))) (goodIn_sub (fun _ h => List.mem_cons_of_mem _ (List.mem_append_right _ h)) (by decide +kernel))
set_option maxRecDepth 20000 in
theorem gL_carry_X4_carry : GoodIn wsL_carry (wsV RL 117 RX4 yX4_carry wsX4_carry) := goodIn_app (goodIn_of _ (by decide +kernel)) ggL_carry_X4_carry
theorem dL_carry_0 : decode cL_carry 0 = .ok (.aload_n 2, 1) := by decide +kernel
theorem dL_carry_1 : decode cL_carry 1 = .ok (.iconst 0, 1) := by decide +kernel
theorem dL_carry_2 : decode cL_carry 2 = .ok (.aload_n 0, 1) := by decide +kernel
theorem dL_carry_3 : decode cL_carry 3 = .ok (.iload_n 1, 1) := by decide +kernel
theorem dL_carry_4 : decode cL_carry 4 = .ok (.invokevirtual 117, 3) := by decide +kernel
theorem dL_carry_7 : decode cL_carry 7 = .ok (.i2l, 1) := by decide +kernel
theorem dL_carry_8 : decode cL_carry 8 = .ok (.lastore, 1) := by decide +kernel
theorem dL_carry_9 : decode cL_carry 9 = .ok (.goto 9, 3) := by decide +kernel
theorem dL_carry_12 : decode cL_carry 12 = .ok (.astore_n 3, 1) := by decide +kernel
theorem dL_carry_13 : decode cL_carry 13 = .ok (.iconst 1, 1) := by decide +kernel
theorem dL_carry_14 : decode cL_carry 14 = .ok (.ireturn, 1) := by decide +kernel
theorem dL_carry_15 : decode cL_carry 15 = .ok (.astore_n 3, 1) := by decide +kernel
theorem dL_carry_16 : decode cL_carry 16 = .ok (.iconst 2, 1) := by decide +kernel
theorem dL_carry_17 : decode cL_carry 17 = .ok (.ireturn, 1) := by decide +kernel
theorem dL_carry_18 : decode cL_carry 18 = .ok (.iconst 0, 1) := by decide +kernel
theorem dL_carry_19 : decode cL_carry 19 = .ok (.ireturn, 1) := by decide +kernel
set_option maxRecDepth 20000 in
theorem ggL_differences_X4_differences : GoodIn wsL_differences wsX4_differences := goodIn_ca (goodIn_ca (goodIn_r _ [7, 8, 9, 10, 6, 11, 12, 13, 14, 15, 16, 17, 18, 19, 20, 21, 22, 23, 24, 25, 26, 27, 28, 29, 30, 31, 32, 33, 34, 35, 36, 37, 38, 39, 40, 41, 42, 43, 44, 45, 46, 47, 48, 49, 50, 51, 52, 53, 54, 55, 56, 57, 58, 59, 60, 61, 62, 63, 64, 65, 66] (by decide +kernel) (by decide +kernel)) (goodIn_sub (fun _ h => List.mem_cons_of_mem _ (List.mem_append_left _ (List.mem_append_right _ h))) (by decide +kernel))) (goodIn_sub (fun _ h => List.mem_cons_of_mem _ (List.mem_append_right _ h)) (by decide +kernel))
set_option maxRecDepth 20000 in
theorem gL_differences_X4_differences : GoodIn wsL_differences (wsV RL 120 RX4 yX4_differences wsX4_differences) := goodIn_app (goodIn_of _ (by decide +kernel)) ggL_differences_X4_differences
theorem dL_differences_0 : decode cL_differences 0 = .ok (.aload_n 2, 1) := by decide +kernel
theorem dL_differences_1 : decode cL_differences 1 = .ok (.iconst 0, 1) := by decide +kernel
theorem dL_differences_2 : decode cL_differences 2 = .ok (.aload_n 0, 1) := by decide +kernel
theorem dL_differences_3 : decode cL_differences 3 = .ok (.iload_n 1, 1) := by decide +kernel
theorem dL_differences_4 : decode cL_differences 4 = .ok (.invokevirtual 120, 3) := by decide +kernel
theorem dL_differences_7 : decode cL_differences 7 = .ok (.i2l, 1) := by decide +kernel
theorem dL_differences_8 : decode cL_differences 8 = .ok (.lastore, 1) := by decide +kernel
theorem dL_differences_9 : decode cL_differences 9 = .ok (.goto 9, 3) := by decide +kernel
theorem dL_differences_12 : decode cL_differences 12 = .ok (.astore_n 3, 1) := by decide +kernel
theorem dL_differences_13 : decode cL_differences 13 = .ok (.iconst 1, 1) := by decide +kernel
theorem dL_differences_14 : decode cL_differences 14 = .ok (.ireturn, 1) := by decide +kernel
theorem dL_differences_15 : decode cL_differences 15 = .ok (.astore_n 3, 1) := by decide +kernel
theorem dL_differences_16 : decode cL_differences 16 = .ok (.iconst 2, 1) := by decide +kernel
theorem dL_differences_17 : decode cL_differences 17 = .ok (.ireturn, 1) := by decide +kernel
theorem dL_differences_18 : decode cL_differences 18 = .ok (.iconst 0, 1) := by decide +kernel
theorem dL_differences_19 : decode cL_differences 19 = .ok (.ireturn, 1) := by decide +kernel
set_option maxRecDepth 20000 in
theorem ggL_differencesByComparing_X4_differencesByComparing : GoodIn wsL_differencesByComparing wsX4_differencesByComparing := goodIn_ca (goodIn_ca (goodIn_r _ [7, 8, 9, 10, 6, 11, 12, 13, 14, 15, 16, 17, 18, 19, 20, 21, 22, 23, 24, 25, 26, 27, 28, 29, 30, 31, 32, 33, 34, 35, 36, 37, 38, 39, 40, 41, 42, 43, 44, 45, 46, 47, 48, 49, 50, 51, 52, 53, 54, 55, 56, 57, 58, 59, 60, 61, 62, 63, 64, 65] (by decide +kernel) (by decide +kernel)) (goodIn_sub (fun _ h => List.mem_cons_of_mem _ (List.mem_append_left _ (List.mem_append_right _ h))) (by decide +kernel))) (goodIn_sub (fun _ h => List.mem_cons_of_mem _ (List.mem_append_right _ h)) (by decide +kernel))
set_option maxRecDepth 20000 in
theorem gL_differencesByComparing_X4_differencesByComparing : GoodIn wsL_differencesByComparing (wsV RL 123 RX4 yX4_differencesByComparing wsX4_differencesByComparing) := goodIn_app (goodIn_of _ (by decide +kernel)) ggL_differencesByComparing_X4_differencesByComparing
theorem dL_differencesByComparing_0 : decode cL_differencesByComparing 0 = .ok (.aload_n 2, 1) := by decide +kernel
theorem dL_differencesByComparing_1 : decode cL_differencesByComparing 1 = .ok (.iconst 0, 1) := by decide +kernel
theorem dL_differencesByComparing_2 : decode cL_differencesByComparing 2 = .ok (.aload_n 0, 1) := by decide +kernel
theorem dL_differencesByComparing_3 : decode cL_differencesByComparing 3 = .ok (.iload_n 1, 1) := by decide +kernel
theorem dL_differencesByComparing_4 : decode cL_differencesByComparing 4 = .ok (.invokevirtual 123, 3) := by decide +kernel
theorem dL_differencesByComparing_7 : decode cL_differencesByComparing 7 = .ok (.i2l, 1) := by decide +kernel
theorem dL_differencesByComparing_8 : decode cL_differencesByComparing 8 = .ok (.lastore, 1) := by decide +kernel
theorem dL_differencesByComparing_9 : decode cL_differencesByComparing 9 = .ok (.goto 9, 3) := by decide +kernel
theorem dL_differencesByComparing_12 : decode cL_differencesByComparing 12 = .ok (.astore_n 3, 1) := by decide +kernel
theorem dL_differencesByComparing_13 : decode cL_differencesByComparing 13 = .ok (.iconst 1, 1) := by decide +kernel
theorem dL_differencesByComparing_14 : decode cL_differencesByComparing 14 = .ok (.ireturn, 1) := by decide +kernel
theorem dL_differencesByComparing_15 : decode cL_differencesByComparing 15 = .ok (.astore_n 3, 1) := by decide +kernel
theorem dL_differencesByComparing_16 : decode cL_differencesByComparing 16 = .ok (.iconst 2, 1) := by decide +kernel
theorem dL_differencesByComparing_17 : decode cL_differencesByComparing 17 = .ok (.ireturn, 1) := by decide +kernel
theorem dL_differencesByComparing_18 : decode cL_differencesByComparing 18 = .ok (.iconst 0, 1) := by decide +kernel
theorem dL_differencesByComparing_19 : decode cL_differencesByComparing 19 = .ok (.ireturn, 1) := by decide +kernel
set_option maxRecDepth 20000 in
theorem ggL_copied_X4_copied : GoodIn wsL_copied wsX4_copied := goodIn_ca (goodIn_ca (goodIn_r _ [7, 8, 9, 10, 11, 12, 13, 14, 15, 16, 17, 18, 19, 6, 20, 21, 22, 23, 24, 25, 26, 27, 28, 29, 30, 31, 32, 33, 34, 35, 36, 37, 38, 39, 40, 41, 42, 43, 44, 45, 46, 47, 48, 49] (by decide +kernel) (by decide +kernel)) (goodIn_sub (fun _ h => List.mem_cons_of_mem _ (List.mem_append_left _ (List.mem_append_right _ h))) (by decide +kernel))) (goodIn_sub (fun _ h => List.mem_cons_of_mem _ (List.mem_append_right _ h)) (by decide +kernel))
set_option maxRecDepth 20000 in
theorem gL_copied_X4_copied : GoodIn wsL_copied (wsV RL 126 RX4 yX4_copied wsX4_copied) := goodIn_app (goodIn_of _ (by decide +kernel)) ggL_copied_X4_copied
theorem dL_copied_0 : decode cL_copied 0 = .ok (.aload_n 2, 1) := by decide +kernel
theorem dL_copied_1 : decode cL_copied 1 = .ok (.iconst 0, 1) := by decide +kernel
theorem dL_copied_2 : decode cL_copied 2 = .ok (.aload_n 0, 1) := by decide +kernel
theorem dL_copied_3 : decode cL_copied 3 = .ok (.iload_n 1, 1) := by decide +kernel
theorem dL_copied_4 : decode cL_copied 4 = .ok (.invokevirtual 126, 3) := by decide +kernel
theorem dL_copied_7 : decode cL_copied 7 = .ok (.i2l, 1) := by decide +kernel
theorem dL_copied_8 : decode cL_copied 8 = .ok (.lastore, 1) := by decide +kernel
theorem dL_copied_9 : decode cL_copied 9 = .ok (.goto 9, 3) := by decide +kernel
theorem dL_copied_12 : decode cL_copied 12 = .ok (.astore_n 3, 1) := by decide +kernel
theorem dL_copied_13 : decode cL_copied 13 = .ok (.iconst 1, 1) := by decide +kernel
theorem dL_copied_14 : decode cL_copied 14 = .ok (.ireturn, 1) := by decide +kernel
theorem dL_copied_15 : decode cL_copied 15 = .ok (.astore_n 3, 1) := by decide +kernel
theorem dL_copied_16 : decode cL_copied 16 = .ok (.iconst 2, 1) := by decide +kernel
theorem dL_copied_17 : decode cL_copied 17 = .ok (.ireturn, 1) := by decide +kernel
theorem dL_copied_18 : decode cL_copied 18 = .ok (.iconst 0, 1) := by decide +kernel
