theorem dX7_init_0 : decode cX7_init 0 = .ok (.aload_n 0, 1) := by decide +kernel
theorem dX7_init_1 : decode cX7_init 1 = .ok (.invokespecial 1, 3) := by decide +kernel
theorem dX7_init_4 : decode cX7_init 4 = .ok (.aload_n 0, 1) := by decide +kernel
theorem dX7_init_5 : decode cX7_init 5 = .ok (.sipush 972, 3) := by decide +kernel
theorem dX7_init_8 : decode cX7_init 8 = .ok (.newarray .int, 2) := by decide +kernel
theorem dX7_init_10 : decode cX7_init 10 = .ok (.putfield 7, 3) := by decide +kernel
theorem dX7_init_13 : decode cX7_init 13 = .ok (.aload_n 0, 1) := by decide +kernel
theorem dX7_init_14 : decode cX7_init 14 = .ok (.iconst 4, 1) := by decide +kernel
theorem dX7_init_15 : decode cX7_init 15 = .ok (.newarray .int, 2) := by decide +kernel
theorem dX7_init_17 : decode cX7_init 17 = .ok (.putfield 13, 3) := by decide +kernel
theorem dX7_init_20 : decode cX7_init 20 = .ok (.aload_n 0, 1) := by decide +kernel
theorem dX7_init_21 : decode cX7_init 21 = .ok (.bipush 32, 2) := by decide +kernel
theorem dX7_init_23 : decode cX7_init 23 = .ok (.newarray .int, 2) := by decide +kernel
theorem dX7_init_25 : decode cX7_init 25 = .ok (.putfield 16, 3) := by decide +kernel
theorem dX7_init_28 : decode cX7_init 28 = .ok (.aload_n 0, 1) := by decide +kernel
theorem dX7_init_29 : decode cX7_init 29 = .ok (.bipush 32, 2) := by decide +kernel
theorem dX7_init_31 : decode cX7_init 31 = .ok (.newarray .int, 2) := by decide +kernel
theorem dX7_init_33 : decode cX7_init 33 = .ok (.putfield 19, 3) := by decide +kernel
theorem dX7_init_36 : decode cX7_init 36 = .ok (.aload_n 0, 1) := by decide +kernel
theorem dX7_init_37 : decode cX7_init 37 = .ok (.bipush 32, 2) := by decide +kernel
theorem dX7_init_39 : decode cX7_init 39 = .ok (.newarray .int, 2) := by decide +kernel
theorem dX7_init_41 : decode cX7_init 41 = .ok (.putfield 22, 3) := by decide +kernel
theorem dX7_init_44 : decode cX7_init 44 = .ok (.aload_n 0, 1) := by decide +kernel
theorem dX7_init_45 : decode cX7_init 45 = .ok (.bipush 24, 2) := by decide +kernel
theorem dX7_init_47 : decode cX7_init 47 = .ok (.newarray .boolean, 2) := by decide +kernel
theorem dX7_init_49 : decode cX7_init 49 = .ok (.putfield 25, 3) := by decide +kernel
theorem dX7_init_52 : decode cX7_init 52 = .ok (.aload_n 0, 1) := by decide +kernel
theorem dX7_init_53 : decode cX7_init 53 = .ok (.bipush 24, 2) := by decide +kernel
theorem dX7_init_55 : decode cX7_init 55 = .ok (.newarray .int, 2) := by decide +kernel
theorem dX7_init_57 : decode cX7_init 57 = .ok (.putfield 29, 3) := by decide +kernel
theorem dX7_init_60 : decode cX7_init 60 = .ok (.aload_n 0, 1) := by decide +kernel
theorem dX7_init_61 : decode cX7_init 61 = .ok (.bipush 24, 2) := by decide +kernel
theorem dX7_init_63 : decode cX7_init 63 = .ok (.newarray .int, 2) := by decide +kernel
theorem dX7_init_65 : decode cX7_init 65 = .ok (.putfield 32, 3) := by decide +kernel
theorem dX7_init_68 : decode cX7_init 68 = .ok (.aload_n 0, 1) := by decide +kernel
theorem dX7_init_69 : decode cX7_init 69 = .ok (.bipush 24, 2) := by decide +kernel
theorem dX7_init_71 : decode cX7_init 71 = .ok (.newarray .int, 2) := by decide +kernel
theorem dX7_init_73 : decode cX7_init 73 = .ok (.putfield 35, 3) := by decide +kernel
theorem dX7_init_76 : decode cX7_init 76 = .ok (.aload_n 0, 1) := by decide +kernel
theorem dX7_init_77 : decode cX7_init 77 = .ok (.sipush 1536, 3) := by decide +kernel
theorem dX7_init_80 : decode cX7_init 80 = .ok (.newarray .int, 2) := by decide +kernel
theorem dX7_init_82 : decode cX7_init 82 = .ok (.putfield 38, 3) := by decide +kernel
theorem dX7_init_85 : decode cX7_init 85 = .ok (.return_, 1) := by decide +kernel
theorem dX7_in_0 : decode cX7_in 0 = .ok (.iload_n 0, 1) := by decide +kernel
theorem dX7_in_1 : decode cX7_in 1 = .ok (.iload_n 1, 1) := by decide +kernel
theorem dX7_in_2 : decode cX7_in 2 = .ok (.if_icmp .lt 12, 3) := by decide +kernel
theorem dX7_in_5 : decode cX7_in 5 = .ok (.iload_n 0, 1) := by decide +kernel
theorem dX7_in_6 : decode cX7_in 6 = .ok (.iload_n 2, 1) := by decide +kernel
theorem dX7_in_7 : decode cX7_in 7 = .ok (.if_icmp .gt 7, 3) := by decide +kernel
theorem dX7_in_10 : decode cX7_in 10 = .ok (.iconst 1, 1) := by decide +kernel
theorem dX7_in_11 : decode cX7_in 11 = .ok (.goto 4, 3) := by decide +kernel
theorem dX7_in_14 : decode cX7_in 14 = .ok (.iconst 0, 1) := by decide +kernel
theorem dX7_in_15 : decode cX7_in 15 = .ok (.ireturn, 1) := by decide +kernel
set_option maxRecDepth 20000 in
theorem ggX7_isClass_X7_in : GoodIn wsX7_isClass wsX7_in := goodIn_r _ [5] (by decide +kernel) (by decide +kernel)
set_option maxRecDepth 20000 in
theorem gX7_isClass_X7_in : GoodIn wsX7_isClass (va_wsS RX7 45 yX7_in wsX7_in) := goodIn_app (goodIn_of _ (by decide +kernel)) ggX7_isClass_X7_in
theorem dX7_isClass_0 : decode cX7_isClass 0 = .ok (.iload_n 1, 1) := by decide +kernel
theorem dX7_isClass_1 : decode cX7_isClass 1 = .ok (.iconst 0, 1) := by decide +kernel
theorem dX7_isClass_2 : decode cX7_isClass 2 = .ok (.aload_n 0, 1) := by decide +kernel
theorem dX7_isClass_3 : decode cX7_isClass 3 = .ok (.getfield 41, 3) := by decide +kernel
theorem dX7_isClass_6 : decode cX7_isClass 6 = .ok (.iconst 1, 1) := by decide +kernel
theorem dX7_isClass_7 : decode cX7_isClass 7 = .ok (.isub, 1) := by decide +kernel
theorem dX7_isClass_8 : decode cX7_isClass 8 = .ok (.invokestatic 45, 3) := by decide +kernel
theorem dX7_isClass_11 : decode cX7_isClass 11 = .ok (.ireturn, 1) := by decide +kernel
theorem dX7_at_0 : decode cX7_at 0 = .ok (.sipush 162, 3) := by decide +kernel
theorem dX7_at_3 : decode cX7_at 3 = .ok (.iload_n 0, 1) := by decide +kernel
theorem dX7_at_4 : decode cX7_at 4 = .ok (.imul, 1) := by decide +kernel
theorem dX7_at_5 : decode cX7_at 5 = .ok (.iload_n 1, 1) := by decide +kernel
theorem dX7_at_6 : decode cX7_at 6 = .ok (.iadd, 1) := by decide +kernel
theorem dX7_at_7 : decode cX7_at 7 = .ok (.ireturn, 1) := by decide +kernel
set_option maxRecDepth 20000 in
theorem ggX7_of_X7_at : GoodIn wsX7_of wsX7_at := goodIn_r _ [5] (by decide +kernel) (by decide +kernel)
set_option maxRecDepth 20000 in
theorem gX7_of_X7_at : GoodIn wsX7_of (va_wsS RX7 49 yX7_at wsX7_at) := goodIn_app (goodIn_of _ (by decide +kernel)) ggX7_of_X7_at
theorem dX7_of_0 : decode cX7_of 0 = .ok (.aload_n 0, 1) := by decide +kernel
theorem dX7_of_1 : decode cX7_of 1 = .ok (.getfield 7, 3) := by decide +kernel
theorem dX7_of_4 : decode cX7_of 4 = .ok (.iload_n 1, 1) := by decide +kernel
theorem dX7_of_5 : decode cX7_of 5 = .ok (.iload_n 2, 1) := by decide +kernel
theorem dX7_of_6 : decode cX7_of 6 = .ok (.invokestatic 49, 3) := by decide +kernel
theorem dX7_of_9 : decode cX7_of 9 = .ok (.iaload, 1) := by decide +kernel
theorem dX7_of_10 : decode cX7_of 10 = .ok (.ireturn, 1) := by decide +kernel
set_option maxRecDepth 20000 in
theorem ggX7_current_X7_of : GoodIn wsX7_current wsX7_of := goodIn_r _ [5, 6, 7, 8, 4, 9, 10, 11, 12, 13, 14, 15, 16, 17, 18, 19, 20, 21] (by decide +kernel) (by decide +kernel)
set_option maxRecDepth 20000 in
theorem gX7_current_X7_of : GoodIn wsX7_current (wsV RX7 53 RX7 yX7_of wsX7_of) := goodIn_app (goodIn_of _ (by decide +kernel)) ggX7_current_X7_of
theorem dX7_current_0 : decode cX7_current 0 = .ok (.aload_n 0, 1) := by decide +kernel
theorem dX7_current_1 : decode cX7_current 1 = .ok (.iload_n 1, 1) := by decide +kernel
theorem dX7_current_2 : decode cX7_current 2 = .ok (.iconst 0, 1) := by decide +kernel
theorem dX7_current_3 : decode cX7_current 3 = .ok (.invokevirtual 53, 3) := by decide +kernel
theorem dX7_current_6 : decode cX7_current 6 = .ok (.iconst 1, 1) := by decide +kernel
theorem dX7_current_7 : decode cX7_current 7 = .ok (.isub, 1) := by decide +kernel
theorem dX7_current_8 : decode cX7_current 8 = .ok (.ireturn, 1) := by decide +kernel
set_option maxRecDepth 20000 in
theorem ggX7_addClass_X7_in : GoodIn wsX7_addClass wsX7_in := goodIn_r _ [8] (by decide +kernel) (by decide +kernel)
set_option maxRecDepth 20000 in
theorem gX7_addClass_X7_in : GoodIn wsX7_addClass (va_wsS RX7 45 yX7_in wsX7_in) := goodIn_app (goodIn_of _ (by decide +kernel)) ggX7_addClass_X7_in
set_option maxRecDepth 20000 in
theorem ggX7_addClass_X7_at : GoodIn wsX7_addClass wsX7_at := goodIn_r _ [11] (by decide +kernel) (by decide +kernel)
set_option maxRecDepth 20000 in
theorem gX7_addClass_X7_at : GoodIn wsX7_addClass (va_wsS RX7 49 yX7_at wsX7_at) := goodIn_app (goodIn_of _ (by decide +kernel)) ggX7_addClass_X7_at
theorem dX7_addClass_0 : decode cX7_addClass 0 = .ok (.iload_n 1, 1) := by decide +kernel
theorem dX7_addClass_1 : decode cX7_addClass 1 = .ok (.iconst 0, 1) := by decide +kernel
theorem dX7_addClass_2 : decode cX7_addClass 2 = .ok (.sipush 255, 3) := by decide +kernel
theorem dX7_addClass_5 : decode cX7_addClass 5 = .ok (.invokestatic 45, 3) := by decide +kernel
theorem dX7_addClass_8 : decode cX7_addClass 8 = .ok (.ifCond .ne 6, 3) := by decide +kernel
theorem dX7_addClass_11 : decode cX7_addClass 11 = .ok (.ldc 56, 2) := by decide +kernel
theorem dX7_addClass_13 : decode cX7_addClass 13 = .ok (.ireturn, 1) := by decide +kernel
theorem dX7_addClass_14 : decode cX7_addClass 14 = .ok (.aload_n 0, 1) := by decide +kernel
theorem dX7_addClass_15 : decode cX7_addClass 15 = .ok (.getfield 41, 3) := by decide +kernel
theorem dX7_addClass_18 : decode cX7_addClass 18 = .ok (.bipush 6, 2) := by decide +kernel
theorem dX7_addClass_20 : decode cX7_addClass 20 = .ok (.if_icmp .ne 6, 3) := by decide +kernel
theorem dX7_addClass_23 : decode cX7_addClass 23 = .ok (.ldc 57, 2) := by decide +kernel
theorem dX7_addClass_25 : decode cX7_addClass 25 = .ok (.ireturn, 1) := by decide +kernel
theorem dX7_addClass_26 : decode cX7_addClass 26 = .ok (.aload_n 0, 1) := by decide +kernel
theorem dX7_addClass_27 : decode cX7_addClass 27 = .ok (.getfield 7, 3) := by decide +kernel
theorem dX7_addClass_30 : decode cX7_addClass 30 = .ok (.aload_n 0, 1) := by decide +kernel
theorem dX7_addClass_31 : decode cX7_addClass 31 = .ok (.getfield 41, 3) := by decide +kernel
theorem dX7_addClass_34 : decode cX7_addClass 34 = .ok (.iconst 0, 1) := by decide +kernel
theorem dX7_addClass_35 : decode cX7_addClass 35 = .ok (.invokestatic 49, 3) := by decide +kernel
theorem dX7_addClass_38 : decode cX7_addClass 38 = .ok (.iconst 1, 1) := by decide +kernel
theorem dX7_addClass_39 : decode cX7_addClass 39 = .ok (.iastore, 1) := by decide +kernel
theorem dX7_addClass_40 : decode cX7_addClass 40 = .ok (.aload_n 0, 1) := by decide +kernel
theorem dX7_addClass_41 : decode cX7_addClass 41 = .ok (.getfield 7, 3) := by decide +kernel
theorem dX7_addClass_44 : decode cX7_addClass 44 = .ok (.aload_n 0, 1) := by decide +kernel
theorem dX7_addClass_45 : decode cX7_addClass 45 = .ok (.getfield 41, 3) := by decide +kernel
theorem dX7_addClass_48 : decode cX7_addClass 48 = .ok (.iconst 2, 1) := by decide +kernel
theorem dX7_addClass_49 : decode cX7_addClass 49 = .ok (.invokestatic 49, 3) := by decide +kernel
theorem dX7_addClass_52 : decode cX7_addClass 52 = .ok (.iload_n 1, 1) := by decide +kernel
theorem dX7_addClass_53 : decode cX7_addClass 53 = .ok (.iastore, 1) := by decide +kernel
theorem dX7_addClass_54 : decode cX7_addClass 54 = .ok (.aload_n 0, 1) := by decide +kernel
theorem dX7_addClass_55 : decode cX7_addClass 55 = .ok (.dup, 1) := by decide +kernel
theorem dX7_addClass_56 : decode cX7_addClass 56 = .ok (.getfield 41, 3) := by decide +kernel
theorem dX7_addClass_59 : decode cX7_addClass 59 = .ok (.iconst 1, 1) := by decide +kernel
theorem dX7_addClass_60 : decode cX7_addClass 60 = .ok (.iadd, 1) := by decide +kernel
theorem dX7_addClass_61 : decode cX7_addClass 61 = .ok (.putfield 41, 3) := by decide +kernel
theorem dX7_addClass_64 : decode cX7_addClass 64 = .ok (.aload_n 0, 1) := by decide +kernel
theorem dX7_addClass_65 : decode cX7_addClass 65 = .ok (.getfield 41, 3) := by decide +kernel
theorem dX7_addClass_68 : decode cX7_addClass 68 = .ok (.iconst 1, 1) := by decide +kernel
theorem dX7_addClass_69 : decode cX7_addClass 69 = .ok (.isub, 1) := by decide +kernel
theorem dX7_addClass_70 : decode cX7_addClass 70 = .ok (.ireturn, 1) := by decide +kernel
set_option maxRecDepth 20000 in
theorem ggX7_currentVersion_X7_isClass : GoodIn wsX7_currentVersion wsX7_isClass := goodIn_r _ [6, 7, 8, 9, 5, 10, 23, 24, 25, 26, 27, 28, 29, 30, 31, 32, 33, 34] (by decide +kernel) (by decide +kernel)
set_option maxRecDepth 20000 in
theorem gX7_currentVersion_X7_isClass : GoodIn wsX7_currentVersion (wsV RX7 58 RX7 yX7_isClass wsX7_isClass) := goodIn_app (goodIn_of _ (by decide +kernel)) ggX7_currentVersion_X7_isClass
set_option maxRecDepth 20000 in
theorem ggX7_currentVersion_X7_current : GoodIn wsX7_currentVersion wsX7_current := goodIn_r _ [14, 15, 16, 17, 5, 18, 19, 20, 21, 22, 23, 24, 25, 26, 27, 28, 29, 30, 31, 32, 33, 34] (by decide +kernel) (by decide +kernel)
set_option maxRecDepth 20000 in
theorem gX7_currentVersion_X7_current : GoodIn wsX7_currentVersion (wsV RX7 62 RX7 yX7_current wsX7_current) := goodIn_app (goodIn_of _ (by decide +kernel)) ggX7_currentVersion_X7_current
theorem dX7_currentVersion_0 : decode cX7_currentVersion 0 = .ok (.aload_n 0, 1) := by decide +kernel
theorem dX7_currentVersion_1 : decode cX7_currentVersion 1 = .ok (.iload_n 1, 1) := by decide +kernel
theorem dX7_currentVersion_2 : decode cX7_currentVersion 2 = .ok (.invokevirtual 58, 3) := by decide +kernel
theorem dX7_currentVersion_5 : decode cX7_currentVersion 5 = .ok (.ifCond .eq 11, 3) := by decide +kernel
theorem dX7_currentVersion_8 : decode cX7_currentVersion 8 = .ok (.aload_n 0, 1) := by decide +kernel
theorem dX7_currentVersion_9 : decode cX7_currentVersion 9 = .ok (.iload_n 1, 1) := by decide +kernel
theorem dX7_currentVersion_10 : decode cX7_currentVersion 10 = .ok (.invokevirtual 62, 3) := by decide +kernel
theorem dX7_currentVersion_13 : decode cX7_currentVersion 13 = .ok (.goto 5, 3) := by decide +kernel
theorem dX7_currentVersion_16 : decode cX7_currentVersion 16 = .ok (.ldc 66, 2) := by decide +kernel
theorem dX7_currentVersion_18 : decode cX7_currentVersion 18 = .ok (.ireturn, 1) := by decide +kernel
set_option maxRecDepth 20000 in
theorem ggX7_fields_X7_isClass : GoodIn wsX7_fields wsX7_isClass := goodIn_r _ [7, 8, 9, 10, 6, 11, 24, 25, 26, 27, 28, 29, 30, 31, 32, 33, 34, 35] (by decide +kernel) (by decide +kernel)
set_option maxRecDepth 20000 in
theorem gX7_fields_X7_isClass : GoodIn wsX7_fields (wsV RX7 58 RX7 yX7_isClass wsX7_isClass) := goodIn_app (goodIn_of _ (by decide +kernel)) ggX7_fields_X7_isClass
set_option maxRecDepth 20000 in
theorem ggX7_fields_X7_current : GoodIn wsX7_fields wsX7_current := goodIn_r _ [15, 16, 17, 18, 6, 19, 20, 21, 22, 23, 24, 25, 26, 27, 28, 29, 30, 31, 32, 33, 34, 35] (by decide +kernel) (by decide +kernel)
set_option maxRecDepth 20000 in
theorem gX7_fields_X7_current : GoodIn wsX7_fields (wsV RX7 62 RX7 yX7_current wsX7_current) := goodIn_app (goodIn_of _ (by decide +kernel)) ggX7_fields_X7_current
set_option maxRecDepth 20000 in
theorem ggX7_fields_X7_in : GoodIn wsX7_fields wsX7_in := goodIn_r _ [11] (by decide +kernel) (by decide +kernel)
set_option maxRecDepth 20000 in
theorem gX7_fields_X7_in : GoodIn wsX7_fields (va_wsS RX7 45 yX7_in wsX7_in) := goodIn_app (goodIn_of _ (by decide +kernel)) ggX7_fields_X7_in
set_option maxRecDepth 20000 in
theorem ggX7_fields_X7_of : GoodIn wsX7_fields wsX7_of := goodIn_r _ [19, 20, 21, 22, 6, 23, 24, 25, 26, 27, 28, 29, 30, 31, 32, 33, 34, 35] (by decide +kernel) (by decide +kernel)
set_option maxRecDepth 20000 in
theorem gX7_fields_X7_of : GoodIn wsX7_fields (wsV RX7 53 RX7 yX7_of wsX7_of) := goodIn_app (goodIn_of _ (by decide +kernel)) ggX7_fields_X7_of
theorem dX7_fields_0 : decode cX7_fields 0 = .ok (.aload_n 0, 1) := by decide +kernel
theorem dX7_fields_1 : decode cX7_fields 1 = .ok (.iload_n 1, 1) := by decide +kernel
theorem dX7_fields_2 : decode cX7_fields 2 = .ok (.invokevirtual 58, 3) := by decide +kernel
theorem dX7_fields_5 : decode cX7_fields 5 = .ok (.ifCond .ne 6, 3) := by decide +kernel
theorem dX7_fields_8 : decode cX7_fields 8 = .ok (.ldc 66, 2) := by decide +kernel
theorem dX7_fields_10 : decode cX7_fields 10 = .ok (.ireturn, 1) := by decide +kernel
theorem dX7_fields_11 : decode cX7_fields 11 = .ok (.iload_n 2, 1) := by decide +kernel
theorem dX7_fields_12 : decode cX7_fields 12 = .ok (.iconst 0, 1) := by decide +kernel
theorem dX7_fields_13 : decode cX7_fields 13 = .ok (.aload_n 0, 1) := by decide +kernel
theorem dX7_fields_14 : decode cX7_fields 14 = .ok (.iload_n 1, 1) := by decide +kernel
theorem dX7_fields_15 : decode cX7_fields 15 = .ok (.invokevirtual 62, 3) := by decide +kernel
theorem dX7_fields_18 : decode cX7_fields 18 = .ok (.invokestatic 45, 3) := by decide +kernel
theorem dX7_fields_21 : decode cX7_fields 21 = .ok (.ifCond .eq 14, 3) := by decide +kernel
theorem dX7_fields_24 : decode cX7_fields 24 = .ok (.aload_n 0, 1) := by decide +kernel
theorem dX7_fields_25 : decode cX7_fields 25 = .ok (.iload_n 1, 1) := by decide +kernel
theorem dX7_fields_26 : decode cX7_fields 26 = .ok (.iconst 2, 1) := by decide +kernel
theorem dX7_fields_27 : decode cX7_fields 27 = .ok (.iload_n 2, 1) := by decide +kernel
theorem dX7_fields_28 : decode cX7_fields 28 = .ok (.iadd, 1) := by decide +kernel
theorem dX7_fields_29 : decode cX7_fields 29 = .ok (.invokevirtual 53, 3) := by decide +kernel
theorem dX7_fields_32 : decode cX7_fields 32 = .ok (.goto 5, 3) := by decide +kernel
theorem dX7_fields_35 : decode cX7_fields 35 = .ok (.ldc 67, 2) := by decide +kernel
theorem dX7_fields_37 : decode cX7_fields 37 = .ok (.ireturn, 1) := by decide +kernel
set_option maxRecDepth 20000 in
theorem ggX7_stage_X7_isClass : GoodIn wsX7_stage wsX7_isClass := goodIn_r _ [9, 10, 11, 12, 8, 13, 21, 22, 23, 24, 25, 26, 27, 28, 29, 30, 31, 32] (by decide +kernel) (by decide +kernel)
set_option maxRecDepth 20000 in
theorem gX7_stage_X7_isClass : GoodIn wsX7_stage (wsV RX7 58 RX7 yX7_isClass wsX7_isClass) := goodIn_app (goodIn_of _ (by decide +kernel)) ggX7_stage_X7_isClass
set_option maxRecDepth 20000 in
theorem ggX7_stage_X7_of : GoodIn wsX7_stage wsX7_of := goodIn_r _ [17, 4, 18, 19, 8, 20, 21, 22, 23, 24, 25, 26, 27, 28, 29, 30, 31, 32] (by decide +kernel) (by decide +kernel)
set_option maxRecDepth 20000 in
theorem gX7_stage_X7_of : GoodIn wsX7_stage (wsV RX7 53 RX7 yX7_of wsX7_of) := goodIn_app (goodIn_of _ (by decide +kernel)) ggX7_stage_X7_of
set_option maxRecDepth 20000 in
theorem ggX7_stage_X7_at : GoodIn wsX7_stage wsX7_at := goodIn_r _ [20] (by decide +kernel) (by decide +kernel)
set_option maxRecDepth 20000 in
theorem gX7_stage_X7_at : GoodIn wsX7_stage (va_wsS RX7 49 yX7_at wsX7_at) := goodIn_app (goodIn_of _ (by decide +kernel)) ggX7_stage_X7_at
theorem dX7_stage_0 : decode cX7_stage 0 = .ok (.aload_n 0, 1) := by decide +kernel
theorem dX7_stage_1 : decode cX7_stage 1 = .ok (.iload_n 1, 1) := by decide +kernel
theorem dX7_stage_2 : decode cX7_stage 2 = .ok (.invokevirtual 58, 3) := by decide +kernel
theorem dX7_stage_5 : decode cX7_stage 5 = .ok (.ifCond .ne 6, 3) := by decide +kernel
theorem dX7_stage_8 : decode cX7_stage 8 = .ok (.ldc 66, 2) := by decide +kernel
theorem dX7_stage_10 : decode cX7_stage 10 = .ok (.ireturn, 1) := by decide +kernel
theorem dX7_stage_11 : decode cX7_stage 11 = .ok (.aload_n 0, 1) := by decide +kernel
theorem dX7_stage_12 : decode cX7_stage 12 = .ok (.iload_n 1, 1) := by decide +kernel
theorem dX7_stage_13 : decode cX7_stage 13 = .ok (.iconst 1, 1) := by decide +kernel
theorem dX7_stage_14 : decode cX7_stage 14 = .ok (.invokevirtual 53, 3) := by decide +kernel
theorem dX7_stage_17 : decode cX7_stage 17 = .ok (.iconst 1, 1) := by decide +kernel
theorem dX7_stage_18 : decode cX7_stage 18 = .ok (.if_icmp .ne 6, 3) := by decide +kernel
theorem dX7_stage_21 : decode cX7_stage 21 = .ok (.ldc 68, 2) := by decide +kernel
theorem dX7_stage_23 : decode cX7_stage 23 = .ok (.ireturn, 1) := by decide +kernel
theorem dX7_stage_24 : decode cX7_stage 24 = .ok (.aload_n 0, 1) := by decide +kernel
theorem dX7_stage_25 : decode cX7_stage 25 = .ok (.iload_n 1, 1) := by decide +kernel
theorem dX7_stage_26 : decode cX7_stage 26 = .ok (.iconst 0, 1) := by decide +kernel
theorem dX7_stage_27 : decode cX7_stage 27 = .ok (.invokevirtual 53, 3) := by decide +kernel
theorem dX7_stage_30 : decode cX7_stage 30 = .ok (.istore_n 2, 1) := by decide +kernel
theorem dX7_stage_31 : decode cX7_stage 31 = .ok (.iload_n 2, 1) := by decide +kernel
theorem dX7_stage_32 : decode cX7_stage 32 = .ok (.bipush 8, 2) := by decide +kernel
theorem dX7_stage_34 : decode cX7_stage 34 = .ok (.if_icmp .ne 6, 3) := by decide +kernel
theorem dX7_stage_37 : decode cX7_stage 37 = .ok (.ldc 57, 2) := by decide +kernel
theorem dX7_stage_39 : decode cX7_stage 39 = .ok (.ireturn, 1) := by decide +kernel
theorem dX7_stage_40 : decode cX7_stage 40 = .ok (.aload_n 0, 1) := by decide +kernel
theorem dX7_stage_41 : decode cX7_stage 41 = .ok (.getfield 7, 3) := by decide +kernel
theorem dX7_stage_44 : decode cX7_stage 44 = .ok (.iload_n 1, 1) := by decide +kernel
theorem dX7_stage_45 : decode cX7_stage 45 = .ok (.iconst 1, 1) := by decide +kernel
theorem dX7_stage_46 : decode cX7_stage 46 = .ok (.invokestatic 49, 3) := by decide +kernel
theorem dX7_stage_49 : decode cX7_stage 49 = .ok (.iconst 1, 1) := by decide +kernel
theorem dX7_stage_50 : decode cX7_stage 50 = .ok (.iastore, 1) := by decide +kernel
theorem dX7_stage_51 : decode cX7_stage 51 = .ok (.aload_n 0, 1) := by decide +kernel
theorem dX7_stage_52 : decode cX7_stage 52 = .ok (.getfield 7, 3) := by decide +kernel
theorem dX7_stage_55 : decode cX7_stage 55 = .ok (.iload_n 1, 1) := by decide +kernel
theorem dX7_stage_56 : decode cX7_stage 56 = .ok (.iconst 2, 1) := by decide +kernel
theorem dX7_stage_57 : decode cX7_stage 57 = .ok (.iload_n 2, 1) := by decide +kernel
theorem dX7_stage_58 : decode cX7_stage 58 = .ok (.iadd, 1) := by decide +kernel
theorem dX7_stage_59 : decode cX7_stage 59 = .ok (.invokestatic 49, 3) := by decide +kernel
theorem dX7_stage_62 : decode cX7_stage 62 = .ok (.aload_n 0, 1) := by decide +kernel
theorem dX7_stage_63 : decode cX7_stage 63 = .ok (.iload_n 1, 1) := by decide +kernel
theorem dX7_stage_64 : decode cX7_stage 64 = .ok (.iconst 2, 1) := by decide +kernel
theorem dX7_stage_65 : decode cX7_stage 65 = .ok (.iload_n 2, 1) := by decide +kernel
theorem dX7_stage_66 : decode cX7_stage 66 = .ok (.iadd, 1) := by decide +kernel
theorem dX7_stage_67 : decode cX7_stage 67 = .ok (.iconst 1, 1) := by decide +kernel
theorem dX7_stage_68 : decode cX7_stage 68 = .ok (.isub, 1) := by decide +kernel
theorem dX7_stage_69 : decode cX7_stage 69 = .ok (.invokevirtual 53, 3) := by decide +kernel
theorem dX7_stage_72 : decode cX7_stage 72 = .ok (.iastore, 1) := by decide +kernel
theorem dX7_stage_73 : decode cX7_stage 73 = .ok (.aload_n 0, 1) := by decide +kernel
theorem dX7_stage_74 : decode cX7_stage 74 = .ok (.getfield 7, 3) := by decide +kernel
theorem dX7_stage_77 : decode cX7_stage 77 = .ok (.iload_n 1, 1) := by decide +kernel
theorem dX7_stage_78 : decode cX7_stage 78 = .ok (.bipush 10, 2) := by decide +kernel
theorem dX7_stage_80 : decode cX7_stage 80 = .ok (.iload_n 2, 1) := by decide +kernel
theorem dX7_stage_81 : decode cX7_stage 81 = .ok (.iadd, 1) := by decide +kernel
theorem dX7_stage_82 : decode cX7_stage 82 = .ok (.invokestatic 49, 3) := by decide +kernel
theorem dX7_stage_85 : decode cX7_stage 85 = .ok (.iconst 0, 1) := by decide +kernel
theorem dX7_stage_86 : decode cX7_stage 86 = .ok (.iastore, 1) := by decide +kernel
theorem dX7_stage_87 : decode cX7_stage 87 = .ok (.iload_n 2, 1) := by decide +kernel
theorem dX7_stage_88 : decode cX7_stage 88 = .ok (.ireturn, 1) := by decide +kernel
set_option maxRecDepth 20000 in
theorem ggX7_wrongStage_X7_isClass : GoodIn wsX7_wrongStage wsX7_isClass := goodIn_r _ [7, 8, 9, 10, 6, 11, 20, 21, 22, 23, 24, 25, 26, 27, 28, 29, 30, 31] (by decide +kernel) (by decide +kernel)
set_option maxRecDepth 20000 in
theorem gX7_wrongStage_X7_isClass : GoodIn wsX7_wrongStage (wsV RX7 58 RX7 yX7_isClass wsX7_isClass) := goodIn_app (goodIn_of _ (by decide +kernel)) ggX7_wrongStage_X7_isClass
set_option maxRecDepth 20000 in
theorem ggX7_wrongStage_X7_of : GoodIn wsX7_wrongStage wsX7_of := goodIn_r _ [15, 16, 17, 18, 6, 19, 20, 21, 22, 23, 24, 25, 26, 27, 28, 29, 30, 31] (by decide +kernel) (by decide +kernel)
set_option maxRecDepth 20000 in
theorem gX7_wrongStage_X7_of : GoodIn wsX7_wrongStage (wsV RX7 53 RX7 yX7_of wsX7_of) := goodIn_app (goodIn_of _ (by decide +kernel)) ggX7_wrongStage_X7_of
theorem dX7_wrongStage_0 : decode cX7_wrongStage 0 = .ok (.aload_n 0, 1) := by decide +kernel
theorem dX7_wrongStage_1 : decode cX7_wrongStage 1 = .ok (.iload_n 1, 1) := by decide +kernel
theorem dX7_wrongStage_2 : decode cX7_wrongStage 2 = .ok (.invokevirtual 58, 3) := by decide +kernel
theorem dX7_wrongStage_5 : decode cX7_wrongStage 5 = .ok (.ifCond .ne 8, 3) := by decide +kernel
theorem dX7_wrongStage_8 : decode cX7_wrongStage 8 = .ok (.ldc 66, 2) := by decide +kernel
theorem dX7_wrongStage_10 : decode cX7_wrongStage 10 = .ok (.goto 18, 3) := by decide +kernel
theorem dX7_wrongStage_13 : decode cX7_wrongStage 13 = .ok (.aload_n 0, 1) := by decide +kernel
theorem dX7_wrongStage_14 : decode cX7_wrongStage 14 = .ok (.iload_n 1, 1) := by decide +kernel
theorem dX7_wrongStage_15 : decode cX7_wrongStage 15 = .ok (.iconst 1, 1) := by decide +kernel
theorem dX7_wrongStage_16 : decode cX7_wrongStage 16 = .ok (.invokevirtual 53, 3) := by decide +kernel
theorem dX7_wrongStage_19 : decode cX7_wrongStage 19 = .ok (.ifCond .ne 8, 3) := by decide +kernel
theorem dX7_wrongStage_22 : decode cX7_wrongStage 22 = .ok (.ldc 69, 2) := by decide +kernel
theorem dX7_wrongStage_24 : decode cX7_wrongStage 24 = .ok (.goto 4, 3) := by decide +kernel
theorem dX7_wrongStage_27 : decode cX7_wrongStage 27 = .ok (.iconst 0, 1) := by decide +kernel
theorem dX7_wrongStage_28 : decode cX7_wrongStage 28 = .ok (.ireturn, 1) := by decide +kernel
set_option maxRecDepth 20000 in
theorem ggX7_stagedNow_X7_of : GoodIn wsX7_stagedNow wsX7_of := goodIn_r _ [5, 6, 7, 8, 4, 9, 10, 11, 12, 13, 14, 15, 16, 17, 18, 19, 20, 21] (by decide +kernel) (by decide +kernel)
set_option maxRecDepth 20000 in
theorem gX7_stagedNow_X7_of : GoodIn wsX7_stagedNow (wsV RX7 53 RX7 yX7_of wsX7_of) := goodIn_app (goodIn_of _ (by decide +kernel)) ggX7_stagedNow_X7_of
theorem dX7_stagedNow_0 : decode cX7_stagedNow 0 = .ok (.aload_n 0, 1) := by decide +kernel
theorem dX7_stagedNow_1 : decode cX7_stagedNow 1 = .ok (.iload_n 1, 1) := by decide +kernel
theorem dX7_stagedNow_2 : decode cX7_stagedNow 2 = .ok (.iconst 2, 1) := by decide +kernel
theorem dX7_stagedNow_3 : decode cX7_stagedNow 3 = .ok (.aload_n 0, 1) := by decide +kernel
theorem dX7_stagedNow_4 : decode cX7_stagedNow 4 = .ok (.iload_n 1, 1) := by decide +kernel
theorem dX7_stagedNow_5 : decode cX7_stagedNow 5 = .ok (.iconst 0, 1) := by decide +kernel
theorem dX7_stagedNow_6 : decode cX7_stagedNow 6 = .ok (.invokevirtual 53, 3) := by decide +kernel
theorem dX7_stagedNow_9 : decode cX7_stagedNow 9 = .ok (.iadd, 1) := by decide +kernel
theorem dX7_stagedNow_10 : decode cX7_stagedNow 10 = .ok (.invokevirtual 53, 3) := by decide +kernel
theorem dX7_stagedNow_13 : decode cX7_stagedNow 13 = .ok (.ireturn, 1) := by decide +kernel
set_option maxRecDepth 20000 in
theorem ggX7_has_X7_in : GoodIn wsX7_has wsX7_in := goodIn_r _ [4] (by decide +kernel) (by decide +kernel)
set_option maxRecDepth 20000 in
theorem gX7_has_X7_in : GoodIn wsX7_has (va_wsS RX7 45 yX7_in wsX7_in) := goodIn_app (goodIn_of _ (by decide +kernel)) ggX7_has_X7_in
theorem dX7_has_0 : decode cX7_has 0 = .ok (.iload_n 1, 1) := by decide +kernel
theorem dX7_has_1 : decode cX7_has 1 = .ok (.iconst 0, 1) := by decide +kernel
theorem dX7_has_2 : decode cX7_has 2 = .ok (.bipush 7, 2) := by decide +kernel
theorem dX7_has_4 : decode cX7_has 4 = .ok (.invokestatic 45, 3) := by decide +kernel
theorem dX7_has_7 : decode cX7_has 7 = .ok (.ifCond .eq 16, 3) := by decide +kernel
theorem dX7_has_10 : decode cX7_has 10 = .ok (.iload_n 0, 1) := by decide +kernel
theorem dX7_has_11 : decode cX7_has 11 = .ok (.iload_n 1, 1) := by decide +kernel
theorem dX7_has_12 : decode cX7_has 12 = .ok (.ishr, 1) := by decide +kernel
theorem dX7_has_13 : decode cX7_has 13 = .ok (.iconst 1, 1) := by decide +kernel
theorem dX7_has_14 : decode cX7_has 14 = .ok (.iand, 1) := by decide +kernel
theorem dX7_has_15 : decode cX7_has 15 = .ok (.iconst 1, 1) := by decide +kernel
theorem dX7_has_16 : decode cX7_has 16 = .ok (.if_icmp .ne 7, 3) := by decide +kernel
theorem dX7_has_19 : decode cX7_has 19 = .ok (.iconst 1, 1) := by decide +kernel
theorem dX7_has_20 : decode cX7_has 20 = .ok (.goto 4, 3) := by decide +kernel
theorem dX7_has_23 : decode cX7_has 23 = .ok (.iconst 0, 1) := by decide +kernel
theorem dX7_has_24 : decode cX7_has 24 = .ok (.ireturn, 1) := by decide +kernel
set_option maxRecDepth 20000 in
theorem ggX7_stagedFields_X7_wrongStage : GoodIn wsX7_stagedFields wsX7_wrongStage := goodIn_r _ [5, 6, 7, 8, 9, 10, 4, 11, 12, 13, 14, 15, 16, 17, 18, 19, 20, 21, 22, 23, 28, 29, 30, 31, 32, 33, 34, 35, 36, 37, 38, 39] (by decide +kernel) (by decide +kernel)
set_option maxRecDepth 20000 in
theorem gX7_stagedFields_X7_wrongStage : GoodIn wsX7_stagedFields (wsV RX7 70 RX7 yX7_wrongStage wsX7_wrongStage) := goodIn_app (goodIn_of _ (by decide +kernel)) ggX7_stagedFields_X7_wrongStage
set_option maxRecDepth 20000 in
theorem ggX7_stagedFields_X7_stagedNow : GoodIn wsX7_stagedFields wsX7_stagedNow := goodIn_r _ [27, 16, 17, 18, 4, 19, 20, 21, 22, 23, 28, 29, 30, 31, 32, 33, 34, 35, 36, 37, 38, 39] (by decide +kernel) (by decide +kernel)
set_option maxRecDepth 20000 in
theorem gX7_stagedFields_X7_stagedNow : GoodIn wsX7_stagedFields (wsV RX7 73 RX7 yX7_stagedNow wsX7_stagedNow) := goodIn_app (goodIn_of _ (by decide +kernel)) ggX7_stagedFields_X7_stagedNow
theorem dX7_stagedFields_0 : decode cX7_stagedFields 0 = .ok (.aload_n 0, 1) := by decide +kernel
theorem dX7_stagedFields_1 : decode cX7_stagedFields 1 = .ok (.iload_n 1, 1) := by decide +kernel
theorem dX7_stagedFields_2 : decode cX7_stagedFields 2 = .ok (.invokevirtual 70, 3) := by decide +kernel
theorem dX7_stagedFields_5 : decode cX7_stagedFields 5 = .ok (.istore_n 2, 1) := by decide +kernel
theorem dX7_stagedFields_6 : decode cX7_stagedFields 6 = .ok (.iload_n 2, 1) := by decide +kernel
theorem dX7_stagedFields_7 : decode cX7_stagedFields 7 = .ok (.ifCond .eq 7, 3) := by decide +kernel
theorem dX7_stagedFields_10 : decode cX7_stagedFields 10 = .ok (.iload_n 2, 1) := by decide +kernel
theorem dX7_stagedFields_11 : decode cX7_stagedFields 11 = .ok (.goto 8, 3) := by decide +kernel
theorem dX7_stagedFields_14 : decode cX7_stagedFields 14 = .ok (.aload_n 0, 1) := by decide +kernel
theorem dX7_stagedFields_15 : decode cX7_stagedFields 15 = .ok (.iload_n 1, 1) := by decide +kernel
theorem dX7_stagedFields_16 : decode cX7_stagedFields 16 = .ok (.invokevirtual 73, 3) := by decide +kernel
theorem dX7_stagedFields_19 : decode cX7_stagedFields 19 = .ok (.ireturn, 1) := by decide +kernel
set_option maxRecDepth 20000 in
theorem ggX7_append_X7_of : GoodIn wsX7_append wsX7_of := goodIn_r _ [7, 2, 8, 9, 6, 10, 11, 12, 13, 14, 15, 16, 17, 18, 19, 20, 21, 22] (by decide +kernel) (by decide +kernel)
set_option maxRecDepth 20000 in
theorem gX7_append_X7_of : GoodIn wsX7_append (wsV RX7 53 RX7 yX7_of wsX7_of) := goodIn_app (goodIn_of _ (by decide +kernel)) ggX7_append_X7_of
set_option maxRecDepth 20000 in
theorem ggX7_append_X7_at : GoodIn wsX7_append wsX7_at := goodIn_r _ [10] (by decide +kernel) (by decide +kernel)
set_option maxRecDepth 20000 in
theorem gX7_append_X7_at : GoodIn wsX7_append (va_wsS RX7 49 yX7_at wsX7_at) := goodIn_app (goodIn_of _ (by decide +kernel)) ggX7_append_X7_at
theorem dX7_append_0 : decode cX7_append 0 = .ok (.aload_n 0, 1) := by decide +kernel
theorem dX7_append_1 : decode cX7_append 1 = .ok (.iload_n 1, 1) := by decide +kernel
theorem dX7_append_2 : decode cX7_append 2 = .ok (.iconst 0, 1) := by decide +kernel
theorem dX7_append_3 : decode cX7_append 3 = .ok (.invokevirtual 53, 3) := by decide +kernel
theorem dX7_append_6 : decode cX7_append 6 = .ok (.istore 6, 2) := by decide +kernel
theorem dX7_append_8 : decode cX7_append 8 = .ok (.aload_n 0, 1) := by decide +kernel
theorem dX7_append_9 : decode cX7_append 9 = .ok (.iload_n 1, 1) := by decide +kernel
theorem dX7_append_10 : decode cX7_append 10 = .ok (.bipush 10, 2) := by decide +kernel
theorem dX7_append_12 : decode cX7_append 12 = .ok (.iload 6, 2) := by decide +kernel
theorem dX7_append_14 : decode cX7_append 14 = .ok (.iadd, 1) := by decide +kernel
theorem dX7_append_15 : decode cX7_append 15 = .ok (.invokevirtual 53, 3) := by decide +kernel
theorem dX7_append_18 : decode cX7_append 18 = .ok (.istore 7, 2) := by decide +kernel
theorem dX7_append_20 : decode cX7_append 20 = .ok (.iload 7, 2) := by decide +kernel
theorem dX7_append_22 : decode cX7_append 22 = .ok (.bipush 6, 2) := by decide +kernel
theorem dX7_append_24 : decode cX7_append 24 = .ok (.if_icmp .ne 6, 3) := by decide +kernel
theorem dX7_append_27 : decode cX7_append 27 = .ok (.ldc 57, 2) := by decide +kernel
theorem dX7_append_29 : decode cX7_append 29 = .ok (.ireturn, 1) := by decide +kernel
theorem dX7_append_30 : decode cX7_append 30 = .ok (.iload_n 1, 1) := by decide +kernel
theorem dX7_append_31 : decode cX7_append 31 = .ok (.bipush 18, 2) := by decide +kernel
theorem dX7_append_33 : decode cX7_append 33 = .ok (.bipush 18, 2) := by decide +kernel
theorem dX7_append_35 : decode cX7_append 35 = .ok (.iload 6, 2) := by decide +kernel
theorem dX7_append_37 : decode cX7_append 37 = .ok (.imul, 1) := by decide +kernel
theorem dX7_append_38 : decode cX7_append 38 = .ok (.iadd, 1) := by decide +kernel
theorem dX7_append_39 : decode cX7_append 39 = .ok (.iconst 3, 1) := by decide +kernel
theorem dX7_append_40 : decode cX7_append 40 = .ok (.iload 7, 2) := by decide +kernel
theorem dX7_append_42 : decode cX7_append 42 = .ok (.imul, 1) := by decide +kernel
theorem dX7_append_43 : decode cX7_append 43 = .ok (.iadd, 1) := by decide +kernel
theorem dX7_append_44 : decode cX7_append 44 = .ok (.invokestatic 49, 3) := by decide +kernel
theorem dX7_append_47 : decode cX7_append 47 = .ok (.istore 8, 2) := by decide +kernel
theorem dX7_append_49 : decode cX7_append 49 = .ok (.aload_n 0, 1) := by decide +kernel
theorem dX7_append_50 : decode cX7_append 50 = .ok (.getfield 7, 3) := by decide +kernel
theorem dX7_append_53 : decode cX7_append 53 = .ok (.iload 8, 2) := by decide +kernel
theorem dX7_append_55 : decode cX7_append 55 = .ok (.iload_n 2, 1) := by decide +kernel
theorem dX7_append_56 : decode cX7_append 56 = .ok (.iastore, 1) := by decide +kernel
theorem dX7_append_57 : decode cX7_append 57 = .ok (.aload_n 0, 1) := by decide +kernel
theorem dX7_append_58 : decode cX7_append 58 = .ok (.getfield 7, 3) := by decide +kernel
theorem dX7_append_61 : decode cX7_append 61 = .ok (.iload 8, 2) := by decide +kernel
theorem dX7_append_63 : decode cX7_append 63 = .ok (.iconst 1, 1) := by decide +kernel
theorem dX7_append_64 : decode cX7_append 64 = .ok (.iadd, 1) := by decide +kernel
theorem dX7_append_65 : decode cX7_append 65 = .ok (.iload_n 3, 1) := by decide +kernel
theorem dX7_append_66 : decode cX7_append 66 = .ok (.iastore, 1) := by decide +kernel
theorem dX7_append_67 : decode cX7_append 67 = .ok (.aload_n 0, 1) := by decide +kernel
theorem dX7_append_68 : decode cX7_append 68 = .ok (.getfield 7, 3) := by decide +kernel
theorem dX7_append_71 : decode cX7_append 71 = .ok (.iload 8, 2) := by decide +kernel
theorem dX7_append_73 : decode cX7_append 73 = .ok (.iconst 2, 1) := by decide +kernel
theorem dX7_append_74 : decode cX7_append 74 = .ok (.iadd, 1) := by decide +kernel
theorem dX7_append_75 : decode cX7_append 75 = .ok (.iload 4, 2) := by decide +kernel
theorem dX7_append_77 : decode cX7_append 77 = .ok (.iastore, 1) := by decide +kernel
theorem dX7_append_78 : decode cX7_append 78 = .ok (.aload_n 0, 1) := by decide +kernel
theorem dX7_append_79 : decode cX7_append 79 = .ok (.getfield 7, 3) := by decide +kernel
theorem dX7_append_82 : decode cX7_append 82 = .ok (.iload_n 1, 1) := by decide +kernel
theorem dX7_append_83 : decode cX7_append 83 = .ok (.bipush 10, 2) := by decide +kernel
theorem dX7_append_85 : decode cX7_append 85 = .ok (.iload 6, 2) := by decide +kernel
theorem dX7_append_87 : decode cX7_append 87 = .ok (.iadd, 1) := by decide +kernel
theorem dX7_append_88 : decode cX7_append 88 = .ok (.invokestatic 49, 3) := by decide +kernel
theorem dX7_append_91 : decode cX7_append 91 = .ok (.dup2, 1) := by decide +kernel
theorem dX7_append_92 : decode cX7_append 92 = .ok (.iaload, 1) := by decide +kernel
theorem dX7_append_93 : decode cX7_append 93 = .ok (.iconst 1, 1) := by decide +kernel
theorem dX7_append_94 : decode cX7_append 94 = .ok (.iadd, 1) := by decide +kernel
theorem dX7_append_95 : decode cX7_append 95 = .ok (.iastore, 1) := by decide +kernel
theorem dX7_append_96 : decode cX7_append 96 = .ok (.aload_n 0, 1) := by decide +kernel
theorem dX7_append_97 : decode cX7_append 97 = .ok (.getfield 7, 3) := by decide +kernel
theorem dX7_append_100 : decode cX7_append 100 = .ok (.iload_n 1, 1) := by decide +kernel
theorem dX7_append_101 : decode cX7_append 101 = .ok (.iconst 2, 1) := by decide +kernel
theorem dX7_append_102 : decode cX7_append 102 = .ok (.iload 6, 2) := by decide +kernel
theorem dX7_append_104 : decode cX7_append 104 = .ok (.iadd, 1) := by decide +kernel
theorem dX7_append_105 : decode cX7_append 105 = .ok (.invokestatic 49, 3) := by decide +kernel
theorem dX7_append_108 : decode cX7_append 108 = .ok (.iload 5, 2) := by decide +kernel
theorem dX7_append_110 : decode cX7_append 110 = .ok (.iastore, 1) := by decide +kernel
theorem dX7_append_111 : decode cX7_append 111 = .ok (.iload 7, 2) := by decide +kernel
theorem dX7_append_113 : decode cX7_append 113 = .ok (.iconst 1, 1) := by decide +kernel
theorem dX7_append_114 : decode cX7_append 114 = .ok (.iadd, 1) := by decide +kernel
theorem dX7_append_115 : decode cX7_append 115 = .ok (.ireturn, 1) := by decide +kernel
set_option maxRecDepth 20000 in
theorem ggX7_addField_X7_wrongStage : GoodIn wsX7_addField wsX7_wrongStage := goodIn_r _ [9, 10, 11, 12, 13, 14, 8, 15, 16, 17, 18, 19, 20, 21, 22, 23, 24, 25, 26, 27, 40, 41, 42, 43, 44, 45, 46, 47, 48, 49, 50, 51] (by decide +kernel) (by decide +kernel)
set_option maxRecDepth 20000 in
theorem gX7_addField_X7_wrongStage : GoodIn wsX7_addField (wsV RX7 70 RX7 yX7_wrongStage wsX7_wrongStage) := goodIn_app (goodIn_of _ (by decide +kernel)) ggX7_addField_X7_wrongStage
set_option maxRecDepth 20000 in
theorem ggX7_addField_X7_in : GoodIn wsX7_addField wsX7_in := goodIn_r _ [19] (by decide +kernel) (by decide +kernel)
set_option maxRecDepth 20000 in
theorem gX7_addField_X7_in : GoodIn wsX7_addField (va_wsS RX7 45 yX7_in wsX7_in) := goodIn_app (goodIn_of _ (by decide +kernel)) ggX7_addField_X7_in
set_option maxRecDepth 20000 in
theorem ggX7_addField_X7_stagedNow : GoodIn wsX7_addField wsX7_stagedNow := goodIn_r _ [31, 20, 21, 22, 8, 23, 24, 25, 26, 27, 40, 41, 42, 43, 44, 45, 46, 47, 48, 49, 50, 51] (by decide +kernel) (by decide +kernel)
set_option maxRecDepth 20000 in
theorem gX7_addField_X7_stagedNow : GoodIn wsX7_addField (wsV RX7 73 RX7 yX7_stagedNow wsX7_stagedNow) := goodIn_app (goodIn_of _ (by decide +kernel)) ggX7_addField_X7_stagedNow
set_option maxRecDepth 20000 in
theorem ggX7_addField_X7_has : GoodIn wsX7_addField wsX7_has := goodIn_r _ [34, 17, 18, 8, 19] (by decide +kernel) (by decide +kernel)
set_option maxRecDepth 20000 in
theorem gX7_addField_X7_has : GoodIn wsX7_addField (va_wsS RX7 78 yX7_has wsX7_has) := goodIn_app (goodIn_of _ (by decide +kernel)) ggX7_addField_X7_has
set_option maxRecDepth 20000 in
theorem ggX7_addField_X7_append : GoodIn wsX7_addField wsX7_append := goodIn_r _ [38, 39, 24, 20, 21, 22, 8, 23, 25, 26, 27, 40, 41, 42, 43, 44, 45, 46, 47, 48, 49, 50, 51] (by decide +kernel) (by decide +kernel)
set_option maxRecDepth 20000 in
theorem gX7_addField_X7_append : GoodIn wsX7_addField (wsV RX7 82 RX7 yX7_append wsX7_append) := goodIn_app (goodIn_of _ (by decide +kernel)) ggX7_addField_X7_append
theorem dX7_addField_0 : decode cX7_addField 0 = .ok (.aload_n 0, 1) := by decide +kernel
theorem dX7_addField_1 : decode cX7_addField 1 = .ok (.iload_n 1, 1) := by decide +kernel
theorem dX7_addField_2 : decode cX7_addField 2 = .ok (.invokevirtual 70, 3) := by decide +kernel
theorem dX7_addField_5 : decode cX7_addField 5 = .ok (.istore 4, 2) := by decide +kernel
theorem dX7_addField_7 : decode cX7_addField 7 = .ok (.iload 4, 2) := by decide +kernel
theorem dX7_addField_9 : decode cX7_addField 9 = .ok (.ifCond .eq 6, 3) := by decide +kernel
theorem dX7_addField_12 : decode cX7_addField 12 = .ok (.iload 4, 2) := by decide +kernel
theorem dX7_addField_14 : decode cX7_addField 14 = .ok (.ireturn, 1) := by decide +kernel
theorem dX7_addField_15 : decode cX7_addField 15 = .ok (.iload_n 2, 1) := by decide +kernel
theorem dX7_addField_16 : decode cX7_addField 16 = .ok (.iconst 0, 1) := by decide +kernel
theorem dX7_addField_17 : decode cX7_addField 17 = .ok (.bipush 7, 2) := by decide +kernel
theorem dX7_addField_19 : decode cX7_addField 19 = .ok (.invokestatic 45, 3) := by decide +kernel
theorem dX7_addField_22 : decode cX7_addField 22 = .ok (.ifCond .eq 14, 3) := by decide +kernel
theorem dX7_addField_25 : decode cX7_addField 25 = .ok (.iload_n 3, 1) := by decide +kernel
theorem dX7_addField_26 : decode cX7_addField 26 = .ok (.ldc 76, 2) := by decide +kernel
theorem dX7_addField_28 : decode cX7_addField 28 = .ok (.ldc 77, 2) := by decide +kernel
theorem dX7_addField_30 : decode cX7_addField 30 = .ok (.invokestatic 45, 3) := by decide +kernel
theorem dX7_addField_33 : decode cX7_addField 33 = .ok (.ifCond .ne 6, 3) := by decide +kernel
theorem dX7_addField_36 : decode cX7_addField 36 = .ok (.ldc 56, 2) := by decide +kernel
theorem dX7_addField_38 : decode cX7_addField 38 = .ok (.ireturn, 1) := by decide +kernel
theorem dX7_addField_39 : decode cX7_addField 39 = .ok (.aload_n 0, 1) := by decide +kernel
theorem dX7_addField_40 : decode cX7_addField 40 = .ok (.iload_n 1, 1) := by decide +kernel
theorem dX7_addField_41 : decode cX7_addField 41 = .ok (.invokevirtual 73, 3) := by decide +kernel
theorem dX7_addField_44 : decode cX7_addField 44 = .ok (.istore 5, 2) := by decide +kernel
theorem dX7_addField_46 : decode cX7_addField 46 = .ok (.iload 5, 2) := by decide +kernel
theorem dX7_addField_48 : decode cX7_addField 48 = .ok (.iload_n 2, 1) := by decide +kernel
theorem dX7_addField_49 : decode cX7_addField 49 = .ok (.invokestatic 78, 3) := by decide +kernel
theorem dX7_addField_52 : decode cX7_addField 52 = .ok (.ifCond .eq 8, 3) := by decide +kernel
theorem dX7_addField_55 : decode cX7_addField 55 = .ok (.ldc 68, 2) := by decide +kernel
theorem dX7_addField_57 : decode cX7_addField 57 = .ok (.goto 17, 3) := by decide +kernel
theorem dX7_addField_60 : decode cX7_addField 60 = .ok (.aload_n 0, 1) := by decide +kernel
theorem dX7_addField_61 : decode cX7_addField 61 = .ok (.iload_n 1, 1) := by decide +kernel
theorem dX7_addField_62 : decode cX7_addField 62 = .ok (.iconst 0, 1) := by decide +kernel
theorem dX7_addField_63 : decode cX7_addField 63 = .ok (.iload_n 2, 1) := by decide +kernel
theorem dX7_addField_64 : decode cX7_addField 64 = .ok (.iload_n 3, 1) := by decide +kernel
theorem dX7_addField_65 : decode cX7_addField 65 = .ok (.iload 5, 2) := by decide +kernel
theorem dX7_addField_67 : decode cX7_addField 67 = .ok (.iconst 1, 1) := by decide +kernel
theorem dX7_addField_68 : decode cX7_addField 68 = .ok (.iload_n 2, 1) := by decide +kernel
theorem dX7_addField_69 : decode cX7_addField 69 = .ok (.ishl, 1) := by decide +kernel
theorem dX7_addField_70 : decode cX7_addField 70 = .ok (.ior, 1) := by decide +kernel
theorem dX7_addField_71 : decode cX7_addField 71 = .ok (.invokevirtual 82, 3) := by decide +kernel
theorem dX7_addField_74 : decode cX7_addField 74 = .ok (.ireturn, 1) := by decide +kernel
set_option maxRecDepth 20000 in
theorem ggX7_dropField_X7_wrongStage : GoodIn wsX7_dropField wsX7_wrongStage := goodIn_r _ [6, 7, 8, 9, 10, 11, 5, 12, 13, 14, 15, 16, 17, 18, 19, 20, 21, 22, 23, 24, 37, 38, 39, 40, 41, 42, 43, 44, 45, 46, 47, 48] (by decide +kernel) (by decide +kernel)
set_option maxRecDepth 20000 in
theorem gX7_dropField_X7_wrongStage : GoodIn wsX7_dropField (wsV RX7 70 RX7 yX7_wrongStage wsX7_wrongStage) := goodIn_app (goodIn_of _ (by decide +kernel)) ggX7_dropField_X7_wrongStage
set_option maxRecDepth 20000 in
theorem ggX7_dropField_X7_stagedNow : GoodIn wsX7_dropField wsX7_stagedNow := goodIn_r _ [28, 17, 18, 19, 5, 20, 21, 22, 23, 24, 37, 38, 39, 40, 41, 42, 43, 44, 45, 46, 47, 48] (by decide +kernel) (by decide +kernel)
set_option maxRecDepth 20000 in
theorem gX7_dropField_X7_stagedNow : GoodIn wsX7_dropField (wsV RX7 73 RX7 yX7_stagedNow wsX7_stagedNow) := goodIn_app (goodIn_of _ (by decide +kernel)) ggX7_dropField_X7_stagedNow
set_option maxRecDepth 20000 in
theorem ggX7_dropField_X7_has : GoodIn wsX7_dropField wsX7_has := goodIn_r _ [31, 14, 15, 5, 16] (by decide +kernel) (by decide +kernel)
set_option maxRecDepth 20000 in
theorem gX7_dropField_X7_has : GoodIn wsX7_dropField (va_wsS RX7 78 yX7_has wsX7_has) := goodIn_app (goodIn_of _ (by decide +kernel)) ggX7_dropField_X7_has
set_option maxRecDepth 20000 in
theorem ggX7_dropField_X7_append : GoodIn wsX7_dropField wsX7_append := goodIn_r _ [35, 36, 21, 17, 18, 19, 5, 20, 22, 23, 24, 37, 38, 39, 40, 41, 42, 43, 44, 45, 46, 47, 48] (by decide +kernel) (by decide +kernel)
set_option maxRecDepth 20000 in
theorem gX7_dropField_X7_append : GoodIn wsX7_dropField (wsV RX7 82 RX7 yX7_append wsX7_append) := goodIn_app (goodIn_of _ (by decide +kernel)) ggX7_dropField_X7_append
theorem dX7_dropField_0 : decode cX7_dropField 0 = .ok (.aload_n 0, 1) := by decide +kernel
theorem dX7_dropField_1 : decode cX7_dropField 1 = .ok (.iload_n 1, 1) := by decide +kernel
theorem dX7_dropField_2 : decode cX7_dropField 2 = .ok (.invokevirtual 70, 3) := by decide +kernel
theorem dX7_dropField_5 : decode cX7_dropField 5 = .ok (.istore_n 3, 1) := by decide +kernel
theorem dX7_dropField_6 : decode cX7_dropField 6 = .ok (.iload_n 3, 1) := by decide +kernel
theorem dX7_dropField_7 : decode cX7_dropField 7 = .ok (.ifCond .eq 5, 3) := by decide +kernel
theorem dX7_dropField_10 : decode cX7_dropField 10 = .ok (.iload_n 3, 1) := by decide +kernel
theorem dX7_dropField_11 : decode cX7_dropField 11 = .ok (.ireturn, 1) := by decide +kernel
theorem dX7_dropField_12 : decode cX7_dropField 12 = .ok (.aload_n 0, 1) := by decide +kernel
theorem dX7_dropField_13 : decode cX7_dropField 13 = .ok (.iload_n 1, 1) := by decide +kernel
theorem dX7_dropField_14 : decode cX7_dropField 14 = .ok (.invokevirtual 73, 3) := by decide +kernel
theorem dX7_dropField_17 : decode cX7_dropField 17 = .ok (.istore 4, 2) := by decide +kernel
theorem dX7_dropField_19 : decode cX7_dropField 19 = .ok (.iload 4, 2) := by decide +kernel
theorem dX7_dropField_21 : decode cX7_dropField 21 = .ok (.iload_n 2, 1) := by decide +kernel
theorem dX7_dropField_22 : decode cX7_dropField 22 = .ok (.invokestatic 78, 3) := by decide +kernel
theorem dX7_dropField_25 : decode cX7_dropField 25 = .ok (.ifCond .eq 22, 3) := by decide +kernel
theorem dX7_dropField_28 : decode cX7_dropField 28 = .ok (.aload_n 0, 1) := by decide +kernel
theorem dX7_dropField_29 : decode cX7_dropField 29 = .ok (.iload_n 1, 1) := by decide +kernel
theorem dX7_dropField_30 : decode cX7_dropField 30 = .ok (.iconst 1, 1) := by decide +kernel
theorem dX7_dropField_31 : decode cX7_dropField 31 = .ok (.iload_n 2, 1) := by decide +kernel
theorem dX7_dropField_32 : decode cX7_dropField 32 = .ok (.iconst 0, 1) := by decide +kernel
theorem dX7_dropField_33 : decode cX7_dropField 33 = .ok (.iload 4, 2) := by decide +kernel
theorem dX7_dropField_35 : decode cX7_dropField 35 = .ok (.iconst 1, 1) := by decide +kernel
theorem dX7_dropField_36 : decode cX7_dropField 36 = .ok (.iload_n 2, 1) := by decide +kernel
theorem dX7_dropField_37 : decode cX7_dropField 37 = .ok (.ishl, 1) := by decide +kernel
theorem dX7_dropField_38 : decode cX7_dropField 38 = .ok (.iconst (-1), 1) := by decide +kernel
theorem dX7_dropField_39 : decode cX7_dropField 39 = .ok (.ixor, 1) := by decide +kernel
theorem dX7_dropField_40 : decode cX7_dropField 40 = .ok (.iand, 1) := by decide +kernel
theorem dX7_dropField_41 : decode cX7_dropField 41 = .ok (.invokevirtual 82, 3) := by decide +kernel
theorem dX7_dropField_44 : decode cX7_dropField 44 = .ok (.goto 5, 3) := by decide +kernel
theorem dX7_dropField_47 : decode cX7_dropField 47 = .ok (.ldc 86, 2) := by decide +kernel
theorem dX7_dropField_49 : decode cX7_dropField 49 = .ok (.ireturn, 1) := by decide +kernel
set_option maxRecDepth 20000 in
theorem ggX7_renameField_X7_wrongStage : GoodIn wsX7_renameField wsX7_wrongStage := goodIn_r _ [8, 9, 10, 11, 12, 13, 7, 14, 15, 16, 17, 18, 19, 20, 21, 22, 23, 24, 25, 26, 39, 40, 41, 42, 43, 44, 45, 46, 47, 48, 49, 50] (by decide +kernel) (by decide +kernel)
set_option maxRecDepth 20000 in
theorem gX7_renameField_X7_wrongStage : GoodIn wsX7_renameField (wsV RX7 70 RX7 yX7_wrongStage wsX7_wrongStage) := goodIn_app (goodIn_of _ (by decide +kernel)) ggX7_renameField_X7_wrongStage
set_option maxRecDepth 20000 in
theorem ggX7_renameField_X7_stagedNow : GoodIn wsX7_renameField wsX7_stagedNow := goodIn_r _ [30, 19, 20, 21, 7, 22, 23, 24, 25, 26, 39, 40, 41, 42, 43, 44, 45, 46, 47, 48, 49, 50] (by decide +kernel) (by decide +kernel)
set_option maxRecDepth 20000 in
theorem gX7_renameField_X7_stagedNow : GoodIn wsX7_renameField (wsV RX7 73 RX7 yX7_stagedNow wsX7_stagedNow) := goodIn_app (goodIn_of _ (by decide +kernel)) ggX7_renameField_X7_stagedNow
set_option maxRecDepth 20000 in
theorem ggX7_renameField_X7_has : GoodIn wsX7_renameField wsX7_has := goodIn_r _ [33, 16, 17, 7, 18] (by decide +kernel) (by decide +kernel)
set_option maxRecDepth 20000 in
theorem gX7_renameField_X7_has : GoodIn wsX7_renameField (va_wsS RX7 78 yX7_has wsX7_has) := goodIn_app (goodIn_of _ (by decide +kernel)) ggX7_renameField_X7_has
set_option maxRecDepth 20000 in
theorem ggX7_renameField_X7_in : GoodIn wsX7_renameField wsX7_in := goodIn_r _ [18] (by decide +kernel) (by decide +kernel)
set_option maxRecDepth 20000 in
theorem gX7_renameField_X7_in : GoodIn wsX7_renameField (va_wsS RX7 45 yX7_in wsX7_in) := goodIn_app (goodIn_of _ (by decide +kernel)) ggX7_renameField_X7_in
set_option maxRecDepth 20000 in
theorem ggX7_renameField_X7_append : GoodIn wsX7_renameField wsX7_append := goodIn_r _ [37, 38, 23, 19, 20, 21, 7, 22, 24, 25, 26, 39, 40, 41, 42, 43, 44, 45, 46, 47, 48, 49, 50] (by decide +kernel) (by decide +kernel)
set_option maxRecDepth 20000 in
theorem gX7_renameField_X7_append : GoodIn wsX7_renameField (wsV RX7 82 RX7 yX7_append wsX7_append) := goodIn_app (goodIn_of _ (by decide +kernel)) ggX7_renameField_X7_append
theorem dX7_renameField_0 : decode cX7_renameField 0 = .ok (.aload_n 0, 1) := by decide +kernel
theorem dX7_renameField_1 : decode cX7_renameField 1 = .ok (.iload_n 1, 1) := by decide +kernel
theorem dX7_renameField_2 : decode cX7_renameField 2 = .ok (.invokevirtual 70, 3) := by decide +kernel
theorem dX7_renameField_5 : decode cX7_renameField 5 = .ok (.istore 4, 2) := by decide +kernel
theorem dX7_renameField_7 : decode cX7_renameField 7 = .ok (.iload 4, 2) := by decide +kernel
theorem dX7_renameField_9 : decode cX7_renameField 9 = .ok (.ifCond .eq 6, 3) := by decide +kernel
theorem dX7_renameField_12 : decode cX7_renameField 12 = .ok (.iload 4, 2) := by decide +kernel
theorem dX7_renameField_14 : decode cX7_renameField 14 = .ok (.ireturn, 1) := by decide +kernel
theorem dX7_renameField_15 : decode cX7_renameField 15 = .ok (.aload_n 0, 1) := by decide +kernel
theorem dX7_renameField_16 : decode cX7_renameField 16 = .ok (.iload_n 1, 1) := by decide +kernel
theorem dX7_renameField_17 : decode cX7_renameField 17 = .ok (.invokevirtual 73, 3) := by decide +kernel
theorem dX7_renameField_20 : decode cX7_renameField 20 = .ok (.istore 5, 2) := by decide +kernel
theorem dX7_renameField_22 : decode cX7_renameField 22 = .ok (.iload 5, 2) := by decide +kernel
theorem dX7_renameField_24 : decode cX7_renameField 24 = .ok (.iload_n 2, 1) := by decide +kernel
theorem dX7_renameField_25 : decode cX7_renameField 25 = .ok (.invokestatic 78, 3) := by decide +kernel
theorem dX7_renameField_28 : decode cX7_renameField 28 = .ok (.ifCond .ne 6, 3) := by decide +kernel
theorem dX7_renameField_31 : decode cX7_renameField 31 = .ok (.ldc 86, 2) := by decide +kernel
theorem dX7_renameField_33 : decode cX7_renameField 33 = .ok (.ireturn, 1) := by decide +kernel
theorem dX7_renameField_34 : decode cX7_renameField 34 = .ok (.iload_n 3, 1) := by decide +kernel
theorem dX7_renameField_35 : decode cX7_renameField 35 = .ok (.iconst 0, 1) := by decide +kernel
theorem dX7_renameField_36 : decode cX7_renameField 36 = .ok (.bipush 7, 2) := by decide +kernel
theorem dX7_renameField_38 : decode cX7_renameField 38 = .ok (.invokestatic 45, 3) := by decide +kernel
theorem dX7_renameField_41 : decode cX7_renameField 41 = .ok (.ifCond .ne 6, 3) := by decide +kernel
theorem dX7_renameField_44 : decode cX7_renameField 44 = .ok (.ldc 56, 2) := by decide +kernel
theorem dX7_renameField_46 : decode cX7_renameField 46 = .ok (.ireturn, 1) := by decide +kernel
theorem dX7_renameField_47 : decode cX7_renameField 47 = .ok (.iload 5, 2) := by decide +kernel
theorem dX7_renameField_49 : decode cX7_renameField 49 = .ok (.iload_n 3, 1) := by decide +kernel
theorem dX7_renameField_50 : decode cX7_renameField 50 = .ok (.invokestatic 78, 3) := by decide +kernel
theorem dX7_renameField_53 : decode cX7_renameField 53 = .ok (.ifCond .eq 8, 3) := by decide +kernel
theorem dX7_renameField_56 : decode cX7_renameField 56 = .ok (.ldc 68, 2) := by decide +kernel
theorem dX7_renameField_58 : decode cX7_renameField 58 = .ok (.goto 23, 3) := by decide +kernel
theorem dX7_renameField_61 : decode cX7_renameField 61 = .ok (.aload_n 0, 1) := by decide +kernel
theorem dX7_renameField_62 : decode cX7_renameField 62 = .ok (.iload_n 1, 1) := by decide +kernel
theorem dX7_renameField_63 : decode cX7_renameField 63 = .ok (.iconst 2, 1) := by decide +kernel
theorem dX7_renameField_64 : decode cX7_renameField 64 = .ok (.iload_n 2, 1) := by decide +kernel
theorem dX7_renameField_65 : decode cX7_renameField 65 = .ok (.iload_n 3, 1) := by decide +kernel
theorem dX7_renameField_66 : decode cX7_renameField 66 = .ok (.iload 5, 2) := by decide +kernel
theorem dX7_renameField_68 : decode cX7_renameField 68 = .ok (.iconst 1, 1) := by decide +kernel
theorem dX7_renameField_69 : decode cX7_renameField 69 = .ok (.iload_n 2, 1) := by decide +kernel
theorem dX7_renameField_70 : decode cX7_renameField 70 = .ok (.ishl, 1) := by decide +kernel
theorem dX7_renameField_71 : decode cX7_renameField 71 = .ok (.iconst (-1), 1) := by decide +kernel
theorem dX7_renameField_72 : decode cX7_renameField 72 = .ok (.ixor, 1) := by decide +kernel
theorem dX7_renameField_73 : decode cX7_renameField 73 = .ok (.iand, 1) := by decide +kernel
theorem dX7_renameField_74 : decode cX7_renameField 74 = .ok (.iconst 1, 1) := by decide +kernel
theorem dX7_renameField_75 : decode cX7_renameField 75 = .ok (.iload_n 3, 1) := by decide +kernel
theorem dX7_renameField_76 : decode cX7_renameField 76 = .ok (.ishl, 1) := by decide +kernel
theorem dX7_renameField_77 : decode cX7_renameField 77 = .ok (.ior, 1) := by decide +kernel
theorem dX7_renameField_78 : decode cX7_renameField 78 = .ok (.invokevirtual 82, 3) := by decide +kernel
theorem dX7_renameField_81 : decode cX7_renameField 81 = .ok (.ireturn, 1) := by decide +kernel
set_option maxRecDepth 20000 in
theorem ggX7_scaleField_X7_wrongStage : GoodIn wsX7_scaleField wsX7_wrongStage := goodIn_r _ [9, 10, 11, 12, 13, 14, 8, 15, 16, 17, 18, 19, 20, 21, 22, 23, 24, 25, 26, 27, 40, 41, 42, 43, 44, 45, 46, 47, 48, 49, 50, 51] (by decide +kernel) (by decide +kernel)
set_option maxRecDepth 20000 in
theorem gX7_scaleField_X7_wrongStage : GoodIn wsX7_scaleField (wsV RX7 70 RX7 yX7_wrongStage wsX7_wrongStage) := goodIn_app (goodIn_of _ (by decide +kernel)) ggX7_scaleField_X7_wrongStage
set_option maxRecDepth 20000 in
theorem ggX7_scaleField_X7_stagedNow : GoodIn wsX7_scaleField wsX7_stagedNow := goodIn_r _ [31, 20, 21, 22, 8, 23, 24, 25, 26, 27, 40, 41, 42, 43, 44, 45, 46, 47, 48, 49, 50, 51] (by decide +kernel) (by decide +kernel)
set_option maxRecDepth 20000 in
theorem gX7_scaleField_X7_stagedNow : GoodIn wsX7_scaleField (wsV RX7 73 RX7 yX7_stagedNow wsX7_stagedNow) := goodIn_app (goodIn_of _ (by decide +kernel)) ggX7_scaleField_X7_stagedNow
set_option maxRecDepth 20000 in
theorem ggX7_scaleField_X7_has : GoodIn wsX7_scaleField wsX7_has := goodIn_r _ [34, 17, 18, 8, 19] (by decide +kernel) (by decide +kernel)
set_option maxRecDepth 20000 in
theorem gX7_scaleField_X7_has : GoodIn wsX7_scaleField (va_wsS RX7 78 yX7_has wsX7_has) := goodIn_app (goodIn_of _ (by decide +kernel)) ggX7_scaleField_X7_has
set_option maxRecDepth 20000 in
theorem ggX7_scaleField_X7_in : GoodIn wsX7_scaleField wsX7_in := goodIn_r _ [19] (by decide +kernel) (by decide +kernel)
set_option maxRecDepth 20000 in
theorem gX7_scaleField_X7_in : GoodIn wsX7_scaleField (va_wsS RX7 45 yX7_in wsX7_in) := goodIn_app (goodIn_of _ (by decide +kernel)) ggX7_scaleField_X7_in
set_option maxRecDepth 20000 in
theorem ggX7_scaleField_X7_append : GoodIn wsX7_scaleField wsX7_append := goodIn_r _ [38, 39, 24, 20, 21, 22, 8, 23, 25, 26, 27, 40, 41, 42, 43, 44, 45, 46, 47, 48, 49, 50, 51] (by decide +kernel) (by decide +kernel)
set_option maxRecDepth 20000 in
theorem gX7_scaleField_X7_append : GoodIn wsX7_scaleField (wsV RX7 82 RX7 yX7_append wsX7_append) := goodIn_app (goodIn_of _ (by decide +kernel)) ggX7_scaleField_X7_append
theorem dX7_scaleField_0 : decode cX7_scaleField 0 = .ok (.aload_n 0, 1) := by decide +kernel
theorem dX7_scaleField_1 : decode cX7_scaleField 1 = .ok (.iload_n 1, 1) := by decide +kernel
theorem dX7_scaleField_2 : decode cX7_scaleField 2 = .ok (.invokevirtual 70, 3) := by decide +kernel
theorem dX7_scaleField_5 : decode cX7_scaleField 5 = .ok (.istore 4, 2) := by decide +kernel
theorem dX7_scaleField_7 : decode cX7_scaleField 7 = .ok (.iload 4, 2) := by decide +kernel
theorem dX7_scaleField_9 : decode cX7_scaleField 9 = .ok (.ifCond .eq 6, 3) := by decide +kernel
theorem dX7_scaleField_12 : decode cX7_scaleField 12 = .ok (.iload 4, 2) := by decide +kernel
theorem dX7_scaleField_14 : decode cX7_scaleField 14 = .ok (.ireturn, 1) := by decide +kernel
theorem dX7_scaleField_15 : decode cX7_scaleField 15 = .ok (.aload_n 0, 1) := by decide +kernel
theorem dX7_scaleField_16 : decode cX7_scaleField 16 = .ok (.iload_n 1, 1) := by decide +kernel
theorem dX7_scaleField_17 : decode cX7_scaleField 17 = .ok (.invokevirtual 73, 3) := by decide +kernel
theorem dX7_scaleField_20 : decode cX7_scaleField 20 = .ok (.istore 5, 2) := by decide +kernel
theorem dX7_scaleField_22 : decode cX7_scaleField 22 = .ok (.iload 5, 2) := by decide +kernel
theorem dX7_scaleField_24 : decode cX7_scaleField 24 = .ok (.iload_n 2, 1) := by decide +kernel
theorem dX7_scaleField_25 : decode cX7_scaleField 25 = .ok (.invokestatic 78, 3) := by decide +kernel
theorem dX7_scaleField_28 : decode cX7_scaleField 28 = .ok (.ifCond .ne 6, 3) := by decide +kernel
theorem dX7_scaleField_31 : decode cX7_scaleField 31 = .ok (.ldc 86, 2) := by decide +kernel
theorem dX7_scaleField_33 : decode cX7_scaleField 33 = .ok (.ireturn, 1) := by decide +kernel
theorem dX7_scaleField_34 : decode cX7_scaleField 34 = .ok (.iload_n 3, 1) := by decide +kernel
theorem dX7_scaleField_35 : decode cX7_scaleField 35 = .ok (.ldc 87, 2) := by decide +kernel
theorem dX7_scaleField_37 : decode cX7_scaleField 37 = .ok (.ldc 88, 2) := by decide +kernel
theorem dX7_scaleField_39 : decode cX7_scaleField 39 = .ok (.invokestatic 45, 3) := by decide +kernel
theorem dX7_scaleField_42 : decode cX7_scaleField 42 = .ok (.ifCond .eq 16, 3) := by decide +kernel
theorem dX7_scaleField_45 : decode cX7_scaleField 45 = .ok (.aload_n 0, 1) := by decide +kernel
theorem dX7_scaleField_46 : decode cX7_scaleField 46 = .ok (.iload_n 1, 1) := by decide +kernel
theorem dX7_scaleField_47 : decode cX7_scaleField 47 = .ok (.iconst 3, 1) := by decide +kernel
theorem dX7_scaleField_48 : decode cX7_scaleField 48 = .ok (.iload_n 2, 1) := by decide +kernel
theorem dX7_scaleField_49 : decode cX7_scaleField 49 = .ok (.iload_n 3, 1) := by decide +kernel
theorem dX7_scaleField_50 : decode cX7_scaleField 50 = .ok (.iload 5, 2) := by decide +kernel
theorem dX7_scaleField_52 : decode cX7_scaleField 52 = .ok (.invokevirtual 82, 3) := by decide +kernel
theorem dX7_scaleField_55 : decode cX7_scaleField 55 = .ok (.goto 5, 3) := by decide +kernel
theorem dX7_scaleField_58 : decode cX7_scaleField 58 = .ok (.ldc 56, 2) := by decide +kernel
theorem dX7_scaleField_60 : decode cX7_scaleField 60 = .ok (.ireturn, 1) := by decide +kernel
set_option maxRecDepth 20000 in
theorem ggX7_mergeField_X7_wrongStage : GoodIn wsX7_mergeField wsX7_wrongStage := goodIn_r _ [7, 8, 9, 10, 11, 12, 6, 13, 14, 15, 16, 17, 18, 19, 20, 21, 22, 23, 24, 25, 38, 39, 40, 41, 42, 43, 44, 45, 46, 47, 48, 49] (by decide +kernel) (by decide +kernel)
set_option maxRecDepth 20000 in
theorem gX7_mergeField_X7_wrongStage : GoodIn wsX7_mergeField (wsV RX7 70 RX7 yX7_wrongStage wsX7_wrongStage) := goodIn_app (goodIn_of _ (by decide +kernel)) ggX7_mergeField_X7_wrongStage
set_option maxRecDepth 20000 in
theorem ggX7_mergeField_X7_stagedNow : GoodIn wsX7_mergeField wsX7_stagedNow := goodIn_r _ [29, 18, 19, 20, 6, 21, 22, 23, 24, 25, 38, 39, 40, 41, 42, 43, 44, 45, 46, 47, 48, 49] (by decide +kernel) (by decide +kernel)
set_option maxRecDepth 20000 in
theorem gX7_mergeField_X7_stagedNow : GoodIn wsX7_mergeField (wsV RX7 73 RX7 yX7_stagedNow wsX7_stagedNow) := goodIn_app (goodIn_of _ (by decide +kernel)) ggX7_mergeField_X7_stagedNow
set_option maxRecDepth 20000 in
theorem ggX7_mergeField_X7_has : GoodIn wsX7_mergeField wsX7_has := goodIn_r _ [32, 15, 16, 6, 17] (by decide +kernel) (by decide +kernel)
set_option maxRecDepth 20000 in
theorem gX7_mergeField_X7_has : GoodIn wsX7_mergeField (va_wsS RX7 78 yX7_has wsX7_has) := goodIn_app (goodIn_of _ (by decide +kernel)) ggX7_mergeField_X7_has
set_option maxRecDepth 20000 in
theorem ggX7_mergeField_X7_append : GoodIn wsX7_mergeField wsX7_append := goodIn_r _ [36, 37, 22, 18, 19, 20, 6, 21, 23, 24, 25, 38, 39, 40, 41, 42, 43, 44, 45, 46, 47, 48, 49] (by decide +kernel) (by decide +kernel)
set_option maxRecDepth 20000 in
theorem gX7_mergeField_X7_append : GoodIn wsX7_mergeField (wsV RX7 82 RX7 yX7_append wsX7_append) := goodIn_app (goodIn_of _ (by decide +kernel)) ggX7_mergeField_X7_append
theorem dX7_mergeField_0 : decode cX7_mergeField 0 = .ok (.aload_n 0, 1) := by decide +kernel
theorem dX7_mergeField_1 : decode cX7_mergeField 1 = .ok (.iload_n 1, 1) := by decide +kernel
theorem dX7_mergeField_2 : decode cX7_mergeField 2 = .ok (.invokevirtual 70, 3) := by decide +kernel
theorem dX7_mergeField_5 : decode cX7_mergeField 5 = .ok (.istore 4, 2) := by decide +kernel
theorem dX7_mergeField_7 : decode cX7_mergeField 7 = .ok (.iload 4, 2) := by decide +kernel
theorem dX7_mergeField_9 : decode cX7_mergeField 9 = .ok (.ifCond .eq 6, 3) := by decide +kernel
theorem dX7_mergeField_12 : decode cX7_mergeField 12 = .ok (.iload 4, 2) := by decide +kernel
theorem dX7_mergeField_14 : decode cX7_mergeField 14 = .ok (.ireturn, 1) := by decide +kernel
theorem dX7_mergeField_15 : decode cX7_mergeField 15 = .ok (.aload_n 0, 1) := by decide +kernel
theorem dX7_mergeField_16 : decode cX7_mergeField 16 = .ok (.iload_n 1, 1) := by decide +kernel
theorem dX7_mergeField_17 : decode cX7_mergeField 17 = .ok (.invokevirtual 73, 3) := by decide +kernel
theorem dX7_mergeField_20 : decode cX7_mergeField 20 = .ok (.istore 5, 2) := by decide +kernel
theorem dX7_mergeField_22 : decode cX7_mergeField 22 = .ok (.iload 5, 2) := by decide +kernel
theorem dX7_mergeField_24 : decode cX7_mergeField 24 = .ok (.iload_n 2, 1) := by decide +kernel
theorem dX7_mergeField_25 : decode cX7_mergeField 25 = .ok (.invokestatic 78, 3) := by decide +kernel
theorem dX7_mergeField_28 : decode cX7_mergeField 28 = .ok (.ifCond .eq 12, 3) := by decide +kernel
theorem dX7_mergeField_31 : decode cX7_mergeField 31 = .ok (.iload 5, 2) := by decide +kernel
theorem dX7_mergeField_33 : decode cX7_mergeField 33 = .ok (.iload_n 3, 1) := by decide +kernel
theorem dX7_mergeField_34 : decode cX7_mergeField 34 = .ok (.invokestatic 78, 3) := by decide +kernel
theorem dX7_mergeField_37 : decode cX7_mergeField 37 = .ok (.ifCond .ne 6, 3) := by decide +kernel
theorem dX7_mergeField_40 : decode cX7_mergeField 40 = .ok (.ldc 86, 2) := by decide +kernel
theorem dX7_mergeField_42 : decode cX7_mergeField 42 = .ok (.ireturn, 1) := by decide +kernel
theorem dX7_mergeField_43 : decode cX7_mergeField 43 = .ok (.iload_n 2, 1) := by decide +kernel
theorem dX7_mergeField_44 : decode cX7_mergeField 44 = .ok (.iload_n 3, 1) := by decide +kernel
theorem dX7_mergeField_45 : decode cX7_mergeField 45 = .ok (.if_icmp .ne 8, 3) := by decide +kernel
theorem dX7_mergeField_48 : decode cX7_mergeField 48 = .ok (.ldc 56, 2) := by decide +kernel
theorem dX7_mergeField_50 : decode cX7_mergeField 50 = .ok (.goto 19, 3) := by decide +kernel
theorem dX7_mergeField_53 : decode cX7_mergeField 53 = .ok (.aload_n 0, 1) := by decide +kernel
theorem dX7_mergeField_54 : decode cX7_mergeField 54 = .ok (.iload_n 1, 1) := by decide +kernel
theorem dX7_mergeField_55 : decode cX7_mergeField 55 = .ok (.iconst 4, 1) := by decide +kernel
theorem dX7_mergeField_56 : decode cX7_mergeField 56 = .ok (.iload_n 2, 1) := by decide +kernel
theorem dX7_mergeField_57 : decode cX7_mergeField 57 = .ok (.iload_n 3, 1) := by decide +kernel
theorem dX7_mergeField_58 : decode cX7_mergeField 58 = .ok (.iload 5, 2) := by decide +kernel
theorem dX7_mergeField_60 : decode cX7_mergeField 60 = .ok (.iconst 1, 1) := by decide +kernel
theorem dX7_mergeField_61 : decode cX7_mergeField 61 = .ok (.iload_n 2, 1) := by decide +kernel
theorem dX7_mergeField_62 : decode cX7_mergeField 62 = .ok (.ishl, 1) := by decide +kernel
theorem dX7_mergeField_63 : decode cX7_mergeField 63 = .ok (.iconst (-1), 1) := by decide +kernel
theorem dX7_mergeField_64 : decode cX7_mergeField 64 = .ok (.ixor, 1) := by decide +kernel
theorem dX7_mergeField_65 : decode cX7_mergeField 65 = .ok (.iand, 1) := by decide +kernel
theorem dX7_mergeField_66 : decode cX7_mergeField 66 = .ok (.invokevirtual 82, 3) := by decide +kernel
theorem dX7_mergeField_69 : decode cX7_mergeField 69 = .ok (.ireturn, 1) := by decide +kernel
set_option maxRecDepth 20000 in
theorem ggX7_activate_X7_wrongStage : GoodIn wsX7_activate wsX7_wrongStage := goodIn_r _ [6, 7, 8, 9, 10, 11, 5, 12, 13, 14, 15, 16, 17, 18, 19, 20, 1, 21, 22, 23, 28, 29, 30, 31, 32, 33, 34, 35, 36, 37, 38, 39] (by decide +kernel) (by decide +kernel)
set_option maxRecDepth 20000 in
theorem gX7_activate_X7_wrongStage : GoodIn wsX7_activate (wsV RX7 70 RX7 yX7_wrongStage wsX7_wrongStage) := goodIn_app (goodIn_of _ (by decide +kernel)) ggX7_activate_X7_wrongStage
set_option maxRecDepth 20000 in
theorem ggX7_activate_X7_at : GoodIn wsX7_activate wsX7_at := goodIn_r _ [23] (by decide +kernel) (by decide +kernel)
set_option maxRecDepth 20000 in
theorem gX7_activate_X7_at : GoodIn wsX7_activate (va_wsS RX7 49 yX7_at wsX7_at) := goodIn_app (goodIn_of _ (by decide +kernel)) ggX7_activate_X7_at
set_option maxRecDepth 20000 in
theorem ggX7_activate_X7_current : GoodIn wsX7_activate wsX7_current := goodIn_r _ [27, 17, 18, 19, 5, 20, 1, 21, 22, 23, 28, 29, 30, 31, 32, 33, 34, 35, 36, 37, 38, 39] (by decide +kernel) (by decide +kernel)
set_option maxRecDepth 20000 in
theorem gX7_activate_X7_current : GoodIn wsX7_activate (wsV RX7 62 RX7 yX7_current wsX7_current) := goodIn_app (goodIn_of _ (by decide +kernel)) ggX7_activate_X7_current
theorem dX7_activate_0 : decode cX7_activate 0 = .ok (.aload_n 0, 1) := by decide +kernel
theorem dX7_activate_1 : decode cX7_activate 1 = .ok (.iload_n 1, 1) := by decide +kernel
theorem dX7_activate_2 : decode cX7_activate 2 = .ok (.invokevirtual 70, 3) := by decide +kernel
theorem dX7_activate_5 : decode cX7_activate 5 = .ok (.istore_n 2, 1) := by decide +kernel
theorem dX7_activate_6 : decode cX7_activate 6 = .ok (.iload_n 2, 1) := by decide +kernel
theorem dX7_activate_7 : decode cX7_activate 7 = .ok (.ifCond .eq 5, 3) := by decide +kernel
theorem dX7_activate_10 : decode cX7_activate 10 = .ok (.iload_n 2, 1) := by decide +kernel
theorem dX7_activate_11 : decode cX7_activate 11 = .ok (.ireturn, 1) := by decide +kernel
theorem dX7_activate_12 : decode cX7_activate 12 = .ok (.aload_n 0, 1) := by decide +kernel
theorem dX7_activate_13 : decode cX7_activate 13 = .ok (.getfield 7, 3) := by decide +kernel
theorem dX7_activate_16 : decode cX7_activate 16 = .ok (.iload_n 1, 1) := by decide +kernel
theorem dX7_activate_17 : decode cX7_activate 17 = .ok (.iconst 1, 1) := by decide +kernel
theorem dX7_activate_18 : decode cX7_activate 18 = .ok (.invokestatic 49, 3) := by decide +kernel
theorem dX7_activate_21 : decode cX7_activate 21 = .ok (.iconst 0, 1) := by decide +kernel
theorem dX7_activate_22 : decode cX7_activate 22 = .ok (.iastore, 1) := by decide +kernel
theorem dX7_activate_23 : decode cX7_activate 23 = .ok (.aload_n 0, 1) := by decide +kernel
theorem dX7_activate_24 : decode cX7_activate 24 = .ok (.getfield 7, 3) := by decide +kernel
theorem dX7_activate_27 : decode cX7_activate 27 = .ok (.iload_n 1, 1) := by decide +kernel
theorem dX7_activate_28 : decode cX7_activate 28 = .ok (.iconst 0, 1) := by decide +kernel
theorem dX7_activate_29 : decode cX7_activate 29 = .ok (.invokestatic 49, 3) := by decide +kernel
theorem dX7_activate_32 : decode cX7_activate 32 = .ok (.dup2, 1) := by decide +kernel
theorem dX7_activate_33 : decode cX7_activate 33 = .ok (.iaload, 1) := by decide +kernel
theorem dX7_activate_34 : decode cX7_activate 34 = .ok (.iconst 1, 1) := by decide +kernel
theorem dX7_activate_35 : decode cX7_activate 35 = .ok (.iadd, 1) := by decide +kernel
theorem dX7_activate_36 : decode cX7_activate 36 = .ok (.iastore, 1) := by decide +kernel
theorem dX7_activate_37 : decode cX7_activate 37 = .ok (.aload_n 0, 1) := by decide +kernel
theorem dX7_activate_38 : decode cX7_activate 38 = .ok (.iload_n 1, 1) := by decide +kernel
theorem dX7_activate_39 : decode cX7_activate 39 = .ok (.invokevirtual 62, 3) := by decide +kernel
theorem dX7_activate_42 : decode cX7_activate 42 = .ok (.ireturn, 1) := by decide +kernel
set_option maxRecDepth 20000 in
theorem ggX7_discard_X7_wrongStage : GoodIn wsX7_discard wsX7_wrongStage := goodIn_r _ [6, 7, 8, 9, 10, 11, 5, 12, 13, 14, 15, 16, 17, 18, 19, 20, 1, 21, 22, 23, 24, 25, 26, 27, 28, 29, 30, 31, 32, 33, 34, 35] (by decide +kernel) (by decide +kernel)
set_option maxRecDepth 20000 in
theorem gX7_discard_X7_wrongStage : GoodIn wsX7_discard (wsV RX7 70 RX7 yX7_wrongStage wsX7_wrongStage) := goodIn_app (goodIn_of _ (by decide +kernel)) ggX7_discard_X7_wrongStage
set_option maxRecDepth 20000 in
theorem ggX7_discard_X7_at : GoodIn wsX7_discard wsX7_at := goodIn_r _ [23] (by decide +kernel) (by decide +kernel)
set_option maxRecDepth 20000 in
theorem gX7_discard_X7_at : GoodIn wsX7_discard (va_wsS RX7 49 yX7_at wsX7_at) := goodIn_app (goodIn_of _ (by decide +kernel)) ggX7_discard_X7_at
set_option maxRecDepth 20000 in
theorem ggX7_discard_X7_of : GoodIn wsX7_discard wsX7_of := goodIn_r _ [20, 1, 21, 22, 5, 23, 24, 25, 26, 27, 28, 29, 30, 31, 32, 33, 34, 35] (by decide +kernel) (by decide +kernel)
set_option maxRecDepth 20000 in
theorem gX7_discard_X7_of : GoodIn wsX7_discard (wsV RX7 53 RX7 yX7_of wsX7_of) := goodIn_app (goodIn_of _ (by decide +kernel)) ggX7_discard_X7_of
theorem dX7_discard_0 : decode cX7_discard 0 = .ok (.aload_n 0, 1) := by decide +kernel
theorem dX7_discard_1 : decode cX7_discard 1 = .ok (.iload_n 1, 1) := by decide +kernel
theorem dX7_discard_2 : decode cX7_discard 2 = .ok (.invokevirtual 70, 3) := by decide +kernel
theorem dX7_discard_5 : decode cX7_discard 5 = .ok (.istore_n 2, 1) := by decide +kernel
theorem dX7_discard_6 : decode cX7_discard 6 = .ok (.iload_n 2, 1) := by decide +kernel
theorem dX7_discard_7 : decode cX7_discard 7 = .ok (.ifCond .eq 5, 3) := by decide +kernel
theorem dX7_discard_10 : decode cX7_discard 10 = .ok (.iload_n 2, 1) := by decide +kernel
theorem dX7_discard_11 : decode cX7_discard 11 = .ok (.ireturn, 1) := by decide +kernel
theorem dX7_discard_12 : decode cX7_discard 12 = .ok (.aload_n 0, 1) := by decide +kernel
theorem dX7_discard_13 : decode cX7_discard 13 = .ok (.getfield 7, 3) := by decide +kernel
theorem dX7_discard_16 : decode cX7_discard 16 = .ok (.iload_n 1, 1) := by decide +kernel
theorem dX7_discard_17 : decode cX7_discard 17 = .ok (.iconst 1, 1) := by decide +kernel
theorem dX7_discard_18 : decode cX7_discard 18 = .ok (.invokestatic 49, 3) := by decide +kernel
theorem dX7_discard_21 : decode cX7_discard 21 = .ok (.iconst 0, 1) := by decide +kernel
theorem dX7_discard_22 : decode cX7_discard 22 = .ok (.iastore, 1) := by decide +kernel
theorem dX7_discard_23 : decode cX7_discard 23 = .ok (.aload_n 0, 1) := by decide +kernel
theorem dX7_discard_24 : decode cX7_discard 24 = .ok (.iload_n 1, 1) := by decide +kernel
theorem dX7_discard_25 : decode cX7_discard 25 = .ok (.bipush 10, 2) := by decide +kernel
theorem dX7_discard_27 : decode cX7_discard 27 = .ok (.aload_n 0, 1) := by decide +kernel
theorem dX7_discard_28 : decode cX7_discard 28 = .ok (.iload_n 1, 1) := by decide +kernel
theorem dX7_discard_29 : decode cX7_discard 29 = .ok (.iconst 0, 1) := by decide +kernel
theorem dX7_discard_30 : decode cX7_discard 30 = .ok (.invokevirtual 53, 3) := by decide +kernel
theorem dX7_discard_33 : decode cX7_discard 33 = .ok (.iadd, 1) := by decide +kernel
theorem dX7_discard_34 : decode cX7_discard 34 = .ok (.invokevirtual 53, 3) := by decide +kernel
theorem dX7_discard_37 : decode cX7_discard 37 = .ok (.ireturn, 1) := by decide +kernel
theorem dX7_isThere_0 : decode cX7_isThere 0 = .ok (.iload_n 1, 1) := by decide +kernel
theorem dX7_isThere_1 : decode cX7_isThere 1 = .ok (.bipush 8, 2) := by decide +kernel
theorem dX7_isThere_3 : decode cX7_isThere 3 = .ok (.irem, 1) := by decide +kernel
theorem dX7_isThere_4 : decode cX7_isThere 4 = .ok (.aload_n 0, 1) := by decide +kernel
theorem dX7_isThere_5 : decode cX7_isThere 5 = .ok (.getfield 13, 3) := by decide +kernel
theorem dX7_isThere_8 : decode cX7_isThere 8 = .ok (.iload_n 1, 1) := by decide +kernel
theorem dX7_isThere_9 : decode cX7_isThere 9 = .ok (.bipush 8, 2) := by decide +kernel
theorem dX7_isThere_11 : decode cX7_isThere 11 = .ok (.idiv, 1) := by decide +kernel
theorem dX7_isThere_12 : decode cX7_isThere 12 = .ok (.iaload, 1) := by decide +kernel
theorem dX7_isThere_13 : decode cX7_isThere 13 = .ok (.if_icmp .ge 7, 3) := by decide +kernel
theorem dX7_isThere_16 : decode cX7_isThere 16 = .ok (.iconst 1, 1) := by decide +kernel
theorem dX7_isThere_17 : decode cX7_isThere 17 = .ok (.goto 4, 3) := by decide +kernel
theorem dX7_isThere_20 : decode cX7_isThere 20 = .ok (.iconst 0, 1) := by decide +kernel
theorem dX7_isThere_21 : decode cX7_isThere 21 = .ok (.ireturn, 1) := by decide +kernel
set_option maxRecDepth 20000 in
theorem ggX7_runs_X7_isThere : GoodIn wsX7_runs wsX7_isThere := goodIn_r _ [7, 8, 9, 10, 11, 12, 13, 14, 15, 16, 17, 18, 19, 20] (by decide +kernel) (by decide +kernel)
set_option maxRecDepth 20000 in
theorem gX7_runs_X7_isThere : GoodIn wsX7_runs (wsV RX7 89 RX7 yX7_isThere wsX7_isThere) := goodIn_app (goodIn_of _ (by decide +kernel)) ggX7_runs_X7_isThere
theorem dX7_runs_0 : decode cX7_runs 0 = .ok (.iconst 0, 1) := by decide +kernel
theorem dX7_runs_1 : decode cX7_runs 1 = .ok (.istore_n 3, 1) := by decide +kernel
theorem dX7_runs_2 : decode cX7_runs 2 = .ok (.iconst 0, 1) := by decide +kernel
theorem dX7_runs_3 : decode cX7_runs 3 = .ok (.istore 4, 2) := by decide +kernel
theorem dX7_runs_5 : decode cX7_runs 5 = .ok (.iload 4, 2) := by decide +kernel
theorem dX7_runs_7 : decode cX7_runs 7 = .ok (.bipush 32, 2) := by decide +kernel
theorem dX7_runs_9 : decode cX7_runs 9 = .ok (.if_icmp .ge 50, 3) := by decide +kernel
theorem dX7_runs_12 : decode cX7_runs 12 = .ok (.iload_n 3, 1) := by decide +kernel
theorem dX7_runs_13 : decode cX7_runs 13 = .ok (.ifCond .ne 34, 3) := by decide +kernel
theorem dX7_runs_16 : decode cX7_runs 16 = .ok (.aload_n 0, 1) := by decide +kernel
theorem dX7_runs_17 : decode cX7_runs 17 = .ok (.iload 4, 2) := by decide +kernel
theorem dX7_runs_19 : decode cX7_runs 19 = .ok (.invokevirtual 89, 3) := by decide +kernel
theorem dX7_runs_22 : decode cX7_runs 22 = .ok (.ifCond .eq 29, 3) := by decide +kernel
theorem dX7_runs_25 : decode cX7_runs 25 = .ok (.aload_n 0, 1) := by decide +kernel
theorem dX7_runs_26 : decode cX7_runs 26 = .ok (.getfield 16, 3) := by decide +kernel
theorem dX7_runs_29 : decode cX7_runs 29 = .ok (.iload 4, 2) := by decide +kernel
theorem dX7_runs_31 : decode cX7_runs 31 = .ok (.iaload, 1) := by decide +kernel
theorem dX7_runs_32 : decode cX7_runs 32 = .ok (.iload_n 1, 1) := by decide +kernel
theorem dX7_runs_33 : decode cX7_runs 33 = .ok (.if_icmp .ne 18, 3) := by decide +kernel
theorem dX7_runs_36 : decode cX7_runs 36 = .ok (.aload_n 0, 1) := by decide +kernel
theorem dX7_runs_37 : decode cX7_runs 37 = .ok (.getfield 19, 3) := by decide +kernel
theorem dX7_runs_40 : decode cX7_runs 40 = .ok (.iload 4, 2) := by decide +kernel
theorem dX7_runs_42 : decode cX7_runs 42 = .ok (.iaload, 1) := by decide +kernel
theorem dX7_runs_43 : decode cX7_runs 43 = .ok (.iload_n 2, 1) := by decide +kernel
theorem dX7_runs_44 : decode cX7_runs 44 = .ok (.if_icmp .ne 7, 3) := by decide +kernel
theorem dX7_runs_47 : decode cX7_runs 47 = .ok (.iconst 1, 1) := by decide +kernel
theorem dX7_runs_48 : decode cX7_runs 48 = .ok (.goto 4, 3) := by decide +kernel
theorem dX7_runs_51 : decode cX7_runs 51 = .ok (.iconst 0, 1) := by decide +kernel
theorem dX7_runs_52 : decode cX7_runs 52 = .ok (.istore_n 3, 1) := by decide +kernel
theorem dX7_runs_53 : decode cX7_runs 53 = .ok (.iinc 4 1, 3) := by decide +kernel
theorem dX7_runs_56 : decode cX7_runs 56 = .ok (.goto (-51), 3) := by decide +kernel
theorem dX7_runs_59 : decode cX7_runs 59 = .ok (.iload_n 3, 1) := by decide +kernel
theorem dX7_runs_60 : decode cX7_runs 60 = .ok (.ireturn, 1) := by decide +kernel
theorem dX7_delete_0 : decode cX7_delete 0 = .ok (.aload_n 0, 1) := by decide +kernel
theorem dX7_delete_1 : decode cX7_delete 1 = .ok (.getfield 25, 3) := by decide +kernel
theorem dX7_delete_4 : decode cX7_delete 4 = .ok (.iload_n 1, 1) := by decide +kernel
theorem dX7_delete_5 : decode cX7_delete 5 = .ok (.iconst 0, 1) := by decide +kernel
theorem dX7_delete_6 : decode cX7_delete 6 = .ok (.bastore, 1) := by decide +kernel
theorem dX7_delete_7 : decode cX7_delete 7 = .ok (.iconst 0, 1) := by decide +kernel
theorem dX7_delete_8 : decode cX7_delete 8 = .ok (.istore_n 2, 1) := by decide +kernel
theorem dX7_delete_9 : decode cX7_delete 9 = .ok (.iload_n 2, 1) := by decide +kernel
theorem dX7_delete_10 : decode cX7_delete 10 = .ok (.bipush 32, 2) := by decide +kernel
theorem dX7_delete_12 : decode cX7_delete 12 = .ok (.if_icmp .ge 23, 3) := by decide +kernel
theorem dX7_delete_15 : decode cX7_delete 15 = .ok (.aload_n 0, 1) := by decide +kernel
theorem dX7_delete_16 : decode cX7_delete 16 = .ok (.getfield 22, 3) := by decide +kernel
theorem dX7_delete_19 : decode cX7_delete 19 = .ok (.iload_n 2, 1) := by decide +kernel
theorem dX7_delete_20 : decode cX7_delete 20 = .ok (.dup2, 1) := by decide +kernel
theorem dX7_delete_21 : decode cX7_delete 21 = .ok (.iaload, 1) := by decide +kernel
theorem dX7_delete_22 : decode cX7_delete 22 = .ok (.iconst 1, 1) := by decide +kernel
theorem dX7_delete_23 : decode cX7_delete 23 = .ok (.iload_n 1, 1) := by decide +kernel
theorem dX7_delete_24 : decode cX7_delete 24 = .ok (.ishl, 1) := by decide +kernel
theorem dX7_delete_25 : decode cX7_delete 25 = .ok (.iconst (-1), 1) := by decide +kernel
theorem dX7_delete_26 : decode cX7_delete 26 = .ok (.ixor, 1) := by decide +kernel
theorem dX7_delete_27 : decode cX7_delete 27 = .ok (.iand, 1) := by decide +kernel
theorem dX7_delete_28 : decode cX7_delete 28 = .ok (.iastore, 1) := by decide +kernel
theorem dX7_delete_29 : decode cX7_delete 29 = .ok (.iinc 2 1, 3) := by decide +kernel
theorem dX7_delete_32 : decode cX7_delete 32 = .ok (.goto (-23), 3) := by decide +kernel
theorem dX7_delete_35 : decode cX7_delete 35 = .ok (.return_, 1) := by decide +kernel
set_option maxRecDepth 20000 in
theorem ggX7_rollback_X7_isClass : GoodIn wsX7_rollback wsX7_isClass := goodIn_r _ [14, 15, 16, 17, 13, 18, 46, 47, 48, 49, 50, 51, 52, 53, 54, 55, 56, 57] (by decide +kernel) (by decide +kernel)
set_option maxRecDepth 20000 in
theorem gX7_rollback_X7_isClass : GoodIn wsX7_rollback (wsV RX7 58 RX7 yX7_isClass wsX7_isClass) := goodIn_app (goodIn_of _ (by decide +kernel)) ggX7_rollback_X7_isClass
set_option maxRecDepth 20000 in
theorem ggX7_rollback_X7_current : GoodIn wsX7_rollback wsX7_current := goodIn_r _ [22, 23, 24, 25, 13, 26, 9, 27, 28, 29, 46, 47, 48, 49, 50, 51, 52, 53, 54, 55, 56, 57] (by decide +kernel) (by decide +kernel)
set_option maxRecDepth 20000 in
theorem gX7_rollback_X7_current : GoodIn wsX7_rollback (wsV RX7 62 RX7 yX7_current wsX7_current) := goodIn_app (goodIn_of _ (by decide +kernel)) ggX7_rollback_X7_current
set_option maxRecDepth 20000 in
theorem ggX7_rollback_X7_runs : GoodIn wsX7_rollback wsX7_runs := goodIn_r _ [33, 34, 35, 36, 37, 38, 13, 39, 40, 46, 47, 48, 49, 50, 51, 52, 53, 54, 55, 56, 57] (by decide +kernel) (by decide +kernel)
set_option maxRecDepth 20000 in
theorem gX7_rollback_X7_runs : GoodIn wsX7_rollback (wsV RX7 92 RX7 yX7_runs wsX7_runs) := goodIn_app (goodIn_of _ (by decide +kernel)) ggX7_rollback_X7_runs
set_option maxRecDepth 20000 in
theorem ggX7_rollback_X7_delete : GoodIn wsX7_rollback wsX7_delete := goodIn_r _ [44, 5, 45, 46, 47, 48, 49, 50, 51, 52, 53, 54, 55, 56, 57] (by decide +kernel) (by decide +kernel)
set_option maxRecDepth 20000 in
theorem gX7_rollback_X7_delete : GoodIn wsX7_rollback (wsV RX7 99 RX7 yX7_delete wsX7_delete) := goodIn_app (goodIn_of _ (by decide +kernel)) ggX7_rollback_X7_delete
set_option maxRecDepth 20000 in
theorem ggX7_rollback_X7_at : GoodIn wsX7_rollback wsX7_at := goodIn_r _ [29] (by decide +kernel) (by decide +kernel)
set_option maxRecDepth 20000 in
theorem gX7_rollback_X7_at : GoodIn wsX7_rollback (va_wsS RX7 49 yX7_at wsX7_at) := goodIn_app (goodIn_of _ (by decide +kernel)) ggX7_rollback_X7_at
theorem dX7_rollback_0 : decode cX7_rollback 0 = .ok (.aload_n 0, 1) := by decide +kernel
theorem dX7_rollback_1 : decode cX7_rollback 1 = .ok (.iload_n 1, 1) := by decide +kernel
theorem dX7_rollback_2 : decode cX7_rollback 2 = .ok (.invokevirtual 58, 3) := by decide +kernel
theorem dX7_rollback_5 : decode cX7_rollback 5 = .ok (.ifCond .ne 6, 3) := by decide +kernel
theorem dX7_rollback_8 : decode cX7_rollback 8 = .ok (.ldc 66, 2) := by decide +kernel
theorem dX7_rollback_10 : decode cX7_rollback 10 = .ok (.ireturn, 1) := by decide +kernel
theorem dX7_rollback_11 : decode cX7_rollback 11 = .ok (.aload_n 0, 1) := by decide +kernel
theorem dX7_rollback_12 : decode cX7_rollback 12 = .ok (.iload_n 1, 1) := by decide +kernel
theorem dX7_rollback_13 : decode cX7_rollback 13 = .ok (.invokevirtual 62, 3) := by decide +kernel
theorem dX7_rollback_16 : decode cX7_rollback 16 = .ok (.istore_n 2, 1) := by decide +kernel
theorem dX7_rollback_17 : decode cX7_rollback 17 = .ok (.iload_n 2, 1) := by decide +kernel
theorem dX7_rollback_18 : decode cX7_rollback 18 = .ok (.ifCond .ne 6, 3) := by decide +kernel
theorem dX7_rollback_21 : decode cX7_rollback 21 = .ok (.ldc 67, 2) := by decide +kernel
theorem dX7_rollback_23 : decode cX7_rollback 23 = .ok (.ireturn, 1) := by decide +kernel
theorem dX7_rollback_24 : decode cX7_rollback 24 = .ok (.aload_n 0, 1) := by decide +kernel
theorem dX7_rollback_25 : decode cX7_rollback 25 = .ok (.iload_n 1, 1) := by decide +kernel
theorem dX7_rollback_26 : decode cX7_rollback 26 = .ok (.iload_n 2, 1) := by decide +kernel
theorem dX7_rollback_27 : decode cX7_rollback 27 = .ok (.invokevirtual 92, 3) := by decide +kernel
theorem dX7_rollback_30 : decode cX7_rollback 30 = .ok (.ifCond .eq 6, 3) := by decide +kernel
theorem dX7_rollback_33 : decode cX7_rollback 33 = .ok (.ldc 95, 2) := by decide +kernel
theorem dX7_rollback_35 : decode cX7_rollback 35 = .ok (.ireturn, 1) := by decide +kernel
theorem dX7_rollback_36 : decode cX7_rollback 36 = .ok (.iconst 0, 1) := by decide +kernel
theorem dX7_rollback_37 : decode cX7_rollback 37 = .ok (.istore_n 3, 1) := by decide +kernel
theorem dX7_rollback_38 : decode cX7_rollback 38 = .ok (.iload_n 3, 1) := by decide +kernel
theorem dX7_rollback_39 : decode cX7_rollback 39 = .ok (.aload_n 0, 1) := by decide +kernel
theorem dX7_rollback_40 : decode cX7_rollback 40 = .ok (.getfield 96, 3) := by decide +kernel
theorem dX7_rollback_43 : decode cX7_rollback 43 = .ok (.if_icmp .ge 66, 3) := by decide +kernel
theorem dX7_rollback_46 : decode cX7_rollback 46 = .ok (.aload_n 0, 1) := by decide +kernel
theorem dX7_rollback_47 : decode cX7_rollback 47 = .ok (.getfield 25, 3) := by decide +kernel
theorem dX7_rollback_50 : decode cX7_rollback 50 = .ok (.iload_n 3, 1) := by decide +kernel
theorem dX7_rollback_51 : decode cX7_rollback 51 = .ok (.baload, 1) := by decide +kernel
theorem dX7_rollback_52 : decode cX7_rollback 52 = .ok (.ifCond .eq 51, 3) := by decide +kernel
theorem dX7_rollback_55 : decode cX7_rollback 55 = .ok (.aload_n 0, 1) := by decide +kernel
theorem dX7_rollback_56 : decode cX7_rollback 56 = .ok (.getfield 29, 3) := by decide +kernel
theorem dX7_rollback_59 : decode cX7_rollback 59 = .ok (.iload_n 3, 1) := by decide +kernel
theorem dX7_rollback_60 : decode cX7_rollback 60 = .ok (.iaload, 1) := by decide +kernel
theorem dX7_rollback_61 : decode cX7_rollback 61 = .ok (.iload_n 1, 1) := by decide +kernel
theorem dX7_rollback_62 : decode cX7_rollback 62 = .ok (.if_icmp .ne 41, 3) := by decide +kernel
theorem dX7_rollback_65 : decode cX7_rollback 65 = .ok (.aload_n 0, 1) := by decide +kernel
theorem dX7_rollback_66 : decode cX7_rollback 66 = .ok (.getfield 32, 3) := by decide +kernel
theorem dX7_rollback_69 : decode cX7_rollback 69 = .ok (.iload_n 3, 1) := by decide +kernel
theorem dX7_rollback_70 : decode cX7_rollback 70 = .ok (.iaload, 1) := by decide +kernel
theorem dX7_rollback_71 : decode cX7_rollback 71 = .ok (.iload_n 2, 1) := by decide +kernel
theorem dX7_rollback_72 : decode cX7_rollback 72 = .ok (.if_icmp .ne 31, 3) := by decide +kernel
theorem dX7_rollback_75 : decode cX7_rollback 75 = .ok (.aload_n 0, 1) := by decide +kernel
theorem dX7_rollback_76 : decode cX7_rollback 76 = .ok (.getfield 35, 3) := by decide +kernel
theorem dX7_rollback_79 : decode cX7_rollback 79 = .ok (.iload_n 3, 1) := by decide +kernel
theorem dX7_rollback_80 : decode cX7_rollback 80 = .ok (.iaload, 1) := by decide +kernel
theorem dX7_rollback_81 : decode cX7_rollback 81 = .ok (.iload_n 2, 1) := by decide +kernel
theorem dX7_rollback_82 : decode cX7_rollback 82 = .ok (.if_icmp .ne 11, 3) := by decide +kernel
theorem dX7_rollback_85 : decode cX7_rollback 85 = .ok (.aload_n 0, 1) := by decide +kernel
theorem dX7_rollback_86 : decode cX7_rollback 86 = .ok (.iload_n 3, 1) := by decide +kernel
theorem dX7_rollback_87 : decode cX7_rollback 87 = .ok (.invokevirtual 99, 3) := by decide +kernel
theorem dX7_rollback_90 : decode cX7_rollback 90 = .ok (.goto 13, 3) := by decide +kernel
theorem dX7_rollback_93 : decode cX7_rollback 93 = .ok (.aload_n 0, 1) := by decide +kernel
theorem dX7_rollback_94 : decode cX7_rollback 94 = .ok (.getfield 32, 3) := by decide +kernel
theorem dX7_rollback_97 : decode cX7_rollback 97 = .ok (.iload_n 3, 1) := by decide +kernel
theorem dX7_rollback_98 : decode cX7_rollback 98 = .ok (.dup2, 1) := by decide +kernel
theorem dX7_rollback_99 : decode cX7_rollback 99 = .ok (.iaload, 1) := by decide +kernel
theorem dX7_rollback_100 : decode cX7_rollback 100 = .ok (.iconst 1, 1) := by decide +kernel
theorem dX7_rollback_101 : decode cX7_rollback 101 = .ok (.isub, 1) := by decide +kernel
theorem dX7_rollback_102 : decode cX7_rollback 102 = .ok (.iastore, 1) := by decide +kernel
theorem dX7_rollback_103 : decode cX7_rollback 103 = .ok (.iinc 3 1, 3) := by decide +kernel
theorem dX7_rollback_106 : decode cX7_rollback 106 = .ok (.goto (-68), 3) := by decide +kernel
theorem dX7_rollback_109 : decode cX7_rollback 109 = .ok (.aload_n 0, 1) := by decide +kernel
theorem dX7_rollback_110 : decode cX7_rollback 110 = .ok (.getfield 7, 3) := by decide +kernel
theorem dX7_rollback_113 : decode cX7_rollback 113 = .ok (.iload_n 1, 1) := by decide +kernel
theorem dX7_rollback_114 : decode cX7_rollback 114 = .ok (.iconst 1, 1) := by decide +kernel
theorem dX7_rollback_115 : decode cX7_rollback 115 = .ok (.invokestatic 49, 3) := by decide +kernel
theorem dX7_rollback_118 : decode cX7_rollback 118 = .ok (.iconst 0, 1) := by decide +kernel
theorem dX7_rollback_119 : decode cX7_rollback 119 = .ok (.iastore, 1) := by decide +kernel
theorem dX7_rollback_120 : decode cX7_rollback 120 = .ok (.aload_n 0, 1) := by decide +kernel
theorem dX7_rollback_121 : decode cX7_rollback 121 = .ok (.getfield 7, 3) := by decide +kernel
theorem dX7_rollback_124 : decode cX7_rollback 124 = .ok (.iload_n 1, 1) := by decide +kernel
theorem dX7_rollback_125 : decode cX7_rollback 125 = .ok (.iconst 0, 1) := by decide +kernel
theorem dX7_rollback_126 : decode cX7_rollback 126 = .ok (.invokestatic 49, 3) := by decide +kernel
theorem dX7_rollback_129 : decode cX7_rollback 129 = .ok (.dup2, 1) := by decide +kernel
theorem dX7_rollback_130 : decode cX7_rollback 130 = .ok (.iaload, 1) := by decide +kernel
theorem dX7_rollback_131 : decode cX7_rollback 131 = .ok (.iconst 1, 1) := by decide +kernel
theorem dX7_rollback_132 : decode cX7_rollback 132 = .ok (.isub, 1) := by decide +kernel
theorem dX7_rollback_133 : decode cX7_rollback 133 = .ok (.iastore, 1) := by decide +kernel
theorem dX7_rollback_134 : decode cX7_rollback 134 = .ok (.aload_n 0, 1) := by decide +kernel
theorem dX7_rollback_135 : decode cX7_rollback 135 = .ok (.iload_n 1, 1) := by decide +kernel
theorem dX7_rollback_136 : decode cX7_rollback 136 = .ok (.invokevirtual 62, 3) := by decide +kernel
theorem dX7_rollback_139 : decode cX7_rollback 139 = .ok (.ireturn, 1) := by decide +kernel
set_option maxRecDepth 20000 in
theorem ggX7_isThread_X7_in : GoodIn wsX7_isThread wsX7_in := goodIn_r _ [4] (by decide +kernel) (by decide +kernel)
set_option maxRecDepth 20000 in
theorem gX7_isThread_X7_in : GoodIn wsX7_isThread (va_wsS RX7 45 yX7_in wsX7_in) := goodIn_app (goodIn_of _ (by decide +kernel)) ggX7_isThread_X7_in
theorem dX7_isThread_0 : decode cX7_isThread 0 = .ok (.iload_n 0, 1) := by decide +kernel
theorem dX7_isThread_1 : decode cX7_isThread 1 = .ok (.iconst 0, 1) := by decide +kernel
theorem dX7_isThread_2 : decode cX7_isThread 2 = .ok (.iconst 3, 1) := by decide +kernel
theorem dX7_isThread_3 : decode cX7_isThread 3 = .ok (.invokestatic 45, 3) := by decide +kernel
theorem dX7_isThread_6 : decode cX7_isThread 6 = .ok (.ireturn, 1) := by decide +kernel
set_option maxRecDepth 20000 in
theorem ggX7_call_X7_isThread : GoodIn wsX7_call wsX7_isThread := goodIn_r _ [11, 12, 13, 10, 14] (by decide +kernel) (by decide +kernel)
set_option maxRecDepth 20000 in
theorem gX7_call_X7_isThread : GoodIn wsX7_call (va_wsS RX7 103 yX7_isThread wsX7_isThread) := goodIn_app (goodIn_of _ (by decide +kernel)) ggX7_call_X7_isThread
set_option maxRecDepth 20000 in
theorem ggX7_call_X7_isClass : GoodIn wsX7_call wsX7_isClass := goodIn_r _ [18, 19, 12, 13, 10, 14, 32, 33, 34, 35, 36, 37, 38, 39, 40, 41, 42, 43] (by decide +kernel) (by decide +kernel)
set_option maxRecDepth 20000 in
theorem gX7_call_X7_isClass : GoodIn wsX7_call (wsV RX7 58 RX7 yX7_isClass wsX7_isClass) := goodIn_app (goodIn_of _ (by decide +kernel)) ggX7_call_X7_isClass
set_option maxRecDepth 20000 in
theorem ggX7_call_X7_current : GoodIn wsX7_call wsX7_current := goodIn_r _ [23, 24, 25, 26, 10, 27, 28, 29, 30, 31, 32, 33, 34, 35, 36, 37, 38, 39, 40, 41, 42, 43] (by decide +kernel) (by decide +kernel)
set_option maxRecDepth 20000 in
theorem gX7_call_X7_current : GoodIn wsX7_call (wsV RX7 62 RX7 yX7_current wsX7_current) := goodIn_app (goodIn_of _ (by decide +kernel)) ggX7_call_X7_current
theorem dX7_call_0 : decode cX7_call 0 = .ok (.iload_n 1, 1) := by decide +kernel
theorem dX7_call_1 : decode cX7_call 1 = .ok (.invokestatic 103, 3) := by decide +kernel
theorem dX7_call_4 : decode cX7_call 4 = .ok (.ifCond .ne 6, 3) := by decide +kernel
theorem dX7_call_7 : decode cX7_call 7 = .ok (.ldc 106, 2) := by decide +kernel
theorem dX7_call_9 : decode cX7_call 9 = .ok (.ireturn, 1) := by decide +kernel
theorem dX7_call_10 : decode cX7_call 10 = .ok (.aload_n 0, 1) := by decide +kernel
theorem dX7_call_11 : decode cX7_call 11 = .ok (.iload_n 2, 1) := by decide +kernel
theorem dX7_call_12 : decode cX7_call 12 = .ok (.invokevirtual 58, 3) := by decide +kernel
theorem dX7_call_15 : decode cX7_call 15 = .ok (.ifCond .ne 6, 3) := by decide +kernel
theorem dX7_call_18 : decode cX7_call 18 = .ok (.ldc 66, 2) := by decide +kernel
theorem dX7_call_20 : decode cX7_call 20 = .ok (.ireturn, 1) := by decide +kernel
theorem dX7_call_21 : decode cX7_call 21 = .ok (.aload_n 0, 1) := by decide +kernel
theorem dX7_call_22 : decode cX7_call 22 = .ok (.getfield 13, 3) := by decide +kernel
theorem dX7_call_25 : decode cX7_call 25 = .ok (.iload_n 1, 1) := by decide +kernel
theorem dX7_call_26 : decode cX7_call 26 = .ok (.iaload, 1) := by decide +kernel
theorem dX7_call_27 : decode cX7_call 27 = .ok (.bipush 8, 2) := by decide +kernel
theorem dX7_call_29 : decode cX7_call 29 = .ok (.if_icmp .ne 6, 3) := by decide +kernel
theorem dX7_call_32 : decode cX7_call 32 = .ok (.ldc 57, 2) := by decide +kernel
theorem dX7_call_34 : decode cX7_call 34 = .ok (.ireturn, 1) := by decide +kernel
theorem dX7_call_35 : decode cX7_call 35 = .ok (.bipush 8, 2) := by decide +kernel
theorem dX7_call_37 : decode cX7_call 37 = .ok (.iload_n 1, 1) := by decide +kernel
theorem dX7_call_38 : decode cX7_call 38 = .ok (.imul, 1) := by decide +kernel
theorem dX7_call_39 : decode cX7_call 39 = .ok (.aload_n 0, 1) := by decide +kernel
theorem dX7_call_40 : decode cX7_call 40 = .ok (.getfield 13, 3) := by decide +kernel
theorem dX7_call_43 : decode cX7_call 43 = .ok (.iload_n 1, 1) := by decide +kernel
theorem dX7_call_44 : decode cX7_call 44 = .ok (.iaload, 1) := by decide +kernel
theorem dX7_call_45 : decode cX7_call 45 = .ok (.iadd, 1) := by decide +kernel
theorem dX7_call_46 : decode cX7_call 46 = .ok (.istore_n 3, 1) := by decide +kernel
theorem dX7_call_47 : decode cX7_call 47 = .ok (.aload_n 0, 1) := by decide +kernel
theorem dX7_call_48 : decode cX7_call 48 = .ok (.getfield 16, 3) := by decide +kernel
theorem dX7_call_51 : decode cX7_call 51 = .ok (.iload_n 3, 1) := by decide +kernel
theorem dX7_call_52 : decode cX7_call 52 = .ok (.iload_n 2, 1) := by decide +kernel
theorem dX7_call_53 : decode cX7_call 53 = .ok (.iastore, 1) := by decide +kernel
theorem dX7_call_54 : decode cX7_call 54 = .ok (.aload_n 0, 1) := by decide +kernel
theorem dX7_call_55 : decode cX7_call 55 = .ok (.getfield 19, 3) := by decide +kernel
theorem dX7_call_58 : decode cX7_call 58 = .ok (.iload_n 3, 1) := by decide +kernel
theorem dX7_call_59 : decode cX7_call 59 = .ok (.aload_n 0, 1) := by decide +kernel
theorem dX7_call_60 : decode cX7_call 60 = .ok (.iload_n 2, 1) := by decide +kernel
theorem dX7_call_61 : decode cX7_call 61 = .ok (.invokevirtual 62, 3) := by decide +kernel
theorem dX7_call_64 : decode cX7_call 64 = .ok (.iastore, 1) := by decide +kernel
theorem dX7_call_65 : decode cX7_call 65 = .ok (.aload_n 0, 1) := by decide +kernel
theorem dX7_call_66 : decode cX7_call 66 = .ok (.getfield 22, 3) := by decide +kernel
theorem dX7_call_69 : decode cX7_call 69 = .ok (.iload_n 3, 1) := by decide +kernel
theorem dX7_call_70 : decode cX7_call 70 = .ok (.iconst 0, 1) := by decide +kernel
theorem dX7_call_71 : decode cX7_call 71 = .ok (.iastore, 1) := by decide +kernel
theorem dX7_call_72 : decode cX7_call 72 = .ok (.aload_n 0, 1) := by decide +kernel
theorem dX7_call_73 : decode cX7_call 73 = .ok (.getfield 13, 3) := by decide +kernel
theorem dX7_call_76 : decode cX7_call 76 = .ok (.iload_n 1, 1) := by decide +kernel
theorem dX7_call_77 : decode cX7_call 77 = .ok (.dup2, 1) := by decide +kernel
theorem dX7_call_78 : decode cX7_call 78 = .ok (.iaload, 1) := by decide +kernel
theorem dX7_call_79 : decode cX7_call 79 = .ok (.iconst 1, 1) := by decide +kernel
theorem dX7_call_80 : decode cX7_call 80 = .ok (.iadd, 1) := by decide +kernel
theorem dX7_call_81 : decode cX7_call 81 = .ok (.iastore, 1) := by decide +kernel
theorem dX7_call_82 : decode cX7_call 82 = .ok (.aload_n 0, 1) := by decide +kernel
theorem dX7_call_83 : decode cX7_call 83 = .ok (.getfield 13, 3) := by decide +kernel
theorem dX7_call_86 : decode cX7_call 86 = .ok (.iload_n 1, 1) := by decide +kernel
theorem dX7_call_87 : decode cX7_call 87 = .ok (.iaload, 1) := by decide +kernel
theorem dX7_call_88 : decode cX7_call 88 = .ok (.ireturn, 1) := by decide +kernel
set_option maxRecDepth 20000 in
theorem ggX7_finish_X7_isThread : GoodIn wsX7_finish wsX7_isThread := goodIn_r _ [7, 8, 9, 6, 10] (by decide +kernel) (by decide +kernel)
set_option maxRecDepth 20000 in
theorem gX7_finish_X7_isThread : GoodIn wsX7_finish (va_wsS RX7 103 yX7_isThread wsX7_isThread) := goodIn_app (goodIn_of _ (by decide +kernel)) ggX7_finish_X7_isThread
theorem dX7_finish_0 : decode cX7_finish 0 = .ok (.iload_n 1, 1) := by decide +kernel
theorem dX7_finish_1 : decode cX7_finish 1 = .ok (.invokestatic 103, 3) := by decide +kernel
theorem dX7_finish_4 : decode cX7_finish 4 = .ok (.ifCond .ne 6, 3) := by decide +kernel
theorem dX7_finish_7 : decode cX7_finish 7 = .ok (.ldc 106, 2) := by decide +kernel
theorem dX7_finish_9 : decode cX7_finish 9 = .ok (.ireturn, 1) := by decide +kernel
theorem dX7_finish_10 : decode cX7_finish 10 = .ok (.aload_n 0, 1) := by decide +kernel
theorem dX7_finish_11 : decode cX7_finish 11 = .ok (.getfield 13, 3) := by decide +kernel
theorem dX7_finish_14 : decode cX7_finish 14 = .ok (.iload_n 1, 1) := by decide +kernel
theorem dX7_finish_15 : decode cX7_finish 15 = .ok (.iaload, 1) := by decide +kernel
theorem dX7_finish_16 : decode cX7_finish 16 = .ok (.ifCond .ne 6, 3) := by decide +kernel
theorem dX7_finish_19 : decode cX7_finish 19 = .ok (.ldc 107, 2) := by decide +kernel
theorem dX7_finish_21 : decode cX7_finish 21 = .ok (.ireturn, 1) := by decide +kernel
theorem dX7_finish_22 : decode cX7_finish 22 = .ok (.aload_n 0, 1) := by decide +kernel
theorem dX7_finish_23 : decode cX7_finish 23 = .ok (.getfield 13, 3) := by decide +kernel
theorem dX7_finish_26 : decode cX7_finish 26 = .ok (.iload_n 1, 1) := by decide +kernel
theorem dX7_finish_27 : decode cX7_finish 27 = .ok (.dup2, 1) := by decide +kernel
theorem dX7_finish_28 : decode cX7_finish 28 = .ok (.iaload, 1) := by decide +kernel
theorem dX7_finish_29 : decode cX7_finish 29 = .ok (.iconst 1, 1) := by decide +kernel
theorem dX7_finish_30 : decode cX7_finish 30 = .ok (.isub, 1) := by decide +kernel
theorem dX7_finish_31 : decode cX7_finish 31 = .ok (.iastore, 1) := by decide +kernel
theorem dX7_finish_32 : decode cX7_finish 32 = .ok (.aload_n 0, 1) := by decide +kernel
theorem dX7_finish_33 : decode cX7_finish 33 = .ok (.getfield 13, 3) := by decide +kernel
theorem dX7_finish_36 : decode cX7_finish 36 = .ok (.iload_n 1, 1) := by decide +kernel
theorem dX7_finish_37 : decode cX7_finish 37 = .ok (.iaload, 1) := by decide +kernel
theorem dX7_finish_38 : decode cX7_finish 38 = .ok (.ireturn, 1) := by decide +kernel
set_option maxRecDepth 20000 in
theorem ggX7_depth_X7_isThread : GoodIn wsX7_depth wsX7_isThread := goodIn_r _ [6, 7, 8, 5, 9] (by decide +kernel) (by decide +kernel)
set_option maxRecDepth 20000 in
theorem gX7_depth_X7_isThread : GoodIn wsX7_depth (va_wsS RX7 103 yX7_isThread wsX7_isThread) := goodIn_app (goodIn_of _ (by decide +kernel)) ggX7_depth_X7_isThread
theorem dX7_depth_0 : decode cX7_depth 0 = .ok (.iload_n 1, 1) := by decide +kernel
theorem dX7_depth_1 : decode cX7_depth 1 = .ok (.invokestatic 103, 3) := by decide +kernel
theorem dX7_depth_4 : decode cX7_depth 4 = .ok (.ifCond .eq 12, 3) := by decide +kernel
theorem dX7_depth_7 : decode cX7_depth 7 = .ok (.aload_n 0, 1) := by decide +kernel
theorem dX7_depth_8 : decode cX7_depth 8 = .ok (.getfield 13, 3) := by decide +kernel
theorem dX7_depth_11 : decode cX7_depth 11 = .ok (.iload_n 1, 1) := by decide +kernel
theorem dX7_depth_12 : decode cX7_depth 12 = .ok (.iaload, 1) := by decide +kernel
theorem dX7_depth_13 : decode cX7_depth 13 = .ok (.goto 5, 3) := by decide +kernel
theorem dX7_depth_16 : decode cX7_depth 16 = .ok (.ldc 106, 2) := by decide +kernel
theorem dX7_depth_18 : decode cX7_depth 18 = .ok (.ireturn, 1) := by decide +kernel
set_option maxRecDepth 20000 in
theorem ggX7_frameClass_X7_isThread : GoodIn wsX7_frameClass wsX7_isThread := goodIn_r _ [8, 9, 10, 7, 11] (by decide +kernel) (by decide +kernel)
set_option maxRecDepth 20000 in
theorem gX7_frameClass_X7_isThread : GoodIn wsX7_frameClass (va_wsS RX7 103 yX7_isThread wsX7_isThread) := goodIn_app (goodIn_of _ (by decide +kernel)) ggX7_frameClass_X7_isThread
set_option maxRecDepth 20000 in
theorem ggX7_frameClass_X7_in : GoodIn wsX7_frameClass wsX7_in := goodIn_r _ [11] (by decide +kernel) (by decide +kernel)
set_option maxRecDepth 20000 in
theorem gX7_frameClass_X7_in : GoodIn wsX7_frameClass (va_wsS RX7 45 yX7_in wsX7_in) := goodIn_app (goodIn_of _ (by decide +kernel)) ggX7_frameClass_X7_in
theorem dX7_frameClass_0 : decode cX7_frameClass 0 = .ok (.iload_n 1, 1) := by decide +kernel
theorem dX7_frameClass_1 : decode cX7_frameClass 1 = .ok (.invokestatic 103, 3) := by decide +kernel
theorem dX7_frameClass_4 : decode cX7_frameClass 4 = .ok (.ifCond .ne 6, 3) := by decide +kernel
theorem dX7_frameClass_7 : decode cX7_frameClass 7 = .ok (.ldc 106, 2) := by decide +kernel
theorem dX7_frameClass_9 : decode cX7_frameClass 9 = .ok (.ireturn, 1) := by decide +kernel
theorem dX7_frameClass_10 : decode cX7_frameClass 10 = .ok (.iload_n 2, 1) := by decide +kernel
theorem dX7_frameClass_11 : decode cX7_frameClass 11 = .ok (.iconst 0, 1) := by decide +kernel
theorem dX7_frameClass_12 : decode cX7_frameClass 12 = .ok (.aload_n 0, 1) := by decide +kernel
theorem dX7_frameClass_13 : decode cX7_frameClass 13 = .ok (.getfield 13, 3) := by decide +kernel
theorem dX7_frameClass_16 : decode cX7_frameClass 16 = .ok (.iload_n 1, 1) := by decide +kernel
theorem dX7_frameClass_17 : decode cX7_frameClass 17 = .ok (.iaload, 1) := by decide +kernel
theorem dX7_frameClass_18 : decode cX7_frameClass 18 = .ok (.iconst 1, 1) := by decide +kernel
theorem dX7_frameClass_19 : decode cX7_frameClass 19 = .ok (.isub, 1) := by decide +kernel
theorem dX7_frameClass_20 : decode cX7_frameClass 20 = .ok (.invokestatic 45, 3) := by decide +kernel
theorem dX7_frameClass_23 : decode cX7_frameClass 23 = .ok (.ifCond .eq 17, 3) := by decide +kernel
theorem dX7_frameClass_26 : decode cX7_frameClass 26 = .ok (.aload_n 0, 1) := by decide +kernel
theorem dX7_frameClass_27 : decode cX7_frameClass 27 = .ok (.getfield 16, 3) := by decide +kernel
theorem dX7_frameClass_30 : decode cX7_frameClass 30 = .ok (.bipush 8, 2) := by decide +kernel
theorem dX7_frameClass_32 : decode cX7_frameClass 32 = .ok (.iload_n 1, 1) := by decide +kernel
theorem dX7_frameClass_33 : decode cX7_frameClass 33 = .ok (.imul, 1) := by decide +kernel
theorem dX7_frameClass_34 : decode cX7_frameClass 34 = .ok (.iload_n 2, 1) := by decide +kernel
theorem dX7_frameClass_35 : decode cX7_frameClass 35 = .ok (.iadd, 1) := by decide +kernel
theorem dX7_frameClass_36 : decode cX7_frameClass 36 = .ok (.iaload, 1) := by decide +kernel
theorem dX7_frameClass_37 : decode cX7_frameClass 37 = .ok (.goto 5, 3) := by decide +kernel
theorem dX7_frameClass_40 : decode cX7_frameClass 40 = .ok (.ldc 107, 2) := by decide +kernel
theorem dX7_frameClass_42 : decode cX7_frameClass 42 = .ok (.ireturn, 1) := by decide +kernel
set_option maxRecDepth 20000 in
theorem ggX7_frameVersion_X7_isThread : GoodIn wsX7_frameVersion wsX7_isThread := goodIn_r _ [8, 9, 10, 7, 11] (by decide +kernel) (by decide +kernel)
set_option maxRecDepth 20000 in
theorem gX7_frameVersion_X7_isThread : GoodIn wsX7_frameVersion (va_wsS RX7 103 yX7_isThread wsX7_isThread) := goodIn_app (goodIn_of _ (by decide +kernel)) ggX7_frameVersion_X7_isThread
set_option maxRecDepth 20000 in
theorem ggX7_frameVersion_X7_in : GoodIn wsX7_frameVersion wsX7_in := goodIn_r _ [11] (by decide +kernel) (by decide +kernel)
set_option maxRecDepth 20000 in
theorem gX7_frameVersion_X7_in : GoodIn wsX7_frameVersion (va_wsS RX7 45 yX7_in wsX7_in) := goodIn_app (goodIn_of _ (by decide +kernel)) ggX7_frameVersion_X7_in
theorem dX7_frameVersion_0 : decode cX7_frameVersion 0 = .ok (.iload_n 1, 1) := by decide +kernel
theorem dX7_frameVersion_1 : decode cX7_frameVersion 1 = .ok (.invokestatic 103, 3) := by decide +kernel
theorem dX7_frameVersion_4 : decode cX7_frameVersion 4 = .ok (.ifCond .ne 6, 3) := by decide +kernel
theorem dX7_frameVersion_7 : decode cX7_frameVersion 7 = .ok (.ldc 106, 2) := by decide +kernel
theorem dX7_frameVersion_9 : decode cX7_frameVersion 9 = .ok (.ireturn, 1) := by decide +kernel
theorem dX7_frameVersion_10 : decode cX7_frameVersion 10 = .ok (.iload_n 2, 1) := by decide +kernel
theorem dX7_frameVersion_11 : decode cX7_frameVersion 11 = .ok (.iconst 0, 1) := by decide +kernel
theorem dX7_frameVersion_12 : decode cX7_frameVersion 12 = .ok (.aload_n 0, 1) := by decide +kernel
theorem dX7_frameVersion_13 : decode cX7_frameVersion 13 = .ok (.getfield 13, 3) := by decide +kernel
theorem dX7_frameVersion_16 : decode cX7_frameVersion 16 = .ok (.iload_n 1, 1) := by decide +kernel
theorem dX7_frameVersion_17 : decode cX7_frameVersion 17 = .ok (.iaload, 1) := by decide +kernel
theorem dX7_frameVersion_18 : decode cX7_frameVersion 18 = .ok (.iconst 1, 1) := by decide +kernel
theorem dX7_frameVersion_19 : decode cX7_frameVersion 19 = .ok (.isub, 1) := by decide +kernel
theorem dX7_frameVersion_20 : decode cX7_frameVersion 20 = .ok (.invokestatic 45, 3) := by decide +kernel
theorem dX7_frameVersion_23 : decode cX7_frameVersion 23 = .ok (.ifCond .eq 17, 3) := by decide +kernel
theorem dX7_frameVersion_26 : decode cX7_frameVersion 26 = .ok (.aload_n 0, 1) := by decide +kernel
theorem dX7_frameVersion_27 : decode cX7_frameVersion 27 = .ok (.getfield 19, 3) := by decide +kernel
theorem dX7_frameVersion_30 : decode cX7_frameVersion 30 = .ok (.bipush 8, 2) := by decide +kernel
theorem dX7_frameVersion_32 : decode cX7_frameVersion 32 = .ok (.iload_n 1, 1) := by decide +kernel
theorem dX7_frameVersion_33 : decode cX7_frameVersion 33 = .ok (.imul, 1) := by decide +kernel
theorem dX7_frameVersion_34 : decode cX7_frameVersion 34 = .ok (.iload_n 2, 1) := by decide +kernel
theorem dX7_frameVersion_35 : decode cX7_frameVersion 35 = .ok (.iadd, 1) := by decide +kernel
theorem dX7_frameVersion_36 : decode cX7_frameVersion 36 = .ok (.iaload, 1) := by decide +kernel
theorem dX7_frameVersion_37 : decode cX7_frameVersion 37 = .ok (.goto 5, 3) := by decide +kernel
theorem dX7_frameVersion_40 : decode cX7_frameVersion 40 = .ok (.ldc 107, 2) := by decide +kernel
theorem dX7_frameVersion_42 : decode cX7_frameVersion 42 = .ok (.ireturn, 1) := by decide +kernel
set_option maxRecDepth 20000 in
theorem ggX7_oldFrames_X7_isClass : GoodIn wsX7_oldFrames wsX7_isClass := goodIn_r _ [8, 9, 10, 11, 7, 12, 30, 31, 32, 33, 34, 35, 36, 37, 38, 39, 40, 41] (by decide +kernel) (by decide +kernel)
set_option maxRecDepth 20000 in
theorem gX7_oldFrames_X7_isClass : GoodIn wsX7_oldFrames (wsV RX7 58 RX7 yX7_isClass wsX7_isClass) := goodIn_app (goodIn_of _ (by decide +kernel)) ggX7_oldFrames_X7_isClass
set_option maxRecDepth 20000 in
theorem ggX7_oldFrames_X7_isThere : GoodIn wsX7_oldFrames wsX7_isThere := goodIn_r _ [16, 17, 30, 31, 32, 33, 34, 35, 36, 37, 38, 39, 40, 41] (by decide +kernel) (by decide +kernel)
set_option maxRecDepth 20000 in
theorem gX7_oldFrames_X7_isThere : GoodIn wsX7_oldFrames (wsV RX7 89 RX7 yX7_isThere wsX7_isThere) := goodIn_app (goodIn_of _ (by decide +kernel)) ggX7_oldFrames_X7_isThere
set_option maxRecDepth 20000 in
theorem ggX7_oldFrames_X7_current : GoodIn wsX7_oldFrames wsX7_current := goodIn_r _ [21, 22, 23, 24, 7, 25, 26, 27, 28, 29, 30, 31, 32, 33, 34, 35, 36, 37, 38, 39, 40, 41] (by decide +kernel) (by decide +kernel)
set_option maxRecDepth 20000 in
theorem gX7_oldFrames_X7_current : GoodIn wsX7_oldFrames (wsV RX7 62 RX7 yX7_current wsX7_current) := goodIn_app (goodIn_of _ (by decide +kernel)) ggX7_oldFrames_X7_current
theorem dX7_oldFrames_0 : decode cX7_oldFrames 0 = .ok (.aload_n 0, 1) := by decide +kernel
theorem dX7_oldFrames_1 : decode cX7_oldFrames 1 = .ok (.iload_n 1, 1) := by decide +kernel
theorem dX7_oldFrames_2 : decode cX7_oldFrames 2 = .ok (.invokevirtual 58, 3) := by decide +kernel
theorem dX7_oldFrames_5 : decode cX7_oldFrames 5 = .ok (.ifCond .ne 6, 3) := by decide +kernel
theorem dX7_oldFrames_8 : decode cX7_oldFrames 8 = .ok (.ldc 66, 2) := by decide +kernel
theorem dX7_oldFrames_10 : decode cX7_oldFrames 10 = .ok (.ireturn, 1) := by decide +kernel
theorem dX7_oldFrames_11 : decode cX7_oldFrames 11 = .ok (.iconst 0, 1) := by decide +kernel
theorem dX7_oldFrames_12 : decode cX7_oldFrames 12 = .ok (.istore_n 2, 1) := by decide +kernel
theorem dX7_oldFrames_13 : decode cX7_oldFrames 13 = .ok (.iconst 0, 1) := by decide +kernel
theorem dX7_oldFrames_14 : decode cX7_oldFrames 14 = .ok (.istore_n 3, 1) := by decide +kernel
theorem dX7_oldFrames_15 : decode cX7_oldFrames 15 = .ok (.iload_n 3, 1) := by decide +kernel
theorem dX7_oldFrames_16 : decode cX7_oldFrames 16 = .ok (.bipush 32, 2) := by decide +kernel
theorem dX7_oldFrames_18 : decode cX7_oldFrames 18 = .ok (.if_icmp .ge 49, 3) := by decide +kernel
theorem dX7_oldFrames_21 : decode cX7_oldFrames 21 = .ok (.iload_n 2, 1) := by decide +kernel
theorem dX7_oldFrames_22 : decode cX7_oldFrames 22 = .ok (.aload_n 0, 1) := by decide +kernel
theorem dX7_oldFrames_23 : decode cX7_oldFrames 23 = .ok (.iload_n 3, 1) := by decide +kernel
theorem dX7_oldFrames_24 : decode cX7_oldFrames 24 = .ok (.invokevirtual 89, 3) := by decide +kernel
theorem dX7_oldFrames_27 : decode cX7_oldFrames 27 = .ok (.ifCond .eq 31, 3) := by decide +kernel
theorem dX7_oldFrames_30 : decode cX7_oldFrames 30 = .ok (.aload_n 0, 1) := by decide +kernel
theorem dX7_oldFrames_31 : decode cX7_oldFrames 31 = .ok (.getfield 16, 3) := by decide +kernel
theorem dX7_oldFrames_34 : decode cX7_oldFrames 34 = .ok (.iload_n 3, 1) := by decide +kernel
theorem dX7_oldFrames_35 : decode cX7_oldFrames 35 = .ok (.iaload, 1) := by decide +kernel
theorem dX7_oldFrames_36 : decode cX7_oldFrames 36 = .ok (.iload_n 1, 1) := by decide +kernel
theorem dX7_oldFrames_37 : decode cX7_oldFrames 37 = .ok (.if_icmp .ne 21, 3) := by decide +kernel
theorem dX7_oldFrames_40 : decode cX7_oldFrames 40 = .ok (.aload_n 0, 1) := by decide +kernel
theorem dX7_oldFrames_41 : decode cX7_oldFrames 41 = .ok (.getfield 19, 3) := by decide +kernel
theorem dX7_oldFrames_44 : decode cX7_oldFrames 44 = .ok (.iload_n 3, 1) := by decide +kernel
theorem dX7_oldFrames_45 : decode cX7_oldFrames 45 = .ok (.iaload, 1) := by decide +kernel
theorem dX7_oldFrames_46 : decode cX7_oldFrames 46 = .ok (.aload_n 0, 1) := by decide +kernel
theorem dX7_oldFrames_47 : decode cX7_oldFrames 47 = .ok (.iload_n 1, 1) := by decide +kernel
theorem dX7_oldFrames_48 : decode cX7_oldFrames 48 = .ok (.invokevirtual 62, 3) := by decide +kernel
theorem dX7_oldFrames_51 : decode cX7_oldFrames 51 = .ok (.if_icmp .eq 7, 3) := by decide +kernel
theorem dX7_oldFrames_54 : decode cX7_oldFrames 54 = .ok (.iconst 1, 1) := by decide +kernel
theorem dX7_oldFrames_55 : decode cX7_oldFrames 55 = .ok (.goto 4, 3) := by decide +kernel
theorem dX7_oldFrames_58 : decode cX7_oldFrames 58 = .ok (.iconst 0, 1) := by decide +kernel
theorem dX7_oldFrames_59 : decode cX7_oldFrames 59 = .ok (.iadd, 1) := by decide +kernel
theorem dX7_oldFrames_60 : decode cX7_oldFrames 60 = .ok (.istore_n 2, 1) := by decide +kernel
theorem dX7_oldFrames_61 : decode cX7_oldFrames 61 = .ok (.iinc 3 1, 3) := by decide +kernel
theorem dX7_oldFrames_64 : decode cX7_oldFrames 64 = .ok (.goto (-49), 3) := by decide +kernel
theorem dX7_oldFrames_67 : decode cX7_oldFrames 67 = .ok (.iload_n 2, 1) := by decide +kernel
theorem dX7_oldFrames_68 : decode cX7_oldFrames 68 = .ok (.ireturn, 1) := by decide +kernel
theorem dX7_cell_0 : decode cX7_cell 0 = .ok (.bipush 64, 2) := by decide +kernel
theorem dX7_cell_2 : decode cX7_cell 2 = .ok (.iload_n 0, 1) := by decide +kernel
theorem dX7_cell_3 : decode cX7_cell 3 = .ok (.imul, 1) := by decide +kernel
theorem dX7_cell_4 : decode cX7_cell 4 = .ok (.bipush 8, 2) := by decide +kernel
theorem dX7_cell_6 : decode cX7_cell 6 = .ok (.iload_n 1, 1) := by decide +kernel
theorem dX7_cell_7 : decode cX7_cell 7 = .ok (.imul, 1) := by decide +kernel
theorem dX7_cell_8 : decode cX7_cell 8 = .ok (.iadd, 1) := by decide +kernel
theorem dX7_cell_9 : decode cX7_cell 9 = .ok (.iload_n 2, 1) := by decide +kernel
theorem dX7_cell_10 : decode cX7_cell 10 = .ok (.iadd, 1) := by decide +kernel
theorem dX7_cell_11 : decode cX7_cell 11 = .ok (.ireturn, 1) := by decide +kernel
set_option maxRecDepth 20000 in
theorem ggX7_isObject_X7_in : GoodIn wsX7_isObject wsX7_in := goodIn_r _ [6] (by decide +kernel) (by decide +kernel)
set_option maxRecDepth 20000 in
theorem gX7_isObject_X7_in : GoodIn wsX7_isObject (va_wsS RX7 45 yX7_in wsX7_in) := goodIn_app (goodIn_of _ (by decide +kernel)) ggX7_isObject_X7_in
theorem dX7_isObject_0 : decode cX7_isObject 0 = .ok (.iload_n 1, 1) := by decide +kernel
theorem dX7_isObject_1 : decode cX7_isObject 1 = .ok (.iconst 0, 1) := by decide +kernel
theorem dX7_isObject_2 : decode cX7_isObject 2 = .ok (.aload_n 0, 1) := by decide +kernel
theorem dX7_isObject_3 : decode cX7_isObject 3 = .ok (.getfield 96, 3) := by decide +kernel
theorem dX7_isObject_6 : decode cX7_isObject 6 = .ok (.iconst 1, 1) := by decide +kernel
theorem dX7_isObject_7 : decode cX7_isObject 7 = .ok (.isub, 1) := by decide +kernel
theorem dX7_isObject_8 : decode cX7_isObject 8 = .ok (.invokestatic 45, 3) := by decide +kernel
theorem dX7_isObject_11 : decode cX7_isObject 11 = .ok (.ifCond .eq 16, 3) := by decide +kernel
theorem dX7_isObject_14 : decode cX7_isObject 14 = .ok (.aload_n 0, 1) := by decide +kernel
theorem dX7_isObject_15 : decode cX7_isObject 15 = .ok (.getfield 25, 3) := by decide +kernel
theorem dX7_isObject_18 : decode cX7_isObject 18 = .ok (.iload_n 1, 1) := by decide +kernel
theorem dX7_isObject_19 : decode cX7_isObject 19 = .ok (.baload, 1) := by decide +kernel
theorem dX7_isObject_20 : decode cX7_isObject 20 = .ok (.ifCond .eq 7, 3) := by decide +kernel
theorem dX7_isObject_23 : decode cX7_isObject 23 = .ok (.iconst 1, 1) := by decide +kernel
theorem dX7_isObject_24 : decode cX7_isObject 24 = .ok (.goto 4, 3) := by decide +kernel
theorem dX7_isObject_27 : decode cX7_isObject 27 = .ok (.iconst 0, 1) := by decide +kernel
theorem dX7_isObject_28 : decode cX7_isObject 28 = .ok (.ireturn, 1) := by decide +kernel
set_option maxRecDepth 20000 in
theorem ggX7_create_X7_isThread : GoodIn wsX7_create wsX7_isThread := goodIn_r _ [17, 18, 19, 16, 20] (by decide +kernel) (by decide +kernel)
set_option maxRecDepth 20000 in
theorem gX7_create_X7_isThread : GoodIn wsX7_create (va_wsS RX7 103 yX7_isThread wsX7_isThread) := goodIn_app (goodIn_of _ (by decide +kernel)) ggX7_create_X7_isThread
set_option maxRecDepth 20000 in
theorem ggX7_create_X7_cell : GoodIn wsX7_create wsX7_cell := goodIn_r _ [23] (by decide +kernel) (by decide +kernel)
set_option maxRecDepth 20000 in
theorem gX7_create_X7_cell : GoodIn wsX7_create (va_wsS RX7 108 yX7_cell wsX7_cell) := goodIn_app (goodIn_of _ (by decide +kernel)) ggX7_create_X7_cell
theorem dX7_create_0 : decode cX7_create 0 = .ok (.iload_n 1, 1) := by decide +kernel
theorem dX7_create_1 : decode cX7_create 1 = .ok (.invokestatic 103, 3) := by decide +kernel
theorem dX7_create_4 : decode cX7_create 4 = .ok (.ifCond .ne 6, 3) := by decide +kernel
theorem dX7_create_7 : decode cX7_create 7 = .ok (.ldc 106, 2) := by decide +kernel
theorem dX7_create_9 : decode cX7_create 9 = .ok (.ireturn, 1) := by decide +kernel
theorem dX7_create_10 : decode cX7_create 10 = .ok (.aload_n 0, 1) := by decide +kernel
theorem dX7_create_11 : decode cX7_create 11 = .ok (.getfield 13, 3) := by decide +kernel
theorem dX7_create_14 : decode cX7_create 14 = .ok (.iload_n 1, 1) := by decide +kernel
theorem dX7_create_15 : decode cX7_create 15 = .ok (.iaload, 1) := by decide +kernel
theorem dX7_create_16 : decode cX7_create 16 = .ok (.ifCond .ne 6, 3) := by decide +kernel
theorem dX7_create_19 : decode cX7_create 19 = .ok (.ldc 107, 2) := by decide +kernel
theorem dX7_create_21 : decode cX7_create 21 = .ok (.ireturn, 1) := by decide +kernel
theorem dX7_create_22 : decode cX7_create 22 = .ok (.aload_n 0, 1) := by decide +kernel
theorem dX7_create_23 : decode cX7_create 23 = .ok (.getfield 96, 3) := by decide +kernel
theorem dX7_create_26 : decode cX7_create 26 = .ok (.bipush 24, 2) := by decide +kernel
theorem dX7_create_28 : decode cX7_create 28 = .ok (.if_icmp .ne 6, 3) := by decide +kernel
theorem dX7_create_31 : decode cX7_create 31 = .ok (.ldc 57, 2) := by decide +kernel
theorem dX7_create_33 : decode cX7_create 33 = .ok (.ireturn, 1) := by decide +kernel
theorem dX7_create_34 : decode cX7_create 34 = .ok (.bipush 8, 2) := by decide +kernel
theorem dX7_create_36 : decode cX7_create 36 = .ok (.iload_n 1, 1) := by decide +kernel
theorem dX7_create_37 : decode cX7_create 37 = .ok (.imul, 1) := by decide +kernel
theorem dX7_create_38 : decode cX7_create 38 = .ok (.aload_n 0, 1) := by decide +kernel
theorem dX7_create_39 : decode cX7_create 39 = .ok (.getfield 13, 3) := by decide +kernel
theorem dX7_create_42 : decode cX7_create 42 = .ok (.iload_n 1, 1) := by decide +kernel
theorem dX7_create_43 : decode cX7_create 43 = .ok (.iaload, 1) := by decide +kernel
theorem dX7_create_44 : decode cX7_create 44 = .ok (.iadd, 1) := by decide +kernel
theorem dX7_create_45 : decode cX7_create 45 = .ok (.iconst 1, 1) := by decide +kernel
theorem dX7_create_46 : decode cX7_create 46 = .ok (.isub, 1) := by decide +kernel
theorem dX7_create_47 : decode cX7_create 47 = .ok (.istore_n 2, 1) := by decide +kernel
theorem dX7_create_48 : decode cX7_create 48 = .ok (.aload_n 0, 1) := by decide +kernel
theorem dX7_create_49 : decode cX7_create 49 = .ok (.getfield 96, 3) := by decide +kernel
theorem dX7_create_52 : decode cX7_create 52 = .ok (.istore_n 3, 1) := by decide +kernel
theorem dX7_create_53 : decode cX7_create 53 = .ok (.aload_n 0, 1) := by decide +kernel
theorem dX7_create_54 : decode cX7_create 54 = .ok (.dup, 1) := by decide +kernel
theorem dX7_create_55 : decode cX7_create 55 = .ok (.getfield 96, 3) := by decide +kernel
theorem dX7_create_58 : decode cX7_create 58 = .ok (.iconst 1, 1) := by decide +kernel
theorem dX7_create_59 : decode cX7_create 59 = .ok (.iadd, 1) := by decide +kernel
theorem dX7_create_60 : decode cX7_create 60 = .ok (.putfield 96, 3) := by decide +kernel
theorem dX7_create_63 : decode cX7_create 63 = .ok (.aload_n 0, 1) := by decide +kernel
theorem dX7_create_64 : decode cX7_create 64 = .ok (.getfield 25, 3) := by decide +kernel
theorem dX7_create_67 : decode cX7_create 67 = .ok (.iload_n 3, 1) := by decide +kernel
theorem dX7_create_68 : decode cX7_create 68 = .ok (.iconst 1, 1) := by decide +kernel
theorem dX7_create_69 : decode cX7_create 69 = .ok (.bastore, 1) := by decide +kernel
theorem dX7_create_70 : decode cX7_create 70 = .ok (.aload_n 0, 1) := by decide +kernel
theorem dX7_create_71 : decode cX7_create 71 = .ok (.getfield 29, 3) := by decide +kernel
theorem dX7_create_74 : decode cX7_create 74 = .ok (.iload_n 3, 1) := by decide +kernel
theorem dX7_create_75 : decode cX7_create 75 = .ok (.aload_n 0, 1) := by decide +kernel
theorem dX7_create_76 : decode cX7_create 76 = .ok (.getfield 16, 3) := by decide +kernel
theorem dX7_create_79 : decode cX7_create 79 = .ok (.iload_n 2, 1) := by decide +kernel
theorem dX7_create_80 : decode cX7_create 80 = .ok (.iaload, 1) := by decide +kernel
theorem dX7_create_81 : decode cX7_create 81 = .ok (.iastore, 1) := by decide +kernel
theorem dX7_create_82 : decode cX7_create 82 = .ok (.aload_n 0, 1) := by decide +kernel
theorem dX7_create_83 : decode cX7_create 83 = .ok (.getfield 32, 3) := by decide +kernel
theorem dX7_create_86 : decode cX7_create 86 = .ok (.iload_n 3, 1) := by decide +kernel
theorem dX7_create_87 : decode cX7_create 87 = .ok (.aload_n 0, 1) := by decide +kernel
theorem dX7_create_88 : decode cX7_create 88 = .ok (.getfield 19, 3) := by decide +kernel
theorem dX7_create_91 : decode cX7_create 91 = .ok (.iload_n 2, 1) := by decide +kernel
theorem dX7_create_92 : decode cX7_create 92 = .ok (.iaload, 1) := by decide +kernel
theorem dX7_create_93 : decode cX7_create 93 = .ok (.iastore, 1) := by decide +kernel
theorem dX7_create_94 : decode cX7_create 94 = .ok (.aload_n 0, 1) := by decide +kernel
theorem dX7_create_95 : decode cX7_create 95 = .ok (.getfield 35, 3) := by decide +kernel
theorem dX7_create_98 : decode cX7_create 98 = .ok (.iload_n 3, 1) := by decide +kernel
theorem dX7_create_99 : decode cX7_create 99 = .ok (.aload_n 0, 1) := by decide +kernel
theorem dX7_create_100 : decode cX7_create 100 = .ok (.getfield 19, 3) := by decide +kernel
theorem dX7_create_103 : decode cX7_create 103 = .ok (.iload_n 2, 1) := by decide +kernel
theorem dX7_create_104 : decode cX7_create 104 = .ok (.iaload, 1) := by decide +kernel
theorem dX7_create_105 : decode cX7_create 105 = .ok (.iastore, 1) := by decide +kernel
theorem dX7_create_106 : decode cX7_create 106 = .ok (.iconst 0, 1) := by decide +kernel
theorem dX7_create_107 : decode cX7_create 107 = .ok (.istore 4, 2) := by decide +kernel
theorem dX7_create_109 : decode cX7_create 109 = .ok (.iload 4, 2) := by decide +kernel
theorem dX7_create_111 : decode cX7_create 111 = .ok (.bipush 8, 2) := by decide +kernel
theorem dX7_create_113 : decode cX7_create 113 = .ok (.if_icmp .ge 27, 3) := by decide +kernel
theorem dX7_create_116 : decode cX7_create 116 = .ok (.aload_n 0, 1) := by decide +kernel
theorem dX7_create_117 : decode cX7_create 117 = .ok (.getfield 38, 3) := by decide +kernel
theorem dX7_create_120 : decode cX7_create 120 = .ok (.iload_n 3, 1) := by decide +kernel
theorem dX7_create_121 : decode cX7_create 121 = .ok (.aload_n 0, 1) := by decide +kernel
theorem dX7_create_122 : decode cX7_create 122 = .ok (.getfield 32, 3) := by decide +kernel
theorem dX7_create_125 : decode cX7_create 125 = .ok (.iload_n 3, 1) := by decide +kernel
theorem dX7_create_126 : decode cX7_create 126 = .ok (.iaload, 1) := by decide +kernel
theorem dX7_create_127 : decode cX7_create 127 = .ok (.iload 4, 2) := by decide +kernel
theorem dX7_create_129 : decode cX7_create 129 = .ok (.invokestatic 108, 3) := by decide +kernel
theorem dX7_create_132 : decode cX7_create 132 = .ok (.iconst 0, 1) := by decide +kernel
theorem dX7_create_133 : decode cX7_create 133 = .ok (.iastore, 1) := by decide +kernel
theorem dX7_create_134 : decode cX7_create 134 = .ok (.iinc 4 1, 3) := by decide +kernel
theorem dX7_create_137 : decode cX7_create 137 = .ok (.goto (-28), 3) := by decide +kernel
theorem dX7_create_140 : decode cX7_create 140 = .ok (.aload_n 0, 1) := by decide +kernel
theorem dX7_create_141 : decode cX7_create 141 = .ok (.getfield 22, 3) := by decide +kernel
theorem dX7_create_144 : decode cX7_create 144 = .ok (.iload_n 2, 1) := by decide +kernel
theorem dX7_create_145 : decode cX7_create 145 = .ok (.dup2, 1) := by decide +kernel
theorem dX7_create_146 : decode cX7_create 146 = .ok (.iaload, 1) := by decide +kernel
theorem dX7_create_147 : decode cX7_create 147 = .ok (.iconst 1, 1) := by decide +kernel
theorem dX7_create_148 : decode cX7_create 148 = .ok (.iload_n 3, 1) := by decide +kernel
theorem dX7_create_149 : decode cX7_create 149 = .ok (.ishl, 1) := by decide +kernel
theorem dX7_create_150 : decode cX7_create 150 = .ok (.ior, 1) := by decide +kernel
theorem dX7_create_151 : decode cX7_create 151 = .ok (.iastore, 1) := by decide +kernel
theorem dX7_create_152 : decode cX7_create 152 = .ok (.iload_n 3, 1) := by decide +kernel
theorem dX7_create_153 : decode cX7_create 153 = .ok (.ireturn, 1) := by decide +kernel
set_option maxRecDepth 20000 in
theorem ggX7_convertOnce_X7_cell : GoodIn wsX7_convertOnce wsX7_cell := goodIn_r _ [13] (by decide +kernel) (by decide +kernel)
set_option maxRecDepth 20000 in
theorem gX7_convertOnce_X7_cell : GoodIn wsX7_convertOnce (va_wsS RX7 108 yX7_cell wsX7_cell) := goodIn_app (goodIn_of _ (by decide +kernel)) ggX7_convertOnce_X7_cell
set_option maxRecDepth 20000 in
theorem ggX7_convertOnce_X7_of : GoodIn wsX7_convertOnce wsX7_of := goodIn_r _ [17, 3, 18, 19, 12, 20, 24, 25, 26, 27, 28, 29, 30, 31, 32, 33, 34, 35] (by decide +kernel) (by decide +kernel)
set_option maxRecDepth 20000 in
theorem gX7_convertOnce_X7_of : GoodIn wsX7_convertOnce (wsV RX7 53 RX7 yX7_of wsX7_of) := goodIn_app (goodIn_of _ (by decide +kernel)) ggX7_convertOnce_X7_of
set_option maxRecDepth 20000 in
theorem ggX7_convertOnce_X7_at : GoodIn wsX7_convertOnce wsX7_at := goodIn_r _ [20] (by decide +kernel) (by decide +kernel)
set_option maxRecDepth 20000 in
theorem gX7_convertOnce_X7_at : GoodIn wsX7_convertOnce (va_wsS RX7 49 yX7_at wsX7_at) := goodIn_app (goodIn_of _ (by decide +kernel)) ggX7_convertOnce_X7_at
set_option maxRecDepth 20000 in
theorem ggX7_convertOnce_X7_in : GoodIn wsX7_convertOnce wsX7_in := goodIn_r _ [23] (by decide +kernel) (by decide +kernel)
set_option maxRecDepth 20000 in
theorem gX7_convertOnce_X7_in : GoodIn wsX7_convertOnce (va_wsS RX7 45 yX7_in wsX7_in) := goodIn_app (goodIn_of _ (by decide +kernel)) ggX7_convertOnce_X7_in
theorem dX7_convertOnce_0 : decode cX7_convertOnce 0 = .ok (.aload_n 0, 1) := by decide +kernel
theorem dX7_convertOnce_1 : decode cX7_convertOnce 1 = .ok (.getfield 29, 3) := by decide +kernel
theorem dX7_convertOnce_4 : decode cX7_convertOnce 4 = .ok (.iload_n 1, 1) := by decide +kernel
theorem dX7_convertOnce_5 : decode cX7_convertOnce 5 = .ok (.iaload, 1) := by decide +kernel
theorem dX7_convertOnce_6 : decode cX7_convertOnce 6 = .ok (.istore_n 3, 1) := by decide +kernel
theorem dX7_convertOnce_7 : decode cX7_convertOnce 7 = .ok (.iconst 0, 1) := by decide +kernel
theorem dX7_convertOnce_8 : decode cX7_convertOnce 8 = .ok (.istore 4, 2) := by decide +kernel
theorem dX7_convertOnce_10 : decode cX7_convertOnce 10 = .ok (.iload 4, 2) := by decide +kernel
theorem dX7_convertOnce_12 : decode cX7_convertOnce 12 = .ok (.bipush 8, 2) := by decide +kernel
theorem dX7_convertOnce_14 : decode cX7_convertOnce 14 = .ok (.if_icmp .ge 35, 3) := by decide +kernel
theorem dX7_convertOnce_17 : decode cX7_convertOnce 17 = .ok (.aload_n 0, 1) := by decide +kernel
theorem dX7_convertOnce_18 : decode cX7_convertOnce 18 = .ok (.getfield 38, 3) := by decide +kernel
theorem dX7_convertOnce_21 : decode cX7_convertOnce 21 = .ok (.iload_n 1, 1) := by decide +kernel
theorem dX7_convertOnce_22 : decode cX7_convertOnce 22 = .ok (.iload_n 2, 1) := by decide +kernel
theorem dX7_convertOnce_23 : decode cX7_convertOnce 23 = .ok (.iload 4, 2) := by decide +kernel
theorem dX7_convertOnce_25 : decode cX7_convertOnce 25 = .ok (.invokestatic 108, 3) := by decide +kernel
theorem dX7_convertOnce_28 : decode cX7_convertOnce 28 = .ok (.aload_n 0, 1) := by decide +kernel
theorem dX7_convertOnce_29 : decode cX7_convertOnce 29 = .ok (.getfield 38, 3) := by decide +kernel
theorem dX7_convertOnce_32 : decode cX7_convertOnce 32 = .ok (.iload_n 1, 1) := by decide +kernel
theorem dX7_convertOnce_33 : decode cX7_convertOnce 33 = .ok (.iload_n 2, 1) := by decide +kernel
theorem dX7_convertOnce_34 : decode cX7_convertOnce 34 = .ok (.iconst 1, 1) := by decide +kernel
theorem dX7_convertOnce_35 : decode cX7_convertOnce 35 = .ok (.isub, 1) := by decide +kernel
theorem dX7_convertOnce_36 : decode cX7_convertOnce 36 = .ok (.iload 4, 2) := by decide +kernel
theorem dX7_convertOnce_38 : decode cX7_convertOnce 38 = .ok (.invokestatic 108, 3) := by decide +kernel
theorem dX7_convertOnce_41 : decode cX7_convertOnce 41 = .ok (.iaload, 1) := by decide +kernel
theorem dX7_convertOnce_42 : decode cX7_convertOnce 42 = .ok (.iastore, 1) := by decide +kernel
theorem dX7_convertOnce_43 : decode cX7_convertOnce 43 = .ok (.iinc 4 1, 3) := by decide +kernel
theorem dX7_convertOnce_46 : decode cX7_convertOnce 46 = .ok (.goto (-36), 3) := by decide +kernel
theorem dX7_convertOnce_49 : decode cX7_convertOnce 49 = .ok (.iconst 0, 1) := by decide +kernel
theorem dX7_convertOnce_50 : decode cX7_convertOnce 50 = .ok (.istore 4, 2) := by decide +kernel
theorem dX7_convertOnce_52 : decode cX7_convertOnce 52 = .ok (.iload 4, 2) := by decide +kernel
theorem dX7_convertOnce_54 : decode cX7_convertOnce 54 = .ok (.aload_n 0, 1) := by decide +kernel
theorem dX7_convertOnce_55 : decode cX7_convertOnce 55 = .ok (.iload_n 3, 1) := by decide +kernel
theorem dX7_convertOnce_56 : decode cX7_convertOnce 56 = .ok (.bipush 10, 2) := by decide +kernel
theorem dX7_convertOnce_58 : decode cX7_convertOnce 58 = .ok (.iload_n 2, 1) := by decide +kernel
theorem dX7_convertOnce_59 : decode cX7_convertOnce 59 = .ok (.iadd, 1) := by decide +kernel
theorem dX7_convertOnce_60 : decode cX7_convertOnce 60 = .ok (.invokevirtual 53, 3) := by decide +kernel
theorem dX7_convertOnce_63 : decode cX7_convertOnce 63 = .ok (.if_icmp .ge 285, 3) := by decide +kernel
theorem dX7_convertOnce_66 : decode cX7_convertOnce 66 = .ok (.iload_n 3, 1) := by decide +kernel
theorem dX7_convertOnce_67 : decode cX7_convertOnce 67 = .ok (.bipush 18, 2) := by decide +kernel
theorem dX7_convertOnce_69 : decode cX7_convertOnce 69 = .ok (.bipush 18, 2) := by decide +kernel
theorem dX7_convertOnce_71 : decode cX7_convertOnce 71 = .ok (.iload_n 2, 1) := by decide +kernel
theorem dX7_convertOnce_72 : decode cX7_convertOnce 72 = .ok (.imul, 1) := by decide +kernel
theorem dX7_convertOnce_73 : decode cX7_convertOnce 73 = .ok (.iadd, 1) := by decide +kernel
theorem dX7_convertOnce_74 : decode cX7_convertOnce 74 = .ok (.iconst 3, 1) := by decide +kernel
theorem dX7_convertOnce_75 : decode cX7_convertOnce 75 = .ok (.iload 4, 2) := by decide +kernel
theorem dX7_convertOnce_77 : decode cX7_convertOnce 77 = .ok (.imul, 1) := by decide +kernel
theorem dX7_convertOnce_78 : decode cX7_convertOnce 78 = .ok (.iadd, 1) := by decide +kernel
theorem dX7_convertOnce_79 : decode cX7_convertOnce 79 = .ok (.invokestatic 49, 3) := by decide +kernel
theorem dX7_convertOnce_82 : decode cX7_convertOnce 82 = .ok (.istore 5, 2) := by decide +kernel
theorem dX7_convertOnce_84 : decode cX7_convertOnce 84 = .ok (.aload_n 0, 1) := by decide +kernel
theorem dX7_convertOnce_85 : decode cX7_convertOnce 85 = .ok (.getfield 7, 3) := by decide +kernel
theorem dX7_convertOnce_88 : decode cX7_convertOnce 88 = .ok (.iload 5, 2) := by decide +kernel
theorem dX7_convertOnce_90 : decode cX7_convertOnce 90 = .ok (.iconst 1, 1) := by decide +kernel
theorem dX7_convertOnce_91 : decode cX7_convertOnce 91 = .ok (.iadd, 1) := by decide +kernel
theorem dX7_convertOnce_92 : decode cX7_convertOnce 92 = .ok (.iaload, 1) := by decide +kernel
theorem dX7_convertOnce_93 : decode cX7_convertOnce 93 = .ok (.istore 6, 2) := by decide +kernel
theorem dX7_convertOnce_95 : decode cX7_convertOnce 95 = .ok (.aload_n 0, 1) := by decide +kernel
theorem dX7_convertOnce_96 : decode cX7_convertOnce 96 = .ok (.getfield 7, 3) := by decide +kernel
theorem dX7_convertOnce_99 : decode cX7_convertOnce 99 = .ok (.iload 5, 2) := by decide +kernel
theorem dX7_convertOnce_101 : decode cX7_convertOnce 101 = .ok (.iconst 2, 1) := by decide +kernel
theorem dX7_convertOnce_102 : decode cX7_convertOnce 102 = .ok (.iadd, 1) := by decide +kernel
theorem dX7_convertOnce_103 : decode cX7_convertOnce 103 = .ok (.iaload, 1) := by decide +kernel
theorem dX7_convertOnce_104 : decode cX7_convertOnce 104 = .ok (.istore 7, 2) := by decide +kernel
theorem dX7_convertOnce_106 : decode cX7_convertOnce 106 = .ok (.aload_n 0, 1) := by decide +kernel
theorem dX7_convertOnce_107 : decode cX7_convertOnce 107 = .ok (.getfield 7, 3) := by decide +kernel
theorem dX7_convertOnce_110 : decode cX7_convertOnce 110 = .ok (.iload 5, 2) := by decide +kernel
theorem dX7_convertOnce_112 : decode cX7_convertOnce 112 = .ok (.iaload, 1) := by decide +kernel
theorem dX7_convertOnce_113 : decode cX7_convertOnce 113 = .ok (.tableswitch 174 0 4 #[35, 174, 52, 79, 144], 35) := by decide +kernel
theorem dX7_convertOnce_148 : decode cX7_convertOnce 148 = .ok (.aload_n 0, 1) := by decide +kernel
theorem dX7_convertOnce_149 : decode cX7_convertOnce 149 = .ok (.getfield 38, 3) := by decide +kernel
theorem dX7_convertOnce_152 : decode cX7_convertOnce 152 = .ok (.iload_n 1, 1) := by decide +kernel
theorem dX7_convertOnce_153 : decode cX7_convertOnce 153 = .ok (.iload_n 2, 1) := by decide +kernel
theorem dX7_convertOnce_154 : decode cX7_convertOnce 154 = .ok (.iload 6, 2) := by decide +kernel
theorem dX7_convertOnce_156 : decode cX7_convertOnce 156 = .ok (.invokestatic 108, 3) := by decide +kernel
theorem dX7_convertOnce_159 : decode cX7_convertOnce 159 = .ok (.iload 7, 2) := by decide +kernel
theorem dX7_convertOnce_161 : decode cX7_convertOnce 161 = .ok (.iastore, 1) := by decide +kernel
theorem dX7_convertOnce_162 : decode cX7_convertOnce 162 = .ok (.goto 125, 3) := by decide +kernel
theorem dX7_convertOnce_165 : decode cX7_convertOnce 165 = .ok (.aload_n 0, 1) := by decide +kernel
theorem dX7_convertOnce_166 : decode cX7_convertOnce 166 = .ok (.getfield 38, 3) := by decide +kernel
theorem dX7_convertOnce_169 : decode cX7_convertOnce 169 = .ok (.iload_n 1, 1) := by decide +kernel
theorem dX7_convertOnce_170 : decode cX7_convertOnce 170 = .ok (.iload_n 2, 1) := by decide +kernel
theorem dX7_convertOnce_171 : decode cX7_convertOnce 171 = .ok (.iload 7, 2) := by decide +kernel
theorem dX7_convertOnce_173 : decode cX7_convertOnce 173 = .ok (.invokestatic 108, 3) := by decide +kernel
theorem dX7_convertOnce_176 : decode cX7_convertOnce 176 = .ok (.aload_n 0, 1) := by decide +kernel
theorem dX7_convertOnce_177 : decode cX7_convertOnce 177 = .ok (.getfield 38, 3) := by decide +kernel
theorem dX7_convertOnce_180 : decode cX7_convertOnce 180 = .ok (.iload_n 1, 1) := by decide +kernel
theorem dX7_convertOnce_181 : decode cX7_convertOnce 181 = .ok (.iload_n 2, 1) := by decide +kernel
theorem dX7_convertOnce_182 : decode cX7_convertOnce 182 = .ok (.iload 6, 2) := by decide +kernel
theorem dX7_convertOnce_184 : decode cX7_convertOnce 184 = .ok (.invokestatic 108, 3) := by decide +kernel
theorem dX7_convertOnce_187 : decode cX7_convertOnce 187 = .ok (.iaload, 1) := by decide +kernel
theorem dX7_convertOnce_188 : decode cX7_convertOnce 188 = .ok (.iastore, 1) := by decide +kernel
theorem dX7_convertOnce_189 : decode cX7_convertOnce 189 = .ok (.goto 98, 3) := by decide +kernel
theorem dX7_convertOnce_192 : decode cX7_convertOnce 192 = .ok (.aload_n 0, 1) := by decide +kernel
theorem dX7_convertOnce_193 : decode cX7_convertOnce 193 = .ok (.getfield 38, 3) := by decide +kernel
theorem dX7_convertOnce_196 : decode cX7_convertOnce 196 = .ok (.iload_n 1, 1) := by decide +kernel
theorem dX7_convertOnce_197 : decode cX7_convertOnce 197 = .ok (.iload_n 2, 1) := by decide +kernel
theorem dX7_convertOnce_198 : decode cX7_convertOnce 198 = .ok (.iload 6, 2) := by decide +kernel
theorem dX7_convertOnce_200 : decode cX7_convertOnce 200 = .ok (.invokestatic 108, 3) := by decide +kernel
theorem dX7_convertOnce_203 : decode cX7_convertOnce 203 = .ok (.iaload, 1) := by decide +kernel
theorem dX7_convertOnce_204 : decode cX7_convertOnce 204 = .ok (.i2l, 1) := by decide +kernel
theorem dX7_convertOnce_205 : decode cX7_convertOnce 205 = .ok (.iload 7, 2) := by decide +kernel
theorem dX7_convertOnce_207 : decode cX7_convertOnce 207 = .ok (.i2l, 1) := by decide +kernel
theorem dX7_convertOnce_208 : decode cX7_convertOnce 208 = .ok (.lmul, 1) := by decide +kernel
theorem dX7_convertOnce_209 : decode cX7_convertOnce 209 = .ok (.lstore 8, 2) := by decide +kernel
theorem dX7_convertOnce_211 : decode cX7_convertOnce 211 = .ok (.aload_n 0, 1) := by decide +kernel
theorem dX7_convertOnce_212 : decode cX7_convertOnce 212 = .ok (.getfield 38, 3) := by decide +kernel
theorem dX7_convertOnce_215 : decode cX7_convertOnce 215 = .ok (.iload_n 1, 1) := by decide +kernel
theorem dX7_convertOnce_216 : decode cX7_convertOnce 216 = .ok (.iload_n 2, 1) := by decide +kernel
theorem dX7_convertOnce_217 : decode cX7_convertOnce 217 = .ok (.iload 6, 2) := by decide +kernel
theorem dX7_convertOnce_219 : decode cX7_convertOnce 219 = .ok (.invokestatic 108, 3) := by decide +kernel
theorem dX7_convertOnce_222 : decode cX7_convertOnce 222 = .ok (.lload 8, 2) := by decide +kernel
theorem dX7_convertOnce_224 : decode cX7_convertOnce 224 = .ok (.ldc2_w 112, 3) := by decide +kernel
theorem dX7_convertOnce_227 : decode cX7_convertOnce 227 = .ok (.lcmp, 1) := by decide +kernel
theorem dX7_convertOnce_228 : decode cX7_convertOnce 228 = .ok (.ifCond .le 8, 3) := by decide +kernel
theorem dX7_convertOnce_231 : decode cX7_convertOnce 231 = .ok (.ldc 114, 2) := by decide +kernel
theorem dX7_convertOnce_233 : decode cX7_convertOnce 233 = .ok (.goto 20, 3) := by decide +kernel
theorem dX7_convertOnce_236 : decode cX7_convertOnce 236 = .ok (.lload 8, 2) := by decide +kernel
theorem dX7_convertOnce_238 : decode cX7_convertOnce 238 = .ok (.ldc2_w 115, 3) := by decide +kernel
theorem dX7_convertOnce_241 : decode cX7_convertOnce 241 = .ok (.lcmp, 1) := by decide +kernel
theorem dX7_convertOnce_242 : decode cX7_convertOnce 242 = .ok (.ifCond .ge 8, 3) := by decide +kernel
theorem dX7_convertOnce_245 : decode cX7_convertOnce 245 = .ok (.ldc 117, 2) := by decide +kernel
theorem dX7_convertOnce_247 : decode cX7_convertOnce 247 = .ok (.goto 6, 3) := by decide +kernel
theorem dX7_convertOnce_250 : decode cX7_convertOnce 250 = .ok (.lload 8, 2) := by decide +kernel
theorem dX7_convertOnce_252 : decode cX7_convertOnce 252 = .ok (.l2i, 1) := by decide +kernel
theorem dX7_convertOnce_253 : decode cX7_convertOnce 253 = .ok (.iastore, 1) := by decide +kernel
theorem dX7_convertOnce_254 : decode cX7_convertOnce 254 = .ok (.goto 33, 3) := by decide +kernel
theorem dX7_convertOnce_257 : decode cX7_convertOnce 257 = .ok (.aload_n 0, 1) := by decide +kernel
theorem dX7_convertOnce_258 : decode cX7_convertOnce 258 = .ok (.getfield 38, 3) := by decide +kernel
theorem dX7_convertOnce_261 : decode cX7_convertOnce 261 = .ok (.iload_n 1, 1) := by decide +kernel
theorem dX7_convertOnce_262 : decode cX7_convertOnce 262 = .ok (.iload_n 2, 1) := by decide +kernel
theorem dX7_convertOnce_263 : decode cX7_convertOnce 263 = .ok (.iload 7, 2) := by decide +kernel
theorem dX7_convertOnce_265 : decode cX7_convertOnce 265 = .ok (.invokestatic 108, 3) := by decide +kernel
theorem dX7_convertOnce_268 : decode cX7_convertOnce 268 = .ok (.dup2, 1) := by decide +kernel
theorem dX7_convertOnce_269 : decode cX7_convertOnce 269 = .ok (.iaload, 1) := by decide +kernel
theorem dX7_convertOnce_270 : decode cX7_convertOnce 270 = .ok (.aload_n 0, 1) := by decide +kernel
theorem dX7_convertOnce_271 : decode cX7_convertOnce 271 = .ok (.getfield 38, 3) := by decide +kernel
theorem dX7_convertOnce_274 : decode cX7_convertOnce 274 = .ok (.iload_n 1, 1) := by decide +kernel
theorem dX7_convertOnce_275 : decode cX7_convertOnce 275 = .ok (.iload_n 2, 1) := by decide +kernel
theorem dX7_convertOnce_276 : decode cX7_convertOnce 276 = .ok (.iload 6, 2) := by decide +kernel
theorem dX7_convertOnce_278 : decode cX7_convertOnce 278 = .ok (.invokestatic 108, 3) := by decide +kernel
theorem dX7_convertOnce_281 : decode cX7_convertOnce 281 = .ok (.iaload, 1) := by decide +kernel
theorem dX7_convertOnce_282 : decode cX7_convertOnce 282 = .ok (.iadd, 1) := by decide +kernel
theorem dX7_convertOnce_283 : decode cX7_convertOnce 283 = .ok (.iastore, 1) := by decide +kernel
theorem dX7_convertOnce_284 : decode cX7_convertOnce 284 = .ok (.goto 3, 3) := by decide +kernel
theorem dX7_convertOnce_287 : decode cX7_convertOnce 287 = .ok (.aload_n 0, 1) := by decide +kernel
theorem dX7_convertOnce_288 : decode cX7_convertOnce 288 = .ok (.getfield 7, 3) := by decide +kernel
theorem dX7_convertOnce_291 : decode cX7_convertOnce 291 = .ok (.iload 5, 2) := by decide +kernel
theorem dX7_convertOnce_293 : decode cX7_convertOnce 293 = .ok (.iaload, 1) := by decide +kernel
theorem dX7_convertOnce_294 : decode cX7_convertOnce 294 = .ok (.iconst 2, 1) := by decide +kernel
theorem dX7_convertOnce_295 : decode cX7_convertOnce 295 = .ok (.if_icmp .eq 14, 3) := by decide +kernel
theorem dX7_convertOnce_298 : decode cX7_convertOnce 298 = .ok (.aload_n 0, 1) := by decide +kernel
theorem dX7_convertOnce_299 : decode cX7_convertOnce 299 = .ok (.getfield 7, 3) := by decide +kernel
theorem dX7_convertOnce_302 : decode cX7_convertOnce 302 = .ok (.iload 5, 2) := by decide +kernel
theorem dX7_convertOnce_304 : decode cX7_convertOnce 304 = .ok (.iaload, 1) := by decide +kernel
theorem dX7_convertOnce_305 : decode cX7_convertOnce 305 = .ok (.iconst 4, 1) := by decide +kernel
theorem dX7_convertOnce_306 : decode cX7_convertOnce 306 = .ok (.if_icmp .ne 8, 3) := by decide +kernel
theorem dX7_convertOnce_309 : decode cX7_convertOnce 309 = .ok (.iload 7, 2) := by decide +kernel
theorem dX7_convertOnce_311 : decode cX7_convertOnce 311 = .ok (.goto 5, 3) := by decide +kernel
theorem dX7_convertOnce_314 : decode cX7_convertOnce 314 = .ok (.iload 6, 2) := by decide +kernel
theorem dX7_convertOnce_316 : decode cX7_convertOnce 316 = .ok (.istore 8, 2) := by decide +kernel
theorem dX7_convertOnce_318 : decode cX7_convertOnce 318 = .ok (.aload_n 0, 1) := by decide +kernel
theorem dX7_convertOnce_319 : decode cX7_convertOnce 319 = .ok (.getfield 38, 3) := by decide +kernel
theorem dX7_convertOnce_322 : decode cX7_convertOnce 322 = .ok (.iload_n 1, 1) := by decide +kernel
theorem dX7_convertOnce_323 : decode cX7_convertOnce 323 = .ok (.iload_n 2, 1) := by decide +kernel
theorem dX7_convertOnce_324 : decode cX7_convertOnce 324 = .ok (.iload 8, 2) := by decide +kernel
theorem dX7_convertOnce_326 : decode cX7_convertOnce 326 = .ok (.invokestatic 108, 3) := by decide +kernel
theorem dX7_convertOnce_329 : decode cX7_convertOnce 329 = .ok (.iaload, 1) := by decide +kernel
theorem dX7_convertOnce_330 : decode cX7_convertOnce 330 = .ok (.ldc 76, 2) := by decide +kernel
theorem dX7_convertOnce_332 : decode cX7_convertOnce 332 = .ok (.ldc 77, 2) := by decide +kernel
theorem dX7_convertOnce_334 : decode cX7_convertOnce 334 = .ok (.invokestatic 45, 3) := by decide +kernel
theorem dX7_convertOnce_337 : decode cX7_convertOnce 337 = .ok (.ifCond .ne 5, 3) := by decide +kernel
theorem dX7_convertOnce_340 : decode cX7_convertOnce 340 = .ok (.iconst 0, 1) := by decide +kernel
theorem dX7_convertOnce_341 : decode cX7_convertOnce 341 = .ok (.ireturn, 1) := by decide +kernel
theorem dX7_convertOnce_342 : decode cX7_convertOnce 342 = .ok (.iinc 4 1, 3) := by decide +kernel
theorem dX7_convertOnce_345 : decode cX7_convertOnce 345 = .ok (.goto (-293), 3) := by decide +kernel
theorem dX7_convertOnce_348 : decode cX7_convertOnce 348 = .ok (.iconst 1, 1) := by decide +kernel
theorem dX7_convertOnce_349 : decode cX7_convertOnce 349 = .ok (.ireturn, 1) := by decide +kernel
set_option maxRecDepth 20000 in
theorem ggX7_convert_X7_convertOnce : GoodIn wsX7_convert wsX7_convertOnce := goodIn_r _ [6, 7, 8, 9, 10, 11, 12, 13, 14, 15, 16, 17, 5, 18, 19, 20, 21, 22, 23, 24, 25, 26, 27, 28, 29, 30, 31, 32, 33, 34, 35, 36, 37, 38, 39, 40] (by decide +kernel) (by decide +kernel)
set_option maxRecDepth 20000 in
theorem gX7_convert_X7_convertOnce : GoodIn wsX7_convert (wsV RX7 118 RX7 yX7_convertOnce wsX7_convertOnce) := goodIn_app (goodIn_of _ (by decide +kernel)) ggX7_convert_X7_convertOnce
theorem dX7_convert_0 : decode cX7_convert 0 = .ok (.iconst 1, 1) := by decide +kernel
theorem dX7_convert_1 : decode cX7_convert 1 = .ok (.istore_n 3, 1) := by decide +kernel
theorem dX7_convert_2 : decode cX7_convert 2 = .ok (.aload_n 0, 1) := by decide +kernel
theorem dX7_convert_3 : decode cX7_convert 3 = .ok (.getfield 32, 3) := by decide +kernel
theorem dX7_convert_6 : decode cX7_convert 6 = .ok (.iload_n 1, 1) := by decide +kernel
theorem dX7_convert_7 : decode cX7_convert 7 = .ok (.iaload, 1) := by decide +kernel
theorem dX7_convert_8 : decode cX7_convert 8 = .ok (.iconst 1, 1) := by decide +kernel
theorem dX7_convert_9 : decode cX7_convert 9 = .ok (.iadd, 1) := by decide +kernel
theorem dX7_convert_10 : decode cX7_convert 10 = .ok (.istore 4, 2) := by decide +kernel
theorem dX7_convert_12 : decode cX7_convert 12 = .ok (.iload 4, 2) := by decide +kernel
theorem dX7_convert_14 : decode cX7_convert 14 = .ok (.iload_n 2, 1) := by decide +kernel
theorem dX7_convert_15 : decode cX7_convert 15 = .ok (.if_icmp .gt 21, 3) := by decide +kernel
theorem dX7_convert_18 : decode cX7_convert 18 = .ok (.iload_n 3, 1) := by decide +kernel
theorem dX7_convert_19 : decode cX7_convert 19 = .ok (.ifCond .eq 17, 3) := by decide +kernel
theorem dX7_convert_22 : decode cX7_convert 22 = .ok (.aload_n 0, 1) := by decide +kernel
theorem dX7_convert_23 : decode cX7_convert 23 = .ok (.iload_n 1, 1) := by decide +kernel
theorem dX7_convert_24 : decode cX7_convert 24 = .ok (.iload 4, 2) := by decide +kernel
theorem dX7_convert_26 : decode cX7_convert 26 = .ok (.invokevirtual 118, 3) := by decide +kernel
theorem dX7_convert_29 : decode cX7_convert 29 = .ok (.istore_n 3, 1) := by decide +kernel
theorem dX7_convert_30 : decode cX7_convert 30 = .ok (.iinc 4 1, 3) := by decide +kernel
theorem dX7_convert_33 : decode cX7_convert 33 = .ok (.goto (-21), 3) := by decide +kernel
theorem dX7_convert_36 : decode cX7_convert 36 = .ok (.aload_n 0, 1) := by decide +kernel
theorem dX7_convert_37 : decode cX7_convert 37 = .ok (.getfield 32, 3) := by decide +kernel
theorem dX7_convert_40 : decode cX7_convert 40 = .ok (.iload_n 1, 1) := by decide +kernel
theorem dX7_convert_41 : decode cX7_convert 41 = .ok (.iload_n 3, 1) := by decide +kernel
theorem dX7_convert_42 : decode cX7_convert 42 = .ok (.ifCond .eq 7, 3) := by decide +kernel
theorem dX7_convert_45 : decode cX7_convert 45 = .ok (.iload_n 2, 1) := by decide +kernel
theorem dX7_convert_46 : decode cX7_convert 46 = .ok (.goto 9, 3) := by decide +kernel
theorem dX7_convert_49 : decode cX7_convert 49 = .ok (.aload_n 0, 1) := by decide +kernel
theorem dX7_convert_50 : decode cX7_convert 50 = .ok (.getfield 32, 3) := by decide +kernel
theorem dX7_convert_53 : decode cX7_convert 53 = .ok (.iload_n 1, 1) := by decide +kernel
theorem dX7_convert_54 : decode cX7_convert 54 = .ok (.iaload, 1) := by decide +kernel
theorem dX7_convert_55 : decode cX7_convert 55 = .ok (.iastore, 1) := by decide +kernel
theorem dX7_convert_56 : decode cX7_convert 56 = .ok (.iload_n 3, 1) := by decide +kernel
theorem dX7_convert_57 : decode cX7_convert 57 = .ok (.ireturn, 1) := by decide +kernel
set_option maxRecDepth 20000 in
theorem ggX7_isHeldBelow_X7_isThere : GoodIn wsX7_isHeldBelow wsX7_isThere := goodIn_r _ [7, 8, 9, 10, 11, 12, 13, 14, 15, 16, 17, 18, 19, 20] (by decide +kernel) (by decide +kernel)
set_option maxRecDepth 20000 in
theorem gX7_isHeldBelow_X7_isThere : GoodIn wsX7_isHeldBelow (wsV RX7 89 RX7 yX7_isThere wsX7_isThere) := goodIn_app (goodIn_of _ (by decide +kernel)) ggX7_isHeldBelow_X7_isThere
theorem dX7_isHeldBelow_0 : decode cX7_isHeldBelow 0 = .ok (.iconst 0, 1) := by decide +kernel
theorem dX7_isHeldBelow_1 : decode cX7_isHeldBelow 1 = .ok (.istore_n 3, 1) := by decide +kernel
theorem dX7_isHeldBelow_2 : decode cX7_isHeldBelow 2 = .ok (.iconst 0, 1) := by decide +kernel
theorem dX7_isHeldBelow_3 : decode cX7_isHeldBelow 3 = .ok (.istore 4, 2) := by decide +kernel
theorem dX7_isHeldBelow_5 : decode cX7_isHeldBelow 5 = .ok (.iload 4, 2) := by decide +kernel
theorem dX7_isHeldBelow_7 : decode cX7_isHeldBelow 7 = .ok (.bipush 32, 2) := by decide +kernel
theorem dX7_isHeldBelow_9 : decode cX7_isHeldBelow 9 = .ok (.if_icmp .ge 54, 3) := by decide +kernel
theorem dX7_isHeldBelow_12 : decode cX7_isHeldBelow 12 = .ok (.iload_n 3, 1) := by decide +kernel
theorem dX7_isHeldBelow_13 : decode cX7_isHeldBelow 13 = .ok (.ifCond .ne 38, 3) := by decide +kernel
theorem dX7_isHeldBelow_16 : decode cX7_isHeldBelow 16 = .ok (.aload_n 0, 1) := by decide +kernel
theorem dX7_isHeldBelow_17 : decode cX7_isHeldBelow 17 = .ok (.iload 4, 2) := by decide +kernel
theorem dX7_isHeldBelow_19 : decode cX7_isHeldBelow 19 = .ok (.invokevirtual 89, 3) := by decide +kernel
theorem dX7_isHeldBelow_22 : decode cX7_isHeldBelow 22 = .ok (.ifCond .eq 33, 3) := by decide +kernel
theorem dX7_isHeldBelow_25 : decode cX7_isHeldBelow 25 = .ok (.aload_n 0, 1) := by decide +kernel
theorem dX7_isHeldBelow_26 : decode cX7_isHeldBelow 26 = .ok (.getfield 22, 3) := by decide +kernel
theorem dX7_isHeldBelow_29 : decode cX7_isHeldBelow 29 = .ok (.iload 4, 2) := by decide +kernel
theorem dX7_isHeldBelow_31 : decode cX7_isHeldBelow 31 = .ok (.iaload, 1) := by decide +kernel
theorem dX7_isHeldBelow_32 : decode cX7_isHeldBelow 32 = .ok (.iload_n 1, 1) := by decide +kernel
theorem dX7_isHeldBelow_33 : decode cX7_isHeldBelow 33 = .ok (.ishr, 1) := by decide +kernel
theorem dX7_isHeldBelow_34 : decode cX7_isHeldBelow 34 = .ok (.iconst 1, 1) := by decide +kernel
theorem dX7_isHeldBelow_35 : decode cX7_isHeldBelow 35 = .ok (.iand, 1) := by decide +kernel
theorem dX7_isHeldBelow_36 : decode cX7_isHeldBelow 36 = .ok (.iconst 1, 1) := by decide +kernel
theorem dX7_isHeldBelow_37 : decode cX7_isHeldBelow 37 = .ok (.if_icmp .ne 18, 3) := by decide +kernel
theorem dX7_isHeldBelow_40 : decode cX7_isHeldBelow 40 = .ok (.aload_n 0, 1) := by decide +kernel
theorem dX7_isHeldBelow_41 : decode cX7_isHeldBelow 41 = .ok (.getfield 19, 3) := by decide +kernel
theorem dX7_isHeldBelow_44 : decode cX7_isHeldBelow 44 = .ok (.iload 4, 2) := by decide +kernel
theorem dX7_isHeldBelow_46 : decode cX7_isHeldBelow 46 = .ok (.iaload, 1) := by decide +kernel
theorem dX7_isHeldBelow_47 : decode cX7_isHeldBelow 47 = .ok (.iload_n 2, 1) := by decide +kernel
theorem dX7_isHeldBelow_48 : decode cX7_isHeldBelow 48 = .ok (.if_icmp .ge 7, 3) := by decide +kernel
theorem dX7_isHeldBelow_51 : decode cX7_isHeldBelow 51 = .ok (.iconst 1, 1) := by decide +kernel
theorem dX7_isHeldBelow_52 : decode cX7_isHeldBelow 52 = .ok (.goto 4, 3) := by decide +kernel
theorem dX7_isHeldBelow_55 : decode cX7_isHeldBelow 55 = .ok (.iconst 0, 1) := by decide +kernel
theorem dX7_isHeldBelow_56 : decode cX7_isHeldBelow 56 = .ok (.istore_n 3, 1) := by decide +kernel
theorem dX7_isHeldBelow_57 : decode cX7_isHeldBelow 57 = .ok (.iinc 4 1, 3) := by decide +kernel
theorem dX7_isHeldBelow_60 : decode cX7_isHeldBelow 60 = .ok (.goto (-55), 3) := by decide +kernel
theorem dX7_isHeldBelow_63 : decode cX7_isHeldBelow 63 = .ok (.iload_n 3, 1) := by decide +kernel
theorem dX7_isHeldBelow_64 : decode cX7_isHeldBelow 64 = .ok (.ireturn, 1) := by decide +kernel
set_option maxRecDepth 20000 in
theorem ggX7_access_X7_isThread : GoodIn wsX7_access wsX7_isThread := goodIn_r _ [18, 19, 20, 17, 21] (by decide +kernel) (by decide +kernel)
set_option maxRecDepth 20000 in
theorem gX7_access_X7_isThread : GoodIn wsX7_access (va_wsS RX7 103 yX7_isThread wsX7_isThread) := goodIn_app (goodIn_of _ (by decide +kernel)) ggX7_access_X7_isThread
set_option maxRecDepth 20000 in
theorem ggX7_access_X7_isObject : GoodIn wsX7_access wsX7_isObject := goodIn_r _ [25, 26, 27, 19, 20, 17, 21, 65, 66, 67, 68, 69, 70, 71, 72, 73, 74, 75, 76] (by decide +kernel) (by decide +kernel)
set_option maxRecDepth 20000 in
theorem gX7_access_X7_isObject : GoodIn wsX7_access (wsV RX7 121 RX7 yX7_isObject wsX7_isObject) := goodIn_app (goodIn_of _ (by decide +kernel)) ggX7_access_X7_isObject
set_option maxRecDepth 20000 in
theorem ggX7_access_X7_of : GoodIn wsX7_access wsX7_of := goodIn_r _ [31, 32, 33, 34, 17, 35, 65, 66, 67, 68, 69, 70, 71, 72, 73, 74, 75, 76] (by decide +kernel) (by decide +kernel)
set_option maxRecDepth 20000 in
theorem gX7_access_X7_of : GoodIn wsX7_access (wsV RX7 53 RX7 yX7_of wsX7_of) := goodIn_app (goodIn_of _ (by decide +kernel)) ggX7_access_X7_of
set_option maxRecDepth 20000 in
theorem ggX7_access_X7_has : GoodIn wsX7_access wsX7_has := goodIn_r _ [38, 19, 20, 17, 21] (by decide +kernel) (by decide +kernel)
set_option maxRecDepth 20000 in
theorem gX7_access_X7_has : GoodIn wsX7_access (va_wsS RX7 78 yX7_has wsX7_has) := goodIn_app (goodIn_of _ (by decide +kernel)) ggX7_access_X7_has
set_option maxRecDepth 20000 in
theorem ggX7_access_X7_isHeldBelow : GoodIn wsX7_access wsX7_isHeldBelow := goodIn_r _ [42, 14, 5, 43, 44, 45, 17, 46, 2, 65, 66, 67, 68, 69, 70, 71, 72, 73, 74, 75, 76] (by decide +kernel) (by decide +kernel)
set_option maxRecDepth 20000 in
theorem gX7_access_X7_isHeldBelow : GoodIn wsX7_access (wsV RX7 127 RX7 yX7_isHeldBelow wsX7_isHeldBelow) := goodIn_app (goodIn_of _ (by decide +kernel)) ggX7_access_X7_isHeldBelow
set_option maxRecDepth 20000 in
theorem ggX7_access_X7_convert : GoodIn wsX7_access wsX7_convert := goodIn_r _ [50, 10, 51, 52, 53, 17, 54, 7, 55, 32, 56, 57, 58, 59, 60, 61, 62, 63, 64, 28, 29, 30, 31, 33, 34, 35, 19, 20, 21, 65, 66, 67, 68, 69, 70, 71, 72, 73, 74, 75, 76] (by decide +kernel) (by decide +kernel)
set_option maxRecDepth 20000 in
theorem gX7_access_X7_convert : GoodIn wsX7_access (wsV RX7 131 RX7 yX7_convert wsX7_convert) := goodIn_app (goodIn_of _ (by decide +kernel)) ggX7_access_X7_convert
theorem dX7_access_0 : decode cX7_access 0 = .ok (.iload_n 1, 1) := by decide +kernel
theorem dX7_access_1 : decode cX7_access 1 = .ok (.invokestatic 103, 3) := by decide +kernel
theorem dX7_access_4 : decode cX7_access 4 = .ok (.ifCond .ne 6, 3) := by decide +kernel
theorem dX7_access_7 : decode cX7_access 7 = .ok (.ldc 106, 2) := by decide +kernel
theorem dX7_access_9 : decode cX7_access 9 = .ok (.ireturn, 1) := by decide +kernel
theorem dX7_access_10 : decode cX7_access 10 = .ok (.aload_n 0, 1) := by decide +kernel
theorem dX7_access_11 : decode cX7_access 11 = .ok (.getfield 13, 3) := by decide +kernel
theorem dX7_access_14 : decode cX7_access 14 = .ok (.iload_n 1, 1) := by decide +kernel
theorem dX7_access_15 : decode cX7_access 15 = .ok (.iaload, 1) := by decide +kernel
theorem dX7_access_16 : decode cX7_access 16 = .ok (.ifCond .ne 6, 3) := by decide +kernel
theorem dX7_access_19 : decode cX7_access 19 = .ok (.ldc 107, 2) := by decide +kernel
theorem dX7_access_21 : decode cX7_access 21 = .ok (.ireturn, 1) := by decide +kernel
theorem dX7_access_22 : decode cX7_access 22 = .ok (.aload_n 0, 1) := by decide +kernel
theorem dX7_access_23 : decode cX7_access 23 = .ok (.iload_n 2, 1) := by decide +kernel
theorem dX7_access_24 : decode cX7_access 24 = .ok (.invokevirtual 121, 3) := by decide +kernel
theorem dX7_access_27 : decode cX7_access 27 = .ok (.ifCond .ne 6, 3) := by decide +kernel
theorem dX7_access_30 : decode cX7_access 30 = .ok (.ldc 124, 2) := by decide +kernel
theorem dX7_access_32 : decode cX7_access 32 = .ok (.ireturn, 1) := by decide +kernel
theorem dX7_access_33 : decode cX7_access 33 = .ok (.bipush 8, 2) := by decide +kernel
theorem dX7_access_35 : decode cX7_access 35 = .ok (.iload_n 1, 1) := by decide +kernel
theorem dX7_access_36 : decode cX7_access 36 = .ok (.imul, 1) := by decide +kernel
theorem dX7_access_37 : decode cX7_access 37 = .ok (.aload_n 0, 1) := by decide +kernel
theorem dX7_access_38 : decode cX7_access 38 = .ok (.getfield 13, 3) := by decide +kernel
theorem dX7_access_41 : decode cX7_access 41 = .ok (.iload_n 1, 1) := by decide +kernel
theorem dX7_access_42 : decode cX7_access 42 = .ok (.iaload, 1) := by decide +kernel
theorem dX7_access_43 : decode cX7_access 43 = .ok (.iadd, 1) := by decide +kernel
theorem dX7_access_44 : decode cX7_access 44 = .ok (.iconst 1, 1) := by decide +kernel
theorem dX7_access_45 : decode cX7_access 45 = .ok (.isub, 1) := by decide +kernel
theorem dX7_access_46 : decode cX7_access 46 = .ok (.istore 4, 2) := by decide +kernel
theorem dX7_access_48 : decode cX7_access 48 = .ok (.aload_n 0, 1) := by decide +kernel
theorem dX7_access_49 : decode cX7_access 49 = .ok (.getfield 19, 3) := by decide +kernel
theorem dX7_access_52 : decode cX7_access 52 = .ok (.iload 4, 2) := by decide +kernel
theorem dX7_access_54 : decode cX7_access 54 = .ok (.iaload, 1) := by decide +kernel
theorem dX7_access_55 : decode cX7_access 55 = .ok (.istore 5, 2) := by decide +kernel
theorem dX7_access_57 : decode cX7_access 57 = .ok (.aload_n 0, 1) := by decide +kernel
theorem dX7_access_58 : decode cX7_access 58 = .ok (.getfield 16, 3) := by decide +kernel
theorem dX7_access_61 : decode cX7_access 61 = .ok (.iload 4, 2) := by decide +kernel
theorem dX7_access_63 : decode cX7_access 63 = .ok (.iaload, 1) := by decide +kernel
theorem dX7_access_64 : decode cX7_access 64 = .ok (.aload_n 0, 1) := by decide +kernel
theorem dX7_access_65 : decode cX7_access 65 = .ok (.getfield 29, 3) := by decide +kernel
theorem dX7_access_68 : decode cX7_access 68 = .ok (.iload_n 2, 1) := by decide +kernel
theorem dX7_access_69 : decode cX7_access 69 = .ok (.iaload, 1) := by decide +kernel
theorem dX7_access_70 : decode cX7_access 70 = .ok (.if_icmp .eq 6, 3) := by decide +kernel
theorem dX7_access_73 : decode cX7_access 73 = .ok (.ldc 125, 2) := by decide +kernel
theorem dX7_access_75 : decode cX7_access 75 = .ok (.ireturn, 1) := by decide +kernel
theorem dX7_access_76 : decode cX7_access 76 = .ok (.aload_n 0, 1) := by decide +kernel
theorem dX7_access_77 : decode cX7_access 77 = .ok (.aload_n 0, 1) := by decide +kernel
theorem dX7_access_78 : decode cX7_access 78 = .ok (.getfield 29, 3) := by decide +kernel
theorem dX7_access_81 : decode cX7_access 81 = .ok (.iload_n 2, 1) := by decide +kernel
theorem dX7_access_82 : decode cX7_access 82 = .ok (.iaload, 1) := by decide +kernel
theorem dX7_access_83 : decode cX7_access 83 = .ok (.iconst 2, 1) := by decide +kernel
theorem dX7_access_84 : decode cX7_access 84 = .ok (.iload 5, 2) := by decide +kernel
theorem dX7_access_86 : decode cX7_access 86 = .ok (.iadd, 1) := by decide +kernel
theorem dX7_access_87 : decode cX7_access 87 = .ok (.invokevirtual 53, 3) := by decide +kernel
theorem dX7_access_90 : decode cX7_access 90 = .ok (.iload_n 3, 1) := by decide +kernel
theorem dX7_access_91 : decode cX7_access 91 = .ok (.invokestatic 78, 3) := by decide +kernel
theorem dX7_access_94 : decode cX7_access 94 = .ok (.ifCond .ne 6, 3) := by decide +kernel
theorem dX7_access_97 : decode cX7_access 97 = .ok (.ldc 86, 2) := by decide +kernel
theorem dX7_access_99 : decode cX7_access 99 = .ok (.ireturn, 1) := by decide +kernel
theorem dX7_access_100 : decode cX7_access 100 = .ok (.aload_n 0, 1) := by decide +kernel
theorem dX7_access_101 : decode cX7_access 101 = .ok (.getfield 32, 3) := by decide +kernel
theorem dX7_access_104 : decode cX7_access 104 = .ok (.iload_n 2, 1) := by decide +kernel
theorem dX7_access_105 : decode cX7_access 105 = .ok (.iaload, 1) := by decide +kernel
theorem dX7_access_106 : decode cX7_access 106 = .ok (.iload 5, 2) := by decide +kernel
theorem dX7_access_108 : decode cX7_access 108 = .ok (.if_icmp .le 6, 3) := by decide +kernel
theorem dX7_access_111 : decode cX7_access 111 = .ok (.ldc 126, 2) := by decide +kernel
theorem dX7_access_113 : decode cX7_access 113 = .ok (.ireturn, 1) := by decide +kernel
theorem dX7_access_114 : decode cX7_access 114 = .ok (.aload_n 0, 1) := by decide +kernel
theorem dX7_access_115 : decode cX7_access 115 = .ok (.getfield 32, 3) := by decide +kernel
theorem dX7_access_118 : decode cX7_access 118 = .ok (.iload_n 2, 1) := by decide +kernel
theorem dX7_access_119 : decode cX7_access 119 = .ok (.iaload, 1) := by decide +kernel
theorem dX7_access_120 : decode cX7_access 120 = .ok (.iload 5, 2) := by decide +kernel
theorem dX7_access_122 : decode cX7_access 122 = .ok (.if_icmp .ge 16, 3) := by decide +kernel
theorem dX7_access_125 : decode cX7_access 125 = .ok (.aload_n 0, 1) := by decide +kernel
theorem dX7_access_126 : decode cX7_access 126 = .ok (.iload_n 2, 1) := by decide +kernel
theorem dX7_access_127 : decode cX7_access 127 = .ok (.iload 5, 2) := by decide +kernel
theorem dX7_access_129 : decode cX7_access 129 = .ok (.invokevirtual 127, 3) := by decide +kernel
theorem dX7_access_132 : decode cX7_access 132 = .ok (.ifCond .eq 6, 3) := by decide +kernel
theorem dX7_access_135 : decode cX7_access 135 = .ok (.ldc 130, 2) := by decide +kernel
theorem dX7_access_137 : decode cX7_access 137 = .ok (.ireturn, 1) := by decide +kernel
theorem dX7_access_138 : decode cX7_access 138 = .ok (.aload_n 0, 1) := by decide +kernel
theorem dX7_access_139 : decode cX7_access 139 = .ok (.getfield 32, 3) := by decide +kernel
theorem dX7_access_142 : decode cX7_access 142 = .ok (.iload_n 2, 1) := by decide +kernel
theorem dX7_access_143 : decode cX7_access 143 = .ok (.iaload, 1) := by decide +kernel
theorem dX7_access_144 : decode cX7_access 144 = .ok (.iload 5, 2) := by decide +kernel
theorem dX7_access_146 : decode cX7_access 146 = .ok (.if_icmp .ge 16, 3) := by decide +kernel
theorem dX7_access_149 : decode cX7_access 149 = .ok (.aload_n 0, 1) := by decide +kernel
theorem dX7_access_150 : decode cX7_access 150 = .ok (.iload_n 2, 1) := by decide +kernel
theorem dX7_access_151 : decode cX7_access 151 = .ok (.iload 5, 2) := by decide +kernel
theorem dX7_access_153 : decode cX7_access 153 = .ok (.invokevirtual 131, 3) := by decide +kernel
theorem dX7_access_156 : decode cX7_access 156 = .ok (.ifCond .ne 6, 3) := by decide +kernel
theorem dX7_access_159 : decode cX7_access 159 = .ok (.ldc 134, 2) := by decide +kernel
theorem dX7_access_161 : decode cX7_access 161 = .ok (.ireturn, 1) := by decide +kernel
theorem dX7_access_162 : decode cX7_access 162 = .ok (.aload_n 0, 1) := by decide +kernel
theorem dX7_access_163 : decode cX7_access 163 = .ok (.getfield 22, 3) := by decide +kernel
theorem dX7_access_166 : decode cX7_access 166 = .ok (.iload 4, 2) := by decide +kernel
theorem dX7_access_168 : decode cX7_access 168 = .ok (.dup2, 1) := by decide +kernel
theorem dX7_access_169 : decode cX7_access 169 = .ok (.iaload, 1) := by decide +kernel
theorem dX7_access_170 : decode cX7_access 170 = .ok (.iconst 1, 1) := by decide +kernel
theorem dX7_access_171 : decode cX7_access 171 = .ok (.iload_n 2, 1) := by decide +kernel
theorem dX7_access_172 : decode cX7_access 172 = .ok (.ishl, 1) := by decide +kernel
theorem dX7_access_173 : decode cX7_access 173 = .ok (.ior, 1) := by decide +kernel
theorem dX7_access_174 : decode cX7_access 174 = .ok (.iastore, 1) := by decide +kernel
theorem dX7_access_175 : decode cX7_access 175 = .ok (.iconst 0, 1) := by decide +kernel
theorem dX7_access_176 : decode cX7_access 176 = .ok (.ireturn, 1) := by decide +kernel
set_option maxRecDepth 20000 in
theorem ggX7_read_X7_access : GoodIn wsX7_read wsX7_access := goodIn_r _ [7, 8, 9, 10, 11, 12, 13, 14, 15, 16, 2, 17, 18, 19, 20, 21, 22, 6, 23, 24, 25, 26, 27, 28, 29, 30, 31, 32, 33, 34, 35, 36, 37, 38, 39, 40, 41, 42, 43, 44, 45, 46, 47, 48, 49, 50, 51, 52, 53, 54, 55, 56, 57, 58, 59, 1, 60, 61, 62, 63, 64, 65, 66, 67, 68, 69, 70, 71, 72, 73, 74, 75, 76, 77, 78, 79, 80] (by decide +kernel) (by decide +kernel)
set_option maxRecDepth 20000 in
theorem gX7_read_X7_access : GoodIn wsX7_read (wsV RX7 135 RX7 yX7_access wsX7_access) := goodIn_app (goodIn_of _ (by decide +kernel)) ggX7_read_X7_access
set_option maxRecDepth 20000 in
theorem ggX7_read_X7_cell : GoodIn wsX7_read wsX7_cell := goodIn_r _ [68] (by decide +kernel) (by decide +kernel)
set_option maxRecDepth 20000 in
theorem gX7_read_X7_cell : GoodIn wsX7_read (va_wsS RX7 108 yX7_cell wsX7_cell) := goodIn_app (goodIn_of _ (by decide +kernel)) ggX7_read_X7_cell
theorem dX7_read_0 : decode cX7_read 0 = .ok (.aload_n 0, 1) := by decide +kernel
theorem dX7_read_1 : decode cX7_read 1 = .ok (.iload_n 1, 1) := by decide +kernel
theorem dX7_read_2 : decode cX7_read 2 = .ok (.iload_n 2, 1) := by decide +kernel
theorem dX7_read_3 : decode cX7_read 3 = .ok (.iload_n 3, 1) := by decide +kernel
theorem dX7_read_4 : decode cX7_read 4 = .ok (.invokevirtual 135, 3) := by decide +kernel
theorem dX7_read_7 : decode cX7_read 7 = .ok (.istore 4, 2) := by decide +kernel
theorem dX7_read_9 : decode cX7_read 9 = .ok (.iload 4, 2) := by decide +kernel
theorem dX7_read_11 : decode cX7_read 11 = .ok (.ifCond .eq 8, 3) := by decide +kernel
theorem dX7_read_14 : decode cX7_read 14 = .ok (.iload 4, 2) := by decide +kernel
theorem dX7_read_16 : decode cX7_read 16 = .ok (.goto 19, 3) := by decide +kernel
theorem dX7_read_19 : decode cX7_read 19 = .ok (.aload_n 0, 1) := by decide +kernel
theorem dX7_read_20 : decode cX7_read 20 = .ok (.getfield 38, 3) := by decide +kernel
theorem dX7_read_23 : decode cX7_read 23 = .ok (.iload_n 2, 1) := by decide +kernel
theorem dX7_read_24 : decode cX7_read 24 = .ok (.aload_n 0, 1) := by decide +kernel
theorem dX7_read_25 : decode cX7_read 25 = .ok (.getfield 32, 3) := by decide +kernel
theorem dX7_read_28 : decode cX7_read 28 = .ok (.iload_n 2, 1) := by decide +kernel
theorem dX7_read_29 : decode cX7_read 29 = .ok (.iaload, 1) := by decide +kernel
theorem dX7_read_30 : decode cX7_read 30 = .ok (.iload_n 3, 1) := by decide +kernel
theorem dX7_read_31 : decode cX7_read 31 = .ok (.invokestatic 108, 3) := by decide +kernel
theorem dX7_read_34 : decode cX7_read 34 = .ok (.iaload, 1) := by decide +kernel
theorem dX7_read_35 : decode cX7_read 35 = .ok (.ireturn, 1) := by decide +kernel
set_option maxRecDepth 20000 in
theorem ggX7_write_X7_in : GoodIn wsX7_write wsX7_in := goodIn_r _ [9] (by decide +kernel) (by decide +kernel)
set_option maxRecDepth 20000 in
theorem gX7_write_X7_in : GoodIn wsX7_write (va_wsS RX7 45 yX7_in wsX7_in) := goodIn_app (goodIn_of _ (by decide +kernel)) ggX7_write_X7_in
set_option maxRecDepth 20000 in
theorem ggX7_write_X7_access : GoodIn wsX7_write wsX7_access := goodIn_r _ [13, 14, 15, 16, 17, 18, 19, 20, 21, 22, 4, 23, 24, 25, 26, 27, 28, 8, 29, 6, 7, 9, 30, 31, 32, 33, 34, 35, 36, 37, 38, 39, 40, 41, 42, 43, 44, 45, 46, 47, 48, 49, 50, 51, 52, 53, 54, 55, 56, 57, 58, 59, 60, 61, 62, 5, 63, 64, 65, 66, 1, 2, 67, 68, 69, 70, 71, 72, 73, 74, 75, 76, 77, 78, 79, 80, 81] (by decide +kernel) (by decide +kernel)
set_option maxRecDepth 20000 in
theorem gX7_write_X7_access : GoodIn wsX7_write (wsV RX7 135 RX7 yX7_access wsX7_access) := goodIn_app (goodIn_of _ (by decide +kernel)) ggX7_write_X7_access
set_option maxRecDepth 20000 in
theorem ggX7_write_X7_cell : GoodIn wsX7_write wsX7_cell := goodIn_r _ [69] (by decide +kernel) (by decide +kernel)
set_option maxRecDepth 20000 in
theorem gX7_write_X7_cell : GoodIn wsX7_write (va_wsS RX7 108 yX7_cell wsX7_cell) := goodIn_app (goodIn_of _ (by decide +kernel)) ggX7_write_X7_cell
theorem dX7_write_0 : decode cX7_write 0 = .ok (.iload 4, 2) := by decide +kernel
theorem dX7_write_2 : decode cX7_write 2 = .ok (.ldc 76, 2) := by decide +kernel
theorem dX7_write_4 : decode cX7_write 4 = .ok (.ldc 77, 2) := by decide +kernel
theorem dX7_write_6 : decode cX7_write 6 = .ok (.invokestatic 45, 3) := by decide +kernel
theorem dX7_write_9 : decode cX7_write 9 = .ok (.ifCond .ne 6, 3) := by decide +kernel
theorem dX7_write_12 : decode cX7_write 12 = .ok (.ldc 56, 2) := by decide +kernel
theorem dX7_write_14 : decode cX7_write 14 = .ok (.ireturn, 1) := by decide +kernel
theorem dX7_write_15 : decode cX7_write 15 = .ok (.aload_n 0, 1) := by decide +kernel
theorem dX7_write_16 : decode cX7_write 16 = .ok (.iload_n 1, 1) := by decide +kernel
theorem dX7_write_17 : decode cX7_write 17 = .ok (.iload_n 2, 1) := by decide +kernel
theorem dX7_write_18 : decode cX7_write 18 = .ok (.iload_n 3, 1) := by decide +kernel
theorem dX7_write_19 : decode cX7_write 19 = .ok (.invokevirtual 135, 3) := by decide +kernel
theorem dX7_write_22 : decode cX7_write 22 = .ok (.istore 5, 2) := by decide +kernel
theorem dX7_write_24 : decode cX7_write 24 = .ok (.iload 5, 2) := by decide +kernel
theorem dX7_write_26 : decode cX7_write 26 = .ok (.ifCond .eq 6, 3) := by decide +kernel
theorem dX7_write_29 : decode cX7_write 29 = .ok (.iload 5, 2) := by decide +kernel
theorem dX7_write_31 : decode cX7_write 31 = .ok (.ireturn, 1) := by decide +kernel
theorem dX7_write_32 : decode cX7_write 32 = .ok (.iload_n 2, 1) := by decide +kernel
theorem dX7_write_33 : decode cX7_write 33 = .ok (.aload_n 0, 1) := by decide +kernel
theorem dX7_write_34 : decode cX7_write 34 = .ok (.getfield 32, 3) := by decide +kernel
theorem dX7_write_37 : decode cX7_write 37 = .ok (.iload_n 2, 1) := by decide +kernel
theorem dX7_write_38 : decode cX7_write 38 = .ok (.iaload, 1) := by decide +kernel
theorem dX7_write_39 : decode cX7_write 39 = .ok (.iload_n 3, 1) := by decide +kernel
theorem dX7_write_40 : decode cX7_write 40 = .ok (.invokestatic 108, 3) := by decide +kernel
theorem dX7_write_43 : decode cX7_write 43 = .ok (.istore 6, 2) := by decide +kernel
theorem dX7_write_45 : decode cX7_write 45 = .ok (.aload_n 0, 1) := by decide +kernel
theorem dX7_write_46 : decode cX7_write 46 = .ok (.getfield 38, 3) := by decide +kernel
theorem dX7_write_49 : decode cX7_write 49 = .ok (.iload 6, 2) := by decide +kernel
theorem dX7_write_51 : decode cX7_write 51 = .ok (.iaload, 1) := by decide +kernel
theorem dX7_write_52 : decode cX7_write 52 = .ok (.istore 7, 2) := by decide +kernel
theorem dX7_write_54 : decode cX7_write 54 = .ok (.aload_n 0, 1) := by decide +kernel
theorem dX7_write_55 : decode cX7_write 55 = .ok (.getfield 38, 3) := by decide +kernel
theorem dX7_write_58 : decode cX7_write 58 = .ok (.iload 6, 2) := by decide +kernel
theorem dX7_write_60 : decode cX7_write 60 = .ok (.iload 4, 2) := by decide +kernel
theorem dX7_write_62 : decode cX7_write 62 = .ok (.iastore, 1) := by decide +kernel
theorem dX7_write_63 : decode cX7_write 63 = .ok (.iload 7, 2) := by decide +kernel
theorem dX7_write_65 : decode cX7_write 65 = .ok (.ireturn, 1) := by decide +kernel
set_option maxRecDepth 20000 in
theorem ggX7_peek_X7_isObject : GoodIn wsX7_peek wsX7_isObject := goodIn_r _ [10, 11, 12, 13, 14, 9, 15, 30, 31, 32, 33, 34, 35, 36, 37, 38, 39, 40, 41] (by decide +kernel) (by decide +kernel)
set_option maxRecDepth 20000 in
theorem gX7_peek_X7_isObject : GoodIn wsX7_peek (wsV RX7 121 RX7 yX7_isObject wsX7_isObject) := goodIn_app (goodIn_of _ (by decide +kernel)) ggX7_peek_X7_isObject
set_option maxRecDepth 20000 in
theorem ggX7_peek_X7_of : GoodIn wsX7_peek wsX7_of := goodIn_r _ [19, 20, 21, 22, 9, 23, 30, 31, 32, 33, 34, 35, 36, 37, 38, 39, 40, 41] (by decide +kernel) (by decide +kernel)
set_option maxRecDepth 20000 in
theorem gX7_peek_X7_of : GoodIn wsX7_peek (wsV RX7 53 RX7 yX7_of wsX7_of) := goodIn_app (goodIn_of _ (by decide +kernel)) ggX7_peek_X7_of
set_option maxRecDepth 20000 in
theorem ggX7_peek_X7_has : GoodIn wsX7_peek wsX7_has := goodIn_r _ [26, 13, 14, 9, 15] (by decide +kernel) (by decide +kernel)
set_option maxRecDepth 20000 in
theorem gX7_peek_X7_has : GoodIn wsX7_peek (va_wsS RX7 78 yX7_has wsX7_has) := goodIn_app (goodIn_of _ (by decide +kernel)) ggX7_peek_X7_has
set_option maxRecDepth 20000 in
theorem ggX7_peek_X7_cell : GoodIn wsX7_peek wsX7_cell := goodIn_r _ [29] (by decide +kernel) (by decide +kernel)
set_option maxRecDepth 20000 in
theorem gX7_peek_X7_cell : GoodIn wsX7_peek (va_wsS RX7 108 yX7_cell wsX7_cell) := goodIn_app (goodIn_of _ (by decide +kernel)) ggX7_peek_X7_cell
theorem dX7_peek_0 : decode cX7_peek 0 = .ok (.aload_n 0, 1) := by decide +kernel
theorem dX7_peek_1 : decode cX7_peek 1 = .ok (.iload_n 1, 1) := by decide +kernel
theorem dX7_peek_2 : decode cX7_peek 2 = .ok (.invokevirtual 121, 3) := by decide +kernel
theorem dX7_peek_5 : decode cX7_peek 5 = .ok (.ifCond .ne 6, 3) := by decide +kernel
theorem dX7_peek_8 : decode cX7_peek 8 = .ok (.ldc 124, 2) := by decide +kernel
theorem dX7_peek_10 : decode cX7_peek 10 = .ok (.ireturn, 1) := by decide +kernel
theorem dX7_peek_11 : decode cX7_peek 11 = .ok (.aload_n 0, 1) := by decide +kernel
theorem dX7_peek_12 : decode cX7_peek 12 = .ok (.getfield 32, 3) := by decide +kernel
theorem dX7_peek_15 : decode cX7_peek 15 = .ok (.iload_n 1, 1) := by decide +kernel
theorem dX7_peek_16 : decode cX7_peek 16 = .ok (.iaload, 1) := by decide +kernel
theorem dX7_peek_17 : decode cX7_peek 17 = .ok (.istore_n 3, 1) := by decide +kernel
theorem dX7_peek_18 : decode cX7_peek 18 = .ok (.aload_n 0, 1) := by decide +kernel
theorem dX7_peek_19 : decode cX7_peek 19 = .ok (.aload_n 0, 1) := by decide +kernel
theorem dX7_peek_20 : decode cX7_peek 20 = .ok (.getfield 29, 3) := by decide +kernel
theorem dX7_peek_23 : decode cX7_peek 23 = .ok (.iload_n 1, 1) := by decide +kernel
theorem dX7_peek_24 : decode cX7_peek 24 = .ok (.iaload, 1) := by decide +kernel
theorem dX7_peek_25 : decode cX7_peek 25 = .ok (.iconst 2, 1) := by decide +kernel
theorem dX7_peek_26 : decode cX7_peek 26 = .ok (.iload_n 3, 1) := by decide +kernel
theorem dX7_peek_27 : decode cX7_peek 27 = .ok (.iadd, 1) := by decide +kernel
theorem dX7_peek_28 : decode cX7_peek 28 = .ok (.invokevirtual 53, 3) := by decide +kernel
theorem dX7_peek_31 : decode cX7_peek 31 = .ok (.iload_n 2, 1) := by decide +kernel
theorem dX7_peek_32 : decode cX7_peek 32 = .ok (.invokestatic 78, 3) := by decide +kernel
theorem dX7_peek_35 : decode cX7_peek 35 = .ok (.ifCond .eq 17, 3) := by decide +kernel
theorem dX7_peek_38 : decode cX7_peek 38 = .ok (.aload_n 0, 1) := by decide +kernel
theorem dX7_peek_39 : decode cX7_peek 39 = .ok (.getfield 38, 3) := by decide +kernel
theorem dX7_peek_42 : decode cX7_peek 42 = .ok (.iload_n 1, 1) := by decide +kernel
theorem dX7_peek_43 : decode cX7_peek 43 = .ok (.iload_n 3, 1) := by decide +kernel
theorem dX7_peek_44 : decode cX7_peek 44 = .ok (.iload_n 2, 1) := by decide +kernel
theorem dX7_peek_45 : decode cX7_peek 45 = .ok (.invokestatic 108, 3) := by decide +kernel
theorem dX7_peek_48 : decode cX7_peek 48 = .ok (.iaload, 1) := by decide +kernel
theorem dX7_peek_49 : decode cX7_peek 49 = .ok (.goto 5, 3) := by decide +kernel
theorem dX7_peek_52 : decode cX7_peek 52 = .ok (.ldc 86, 2) := by decide +kernel
theorem dX7_peek_54 : decode cX7_peek 54 = .ok (.ireturn, 1) := by decide +kernel
set_option maxRecDepth 20000 in
theorem ggX7_objectVersion_X7_isObject : GoodIn wsX7_objectVersion wsX7_isObject := goodIn_r _ [7, 8, 9, 10, 11, 6, 12, 13, 14, 15, 16, 17, 18, 19, 20, 21, 22, 23, 24] (by decide +kernel) (by decide +kernel)
set_option maxRecDepth 20000 in
theorem gX7_objectVersion_X7_isObject : GoodIn wsX7_objectVersion (wsV RX7 121 RX7 yX7_isObject wsX7_isObject) := goodIn_app (goodIn_of _ (by decide +kernel)) ggX7_objectVersion_X7_isObject
theorem dX7_objectVersion_0 : decode cX7_objectVersion 0 = .ok (.aload_n 0, 1) := by decide +kernel
theorem dX7_objectVersion_1 : decode cX7_objectVersion 1 = .ok (.iload_n 1, 1) := by decide +kernel
theorem dX7_objectVersion_2 : decode cX7_objectVersion 2 = .ok (.invokevirtual 121, 3) := by decide +kernel
theorem dX7_objectVersion_5 : decode cX7_objectVersion 5 = .ok (.ifCond .eq 12, 3) := by decide +kernel
theorem dX7_objectVersion_8 : decode cX7_objectVersion 8 = .ok (.aload_n 0, 1) := by decide +kernel
theorem dX7_objectVersion_9 : decode cX7_objectVersion 9 = .ok (.getfield 32, 3) := by decide +kernel
theorem dX7_objectVersion_12 : decode cX7_objectVersion 12 = .ok (.iload_n 1, 1) := by decide +kernel
theorem dX7_objectVersion_13 : decode cX7_objectVersion 13 = .ok (.iaload, 1) := by decide +kernel
theorem dX7_objectVersion_14 : decode cX7_objectVersion 14 = .ok (.goto 5, 3) := by decide +kernel
theorem dX7_objectVersion_17 : decode cX7_objectVersion 17 = .ok (.ldc 124, 2) := by decide +kernel
theorem dX7_objectVersion_19 : decode cX7_objectVersion 19 = .ok (.ireturn, 1) := by decide +kernel
set_option maxRecDepth 20000 in
theorem ggX7_conversions_X7_isObject : GoodIn wsX7_conversions wsX7_isObject := goodIn_r _ [8, 9, 10, 11, 12, 7, 13, 14, 15, 16, 17, 18, 19, 20, 21, 22, 23, 24, 25] (by decide +kernel) (by decide +kernel)
set_option maxRecDepth 20000 in
theorem gX7_conversions_X7_isObject : GoodIn wsX7_conversions (wsV RX7 121 RX7 yX7_isObject wsX7_isObject) := goodIn_app (goodIn_of _ (by decide +kernel)) ggX7_conversions_X7_isObject
theorem dX7_conversions_0 : decode cX7_conversions 0 = .ok (.aload_n 0, 1) := by decide +kernel
theorem dX7_conversions_1 : decode cX7_conversions 1 = .ok (.iload_n 1, 1) := by decide +kernel
theorem dX7_conversions_2 : decode cX7_conversions 2 = .ok (.invokevirtual 121, 3) := by decide +kernel
theorem dX7_conversions_5 : decode cX7_conversions 5 = .ok (.ifCond .eq 19, 3) := by decide +kernel
theorem dX7_conversions_8 : decode cX7_conversions 8 = .ok (.aload_n 0, 1) := by decide +kernel
theorem dX7_conversions_9 : decode cX7_conversions 9 = .ok (.getfield 32, 3) := by decide +kernel
theorem dX7_conversions_12 : decode cX7_conversions 12 = .ok (.iload_n 1, 1) := by decide +kernel
theorem dX7_conversions_13 : decode cX7_conversions 13 = .ok (.iaload, 1) := by decide +kernel
theorem dX7_conversions_14 : decode cX7_conversions 14 = .ok (.aload_n 0, 1) := by decide +kernel
theorem dX7_conversions_15 : decode cX7_conversions 15 = .ok (.getfield 35, 3) := by decide +kernel
theorem dX7_conversions_18 : decode cX7_conversions 18 = .ok (.iload_n 1, 1) := by decide +kernel
theorem dX7_conversions_19 : decode cX7_conversions 19 = .ok (.iaload, 1) := by decide +kernel
theorem dX7_conversions_20 : decode cX7_conversions 20 = .ok (.isub, 1) := by decide +kernel
theorem dX7_conversions_21 : decode cX7_conversions 21 = .ok (.goto 5, 3) := by decide +kernel
theorem dX7_conversions_24 : decode cX7_conversions 24 = .ok (.ldc 124, 2) := by decide +kernel
theorem dX7_conversions_26 : decode cX7_conversions 26 = .ok (.ireturn, 1) := by decide +kernel
set_option maxRecDepth 20000 in
theorem ggX7_pinnedBy_X7_isObject : GoodIn wsX7_pinnedBy wsX7_isObject := goodIn_r _ [9, 10, 11, 12, 13, 8, 14, 20, 21, 22, 23, 24, 25, 26, 27, 28, 29, 30, 31] (by decide +kernel) (by decide +kernel)
set_option maxRecDepth 20000 in
theorem gX7_pinnedBy_X7_isObject : GoodIn wsX7_pinnedBy (wsV RX7 121 RX7 yX7_isObject wsX7_isObject) := goodIn_app (goodIn_of _ (by decide +kernel)) ggX7_pinnedBy_X7_isObject
set_option maxRecDepth 20000 in
theorem ggX7_pinnedBy_X7_isThere : GoodIn wsX7_pinnedBy wsX7_isThere := goodIn_r _ [18, 19, 20, 21, 22, 23, 24, 25, 26, 27, 28, 29, 30, 31] (by decide +kernel) (by decide +kernel)
set_option maxRecDepth 20000 in
theorem gX7_pinnedBy_X7_isThere : GoodIn wsX7_pinnedBy (wsV RX7 89 RX7 yX7_isThere wsX7_isThere) := goodIn_app (goodIn_of _ (by decide +kernel)) ggX7_pinnedBy_X7_isThere
theorem dX7_pinnedBy_0 : decode cX7_pinnedBy 0 = .ok (.aload_n 0, 1) := by decide +kernel
theorem dX7_pinnedBy_1 : decode cX7_pinnedBy 1 = .ok (.iload_n 1, 1) := by decide +kernel
theorem dX7_pinnedBy_2 : decode cX7_pinnedBy 2 = .ok (.invokevirtual 121, 3) := by decide +kernel
theorem dX7_pinnedBy_5 : decode cX7_pinnedBy 5 = .ok (.ifCond .ne 6, 3) := by decide +kernel
theorem dX7_pinnedBy_8 : decode cX7_pinnedBy 8 = .ok (.ldc 124, 2) := by decide +kernel
theorem dX7_pinnedBy_10 : decode cX7_pinnedBy 10 = .ok (.ireturn, 1) := by decide +kernel
theorem dX7_pinnedBy_11 : decode cX7_pinnedBy 11 = .ok (.ldc 138, 2) := by decide +kernel
theorem dX7_pinnedBy_13 : decode cX7_pinnedBy 13 = .ok (.istore_n 2, 1) := by decide +kernel
theorem dX7_pinnedBy_14 : decode cX7_pinnedBy 14 = .ok (.iconst 0, 1) := by decide +kernel
theorem dX7_pinnedBy_15 : decode cX7_pinnedBy 15 = .ok (.istore_n 3, 1) := by decide +kernel
theorem dX7_pinnedBy_16 : decode cX7_pinnedBy 16 = .ok (.iload_n 3, 1) := by decide +kernel
theorem dX7_pinnedBy_17 : decode cX7_pinnedBy 17 = .ok (.bipush 32, 2) := by decide +kernel
theorem dX7_pinnedBy_19 : decode cX7_pinnedBy 19 = .ok (.if_icmp .ge 68, 3) := by decide +kernel
theorem dX7_pinnedBy_22 : decode cX7_pinnedBy 22 = .ok (.aload_n 0, 1) := by decide +kernel
theorem dX7_pinnedBy_23 : decode cX7_pinnedBy 23 = .ok (.iload_n 3, 1) := by decide +kernel
theorem dX7_pinnedBy_24 : decode cX7_pinnedBy 24 = .ok (.invokevirtual 89, 3) := by decide +kernel
theorem dX7_pinnedBy_27 : decode cX7_pinnedBy 27 = .ok (.ifCond .eq 21, 3) := by decide +kernel
theorem dX7_pinnedBy_30 : decode cX7_pinnedBy 30 = .ok (.aload_n 0, 1) := by decide +kernel
theorem dX7_pinnedBy_31 : decode cX7_pinnedBy 31 = .ok (.getfield 22, 3) := by decide +kernel
theorem dX7_pinnedBy_34 : decode cX7_pinnedBy 34 = .ok (.iload_n 3, 1) := by decide +kernel
theorem dX7_pinnedBy_35 : decode cX7_pinnedBy 35 = .ok (.iaload, 1) := by decide +kernel
theorem dX7_pinnedBy_36 : decode cX7_pinnedBy 36 = .ok (.iload_n 1, 1) := by decide +kernel
theorem dX7_pinnedBy_37 : decode cX7_pinnedBy 37 = .ok (.ishr, 1) := by decide +kernel
theorem dX7_pinnedBy_38 : decode cX7_pinnedBy 38 = .ok (.iconst 1, 1) := by decide +kernel
theorem dX7_pinnedBy_39 : decode cX7_pinnedBy 39 = .ok (.iand, 1) := by decide +kernel
theorem dX7_pinnedBy_40 : decode cX7_pinnedBy 40 = .ok (.iconst 1, 1) := by decide +kernel
theorem dX7_pinnedBy_41 : decode cX7_pinnedBy 41 = .ok (.if_icmp .ne 7, 3) := by decide +kernel
theorem dX7_pinnedBy_44 : decode cX7_pinnedBy 44 = .ok (.iconst 1, 1) := by decide +kernel
theorem dX7_pinnedBy_45 : decode cX7_pinnedBy 45 = .ok (.goto 4, 3) := by decide +kernel
theorem dX7_pinnedBy_48 : decode cX7_pinnedBy 48 = .ok (.iconst 0, 1) := by decide +kernel
theorem dX7_pinnedBy_49 : decode cX7_pinnedBy 49 = .ok (.istore 4, 2) := by decide +kernel
theorem dX7_pinnedBy_51 : decode cX7_pinnedBy 51 = .ok (.iload 4, 2) := by decide +kernel
theorem dX7_pinnedBy_53 : decode cX7_pinnedBy 53 = .ok (.ifCond .eq 26, 3) := by decide +kernel
theorem dX7_pinnedBy_56 : decode cX7_pinnedBy 56 = .ok (.iload_n 2, 1) := by decide +kernel
theorem dX7_pinnedBy_57 : decode cX7_pinnedBy 57 = .ok (.ifCond .lt 13, 3) := by decide +kernel
theorem dX7_pinnedBy_60 : decode cX7_pinnedBy 60 = .ok (.aload_n 0, 1) := by decide +kernel
theorem dX7_pinnedBy_61 : decode cX7_pinnedBy 61 = .ok (.getfield 19, 3) := by decide +kernel
theorem dX7_pinnedBy_64 : decode cX7_pinnedBy 64 = .ok (.iload_n 3, 1) := by decide +kernel
theorem dX7_pinnedBy_65 : decode cX7_pinnedBy 65 = .ok (.iaload, 1) := by decide +kernel
theorem dX7_pinnedBy_66 : decode cX7_pinnedBy 66 = .ok (.iload_n 2, 1) := by decide +kernel
theorem dX7_pinnedBy_67 : decode cX7_pinnedBy 67 = .ok (.if_icmp .ge 12, 3) := by decide +kernel
theorem dX7_pinnedBy_70 : decode cX7_pinnedBy 70 = .ok (.aload_n 0, 1) := by decide +kernel
theorem dX7_pinnedBy_71 : decode cX7_pinnedBy 71 = .ok (.getfield 19, 3) := by decide +kernel
theorem dX7_pinnedBy_74 : decode cX7_pinnedBy 74 = .ok (.iload_n 3, 1) := by decide +kernel
theorem dX7_pinnedBy_75 : decode cX7_pinnedBy 75 = .ok (.iaload, 1) := by decide +kernel
theorem dX7_pinnedBy_76 : decode cX7_pinnedBy 76 = .ok (.goto 4, 3) := by decide +kernel
theorem dX7_pinnedBy_79 : decode cX7_pinnedBy 79 = .ok (.iload_n 2, 1) := by decide +kernel
theorem dX7_pinnedBy_80 : decode cX7_pinnedBy 80 = .ok (.istore_n 2, 1) := by decide +kernel
theorem dX7_pinnedBy_81 : decode cX7_pinnedBy 81 = .ok (.iinc 3 1, 3) := by decide +kernel
theorem dX7_pinnedBy_84 : decode cX7_pinnedBy 84 = .ok (.goto (-68), 3) := by decide +kernel
theorem dX7_pinnedBy_87 : decode cX7_pinnedBy 87 = .ok (.iload_n 2, 1) := by decide +kernel
theorem dX7_pinnedBy_88 : decode cX7_pinnedBy 88 = .ok (.ireturn, 1) := by decide +kernel
set_option maxRecDepth 20000 in
theorem ggX7_outdated_X7_isClass : GoodIn wsX7_outdated wsX7_isClass := goodIn_r _ [10, 11, 12, 13, 9, 14, 27, 28, 29, 30, 31, 32, 33, 34, 35, 36, 37, 38] (by decide +kernel) (by decide +kernel)
set_option maxRecDepth 20000 in
theorem gX7_outdated_X7_isClass : GoodIn wsX7_outdated (wsV RX7 58 RX7 yX7_isClass wsX7_isClass) := goodIn_app (goodIn_of _ (by decide +kernel)) ggX7_outdated_X7_isClass
set_option maxRecDepth 20000 in
theorem ggX7_outdated_X7_current : GoodIn wsX7_outdated wsX7_current := goodIn_r _ [18, 19, 20, 21, 9, 22, 23, 24, 25, 26, 27, 28, 29, 30, 31, 32, 33, 34, 35, 36, 37, 38] (by decide +kernel) (by decide +kernel)
set_option maxRecDepth 20000 in
theorem gX7_outdated_X7_current : GoodIn wsX7_outdated (wsV RX7 62 RX7 yX7_current wsX7_current) := goodIn_app (goodIn_of _ (by decide +kernel)) ggX7_outdated_X7_current
theorem dX7_outdated_0 : decode cX7_outdated 0 = .ok (.aload_n 0, 1) := by decide +kernel
theorem dX7_outdated_1 : decode cX7_outdated 1 = .ok (.iload_n 1, 1) := by decide +kernel
theorem dX7_outdated_2 : decode cX7_outdated 2 = .ok (.invokevirtual 58, 3) := by decide +kernel
theorem dX7_outdated_5 : decode cX7_outdated 5 = .ok (.ifCond .ne 6, 3) := by decide +kernel
theorem dX7_outdated_8 : decode cX7_outdated 8 = .ok (.ldc 66, 2) := by decide +kernel
theorem dX7_outdated_10 : decode cX7_outdated 10 = .ok (.ireturn, 1) := by decide +kernel
theorem dX7_outdated_11 : decode cX7_outdated 11 = .ok (.iconst 0, 1) := by decide +kernel
theorem dX7_outdated_12 : decode cX7_outdated 12 = .ok (.istore_n 2, 1) := by decide +kernel
theorem dX7_outdated_13 : decode cX7_outdated 13 = .ok (.iconst 0, 1) := by decide +kernel
theorem dX7_outdated_14 : decode cX7_outdated 14 = .ok (.istore_n 3, 1) := by decide +kernel
theorem dX7_outdated_15 : decode cX7_outdated 15 = .ok (.iload_n 3, 1) := by decide +kernel
theorem dX7_outdated_16 : decode cX7_outdated 16 = .ok (.aload_n 0, 1) := by decide +kernel
theorem dX7_outdated_17 : decode cX7_outdated 17 = .ok (.getfield 96, 3) := by decide +kernel
theorem dX7_outdated_20 : decode cX7_outdated 20 = .ok (.if_icmp .ge 50, 3) := by decide +kernel
theorem dX7_outdated_23 : decode cX7_outdated 23 = .ok (.iload_n 2, 1) := by decide +kernel
theorem dX7_outdated_24 : decode cX7_outdated 24 = .ok (.aload_n 0, 1) := by decide +kernel
theorem dX7_outdated_25 : decode cX7_outdated 25 = .ok (.getfield 25, 3) := by decide +kernel
theorem dX7_outdated_28 : decode cX7_outdated 28 = .ok (.iload_n 3, 1) := by decide +kernel
theorem dX7_outdated_29 : decode cX7_outdated 29 = .ok (.baload, 1) := by decide +kernel
theorem dX7_outdated_30 : decode cX7_outdated 30 = .ok (.ifCond .eq 31, 3) := by decide +kernel
theorem dX7_outdated_33 : decode cX7_outdated 33 = .ok (.aload_n 0, 1) := by decide +kernel
theorem dX7_outdated_34 : decode cX7_outdated 34 = .ok (.getfield 29, 3) := by decide +kernel
theorem dX7_outdated_37 : decode cX7_outdated 37 = .ok (.iload_n 3, 1) := by decide +kernel
theorem dX7_outdated_38 : decode cX7_outdated 38 = .ok (.iaload, 1) := by decide +kernel
theorem dX7_outdated_39 : decode cX7_outdated 39 = .ok (.iload_n 1, 1) := by decide +kernel
theorem dX7_outdated_40 : decode cX7_outdated 40 = .ok (.if_icmp .ne 21, 3) := by decide +kernel
theorem dX7_outdated_43 : decode cX7_outdated 43 = .ok (.aload_n 0, 1) := by decide +kernel
theorem dX7_outdated_44 : decode cX7_outdated 44 = .ok (.getfield 32, 3) := by decide +kernel
theorem dX7_outdated_47 : decode cX7_outdated 47 = .ok (.iload_n 3, 1) := by decide +kernel
theorem dX7_outdated_48 : decode cX7_outdated 48 = .ok (.iaload, 1) := by decide +kernel
theorem dX7_outdated_49 : decode cX7_outdated 49 = .ok (.aload_n 0, 1) := by decide +kernel
theorem dX7_outdated_50 : decode cX7_outdated 50 = .ok (.iload_n 1, 1) := by decide +kernel
theorem dX7_outdated_51 : decode cX7_outdated 51 = .ok (.invokevirtual 62, 3) := by decide +kernel
theorem dX7_outdated_54 : decode cX7_outdated 54 = .ok (.if_icmp .eq 7, 3) := by decide +kernel
theorem dX7_outdated_57 : decode cX7_outdated 57 = .ok (.iconst 1, 1) := by decide +kernel
theorem dX7_outdated_58 : decode cX7_outdated 58 = .ok (.goto 4, 3) := by decide +kernel
theorem dX7_outdated_61 : decode cX7_outdated 61 = .ok (.iconst 0, 1) := by decide +kernel
theorem dX7_outdated_62 : decode cX7_outdated 62 = .ok (.iadd, 1) := by decide +kernel
theorem dX7_outdated_63 : decode cX7_outdated 63 = .ok (.istore_n 2, 1) := by decide +kernel
theorem dX7_outdated_64 : decode cX7_outdated 64 = .ok (.iinc 3 1, 3) := by decide +kernel
theorem dX7_outdated_67 : decode cX7_outdated 67 = .ok (.goto (-52), 3) := by decide +kernel
theorem dX7_outdated_70 : decode cX7_outdated 70 = .ok (.iload_n 2, 1) := by decide +kernel
theorem dX7_outdated_71 : decode cX7_outdated 71 = .ok (.ireturn, 1) := by decide +kernel
set_option maxRecDepth 20000 in
theorem ggX7_convertAll_X7_isClass : GoodIn wsX7_convertAll wsX7_isClass := goodIn_r _ [10, 11, 12, 13, 9, 14, 56, 57, 58, 59, 60, 61, 62, 63, 64, 65, 66, 67] (by decide +kernel) (by decide +kernel)
set_option maxRecDepth 20000 in
theorem gX7_convertAll_X7_isClass : GoodIn wsX7_convertAll (wsV RX7 58 RX7 yX7_isClass wsX7_isClass) := goodIn_app (goodIn_of _ (by decide +kernel)) ggX7_convertAll_X7_isClass
set_option maxRecDepth 20000 in
theorem ggX7_convertAll_X7_current : GoodIn wsX7_convertAll wsX7_current := goodIn_r _ [18, 19, 20, 21, 9, 22, 23, 24, 25, 26, 56, 57, 58, 59, 60, 61, 62, 63, 64, 65, 66, 67] (by decide +kernel) (by decide +kernel)
set_option maxRecDepth 20000 in
theorem gX7_convertAll_X7_current : GoodIn wsX7_convertAll (wsV RX7 62 RX7 yX7_current wsX7_current) := goodIn_app (goodIn_of _ (by decide +kernel)) ggX7_convertAll_X7_current
set_option maxRecDepth 20000 in
theorem ggX7_convertAll_X7_isHeldBelow : GoodIn wsX7_convertAll wsX7_isHeldBelow := goodIn_r _ [30, 31, 32, 33, 34, 35, 9, 36, 37, 56, 57, 58, 59, 60, 61, 62, 63, 64, 65, 66, 67] (by decide +kernel) (by decide +kernel)
set_option maxRecDepth 20000 in
theorem gX7_convertAll_X7_isHeldBelow : GoodIn wsX7_convertAll (wsV RX7 127 RX7 yX7_isHeldBelow wsX7_isHeldBelow) := goodIn_app (goodIn_of _ (by decide +kernel)) ggX7_convertAll_X7_isHeldBelow
set_option maxRecDepth 20000 in
theorem ggX7_convertAll_X7_convert : GoodIn wsX7_convertAll wsX7_convert := goodIn_r _ [41, 5, 42, 43, 44, 9, 45, 4, 46, 23, 47, 48, 49, 50, 51, 52, 53, 54, 55, 19, 20, 21, 22, 24, 25, 26, 12, 13, 14, 56, 57, 58, 59, 60, 61, 62, 63, 64, 65, 66, 67] (by decide +kernel) (by decide +kernel)
set_option maxRecDepth 20000 in
theorem gX7_convertAll_X7_convert : GoodIn wsX7_convertAll (wsV RX7 131 RX7 yX7_convert wsX7_convert) := goodIn_app (goodIn_of _ (by decide +kernel)) ggX7_convertAll_X7_convert
theorem dX7_convertAll_0 : decode cX7_convertAll 0 = .ok (.aload_n 0, 1) := by decide +kernel
theorem dX7_convertAll_1 : decode cX7_convertAll 1 = .ok (.iload_n 1, 1) := by decide +kernel
theorem dX7_convertAll_2 : decode cX7_convertAll 2 = .ok (.invokevirtual 58, 3) := by decide +kernel
theorem dX7_convertAll_5 : decode cX7_convertAll 5 = .ok (.ifCond .ne 6, 3) := by decide +kernel
theorem dX7_convertAll_8 : decode cX7_convertAll 8 = .ok (.ldc 66, 2) := by decide +kernel
theorem dX7_convertAll_10 : decode cX7_convertAll 10 = .ok (.ireturn, 1) := by decide +kernel
theorem dX7_convertAll_11 : decode cX7_convertAll 11 = .ok (.aload_n 0, 1) := by decide +kernel
theorem dX7_convertAll_12 : decode cX7_convertAll 12 = .ok (.iload_n 1, 1) := by decide +kernel
theorem dX7_convertAll_13 : decode cX7_convertAll 13 = .ok (.invokevirtual 62, 3) := by decide +kernel
theorem dX7_convertAll_16 : decode cX7_convertAll 16 = .ok (.istore_n 2, 1) := by decide +kernel
theorem dX7_convertAll_17 : decode cX7_convertAll 17 = .ok (.iconst 0, 1) := by decide +kernel
theorem dX7_convertAll_18 : decode cX7_convertAll 18 = .ok (.istore_n 3, 1) := by decide +kernel
theorem dX7_convertAll_19 : decode cX7_convertAll 19 = .ok (.iconst 0, 1) := by decide +kernel
theorem dX7_convertAll_20 : decode cX7_convertAll 20 = .ok (.istore 4, 2) := by decide +kernel
theorem dX7_convertAll_22 : decode cX7_convertAll 22 = .ok (.iload 4, 2) := by decide +kernel
theorem dX7_convertAll_24 : decode cX7_convertAll 24 = .ok (.aload_n 0, 1) := by decide +kernel
theorem dX7_convertAll_25 : decode cX7_convertAll 25 = .ok (.getfield 96, 3) := by decide +kernel
theorem dX7_convertAll_28 : decode cX7_convertAll 28 = .ok (.if_icmp .ge 81, 3) := by decide +kernel
theorem dX7_convertAll_31 : decode cX7_convertAll 31 = .ok (.aload_n 0, 1) := by decide +kernel
theorem dX7_convertAll_32 : decode cX7_convertAll 32 = .ok (.getfield 25, 3) := by decide +kernel
theorem dX7_convertAll_35 : decode cX7_convertAll 35 = .ok (.iload 4, 2) := by decide +kernel
theorem dX7_convertAll_37 : decode cX7_convertAll 37 = .ok (.baload, 1) := by decide +kernel
theorem dX7_convertAll_38 : decode cX7_convertAll 38 = .ok (.ifCond .eq 39, 3) := by decide +kernel
theorem dX7_convertAll_41 : decode cX7_convertAll 41 = .ok (.aload_n 0, 1) := by decide +kernel
theorem dX7_convertAll_42 : decode cX7_convertAll 42 = .ok (.getfield 29, 3) := by decide +kernel
theorem dX7_convertAll_45 : decode cX7_convertAll 45 = .ok (.iload 4, 2) := by decide +kernel
theorem dX7_convertAll_47 : decode cX7_convertAll 47 = .ok (.iaload, 1) := by decide +kernel
theorem dX7_convertAll_48 : decode cX7_convertAll 48 = .ok (.iload_n 1, 1) := by decide +kernel
theorem dX7_convertAll_49 : decode cX7_convertAll 49 = .ok (.if_icmp .ne 28, 3) := by decide +kernel
theorem dX7_convertAll_52 : decode cX7_convertAll 52 = .ok (.aload_n 0, 1) := by decide +kernel
theorem dX7_convertAll_53 : decode cX7_convertAll 53 = .ok (.getfield 32, 3) := by decide +kernel
theorem dX7_convertAll_56 : decode cX7_convertAll 56 = .ok (.iload 4, 2) := by decide +kernel
theorem dX7_convertAll_58 : decode cX7_convertAll 58 = .ok (.iaload, 1) := by decide +kernel
theorem dX7_convertAll_59 : decode cX7_convertAll 59 = .ok (.iload_n 2, 1) := by decide +kernel
theorem dX7_convertAll_60 : decode cX7_convertAll 60 = .ok (.if_icmp .ge 17, 3) := by decide +kernel
theorem dX7_convertAll_63 : decode cX7_convertAll 63 = .ok (.aload_n 0, 1) := by decide +kernel
theorem dX7_convertAll_64 : decode cX7_convertAll 64 = .ok (.iload 4, 2) := by decide +kernel
theorem dX7_convertAll_66 : decode cX7_convertAll 66 = .ok (.iload_n 2, 1) := by decide +kernel
theorem dX7_convertAll_67 : decode cX7_convertAll 67 = .ok (.invokevirtual 127, 3) := by decide +kernel
theorem dX7_convertAll_70 : decode cX7_convertAll 70 = .ok (.ifCond .ne 7, 3) := by decide +kernel
theorem dX7_convertAll_73 : decode cX7_convertAll 73 = .ok (.iconst 1, 1) := by decide +kernel
theorem dX7_convertAll_74 : decode cX7_convertAll 74 = .ok (.goto 4, 3) := by decide +kernel
theorem dX7_convertAll_77 : decode cX7_convertAll 77 = .ok (.iconst 0, 1) := by decide +kernel
theorem dX7_convertAll_78 : decode cX7_convertAll 78 = .ok (.istore 5, 2) := by decide +kernel
theorem dX7_convertAll_80 : decode cX7_convertAll 80 = .ok (.iload_n 3, 1) := by decide +kernel
theorem dX7_convertAll_81 : decode cX7_convertAll 81 = .ok (.iload 5, 2) := by decide +kernel
theorem dX7_convertAll_83 : decode cX7_convertAll 83 = .ok (.ifCond .eq 17, 3) := by decide +kernel
theorem dX7_convertAll_86 : decode cX7_convertAll 86 = .ok (.aload_n 0, 1) := by decide +kernel
theorem dX7_convertAll_87 : decode cX7_convertAll 87 = .ok (.iload 4, 2) := by decide +kernel
theorem dX7_convertAll_89 : decode cX7_convertAll 89 = .ok (.iload_n 2, 1) := by decide +kernel
theorem dX7_convertAll_90 : decode cX7_convertAll 90 = .ok (.invokevirtual 131, 3) := by decide +kernel
theorem dX7_convertAll_93 : decode cX7_convertAll 93 = .ok (.ifCond .eq 7, 3) := by decide +kernel
theorem dX7_convertAll_96 : decode cX7_convertAll 96 = .ok (.iconst 1, 1) := by decide +kernel
theorem dX7_convertAll_97 : decode cX7_convertAll 97 = .ok (.goto 4, 3) := by decide +kernel
theorem dX7_convertAll_100 : decode cX7_convertAll 100 = .ok (.iconst 0, 1) := by decide +kernel
theorem dX7_convertAll_101 : decode cX7_convertAll 101 = .ok (.iadd, 1) := by decide +kernel
theorem dX7_convertAll_102 : decode cX7_convertAll 102 = .ok (.istore_n 3, 1) := by decide +kernel
theorem dX7_convertAll_103 : decode cX7_convertAll 103 = .ok (.iinc 4 1, 3) := by decide +kernel
theorem dX7_convertAll_106 : decode cX7_convertAll 106 = .ok (.goto (-84), 3) := by decide +kernel
theorem dX7_convertAll_109 : decode cX7_convertAll 109 = .ok (.iload_n 3, 1) := by decide +kernel
theorem dX7_convertAll_110 : decode cX7_convertAll 110 = .ok (.ireturn, 1) := by decide +kernel
