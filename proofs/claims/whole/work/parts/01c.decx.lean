theorem dX3_init_0 : decode cX3_init 0 = .ok (.aload_n 0, 1) := by decide +kernel
theorem dX3_init_1 : decode cX3_init 1 = .ok (.invokespecial 1, 3) := by decide +kernel
theorem dX3_init_4 : decode cX3_init 4 = .ok (.aload_n 0, 1) := by decide +kernel
theorem dX3_init_5 : decode cX3_init 5 = .ok (.aload_n 1, 1) := by decide +kernel
theorem dX3_init_6 : decode cX3_init 6 = .ok (.putfield 7, 3) := by decide +kernel
theorem dX3_init_9 : decode cX3_init 9 = .ok (.aload_n 0, 1) := by decide +kernel
theorem dX3_init_10 : decode cX3_init 10 = .ok (.aload_n 1, 1) := by decide +kernel
theorem dX3_init_11 : decode cX3_init 11 = .ok (.getfield 13, 3) := by decide +kernel
theorem dX3_init_14 : decode cX3_init 14 = .ok (.putfield 19, 3) := by decide +kernel
theorem dX3_init_17 : decode cX3_init 17 = .ok (.return_, 1) := by decide +kernel
theorem dX3_pin_0 : decode cX3_pin 0 = .ok (.aload_n 0, 1) := by decide +kernel
theorem dX3_pin_1 : decode cX3_pin 1 = .ok (.dup, 1) := by decide +kernel
theorem dX3_pin_2 : decode cX3_pin 2 = .ok (.getfield 22, 3) := by decide +kernel
theorem dX3_pin_5 : decode cX3_pin 5 = .ok (.iconst 1, 1) := by decide +kernel
theorem dX3_pin_6 : decode cX3_pin 6 = .ok (.iload_n 1, 1) := by decide +kernel
theorem dX3_pin_7 : decode cX3_pin 7 = .ok (.ishl, 1) := by decide +kernel
theorem dX3_pin_8 : decode cX3_pin 8 = .ok (.ior, 1) := by decide +kernel
theorem dX3_pin_9 : decode cX3_pin 9 = .ok (.putfield 22, 3) := by decide +kernel
theorem dX3_pin_12 : decode cX3_pin 12 = .ok (.return_, 1) := by decide +kernel
theorem dX3_pins_0 : decode cX3_pins 0 = .ok (.aload_n 0, 1) := by decide +kernel
theorem dX3_pins_1 : decode cX3_pins 1 = .ok (.getfield 22, 3) := by decide +kernel
theorem dX3_pins_4 : decode cX3_pins 4 = .ok (.iload_n 1, 1) := by decide +kernel
theorem dX3_pins_5 : decode cX3_pins 5 = .ok (.ishr, 1) := by decide +kernel
theorem dX3_pins_6 : decode cX3_pins 6 = .ok (.iconst 1, 1) := by decide +kernel
theorem dX3_pins_7 : decode cX3_pins 7 = .ok (.iand, 1) := by decide +kernel
theorem dX3_pins_8 : decode cX3_pins 8 = .ok (.iconst 1, 1) := by decide +kernel
theorem dX3_pins_9 : decode cX3_pins 9 = .ok (.if_icmp .ne 7, 3) := by decide +kernel
theorem dX3_pins_12 : decode cX3_pins 12 = .ok (.iconst 1, 1) := by decide +kernel
theorem dX3_pins_13 : decode cX3_pins 13 = .ok (.goto 4, 3) := by decide +kernel
theorem dX3_pins_16 : decode cX3_pins 16 = .ok (.iconst 0, 1) := by decide +kernel
theorem dX3_pins_17 : decode cX3_pins 17 = .ok (.ireturn, 1) := by decide +kernel
theorem dX0_init_0 : decode cX0_init 0 = .ok (.aload_n 0, 1) := by decide +kernel
theorem dX0_init_1 : decode cX0_init 1 = .ok (.invokespecial 3, 3) := by decide +kernel
theorem dX0_init_4 : decode cX0_init 4 = .ok (.aload_n 0, 1) := by decide +kernel
theorem dX0_init_5 : decode cX0_init 5 = .ok (.bipush 8, 2) := by decide +kernel
theorem dX0_init_7 : decode cX0_init 7 = .ok (.anewarray 9, 3) := by decide +kernel
theorem dX0_init_10 : decode cX0_init 10 = .ok (.putfield 11, 3) := by decide +kernel
theorem dX0_init_13 : decode cX0_init 13 = .ok (.return_, 1) := by decide +kernel
set_option maxRecDepth 20000 in
theorem ggX0_push_X3_init : GoodIn wsX0_push wsX3_init := goodIn_r _ [9, 10, 11, 12, 13, 14, 17, 18, 19, 20, 21, 22, 23, 24] (by decide +kernel) (by decide +kernel)
set_option maxRecDepth 20000 in
theorem gX0_push_X3_init : GoodIn wsX0_push (wsX3_init) := ggX0_push_X3_init
theorem dX0_push_0 : decode cX0_push 0 = .ok (.aload_n 0, 1) := by decide +kernel
theorem dX0_push_1 : decode cX0_push 1 = .ok (.getfield 17, 3) := by decide +kernel
theorem dX0_push_4 : decode cX0_push 4 = .ok (.bipush 8, 2) := by decide +kernel
theorem dX0_push_6 : decode cX0_push 6 = .ok (.if_icmp .lt 6, 3) := by decide +kernel
theorem dX0_push_9 : decode cX0_push 9 = .ok (.ldc 21, 2) := by decide +kernel
theorem dX0_push_11 : decode cX0_push 11 = .ok (.ireturn, 1) := by decide +kernel
theorem dX0_push_12 : decode cX0_push 12 = .ok (.aload_n 0, 1) := by decide +kernel
theorem dX0_push_13 : decode cX0_push 13 = .ok (.getfield 11, 3) := by decide +kernel
theorem dX0_push_16 : decode cX0_push 16 = .ok (.aload_n 0, 1) := by decide +kernel
theorem dX0_push_17 : decode cX0_push 17 = .ok (.getfield 17, 3) := by decide +kernel
theorem dX0_push_20 : decode cX0_push 20 = .ok (.new 9, 3) := by decide +kernel
theorem dX0_push_23 : decode cX0_push 23 = .ok (.dup, 1) := by decide +kernel
theorem dX0_push_24 : decode cX0_push 24 = .ok (.aload_n 1, 1) := by decide +kernel
theorem dX0_push_25 : decode cX0_push 25 = .ok (.invokespecial 22, 3) := by decide +kernel
theorem dX0_push_28 : decode cX0_push 28 = .ok (.aastore, 1) := by decide +kernel
theorem dX0_push_29 : decode cX0_push 29 = .ok (.aload_n 0, 1) := by decide +kernel
theorem dX0_push_30 : decode cX0_push 30 = .ok (.dup, 1) := by decide +kernel
theorem dX0_push_31 : decode cX0_push 31 = .ok (.getfield 17, 3) := by decide +kernel
theorem dX0_push_34 : decode cX0_push 34 = .ok (.iconst 1, 1) := by decide +kernel
theorem dX0_push_35 : decode cX0_push 35 = .ok (.iadd, 1) := by decide +kernel
theorem dX0_push_36 : decode cX0_push 36 = .ok (.putfield 17, 3) := by decide +kernel
theorem dX0_push_39 : decode cX0_push 39 = .ok (.aload_n 0, 1) := by decide +kernel
theorem dX0_push_40 : decode cX0_push 40 = .ok (.getfield 17, 3) := by decide +kernel
theorem dX0_push_43 : decode cX0_push 43 = .ok (.ireturn, 1) := by decide +kernel
theorem dX0_pop_0 : decode cX0_pop 0 = .ok (.aload_n 0, 1) := by decide +kernel
theorem dX0_pop_1 : decode cX0_pop 1 = .ok (.getfield 17, 3) := by decide +kernel
theorem dX0_pop_4 : decode cX0_pop 4 = .ok (.ifCond .gt 6, 3) := by decide +kernel
theorem dX0_pop_7 : decode cX0_pop 7 = .ok (.ldc 25, 2) := by decide +kernel
theorem dX0_pop_9 : decode cX0_pop 9 = .ok (.ireturn, 1) := by decide +kernel
theorem dX0_pop_10 : decode cX0_pop 10 = .ok (.aload_n 0, 1) := by decide +kernel
theorem dX0_pop_11 : decode cX0_pop 11 = .ok (.dup, 1) := by decide +kernel
theorem dX0_pop_12 : decode cX0_pop 12 = .ok (.getfield 17, 3) := by decide +kernel
theorem dX0_pop_15 : decode cX0_pop 15 = .ok (.iconst 1, 1) := by decide +kernel
theorem dX0_pop_16 : decode cX0_pop 16 = .ok (.isub, 1) := by decide +kernel
theorem dX0_pop_17 : decode cX0_pop 17 = .ok (.putfield 17, 3) := by decide +kernel
theorem dX0_pop_20 : decode cX0_pop 20 = .ok (.aload_n 0, 1) := by decide +kernel
theorem dX0_pop_21 : decode cX0_pop 21 = .ok (.getfield 11, 3) := by decide +kernel
theorem dX0_pop_24 : decode cX0_pop 24 = .ok (.aload_n 0, 1) := by decide +kernel
theorem dX0_pop_25 : decode cX0_pop 25 = .ok (.getfield 17, 3) := by decide +kernel
theorem dX0_pop_28 : decode cX0_pop 28 = .ok (.aconst_null, 1) := by decide +kernel
theorem dX0_pop_29 : decode cX0_pop 29 = .ok (.aastore, 1) := by decide +kernel
theorem dX0_pop_30 : decode cX0_pop 30 = .ok (.aload_n 0, 1) := by decide +kernel
theorem dX0_pop_31 : decode cX0_pop 31 = .ok (.getfield 17, 3) := by decide +kernel
theorem dX0_pop_34 : decode cX0_pop 34 = .ok (.ireturn, 1) := by decide +kernel
theorem dX0_frameAt_0 : decode cX0_frameAt 0 = .ok (.iload_n 1, 1) := by decide +kernel
theorem dX0_frameAt_1 : decode cX0_frameAt 1 = .ok (.ifCond .lt 11, 3) := by decide +kernel
theorem dX0_frameAt_4 : decode cX0_frameAt 4 = .ok (.iload_n 1, 1) := by decide +kernel
theorem dX0_frameAt_5 : decode cX0_frameAt 5 = .ok (.aload_n 0, 1) := by decide +kernel
theorem dX0_frameAt_6 : decode cX0_frameAt 6 = .ok (.getfield 17, 3) := by decide +kernel
theorem dX0_frameAt_9 : decode cX0_frameAt 9 = .ok (.if_icmp .lt 5, 3) := by decide +kernel
theorem dX0_frameAt_12 : decode cX0_frameAt 12 = .ok (.aconst_null, 1) := by decide +kernel
theorem dX0_frameAt_13 : decode cX0_frameAt 13 = .ok (.areturn, 1) := by decide +kernel
theorem dX0_frameAt_14 : decode cX0_frameAt 14 = .ok (.aload_n 0, 1) := by decide +kernel
theorem dX0_frameAt_15 : decode cX0_frameAt 15 = .ok (.getfield 11, 3) := by decide +kernel
theorem dX0_frameAt_18 : decode cX0_frameAt 18 = .ok (.iload_n 1, 1) := by decide +kernel
theorem dX0_frameAt_19 : decode cX0_frameAt 19 = .ok (.aaload, 1) := by decide +kernel
theorem dX0_frameAt_20 : decode cX0_frameAt 20 = .ok (.areturn, 1) := by decide +kernel
set_option maxRecDepth 20000 in
theorem ggX0_top_X0_frameAt : GoodIn wsX0_top wsX0_frameAt := goodIn_r _ [6, 1, 7, 8, 9] (by decide +kernel) (by decide +kernel)
set_option maxRecDepth 20000 in
theorem gX0_top_X0_frameAt : GoodIn wsX0_top (wsV RX0 26 RX0 yX0_frameAt wsX0_frameAt) := goodIn_app (goodIn_of _ (by decide +kernel)) ggX0_top_X0_frameAt
theorem dX0_top_0 : decode cX0_top 0 = .ok (.aload_n 0, 1) := by decide +kernel
theorem dX0_top_1 : decode cX0_top 1 = .ok (.aload_n 0, 1) := by decide +kernel
theorem dX0_top_2 : decode cX0_top 2 = .ok (.getfield 17, 3) := by decide +kernel
theorem dX0_top_5 : decode cX0_top 5 = .ok (.iconst 1, 1) := by decide +kernel
theorem dX0_top_6 : decode cX0_top 6 = .ok (.isub, 1) := by decide +kernel
theorem dX0_top_7 : decode cX0_top 7 = .ok (.invokevirtual 26, 3) := by decide +kernel
theorem dX0_top_10 : decode cX0_top 10 = .ok (.areturn, 1) := by decide +kernel
theorem dX0_countFrames_0 : decode cX0_countFrames 0 = .ok (.iconst 0, 1) := by decide +kernel
theorem dX0_countFrames_1 : decode cX0_countFrames 1 = .ok (.istore 4, 2) := by decide +kernel
theorem dX0_countFrames_3 : decode cX0_countFrames 3 = .ok (.iconst 0, 1) := by decide +kernel
theorem dX0_countFrames_4 : decode cX0_countFrames 4 = .ok (.istore 5, 2) := by decide +kernel
theorem dX0_countFrames_6 : decode cX0_countFrames 6 = .ok (.iload 5, 2) := by decide +kernel
theorem dX0_countFrames_8 : decode cX0_countFrames 8 = .ok (.aload_n 0, 1) := by decide +kernel
theorem dX0_countFrames_9 : decode cX0_countFrames 9 = .ok (.getfield 17, 3) := by decide +kernel
theorem dX0_countFrames_12 : decode cX0_countFrames 12 = .ok (.if_icmp .ge 51, 3) := by decide +kernel
theorem dX0_countFrames_15 : decode cX0_countFrames 15 = .ok (.aload_n 0, 1) := by decide +kernel
theorem dX0_countFrames_16 : decode cX0_countFrames 16 = .ok (.getfield 11, 3) := by decide +kernel
theorem dX0_countFrames_19 : decode cX0_countFrames 19 = .ok (.iload 5, 2) := by decide +kernel
theorem dX0_countFrames_21 : decode cX0_countFrames 21 = .ok (.aaload, 1) := by decide +kernel
theorem dX0_countFrames_22 : decode cX0_countFrames 22 = .ok (.astore 6, 2) := by decide +kernel
theorem dX0_countFrames_24 : decode cX0_countFrames 24 = .ok (.aload 6, 2) := by decide +kernel
theorem dX0_countFrames_26 : decode cX0_countFrames 26 = .ok (.getfield 30, 3) := by decide +kernel
theorem dX0_countFrames_29 : decode cX0_countFrames 29 = .ok (.getfield 34, 3) := by decide +kernel
theorem dX0_countFrames_32 : decode cX0_countFrames 32 = .ok (.iload_n 1, 1) := by decide +kernel
theorem dX0_countFrames_33 : decode cX0_countFrames 33 = .ok (.if_icmp .ne 24, 3) := by decide +kernel
theorem dX0_countFrames_36 : decode cX0_countFrames 36 = .ok (.aload 6, 2) := by decide +kernel
theorem dX0_countFrames_38 : decode cX0_countFrames 38 = .ok (.getfield 39, 3) := by decide +kernel
theorem dX0_countFrames_41 : decode cX0_countFrames 41 = .ok (.iload_n 2, 1) := by decide +kernel
theorem dX0_countFrames_42 : decode cX0_countFrames 42 = .ok (.if_icmp .lt 15, 3) := by decide +kernel
theorem dX0_countFrames_45 : decode cX0_countFrames 45 = .ok (.aload 6, 2) := by decide +kernel
theorem dX0_countFrames_47 : decode cX0_countFrames 47 = .ok (.getfield 39, 3) := by decide +kernel
theorem dX0_countFrames_50 : decode cX0_countFrames 50 = .ok (.iload_n 3, 1) := by decide +kernel
theorem dX0_countFrames_51 : decode cX0_countFrames 51 = .ok (.if_icmp .gt 6, 3) := by decide +kernel
theorem dX0_countFrames_54 : decode cX0_countFrames 54 = .ok (.iinc 4 1, 3) := by decide +kernel
theorem dX0_countFrames_57 : decode cX0_countFrames 57 = .ok (.iinc 5 1, 3) := by decide +kernel
theorem dX0_countFrames_60 : decode cX0_countFrames 60 = .ok (.goto (-54), 3) := by decide +kernel
theorem dX0_countFrames_63 : decode cX0_countFrames 63 = .ok (.iload 4, 2) := by decide +kernel
theorem dX0_countFrames_65 : decode cX0_countFrames 65 = .ok (.ireturn, 1) := by decide +kernel
set_option maxRecDepth 20000 in
theorem ggX0_smallestPin_X3_pins : GoodIn wsX0_smallestPin wsX3_pins := goodIn_r _ [11, 12, 15, 16, 17] (by decide +kernel) (by decide +kernel)
set_option maxRecDepth 20000 in
theorem gX0_smallestPin_X3_pins : GoodIn wsX0_smallestPin (wsV RX0 42 RX3 yX3_pins wsX3_pins) := goodIn_app (goodIn_of _ (by decide +kernel)) ggX0_smallestPin_X3_pins
theorem dX0_smallestPin_0 : decode cX0_smallestPin 0 = .ok (.bipush 8, 2) := by decide +kernel
theorem dX0_smallestPin_2 : decode cX0_smallestPin 2 = .ok (.istore_n 2, 1) := by decide +kernel
theorem dX0_smallestPin_3 : decode cX0_smallestPin 3 = .ok (.iconst 0, 1) := by decide +kernel
theorem dX0_smallestPin_4 : decode cX0_smallestPin 4 = .ok (.istore_n 3, 1) := by decide +kernel
theorem dX0_smallestPin_5 : decode cX0_smallestPin 5 = .ok (.iload_n 3, 1) := by decide +kernel
theorem dX0_smallestPin_6 : decode cX0_smallestPin 6 = .ok (.aload_n 0, 1) := by decide +kernel
theorem dX0_smallestPin_7 : decode cX0_smallestPin 7 = .ok (.getfield 17, 3) := by decide +kernel
theorem dX0_smallestPin_10 : decode cX0_smallestPin 10 = .ok (.if_icmp .ge 36, 3) := by decide +kernel
theorem dX0_smallestPin_13 : decode cX0_smallestPin 13 = .ok (.aload_n 0, 1) := by decide +kernel
theorem dX0_smallestPin_14 : decode cX0_smallestPin 14 = .ok (.getfield 11, 3) := by decide +kernel
theorem dX0_smallestPin_17 : decode cX0_smallestPin 17 = .ok (.iload_n 3, 1) := by decide +kernel
theorem dX0_smallestPin_18 : decode cX0_smallestPin 18 = .ok (.aaload, 1) := by decide +kernel
theorem dX0_smallestPin_19 : decode cX0_smallestPin 19 = .ok (.iload_n 1, 1) := by decide +kernel
theorem dX0_smallestPin_20 : decode cX0_smallestPin 20 = .ok (.invokevirtual 42, 3) := by decide +kernel
theorem dX0_smallestPin_23 : decode cX0_smallestPin 23 = .ok (.ifCond .eq 17, 3) := by decide +kernel
theorem dX0_smallestPin_26 : decode cX0_smallestPin 26 = .ok (.iload_n 2, 1) := by decide +kernel
theorem dX0_smallestPin_27 : decode cX0_smallestPin 27 = .ok (.aload_n 0, 1) := by decide +kernel
theorem dX0_smallestPin_28 : decode cX0_smallestPin 28 = .ok (.getfield 11, 3) := by decide +kernel
theorem dX0_smallestPin_31 : decode cX0_smallestPin 31 = .ok (.iload_n 3, 1) := by decide +kernel
theorem dX0_smallestPin_32 : decode cX0_smallestPin 32 = .ok (.aaload, 1) := by decide +kernel
theorem dX0_smallestPin_33 : decode cX0_smallestPin 33 = .ok (.getfield 39, 3) := by decide +kernel
theorem dX0_smallestPin_36 : decode cX0_smallestPin 36 = .ok (.invokestatic 46, 3) := by decide +kernel
theorem dX0_smallestPin_39 : decode cX0_smallestPin 39 = .ok (.istore_n 2, 1) := by decide +kernel
theorem dX0_smallestPin_40 : decode cX0_smallestPin 40 = .ok (.iinc 3 1, 3) := by decide +kernel
theorem dX0_smallestPin_43 : decode cX0_smallestPin 43 = .ok (.goto (-38), 3) := by decide +kernel
theorem dX0_smallestPin_46 : decode cX0_smallestPin 46 = .ok (.iload_n 2, 1) := by decide +kernel
theorem dX0_smallestPin_47 : decode cX0_smallestPin 47 = .ok (.ireturn, 1) := by decide +kernel
theorem dX2_init_0 : decode cX2_init 0 = .ok (.aload_n 0, 1) := by decide +kernel
theorem dX2_init_1 : decode cX2_init 1 = .ok (.invokespecial 3, 3) := by decide +kernel
theorem dX2_init_4 : decode cX2_init 4 = .ok (.aload_n 0, 1) := by decide +kernel
theorem dX2_init_5 : decode cX2_init 5 = .ok (.bipush 6, 2) := by decide +kernel
theorem dX2_init_7 : decode cX2_init 7 = .ok (.anewarray 9, 3) := by decide +kernel
theorem dX2_init_10 : decode cX2_init 10 = .ok (.putfield 11, 3) := by decide +kernel
theorem dX2_init_13 : decode cX2_init 13 = .ok (.return_, 1) := by decide +kernel
theorem dX2_clear_0 : decode cX2_clear 0 = .ok (.aload_n 0, 1) := by decide +kernel
theorem dX2_clear_1 : decode cX2_clear 1 = .ok (.iconst 0, 1) := by decide +kernel
theorem dX2_clear_2 : decode cX2_clear 2 = .ok (.putfield 17, 3) := by decide +kernel
theorem dX2_clear_5 : decode cX2_clear 5 = .ok (.return_, 1) := by decide +kernel
theorem dX2_isFull_0 : decode cX2_isFull 0 = .ok (.aload_n 0, 1) := by decide +kernel
theorem dX2_isFull_1 : decode cX2_isFull 1 = .ok (.getfield 17, 3) := by decide +kernel
theorem dX2_isFull_4 : decode cX2_isFull 4 = .ok (.bipush 6, 2) := by decide +kernel
theorem dX2_isFull_6 : decode cX2_isFull 6 = .ok (.if_icmp .lt 7, 3) := by decide +kernel
theorem dX2_isFull_9 : decode cX2_isFull 9 = .ok (.iconst 1, 1) := by decide +kernel
theorem dX2_isFull_10 : decode cX2_isFull 10 = .ok (.goto 4, 3) := by decide +kernel
theorem dX2_isFull_13 : decode cX2_isFull 13 = .ok (.iconst 0, 1) := by decide +kernel
theorem dX2_isFull_14 : decode cX2_isFull 14 = .ok (.ireturn, 1) := by decide +kernel
set_option maxRecDepth 20000 in
theorem ggX2_append_X2_isFull : GoodIn wsX2_append wsX2_isFull := goodIn_r _ [8, 3, 9, 10] (by decide +kernel) (by decide +kernel)
set_option maxRecDepth 20000 in
theorem gX2_append_X2_isFull : GoodIn wsX2_append (wsV RX2 21 RX2 yX2_isFull wsX2_isFull) := goodIn_app (goodIn_of _ (by decide +kernel)) ggX2_append_X2_isFull
theorem dX2_append_0 : decode cX2_append 0 = .ok (.aload_n 0, 1) := by decide +kernel
theorem dX2_append_1 : decode cX2_append 1 = .ok (.invokevirtual 21, 3) := by decide +kernel
theorem dX2_append_4 : decode cX2_append 4 = .ok (.ifCond .eq 6, 3) := by decide +kernel
theorem dX2_append_7 : decode cX2_append 7 = .ok (.ldc 25, 2) := by decide +kernel
theorem dX2_append_9 : decode cX2_append 9 = .ok (.ireturn, 1) := by decide +kernel
theorem dX2_append_10 : decode cX2_append 10 = .ok (.aload_n 0, 1) := by decide +kernel
theorem dX2_append_11 : decode cX2_append 11 = .ok (.getfield 11, 3) := by decide +kernel
theorem dX2_append_14 : decode cX2_append 14 = .ok (.aload_n 0, 1) := by decide +kernel
theorem dX2_append_15 : decode cX2_append 15 = .ok (.getfield 17, 3) := by decide +kernel
theorem dX2_append_18 : decode cX2_append 18 = .ok (.aload_n 1, 1) := by decide +kernel
theorem dX2_append_19 : decode cX2_append 19 = .ok (.aastore, 1) := by decide +kernel
theorem dX2_append_20 : decode cX2_append 20 = .ok (.aload_n 0, 1) := by decide +kernel
theorem dX2_append_21 : decode cX2_append 21 = .ok (.dup, 1) := by decide +kernel
theorem dX2_append_22 : decode cX2_append 22 = .ok (.getfield 17, 3) := by decide +kernel
theorem dX2_append_25 : decode cX2_append 25 = .ok (.iconst 1, 1) := by decide +kernel
theorem dX2_append_26 : decode cX2_append 26 = .ok (.iadd, 1) := by decide +kernel
theorem dX2_append_27 : decode cX2_append 27 = .ok (.putfield 17, 3) := by decide +kernel
theorem dX2_append_30 : decode cX2_append 30 = .ok (.aload_n 0, 1) := by decide +kernel
theorem dX2_append_31 : decode cX2_append 31 = .ok (.getfield 17, 3) := by decide +kernel
theorem dX2_append_34 : decode cX2_append 34 = .ok (.ireturn, 1) := by decide +kernel
set_option maxRecDepth 20000 in
theorem ggX2_applyTo_X4_applyTo : GoodIn wsX2_applyTo wsX4_applyTo := goodIn_r _ [7, 8, 9, 10, 11, 12, 6, 13, 14, 15, 16, 17, 18, 19, 20, 23, 24, 25] (by decide +kernel) (by decide +kernel)
set_option maxRecDepth 20000 in
theorem gX2_applyTo_X4_applyTo : GoodIn wsX2_applyTo (wsV RX2 26 RX4 yX4_applyTo wsX4_applyTo) := goodIn_app (goodIn_of _ (by decide +kernel)) ggX2_applyTo_X4_applyTo
theorem dX2_applyTo_0 : decode cX2_applyTo 0 = .ok (.iconst 0, 1) := by decide +kernel
theorem dX2_applyTo_1 : decode cX2_applyTo 1 = .ok (.istore_n 2, 1) := by decide +kernel
theorem dX2_applyTo_2 : decode cX2_applyTo 2 = .ok (.iload_n 2, 1) := by decide +kernel
theorem dX2_applyTo_3 : decode cX2_applyTo 3 = .ok (.aload_n 0, 1) := by decide +kernel
theorem dX2_applyTo_4 : decode cX2_applyTo 4 = .ok (.getfield 17, 3) := by decide +kernel
theorem dX2_applyTo_7 : decode cX2_applyTo 7 = .ok (.if_icmp .ge 24, 3) := by decide +kernel
theorem dX2_applyTo_10 : decode cX2_applyTo 10 = .ok (.aload_n 0, 1) := by decide +kernel
theorem dX2_applyTo_11 : decode cX2_applyTo 11 = .ok (.getfield 11, 3) := by decide +kernel
theorem dX2_applyTo_14 : decode cX2_applyTo 14 = .ok (.iload_n 2, 1) := by decide +kernel
theorem dX2_applyTo_15 : decode cX2_applyTo 15 = .ok (.aaload, 1) := by decide +kernel
theorem dX2_applyTo_16 : decode cX2_applyTo 16 = .ok (.aload_n 1, 1) := by decide +kernel
theorem dX2_applyTo_17 : decode cX2_applyTo 17 = .ok (.invokevirtual 26, 3) := by decide +kernel
theorem dX2_applyTo_20 : decode cX2_applyTo 20 = .ok (.ifCond .ne 5, 3) := by decide +kernel
theorem dX2_applyTo_23 : decode cX2_applyTo 23 = .ok (.iconst 0, 1) := by decide +kernel
theorem dX2_applyTo_24 : decode cX2_applyTo 24 = .ok (.ireturn, 1) := by decide +kernel
theorem dX2_applyTo_25 : decode cX2_applyTo 25 = .ok (.iinc 2 1, 3) := by decide +kernel
theorem dX2_applyTo_28 : decode cX2_applyTo 28 = .ok (.goto (-26), 3) := by decide +kernel
theorem dX2_applyTo_31 : decode cX2_applyTo 31 = .ok (.iconst 1, 1) := by decide +kernel
theorem dX2_applyTo_32 : decode cX2_applyTo 32 = .ok (.ireturn, 1) := by decide +kernel
theorem dX4_init_0 : decode cX4_init 0 = .ok (.aload_n 0, 1) := by decide +kernel
theorem dX4_init_1 : decode cX4_init 1 = .ok (.invokespecial 1, 3) := by decide +kernel
theorem dX4_init_4 : decode cX4_init 4 = .ok (.aload_n 0, 1) := by decide +kernel
theorem dX4_init_5 : decode cX4_init 5 = .ok (.iload_n 1, 1) := by decide +kernel
theorem dX4_init_6 : decode cX4_init 6 = .ok (.putfield 7, 3) := by decide +kernel
theorem dX4_init_9 : decode cX4_init 9 = .ok (.aload_n 0, 1) := by decide +kernel
theorem dX4_init_10 : decode cX4_init 10 = .ok (.iload_n 2, 1) := by decide +kernel
theorem dX4_init_11 : decode cX4_init 11 = .ok (.putfield 13, 3) := by decide +kernel
theorem dX4_init_14 : decode cX4_init 14 = .ok (.aload_n 0, 1) := by decide +kernel
theorem dX4_init_15 : decode cX4_init 15 = .ok (.iload_n 3, 1) := by decide +kernel
theorem dX4_init_16 : decode cX4_init 16 = .ok (.putfield 16, 3) := by decide +kernel
theorem dX4_init_19 : decode cX4_init 19 = .ok (.return_, 1) := by decide +kernel
theorem dX4_changedSet_0 : decode cX4_changedSet 0 = .ok (.aload_n 0, 1) := by decide +kernel
theorem dX4_changedSet_1 : decode cX4_changedSet 1 = .ok (.getfield 7, 3) := by decide +kernel
theorem dX4_changedSet_4 : decode cX4_changedSet 4 = .ok (.tableswitch 74 0 4 #[36, 63, 45, 74, 63], 36) := by decide +kernel
theorem dX4_changedSet_40 : decode cX4_changedSet 40 = .ok (.iload_n 1, 1) := by decide +kernel
theorem dX4_changedSet_41 : decode cX4_changedSet 41 = .ok (.iconst 1, 1) := by decide +kernel
theorem dX4_changedSet_42 : decode cX4_changedSet 42 = .ok (.aload_n 0, 1) := by decide +kernel
theorem dX4_changedSet_43 : decode cX4_changedSet 43 = .ok (.getfield 13, 3) := by decide +kernel
theorem dX4_changedSet_46 : decode cX4_changedSet 46 = .ok (.ishl, 1) := by decide +kernel
theorem dX4_changedSet_47 : decode cX4_changedSet 47 = .ok (.ior, 1) := by decide +kernel
theorem dX4_changedSet_48 : decode cX4_changedSet 48 = .ok (.ireturn, 1) := by decide +kernel
theorem dX4_changedSet_49 : decode cX4_changedSet 49 = .ok (.iload_n 1, 1) := by decide +kernel
theorem dX4_changedSet_50 : decode cX4_changedSet 50 = .ok (.iconst 1, 1) := by decide +kernel
theorem dX4_changedSet_51 : decode cX4_changedSet 51 = .ok (.aload_n 0, 1) := by decide +kernel
theorem dX4_changedSet_52 : decode cX4_changedSet 52 = .ok (.getfield 13, 3) := by decide +kernel
theorem dX4_changedSet_55 : decode cX4_changedSet 55 = .ok (.ishl, 1) := by decide +kernel
theorem dX4_changedSet_56 : decode cX4_changedSet 56 = .ok (.iconst (-1), 1) := by decide +kernel
theorem dX4_changedSet_57 : decode cX4_changedSet 57 = .ok (.ixor, 1) := by decide +kernel
theorem dX4_changedSet_58 : decode cX4_changedSet 58 = .ok (.iand, 1) := by decide +kernel
theorem dX4_changedSet_59 : decode cX4_changedSet 59 = .ok (.iconst 1, 1) := by decide +kernel
theorem dX4_changedSet_60 : decode cX4_changedSet 60 = .ok (.aload_n 0, 1) := by decide +kernel
theorem dX4_changedSet_61 : decode cX4_changedSet 61 = .ok (.getfield 16, 3) := by decide +kernel
theorem dX4_changedSet_64 : decode cX4_changedSet 64 = .ok (.ishl, 1) := by decide +kernel
theorem dX4_changedSet_65 : decode cX4_changedSet 65 = .ok (.ior, 1) := by decide +kernel
theorem dX4_changedSet_66 : decode cX4_changedSet 66 = .ok (.ireturn, 1) := by decide +kernel
theorem dX4_changedSet_67 : decode cX4_changedSet 67 = .ok (.iload_n 1, 1) := by decide +kernel
theorem dX4_changedSet_68 : decode cX4_changedSet 68 = .ok (.iconst 1, 1) := by decide +kernel
theorem dX4_changedSet_69 : decode cX4_changedSet 69 = .ok (.aload_n 0, 1) := by decide +kernel
theorem dX4_changedSet_70 : decode cX4_changedSet 70 = .ok (.getfield 13, 3) := by decide +kernel
theorem dX4_changedSet_73 : decode cX4_changedSet 73 = .ok (.ishl, 1) := by decide +kernel
theorem dX4_changedSet_74 : decode cX4_changedSet 74 = .ok (.iconst (-1), 1) := by decide +kernel
theorem dX4_changedSet_75 : decode cX4_changedSet 75 = .ok (.ixor, 1) := by decide +kernel
theorem dX4_changedSet_76 : decode cX4_changedSet 76 = .ok (.iand, 1) := by decide +kernel
theorem dX4_changedSet_77 : decode cX4_changedSet 77 = .ok (.ireturn, 1) := by decide +kernel
theorem dX4_changedSet_78 : decode cX4_changedSet 78 = .ok (.iload_n 1, 1) := by decide +kernel
theorem dX4_changedSet_79 : decode cX4_changedSet 79 = .ok (.ireturn, 1) := by decide +kernel
set_option maxRecDepth 20000 in
theorem ggX4_applyTo_X4_put : GoodIn wsX4_applyTo wsX4_put := goodIn_r _ [7, 8, 9, 10, 11, 12, 13, 14] (by decide +kernel) (by decide +kernel)
set_option maxRecDepth 20000 in
theorem gX4_applyTo_X4_put : GoodIn wsX4_applyTo (va_wsS RX4 19 yX4_put wsX4_put) := goodIn_app (goodIn_of _ (by decide +kernel)) ggX4_applyTo_X4_put
theorem dX4_applyTo_0 : decode cX4_applyTo 0 = .ok (.aload_n 0, 1) := by decide +kernel
theorem dX4_applyTo_1 : decode cX4_applyTo 1 = .ok (.getfield 7, 3) := by decide +kernel
theorem dX4_applyTo_4 : decode cX4_applyTo 4 = .ok (.tableswitch 112 0 4 #[36, 112, 50, 66, 88], 36) := by decide +kernel
theorem dX4_applyTo_40 : decode cX4_applyTo 40 = .ok (.aload_n 1, 1) := by decide +kernel
theorem dX4_applyTo_41 : decode cX4_applyTo 41 = .ok (.aload_n 0, 1) := by decide +kernel
theorem dX4_applyTo_42 : decode cX4_applyTo 42 = .ok (.getfield 13, 3) := by decide +kernel
theorem dX4_applyTo_45 : decode cX4_applyTo 45 = .ok (.aload_n 0, 1) := by decide +kernel
theorem dX4_applyTo_46 : decode cX4_applyTo 46 = .ok (.getfield 16, 3) := by decide +kernel
theorem dX4_applyTo_49 : decode cX4_applyTo 49 = .ok (.i2l, 1) := by decide +kernel
theorem dX4_applyTo_50 : decode cX4_applyTo 50 = .ok (.invokestatic 19, 3) := by decide +kernel
theorem dX4_applyTo_53 : decode cX4_applyTo 53 = .ok (.ireturn, 1) := by decide +kernel
theorem dX4_applyTo_54 : decode cX4_applyTo 54 = .ok (.aload_n 1, 1) := by decide +kernel
theorem dX4_applyTo_55 : decode cX4_applyTo 55 = .ok (.aload_n 0, 1) := by decide +kernel
theorem dX4_applyTo_56 : decode cX4_applyTo 56 = .ok (.getfield 16, 3) := by decide +kernel
theorem dX4_applyTo_59 : decode cX4_applyTo 59 = .ok (.aload_n 1, 1) := by decide +kernel
theorem dX4_applyTo_60 : decode cX4_applyTo 60 = .ok (.aload_n 0, 1) := by decide +kernel
theorem dX4_applyTo_61 : decode cX4_applyTo 61 = .ok (.getfield 13, 3) := by decide +kernel
theorem dX4_applyTo_64 : decode cX4_applyTo 64 = .ok (.iaload, 1) := by decide +kernel
theorem dX4_applyTo_65 : decode cX4_applyTo 65 = .ok (.i2l, 1) := by decide +kernel
theorem dX4_applyTo_66 : decode cX4_applyTo 66 = .ok (.invokestatic 19, 3) := by decide +kernel
theorem dX4_applyTo_69 : decode cX4_applyTo 69 = .ok (.ireturn, 1) := by decide +kernel
theorem dX4_applyTo_70 : decode cX4_applyTo 70 = .ok (.aload_n 1, 1) := by decide +kernel
theorem dX4_applyTo_71 : decode cX4_applyTo 71 = .ok (.aload_n 0, 1) := by decide +kernel
theorem dX4_applyTo_72 : decode cX4_applyTo 72 = .ok (.getfield 13, 3) := by decide +kernel
theorem dX4_applyTo_75 : decode cX4_applyTo 75 = .ok (.aload_n 1, 1) := by decide +kernel
theorem dX4_applyTo_76 : decode cX4_applyTo 76 = .ok (.aload_n 0, 1) := by decide +kernel
theorem dX4_applyTo_77 : decode cX4_applyTo 77 = .ok (.getfield 13, 3) := by decide +kernel
theorem dX4_applyTo_80 : decode cX4_applyTo 80 = .ok (.iaload, 1) := by decide +kernel
theorem dX4_applyTo_81 : decode cX4_applyTo 81 = .ok (.i2l, 1) := by decide +kernel
theorem dX4_applyTo_82 : decode cX4_applyTo 82 = .ok (.aload_n 0, 1) := by decide +kernel
theorem dX4_applyTo_83 : decode cX4_applyTo 83 = .ok (.getfield 16, 3) := by decide +kernel
theorem dX4_applyTo_86 : decode cX4_applyTo 86 = .ok (.i2l, 1) := by decide +kernel
theorem dX4_applyTo_87 : decode cX4_applyTo 87 = .ok (.lmul, 1) := by decide +kernel
theorem dX4_applyTo_88 : decode cX4_applyTo 88 = .ok (.invokestatic 19, 3) := by decide +kernel
theorem dX4_applyTo_91 : decode cX4_applyTo 91 = .ok (.ireturn, 1) := by decide +kernel
theorem dX4_applyTo_92 : decode cX4_applyTo 92 = .ok (.aload_n 1, 1) := by decide +kernel
theorem dX4_applyTo_93 : decode cX4_applyTo 93 = .ok (.aload_n 0, 1) := by decide +kernel
theorem dX4_applyTo_94 : decode cX4_applyTo 94 = .ok (.getfield 16, 3) := by decide +kernel
theorem dX4_applyTo_97 : decode cX4_applyTo 97 = .ok (.aload_n 1, 1) := by decide +kernel
theorem dX4_applyTo_98 : decode cX4_applyTo 98 = .ok (.aload_n 0, 1) := by decide +kernel
theorem dX4_applyTo_99 : decode cX4_applyTo 99 = .ok (.getfield 16, 3) := by decide +kernel
theorem dX4_applyTo_102 : decode cX4_applyTo 102 = .ok (.iaload, 1) := by decide +kernel
theorem dX4_applyTo_103 : decode cX4_applyTo 103 = .ok (.i2l, 1) := by decide +kernel
theorem dX4_applyTo_104 : decode cX4_applyTo 104 = .ok (.aload_n 1, 1) := by decide +kernel
theorem dX4_applyTo_105 : decode cX4_applyTo 105 = .ok (.aload_n 0, 1) := by decide +kernel
theorem dX4_applyTo_106 : decode cX4_applyTo 106 = .ok (.getfield 13, 3) := by decide +kernel
theorem dX4_applyTo_109 : decode cX4_applyTo 109 = .ok (.iaload, 1) := by decide +kernel
theorem dX4_applyTo_110 : decode cX4_applyTo 110 = .ok (.i2l, 1) := by decide +kernel
theorem dX4_applyTo_111 : decode cX4_applyTo 111 = .ok (.ladd, 1) := by decide +kernel
theorem dX4_applyTo_112 : decode cX4_applyTo 112 = .ok (.invokestatic 19, 3) := by decide +kernel
theorem dX4_applyTo_115 : decode cX4_applyTo 115 = .ok (.ireturn, 1) := by decide +kernel
theorem dX4_applyTo_116 : decode cX4_applyTo 116 = .ok (.iconst 1, 1) := by decide +kernel
theorem dX4_applyTo_117 : decode cX4_applyTo 117 = .ok (.ireturn, 1) := by decide +kernel
set_option maxRecDepth 20000 in
theorem ggX4_put_X6_isField : GoodIn wsX4_put wsX6_isField := goodIn_r _ [3] (by decide +kernel) (by decide +kernel)
set_option maxRecDepth 20000 in
theorem gX4_put_X6_isField_n23 : GoodIn wsX4_put (wsX6_isField) := ggX4_put_X6_isField
set_option maxRecDepth 20000 in
theorem ggX4_put_X6_isValue : GoodIn wsX4_put wsX6_isValue := goodIn_r _ [5, 6, 7] (by decide +kernel) (by decide +kernel)
set_option maxRecDepth 20000 in
theorem gX4_put_X6_isValue_n29 : GoodIn wsX4_put (wsX6_isValue) := ggX4_put_X6_isValue
theorem dX4_put_0 : decode cX4_put 0 = .ok (.iload_n 1, 1) := by decide +kernel
theorem dX4_put_1 : decode cX4_put 1 = .ok (.invokestatic 23, 3) := by decide +kernel
theorem dX4_put_4 : decode cX4_put 4 = .ok (.ifCond .eq 10, 3) := by decide +kernel
theorem dX4_put_7 : decode cX4_put 7 = .ok (.lload_n 2, 1) := by decide +kernel
theorem dX4_put_8 : decode cX4_put 8 = .ok (.invokestatic 29, 3) := by decide +kernel
theorem dX4_put_11 : decode cX4_put 11 = .ok (.ifCond .ne 5, 3) := by decide +kernel
theorem dX4_put_14 : decode cX4_put 14 = .ok (.iconst 0, 1) := by decide +kernel
theorem dX4_put_15 : decode cX4_put 15 = .ok (.ireturn, 1) := by decide +kernel
theorem dX4_put_16 : decode cX4_put 16 = .ok (.aload_n 0, 1) := by decide +kernel
theorem dX4_put_17 : decode cX4_put 17 = .ok (.iload_n 1, 1) := by decide +kernel
theorem dX4_put_18 : decode cX4_put 18 = .ok (.lload_n 2, 1) := by decide +kernel
theorem dX4_put_19 : decode cX4_put 19 = .ok (.l2i, 1) := by decide +kernel
theorem dX4_put_20 : decode cX4_put 20 = .ok (.iastore, 1) := by decide +kernel
theorem dX4_put_21 : decode cX4_put 21 = .ok (.iconst 1, 1) := by decide +kernel
theorem dX4_put_22 : decode cX4_put 22 = .ok (.ireturn, 1) := by decide +kernel
set_option maxRecDepth 20000 in
theorem ggX1_init_X2_init : GoodIn wsX1_init wsX2_init := goodIn_r _ [12, 13, 2, 3, 14, 15, 21, 22] (by decide +kernel) (by decide +kernel)
set_option maxRecDepth 20000 in
theorem gX1_init_X2_init_n25 : GoodIn wsX1_init (wsX2_init) := ggX1_init_X2_init
theorem dX1_init_0 : decode cX1_init 0 = .ok (.aload_n 0, 1) := by decide +kernel
theorem dX1_init_1 : decode cX1_init 1 = .ok (.invokespecial 3, 3) := by decide +kernel
theorem dX1_init_4 : decode cX1_init 4 = .ok (.aload_n 0, 1) := by decide +kernel
theorem dX1_init_5 : decode cX1_init 5 = .ok (.bipush 8, 2) := by decide +kernel
theorem dX1_init_7 : decode cX1_init 7 = .ok (.newarray .int, 2) := by decide +kernel
theorem dX1_init_9 : decode cX1_init 9 = .ok (.putfield 9, 3) := by decide +kernel
theorem dX1_init_12 : decode cX1_init 12 = .ok (.aload_n 0, 1) := by decide +kernel
theorem dX1_init_13 : decode cX1_init 13 = .ok (.bipush 8, 2) := by decide +kernel
theorem dX1_init_15 : decode cX1_init 15 = .ok (.anewarray 15, 3) := by decide +kernel
theorem dX1_init_18 : decode cX1_init 18 = .ok (.putfield 17, 3) := by decide +kernel
theorem dX1_init_21 : decode cX1_init 21 = .ok (.aload_n 0, 1) := by decide +kernel
theorem dX1_init_22 : decode cX1_init 22 = .ok (.iload_n 1, 1) := by decide +kernel
theorem dX1_init_23 : decode cX1_init 23 = .ok (.putfield 21, 3) := by decide +kernel
theorem dX1_init_26 : decode cX1_init 26 = .ok (.aload_n 0, 1) := by decide +kernel
theorem dX1_init_27 : decode cX1_init 27 = .ok (.getfield 9, 3) := by decide +kernel
theorem dX1_init_30 : decode cX1_init 30 = .ok (.iconst 0, 1) := by decide +kernel
theorem dX1_init_31 : decode cX1_init 31 = .ok (.iload_n 2, 1) := by decide +kernel
theorem dX1_init_32 : decode cX1_init 32 = .ok (.iastore, 1) := by decide +kernel
theorem dX1_init_33 : decode cX1_init 33 = .ok (.iconst 0, 1) := by decide +kernel
theorem dX1_init_34 : decode cX1_init 34 = .ok (.istore_n 3, 1) := by decide +kernel
theorem dX1_init_35 : decode cX1_init 35 = .ok (.iload_n 3, 1) := by decide +kernel
theorem dX1_init_36 : decode cX1_init 36 = .ok (.bipush 8, 2) := by decide +kernel
theorem dX1_init_38 : decode cX1_init 38 = .ok (.if_icmp .ge 22, 3) := by decide +kernel
theorem dX1_init_41 : decode cX1_init 41 = .ok (.aload_n 0, 1) := by decide +kernel
theorem dX1_init_42 : decode cX1_init 42 = .ok (.getfield 17, 3) := by decide +kernel
theorem dX1_init_45 : decode cX1_init 45 = .ok (.iload_n 3, 1) := by decide +kernel
theorem dX1_init_46 : decode cX1_init 46 = .ok (.new 15, 3) := by decide +kernel
theorem dX1_init_49 : decode cX1_init 49 = .ok (.dup, 1) := by decide +kernel
theorem dX1_init_50 : decode cX1_init 50 = .ok (.invokespecial 25, 3) := by decide +kernel
theorem dX1_init_53 : decode cX1_init 53 = .ok (.aastore, 1) := by decide +kernel
theorem dX1_init_54 : decode cX1_init 54 = .ok (.iinc 3 1, 3) := by decide +kernel
theorem dX1_init_57 : decode cX1_init 57 = .ok (.goto (-22), 3) := by decide +kernel
theorem dX1_init_60 : decode cX1_init 60 = .ok (.return_, 1) := by decide +kernel
theorem dX1_fieldSet_0 : decode cX1_fieldSet 0 = .ok (.iload_n 1, 1) := by decide +kernel
theorem dX1_fieldSet_1 : decode cX1_fieldSet 1 = .ok (.ifCond .lt 9, 3) := by decide +kernel
theorem dX1_fieldSet_4 : decode cX1_fieldSet 4 = .ok (.iload_n 1, 1) := by decide +kernel
theorem dX1_fieldSet_5 : decode cX1_fieldSet 5 = .ok (.bipush 8, 2) := by decide +kernel
theorem dX1_fieldSet_7 : decode cX1_fieldSet 7 = .ok (.if_icmp .lt 5, 3) := by decide +kernel
theorem dX1_fieldSet_10 : decode cX1_fieldSet 10 = .ok (.iconst 0, 1) := by decide +kernel
theorem dX1_fieldSet_11 : decode cX1_fieldSet 11 = .ok (.ireturn, 1) := by decide +kernel
theorem dX1_fieldSet_12 : decode cX1_fieldSet 12 = .ok (.aload_n 0, 1) := by decide +kernel
theorem dX1_fieldSet_13 : decode cX1_fieldSet 13 = .ok (.getfield 9, 3) := by decide +kernel
theorem dX1_fieldSet_16 : decode cX1_fieldSet 16 = .ok (.iload_n 1, 1) := by decide +kernel
theorem dX1_fieldSet_17 : decode cX1_fieldSet 17 = .ok (.iaload, 1) := by decide +kernel
theorem dX1_fieldSet_18 : decode cX1_fieldSet 18 = .ok (.ireturn, 1) := by decide +kernel
set_option maxRecDepth 20000 in
theorem ggX1_stagedSet_X1_fieldSet : GoodIn wsX1_stagedSet wsX1_fieldSet := goodIn_r _ [6, 7, 8, 9, 10, 11, 12] (by decide +kernel) (by decide +kernel)
set_option maxRecDepth 20000 in
theorem gX1_stagedSet_X1_fieldSet : GoodIn wsX1_stagedSet (wsV RX1 29 RX1 yX1_fieldSet wsX1_fieldSet) := goodIn_app (goodIn_of _ (by decide +kernel)) ggX1_stagedSet_X1_fieldSet
theorem dX1_stagedSet_0 : decode cX1_stagedSet 0 = .ok (.aload_n 0, 1) := by decide +kernel
theorem dX1_stagedSet_1 : decode cX1_stagedSet 1 = .ok (.aload_n 0, 1) := by decide +kernel
theorem dX1_stagedSet_2 : decode cX1_stagedSet 2 = .ok (.getfield 26, 3) := by decide +kernel
theorem dX1_stagedSet_5 : decode cX1_stagedSet 5 = .ok (.iconst 1, 1) := by decide +kernel
theorem dX1_stagedSet_6 : decode cX1_stagedSet 6 = .ok (.iadd, 1) := by decide +kernel
theorem dX1_stagedSet_7 : decode cX1_stagedSet 7 = .ok (.invokevirtual 29, 3) := by decide +kernel
theorem dX1_stagedSet_10 : decode cX1_stagedSet 10 = .ok (.ireturn, 1) := by decide +kernel
theorem dX1_isFull_0 : decode cX1_isFull 0 = .ok (.aload_n 0, 1) := by decide +kernel
theorem dX1_isFull_1 : decode cX1_isFull 1 = .ok (.getfield 26, 3) := by decide +kernel
theorem dX1_isFull_4 : decode cX1_isFull 4 = .ok (.bipush 7, 2) := by decide +kernel
theorem dX1_isFull_6 : decode cX1_isFull 6 = .ok (.if_icmp .lt 7, 3) := by decide +kernel
theorem dX1_isFull_9 : decode cX1_isFull 9 = .ok (.iconst 1, 1) := by decide +kernel
theorem dX1_isFull_10 : decode cX1_isFull 10 = .ok (.goto 4, 3) := by decide +kernel
theorem dX1_isFull_13 : decode cX1_isFull 13 = .ok (.iconst 0, 1) := by decide +kernel
theorem dX1_isFull_14 : decode cX1_isFull 14 = .ok (.ireturn, 1) := by decide +kernel
set_option maxRecDepth 20000 in
theorem ggX1_beginStaged_X1_isFull : GoodIn wsX1_beginStaged wsX1_isFull := goodIn_r _ [10, 3, 17, 18, 19, 20, 21] (by decide +kernel) (by decide +kernel)
set_option maxRecDepth 20000 in
theorem gX1_beginStaged_X1_isFull : GoodIn wsX1_beginStaged (wsV RX1 33 RX1 yX1_isFull wsX1_isFull) := goodIn_app (goodIn_of _ (by decide +kernel)) ggX1_beginStaged_X1_isFull
set_option maxRecDepth 20000 in
theorem ggX1_beginStaged_X2_clear : GoodIn wsX1_beginStaged wsX2_clear := goodIn_r _ [15, 16, 22, 23] (by decide +kernel) (by decide +kernel)
set_option maxRecDepth 20000 in
theorem gX1_beginStaged_X2_clear : GoodIn wsX1_beginStaged (wsV RX1 38 RX2 yX2_clear wsX2_clear) := goodIn_app (goodIn_of _ (by decide +kernel)) ggX1_beginStaged_X2_clear
theorem dX1_beginStaged_0 : decode cX1_beginStaged 0 = .ok (.aload_n 0, 1) := by decide +kernel
theorem dX1_beginStaged_1 : decode cX1_beginStaged 1 = .ok (.invokevirtual 33, 3) := by decide +kernel
theorem dX1_beginStaged_4 : decode cX1_beginStaged 4 = .ok (.ifCond .eq 6, 3) := by decide +kernel
theorem dX1_beginStaged_7 : decode cX1_beginStaged 7 = .ok (.ldc 37, 2) := by decide +kernel
theorem dX1_beginStaged_9 : decode cX1_beginStaged 9 = .ok (.ireturn, 1) := by decide +kernel
theorem dX1_beginStaged_10 : decode cX1_beginStaged 10 = .ok (.aload_n 0, 1) := by decide +kernel
theorem dX1_beginStaged_11 : decode cX1_beginStaged 11 = .ok (.getfield 9, 3) := by decide +kernel
theorem dX1_beginStaged_14 : decode cX1_beginStaged 14 = .ok (.aload_n 0, 1) := by decide +kernel
theorem dX1_beginStaged_15 : decode cX1_beginStaged 15 = .ok (.getfield 26, 3) := by decide +kernel
theorem dX1_beginStaged_18 : decode cX1_beginStaged 18 = .ok (.iconst 1, 1) := by decide +kernel
theorem dX1_beginStaged_19 : decode cX1_beginStaged 19 = .ok (.iadd, 1) := by decide +kernel
theorem dX1_beginStaged_20 : decode cX1_beginStaged 20 = .ok (.aload_n 0, 1) := by decide +kernel
theorem dX1_beginStaged_21 : decode cX1_beginStaged 21 = .ok (.getfield 9, 3) := by decide +kernel
theorem dX1_beginStaged_24 : decode cX1_beginStaged 24 = .ok (.aload_n 0, 1) := by decide +kernel
theorem dX1_beginStaged_25 : decode cX1_beginStaged 25 = .ok (.getfield 26, 3) := by decide +kernel
theorem dX1_beginStaged_28 : decode cX1_beginStaged 28 = .ok (.iaload, 1) := by decide +kernel
theorem dX1_beginStaged_29 : decode cX1_beginStaged 29 = .ok (.iastore, 1) := by decide +kernel
theorem dX1_beginStaged_30 : decode cX1_beginStaged 30 = .ok (.aload_n 0, 1) := by decide +kernel
theorem dX1_beginStaged_31 : decode cX1_beginStaged 31 = .ok (.getfield 17, 3) := by decide +kernel
theorem dX1_beginStaged_34 : decode cX1_beginStaged 34 = .ok (.aload_n 0, 1) := by decide +kernel
theorem dX1_beginStaged_35 : decode cX1_beginStaged 35 = .ok (.getfield 26, 3) := by decide +kernel
theorem dX1_beginStaged_38 : decode cX1_beginStaged 38 = .ok (.iconst 1, 1) := by decide +kernel
theorem dX1_beginStaged_39 : decode cX1_beginStaged 39 = .ok (.iadd, 1) := by decide +kernel
theorem dX1_beginStaged_40 : decode cX1_beginStaged 40 = .ok (.aaload, 1) := by decide +kernel
theorem dX1_beginStaged_41 : decode cX1_beginStaged 41 = .ok (.invokevirtual 38, 3) := by decide +kernel
theorem dX1_beginStaged_44 : decode cX1_beginStaged 44 = .ok (.aload_n 0, 1) := by decide +kernel
theorem dX1_beginStaged_45 : decode cX1_beginStaged 45 = .ok (.iconst 1, 1) := by decide +kernel
theorem dX1_beginStaged_46 : decode cX1_beginStaged 46 = .ok (.putfield 41, 3) := by decide +kernel
theorem dX1_beginStaged_49 : decode cX1_beginStaged 49 = .ok (.aload_n 0, 1) := by decide +kernel
theorem dX1_beginStaged_50 : decode cX1_beginStaged 50 = .ok (.getfield 26, 3) := by decide +kernel
theorem dX1_beginStaged_53 : decode cX1_beginStaged 53 = .ok (.iconst 1, 1) := by decide +kernel
theorem dX1_beginStaged_54 : decode cX1_beginStaged 54 = .ok (.iadd, 1) := by decide +kernel
theorem dX1_beginStaged_55 : decode cX1_beginStaged 55 = .ok (.ireturn, 1) := by decide +kernel
set_option maxRecDepth 20000 in
theorem ggX1_append_X1_isFull : GoodIn wsX1_append wsX1_isFull := goodIn_r _ [12, 2, 39, 40, 41, 42, 43] (by decide +kernel) (by decide +kernel)
set_option maxRecDepth 20000 in
theorem gX1_append_X1_isFull : GoodIn wsX1_append (wsV RX1 33 RX1 yX1_isFull wsX1_isFull) := goodIn_app (goodIn_of _ (by decide +kernel)) ggX1_append_X1_isFull
set_option maxRecDepth 20000 in
theorem ggX1_append_X2_isFull : GoodIn wsX1_append wsX2_isFull := goodIn_r _ [17, 18, 47, 48] (by decide +kernel) (by decide +kernel)
set_option maxRecDepth 20000 in
theorem gX1_append_X2_isFull : GoodIn wsX1_append (wsV RX1 45 RX2 yX2_isFull wsX2_isFull) := goodIn_app (goodIn_of _ (by decide +kernel)) ggX1_append_X2_isFull
set_option maxRecDepth 20000 in
theorem ggX1_append_X4_init : GoodIn wsX1_append wsX4_init := goodIn_r _ [21, 22, 23, 24, 25, 26, 27, 44, 45, 46] (by decide +kernel) (by decide +kernel)
set_option maxRecDepth 20000 in
theorem gX1_append_X4_init : GoodIn wsX1_append (wsX4_init) := ggX1_append_X4_init
set_option maxRecDepth 20000 in
theorem ggX1_append_X4_changedSet : GoodIn wsX1_append wsX4_changedSet := goodIn_r _ [31, 25, 26, 27, 44, 45, 46] (by decide +kernel) (by decide +kernel)
set_option maxRecDepth 20000 in
theorem gX1_append_X4_changedSet : GoodIn wsX1_append (wsV RX1 51 RX4 yX4_changedSet wsX4_changedSet) := goodIn_app (goodIn_of _ (by decide +kernel)) ggX1_append_X4_changedSet
set_option maxRecDepth 20000 in
theorem ggX1_append_X2_append : GoodIn wsX1_append wsX2_append := goodIn_r _ [35, 36, 37, 18, 38, 14, 15, 16, 17, 47, 48] (by decide +kernel) (by decide +kernel)
set_option maxRecDepth 20000 in
theorem gX1_append_X2_append : GoodIn wsX1_append (wsV RX1 54 RX2 yX2_append wsX2_append) := goodIn_app (goodIn_of _ (by decide +kernel)) ggX1_append_X2_append
theorem dX1_append_0 : decode cX1_append 0 = .ok (.aload_n 0, 1) := by decide +kernel
theorem dX1_append_1 : decode cX1_append 1 = .ok (.invokevirtual 33, 3) := by decide +kernel
theorem dX1_append_4 : decode cX1_append 4 = .ok (.ifCond .ne 20, 3) := by decide +kernel
theorem dX1_append_7 : decode cX1_append 7 = .ok (.aload_n 0, 1) := by decide +kernel
theorem dX1_append_8 : decode cX1_append 8 = .ok (.getfield 17, 3) := by decide +kernel
theorem dX1_append_11 : decode cX1_append 11 = .ok (.aload_n 0, 1) := by decide +kernel
theorem dX1_append_12 : decode cX1_append 12 = .ok (.getfield 26, 3) := by decide +kernel
theorem dX1_append_15 : decode cX1_append 15 = .ok (.iconst 1, 1) := by decide +kernel
theorem dX1_append_16 : decode cX1_append 16 = .ok (.iadd, 1) := by decide +kernel
theorem dX1_append_17 : decode cX1_append 17 = .ok (.aaload, 1) := by decide +kernel
theorem dX1_append_18 : decode cX1_append 18 = .ok (.invokevirtual 45, 3) := by decide +kernel
theorem dX1_append_21 : decode cX1_append 21 = .ok (.ifCond .eq 6, 3) := by decide +kernel
theorem dX1_append_24 : decode cX1_append 24 = .ok (.ldc 37, 2) := by decide +kernel
theorem dX1_append_26 : decode cX1_append 26 = .ok (.ireturn, 1) := by decide +kernel
theorem dX1_append_27 : decode cX1_append 27 = .ok (.new 46, 3) := by decide +kernel
theorem dX1_append_30 : decode cX1_append 30 = .ok (.dup, 1) := by decide +kernel
theorem dX1_append_31 : decode cX1_append 31 = .ok (.iload_n 1, 1) := by decide +kernel
theorem dX1_append_32 : decode cX1_append 32 = .ok (.iload_n 2, 1) := by decide +kernel
theorem dX1_append_33 : decode cX1_append 33 = .ok (.iload_n 3, 1) := by decide +kernel
theorem dX1_append_34 : decode cX1_append 34 = .ok (.invokespecial 48, 3) := by decide +kernel
theorem dX1_append_37 : decode cX1_append 37 = .ok (.astore 4, 2) := by decide +kernel
theorem dX1_append_39 : decode cX1_append 39 = .ok (.aload_n 0, 1) := by decide +kernel
theorem dX1_append_40 : decode cX1_append 40 = .ok (.getfield 9, 3) := by decide +kernel
theorem dX1_append_43 : decode cX1_append 43 = .ok (.aload_n 0, 1) := by decide +kernel
theorem dX1_append_44 : decode cX1_append 44 = .ok (.getfield 26, 3) := by decide +kernel
theorem dX1_append_47 : decode cX1_append 47 = .ok (.iconst 1, 1) := by decide +kernel
theorem dX1_append_48 : decode cX1_append 48 = .ok (.iadd, 1) := by decide +kernel
theorem dX1_append_49 : decode cX1_append 49 = .ok (.aload 4, 2) := by decide +kernel
theorem dX1_append_51 : decode cX1_append 51 = .ok (.aload_n 0, 1) := by decide +kernel
theorem dX1_append_52 : decode cX1_append 52 = .ok (.getfield 9, 3) := by decide +kernel
theorem dX1_append_55 : decode cX1_append 55 = .ok (.aload_n 0, 1) := by decide +kernel
theorem dX1_append_56 : decode cX1_append 56 = .ok (.getfield 26, 3) := by decide +kernel
theorem dX1_append_59 : decode cX1_append 59 = .ok (.iconst 1, 1) := by decide +kernel
theorem dX1_append_60 : decode cX1_append 60 = .ok (.iadd, 1) := by decide +kernel
theorem dX1_append_61 : decode cX1_append 61 = .ok (.iaload, 1) := by decide +kernel
theorem dX1_append_62 : decode cX1_append 62 = .ok (.invokevirtual 51, 3) := by decide +kernel
theorem dX1_append_65 : decode cX1_append 65 = .ok (.iastore, 1) := by decide +kernel
theorem dX1_append_66 : decode cX1_append 66 = .ok (.aload_n 0, 1) := by decide +kernel
theorem dX1_append_67 : decode cX1_append 67 = .ok (.getfield 17, 3) := by decide +kernel
theorem dX1_append_70 : decode cX1_append 70 = .ok (.aload_n 0, 1) := by decide +kernel
theorem dX1_append_71 : decode cX1_append 71 = .ok (.getfield 26, 3) := by decide +kernel
theorem dX1_append_74 : decode cX1_append 74 = .ok (.iconst 1, 1) := by decide +kernel
theorem dX1_append_75 : decode cX1_append 75 = .ok (.iadd, 1) := by decide +kernel
theorem dX1_append_76 : decode cX1_append 76 = .ok (.aaload, 1) := by decide +kernel
theorem dX1_append_77 : decode cX1_append 77 = .ok (.aload 4, 2) := by decide +kernel
theorem dX1_append_79 : decode cX1_append 79 = .ok (.invokevirtual 54, 3) := by decide +kernel
theorem dX1_append_82 : decode cX1_append 82 = .ok (.ireturn, 1) := by decide +kernel
set_option maxRecDepth 20000 in
theorem ggX1_activateStaged_X1_isFull : GoodIn wsX1_activateStaged wsX1_isFull := goodIn_r _ [7, 1, 8, 9, 10, 11, 12] (by decide +kernel) (by decide +kernel)
set_option maxRecDepth 20000 in
theorem gX1_activateStaged_X1_isFull : GoodIn wsX1_activateStaged (wsV RX1 33 RX1 yX1_isFull wsX1_isFull) := goodIn_app (goodIn_of _ (by decide +kernel)) ggX1_activateStaged_X1_isFull
theorem dX1_activateStaged_0 : decode cX1_activateStaged 0 = .ok (.aload_n 0, 1) := by decide +kernel
theorem dX1_activateStaged_1 : decode cX1_activateStaged 1 = .ok (.invokevirtual 33, 3) := by decide +kernel
theorem dX1_activateStaged_4 : decode cX1_activateStaged 4 = .ok (.ifCond .ne 13, 3) := by decide +kernel
theorem dX1_activateStaged_7 : decode cX1_activateStaged 7 = .ok (.aload_n 0, 1) := by decide +kernel
theorem dX1_activateStaged_8 : decode cX1_activateStaged 8 = .ok (.dup, 1) := by decide +kernel
theorem dX1_activateStaged_9 : decode cX1_activateStaged 9 = .ok (.getfield 26, 3) := by decide +kernel
theorem dX1_activateStaged_12 : decode cX1_activateStaged 12 = .ok (.iconst 1, 1) := by decide +kernel
theorem dX1_activateStaged_13 : decode cX1_activateStaged 13 = .ok (.iadd, 1) := by decide +kernel
theorem dX1_activateStaged_14 : decode cX1_activateStaged 14 = .ok (.putfield 26, 3) := by decide +kernel
theorem dX1_activateStaged_17 : decode cX1_activateStaged 17 = .ok (.aload_n 0, 1) := by decide +kernel
theorem dX1_activateStaged_18 : decode cX1_activateStaged 18 = .ok (.iconst 0, 1) := by decide +kernel
theorem dX1_activateStaged_19 : decode cX1_activateStaged 19 = .ok (.putfield 41, 3) := by decide +kernel
theorem dX1_activateStaged_22 : decode cX1_activateStaged 22 = .ok (.aload_n 0, 1) := by decide +kernel
theorem dX1_activateStaged_23 : decode cX1_activateStaged 23 = .ok (.getfield 26, 3) := by decide +kernel
theorem dX1_activateStaged_26 : decode cX1_activateStaged 26 = .ok (.ireturn, 1) := by decide +kernel
set_option maxRecDepth 20000 in
theorem ggX1_discardStaged_X1_isFull : GoodIn wsX1_discardStaged wsX1_isFull := goodIn_r _ [8, 3, 9, 10, 11, 12, 13] (by decide +kernel) (by decide +kernel)
set_option maxRecDepth 20000 in
theorem gX1_discardStaged_X1_isFull : GoodIn wsX1_discardStaged (wsV RX1 33 RX1 yX1_isFull wsX1_isFull) := goodIn_app (goodIn_of _ (by decide +kernel)) ggX1_discardStaged_X1_isFull
theorem dX1_discardStaged_0 : decode cX1_discardStaged 0 = .ok (.aload_n 0, 1) := by decide +kernel
theorem dX1_discardStaged_1 : decode cX1_discardStaged 1 = .ok (.iconst 0, 1) := by decide +kernel
theorem dX1_discardStaged_2 : decode cX1_discardStaged 2 = .ok (.putfield 41, 3) := by decide +kernel
theorem dX1_discardStaged_5 : decode cX1_discardStaged 5 = .ok (.aload_n 0, 1) := by decide +kernel
theorem dX1_discardStaged_6 : decode cX1_discardStaged 6 = .ok (.invokevirtual 33, 3) := by decide +kernel
theorem dX1_discardStaged_9 : decode cX1_discardStaged 9 = .ok (.ifCond .eq 5, 3) := by decide +kernel
theorem dX1_discardStaged_12 : decode cX1_discardStaged 12 = .ok (.iconst 0, 1) := by decide +kernel
theorem dX1_discardStaged_13 : decode cX1_discardStaged 13 = .ok (.ireturn, 1) := by decide +kernel
theorem dX1_discardStaged_14 : decode cX1_discardStaged 14 = .ok (.aload_n 0, 1) := by decide +kernel
theorem dX1_discardStaged_15 : decode cX1_discardStaged 15 = .ok (.getfield 17, 3) := by decide +kernel
theorem dX1_discardStaged_18 : decode cX1_discardStaged 18 = .ok (.aload_n 0, 1) := by decide +kernel
theorem dX1_discardStaged_19 : decode cX1_discardStaged 19 = .ok (.getfield 26, 3) := by decide +kernel
theorem dX1_discardStaged_22 : decode cX1_discardStaged 22 = .ok (.iconst 1, 1) := by decide +kernel
theorem dX1_discardStaged_23 : decode cX1_discardStaged 23 = .ok (.iadd, 1) := by decide +kernel
theorem dX1_discardStaged_24 : decode cX1_discardStaged 24 = .ok (.aaload, 1) := by decide +kernel
theorem dX1_discardStaged_25 : decode cX1_discardStaged 25 = .ok (.getfield 58, 3) := by decide +kernel
theorem dX1_discardStaged_28 : decode cX1_discardStaged 28 = .ok (.ireturn, 1) := by decide +kernel
theorem dX1_removeCurrent_0 : decode cX1_removeCurrent 0 = .ok (.aload_n 0, 1) := by decide +kernel
theorem dX1_removeCurrent_1 : decode cX1_removeCurrent 1 = .ok (.getfield 26, 3) := by decide +kernel
theorem dX1_removeCurrent_4 : decode cX1_removeCurrent 4 = .ok (.ifCond .le 13, 3) := by decide +kernel
theorem dX1_removeCurrent_7 : decode cX1_removeCurrent 7 = .ok (.aload_n 0, 1) := by decide +kernel
theorem dX1_removeCurrent_8 : decode cX1_removeCurrent 8 = .ok (.dup, 1) := by decide +kernel
theorem dX1_removeCurrent_9 : decode cX1_removeCurrent 9 = .ok (.getfield 26, 3) := by decide +kernel
theorem dX1_removeCurrent_12 : decode cX1_removeCurrent 12 = .ok (.iconst 1, 1) := by decide +kernel
theorem dX1_removeCurrent_13 : decode cX1_removeCurrent 13 = .ok (.isub, 1) := by decide +kernel
theorem dX1_removeCurrent_14 : decode cX1_removeCurrent 14 = .ok (.putfield 26, 3) := by decide +kernel
theorem dX1_removeCurrent_17 : decode cX1_removeCurrent 17 = .ok (.aload_n 0, 1) := by decide +kernel
theorem dX1_removeCurrent_18 : decode cX1_removeCurrent 18 = .ok (.iconst 0, 1) := by decide +kernel
theorem dX1_removeCurrent_19 : decode cX1_removeCurrent 19 = .ok (.putfield 41, 3) := by decide +kernel
theorem dX1_removeCurrent_22 : decode cX1_removeCurrent 22 = .ok (.aload_n 0, 1) := by decide +kernel
theorem dX1_removeCurrent_23 : decode cX1_removeCurrent 23 = .ok (.getfield 26, 3) := by decide +kernel
theorem dX1_removeCurrent_26 : decode cX1_removeCurrent 26 = .ok (.ireturn, 1) := by decide +kernel
theorem dX5_init_0 : decode cX5_init 0 = .ok (.aload_n 0, 1) := by decide +kernel
theorem dX5_init_1 : decode cX5_init 1 = .ok (.invokespecial 3, 3) := by decide +kernel
theorem dX5_init_4 : decode cX5_init 4 = .ok (.aload_n 0, 1) := by decide +kernel
theorem dX5_init_5 : decode cX5_init 5 = .ok (.bipush 8, 2) := by decide +kernel
theorem dX5_init_7 : decode cX5_init 7 = .ok (.bipush 8, 2) := by decide +kernel
theorem dX5_init_9 : decode cX5_init 9 = .ok (.multianewarray 9 2, 4) := by decide +kernel
theorem dX5_init_13 : decode cX5_init 13 = .ok (.putfield 11, 3) := by decide +kernel
theorem dX5_init_16 : decode cX5_init 16 = .ok (.aload_n 0, 1) := by decide +kernel
theorem dX5_init_17 : decode cX5_init 17 = .ok (.aload_n 1, 1) := by decide +kernel
theorem dX5_init_18 : decode cX5_init 18 = .ok (.putfield 16, 3) := by decide +kernel
theorem dX5_init_21 : decode cX5_init 21 = .ok (.aload_n 0, 1) := by decide +kernel
theorem dX5_init_22 : decode cX5_init 22 = .ok (.iload_n 2, 1) := by decide +kernel
theorem dX5_init_23 : decode cX5_init 23 = .ok (.putfield 20, 3) := by decide +kernel
theorem dX5_init_26 : decode cX5_init 26 = .ok (.aload_n 0, 1) := by decide +kernel
theorem dX5_init_27 : decode cX5_init 27 = .ok (.iload_n 2, 1) := by decide +kernel
theorem dX5_init_28 : decode cX5_init 28 = .ok (.putfield 24, 3) := by decide +kernel
theorem dX5_init_31 : decode cX5_init 31 = .ok (.return_, 1) := by decide +kernel
theorem dX5_valueOf_0 : decode cX5_valueOf 0 = .ok (.aload_n 0, 1) := by decide +kernel
theorem dX5_valueOf_1 : decode cX5_valueOf 1 = .ok (.getfield 11, 3) := by decide +kernel
theorem dX5_valueOf_4 : decode cX5_valueOf 4 = .ok (.aload_n 0, 1) := by decide +kernel
theorem dX5_valueOf_5 : decode cX5_valueOf 5 = .ok (.getfield 24, 3) := by decide +kernel
theorem dX5_valueOf_8 : decode cX5_valueOf 8 = .ok (.aaload, 1) := by decide +kernel
theorem dX5_valueOf_9 : decode cX5_valueOf 9 = .ok (.iload_n 1, 1) := by decide +kernel
theorem dX5_valueOf_10 : decode cX5_valueOf 10 = .ok (.iaload, 1) := by decide +kernel
theorem dX5_valueOf_11 : decode cX5_valueOf 11 = .ok (.ireturn, 1) := by decide +kernel
theorem dX5_putValue_0 : decode cX5_putValue 0 = .ok (.aload_n 0, 1) := by decide +kernel
theorem dX5_putValue_1 : decode cX5_putValue 1 = .ok (.getfield 11, 3) := by decide +kernel
theorem dX5_putValue_4 : decode cX5_putValue 4 = .ok (.aload_n 0, 1) := by decide +kernel
theorem dX5_putValue_5 : decode cX5_putValue 5 = .ok (.getfield 24, 3) := by decide +kernel
theorem dX5_putValue_8 : decode cX5_putValue 8 = .ok (.aaload, 1) := by decide +kernel
theorem dX5_putValue_9 : decode cX5_putValue 9 = .ok (.iload_n 1, 1) := by decide +kernel
theorem dX5_putValue_10 : decode cX5_putValue 10 = .ok (.iload_n 2, 1) := by decide +kernel
theorem dX5_putValue_11 : decode cX5_putValue 11 = .ok (.iastore, 1) := by decide +kernel
theorem dX5_putValue_12 : decode cX5_putValue 12 = .ok (.return_, 1) := by decide +kernel
set_option maxRecDepth 20000 in
theorem ggX5_convertTo_X2_applyTo : GoodIn wsX5_convertTo wsX2_applyTo := goodIn_r _ [12, 13, 14, 15, 16, 17, 18, 19, 20, 21, 22, 23, 24, 25, 26, 27, 28, 29, 30, 31, 32, 42, 43, 44, 45, 46] (by decide +kernel) (by decide +kernel)
set_option maxRecDepth 20000 in
theorem gX5_convertTo_X2_applyTo : GoodIn wsX5_convertTo (wsV RX5 39 RX2 yX2_applyTo wsX2_applyTo) := goodIn_app (goodIn_of _ (by decide +kernel)) ggX5_convertTo_X2_applyTo
theorem dX5_convertTo_0 : decode cX5_convertTo 0 = .ok (.iload_n 1, 1) := by decide +kernel
theorem dX5_convertTo_1 : decode cX5_convertTo 1 = .ok (.aload_n 0, 1) := by decide +kernel
theorem dX5_convertTo_2 : decode cX5_convertTo 2 = .ok (.getfield 24, 3) := by decide +kernel
theorem dX5_convertTo_5 : decode cX5_convertTo 5 = .ok (.if_icmp .lt 9, 3) := by decide +kernel
theorem dX5_convertTo_8 : decode cX5_convertTo 8 = .ok (.iload_n 1, 1) := by decide +kernel
theorem dX5_convertTo_9 : decode cX5_convertTo 9 = .ok (.bipush 8, 2) := by decide +kernel
theorem dX5_convertTo_11 : decode cX5_convertTo 11 = .ok (.if_icmp .lt 5, 3) := by decide +kernel
theorem dX5_convertTo_14 : decode cX5_convertTo 14 = .ok (.iconst 0, 1) := by decide +kernel
theorem dX5_convertTo_15 : decode cX5_convertTo 15 = .ok (.ireturn, 1) := by decide +kernel
theorem dX5_convertTo_16 : decode cX5_convertTo 16 = .ok (.aload_n 0, 1) := by decide +kernel
theorem dX5_convertTo_17 : decode cX5_convertTo 17 = .ok (.getfield 24, 3) := by decide +kernel
theorem dX5_convertTo_20 : decode cX5_convertTo 20 = .ok (.iconst 1, 1) := by decide +kernel
theorem dX5_convertTo_21 : decode cX5_convertTo 21 = .ok (.iadd, 1) := by decide +kernel
theorem dX5_convertTo_22 : decode cX5_convertTo 22 = .ok (.istore_n 2, 1) := by decide +kernel
theorem dX5_convertTo_23 : decode cX5_convertTo 23 = .ok (.iload_n 2, 1) := by decide +kernel
theorem dX5_convertTo_24 : decode cX5_convertTo 24 = .ok (.iload_n 1, 1) := by decide +kernel
theorem dX5_convertTo_25 : decode cX5_convertTo 25 = .ok (.if_icmp .gt 53, 3) := by decide +kernel
theorem dX5_convertTo_28 : decode cX5_convertTo 28 = .ok (.aload_n 0, 1) := by decide +kernel
theorem dX5_convertTo_29 : decode cX5_convertTo 29 = .ok (.getfield 11, 3) := by decide +kernel
theorem dX5_convertTo_32 : decode cX5_convertTo 32 = .ok (.iload_n 2, 1) := by decide +kernel
theorem dX5_convertTo_33 : decode cX5_convertTo 33 = .ok (.iconst 1, 1) := by decide +kernel
theorem dX5_convertTo_34 : decode cX5_convertTo 34 = .ok (.isub, 1) := by decide +kernel
theorem dX5_convertTo_35 : decode cX5_convertTo 35 = .ok (.aaload, 1) := by decide +kernel
theorem dX5_convertTo_36 : decode cX5_convertTo 36 = .ok (.iconst 0, 1) := by decide +kernel
theorem dX5_convertTo_37 : decode cX5_convertTo 37 = .ok (.aload_n 0, 1) := by decide +kernel
theorem dX5_convertTo_38 : decode cX5_convertTo 38 = .ok (.getfield 11, 3) := by decide +kernel
theorem dX5_convertTo_41 : decode cX5_convertTo 41 = .ok (.iload_n 2, 1) := by decide +kernel
theorem dX5_convertTo_42 : decode cX5_convertTo 42 = .ok (.aaload, 1) := by decide +kernel
theorem dX5_convertTo_43 : decode cX5_convertTo 43 = .ok (.iconst 0, 1) := by decide +kernel
theorem dX5_convertTo_44 : decode cX5_convertTo 44 = .ok (.bipush 8, 2) := by decide +kernel
theorem dX5_convertTo_46 : decode cX5_convertTo 46 = .ok (.invokestatic 27, 3) := by decide +kernel
theorem dX5_convertTo_49 : decode cX5_convertTo 49 = .ok (.aload_n 0, 1) := by decide +kernel
theorem dX5_convertTo_50 : decode cX5_convertTo 50 = .ok (.getfield 16, 3) := by decide +kernel
theorem dX5_convertTo_53 : decode cX5_convertTo 53 = .ok (.getfield 33, 3) := by decide +kernel
theorem dX5_convertTo_56 : decode cX5_convertTo 56 = .ok (.iload_n 2, 1) := by decide +kernel
theorem dX5_convertTo_57 : decode cX5_convertTo 57 = .ok (.aaload, 1) := by decide +kernel
theorem dX5_convertTo_58 : decode cX5_convertTo 58 = .ok (.aload_n 0, 1) := by decide +kernel
theorem dX5_convertTo_59 : decode cX5_convertTo 59 = .ok (.getfield 11, 3) := by decide +kernel
theorem dX5_convertTo_62 : decode cX5_convertTo 62 = .ok (.iload_n 2, 1) := by decide +kernel
theorem dX5_convertTo_63 : decode cX5_convertTo 63 = .ok (.aaload, 1) := by decide +kernel
theorem dX5_convertTo_64 : decode cX5_convertTo 64 = .ok (.invokevirtual 39, 3) := by decide +kernel
theorem dX5_convertTo_67 : decode cX5_convertTo 67 = .ok (.ifCond .ne 5, 3) := by decide +kernel
theorem dX5_convertTo_70 : decode cX5_convertTo 70 = .ok (.iconst 0, 1) := by decide +kernel
theorem dX5_convertTo_71 : decode cX5_convertTo 71 = .ok (.ireturn, 1) := by decide +kernel
theorem dX5_convertTo_72 : decode cX5_convertTo 72 = .ok (.iinc 2 1, 3) := by decide +kernel
theorem dX5_convertTo_75 : decode cX5_convertTo 75 = .ok (.goto (-52), 3) := by decide +kernel
theorem dX5_convertTo_78 : decode cX5_convertTo 78 = .ok (.aload_n 0, 1) := by decide +kernel
theorem dX5_convertTo_79 : decode cX5_convertTo 79 = .ok (.iload_n 1, 1) := by decide +kernel
theorem dX5_convertTo_80 : decode cX5_convertTo 80 = .ok (.putfield 24, 3) := by decide +kernel
theorem dX5_convertTo_83 : decode cX5_convertTo 83 = .ok (.iconst 1, 1) := by decide +kernel
theorem dX5_convertTo_84 : decode cX5_convertTo 84 = .ok (.ireturn, 1) := by decide +kernel
theorem dX5_revert_0 : decode cX5_revert 0 = .ok (.aload_n 0, 1) := by decide +kernel
theorem dX5_revert_1 : decode cX5_revert 1 = .ok (.getfield 24, 3) := by decide +kernel
theorem dX5_revert_4 : decode cX5_revert 4 = .ok (.aload_n 0, 1) := by decide +kernel
theorem dX5_revert_5 : decode cX5_revert 5 = .ok (.getfield 20, 3) := by decide +kernel
theorem dX5_revert_8 : decode cX5_revert 8 = .ok (.if_icmp .le 13, 3) := by decide +kernel
theorem dX5_revert_11 : decode cX5_revert 11 = .ok (.aload_n 0, 1) := by decide +kernel
theorem dX5_revert_12 : decode cX5_revert 12 = .ok (.dup, 1) := by decide +kernel
theorem dX5_revert_13 : decode cX5_revert 13 = .ok (.getfield 24, 3) := by decide +kernel
theorem dX5_revert_16 : decode cX5_revert 16 = .ok (.iconst 1, 1) := by decide +kernel
theorem dX5_revert_17 : decode cX5_revert 17 = .ok (.isub, 1) := by decide +kernel
theorem dX5_revert_18 : decode cX5_revert 18 = .ok (.putfield 24, 3) := by decide +kernel
theorem dX5_revert_21 : decode cX5_revert 21 = .ok (.return_, 1) := by decide +kernel
theorem dJ9_min_7cf53_0 : decode cJ9_min_7cf53 0 = .ok (.iload_n 0, 1) := by decide +kernel
theorem dJ9_min_7cf53_1 : decode cJ9_min_7cf53 1 = .ok (.iload_n 1, 1) := by decide +kernel
theorem dJ9_min_7cf53_2 : decode cJ9_min_7cf53 2 = .ok (.if_icmp .gt 7, 3) := by decide +kernel
theorem dJ9_min_7cf53_5 : decode cJ9_min_7cf53 5 = .ok (.iload_n 0, 1) := by decide +kernel
theorem dJ9_min_7cf53_6 : decode cJ9_min_7cf53 6 = .ok (.goto 4, 3) := by decide +kernel
theorem dJ9_min_7cf53_9 : decode cJ9_min_7cf53 9 = .ok (.iload_n 1, 1) := by decide +kernel
theorem dJ9_min_7cf53_10 : decode cJ9_min_7cf53 10 = .ok (.ireturn, 1) := by decide +kernel
set_option maxRecDepth 20000 in
theorem ggX6_init_X0_init : GoodIn wsX6_init wsX0_init := goodIn_r _ [13, 14, 2, 3, 15, 16, 22, 23] (by decide +kernel) (by decide +kernel)
set_option maxRecDepth 20000 in
theorem gX6_init_X0_init_n21 : GoodIn wsX6_init (wsX0_init) := ggX6_init_X0_init
theorem dX6_init_0 : decode cX6_init 0 = .ok (.aload_n 0, 1) := by decide +kernel
theorem dX6_init_1 : decode cX6_init 1 = .ok (.invokespecial 1, 3) := by decide +kernel
theorem dX6_init_4 : decode cX6_init 4 = .ok (.aload_n 0, 1) := by decide +kernel
theorem dX6_init_5 : decode cX6_init 5 = .ok (.bipush 6, 2) := by decide +kernel
theorem dX6_init_7 : decode cX6_init 7 = .ok (.anewarray 9, 3) := by decide +kernel
theorem dX6_init_10 : decode cX6_init 10 = .ok (.putfield 11, 3) := by decide +kernel
theorem dX6_init_13 : decode cX6_init 13 = .ok (.aload_n 0, 1) := by decide +kernel
theorem dX6_init_14 : decode cX6_init 14 = .ok (.iconst 4, 1) := by decide +kernel
theorem dX6_init_15 : decode cX6_init 15 = .ok (.anewarray 15, 3) := by decide +kernel
theorem dX6_init_18 : decode cX6_init 18 = .ok (.putfield 17, 3) := by decide +kernel
theorem dX6_init_21 : decode cX6_init 21 = .ok (.iconst 0, 1) := by decide +kernel
theorem dX6_init_22 : decode cX6_init 22 = .ok (.istore_n 1, 1) := by decide +kernel
theorem dX6_init_23 : decode cX6_init 23 = .ok (.iload_n 1, 1) := by decide +kernel
theorem dX6_init_24 : decode cX6_init 24 = .ok (.iconst 4, 1) := by decide +kernel
theorem dX6_init_25 : decode cX6_init 25 = .ok (.if_icmp .ge 22, 3) := by decide +kernel
theorem dX6_init_28 : decode cX6_init 28 = .ok (.aload_n 0, 1) := by decide +kernel
theorem dX6_init_29 : decode cX6_init 29 = .ok (.getfield 17, 3) := by decide +kernel
theorem dX6_init_32 : decode cX6_init 32 = .ok (.iload_n 1, 1) := by decide +kernel
theorem dX6_init_33 : decode cX6_init 33 = .ok (.new 15, 3) := by decide +kernel
theorem dX6_init_36 : decode cX6_init 36 = .ok (.dup, 1) := by decide +kernel
theorem dX6_init_37 : decode cX6_init 37 = .ok (.invokespecial 21, 3) := by decide +kernel
theorem dX6_init_40 : decode cX6_init 40 = .ok (.aastore, 1) := by decide +kernel
theorem dX6_init_41 : decode cX6_init 41 = .ok (.iinc 1 1, 3) := by decide +kernel
theorem dX6_init_44 : decode cX6_init 44 = .ok (.goto (-21), 3) := by decide +kernel
theorem dX6_init_47 : decode cX6_init 47 = .ok (.aload_n 0, 1) := by decide +kernel
theorem dX6_init_48 : decode cX6_init 48 = .ok (.bipush 24, 2) := by decide +kernel
theorem dX6_init_50 : decode cX6_init 50 = .ok (.anewarray 22, 3) := by decide +kernel
theorem dX6_init_53 : decode cX6_init 53 = .ok (.putfield 24, 3) := by decide +kernel
theorem dX6_init_56 : decode cX6_init 56 = .ok (.return_, 1) := by decide +kernel
set_option maxRecDepth 20000 in
theorem ggX6_addClass_X1_init : GoodIn wsX6_addClass wsX1_init := goodIn_r _ [10, 11, 12, 13, 14, 15, 16, 17, 18, 19, 20, 21, 22, 23, 24, 25, 31, 32, 33, 34, 35, 36, 37] (by decide +kernel) (by decide +kernel)
set_option maxRecDepth 20000 in
theorem gX6_addClass_X1_init : GoodIn wsX6_addClass (wsX1_init) := ggX6_addClass_X1_init
theorem dX6_addClass_0 : decode cX6_addClass 0 = .ok (.iload_n 1, 1) := by decide +kernel
theorem dX6_addClass_1 : decode cX6_addClass 1 = .ok (.ifCond .lt 10, 3) := by decide +kernel
theorem dX6_addClass_4 : decode cX6_addClass 4 = .ok (.iload_n 1, 1) := by decide +kernel
theorem dX6_addClass_5 : decode cX6_addClass 5 = .ok (.sipush 255, 3) := by decide +kernel
theorem dX6_addClass_8 : decode cX6_addClass 8 = .ok (.if_icmp .le 6, 3) := by decide +kernel
theorem dX6_addClass_11 : decode cX6_addClass 11 = .ok (.ldc 28, 2) := by decide +kernel
theorem dX6_addClass_13 : decode cX6_addClass 13 = .ok (.ireturn, 1) := by decide +kernel
theorem dX6_addClass_14 : decode cX6_addClass 14 = .ok (.aload_n 0, 1) := by decide +kernel
theorem dX6_addClass_15 : decode cX6_addClass 15 = .ok (.getfield 29, 3) := by decide +kernel
theorem dX6_addClass_18 : decode cX6_addClass 18 = .ok (.bipush 6, 2) := by decide +kernel
theorem dX6_addClass_20 : decode cX6_addClass 20 = .ok (.if_icmp .lt 6, 3) := by decide +kernel
theorem dX6_addClass_23 : decode cX6_addClass 23 = .ok (.ldc 33, 2) := by decide +kernel
theorem dX6_addClass_25 : decode cX6_addClass 25 = .ok (.ireturn, 1) := by decide +kernel
theorem dX6_addClass_26 : decode cX6_addClass 26 = .ok (.aload_n 0, 1) := by decide +kernel
theorem dX6_addClass_27 : decode cX6_addClass 27 = .ok (.getfield 29, 3) := by decide +kernel
theorem dX6_addClass_30 : decode cX6_addClass 30 = .ok (.istore_n 2, 1) := by decide +kernel
theorem dX6_addClass_31 : decode cX6_addClass 31 = .ok (.aload_n 0, 1) := by decide +kernel
theorem dX6_addClass_32 : decode cX6_addClass 32 = .ok (.getfield 11, 3) := by decide +kernel
theorem dX6_addClass_35 : decode cX6_addClass 35 = .ok (.iload_n 2, 1) := by decide +kernel
theorem dX6_addClass_36 : decode cX6_addClass 36 = .ok (.new 9, 3) := by decide +kernel
theorem dX6_addClass_39 : decode cX6_addClass 39 = .ok (.dup, 1) := by decide +kernel
theorem dX6_addClass_40 : decode cX6_addClass 40 = .ok (.iload_n 2, 1) := by decide +kernel
theorem dX6_addClass_41 : decode cX6_addClass 41 = .ok (.iload_n 1, 1) := by decide +kernel
theorem dX6_addClass_42 : decode cX6_addClass 42 = .ok (.invokespecial 34, 3) := by decide +kernel
theorem dX6_addClass_45 : decode cX6_addClass 45 = .ok (.aastore, 1) := by decide +kernel
theorem dX6_addClass_46 : decode cX6_addClass 46 = .ok (.aload_n 0, 1) := by decide +kernel
theorem dX6_addClass_47 : decode cX6_addClass 47 = .ok (.dup, 1) := by decide +kernel
theorem dX6_addClass_48 : decode cX6_addClass 48 = .ok (.getfield 29, 3) := by decide +kernel
theorem dX6_addClass_51 : decode cX6_addClass 51 = .ok (.iconst 1, 1) := by decide +kernel
theorem dX6_addClass_52 : decode cX6_addClass 52 = .ok (.iadd, 1) := by decide +kernel
theorem dX6_addClass_53 : decode cX6_addClass 53 = .ok (.putfield 29, 3) := by decide +kernel
theorem dX6_addClass_56 : decode cX6_addClass 56 = .ok (.iload_n 2, 1) := by decide +kernel
theorem dX6_addClass_57 : decode cX6_addClass 57 = .ok (.ireturn, 1) := by decide +kernel
set_option maxRecDepth 20000 in
theorem ggX6_currentVersion_X6_historyOf : GoodIn wsX6_currentVersion wsX6_historyOf := goodIn_r _ [6, 7, 8, 14, 15, 16, 17, 18] (by decide +kernel) (by decide +kernel)
set_option maxRecDepth 20000 in
theorem gX6_currentVersion_X6_historyOf : GoodIn wsX6_currentVersion (wsV RX6 37 RX6 yX6_historyOf wsX6_historyOf) := goodIn_app (goodIn_of _ (by decide +kernel)) ggX6_currentVersion_X6_historyOf
theorem dX6_currentVersion_0 : decode cX6_currentVersion 0 = .ok (.aload_n 0, 1) := by decide +kernel
theorem dX6_currentVersion_1 : decode cX6_currentVersion 1 = .ok (.iload_n 1, 1) := by decide +kernel
theorem dX6_currentVersion_2 : decode cX6_currentVersion 2 = .ok (.invokevirtual 37, 3) := by decide +kernel
theorem dX6_currentVersion_5 : decode cX6_currentVersion 5 = .ok (.astore_n 2, 1) := by decide +kernel
theorem dX6_currentVersion_6 : decode cX6_currentVersion 6 = .ok (.aload_n 2, 1) := by decide +kernel
theorem dX6_currentVersion_7 : decode cX6_currentVersion 7 = .ok (.ifnonnull 6, 3) := by decide +kernel
theorem dX6_currentVersion_10 : decode cX6_currentVersion 10 = .ok (.ldc 41, 2) := by decide +kernel
theorem dX6_currentVersion_12 : decode cX6_currentVersion 12 = .ok (.ireturn, 1) := by decide +kernel
theorem dX6_currentVersion_13 : decode cX6_currentVersion 13 = .ok (.aload_n 2, 1) := by decide +kernel
theorem dX6_currentVersion_14 : decode cX6_currentVersion 14 = .ok (.getfield 42, 3) := by decide +kernel
theorem dX6_currentVersion_17 : decode cX6_currentVersion 17 = .ok (.ireturn, 1) := by decide +kernel
set_option maxRecDepth 20000 in
theorem ggX6_fields_X6_historyOf : GoodIn wsX6_fields wsX6_historyOf := goodIn_r _ [7, 8, 9, 21, 22, 23, 24, 25] (by decide +kernel) (by decide +kernel)
set_option maxRecDepth 20000 in
theorem gX6_fields_X6_historyOf : GoodIn wsX6_fields (wsV RX6 37 RX6 yX6_historyOf wsX6_historyOf) := goodIn_app (goodIn_of _ (by decide +kernel)) ggX6_fields_X6_historyOf
set_option maxRecDepth 20000 in
theorem ggX6_fields_X1_fieldSet : GoodIn wsX6_fields wsX1_fieldSet := goodIn_r _ [14, 15, 16, 17, 18, 19, 20] (by decide +kernel) (by decide +kernel)
set_option maxRecDepth 20000 in
theorem gX6_fields_X1_fieldSet : GoodIn wsX6_fields (wsV RX6 46 RX1 yX1_fieldSet wsX1_fieldSet) := goodIn_app (goodIn_of _ (by decide +kernel)) ggX6_fields_X1_fieldSet
theorem dX6_fields_0 : decode cX6_fields 0 = .ok (.aload_n 0, 1) := by decide +kernel
theorem dX6_fields_1 : decode cX6_fields 1 = .ok (.iload_n 1, 1) := by decide +kernel
theorem dX6_fields_2 : decode cX6_fields 2 = .ok (.invokevirtual 37, 3) := by decide +kernel
theorem dX6_fields_5 : decode cX6_fields 5 = .ok (.astore_n 3, 1) := by decide +kernel
theorem dX6_fields_6 : decode cX6_fields 6 = .ok (.aload_n 3, 1) := by decide +kernel
theorem dX6_fields_7 : decode cX6_fields 7 = .ok (.ifnonnull 6, 3) := by decide +kernel
theorem dX6_fields_10 : decode cX6_fields 10 = .ok (.ldc 41, 2) := by decide +kernel
theorem dX6_fields_12 : decode cX6_fields 12 = .ok (.ireturn, 1) := by decide +kernel
theorem dX6_fields_13 : decode cX6_fields 13 = .ok (.iload_n 2, 1) := by decide +kernel
theorem dX6_fields_14 : decode cX6_fields 14 = .ok (.ifCond .lt 11, 3) := by decide +kernel
theorem dX6_fields_17 : decode cX6_fields 17 = .ok (.iload_n 2, 1) := by decide +kernel
theorem dX6_fields_18 : decode cX6_fields 18 = .ok (.aload_n 3, 1) := by decide +kernel
theorem dX6_fields_19 : decode cX6_fields 19 = .ok (.getfield 42, 3) := by decide +kernel
theorem dX6_fields_22 : decode cX6_fields 22 = .ok (.if_icmp .le 6, 3) := by decide +kernel
theorem dX6_fields_25 : decode cX6_fields 25 = .ok (.ldc 45, 2) := by decide +kernel
theorem dX6_fields_27 : decode cX6_fields 27 = .ok (.ireturn, 1) := by decide +kernel
theorem dX6_fields_28 : decode cX6_fields 28 = .ok (.aload_n 3, 1) := by decide +kernel
theorem dX6_fields_29 : decode cX6_fields 29 = .ok (.iload_n 2, 1) := by decide +kernel
theorem dX6_fields_30 : decode cX6_fields 30 = .ok (.invokevirtual 46, 3) := by decide +kernel
theorem dX6_fields_33 : decode cX6_fields 33 = .ok (.ireturn, 1) := by decide +kernel
set_option maxRecDepth 20000 in
theorem ggX6_stage_X6_historyOf : GoodIn wsX6_stage wsX6_historyOf := goodIn_r _ [7, 8, 9, 35, 36, 37, 38, 39] (by decide +kernel) (by decide +kernel)
set_option maxRecDepth 20000 in
theorem gX6_stage_X6_historyOf : GoodIn wsX6_stage (wsV RX6 37 RX6 yX6_historyOf wsX6_historyOf) := goodIn_app (goodIn_of _ (by decide +kernel)) ggX6_stage_X6_historyOf
set_option maxRecDepth 20000 in
theorem ggX6_stage_X1_beginStaged : GoodIn wsX6_stage wsX1_beginStaged := goodIn_r _ [14, 15, 16, 17, 18, 19, 20, 21, 22, 13, 23, 24, 25, 26, 27, 28, 29, 30, 31, 32, 33, 34, 40, 41] (by decide +kernel) (by decide +kernel)
set_option maxRecDepth 20000 in
theorem gX6_stage_X1_beginStaged : GoodIn wsX6_stage (wsV RX6 55 RX1 yX1_beginStaged wsX1_beginStaged) := goodIn_app (goodIn_of _ (by decide +kernel)) ggX6_stage_X1_beginStaged
theorem dX6_stage_0 : decode cX6_stage 0 = .ok (.aload_n 0, 1) := by decide +kernel
theorem dX6_stage_1 : decode cX6_stage 1 = .ok (.iload_n 1, 1) := by decide +kernel
theorem dX6_stage_2 : decode cX6_stage 2 = .ok (.invokevirtual 37, 3) := by decide +kernel
theorem dX6_stage_5 : decode cX6_stage 5 = .ok (.astore_n 2, 1) := by decide +kernel
theorem dX6_stage_6 : decode cX6_stage 6 = .ok (.aload_n 2, 1) := by decide +kernel
theorem dX6_stage_7 : decode cX6_stage 7 = .ok (.ifnonnull 6, 3) := by decide +kernel
theorem dX6_stage_10 : decode cX6_stage 10 = .ok (.ldc 41, 2) := by decide +kernel
theorem dX6_stage_12 : decode cX6_stage 12 = .ok (.ireturn, 1) := by decide +kernel
theorem dX6_stage_13 : decode cX6_stage 13 = .ok (.aload_n 2, 1) := by decide +kernel
theorem dX6_stage_14 : decode cX6_stage 14 = .ok (.getfield 50, 3) := by decide +kernel
theorem dX6_stage_17 : decode cX6_stage 17 = .ok (.ifCond .eq 6, 3) := by decide +kernel
theorem dX6_stage_20 : decode cX6_stage 20 = .ok (.ldc 54, 2) := by decide +kernel
theorem dX6_stage_22 : decode cX6_stage 22 = .ok (.ireturn, 1) := by decide +kernel
theorem dX6_stage_23 : decode cX6_stage 23 = .ok (.aload_n 2, 1) := by decide +kernel
theorem dX6_stage_24 : decode cX6_stage 24 = .ok (.invokevirtual 55, 3) := by decide +kernel
theorem dX6_stage_27 : decode cX6_stage 27 = .ok (.ireturn, 1) := by decide +kernel
set_option maxRecDepth 20000 in
theorem ggX6_stagedFields_X6_historyOf : GoodIn wsX6_stagedFields wsX6_historyOf := goodIn_r _ [7, 8, 9, 26, 27, 28, 29, 30] (by decide +kernel) (by decide +kernel)
set_option maxRecDepth 20000 in
theorem gX6_stagedFields_X6_historyOf : GoodIn wsX6_stagedFields (wsV RX6 37 RX6 yX6_historyOf wsX6_historyOf) := goodIn_app (goodIn_of _ (by decide +kernel)) ggX6_stagedFields_X6_historyOf
set_option maxRecDepth 20000 in
theorem ggX6_stagedFields_X1_stagedSet : GoodIn wsX6_stagedFields wsX1_stagedSet := goodIn_r _ [14, 15, 16, 17, 18, 13, 19, 20, 21, 22, 23, 24, 25] (by decide +kernel) (by decide +kernel)
set_option maxRecDepth 20000 in
theorem gX6_stagedFields_X1_stagedSet : GoodIn wsX6_stagedFields (wsV RX6 60 RX1 yX1_stagedSet wsX1_stagedSet) := goodIn_app (goodIn_of _ (by decide +kernel)) ggX6_stagedFields_X1_stagedSet
theorem dX6_stagedFields_0 : decode cX6_stagedFields 0 = .ok (.aload_n 0, 1) := by decide +kernel
theorem dX6_stagedFields_1 : decode cX6_stagedFields 1 = .ok (.iload_n 1, 1) := by decide +kernel
theorem dX6_stagedFields_2 : decode cX6_stagedFields 2 = .ok (.invokevirtual 37, 3) := by decide +kernel
theorem dX6_stagedFields_5 : decode cX6_stagedFields 5 = .ok (.astore_n 2, 1) := by decide +kernel
theorem dX6_stagedFields_6 : decode cX6_stagedFields 6 = .ok (.aload_n 2, 1) := by decide +kernel
theorem dX6_stagedFields_7 : decode cX6_stagedFields 7 = .ok (.ifnonnull 6, 3) := by decide +kernel
theorem dX6_stagedFields_10 : decode cX6_stagedFields 10 = .ok (.ldc 41, 2) := by decide +kernel
theorem dX6_stagedFields_12 : decode cX6_stagedFields 12 = .ok (.ireturn, 1) := by decide +kernel
theorem dX6_stagedFields_13 : decode cX6_stagedFields 13 = .ok (.aload_n 2, 1) := by decide +kernel
theorem dX6_stagedFields_14 : decode cX6_stagedFields 14 = .ok (.getfield 50, 3) := by decide +kernel
theorem dX6_stagedFields_17 : decode cX6_stagedFields 17 = .ok (.ifCond .ne 6, 3) := by decide +kernel
theorem dX6_stagedFields_20 : decode cX6_stagedFields 20 = .ok (.ldc 59, 2) := by decide +kernel
theorem dX6_stagedFields_22 : decode cX6_stagedFields 22 = .ok (.ireturn, 1) := by decide +kernel
theorem dX6_stagedFields_23 : decode cX6_stagedFields 23 = .ok (.aload_n 2, 1) := by decide +kernel
theorem dX6_stagedFields_24 : decode cX6_stagedFields 24 = .ok (.invokevirtual 60, 3) := by decide +kernel
theorem dX6_stagedFields_27 : decode cX6_stagedFields 27 = .ok (.ireturn, 1) := by decide +kernel
set_option maxRecDepth 20000 in
theorem ggX6_addField_X6_historyOf : GoodIn wsX6_addField wsX6_historyOf := goodIn_r _ [9, 10, 11, 78, 79, 80, 81, 82] (by decide +kernel) (by decide +kernel)
set_option maxRecDepth 20000 in
theorem gX6_addField_X6_historyOf : GoodIn wsX6_addField (wsV RX6 37 RX6 yX6_historyOf wsX6_historyOf) := goodIn_app (goodIn_of _ (by decide +kernel)) ggX6_addField_X6_historyOf
set_option maxRecDepth 20000 in
theorem ggX6_addField_X6_isField : GoodIn wsX6_addField wsX6_isField := goodIn_r _ [14] (by decide +kernel) (by decide +kernel)
set_option maxRecDepth 20000 in
theorem gX6_addField_X6_isField : GoodIn wsX6_addField (va_wsS RX6 63 yX6_isField wsX6_isField) := goodIn_app (goodIn_of _ (by decide +kernel)) ggX6_addField_X6_isField
set_option maxRecDepth 20000 in
theorem ggX6_addField_X6_isValue : GoodIn wsX6_addField wsX6_isValue := goodIn_r _ [17, 18, 19] (by decide +kernel) (by decide +kernel)
set_option maxRecDepth 20000 in
theorem gX6_addField_X6_isValue : GoodIn wsX6_addField (va_wsS RX6 67 yX6_isValue wsX6_isValue) := goodIn_app (goodIn_of _ (by decide +kernel)) ggX6_addField_X6_isValue
set_option maxRecDepth 20000 in
theorem ggX6_addField_X1_stagedSet : GoodIn wsX6_addField wsX1_stagedSet := goodIn_r _ [24, 25, 26, 27, 28, 23, 29, 30, 73, 74, 75, 76, 77] (by decide +kernel) (by decide +kernel)
set_option maxRecDepth 20000 in
theorem gX6_addField_X1_stagedSet : GoodIn wsX6_addField (wsV RX6 60 RX1 yX1_stagedSet wsX1_stagedSet) := goodIn_app (goodIn_of _ (by decide +kernel)) ggX6_addField_X1_stagedSet
set_option maxRecDepth 20000 in
theorem ggX6_addField_X6_contains : GoodIn wsX6_addField wsX6_contains := goodIn_r _ [33, 12, 13, 8, 14] (by decide +kernel) (by decide +kernel)
set_option maxRecDepth 20000 in
theorem gX6_addField_X6_contains : GoodIn wsX6_addField (va_wsS RX6 71 yX6_contains wsX6_contains) := goodIn_app (goodIn_of _ (by decide +kernel)) ggX6_addField_X6_contains
set_option maxRecDepth 20000 in
theorem ggX6_addField_X1_append : GoodIn wsX6_addField wsX1_append := goodIn_r _ [37, 38, 25, 39, 40, 41, 42, 30, 43, 44, 45, 23, 46, 47, 48, 49, 50, 51, 52, 53, 54, 55, 56, 57, 58, 59, 60, 61, 62, 63, 64, 65, 66, 67, 68, 69, 70, 71, 72, 73, 74, 75, 76, 77, 83, 84, 85, 86, 87] (by decide +kernel) (by decide +kernel)
set_option maxRecDepth 20000 in
theorem gX6_addField_X1_append : GoodIn wsX6_addField (wsV RX6 77 RX1 yX1_append wsX1_append) := goodIn_app (goodIn_of _ (by decide +kernel)) ggX6_addField_X1_append
theorem dX6_addField_0 : decode cX6_addField 0 = .ok (.aload_n 0, 1) := by decide +kernel
theorem dX6_addField_1 : decode cX6_addField 1 = .ok (.iload_n 1, 1) := by decide +kernel
theorem dX6_addField_2 : decode cX6_addField 2 = .ok (.invokevirtual 37, 3) := by decide +kernel
theorem dX6_addField_5 : decode cX6_addField 5 = .ok (.astore 4, 2) := by decide +kernel
theorem dX6_addField_7 : decode cX6_addField 7 = .ok (.aload 4, 2) := by decide +kernel
theorem dX6_addField_9 : decode cX6_addField 9 = .ok (.ifnonnull 6, 3) := by decide +kernel
theorem dX6_addField_12 : decode cX6_addField 12 = .ok (.ldc 41, 2) := by decide +kernel
theorem dX6_addField_14 : decode cX6_addField 14 = .ok (.ireturn, 1) := by decide +kernel
theorem dX6_addField_15 : decode cX6_addField 15 = .ok (.aload 4, 2) := by decide +kernel
theorem dX6_addField_17 : decode cX6_addField 17 = .ok (.getfield 50, 3) := by decide +kernel
theorem dX6_addField_20 : decode cX6_addField 20 = .ok (.ifCond .ne 6, 3) := by decide +kernel
theorem dX6_addField_23 : decode cX6_addField 23 = .ok (.ldc 59, 2) := by decide +kernel
theorem dX6_addField_25 : decode cX6_addField 25 = .ok (.ireturn, 1) := by decide +kernel
theorem dX6_addField_26 : decode cX6_addField 26 = .ok (.iload_n 2, 1) := by decide +kernel
theorem dX6_addField_27 : decode cX6_addField 27 = .ok (.invokestatic 63, 3) := by decide +kernel
theorem dX6_addField_30 : decode cX6_addField 30 = .ok (.ifCond .eq 11, 3) := by decide +kernel
theorem dX6_addField_33 : decode cX6_addField 33 = .ok (.iload_n 3, 1) := by decide +kernel
theorem dX6_addField_34 : decode cX6_addField 34 = .ok (.i2l, 1) := by decide +kernel
theorem dX6_addField_35 : decode cX6_addField 35 = .ok (.invokestatic 67, 3) := by decide +kernel
theorem dX6_addField_38 : decode cX6_addField 38 = .ok (.ifCond .ne 6, 3) := by decide +kernel
theorem dX6_addField_41 : decode cX6_addField 41 = .ok (.ldc 28, 2) := by decide +kernel
theorem dX6_addField_43 : decode cX6_addField 43 = .ok (.ireturn, 1) := by decide +kernel
theorem dX6_addField_44 : decode cX6_addField 44 = .ok (.aload 4, 2) := by decide +kernel
theorem dX6_addField_46 : decode cX6_addField 46 = .ok (.invokevirtual 60, 3) := by decide +kernel
theorem dX6_addField_49 : decode cX6_addField 49 = .ok (.iload_n 2, 1) := by decide +kernel
theorem dX6_addField_50 : decode cX6_addField 50 = .ok (.invokestatic 71, 3) := by decide +kernel
theorem dX6_addField_53 : decode cX6_addField 53 = .ok (.ifCond .eq 6, 3) := by decide +kernel
theorem dX6_addField_56 : decode cX6_addField 56 = .ok (.ldc 54, 2) := by decide +kernel
theorem dX6_addField_58 : decode cX6_addField 58 = .ok (.ireturn, 1) := by decide +kernel
theorem dX6_addField_59 : decode cX6_addField 59 = .ok (.aload 4, 2) := by decide +kernel
theorem dX6_addField_61 : decode cX6_addField 61 = .ok (.iconst 0, 1) := by decide +kernel
theorem dX6_addField_62 : decode cX6_addField 62 = .ok (.iload_n 2, 1) := by decide +kernel
theorem dX6_addField_63 : decode cX6_addField 63 = .ok (.iload_n 3, 1) := by decide +kernel
theorem dX6_addField_64 : decode cX6_addField 64 = .ok (.invokevirtual 77, 3) := by decide +kernel
theorem dX6_addField_67 : decode cX6_addField 67 = .ok (.ireturn, 1) := by decide +kernel
set_option maxRecDepth 20000 in
theorem ggX6_dropField_X6_historyOf : GoodIn wsX6_dropField wsX6_historyOf := goodIn_r _ [8, 9, 10, 72, 73, 74, 75, 76] (by decide +kernel) (by decide +kernel)
set_option maxRecDepth 20000 in
theorem gX6_dropField_X6_historyOf : GoodIn wsX6_dropField (wsV RX6 37 RX6 yX6_historyOf wsX6_historyOf) := goodIn_app (goodIn_of _ (by decide +kernel)) ggX6_dropField_X6_historyOf
set_option maxRecDepth 20000 in
theorem ggX6_dropField_X1_stagedSet : GoodIn wsX6_dropField wsX1_stagedSet := goodIn_r _ [15, 16, 17, 18, 19, 14, 20, 21, 67, 68, 69, 70, 71] (by decide +kernel) (by decide +kernel)
set_option maxRecDepth 20000 in
theorem gX6_dropField_X1_stagedSet : GoodIn wsX6_dropField (wsV RX6 60 RX1 yX1_stagedSet wsX1_stagedSet) := goodIn_app (goodIn_of _ (by decide +kernel)) ggX6_dropField_X1_stagedSet
set_option maxRecDepth 20000 in
theorem ggX6_dropField_X6_contains : GoodIn wsX6_dropField wsX6_contains := goodIn_r _ [24, 25, 26, 7, 27] (by decide +kernel) (by decide +kernel)
set_option maxRecDepth 20000 in
theorem gX6_dropField_X6_contains : GoodIn wsX6_dropField (va_wsS RX6 71 yX6_contains wsX6_contains) := goodIn_app (goodIn_of _ (by decide +kernel)) ggX6_dropField_X6_contains
set_option maxRecDepth 20000 in
theorem ggX6_dropField_X1_append : GoodIn wsX6_dropField wsX1_append := goodIn_r _ [31, 32, 16, 33, 34, 35, 36, 21, 37, 38, 39, 14, 40, 41, 42, 43, 44, 45, 46, 47, 48, 49, 50, 51, 52, 53, 54, 55, 56, 57, 58, 59, 60, 61, 62, 63, 64, 65, 66, 67, 68, 69, 70, 71, 77, 78, 79, 80, 81] (by decide +kernel) (by decide +kernel)
set_option maxRecDepth 20000 in
theorem gX6_dropField_X1_append : GoodIn wsX6_dropField (wsV RX6 77 RX1 yX1_append wsX1_append) := goodIn_app (goodIn_of _ (by decide +kernel)) ggX6_dropField_X1_append
theorem dX6_dropField_0 : decode cX6_dropField 0 = .ok (.aload_n 0, 1) := by decide +kernel
theorem dX6_dropField_1 : decode cX6_dropField 1 = .ok (.iload_n 1, 1) := by decide +kernel
theorem dX6_dropField_2 : decode cX6_dropField 2 = .ok (.invokevirtual 37, 3) := by decide +kernel
theorem dX6_dropField_5 : decode cX6_dropField 5 = .ok (.astore_n 3, 1) := by decide +kernel
theorem dX6_dropField_6 : decode cX6_dropField 6 = .ok (.aload_n 3, 1) := by decide +kernel
theorem dX6_dropField_7 : decode cX6_dropField 7 = .ok (.ifnonnull 6, 3) := by decide +kernel
theorem dX6_dropField_10 : decode cX6_dropField 10 = .ok (.ldc 41, 2) := by decide +kernel
theorem dX6_dropField_12 : decode cX6_dropField 12 = .ok (.ireturn, 1) := by decide +kernel
theorem dX6_dropField_13 : decode cX6_dropField 13 = .ok (.aload_n 3, 1) := by decide +kernel
theorem dX6_dropField_14 : decode cX6_dropField 14 = .ok (.getfield 50, 3) := by decide +kernel
theorem dX6_dropField_17 : decode cX6_dropField 17 = .ok (.ifCond .ne 6, 3) := by decide +kernel
theorem dX6_dropField_20 : decode cX6_dropField 20 = .ok (.ldc 59, 2) := by decide +kernel
theorem dX6_dropField_22 : decode cX6_dropField 22 = .ok (.ireturn, 1) := by decide +kernel
theorem dX6_dropField_23 : decode cX6_dropField 23 = .ok (.aload_n 3, 1) := by decide +kernel
theorem dX6_dropField_24 : decode cX6_dropField 24 = .ok (.invokevirtual 60, 3) := by decide +kernel
theorem dX6_dropField_27 : decode cX6_dropField 27 = .ok (.iload_n 2, 1) := by decide +kernel
theorem dX6_dropField_28 : decode cX6_dropField 28 = .ok (.invokestatic 71, 3) := by decide +kernel
theorem dX6_dropField_31 : decode cX6_dropField 31 = .ok (.ifCond .ne 6, 3) := by decide +kernel
theorem dX6_dropField_34 : decode cX6_dropField 34 = .ok (.ldc 81, 2) := by decide +kernel
theorem dX6_dropField_36 : decode cX6_dropField 36 = .ok (.ireturn, 1) := by decide +kernel
theorem dX6_dropField_37 : decode cX6_dropField 37 = .ok (.aload_n 3, 1) := by decide +kernel
theorem dX6_dropField_38 : decode cX6_dropField 38 = .ok (.iconst 1, 1) := by decide +kernel
theorem dX6_dropField_39 : decode cX6_dropField 39 = .ok (.iload_n 2, 1) := by decide +kernel
theorem dX6_dropField_40 : decode cX6_dropField 40 = .ok (.iconst 0, 1) := by decide +kernel
theorem dX6_dropField_41 : decode cX6_dropField 41 = .ok (.invokevirtual 77, 3) := by decide +kernel
theorem dX6_dropField_44 : decode cX6_dropField 44 = .ok (.ireturn, 1) := by decide +kernel
set_option maxRecDepth 20000 in
theorem ggX6_renameField_X6_historyOf : GoodIn wsX6_renameField wsX6_historyOf := goodIn_r _ [10, 11, 12, 74, 75, 76, 77, 78] (by decide +kernel) (by decide +kernel)
set_option maxRecDepth 20000 in
theorem gX6_renameField_X6_historyOf : GoodIn wsX6_renameField (wsV RX6 37 RX6 yX6_historyOf wsX6_historyOf) := goodIn_app (goodIn_of _ (by decide +kernel)) ggX6_renameField_X6_historyOf
set_option maxRecDepth 20000 in
theorem ggX6_renameField_X1_stagedSet : GoodIn wsX6_renameField wsX1_stagedSet := goodIn_r _ [17, 18, 19, 20, 21, 16, 22, 23, 69, 70, 71, 72, 73] (by decide +kernel) (by decide +kernel)
set_option maxRecDepth 20000 in
theorem gX6_renameField_X1_stagedSet : GoodIn wsX6_renameField (wsV RX6 60 RX1 yX1_stagedSet wsX1_stagedSet) := goodIn_app (goodIn_of _ (by decide +kernel)) ggX6_renameField_X1_stagedSet
set_option maxRecDepth 20000 in
theorem ggX6_renameField_X6_contains : GoodIn wsX6_renameField wsX6_contains := goodIn_r _ [26, 27, 28, 9, 29] (by decide +kernel) (by decide +kernel)
set_option maxRecDepth 20000 in
theorem gX6_renameField_X6_contains : GoodIn wsX6_renameField (va_wsS RX6 71 yX6_contains wsX6_contains) := goodIn_app (goodIn_of _ (by decide +kernel)) ggX6_renameField_X6_contains
set_option maxRecDepth 20000 in
theorem ggX6_renameField_X6_isField : GoodIn wsX6_renameField wsX6_isField := goodIn_r _ [29] (by decide +kernel) (by decide +kernel)
set_option maxRecDepth 20000 in
theorem gX6_renameField_X6_isField : GoodIn wsX6_renameField (va_wsS RX6 63 yX6_isField wsX6_isField) := goodIn_app (goodIn_of _ (by decide +kernel)) ggX6_renameField_X6_isField
set_option maxRecDepth 20000 in
theorem ggX6_renameField_X1_append : GoodIn wsX6_renameField wsX1_append := goodIn_r _ [33, 34, 18, 35, 36, 37, 38, 23, 39, 40, 41, 16, 42, 43, 44, 45, 46, 47, 48, 49, 50, 51, 52, 53, 54, 55, 56, 57, 58, 59, 60, 61, 62, 63, 64, 65, 66, 67, 68, 69, 70, 71, 72, 73, 79, 80, 81, 82, 83] (by decide +kernel) (by decide +kernel)
set_option maxRecDepth 20000 in
theorem gX6_renameField_X1_append : GoodIn wsX6_renameField (wsV RX6 77 RX1 yX1_append wsX1_append) := goodIn_app (goodIn_of _ (by decide +kernel)) ggX6_renameField_X1_append
theorem dX6_renameField_0 : decode cX6_renameField 0 = .ok (.aload_n 0, 1) := by decide +kernel
theorem dX6_renameField_1 : decode cX6_renameField 1 = .ok (.iload_n 1, 1) := by decide +kernel
theorem dX6_renameField_2 : decode cX6_renameField 2 = .ok (.invokevirtual 37, 3) := by decide +kernel
theorem dX6_renameField_5 : decode cX6_renameField 5 = .ok (.astore 4, 2) := by decide +kernel
theorem dX6_renameField_7 : decode cX6_renameField 7 = .ok (.aload 4, 2) := by decide +kernel
theorem dX6_renameField_9 : decode cX6_renameField 9 = .ok (.ifnonnull 6, 3) := by decide +kernel
theorem dX6_renameField_12 : decode cX6_renameField 12 = .ok (.ldc 41, 2) := by decide +kernel
theorem dX6_renameField_14 : decode cX6_renameField 14 = .ok (.ireturn, 1) := by decide +kernel
theorem dX6_renameField_15 : decode cX6_renameField 15 = .ok (.aload 4, 2) := by decide +kernel
theorem dX6_renameField_17 : decode cX6_renameField 17 = .ok (.getfield 50, 3) := by decide +kernel
theorem dX6_renameField_20 : decode cX6_renameField 20 = .ok (.ifCond .ne 6, 3) := by decide +kernel
theorem dX6_renameField_23 : decode cX6_renameField 23 = .ok (.ldc 59, 2) := by decide +kernel
theorem dX6_renameField_25 : decode cX6_renameField 25 = .ok (.ireturn, 1) := by decide +kernel
theorem dX6_renameField_26 : decode cX6_renameField 26 = .ok (.aload 4, 2) := by decide +kernel
theorem dX6_renameField_28 : decode cX6_renameField 28 = .ok (.invokevirtual 60, 3) := by decide +kernel
theorem dX6_renameField_31 : decode cX6_renameField 31 = .ok (.iload_n 2, 1) := by decide +kernel
theorem dX6_renameField_32 : decode cX6_renameField 32 = .ok (.invokestatic 71, 3) := by decide +kernel
theorem dX6_renameField_35 : decode cX6_renameField 35 = .ok (.ifCond .ne 6, 3) := by decide +kernel
theorem dX6_renameField_38 : decode cX6_renameField 38 = .ok (.ldc 81, 2) := by decide +kernel
theorem dX6_renameField_40 : decode cX6_renameField 40 = .ok (.ireturn, 1) := by decide +kernel
theorem dX6_renameField_41 : decode cX6_renameField 41 = .ok (.iload_n 3, 1) := by decide +kernel
theorem dX6_renameField_42 : decode cX6_renameField 42 = .ok (.invokestatic 63, 3) := by decide +kernel
theorem dX6_renameField_45 : decode cX6_renameField 45 = .ok (.ifCond .ne 6, 3) := by decide +kernel
theorem dX6_renameField_48 : decode cX6_renameField 48 = .ok (.ldc 28, 2) := by decide +kernel
theorem dX6_renameField_50 : decode cX6_renameField 50 = .ok (.ireturn, 1) := by decide +kernel
theorem dX6_renameField_51 : decode cX6_renameField 51 = .ok (.aload 4, 2) := by decide +kernel
theorem dX6_renameField_53 : decode cX6_renameField 53 = .ok (.invokevirtual 60, 3) := by decide +kernel
theorem dX6_renameField_56 : decode cX6_renameField 56 = .ok (.iload_n 3, 1) := by decide +kernel
theorem dX6_renameField_57 : decode cX6_renameField 57 = .ok (.invokestatic 71, 3) := by decide +kernel
theorem dX6_renameField_60 : decode cX6_renameField 60 = .ok (.ifCond .eq 6, 3) := by decide +kernel
theorem dX6_renameField_63 : decode cX6_renameField 63 = .ok (.ldc 54, 2) := by decide +kernel
theorem dX6_renameField_65 : decode cX6_renameField 65 = .ok (.ireturn, 1) := by decide +kernel
theorem dX6_renameField_66 : decode cX6_renameField 66 = .ok (.aload 4, 2) := by decide +kernel
theorem dX6_renameField_68 : decode cX6_renameField 68 = .ok (.iconst 2, 1) := by decide +kernel
theorem dX6_renameField_69 : decode cX6_renameField 69 = .ok (.iload_n 2, 1) := by decide +kernel
theorem dX6_renameField_70 : decode cX6_renameField 70 = .ok (.iload_n 3, 1) := by decide +kernel
theorem dX6_renameField_71 : decode cX6_renameField 71 = .ok (.invokevirtual 77, 3) := by decide +kernel
theorem dX6_renameField_74 : decode cX6_renameField 74 = .ok (.ireturn, 1) := by decide +kernel
set_option maxRecDepth 20000 in
theorem ggX6_scaleField_X6_historyOf : GoodIn wsX6_scaleField wsX6_historyOf := goodIn_r _ [11, 12, 13, 75, 76, 77, 78, 79] (by decide +kernel) (by decide +kernel)
set_option maxRecDepth 20000 in
theorem gX6_scaleField_X6_historyOf : GoodIn wsX6_scaleField (wsV RX6 37 RX6 yX6_historyOf wsX6_historyOf) := goodIn_app (goodIn_of _ (by decide +kernel)) ggX6_scaleField_X6_historyOf
set_option maxRecDepth 20000 in
theorem ggX6_scaleField_X1_stagedSet : GoodIn wsX6_scaleField wsX1_stagedSet := goodIn_r _ [18, 19, 20, 21, 22, 17, 23, 24, 70, 71, 72, 73, 74] (by decide +kernel) (by decide +kernel)
set_option maxRecDepth 20000 in
theorem gX6_scaleField_X1_stagedSet : GoodIn wsX6_scaleField (wsV RX6 60 RX1 yX1_stagedSet wsX1_stagedSet) := goodIn_app (goodIn_of _ (by decide +kernel)) ggX6_scaleField_X1_stagedSet
set_option maxRecDepth 20000 in
theorem ggX6_scaleField_X6_contains : GoodIn wsX6_scaleField wsX6_contains := goodIn_r _ [27, 28, 29, 10, 30] (by decide +kernel) (by decide +kernel)
set_option maxRecDepth 20000 in
theorem gX6_scaleField_X6_contains : GoodIn wsX6_scaleField (va_wsS RX6 71 yX6_contains wsX6_contains) := goodIn_app (goodIn_of _ (by decide +kernel)) ggX6_scaleField_X6_contains
set_option maxRecDepth 20000 in
theorem ggX6_scaleField_X1_append : GoodIn wsX6_scaleField wsX1_append := goodIn_r _ [34, 35, 19, 36, 37, 38, 39, 24, 40, 41, 42, 17, 43, 44, 45, 46, 47, 48, 49, 50, 51, 52, 53, 54, 55, 56, 57, 58, 59, 60, 61, 62, 63, 64, 65, 66, 67, 68, 69, 70, 71, 72, 73, 74, 80, 81, 82, 83, 84] (by decide +kernel) (by decide +kernel)
set_option maxRecDepth 20000 in
theorem gX6_scaleField_X1_append : GoodIn wsX6_scaleField (wsV RX6 77 RX1 yX1_append wsX1_append) := goodIn_app (goodIn_of _ (by decide +kernel)) ggX6_scaleField_X1_append
theorem dX6_scaleField_0 : decode cX6_scaleField 0 = .ok (.aload_n 0, 1) := by decide +kernel
theorem dX6_scaleField_1 : decode cX6_scaleField 1 = .ok (.iload_n 1, 1) := by decide +kernel
theorem dX6_scaleField_2 : decode cX6_scaleField 2 = .ok (.invokevirtual 37, 3) := by decide +kernel
theorem dX6_scaleField_5 : decode cX6_scaleField 5 = .ok (.astore 4, 2) := by decide +kernel
theorem dX6_scaleField_7 : decode cX6_scaleField 7 = .ok (.aload 4, 2) := by decide +kernel
theorem dX6_scaleField_9 : decode cX6_scaleField 9 = .ok (.ifnonnull 6, 3) := by decide +kernel
theorem dX6_scaleField_12 : decode cX6_scaleField 12 = .ok (.ldc 41, 2) := by decide +kernel
theorem dX6_scaleField_14 : decode cX6_scaleField 14 = .ok (.ireturn, 1) := by decide +kernel
theorem dX6_scaleField_15 : decode cX6_scaleField 15 = .ok (.aload 4, 2) := by decide +kernel
theorem dX6_scaleField_17 : decode cX6_scaleField 17 = .ok (.getfield 50, 3) := by decide +kernel
theorem dX6_scaleField_20 : decode cX6_scaleField 20 = .ok (.ifCond .ne 6, 3) := by decide +kernel
theorem dX6_scaleField_23 : decode cX6_scaleField 23 = .ok (.ldc 59, 2) := by decide +kernel
theorem dX6_scaleField_25 : decode cX6_scaleField 25 = .ok (.ireturn, 1) := by decide +kernel
theorem dX6_scaleField_26 : decode cX6_scaleField 26 = .ok (.aload 4, 2) := by decide +kernel
theorem dX6_scaleField_28 : decode cX6_scaleField 28 = .ok (.invokevirtual 60, 3) := by decide +kernel
theorem dX6_scaleField_31 : decode cX6_scaleField 31 = .ok (.iload_n 2, 1) := by decide +kernel
theorem dX6_scaleField_32 : decode cX6_scaleField 32 = .ok (.invokestatic 71, 3) := by decide +kernel
theorem dX6_scaleField_35 : decode cX6_scaleField 35 = .ok (.ifCond .ne 6, 3) := by decide +kernel
theorem dX6_scaleField_38 : decode cX6_scaleField 38 = .ok (.ldc 81, 2) := by decide +kernel
theorem dX6_scaleField_40 : decode cX6_scaleField 40 = .ok (.ireturn, 1) := by decide +kernel
theorem dX6_scaleField_41 : decode cX6_scaleField 41 = .ok (.iload_n 3, 1) := by decide +kernel
theorem dX6_scaleField_42 : decode cX6_scaleField 42 = .ok (.ldc 82, 2) := by decide +kernel
theorem dX6_scaleField_44 : decode cX6_scaleField 44 = .ok (.if_icmp .lt 9, 3) := by decide +kernel
theorem dX6_scaleField_47 : decode cX6_scaleField 47 = .ok (.iload_n 3, 1) := by decide +kernel
theorem dX6_scaleField_48 : decode cX6_scaleField 48 = .ok (.ldc 83, 2) := by decide +kernel
theorem dX6_scaleField_50 : decode cX6_scaleField 50 = .ok (.if_icmp .le 6, 3) := by decide +kernel
theorem dX6_scaleField_53 : decode cX6_scaleField 53 = .ok (.ldc 28, 2) := by decide +kernel
theorem dX6_scaleField_55 : decode cX6_scaleField 55 = .ok (.ireturn, 1) := by decide +kernel
theorem dX6_scaleField_56 : decode cX6_scaleField 56 = .ok (.aload 4, 2) := by decide +kernel
theorem dX6_scaleField_58 : decode cX6_scaleField 58 = .ok (.iconst 3, 1) := by decide +kernel
theorem dX6_scaleField_59 : decode cX6_scaleField 59 = .ok (.iload_n 2, 1) := by decide +kernel
theorem dX6_scaleField_60 : decode cX6_scaleField 60 = .ok (.iload_n 3, 1) := by decide +kernel
theorem dX6_scaleField_61 : decode cX6_scaleField 61 = .ok (.invokevirtual 77, 3) := by decide +kernel
theorem dX6_scaleField_64 : decode cX6_scaleField 64 = .ok (.ireturn, 1) := by decide +kernel
set_option maxRecDepth 20000 in
theorem ggX6_mergeField_X6_historyOf : GoodIn wsX6_mergeField wsX6_historyOf := goodIn_r _ [9, 10, 11, 73, 74, 75, 76, 77] (by decide +kernel) (by decide +kernel)
set_option maxRecDepth 20000 in
theorem gX6_mergeField_X6_historyOf : GoodIn wsX6_mergeField (wsV RX6 37 RX6 yX6_historyOf wsX6_historyOf) := goodIn_app (goodIn_of _ (by decide +kernel)) ggX6_mergeField_X6_historyOf
set_option maxRecDepth 20000 in
theorem ggX6_mergeField_X1_stagedSet : GoodIn wsX6_mergeField wsX1_stagedSet := goodIn_r _ [16, 17, 18, 19, 20, 15, 21, 22, 68, 69, 70, 71, 72] (by decide +kernel) (by decide +kernel)
set_option maxRecDepth 20000 in
theorem gX6_mergeField_X1_stagedSet : GoodIn wsX6_mergeField (wsV RX6 60 RX1 yX1_stagedSet wsX1_stagedSet) := goodIn_app (goodIn_of _ (by decide +kernel)) ggX6_mergeField_X1_stagedSet
set_option maxRecDepth 20000 in
theorem ggX6_mergeField_X6_contains : GoodIn wsX6_mergeField wsX6_contains := goodIn_r _ [25, 26, 27, 8, 28] (by decide +kernel) (by decide +kernel)
set_option maxRecDepth 20000 in
theorem gX6_mergeField_X6_contains : GoodIn wsX6_mergeField (va_wsS RX6 71 yX6_contains wsX6_contains) := goodIn_app (goodIn_of _ (by decide +kernel)) ggX6_mergeField_X6_contains
set_option maxRecDepth 20000 in
theorem ggX6_mergeField_X1_append : GoodIn wsX6_mergeField wsX1_append := goodIn_r _ [32, 33, 17, 34, 35, 36, 37, 22, 38, 39, 40, 15, 41, 42, 43, 44, 45, 46, 47, 48, 49, 50, 51, 52, 53, 54, 55, 56, 57, 58, 59, 60, 61, 62, 63, 64, 65, 66, 67, 68, 69, 70, 71, 72, 78, 79, 80, 81, 82] (by decide +kernel) (by decide +kernel)
set_option maxRecDepth 20000 in
theorem gX6_mergeField_X1_append : GoodIn wsX6_mergeField (wsV RX6 77 RX1 yX1_append wsX1_append) := goodIn_app (goodIn_of _ (by decide +kernel)) ggX6_mergeField_X1_append
theorem dX6_mergeField_0 : decode cX6_mergeField 0 = .ok (.aload_n 0, 1) := by decide +kernel
theorem dX6_mergeField_1 : decode cX6_mergeField 1 = .ok (.iload_n 1, 1) := by decide +kernel
theorem dX6_mergeField_2 : decode cX6_mergeField 2 = .ok (.invokevirtual 37, 3) := by decide +kernel
theorem dX6_mergeField_5 : decode cX6_mergeField 5 = .ok (.astore 4, 2) := by decide +kernel
theorem dX6_mergeField_7 : decode cX6_mergeField 7 = .ok (.aload 4, 2) := by decide +kernel
theorem dX6_mergeField_9 : decode cX6_mergeField 9 = .ok (.ifnonnull 6, 3) := by decide +kernel
theorem dX6_mergeField_12 : decode cX6_mergeField 12 = .ok (.ldc 41, 2) := by decide +kernel
theorem dX6_mergeField_14 : decode cX6_mergeField 14 = .ok (.ireturn, 1) := by decide +kernel
theorem dX6_mergeField_15 : decode cX6_mergeField 15 = .ok (.aload 4, 2) := by decide +kernel
theorem dX6_mergeField_17 : decode cX6_mergeField 17 = .ok (.getfield 50, 3) := by decide +kernel
theorem dX6_mergeField_20 : decode cX6_mergeField 20 = .ok (.ifCond .ne 6, 3) := by decide +kernel
theorem dX6_mergeField_23 : decode cX6_mergeField 23 = .ok (.ldc 59, 2) := by decide +kernel
theorem dX6_mergeField_25 : decode cX6_mergeField 25 = .ok (.ireturn, 1) := by decide +kernel
theorem dX6_mergeField_26 : decode cX6_mergeField 26 = .ok (.aload 4, 2) := by decide +kernel
theorem dX6_mergeField_28 : decode cX6_mergeField 28 = .ok (.invokevirtual 60, 3) := by decide +kernel
theorem dX6_mergeField_31 : decode cX6_mergeField 31 = .ok (.iload_n 2, 1) := by decide +kernel
theorem dX6_mergeField_32 : decode cX6_mergeField 32 = .ok (.invokestatic 71, 3) := by decide +kernel
theorem dX6_mergeField_35 : decode cX6_mergeField 35 = .ok (.ifCond .eq 15, 3) := by decide +kernel
theorem dX6_mergeField_38 : decode cX6_mergeField 38 = .ok (.aload 4, 2) := by decide +kernel
theorem dX6_mergeField_40 : decode cX6_mergeField 40 = .ok (.invokevirtual 60, 3) := by decide +kernel
theorem dX6_mergeField_43 : decode cX6_mergeField 43 = .ok (.iload_n 3, 1) := by decide +kernel
theorem dX6_mergeField_44 : decode cX6_mergeField 44 = .ok (.invokestatic 71, 3) := by decide +kernel
theorem dX6_mergeField_47 : decode cX6_mergeField 47 = .ok (.ifCond .ne 6, 3) := by decide +kernel
theorem dX6_mergeField_50 : decode cX6_mergeField 50 = .ok (.ldc 81, 2) := by decide +kernel
theorem dX6_mergeField_52 : decode cX6_mergeField 52 = .ok (.ireturn, 1) := by decide +kernel
theorem dX6_mergeField_53 : decode cX6_mergeField 53 = .ok (.iload_n 2, 1) := by decide +kernel
theorem dX6_mergeField_54 : decode cX6_mergeField 54 = .ok (.iload_n 3, 1) := by decide +kernel
theorem dX6_mergeField_55 : decode cX6_mergeField 55 = .ok (.if_icmp .ne 6, 3) := by decide +kernel
theorem dX6_mergeField_58 : decode cX6_mergeField 58 = .ok (.ldc 28, 2) := by decide +kernel
theorem dX6_mergeField_60 : decode cX6_mergeField 60 = .ok (.ireturn, 1) := by decide +kernel
theorem dX6_mergeField_61 : decode cX6_mergeField 61 = .ok (.aload 4, 2) := by decide +kernel
theorem dX6_mergeField_63 : decode cX6_mergeField 63 = .ok (.iconst 4, 1) := by decide +kernel
theorem dX6_mergeField_64 : decode cX6_mergeField 64 = .ok (.iload_n 2, 1) := by decide +kernel
theorem dX6_mergeField_65 : decode cX6_mergeField 65 = .ok (.iload_n 3, 1) := by decide +kernel
theorem dX6_mergeField_66 : decode cX6_mergeField 66 = .ok (.invokevirtual 77, 3) := by decide +kernel
theorem dX6_mergeField_69 : decode cX6_mergeField 69 = .ok (.ireturn, 1) := by decide +kernel
set_option maxRecDepth 20000 in
theorem ggX6_activate_X6_historyOf : GoodIn wsX6_activate wsX6_historyOf := goodIn_r _ [7, 8, 9, 26, 27, 28, 29, 30] (by decide +kernel) (by decide +kernel)
set_option maxRecDepth 20000 in
theorem gX6_activate_X6_historyOf : GoodIn wsX6_activate (wsV RX6 37 RX6 yX6_historyOf wsX6_historyOf) := goodIn_app (goodIn_of _ (by decide +kernel)) ggX6_activate_X6_historyOf
set_option maxRecDepth 20000 in
theorem ggX6_activate_X1_activateStaged : GoodIn wsX6_activate wsX1_activateStaged := goodIn_r _ [14, 15, 16, 17, 18, 19, 13, 20, 21, 22, 23, 24, 25] (by decide +kernel) (by decide +kernel)
set_option maxRecDepth 20000 in
theorem gX6_activate_X1_activateStaged : GoodIn wsX6_activate (wsV RX6 84 RX1 yX1_activateStaged wsX1_activateStaged) := goodIn_app (goodIn_of _ (by decide +kernel)) ggX6_activate_X1_activateStaged
theorem dX6_activate_0 : decode cX6_activate 0 = .ok (.aload_n 0, 1) := by decide +kernel
theorem dX6_activate_1 : decode cX6_activate 1 = .ok (.iload_n 1, 1) := by decide +kernel
theorem dX6_activate_2 : decode cX6_activate 2 = .ok (.invokevirtual 37, 3) := by decide +kernel
theorem dX6_activate_5 : decode cX6_activate 5 = .ok (.astore_n 2, 1) := by decide +kernel
theorem dX6_activate_6 : decode cX6_activate 6 = .ok (.aload_n 2, 1) := by decide +kernel
theorem dX6_activate_7 : decode cX6_activate 7 = .ok (.ifnonnull 6, 3) := by decide +kernel
theorem dX6_activate_10 : decode cX6_activate 10 = .ok (.ldc 41, 2) := by decide +kernel
theorem dX6_activate_12 : decode cX6_activate 12 = .ok (.ireturn, 1) := by decide +kernel
theorem dX6_activate_13 : decode cX6_activate 13 = .ok (.aload_n 2, 1) := by decide +kernel
theorem dX6_activate_14 : decode cX6_activate 14 = .ok (.getfield 50, 3) := by decide +kernel
theorem dX6_activate_17 : decode cX6_activate 17 = .ok (.ifCond .ne 6, 3) := by decide +kernel
theorem dX6_activate_20 : decode cX6_activate 20 = .ok (.ldc 59, 2) := by decide +kernel
theorem dX6_activate_22 : decode cX6_activate 22 = .ok (.ireturn, 1) := by decide +kernel
theorem dX6_activate_23 : decode cX6_activate 23 = .ok (.aload_n 2, 1) := by decide +kernel
theorem dX6_activate_24 : decode cX6_activate 24 = .ok (.invokevirtual 84, 3) := by decide +kernel
theorem dX6_activate_27 : decode cX6_activate 27 = .ok (.ireturn, 1) := by decide +kernel
set_option maxRecDepth 20000 in
theorem ggX6_discard_X6_historyOf : GoodIn wsX6_discard wsX6_historyOf := goodIn_r _ [7, 8, 9, 27, 28, 29, 30, 31] (by decide +kernel) (by decide +kernel)
set_option maxRecDepth 20000 in
theorem gX6_discard_X6_historyOf : GoodIn wsX6_discard (wsV RX6 37 RX6 yX6_historyOf wsX6_historyOf) := goodIn_app (goodIn_of _ (by decide +kernel)) ggX6_discard_X6_historyOf
set_option maxRecDepth 20000 in
theorem ggX6_discard_X1_discardStaged : GoodIn wsX6_discard wsX1_discardStaged := goodIn_r _ [14, 15, 16, 17, 18, 19, 20, 13, 21, 22, 23, 24, 25, 26, 32, 33] (by decide +kernel) (by decide +kernel)
set_option maxRecDepth 20000 in
theorem gX6_discard_X1_discardStaged : GoodIn wsX6_discard (wsV RX6 87 RX1 yX1_discardStaged wsX1_discardStaged) := goodIn_app (goodIn_of _ (by decide +kernel)) ggX6_discard_X1_discardStaged
theorem dX6_discard_0 : decode cX6_discard 0 = .ok (.aload_n 0, 1) := by decide +kernel
theorem dX6_discard_1 : decode cX6_discard 1 = .ok (.iload_n 1, 1) := by decide +kernel
theorem dX6_discard_2 : decode cX6_discard 2 = .ok (.invokevirtual 37, 3) := by decide +kernel
theorem dX6_discard_5 : decode cX6_discard 5 = .ok (.astore_n 2, 1) := by decide +kernel
theorem dX6_discard_6 : decode cX6_discard 6 = .ok (.aload_n 2, 1) := by decide +kernel
theorem dX6_discard_7 : decode cX6_discard 7 = .ok (.ifnonnull 6, 3) := by decide +kernel
theorem dX6_discard_10 : decode cX6_discard 10 = .ok (.ldc 41, 2) := by decide +kernel
theorem dX6_discard_12 : decode cX6_discard 12 = .ok (.ireturn, 1) := by decide +kernel
theorem dX6_discard_13 : decode cX6_discard 13 = .ok (.aload_n 2, 1) := by decide +kernel
theorem dX6_discard_14 : decode cX6_discard 14 = .ok (.getfield 50, 3) := by decide +kernel
theorem dX6_discard_17 : decode cX6_discard 17 = .ok (.ifCond .ne 6, 3) := by decide +kernel
theorem dX6_discard_20 : decode cX6_discard 20 = .ok (.ldc 59, 2) := by decide +kernel
theorem dX6_discard_22 : decode cX6_discard 22 = .ok (.ireturn, 1) := by decide +kernel
theorem dX6_discard_23 : decode cX6_discard 23 = .ok (.aload_n 2, 1) := by decide +kernel
theorem dX6_discard_24 : decode cX6_discard 24 = .ok (.invokevirtual 87, 3) := by decide +kernel
theorem dX6_discard_27 : decode cX6_discard 27 = .ok (.ireturn, 1) := by decide +kernel
set_option maxRecDepth 20000 in
theorem ggX6_rollback_X6_historyOf : GoodIn wsX6_rollback wsX6_historyOf := goodIn_r _ [8, 9, 10, 48, 49, 50, 51, 52] (by decide +kernel) (by decide +kernel)
set_option maxRecDepth 20000 in
theorem gX6_rollback_X6_historyOf : GoodIn wsX6_rollback (wsV RX6 37 RX6 yX6_historyOf wsX6_historyOf) := goodIn_app (goodIn_of _ (by decide +kernel)) ggX6_rollback_X6_historyOf
set_option maxRecDepth 20000 in
theorem ggX6_rollback_X6_countFrames : GoodIn wsX6_rollback wsX6_countFrames := goodIn_r _ [14, 15, 16, 17, 18, 19, 20, 21, 22, 48, 49, 50, 51, 52, 53, 54, 55, 56, 57, 43, 44, 45, 46, 47] (by decide +kernel) (by decide +kernel)
set_option maxRecDepth 20000 in
theorem gX6_rollback_X6_countFrames : GoodIn wsX6_rollback (wsV RX6 90 RX6 yX6_countFrames wsX6_countFrames) := goodIn_app (goodIn_of _ (by decide +kernel)) ggX6_rollback_X6_countFrames
set_option maxRecDepth 20000 in
theorem ggX6_rollback_X6_rollBackObjects : GoodIn wsX6_rollback wsX6_rollBackObjects := goodIn_r _ [26, 27, 28, 29, 30, 31, 32, 33, 34, 35, 48, 49, 50, 51, 52, 58, 59, 60, 61, 43, 44, 45, 46, 47] (by decide +kernel) (by decide +kernel)
set_option maxRecDepth 20000 in
theorem gX6_rollback_X6_rollBackObjects : GoodIn wsX6_rollback (wsV RX6 94 RX6 yX6_rollBackObjects wsX6_rollBackObjects) := goodIn_app (goodIn_of _ (by decide +kernel)) ggX6_rollback_X6_rollBackObjects
set_option maxRecDepth 20000 in
theorem ggX6_rollback_X1_removeCurrent : GoodIn wsX6_rollback wsX1_removeCurrent := goodIn_r _ [40, 41, 42, 43, 44, 45, 46, 47] (by decide +kernel) (by decide +kernel)
set_option maxRecDepth 20000 in
theorem gX6_rollback_X1_removeCurrent : GoodIn wsX6_rollback (wsV RX6 97 RX1 yX1_removeCurrent wsX1_removeCurrent) := goodIn_app (goodIn_of _ (by decide +kernel)) ggX6_rollback_X1_removeCurrent
theorem dX6_rollback_0 : decode cX6_rollback 0 = .ok (.aload_n 0, 1) := by decide +kernel
theorem dX6_rollback_1 : decode cX6_rollback 1 = .ok (.iload_n 1, 1) := by decide +kernel
theorem dX6_rollback_2 : decode cX6_rollback 2 = .ok (.invokevirtual 37, 3) := by decide +kernel
theorem dX6_rollback_5 : decode cX6_rollback 5 = .ok (.astore_n 2, 1) := by decide +kernel
theorem dX6_rollback_6 : decode cX6_rollback 6 = .ok (.aload_n 2, 1) := by decide +kernel
theorem dX6_rollback_7 : decode cX6_rollback 7 = .ok (.ifnonnull 6, 3) := by decide +kernel
theorem dX6_rollback_10 : decode cX6_rollback 10 = .ok (.ldc 41, 2) := by decide +kernel
theorem dX6_rollback_12 : decode cX6_rollback 12 = .ok (.ireturn, 1) := by decide +kernel
theorem dX6_rollback_13 : decode cX6_rollback 13 = .ok (.aload_n 2, 1) := by decide +kernel
theorem dX6_rollback_14 : decode cX6_rollback 14 = .ok (.getfield 42, 3) := by decide +kernel
theorem dX6_rollback_17 : decode cX6_rollback 17 = .ok (.istore_n 3, 1) := by decide +kernel
theorem dX6_rollback_18 : decode cX6_rollback 18 = .ok (.iload_n 3, 1) := by decide +kernel
theorem dX6_rollback_19 : decode cX6_rollback 19 = .ok (.ifCond .ne 6, 3) := by decide +kernel
theorem dX6_rollback_22 : decode cX6_rollback 22 = .ok (.ldc 45, 2) := by decide +kernel
theorem dX6_rollback_24 : decode cX6_rollback 24 = .ok (.ireturn, 1) := by decide +kernel
theorem dX6_rollback_25 : decode cX6_rollback 25 = .ok (.aload_n 0, 1) := by decide +kernel
theorem dX6_rollback_26 : decode cX6_rollback 26 = .ok (.iload_n 1, 1) := by decide +kernel
theorem dX6_rollback_27 : decode cX6_rollback 27 = .ok (.iload_n 3, 1) := by decide +kernel
theorem dX6_rollback_28 : decode cX6_rollback 28 = .ok (.iload_n 3, 1) := by decide +kernel
theorem dX6_rollback_29 : decode cX6_rollback 29 = .ok (.invokevirtual 90, 3) := by decide +kernel
theorem dX6_rollback_32 : decode cX6_rollback 32 = .ok (.ifCond .le 6, 3) := by decide +kernel
theorem dX6_rollback_35 : decode cX6_rollback 35 = .ok (.ldc 93, 2) := by decide +kernel
theorem dX6_rollback_37 : decode cX6_rollback 37 = .ok (.ireturn, 1) := by decide +kernel
theorem dX6_rollback_38 : decode cX6_rollback 38 = .ok (.aload_n 0, 1) := by decide +kernel
theorem dX6_rollback_39 : decode cX6_rollback 39 = .ok (.iload_n 1, 1) := by decide +kernel
theorem dX6_rollback_40 : decode cX6_rollback 40 = .ok (.iload_n 3, 1) := by decide +kernel
theorem dX6_rollback_41 : decode cX6_rollback 41 = .ok (.invokevirtual 94, 3) := by decide +kernel
theorem dX6_rollback_44 : decode cX6_rollback 44 = .ok (.aload_n 2, 1) := by decide +kernel
theorem dX6_rollback_45 : decode cX6_rollback 45 = .ok (.invokevirtual 97, 3) := by decide +kernel
theorem dX6_rollback_48 : decode cX6_rollback 48 = .ok (.ireturn, 1) := by decide +kernel
set_option maxRecDepth 20000 in
theorem ggX6_call_X6_stackOf : GoodIn wsX6_call wsX6_stackOf := goodIn_r _ [7, 8, 34, 35, 36, 37, 38] (by decide +kernel) (by decide +kernel)
set_option maxRecDepth 20000 in
theorem gX6_call_X6_stackOf : GoodIn wsX6_call (wsV RX6 100 RX6 yX6_stackOf wsX6_stackOf) := goodIn_app (goodIn_of _ (by decide +kernel)) ggX6_call_X6_stackOf
set_option maxRecDepth 20000 in
theorem ggX6_call_X6_historyOf : GoodIn wsX6_call wsX6_historyOf := goodIn_r _ [12, 13, 14, 34, 35, 36, 37, 38] (by decide +kernel) (by decide +kernel)
set_option maxRecDepth 20000 in
theorem gX6_call_X6_historyOf : GoodIn wsX6_call (wsV RX6 37 RX6 yX6_historyOf wsX6_historyOf) := goodIn_app (goodIn_of _ (by decide +kernel)) ggX6_call_X6_historyOf
set_option maxRecDepth 20000 in
theorem ggX6_call_X0_push : GoodIn wsX6_call wsX0_push := goodIn_r _ [19, 20, 21, 22, 23, 24, 25, 26, 27, 28, 29, 30, 31, 32, 33, 39, 40, 41, 42, 43, 44, 45, 46, 47, 48] (by decide +kernel) (by decide +kernel)
set_option maxRecDepth 20000 in
theorem gX6_call_X0_push : GoodIn wsX6_call (wsV RX6 105 RX0 yX0_push wsX0_push) := goodIn_app (goodIn_of _ (by decide +kernel)) ggX6_call_X0_push
theorem dX6_call_0 : decode cX6_call 0 = .ok (.aload_n 0, 1) := by decide +kernel
theorem dX6_call_1 : decode cX6_call 1 = .ok (.iload_n 1, 1) := by decide +kernel
theorem dX6_call_2 : decode cX6_call 2 = .ok (.invokevirtual 100, 3) := by decide +kernel
theorem dX6_call_5 : decode cX6_call 5 = .ok (.astore_n 3, 1) := by decide +kernel
theorem dX6_call_6 : decode cX6_call 6 = .ok (.aload_n 3, 1) := by decide +kernel
theorem dX6_call_7 : decode cX6_call 7 = .ok (.ifnonnull 6, 3) := by decide +kernel
theorem dX6_call_10 : decode cX6_call 10 = .ok (.ldc 104, 2) := by decide +kernel
theorem dX6_call_12 : decode cX6_call 12 = .ok (.ireturn, 1) := by decide +kernel
theorem dX6_call_13 : decode cX6_call 13 = .ok (.aload_n 0, 1) := by decide +kernel
theorem dX6_call_14 : decode cX6_call 14 = .ok (.iload_n 2, 1) := by decide +kernel
theorem dX6_call_15 : decode cX6_call 15 = .ok (.invokevirtual 37, 3) := by decide +kernel
theorem dX6_call_18 : decode cX6_call 18 = .ok (.astore 4, 2) := by decide +kernel
theorem dX6_call_20 : decode cX6_call 20 = .ok (.aload 4, 2) := by decide +kernel
theorem dX6_call_22 : decode cX6_call 22 = .ok (.ifnonnull 6, 3) := by decide +kernel
theorem dX6_call_25 : decode cX6_call 25 = .ok (.ldc 41, 2) := by decide +kernel
theorem dX6_call_27 : decode cX6_call 27 = .ok (.ireturn, 1) := by decide +kernel
theorem dX6_call_28 : decode cX6_call 28 = .ok (.aload_n 3, 1) := by decide +kernel
theorem dX6_call_29 : decode cX6_call 29 = .ok (.aload 4, 2) := by decide +kernel
theorem dX6_call_31 : decode cX6_call 31 = .ok (.invokevirtual 105, 3) := by decide +kernel
theorem dX6_call_34 : decode cX6_call 34 = .ok (.ireturn, 1) := by decide +kernel
set_option maxRecDepth 20000 in
theorem ggX6_finish_X6_stackOf : GoodIn wsX6_finish wsX6_stackOf := goodIn_r _ [6, 7, 16, 17, 18, 19, 20] (by decide +kernel) (by decide +kernel)
set_option maxRecDepth 20000 in
theorem gX6_finish_X6_stackOf : GoodIn wsX6_finish (wsV RX6 100 RX6 yX6_stackOf wsX6_stackOf) := goodIn_app (goodIn_of _ (by decide +kernel)) ggX6_finish_X6_stackOf
set_option maxRecDepth 20000 in
theorem ggX6_finish_X0_pop : GoodIn wsX6_finish wsX0_pop := goodIn_r _ [12, 13, 14, 15, 21, 22] (by decide +kernel) (by decide +kernel)
set_option maxRecDepth 20000 in
theorem gX6_finish_X0_pop : GoodIn wsX6_finish (wsV RX6 109 RX0 yX0_pop wsX0_pop) := goodIn_app (goodIn_of _ (by decide +kernel)) ggX6_finish_X0_pop
theorem dX6_finish_0 : decode cX6_finish 0 = .ok (.aload_n 0, 1) := by decide +kernel
theorem dX6_finish_1 : decode cX6_finish 1 = .ok (.iload_n 1, 1) := by decide +kernel
theorem dX6_finish_2 : decode cX6_finish 2 = .ok (.invokevirtual 100, 3) := by decide +kernel
theorem dX6_finish_5 : decode cX6_finish 5 = .ok (.astore_n 2, 1) := by decide +kernel
theorem dX6_finish_6 : decode cX6_finish 6 = .ok (.aload_n 2, 1) := by decide +kernel
theorem dX6_finish_7 : decode cX6_finish 7 = .ok (.ifnonnull 6, 3) := by decide +kernel
theorem dX6_finish_10 : decode cX6_finish 10 = .ok (.ldc 104, 2) := by decide +kernel
theorem dX6_finish_12 : decode cX6_finish 12 = .ok (.ireturn, 1) := by decide +kernel
theorem dX6_finish_13 : decode cX6_finish 13 = .ok (.aload_n 2, 1) := by decide +kernel
theorem dX6_finish_14 : decode cX6_finish 14 = .ok (.invokevirtual 109, 3) := by decide +kernel
theorem dX6_finish_17 : decode cX6_finish 17 = .ok (.ireturn, 1) := by decide +kernel
set_option maxRecDepth 20000 in
theorem ggX6_depth_X6_stackOf : GoodIn wsX6_depth wsX6_stackOf := goodIn_r _ [6, 7, 10, 11, 12, 13, 14] (by decide +kernel) (by decide +kernel)
set_option maxRecDepth 20000 in
theorem gX6_depth_X6_stackOf : GoodIn wsX6_depth (wsV RX6 100 RX6 yX6_stackOf wsX6_stackOf) := goodIn_app (goodIn_of _ (by decide +kernel)) ggX6_depth_X6_stackOf
theorem dX6_depth_0 : decode cX6_depth 0 = .ok (.aload_n 0, 1) := by decide +kernel
theorem dX6_depth_1 : decode cX6_depth 1 = .ok (.iload_n 1, 1) := by decide +kernel
theorem dX6_depth_2 : decode cX6_depth 2 = .ok (.invokevirtual 100, 3) := by decide +kernel
theorem dX6_depth_5 : decode cX6_depth 5 = .ok (.astore_n 2, 1) := by decide +kernel
theorem dX6_depth_6 : decode cX6_depth 6 = .ok (.aload_n 2, 1) := by decide +kernel
theorem dX6_depth_7 : decode cX6_depth 7 = .ok (.ifnonnull 6, 3) := by decide +kernel
theorem dX6_depth_10 : decode cX6_depth 10 = .ok (.ldc 104, 2) := by decide +kernel
theorem dX6_depth_12 : decode cX6_depth 12 = .ok (.ireturn, 1) := by decide +kernel
theorem dX6_depth_13 : decode cX6_depth 13 = .ok (.aload_n 2, 1) := by decide +kernel
theorem dX6_depth_14 : decode cX6_depth 14 = .ok (.getfield 112, 3) := by decide +kernel
theorem dX6_depth_17 : decode cX6_depth 17 = .ok (.ireturn, 1) := by decide +kernel
set_option maxRecDepth 20000 in
theorem ggX6_frameClass_X6_stackOf : GoodIn wsX6_frameClass wsX6_stackOf := goodIn_r _ [7, 8, 24, 25, 26, 27, 28] (by decide +kernel) (by decide +kernel)
set_option maxRecDepth 20000 in
theorem gX6_frameClass_X6_stackOf : GoodIn wsX6_frameClass (wsV RX6 100 RX6 yX6_stackOf wsX6_stackOf) := goodIn_app (goodIn_of _ (by decide +kernel)) ggX6_frameClass_X6_stackOf
set_option maxRecDepth 20000 in
theorem ggX6_frameClass_X0_frameAt : GoodIn wsX6_frameClass wsX0_frameAt := goodIn_r _ [13, 14, 15, 29, 30] (by decide +kernel) (by decide +kernel)
set_option maxRecDepth 20000 in
theorem gX6_frameClass_X0_frameAt : GoodIn wsX6_frameClass (wsV RX6 115 RX0 yX0_frameAt wsX0_frameAt) := goodIn_app (goodIn_of _ (by decide +kernel)) ggX6_frameClass_X0_frameAt
theorem dX6_frameClass_0 : decode cX6_frameClass 0 = .ok (.aload_n 0, 1) := by decide +kernel
theorem dX6_frameClass_1 : decode cX6_frameClass 1 = .ok (.iload_n 1, 1) := by decide +kernel
theorem dX6_frameClass_2 : decode cX6_frameClass 2 = .ok (.invokevirtual 100, 3) := by decide +kernel
theorem dX6_frameClass_5 : decode cX6_frameClass 5 = .ok (.astore_n 3, 1) := by decide +kernel
theorem dX6_frameClass_6 : decode cX6_frameClass 6 = .ok (.aload_n 3, 1) := by decide +kernel
theorem dX6_frameClass_7 : decode cX6_frameClass 7 = .ok (.ifnonnull 6, 3) := by decide +kernel
theorem dX6_frameClass_10 : decode cX6_frameClass 10 = .ok (.ldc 104, 2) := by decide +kernel
theorem dX6_frameClass_12 : decode cX6_frameClass 12 = .ok (.ireturn, 1) := by decide +kernel
theorem dX6_frameClass_13 : decode cX6_frameClass 13 = .ok (.aload_n 3, 1) := by decide +kernel
theorem dX6_frameClass_14 : decode cX6_frameClass 14 = .ok (.iload_n 2, 1) := by decide +kernel
theorem dX6_frameClass_15 : decode cX6_frameClass 15 = .ok (.invokevirtual 115, 3) := by decide +kernel
theorem dX6_frameClass_18 : decode cX6_frameClass 18 = .ok (.astore 4, 2) := by decide +kernel
theorem dX6_frameClass_20 : decode cX6_frameClass 20 = .ok (.aload 4, 2) := by decide +kernel
theorem dX6_frameClass_22 : decode cX6_frameClass 22 = .ok (.ifnonnull 6, 3) := by decide +kernel
theorem dX6_frameClass_25 : decode cX6_frameClass 25 = .ok (.ldc 119, 2) := by decide +kernel
theorem dX6_frameClass_27 : decode cX6_frameClass 27 = .ok (.ireturn, 1) := by decide +kernel
theorem dX6_frameClass_28 : decode cX6_frameClass 28 = .ok (.aload 4, 2) := by decide +kernel
theorem dX6_frameClass_30 : decode cX6_frameClass 30 = .ok (.getfield 120, 3) := by decide +kernel
theorem dX6_frameClass_33 : decode cX6_frameClass 33 = .ok (.getfield 126, 3) := by decide +kernel
theorem dX6_frameClass_36 : decode cX6_frameClass 36 = .ok (.ireturn, 1) := by decide +kernel
set_option maxRecDepth 20000 in
theorem ggX6_frameVersion_X6_stackOf : GoodIn wsX6_frameVersion wsX6_stackOf := goodIn_r _ [7, 8, 19, 20, 21, 22, 23] (by decide +kernel) (by decide +kernel)
set_option maxRecDepth 20000 in
theorem gX6_frameVersion_X6_stackOf : GoodIn wsX6_frameVersion (wsV RX6 100 RX6 yX6_stackOf wsX6_stackOf) := goodIn_app (goodIn_of _ (by decide +kernel)) ggX6_frameVersion_X6_stackOf
set_option maxRecDepth 20000 in
theorem ggX6_frameVersion_X0_frameAt : GoodIn wsX6_frameVersion wsX0_frameAt := goodIn_r _ [13, 14, 15, 24, 25] (by decide +kernel) (by decide +kernel)
set_option maxRecDepth 20000 in
theorem gX6_frameVersion_X0_frameAt : GoodIn wsX6_frameVersion (wsV RX6 115 RX0 yX0_frameAt wsX0_frameAt) := goodIn_app (goodIn_of _ (by decide +kernel)) ggX6_frameVersion_X0_frameAt
theorem dX6_frameVersion_0 : decode cX6_frameVersion 0 = .ok (.aload_n 0, 1) := by decide +kernel
theorem dX6_frameVersion_1 : decode cX6_frameVersion 1 = .ok (.iload_n 1, 1) := by decide +kernel
theorem dX6_frameVersion_2 : decode cX6_frameVersion 2 = .ok (.invokevirtual 100, 3) := by decide +kernel
theorem dX6_frameVersion_5 : decode cX6_frameVersion 5 = .ok (.astore_n 3, 1) := by decide +kernel
theorem dX6_frameVersion_6 : decode cX6_frameVersion 6 = .ok (.aload_n 3, 1) := by decide +kernel
theorem dX6_frameVersion_7 : decode cX6_frameVersion 7 = .ok (.ifnonnull 6, 3) := by decide +kernel
theorem dX6_frameVersion_10 : decode cX6_frameVersion 10 = .ok (.ldc 104, 2) := by decide +kernel
theorem dX6_frameVersion_12 : decode cX6_frameVersion 12 = .ok (.ireturn, 1) := by decide +kernel
theorem dX6_frameVersion_13 : decode cX6_frameVersion 13 = .ok (.aload_n 3, 1) := by decide +kernel
theorem dX6_frameVersion_14 : decode cX6_frameVersion 14 = .ok (.iload_n 2, 1) := by decide +kernel
theorem dX6_frameVersion_15 : decode cX6_frameVersion 15 = .ok (.invokevirtual 115, 3) := by decide +kernel
theorem dX6_frameVersion_18 : decode cX6_frameVersion 18 = .ok (.astore 4, 2) := by decide +kernel
theorem dX6_frameVersion_20 : decode cX6_frameVersion 20 = .ok (.aload 4, 2) := by decide +kernel
theorem dX6_frameVersion_22 : decode cX6_frameVersion 22 = .ok (.ifnonnull 6, 3) := by decide +kernel
theorem dX6_frameVersion_25 : decode cX6_frameVersion 25 = .ok (.ldc 119, 2) := by decide +kernel
theorem dX6_frameVersion_27 : decode cX6_frameVersion 27 = .ok (.ireturn, 1) := by decide +kernel
theorem dX6_frameVersion_28 : decode cX6_frameVersion 28 = .ok (.aload 4, 2) := by decide +kernel
theorem dX6_frameVersion_30 : decode cX6_frameVersion 30 = .ok (.getfield 129, 3) := by decide +kernel
theorem dX6_frameVersion_33 : decode cX6_frameVersion 33 = .ok (.ireturn, 1) := by decide +kernel
set_option maxRecDepth 20000 in
theorem ggX6_oldFrames_X6_historyOf : GoodIn wsX6_oldFrames wsX6_historyOf := goodIn_r _ [6, 7, 8, 26, 27, 28, 29, 30] (by decide +kernel) (by decide +kernel)
set_option maxRecDepth 20000 in
theorem gX6_oldFrames_X6_historyOf : GoodIn wsX6_oldFrames (wsV RX6 37 RX6 yX6_historyOf wsX6_historyOf) := goodIn_app (goodIn_of _ (by decide +kernel)) ggX6_oldFrames_X6_historyOf
set_option maxRecDepth 20000 in
theorem ggX6_oldFrames_X6_countFrames : GoodIn wsX6_oldFrames wsX6_countFrames := goodIn_r _ [12, 13, 14, 15, 16, 17, 18, 19, 20, 26, 27, 28, 29, 30, 31, 32, 33, 34, 35, 21, 22, 23, 24, 25] (by decide +kernel) (by decide +kernel)
set_option maxRecDepth 20000 in
theorem gX6_oldFrames_X6_countFrames : GoodIn wsX6_oldFrames (wsV RX6 90 RX6 yX6_countFrames wsX6_countFrames) := goodIn_app (goodIn_of _ (by decide +kernel)) ggX6_oldFrames_X6_countFrames
theorem dX6_oldFrames_0 : decode cX6_oldFrames 0 = .ok (.aload_n 0, 1) := by decide +kernel
theorem dX6_oldFrames_1 : decode cX6_oldFrames 1 = .ok (.iload_n 1, 1) := by decide +kernel
theorem dX6_oldFrames_2 : decode cX6_oldFrames 2 = .ok (.invokevirtual 37, 3) := by decide +kernel
theorem dX6_oldFrames_5 : decode cX6_oldFrames 5 = .ok (.astore_n 2, 1) := by decide +kernel
theorem dX6_oldFrames_6 : decode cX6_oldFrames 6 = .ok (.aload_n 2, 1) := by decide +kernel
theorem dX6_oldFrames_7 : decode cX6_oldFrames 7 = .ok (.ifnonnull 6, 3) := by decide +kernel
theorem dX6_oldFrames_10 : decode cX6_oldFrames 10 = .ok (.ldc 41, 2) := by decide +kernel
theorem dX6_oldFrames_12 : decode cX6_oldFrames 12 = .ok (.ireturn, 1) := by decide +kernel
theorem dX6_oldFrames_13 : decode cX6_oldFrames 13 = .ok (.aload_n 0, 1) := by decide +kernel
theorem dX6_oldFrames_14 : decode cX6_oldFrames 14 = .ok (.iload_n 1, 1) := by decide +kernel
theorem dX6_oldFrames_15 : decode cX6_oldFrames 15 = .ok (.iconst 0, 1) := by decide +kernel
theorem dX6_oldFrames_16 : decode cX6_oldFrames 16 = .ok (.aload_n 2, 1) := by decide +kernel
theorem dX6_oldFrames_17 : decode cX6_oldFrames 17 = .ok (.getfield 42, 3) := by decide +kernel
theorem dX6_oldFrames_20 : decode cX6_oldFrames 20 = .ok (.iconst 1, 1) := by decide +kernel
theorem dX6_oldFrames_21 : decode cX6_oldFrames 21 = .ok (.isub, 1) := by decide +kernel
theorem dX6_oldFrames_22 : decode cX6_oldFrames 22 = .ok (.invokevirtual 90, 3) := by decide +kernel
theorem dX6_oldFrames_25 : decode cX6_oldFrames 25 = .ok (.ireturn, 1) := by decide +kernel
set_option maxRecDepth 20000 in
theorem ggX6_create_X6_stackOf : GoodIn wsX6_create wsX6_stackOf := goodIn_r _ [13, 14, 44, 45, 46, 47, 48] (by decide +kernel) (by decide +kernel)
set_option maxRecDepth 20000 in
theorem gX6_create_X6_stackOf : GoodIn wsX6_create (wsV RX6 100 RX6 yX6_stackOf wsX6_stackOf) := goodIn_app (goodIn_of _ (by decide +kernel)) ggX6_create_X6_stackOf
set_option maxRecDepth 20000 in
theorem ggX6_create_X0_top : GoodIn wsX6_create wsX0_top := goodIn_r _ [19, 20, 21, 22, 23, 18, 24, 25, 56, 57] (by decide +kernel) (by decide +kernel)
set_option maxRecDepth 20000 in
theorem gX6_create_X0_top : GoodIn wsX6_create (wsV RX6 132 RX0 yX0_top wsX0_top) := goodIn_app (goodIn_of _ (by decide +kernel)) ggX6_create_X0_top
set_option maxRecDepth 20000 in
theorem ggX6_create_X5_init : GoodIn wsX6_create wsX5_init := goodIn_r _ [28, 29, 30, 31, 32, 33, 34, 35, 36, 37, 49, 50, 51, 52] (by decide +kernel) (by decide +kernel)
set_option maxRecDepth 20000 in
theorem gX6_create_X5_init : GoodIn wsX6_create (wsX5_init) := ggX6_create_X5_init
set_option maxRecDepth 20000 in
theorem ggX6_create_X3_pin : GoodIn wsX6_create wsX3_pin := goodIn_r _ [42, 43, 53, 54, 55] (by decide +kernel) (by decide +kernel)
set_option maxRecDepth 20000 in
theorem gX6_create_X3_pin : GoodIn wsX6_create (wsV RX6 142 RX3 yX3_pin wsX3_pin) := goodIn_app (goodIn_of _ (by decide +kernel)) ggX6_create_X3_pin
theorem dX6_create_0 : decode cX6_create 0 = .ok (.aload_n 0, 1) := by decide +kernel
theorem dX6_create_1 : decode cX6_create 1 = .ok (.iload_n 1, 1) := by decide +kernel
theorem dX6_create_2 : decode cX6_create 2 = .ok (.invokevirtual 100, 3) := by decide +kernel
theorem dX6_create_5 : decode cX6_create 5 = .ok (.astore_n 2, 1) := by decide +kernel
theorem dX6_create_6 : decode cX6_create 6 = .ok (.aload_n 2, 1) := by decide +kernel
theorem dX6_create_7 : decode cX6_create 7 = .ok (.ifnonnull 6, 3) := by decide +kernel
theorem dX6_create_10 : decode cX6_create 10 = .ok (.ldc 104, 2) := by decide +kernel
theorem dX6_create_12 : decode cX6_create 12 = .ok (.ireturn, 1) := by decide +kernel
theorem dX6_create_13 : decode cX6_create 13 = .ok (.aload_n 2, 1) := by decide +kernel
theorem dX6_create_14 : decode cX6_create 14 = .ok (.invokevirtual 132, 3) := by decide +kernel
theorem dX6_create_17 : decode cX6_create 17 = .ok (.astore_n 3, 1) := by decide +kernel
theorem dX6_create_18 : decode cX6_create 18 = .ok (.aload_n 3, 1) := by decide +kernel
theorem dX6_create_19 : decode cX6_create 19 = .ok (.ifnonnull 6, 3) := by decide +kernel
theorem dX6_create_22 : decode cX6_create 22 = .ok (.ldc 119, 2) := by decide +kernel
theorem dX6_create_24 : decode cX6_create 24 = .ok (.ireturn, 1) := by decide +kernel
theorem dX6_create_25 : decode cX6_create 25 = .ok (.aload_n 0, 1) := by decide +kernel
theorem dX6_create_26 : decode cX6_create 26 = .ok (.getfield 136, 3) := by decide +kernel
theorem dX6_create_29 : decode cX6_create 29 = .ok (.bipush 24, 2) := by decide +kernel
theorem dX6_create_31 : decode cX6_create 31 = .ok (.if_icmp .lt 6, 3) := by decide +kernel
theorem dX6_create_34 : decode cX6_create 34 = .ok (.ldc 33, 2) := by decide +kernel
theorem dX6_create_36 : decode cX6_create 36 = .ok (.ireturn, 1) := by decide +kernel
theorem dX6_create_37 : decode cX6_create 37 = .ok (.aload_n 0, 1) := by decide +kernel
theorem dX6_create_38 : decode cX6_create 38 = .ok (.getfield 136, 3) := by decide +kernel
theorem dX6_create_41 : decode cX6_create 41 = .ok (.istore 4, 2) := by decide +kernel
theorem dX6_create_43 : decode cX6_create 43 = .ok (.aload_n 0, 1) := by decide +kernel
theorem dX6_create_44 : decode cX6_create 44 = .ok (.getfield 24, 3) := by decide +kernel
theorem dX6_create_47 : decode cX6_create 47 = .ok (.iload 4, 2) := by decide +kernel
theorem dX6_create_49 : decode cX6_create 49 = .ok (.new 22, 3) := by decide +kernel
theorem dX6_create_52 : decode cX6_create 52 = .ok (.dup, 1) := by decide +kernel
theorem dX6_create_53 : decode cX6_create 53 = .ok (.aload_n 3, 1) := by decide +kernel
theorem dX6_create_54 : decode cX6_create 54 = .ok (.getfield 120, 3) := by decide +kernel
theorem dX6_create_57 : decode cX6_create 57 = .ok (.aload_n 3, 1) := by decide +kernel
theorem dX6_create_58 : decode cX6_create 58 = .ok (.getfield 129, 3) := by decide +kernel
theorem dX6_create_61 : decode cX6_create 61 = .ok (.invokespecial 139, 3) := by decide +kernel
theorem dX6_create_64 : decode cX6_create 64 = .ok (.aastore, 1) := by decide +kernel
theorem dX6_create_65 : decode cX6_create 65 = .ok (.aload_n 0, 1) := by decide +kernel
theorem dX6_create_66 : decode cX6_create 66 = .ok (.dup, 1) := by decide +kernel
theorem dX6_create_67 : decode cX6_create 67 = .ok (.getfield 136, 3) := by decide +kernel
theorem dX6_create_70 : decode cX6_create 70 = .ok (.iconst 1, 1) := by decide +kernel
theorem dX6_create_71 : decode cX6_create 71 = .ok (.iadd, 1) := by decide +kernel
theorem dX6_create_72 : decode cX6_create 72 = .ok (.putfield 136, 3) := by decide +kernel
theorem dX6_create_75 : decode cX6_create 75 = .ok (.aload_n 3, 1) := by decide +kernel
theorem dX6_create_76 : decode cX6_create 76 = .ok (.iload 4, 2) := by decide +kernel
theorem dX6_create_78 : decode cX6_create 78 = .ok (.invokevirtual 142, 3) := by decide +kernel
theorem dX6_create_81 : decode cX6_create 81 = .ok (.iload 4, 2) := by decide +kernel
theorem dX6_create_83 : decode cX6_create 83 = .ok (.ireturn, 1) := by decide +kernel
set_option maxRecDepth 20000 in
theorem ggX6_read_X6_access : GoodIn wsX6_read wsX6_access := goodIn_r _ [5, 6, 7, 8, 9, 10, 11, 12, 13, 14, 15, 16, 4, 17, 18, 19, 20, 21, 22, 23, 24, 25, 26, 27, 28, 29, 30, 31, 32, 33, 34, 35, 36, 37, 38, 39, 40, 41, 42, 43, 44, 45, 46, 47, 48, 49, 50, 51, 52, 53, 54, 55, 56, 57, 58, 59, 60, 61, 62, 63, 64, 65, 66, 67, 68, 69, 70, 71, 72, 73, 74, 75, 76, 77, 78, 79, 80, 81, 82, 83, 84, 85, 86, 87, 88, 89, 90, 91, 92, 93, 94, 95, 96, 97, 98, 99, 100, 101, 102, 103, 104, 105, 106, 107, 108, 109, 110, 111, 112, 113, 114, 115, 116, 117, 118, 119, 120, 121, 122, 123, 124, 125, 126, 127, 128, 129, 130, 131, 132] (by decide +kernel) (by decide +kernel)
set_option maxRecDepth 20000 in
theorem gX6_read_X6_access : GoodIn wsX6_read (wsV RX6 146 RX6 yX6_access wsX6_access) := goodIn_app (goodIn_of _ (by decide +kernel)) ggX6_read_X6_access
theorem dX6_read_0 : decode cX6_read 0 = .ok (.aload_n 0, 1) := by decide +kernel
theorem dX6_read_1 : decode cX6_read 1 = .ok (.iload_n 1, 1) := by decide +kernel
theorem dX6_read_2 : decode cX6_read 2 = .ok (.iload_n 2, 1) := by decide +kernel
theorem dX6_read_3 : decode cX6_read 3 = .ok (.iload_n 3, 1) := by decide +kernel
theorem dX6_read_4 : decode cX6_read 4 = .ok (.invokevirtual 146, 3) := by decide +kernel
theorem dX6_read_7 : decode cX6_read 7 = .ok (.ireturn, 1) := by decide +kernel
set_option maxRecDepth 20000 in
theorem ggX6_write_X6_isValue : GoodIn wsX6_write wsX6_isValue := goodIn_r _ [5, 6, 7] (by decide +kernel) (by decide +kernel)
set_option maxRecDepth 20000 in
theorem gX6_write_X6_isValue : GoodIn wsX6_write (va_wsS RX6 67 yX6_isValue wsX6_isValue) := goodIn_app (goodIn_of _ (by decide +kernel)) ggX6_write_X6_isValue
set_option maxRecDepth 20000 in
theorem ggX6_write_X6_access : GoodIn wsX6_write wsX6_access := goodIn_r _ [11, 12, 13, 14, 15, 16, 17, 18, 19, 20, 21, 22, 4, 23, 24, 25, 26, 27, 28, 29, 30, 31, 32, 33, 34, 35, 36, 37, 38, 39, 40, 41, 42, 43, 44, 45, 46, 47, 48, 49, 50, 51, 52, 53, 54, 55, 56, 57, 58, 59, 60, 61, 62, 63, 64, 65, 66, 67, 68, 69, 70, 71, 72, 73, 74, 75, 76, 77, 78, 79, 80, 81, 82, 83, 84, 85, 86, 87, 88, 89, 90, 91, 92, 93, 94, 95, 96, 97, 98, 99, 100, 101, 102, 3, 5, 6, 7, 103, 104, 105, 106, 107, 108, 109, 110, 115, 116, 117, 118, 119, 120, 121, 122, 123, 124, 125, 126, 127, 128, 129, 130, 131, 132, 133, 134, 135, 136, 137, 138] (by decide +kernel) (by decide +kernel)
set_option maxRecDepth 20000 in
theorem gX6_write_X6_access : GoodIn wsX6_write (wsV RX6 146 RX6 yX6_access wsX6_access) := goodIn_app (goodIn_of _ (by decide +kernel)) ggX6_write_X6_access
set_option maxRecDepth 20000 in
theorem ggX6_write_X6_existingObject : GoodIn wsX6_write wsX6_existingObject := goodIn_r _ [39, 40, 41, 127, 128, 129, 130, 131] (by decide +kernel) (by decide +kernel)
set_option maxRecDepth 20000 in
theorem gX6_write_X6_existingObject : GoodIn wsX6_write (wsV RX6 149 RX6 yX6_existingObject wsX6_existingObject) := goodIn_app (goodIn_of _ (by decide +kernel)) ggX6_write_X6_existingObject
set_option maxRecDepth 20000 in
theorem ggX6_write_X5_putValue : GoodIn wsX6_write wsX5_putValue := goodIn_r _ [114, 79, 78, 115, 116, 117, 118] (by decide +kernel) (by decide +kernel)
set_option maxRecDepth 20000 in
theorem gX6_write_X5_putValue : GoodIn wsX6_write (wsV RX6 153 RX5 yX5_putValue wsX5_putValue) := goodIn_app (goodIn_of _ (by decide +kernel)) ggX6_write_X5_putValue
theorem dX6_write_0 : decode cX6_write 0 = .ok (.iload 4, 2) := by decide +kernel
theorem dX6_write_2 : decode cX6_write 2 = .ok (.i2l, 1) := by decide +kernel
theorem dX6_write_3 : decode cX6_write 3 = .ok (.invokestatic 67, 3) := by decide +kernel
theorem dX6_write_6 : decode cX6_write 6 = .ok (.ifCond .ne 6, 3) := by decide +kernel
theorem dX6_write_9 : decode cX6_write 9 = .ok (.ldc 28, 2) := by decide +kernel
theorem dX6_write_11 : decode cX6_write 11 = .ok (.ireturn, 1) := by decide +kernel
theorem dX6_write_12 : decode cX6_write 12 = .ok (.aload_n 0, 1) := by decide +kernel
theorem dX6_write_13 : decode cX6_write 13 = .ok (.iload_n 1, 1) := by decide +kernel
theorem dX6_write_14 : decode cX6_write 14 = .ok (.iload_n 2, 1) := by decide +kernel
theorem dX6_write_15 : decode cX6_write 15 = .ok (.iload_n 3, 1) := by decide +kernel
theorem dX6_write_16 : decode cX6_write 16 = .ok (.invokevirtual 146, 3) := by decide +kernel
theorem dX6_write_19 : decode cX6_write 19 = .ok (.istore 5, 2) := by decide +kernel
theorem dX6_write_21 : decode cX6_write 21 = .ok (.aload_n 0, 1) := by decide +kernel
theorem dX6_write_22 : decode cX6_write 22 = .ok (.iload_n 2, 1) := by decide +kernel
theorem dX6_write_23 : decode cX6_write 23 = .ok (.invokevirtual 149, 3) := by decide +kernel
theorem dX6_write_26 : decode cX6_write 26 = .ok (.astore 6, 2) := by decide +kernel
theorem dX6_write_28 : decode cX6_write 28 = .ok (.iload 5, 2) := by decide +kernel
theorem dX6_write_30 : decode cX6_write 30 = .ok (.i2l, 1) := by decide +kernel
theorem dX6_write_31 : decode cX6_write 31 = .ok (.invokestatic 67, 3) := by decide +kernel
theorem dX6_write_34 : decode cX6_write 34 = .ok (.ifCond .eq 8, 3) := by decide +kernel
theorem dX6_write_37 : decode cX6_write 37 = .ok (.aload 6, 2) := by decide +kernel
theorem dX6_write_39 : decode cX6_write 39 = .ok (.ifnonnull 6, 3) := by decide +kernel
theorem dX6_write_42 : decode cX6_write 42 = .ok (.iload 5, 2) := by decide +kernel
theorem dX6_write_44 : decode cX6_write 44 = .ok (.ireturn, 1) := by decide +kernel
theorem dX6_write_45 : decode cX6_write 45 = .ok (.aload 6, 2) := by decide +kernel
theorem dX6_write_47 : decode cX6_write 47 = .ok (.iload_n 3, 1) := by decide +kernel
theorem dX6_write_48 : decode cX6_write 48 = .ok (.iload 4, 2) := by decide +kernel
theorem dX6_write_50 : decode cX6_write 50 = .ok (.invokevirtual 153, 3) := by decide +kernel
theorem dX6_write_53 : decode cX6_write 53 = .ok (.iload 5, 2) := by decide +kernel
theorem dX6_write_55 : decode cX6_write 55 = .ok (.ireturn, 1) := by decide +kernel
set_option maxRecDepth 20000 in
theorem ggX6_peek_X6_existingObject : GoodIn wsX6_peek wsX6_existingObject := goodIn_r _ [7, 8, 9, 33, 34, 35, 36, 37] (by decide +kernel) (by decide +kernel)
set_option maxRecDepth 20000 in
theorem gX6_peek_X6_existingObject : GoodIn wsX6_peek (wsV RX6 149 RX6 yX6_existingObject wsX6_existingObject) := goodIn_app (goodIn_of _ (by decide +kernel)) ggX6_peek_X6_existingObject
set_option maxRecDepth 20000 in
theorem ggX6_peek_X1_fieldSet : GoodIn wsX6_peek wsX1_fieldSet := goodIn_r _ [14, 15, 38, 39, 40, 41, 42] (by decide +kernel) (by decide +kernel)
set_option maxRecDepth 20000 in
theorem gX6_peek_X1_fieldSet : GoodIn wsX6_peek (wsV RX6 46 RX1 yX1_fieldSet wsX1_fieldSet) := goodIn_app (goodIn_of _ (by decide +kernel)) ggX6_peek_X1_fieldSet
set_option maxRecDepth 20000 in
theorem ggX6_peek_X6_contains : GoodIn wsX6_peek wsX6_contains := goodIn_r _ [18, 19, 20, 6, 21] (by decide +kernel) (by decide +kernel)
set_option maxRecDepth 20000 in
theorem gX6_peek_X6_contains : GoodIn wsX6_peek (va_wsS RX6 71 yX6_contains wsX6_contains) := goodIn_app (goodIn_of _ (by decide +kernel)) ggX6_peek_X6_contains
set_option maxRecDepth 20000 in
theorem ggX6_peek_X5_valueOf : GoodIn wsX6_peek wsX5_valueOf := goodIn_r _ [26, 27, 28, 29, 30, 31, 32] (by decide +kernel) (by decide +kernel)
set_option maxRecDepth 20000 in
theorem gX6_peek_X5_valueOf : GoodIn wsX6_peek (wsV RX6 159 RX5 yX5_valueOf wsX5_valueOf) := goodIn_app (goodIn_of _ (by decide +kernel)) ggX6_peek_X5_valueOf
theorem dX6_peek_0 : decode cX6_peek 0 = .ok (.aload_n 0, 1) := by decide +kernel
theorem dX6_peek_1 : decode cX6_peek 1 = .ok (.iload_n 1, 1) := by decide +kernel
theorem dX6_peek_2 : decode cX6_peek 2 = .ok (.invokevirtual 149, 3) := by decide +kernel
theorem dX6_peek_5 : decode cX6_peek 5 = .ok (.astore_n 3, 1) := by decide +kernel
theorem dX6_peek_6 : decode cX6_peek 6 = .ok (.aload_n 3, 1) := by decide +kernel
theorem dX6_peek_7 : decode cX6_peek 7 = .ok (.ifnonnull 6, 3) := by decide +kernel
theorem dX6_peek_10 : decode cX6_peek 10 = .ok (.ldc 156, 2) := by decide +kernel
theorem dX6_peek_12 : decode cX6_peek 12 = .ok (.ireturn, 1) := by decide +kernel
theorem dX6_peek_13 : decode cX6_peek 13 = .ok (.aload_n 3, 1) := by decide +kernel
theorem dX6_peek_14 : decode cX6_peek 14 = .ok (.getfield 157, 3) := by decide +kernel
theorem dX6_peek_17 : decode cX6_peek 17 = .ok (.aload_n 3, 1) := by decide +kernel
theorem dX6_peek_18 : decode cX6_peek 18 = .ok (.getfield 158, 3) := by decide +kernel
theorem dX6_peek_21 : decode cX6_peek 21 = .ok (.invokevirtual 46, 3) := by decide +kernel
theorem dX6_peek_24 : decode cX6_peek 24 = .ok (.iload_n 2, 1) := by decide +kernel
theorem dX6_peek_25 : decode cX6_peek 25 = .ok (.invokestatic 71, 3) := by decide +kernel
theorem dX6_peek_28 : decode cX6_peek 28 = .ok (.ifCond .ne 6, 3) := by decide +kernel
theorem dX6_peek_31 : decode cX6_peek 31 = .ok (.ldc 81, 2) := by decide +kernel
theorem dX6_peek_33 : decode cX6_peek 33 = .ok (.ireturn, 1) := by decide +kernel
theorem dX6_peek_34 : decode cX6_peek 34 = .ok (.aload_n 3, 1) := by decide +kernel
theorem dX6_peek_35 : decode cX6_peek 35 = .ok (.iload_n 2, 1) := by decide +kernel
theorem dX6_peek_36 : decode cX6_peek 36 = .ok (.invokevirtual 159, 3) := by decide +kernel
theorem dX6_peek_39 : decode cX6_peek 39 = .ok (.ireturn, 1) := by decide +kernel
set_option maxRecDepth 20000 in
theorem ggX6_objectVersion_X6_existingObject : GoodIn wsX6_objectVersion wsX6_existingObject := goodIn_r _ [6, 7, 8, 13, 14, 15, 16, 17] (by decide +kernel) (by decide +kernel)
set_option maxRecDepth 20000 in
theorem gX6_objectVersion_X6_existingObject : GoodIn wsX6_objectVersion (wsV RX6 149 RX6 yX6_existingObject wsX6_existingObject) := goodIn_app (goodIn_of _ (by decide +kernel)) ggX6_objectVersion_X6_existingObject
theorem dX6_objectVersion_0 : decode cX6_objectVersion 0 = .ok (.aload_n 0, 1) := by decide +kernel
theorem dX6_objectVersion_1 : decode cX6_objectVersion 1 = .ok (.iload_n 1, 1) := by decide +kernel
theorem dX6_objectVersion_2 : decode cX6_objectVersion 2 = .ok (.invokevirtual 149, 3) := by decide +kernel
theorem dX6_objectVersion_5 : decode cX6_objectVersion 5 = .ok (.astore_n 2, 1) := by decide +kernel
theorem dX6_objectVersion_6 : decode cX6_objectVersion 6 = .ok (.aload_n 2, 1) := by decide +kernel
theorem dX6_objectVersion_7 : decode cX6_objectVersion 7 = .ok (.ifnonnull 6, 3) := by decide +kernel
theorem dX6_objectVersion_10 : decode cX6_objectVersion 10 = .ok (.ldc 156, 2) := by decide +kernel
theorem dX6_objectVersion_12 : decode cX6_objectVersion 12 = .ok (.ireturn, 1) := by decide +kernel
theorem dX6_objectVersion_13 : decode cX6_objectVersion 13 = .ok (.aload_n 2, 1) := by decide +kernel
theorem dX6_objectVersion_14 : decode cX6_objectVersion 14 = .ok (.getfield 158, 3) := by decide +kernel
theorem dX6_objectVersion_17 : decode cX6_objectVersion 17 = .ok (.ireturn, 1) := by decide +kernel
set_option maxRecDepth 20000 in
theorem ggX6_conversions_X6_existingObject : GoodIn wsX6_conversions wsX6_existingObject := goodIn_r _ [6, 7, 8, 13, 14, 15, 16, 17] (by decide +kernel) (by decide +kernel)
set_option maxRecDepth 20000 in
theorem gX6_conversions_X6_existingObject : GoodIn wsX6_conversions (wsV RX6 149 RX6 yX6_existingObject wsX6_existingObject) := goodIn_app (goodIn_of _ (by decide +kernel)) ggX6_conversions_X6_existingObject
theorem dX6_conversions_0 : decode cX6_conversions 0 = .ok (.aload_n 0, 1) := by decide +kernel
theorem dX6_conversions_1 : decode cX6_conversions 1 = .ok (.iload_n 1, 1) := by decide +kernel
theorem dX6_conversions_2 : decode cX6_conversions 2 = .ok (.invokevirtual 149, 3) := by decide +kernel
theorem dX6_conversions_5 : decode cX6_conversions 5 = .ok (.astore_n 2, 1) := by decide +kernel
theorem dX6_conversions_6 : decode cX6_conversions 6 = .ok (.aload_n 2, 1) := by decide +kernel
theorem dX6_conversions_7 : decode cX6_conversions 7 = .ok (.ifnonnull 6, 3) := by decide +kernel
theorem dX6_conversions_10 : decode cX6_conversions 10 = .ok (.ldc 156, 2) := by decide +kernel
theorem dX6_conversions_12 : decode cX6_conversions 12 = .ok (.ireturn, 1) := by decide +kernel
theorem dX6_conversions_13 : decode cX6_conversions 13 = .ok (.aload_n 2, 1) := by decide +kernel
theorem dX6_conversions_14 : decode cX6_conversions 14 = .ok (.getfield 158, 3) := by decide +kernel
theorem dX6_conversions_17 : decode cX6_conversions 17 = .ok (.aload_n 2, 1) := by decide +kernel
theorem dX6_conversions_18 : decode cX6_conversions 18 = .ok (.getfield 162, 3) := by decide +kernel
theorem dX6_conversions_21 : decode cX6_conversions 21 = .ok (.isub, 1) := by decide +kernel
theorem dX6_conversions_22 : decode cX6_conversions 22 = .ok (.ireturn, 1) := by decide +kernel
set_option maxRecDepth 20000 in
theorem ggX6_pinnedBy_X6_existingObject : GoodIn wsX6_pinnedBy wsX6_existingObject := goodIn_r _ [7, 8, 9, 33, 34, 35, 36, 37] (by decide +kernel) (by decide +kernel)
set_option maxRecDepth 20000 in
theorem gX6_pinnedBy_X6_existingObject : GoodIn wsX6_pinnedBy (wsV RX6 149 RX6 yX6_existingObject wsX6_existingObject) := goodIn_app (goodIn_of _ (by decide +kernel)) ggX6_pinnedBy_X6_existingObject
set_option maxRecDepth 20000 in
theorem ggX6_pinnedBy_X6_smallestPin : GoodIn wsX6_pinnedBy wsX6_smallestPin := goodIn_r _ [13, 14, 15, 16, 17, 18, 19, 20, 21, 22, 23, 24, 25, 26, 27, 28, 29, 30, 31, 32, 33, 34, 35, 36, 37, 38, 39, 40, 41, 42] (by decide +kernel) (by decide +kernel)
set_option maxRecDepth 20000 in
theorem gX6_pinnedBy_X6_smallestPin : GoodIn wsX6_pinnedBy (wsV RX6 165 RX6 yX6_smallestPin wsX6_smallestPin) := goodIn_app (goodIn_of _ (by decide +kernel)) ggX6_pinnedBy_X6_smallestPin
theorem dX6_pinnedBy_0 : decode cX6_pinnedBy 0 = .ok (.aload_n 0, 1) := by decide +kernel
theorem dX6_pinnedBy_1 : decode cX6_pinnedBy 1 = .ok (.iload_n 1, 1) := by decide +kernel
theorem dX6_pinnedBy_2 : decode cX6_pinnedBy 2 = .ok (.invokevirtual 149, 3) := by decide +kernel
theorem dX6_pinnedBy_5 : decode cX6_pinnedBy 5 = .ok (.ifnonnull 6, 3) := by decide +kernel
theorem dX6_pinnedBy_8 : decode cX6_pinnedBy 8 = .ok (.ldc 156, 2) := by decide +kernel
theorem dX6_pinnedBy_10 : decode cX6_pinnedBy 10 = .ok (.ireturn, 1) := by decide +kernel
theorem dX6_pinnedBy_11 : decode cX6_pinnedBy 11 = .ok (.aload_n 0, 1) := by decide +kernel
theorem dX6_pinnedBy_12 : decode cX6_pinnedBy 12 = .ok (.iload_n 1, 1) := by decide +kernel
theorem dX6_pinnedBy_13 : decode cX6_pinnedBy 13 = .ok (.invokevirtual 165, 3) := by decide +kernel
theorem dX6_pinnedBy_16 : decode cX6_pinnedBy 16 = .ok (.istore_n 2, 1) := by decide +kernel
theorem dX6_pinnedBy_17 : decode cX6_pinnedBy 17 = .ok (.iload_n 2, 1) := by decide +kernel
theorem dX6_pinnedBy_18 : decode cX6_pinnedBy 18 = .ok (.bipush 8, 2) := by decide +kernel
theorem dX6_pinnedBy_20 : decode cX6_pinnedBy 20 = .ok (.if_icmp .lt 6, 3) := by decide +kernel
theorem dX6_pinnedBy_23 : decode cX6_pinnedBy 23 = .ok (.ldc 168, 2) := by decide +kernel
theorem dX6_pinnedBy_25 : decode cX6_pinnedBy 25 = .ok (.ireturn, 1) := by decide +kernel
theorem dX6_pinnedBy_26 : decode cX6_pinnedBy 26 = .ok (.iload_n 2, 1) := by decide +kernel
theorem dX6_pinnedBy_27 : decode cX6_pinnedBy 27 = .ok (.ireturn, 1) := by decide +kernel
set_option maxRecDepth 20000 in
theorem ggX6_outdated_X6_historyOf : GoodIn wsX6_outdated wsX6_historyOf := goodIn_r _ [7, 8, 9, 19, 20, 21, 22, 23] (by decide +kernel) (by decide +kernel)
set_option maxRecDepth 20000 in
theorem gX6_outdated_X6_historyOf : GoodIn wsX6_outdated (wsV RX6 37 RX6 yX6_historyOf wsX6_historyOf) := goodIn_app (goodIn_of _ (by decide +kernel)) ggX6_outdated_X6_historyOf
set_option maxRecDepth 20000 in
theorem ggX6_outdated_X6_outdatedObject : GoodIn wsX6_outdated wsX6_outdatedObject := goodIn_r _ [13, 14, 15, 16, 6, 17, 2, 18, 24, 25, 26, 27, 28, 29, 30, 31, 32, 19, 20, 21, 22, 23] (by decide +kernel) (by decide +kernel)
set_option maxRecDepth 20000 in
theorem gX6_outdated_X6_outdatedObject : GoodIn wsX6_outdated (wsV RX6 169 RX6 yX6_outdatedObject wsX6_outdatedObject) := goodIn_app (goodIn_of _ (by decide +kernel)) ggX6_outdated_X6_outdatedObject
theorem dX6_outdated_0 : decode cX6_outdated 0 = .ok (.aload_n 0, 1) := by decide +kernel
theorem dX6_outdated_1 : decode cX6_outdated 1 = .ok (.iload_n 1, 1) := by decide +kernel
theorem dX6_outdated_2 : decode cX6_outdated 2 = .ok (.invokevirtual 37, 3) := by decide +kernel
theorem dX6_outdated_5 : decode cX6_outdated 5 = .ok (.astore_n 2, 1) := by decide +kernel
theorem dX6_outdated_6 : decode cX6_outdated 6 = .ok (.aload_n 2, 1) := by decide +kernel
theorem dX6_outdated_7 : decode cX6_outdated 7 = .ok (.ifnonnull 6, 3) := by decide +kernel
theorem dX6_outdated_10 : decode cX6_outdated 10 = .ok (.ldc 41, 2) := by decide +kernel
theorem dX6_outdated_12 : decode cX6_outdated 12 = .ok (.ireturn, 1) := by decide +kernel
theorem dX6_outdated_13 : decode cX6_outdated 13 = .ok (.iconst 0, 1) := by decide +kernel
theorem dX6_outdated_14 : decode cX6_outdated 14 = .ok (.istore_n 3, 1) := by decide +kernel
theorem dX6_outdated_15 : decode cX6_outdated 15 = .ok (.iconst 0, 1) := by decide +kernel
theorem dX6_outdated_16 : decode cX6_outdated 16 = .ok (.istore 4, 2) := by decide +kernel
theorem dX6_outdated_18 : decode cX6_outdated 18 = .ok (.iload 4, 2) := by decide +kernel
theorem dX6_outdated_20 : decode cX6_outdated 20 = .ok (.aload_n 0, 1) := by decide +kernel
theorem dX6_outdated_21 : decode cX6_outdated 21 = .ok (.getfield 136, 3) := by decide +kernel
theorem dX6_outdated_24 : decode cX6_outdated 24 = .ok (.if_icmp .ge 22, 3) := by decide +kernel
theorem dX6_outdated_27 : decode cX6_outdated 27 = .ok (.aload_n 0, 1) := by decide +kernel
theorem dX6_outdated_28 : decode cX6_outdated 28 = .ok (.iload 4, 2) := by decide +kernel
theorem dX6_outdated_30 : decode cX6_outdated 30 = .ok (.aload_n 2, 1) := by decide +kernel
theorem dX6_outdated_31 : decode cX6_outdated 31 = .ok (.invokevirtual 169, 3) := by decide +kernel
theorem dX6_outdated_34 : decode cX6_outdated 34 = .ok (.ifnull 6, 3) := by decide +kernel
theorem dX6_outdated_37 : decode cX6_outdated 37 = .ok (.iinc 3 1, 3) := by decide +kernel
theorem dX6_outdated_40 : decode cX6_outdated 40 = .ok (.iinc 4 1, 3) := by decide +kernel
theorem dX6_outdated_43 : decode cX6_outdated 43 = .ok (.goto (-25), 3) := by decide +kernel
theorem dX6_outdated_46 : decode cX6_outdated 46 = .ok (.iload_n 3, 1) := by decide +kernel
theorem dX6_outdated_47 : decode cX6_outdated 47 = .ok (.ireturn, 1) := by decide +kernel
set_option maxRecDepth 20000 in
theorem ggX6_convertAll_X6_historyOf : GoodIn wsX6_convertAll wsX6_historyOf := goodIn_r _ [7, 8, 9, 78, 79, 80, 81, 82] (by decide +kernel) (by decide +kernel)
set_option maxRecDepth 20000 in
theorem gX6_convertAll_X6_historyOf : GoodIn wsX6_convertAll (wsV RX6 37 RX6 yX6_historyOf wsX6_historyOf) := goodIn_app (goodIn_of _ (by decide +kernel)) ggX6_convertAll_X6_historyOf
set_option maxRecDepth 20000 in
theorem ggX6_convertAll_X6_outdatedObject : GoodIn wsX6_convertAll wsX6_outdatedObject := goodIn_r _ [13, 14, 15, 16, 6, 17, 2, 18, 88, 89, 90, 91, 83, 84, 85, 86, 87, 78, 79, 80, 81, 82] (by decide +kernel) (by decide +kernel)
set_option maxRecDepth 20000 in
theorem gX6_convertAll_X6_outdatedObject : GoodIn wsX6_convertAll (wsV RX6 169 RX6 yX6_outdatedObject wsX6_outdatedObject) := goodIn_app (goodIn_of _ (by decide +kernel)) ggX6_convertAll_X6_outdatedObject
set_option maxRecDepth 20000 in
theorem ggX6_convertAll_X6_smallestPin : GoodIn wsX6_convertAll wsX6_smallestPin := goodIn_r _ [22, 23, 24, 25, 26, 27, 28, 29, 30, 31, 32, 33, 34, 35, 36, 37, 38, 39, 40, 41, 78, 79, 80, 81, 82, 92, 93, 94, 95, 96] (by decide +kernel) (by decide +kernel)
set_option maxRecDepth 20000 in
theorem gX6_convertAll_X6_smallestPin : GoodIn wsX6_convertAll (wsV RX6 165 RX6 yX6_smallestPin wsX6_smallestPin) := goodIn_app (goodIn_of _ (by decide +kernel)) ggX6_convertAll_X6_smallestPin
set_option maxRecDepth 20000 in
theorem ggX6_convertAll_X5_convertTo : GoodIn wsX6_convertAll wsX5_convertTo := goodIn_r _ [46, 47, 48, 49, 50, 51, 52, 53, 54, 55, 56, 57, 58, 59, 60, 61, 62, 63, 64, 65, 66, 67, 68, 69, 70, 71, 72, 6, 73, 74, 75, 76, 77, 88, 89, 90, 91, 83, 84, 85, 86, 87, 97, 98, 99, 100, 101] (by decide +kernel) (by decide +kernel)
set_option maxRecDepth 20000 in
theorem gX6_convertAll_X5_convertTo : GoodIn wsX6_convertAll (wsV RX6 173 RX5 yX5_convertTo wsX5_convertTo) := goodIn_app (goodIn_of _ (by decide +kernel)) ggX6_convertAll_X5_convertTo
theorem dX6_convertAll_0 : decode cX6_convertAll 0 = .ok (.aload_n 0, 1) := by decide +kernel
theorem dX6_convertAll_1 : decode cX6_convertAll 1 = .ok (.iload_n 1, 1) := by decide +kernel
theorem dX6_convertAll_2 : decode cX6_convertAll 2 = .ok (.invokevirtual 37, 3) := by decide +kernel
theorem dX6_convertAll_5 : decode cX6_convertAll 5 = .ok (.astore_n 2, 1) := by decide +kernel
theorem dX6_convertAll_6 : decode cX6_convertAll 6 = .ok (.aload_n 2, 1) := by decide +kernel
theorem dX6_convertAll_7 : decode cX6_convertAll 7 = .ok (.ifnonnull 6, 3) := by decide +kernel
theorem dX6_convertAll_10 : decode cX6_convertAll 10 = .ok (.ldc 41, 2) := by decide +kernel
theorem dX6_convertAll_12 : decode cX6_convertAll 12 = .ok (.ireturn, 1) := by decide +kernel
theorem dX6_convertAll_13 : decode cX6_convertAll 13 = .ok (.iconst 0, 1) := by decide +kernel
theorem dX6_convertAll_14 : decode cX6_convertAll 14 = .ok (.istore_n 3, 1) := by decide +kernel
theorem dX6_convertAll_15 : decode cX6_convertAll 15 = .ok (.iconst 0, 1) := by decide +kernel
theorem dX6_convertAll_16 : decode cX6_convertAll 16 = .ok (.istore 4, 2) := by decide +kernel
theorem dX6_convertAll_18 : decode cX6_convertAll 18 = .ok (.iload 4, 2) := by decide +kernel
theorem dX6_convertAll_20 : decode cX6_convertAll 20 = .ok (.aload_n 0, 1) := by decide +kernel
theorem dX6_convertAll_21 : decode cX6_convertAll 21 = .ok (.getfield 136, 3) := by decide +kernel
theorem dX6_convertAll_24 : decode cX6_convertAll 24 = .ok (.if_icmp .ge 51, 3) := by decide +kernel
theorem dX6_convertAll_27 : decode cX6_convertAll 27 = .ok (.aload_n 0, 1) := by decide +kernel
theorem dX6_convertAll_28 : decode cX6_convertAll 28 = .ok (.iload 4, 2) := by decide +kernel
theorem dX6_convertAll_30 : decode cX6_convertAll 30 = .ok (.aload_n 2, 1) := by decide +kernel
theorem dX6_convertAll_31 : decode cX6_convertAll 31 = .ok (.invokevirtual 169, 3) := by decide +kernel
theorem dX6_convertAll_34 : decode cX6_convertAll 34 = .ok (.astore 5, 2) := by decide +kernel
theorem dX6_convertAll_36 : decode cX6_convertAll 36 = .ok (.aload 5, 2) := by decide +kernel
theorem dX6_convertAll_38 : decode cX6_convertAll 38 = .ok (.ifnull 31, 3) := by decide +kernel
theorem dX6_convertAll_41 : decode cX6_convertAll 41 = .ok (.aload_n 0, 1) := by decide +kernel
theorem dX6_convertAll_42 : decode cX6_convertAll 42 = .ok (.iload 4, 2) := by decide +kernel
theorem dX6_convertAll_44 : decode cX6_convertAll 44 = .ok (.invokevirtual 165, 3) := by decide +kernel
theorem dX6_convertAll_47 : decode cX6_convertAll 47 = .ok (.aload_n 2, 1) := by decide +kernel
theorem dX6_convertAll_48 : decode cX6_convertAll 48 = .ok (.getfield 42, 3) := by decide +kernel
theorem dX6_convertAll_51 : decode cX6_convertAll 51 = .ok (.if_icmp .lt 18, 3) := by decide +kernel
theorem dX6_convertAll_54 : decode cX6_convertAll 54 = .ok (.aload 5, 2) := by decide +kernel
theorem dX6_convertAll_56 : decode cX6_convertAll 56 = .ok (.aload_n 2, 1) := by decide +kernel
theorem dX6_convertAll_57 : decode cX6_convertAll 57 = .ok (.getfield 42, 3) := by decide +kernel
theorem dX6_convertAll_60 : decode cX6_convertAll 60 = .ok (.invokevirtual 173, 3) := by decide +kernel
theorem dX6_convertAll_63 : decode cX6_convertAll 63 = .ok (.ifCond .eq 6, 3) := by decide +kernel
theorem dX6_convertAll_66 : decode cX6_convertAll 66 = .ok (.iinc 3 1, 3) := by decide +kernel
theorem dX6_convertAll_69 : decode cX6_convertAll 69 = .ok (.iinc 4 1, 3) := by decide +kernel
theorem dX6_convertAll_72 : decode cX6_convertAll 72 = .ok (.goto (-54), 3) := by decide +kernel
theorem dX6_convertAll_75 : decode cX6_convertAll 75 = .ok (.iload_n 3, 1) := by decide +kernel
theorem dX6_convertAll_76 : decode cX6_convertAll 76 = .ok (.ireturn, 1) := by decide +kernel
theorem dX6_isField_0 : decode cX6_isField 0 = .ok (.iload_n 0, 1) := by decide +kernel
theorem dX6_isField_1 : decode cX6_isField 1 = .ok (.ifCond .lt 13, 3) := by decide +kernel
theorem dX6_isField_4 : decode cX6_isField 4 = .ok (.iload_n 0, 1) := by decide +kernel
theorem dX6_isField_5 : decode cX6_isField 5 = .ok (.bipush 8, 2) := by decide +kernel
theorem dX6_isField_7 : decode cX6_isField 7 = .ok (.if_icmp .ge 7, 3) := by decide +kernel
theorem dX6_isField_10 : decode cX6_isField 10 = .ok (.iconst 1, 1) := by decide +kernel
theorem dX6_isField_11 : decode cX6_isField 11 = .ok (.goto 4, 3) := by decide +kernel
theorem dX6_isField_14 : decode cX6_isField 14 = .ok (.iconst 0, 1) := by decide +kernel
theorem dX6_isField_15 : decode cX6_isField 15 = .ok (.ireturn, 1) := by decide +kernel
theorem dX6_isValue_0 : decode cX6_isValue 0 = .ok (.lload_n 0, 1) := by decide +kernel
theorem dX6_isValue_1 : decode cX6_isValue 1 = .ok (.ldc2_w 176, 3) := by decide +kernel
theorem dX6_isValue_4 : decode cX6_isValue 4 = .ok (.lcmp, 1) := by decide +kernel
theorem dX6_isValue_5 : decode cX6_isValue 5 = .ok (.ifCond .lt 15, 3) := by decide +kernel
theorem dX6_isValue_8 : decode cX6_isValue 8 = .ok (.lload_n 0, 1) := by decide +kernel
theorem dX6_isValue_9 : decode cX6_isValue 9 = .ok (.ldc2_w 178, 3) := by decide +kernel
theorem dX6_isValue_12 : decode cX6_isValue 12 = .ok (.lcmp, 1) := by decide +kernel
theorem dX6_isValue_13 : decode cX6_isValue 13 = .ok (.ifCond .gt 7, 3) := by decide +kernel
theorem dX6_isValue_16 : decode cX6_isValue 16 = .ok (.iconst 1, 1) := by decide +kernel
theorem dX6_isValue_17 : decode cX6_isValue 17 = .ok (.goto 4, 3) := by decide +kernel
theorem dX6_isValue_20 : decode cX6_isValue 20 = .ok (.iconst 0, 1) := by decide +kernel
theorem dX6_isValue_21 : decode cX6_isValue 21 = .ok (.ireturn, 1) := by decide +kernel
set_option maxRecDepth 20000 in
theorem ggX6_contains_X6_isField : GoodIn wsX6_contains wsX6_isField := goodIn_r _ [4] (by decide +kernel) (by decide +kernel)
set_option maxRecDepth 20000 in
theorem gX6_contains_X6_isField : GoodIn wsX6_contains (va_wsS RX6 63 yX6_isField wsX6_isField) := goodIn_app (goodIn_of _ (by decide +kernel)) ggX6_contains_X6_isField
theorem dX6_contains_0 : decode cX6_contains 0 = .ok (.iload_n 1, 1) := by decide +kernel
theorem dX6_contains_1 : decode cX6_contains 1 = .ok (.invokestatic 63, 3) := by decide +kernel
theorem dX6_contains_4 : decode cX6_contains 4 = .ok (.ifCond .eq 16, 3) := by decide +kernel
theorem dX6_contains_7 : decode cX6_contains 7 = .ok (.iload_n 0, 1) := by decide +kernel
theorem dX6_contains_8 : decode cX6_contains 8 = .ok (.iload_n 1, 1) := by decide +kernel
theorem dX6_contains_9 : decode cX6_contains 9 = .ok (.ishr, 1) := by decide +kernel
theorem dX6_contains_10 : decode cX6_contains 10 = .ok (.iconst 1, 1) := by decide +kernel
theorem dX6_contains_11 : decode cX6_contains 11 = .ok (.iand, 1) := by decide +kernel
theorem dX6_contains_12 : decode cX6_contains 12 = .ok (.iconst 1, 1) := by decide +kernel
theorem dX6_contains_13 : decode cX6_contains 13 = .ok (.if_icmp .ne 7, 3) := by decide +kernel
theorem dX6_contains_16 : decode cX6_contains 16 = .ok (.iconst 1, 1) := by decide +kernel
theorem dX6_contains_17 : decode cX6_contains 17 = .ok (.goto 4, 3) := by decide +kernel
theorem dX6_contains_20 : decode cX6_contains 20 = .ok (.iconst 0, 1) := by decide +kernel
theorem dX6_contains_21 : decode cX6_contains 21 = .ok (.ireturn, 1) := by decide +kernel
theorem dX6_historyOf_0 : decode cX6_historyOf 0 = .ok (.iload_n 1, 1) := by decide +kernel
theorem dX6_historyOf_1 : decode cX6_historyOf 1 = .ok (.ifCond .lt 11, 3) := by decide +kernel
theorem dX6_historyOf_4 : decode cX6_historyOf 4 = .ok (.iload_n 1, 1) := by decide +kernel
theorem dX6_historyOf_5 : decode cX6_historyOf 5 = .ok (.aload_n 0, 1) := by decide +kernel
theorem dX6_historyOf_6 : decode cX6_historyOf 6 = .ok (.getfield 29, 3) := by decide +kernel
theorem dX6_historyOf_9 : decode cX6_historyOf 9 = .ok (.if_icmp .lt 5, 3) := by decide +kernel
theorem dX6_historyOf_12 : decode cX6_historyOf 12 = .ok (.aconst_null, 1) := by decide +kernel
theorem dX6_historyOf_13 : decode cX6_historyOf 13 = .ok (.areturn, 1) := by decide +kernel
theorem dX6_historyOf_14 : decode cX6_historyOf 14 = .ok (.aload_n 0, 1) := by decide +kernel
theorem dX6_historyOf_15 : decode cX6_historyOf 15 = .ok (.getfield 11, 3) := by decide +kernel
theorem dX6_historyOf_18 : decode cX6_historyOf 18 = .ok (.iload_n 1, 1) := by decide +kernel
theorem dX6_historyOf_19 : decode cX6_historyOf 19 = .ok (.aaload, 1) := by decide +kernel
theorem dX6_historyOf_20 : decode cX6_historyOf 20 = .ok (.areturn, 1) := by decide +kernel
theorem dX6_stackOf_0 : decode cX6_stackOf 0 = .ok (.iload_n 1, 1) := by decide +kernel
theorem dX6_stackOf_1 : decode cX6_stackOf 1 = .ok (.ifCond .lt 8, 3) := by decide +kernel
theorem dX6_stackOf_4 : decode cX6_stackOf 4 = .ok (.iload_n 1, 1) := by decide +kernel
theorem dX6_stackOf_5 : decode cX6_stackOf 5 = .ok (.iconst 4, 1) := by decide +kernel
theorem dX6_stackOf_6 : decode cX6_stackOf 6 = .ok (.if_icmp .lt 5, 3) := by decide +kernel
theorem dX6_stackOf_9 : decode cX6_stackOf 9 = .ok (.aconst_null, 1) := by decide +kernel
theorem dX6_stackOf_10 : decode cX6_stackOf 10 = .ok (.areturn, 1) := by decide +kernel
theorem dX6_stackOf_11 : decode cX6_stackOf 11 = .ok (.aload_n 0, 1) := by decide +kernel
theorem dX6_stackOf_12 : decode cX6_stackOf 12 = .ok (.getfield 17, 3) := by decide +kernel
theorem dX6_stackOf_15 : decode cX6_stackOf 15 = .ok (.iload_n 1, 1) := by decide +kernel
theorem dX6_stackOf_16 : decode cX6_stackOf 16 = .ok (.aaload, 1) := by decide +kernel
theorem dX6_stackOf_17 : decode cX6_stackOf 17 = .ok (.areturn, 1) := by decide +kernel
theorem dX6_existingObject_0 : decode cX6_existingObject 0 = .ok (.iload_n 1, 1) := by decide +kernel
theorem dX6_existingObject_1 : decode cX6_existingObject 1 = .ok (.ifCond .lt 11, 3) := by decide +kernel
theorem dX6_existingObject_4 : decode cX6_existingObject 4 = .ok (.iload_n 1, 1) := by decide +kernel
theorem dX6_existingObject_5 : decode cX6_existingObject 5 = .ok (.aload_n 0, 1) := by decide +kernel
theorem dX6_existingObject_6 : decode cX6_existingObject 6 = .ok (.getfield 136, 3) := by decide +kernel
theorem dX6_existingObject_9 : decode cX6_existingObject 9 = .ok (.if_icmp .lt 5, 3) := by decide +kernel
theorem dX6_existingObject_12 : decode cX6_existingObject 12 = .ok (.aconst_null, 1) := by decide +kernel
theorem dX6_existingObject_13 : decode cX6_existingObject 13 = .ok (.areturn, 1) := by decide +kernel
theorem dX6_existingObject_14 : decode cX6_existingObject 14 = .ok (.aload_n 0, 1) := by decide +kernel
theorem dX6_existingObject_15 : decode cX6_existingObject 15 = .ok (.getfield 24, 3) := by decide +kernel
theorem dX6_existingObject_18 : decode cX6_existingObject 18 = .ok (.iload_n 1, 1) := by decide +kernel
theorem dX6_existingObject_19 : decode cX6_existingObject 19 = .ok (.aaload, 1) := by decide +kernel
theorem dX6_existingObject_20 : decode cX6_existingObject 20 = .ok (.areturn, 1) := by decide +kernel
set_option maxRecDepth 20000 in
theorem ggX6_countFrames_X0_countFrames : GoodIn wsX6_countFrames wsX0_countFrames := goodIn_r _ [6, 7, 8, 14, 15, 16, 17, 18, 19, 20, 21, 22, 23] (by decide +kernel) (by decide +kernel)
set_option maxRecDepth 20000 in
theorem gX6_countFrames_X0_countFrames : GoodIn wsX6_countFrames (wsV RX6 180 RX0 yX0_countFrames wsX0_countFrames) := goodIn_app (goodIn_of _ (by decide +kernel)) ggX6_countFrames_X0_countFrames
theorem dX6_countFrames_0 : decode cX6_countFrames 0 = .ok (.iconst 0, 1) := by decide +kernel
theorem dX6_countFrames_1 : decode cX6_countFrames 1 = .ok (.istore 4, 2) := by decide +kernel
theorem dX6_countFrames_3 : decode cX6_countFrames 3 = .ok (.iconst 0, 1) := by decide +kernel
theorem dX6_countFrames_4 : decode cX6_countFrames 4 = .ok (.istore 5, 2) := by decide +kernel
theorem dX6_countFrames_6 : decode cX6_countFrames 6 = .ok (.iload 5, 2) := by decide +kernel
theorem dX6_countFrames_8 : decode cX6_countFrames 8 = .ok (.iconst 4, 1) := by decide +kernel
theorem dX6_countFrames_9 : decode cX6_countFrames 9 = .ok (.if_icmp .ge 27, 3) := by decide +kernel
theorem dX6_countFrames_12 : decode cX6_countFrames 12 = .ok (.iload 4, 2) := by decide +kernel
theorem dX6_countFrames_14 : decode cX6_countFrames 14 = .ok (.aload_n 0, 1) := by decide +kernel
theorem dX6_countFrames_15 : decode cX6_countFrames 15 = .ok (.getfield 17, 3) := by decide +kernel
theorem dX6_countFrames_18 : decode cX6_countFrames 18 = .ok (.iload 5, 2) := by decide +kernel
theorem dX6_countFrames_20 : decode cX6_countFrames 20 = .ok (.aaload, 1) := by decide +kernel
theorem dX6_countFrames_21 : decode cX6_countFrames 21 = .ok (.iload_n 1, 1) := by decide +kernel
theorem dX6_countFrames_22 : decode cX6_countFrames 22 = .ok (.iload_n 2, 1) := by decide +kernel
theorem dX6_countFrames_23 : decode cX6_countFrames 23 = .ok (.iload_n 3, 1) := by decide +kernel
theorem dX6_countFrames_24 : decode cX6_countFrames 24 = .ok (.invokevirtual 180, 3) := by decide +kernel
theorem dX6_countFrames_27 : decode cX6_countFrames 27 = .ok (.iadd, 1) := by decide +kernel
theorem dX6_countFrames_28 : decode cX6_countFrames 28 = .ok (.istore 4, 2) := by decide +kernel
theorem dX6_countFrames_30 : decode cX6_countFrames 30 = .ok (.iinc 5 1, 3) := by decide +kernel
theorem dX6_countFrames_33 : decode cX6_countFrames 33 = .ok (.goto (-27), 3) := by decide +kernel
theorem dX6_countFrames_36 : decode cX6_countFrames 36 = .ok (.iload 4, 2) := by decide +kernel
theorem dX6_countFrames_38 : decode cX6_countFrames 38 = .ok (.ireturn, 1) := by decide +kernel
set_option maxRecDepth 20000 in
theorem ggX6_smallestPin_X0_smallestPin : GoodIn wsX6_smallestPin wsX0_smallestPin := goodIn_r _ [10, 11, 12, 13, 3, 4, 5, 14, 15, 16, 17, 18, 19, 25, 26, 27, 28, 29] (by decide +kernel) (by decide +kernel)
set_option maxRecDepth 20000 in
theorem gX6_smallestPin_X0_smallestPin : GoodIn wsX6_smallestPin (wsV RX6 181 RX0 yX0_smallestPin wsX0_smallestPin) := goodIn_app (goodIn_of _ (by decide +kernel)) ggX6_smallestPin_X0_smallestPin
theorem dX6_smallestPin_0 : decode cX6_smallestPin 0 = .ok (.bipush 8, 2) := by decide +kernel
theorem dX6_smallestPin_2 : decode cX6_smallestPin 2 = .ok (.istore_n 2, 1) := by decide +kernel
theorem dX6_smallestPin_3 : decode cX6_smallestPin 3 = .ok (.iconst 0, 1) := by decide +kernel
theorem dX6_smallestPin_4 : decode cX6_smallestPin 4 = .ok (.istore_n 3, 1) := by decide +kernel
theorem dX6_smallestPin_5 : decode cX6_smallestPin 5 = .ok (.iload_n 3, 1) := by decide +kernel
theorem dX6_smallestPin_6 : decode cX6_smallestPin 6 = .ok (.iconst 4, 1) := by decide +kernel
theorem dX6_smallestPin_7 : decode cX6_smallestPin 7 = .ok (.if_icmp .ge 24, 3) := by decide +kernel
theorem dX6_smallestPin_10 : decode cX6_smallestPin 10 = .ok (.iload_n 2, 1) := by decide +kernel
theorem dX6_smallestPin_11 : decode cX6_smallestPin 11 = .ok (.aload_n 0, 1) := by decide +kernel
theorem dX6_smallestPin_12 : decode cX6_smallestPin 12 = .ok (.getfield 17, 3) := by decide +kernel
theorem dX6_smallestPin_15 : decode cX6_smallestPin 15 = .ok (.iload_n 3, 1) := by decide +kernel
theorem dX6_smallestPin_16 : decode cX6_smallestPin 16 = .ok (.aaload, 1) := by decide +kernel
theorem dX6_smallestPin_17 : decode cX6_smallestPin 17 = .ok (.iload_n 1, 1) := by decide +kernel
theorem dX6_smallestPin_18 : decode cX6_smallestPin 18 = .ok (.invokevirtual 181, 3) := by decide +kernel
theorem dX6_smallestPin_21 : decode cX6_smallestPin 21 = .ok (.invokestatic 182, 3) := by decide +kernel
theorem dX6_smallestPin_24 : decode cX6_smallestPin 24 = .ok (.istore_n 2, 1) := by decide +kernel
theorem dX6_smallestPin_25 : decode cX6_smallestPin 25 = .ok (.iinc 3 1, 3) := by decide +kernel
theorem dX6_smallestPin_28 : decode cX6_smallestPin 28 = .ok (.goto (-23), 3) := by decide +kernel
theorem dX6_smallestPin_31 : decode cX6_smallestPin 31 = .ok (.iload_n 2, 1) := by decide +kernel
theorem dX6_smallestPin_32 : decode cX6_smallestPin 32 = .ok (.ireturn, 1) := by decide +kernel
set_option maxRecDepth 20000 in
theorem ggX6_access_X6_stackOf : GoodIn wsX6_access wsX6_stackOf := goodIn_r _ [13, 14, 117, 118, 119, 120, 121] (by decide +kernel) (by decide +kernel)
set_option maxRecDepth 20000 in
theorem gX6_access_X6_stackOf : GoodIn wsX6_access (wsV RX6 100 RX6 yX6_stackOf wsX6_stackOf) := goodIn_app (goodIn_of _ (by decide +kernel)) ggX6_access_X6_stackOf
set_option maxRecDepth 20000 in
theorem ggX6_access_X0_top : GoodIn wsX6_access wsX0_top := goodIn_r _ [19, 20, 21, 22, 23, 18, 24, 25, 122, 123] (by decide +kernel) (by decide +kernel)
set_option maxRecDepth 20000 in
theorem gX6_access_X0_top : GoodIn wsX6_access (wsV RX6 132 RX0 yX0_top wsX0_top) := goodIn_app (goodIn_of _ (by decide +kernel)) ggX6_access_X0_top
set_option maxRecDepth 20000 in
theorem ggX6_access_X6_existingObject : GoodIn wsX6_access wsX6_existingObject := goodIn_r _ [29, 30, 31, 117, 118, 119, 120, 121] (by decide +kernel) (by decide +kernel)
set_option maxRecDepth 20000 in
theorem gX6_access_X6_existingObject : GoodIn wsX6_access (wsV RX6 149 RX6 yX6_existingObject wsX6_existingObject) := goodIn_app (goodIn_of _ (by decide +kernel)) ggX6_access_X6_existingObject
set_option maxRecDepth 20000 in
theorem ggX6_access_X1_fieldSet : GoodIn wsX6_access wsX1_fieldSet := goodIn_r _ [36, 37, 109, 110, 111, 112, 113] (by decide +kernel) (by decide +kernel)
set_option maxRecDepth 20000 in
theorem gX6_access_X1_fieldSet : GoodIn wsX6_access (wsV RX6 46 RX1 yX1_fieldSet wsX1_fieldSet) := goodIn_app (goodIn_of _ (by decide +kernel)) ggX6_access_X1_fieldSet
set_option maxRecDepth 20000 in
theorem ggX6_access_X6_contains : GoodIn wsX6_access wsX6_contains := goodIn_r _ [40, 41, 42, 12, 43] (by decide +kernel) (by decide +kernel)
set_option maxRecDepth 20000 in
theorem gX6_access_X6_contains : GoodIn wsX6_access (va_wsS RX6 71 yX6_contains wsX6_contains) := goodIn_app (goodIn_of _ (by decide +kernel)) ggX6_access_X6_contains
set_option maxRecDepth 20000 in
theorem ggX6_access_X6_smallestPin : GoodIn wsX6_access wsX6_smallestPin := goodIn_r _ [47, 14, 48, 49, 50, 51, 52, 53, 54, 18, 55, 20, 25, 56, 57, 58, 59, 60, 61, 62, 117, 118, 119, 120, 121, 122, 123, 114, 115, 116] (by decide +kernel) (by decide +kernel)
set_option maxRecDepth 20000 in
theorem gX6_access_X6_smallestPin : GoodIn wsX6_access (wsV RX6 165 RX6 yX6_smallestPin wsX6_smallestPin) := goodIn_app (goodIn_of _ (by decide +kernel)) ggX6_access_X6_smallestPin
set_option maxRecDepth 20000 in
theorem ggX6_access_X5_convertTo : GoodIn wsX6_access wsX5_convertTo := goodIn_r _ [67, 68, 69, 70, 71, 72, 73, 74, 75, 76, 77, 78, 79, 80, 81, 82, 83, 84, 85, 86, 87, 88, 89, 90, 91, 92, 42, 12, 43, 93, 94, 95, 96, 105, 106, 107, 108, 109, 110, 111, 112, 113, 124, 125, 126, 127, 128] (by decide +kernel) (by decide +kernel)
set_option maxRecDepth 20000 in
theorem gX6_access_X5_convertTo : GoodIn wsX6_access (wsV RX6 173 RX5 yX5_convertTo wsX5_convertTo) := goodIn_app (goodIn_of _ (by decide +kernel)) ggX6_access_X5_convertTo
set_option maxRecDepth 20000 in
theorem ggX6_access_X3_pin : GoodIn wsX6_access wsX3_pin := goodIn_r _ [100, 62, 114, 115, 116] (by decide +kernel) (by decide +kernel)
set_option maxRecDepth 20000 in
theorem gX6_access_X3_pin : GoodIn wsX6_access (wsV RX6 142 RX3 yX3_pin wsX3_pin) := goodIn_app (goodIn_of _ (by decide +kernel)) ggX6_access_X3_pin
set_option maxRecDepth 20000 in
theorem ggX6_access_X5_valueOf : GoodIn wsX6_access wsX5_valueOf := goodIn_r _ [104, 69, 68, 105, 106, 107, 108] (by decide +kernel) (by decide +kernel)
set_option maxRecDepth 20000 in
theorem gX6_access_X5_valueOf : GoodIn wsX6_access (wsV RX6 159 RX5 yX5_valueOf wsX5_valueOf) := goodIn_app (goodIn_of _ (by decide +kernel)) ggX6_access_X5_valueOf
theorem dX6_access_0 : decode cX6_access 0 = .ok (.aload_n 0, 1) := by decide +kernel
theorem dX6_access_1 : decode cX6_access 1 = .ok (.iload_n 1, 1) := by decide +kernel
theorem dX6_access_2 : decode cX6_access 2 = .ok (.invokevirtual 100, 3) := by decide +kernel
theorem dX6_access_5 : decode cX6_access 5 = .ok (.astore 4, 2) := by decide +kernel
theorem dX6_access_7 : decode cX6_access 7 = .ok (.aload 4, 2) := by decide +kernel
theorem dX6_access_9 : decode cX6_access 9 = .ok (.ifnonnull 6, 3) := by decide +kernel
theorem dX6_access_12 : decode cX6_access 12 = .ok (.ldc 104, 2) := by decide +kernel
theorem dX6_access_14 : decode cX6_access 14 = .ok (.ireturn, 1) := by decide +kernel
theorem dX6_access_15 : decode cX6_access 15 = .ok (.aload 4, 2) := by decide +kernel
theorem dX6_access_17 : decode cX6_access 17 = .ok (.invokevirtual 132, 3) := by decide +kernel
theorem dX6_access_20 : decode cX6_access 20 = .ok (.astore 5, 2) := by decide +kernel
theorem dX6_access_22 : decode cX6_access 22 = .ok (.aload 5, 2) := by decide +kernel
theorem dX6_access_24 : decode cX6_access 24 = .ok (.ifnonnull 6, 3) := by decide +kernel
theorem dX6_access_27 : decode cX6_access 27 = .ok (.ldc 119, 2) := by decide +kernel
theorem dX6_access_29 : decode cX6_access 29 = .ok (.ireturn, 1) := by decide +kernel
theorem dX6_access_30 : decode cX6_access 30 = .ok (.aload_n 0, 1) := by decide +kernel
theorem dX6_access_31 : decode cX6_access 31 = .ok (.iload_n 2, 1) := by decide +kernel
theorem dX6_access_32 : decode cX6_access 32 = .ok (.invokevirtual 149, 3) := by decide +kernel
theorem dX6_access_35 : decode cX6_access 35 = .ok (.astore 6, 2) := by decide +kernel
theorem dX6_access_37 : decode cX6_access 37 = .ok (.aload 6, 2) := by decide +kernel
theorem dX6_access_39 : decode cX6_access 39 = .ok (.ifnonnull 6, 3) := by decide +kernel
theorem dX6_access_42 : decode cX6_access 42 = .ok (.ldc 156, 2) := by decide +kernel
theorem dX6_access_44 : decode cX6_access 44 = .ok (.ireturn, 1) := by decide +kernel
theorem dX6_access_45 : decode cX6_access 45 = .ok (.aload 6, 2) := by decide +kernel
theorem dX6_access_47 : decode cX6_access 47 = .ok (.getfield 157, 3) := by decide +kernel
theorem dX6_access_50 : decode cX6_access 50 = .ok (.getfield 126, 3) := by decide +kernel
theorem dX6_access_53 : decode cX6_access 53 = .ok (.aload 5, 2) := by decide +kernel
theorem dX6_access_55 : decode cX6_access 55 = .ok (.getfield 120, 3) := by decide +kernel
theorem dX6_access_58 : decode cX6_access 58 = .ok (.getfield 126, 3) := by decide +kernel
theorem dX6_access_61 : decode cX6_access 61 = .ok (.if_icmp .eq 6, 3) := by decide +kernel
theorem dX6_access_64 : decode cX6_access 64 = .ok (.ldc 188, 2) := by decide +kernel
theorem dX6_access_66 : decode cX6_access 66 = .ok (.ireturn, 1) := by decide +kernel
theorem dX6_access_67 : decode cX6_access 67 = .ok (.aload 5, 2) := by decide +kernel
theorem dX6_access_69 : decode cX6_access 69 = .ok (.getfield 120, 3) := by decide +kernel
theorem dX6_access_72 : decode cX6_access 72 = .ok (.aload 5, 2) := by decide +kernel
theorem dX6_access_74 : decode cX6_access 74 = .ok (.getfield 129, 3) := by decide +kernel
theorem dX6_access_77 : decode cX6_access 77 = .ok (.invokevirtual 46, 3) := by decide +kernel
theorem dX6_access_80 : decode cX6_access 80 = .ok (.iload_n 3, 1) := by decide +kernel
theorem dX6_access_81 : decode cX6_access 81 = .ok (.invokestatic 71, 3) := by decide +kernel
theorem dX6_access_84 : decode cX6_access 84 = .ok (.ifCond .ne 6, 3) := by decide +kernel
theorem dX6_access_87 : decode cX6_access 87 = .ok (.ldc 81, 2) := by decide +kernel
theorem dX6_access_89 : decode cX6_access 89 = .ok (.ireturn, 1) := by decide +kernel
theorem dX6_access_90 : decode cX6_access 90 = .ok (.aload 6, 2) := by decide +kernel
theorem dX6_access_92 : decode cX6_access 92 = .ok (.getfield 158, 3) := by decide +kernel
theorem dX6_access_95 : decode cX6_access 95 = .ok (.aload 5, 2) := by decide +kernel
theorem dX6_access_97 : decode cX6_access 97 = .ok (.getfield 129, 3) := by decide +kernel
theorem dX6_access_100 : decode cX6_access 100 = .ok (.if_icmp .le 6, 3) := by decide +kernel
theorem dX6_access_103 : decode cX6_access 103 = .ok (.ldc 189, 2) := by decide +kernel
theorem dX6_access_105 : decode cX6_access 105 = .ok (.ireturn, 1) := by decide +kernel
theorem dX6_access_106 : decode cX6_access 106 = .ok (.aload 6, 2) := by decide +kernel
theorem dX6_access_108 : decode cX6_access 108 = .ok (.getfield 158, 3) := by decide +kernel
theorem dX6_access_111 : decode cX6_access 111 = .ok (.aload 5, 2) := by decide +kernel
theorem dX6_access_113 : decode cX6_access 113 = .ok (.getfield 129, 3) := by decide +kernel
theorem dX6_access_116 : decode cX6_access 116 = .ok (.if_icmp .ge 35, 3) := by decide +kernel
theorem dX6_access_119 : decode cX6_access 119 = .ok (.aload_n 0, 1) := by decide +kernel
theorem dX6_access_120 : decode cX6_access 120 = .ok (.iload_n 2, 1) := by decide +kernel
theorem dX6_access_121 : decode cX6_access 121 = .ok (.invokevirtual 165, 3) := by decide +kernel
theorem dX6_access_124 : decode cX6_access 124 = .ok (.aload 5, 2) := by decide +kernel
theorem dX6_access_126 : decode cX6_access 126 = .ok (.getfield 129, 3) := by decide +kernel
theorem dX6_access_129 : decode cX6_access 129 = .ok (.if_icmp .ge 6, 3) := by decide +kernel
theorem dX6_access_132 : decode cX6_access 132 = .ok (.ldc 190, 2) := by decide +kernel
theorem dX6_access_134 : decode cX6_access 134 = .ok (.ireturn, 1) := by decide +kernel
theorem dX6_access_135 : decode cX6_access 135 = .ok (.aload 6, 2) := by decide +kernel
theorem dX6_access_137 : decode cX6_access 137 = .ok (.aload 5, 2) := by decide +kernel
theorem dX6_access_139 : decode cX6_access 139 = .ok (.getfield 129, 3) := by decide +kernel
theorem dX6_access_142 : decode cX6_access 142 = .ok (.invokevirtual 173, 3) := by decide +kernel
theorem dX6_access_145 : decode cX6_access 145 = .ok (.ifCond .ne 6, 3) := by decide +kernel
theorem dX6_access_148 : decode cX6_access 148 = .ok (.ldc 191, 2) := by decide +kernel
theorem dX6_access_150 : decode cX6_access 150 = .ok (.ireturn, 1) := by decide +kernel
theorem dX6_access_151 : decode cX6_access 151 = .ok (.aload 5, 2) := by decide +kernel
theorem dX6_access_153 : decode cX6_access 153 = .ok (.iload_n 2, 1) := by decide +kernel
theorem dX6_access_154 : decode cX6_access 154 = .ok (.invokevirtual 142, 3) := by decide +kernel
theorem dX6_access_157 : decode cX6_access 157 = .ok (.aload 6, 2) := by decide +kernel
theorem dX6_access_159 : decode cX6_access 159 = .ok (.iload_n 3, 1) := by decide +kernel
theorem dX6_access_160 : decode cX6_access 160 = .ok (.invokevirtual 159, 3) := by decide +kernel
theorem dX6_access_163 : decode cX6_access 163 = .ok (.ireturn, 1) := by decide +kernel
set_option maxRecDepth 20000 in
theorem ggX6_outdatedObject_X6_existingObject : GoodIn wsX6_outdatedObject wsX6_existingObject := goodIn_r _ [5, 6, 7, 17, 18, 19, 20, 21] (by decide +kernel) (by decide +kernel)
set_option maxRecDepth 20000 in
theorem gX6_outdatedObject_X6_existingObject : GoodIn wsX6_outdatedObject (wsV RX6 149 RX6 yX6_existingObject wsX6_existingObject) := goodIn_app (goodIn_of _ (by decide +kernel)) ggX6_outdatedObject_X6_existingObject
theorem dX6_outdatedObject_0 : decode cX6_outdatedObject 0 = .ok (.aload_n 0, 1) := by decide +kernel
theorem dX6_outdatedObject_1 : decode cX6_outdatedObject 1 = .ok (.iload_n 1, 1) := by decide +kernel
theorem dX6_outdatedObject_2 : decode cX6_outdatedObject 2 = .ok (.invokevirtual 149, 3) := by decide +kernel
theorem dX6_outdatedObject_5 : decode cX6_outdatedObject 5 = .ok (.astore_n 3, 1) := by decide +kernel
theorem dX6_outdatedObject_6 : decode cX6_outdatedObject 6 = .ok (.aload_n 3, 1) := by decide +kernel
theorem dX6_outdatedObject_7 : decode cX6_outdatedObject 7 = .ok (.ifnull 28, 3) := by decide +kernel
theorem dX6_outdatedObject_10 : decode cX6_outdatedObject 10 = .ok (.aload_n 3, 1) := by decide +kernel
theorem dX6_outdatedObject_11 : decode cX6_outdatedObject 11 = .ok (.getfield 157, 3) := by decide +kernel
theorem dX6_outdatedObject_14 : decode cX6_outdatedObject 14 = .ok (.getfield 126, 3) := by decide +kernel
theorem dX6_outdatedObject_17 : decode cX6_outdatedObject 17 = .ok (.aload_n 2, 1) := by decide +kernel
theorem dX6_outdatedObject_18 : decode cX6_outdatedObject 18 = .ok (.getfield 126, 3) := by decide +kernel
theorem dX6_outdatedObject_21 : decode cX6_outdatedObject 21 = .ok (.if_icmp .ne 14, 3) := by decide +kernel
theorem dX6_outdatedObject_24 : decode cX6_outdatedObject 24 = .ok (.aload_n 3, 1) := by decide +kernel
theorem dX6_outdatedObject_25 : decode cX6_outdatedObject 25 = .ok (.getfield 158, 3) := by decide +kernel
theorem dX6_outdatedObject_28 : decode cX6_outdatedObject 28 = .ok (.aload_n 2, 1) := by decide +kernel
theorem dX6_outdatedObject_29 : decode cX6_outdatedObject 29 = .ok (.getfield 42, 3) := by decide +kernel
theorem dX6_outdatedObject_32 : decode cX6_outdatedObject 32 = .ok (.if_icmp .ne 5, 3) := by decide +kernel
theorem dX6_outdatedObject_35 : decode cX6_outdatedObject 35 = .ok (.aconst_null, 1) := by decide +kernel
theorem dX6_outdatedObject_36 : decode cX6_outdatedObject 36 = .ok (.areturn, 1) := by decide +kernel
theorem dX6_outdatedObject_37 : decode cX6_outdatedObject 37 = .ok (.aload_n 3, 1) := by decide +kernel
theorem dX6_outdatedObject_38 : decode cX6_outdatedObject 38 = .ok (.areturn, 1) := by decide +kernel
set_option maxRecDepth 20000 in
theorem ggX6_rollBackObjects_X5_revert : GoodIn wsX6_rollBackObjects wsX5_revert := goodIn_r _ [7, 8, 9, 15, 16, 17, 18] (by decide +kernel) (by decide +kernel)
set_option maxRecDepth 20000 in
theorem gX6_rollBackObjects_X5_revert : GoodIn wsX6_rollBackObjects (wsV RX6 192 RX5 yX5_revert wsX5_revert) := goodIn_app (goodIn_of _ (by decide +kernel)) ggX6_rollBackObjects_X5_revert
theorem dX6_rollBackObjects_0 : decode cX6_rollBackObjects 0 = .ok (.iconst 0, 1) := by decide +kernel
theorem dX6_rollBackObjects_1 : decode cX6_rollBackObjects 1 = .ok (.istore_n 3, 1) := by decide +kernel
theorem dX6_rollBackObjects_2 : decode cX6_rollBackObjects 2 = .ok (.iload_n 3, 1) := by decide +kernel
theorem dX6_rollBackObjects_3 : decode cX6_rollBackObjects 3 = .ok (.aload_n 0, 1) := by decide +kernel
theorem dX6_rollBackObjects_4 : decode cX6_rollBackObjects 4 = .ok (.getfield 136, 3) := by decide +kernel
theorem dX6_rollBackObjects_7 : decode cX6_rollBackObjects 7 = .ok (.if_icmp .ge 70, 3) := by decide +kernel
theorem dX6_rollBackObjects_10 : decode cX6_rollBackObjects 10 = .ok (.aload_n 0, 1) := by decide +kernel
theorem dX6_rollBackObjects_11 : decode cX6_rollBackObjects 11 = .ok (.getfield 24, 3) := by decide +kernel
theorem dX6_rollBackObjects_14 : decode cX6_rollBackObjects 14 = .ok (.iload_n 3, 1) := by decide +kernel
theorem dX6_rollBackObjects_15 : decode cX6_rollBackObjects 15 = .ok (.aaload, 1) := by decide +kernel
theorem dX6_rollBackObjects_16 : decode cX6_rollBackObjects 16 = .ok (.astore 4, 2) := by decide +kernel
theorem dX6_rollBackObjects_18 : decode cX6_rollBackObjects 18 = .ok (.aload 4, 2) := by decide +kernel
theorem dX6_rollBackObjects_20 : decode cX6_rollBackObjects 20 = .ok (.ifnull 51, 3) := by decide +kernel
theorem dX6_rollBackObjects_23 : decode cX6_rollBackObjects 23 = .ok (.aload 4, 2) := by decide +kernel
theorem dX6_rollBackObjects_25 : decode cX6_rollBackObjects 25 = .ok (.getfield 157, 3) := by decide +kernel
theorem dX6_rollBackObjects_28 : decode cX6_rollBackObjects 28 = .ok (.getfield 126, 3) := by decide +kernel
theorem dX6_rollBackObjects_31 : decode cX6_rollBackObjects 31 = .ok (.iload_n 1, 1) := by decide +kernel
theorem dX6_rollBackObjects_32 : decode cX6_rollBackObjects 32 = .ok (.if_icmp .ne 39, 3) := by decide +kernel
theorem dX6_rollBackObjects_35 : decode cX6_rollBackObjects 35 = .ok (.aload 4, 2) := by decide +kernel
theorem dX6_rollBackObjects_37 : decode cX6_rollBackObjects 37 = .ok (.getfield 158, 3) := by decide +kernel
theorem dX6_rollBackObjects_40 : decode cX6_rollBackObjects 40 = .ok (.iload_n 2, 1) := by decide +kernel
theorem dX6_rollBackObjects_41 : decode cX6_rollBackObjects 41 = .ok (.if_icmp .eq 6, 3) := by decide +kernel
theorem dX6_rollBackObjects_44 : decode cX6_rollBackObjects 44 = .ok (.goto 27, 3) := by decide +kernel
theorem dX6_rollBackObjects_47 : decode cX6_rollBackObjects 47 = .ok (.aload 4, 2) := by decide +kernel
theorem dX6_rollBackObjects_49 : decode cX6_rollBackObjects 49 = .ok (.getfield 162, 3) := by decide +kernel
theorem dX6_rollBackObjects_52 : decode cX6_rollBackObjects 52 = .ok (.iload_n 2, 1) := by decide +kernel
theorem dX6_rollBackObjects_53 : decode cX6_rollBackObjects 53 = .ok (.if_icmp .ne 13, 3) := by decide +kernel
theorem dX6_rollBackObjects_56 : decode cX6_rollBackObjects 56 = .ok (.aload_n 0, 1) := by decide +kernel
theorem dX6_rollBackObjects_57 : decode cX6_rollBackObjects 57 = .ok (.getfield 24, 3) := by decide +kernel
theorem dX6_rollBackObjects_60 : decode cX6_rollBackObjects 60 = .ok (.iload_n 3, 1) := by decide +kernel
theorem dX6_rollBackObjects_61 : decode cX6_rollBackObjects 61 = .ok (.aconst_null, 1) := by decide +kernel
theorem dX6_rollBackObjects_62 : decode cX6_rollBackObjects 62 = .ok (.aastore, 1) := by decide +kernel
theorem dX6_rollBackObjects_63 : decode cX6_rollBackObjects 63 = .ok (.goto 8, 3) := by decide +kernel
theorem dX6_rollBackObjects_66 : decode cX6_rollBackObjects 66 = .ok (.aload 4, 2) := by decide +kernel
theorem dX6_rollBackObjects_68 : decode cX6_rollBackObjects 68 = .ok (.invokevirtual 192, 3) := by decide +kernel
theorem dX6_rollBackObjects_71 : decode cX6_rollBackObjects 71 = .ok (.iinc 3 1, 3) := by decide +kernel
theorem dX6_rollBackObjects_74 : decode cX6_rollBackObjects 74 = .ok (.goto (-72), 3) := by decide +kernel
theorem dX6_rollBackObjects_77 : decode cX6_rollBackObjects 77 = .ok (.return_, 1) := by decide +kernel
