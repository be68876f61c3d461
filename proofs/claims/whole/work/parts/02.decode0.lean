theorem dX0_init_0 : decode cX0_init 0 = .ok (.aload_n 0, 1) := by decide +kernel
theorem dX0_init_1 : decode cX0_init 1 = .ok (.invokespecial 3, 3) := by decide +kernel
theorem dX0_init_4 : decode cX0_init 4 = .ok (.aload_n 0, 1) := by decide +kernel
theorem dX0_init_5 : decode cX0_init 5 = .ok (.iconst 0, 1) := by decide +kernel
theorem dX0_init_6 : decode cX0_init 6 = .ok (.putfield 9, 3) := by decide +kernel
theorem dX0_init_9 : decode cX0_init 9 = .ok (.aload_n 0, 1) := by decide +kernel
theorem dX0_init_10 : decode cX0_init 10 = .ok (.iconst 0, 1) := by decide +kernel
theorem dX0_init_11 : decode cX0_init 11 = .ok (.putfield 15, 3) := by decide +kernel
theorem dX0_init_14 : decode cX0_init 14 = .ok (.aload_n 0, 1) := by decide +kernel
theorem dX0_init_15 : decode cX0_init 15 = .ok (.iconst 0, 1) := by decide +kernel
theorem dX0_init_16 : decode cX0_init 16 = .ok (.putfield 18, 3) := by decide +kernel
theorem dX0_init_19 : decode cX0_init 19 = .ok (.aload_n 0, 1) := by decide +kernel
theorem dX0_init_20 : decode cX0_init 20 = .ok (.bipush 40, 2) := by decide +kernel
theorem dX0_init_22 : decode cX0_init 22 = .ok (.newarray .int, 2) := by decide +kernel
theorem dX0_init_24 : decode cX0_init 24 = .ok (.putfield 21, 3) := by decide +kernel
theorem dX0_init_27 : decode cX0_init 27 = .ok (.return_, 1) := by decide +kernel
theorem dX0_begin_0 : decode cX0_begin 0 = .ok (.aload_n 0, 1) := by decide +kernel
theorem dX0_begin_1 : decode cX0_begin 1 = .ok (.iload_n 1, 1) := by decide +kernel
theorem dX0_begin_2 : decode cX0_begin 2 = .ok (.putfield 9, 3) := by decide +kernel
theorem dX0_begin_5 : decode cX0_begin 5 = .ok (.aload_n 0, 1) := by decide +kernel
theorem dX0_begin_6 : decode cX0_begin 6 = .ok (.iload_n 2, 1) := by decide +kernel
theorem dX0_begin_7 : decode cX0_begin 7 = .ok (.putfield 15, 3) := by decide +kernel
theorem dX0_begin_10 : decode cX0_begin 10 = .ok (.aload_n 0, 1) := by decide +kernel
theorem dX0_begin_11 : decode cX0_begin 11 = .ok (.iconst 0, 1) := by decide +kernel
theorem dX0_begin_12 : decode cX0_begin 12 = .ok (.putfield 18, 3) := by decide +kernel
theorem dX0_begin_15 : decode cX0_begin 15 = .ok (.return_, 1) := by decide +kernel
theorem dX0_began_0 : decode cX0_began 0 = .ok (.aload_n 0, 1) := by decide +kernel
theorem dX0_began_1 : decode cX0_began 1 = .ok (.getfield 18, 3) := by decide +kernel
theorem dX0_began_4 : decode cX0_began 4 = .ok (.aload_n 0, 1) := by decide +kernel
theorem dX0_began_5 : decode cX0_began 5 = .ok (.getfield 21, 3) := by decide +kernel
theorem dX0_began_8 : decode cX0_began 8 = .ok (.arraylength, 1) := by decide +kernel
theorem dX0_began_9 : decode cX0_began 9 = .ok (.if_icmp .ge 23, 3) := by decide +kernel
theorem dX0_began_12 : decode cX0_began 12 = .ok (.aload_n 0, 1) := by decide +kernel
theorem dX0_began_13 : decode cX0_began 13 = .ok (.getfield 21, 3) := by decide +kernel
theorem dX0_began_16 : decode cX0_began 16 = .ok (.aload_n 0, 1) := by decide +kernel
theorem dX0_began_17 : decode cX0_began 17 = .ok (.getfield 18, 3) := by decide +kernel
theorem dX0_began_20 : decode cX0_began 20 = .ok (.iload_n 1, 1) := by decide +kernel
theorem dX0_began_21 : decode cX0_began 21 = .ok (.iastore, 1) := by decide +kernel
theorem dX0_began_22 : decode cX0_began 22 = .ok (.aload_n 0, 1) := by decide +kernel
theorem dX0_began_23 : decode cX0_began 23 = .ok (.dup, 1) := by decide +kernel
theorem dX0_began_24 : decode cX0_began 24 = .ok (.getfield 18, 3) := by decide +kernel
theorem dX0_began_27 : decode cX0_began 27 = .ok (.iconst 1, 1) := by decide +kernel
theorem dX0_began_28 : decode cX0_began 28 = .ok (.iadd, 1) := by decide +kernel
theorem dX0_began_29 : decode cX0_began 29 = .ok (.putfield 18, 3) := by decide +kernel
theorem dX0_began_32 : decode cX0_began 32 = .ok (.return_, 1) := by decide +kernel
theorem dX1_init_0 : decode cX1_init 0 = .ok (.aload_n 0, 1) := by decide +kernel
theorem dX1_init_1 : decode cX1_init 1 = .ok (.invokespecial 1, 3) := by decide +kernel
theorem dX1_init_4 : decode cX1_init 4 = .ok (.return_, 1) := by decide +kernel
theorem dX1_thinks_0 : decode cX1_thinks 0 = .ok (.iconst 2, 1) := by decide +kernel
theorem dX1_thinks_1 : decode cX1_thinks 1 = .ok (.aload_n 0, 1) := by decide +kernel
theorem dX1_thinks_2 : decode cX1_thinks 2 = .ok (.iload_n 1, 1) := by decide +kernel
theorem dX1_thinks_3 : decode cX1_thinks 3 = .ok (.iload_n 2, 1) := by decide +kernel
theorem dX1_thinks_4 : decode cX1_thinks 4 = .ok (.iload_n 3, 1) := by decide +kernel
theorem dX1_thinks_5 : decode cX1_thinks 5 = .ok (.invokespecial 7, 3) := by decide +kernel
theorem dX1_thinks_8 : decode cX1_thinks 8 = .ok (.imul, 1) := by decide +kernel
theorem dX1_thinks_9 : decode cX1_thinks 9 = .ok (.iload_n 1, 1) := by decide +kernel
theorem dX1_thinks_10 : decode cX1_thinks 10 = .ok (.iadd, 1) := by decide +kernel
theorem dX1_thinks_11 : decode cX1_thinks 11 = .ok (.ireturn, 1) := by decide +kernel
theorem dX1_carry_0 : decode cX1_carry 0 = .ok (.aload_n 0, 1) := by decide +kernel
theorem dX1_carry_1 : decode cX1_carry 1 = .ok (.iload_n 1, 1) := by decide +kernel
theorem dX1_carry_2 : decode cX1_carry 2 = .ok (.iload_n 2, 1) := by decide +kernel
theorem dX1_carry_3 : decode cX1_carry 3 = .ok (.iload_n 3, 1) := by decide +kernel
theorem dX1_carry_4 : decode cX1_carry 4 = .ok (.invokespecial 11, 3) := by decide +kernel
theorem dX1_carry_7 : decode cX1_carry 7 = .ok (.iload_n 3, 1) := by decide +kernel
theorem dX1_carry_8 : decode cX1_carry 8 = .ok (.isub, 1) := by decide +kernel
theorem dX1_carry_9 : decode cX1_carry 9 = .ok (.ireturn, 1) := by decide +kernel
theorem dX1_answer_0 : decode cX1_answer 0 = .ok (.iload_n 1, 1) := by decide +kernel
theorem dX1_answer_1 : decode cX1_answer 1 = .ok (.ireturn, 1) := by decide +kernel
theorem dX1_waits_0 : decode cX1_waits 0 = .ok (.aload_n 1, 1) := by decide +kernel
theorem dX1_waits_1 : decode cX1_waits 1 = .ok (.bipush 70, 2) := by decide +kernel
theorem dX1_waits_3 : decode cX1_waits 3 = .ok (.invokevirtual 14, 3) := by decide +kernel
theorem dX1_waits_6 : decode cX1_waits 6 = .ok (.aload_n 0, 1) := by decide +kernel
theorem dX1_waits_7 : decode cX1_waits 7 = .ok (.aload_n 1, 1) := by decide +kernel
theorem dX1_waits_8 : decode cX1_waits 8 = .ok (.iload_n 2, 1) := by decide +kernel
theorem dX1_waits_9 : decode cX1_waits 9 = .ok (.invokespecial 20, 3) := by decide +kernel
theorem dX1_waits_12 : decode cX1_waits 12 = .ok (.aload_n 1, 1) := by decide +kernel
theorem dX1_waits_13 : decode cX1_waits 13 = .ok (.getfield 24, 3) := by decide +kernel
theorem dX1_waits_16 : decode cX1_waits 16 = .ok (.ixor, 1) := by decide +kernel
theorem dX1_waits_17 : decode cX1_waits 17 = .ok (.ireturn, 1) := by decide +kernel
theorem dX1_tells_0 : decode cX1_tells 0 = .ok (.aload_n 1, 1) := by decide +kernel
theorem dX1_tells_1 : decode cX1_tells 1 = .ok (.bipush 71, 2) := by decide +kernel
theorem dX1_tells_3 : decode cX1_tells 3 = .ok (.invokevirtual 14, 3) := by decide +kernel
theorem dX1_tells_6 : decode cX1_tells 6 = .ok (.aload_n 0, 1) := by decide +kernel
theorem dX1_tells_7 : decode cX1_tells 7 = .ok (.aload_n 1, 1) := by decide +kernel
theorem dX1_tells_8 : decode cX1_tells 8 = .ok (.iload_n 2, 1) := by decide +kernel
theorem dX1_tells_9 : decode cX1_tells 9 = .ok (.invokevirtual 28, 3) := by decide +kernel
theorem dX1_tells_12 : decode cX1_tells 12 = .ok (.aload_n 0, 1) := by decide +kernel
theorem dX1_tells_13 : decode cX1_tells 13 = .ok (.aload_n 1, 1) := by decide +kernel
theorem dX1_tells_14 : decode cX1_tells 14 = .ok (.iload_n 2, 1) := by decide +kernel
theorem dX1_tells_15 : decode cX1_tells 15 = .ok (.invokespecial 33, 3) := by decide +kernel
theorem dX1_tells_18 : decode cX1_tells 18 = .ok (.isub, 1) := by decide +kernel
theorem dX1_tells_19 : decode cX1_tells 19 = .ok (.ireturn, 1) := by decide +kernel
theorem dX2_init_0 : decode cX2_init 0 = .ok (.aload_n 0, 1) := by decide +kernel
theorem dX2_init_1 : decode cX2_init 1 = .ok (.invokespecial 1, 3) := by decide +kernel
theorem dX2_init_4 : decode cX2_init 4 = .ok (.return_, 1) := by decide +kernel
theorem dX2_thinks_0 : decode cX2_thinks 0 = .ok (.iconst 0, 1) := by decide +kernel
theorem dX2_thinks_1 : decode cX2_thinks 1 = .ok (.aload_n 0, 1) := by decide +kernel
theorem dX2_thinks_2 : decode cX2_thinks 2 = .ok (.iload_n 1, 1) := by decide +kernel
theorem dX2_thinks_3 : decode cX2_thinks 3 = .ok (.iload_n 2, 1) := by decide +kernel
theorem dX2_thinks_4 : decode cX2_thinks 4 = .ok (.iload_n 3, 1) := by decide +kernel
theorem dX2_thinks_5 : decode cX2_thinks 5 = .ok (.invokespecial 7, 3) := by decide +kernel
theorem dX2_thinks_8 : decode cX2_thinks 8 = .ok (.iload_n 1, 1) := by decide +kernel
theorem dX2_thinks_9 : decode cX2_thinks 9 = .ok (.isub, 1) := by decide +kernel
theorem dX2_thinks_10 : decode cX2_thinks 10 = .ok (.invokestatic 11, 3) := by decide +kernel
theorem dX2_thinks_13 : decode cX2_thinks 13 = .ok (.ireturn, 1) := by decide +kernel
theorem dX2_hears_0 : decode cX2_hears 0 = .ok (.aload_n 1, 1) := by decide +kernel
theorem dX2_hears_1 : decode cX2_hears 1 = .ok (.bipush 20, 2) := by decide +kernel
theorem dX2_hears_3 : decode cX2_hears 3 = .ok (.invokevirtual 17, 3) := by decide +kernel
theorem dX2_hears_6 : decode cX2_hears 6 = .ok (.aload_n 0, 1) := by decide +kernel
theorem dX2_hears_7 : decode cX2_hears 7 = .ok (.aload_n 1, 1) := by decide +kernel
theorem dX2_hears_8 : decode cX2_hears 8 = .ok (.iload_n 2, 1) := by decide +kernel
theorem dX2_hears_9 : decode cX2_hears 9 = .ok (.invokespecial 23, 3) := by decide +kernel
theorem dX2_hears_12 : decode cX2_hears 12 = .ok (.aload_n 0, 1) := by decide +kernel
theorem dX2_hears_13 : decode cX2_hears 13 = .ok (.aload_n 1, 1) := by decide +kernel
theorem dX2_hears_14 : decode cX2_hears 14 = .ok (.iconst 1, 1) := by decide +kernel
theorem dX2_hears_15 : decode cX2_hears 15 = .ok (.invokevirtual 27, 3) := by decide +kernel
theorem dX2_hears_18 : decode cX2_hears 18 = .ok (.isub, 1) := by decide +kernel
theorem dX2_hears_19 : decode cX2_hears 19 = .ok (.ireturn, 1) := by decide +kernel
theorem dX3_init_0 : decode cX3_init 0 = .ok (.aload_n 0, 1) := by decide +kernel
theorem dX3_init_1 : decode cX3_init 1 = .ok (.invokespecial 3, 3) := by decide +kernel
theorem dX3_init_4 : decode cX3_init 4 = .ok (.return_, 1) := by decide +kernel
theorem dX3_thinks_0 : decode cX3_thinks 0 = .ok (.aload_n 0, 1) := by decide +kernel
theorem dX3_thinks_1 : decode cX3_thinks 1 = .ok (.iload_n 1, 1) := by decide +kernel
theorem dX3_thinks_2 : decode cX3_thinks 2 = .ok (.iload_n 2, 1) := by decide +kernel
theorem dX3_thinks_3 : decode cX3_thinks 3 = .ok (.iload_n 3, 1) := by decide +kernel
theorem dX3_thinks_4 : decode cX3_thinks 4 = .ok (.invokespecial 9, 3) := by decide +kernel
theorem dX3_thinks_7 : decode cX3_thinks 7 = .ok (.iload_n 2, 1) := by decide +kernel
theorem dX3_thinks_8 : decode cX3_thinks 8 = .ok (.ifCond .eq 7, 3) := by decide +kernel
theorem dX3_thinks_11 : decode cX3_thinks 11 = .ok (.iconst 1, 1) := by decide +kernel
theorem dX3_thinks_12 : decode cX3_thinks 12 = .ok (.goto 4, 3) := by decide +kernel
theorem dX3_thinks_15 : decode cX3_thinks 15 = .ok (.iconst 0, 1) := by decide +kernel
theorem dX3_thinks_16 : decode cX3_thinks 16 = .ok (.iadd, 1) := by decide +kernel
theorem dX3_thinks_17 : decode cX3_thinks 17 = .ok (.ireturn, 1) := by decide +kernel
theorem dX3_carry_0 : decode cX3_carry 0 = .ok (.aload_n 0, 1) := by decide +kernel
theorem dX3_carry_1 : decode cX3_carry 1 = .ok (.iload_n 1, 1) := by decide +kernel
theorem dX3_carry_2 : decode cX3_carry 2 = .ok (.iload_n 2, 1) := by decide +kernel
theorem dX3_carry_3 : decode cX3_carry 3 = .ok (.iload_n 3, 1) := by decide +kernel
theorem dX3_carry_4 : decode cX3_carry 4 = .ok (.invokespecial 13, 3) := by decide +kernel
theorem dX3_carry_7 : decode cX3_carry 7 = .ok (.iload_n 2, 1) := by decide +kernel
theorem dX3_carry_8 : decode cX3_carry 8 = .ok (.iconst 3, 1) := by decide +kernel
theorem dX3_carry_9 : decode cX3_carry 9 = .ok (.idiv, 1) := by decide +kernel
theorem dX3_carry_10 : decode cX3_carry 10 = .ok (.isub, 1) := by decide +kernel
theorem dX3_carry_11 : decode cX3_carry 11 = .ok (.ireturn, 1) := by decide +kernel
theorem dX3_answer_0 : decode cX3_answer 0 = .ok (.aload_n 0, 1) := by decide +kernel
theorem dX3_answer_1 : decode cX3_answer 1 = .ok (.iload_n 1, 1) := by decide +kernel
theorem dX3_answer_2 : decode cX3_answer 2 = .ok (.iload_n 2, 1) := by decide +kernel
theorem dX3_answer_3 : decode cX3_answer 3 = .ok (.iload_n 3, 1) := by decide +kernel
theorem dX3_answer_4 : decode cX3_answer 4 = .ok (.invokespecial 16, 3) := by decide +kernel
theorem dX3_answer_7 : decode cX3_answer 7 = .ok (.iload_n 3, 1) := by decide +kernel
theorem dX3_answer_8 : decode cX3_answer 8 = .ok (.iadd, 1) := by decide +kernel
theorem dX3_answer_9 : decode cX3_answer 9 = .ok (.bipush 40, 2) := by decide +kernel
theorem dX3_answer_11 : decode cX3_answer 11 = .ok (.irem, 1) := by decide +kernel
theorem dX3_answer_12 : decode cX3_answer 12 = .ok (.ireturn, 1) := by decide +kernel
theorem dX3_hears_0 : decode cX3_hears 0 = .ok (.aload_n 1, 1) := by decide +kernel
theorem dX3_hears_1 : decode cX3_hears 1 = .ok (.bipush 50, 2) := by decide +kernel
theorem dX3_hears_3 : decode cX3_hears 3 = .ok (.invokevirtual 19, 3) := by decide +kernel
theorem dX3_hears_6 : decode cX3_hears 6 = .ok (.aload_n 0, 1) := by decide +kernel
theorem dX3_hears_7 : decode cX3_hears 7 = .ok (.aload_n 1, 1) := by decide +kernel
theorem dX3_hears_8 : decode cX3_hears 8 = .ok (.iload_n 2, 1) := by decide +kernel
theorem dX3_hears_9 : decode cX3_hears 9 = .ok (.iconst 1, 1) := by decide +kernel
theorem dX3_hears_10 : decode cX3_hears 10 = .ok (.iadd, 1) := by decide +kernel
theorem dX3_hears_11 : decode cX3_hears 11 = .ok (.invokespecial 25, 3) := by decide +kernel
theorem dX3_hears_14 : decode cX3_hears 14 = .ok (.ireturn, 1) := by decide +kernel
theorem dX4_init_0 : decode cX4_init 0 = .ok (.aload_n 0, 1) := by decide +kernel
theorem dX4_init_1 : decode cX4_init 1 = .ok (.invokespecial 1, 3) := by decide +kernel
theorem dX4_init_4 : decode cX4_init 4 = .ok (.return_, 1) := by decide +kernel
theorem dX4_thinks_0 : decode cX4_thinks 0 = .ok (.aload_n 0, 1) := by decide +kernel
theorem dX4_thinks_1 : decode cX4_thinks 1 = .ok (.iload_n 1, 1) := by decide +kernel
theorem dX4_thinks_2 : decode cX4_thinks 2 = .ok (.iload_n 2, 1) := by decide +kernel
theorem dX4_thinks_3 : decode cX4_thinks 3 = .ok (.iload_n 3, 1) := by decide +kernel
theorem dX4_thinks_4 : decode cX4_thinks 4 = .ok (.invokespecial 7, 3) := by decide +kernel
theorem dX4_thinks_7 : decode cX4_thinks 7 = .ok (.iload_n 3, 1) := by decide +kernel
theorem dX4_thinks_8 : decode cX4_thinks 8 = .ok (.iadd, 1) := by decide +kernel
theorem dX4_thinks_9 : decode cX4_thinks 9 = .ok (.ireturn, 1) := by decide +kernel
theorem dX4_carry_0 : decode cX4_carry 0 = .ok (.aload_n 0, 1) := by decide +kernel
theorem dX4_carry_1 : decode cX4_carry 1 = .ok (.iload_n 1, 1) := by decide +kernel
theorem dX4_carry_2 : decode cX4_carry 2 = .ok (.iload_n 2, 1) := by decide +kernel
theorem dX4_carry_3 : decode cX4_carry 3 = .ok (.iload_n 3, 1) := by decide +kernel
theorem dX4_carry_4 : decode cX4_carry 4 = .ok (.invokespecial 11, 3) := by decide +kernel
theorem dX4_carry_7 : decode cX4_carry 7 = .ok (.iconst 2, 1) := by decide +kernel
theorem dX4_carry_8 : decode cX4_carry 8 = .ok (.idiv, 1) := by decide +kernel
theorem dX4_carry_9 : decode cX4_carry 9 = .ok (.ireturn, 1) := by decide +kernel
theorem dX4_tells_0 : decode cX4_tells 0 = .ok (.aload_n 1, 1) := by decide +kernel
theorem dX4_tells_1 : decode cX4_tells 1 = .ok (.bipush 60, 2) := by decide +kernel
theorem dX4_tells_3 : decode cX4_tells 3 = .ok (.invokevirtual 14, 3) := by decide +kernel
theorem dX4_tells_6 : decode cX4_tells 6 = .ok (.aload_n 0, 1) := by decide +kernel
theorem dX4_tells_7 : decode cX4_tells 7 = .ok (.aload_n 1, 1) := by decide +kernel
theorem dX4_tells_8 : decode cX4_tells 8 = .ok (.iload_n 2, 1) := by decide +kernel
theorem dX4_tells_9 : decode cX4_tells 9 = .ok (.invokespecial 20, 3) := by decide +kernel
theorem dX4_tells_12 : decode cX4_tells 12 = .ok (.aload_n 0, 1) := by decide +kernel
theorem dX4_tells_13 : decode cX4_tells 13 = .ok (.aload_n 1, 1) := by decide +kernel
theorem dX4_tells_14 : decode cX4_tells 14 = .ok (.iconst 2, 1) := by decide +kernel
theorem dX4_tells_15 : decode cX4_tells 15 = .ok (.invokevirtual 24, 3) := by decide +kernel
theorem dX4_tells_18 : decode cX4_tells 18 = .ok (.isub, 1) := by decide +kernel
theorem dX4_tells_19 : decode cX4_tells 19 = .ok (.ireturn, 1) := by decide +kernel
theorem dX5_init_0 : decode cX5_init 0 = .ok (.aload_n 0, 1) := by decide +kernel
theorem dX5_init_1 : decode cX5_init 1 = .ok (.invokespecial 1, 3) := by decide +kernel
theorem dX5_init_4 : decode cX5_init 4 = .ok (.return_, 1) := by decide +kernel
theorem dX5_thinks_0 : decode cX5_thinks 0 = .ok (.aload_n 0, 1) := by decide +kernel
theorem dX5_thinks_1 : decode cX5_thinks 1 = .ok (.iload_n 1, 1) := by decide +kernel
theorem dX5_thinks_2 : decode cX5_thinks 2 = .ok (.iload_n 2, 1) := by decide +kernel
theorem dX5_thinks_3 : decode cX5_thinks 3 = .ok (.iload_n 3, 1) := by decide +kernel
theorem dX5_thinks_4 : decode cX5_thinks 4 = .ok (.invokespecial 7, 3) := by decide +kernel
theorem dX5_thinks_7 : decode cX5_thinks 7 = .ok (.iload_n 1, 1) := by decide +kernel
theorem dX5_thinks_8 : decode cX5_thinks 8 = .ok (.iadd, 1) := by decide +kernel
theorem dX5_thinks_9 : decode cX5_thinks 9 = .ok (.ireturn, 1) := by decide +kernel
theorem dX5_calls_0 : decode cX5_calls 0 = .ok (.aload_n 1, 1) := by decide +kernel
theorem dX5_calls_1 : decode cX5_calls 1 = .ok (.bipush 30, 2) := by decide +kernel
theorem dX5_calls_3 : decode cX5_calls 3 = .ok (.invokevirtual 11, 3) := by decide +kernel
theorem dX5_calls_6 : decode cX5_calls 6 = .ok (.aload_n 0, 1) := by decide +kernel
theorem dX5_calls_7 : decode cX5_calls 7 = .ok (.aload_n 1, 1) := by decide +kernel
theorem dX5_calls_8 : decode cX5_calls 8 = .ok (.iload_n 2, 1) := by decide +kernel
theorem dX5_calls_9 : decode cX5_calls 9 = .ok (.invokespecial 17, 3) := by decide +kernel
theorem dX5_calls_12 : decode cX5_calls 12 = .ok (.iconst 3, 1) := by decide +kernel
theorem dX5_calls_13 : decode cX5_calls 13 = .ok (.imul, 1) := by decide +kernel
theorem dX5_calls_14 : decode cX5_calls 14 = .ok (.ireturn, 1) := by decide +kernel
theorem dX6_init_0 : decode cX6_init 0 = .ok (.aload_n 0, 1) := by decide +kernel
theorem dX6_init_1 : decode cX6_init 1 = .ok (.invokespecial 1, 3) := by decide +kernel
theorem dX6_init_4 : decode cX6_init 4 = .ok (.return_, 1) := by decide +kernel
theorem dX6_thinks_0 : decode cX6_thinks 0 = .ok (.iconst 1, 1) := by decide +kernel
theorem dX6_thinks_1 : decode cX6_thinks 1 = .ok (.ireturn, 1) := by decide +kernel
theorem dX6_carry_0 : decode cX6_carry 0 = .ok (.bipush 10, 2) := by decide +kernel
theorem dX6_carry_2 : decode cX6_carry 2 = .ok (.ireturn, 1) := by decide +kernel
theorem dX6_waits_0 : decode cX6_waits 0 = .ok (.aload_n 1, 1) := by decide +kernel
theorem dX6_waits_1 : decode cX6_waits 1 = .ok (.bipush 40, 2) := by decide +kernel
theorem dX6_waits_3 : decode cX6_waits 3 = .ok (.invokevirtual 7, 3) := by decide +kernel
theorem dX6_waits_6 : decode cX6_waits 6 = .ok (.aload_n 0, 1) := by decide +kernel
theorem dX6_waits_7 : decode cX6_waits 7 = .ok (.aload_n 1, 1) := by decide +kernel
theorem dX6_waits_8 : decode cX6_waits 8 = .ok (.iload_n 2, 1) := by decide +kernel
theorem dX6_waits_9 : decode cX6_waits 9 = .ok (.invokespecial 13, 3) := by decide +kernel
theorem dX6_waits_12 : decode cX6_waits 12 = .ok (.ineg, 1) := by decide +kernel
theorem dX6_waits_13 : decode cX6_waits 13 = .ok (.ireturn, 1) := by decide +kernel
theorem dX7_init_0 : decode cX7_init 0 = .ok (.aload_n 0, 1) := by decide +kernel
theorem dX7_init_1 : decode cX7_init 1 = .ok (.invokespecial 1, 3) := by decide +kernel
theorem dX7_init_4 : decode cX7_init 4 = .ok (.return_, 1) := by decide +kernel
theorem dX7_thinks_0 : decode cX7_thinks 0 = .ok (.iconst 3, 1) := by decide +kernel
theorem dX7_thinks_1 : decode cX7_thinks 1 = .ok (.ireturn, 1) := by decide +kernel
theorem dX7_carry_0 : decode cX7_carry 0 = .ok (.iload_n 1, 1) := by decide +kernel
theorem dX7_carry_1 : decode cX7_carry 1 = .ok (.iconst 2, 1) := by decide +kernel
theorem dX7_carry_2 : decode cX7_carry 2 = .ok (.irem, 1) := by decide +kernel
theorem dX7_carry_3 : decode cX7_carry 3 = .ok (.ifCond .ne 8, 3) := by decide +kernel
theorem dX7_carry_6 : decode cX7_carry 6 = .ok (.bipush 9, 2) := by decide +kernel
theorem dX7_carry_8 : decode cX7_carry 8 = .ok (.goto 7, 3) := by decide +kernel
theorem dX7_carry_11 : decode cX7_carry 11 = .ok (.bipush 9, 2) := by decide +kernel
theorem dX7_carry_13 : decode cX7_carry 13 = .ok (.iload_n 3, 1) := by decide +kernel
theorem dX7_carry_14 : decode cX7_carry 14 = .ok (.isub, 1) := by decide +kernel
theorem dX7_carry_15 : decode cX7_carry 15 = .ok (.ireturn, 1) := by decide +kernel
theorem dX7_answer_0 : decode cX7_answer 0 = .ok (.iload_n 2, 1) := by decide +kernel
theorem dX7_answer_1 : decode cX7_answer 1 = .ok (.ireturn, 1) := by decide +kernel
theorem dX7_calls_0 : decode cX7_calls 0 = .ok (.aload_n 1, 1) := by decide +kernel
theorem dX7_calls_1 : decode cX7_calls 1 = .ok (.bipush 10, 2) := by decide +kernel
theorem dX7_calls_3 : decode cX7_calls 3 = .ok (.invokevirtual 7, 3) := by decide +kernel
theorem dX7_calls_6 : decode cX7_calls 6 = .ok (.iload_n 2, 1) := by decide +kernel
theorem dX7_calls_7 : decode cX7_calls 7 = .ok (.aload_n 1, 1) := by decide +kernel
theorem dX7_calls_8 : decode cX7_calls 8 = .ok (.getfield 13, 3) := by decide +kernel
theorem dX7_calls_11 : decode cX7_calls 11 = .ok (.iadd, 1) := by decide +kernel
theorem dX7_calls_12 : decode cX7_calls 12 = .ok (.ireturn, 1) := by decide +kernel
theorem dX7_hears_0 : decode cX7_hears 0 = .ok (.aload_n 1, 1) := by decide +kernel
theorem dX7_hears_1 : decode cX7_hears 1 = .ok (.bipush 11, 2) := by decide +kernel
theorem dX7_hears_3 : decode cX7_hears 3 = .ok (.invokevirtual 7, 3) := by decide +kernel
theorem dX7_hears_6 : decode cX7_hears 6 = .ok (.aload_n 0, 1) := by decide +kernel
theorem dX7_hears_7 : decode cX7_hears 7 = .ok (.aload_n 1, 1) := by decide +kernel
theorem dX7_hears_8 : decode cX7_hears 8 = .ok (.iload_n 2, 1) := by decide +kernel
theorem dX7_hears_9 : decode cX7_hears 9 = .ok (.invokevirtual 17, 3) := by decide +kernel
theorem dX7_hears_12 : decode cX7_hears 12 = .ok (.iconst 2, 1) := by decide +kernel
theorem dX7_hears_13 : decode cX7_hears 13 = .ok (.imul, 1) := by decide +kernel
theorem dX7_hears_14 : decode cX7_hears 14 = .ok (.ireturn, 1) := by decide +kernel
theorem dX7_waits_0 : decode cX7_waits 0 = .ok (.aload_n 1, 1) := by decide +kernel
theorem dX7_waits_1 : decode cX7_waits 1 = .ok (.bipush 12, 2) := by decide +kernel
theorem dX7_waits_3 : decode cX7_waits 3 = .ok (.invokevirtual 7, 3) := by decide +kernel
theorem dX7_waits_6 : decode cX7_waits 6 = .ok (.iload_n 2, 1) := by decide +kernel
theorem dX7_waits_7 : decode cX7_waits 7 = .ok (.aload_n 1, 1) := by decide +kernel
theorem dX7_waits_8 : decode cX7_waits 8 = .ok (.getfield 23, 3) := by decide +kernel
theorem dX7_waits_11 : decode cX7_waits 11 = .ok (.isub, 1) := by decide +kernel
theorem dX7_waits_12 : decode cX7_waits 12 = .ok (.ireturn, 1) := by decide +kernel
theorem dX7_tells_0 : decode cX7_tells 0 = .ok (.aload_n 1, 1) := by decide +kernel
theorem dX7_tells_1 : decode cX7_tells 1 = .ok (.bipush 13, 2) := by decide +kernel
theorem dX7_tells_3 : decode cX7_tells 3 = .ok (.invokevirtual 7, 3) := by decide +kernel
theorem dX7_tells_6 : decode cX7_tells 6 = .ok (.aload_n 0, 1) := by decide +kernel
theorem dX7_tells_7 : decode cX7_tells 7 = .ok (.aload_n 1, 1) := by decide +kernel
theorem dX7_tells_8 : decode cX7_tells 8 = .ok (.iload_n 2, 1) := by decide +kernel
theorem dX7_tells_9 : decode cX7_tells 9 = .ok (.invokevirtual 26, 3) := by decide +kernel
theorem dX7_tells_12 : decode cX7_tells 12 = .ok (.aload_n 0, 1) := by decide +kernel
theorem dX7_tells_13 : decode cX7_tells 13 = .ok (.aload_n 1, 1) := by decide +kernel
theorem dX7_tells_14 : decode cX7_tells 14 = .ok (.iload_n 2, 1) := by decide +kernel
theorem dX7_tells_15 : decode cX7_tells 15 = .ok (.invokevirtual 29, 3) := by decide +kernel
theorem dX7_tells_18 : decode cX7_tells 18 = .ok (.ixor, 1) := by decide +kernel
theorem dX7_tells_19 : decode cX7_tells 19 = .ok (.ireturn, 1) := by decide +kernel
theorem dX8_init_0 : decode cX8_init 0 = .ok (.aload_n 0, 1) := by decide +kernel
theorem dX8_init_1 : decode cX8_init 1 = .ok (.invokespecial 3, 3) := by decide +kernel
theorem dX8_init_4 : decode cX8_init 4 = .ok (.aload_n 0, 1) := by decide +kernel
theorem dX8_init_5 : decode cX8_init 5 = .ok (.bipush 50, 2) := by decide +kernel
theorem dX8_init_7 : decode cX8_init 7 = .ok (.newarray .int, 2) := by decide +kernel
theorem dX8_init_9 : decode cX8_init 9 = .ok (.putfield 9, 3) := by decide +kernel
theorem dX8_init_12 : decode cX8_init 12 = .ok (.aload_n 0, 1) := by decide +kernel
theorem dX8_init_13 : decode cX8_init 13 = .ok (.bipush 50, 2) := by decide +kernel
theorem dX8_init_15 : decode cX8_init 15 = .ok (.newarray .int, 2) := by decide +kernel
theorem dX8_init_17 : decode cX8_init 17 = .ok (.putfield 15, 3) := by decide +kernel
theorem dX8_init_20 : decode cX8_init 20 = .ok (.aload_n 0, 1) := by decide +kernel
theorem dX8_init_21 : decode cX8_init 21 = .ok (.bipush 50, 2) := by decide +kernel
theorem dX8_init_23 : decode cX8_init 23 = .ok (.newarray .int, 2) := by decide +kernel
theorem dX8_init_25 : decode cX8_init 25 = .ok (.putfield 18, 3) := by decide +kernel
theorem dX8_init_28 : decode cX8_init 28 = .ok (.aload_n 0, 1) := by decide +kernel
theorem dX8_init_29 : decode cX8_init 29 = .ok (.iconst 0, 1) := by decide +kernel
theorem dX8_init_30 : decode cX8_init 30 = .ok (.putfield 21, 3) := by decide +kernel
theorem dX8_init_33 : decode cX8_init 33 = .ok (.aload_n 0, 1) := by decide +kernel
theorem dX8_init_34 : decode cX8_init 34 = .ok (.iconst 0, 1) := by decide +kernel
theorem dX8_init_35 : decode cX8_init 35 = .ok (.putfield 25, 3) := by decide +kernel
theorem dX8_init_38 : decode cX8_init 38 = .ok (.aload_n 0, 1) := by decide +kernel
theorem dX8_init_39 : decode cX8_init 39 = .ok (.iconst 0, 1) := by decide +kernel
theorem dX8_init_40 : decode cX8_init 40 = .ok (.putfield 28, 3) := by decide +kernel
theorem dX8_init_43 : decode cX8_init 43 = .ok (.aload_n 0, 1) := by decide +kernel
theorem dX8_init_44 : decode cX8_init 44 = .ok (.iconst 0, 1) := by decide +kernel
theorem dX8_init_45 : decode cX8_init 45 = .ok (.putfield 31, 3) := by decide +kernel
theorem dX8_init_48 : decode cX8_init 48 = .ok (.aload_n 0, 1) := by decide +kernel
theorem dX8_init_49 : decode cX8_init 49 = .ok (.ldc 35, 2) := by decide +kernel
theorem dX8_init_51 : decode cX8_init 51 = .ok (.putfield 37, 3) := by decide +kernel
theorem dX8_init_54 : decode cX8_init 54 = .ok (.return_, 1) := by decide +kernel
theorem dX8_read_0 : decode cX8_read 0 = .ok (.aload_n 0, 1) := by decide +kernel
theorem dX8_read_1 : decode cX8_read 1 = .ok (.iload_n 2, 1) := by decide +kernel
theorem dX8_read_2 : decode cX8_read 2 = .ok (.aload_n 1, 1) := by decide +kernel
theorem dX8_read_3 : decode cX8_read 3 = .ok (.arraylength, 1) := by decide +kernel
theorem dX8_read_4 : decode cX8_read 4 = .ok (.aload_n 0, 1) := by decide +kernel
theorem dX8_read_5 : decode cX8_read 5 = .ok (.getfield 18, 3) := by decide +kernel
theorem dX8_read_8 : decode cX8_read 8 = .ok (.arraylength, 1) := by decide +kernel
theorem dX8_read_9 : decode cX8_read 9 = .ok (.invokestatic 41, 3) := by decide +kernel
theorem dX8_read_12 : decode cX8_read 12 = .ok (.invokestatic 41, 3) := by decide +kernel
theorem dX8_read_15 : decode cX8_read 15 = .ok (.putfield 21, 3) := by decide +kernel
theorem dX8_read_18 : decode cX8_read 18 = .ok (.aload_n 1, 1) := by decide +kernel
theorem dX8_read_19 : decode cX8_read 19 = .ok (.iconst 0, 1) := by decide +kernel
theorem dX8_read_20 : decode cX8_read 20 = .ok (.aload_n 0, 1) := by decide +kernel
theorem dX8_read_21 : decode cX8_read 21 = .ok (.getfield 18, 3) := by decide +kernel
theorem dX8_read_24 : decode cX8_read 24 = .ok (.iconst 0, 1) := by decide +kernel
theorem dX8_read_25 : decode cX8_read 25 = .ok (.aload_n 0, 1) := by decide +kernel
theorem dX8_read_26 : decode cX8_read 26 = .ok (.getfield 21, 3) := by decide +kernel
theorem dX8_read_29 : decode cX8_read 29 = .ok (.invokestatic 47, 3) := by decide +kernel
theorem dX8_read_32 : decode cX8_read 32 = .ok (.aload_n 0, 1) := by decide +kernel
theorem dX8_read_33 : decode cX8_read 33 = .ok (.aload_n 3, 1) := by decide +kernel
theorem dX8_read_34 : decode cX8_read 34 = .ok (.putfield 37, 3) := by decide +kernel
theorem dX8_read_37 : decode cX8_read 37 = .ok (.aload_n 0, 1) := by decide +kernel
theorem dX8_read_38 : decode cX8_read 38 = .ok (.iconst 0, 1) := by decide +kernel
theorem dX8_read_39 : decode cX8_read 39 = .ok (.putfield 25, 3) := by decide +kernel
theorem dX8_read_42 : decode cX8_read 42 = .ok (.aload_n 0, 1) := by decide +kernel
theorem dX8_read_43 : decode cX8_read 43 = .ok (.iconst 0, 1) := by decide +kernel
theorem dX8_read_44 : decode cX8_read 44 = .ok (.putfield 28, 3) := by decide +kernel
theorem dX8_read_47 : decode cX8_read 47 = .ok (.aload_n 0, 1) := by decide +kernel
theorem dX8_read_48 : decode cX8_read 48 = .ok (.iconst 0, 1) := by decide +kernel
theorem dX8_read_49 : decode cX8_read 49 = .ok (.putfield 31, 3) := by decide +kernel
theorem dX8_read_52 : decode cX8_read 52 = .ok (.aload_n 0, 1) := by decide +kernel
theorem dX8_read_53 : decode cX8_read 53 = .ok (.iconst 0, 1) := by decide +kernel
theorem dX8_read_54 : decode cX8_read 54 = .ok (.iconst 0, 1) := by decide +kernel
theorem dX8_read_55 : decode cX8_read 55 = .ok (.invokevirtual 53, 3) := by decide +kernel
theorem dX8_read_58 : decode cX8_read 58 = .ok (.aload_n 0, 1) := by decide +kernel
theorem dX8_read_59 : decode cX8_read 59 = .ok (.getfield 31, 3) := by decide +kernel
theorem dX8_read_62 : decode cX8_read 62 = .ok (.ifCond .ne 14, 3) := by decide +kernel
theorem dX8_read_65 : decode cX8_read 65 = .ok (.aload_n 0, 1) := by decide +kernel
theorem dX8_read_66 : decode cX8_read 66 = .ok (.getfield 25, 3) := by decide +kernel
theorem dX8_read_69 : decode cX8_read 69 = .ok (.aload_n 0, 1) := by decide +kernel
theorem dX8_read_70 : decode cX8_read 70 = .ok (.getfield 21, 3) := by decide +kernel
theorem dX8_read_73 : decode cX8_read 73 = .ok (.if_icmp .ge 7, 3) := by decide +kernel
theorem dX8_read_76 : decode cX8_read 76 = .ok (.aconst_null, 1) := by decide +kernel
theorem dX8_read_77 : decode cX8_read 77 = .ok (.goto 14, 3) := by decide +kernel
theorem dX8_read_80 : decode cX8_read 80 = .ok (.aload_n 0, 1) := by decide +kernel
theorem dX8_read_81 : decode cX8_read 81 = .ok (.getfield 9, 3) := by decide +kernel
theorem dX8_read_84 : decode cX8_read 84 = .ok (.aload_n 0, 1) := by decide +kernel
theorem dX8_read_85 : decode cX8_read 85 = .ok (.getfield 28, 3) := by decide +kernel
theorem dX8_read_88 : decode cX8_read 88 = .ok (.invokestatic 57, 3) := by decide +kernel
theorem dX8_read_91 : decode cX8_read 91 = .ok (.areturn, 1) := by decide +kernel
theorem dX8_chain_0 : decode cX8_chain 0 = .ok (.iload_n 1, 1) := by decide +kernel
theorem dX8_chain_1 : decode cX8_chain 1 = .ok (.iconst 5, 1) := by decide +kernel
theorem dX8_chain_2 : decode cX8_chain 2 = .ok (.if_icmp .lt 9, 3) := by decide +kernel
theorem dX8_chain_5 : decode cX8_chain 5 = .ok (.aload_n 0, 1) := by decide +kernel
theorem dX8_chain_6 : decode cX8_chain 6 = .ok (.iload_n 2, 1) := by decide +kernel
theorem dX8_chain_7 : decode cX8_chain 7 = .ok (.invokevirtual 63, 3) := by decide +kernel
theorem dX8_chain_10 : decode cX8_chain 10 = .ok (.return_, 1) := by decide +kernel
theorem dX8_chain_11 : decode cX8_chain 11 = .ok (.aload_n 0, 1) := by decide +kernel
theorem dX8_chain_12 : decode cX8_chain 12 = .ok (.iload_n 1, 1) := by decide +kernel
theorem dX8_chain_13 : decode cX8_chain 13 = .ok (.iconst 1, 1) := by decide +kernel
theorem dX8_chain_14 : decode cX8_chain 14 = .ok (.iadd, 1) := by decide +kernel
theorem dX8_chain_15 : decode cX8_chain 15 = .ok (.iload_n 2, 1) := by decide +kernel
theorem dX8_chain_16 : decode cX8_chain 16 = .ok (.invokevirtual 53, 3) := by decide +kernel
theorem dX8_chain_19 : decode cX8_chain 19 = .ok (.iload_n 1, 1) := by decide +kernel
theorem dX8_chain_20 : decode cX8_chain 20 = .ok (.iconst 2, 1) := by decide +kernel
theorem dX8_chain_21 : decode cX8_chain 21 = .ok (.if_icmp .ne 7, 3) := by decide +kernel
theorem dX8_chain_24 : decode cX8_chain 24 = .ok (.iconst 1, 1) := by decide +kernel
theorem dX8_chain_25 : decode cX8_chain 25 = .ok (.goto 5, 3) := by decide +kernel
theorem dX8_chain_28 : decode cX8_chain 28 = .ok (.bipush 50, 2) := by decide +kernel
theorem dX8_chain_30 : decode cX8_chain 30 = .ok (.istore_n 3, 1) := by decide +kernel
theorem dX8_chain_31 : decode cX8_chain 31 = .ok (.iconst 0, 1) := by decide +kernel
theorem dX8_chain_32 : decode cX8_chain 32 = .ok (.istore 4, 2) := by decide +kernel
theorem dX8_chain_34 : decode cX8_chain 34 = .ok (.iload 4, 2) := by decide +kernel
theorem dX8_chain_36 : decode cX8_chain 36 = .ok (.iload_n 3, 1) := by decide +kernel
theorem dX8_chain_37 : decode cX8_chain 37 = .ok (.if_icmp .ge 58, 3) := by decide +kernel
theorem dX8_chain_40 : decode cX8_chain 40 = .ok (.aload_n 0, 1) := by decide +kernel
theorem dX8_chain_41 : decode cX8_chain 41 = .ok (.getfield 31, 3) := by decide +kernel
theorem dX8_chain_44 : decode cX8_chain 44 = .ok (.ifCond .ne 51, 3) := by decide +kernel
theorem dX8_chain_47 : decode cX8_chain 47 = .ok (.aload_n 0, 1) := by decide +kernel
theorem dX8_chain_48 : decode cX8_chain 48 = .ok (.invokevirtual 67, 3) := by decide +kernel
theorem dX8_chain_51 : decode cX8_chain 51 = .ok (.invokestatic 71, 3) := by decide +kernel
theorem dX8_chain_54 : decode cX8_chain 54 = .ok (.iload_n 1, 1) := by decide +kernel
theorem dX8_chain_55 : decode cX8_chain 55 = .ok (.if_icmp .ne 40, 3) := by decide +kernel
theorem dX8_chain_58 : decode cX8_chain 58 = .ok (.aload_n 0, 1) := by decide +kernel
theorem dX8_chain_59 : decode cX8_chain 59 = .ok (.invokevirtual 67, 3) := by decide +kernel
theorem dX8_chain_62 : decode cX8_chain 62 = .ok (.istore 5, 2) := by decide +kernel
theorem dX8_chain_64 : decode cX8_chain 64 = .ok (.aload_n 0, 1) := by decide +kernel
theorem dX8_chain_65 : decode cX8_chain 65 = .ok (.dup, 1) := by decide +kernel
theorem dX8_chain_66 : decode cX8_chain 66 = .ok (.getfield 25, 3) := by decide +kernel
theorem dX8_chain_69 : decode cX8_chain 69 = .ok (.iconst 1, 1) := by decide +kernel
theorem dX8_chain_70 : decode cX8_chain 70 = .ok (.iadd, 1) := by decide +kernel
theorem dX8_chain_71 : decode cX8_chain 71 = .ok (.putfield 25, 3) := by decide +kernel
theorem dX8_chain_74 : decode cX8_chain 74 = .ok (.aload_n 0, 1) := by decide +kernel
theorem dX8_chain_75 : decode cX8_chain 75 = .ok (.iload_n 1, 1) := by decide +kernel
theorem dX8_chain_76 : decode cX8_chain 76 = .ok (.iconst 1, 1) := by decide +kernel
theorem dX8_chain_77 : decode cX8_chain 77 = .ok (.iadd, 1) := by decide +kernel
theorem dX8_chain_78 : decode cX8_chain 78 = .ok (.iload_n 2, 1) := by decide +kernel
theorem dX8_chain_79 : decode cX8_chain 79 = .ok (.invokevirtual 53, 3) := by decide +kernel
theorem dX8_chain_82 : decode cX8_chain 82 = .ok (.aload_n 0, 1) := by decide +kernel
theorem dX8_chain_83 : decode cX8_chain 83 = .ok (.iload 5, 2) := by decide +kernel
theorem dX8_chain_85 : decode cX8_chain 85 = .ok (.ineg, 1) := by decide +kernel
theorem dX8_chain_86 : decode cX8_chain 86 = .ok (.invokevirtual 75, 3) := by decide +kernel
theorem dX8_chain_89 : decode cX8_chain 89 = .ok (.iinc 4 1, 3) := by decide +kernel
theorem dX8_chain_92 : decode cX8_chain 92 = .ok (.goto (-58), 3) := by decide +kernel
theorem dX8_chain_95 : decode cX8_chain 95 = .ok (.return_, 1) := by decide +kernel
theorem dX8_rankOf_0 : decode cX8_rankOf 0 = .ok (.iload_n 0, 1) := by decide +kernel
theorem dX8_rankOf_1 : decode cX8_rankOf 1 = .ok (.lookupswitch 101 #[(37, 99), (38, 93), (42, 99), (43, 97), (45, 97), (47, 99), (60, 95), (61, 95), (62, 95), (124, 91)], 91) := by decide +kernel
theorem dX8_rankOf_92 : decode cX8_rankOf 92 = .ok (.iconst 0, 1) := by decide +kernel
theorem dX8_rankOf_93 : decode cX8_rankOf 93 = .ok (.ireturn, 1) := by decide +kernel
theorem dX8_rankOf_94 : decode cX8_rankOf 94 = .ok (.iconst 1, 1) := by decide +kernel
theorem dX8_rankOf_95 : decode cX8_rankOf 95 = .ok (.ireturn, 1) := by decide +kernel
theorem dX8_rankOf_96 : decode cX8_rankOf 96 = .ok (.iconst 2, 1) := by decide +kernel
theorem dX8_rankOf_97 : decode cX8_rankOf 97 = .ok (.ireturn, 1) := by decide +kernel
theorem dX8_rankOf_98 : decode cX8_rankOf 98 = .ok (.iconst 3, 1) := by decide +kernel
theorem dX8_rankOf_99 : decode cX8_rankOf 99 = .ok (.ireturn, 1) := by decide +kernel
theorem dX8_rankOf_100 : decode cX8_rankOf 100 = .ok (.iconst 4, 1) := by decide +kernel
theorem dX8_rankOf_101 : decode cX8_rankOf 101 = .ok (.ireturn, 1) := by decide +kernel
theorem dX8_rankOf_102 : decode cX8_rankOf 102 = .ok (.iconst (-1), 1) := by decide +kernel
theorem dX8_rankOf_103 : decode cX8_rankOf 103 = .ok (.ireturn, 1) := by decide +kernel
theorem dX8_operand_0 : decode cX8_operand 0 = .ok (.aload_n 0, 1) := by decide +kernel
theorem dX8_operand_1 : decode cX8_operand 1 = .ok (.invokevirtual 67, 3) := by decide +kernel
theorem dX8_operand_4 : decode cX8_operand 4 = .ok (.istore_n 2, 1) := by decide +kernel
theorem dX8_operand_5 : decode cX8_operand 5 = .ok (.iload_n 2, 1) := by decide +kernel
theorem dX8_operand_6 : decode cX8_operand 6 = .ok (.invokestatic 78, 3) := by decide +kernel
theorem dX8_operand_9 : decode cX8_operand 9 = .ok (.ifCond .eq 10, 3) := by decide +kernel
theorem dX8_operand_12 : decode cX8_operand 12 = .ok (.aload_n 0, 1) := by decide +kernel
theorem dX8_operand_13 : decode cX8_operand 13 = .ok (.invokevirtual 82, 3) := by decide +kernel
theorem dX8_operand_16 : decode cX8_operand 16 = .ok (.goto 31, 3) := by decide +kernel
theorem dX8_operand_19 : decode cX8_operand 19 = .ok (.iload_n 2, 1) := by decide +kernel
theorem dX8_operand_20 : decode cX8_operand 20 = .ok (.bipush 33, 2) := by decide +kernel
theorem dX8_operand_22 : decode cX8_operand 22 = .ok (.if_icmp .eq 9, 3) := by decide +kernel
theorem dX8_operand_25 : decode cX8_operand 25 = .ok (.iload_n 2, 1) := by decide +kernel
theorem dX8_operand_26 : decode cX8_operand 26 = .ok (.bipush 40, 2) := by decide +kernel
theorem dX8_operand_28 : decode cX8_operand 28 = .ok (.if_icmp .ne 14, 3) := by decide +kernel
theorem dX8_operand_31 : decode cX8_operand 31 = .ok (.aload_n 0, 1) := by decide +kernel
theorem dX8_operand_32 : decode cX8_operand 32 = .ok (.iload_n 2, 1) := by decide +kernel
theorem dX8_operand_33 : decode cX8_operand 33 = .ok (.iload_n 1, 1) := by decide +kernel
theorem dX8_operand_34 : decode cX8_operand 34 = .ok (.iconst 1, 1) := by decide +kernel
theorem dX8_operand_35 : decode cX8_operand 35 = .ok (.iadd, 1) := by decide +kernel
theorem dX8_operand_36 : decode cX8_operand 36 = .ok (.invokevirtual 85, 3) := by decide +kernel
theorem dX8_operand_39 : decode cX8_operand 39 = .ok (.goto 8, 3) := by decide +kernel
theorem dX8_operand_42 : decode cX8_operand 42 = .ok (.aload_n 0, 1) := by decide +kernel
theorem dX8_operand_43 : decode cX8_operand 43 = .ok (.iload_n 2, 1) := by decide +kernel
theorem dX8_operand_44 : decode cX8_operand 44 = .ok (.invokevirtual 88, 3) := by decide +kernel
theorem dX8_operand_47 : decode cX8_operand 47 = .ok (.return_, 1) := by decide +kernel
theorem dX8_opened_0 : decode cX8_opened 0 = .ok (.iload_n 2, 1) := by decide +kernel
theorem dX8_opened_1 : decode cX8_opened 1 = .ok (.iconst 5, 1) := by decide +kernel
theorem dX8_opened_2 : decode cX8_opened 2 = .ok (.if_icmp .le 9, 3) := by decide +kernel
theorem dX8_opened_5 : decode cX8_opened 5 = .ok (.aload_n 0, 1) := by decide +kernel
theorem dX8_opened_6 : decode cX8_opened 6 = .ok (.iconst 1, 1) := by decide +kernel
theorem dX8_opened_7 : decode cX8_opened 7 = .ok (.putfield 31, 3) := by decide +kernel
theorem dX8_opened_10 : decode cX8_opened 10 = .ok (.return_, 1) := by decide +kernel
theorem dX8_opened_11 : decode cX8_opened 11 = .ok (.aload_n 0, 1) := by decide +kernel
theorem dX8_opened_12 : decode cX8_opened 12 = .ok (.dup, 1) := by decide +kernel
theorem dX8_opened_13 : decode cX8_opened 13 = .ok (.getfield 25, 3) := by decide +kernel
theorem dX8_opened_16 : decode cX8_opened 16 = .ok (.iconst 1, 1) := by decide +kernel
theorem dX8_opened_17 : decode cX8_opened 17 = .ok (.iadd, 1) := by decide +kernel
theorem dX8_opened_18 : decode cX8_opened 18 = .ok (.putfield 25, 3) := by decide +kernel
theorem dX8_opened_21 : decode cX8_opened 21 = .ok (.iload_n 1, 1) := by decide +kernel
theorem dX8_opened_22 : decode cX8_opened 22 = .ok (.bipush 33, 2) := by decide +kernel
theorem dX8_opened_24 : decode cX8_opened 24 = .ok (.if_icmp .ne 15, 3) := by decide +kernel
theorem dX8_opened_27 : decode cX8_opened 27 = .ok (.aload_n 0, 1) := by decide +kernel
theorem dX8_opened_28 : decode cX8_opened 28 = .ok (.iload_n 2, 1) := by decide +kernel
theorem dX8_opened_29 : decode cX8_opened 29 = .ok (.invokevirtual 63, 3) := by decide +kernel
theorem dX8_opened_32 : decode cX8_opened 32 = .ok (.aload_n 0, 1) := by decide +kernel
theorem dX8_opened_33 : decode cX8_opened 33 = .ok (.iload_n 1, 1) := by decide +kernel
theorem dX8_opened_34 : decode cX8_opened 34 = .ok (.ineg, 1) := by decide +kernel
theorem dX8_opened_35 : decode cX8_opened 35 = .ok (.invokevirtual 75, 3) := by decide +kernel
theorem dX8_opened_38 : decode cX8_opened 38 = .ok (.return_, 1) := by decide +kernel
theorem dX8_opened_39 : decode cX8_opened 39 = .ok (.aload_n 0, 1) := by decide +kernel
theorem dX8_opened_40 : decode cX8_opened 40 = .ok (.iconst 0, 1) := by decide +kernel
theorem dX8_opened_41 : decode cX8_opened 41 = .ok (.iload_n 2, 1) := by decide +kernel
theorem dX8_opened_42 : decode cX8_opened 42 = .ok (.invokevirtual 53, 3) := by decide +kernel
theorem dX8_opened_45 : decode cX8_opened 45 = .ok (.aload_n 0, 1) := by decide +kernel
theorem dX8_opened_46 : decode cX8_opened 46 = .ok (.getfield 31, 3) := by decide +kernel
theorem dX8_opened_49 : decode cX8_opened 49 = .ok (.ifCond .ne 12, 3) := by decide +kernel
theorem dX8_opened_52 : decode cX8_opened 52 = .ok (.aload_n 0, 1) := by decide +kernel
theorem dX8_opened_53 : decode cX8_opened 53 = .ok (.invokevirtual 67, 3) := by decide +kernel
theorem dX8_opened_56 : decode cX8_opened 56 = .ok (.bipush 41, 2) := by decide +kernel
theorem dX8_opened_58 : decode cX8_opened 58 = .ok (.if_icmp .eq 9, 3) := by decide +kernel
theorem dX8_opened_61 : decode cX8_opened 61 = .ok (.aload_n 0, 1) := by decide +kernel
theorem dX8_opened_62 : decode cX8_opened 62 = .ok (.iconst 1, 1) := by decide +kernel
theorem dX8_opened_63 : decode cX8_opened 63 = .ok (.putfield 31, 3) := by decide +kernel
theorem dX8_opened_66 : decode cX8_opened 66 = .ok (.return_, 1) := by decide +kernel
theorem dX8_opened_67 : decode cX8_opened 67 = .ok (.aload_n 0, 1) := by decide +kernel
theorem dX8_opened_68 : decode cX8_opened 68 = .ok (.dup, 1) := by decide +kernel
theorem dX8_opened_69 : decode cX8_opened 69 = .ok (.getfield 25, 3) := by decide +kernel
theorem dX8_opened_72 : decode cX8_opened 72 = .ok (.iconst 1, 1) := by decide +kernel
theorem dX8_opened_73 : decode cX8_opened 73 = .ok (.iadd, 1) := by decide +kernel
theorem dX8_opened_74 : decode cX8_opened 74 = .ok (.putfield 25, 3) := by decide +kernel
theorem dX8_opened_77 : decode cX8_opened 77 = .ok (.return_, 1) := by decide +kernel
theorem dX8_number_0 : decode cX8_number 0 = .ok (.iconst 0, 1) := by decide +kernel
theorem dX8_number_1 : decode cX8_number 1 = .ok (.istore_n 1, 1) := by decide +kernel
theorem dX8_number_2 : decode cX8_number 2 = .ok (.iconst 0, 1) := by decide +kernel
theorem dX8_number_3 : decode cX8_number 3 = .ok (.istore_n 2, 1) := by decide +kernel
theorem dX8_number_4 : decode cX8_number 4 = .ok (.iload_n 2, 1) := by decide +kernel
theorem dX8_number_5 : decode cX8_number 5 = .ok (.iconst 4, 1) := by decide +kernel
theorem dX8_number_6 : decode cX8_number 6 = .ok (.if_icmp .ge 42, 3) := by decide +kernel
theorem dX8_number_9 : decode cX8_number 9 = .ok (.aload_n 0, 1) := by decide +kernel
theorem dX8_number_10 : decode cX8_number 10 = .ok (.invokevirtual 67, 3) := by decide +kernel
theorem dX8_number_13 : decode cX8_number 13 = .ok (.invokestatic 78, 3) := by decide +kernel
theorem dX8_number_16 : decode cX8_number 16 = .ok (.ifCond .eq 32, 3) := by decide +kernel
theorem dX8_number_19 : decode cX8_number 19 = .ok (.iload_n 1, 1) := by decide +kernel
theorem dX8_number_20 : decode cX8_number 20 = .ok (.bipush 10, 2) := by decide +kernel
theorem dX8_number_22 : decode cX8_number 22 = .ok (.imul, 1) := by decide +kernel
theorem dX8_number_23 : decode cX8_number 23 = .ok (.aload_n 0, 1) := by decide +kernel
theorem dX8_number_24 : decode cX8_number 24 = .ok (.invokevirtual 67, 3) := by decide +kernel
theorem dX8_number_27 : decode cX8_number 27 = .ok (.bipush 48, 2) := by decide +kernel
theorem dX8_number_29 : decode cX8_number 29 = .ok (.isub, 1) := by decide +kernel
theorem dX8_number_30 : decode cX8_number 30 = .ok (.iadd, 1) := by decide +kernel
theorem dX8_number_31 : decode cX8_number 31 = .ok (.istore_n 1, 1) := by decide +kernel
theorem dX8_number_32 : decode cX8_number 32 = .ok (.aload_n 0, 1) := by decide +kernel
theorem dX8_number_33 : decode cX8_number 33 = .ok (.dup, 1) := by decide +kernel
theorem dX8_number_34 : decode cX8_number 34 = .ok (.getfield 25, 3) := by decide +kernel
theorem dX8_number_37 : decode cX8_number 37 = .ok (.iconst 1, 1) := by decide +kernel
theorem dX8_number_38 : decode cX8_number 38 = .ok (.iadd, 1) := by decide +kernel
theorem dX8_number_39 : decode cX8_number 39 = .ok (.putfield 25, 3) := by decide +kernel
theorem dX8_number_42 : decode cX8_number 42 = .ok (.iinc 2 1, 3) := by decide +kernel
theorem dX8_number_45 : decode cX8_number 45 = .ok (.goto (-41), 3) := by decide +kernel
theorem dX8_number_48 : decode cX8_number 48 = .ok (.aload_n 0, 1) := by decide +kernel
theorem dX8_number_49 : decode cX8_number 49 = .ok (.iload_n 1, 1) := by decide +kernel
theorem dX8_number_50 : decode cX8_number 50 = .ok (.invokevirtual 75, 3) := by decide +kernel
theorem dX8_number_53 : decode cX8_number 53 = .ok (.return_, 1) := by decide +kernel
theorem dX8_name_0 : decode cX8_name 0 = .ok (.iload_n 1, 1) := by decide +kernel
theorem dX8_name_1 : decode cX8_name 1 = .ok (.ifCond .ge 7, 3) := by decide +kernel
theorem dX8_name_4 : decode cX8_name 4 = .ok (.iconst (-1), 1) := by decide +kernel
theorem dX8_name_5 : decode cX8_name 5 = .ok (.goto 12, 3) := by decide +kernel
theorem dX8_name_8 : decode cX8_name 8 = .ok (.aload_n 0, 1) := by decide +kernel
theorem dX8_name_9 : decode cX8_name 9 = .ok (.getfield 37, 3) := by decide +kernel
theorem dX8_name_12 : decode cX8_name 12 = .ok (.iload_n 1, 1) := by decide +kernel
theorem dX8_name_13 : decode cX8_name 13 = .ok (.i2c, 1) := by decide +kernel
theorem dX8_name_14 : decode cX8_name 14 = .ok (.invokevirtual 91, 3) := by decide +kernel
theorem dX8_name_17 : decode cX8_name 17 = .ok (.istore_n 2, 1) := by decide +kernel
theorem dX8_name_18 : decode cX8_name 18 = .ok (.iload_n 2, 1) := by decide +kernel
theorem dX8_name_19 : decode cX8_name 19 = .ok (.ifCond .ge 9, 3) := by decide +kernel
theorem dX8_name_22 : decode cX8_name 22 = .ok (.aload_n 0, 1) := by decide +kernel
theorem dX8_name_23 : decode cX8_name 23 = .ok (.iconst 1, 1) := by decide +kernel
theorem dX8_name_24 : decode cX8_name 24 = .ok (.putfield 31, 3) := by decide +kernel
theorem dX8_name_27 : decode cX8_name 27 = .ok (.return_, 1) := by decide +kernel
theorem dX8_name_28 : decode cX8_name 28 = .ok (.aload_n 0, 1) := by decide +kernel
theorem dX8_name_29 : decode cX8_name 29 = .ok (.dup, 1) := by decide +kernel
theorem dX8_name_30 : decode cX8_name 30 = .ok (.getfield 25, 3) := by decide +kernel
theorem dX8_name_33 : decode cX8_name 33 = .ok (.iconst 1, 1) := by decide +kernel
theorem dX8_name_34 : decode cX8_name 34 = .ok (.iadd, 1) := by decide +kernel
theorem dX8_name_35 : decode cX8_name 35 = .ok (.putfield 25, 3) := by decide +kernel
theorem dX8_name_38 : decode cX8_name 38 = .ok (.aload_n 0, 1) := by decide +kernel
theorem dX8_name_39 : decode cX8_name 39 = .ok (.iconst (-1), 1) := by decide +kernel
theorem dX8_name_40 : decode cX8_name 40 = .ok (.iload_n 2, 1) := by decide +kernel
theorem dX8_name_41 : decode cX8_name 41 = .ok (.isub, 1) := by decide +kernel
theorem dX8_name_42 : decode cX8_name 42 = .ok (.invokevirtual 75, 3) := by decide +kernel
theorem dX8_name_45 : decode cX8_name 45 = .ok (.return_, 1) := by decide +kernel
theorem dX8_look_0 : decode cX8_look 0 = .ok (.aload_n 0, 1) := by decide +kernel
theorem dX8_look_1 : decode cX8_look 1 = .ok (.getfield 25, 3) := by decide +kernel
theorem dX8_look_4 : decode cX8_look 4 = .ok (.aload_n 0, 1) := by decide +kernel
theorem dX8_look_5 : decode cX8_look 5 = .ok (.getfield 21, 3) := by decide +kernel
theorem dX8_look_8 : decode cX8_look 8 = .ok (.if_icmp .ge 15, 3) := by decide +kernel
theorem dX8_look_11 : decode cX8_look 11 = .ok (.aload_n 0, 1) := by decide +kernel
theorem dX8_look_12 : decode cX8_look 12 = .ok (.getfield 18, 3) := by decide +kernel
theorem dX8_look_15 : decode cX8_look 15 = .ok (.aload_n 0, 1) := by decide +kernel
theorem dX8_look_16 : decode cX8_look 16 = .ok (.getfield 25, 3) := by decide +kernel
theorem dX8_look_19 : decode cX8_look 19 = .ok (.iaload, 1) := by decide +kernel
theorem dX8_look_20 : decode cX8_look 20 = .ok (.goto 4, 3) := by decide +kernel
theorem dX8_look_23 : decode cX8_look 23 = .ok (.iconst (-1), 1) := by decide +kernel
theorem dX8_look_24 : decode cX8_look 24 = .ok (.ireturn, 1) := by decide +kernel
theorem dX8_isDigit_0 : decode cX8_isDigit 0 = .ok (.iload_n 0, 1) := by decide +kernel
theorem dX8_isDigit_1 : decode cX8_isDigit 1 = .ok (.bipush 48, 2) := by decide +kernel
theorem dX8_isDigit_3 : decode cX8_isDigit 3 = .ok (.if_icmp .lt 13, 3) := by decide +kernel
theorem dX8_isDigit_6 : decode cX8_isDigit 6 = .ok (.iload_n 0, 1) := by decide +kernel
theorem dX8_isDigit_7 : decode cX8_isDigit 7 = .ok (.bipush 57, 2) := by decide +kernel
theorem dX8_isDigit_9 : decode cX8_isDigit 9 = .ok (.if_icmp .gt 7, 3) := by decide +kernel
theorem dX8_isDigit_12 : decode cX8_isDigit 12 = .ok (.iconst 1, 1) := by decide +kernel
theorem dX8_isDigit_13 : decode cX8_isDigit 13 = .ok (.goto 4, 3) := by decide +kernel
theorem dX8_isDigit_16 : decode cX8_isDigit 16 = .ok (.iconst 0, 1) := by decide +kernel
theorem dX8_isDigit_17 : decode cX8_isDigit 17 = .ok (.ireturn, 1) := by decide +kernel
theorem dX8_write_0 : decode cX8_write 0 = .ok (.aload_n 0, 1) := by decide +kernel
theorem dX8_write_1 : decode cX8_write 1 = .ok (.getfield 28, 3) := by decide +kernel
theorem dX8_write_4 : decode cX8_write 4 = .ok (.aload_n 0, 1) := by decide +kernel
theorem dX8_write_5 : decode cX8_write 5 = .ok (.getfield 9, 3) := by decide +kernel
theorem dX8_write_8 : decode cX8_write 8 = .ok (.arraylength, 1) := by decide +kernel
theorem dX8_write_9 : decode cX8_write 9 = .ok (.if_icmp .ge 23, 3) := by decide +kernel
theorem dX8_write_12 : decode cX8_write 12 = .ok (.aload_n 0, 1) := by decide +kernel
theorem dX8_write_13 : decode cX8_write 13 = .ok (.getfield 9, 3) := by decide +kernel
theorem dX8_write_16 : decode cX8_write 16 = .ok (.aload_n 0, 1) := by decide +kernel
theorem dX8_write_17 : decode cX8_write 17 = .ok (.getfield 28, 3) := by decide +kernel
theorem dX8_write_20 : decode cX8_write 20 = .ok (.iload_n 1, 1) := by decide +kernel
theorem dX8_write_21 : decode cX8_write 21 = .ok (.iastore, 1) := by decide +kernel
theorem dX8_write_22 : decode cX8_write 22 = .ok (.aload_n 0, 1) := by decide +kernel
theorem dX8_write_23 : decode cX8_write 23 = .ok (.dup, 1) := by decide +kernel
theorem dX8_write_24 : decode cX8_write 24 = .ok (.getfield 28, 3) := by decide +kernel
theorem dX8_write_27 : decode cX8_write 27 = .ok (.iconst 1, 1) := by decide +kernel
theorem dX8_write_28 : decode cX8_write 28 = .ok (.iadd, 1) := by decide +kernel
theorem dX8_write_29 : decode cX8_write 29 = .ok (.putfield 28, 3) := by decide +kernel
theorem dX8_write_32 : decode cX8_write 32 = .ok (.return_, 1) := by decide +kernel
theorem dX8_work_0 : decode cX8_work 0 = .ok (.iconst 0, 1) := by decide +kernel
theorem dX8_work_1 : decode cX8_work 1 = .ok (.istore 6, 2) := by decide +kernel
theorem dX8_work_3 : decode cX8_work 3 = .ok (.iconst 0, 1) := by decide +kernel
theorem dX8_work_4 : decode cX8_work 4 = .ok (.istore 7, 2) := by decide +kernel
theorem dX8_work_6 : decode cX8_work 6 = .ok (.iload 7, 2) := by decide +kernel
theorem dX8_work_8 : decode cX8_work 8 = .ok (.aload_n 1, 1) := by decide +kernel
theorem dX8_work_9 : decode cX8_work 9 = .ok (.arraylength, 1) := by decide +kernel
theorem dX8_work_10 : decode cX8_work 10 = .ok (.if_icmp .ge 138, 3) := by decide +kernel
theorem dX8_work_13 : decode cX8_work 13 = .ok (.aload_n 1, 1) := by decide +kernel
theorem dX8_work_14 : decode cX8_work 14 = .ok (.iload 7, 2) := by decide +kernel
theorem dX8_work_16 : decode cX8_work 16 = .ok (.iaload, 1) := by decide +kernel
theorem dX8_work_17 : decode cX8_work 17 = .ok (.istore 8, 2) := by decide +kernel
theorem dX8_work_19 : decode cX8_work 19 = .ok (.iload 8, 2) := by decide +kernel
theorem dX8_work_21 : decode cX8_work 21 = .ok (.bipush (-4), 2) := by decide +kernel
theorem dX8_work_23 : decode cX8_work 23 = .ok (.if_icmp .lt 37, 3) := by decide +kernel
theorem dX8_work_26 : decode cX8_work 26 = .ok (.iload 6, 2) := by decide +kernel
theorem dX8_work_28 : decode cX8_work 28 = .ok (.aload_n 0, 1) := by decide +kernel
theorem dX8_work_29 : decode cX8_work 29 = .ok (.getfield 15, 3) := by decide +kernel
theorem dX8_work_32 : decode cX8_work 32 = .ok (.arraylength, 1) := by decide +kernel
theorem dX8_work_33 : decode cX8_work 33 = .ok (.if_icmp .ge 109, 3) := by decide +kernel
theorem dX8_work_36 : decode cX8_work 36 = .ok (.aload_n 0, 1) := by decide +kernel
theorem dX8_work_37 : decode cX8_work 37 = .ok (.getfield 15, 3) := by decide +kernel
theorem dX8_work_40 : decode cX8_work 40 = .ok (.iload 6, 2) := by decide +kernel
theorem dX8_work_42 : decode cX8_work 42 = .ok (.iload 8, 2) := by decide +kernel
theorem dX8_work_44 : decode cX8_work 44 = .ok (.iload_n 2, 1) := by decide +kernel
theorem dX8_work_45 : decode cX8_work 45 = .ok (.iload_n 3, 1) := by decide +kernel
theorem dX8_work_46 : decode cX8_work 46 = .ok (.iload 4, 2) := by decide +kernel
theorem dX8_work_48 : decode cX8_work 48 = .ok (.iload 5, 2) := by decide +kernel
theorem dX8_work_50 : decode cX8_work 50 = .ok (.invokestatic 96, 3) := by decide +kernel
theorem dX8_work_53 : decode cX8_work 53 = .ok (.iastore, 1) := by decide +kernel
theorem dX8_work_54 : decode cX8_work 54 = .ok (.iinc 6 1, 3) := by decide +kernel
theorem dX8_work_57 : decode cX8_work 57 = .ok (.goto 85, 3) := by decide +kernel
theorem dX8_work_60 : decode cX8_work 60 = .ok (.iload 8, 2) := by decide +kernel
theorem dX8_work_62 : decode cX8_work 62 = .ok (.bipush (-33), 2) := by decide +kernel
theorem dX8_work_64 : decode cX8_work 64 = .ok (.if_icmp .ne 38, 3) := by decide +kernel
theorem dX8_work_67 : decode cX8_work 67 = .ok (.iload 6, 2) := by decide +kernel
theorem dX8_work_69 : decode cX8_work 69 = .ok (.iconst 1, 1) := by decide +kernel
theorem dX8_work_70 : decode cX8_work 70 = .ok (.if_icmp .lt 72, 3) := by decide +kernel
theorem dX8_work_73 : decode cX8_work 73 = .ok (.aload_n 0, 1) := by decide +kernel
theorem dX8_work_74 : decode cX8_work 74 = .ok (.getfield 15, 3) := by decide +kernel
theorem dX8_work_77 : decode cX8_work 77 = .ok (.iload 6, 2) := by decide +kernel
theorem dX8_work_79 : decode cX8_work 79 = .ok (.iconst 1, 1) := by decide +kernel
theorem dX8_work_80 : decode cX8_work 80 = .ok (.isub, 1) := by decide +kernel
theorem dX8_work_81 : decode cX8_work 81 = .ok (.aload_n 0, 1) := by decide +kernel
theorem dX8_work_82 : decode cX8_work 82 = .ok (.getfield 15, 3) := by decide +kernel
theorem dX8_work_85 : decode cX8_work 85 = .ok (.iload 6, 2) := by decide +kernel
theorem dX8_work_87 : decode cX8_work 87 = .ok (.iconst 1, 1) := by decide +kernel
theorem dX8_work_88 : decode cX8_work 88 = .ok (.isub, 1) := by decide +kernel
theorem dX8_work_89 : decode cX8_work 89 = .ok (.iaload, 1) := by decide +kernel
theorem dX8_work_90 : decode cX8_work 90 = .ok (.ifCond .ne 7, 3) := by decide +kernel
theorem dX8_work_93 : decode cX8_work 93 = .ok (.iconst 1, 1) := by decide +kernel
theorem dX8_work_94 : decode cX8_work 94 = .ok (.goto 4, 3) := by decide +kernel
theorem dX8_work_97 : decode cX8_work 97 = .ok (.iconst 0, 1) := by decide +kernel
theorem dX8_work_98 : decode cX8_work 98 = .ok (.iastore, 1) := by decide +kernel
theorem dX8_work_99 : decode cX8_work 99 = .ok (.goto 43, 3) := by decide +kernel
theorem dX8_work_102 : decode cX8_work 102 = .ok (.iload 6, 2) := by decide +kernel
theorem dX8_work_104 : decode cX8_work 104 = .ok (.iconst 2, 1) := by decide +kernel
theorem dX8_work_105 : decode cX8_work 105 = .ok (.if_icmp .lt 37, 3) := by decide +kernel
theorem dX8_work_108 : decode cX8_work 108 = .ok (.iinc 6 (-1), 3) := by decide +kernel
theorem dX8_work_111 : decode cX8_work 111 = .ok (.aload_n 0, 1) := by decide +kernel
theorem dX8_work_112 : decode cX8_work 112 = .ok (.getfield 15, 3) := by decide +kernel
theorem dX8_work_115 : decode cX8_work 115 = .ok (.iload 6, 2) := by decide +kernel
theorem dX8_work_117 : decode cX8_work 117 = .ok (.iconst 1, 1) := by decide +kernel
theorem dX8_work_118 : decode cX8_work 118 = .ok (.isub, 1) := by decide +kernel
theorem dX8_work_119 : decode cX8_work 119 = .ok (.iload 8, 2) := by decide +kernel
theorem dX8_work_121 : decode cX8_work 121 = .ok (.ineg, 1) := by decide +kernel
theorem dX8_work_122 : decode cX8_work 122 = .ok (.aload_n 0, 1) := by decide +kernel
theorem dX8_work_123 : decode cX8_work 123 = .ok (.getfield 15, 3) := by decide +kernel
theorem dX8_work_126 : decode cX8_work 126 = .ok (.iload 6, 2) := by decide +kernel
theorem dX8_work_128 : decode cX8_work 128 = .ok (.iconst 1, 1) := by decide +kernel
theorem dX8_work_129 : decode cX8_work 129 = .ok (.isub, 1) := by decide +kernel
theorem dX8_work_130 : decode cX8_work 130 = .ok (.iaload, 1) := by decide +kernel
theorem dX8_work_131 : decode cX8_work 131 = .ok (.aload_n 0, 1) := by decide +kernel
theorem dX8_work_132 : decode cX8_work 132 = .ok (.getfield 15, 3) := by decide +kernel
theorem dX8_work_135 : decode cX8_work 135 = .ok (.iload 6, 2) := by decide +kernel
theorem dX8_work_137 : decode cX8_work 137 = .ok (.iaload, 1) := by decide +kernel
theorem dX8_work_138 : decode cX8_work 138 = .ok (.invokestatic 100, 3) := by decide +kernel
theorem dX8_work_141 : decode cX8_work 141 = .ok (.iastore, 1) := by decide +kernel
theorem dX8_work_142 : decode cX8_work 142 = .ok (.iinc 7 1, 3) := by decide +kernel
theorem dX8_work_145 : decode cX8_work 145 = .ok (.goto (-139), 3) := by decide +kernel
theorem dX8_work_148 : decode cX8_work 148 = .ok (.aload_n 0, 1) := by decide +kernel
theorem dX8_work_149 : decode cX8_work 149 = .ok (.getfield 15, 3) := by decide +kernel
theorem dX8_work_152 : decode cX8_work 152 = .ok (.iconst 0, 1) := by decide +kernel
theorem dX8_work_153 : decode cX8_work 153 = .ok (.iaload, 1) := by decide +kernel
theorem dX8_work_154 : decode cX8_work 154 = .ok (.ireturn, 1) := by decide +kernel
theorem dX8_valueOf_0 : decode cX8_valueOf 0 = .ok (.iload_n 0, 1) := by decide +kernel
theorem dX8_valueOf_1 : decode cX8_valueOf 1 = .ok (.tableswitch 40 (-4) (-1) #[37, 35, 33, 31], 31) := by decide +kernel
theorem dX8_valueOf_32 : decode cX8_valueOf 32 = .ok (.iload_n 1, 1) := by decide +kernel
theorem dX8_valueOf_33 : decode cX8_valueOf 33 = .ok (.ireturn, 1) := by decide +kernel
theorem dX8_valueOf_34 : decode cX8_valueOf 34 = .ok (.iload_n 2, 1) := by decide +kernel
theorem dX8_valueOf_35 : decode cX8_valueOf 35 = .ok (.ireturn, 1) := by decide +kernel
theorem dX8_valueOf_36 : decode cX8_valueOf 36 = .ok (.iload_n 3, 1) := by decide +kernel
theorem dX8_valueOf_37 : decode cX8_valueOf 37 = .ok (.ireturn, 1) := by decide +kernel
theorem dX8_valueOf_38 : decode cX8_valueOf 38 = .ok (.iload 4, 2) := by decide +kernel
theorem dX8_valueOf_40 : decode cX8_valueOf 40 = .ok (.ireturn, 1) := by decide +kernel
theorem dX8_valueOf_41 : decode cX8_valueOf 41 = .ok (.iload_n 0, 1) := by decide +kernel
theorem dX8_valueOf_42 : decode cX8_valueOf 42 = .ok (.ireturn, 1) := by decide +kernel
theorem dX8_joined_0 : decode cX8_joined 0 = .ok (.iload_n 0, 1) := by decide +kernel
theorem dX8_joined_1 : decode cX8_joined 1 = .ok (.lookupswitch 168 #[(38, 97), (42, 152), (43, 144), (45, 148), (47, 156), (60, 111), (61, 122), (62, 133), (124, 83)], 83) := by decide +kernel
theorem dX8_joined_84 : decode cX8_joined 84 = .ok (.iload_n 1, 1) := by decide +kernel
theorem dX8_joined_85 : decode cX8_joined 85 = .ok (.ifCond .ne 7, 3) := by decide +kernel
theorem dX8_joined_88 : decode cX8_joined 88 = .ok (.iload_n 2, 1) := by decide +kernel
theorem dX8_joined_89 : decode cX8_joined 89 = .ok (.ifCond .eq 7, 3) := by decide +kernel
theorem dX8_joined_92 : decode cX8_joined 92 = .ok (.iconst 1, 1) := by decide +kernel
theorem dX8_joined_93 : decode cX8_joined 93 = .ok (.goto 4, 3) := by decide +kernel
theorem dX8_joined_96 : decode cX8_joined 96 = .ok (.iconst 0, 1) := by decide +kernel
theorem dX8_joined_97 : decode cX8_joined 97 = .ok (.ireturn, 1) := by decide +kernel
theorem dX8_joined_98 : decode cX8_joined 98 = .ok (.iload_n 1, 1) := by decide +kernel
theorem dX8_joined_99 : decode cX8_joined 99 = .ok (.ifCond .eq 11, 3) := by decide +kernel
theorem dX8_joined_102 : decode cX8_joined 102 = .ok (.iload_n 2, 1) := by decide +kernel
theorem dX8_joined_103 : decode cX8_joined 103 = .ok (.ifCond .eq 7, 3) := by decide +kernel
theorem dX8_joined_106 : decode cX8_joined 106 = .ok (.iconst 1, 1) := by decide +kernel
theorem dX8_joined_107 : decode cX8_joined 107 = .ok (.goto 4, 3) := by decide +kernel
theorem dX8_joined_110 : decode cX8_joined 110 = .ok (.iconst 0, 1) := by decide +kernel
theorem dX8_joined_111 : decode cX8_joined 111 = .ok (.ireturn, 1) := by decide +kernel
theorem dX8_joined_112 : decode cX8_joined 112 = .ok (.iload_n 1, 1) := by decide +kernel
theorem dX8_joined_113 : decode cX8_joined 113 = .ok (.iload_n 2, 1) := by decide +kernel
theorem dX8_joined_114 : decode cX8_joined 114 = .ok (.if_icmp .ge 7, 3) := by decide +kernel
theorem dX8_joined_117 : decode cX8_joined 117 = .ok (.iconst 1, 1) := by decide +kernel
theorem dX8_joined_118 : decode cX8_joined 118 = .ok (.goto 4, 3) := by decide +kernel
theorem dX8_joined_121 : decode cX8_joined 121 = .ok (.iconst 0, 1) := by decide +kernel
theorem dX8_joined_122 : decode cX8_joined 122 = .ok (.ireturn, 1) := by decide +kernel
theorem dX8_joined_123 : decode cX8_joined 123 = .ok (.iload_n 1, 1) := by decide +kernel
theorem dX8_joined_124 : decode cX8_joined 124 = .ok (.iload_n 2, 1) := by decide +kernel
theorem dX8_joined_125 : decode cX8_joined 125 = .ok (.if_icmp .ne 7, 3) := by decide +kernel
theorem dX8_joined_128 : decode cX8_joined 128 = .ok (.iconst 1, 1) := by decide +kernel
theorem dX8_joined_129 : decode cX8_joined 129 = .ok (.goto 4, 3) := by decide +kernel
theorem dX8_joined_132 : decode cX8_joined 132 = .ok (.iconst 0, 1) := by decide +kernel
theorem dX8_joined_133 : decode cX8_joined 133 = .ok (.ireturn, 1) := by decide +kernel
theorem dX8_joined_134 : decode cX8_joined 134 = .ok (.iload_n 1, 1) := by decide +kernel
theorem dX8_joined_135 : decode cX8_joined 135 = .ok (.iload_n 2, 1) := by decide +kernel
theorem dX8_joined_136 : decode cX8_joined 136 = .ok (.if_icmp .le 7, 3) := by decide +kernel
theorem dX8_joined_139 : decode cX8_joined 139 = .ok (.iconst 1, 1) := by decide +kernel
theorem dX8_joined_140 : decode cX8_joined 140 = .ok (.goto 4, 3) := by decide +kernel
theorem dX8_joined_143 : decode cX8_joined 143 = .ok (.iconst 0, 1) := by decide +kernel
theorem dX8_joined_144 : decode cX8_joined 144 = .ok (.ireturn, 1) := by decide +kernel
theorem dX8_joined_145 : decode cX8_joined 145 = .ok (.iload_n 1, 1) := by decide +kernel
theorem dX8_joined_146 : decode cX8_joined 146 = .ok (.iload_n 2, 1) := by decide +kernel
theorem dX8_joined_147 : decode cX8_joined 147 = .ok (.iadd, 1) := by decide +kernel
theorem dX8_joined_148 : decode cX8_joined 148 = .ok (.ireturn, 1) := by decide +kernel
theorem dX8_joined_149 : decode cX8_joined 149 = .ok (.iload_n 1, 1) := by decide +kernel
theorem dX8_joined_150 : decode cX8_joined 150 = .ok (.iload_n 2, 1) := by decide +kernel
theorem dX8_joined_151 : decode cX8_joined 151 = .ok (.isub, 1) := by decide +kernel
theorem dX8_joined_152 : decode cX8_joined 152 = .ok (.ireturn, 1) := by decide +kernel
theorem dX8_joined_153 : decode cX8_joined 153 = .ok (.iload_n 1, 1) := by decide +kernel
theorem dX8_joined_154 : decode cX8_joined 154 = .ok (.iload_n 2, 1) := by decide +kernel
theorem dX8_joined_155 : decode cX8_joined 155 = .ok (.imul, 1) := by decide +kernel
theorem dX8_joined_156 : decode cX8_joined 156 = .ok (.ireturn, 1) := by decide +kernel
theorem dX8_joined_157 : decode cX8_joined 157 = .ok (.iload_n 2, 1) := by decide +kernel
theorem dX8_joined_158 : decode cX8_joined 158 = .ok (.ifCond .ne 7, 3) := by decide +kernel
theorem dX8_joined_161 : decode cX8_joined 161 = .ok (.iconst 0, 1) := by decide +kernel
theorem dX8_joined_162 : decode cX8_joined 162 = .ok (.goto 6, 3) := by decide +kernel
theorem dX8_joined_165 : decode cX8_joined 165 = .ok (.iload_n 1, 1) := by decide +kernel
theorem dX8_joined_166 : decode cX8_joined 166 = .ok (.iload_n 2, 1) := by decide +kernel
theorem dX8_joined_167 : decode cX8_joined 167 = .ok (.idiv, 1) := by decide +kernel
theorem dX8_joined_168 : decode cX8_joined 168 = .ok (.ireturn, 1) := by decide +kernel
theorem dX8_joined_169 : decode cX8_joined 169 = .ok (.iload_n 2, 1) := by decide +kernel
theorem dX8_joined_170 : decode cX8_joined 170 = .ok (.ifCond .ne 7, 3) := by decide +kernel
theorem dX8_joined_173 : decode cX8_joined 173 = .ok (.iconst 0, 1) := by decide +kernel
theorem dX8_joined_174 : decode cX8_joined 174 = .ok (.goto 6, 3) := by decide +kernel
theorem dX8_joined_177 : decode cX8_joined 177 = .ok (.iload_n 1, 1) := by decide +kernel
theorem dX8_joined_178 : decode cX8_joined 178 = .ok (.iload_n 2, 1) := by decide +kernel
theorem dX8_joined_179 : decode cX8_joined 179 = .ok (.irem, 1) := by decide +kernel
theorem dX8_joined_180 : decode cX8_joined 180 = .ok (.ireturn, 1) := by decide +kernel
theorem dX9_init_0 : decode cX9_init 0 = .ok (.aload_n 0, 1) := by decide +kernel
theorem dX9_init_1 : decode cX9_init 1 = .ok (.invokespecial 3, 3) := by decide +kernel
theorem dX9_init_4 : decode cX9_init 4 = .ok (.aload_n 0, 1) := by decide +kernel
theorem dX9_init_5 : decode cX9_init 5 = .ok (.iconst 3, 1) := by decide +kernel
theorem dX9_init_6 : decode cX9_init 6 = .ok (.newarray .int, 2) := by decide +kernel
theorem dX9_init_8 : decode cX9_init 8 = .ok (.dup, 1) := by decide +kernel
theorem dX9_init_9 : decode cX9_init 9 = .ok (.iconst 0, 1) := by decide +kernel
theorem dX9_init_10 : decode cX9_init 10 = .ok (.bipush 7, 2) := by decide +kernel
theorem dX9_init_12 : decode cX9_init 12 = .ok (.iastore, 1) := by decide +kernel
theorem dX9_init_13 : decode cX9_init 13 = .ok (.dup, 1) := by decide +kernel
theorem dX9_init_14 : decode cX9_init 14 = .ok (.iconst 1, 1) := by decide +kernel
theorem dX9_init_15 : decode cX9_init 15 = .ok (.iconst 0, 1) := by decide +kernel
theorem dX9_init_16 : decode cX9_init 16 = .ok (.iastore, 1) := by decide +kernel
theorem dX9_init_17 : decode cX9_init 17 = .ok (.dup, 1) := by decide +kernel
theorem dX9_init_18 : decode cX9_init 18 = .ok (.iconst 2, 1) := by decide +kernel
theorem dX9_init_19 : decode cX9_init 19 = .ok (.iconst 0, 1) := by decide +kernel
theorem dX9_init_20 : decode cX9_init 20 = .ok (.iastore, 1) := by decide +kernel
theorem dX9_init_21 : decode cX9_init 21 = .ok (.putfield 9, 3) := by decide +kernel
theorem dX9_init_24 : decode cX9_init 24 = .ok (.aload_n 0, 1) := by decide +kernel
theorem dX9_init_25 : decode cX9_init 25 = .ok (.iconst 0, 1) := by decide +kernel
theorem dX9_init_26 : decode cX9_init 26 = .ok (.putfield 15, 3) := by decide +kernel
theorem dX9_init_29 : decode cX9_init 29 = .ok (.aload_n 0, 1) := by decide +kernel
theorem dX9_init_30 : decode cX9_init 30 = .ok (.iconst 1, 1) := by decide +kernel
theorem dX9_init_31 : decode cX9_init 31 = .ok (.putfield 19, 3) := by decide +kernel
theorem dX9_init_34 : decode cX9_init 34 = .ok (.aload_n 0, 1) := by decide +kernel
theorem dX9_init_35 : decode cX9_init 35 = .ok (.iconst 0, 1) := by decide +kernel
theorem dX9_init_36 : decode cX9_init 36 = .ok (.putfield 22, 3) := by decide +kernel
theorem dX9_init_39 : decode cX9_init 39 = .ok (.aload_n 0, 1) := by decide +kernel
theorem dX9_init_40 : decode cX9_init 40 = .ok (.iconst 3, 1) := by decide +kernel
theorem dX9_init_41 : decode cX9_init 41 = .ok (.bipush 6, 2) := by decide +kernel
theorem dX9_init_43 : decode cX9_init 43 = .ok (.multianewarray 25 2, 4) := by decide +kernel
theorem dX9_init_47 : decode cX9_init 47 = .ok (.putfield 27, 3) := by decide +kernel
theorem dX9_init_50 : decode cX9_init 50 = .ok (.aload_n 0, 1) := by decide +kernel
theorem dX9_init_51 : decode cX9_init 51 = .ok (.iconst 0, 1) := by decide +kernel
theorem dX9_init_52 : decode cX9_init 52 = .ok (.putfield 30, 3) := by decide +kernel
theorem dX9_init_55 : decode cX9_init 55 = .ok (.aload_n 0, 1) := by decide +kernel
theorem dX9_init_56 : decode cX9_init 56 = .ok (.bipush 6, 2) := by decide +kernel
theorem dX9_init_58 : decode cX9_init 58 = .ok (.bipush 40, 2) := by decide +kernel
theorem dX9_init_60 : decode cX9_init 60 = .ok (.multianewarray 25 2, 4) := by decide +kernel
theorem dX9_init_64 : decode cX9_init 64 = .ok (.putfield 33, 3) := by decide +kernel
theorem dX9_init_67 : decode cX9_init 67 = .ok (.aload_n 0, 1) := by decide +kernel
theorem dX9_init_68 : decode cX9_init 68 = .ok (.iconst 0, 1) := by decide +kernel
theorem dX9_init_69 : decode cX9_init 69 = .ok (.putfield 36, 3) := by decide +kernel
theorem dX9_init_72 : decode cX9_init 72 = .ok (.aload_n 0, 1) := by decide +kernel
theorem dX9_init_73 : decode cX9_init 73 = .ok (.iconst 4, 1) := by decide +kernel
theorem dX9_init_74 : decode cX9_init 74 = .ok (.bipush 12, 2) := by decide +kernel
theorem dX9_init_76 : decode cX9_init 76 = .ok (.multianewarray 25 2, 4) := by decide +kernel
theorem dX9_init_80 : decode cX9_init 80 = .ok (.putfield 39, 3) := by decide +kernel
theorem dX9_init_83 : decode cX9_init 83 = .ok (.aload_n 0, 1) := by decide +kernel
theorem dX9_init_84 : decode cX9_init 84 = .ok (.aconst_null, 1) := by decide +kernel
theorem dX9_init_85 : decode cX9_init 85 = .ok (.putfield 42, 3) := by decide +kernel
theorem dX9_init_88 : decode cX9_init 88 = .ok (.aload_n 0, 1) := by decide +kernel
theorem dX9_init_89 : decode cX9_init 89 = .ok (.aconst_null, 1) := by decide +kernel
theorem dX9_init_90 : decode cX9_init 90 = .ok (.putfield 45, 3) := by decide +kernel
theorem dX9_init_93 : decode cX9_init 93 = .ok (.aload_n 0, 1) := by decide +kernel
theorem dX9_init_94 : decode cX9_init 94 = .ok (.bipush 50, 2) := by decide +kernel
theorem dX9_init_96 : decode cX9_init 96 = .ok (.newarray .int, 2) := by decide +kernel
theorem dX9_init_98 : decode cX9_init 98 = .ok (.putfield 48, 3) := by decide +kernel
theorem dX9_init_101 : decode cX9_init 101 = .ok (.aload_n 0, 1) := by decide +kernel
theorem dX9_init_102 : decode cX9_init 102 = .ok (.iconst 0, 1) := by decide +kernel
theorem dX9_init_103 : decode cX9_init 103 = .ok (.putfield 51, 3) := by decide +kernel
theorem dX9_init_106 : decode cX9_init 106 = .ok (.aload_n 0, 1) := by decide +kernel
theorem dX9_init_107 : decode cX9_init 107 = .ok (.bipush 20, 2) := by decide +kernel
theorem dX9_init_109 : decode cX9_init 109 = .ok (.newarray .int, 2) := by decide +kernel
theorem dX9_init_111 : decode cX9_init 111 = .ok (.putfield 54, 3) := by decide +kernel
theorem dX9_init_114 : decode cX9_init 114 = .ok (.aload_n 0, 1) := by decide +kernel
theorem dX9_init_115 : decode cX9_init 115 = .ok (.iconst 0, 1) := by decide +kernel
theorem dX9_init_116 : decode cX9_init 116 = .ok (.putfield 57, 3) := by decide +kernel
theorem dX9_init_119 : decode cX9_init 119 = .ok (.aload_n 0, 1) := by decide +kernel
theorem dX9_init_120 : decode cX9_init 120 = .ok (.aload_n 1, 1) := by decide +kernel
theorem dX9_init_121 : decode cX9_init 121 = .ok (.putfield 60, 3) := by decide +kernel
theorem dX9_init_124 : decode cX9_init 124 = .ok (.aload_n 0, 1) := by decide +kernel
theorem dX9_init_125 : decode cX9_init 125 = .ok (.aload_n 2, 1) := by decide +kernel
theorem dX9_init_126 : decode cX9_init 126 = .ok (.putfield 64, 3) := by decide +kernel
theorem dX9_init_129 : decode cX9_init 129 = .ok (.return_, 1) := by decide +kernel
theorem dX9_take_0 : decode cX9_take 0 = .ok (.aload_n 1, 1) := by decide +kernel
theorem dX9_take_1 : decode cX9_take 1 = .ok (.getfield 9, 3) := by decide +kernel
theorem dX9_take_4 : decode cX9_take 4 = .ok (.iconst 0, 1) := by decide +kernel
theorem dX9_take_5 : decode cX9_take 5 = .ok (.aload_n 0, 1) := by decide +kernel
theorem dX9_take_6 : decode cX9_take 6 = .ok (.getfield 9, 3) := by decide +kernel
theorem dX9_take_9 : decode cX9_take 9 = .ok (.iconst 0, 1) := by decide +kernel
theorem dX9_take_10 : decode cX9_take 10 = .ok (.aload_n 0, 1) := by decide +kernel
theorem dX9_take_11 : decode cX9_take 11 = .ok (.getfield 9, 3) := by decide +kernel
theorem dX9_take_14 : decode cX9_take 14 = .ok (.arraylength, 1) := by decide +kernel
theorem dX9_take_15 : decode cX9_take 15 = .ok (.invokestatic 68, 3) := by decide +kernel
theorem dX9_take_18 : decode cX9_take 18 = .ok (.aload_n 0, 1) := by decide +kernel
theorem dX9_take_19 : decode cX9_take 19 = .ok (.aload_n 1, 1) := by decide +kernel
theorem dX9_take_20 : decode cX9_take 20 = .ok (.getfield 15, 3) := by decide +kernel
theorem dX9_take_23 : decode cX9_take 23 = .ok (.putfield 15, 3) := by decide +kernel
theorem dX9_take_26 : decode cX9_take 26 = .ok (.aload_n 0, 1) := by decide +kernel
theorem dX9_take_27 : decode cX9_take 27 = .ok (.aload_n 1, 1) := by decide +kernel
theorem dX9_take_28 : decode cX9_take 28 = .ok (.getfield 19, 3) := by decide +kernel
theorem dX9_take_31 : decode cX9_take 31 = .ok (.putfield 19, 3) := by decide +kernel
theorem dX9_take_34 : decode cX9_take 34 = .ok (.aload_n 0, 1) := by decide +kernel
theorem dX9_take_35 : decode cX9_take 35 = .ok (.aload_n 1, 1) := by decide +kernel
theorem dX9_take_36 : decode cX9_take 36 = .ok (.getfield 22, 3) := by decide +kernel
theorem dX9_take_39 : decode cX9_take 39 = .ok (.putfield 22, 3) := by decide +kernel
theorem dX9_take_42 : decode cX9_take 42 = .ok (.aload_n 1, 1) := by decide +kernel
theorem dX9_take_43 : decode cX9_take 43 = .ok (.getfield 27, 3) := by decide +kernel
theorem dX9_take_46 : decode cX9_take 46 = .ok (.aload_n 0, 1) := by decide +kernel
theorem dX9_take_47 : decode cX9_take 47 = .ok (.getfield 27, 3) := by decide +kernel
theorem dX9_take_50 : decode cX9_take 50 = .ok (.aload_n 0, 1) := by decide +kernel
theorem dX9_take_51 : decode cX9_take 51 = .ok (.getfield 22, 3) := by decide +kernel
theorem dX9_take_54 : decode cX9_take 54 = .ok (.invokestatic 74, 3) := by decide +kernel
theorem dX9_take_57 : decode cX9_take 57 = .ok (.aload_n 0, 1) := by decide +kernel
theorem dX9_take_58 : decode cX9_take 58 = .ok (.aload_n 1, 1) := by decide +kernel
theorem dX9_take_59 : decode cX9_take 59 = .ok (.getfield 30, 3) := by decide +kernel
theorem dX9_take_62 : decode cX9_take 62 = .ok (.putfield 30, 3) := by decide +kernel
theorem dX9_take_65 : decode cX9_take 65 = .ok (.aload_n 1, 1) := by decide +kernel
theorem dX9_take_66 : decode cX9_take 66 = .ok (.getfield 33, 3) := by decide +kernel
theorem dX9_take_69 : decode cX9_take 69 = .ok (.aload_n 0, 1) := by decide +kernel
theorem dX9_take_70 : decode cX9_take 70 = .ok (.getfield 33, 3) := by decide +kernel
theorem dX9_take_73 : decode cX9_take 73 = .ok (.aload_n 0, 1) := by decide +kernel
theorem dX9_take_74 : decode cX9_take 74 = .ok (.getfield 30, 3) := by decide +kernel
theorem dX9_take_77 : decode cX9_take 77 = .ok (.invokestatic 74, 3) := by decide +kernel
theorem dX9_take_80 : decode cX9_take 80 = .ok (.aload_n 0, 1) := by decide +kernel
theorem dX9_take_81 : decode cX9_take 81 = .ok (.aload_n 1, 1) := by decide +kernel
theorem dX9_take_82 : decode cX9_take 82 = .ok (.getfield 36, 3) := by decide +kernel
theorem dX9_take_85 : decode cX9_take 85 = .ok (.putfield 36, 3) := by decide +kernel
theorem dX9_take_88 : decode cX9_take 88 = .ok (.aload_n 1, 1) := by decide +kernel
theorem dX9_take_89 : decode cX9_take 89 = .ok (.getfield 39, 3) := by decide +kernel
theorem dX9_take_92 : decode cX9_take 92 = .ok (.aload_n 0, 1) := by decide +kernel
theorem dX9_take_93 : decode cX9_take 93 = .ok (.getfield 39, 3) := by decide +kernel
theorem dX9_take_96 : decode cX9_take 96 = .ok (.aload_n 0, 1) := by decide +kernel
theorem dX9_take_97 : decode cX9_take 97 = .ok (.getfield 36, 3) := by decide +kernel
theorem dX9_take_100 : decode cX9_take 100 = .ok (.invokestatic 74, 3) := by decide +kernel
theorem dX9_take_103 : decode cX9_take 103 = .ok (.aload_n 0, 1) := by decide +kernel
theorem dX9_take_104 : decode cX9_take 104 = .ok (.aload_n 1, 1) := by decide +kernel
theorem dX9_take_105 : decode cX9_take 105 = .ok (.getfield 42, 3) := by decide +kernel
theorem dX9_take_108 : decode cX9_take 108 = .ok (.putfield 42, 3) := by decide +kernel
theorem dX9_take_111 : decode cX9_take 111 = .ok (.aload_n 0, 1) := by decide +kernel
theorem dX9_take_112 : decode cX9_take 112 = .ok (.aload_n 1, 1) := by decide +kernel
theorem dX9_take_113 : decode cX9_take 113 = .ok (.getfield 45, 3) := by decide +kernel
theorem dX9_take_116 : decode cX9_take 116 = .ok (.putfield 45, 3) := by decide +kernel
theorem dX9_take_119 : decode cX9_take 119 = .ok (.aload_n 0, 1) := by decide +kernel
theorem dX9_take_120 : decode cX9_take 120 = .ok (.aload_n 1, 1) := by decide +kernel
theorem dX9_take_121 : decode cX9_take 121 = .ok (.getfield 51, 3) := by decide +kernel
theorem dX9_take_124 : decode cX9_take 124 = .ok (.putfield 51, 3) := by decide +kernel
theorem dX9_take_127 : decode cX9_take 127 = .ok (.aload_n 1, 1) := by decide +kernel
theorem dX9_take_128 : decode cX9_take 128 = .ok (.getfield 48, 3) := by decide +kernel
theorem dX9_take_131 : decode cX9_take 131 = .ok (.iconst 0, 1) := by decide +kernel
theorem dX9_take_132 : decode cX9_take 132 = .ok (.aload_n 0, 1) := by decide +kernel
theorem dX9_take_133 : decode cX9_take 133 = .ok (.getfield 48, 3) := by decide +kernel
theorem dX9_take_136 : decode cX9_take 136 = .ok (.iconst 0, 1) := by decide +kernel
theorem dX9_take_137 : decode cX9_take 137 = .ok (.aload_n 0, 1) := by decide +kernel
theorem dX9_take_138 : decode cX9_take 138 = .ok (.getfield 51, 3) := by decide +kernel
theorem dX9_take_141 : decode cX9_take 141 = .ok (.invokestatic 68, 3) := by decide +kernel
theorem dX9_take_144 : decode cX9_take 144 = .ok (.aload_n 0, 1) := by decide +kernel
theorem dX9_take_145 : decode cX9_take 145 = .ok (.aload_n 1, 1) := by decide +kernel
theorem dX9_take_146 : decode cX9_take 146 = .ok (.getfield 57, 3) := by decide +kernel
theorem dX9_take_149 : decode cX9_take 149 = .ok (.putfield 57, 3) := by decide +kernel
theorem dX9_take_152 : decode cX9_take 152 = .ok (.aload_n 1, 1) := by decide +kernel
theorem dX9_take_153 : decode cX9_take 153 = .ok (.getfield 54, 3) := by decide +kernel
theorem dX9_take_156 : decode cX9_take 156 = .ok (.iconst 0, 1) := by decide +kernel
theorem dX9_take_157 : decode cX9_take 157 = .ok (.aload_n 0, 1) := by decide +kernel
theorem dX9_take_158 : decode cX9_take 158 = .ok (.getfield 54, 3) := by decide +kernel
theorem dX9_take_161 : decode cX9_take 161 = .ok (.iconst 0, 1) := by decide +kernel
theorem dX9_take_162 : decode cX9_take 162 = .ok (.aload_n 0, 1) := by decide +kernel
theorem dX9_take_163 : decode cX9_take 163 = .ok (.getfield 57, 3) := by decide +kernel
theorem dX9_take_166 : decode cX9_take 166 = .ok (.invokestatic 68, 3) := by decide +kernel
theorem dX9_take_169 : decode cX9_take 169 = .ok (.return_, 1) := by decide +kernel
theorem dX9_takeRows_0 : decode cX9_takeRows 0 = .ok (.iconst 0, 1) := by decide +kernel
theorem dX9_takeRows_1 : decode cX9_takeRows 1 = .ok (.istore_n 3, 1) := by decide +kernel
theorem dX9_takeRows_2 : decode cX9_takeRows 2 = .ok (.iload_n 3, 1) := by decide +kernel
theorem dX9_takeRows_3 : decode cX9_takeRows 3 = .ok (.aload_n 0, 1) := by decide +kernel
theorem dX9_takeRows_4 : decode cX9_takeRows 4 = .ok (.arraylength, 1) := by decide +kernel
theorem dX9_takeRows_5 : decode cX9_takeRows 5 = .ok (.if_icmp .ge 27, 3) := by decide +kernel
theorem dX9_takeRows_8 : decode cX9_takeRows 8 = .ok (.iload_n 3, 1) := by decide +kernel
theorem dX9_takeRows_9 : decode cX9_takeRows 9 = .ok (.aload_n 1, 1) := by decide +kernel
theorem dX9_takeRows_10 : decode cX9_takeRows 10 = .ok (.arraylength, 1) := by decide +kernel
theorem dX9_takeRows_11 : decode cX9_takeRows 11 = .ok (.if_icmp .ge 21, 3) := by decide +kernel
theorem dX9_takeRows_14 : decode cX9_takeRows 14 = .ok (.aload_n 0, 1) := by decide +kernel
theorem dX9_takeRows_15 : decode cX9_takeRows 15 = .ok (.iload_n 3, 1) := by decide +kernel
theorem dX9_takeRows_16 : decode cX9_takeRows 16 = .ok (.aaload, 1) := by decide +kernel
theorem dX9_takeRows_17 : decode cX9_takeRows 17 = .ok (.iconst 0, 1) := by decide +kernel
theorem dX9_takeRows_18 : decode cX9_takeRows 18 = .ok (.aload_n 1, 1) := by decide +kernel
theorem dX9_takeRows_19 : decode cX9_takeRows 19 = .ok (.iload_n 3, 1) := by decide +kernel
theorem dX9_takeRows_20 : decode cX9_takeRows 20 = .ok (.aaload, 1) := by decide +kernel
theorem dX9_takeRows_21 : decode cX9_takeRows 21 = .ok (.iconst 0, 1) := by decide +kernel
theorem dX9_takeRows_22 : decode cX9_takeRows 22 = .ok (.iload_n 2, 1) := by decide +kernel
theorem dX9_takeRows_23 : decode cX9_takeRows 23 = .ok (.invokestatic 68, 3) := by decide +kernel
theorem dX9_takeRows_26 : decode cX9_takeRows 26 = .ok (.iinc 3 1, 3) := by decide +kernel
theorem dX9_takeRows_29 : decode cX9_takeRows 29 = .ok (.goto (-27), 3) := by decide +kernel
theorem dX9_takeRows_32 : decode cX9_takeRows 32 = .ok (.return_, 1) := by decide +kernel
theorem dX9_gap_0 : decode cX9_gap 0 = .ok (.aload_n 0, 1) := by decide +kernel
theorem dX9_gap_1 : decode cX9_gap 1 = .ok (.getfield 9, 3) := by decide +kernel
theorem dX9_gap_4 : decode cX9_gap 4 = .ok (.iconst 0, 1) := by decide +kernel
theorem dX9_gap_5 : decode cX9_gap 5 = .ok (.iaload, 1) := by decide +kernel
theorem dX9_gap_6 : decode cX9_gap 6 = .ok (.aload_n 0, 1) := by decide +kernel
theorem dX9_gap_7 : decode cX9_gap 7 = .ok (.getfield 9, 3) := by decide +kernel
theorem dX9_gap_10 : decode cX9_gap 10 = .ok (.iconst 1, 1) := by decide +kernel
theorem dX9_gap_11 : decode cX9_gap 11 = .ok (.iaload, 1) := by decide +kernel
theorem dX9_gap_12 : decode cX9_gap 12 = .ok (.iadd, 1) := by decide +kernel
theorem dX9_gap_13 : decode cX9_gap 13 = .ok (.ireturn, 1) := by decide +kernel
theorem dX9_addVoice_0 : decode cX9_addVoice 0 = .ok (.aload_n 0, 1) := by decide +kernel
theorem dX9_addVoice_1 : decode cX9_addVoice 1 = .ok (.getfield 27, 3) := by decide +kernel
theorem dX9_addVoice_4 : decode cX9_addVoice 4 = .ok (.iconst 0, 1) := by decide +kernel
theorem dX9_addVoice_5 : decode cX9_addVoice 5 = .ok (.aaload, 1) := by decide +kernel
theorem dX9_addVoice_6 : decode cX9_addVoice 6 = .ok (.aload_n 0, 1) := by decide +kernel
theorem dX9_addVoice_7 : decode cX9_addVoice 7 = .ok (.getfield 22, 3) := by decide +kernel
theorem dX9_addVoice_10 : decode cX9_addVoice 10 = .ok (.iload_n 1, 1) := by decide +kernel
theorem dX9_addVoice_11 : decode cX9_addVoice 11 = .ok (.bipush 10, 2) := by decide +kernel
theorem dX9_addVoice_13 : decode cX9_addVoice 13 = .ok (.idiv, 1) := by decide +kernel
theorem dX9_addVoice_14 : decode cX9_addVoice 14 = .ok (.iastore, 1) := by decide +kernel
theorem dX9_addVoice_15 : decode cX9_addVoice 15 = .ok (.aload_n 0, 1) := by decide +kernel
theorem dX9_addVoice_16 : decode cX9_addVoice 16 = .ok (.getfield 27, 3) := by decide +kernel
theorem dX9_addVoice_19 : decode cX9_addVoice 19 = .ok (.iconst 1, 1) := by decide +kernel
theorem dX9_addVoice_20 : decode cX9_addVoice 20 = .ok (.aaload, 1) := by decide +kernel
theorem dX9_addVoice_21 : decode cX9_addVoice 21 = .ok (.aload_n 0, 1) := by decide +kernel
theorem dX9_addVoice_22 : decode cX9_addVoice 22 = .ok (.getfield 22, 3) := by decide +kernel
theorem dX9_addVoice_25 : decode cX9_addVoice 25 = .ok (.iload_n 1, 1) := by decide +kernel
theorem dX9_addVoice_26 : decode cX9_addVoice 26 = .ok (.bipush 10, 2) := by decide +kernel
theorem dX9_addVoice_28 : decode cX9_addVoice 28 = .ok (.irem, 1) := by decide +kernel
theorem dX9_addVoice_29 : decode cX9_addVoice 29 = .ok (.iastore, 1) := by decide +kernel
theorem dX9_addVoice_30 : decode cX9_addVoice 30 = .ok (.aload_n 0, 1) := by decide +kernel
theorem dX9_addVoice_31 : decode cX9_addVoice 31 = .ok (.getfield 27, 3) := by decide +kernel
theorem dX9_addVoice_34 : decode cX9_addVoice 34 = .ok (.iconst 2, 1) := by decide +kernel
theorem dX9_addVoice_35 : decode cX9_addVoice 35 = .ok (.aaload, 1) := by decide +kernel
theorem dX9_addVoice_36 : decode cX9_addVoice 36 = .ok (.aload_n 0, 1) := by decide +kernel
theorem dX9_addVoice_37 : decode cX9_addVoice 37 = .ok (.getfield 22, 3) := by decide +kernel
theorem dX9_addVoice_40 : decode cX9_addVoice 40 = .ok (.iload_n 2, 1) := by decide +kernel
theorem dX9_addVoice_41 : decode cX9_addVoice 41 = .ok (.iastore, 1) := by decide +kernel
theorem dX9_addVoice_42 : decode cX9_addVoice 42 = .ok (.aload_n 0, 1) := by decide +kernel
theorem dX9_addVoice_43 : decode cX9_addVoice 43 = .ok (.dup, 1) := by decide +kernel
theorem dX9_addVoice_44 : decode cX9_addVoice 44 = .ok (.getfield 22, 3) := by decide +kernel
theorem dX9_addVoice_47 : decode cX9_addVoice 47 = .ok (.iconst 1, 1) := by decide +kernel
theorem dX9_addVoice_48 : decode cX9_addVoice 48 = .ok (.iadd, 1) := by decide +kernel
theorem dX9_addVoice_49 : decode cX9_addVoice 49 = .ok (.putfield 22, 3) := by decide +kernel
theorem dX9_addVoice_52 : decode cX9_addVoice 52 = .ok (.aload_n 0, 1) := by decide +kernel
theorem dX9_addVoice_53 : decode cX9_addVoice 53 = .ok (.getfield 22, 3) := by decide +kernel
theorem dX9_addVoice_56 : decode cX9_addVoice 56 = .ok (.iconst 1, 1) := by decide +kernel
theorem dX9_addVoice_57 : decode cX9_addVoice 57 = .ok (.isub, 1) := by decide +kernel
theorem dX9_addVoice_58 : decode cX9_addVoice 58 = .ok (.ireturn, 1) := by decide +kernel
theorem dX9_kindOf_0 : decode cX9_kindOf 0 = .ok (.aload_n 0, 1) := by decide +kernel
theorem dX9_kindOf_1 : decode cX9_kindOf 1 = .ok (.getfield 27, 3) := by decide +kernel
theorem dX9_kindOf_4 : decode cX9_kindOf 4 = .ok (.iconst 0, 1) := by decide +kernel
theorem dX9_kindOf_5 : decode cX9_kindOf 5 = .ok (.aaload, 1) := by decide +kernel
theorem dX9_kindOf_6 : decode cX9_kindOf 6 = .ok (.iload_n 1, 1) := by decide +kernel
theorem dX9_kindOf_7 : decode cX9_kindOf 7 = .ok (.iaload, 1) := by decide +kernel
theorem dX9_kindOf_8 : decode cX9_kindOf 8 = .ok (.istore_n 2, 1) := by decide +kernel
theorem dX9_kindOf_9 : decode cX9_kindOf 9 = .ok (.aload_n 0, 1) := by decide +kernel
theorem dX9_kindOf_10 : decode cX9_kindOf 10 = .ok (.getfield 60, 3) := by decide +kernel
theorem dX9_kindOf_13 : decode cX9_kindOf 13 = .ok (.iload_n 2, 1) := by decide +kernel
theorem dX9_kindOf_14 : decode cX9_kindOf 14 = .ok (.iconst 0, 1) := by decide +kernel
theorem dX9_kindOf_15 : decode cX9_kindOf 15 = .ok (.aload_n 0, 1) := by decide +kernel
theorem dX9_kindOf_16 : decode cX9_kindOf 16 = .ok (.getfield 60, 3) := by decide +kernel
theorem dX9_kindOf_19 : decode cX9_kindOf 19 = .ok (.arraylength, 1) := by decide +kernel
theorem dX9_kindOf_20 : decode cX9_kindOf 20 = .ok (.iconst 1, 1) := by decide +kernel
theorem dX9_kindOf_21 : decode cX9_kindOf 21 = .ok (.isub, 1) := by decide +kernel
theorem dX9_kindOf_22 : decode cX9_kindOf 22 = .ok (.invokestatic 78, 3) := by decide +kernel
theorem dX9_kindOf_25 : decode cX9_kindOf 25 = .ok (.ifCond .eq 7, 3) := by decide +kernel
theorem dX9_kindOf_28 : decode cX9_kindOf 28 = .ok (.iconst 0, 1) := by decide +kernel
theorem dX9_kindOf_29 : decode cX9_kindOf 29 = .ok (.goto 4, 3) := by decide +kernel
theorem dX9_kindOf_32 : decode cX9_kindOf 32 = .ok (.iload_n 2, 1) := by decide +kernel
theorem dX9_kindOf_33 : decode cX9_kindOf 33 = .ok (.aaload, 1) := by decide +kernel
theorem dX9_kindOf_34 : decode cX9_kindOf 34 = .ok (.areturn, 1) := by decide +kernel
theorem dX9_thinking_0 : decode cX9_thinking 0 = .ok (.aload_n 0, 1) := by decide +kernel
theorem dX9_thinking_1 : decode cX9_thinking 1 = .ok (.iload_n 1, 1) := by decide +kernel
theorem dX9_thinking_2 : decode cX9_thinking 2 = .ok (.invokevirtual 82, 3) := by decide +kernel
theorem dX9_thinking_5 : decode cX9_thinking 5 = .ok (.aload_n 0, 1) := by decide +kernel
theorem dX9_thinking_6 : decode cX9_thinking 6 = .ok (.getfield 27, 3) := by decide +kernel
theorem dX9_thinking_9 : decode cX9_thinking 9 = .ok (.iconst 1, 1) := by decide +kernel
theorem dX9_thinking_10 : decode cX9_thinking 10 = .ok (.aaload, 1) := by decide +kernel
theorem dX9_thinking_11 : decode cX9_thinking 11 = .ok (.iload_n 1, 1) := by decide +kernel
theorem dX9_thinking_12 : decode cX9_thinking 12 = .ok (.iaload, 1) := by decide +kernel
theorem dX9_thinking_13 : decode cX9_thinking 13 = .ok (.aload_n 0, 1) := by decide +kernel
theorem dX9_thinking_14 : decode cX9_thinking 14 = .ok (.getfield 9, 3) := by decide +kernel
theorem dX9_thinking_17 : decode cX9_thinking 17 = .ok (.iconst 1, 1) := by decide +kernel
theorem dX9_thinking_18 : decode cX9_thinking 18 = .ok (.iaload, 1) := by decide +kernel
theorem dX9_thinking_19 : decode cX9_thinking 19 = .ok (.aload_n 0, 1) := by decide +kernel
theorem dX9_thinking_20 : decode cX9_thinking 20 = .ok (.getfield 9, 3) := by decide +kernel
theorem dX9_thinking_23 : decode cX9_thinking 23 = .ok (.iconst 2, 1) := by decide +kernel
theorem dX9_thinking_24 : decode cX9_thinking 24 = .ok (.iaload, 1) := by decide +kernel
theorem dX9_thinking_25 : decode cX9_thinking 25 = .ok (.invokevirtual 86, 3) := by decide +kernel
theorem dX9_thinking_28 : decode cX9_thinking 28 = .ok (.ireturn, 1) := by decide +kernel
theorem dX9_carriage_0 : decode cX9_carriage 0 = .ok (.aload_n 0, 1) := by decide +kernel
theorem dX9_carriage_1 : decode cX9_carriage 1 = .ok (.iload_n 1, 1) := by decide +kernel
theorem dX9_carriage_2 : decode cX9_carriage 2 = .ok (.invokevirtual 82, 3) := by decide +kernel
theorem dX9_carriage_5 : decode cX9_carriage 5 = .ok (.iload_n 2, 1) := by decide +kernel
theorem dX9_carriage_6 : decode cX9_carriage 6 = .ok (.aload_n 0, 1) := by decide +kernel
theorem dX9_carriage_7 : decode cX9_carriage 7 = .ok (.getfield 27, 3) := by decide +kernel
theorem dX9_carriage_10 : decode cX9_carriage 10 = .ok (.iconst 1, 1) := by decide +kernel
theorem dX9_carriage_11 : decode cX9_carriage 11 = .ok (.aaload, 1) := by decide +kernel
theorem dX9_carriage_12 : decode cX9_carriage 12 = .ok (.iload_n 1, 1) := by decide +kernel
theorem dX9_carriage_13 : decode cX9_carriage 13 = .ok (.iaload, 1) := by decide +kernel
theorem dX9_carriage_14 : decode cX9_carriage 14 = .ok (.aload_n 0, 1) := by decide +kernel
theorem dX9_carriage_15 : decode cX9_carriage 15 = .ok (.getfield 9, 3) := by decide +kernel
theorem dX9_carriage_18 : decode cX9_carriage 18 = .ok (.iconst 2, 1) := by decide +kernel
theorem dX9_carriage_19 : decode cX9_carriage 19 = .ok (.iaload, 1) := by decide +kernel
theorem dX9_carriage_20 : decode cX9_carriage 20 = .ok (.invokevirtual 92, 3) := by decide +kernel
theorem dX9_carriage_23 : decode cX9_carriage 23 = .ok (.istore_n 3, 1) := by decide +kernel
theorem dX9_carriage_24 : decode cX9_carriage 24 = .ok (.aload_n 0, 1) := by decide +kernel
theorem dX9_carriage_25 : decode cX9_carriage 25 = .ok (.iconst 0, 1) := by decide +kernel
theorem dX9_carriage_26 : decode cX9_carriage 26 = .ok (.iload_n 2, 1) := by decide +kernel
theorem dX9_carriage_27 : decode cX9_carriage 27 = .ok (.aload_n 0, 1) := by decide +kernel
theorem dX9_carriage_28 : decode cX9_carriage 28 = .ok (.getfield 9, 3) := by decide +kernel
theorem dX9_carriage_31 : decode cX9_carriage 31 = .ok (.iconst 1, 1) := by decide +kernel
theorem dX9_carriage_32 : decode cX9_carriage 32 = .ok (.iaload, 1) := by decide +kernel
theorem dX9_carriage_33 : decode cX9_carriage 33 = .ok (.aload_n 0, 1) := by decide +kernel
theorem dX9_carriage_34 : decode cX9_carriage 34 = .ok (.getfield 9, 3) := by decide +kernel
theorem dX9_carriage_37 : decode cX9_carriage 37 = .ok (.iconst 2, 1) := by decide +kernel
theorem dX9_carriage_38 : decode cX9_carriage 38 = .ok (.iaload, 1) := by decide +kernel
theorem dX9_carriage_39 : decode cX9_carriage 39 = .ok (.aload_n 0, 1) := by decide +kernel
theorem dX9_carriage_40 : decode cX9_carriage 40 = .ok (.getfield 27, 3) := by decide +kernel
theorem dX9_carriage_43 : decode cX9_carriage 43 = .ok (.iconst 0, 1) := by decide +kernel
theorem dX9_carriage_44 : decode cX9_carriage 44 = .ok (.aaload, 1) := by decide +kernel
theorem dX9_carriage_45 : decode cX9_carriage 45 = .ok (.iload_n 1, 1) := by decide +kernel
theorem dX9_carriage_46 : decode cX9_carriage 46 = .ok (.iaload, 1) := by decide +kernel
theorem dX9_carriage_47 : decode cX9_carriage 47 = .ok (.invokevirtual 95, 3) := by decide +kernel
theorem dX9_carriage_50 : decode cX9_carriage 50 = .ok (.istore 4, 2) := by decide +kernel
theorem dX9_carriage_52 : decode cX9_carriage 52 = .ok (.iconst 0, 1) := by decide +kernel
theorem dX9_carriage_53 : decode cX9_carriage 53 = .ok (.bipush 10, 2) := by decide +kernel
theorem dX9_carriage_55 : decode cX9_carriage 55 = .ok (.iload_n 3, 1) := by decide +kernel
theorem dX9_carriage_56 : decode cX9_carriage 56 = .ok (.iload 4, 2) := by decide +kernel
theorem dX9_carriage_58 : decode cX9_carriage 58 = .ok (.iadd, 1) := by decide +kernel
theorem dX9_carriage_59 : decode cX9_carriage 59 = .ok (.invokestatic 99, 3) := by decide +kernel
theorem dX9_carriage_62 : decode cX9_carriage 62 = .ok (.invokestatic 105, 3) := by decide +kernel
theorem dX9_carriage_65 : decode cX9_carriage 65 = .ok (.ireturn, 1) := by decide +kernel
theorem dX9_wordSaid_0 : decode cX9_wordSaid 0 = .ok (.aload_n 0, 1) := by decide +kernel
theorem dX9_wordSaid_1 : decode cX9_wordSaid 1 = .ok (.getfield 27, 3) := by decide +kernel
theorem dX9_wordSaid_4 : decode cX9_wordSaid 4 = .ok (.iconst 1, 1) := by decide +kernel
theorem dX9_wordSaid_5 : decode cX9_wordSaid 5 = .ok (.aaload, 1) := by decide +kernel
theorem dX9_wordSaid_6 : decode cX9_wordSaid 6 = .ok (.iload_n 1, 1) := by decide +kernel
theorem dX9_wordSaid_7 : decode cX9_wordSaid 7 = .ok (.iaload, 1) := by decide +kernel
theorem dX9_wordSaid_8 : decode cX9_wordSaid 8 = .ok (.istore_n 3, 1) := by decide +kernel
theorem dX9_wordSaid_9 : decode cX9_wordSaid 9 = .ok (.aload_n 0, 1) := by decide +kernel
theorem dX9_wordSaid_10 : decode cX9_wordSaid 10 = .ok (.iconst 1, 1) := by decide +kernel
theorem dX9_wordSaid_11 : decode cX9_wordSaid 11 = .ok (.iload_n 2, 1) := by decide +kernel
theorem dX9_wordSaid_12 : decode cX9_wordSaid 12 = .ok (.iload_n 3, 1) := by decide +kernel
theorem dX9_wordSaid_13 : decode cX9_wordSaid 13 = .ok (.aload_n 0, 1) := by decide +kernel
theorem dX9_wordSaid_14 : decode cX9_wordSaid 14 = .ok (.getfield 27, 3) := by decide +kernel
theorem dX9_wordSaid_17 : decode cX9_wordSaid 17 = .ok (.iconst 2, 1) := by decide +kernel
theorem dX9_wordSaid_18 : decode cX9_wordSaid 18 = .ok (.aaload, 1) := by decide +kernel
theorem dX9_wordSaid_19 : decode cX9_wordSaid 19 = .ok (.iload_n 1, 1) := by decide +kernel
theorem dX9_wordSaid_20 : decode cX9_wordSaid 20 = .ok (.iaload, 1) := by decide +kernel
theorem dX9_wordSaid_21 : decode cX9_wordSaid 21 = .ok (.iconst 0, 1) := by decide +kernel
theorem dX9_wordSaid_22 : decode cX9_wordSaid 22 = .ok (.invokevirtual 95, 3) := by decide +kernel
theorem dX9_wordSaid_25 : decode cX9_wordSaid 25 = .ok (.istore 4, 2) := by decide +kernel
theorem dX9_wordSaid_27 : decode cX9_wordSaid 27 = .ok (.aload_n 0, 1) := by decide +kernel
theorem dX9_wordSaid_28 : decode cX9_wordSaid 28 = .ok (.iload_n 1, 1) := by decide +kernel
theorem dX9_wordSaid_29 : decode cX9_wordSaid 29 = .ok (.invokevirtual 82, 3) := by decide +kernel
theorem dX9_wordSaid_32 : decode cX9_wordSaid 32 = .ok (.iload_n 2, 1) := by decide +kernel
theorem dX9_wordSaid_33 : decode cX9_wordSaid 33 = .ok (.iload 4, 2) := by decide +kernel
theorem dX9_wordSaid_35 : decode cX9_wordSaid 35 = .ok (.iload_n 3, 1) := by decide +kernel
theorem dX9_wordSaid_36 : decode cX9_wordSaid 36 = .ok (.invokevirtual 108, 3) := by decide +kernel
theorem dX9_wordSaid_39 : decode cX9_wordSaid 39 = .ok (.ireturn, 1) := by decide +kernel
theorem dX9_gives_0 : decode cX9_gives 0 = .ok (.iload_n 1, 1) := by decide +kernel
theorem dX9_gives_1 : decode cX9_gives 1 = .ok (.ifCond .ne 46, 3) := by decide +kernel
theorem dX9_gives_4 : decode cX9_gives 4 = .ok (.aload_n 0, 1) := by decide +kernel
theorem dX9_gives_5 : decode cX9_gives 5 = .ok (.getfield 42, 3) := by decide +kernel
theorem dX9_gives_8 : decode cX9_gives 8 = .ok (.ifnonnull 7, 3) := by decide +kernel
theorem dX9_gives_11 : decode cX9_gives 11 = .ok (.iconst 0, 1) := by decide +kernel
theorem dX9_gives_12 : decode cX9_gives 12 = .ok (.goto 20, 3) := by decide +kernel
theorem dX9_gives_15 : decode cX9_gives 15 = .ok (.aload_n 0, 1) := by decide +kernel
theorem dX9_gives_16 : decode cX9_gives 16 = .ok (.getfield 64, 3) := by decide +kernel
theorem dX9_gives_19 : decode cX9_gives 19 = .ok (.aload_n 0, 1) := by decide +kernel
theorem dX9_gives_20 : decode cX9_gives 20 = .ok (.getfield 42, 3) := by decide +kernel
theorem dX9_gives_23 : decode cX9_gives 23 = .ok (.iload_n 2, 1) := by decide +kernel
theorem dX9_gives_24 : decode cX9_gives 24 = .ok (.iload_n 3, 1) := by decide +kernel
theorem dX9_gives_25 : decode cX9_gives 25 = .ok (.iload 4, 2) := by decide +kernel
theorem dX9_gives_27 : decode cX9_gives 27 = .ok (.iload 5, 2) := by decide +kernel
theorem dX9_gives_29 : decode cX9_gives 29 = .ok (.invokevirtual 111, 3) := by decide +kernel
theorem dX9_gives_32 : decode cX9_gives 32 = .ok (.istore 6, 2) := by decide +kernel
theorem dX9_gives_34 : decode cX9_gives 34 = .ok (.bipush (-10), 2) := by decide +kernel
theorem dX9_gives_36 : decode cX9_gives 36 = .ok (.bipush 10, 2) := by decide +kernel
theorem dX9_gives_38 : decode cX9_gives 38 = .ok (.iload 6, 2) := by decide +kernel
theorem dX9_gives_40 : decode cX9_gives 40 = .ok (.invokestatic 99, 3) := by decide +kernel
theorem dX9_gives_43 : decode cX9_gives 43 = .ok (.invokestatic 105, 3) := by decide +kernel
theorem dX9_gives_46 : decode cX9_gives 46 = .ok (.ireturn, 1) := by decide +kernel
theorem dX9_gives_47 : decode cX9_gives 47 = .ok (.aload_n 0, 1) := by decide +kernel
theorem dX9_gives_48 : decode cX9_gives 48 = .ok (.getfield 45, 3) := by decide +kernel
theorem dX9_gives_51 : decode cX9_gives 51 = .ok (.ifnonnull 9, 3) := by decide +kernel
theorem dX9_gives_54 : decode cX9_gives 54 = .ok (.iload_n 2, 1) := by decide +kernel
theorem dX9_gives_55 : decode cX9_gives 55 = .ok (.iconst 1, 1) := by decide +kernel
theorem dX9_gives_56 : decode cX9_gives 56 = .ok (.iadd, 1) := by decide +kernel
theorem dX9_gives_57 : decode cX9_gives 57 = .ok (.goto 20, 3) := by decide +kernel
theorem dX9_gives_60 : decode cX9_gives 60 = .ok (.aload_n 0, 1) := by decide +kernel
theorem dX9_gives_61 : decode cX9_gives 61 = .ok (.getfield 64, 3) := by decide +kernel
theorem dX9_gives_64 : decode cX9_gives 64 = .ok (.aload_n 0, 1) := by decide +kernel
theorem dX9_gives_65 : decode cX9_gives 65 = .ok (.getfield 45, 3) := by decide +kernel
theorem dX9_gives_68 : decode cX9_gives 68 = .ok (.iload_n 2, 1) := by decide +kernel
theorem dX9_gives_69 : decode cX9_gives 69 = .ok (.iload_n 3, 1) := by decide +kernel
theorem dX9_gives_70 : decode cX9_gives 70 = .ok (.iload 4, 2) := by decide +kernel
theorem dX9_gives_72 : decode cX9_gives 72 = .ok (.iload 5, 2) := by decide +kernel
theorem dX9_gives_74 : decode cX9_gives 74 = .ok (.invokevirtual 111, 3) := by decide +kernel
theorem dX9_gives_77 : decode cX9_gives 77 = .ok (.istore 6, 2) := by decide +kernel
theorem dX9_gives_79 : decode cX9_gives 79 = .ok (.iconst 0, 1) := by decide +kernel
theorem dX9_gives_80 : decode cX9_gives 80 = .ok (.iload 6, 2) := by decide +kernel
theorem dX9_gives_82 : decode cX9_gives 82 = .ok (.bipush 40, 2) := by decide +kernel
theorem dX9_gives_84 : decode cX9_gives 84 = .ok (.irem, 1) := by decide +kernel
theorem dX9_gives_85 : decode cX9_gives 85 = .ok (.invokestatic 105, 3) := by decide +kernel
theorem dX9_gives_88 : decode cX9_gives 88 = .ok (.ireturn, 1) := by decide +kernel
theorem dX9_addShout_0 : decode cX9_addShout 0 = .ok (.aload_n 0, 1) := by decide +kernel
theorem dX9_addShout_1 : decode cX9_addShout 1 = .ok (.getfield 30, 3) := by decide +kernel
theorem dX9_addShout_4 : decode cX9_addShout 4 = .ok (.bipush 40, 2) := by decide +kernel
theorem dX9_addShout_6 : decode cX9_addShout 6 = .ok (.if_icmp .lt 4, 3) := by decide +kernel
theorem dX9_addShout_9 : decode cX9_addShout 9 = .ok (.return_, 1) := by decide +kernel
theorem dX9_addShout_10 : decode cX9_addShout 10 = .ok (.aload_n 0, 1) := by decide +kernel
theorem dX9_addShout_11 : decode cX9_addShout 11 = .ok (.getfield 33, 3) := by decide +kernel
theorem dX9_addShout_14 : decode cX9_addShout 14 = .ok (.iconst 0, 1) := by decide +kernel
theorem dX9_addShout_15 : decode cX9_addShout 15 = .ok (.aaload, 1) := by decide +kernel
theorem dX9_addShout_16 : decode cX9_addShout 16 = .ok (.aload_n 0, 1) := by decide +kernel
theorem dX9_addShout_17 : decode cX9_addShout 17 = .ok (.getfield 30, 3) := by decide +kernel
theorem dX9_addShout_20 : decode cX9_addShout 20 = .ok (.aload_n 0, 1) := by decide +kernel
theorem dX9_addShout_21 : decode cX9_addShout 21 = .ok (.getfield 15, 3) := by decide +kernel
theorem dX9_addShout_24 : decode cX9_addShout 24 = .ok (.iastore, 1) := by decide +kernel
theorem dX9_addShout_25 : decode cX9_addShout 25 = .ok (.aload_n 0, 1) := by decide +kernel
theorem dX9_addShout_26 : decode cX9_addShout 26 = .ok (.getfield 33, 3) := by decide +kernel
theorem dX9_addShout_29 : decode cX9_addShout 29 = .ok (.iconst 1, 1) := by decide +kernel
theorem dX9_addShout_30 : decode cX9_addShout 30 = .ok (.aaload, 1) := by decide +kernel
theorem dX9_addShout_31 : decode cX9_addShout 31 = .ok (.aload_n 0, 1) := by decide +kernel
theorem dX9_addShout_32 : decode cX9_addShout 32 = .ok (.getfield 30, 3) := by decide +kernel
theorem dX9_addShout_35 : decode cX9_addShout 35 = .ok (.iload_n 1, 1) := by decide +kernel
theorem dX9_addShout_36 : decode cX9_addShout 36 = .ok (.iastore, 1) := by decide +kernel
theorem dX9_addShout_37 : decode cX9_addShout 37 = .ok (.aload_n 0, 1) := by decide +kernel
theorem dX9_addShout_38 : decode cX9_addShout 38 = .ok (.getfield 33, 3) := by decide +kernel
theorem dX9_addShout_41 : decode cX9_addShout 41 = .ok (.iconst 2, 1) := by decide +kernel
theorem dX9_addShout_42 : decode cX9_addShout 42 = .ok (.aaload, 1) := by decide +kernel
theorem dX9_addShout_43 : decode cX9_addShout 43 = .ok (.aload_n 0, 1) := by decide +kernel
theorem dX9_addShout_44 : decode cX9_addShout 44 = .ok (.getfield 30, 3) := by decide +kernel
theorem dX9_addShout_47 : decode cX9_addShout 47 = .ok (.aload_n 0, 1) := by decide +kernel
theorem dX9_addShout_48 : decode cX9_addShout 48 = .ok (.getfield 27, 3) := by decide +kernel
theorem dX9_addShout_51 : decode cX9_addShout 51 = .ok (.iconst 2, 1) := by decide +kernel
theorem dX9_addShout_52 : decode cX9_addShout 52 = .ok (.aaload, 1) := by decide +kernel
theorem dX9_addShout_53 : decode cX9_addShout 53 = .ok (.iload_n 1, 1) := by decide +kernel
theorem dX9_addShout_54 : decode cX9_addShout 54 = .ok (.iaload, 1) := by decide +kernel
theorem dX9_addShout_55 : decode cX9_addShout 55 = .ok (.iastore, 1) := by decide +kernel
theorem dX9_addShout_56 : decode cX9_addShout 56 = .ok (.aload_n 0, 1) := by decide +kernel
theorem dX9_addShout_57 : decode cX9_addShout 57 = .ok (.getfield 33, 3) := by decide +kernel
theorem dX9_addShout_60 : decode cX9_addShout 60 = .ok (.iconst 3, 1) := by decide +kernel
theorem dX9_addShout_61 : decode cX9_addShout 61 = .ok (.aaload, 1) := by decide +kernel
theorem dX9_addShout_62 : decode cX9_addShout 62 = .ok (.aload_n 0, 1) := by decide +kernel
theorem dX9_addShout_63 : decode cX9_addShout 63 = .ok (.getfield 30, 3) := by decide +kernel
theorem dX9_addShout_66 : decode cX9_addShout 66 = .ok (.iload_n 2, 1) := by decide +kernel
theorem dX9_addShout_67 : decode cX9_addShout 67 = .ok (.iastore, 1) := by decide +kernel
theorem dX9_addShout_68 : decode cX9_addShout 68 = .ok (.aload_n 0, 1) := by decide +kernel
theorem dX9_addShout_69 : decode cX9_addShout 69 = .ok (.getfield 33, 3) := by decide +kernel
theorem dX9_addShout_72 : decode cX9_addShout 72 = .ok (.iconst 4, 1) := by decide +kernel
theorem dX9_addShout_73 : decode cX9_addShout 73 = .ok (.aaload, 1) := by decide +kernel
theorem dX9_addShout_74 : decode cX9_addShout 74 = .ok (.aload_n 0, 1) := by decide +kernel
theorem dX9_addShout_75 : decode cX9_addShout 75 = .ok (.getfield 30, 3) := by decide +kernel
theorem dX9_addShout_78 : decode cX9_addShout 78 = .ok (.iload_n 3, 1) := by decide +kernel
theorem dX9_addShout_79 : decode cX9_addShout 79 = .ok (.iastore, 1) := by decide +kernel
theorem dX9_addShout_80 : decode cX9_addShout 80 = .ok (.aload_n 0, 1) := by decide +kernel
theorem dX9_addShout_81 : decode cX9_addShout 81 = .ok (.getfield 33, 3) := by decide +kernel
theorem dX9_addShout_84 : decode cX9_addShout 84 = .ok (.iconst 5, 1) := by decide +kernel
theorem dX9_addShout_85 : decode cX9_addShout 85 = .ok (.aaload, 1) := by decide +kernel
theorem dX9_addShout_86 : decode cX9_addShout 86 = .ok (.aload_n 0, 1) := by decide +kernel
theorem dX9_addShout_87 : decode cX9_addShout 87 = .ok (.getfield 30, 3) := by decide +kernel
theorem dX9_addShout_90 : decode cX9_addShout 90 = .ok (.aload_n 0, 1) := by decide +kernel
theorem dX9_addShout_91 : decode cX9_addShout 91 = .ok (.getfield 15, 3) := by decide +kernel
theorem dX9_addShout_94 : decode cX9_addShout 94 = .ok (.aload_n 0, 1) := by decide +kernel
theorem dX9_addShout_95 : decode cX9_addShout 95 = .ok (.invokevirtual 117, 3) := by decide +kernel
theorem dX9_addShout_98 : decode cX9_addShout 98 = .ok (.iadd, 1) := by decide +kernel
theorem dX9_addShout_99 : decode cX9_addShout 99 = .ok (.iastore, 1) := by decide +kernel
theorem dX9_addShout_100 : decode cX9_addShout 100 = .ok (.aload_n 0, 1) := by decide +kernel
theorem dX9_addShout_101 : decode cX9_addShout 101 = .ok (.dup, 1) := by decide +kernel
theorem dX9_addShout_102 : decode cX9_addShout 102 = .ok (.getfield 30, 3) := by decide +kernel
theorem dX9_addShout_105 : decode cX9_addShout 105 = .ok (.iconst 1, 1) := by decide +kernel
theorem dX9_addShout_106 : decode cX9_addShout 106 = .ok (.iadd, 1) := by decide +kernel
theorem dX9_addShout_107 : decode cX9_addShout 107 = .ok (.putfield 30, 3) := by decide +kernel
theorem dX9_addShout_110 : decode cX9_addShout 110 = .ok (.return_, 1) := by decide +kernel
theorem dX9_pass_0 : decode cX9_pass 0 = .ok (.aload_n 0, 1) := by decide +kernel
theorem dX9_pass_1 : decode cX9_pass 1 = .ok (.getfield 33, 3) := by decide +kernel
theorem dX9_pass_4 : decode cX9_pass 4 = .ok (.iconst 5, 1) := by decide +kernel
theorem dX9_pass_5 : decode cX9_pass 5 = .ok (.aaload, 1) := by decide +kernel
theorem dX9_pass_6 : decode cX9_pass 6 = .ok (.astore_n 3, 1) := by decide +kernel
theorem dX9_pass_7 : decode cX9_pass 7 = .ok (.iconst 0, 1) := by decide +kernel
theorem dX9_pass_8 : decode cX9_pass 8 = .ok (.istore 4, 2) := by decide +kernel
theorem dX9_pass_10 : decode cX9_pass 10 = .ok (.iload 4, 2) := by decide +kernel
theorem dX9_pass_12 : decode cX9_pass 12 = .ok (.iload_n 1, 1) := by decide +kernel
theorem dX9_pass_13 : decode cX9_pass 13 = .ok (.if_icmp .ge 59, 3) := by decide +kernel
theorem dX9_pass_16 : decode cX9_pass 16 = .ok (.iconst 0, 1) := by decide +kernel
theorem dX9_pass_17 : decode cX9_pass 17 = .ok (.istore 5, 2) := by decide +kernel
theorem dX9_pass_19 : decode cX9_pass 19 = .ok (.iload 5, 2) := by decide +kernel
theorem dX9_pass_21 : decode cX9_pass 21 = .ok (.aload_n 0, 1) := by decide +kernel
theorem dX9_pass_22 : decode cX9_pass 22 = .ok (.getfield 30, 3) := by decide +kernel
theorem dX9_pass_25 : decode cX9_pass 25 = .ok (.if_icmp .ge 27, 3) := by decide +kernel
theorem dX9_pass_28 : decode cX9_pass 28 = .ok (.aload_n 3, 1) := by decide +kernel
theorem dX9_pass_29 : decode cX9_pass 29 = .ok (.iload 5, 2) := by decide +kernel
theorem dX9_pass_31 : decode cX9_pass 31 = .ok (.iaload, 1) := by decide +kernel
theorem dX9_pass_32 : decode cX9_pass 32 = .ok (.aload_n 0, 1) := by decide +kernel
theorem dX9_pass_33 : decode cX9_pass 33 = .ok (.getfield 15, 3) := by decide +kernel
theorem dX9_pass_36 : decode cX9_pass 36 = .ok (.if_icmp .ne 10, 3) := by decide +kernel
theorem dX9_pass_39 : decode cX9_pass 39 = .ok (.aload_n 0, 1) := by decide +kernel
theorem dX9_pass_40 : decode cX9_pass 40 = .ok (.iload 5, 2) := by decide +kernel
theorem dX9_pass_42 : decode cX9_pass 42 = .ok (.iload_n 2, 1) := by decide +kernel
theorem dX9_pass_43 : decode cX9_pass 43 = .ok (.invokevirtual 121, 3) := by decide +kernel
theorem dX9_pass_46 : decode cX9_pass 46 = .ok (.iinc 5 1, 3) := by decide +kernel
theorem dX9_pass_49 : decode cX9_pass 49 = .ok (.goto (-30), 3) := by decide +kernel
theorem dX9_pass_52 : decode cX9_pass 52 = .ok (.aload_n 0, 1) := by decide +kernel
theorem dX9_pass_53 : decode cX9_pass 53 = .ok (.invokevirtual 125, 3) := by decide +kernel
theorem dX9_pass_56 : decode cX9_pass 56 = .ok (.aload_n 0, 1) := by decide +kernel
theorem dX9_pass_57 : decode cX9_pass 57 = .ok (.dup, 1) := by decide +kernel
theorem dX9_pass_58 : decode cX9_pass 58 = .ok (.getfield 15, 3) := by decide +kernel
theorem dX9_pass_61 : decode cX9_pass 61 = .ok (.iconst 1, 1) := by decide +kernel
theorem dX9_pass_62 : decode cX9_pass 62 = .ok (.iadd, 1) := by decide +kernel
theorem dX9_pass_63 : decode cX9_pass 63 = .ok (.putfield 15, 3) := by decide +kernel
theorem dX9_pass_66 : decode cX9_pass 66 = .ok (.iinc 4 1, 3) := by decide +kernel
theorem dX9_pass_69 : decode cX9_pass 69 = .ok (.goto (-59), 3) := by decide +kernel
theorem dX9_pass_72 : decode cX9_pass 72 = .ok (.return_, 1) := by decide +kernel
theorem dX9_comeOver_0 : decode cX9_comeOver 0 = .ok (.aload_n 0, 1) := by decide +kernel
theorem dX9_comeOver_1 : decode cX9_comeOver 1 = .ok (.getfield 33, 3) := by decide +kernel
theorem dX9_comeOver_4 : decode cX9_comeOver 4 = .ok (.iconst 3, 1) := by decide +kernel
theorem dX9_comeOver_5 : decode cX9_comeOver 5 = .ok (.aaload, 1) := by decide +kernel
theorem dX9_comeOver_6 : decode cX9_comeOver 6 = .ok (.iload_n 1, 1) := by decide +kernel
theorem dX9_comeOver_7 : decode cX9_comeOver 7 = .ok (.iaload, 1) := by decide +kernel
theorem dX9_comeOver_8 : decode cX9_comeOver 8 = .ok (.istore_n 3, 1) := by decide +kernel
theorem dX9_comeOver_9 : decode cX9_comeOver 9 = .ok (.aload_n 0, 1) := by decide +kernel
theorem dX9_comeOver_10 : decode cX9_comeOver 10 = .ok (.aload_n 0, 1) := by decide +kernel
theorem dX9_comeOver_11 : decode cX9_comeOver 11 = .ok (.getfield 33, 3) := by decide +kernel
theorem dX9_comeOver_14 : decode cX9_comeOver 14 = .ok (.iconst 1, 1) := by decide +kernel
theorem dX9_comeOver_15 : decode cX9_comeOver 15 = .ok (.aaload, 1) := by decide +kernel
theorem dX9_comeOver_16 : decode cX9_comeOver 16 = .ok (.iload_n 1, 1) := by decide +kernel
theorem dX9_comeOver_17 : decode cX9_comeOver 17 = .ok (.iaload, 1) := by decide +kernel
theorem dX9_comeOver_18 : decode cX9_comeOver 18 = .ok (.iload_n 3, 1) := by decide +kernel
theorem dX9_comeOver_19 : decode cX9_comeOver 19 = .ok (.invokevirtual 128, 3) := by decide +kernel
theorem dX9_comeOver_22 : decode cX9_comeOver 22 = .ok (.istore 4, 2) := by decide +kernel
theorem dX9_comeOver_24 : decode cX9_comeOver 24 = .ok (.iload_n 2, 1) := by decide +kernel
theorem dX9_comeOver_25 : decode cX9_comeOver 25 = .ok (.ifCond .eq 23, 3) := by decide +kernel
theorem dX9_comeOver_28 : decode cX9_comeOver 28 = .ok (.aload_n 0, 1) := by decide +kernel
theorem dX9_comeOver_29 : decode cX9_comeOver 29 = .ok (.invokevirtual 131, 3) := by decide +kernel
theorem dX9_comeOver_32 : decode cX9_comeOver 32 = .ok (.bipush 10, 2) := by decide +kernel
theorem dX9_comeOver_34 : decode cX9_comeOver 34 = .ok (.irem, 1) := by decide +kernel
theorem dX9_comeOver_35 : decode cX9_comeOver 35 = .ok (.iload 4, 2) := by decide +kernel
theorem dX9_comeOver_37 : decode cX9_comeOver 37 = .ok (.if_icmp .ge 7, 3) := by decide +kernel
theorem dX9_comeOver_40 : decode cX9_comeOver 40 = .ok (.iconst 1, 1) := by decide +kernel
theorem dX9_comeOver_41 : decode cX9_comeOver 41 = .ok (.goto 18, 3) := by decide +kernel
theorem dX9_comeOver_44 : decode cX9_comeOver 44 = .ok (.iconst 0, 1) := by decide +kernel
theorem dX9_comeOver_45 : decode cX9_comeOver 45 = .ok (.goto 14, 3) := by decide +kernel
theorem dX9_comeOver_48 : decode cX9_comeOver 48 = .ok (.iload 4, 2) := by decide +kernel
theorem dX9_comeOver_50 : decode cX9_comeOver 50 = .ok (.iconst 5, 1) := by decide +kernel
theorem dX9_comeOver_51 : decode cX9_comeOver 51 = .ok (.if_icmp .lt 7, 3) := by decide +kernel
theorem dX9_comeOver_54 : decode cX9_comeOver 54 = .ok (.iconst 1, 1) := by decide +kernel
theorem dX9_comeOver_55 : decode cX9_comeOver 55 = .ok (.goto 4, 3) := by decide +kernel
theorem dX9_comeOver_58 : decode cX9_comeOver 58 = .ok (.iconst 0, 1) := by decide +kernel
theorem dX9_comeOver_59 : decode cX9_comeOver 59 = .ok (.istore 5, 2) := by decide +kernel
theorem dX9_comeOver_61 : decode cX9_comeOver 61 = .ok (.iload 5, 2) := by decide +kernel
theorem dX9_comeOver_63 : decode cX9_comeOver 63 = .ok (.ifCond .eq 18, 3) := by decide +kernel
theorem dX9_comeOver_66 : decode cX9_comeOver 66 = .ok (.iload_n 3, 1) := by decide +kernel
theorem dX9_comeOver_67 : decode cX9_comeOver 67 = .ok (.iconst 2, 1) := by decide +kernel
theorem dX9_comeOver_68 : decode cX9_comeOver 68 = .ok (.irem, 1) := by decide +kernel
theorem dX9_comeOver_69 : decode cX9_comeOver 69 = .ok (.ifCond .ne 12, 3) := by decide +kernel
theorem dX9_comeOver_72 : decode cX9_comeOver 72 = .ok (.aload_n 0, 1) := by decide +kernel
theorem dX9_comeOver_73 : decode cX9_comeOver 73 = .ok (.getfield 36, 3) := by decide +kernel
theorem dX9_comeOver_76 : decode cX9_comeOver 76 = .ok (.bipush 12, 2) := by decide +kernel
theorem dX9_comeOver_78 : decode cX9_comeOver 78 = .ok (.if_icmp .lt 4, 3) := by decide +kernel
theorem dX9_comeOver_81 : decode cX9_comeOver 81 = .ok (.return_, 1) := by decide +kernel
theorem dX9_comeOver_82 : decode cX9_comeOver 82 = .ok (.aload_n 0, 1) := by decide +kernel
theorem dX9_comeOver_83 : decode cX9_comeOver 83 = .ok (.iconst 1, 1) := by decide +kernel
theorem dX9_comeOver_84 : decode cX9_comeOver 84 = .ok (.aload_n 0, 1) := by decide +kernel
theorem dX9_comeOver_85 : decode cX9_comeOver 85 = .ok (.getfield 33, 3) := by decide +kernel
theorem dX9_comeOver_88 : decode cX9_comeOver 88 = .ok (.iconst 2, 1) := by decide +kernel
theorem dX9_comeOver_89 : decode cX9_comeOver 89 = .ok (.aaload, 1) := by decide +kernel
theorem dX9_comeOver_90 : decode cX9_comeOver 90 = .ok (.iload_n 1, 1) := by decide +kernel
theorem dX9_comeOver_91 : decode cX9_comeOver 91 = .ok (.iaload, 1) := by decide +kernel
theorem dX9_comeOver_92 : decode cX9_comeOver 92 = .ok (.isub, 1) := by decide +kernel
theorem dX9_comeOver_93 : decode cX9_comeOver 93 = .ok (.invokevirtual 134, 3) := by decide +kernel
theorem dX9_comeOver_96 : decode cX9_comeOver 96 = .ok (.istore 6, 2) := by decide +kernel
theorem dX9_comeOver_98 : decode cX9_comeOver 98 = .ok (.iload 6, 2) := by decide +kernel
theorem dX9_comeOver_100 : decode cX9_comeOver 100 = .ok (.ifCond .ge 4, 3) := by decide +kernel
theorem dX9_comeOver_103 : decode cX9_comeOver 103 = .ok (.return_, 1) := by decide +kernel
theorem dX9_comeOver_104 : decode cX9_comeOver 104 = .ok (.aload_n 0, 1) := by decide +kernel
theorem dX9_comeOver_105 : decode cX9_comeOver 105 = .ok (.getfield 39, 3) := by decide +kernel
theorem dX9_comeOver_108 : decode cX9_comeOver 108 = .ok (.iconst 0, 1) := by decide +kernel
theorem dX9_comeOver_109 : decode cX9_comeOver 109 = .ok (.aaload, 1) := by decide +kernel
theorem dX9_comeOver_110 : decode cX9_comeOver 110 = .ok (.aload_n 0, 1) := by decide +kernel
theorem dX9_comeOver_111 : decode cX9_comeOver 111 = .ok (.getfield 36, 3) := by decide +kernel
theorem dX9_comeOver_114 : decode cX9_comeOver 114 = .ok (.iload 6, 2) := by decide +kernel
theorem dX9_comeOver_116 : decode cX9_comeOver 116 = .ok (.iastore, 1) := by decide +kernel
theorem dX9_comeOver_117 : decode cX9_comeOver 117 = .ok (.aload_n 0, 1) := by decide +kernel
theorem dX9_comeOver_118 : decode cX9_comeOver 118 = .ok (.getfield 39, 3) := by decide +kernel
theorem dX9_comeOver_121 : decode cX9_comeOver 121 = .ok (.iconst 1, 1) := by decide +kernel
theorem dX9_comeOver_122 : decode cX9_comeOver 122 = .ok (.aaload, 1) := by decide +kernel
theorem dX9_comeOver_123 : decode cX9_comeOver 123 = .ok (.aload_n 0, 1) := by decide +kernel
theorem dX9_comeOver_124 : decode cX9_comeOver 124 = .ok (.getfield 36, 3) := by decide +kernel
theorem dX9_comeOver_127 : decode cX9_comeOver 127 = .ok (.aload_n 0, 1) := by decide +kernel
theorem dX9_comeOver_128 : decode cX9_comeOver 128 = .ok (.iload 6, 2) := by decide +kernel
theorem dX9_comeOver_130 : decode cX9_comeOver 130 = .ok (.iload_n 3, 1) := by decide +kernel
theorem dX9_comeOver_131 : decode cX9_comeOver 131 = .ok (.invokevirtual 138, 3) := by decide +kernel
theorem dX9_comeOver_134 : decode cX9_comeOver 134 = .ok (.iastore, 1) := by decide +kernel
theorem dX9_comeOver_135 : decode cX9_comeOver 135 = .ok (.aload_n 0, 1) := by decide +kernel
theorem dX9_comeOver_136 : decode cX9_comeOver 136 = .ok (.getfield 39, 3) := by decide +kernel
theorem dX9_comeOver_139 : decode cX9_comeOver 139 = .ok (.iconst 2, 1) := by decide +kernel
theorem dX9_comeOver_140 : decode cX9_comeOver 140 = .ok (.aaload, 1) := by decide +kernel
theorem dX9_comeOver_141 : decode cX9_comeOver 141 = .ok (.aload_n 0, 1) := by decide +kernel
theorem dX9_comeOver_142 : decode cX9_comeOver 142 = .ok (.getfield 36, 3) := by decide +kernel
theorem dX9_comeOver_145 : decode cX9_comeOver 145 = .ok (.iload_n 1, 1) := by decide +kernel
theorem dX9_comeOver_146 : decode cX9_comeOver 146 = .ok (.iastore, 1) := by decide +kernel
theorem dX9_comeOver_147 : decode cX9_comeOver 147 = .ok (.aload_n 0, 1) := by decide +kernel
theorem dX9_comeOver_148 : decode cX9_comeOver 148 = .ok (.getfield 39, 3) := by decide +kernel
theorem dX9_comeOver_151 : decode cX9_comeOver 151 = .ok (.iconst 3, 1) := by decide +kernel
theorem dX9_comeOver_152 : decode cX9_comeOver 152 = .ok (.aaload, 1) := by decide +kernel
theorem dX9_comeOver_153 : decode cX9_comeOver 153 = .ok (.aload_n 0, 1) := by decide +kernel
theorem dX9_comeOver_154 : decode cX9_comeOver 154 = .ok (.getfield 36, 3) := by decide +kernel
theorem dX9_comeOver_157 : decode cX9_comeOver 157 = .ok (.aload_n 0, 1) := by decide +kernel
theorem dX9_comeOver_158 : decode cX9_comeOver 158 = .ok (.getfield 15, 3) := by decide +kernel
theorem dX9_comeOver_161 : decode cX9_comeOver 161 = .ok (.aload_n 0, 1) := by decide +kernel
theorem dX9_comeOver_162 : decode cX9_comeOver 162 = .ok (.iload 6, 2) := by decide +kernel
theorem dX9_comeOver_164 : decode cX9_comeOver 164 = .ok (.invokevirtual 141, 3) := by decide +kernel
theorem dX9_comeOver_167 : decode cX9_comeOver 167 = .ok (.iadd, 1) := by decide +kernel
theorem dX9_comeOver_168 : decode cX9_comeOver 168 = .ok (.iastore, 1) := by decide +kernel
theorem dX9_comeOver_169 : decode cX9_comeOver 169 = .ok (.aload_n 0, 1) := by decide +kernel
theorem dX9_comeOver_170 : decode cX9_comeOver 170 = .ok (.dup, 1) := by decide +kernel
theorem dX9_comeOver_171 : decode cX9_comeOver 171 = .ok (.getfield 36, 3) := by decide +kernel
theorem dX9_comeOver_174 : decode cX9_comeOver 174 = .ok (.iconst 1, 1) := by decide +kernel
theorem dX9_comeOver_175 : decode cX9_comeOver 175 = .ok (.iadd, 1) := by decide +kernel
theorem dX9_comeOver_176 : decode cX9_comeOver 176 = .ok (.putfield 36, 3) := by decide +kernel
theorem dX9_comeOver_179 : decode cX9_comeOver 179 = .ok (.return_, 1) := by decide +kernel
theorem dX9_draw_0 : decode cX9_draw 0 = .ok (.aload_n 0, 1) := by decide +kernel
theorem dX9_draw_1 : decode cX9_draw 1 = .ok (.aload_n 0, 1) := by decide +kernel
theorem dX9_draw_2 : decode cX9_draw 2 = .ok (.getfield 19, 3) := by decide +kernel
theorem dX9_draw_5 : decode cX9_draw 5 = .ok (.ldc 144, 2) := by decide +kernel
theorem dX9_draw_7 : decode cX9_draw 7 = .ok (.imul, 1) := by decide +kernel
theorem dX9_draw_8 : decode cX9_draw 8 = .ok (.sipush 12345, 3) := by decide +kernel
theorem dX9_draw_11 : decode cX9_draw 11 = .ok (.iadd, 1) := by decide +kernel
theorem dX9_draw_12 : decode cX9_draw 12 = .ok (.putfield 19, 3) := by decide +kernel
theorem dX9_draw_15 : decode cX9_draw 15 = .ok (.aload_n 0, 1) := by decide +kernel
theorem dX9_draw_16 : decode cX9_draw 16 = .ok (.getfield 19, 3) := by decide +kernel
theorem dX9_draw_19 : decode cX9_draw 19 = .ok (.bipush 8, 2) := by decide +kernel
theorem dX9_draw_21 : decode cX9_draw 21 = .ok (.iushr, 1) := by decide +kernel
theorem dX9_draw_22 : decode cX9_draw 22 = .ok (.ireturn, 1) := by decide +kernel
theorem dX9_quickest_0 : decode cX9_quickest 0 = .ok (.iconst (-1), 1) := by decide +kernel
theorem dX9_quickest_1 : decode cX9_quickest 1 = .ok (.istore_n 2, 1) := by decide +kernel
theorem dX9_quickest_2 : decode cX9_quickest 2 = .ok (.iconst 0, 1) := by decide +kernel
theorem dX9_quickest_3 : decode cX9_quickest 3 = .ok (.istore_n 3, 1) := by decide +kernel
theorem dX9_quickest_4 : decode cX9_quickest 4 = .ok (.iconst 0, 1) := by decide +kernel
theorem dX9_quickest_5 : decode cX9_quickest 5 = .ok (.istore 4, 2) := by decide +kernel
theorem dX9_quickest_7 : decode cX9_quickest 7 = .ok (.iload 4, 2) := by decide +kernel
theorem dX9_quickest_9 : decode cX9_quickest 9 = .ok (.aload_n 0, 1) := by decide +kernel
theorem dX9_quickest_10 : decode cX9_quickest 10 = .ok (.getfield 22, 3) := by decide +kernel
theorem dX9_quickest_13 : decode cX9_quickest 13 = .ok (.if_icmp .ge 73, 3) := by decide +kernel
theorem dX9_quickest_16 : decode cX9_quickest 16 = .ok (.aload_n 0, 1) := by decide +kernel
theorem dX9_quickest_17 : decode cX9_quickest 17 = .ok (.getfield 27, 3) := by decide +kernel
theorem dX9_quickest_20 : decode cX9_quickest 20 = .ok (.iconst 2, 1) := by decide +kernel
theorem dX9_quickest_21 : decode cX9_quickest 21 = .ok (.aaload, 1) := by decide +kernel
theorem dX9_quickest_22 : decode cX9_quickest 22 = .ok (.iload 4, 2) := by decide +kernel
theorem dX9_quickest_24 : decode cX9_quickest 24 = .ok (.iaload, 1) := by decide +kernel
theorem dX9_quickest_25 : decode cX9_quickest 25 = .ok (.iload_n 1, 1) := by decide +kernel
theorem dX9_quickest_26 : decode cX9_quickest 26 = .ok (.if_icmp .eq 6, 3) := by decide +kernel
theorem dX9_quickest_29 : decode cX9_quickest 29 = .ok (.goto 51, 3) := by decide +kernel
theorem dX9_quickest_32 : decode cX9_quickest 32 = .ok (.aload_n 0, 1) := by decide +kernel
theorem dX9_quickest_33 : decode cX9_quickest 33 = .ok (.iload 4, 2) := by decide +kernel
theorem dX9_quickest_35 : decode cX9_quickest 35 = .ok (.invokevirtual 82, 3) := by decide +kernel
theorem dX9_quickest_38 : decode cX9_quickest 38 = .ok (.aload_n 0, 1) := by decide +kernel
theorem dX9_quickest_39 : decode cX9_quickest 39 = .ok (.getfield 27, 3) := by decide +kernel
theorem dX9_quickest_42 : decode cX9_quickest 42 = .ok (.iconst 1, 1) := by decide +kernel
theorem dX9_quickest_43 : decode cX9_quickest 43 = .ok (.aaload, 1) := by decide +kernel
theorem dX9_quickest_44 : decode cX9_quickest 44 = .ok (.iload 4, 2) := by decide +kernel
theorem dX9_quickest_46 : decode cX9_quickest 46 = .ok (.iaload, 1) := by decide +kernel
theorem dX9_quickest_47 : decode cX9_quickest 47 = .ok (.aload_n 0, 1) := by decide +kernel
theorem dX9_quickest_48 : decode cX9_quickest 48 = .ok (.getfield 9, 3) := by decide +kernel
theorem dX9_quickest_51 : decode cX9_quickest 51 = .ok (.iconst 1, 1) := by decide +kernel
theorem dX9_quickest_52 : decode cX9_quickest 52 = .ok (.iaload, 1) := by decide +kernel
theorem dX9_quickest_53 : decode cX9_quickest 53 = .ok (.aload_n 0, 1) := by decide +kernel
theorem dX9_quickest_54 : decode cX9_quickest 54 = .ok (.getfield 9, 3) := by decide +kernel
theorem dX9_quickest_57 : decode cX9_quickest 57 = .ok (.iconst 2, 1) := by decide +kernel
theorem dX9_quickest_58 : decode cX9_quickest 58 = .ok (.iaload, 1) := by decide +kernel
theorem dX9_quickest_59 : decode cX9_quickest 59 = .ok (.invokevirtual 86, 3) := by decide +kernel
theorem dX9_quickest_62 : decode cX9_quickest 62 = .ok (.istore 5, 2) := by decide +kernel
theorem dX9_quickest_64 : decode cX9_quickest 64 = .ok (.iload_n 2, 1) := by decide +kernel
theorem dX9_quickest_65 : decode cX9_quickest 65 = .ok (.ifCond .lt 9, 3) := by decide +kernel
theorem dX9_quickest_68 : decode cX9_quickest 68 = .ok (.iload 5, 2) := by decide +kernel
theorem dX9_quickest_70 : decode cX9_quickest 70 = .ok (.iload_n 3, 1) := by decide +kernel
theorem dX9_quickest_71 : decode cX9_quickest 71 = .ok (.if_icmp .ge 9, 3) := by decide +kernel
theorem dX9_quickest_74 : decode cX9_quickest 74 = .ok (.iload 4, 2) := by decide +kernel
theorem dX9_quickest_76 : decode cX9_quickest 76 = .ok (.istore_n 2, 1) := by decide +kernel
theorem dX9_quickest_77 : decode cX9_quickest 77 = .ok (.iload 5, 2) := by decide +kernel
theorem dX9_quickest_79 : decode cX9_quickest 79 = .ok (.istore_n 3, 1) := by decide +kernel
theorem dX9_quickest_80 : decode cX9_quickest 80 = .ok (.iinc 4 1, 3) := by decide +kernel
theorem dX9_quickest_83 : decode cX9_quickest 83 = .ok (.goto (-76), 3) := by decide +kernel
theorem dX9_quickest_86 : decode cX9_quickest 86 = .ok (.iload_n 2, 1) := by decide +kernel
theorem dX9_quickest_87 : decode cX9_quickest 87 = .ok (.ireturn, 1) := by decide +kernel
theorem dX9_shoutDue_0 : decode cX9_shoutDue 0 = .ok (.iconst 0, 1) := by decide +kernel
theorem dX9_shoutDue_1 : decode cX9_shoutDue 1 = .ok (.istore_n 1, 1) := by decide +kernel
theorem dX9_shoutDue_2 : decode cX9_shoutDue 2 = .ok (.iconst 0, 1) := by decide +kernel
theorem dX9_shoutDue_3 : decode cX9_shoutDue 3 = .ok (.istore_n 2, 1) := by decide +kernel
theorem dX9_shoutDue_4 : decode cX9_shoutDue 4 = .ok (.iload_n 2, 1) := by decide +kernel
theorem dX9_shoutDue_5 : decode cX9_shoutDue 5 = .ok (.aload_n 0, 1) := by decide +kernel
theorem dX9_shoutDue_6 : decode cX9_shoutDue 6 = .ok (.getfield 36, 3) := by decide +kernel
theorem dX9_shoutDue_9 : decode cX9_shoutDue 9 = .ok (.if_icmp .ge 91, 3) := by decide +kernel
theorem dX9_shoutDue_12 : decode cX9_shoutDue 12 = .ok (.aload_n 0, 1) := by decide +kernel
theorem dX9_shoutDue_13 : decode cX9_shoutDue 13 = .ok (.getfield 39, 3) := by decide +kernel
theorem dX9_shoutDue_16 : decode cX9_shoutDue 16 = .ok (.iconst 3, 1) := by decide +kernel
theorem dX9_shoutDue_17 : decode cX9_shoutDue 17 = .ok (.aaload, 1) := by decide +kernel
theorem dX9_shoutDue_18 : decode cX9_shoutDue 18 = .ok (.iload_n 2, 1) := by decide +kernel
theorem dX9_shoutDue_19 : decode cX9_shoutDue 19 = .ok (.iaload, 1) := by decide +kernel
theorem dX9_shoutDue_20 : decode cX9_shoutDue 20 = .ok (.aload_n 0, 1) := by decide +kernel
theorem dX9_shoutDue_21 : decode cX9_shoutDue 21 = .ok (.getfield 15, 3) := by decide +kernel
theorem dX9_shoutDue_24 : decode cX9_shoutDue 24 = .ok (.if_icmp .gt 34, 3) := by decide +kernel
theorem dX9_shoutDue_27 : decode cX9_shoutDue 27 = .ok (.aload_n 0, 1) := by decide +kernel
theorem dX9_shoutDue_28 : decode cX9_shoutDue 28 = .ok (.aload_n 0, 1) := by decide +kernel
theorem dX9_shoutDue_29 : decode cX9_shoutDue 29 = .ok (.getfield 39, 3) := by decide +kernel
theorem dX9_shoutDue_32 : decode cX9_shoutDue 32 = .ok (.iconst 0, 1) := by decide +kernel
theorem dX9_shoutDue_33 : decode cX9_shoutDue 33 = .ok (.aaload, 1) := by decide +kernel
theorem dX9_shoutDue_34 : decode cX9_shoutDue 34 = .ok (.iload_n 2, 1) := by decide +kernel
theorem dX9_shoutDue_35 : decode cX9_shoutDue 35 = .ok (.iaload, 1) := by decide +kernel
theorem dX9_shoutDue_36 : decode cX9_shoutDue 36 = .ok (.aload_n 0, 1) := by decide +kernel
theorem dX9_shoutDue_37 : decode cX9_shoutDue 37 = .ok (.getfield 39, 3) := by decide +kernel
theorem dX9_shoutDue_40 : decode cX9_shoutDue 40 = .ok (.iconst 1, 1) := by decide +kernel
theorem dX9_shoutDue_41 : decode cX9_shoutDue 41 = .ok (.aaload, 1) := by decide +kernel
theorem dX9_shoutDue_42 : decode cX9_shoutDue 42 = .ok (.iload_n 2, 1) := by decide +kernel
theorem dX9_shoutDue_43 : decode cX9_shoutDue 43 = .ok (.iaload, 1) := by decide +kernel
theorem dX9_shoutDue_44 : decode cX9_shoutDue 44 = .ok (.aload_n 0, 1) := by decide +kernel
theorem dX9_shoutDue_45 : decode cX9_shoutDue 45 = .ok (.getfield 39, 3) := by decide +kernel
theorem dX9_shoutDue_48 : decode cX9_shoutDue 48 = .ok (.iconst 2, 1) := by decide +kernel
theorem dX9_shoutDue_49 : decode cX9_shoutDue 49 = .ok (.aaload, 1) := by decide +kernel
theorem dX9_shoutDue_50 : decode cX9_shoutDue 50 = .ok (.iload_n 2, 1) := by decide +kernel
theorem dX9_shoutDue_51 : decode cX9_shoutDue 51 = .ok (.iaload, 1) := by decide +kernel
theorem dX9_shoutDue_52 : decode cX9_shoutDue 52 = .ok (.invokevirtual 145, 3) := by decide +kernel
theorem dX9_shoutDue_55 : decode cX9_shoutDue 55 = .ok (.goto 39, 3) := by decide +kernel
theorem dX9_shoutDue_58 : decode cX9_shoutDue 58 = .ok (.iconst 0, 1) := by decide +kernel
theorem dX9_shoutDue_59 : decode cX9_shoutDue 59 = .ok (.istore_n 3, 1) := by decide +kernel
theorem dX9_shoutDue_60 : decode cX9_shoutDue 60 = .ok (.iload_n 3, 1) := by decide +kernel
theorem dX9_shoutDue_61 : decode cX9_shoutDue 61 = .ok (.aload_n 0, 1) := by decide +kernel
theorem dX9_shoutDue_62 : decode cX9_shoutDue 62 = .ok (.getfield 39, 3) := by decide +kernel
theorem dX9_shoutDue_65 : decode cX9_shoutDue 65 = .ok (.arraylength, 1) := by decide +kernel
theorem dX9_shoutDue_66 : decode cX9_shoutDue 66 = .ok (.if_icmp .ge 25, 3) := by decide +kernel
theorem dX9_shoutDue_69 : decode cX9_shoutDue 69 = .ok (.aload_n 0, 1) := by decide +kernel
theorem dX9_shoutDue_70 : decode cX9_shoutDue 70 = .ok (.getfield 39, 3) := by decide +kernel
theorem dX9_shoutDue_73 : decode cX9_shoutDue 73 = .ok (.iload_n 3, 1) := by decide +kernel
theorem dX9_shoutDue_74 : decode cX9_shoutDue 74 = .ok (.aaload, 1) := by decide +kernel
theorem dX9_shoutDue_75 : decode cX9_shoutDue 75 = .ok (.iload_n 1, 1) := by decide +kernel
theorem dX9_shoutDue_76 : decode cX9_shoutDue 76 = .ok (.aload_n 0, 1) := by decide +kernel
theorem dX9_shoutDue_77 : decode cX9_shoutDue 77 = .ok (.getfield 39, 3) := by decide +kernel
theorem dX9_shoutDue_80 : decode cX9_shoutDue 80 = .ok (.iload_n 3, 1) := by decide +kernel
theorem dX9_shoutDue_81 : decode cX9_shoutDue 81 = .ok (.aaload, 1) := by decide +kernel
theorem dX9_shoutDue_82 : decode cX9_shoutDue 82 = .ok (.iload_n 2, 1) := by decide +kernel
theorem dX9_shoutDue_83 : decode cX9_shoutDue 83 = .ok (.iaload, 1) := by decide +kernel
theorem dX9_shoutDue_84 : decode cX9_shoutDue 84 = .ok (.iastore, 1) := by decide +kernel
theorem dX9_shoutDue_85 : decode cX9_shoutDue 85 = .ok (.iinc 3 1, 3) := by decide +kernel
theorem dX9_shoutDue_88 : decode cX9_shoutDue 88 = .ok (.goto (-28), 3) := by decide +kernel
theorem dX9_shoutDue_91 : decode cX9_shoutDue 91 = .ok (.iinc 1 1, 3) := by decide +kernel
theorem dX9_shoutDue_94 : decode cX9_shoutDue 94 = .ok (.iinc 2 1, 3) := by decide +kernel
theorem dX9_shoutDue_97 : decode cX9_shoutDue 97 = .ok (.goto (-93), 3) := by decide +kernel
theorem dX9_shoutDue_100 : decode cX9_shoutDue 100 = .ok (.aload_n 0, 1) := by decide +kernel
theorem dX9_shoutDue_101 : decode cX9_shoutDue 101 = .ok (.iload_n 1, 1) := by decide +kernel
theorem dX9_shoutDue_102 : decode cX9_shoutDue 102 = .ok (.putfield 36, 3) := by decide +kernel
theorem dX9_shoutDue_105 : decode cX9_shoutDue 105 = .ok (.return_, 1) := by decide +kernel
theorem dX9_questionsTaught_0 : decode cX9_questionsTaught 0 = .ok (.iconst 0, 1) := by decide +kernel
theorem dX9_questionsTaught_1 : decode cX9_questionsTaught 1 = .ok (.istore_n 1, 1) := by decide +kernel
theorem dX9_questionsTaught_2 : decode cX9_questionsTaught 2 = .ok (.iconst 0, 1) := by decide +kernel
theorem dX9_questionsTaught_3 : decode cX9_questionsTaught 3 = .ok (.istore_n 2, 1) := by decide +kernel
theorem dX9_questionsTaught_4 : decode cX9_questionsTaught 4 = .ok (.iload_n 2, 1) := by decide +kernel
theorem dX9_questionsTaught_5 : decode cX9_questionsTaught 5 = .ok (.aload_n 0, 1) := by decide +kernel
theorem dX9_questionsTaught_6 : decode cX9_questionsTaught 6 = .ok (.getfield 30, 3) := by decide +kernel
theorem dX9_questionsTaught_9 : decode cX9_questionsTaught 9 = .ok (.if_icmp .ge 33, 3) := by decide +kernel
theorem dX9_questionsTaught_12 : decode cX9_questionsTaught 12 = .ok (.aload_n 0, 1) := by decide +kernel
theorem dX9_questionsTaught_13 : decode cX9_questionsTaught 13 = .ok (.getfield 33, 3) := by decide +kernel
theorem dX9_questionsTaught_16 : decode cX9_questionsTaught 16 = .ok (.iconst 3, 1) := by decide +kernel
theorem dX9_questionsTaught_17 : decode cX9_questionsTaught 17 = .ok (.aaload, 1) := by decide +kernel
theorem dX9_questionsTaught_18 : decode cX9_questionsTaught 18 = .ok (.iload_n 2, 1) := by decide +kernel
theorem dX9_questionsTaught_19 : decode cX9_questionsTaught 19 = .ok (.iaload, 1) := by decide +kernel
theorem dX9_questionsTaught_20 : decode cX9_questionsTaught 20 = .ok (.iconst 2, 1) := by decide +kernel
theorem dX9_questionsTaught_21 : decode cX9_questionsTaught 21 = .ok (.irem, 1) := by decide +kernel
theorem dX9_questionsTaught_22 : decode cX9_questionsTaught 22 = .ok (.ifCond .ne 14, 3) := by decide +kernel
theorem dX9_questionsTaught_25 : decode cX9_questionsTaught 25 = .ok (.aload_n 0, 1) := by decide +kernel
theorem dX9_questionsTaught_26 : decode cX9_questionsTaught 26 = .ok (.iload_n 2, 1) := by decide +kernel
theorem dX9_questionsTaught_27 : decode cX9_questionsTaught 27 = .ok (.invokevirtual 149, 3) := by decide +kernel
theorem dX9_questionsTaught_30 : decode cX9_questionsTaught 30 = .ok (.ifCond .eq 6, 3) := by decide +kernel
theorem dX9_questionsTaught_33 : decode cX9_questionsTaught 33 = .ok (.iinc 1 1, 3) := by decide +kernel
theorem dX9_questionsTaught_36 : decode cX9_questionsTaught 36 = .ok (.iinc 2 1, 3) := by decide +kernel
theorem dX9_questionsTaught_39 : decode cX9_questionsTaught 39 = .ok (.goto (-35), 3) := by decide +kernel
theorem dX9_questionsTaught_42 : decode cX9_questionsTaught 42 = .ok (.iload_n 1, 1) := by decide +kernel
theorem dX9_questionsTaught_43 : decode cX9_questionsTaught 43 = .ok (.ireturn, 1) := by decide +kernel
theorem dX9_isTaught_0 : decode cX9_isTaught 0 = .ok (.aload_n 0, 1) := by decide +kernel
theorem dX9_isTaught_1 : decode cX9_isTaught 1 = .ok (.getfield 33, 3) := by decide +kernel
theorem dX9_isTaught_4 : decode cX9_isTaught 4 = .ok (.iconst 3, 1) := by decide +kernel
theorem dX9_isTaught_5 : decode cX9_isTaught 5 = .ok (.aaload, 1) := by decide +kernel
theorem dX9_isTaught_6 : decode cX9_isTaught 6 = .ok (.iload_n 1, 1) := by decide +kernel
theorem dX9_isTaught_7 : decode cX9_isTaught 7 = .ok (.iaload, 1) := by decide +kernel
theorem dX9_isTaught_8 : decode cX9_isTaught 8 = .ok (.iconst 1, 1) := by decide +kernel
theorem dX9_isTaught_9 : decode cX9_isTaught 9 = .ok (.iadd, 1) := by decide +kernel
theorem dX9_isTaught_10 : decode cX9_isTaught 10 = .ok (.istore_n 2, 1) := by decide +kernel
theorem dX9_isTaught_11 : decode cX9_isTaught 11 = .ok (.iconst 0, 1) := by decide +kernel
theorem dX9_isTaught_12 : decode cX9_isTaught 12 = .ok (.istore_n 3, 1) := by decide +kernel
theorem dX9_isTaught_13 : decode cX9_isTaught 13 = .ok (.iload_n 3, 1) := by decide +kernel
theorem dX9_isTaught_14 : decode cX9_isTaught 14 = .ok (.aload_n 0, 1) := by decide +kernel
theorem dX9_isTaught_15 : decode cX9_isTaught 15 = .ok (.getfield 30, 3) := by decide +kernel
theorem dX9_isTaught_18 : decode cX9_isTaught 18 = .ok (.if_icmp .ge 50, 3) := by decide +kernel
theorem dX9_isTaught_21 : decode cX9_isTaught 21 = .ok (.aload_n 0, 1) := by decide +kernel
theorem dX9_isTaught_22 : decode cX9_isTaught 22 = .ok (.getfield 33, 3) := by decide +kernel
theorem dX9_isTaught_25 : decode cX9_isTaught 25 = .ok (.iconst 4, 1) := by decide +kernel
theorem dX9_isTaught_26 : decode cX9_isTaught 26 = .ok (.aaload, 1) := by decide +kernel
theorem dX9_isTaught_27 : decode cX9_isTaught 27 = .ok (.iload_n 3, 1) := by decide +kernel
theorem dX9_isTaught_28 : decode cX9_isTaught 28 = .ok (.iaload, 1) := by decide +kernel
theorem dX9_isTaught_29 : decode cX9_isTaught 29 = .ok (.iload_n 1, 1) := by decide +kernel
theorem dX9_isTaught_30 : decode cX9_isTaught 30 = .ok (.if_icmp .ne 32, 3) := by decide +kernel
theorem dX9_isTaught_33 : decode cX9_isTaught 33 = .ok (.aload_n 0, 1) := by decide +kernel
theorem dX9_isTaught_34 : decode cX9_isTaught 34 = .ok (.getfield 33, 3) := by decide +kernel
theorem dX9_isTaught_37 : decode cX9_isTaught 37 = .ok (.iconst 3, 1) := by decide +kernel
theorem dX9_isTaught_38 : decode cX9_isTaught 38 = .ok (.aaload, 1) := by decide +kernel
theorem dX9_isTaught_39 : decode cX9_isTaught 39 = .ok (.iload_n 3, 1) := by decide +kernel
theorem dX9_isTaught_40 : decode cX9_isTaught 40 = .ok (.iaload, 1) := by decide +kernel
theorem dX9_isTaught_41 : decode cX9_isTaught 41 = .ok (.iload_n 2, 1) := by decide +kernel
theorem dX9_isTaught_42 : decode cX9_isTaught 42 = .ok (.if_icmp .ne 20, 3) := by decide +kernel
theorem dX9_isTaught_45 : decode cX9_isTaught 45 = .ok (.aload_n 0, 1) := by decide +kernel
theorem dX9_isTaught_46 : decode cX9_isTaught 46 = .ok (.getfield 33, 3) := by decide +kernel
theorem dX9_isTaught_49 : decode cX9_isTaught 49 = .ok (.iconst 5, 1) := by decide +kernel
theorem dX9_isTaught_50 : decode cX9_isTaught 50 = .ok (.aaload, 1) := by decide +kernel
theorem dX9_isTaught_51 : decode cX9_isTaught 51 = .ok (.iload_n 3, 1) := by decide +kernel
theorem dX9_isTaught_52 : decode cX9_isTaught 52 = .ok (.iaload, 1) := by decide +kernel
theorem dX9_isTaught_53 : decode cX9_isTaught 53 = .ok (.aload_n 0, 1) := by decide +kernel
theorem dX9_isTaught_54 : decode cX9_isTaught 54 = .ok (.getfield 15, 3) := by decide +kernel
theorem dX9_isTaught_57 : decode cX9_isTaught 57 = .ok (.if_icmp .ge 5, 3) := by decide +kernel
theorem dX9_isTaught_60 : decode cX9_isTaught 60 = .ok (.iconst 1, 1) := by decide +kernel
theorem dX9_isTaught_61 : decode cX9_isTaught 61 = .ok (.ireturn, 1) := by decide +kernel
theorem dX9_isTaught_62 : decode cX9_isTaught 62 = .ok (.iinc 3 1, 3) := by decide +kernel
theorem dX9_isTaught_65 : decode cX9_isTaught 65 = .ok (.goto (-52), 3) := by decide +kernel
theorem dX9_isTaught_68 : decode cX9_isTaught 68 = .ok (.iconst 0, 1) := by decide +kernel
theorem dX9_isTaught_69 : decode cX9_isTaught 69 = .ok (.ireturn, 1) := by decide +kernel
theorem dX10_init_0 : decode cX10_init 0 = .ok (.aload_n 0, 1) := by decide +kernel
theorem dX10_init_1 : decode cX10_init 1 = .ok (.invokespecial 3, 3) := by decide +kernel
theorem dX10_init_4 : decode cX10_init 4 = .ok (.aload_n 0, 1) := by decide +kernel
theorem dX10_init_5 : decode cX10_init 5 = .ok (.iconst 0, 1) := by decide +kernel
theorem dX10_init_6 : decode cX10_init 6 = .ok (.putfield 9, 3) := by decide +kernel
theorem dX10_init_9 : decode cX10_init 9 = .ok (.aload_n 0, 1) := by decide +kernel
theorem dX10_init_10 : decode cX10_init 10 = .ok (.iconst 0, 1) := by decide +kernel
theorem dX10_init_11 : decode cX10_init 11 = .ok (.putfield 15, 3) := by decide +kernel
theorem dX10_init_14 : decode cX10_init 14 = .ok (.aload_n 0, 1) := by decide +kernel
theorem dX10_init_15 : decode cX10_init 15 = .ok (.bipush 40, 2) := by decide +kernel
theorem dX10_init_17 : decode cX10_init 17 = .ok (.newarray .int, 2) := by decide +kernel
theorem dX10_init_19 : decode cX10_init 19 = .ok (.putfield 18, 3) := by decide +kernel
theorem dX10_init_22 : decode cX10_init 22 = .ok (.aload_n 0, 1) := by decide +kernel
theorem dX10_init_23 : decode cX10_init 23 = .ok (.iconst 0, 1) := by decide +kernel
theorem dX10_init_24 : decode cX10_init 24 = .ok (.putfield 22, 3) := by decide +kernel
theorem dX10_init_27 : decode cX10_init 27 = .ok (.aload_n 0, 1) := by decide +kernel
theorem dX10_init_28 : decode cX10_init 28 = .ok (.iconst 5, 1) := by decide +kernel
theorem dX10_init_29 : decode cX10_init 29 = .ok (.newarray .int, 2) := by decide +kernel
theorem dX10_init_31 : decode cX10_init 31 = .ok (.putfield 25, 3) := by decide +kernel
theorem dX10_init_34 : decode cX10_init 34 = .ok (.aload_n 0, 1) := by decide +kernel
theorem dX10_init_35 : decode cX10_init 35 = .ok (.iconst 5, 1) := by decide +kernel
theorem dX10_init_36 : decode cX10_init 36 = .ok (.newarray .int, 2) := by decide +kernel
theorem dX10_init_38 : decode cX10_init 38 = .ok (.putfield 28, 3) := by decide +kernel
theorem dX10_init_41 : decode cX10_init 41 = .ok (.aload_n 0, 1) := by decide +kernel
theorem dX10_init_42 : decode cX10_init 42 = .ok (.iconst 5, 1) := by decide +kernel
theorem dX10_init_43 : decode cX10_init 43 = .ok (.newarray .int, 2) := by decide +kernel
theorem dX10_init_45 : decode cX10_init 45 = .ok (.putfield 31, 3) := by decide +kernel
theorem dX10_init_48 : decode cX10_init 48 = .ok (.aload_n 0, 1) := by decide +kernel
theorem dX10_init_49 : decode cX10_init 49 = .ok (.iconst 0, 1) := by decide +kernel
theorem dX10_init_50 : decode cX10_init 50 = .ok (.putfield 34, 3) := by decide +kernel
theorem dX10_init_53 : decode cX10_init 53 = .ok (.aload_n 0, 1) := by decide +kernel
theorem dX10_init_54 : decode cX10_init 54 = .ok (.bipush 12, 2) := by decide +kernel
theorem dX10_init_56 : decode cX10_init 56 = .ok (.newarray .int, 2) := by decide +kernel
theorem dX10_init_58 : decode cX10_init 58 = .ok (.putfield 37, 3) := by decide +kernel
theorem dX10_init_61 : decode cX10_init 61 = .ok (.aload_n 0, 1) := by decide +kernel
theorem dX10_init_62 : decode cX10_init 62 = .ok (.bipush 12, 2) := by decide +kernel
theorem dX10_init_64 : decode cX10_init 64 = .ok (.newarray .int, 2) := by decide +kernel
theorem dX10_init_66 : decode cX10_init 66 = .ok (.putfield 40, 3) := by decide +kernel
theorem dX10_init_69 : decode cX10_init 69 = .ok (.return_, 1) := by decide +kernel
theorem dX10_isMissing_0 : decode cX10_isMissing 0 = .ok (.aload_n 0, 1) := by decide +kernel
theorem dX10_isMissing_1 : decode cX10_isMissing 1 = .ok (.getfield 9, 3) := by decide +kernel
theorem dX10_isMissing_4 : decode cX10_isMissing 4 = .ok (.ifCond .ne 7, 3) := by decide +kernel
theorem dX10_isMissing_7 : decode cX10_isMissing 7 = .ok (.iconst 1, 1) := by decide +kernel
theorem dX10_isMissing_8 : decode cX10_isMissing 8 = .ok (.goto 4, 3) := by decide +kernel
theorem dX10_isMissing_11 : decode cX10_isMissing 11 = .ok (.iconst 0, 1) := by decide +kernel
theorem dX10_isMissing_12 : decode cX10_isMissing 12 = .ok (.ireturn, 1) := by decide +kernel
theorem dX10_lay_0 : decode cX10_lay 0 = .ok (.aload_n 0, 1) := by decide +kernel
theorem dX10_lay_1 : decode cX10_lay 1 = .ok (.iload_n 1, 1) := by decide +kernel
theorem dX10_lay_2 : decode cX10_lay 2 = .ok (.putfield 9, 3) := by decide +kernel
theorem dX10_lay_5 : decode cX10_lay 5 = .ok (.aload_n 0, 1) := by decide +kernel
theorem dX10_lay_6 : decode cX10_lay 6 = .ok (.iload_n 2, 1) := by decide +kernel
theorem dX10_lay_7 : decode cX10_lay 7 = .ok (.putfield 15, 3) := by decide +kernel
theorem dX10_lay_10 : decode cX10_lay 10 = .ok (.aload_n 0, 1) := by decide +kernel
theorem dX10_lay_11 : decode cX10_lay 11 = .ok (.getfield 18, 3) := by decide +kernel
theorem dX10_lay_14 : decode cX10_lay 14 = .ok (.iconst 0, 1) := by decide +kernel
theorem dX10_lay_15 : decode cX10_lay 15 = .ok (.invokestatic 43, 3) := by decide +kernel
theorem dX10_lay_18 : decode cX10_lay 18 = .ok (.return_, 1) := by decide +kernel
theorem dX10_write_0 : decode cX10_write 0 = .ok (.aload_n 0, 1) := by decide +kernel
theorem dX10_write_1 : decode cX10_write 1 = .ok (.getfield 9, 3) := by decide +kernel
theorem dX10_write_4 : decode cX10_write 4 = .ok (.bipush 8, 2) := by decide +kernel
theorem dX10_write_6 : decode cX10_write 6 = .ok (.if_icmp .ne 14, 3) := by decide +kernel
theorem dX10_write_9 : decode cX10_write 9 = .ok (.aload_n 0, 1) := by decide +kernel
theorem dX10_write_10 : decode cX10_write 10 = .ok (.getfield 18, 3) := by decide +kernel
theorem dX10_write_13 : decode cX10_write 13 = .ok (.iload_n 1, 1) := by decide +kernel
theorem dX10_write_14 : decode cX10_write 14 = .ok (.iload_n 2, 1) := by decide +kernel
theorem dX10_write_15 : decode cX10_write 15 = .ok (.i2b, 1) := by decide +kernel
theorem dX10_write_16 : decode cX10_write 16 = .ok (.iastore, 1) := by decide +kernel
theorem dX10_write_17 : decode cX10_write 17 = .ok (.goto 30, 3) := by decide +kernel
theorem dX10_write_20 : decode cX10_write 20 = .ok (.aload_n 0, 1) := by decide +kernel
theorem dX10_write_21 : decode cX10_write 21 = .ok (.getfield 9, 3) := by decide +kernel
theorem dX10_write_24 : decode cX10_write 24 = .ok (.bipush 16, 2) := by decide +kernel
theorem dX10_write_26 : decode cX10_write 26 = .ok (.if_icmp .ne 14, 3) := by decide +kernel
theorem dX10_write_29 : decode cX10_write 29 = .ok (.aload_n 0, 1) := by decide +kernel
theorem dX10_write_30 : decode cX10_write 30 = .ok (.getfield 18, 3) := by decide +kernel
theorem dX10_write_33 : decode cX10_write 33 = .ok (.iload_n 1, 1) := by decide +kernel
theorem dX10_write_34 : decode cX10_write 34 = .ok (.iload_n 2, 1) := by decide +kernel
theorem dX10_write_35 : decode cX10_write 35 = .ok (.i2s, 1) := by decide +kernel
theorem dX10_write_36 : decode cX10_write 36 = .ok (.iastore, 1) := by decide +kernel
theorem dX10_write_37 : decode cX10_write 37 = .ok (.goto 10, 3) := by decide +kernel
theorem dX10_write_40 : decode cX10_write 40 = .ok (.aload_n 0, 1) := by decide +kernel
theorem dX10_write_41 : decode cX10_write 41 = .ok (.getfield 18, 3) := by decide +kernel
theorem dX10_write_44 : decode cX10_write 44 = .ok (.iload_n 1, 1) := by decide +kernel
theorem dX10_write_45 : decode cX10_write 45 = .ok (.iload_n 2, 1) := by decide +kernel
theorem dX10_write_46 : decode cX10_write 46 = .ok (.iastore, 1) := by decide +kernel
theorem dX10_write_47 : decode cX10_write 47 = .ok (.return_, 1) := by decide +kernel
theorem dX10_holds_0 : decode cX10_holds 0 = .ok (.iload_n 1, 1) := by decide +kernel
theorem dX10_holds_1 : decode cX10_holds 1 = .ok (.ifCond .lt 29, 3) := by decide +kernel
theorem dX10_holds_4 : decode cX10_holds 4 = .ok (.iload_n 2, 1) := by decide +kernel
theorem dX10_holds_5 : decode cX10_holds 5 = .ok (.ifCond .lt 25, 3) := by decide +kernel
theorem dX10_holds_8 : decode cX10_holds 8 = .ok (.iload_n 1, 1) := by decide +kernel
theorem dX10_holds_9 : decode cX10_holds 9 = .ok (.aload_n 0, 1) := by decide +kernel
theorem dX10_holds_10 : decode cX10_holds 10 = .ok (.getfield 15, 3) := by decide +kernel
theorem dX10_holds_13 : decode cX10_holds 13 = .ok (.if_icmp .gt 17, 3) := by decide +kernel
theorem dX10_holds_16 : decode cX10_holds 16 = .ok (.iload_n 2, 1) := by decide +kernel
theorem dX10_holds_17 : decode cX10_holds 17 = .ok (.aload_n 0, 1) := by decide +kernel
theorem dX10_holds_18 : decode cX10_holds 18 = .ok (.getfield 15, 3) := by decide +kernel
theorem dX10_holds_21 : decode cX10_holds 21 = .ok (.iload_n 1, 1) := by decide +kernel
theorem dX10_holds_22 : decode cX10_holds 22 = .ok (.isub, 1) := by decide +kernel
theorem dX10_holds_23 : decode cX10_holds 23 = .ok (.if_icmp .gt 7, 3) := by decide +kernel
theorem dX10_holds_26 : decode cX10_holds 26 = .ok (.iconst 1, 1) := by decide +kernel
theorem dX10_holds_27 : decode cX10_holds 27 = .ok (.goto 4, 3) := by decide +kernel
theorem dX10_holds_30 : decode cX10_holds 30 = .ok (.iconst 0, 1) := by decide +kernel
theorem dX10_holds_31 : decode cX10_holds 31 = .ok (.ireturn, 1) := by decide +kernel
theorem dX10_lastAnswer_0 : decode cX10_lastAnswer 0 = .ok (.aload_n 0, 1) := by decide +kernel
theorem dX10_lastAnswer_1 : decode cX10_lastAnswer 1 = .ok (.invokevirtual 49, 3) := by decide +kernel
theorem dX10_lastAnswer_4 : decode cX10_lastAnswer 4 = .ok (.aload_n 0, 1) := by decide +kernel
theorem dX10_lastAnswer_5 : decode cX10_lastAnswer 5 = .ok (.getfield 22, 3) := by decide +kernel
theorem dX10_lastAnswer_8 : decode cX10_lastAnswer 8 = .ok (.ifCond .ne 5, 3) := by decide +kernel
theorem dX10_lastAnswer_11 : decode cX10_lastAnswer 11 = .ok (.iconst (-1), 1) := by decide +kernel
theorem dX10_lastAnswer_12 : decode cX10_lastAnswer 12 = .ok (.ireturn, 1) := by decide +kernel
theorem dX10_lastAnswer_13 : decode cX10_lastAnswer 13 = .ok (.iconst 2, 1) := by decide +kernel
theorem dX10_lastAnswer_14 : decode cX10_lastAnswer 14 = .ok (.iload_n 1, 1) := by decide +kernel
theorem dX10_lastAnswer_15 : decode cX10_lastAnswer 15 = .ok (.imul, 1) := by decide +kernel
theorem dX10_lastAnswer_16 : decode cX10_lastAnswer 16 = .ok (.aload_n 0, 1) := by decide +kernel
theorem dX10_lastAnswer_17 : decode cX10_lastAnswer 17 = .ok (.getfield 25, 3) := by decide +kernel
theorem dX10_lastAnswer_20 : decode cX10_lastAnswer 20 = .ok (.iconst 0, 1) := by decide +kernel
theorem dX10_lastAnswer_21 : decode cX10_lastAnswer 21 = .ok (.iaload, 1) := by decide +kernel
theorem dX10_lastAnswer_22 : decode cX10_lastAnswer 22 = .ok (.iadd, 1) := by decide +kernel
theorem dX10_lastAnswer_23 : decode cX10_lastAnswer 23 = .ok (.istore_n 2, 1) := by decide +kernel
theorem dX10_lastAnswer_24 : decode cX10_lastAnswer 24 = .ok (.iconst 0, 1) := by decide +kernel
theorem dX10_lastAnswer_25 : decode cX10_lastAnswer 25 = .ok (.istore_n 3, 1) := by decide +kernel
theorem dX10_lastAnswer_26 : decode cX10_lastAnswer 26 = .ok (.iload_n 3, 1) := by decide +kernel
theorem dX10_lastAnswer_27 : decode cX10_lastAnswer 27 = .ok (.bipush 16, 2) := by decide +kernel
theorem dX10_lastAnswer_29 : decode cX10_lastAnswer 29 = .ok (.if_icmp .ge 22, 3) := by decide +kernel
theorem dX10_lastAnswer_32 : decode cX10_lastAnswer 32 = .ok (.aload_n 0, 1) := by decide +kernel
theorem dX10_lastAnswer_33 : decode cX10_lastAnswer 33 = .ok (.iconst 0, 1) := by decide +kernel
theorem dX10_lastAnswer_34 : decode cX10_lastAnswer 34 = .ok (.iload_n 2, 1) := by decide +kernel
theorem dX10_lastAnswer_35 : decode cX10_lastAnswer 35 = .ok (.iload_n 1, 1) := by decide +kernel
theorem dX10_lastAnswer_36 : decode cX10_lastAnswer 36 = .ok (.invokevirtual 52, 3) := by decide +kernel
theorem dX10_lastAnswer_39 : decode cX10_lastAnswer 39 = .ok (.ifCond .ne 12, 3) := by decide +kernel
theorem dX10_lastAnswer_42 : decode cX10_lastAnswer 42 = .ok (.iinc 2 1, 3) := by decide +kernel
theorem dX10_lastAnswer_45 : decode cX10_lastAnswer 45 = .ok (.iinc 3 1, 3) := by decide +kernel
theorem dX10_lastAnswer_48 : decode cX10_lastAnswer 48 = .ok (.goto (-22), 3) := by decide +kernel
theorem dX10_lastAnswer_51 : decode cX10_lastAnswer 51 = .ok (.iload_n 2, 1) := by decide +kernel
theorem dX10_lastAnswer_52 : decode cX10_lastAnswer 52 = .ok (.ireturn, 1) := by decide +kernel
theorem dX10_gatherThinks_0 : decode cX10_gatherThinks 0 = .ok (.aload_n 0, 1) := by decide +kernel
theorem dX10_gatherThinks_1 : decode cX10_gatherThinks 1 = .ok (.iconst 0, 1) := by decide +kernel
theorem dX10_gatherThinks_2 : decode cX10_gatherThinks 2 = .ok (.putfield 22, 3) := by decide +kernel
theorem dX10_gatherThinks_5 : decode cX10_gatherThinks 5 = .ok (.iconst 0, 1) := by decide +kernel
theorem dX10_gatherThinks_6 : decode cX10_gatherThinks 6 = .ok (.istore_n 1, 1) := by decide +kernel
theorem dX10_gatherThinks_7 : decode cX10_gatherThinks 7 = .ok (.iload_n 1, 1) := by decide +kernel
theorem dX10_gatherThinks_8 : decode cX10_gatherThinks 8 = .ok (.aload_n 0, 1) := by decide +kernel
theorem dX10_gatherThinks_9 : decode cX10_gatherThinks 9 = .ok (.getfield 15, 3) := by decide +kernel
theorem dX10_gatherThinks_12 : decode cX10_gatherThinks 12 = .ok (.if_icmp .ge 95, 3) := by decide +kernel
theorem dX10_gatherThinks_15 : decode cX10_gatherThinks 15 = .ok (.aload_n 0, 1) := by decide +kernel
theorem dX10_gatherThinks_16 : decode cX10_gatherThinks 16 = .ok (.getfield 22, 3) := by decide +kernel
theorem dX10_gatherThinks_19 : decode cX10_gatherThinks 19 = .ok (.iconst 5, 1) := by decide +kernel
theorem dX10_gatherThinks_20 : decode cX10_gatherThinks 20 = .ok (.if_icmp .ge 87, 3) := by decide +kernel
theorem dX10_gatherThinks_23 : decode cX10_gatherThinks 23 = .ok (.aload_n 0, 1) := by decide +kernel
theorem dX10_gatherThinks_24 : decode cX10_gatherThinks 24 = .ok (.getfield 18, 3) := by decide +kernel
theorem dX10_gatherThinks_27 : decode cX10_gatherThinks 27 = .ok (.iload_n 1, 1) := by decide +kernel
theorem dX10_gatherThinks_28 : decode cX10_gatherThinks 28 = .ok (.iaload, 1) := by decide +kernel
theorem dX10_gatherThinks_29 : decode cX10_gatherThinks 29 = .ok (.istore_n 2, 1) := by decide +kernel
theorem dX10_gatherThinks_30 : decode cX10_gatherThinks 30 = .ok (.iload_n 2, 1) := by decide +kernel
theorem dX10_gatherThinks_31 : decode cX10_gatherThinks 31 = .ok (.iconst 0, 1) := by decide +kernel
theorem dX10_gatherThinks_32 : decode cX10_gatherThinks 32 = .ok (.bipush 20, 2) := by decide +kernel
theorem dX10_gatherThinks_34 : decode cX10_gatherThinks 34 = .ok (.invokestatic 56, 3) := by decide +kernel
theorem dX10_gatherThinks_37 : decode cX10_gatherThinks 37 = .ok (.ifCond .eq 6, 3) := by decide +kernel
theorem dX10_gatherThinks_40 : decode cX10_gatherThinks 40 = .ok (.goto 61, 3) := by decide +kernel
theorem dX10_gatherThinks_43 : decode cX10_gatherThinks 43 = .ok (.aload_n 0, 1) := by decide +kernel
theorem dX10_gatherThinks_44 : decode cX10_gatherThinks 44 = .ok (.getfield 22, 3) := by decide +kernel
theorem dX10_gatherThinks_47 : decode cX10_gatherThinks 47 = .ok (.istore_n 3, 1) := by decide +kernel
theorem dX10_gatherThinks_48 : decode cX10_gatherThinks 48 = .ok (.iload_n 3, 1) := by decide +kernel
theorem dX10_gatherThinks_49 : decode cX10_gatherThinks 49 = .ok (.ifCond .le 35, 3) := by decide +kernel
theorem dX10_gatherThinks_52 : decode cX10_gatherThinks 52 = .ok (.aload_n 0, 1) := by decide +kernel
theorem dX10_gatherThinks_53 : decode cX10_gatherThinks 53 = .ok (.getfield 25, 3) := by decide +kernel
theorem dX10_gatherThinks_56 : decode cX10_gatherThinks 56 = .ok (.iload_n 3, 1) := by decide +kernel
theorem dX10_gatherThinks_57 : decode cX10_gatherThinks 57 = .ok (.iconst 1, 1) := by decide +kernel
theorem dX10_gatherThinks_58 : decode cX10_gatherThinks 58 = .ok (.isub, 1) := by decide +kernel
theorem dX10_gatherThinks_59 : decode cX10_gatherThinks 59 = .ok (.iaload, 1) := by decide +kernel
theorem dX10_gatherThinks_60 : decode cX10_gatherThinks 60 = .ok (.iload_n 2, 1) := by decide +kernel
theorem dX10_gatherThinks_61 : decode cX10_gatherThinks 61 = .ok (.if_icmp .ge 23, 3) := by decide +kernel
theorem dX10_gatherThinks_64 : decode cX10_gatherThinks 64 = .ok (.aload_n 0, 1) := by decide +kernel
theorem dX10_gatherThinks_65 : decode cX10_gatherThinks 65 = .ok (.getfield 25, 3) := by decide +kernel
theorem dX10_gatherThinks_68 : decode cX10_gatherThinks 68 = .ok (.iload_n 3, 1) := by decide +kernel
theorem dX10_gatherThinks_69 : decode cX10_gatherThinks 69 = .ok (.aload_n 0, 1) := by decide +kernel
theorem dX10_gatherThinks_70 : decode cX10_gatherThinks 70 = .ok (.getfield 25, 3) := by decide +kernel
theorem dX10_gatherThinks_73 : decode cX10_gatherThinks 73 = .ok (.iload_n 3, 1) := by decide +kernel
theorem dX10_gatherThinks_74 : decode cX10_gatherThinks 74 = .ok (.iconst 1, 1) := by decide +kernel
theorem dX10_gatherThinks_75 : decode cX10_gatherThinks 75 = .ok (.isub, 1) := by decide +kernel
theorem dX10_gatherThinks_76 : decode cX10_gatherThinks 76 = .ok (.iaload, 1) := by decide +kernel
theorem dX10_gatherThinks_77 : decode cX10_gatherThinks 77 = .ok (.iastore, 1) := by decide +kernel
theorem dX10_gatherThinks_78 : decode cX10_gatherThinks 78 = .ok (.iinc 3 (-1), 3) := by decide +kernel
theorem dX10_gatherThinks_81 : decode cX10_gatherThinks 81 = .ok (.goto (-33), 3) := by decide +kernel
theorem dX10_gatherThinks_84 : decode cX10_gatherThinks 84 = .ok (.aload_n 0, 1) := by decide +kernel
theorem dX10_gatherThinks_85 : decode cX10_gatherThinks 85 = .ok (.getfield 25, 3) := by decide +kernel
theorem dX10_gatherThinks_88 : decode cX10_gatherThinks 88 = .ok (.iload_n 3, 1) := by decide +kernel
theorem dX10_gatherThinks_89 : decode cX10_gatherThinks 89 = .ok (.iload_n 2, 1) := by decide +kernel
theorem dX10_gatherThinks_90 : decode cX10_gatherThinks 90 = .ok (.iastore, 1) := by decide +kernel
theorem dX10_gatherThinks_91 : decode cX10_gatherThinks 91 = .ok (.aload_n 0, 1) := by decide +kernel
theorem dX10_gatherThinks_92 : decode cX10_gatherThinks 92 = .ok (.dup, 1) := by decide +kernel
theorem dX10_gatherThinks_93 : decode cX10_gatherThinks 93 = .ok (.getfield 22, 3) := by decide +kernel
theorem dX10_gatherThinks_96 : decode cX10_gatherThinks 96 = .ok (.iconst 1, 1) := by decide +kernel
theorem dX10_gatherThinks_97 : decode cX10_gatherThinks 97 = .ok (.iadd, 1) := by decide +kernel
theorem dX10_gatherThinks_98 : decode cX10_gatherThinks 98 = .ok (.putfield 22, 3) := by decide +kernel
theorem dX10_gatherThinks_101 : decode cX10_gatherThinks 101 = .ok (.iinc 1 1, 3) := by decide +kernel
theorem dX10_gatherThinks_104 : decode cX10_gatherThinks 104 = .ok (.goto (-97), 3) := by decide +kernel
theorem dX10_gatherThinks_107 : decode cX10_gatherThinks 107 = .ok (.return_, 1) := by decide +kernel
theorem dX10_isPlaced_0 : decode cX10_isPlaced 0 = .ok (.iload_n 1, 1) := by decide +kernel
theorem dX10_isPlaced_1 : decode cX10_isPlaced 1 = .ok (.aload_n 0, 1) := by decide +kernel
theorem dX10_isPlaced_2 : decode cX10_isPlaced 2 = .ok (.getfield 22, 3) := by decide +kernel
theorem dX10_isPlaced_5 : decode cX10_isPlaced 5 = .ok (.if_icmp .ge 8, 3) := by decide +kernel
theorem dX10_isPlaced_8 : decode cX10_isPlaced 8 = .ok (.iload_n 1, 1) := by decide +kernel
theorem dX10_isPlaced_9 : decode cX10_isPlaced 9 = .ok (.iconst 5, 1) := by decide +kernel
theorem dX10_isPlaced_10 : decode cX10_isPlaced 10 = .ok (.if_icmp .lt 5, 3) := by decide +kernel
theorem dX10_isPlaced_13 : decode cX10_isPlaced 13 = .ok (.iconst 1, 1) := by decide +kernel
theorem dX10_isPlaced_14 : decode cX10_isPlaced 14 = .ok (.ireturn, 1) := by decide +kernel
theorem dX10_isPlaced_15 : decode cX10_isPlaced 15 = .ok (.iconst 2, 1) := by decide +kernel
theorem dX10_isPlaced_16 : decode cX10_isPlaced 16 = .ok (.iload_n 3, 1) := by decide +kernel
theorem dX10_isPlaced_17 : decode cX10_isPlaced 17 = .ok (.imul, 1) := by decide +kernel
theorem dX10_isPlaced_18 : decode cX10_isPlaced 18 = .ok (.aload_n 0, 1) := by decide +kernel
theorem dX10_isPlaced_19 : decode cX10_isPlaced 19 = .ok (.getfield 25, 3) := by decide +kernel
theorem dX10_isPlaced_22 : decode cX10_isPlaced 22 = .ok (.iload_n 1, 1) := by decide +kernel
theorem dX10_isPlaced_23 : decode cX10_isPlaced 23 = .ok (.iaload, 1) := by decide +kernel
theorem dX10_isPlaced_24 : decode cX10_isPlaced 24 = .ok (.iadd, 1) := by decide +kernel
theorem dX10_isPlaced_25 : decode cX10_isPlaced 25 = .ok (.istore 4, 2) := by decide +kernel
theorem dX10_isPlaced_27 : decode cX10_isPlaced 27 = .ok (.iconst 0, 1) := by decide +kernel
theorem dX10_isPlaced_28 : decode cX10_isPlaced 28 = .ok (.istore 5, 2) := by decide +kernel
theorem dX10_isPlaced_30 : decode cX10_isPlaced 30 = .ok (.iload 5, 2) := by decide +kernel
theorem dX10_isPlaced_32 : decode cX10_isPlaced 32 = .ok (.iload_n 2, 1) := by decide +kernel
theorem dX10_isPlaced_33 : decode cX10_isPlaced 33 = .ok (.iload 4, 2) := by decide +kernel
theorem dX10_isPlaced_35 : decode cX10_isPlaced 35 = .ok (.isub, 1) := by decide +kernel
theorem dX10_isPlaced_36 : decode cX10_isPlaced 36 = .ok (.if_icmp .gt 60, 3) := by decide +kernel
theorem dX10_isPlaced_39 : decode cX10_isPlaced 39 = .ok (.aload_n 0, 1) := by decide +kernel
theorem dX10_isPlaced_40 : decode cX10_isPlaced 40 = .ok (.iload_n 1, 1) := by decide +kernel
theorem dX10_isPlaced_41 : decode cX10_isPlaced 41 = .ok (.iload 5, 2) := by decide +kernel
theorem dX10_isPlaced_43 : decode cX10_isPlaced 43 = .ok (.iload 5, 2) := by decide +kernel
theorem dX10_isPlaced_45 : decode cX10_isPlaced 45 = .ok (.iload 4, 2) := by decide +kernel
theorem dX10_isPlaced_47 : decode cX10_isPlaced 47 = .ok (.iadd, 1) := by decide +kernel
theorem dX10_isPlaced_48 : decode cX10_isPlaced 48 = .ok (.invokevirtual 59, 3) := by decide +kernel
theorem dX10_isPlaced_51 : decode cX10_isPlaced 51 = .ok (.ifCond .ne 6, 3) := by decide +kernel
theorem dX10_isPlaced_54 : decode cX10_isPlaced 54 = .ok (.goto 36, 3) := by decide +kernel
theorem dX10_isPlaced_57 : decode cX10_isPlaced 57 = .ok (.aload_n 0, 1) := by decide +kernel
theorem dX10_isPlaced_58 : decode cX10_isPlaced 58 = .ok (.getfield 28, 3) := by decide +kernel
theorem dX10_isPlaced_61 : decode cX10_isPlaced 61 = .ok (.iload_n 1, 1) := by decide +kernel
theorem dX10_isPlaced_62 : decode cX10_isPlaced 62 = .ok (.iload 5, 2) := by decide +kernel
theorem dX10_isPlaced_64 : decode cX10_isPlaced 64 = .ok (.iastore, 1) := by decide +kernel
theorem dX10_isPlaced_65 : decode cX10_isPlaced 65 = .ok (.aload_n 0, 1) := by decide +kernel
theorem dX10_isPlaced_66 : decode cX10_isPlaced 66 = .ok (.getfield 31, 3) := by decide +kernel
theorem dX10_isPlaced_69 : decode cX10_isPlaced 69 = .ok (.iload_n 1, 1) := by decide +kernel
theorem dX10_isPlaced_70 : decode cX10_isPlaced 70 = .ok (.iload 5, 2) := by decide +kernel
theorem dX10_isPlaced_72 : decode cX10_isPlaced 72 = .ok (.iload 4, 2) := by decide +kernel
theorem dX10_isPlaced_74 : decode cX10_isPlaced 74 = .ok (.iadd, 1) := by decide +kernel
theorem dX10_isPlaced_75 : decode cX10_isPlaced 75 = .ok (.iastore, 1) := by decide +kernel
theorem dX10_isPlaced_76 : decode cX10_isPlaced 76 = .ok (.aload_n 0, 1) := by decide +kernel
theorem dX10_isPlaced_77 : decode cX10_isPlaced 77 = .ok (.iload_n 1, 1) := by decide +kernel
theorem dX10_isPlaced_78 : decode cX10_isPlaced 78 = .ok (.iconst 1, 1) := by decide +kernel
theorem dX10_isPlaced_79 : decode cX10_isPlaced 79 = .ok (.iadd, 1) := by decide +kernel
theorem dX10_isPlaced_80 : decode cX10_isPlaced 80 = .ok (.iload_n 2, 1) := by decide +kernel
theorem dX10_isPlaced_81 : decode cX10_isPlaced 81 = .ok (.iload_n 3, 1) := by decide +kernel
theorem dX10_isPlaced_82 : decode cX10_isPlaced 82 = .ok (.invokevirtual 52, 3) := by decide +kernel
theorem dX10_isPlaced_85 : decode cX10_isPlaced 85 = .ok (.ifCond .eq 5, 3) := by decide +kernel
theorem dX10_isPlaced_88 : decode cX10_isPlaced 88 = .ok (.iconst 1, 1) := by decide +kernel
theorem dX10_isPlaced_89 : decode cX10_isPlaced 89 = .ok (.ireturn, 1) := by decide +kernel
theorem dX10_isPlaced_90 : decode cX10_isPlaced 90 = .ok (.iinc 5 1, 3) := by decide +kernel
theorem dX10_isPlaced_93 : decode cX10_isPlaced 93 = .ok (.goto (-63), 3) := by decide +kernel
theorem dX10_isPlaced_96 : decode cX10_isPlaced 96 = .ok (.iconst 0, 1) := by decide +kernel
theorem dX10_isPlaced_97 : decode cX10_isPlaced 97 = .ok (.ireturn, 1) := by decide +kernel
theorem dX10_isFree_0 : decode cX10_isFree 0 = .ok (.iconst 0, 1) := by decide +kernel
theorem dX10_isFree_1 : decode cX10_isFree 1 = .ok (.istore 4, 2) := by decide +kernel
theorem dX10_isFree_3 : decode cX10_isFree 3 = .ok (.iload 4, 2) := by decide +kernel
theorem dX10_isFree_5 : decode cX10_isFree 5 = .ok (.iload_n 1, 1) := by decide +kernel
theorem dX10_isFree_6 : decode cX10_isFree 6 = .ok (.if_icmp .ge 55, 3) := by decide +kernel
theorem dX10_isFree_9 : decode cX10_isFree 9 = .ok (.aload_n 0, 1) := by decide +kernel
theorem dX10_isFree_10 : decode cX10_isFree 10 = .ok (.getfield 28, 3) := by decide +kernel
theorem dX10_isFree_13 : decode cX10_isFree 13 = .ok (.iload 4, 2) := by decide +kernel
theorem dX10_isFree_15 : decode cX10_isFree 15 = .ok (.iaload, 1) := by decide +kernel
theorem dX10_isFree_16 : decode cX10_isFree 16 = .ok (.iload_n 2, 1) := by decide +kernel
theorem dX10_isFree_17 : decode cX10_isFree 17 = .ok (.if_icmp .eq 36, 3) := by decide +kernel
theorem dX10_isFree_20 : decode cX10_isFree 20 = .ok (.aload_n 0, 1) := by decide +kernel
theorem dX10_isFree_21 : decode cX10_isFree 21 = .ok (.getfield 28, 3) := by decide +kernel
theorem dX10_isFree_24 : decode cX10_isFree 24 = .ok (.iload 4, 2) := by decide +kernel
theorem dX10_isFree_26 : decode cX10_isFree 26 = .ok (.iaload, 1) := by decide +kernel
theorem dX10_isFree_27 : decode cX10_isFree 27 = .ok (.iload_n 3, 1) := by decide +kernel
theorem dX10_isFree_28 : decode cX10_isFree 28 = .ok (.if_icmp .eq 25, 3) := by decide +kernel
theorem dX10_isFree_31 : decode cX10_isFree 31 = .ok (.aload_n 0, 1) := by decide +kernel
theorem dX10_isFree_32 : decode cX10_isFree 32 = .ok (.getfield 31, 3) := by decide +kernel
theorem dX10_isFree_35 : decode cX10_isFree 35 = .ok (.iload 4, 2) := by decide +kernel
theorem dX10_isFree_37 : decode cX10_isFree 37 = .ok (.iaload, 1) := by decide +kernel
theorem dX10_isFree_38 : decode cX10_isFree 38 = .ok (.iload_n 2, 1) := by decide +kernel
theorem dX10_isFree_39 : decode cX10_isFree 39 = .ok (.if_icmp .eq 14, 3) := by decide +kernel
theorem dX10_isFree_42 : decode cX10_isFree 42 = .ok (.aload_n 0, 1) := by decide +kernel
theorem dX10_isFree_43 : decode cX10_isFree 43 = .ok (.getfield 31, 3) := by decide +kernel
theorem dX10_isFree_46 : decode cX10_isFree 46 = .ok (.iload 4, 2) := by decide +kernel
theorem dX10_isFree_48 : decode cX10_isFree 48 = .ok (.iaload, 1) := by decide +kernel
theorem dX10_isFree_49 : decode cX10_isFree 49 = .ok (.iload_n 3, 1) := by decide +kernel
theorem dX10_isFree_50 : decode cX10_isFree 50 = .ok (.if_icmp .ne 5, 3) := by decide +kernel
theorem dX10_isFree_53 : decode cX10_isFree 53 = .ok (.iconst 0, 1) := by decide +kernel
theorem dX10_isFree_54 : decode cX10_isFree 54 = .ok (.ireturn, 1) := by decide +kernel
theorem dX10_isFree_55 : decode cX10_isFree 55 = .ok (.iinc 4 1, 3) := by decide +kernel
theorem dX10_isFree_58 : decode cX10_isFree 58 = .ok (.goto (-55), 3) := by decide +kernel
theorem dX10_isFree_61 : decode cX10_isFree 61 = .ok (.iconst 1, 1) := by decide +kernel
theorem dX10_isFree_62 : decode cX10_isFree 62 = .ok (.ireturn, 1) := by decide +kernel
theorem dX10_leastFit_0 : decode cX10_leastFit 0 = .ok (.aload_n 0, 1) := by decide +kernel
theorem dX10_leastFit_1 : decode cX10_leastFit 1 = .ok (.invokevirtual 62, 3) := by decide +kernel
theorem dX10_leastFit_4 : decode cX10_leastFit 4 = .ok (.iconst 0, 1) := by decide +kernel
theorem dX10_leastFit_5 : decode cX10_leastFit 5 = .ok (.istore_n 1, 1) := by decide +kernel
theorem dX10_leastFit_6 : decode cX10_leastFit 6 = .ok (.iload_n 1, 1) := by decide +kernel
theorem dX10_leastFit_7 : decode cX10_leastFit 7 = .ok (.bipush 40, 2) := by decide +kernel
theorem dX10_leastFit_9 : decode cX10_leastFit 9 = .ok (.if_icmp .gt 19, 3) := by decide +kernel
theorem dX10_leastFit_12 : decode cX10_leastFit 12 = .ok (.aload_n 0, 1) := by decide +kernel
theorem dX10_leastFit_13 : decode cX10_leastFit 13 = .ok (.iload_n 1, 1) := by decide +kernel
theorem dX10_leastFit_14 : decode cX10_leastFit 14 = .ok (.invokevirtual 65, 3) := by decide +kernel
theorem dX10_leastFit_17 : decode cX10_leastFit 17 = .ok (.ifCond .eq 5, 3) := by decide +kernel
theorem dX10_leastFit_20 : decode cX10_leastFit 20 = .ok (.iload_n 1, 1) := by decide +kernel
theorem dX10_leastFit_21 : decode cX10_leastFit 21 = .ok (.ireturn, 1) := by decide +kernel
theorem dX10_leastFit_22 : decode cX10_leastFit 22 = .ok (.iinc 1 1, 3) := by decide +kernel
theorem dX10_leastFit_25 : decode cX10_leastFit 25 = .ok (.goto (-19), 3) := by decide +kernel
theorem dX10_leastFit_28 : decode cX10_leastFit 28 = .ok (.iconst (-1), 1) := by decide +kernel
theorem dX10_leastFit_29 : decode cX10_leastFit 29 = .ok (.ireturn, 1) := by decide +kernel
theorem dX10_allFits_0 : decode cX10_allFits 0 = .ok (.aload_n 0, 1) := by decide +kernel
theorem dX10_allFits_1 : decode cX10_allFits 1 = .ok (.invokevirtual 62, 3) := by decide +kernel
theorem dX10_allFits_4 : decode cX10_allFits 4 = .ok (.iconst 0, 1) := by decide +kernel
theorem dX10_allFits_5 : decode cX10_allFits 5 = .ok (.istore_n 1, 1) := by decide +kernel
theorem dX10_allFits_6 : decode cX10_allFits 6 = .ok (.iconst 0, 1) := by decide +kernel
theorem dX10_allFits_7 : decode cX10_allFits 7 = .ok (.istore_n 2, 1) := by decide +kernel
theorem dX10_allFits_8 : decode cX10_allFits 8 = .ok (.iload_n 2, 1) := by decide +kernel
theorem dX10_allFits_9 : decode cX10_allFits 9 = .ok (.bipush 40, 2) := by decide +kernel
theorem dX10_allFits_11 : decode cX10_allFits 11 = .ok (.if_icmp .gt 20, 3) := by decide +kernel
theorem dX10_allFits_14 : decode cX10_allFits 14 = .ok (.aload_n 0, 1) := by decide +kernel
theorem dX10_allFits_15 : decode cX10_allFits 15 = .ok (.iload_n 2, 1) := by decide +kernel
theorem dX10_allFits_16 : decode cX10_allFits 16 = .ok (.invokevirtual 65, 3) := by decide +kernel
theorem dX10_allFits_19 : decode cX10_allFits 19 = .ok (.ifCond .eq 6, 3) := by decide +kernel
theorem dX10_allFits_22 : decode cX10_allFits 22 = .ok (.iinc 1 1, 3) := by decide +kernel
theorem dX10_allFits_25 : decode cX10_allFits 25 = .ok (.iinc 2 1, 3) := by decide +kernel
theorem dX10_allFits_28 : decode cX10_allFits 28 = .ok (.goto (-20), 3) := by decide +kernel
theorem dX10_allFits_31 : decode cX10_allFits 31 = .ok (.iload_n 1, 1) := by decide +kernel
theorem dX10_allFits_32 : decode cX10_allFits 32 = .ok (.ireturn, 1) := by decide +kernel
theorem dX10_gatherLines_0 : decode cX10_gatherLines 0 = .ok (.aload_n 0, 1) := by decide +kernel
theorem dX10_gatherLines_1 : decode cX10_gatherLines 1 = .ok (.iconst 0, 1) := by decide +kernel
theorem dX10_gatherLines_2 : decode cX10_gatherLines 2 = .ok (.putfield 34, 3) := by decide +kernel
theorem dX10_gatherLines_5 : decode cX10_gatherLines 5 = .ok (.iconst 0, 1) := by decide +kernel
theorem dX10_gatherLines_6 : decode cX10_gatherLines 6 = .ok (.istore_n 1, 1) := by decide +kernel
theorem dX10_gatherLines_7 : decode cX10_gatherLines 7 = .ok (.iload_n 1, 1) := by decide +kernel
theorem dX10_gatherLines_8 : decode cX10_gatherLines 8 = .ok (.iconst 1, 1) := by decide +kernel
theorem dX10_gatherLines_9 : decode cX10_gatherLines 9 = .ok (.iadd, 1) := by decide +kernel
theorem dX10_gatherLines_10 : decode cX10_gatherLines 10 = .ok (.aload_n 0, 1) := by decide +kernel
theorem dX10_gatherLines_11 : decode cX10_gatherLines 11 = .ok (.getfield 15, 3) := by decide +kernel
theorem dX10_gatherLines_14 : decode cX10_gatherLines 14 = .ok (.if_icmp .ge 95, 3) := by decide +kernel
theorem dX10_gatherLines_17 : decode cX10_gatherLines 17 = .ok (.aload_n 0, 1) := by decide +kernel
theorem dX10_gatherLines_18 : decode cX10_gatherLines 18 = .ok (.getfield 34, 3) := by decide +kernel
theorem dX10_gatherLines_21 : decode cX10_gatherLines 21 = .ok (.bipush 12, 2) := by decide +kernel
theorem dX10_gatherLines_23 : decode cX10_gatherLines 23 = .ok (.if_icmp .ge 86, 3) := by decide +kernel
theorem dX10_gatherLines_26 : decode cX10_gatherLines 26 = .ok (.aload_n 0, 1) := by decide +kernel
theorem dX10_gatherLines_27 : decode cX10_gatherLines 27 = .ok (.getfield 18, 3) := by decide +kernel
theorem dX10_gatherLines_30 : decode cX10_gatherLines 30 = .ok (.iload_n 1, 1) := by decide +kernel
theorem dX10_gatherLines_31 : decode cX10_gatherLines 31 = .ok (.iaload, 1) := by decide +kernel
theorem dX10_gatherLines_32 : decode cX10_gatherLines 32 = .ok (.iconst 0, 1) := by decide +kernel
theorem dX10_gatherLines_33 : decode cX10_gatherLines 33 = .ok (.iconst 1, 1) := by decide +kernel
theorem dX10_gatherLines_34 : decode cX10_gatherLines 34 = .ok (.invokestatic 56, 3) := by decide +kernel
theorem dX10_gatherLines_37 : decode cX10_gatherLines 37 = .ok (.ifCond .ne 66, 3) := by decide +kernel
theorem dX10_gatherLines_40 : decode cX10_gatherLines 40 = .ok (.aload_n 0, 1) := by decide +kernel
theorem dX10_gatherLines_41 : decode cX10_gatherLines 41 = .ok (.getfield 18, 3) := by decide +kernel
theorem dX10_gatherLines_44 : decode cX10_gatherLines 44 = .ok (.iload_n 1, 1) := by decide +kernel
theorem dX10_gatherLines_45 : decode cX10_gatherLines 45 = .ok (.iconst 1, 1) := by decide +kernel
theorem dX10_gatherLines_46 : decode cX10_gatherLines 46 = .ok (.iadd, 1) := by decide +kernel
theorem dX10_gatherLines_47 : decode cX10_gatherLines 47 = .ok (.iaload, 1) := by decide +kernel
theorem dX10_gatherLines_48 : decode cX10_gatherLines 48 = .ok (.iconst 0, 1) := by decide +kernel
theorem dX10_gatherLines_49 : decode cX10_gatherLines 49 = .ok (.sipush 999, 3) := by decide +kernel
theorem dX10_gatherLines_52 : decode cX10_gatherLines 52 = .ok (.invokestatic 56, 3) := by decide +kernel
theorem dX10_gatherLines_55 : decode cX10_gatherLines 55 = .ok (.ifCond .eq 6, 3) := by decide +kernel
theorem dX10_gatherLines_58 : decode cX10_gatherLines 58 = .ok (.goto 45, 3) := by decide +kernel
theorem dX10_gatherLines_61 : decode cX10_gatherLines 61 = .ok (.aload_n 0, 1) := by decide +kernel
theorem dX10_gatherLines_62 : decode cX10_gatherLines 62 = .ok (.getfield 37, 3) := by decide +kernel
theorem dX10_gatherLines_65 : decode cX10_gatherLines 65 = .ok (.aload_n 0, 1) := by decide +kernel
theorem dX10_gatherLines_66 : decode cX10_gatherLines 66 = .ok (.getfield 34, 3) := by decide +kernel
theorem dX10_gatherLines_69 : decode cX10_gatherLines 69 = .ok (.aload_n 0, 1) := by decide +kernel
theorem dX10_gatherLines_70 : decode cX10_gatherLines 70 = .ok (.getfield 18, 3) := by decide +kernel
theorem dX10_gatherLines_73 : decode cX10_gatherLines 73 = .ok (.iload_n 1, 1) := by decide +kernel
theorem dX10_gatherLines_74 : decode cX10_gatherLines 74 = .ok (.iaload, 1) := by decide +kernel
theorem dX10_gatherLines_75 : decode cX10_gatherLines 75 = .ok (.iastore, 1) := by decide +kernel
theorem dX10_gatherLines_76 : decode cX10_gatherLines 76 = .ok (.aload_n 0, 1) := by decide +kernel
theorem dX10_gatherLines_77 : decode cX10_gatherLines 77 = .ok (.getfield 40, 3) := by decide +kernel
theorem dX10_gatherLines_80 : decode cX10_gatherLines 80 = .ok (.aload_n 0, 1) := by decide +kernel
theorem dX10_gatherLines_81 : decode cX10_gatherLines 81 = .ok (.getfield 34, 3) := by decide +kernel
theorem dX10_gatherLines_84 : decode cX10_gatherLines 84 = .ok (.aload_n 0, 1) := by decide +kernel
theorem dX10_gatherLines_85 : decode cX10_gatherLines 85 = .ok (.getfield 18, 3) := by decide +kernel
theorem dX10_gatherLines_88 : decode cX10_gatherLines 88 = .ok (.iload_n 1, 1) := by decide +kernel
theorem dX10_gatherLines_89 : decode cX10_gatherLines 89 = .ok (.iconst 1, 1) := by decide +kernel
theorem dX10_gatherLines_90 : decode cX10_gatherLines 90 = .ok (.iadd, 1) := by decide +kernel
theorem dX10_gatherLines_91 : decode cX10_gatherLines 91 = .ok (.iaload, 1) := by decide +kernel
theorem dX10_gatherLines_92 : decode cX10_gatherLines 92 = .ok (.iastore, 1) := by decide +kernel
theorem dX10_gatherLines_93 : decode cX10_gatherLines 93 = .ok (.aload_n 0, 1) := by decide +kernel
theorem dX10_gatherLines_94 : decode cX10_gatherLines 94 = .ok (.dup, 1) := by decide +kernel
theorem dX10_gatherLines_95 : decode cX10_gatherLines 95 = .ok (.getfield 34, 3) := by decide +kernel
theorem dX10_gatherLines_98 : decode cX10_gatherLines 98 = .ok (.iconst 1, 1) := by decide +kernel
theorem dX10_gatherLines_99 : decode cX10_gatherLines 99 = .ok (.iadd, 1) := by decide +kernel
theorem dX10_gatherLines_100 : decode cX10_gatherLines 100 = .ok (.putfield 34, 3) := by decide +kernel
theorem dX10_gatherLines_103 : decode cX10_gatherLines 103 = .ok (.iinc 1 2, 3) := by decide +kernel
theorem dX10_gatherLines_106 : decode cX10_gatherLines 106 = .ok (.goto (-99), 3) := by decide +kernel
theorem dX10_gatherLines_109 : decode cX10_gatherLines 109 = .ok (.return_, 1) := by decide +kernel
theorem dX10_fitsGap_0 : decode cX10_fitsGap 0 = .ok (.iconst 0, 1) := by decide +kernel
theorem dX10_fitsGap_1 : decode cX10_fitsGap 1 = .ok (.istore_n 2, 1) := by decide +kernel
theorem dX10_fitsGap_2 : decode cX10_fitsGap 2 = .ok (.iload_n 2, 1) := by decide +kernel
theorem dX10_fitsGap_3 : decode cX10_fitsGap 3 = .ok (.aload_n 0, 1) := by decide +kernel
theorem dX10_fitsGap_4 : decode cX10_fitsGap 4 = .ok (.getfield 34, 3) := by decide +kernel
theorem dX10_fitsGap_7 : decode cX10_fitsGap 7 = .ok (.if_icmp .ge 58, 3) := by decide +kernel
theorem dX10_fitsGap_10 : decode cX10_fitsGap 10 = .ok (.iconst 0, 1) := by decide +kernel
theorem dX10_fitsGap_11 : decode cX10_fitsGap 11 = .ok (.istore_n 3, 1) := by decide +kernel
theorem dX10_fitsGap_12 : decode cX10_fitsGap 12 = .ok (.iload_n 3, 1) := by decide +kernel
theorem dX10_fitsGap_13 : decode cX10_fitsGap 13 = .ok (.iload_n 2, 1) := by decide +kernel
theorem dX10_fitsGap_14 : decode cX10_fitsGap 14 = .ok (.if_icmp .ge 45, 3) := by decide +kernel
theorem dX10_fitsGap_17 : decode cX10_fitsGap 17 = .ok (.aload_n 0, 1) := by decide +kernel
theorem dX10_fitsGap_18 : decode cX10_fitsGap 18 = .ok (.iconst 0, 1) := by decide +kernel
theorem dX10_fitsGap_19 : decode cX10_fitsGap 19 = .ok (.iload_n 2, 1) := by decide +kernel
theorem dX10_fitsGap_20 : decode cX10_fitsGap 20 = .ok (.iload_n 1, 1) := by decide +kernel
theorem dX10_fitsGap_21 : decode cX10_fitsGap 21 = .ok (.invokevirtual 69, 3) := by decide +kernel
theorem dX10_fitsGap_24 : decode cX10_fitsGap 24 = .ok (.aload_n 0, 1) := by decide +kernel
theorem dX10_fitsGap_25 : decode cX10_fitsGap 25 = .ok (.iconst 0, 1) := by decide +kernel
theorem dX10_fitsGap_26 : decode cX10_fitsGap 26 = .ok (.iload_n 3, 1) := by decide +kernel
theorem dX10_fitsGap_27 : decode cX10_fitsGap 27 = .ok (.iload_n 1, 1) := by decide +kernel
theorem dX10_fitsGap_28 : decode cX10_fitsGap 28 = .ok (.invokevirtual 69, 3) := by decide +kernel
theorem dX10_fitsGap_31 : decode cX10_fitsGap 31 = .ok (.if_icmp .eq 20, 3) := by decide +kernel
theorem dX10_fitsGap_34 : decode cX10_fitsGap 34 = .ok (.aload_n 0, 1) := by decide +kernel
theorem dX10_fitsGap_35 : decode cX10_fitsGap 35 = .ok (.iconst 1, 1) := by decide +kernel
theorem dX10_fitsGap_36 : decode cX10_fitsGap 36 = .ok (.iload_n 2, 1) := by decide +kernel
theorem dX10_fitsGap_37 : decode cX10_fitsGap 37 = .ok (.iload_n 1, 1) := by decide +kernel
theorem dX10_fitsGap_38 : decode cX10_fitsGap 38 = .ok (.invokevirtual 69, 3) := by decide +kernel
theorem dX10_fitsGap_41 : decode cX10_fitsGap 41 = .ok (.aload_n 0, 1) := by decide +kernel
theorem dX10_fitsGap_42 : decode cX10_fitsGap 42 = .ok (.iconst 1, 1) := by decide +kernel
theorem dX10_fitsGap_43 : decode cX10_fitsGap 43 = .ok (.iload_n 3, 1) := by decide +kernel
theorem dX10_fitsGap_44 : decode cX10_fitsGap 44 = .ok (.iload_n 1, 1) := by decide +kernel
theorem dX10_fitsGap_45 : decode cX10_fitsGap 45 = .ok (.invokevirtual 69, 3) := by decide +kernel
theorem dX10_fitsGap_48 : decode cX10_fitsGap 48 = .ok (.if_icmp .ne 5, 3) := by decide +kernel
theorem dX10_fitsGap_51 : decode cX10_fitsGap 51 = .ok (.iconst 0, 1) := by decide +kernel
theorem dX10_fitsGap_52 : decode cX10_fitsGap 52 = .ok (.ireturn, 1) := by decide +kernel
theorem dX10_fitsGap_53 : decode cX10_fitsGap 53 = .ok (.iinc 3 1, 3) := by decide +kernel
theorem dX10_fitsGap_56 : decode cX10_fitsGap 56 = .ok (.goto (-44), 3) := by decide +kernel
theorem dX10_fitsGap_59 : decode cX10_fitsGap 59 = .ok (.iinc 2 1, 3) := by decide +kernel
theorem dX10_fitsGap_62 : decode cX10_fitsGap 62 = .ok (.goto (-60), 3) := by decide +kernel
theorem dX10_fitsGap_65 : decode cX10_fitsGap 65 = .ok (.iconst 1, 1) := by decide +kernel
theorem dX10_fitsGap_66 : decode cX10_fitsGap 66 = .ok (.ireturn, 1) := by decide +kernel
theorem dX10_secondOn_0 : decode cX10_secondOn 0 = .ok (.aload_n 0, 1) := by decide +kernel
theorem dX10_secondOn_1 : decode cX10_secondOn 1 = .ok (.getfield 37, 3) := by decide +kernel
theorem dX10_secondOn_4 : decode cX10_secondOn 4 = .ok (.iload_n 2, 1) := by decide +kernel
theorem dX10_secondOn_5 : decode cX10_secondOn 5 = .ok (.iaload, 1) := by decide +kernel
theorem dX10_secondOn_6 : decode cX10_secondOn 6 = .ok (.iload_n 1, 1) := by decide +kernel
theorem dX10_secondOn_7 : decode cX10_secondOn 7 = .ok (.if_icmp .ne 12, 3) := by decide +kernel
theorem dX10_secondOn_10 : decode cX10_secondOn 10 = .ok (.aload_n 0, 1) := by decide +kernel
theorem dX10_secondOn_11 : decode cX10_secondOn 11 = .ok (.getfield 40, 3) := by decide +kernel
theorem dX10_secondOn_14 : decode cX10_secondOn 14 = .ok (.iload_n 2, 1) := by decide +kernel
theorem dX10_secondOn_15 : decode cX10_secondOn 15 = .ok (.iaload, 1) := by decide +kernel
theorem dX10_secondOn_16 : decode cX10_secondOn 16 = .ok (.goto 11, 3) := by decide +kernel
theorem dX10_secondOn_19 : decode cX10_secondOn 19 = .ok (.aload_n 0, 1) := by decide +kernel
theorem dX10_secondOn_20 : decode cX10_secondOn 20 = .ok (.getfield 40, 3) := by decide +kernel
theorem dX10_secondOn_23 : decode cX10_secondOn 23 = .ok (.iload_n 2, 1) := by decide +kernel
theorem dX10_secondOn_24 : decode cX10_secondOn 24 = .ok (.iaload, 1) := by decide +kernel
theorem dX10_secondOn_25 : decode cX10_secondOn 25 = .ok (.iload_n 3, 1) := by decide +kernel
theorem dX10_secondOn_26 : decode cX10_secondOn 26 = .ok (.iadd, 1) := by decide +kernel
theorem dX10_secondOn_27 : decode cX10_secondOn 27 = .ok (.ireturn, 1) := by decide +kernel
theorem dX10_bestDifference_0 : decode cX10_bestDifference 0 = .ok (.iconst 0, 1) := by decide +kernel
theorem dX10_bestDifference_1 : decode cX10_bestDifference 1 = .ok (.istore_n 1, 1) := by decide +kernel
theorem dX10_bestDifference_2 : decode cX10_bestDifference 2 = .ok (.iconst 0, 1) := by decide +kernel
theorem dX10_bestDifference_3 : decode cX10_bestDifference 3 = .ok (.istore_n 2, 1) := by decide +kernel
theorem dX10_bestDifference_4 : decode cX10_bestDifference 4 = .ok (.iconst 0, 1) := by decide +kernel
theorem dX10_bestDifference_5 : decode cX10_bestDifference 5 = .ok (.istore_n 3, 1) := by decide +kernel
theorem dX10_bestDifference_6 : decode cX10_bestDifference 6 = .ok (.iload_n 3, 1) := by decide +kernel
theorem dX10_bestDifference_7 : decode cX10_bestDifference 7 = .ok (.bipush 40, 2) := by decide +kernel
theorem dX10_bestDifference_9 : decode cX10_bestDifference 9 = .ok (.if_icmp .gt 27, 3) := by decide +kernel
theorem dX10_bestDifference_12 : decode cX10_bestDifference 12 = .ok (.aload_n 0, 1) := by decide +kernel
theorem dX10_bestDifference_13 : decode cX10_bestDifference 13 = .ok (.iload_n 3, 1) := by decide +kernel
theorem dX10_bestDifference_14 : decode cX10_bestDifference 14 = .ok (.invokevirtual 73, 3) := by decide +kernel
theorem dX10_bestDifference_17 : decode cX10_bestDifference 17 = .ok (.istore 4, 2) := by decide +kernel
theorem dX10_bestDifference_19 : decode cX10_bestDifference 19 = .ok (.iload 4, 2) := by decide +kernel
theorem dX10_bestDifference_21 : decode cX10_bestDifference 21 = .ok (.iload_n 2, 1) := by decide +kernel
theorem dX10_bestDifference_22 : decode cX10_bestDifference 22 = .ok (.if_icmp .le 8, 3) := by decide +kernel
theorem dX10_bestDifference_25 : decode cX10_bestDifference 25 = .ok (.iload 4, 2) := by decide +kernel
theorem dX10_bestDifference_27 : decode cX10_bestDifference 27 = .ok (.istore_n 2, 1) := by decide +kernel
theorem dX10_bestDifference_28 : decode cX10_bestDifference 28 = .ok (.iload_n 3, 1) := by decide +kernel
theorem dX10_bestDifference_29 : decode cX10_bestDifference 29 = .ok (.istore_n 1, 1) := by decide +kernel
theorem dX10_bestDifference_30 : decode cX10_bestDifference 30 = .ok (.iinc 3 1, 3) := by decide +kernel
theorem dX10_bestDifference_33 : decode cX10_bestDifference 33 = .ok (.goto (-27), 3) := by decide +kernel
theorem dX10_bestDifference_36 : decode cX10_bestDifference 36 = .ok (.iload_n 1, 1) := by decide +kernel
theorem dX10_bestDifference_37 : decode cX10_bestDifference 37 = .ok (.ireturn, 1) := by decide +kernel
theorem dX10_differing_0 : decode cX10_differing 0 = .ok (.iconst 0, 1) := by decide +kernel
theorem dX10_differing_1 : decode cX10_differing 1 = .ok (.istore_n 2, 1) := by decide +kernel
theorem dX10_differing_2 : decode cX10_differing 2 = .ok (.iconst 0, 1) := by decide +kernel
theorem dX10_differing_3 : decode cX10_differing 3 = .ok (.istore_n 3, 1) := by decide +kernel
theorem dX10_differing_4 : decode cX10_differing 4 = .ok (.iload_n 3, 1) := by decide +kernel
theorem dX10_differing_5 : decode cX10_differing 5 = .ok (.iconst 1, 1) := by decide +kernel
theorem dX10_differing_6 : decode cX10_differing 6 = .ok (.iadd, 1) := by decide +kernel
theorem dX10_differing_7 : decode cX10_differing 7 = .ok (.aload_n 0, 1) := by decide +kernel
theorem dX10_differing_8 : decode cX10_differing 8 = .ok (.getfield 15, 3) := by decide +kernel
theorem dX10_differing_11 : decode cX10_differing 11 = .ok (.if_icmp .ge 38, 3) := by decide +kernel
theorem dX10_differing_14 : decode cX10_differing 14 = .ok (.aload_n 0, 1) := by decide +kernel
theorem dX10_differing_15 : decode cX10_differing 15 = .ok (.getfield 18, 3) := by decide +kernel
theorem dX10_differing_18 : decode cX10_differing 18 = .ok (.iload_n 3, 1) := by decide +kernel
theorem dX10_differing_19 : decode cX10_differing 19 = .ok (.iaload, 1) := by decide +kernel
theorem dX10_differing_20 : decode cX10_differing 20 = .ok (.i2l, 1) := by decide +kernel
theorem dX10_differing_21 : decode cX10_differing 21 = .ok (.aload_n 0, 1) := by decide +kernel
theorem dX10_differing_22 : decode cX10_differing 22 = .ok (.getfield 18, 3) := by decide +kernel
theorem dX10_differing_25 : decode cX10_differing 25 = .ok (.iload_n 3, 1) := by decide +kernel
theorem dX10_differing_26 : decode cX10_differing 26 = .ok (.iconst 1, 1) := by decide +kernel
theorem dX10_differing_27 : decode cX10_differing 27 = .ok (.iadd, 1) := by decide +kernel
theorem dX10_differing_28 : decode cX10_differing 28 = .ok (.iaload, 1) := by decide +kernel
theorem dX10_differing_29 : decode cX10_differing 29 = .ok (.i2l, 1) := by decide +kernel
theorem dX10_differing_30 : decode cX10_differing 30 = .ok (.lsub, 1) := by decide +kernel
theorem dX10_differing_31 : decode cX10_differing 31 = .ok (.invokestatic 77, 3) := by decide +kernel
theorem dX10_differing_34 : decode cX10_differing 34 = .ok (.iload_n 1, 1) := by decide +kernel
theorem dX10_differing_35 : decode cX10_differing 35 = .ok (.i2l, 1) := by decide +kernel
theorem dX10_differing_36 : decode cX10_differing 36 = .ok (.lcmp, 1) := by decide +kernel
theorem dX10_differing_37 : decode cX10_differing 37 = .ok (.ifCond .ne 6, 3) := by decide +kernel
theorem dX10_differing_40 : decode cX10_differing 40 = .ok (.iinc 2 1, 3) := by decide +kernel
theorem dX10_differing_43 : decode cX10_differing 43 = .ok (.iinc 3 2, 3) := by decide +kernel
theorem dX10_differing_46 : decode cX10_differing 46 = .ok (.goto (-42), 3) := by decide +kernel
theorem dX10_differing_49 : decode cX10_differing 49 = .ok (.iload_n 2, 1) := by decide +kernel
theorem dX10_differing_50 : decode cX10_differing 50 = .ok (.ireturn, 1) := by decide +kernel
theorem dX10_fromFirstCliff_0 : decode cX10_fromFirstCliff 0 = .ok (.iconst 0, 1) := by decide +kernel
theorem dX10_fromFirstCliff_1 : decode cX10_fromFirstCliff 1 = .ok (.istore_n 2, 1) := by decide +kernel
theorem dX10_fromFirstCliff_2 : decode cX10_fromFirstCliff 2 = .ok (.iconst 0, 1) := by decide +kernel
theorem dX10_fromFirstCliff_3 : decode cX10_fromFirstCliff 3 = .ok (.istore_n 3, 1) := by decide +kernel
theorem dX10_fromFirstCliff_4 : decode cX10_fromFirstCliff 4 = .ok (.iload_n 3, 1) := by decide +kernel
theorem dX10_fromFirstCliff_5 : decode cX10_fromFirstCliff 5 = .ok (.iconst 1, 1) := by decide +kernel
theorem dX10_fromFirstCliff_6 : decode cX10_fromFirstCliff 6 = .ok (.iadd, 1) := by decide +kernel
