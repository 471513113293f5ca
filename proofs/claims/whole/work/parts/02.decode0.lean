theorem dX0_init_0 : decode cX0_init 0 = .ok (.aload_n 0, 1) := by decide +kernel
theorem dX0_init_1 : decode cX0_init 1 = .ok (.invokespecial 3, 3) := by decide +kernel
theorem dX0_init_4 : decode cX0_init 4 = .ok (.aload_n 0, 1) := by decide +kernel
theorem dX0_init_5 : decode cX0_init 5 = .ok (.bipush 7, 2) := by decide +kernel
theorem dX0_init_7 : decode cX0_init 7 = .ok (.newarray .int, 2) := by decide +kernel
theorem dX0_init_9 : decode cX0_init 9 = .ok (.putfield 9, 3) := by decide +kernel
theorem dX0_init_12 : decode cX0_init 12 = .ok (.aload_n 0, 1) := by decide +kernel
theorem dX0_init_13 : decode cX0_init 13 = .ok (.bipush 40, 2) := by decide +kernel
theorem dX0_init_15 : decode cX0_init 15 = .ok (.newarray .int, 2) := by decide +kernel
theorem dX0_init_17 : decode cX0_init 17 = .ok (.putfield 15, 3) := by decide +kernel
theorem dX0_init_20 : decode cX0_init 20 = .ok (.aload_n 0, 1) := by decide +kernel
theorem dX0_init_21 : decode cX0_init 21 = .ok (.bipush 40, 2) := by decide +kernel
theorem dX0_init_23 : decode cX0_init 23 = .ok (.newarray .int, 2) := by decide +kernel
theorem dX0_init_25 : decode cX0_init 25 = .ok (.putfield 18, 3) := by decide +kernel
theorem dX0_init_28 : decode cX0_init 28 = .ok (.aload_n 0, 1) := by decide +kernel
theorem dX0_init_29 : decode cX0_init 29 = .ok (.bipush 40, 2) := by decide +kernel
theorem dX0_init_31 : decode cX0_init 31 = .ok (.newarray .int, 2) := by decide +kernel
theorem dX0_init_33 : decode cX0_init 33 = .ok (.putfield 21, 3) := by decide +kernel
theorem dX0_init_36 : decode cX0_init 36 = .ok (.return_, 1) := by decide +kernel
theorem dX0_clear_0 : decode cX0_clear 0 = .ok (.aload_n 0, 1) := by decide +kernel
theorem dX0_clear_1 : decode cX0_clear 1 = .ok (.iconst 0, 1) := by decide +kernel
theorem dX0_clear_2 : decode cX0_clear 2 = .ok (.putfield 24, 3) := by decide +kernel
theorem dX0_clear_5 : decode cX0_clear 5 = .ok (.aload_n 0, 1) := by decide +kernel
theorem dX0_clear_6 : decode cX0_clear 6 = .ok (.iconst 0, 1) := by decide +kernel
theorem dX0_clear_7 : decode cX0_clear 7 = .ok (.putfield 28, 3) := by decide +kernel
theorem dX0_clear_10 : decode cX0_clear 10 = .ok (.aload_n 0, 1) := by decide +kernel
theorem dX0_clear_11 : decode cX0_clear 11 = .ok (.iconst 0, 1) := by decide +kernel
theorem dX0_clear_12 : decode cX0_clear 12 = .ok (.putfield 31, 3) := by decide +kernel
theorem dX0_clear_15 : decode cX0_clear 15 = .ok (.return_, 1) := by decide +kernel
theorem dX0_become_0 : decode cX0_become 0 = .ok (.aload_n 1, 1) := by decide +kernel
theorem dX0_become_1 : decode cX0_become 1 = .ok (.getfield 9, 3) := by decide +kernel
theorem dX0_become_4 : decode cX0_become 4 = .ok (.iconst 0, 1) := by decide +kernel
theorem dX0_become_5 : decode cX0_become 5 = .ok (.aload_n 0, 1) := by decide +kernel
theorem dX0_become_6 : decode cX0_become 6 = .ok (.getfield 9, 3) := by decide +kernel
theorem dX0_become_9 : decode cX0_become 9 = .ok (.iconst 0, 1) := by decide +kernel
theorem dX0_become_10 : decode cX0_become 10 = .ok (.bipush 7, 2) := by decide +kernel
theorem dX0_become_12 : decode cX0_become 12 = .ok (.invokestatic 34, 3) := by decide +kernel
theorem dX0_become_15 : decode cX0_become 15 = .ok (.aload_n 0, 1) := by decide +kernel
theorem dX0_become_16 : decode cX0_become 16 = .ok (.aload_n 1, 1) := by decide +kernel
theorem dX0_become_17 : decode cX0_become 17 = .ok (.getfield 24, 3) := by decide +kernel
theorem dX0_become_20 : decode cX0_become 20 = .ok (.putfield 24, 3) := by decide +kernel
theorem dX0_become_23 : decode cX0_become 23 = .ok (.aload_n 0, 1) := by decide +kernel
theorem dX0_become_24 : decode cX0_become 24 = .ok (.aload_n 1, 1) := by decide +kernel
theorem dX0_become_25 : decode cX0_become 25 = .ok (.getfield 28, 3) := by decide +kernel
theorem dX0_become_28 : decode cX0_become 28 = .ok (.putfield 28, 3) := by decide +kernel
theorem dX0_become_31 : decode cX0_become 31 = .ok (.aload_n 1, 1) := by decide +kernel
theorem dX0_become_32 : decode cX0_become 32 = .ok (.getfield 15, 3) := by decide +kernel
theorem dX0_become_35 : decode cX0_become 35 = .ok (.iconst 0, 1) := by decide +kernel
theorem dX0_become_36 : decode cX0_become 36 = .ok (.aload_n 0, 1) := by decide +kernel
theorem dX0_become_37 : decode cX0_become 37 = .ok (.getfield 15, 3) := by decide +kernel
theorem dX0_become_40 : decode cX0_become 40 = .ok (.iconst 0, 1) := by decide +kernel
theorem dX0_become_41 : decode cX0_become 41 = .ok (.bipush 40, 2) := by decide +kernel
theorem dX0_become_43 : decode cX0_become 43 = .ok (.invokestatic 34, 3) := by decide +kernel
theorem dX0_become_46 : decode cX0_become 46 = .ok (.aload_n 1, 1) := by decide +kernel
theorem dX0_become_47 : decode cX0_become 47 = .ok (.getfield 18, 3) := by decide +kernel
theorem dX0_become_50 : decode cX0_become 50 = .ok (.iconst 0, 1) := by decide +kernel
theorem dX0_become_51 : decode cX0_become 51 = .ok (.aload_n 0, 1) := by decide +kernel
theorem dX0_become_52 : decode cX0_become 52 = .ok (.getfield 18, 3) := by decide +kernel
theorem dX0_become_55 : decode cX0_become 55 = .ok (.iconst 0, 1) := by decide +kernel
theorem dX0_become_56 : decode cX0_become 56 = .ok (.bipush 40, 2) := by decide +kernel
theorem dX0_become_58 : decode cX0_become 58 = .ok (.invokestatic 34, 3) := by decide +kernel
theorem dX0_become_61 : decode cX0_become 61 = .ok (.aload_n 1, 1) := by decide +kernel
theorem dX0_become_62 : decode cX0_become 62 = .ok (.getfield 21, 3) := by decide +kernel
theorem dX0_become_65 : decode cX0_become 65 = .ok (.iconst 0, 1) := by decide +kernel
theorem dX0_become_66 : decode cX0_become 66 = .ok (.aload_n 0, 1) := by decide +kernel
theorem dX0_become_67 : decode cX0_become 67 = .ok (.getfield 21, 3) := by decide +kernel
theorem dX0_become_70 : decode cX0_become 70 = .ok (.iconst 0, 1) := by decide +kernel
theorem dX0_become_71 : decode cX0_become 71 = .ok (.bipush 40, 2) := by decide +kernel
theorem dX0_become_73 : decode cX0_become 73 = .ok (.invokestatic 34, 3) := by decide +kernel
theorem dX0_become_76 : decode cX0_become 76 = .ok (.aload_n 0, 1) := by decide +kernel
theorem dX0_become_77 : decode cX0_become 77 = .ok (.aload_n 1, 1) := by decide +kernel
theorem dX0_become_78 : decode cX0_become 78 = .ok (.getfield 31, 3) := by decide +kernel
theorem dX0_become_81 : decode cX0_become 81 = .ok (.putfield 31, 3) := by decide +kernel
theorem dX0_become_84 : decode cX0_become 84 = .ok (.return_, 1) := by decide +kernel
theorem dX0_isFull_0 : decode cX0_isFull 0 = .ok (.aload_n 0, 1) := by decide +kernel
theorem dX0_isFull_1 : decode cX0_isFull 1 = .ok (.getfield 31, 3) := by decide +kernel
theorem dX0_isFull_4 : decode cX0_isFull 4 = .ok (.bipush 40, 2) := by decide +kernel
theorem dX0_isFull_6 : decode cX0_isFull 6 = .ok (.if_icmp .lt 7, 3) := by decide +kernel
theorem dX0_isFull_9 : decode cX0_isFull 9 = .ok (.iconst 1, 1) := by decide +kernel
theorem dX0_isFull_10 : decode cX0_isFull 10 = .ok (.goto 4, 3) := by decide +kernel
theorem dX0_isFull_13 : decode cX0_isFull 13 = .ok (.iconst 0, 1) := by decide +kernel
theorem dX0_isFull_14 : decode cX0_isFull 14 = .ok (.ireturn, 1) := by decide +kernel
theorem dX0_isOver_0 : decode cX0_isOver 0 = .ok (.aload_n 0, 1) := by decide +kernel
theorem dX0_isOver_1 : decode cX0_isOver 1 = .ok (.getfield 28, 3) := by decide +kernel
theorem dX0_isOver_4 : decode cX0_isOver 4 = .ok (.iload_n 1, 1) := by decide +kernel
theorem dX0_isOver_5 : decode cX0_isOver 5 = .ok (.ishr, 1) := by decide +kernel
theorem dX0_isOver_6 : decode cX0_isOver 6 = .ok (.iconst 1, 1) := by decide +kernel
theorem dX0_isOver_7 : decode cX0_isOver 7 = .ok (.iand, 1) := by decide +kernel
theorem dX0_isOver_8 : decode cX0_isOver 8 = .ok (.iconst 1, 1) := by decide +kernel
theorem dX0_isOver_9 : decode cX0_isOver 9 = .ok (.if_icmp .ne 7, 3) := by decide +kernel
theorem dX0_isOver_12 : decode cX0_isOver 12 = .ok (.iconst 1, 1) := by decide +kernel
theorem dX0_isOver_13 : decode cX0_isOver 13 = .ok (.goto 4, 3) := by decide +kernel
theorem dX0_isOver_16 : decode cX0_isOver 16 = .ok (.iconst 0, 1) := by decide +kernel
theorem dX0_isOver_17 : decode cX0_isOver 17 = .ok (.ireturn, 1) := by decide +kernel
theorem dX0_isTaken_0 : decode cX0_isTaken 0 = .ok (.iload_n 1, 1) := by decide +kernel
theorem dX0_isTaken_1 : decode cX0_isTaken 1 = .ok (.ifCond .lt 15, 3) := by decide +kernel
theorem dX0_isTaken_4 : decode cX0_isTaken 4 = .ok (.iload_n 1, 1) := by decide +kernel
theorem dX0_isTaken_5 : decode cX0_isTaken 5 = .ok (.aload_n 0, 1) := by decide +kernel
theorem dX0_isTaken_6 : decode cX0_isTaken 6 = .ok (.getfield 24, 3) := by decide +kernel
theorem dX0_isTaken_9 : decode cX0_isTaken 9 = .ok (.if_icmp .ge 7, 3) := by decide +kernel
theorem dX0_isTaken_12 : decode cX0_isTaken 12 = .ok (.iconst 1, 1) := by decide +kernel
theorem dX0_isTaken_13 : decode cX0_isTaken 13 = .ok (.goto 4, 3) := by decide +kernel
theorem dX0_isTaken_16 : decode cX0_isTaken 16 = .ok (.iconst 0, 1) := by decide +kernel
theorem dX0_isTaken_17 : decode cX0_isTaken 17 = .ok (.ireturn, 1) := by decide +kernel
theorem dX0_placeOf_0 : decode cX0_placeOf 0 = .ok (.iconst 0, 1) := by decide +kernel
theorem dX0_placeOf_1 : decode cX0_placeOf 1 = .ok (.istore_n 2, 1) := by decide +kernel
theorem dX0_placeOf_2 : decode cX0_placeOf 2 = .ok (.iload_n 2, 1) := by decide +kernel
theorem dX0_placeOf_3 : decode cX0_placeOf 3 = .ok (.aload_n 0, 1) := by decide +kernel
theorem dX0_placeOf_4 : decode cX0_placeOf 4 = .ok (.getfield 24, 3) := by decide +kernel
theorem dX0_placeOf_7 : decode cX0_placeOf 7 = .ok (.if_icmp .ge 21, 3) := by decide +kernel
theorem dX0_placeOf_10 : decode cX0_placeOf 10 = .ok (.aload_n 0, 1) := by decide +kernel
theorem dX0_placeOf_11 : decode cX0_placeOf 11 = .ok (.getfield 9, 3) := by decide +kernel
theorem dX0_placeOf_14 : decode cX0_placeOf 14 = .ok (.iload_n 2, 1) := by decide +kernel
theorem dX0_placeOf_15 : decode cX0_placeOf 15 = .ok (.iaload, 1) := by decide +kernel
theorem dX0_placeOf_16 : decode cX0_placeOf 16 = .ok (.iload_n 1, 1) := by decide +kernel
theorem dX0_placeOf_17 : decode cX0_placeOf 17 = .ok (.if_icmp .ne 5, 3) := by decide +kernel
theorem dX0_placeOf_20 : decode cX0_placeOf 20 = .ok (.iload_n 2, 1) := by decide +kernel
theorem dX0_placeOf_21 : decode cX0_placeOf 21 = .ok (.ireturn, 1) := by decide +kernel
theorem dX0_placeOf_22 : decode cX0_placeOf 22 = .ok (.iinc 2 1, 3) := by decide +kernel
theorem dX0_placeOf_25 : decode cX0_placeOf 25 = .ok (.goto (-23), 3) := by decide +kernel
theorem dX0_placeOf_28 : decode cX0_placeOf 28 = .ok (.bipush (-9), 2) := by decide +kernel
theorem dX0_placeOf_30 : decode cX0_placeOf 30 = .ok (.ireturn, 1) := by decide +kernel
theorem dX0_lastRod_0 : decode cX0_lastRod 0 = .ok (.aload_n 0, 1) := by decide +kernel
theorem dX0_lastRod_1 : decode cX0_lastRod 1 = .ok (.getfield 24, 3) := by decide +kernel
theorem dX0_lastRod_4 : decode cX0_lastRod 4 = .ok (.ifCond .le 17, 3) := by decide +kernel
theorem dX0_lastRod_7 : decode cX0_lastRod 7 = .ok (.aload_n 0, 1) := by decide +kernel
theorem dX0_lastRod_8 : decode cX0_lastRod 8 = .ok (.getfield 9, 3) := by decide +kernel
theorem dX0_lastRod_11 : decode cX0_lastRod 11 = .ok (.aload_n 0, 1) := by decide +kernel
theorem dX0_lastRod_12 : decode cX0_lastRod 12 = .ok (.getfield 24, 3) := by decide +kernel
theorem dX0_lastRod_15 : decode cX0_lastRod 15 = .ok (.iconst 1, 1) := by decide +kernel
theorem dX0_lastRod_16 : decode cX0_lastRod 16 = .ok (.isub, 1) := by decide +kernel
theorem dX0_lastRod_17 : decode cX0_lastRod 17 = .ok (.iaload, 1) := by decide +kernel
theorem dX0_lastRod_18 : decode cX0_lastRod 18 = .ok (.goto 5, 3) := by decide +kernel
theorem dX0_lastRod_21 : decode cX0_lastRod 21 = .ok (.bipush (-9), 2) := by decide +kernel
theorem dX0_lastRod_23 : decode cX0_lastRod 23 = .ok (.ireturn, 1) := by decide +kernel
theorem dX0_bits_0 : decode cX0_bits 0 = .ok (.iconst 0, 1) := by decide +kernel
theorem dX0_bits_1 : decode cX0_bits 1 = .ok (.istore_n 1, 1) := by decide +kernel
theorem dX0_bits_2 : decode cX0_bits 2 = .ok (.iconst 0, 1) := by decide +kernel
theorem dX0_bits_3 : decode cX0_bits 3 = .ok (.istore_n 2, 1) := by decide +kernel
theorem dX0_bits_4 : decode cX0_bits 4 = .ok (.iload_n 2, 1) := by decide +kernel
theorem dX0_bits_5 : decode cX0_bits 5 = .ok (.aload_n 0, 1) := by decide +kernel
theorem dX0_bits_6 : decode cX0_bits 6 = .ok (.getfield 24, 3) := by decide +kernel
theorem dX0_bits_9 : decode cX0_bits 9 = .ok (.if_icmp .ge 20, 3) := by decide +kernel
theorem dX0_bits_12 : decode cX0_bits 12 = .ok (.iload_n 1, 1) := by decide +kernel
theorem dX0_bits_13 : decode cX0_bits 13 = .ok (.iconst 1, 1) := by decide +kernel
theorem dX0_bits_14 : decode cX0_bits 14 = .ok (.aload_n 0, 1) := by decide +kernel
theorem dX0_bits_15 : decode cX0_bits 15 = .ok (.getfield 9, 3) := by decide +kernel
theorem dX0_bits_18 : decode cX0_bits 18 = .ok (.iload_n 2, 1) := by decide +kernel
theorem dX0_bits_19 : decode cX0_bits 19 = .ok (.iaload, 1) := by decide +kernel
theorem dX0_bits_20 : decode cX0_bits 20 = .ok (.ishl, 1) := by decide +kernel
theorem dX0_bits_21 : decode cX0_bits 21 = .ok (.ior, 1) := by decide +kernel
theorem dX0_bits_22 : decode cX0_bits 22 = .ok (.istore_n 1, 1) := by decide +kernel
theorem dX0_bits_23 : decode cX0_bits 23 = .ok (.iinc 2 1, 3) := by decide +kernel
theorem dX0_bits_26 : decode cX0_bits 26 = .ok (.goto (-22), 3) := by decide +kernel
theorem dX0_bits_29 : decode cX0_bits 29 = .ok (.iload_n 1, 1) := by decide +kernel
theorem dX0_bits_30 : decode cX0_bits 30 = .ok (.ireturn, 1) := by decide +kernel
theorem dX0_act_0 : decode cX0_act 0 = .ok (.aload_n 0, 1) := by decide +kernel
theorem dX0_act_1 : decode cX0_act 1 = .ok (.invokevirtual 40, 3) := by decide +kernel
theorem dX0_act_4 : decode cX0_act 4 = .ok (.ifCond .eq 4, 3) := by decide +kernel
theorem dX0_act_7 : decode cX0_act 7 = .ok (.return_, 1) := by decide +kernel
theorem dX0_act_8 : decode cX0_act 8 = .ok (.aload_n 0, 1) := by decide +kernel
theorem dX0_act_9 : decode cX0_act 9 = .ok (.getfield 15, 3) := by decide +kernel
theorem dX0_act_12 : decode cX0_act 12 = .ok (.aload_n 0, 1) := by decide +kernel
theorem dX0_act_13 : decode cX0_act 13 = .ok (.getfield 31, 3) := by decide +kernel
theorem dX0_act_16 : decode cX0_act 16 = .ok (.iload_n 1, 1) := by decide +kernel
theorem dX0_act_17 : decode cX0_act 17 = .ok (.iastore, 1) := by decide +kernel
theorem dX0_act_18 : decode cX0_act 18 = .ok (.aload_n 0, 1) := by decide +kernel
theorem dX0_act_19 : decode cX0_act 19 = .ok (.getfield 18, 3) := by decide +kernel
theorem dX0_act_22 : decode cX0_act 22 = .ok (.aload_n 0, 1) := by decide +kernel
theorem dX0_act_23 : decode cX0_act 23 = .ok (.getfield 31, 3) := by decide +kernel
theorem dX0_act_26 : decode cX0_act 26 = .ok (.iload_n 2, 1) := by decide +kernel
theorem dX0_act_27 : decode cX0_act 27 = .ok (.iastore, 1) := by decide +kernel
theorem dX0_act_28 : decode cX0_act 28 = .ok (.aload_n 0, 1) := by decide +kernel
theorem dX0_act_29 : decode cX0_act 29 = .ok (.getfield 21, 3) := by decide +kernel
theorem dX0_act_32 : decode cX0_act 32 = .ok (.aload_n 0, 1) := by decide +kernel
theorem dX0_act_33 : decode cX0_act 33 = .ok (.getfield 31, 3) := by decide +kernel
theorem dX0_act_36 : decode cX0_act 36 = .ok (.iload_n 3, 1) := by decide +kernel
theorem dX0_act_37 : decode cX0_act 37 = .ok (.iastore, 1) := by decide +kernel
theorem dX0_act_38 : decode cX0_act 38 = .ok (.aload_n 0, 1) := by decide +kernel
theorem dX0_act_39 : decode cX0_act 39 = .ok (.dup, 1) := by decide +kernel
theorem dX0_act_40 : decode cX0_act 40 = .ok (.getfield 31, 3) := by decide +kernel
theorem dX0_act_43 : decode cX0_act 43 = .ok (.iconst 1, 1) := by decide +kernel
theorem dX0_act_44 : decode cX0_act 44 = .ok (.iadd, 1) := by decide +kernel
theorem dX0_act_45 : decode cX0_act 45 = .ok (.putfield 31, 3) := by decide +kernel
theorem dX0_act_48 : decode cX0_act 48 = .ok (.aload_n 0, 1) := by decide +kernel
theorem dX0_act_49 : decode cX0_act 49 = .ok (.iload_n 1, 1) := by decide +kernel
theorem dX0_act_50 : decode cX0_act 50 = .ok (.iload_n 2, 1) := by decide +kernel
theorem dX0_act_51 : decode cX0_act 51 = .ok (.iload_n 3, 1) := by decide +kernel
theorem dX0_act_52 : decode cX0_act 52 = .ok (.invokevirtual 44, 3) := by decide +kernel
theorem dX0_act_55 : decode cX0_act 55 = .ok (.return_, 1) := by decide +kernel
theorem dX0_takeBack_0 : decode cX0_takeBack 0 = .ok (.aload_n 0, 1) := by decide +kernel
theorem dX0_takeBack_1 : decode cX0_takeBack 1 = .ok (.getfield 31, 3) := by decide +kernel
theorem dX0_takeBack_4 : decode cX0_takeBack 4 = .ok (.ifCond .gt 4, 3) := by decide +kernel
theorem dX0_takeBack_7 : decode cX0_takeBack 7 = .ok (.return_, 1) := by decide +kernel
theorem dX0_takeBack_8 : decode cX0_takeBack 8 = .ok (.aload_n 0, 1) := by decide +kernel
theorem dX0_takeBack_9 : decode cX0_takeBack 9 = .ok (.dup, 1) := by decide +kernel
theorem dX0_takeBack_10 : decode cX0_takeBack 10 = .ok (.getfield 31, 3) := by decide +kernel
theorem dX0_takeBack_13 : decode cX0_takeBack 13 = .ok (.iconst 1, 1) := by decide +kernel
theorem dX0_takeBack_14 : decode cX0_takeBack 14 = .ok (.isub, 1) := by decide +kernel
theorem dX0_takeBack_15 : decode cX0_takeBack 15 = .ok (.putfield 31, 3) := by decide +kernel
theorem dX0_takeBack_18 : decode cX0_takeBack 18 = .ok (.aload_n 0, 1) := by decide +kernel
theorem dX0_takeBack_19 : decode cX0_takeBack 19 = .ok (.aload_n 0, 1) := by decide +kernel
theorem dX0_takeBack_20 : decode cX0_takeBack 20 = .ok (.getfield 15, 3) := by decide +kernel
theorem dX0_takeBack_23 : decode cX0_takeBack 23 = .ok (.aload_n 0, 1) := by decide +kernel
theorem dX0_takeBack_24 : decode cX0_takeBack 24 = .ok (.getfield 31, 3) := by decide +kernel
theorem dX0_takeBack_27 : decode cX0_takeBack 27 = .ok (.iaload, 1) := by decide +kernel
theorem dX0_takeBack_28 : decode cX0_takeBack 28 = .ok (.invokestatic 48, 3) := by decide +kernel
theorem dX0_takeBack_31 : decode cX0_takeBack 31 = .ok (.aload_n 0, 1) := by decide +kernel
theorem dX0_takeBack_32 : decode cX0_takeBack 32 = .ok (.getfield 18, 3) := by decide +kernel
theorem dX0_takeBack_35 : decode cX0_takeBack 35 = .ok (.aload_n 0, 1) := by decide +kernel
theorem dX0_takeBack_36 : decode cX0_takeBack 36 = .ok (.getfield 31, 3) := by decide +kernel
theorem dX0_takeBack_39 : decode cX0_takeBack 39 = .ok (.iaload, 1) := by decide +kernel
theorem dX0_takeBack_40 : decode cX0_takeBack 40 = .ok (.aload_n 0, 1) := by decide +kernel
theorem dX0_takeBack_41 : decode cX0_takeBack 41 = .ok (.getfield 21, 3) := by decide +kernel
theorem dX0_takeBack_44 : decode cX0_takeBack 44 = .ok (.aload_n 0, 1) := by decide +kernel
theorem dX0_takeBack_45 : decode cX0_takeBack 45 = .ok (.getfield 31, 3) := by decide +kernel
theorem dX0_takeBack_48 : decode cX0_takeBack 48 = .ok (.iaload, 1) := by decide +kernel
theorem dX0_takeBack_49 : decode cX0_takeBack 49 = .ok (.invokevirtual 44, 3) := by decide +kernel
theorem dX0_takeBack_52 : decode cX0_takeBack 52 = .ok (.return_, 1) := by decide +kernel
theorem dX0_backOf_0 : decode cX0_backOf 0 = .ok (.iload_n 0, 1) := by decide +kernel
theorem dX0_backOf_1 : decode cX0_backOf 1 = .ok (.iconst 1, 1) := by decide +kernel
theorem dX0_backOf_2 : decode cX0_backOf 2 = .ok (.if_icmp .ne 5, 3) := by decide +kernel
theorem dX0_backOf_5 : decode cX0_backOf 5 = .ok (.iconst 2, 1) := by decide +kernel
theorem dX0_backOf_6 : decode cX0_backOf 6 = .ok (.ireturn, 1) := by decide +kernel
theorem dX0_backOf_7 : decode cX0_backOf 7 = .ok (.iload_n 0, 1) := by decide +kernel
theorem dX0_backOf_8 : decode cX0_backOf 8 = .ok (.iconst 2, 1) := by decide +kernel
theorem dX0_backOf_9 : decode cX0_backOf 9 = .ok (.if_icmp .ne 7, 3) := by decide +kernel
theorem dX0_backOf_12 : decode cX0_backOf 12 = .ok (.iconst 1, 1) := by decide +kernel
theorem dX0_backOf_13 : decode cX0_backOf 13 = .ok (.goto 4, 3) := by decide +kernel
theorem dX0_backOf_16 : decode cX0_backOf 16 = .ok (.iload_n 0, 1) := by decide +kernel
theorem dX0_backOf_17 : decode cX0_backOf 17 = .ok (.ireturn, 1) := by decide +kernel
theorem dX0_perform_0 : decode cX0_perform 0 = .ok (.iload_n 1, 1) := by decide +kernel
theorem dX0_perform_1 : decode cX0_perform 1 = .ok (.iconst 1, 1) := by decide +kernel
theorem dX0_perform_2 : decode cX0_perform 2 = .ok (.if_icmp .ne 38, 3) := by decide +kernel
theorem dX0_perform_5 : decode cX0_perform 5 = .ok (.aload_n 0, 1) := by decide +kernel
theorem dX0_perform_6 : decode cX0_perform 6 = .ok (.getfield 24, 3) := by decide +kernel
theorem dX0_perform_9 : decode cX0_perform 9 = .ok (.aload_n 0, 1) := by decide +kernel
theorem dX0_perform_10 : decode cX0_perform 10 = .ok (.getfield 9, 3) := by decide +kernel
theorem dX0_perform_13 : decode cX0_perform 13 = .ok (.arraylength, 1) := by decide +kernel
theorem dX0_perform_14 : decode cX0_perform 14 = .ok (.if_icmp .ge 26, 3) := by decide +kernel
theorem dX0_perform_17 : decode cX0_perform 17 = .ok (.aload_n 0, 1) := by decide +kernel
theorem dX0_perform_18 : decode cX0_perform 18 = .ok (.getfield 9, 3) := by decide +kernel
theorem dX0_perform_21 : decode cX0_perform 21 = .ok (.aload_n 0, 1) := by decide +kernel
theorem dX0_perform_22 : decode cX0_perform 22 = .ok (.getfield 24, 3) := by decide +kernel
theorem dX0_perform_25 : decode cX0_perform 25 = .ok (.iload_n 2, 1) := by decide +kernel
theorem dX0_perform_26 : decode cX0_perform 26 = .ok (.iastore, 1) := by decide +kernel
theorem dX0_perform_27 : decode cX0_perform 27 = .ok (.aload_n 0, 1) := by decide +kernel
theorem dX0_perform_28 : decode cX0_perform 28 = .ok (.dup, 1) := by decide +kernel
theorem dX0_perform_29 : decode cX0_perform 29 = .ok (.getfield 24, 3) := by decide +kernel
theorem dX0_perform_32 : decode cX0_perform 32 = .ok (.iconst 1, 1) := by decide +kernel
theorem dX0_perform_33 : decode cX0_perform 33 = .ok (.iadd, 1) := by decide +kernel
theorem dX0_perform_34 : decode cX0_perform 34 = .ok (.putfield 24, 3) := by decide +kernel
theorem dX0_perform_37 : decode cX0_perform 37 = .ok (.goto 97, 3) := by decide +kernel
theorem dX0_perform_40 : decode cX0_perform 40 = .ok (.iload_n 1, 1) := by decide +kernel
theorem dX0_perform_41 : decode cX0_perform 41 = .ok (.iconst 2, 1) := by decide +kernel
theorem dX0_perform_42 : decode cX0_perform 42 = .ok (.if_icmp .ne 23, 3) := by decide +kernel
theorem dX0_perform_45 : decode cX0_perform 45 = .ok (.aload_n 0, 1) := by decide +kernel
theorem dX0_perform_46 : decode cX0_perform 46 = .ok (.getfield 24, 3) := by decide +kernel
theorem dX0_perform_49 : decode cX0_perform 49 = .ok (.ifCond .le 16, 3) := by decide +kernel
theorem dX0_perform_52 : decode cX0_perform 52 = .ok (.aload_n 0, 1) := by decide +kernel
theorem dX0_perform_53 : decode cX0_perform 53 = .ok (.dup, 1) := by decide +kernel
theorem dX0_perform_54 : decode cX0_perform 54 = .ok (.getfield 24, 3) := by decide +kernel
theorem dX0_perform_57 : decode cX0_perform 57 = .ok (.iconst 1, 1) := by decide +kernel
theorem dX0_perform_58 : decode cX0_perform 58 = .ok (.isub, 1) := by decide +kernel
theorem dX0_perform_59 : decode cX0_perform 59 = .ok (.putfield 24, 3) := by decide +kernel
theorem dX0_perform_62 : decode cX0_perform 62 = .ok (.goto 72, 3) := by decide +kernel
theorem dX0_perform_65 : decode cX0_perform 65 = .ok (.iload_n 1, 1) := by decide +kernel
theorem dX0_perform_66 : decode cX0_perform 66 = .ok (.iconst 3, 1) := by decide +kernel
theorem dX0_perform_67 : decode cX0_perform 67 = .ok (.if_icmp .ne 50, 3) := by decide +kernel
theorem dX0_perform_70 : decode cX0_perform 70 = .ok (.aload_n 0, 1) := by decide +kernel
theorem dX0_perform_71 : decode cX0_perform 71 = .ok (.iload_n 2, 1) := by decide +kernel
theorem dX0_perform_72 : decode cX0_perform 72 = .ok (.invokevirtual 52, 3) := by decide +kernel
theorem dX0_perform_75 : decode cX0_perform 75 = .ok (.ifCond .eq 42, 3) := by decide +kernel
theorem dX0_perform_78 : decode cX0_perform 78 = .ok (.aload_n 0, 1) := by decide +kernel
theorem dX0_perform_79 : decode cX0_perform 79 = .ok (.iload_n 3, 1) := by decide +kernel
theorem dX0_perform_80 : decode cX0_perform 80 = .ok (.invokevirtual 52, 3) := by decide +kernel
theorem dX0_perform_83 : decode cX0_perform 83 = .ok (.ifCond .eq 34, 3) := by decide +kernel
theorem dX0_perform_86 : decode cX0_perform 86 = .ok (.aload_n 0, 1) := by decide +kernel
theorem dX0_perform_87 : decode cX0_perform 87 = .ok (.getfield 9, 3) := by decide +kernel
theorem dX0_perform_90 : decode cX0_perform 90 = .ok (.iload_n 2, 1) := by decide +kernel
theorem dX0_perform_91 : decode cX0_perform 91 = .ok (.iaload, 1) := by decide +kernel
theorem dX0_perform_92 : decode cX0_perform 92 = .ok (.istore 4, 2) := by decide +kernel
theorem dX0_perform_94 : decode cX0_perform 94 = .ok (.aload_n 0, 1) := by decide +kernel
theorem dX0_perform_95 : decode cX0_perform 95 = .ok (.getfield 9, 3) := by decide +kernel
theorem dX0_perform_98 : decode cX0_perform 98 = .ok (.iload_n 2, 1) := by decide +kernel
theorem dX0_perform_99 : decode cX0_perform 99 = .ok (.aload_n 0, 1) := by decide +kernel
theorem dX0_perform_100 : decode cX0_perform 100 = .ok (.getfield 9, 3) := by decide +kernel
theorem dX0_perform_103 : decode cX0_perform 103 = .ok (.iload_n 3, 1) := by decide +kernel
theorem dX0_perform_104 : decode cX0_perform 104 = .ok (.iaload, 1) := by decide +kernel
theorem dX0_perform_105 : decode cX0_perform 105 = .ok (.iastore, 1) := by decide +kernel
theorem dX0_perform_106 : decode cX0_perform 106 = .ok (.aload_n 0, 1) := by decide +kernel
theorem dX0_perform_107 : decode cX0_perform 107 = .ok (.getfield 9, 3) := by decide +kernel
theorem dX0_perform_110 : decode cX0_perform 110 = .ok (.iload_n 3, 1) := by decide +kernel
theorem dX0_perform_111 : decode cX0_perform 111 = .ok (.iload 4, 2) := by decide +kernel
theorem dX0_perform_113 : decode cX0_perform 113 = .ok (.iastore, 1) := by decide +kernel
theorem dX0_perform_114 : decode cX0_perform 114 = .ok (.goto 20, 3) := by decide +kernel
theorem dX0_perform_117 : decode cX0_perform 117 = .ok (.iload_n 1, 1) := by decide +kernel
theorem dX0_perform_118 : decode cX0_perform 118 = .ok (.iconst 4, 1) := by decide +kernel
theorem dX0_perform_119 : decode cX0_perform 119 = .ok (.if_icmp .ne 15, 3) := by decide +kernel
theorem dX0_perform_122 : decode cX0_perform 122 = .ok (.aload_n 0, 1) := by decide +kernel
theorem dX0_perform_123 : decode cX0_perform 123 = .ok (.dup, 1) := by decide +kernel
theorem dX0_perform_124 : decode cX0_perform 124 = .ok (.getfield 28, 3) := by decide +kernel
theorem dX0_perform_127 : decode cX0_perform 127 = .ok (.iconst 1, 1) := by decide +kernel
theorem dX0_perform_128 : decode cX0_perform 128 = .ok (.iload_n 2, 1) := by decide +kernel
theorem dX0_perform_129 : decode cX0_perform 129 = .ok (.ishl, 1) := by decide +kernel
theorem dX0_perform_130 : decode cX0_perform 130 = .ok (.ixor, 1) := by decide +kernel
theorem dX0_perform_131 : decode cX0_perform 131 = .ok (.putfield 28, 3) := by decide +kernel
theorem dX0_perform_134 : decode cX0_perform 134 = .ok (.return_, 1) := by decide +kernel
theorem dX1_init_0 : decode cX1_init 0 = .ok (.aload_n 0, 1) := by decide +kernel
theorem dX1_init_1 : decode cX1_init 1 = .ok (.invokespecial 1, 3) := by decide +kernel
theorem dX1_init_4 : decode cX1_init 4 = .ok (.return_, 1) := by decide +kernel
theorem dX1_isWithoutTens_0 : decode cX1_isWithoutTens 0 = .ok (.aload_n 0, 1) := by decide +kernel
theorem dX1_isWithoutTens_1 : decode cX1_isWithoutTens 1 = .ok (.iload_n 1, 1) := by decide +kernel
theorem dX1_isWithoutTens_2 : decode cX1_isWithoutTens 2 = .ok (.iload_n 2, 1) := by decide +kernel
theorem dX1_isWithoutTens_3 : decode cX1_isWithoutTens 3 = .ok (.invokespecial 7, 3) := by decide +kernel
theorem dX1_isWithoutTens_6 : decode cX1_isWithoutTens 6 = .ok (.ifCond .ne 11, 3) := by decide +kernel
theorem dX1_isWithoutTens_9 : decode cX1_isWithoutTens 9 = .ok (.iload_n 2, 1) := by decide +kernel
theorem dX1_isWithoutTens_10 : decode cX1_isWithoutTens 10 = .ok (.bipush 9, 2) := by decide +kernel
theorem dX1_isWithoutTens_12 : decode cX1_isWithoutTens 12 = .ok (.iload_n 1, 1) := by decide +kernel
theorem dX1_isWithoutTens_13 : decode cX1_isWithoutTens 13 = .ok (.isub, 1) := by decide +kernel
theorem dX1_isWithoutTens_14 : decode cX1_isWithoutTens 14 = .ok (.if_icmp .le 7, 3) := by decide +kernel
theorem dX1_isWithoutTens_17 : decode cX1_isWithoutTens 17 = .ok (.iconst 1, 1) := by decide +kernel
theorem dX1_isWithoutTens_18 : decode cX1_isWithoutTens 18 = .ok (.goto 4, 3) := by decide +kernel
theorem dX1_isWithoutTens_21 : decode cX1_isWithoutTens 21 = .ok (.iconst 0, 1) := by decide +kernel
theorem dX1_isWithoutTens_22 : decode cX1_isWithoutTens 22 = .ok (.ireturn, 1) := by decide +kernel
theorem dX2_init_0 : decode cX2_init 0 = .ok (.aload_n 0, 1) := by decide +kernel
theorem dX2_init_1 : decode cX2_init 1 = .ok (.invokespecial 1, 3) := by decide +kernel
theorem dX2_init_4 : decode cX2_init 4 = .ok (.return_, 1) := by decide +kernel
theorem dX2_shown_0 : decode cX2_shown 0 = .ok (.iload_n 3, 1) := by decide +kernel
theorem dX2_shown_1 : decode cX2_shown 1 = .ok (.iload_n 2, 1) := by decide +kernel
theorem dX2_shown_2 : decode cX2_shown 2 = .ok (.if_icmp .lt 9, 3) := by decide +kernel
theorem dX2_shown_5 : decode cX2_shown 5 = .ok (.iload_n 1, 1) := by decide +kernel
theorem dX2_shown_6 : decode cX2_shown 6 = .ok (.iload_n 3, 1) := by decide +kernel
theorem dX2_shown_7 : decode cX2_shown 7 = .ok (.imul, 1) := by decide +kernel
theorem dX2_shown_8 : decode cX2_shown 8 = .ok (.goto 10, 3) := by decide +kernel
theorem dX2_shown_11 : decode cX2_shown 11 = .ok (.aload_n 0, 1) := by decide +kernel
theorem dX2_shown_12 : decode cX2_shown 12 = .ok (.iload_n 1, 1) := by decide +kernel
theorem dX2_shown_13 : decode cX2_shown 13 = .ok (.iload_n 2, 1) := by decide +kernel
theorem dX2_shown_14 : decode cX2_shown 14 = .ok (.iload_n 3, 1) := by decide +kernel
theorem dX2_shown_15 : decode cX2_shown 15 = .ok (.invokespecial 7, 3) := by decide +kernel
theorem dX2_shown_18 : decode cX2_shown 18 = .ok (.ireturn, 1) := by decide +kernel
theorem dX3_init_0 : decode cX3_init 0 = .ok (.aload_n 0, 1) := by decide +kernel
theorem dX3_init_1 : decode cX3_init 1 = .ok (.invokespecial 1, 3) := by decide +kernel
theorem dX3_init_4 : decode cX3_init 4 = .ok (.return_, 1) := by decide +kernel
theorem dX3_shown_0 : decode cX3_shown 0 = .ok (.iload_n 1, 1) := by decide +kernel
theorem dX3_shown_1 : decode cX3_shown 1 = .ok (.iload_n 3, 1) := by decide +kernel
theorem dX3_shown_2 : decode cX3_shown 2 = .ok (.imul, 1) := by decide +kernel
theorem dX3_shown_3 : decode cX3_shown 3 = .ok (.ireturn, 1) := by decide +kernel
theorem dX4_init_0 : decode cX4_init 0 = .ok (.aload_n 0, 1) := by decide +kernel
theorem dX4_init_1 : decode cX4_init 1 = .ok (.invokespecial 1, 3) := by decide +kernel
theorem dX4_init_4 : decode cX4_init 4 = .ok (.aload_n 0, 1) := by decide +kernel
theorem dX4_init_5 : decode cX4_init 5 = .ok (.aload_n 1, 1) := by decide +kernel
theorem dX4_init_6 : decode cX4_init 6 = .ok (.putfield 7, 3) := by decide +kernel
theorem dX4_init_9 : decode cX4_init 9 = .ok (.return_, 1) := by decide +kernel
theorem dX5_init_0 : decode cX5_init 0 = .ok (.aload_n 0, 1) := by decide +kernel
theorem dX5_init_1 : decode cX5_init 1 = .ok (.invokespecial 3, 3) := by decide +kernel
theorem dX5_init_4 : decode cX5_init 4 = .ok (.aload_n 0, 1) := by decide +kernel
theorem dX5_init_5 : decode cX5_init 5 = .ok (.bipush 7, 2) := by decide +kernel
theorem dX5_init_7 : decode cX5_init 7 = .ok (.newarray .int, 2) := by decide +kernel
theorem dX5_init_9 : decode cX5_init 9 = .ok (.putfield 9, 3) := by decide +kernel
theorem dX5_init_12 : decode cX5_init 12 = .ok (.aload_n 0, 1) := by decide +kernel
theorem dX5_init_13 : decode cX5_init 13 = .ok (.bipush 7, 2) := by decide +kernel
theorem dX5_init_15 : decode cX5_init 15 = .ok (.newarray .int, 2) := by decide +kernel
theorem dX5_init_17 : decode cX5_init 17 = .ok (.putfield 15, 3) := by decide +kernel
theorem dX5_init_20 : decode cX5_init 20 = .ok (.aload_n 0, 1) := by decide +kernel
theorem dX5_init_21 : decode cX5_init 21 = .ok (.bipush 7, 2) := by decide +kernel
theorem dX5_init_23 : decode cX5_init 23 = .ok (.newarray .int, 2) := by decide +kernel
theorem dX5_init_25 : decode cX5_init 25 = .ok (.putfield 18, 3) := by decide +kernel
theorem dX5_init_28 : decode cX5_init 28 = .ok (.return_, 1) := by decide +kernel
theorem dX5_nearest_0 : decode cX5_nearest 0 = .ok (.aload_n 0, 1) := by decide +kernel
theorem dX5_nearest_1 : decode cX5_nearest 1 = .ok (.iload_n 1, 1) := by decide +kernel
theorem dX5_nearest_2 : decode cX5_nearest 2 = .ok (.putfield 21, 3) := by decide +kernel
theorem dX5_nearest_5 : decode cX5_nearest 5 = .ok (.aload_n 0, 1) := by decide +kernel
theorem dX5_nearest_6 : decode cX5_nearest 6 = .ok (.iload_n 2, 1) := by decide +kernel
theorem dX5_nearest_7 : decode cX5_nearest 7 = .ok (.aload_n 0, 1) := by decide +kernel
theorem dX5_nearest_8 : decode cX5_nearest 8 = .ok (.getfield 25, 3) := by decide +kernel
theorem dX5_nearest_11 : decode cX5_nearest 11 = .ok (.invokestatic 28, 3) := by decide +kernel
theorem dX5_nearest_14 : decode cX5_nearest 14 = .ok (.putfield 34, 3) := by decide +kernel
theorem dX5_nearest_17 : decode cX5_nearest 17 = .ok (.aload_n 0, 1) := by decide +kernel
theorem dX5_nearest_18 : decode cX5_nearest 18 = .ok (.iload_n 3, 1) := by decide +kernel
theorem dX5_nearest_19 : decode cX5_nearest 19 = .ok (.putfield 37, 3) := by decide +kernel
theorem dX5_nearest_22 : decode cX5_nearest 22 = .ok (.aload_n 0, 1) := by decide +kernel
theorem dX5_nearest_23 : decode cX5_nearest 23 = .ok (.iconst 0, 1) := by decide +kernel
theorem dX5_nearest_24 : decode cX5_nearest 24 = .ok (.iconst 0, 1) := by decide +kernel
theorem dX5_nearest_25 : decode cX5_nearest 25 = .ok (.iconst 0, 1) := by decide +kernel
theorem dX5_nearest_26 : decode cX5_nearest 26 = .ok (.invokevirtual 40, 3) := by decide +kernel
theorem dX5_nearest_29 : decode cX5_nearest 29 = .ok (.aload_n 0, 1) := by decide +kernel
theorem dX5_nearest_30 : decode cX5_nearest 30 = .ok (.getfield 37, 3) := by decide +kernel
theorem dX5_nearest_33 : decode cX5_nearest 33 = .ok (.ireturn, 1) := by decide +kernel
theorem dX5_extend_0 : decode cX5_extend 0 = .ok (.aload_n 0, 1) := by decide +kernel
theorem dX5_extend_1 : decode cX5_extend 1 = .ok (.aload_n 0, 1) := by decide +kernel
theorem dX5_extend_2 : decode cX5_extend 2 = .ok (.getfield 34, 3) := by decide +kernel
theorem dX5_extend_5 : decode cX5_extend 5 = .ok (.iload_n 1, 1) := by decide +kernel
theorem dX5_extend_6 : decode cX5_extend 6 = .ok (.isub, 1) := by decide +kernel
theorem dX5_extend_7 : decode cX5_extend 7 = .ok (.iload_n 3, 1) := by decide +kernel
theorem dX5_extend_8 : decode cX5_extend 8 = .ok (.invokevirtual 44, 3) := by decide +kernel
theorem dX5_extend_11 : decode cX5_extend 11 = .ok (.istore 4, 2) := by decide +kernel
theorem dX5_extend_13 : decode cX5_extend 13 = .ok (.iload 4, 2) := by decide +kernel
theorem dX5_extend_15 : decode cX5_extend 15 = .ok (.aload_n 0, 1) := by decide +kernel
theorem dX5_extend_16 : decode cX5_extend 16 = .ok (.getfield 37, 3) := by decide +kernel
theorem dX5_extend_19 : decode cX5_extend 19 = .ok (.if_icmp .lt 4, 3) := by decide +kernel
theorem dX5_extend_22 : decode cX5_extend 22 = .ok (.return_, 1) := by decide +kernel
theorem dX5_extend_23 : decode cX5_extend 23 = .ok (.iload_n 1, 1) := by decide +kernel
theorem dX5_extend_24 : decode cX5_extend 24 = .ok (.aload_n 0, 1) := by decide +kernel
theorem dX5_extend_25 : decode cX5_extend 25 = .ok (.getfield 34, 3) := by decide +kernel
theorem dX5_extend_28 : decode cX5_extend 28 = .ok (.if_icmp .lt 25, 3) := by decide +kernel
theorem dX5_extend_31 : decode cX5_extend 31 = .ok (.aload_n 0, 1) := by decide +kernel
theorem dX5_extend_32 : decode cX5_extend 32 = .ok (.iload 4, 2) := by decide +kernel
theorem dX5_extend_34 : decode cX5_extend 34 = .ok (.putfield 37, 3) := by decide +kernel
theorem dX5_extend_37 : decode cX5_extend 37 = .ok (.aload_n 0, 1) := by decide +kernel
theorem dX5_extend_38 : decode cX5_extend 38 = .ok (.getfield 15, 3) := by decide +kernel
theorem dX5_extend_41 : decode cX5_extend 41 = .ok (.iconst 0, 1) := by decide +kernel
theorem dX5_extend_42 : decode cX5_extend 42 = .ok (.aload_n 0, 1) := by decide +kernel
theorem dX5_extend_43 : decode cX5_extend 43 = .ok (.getfield 18, 3) := by decide +kernel
theorem dX5_extend_46 : decode cX5_extend 46 = .ok (.iconst 0, 1) := by decide +kernel
theorem dX5_extend_47 : decode cX5_extend 47 = .ok (.bipush 7, 2) := by decide +kernel
theorem dX5_extend_49 : decode cX5_extend 49 = .ok (.invokestatic 47, 3) := by decide +kernel
theorem dX5_extend_52 : decode cX5_extend 52 = .ok (.return_, 1) := by decide +kernel
theorem dX5_extend_53 : decode cX5_extend 53 = .ok (.iconst 0, 1) := by decide +kernel
theorem dX5_extend_54 : decode cX5_extend 54 = .ok (.istore 5, 2) := by decide +kernel
theorem dX5_extend_56 : decode cX5_extend 56 = .ok (.iload 5, 2) := by decide +kernel
theorem dX5_extend_58 : decode cX5_extend 58 = .ok (.aload_n 0, 1) := by decide +kernel
theorem dX5_extend_59 : decode cX5_extend 59 = .ok (.getfield 25, 3) := by decide +kernel
theorem dX5_extend_62 : decode cX5_extend 62 = .ok (.if_icmp .ge 51, 3) := by decide +kernel
theorem dX5_extend_65 : decode cX5_extend 65 = .ok (.iload_n 2, 1) := by decide +kernel
theorem dX5_extend_66 : decode cX5_extend 66 = .ok (.iload 5, 2) := by decide +kernel
theorem dX5_extend_68 : decode cX5_extend 68 = .ok (.ishr, 1) := by decide +kernel
theorem dX5_extend_69 : decode cX5_extend 69 = .ok (.iconst 1, 1) := by decide +kernel
theorem dX5_extend_70 : decode cX5_extend 70 = .ok (.iand, 1) := by decide +kernel
theorem dX5_extend_71 : decode cX5_extend 71 = .ok (.ifCond .ne 36, 3) := by decide +kernel
theorem dX5_extend_74 : decode cX5_extend 74 = .ok (.aload_n 0, 1) := by decide +kernel
theorem dX5_extend_75 : decode cX5_extend 75 = .ok (.getfield 15, 3) := by decide +kernel
theorem dX5_extend_78 : decode cX5_extend 78 = .ok (.iload_n 1, 1) := by decide +kernel
theorem dX5_extend_79 : decode cX5_extend 79 = .ok (.iload 5, 2) := by decide +kernel
theorem dX5_extend_81 : decode cX5_extend 81 = .ok (.iastore, 1) := by decide +kernel
theorem dX5_extend_82 : decode cX5_extend 82 = .ok (.aload_n 0, 1) := by decide +kernel
theorem dX5_extend_83 : decode cX5_extend 83 = .ok (.iload_n 1, 1) := by decide +kernel
theorem dX5_extend_84 : decode cX5_extend 84 = .ok (.iconst 1, 1) := by decide +kernel
theorem dX5_extend_85 : decode cX5_extend 85 = .ok (.iadd, 1) := by decide +kernel
theorem dX5_extend_86 : decode cX5_extend 86 = .ok (.iload_n 2, 1) := by decide +kernel
theorem dX5_extend_87 : decode cX5_extend 87 = .ok (.iconst 1, 1) := by decide +kernel
theorem dX5_extend_88 : decode cX5_extend 88 = .ok (.iload 5, 2) := by decide +kernel
theorem dX5_extend_90 : decode cX5_extend 90 = .ok (.ishl, 1) := by decide +kernel
theorem dX5_extend_91 : decode cX5_extend 91 = .ok (.ior, 1) := by decide +kernel
theorem dX5_extend_92 : decode cX5_extend 92 = .ok (.bipush 10, 2) := by decide +kernel
theorem dX5_extend_94 : decode cX5_extend 94 = .ok (.iload_n 3, 1) := by decide +kernel
theorem dX5_extend_95 : decode cX5_extend 95 = .ok (.imul, 1) := by decide +kernel
theorem dX5_extend_96 : decode cX5_extend 96 = .ok (.aload_n 0, 1) := by decide +kernel
theorem dX5_extend_97 : decode cX5_extend 97 = .ok (.getfield 9, 3) := by decide +kernel
theorem dX5_extend_100 : decode cX5_extend 100 = .ok (.iload 5, 2) := by decide +kernel
theorem dX5_extend_102 : decode cX5_extend 102 = .ok (.iaload, 1) := by decide +kernel
theorem dX5_extend_103 : decode cX5_extend 103 = .ok (.iadd, 1) := by decide +kernel
theorem dX5_extend_104 : decode cX5_extend 104 = .ok (.invokevirtual 40, 3) := by decide +kernel
theorem dX5_extend_107 : decode cX5_extend 107 = .ok (.iinc 5 1, 3) := by decide +kernel
theorem dX5_extend_110 : decode cX5_extend 110 = .ok (.goto (-54), 3) := by decide +kernel
theorem dX5_extend_113 : decode cX5_extend 113 = .ok (.return_, 1) := by decide +kernel
theorem dX5_leastGap_0 : decode cX5_leastGap 0 = .ok (.iload_n 1, 1) := by decide +kernel
theorem dX5_leastGap_1 : decode cX5_leastGap 1 = .ok (.ifCond .lt 19, 3) := by decide +kernel
theorem dX5_leastGap_4 : decode cX5_leastGap 4 = .ok (.iload_n 1, 1) := by decide +kernel
theorem dX5_leastGap_5 : decode cX5_leastGap 5 = .ok (.getstatic 53, 3) := by decide +kernel
theorem dX5_leastGap_8 : decode cX5_leastGap 8 = .ok (.arraylength, 1) := by decide +kernel
theorem dX5_leastGap_9 : decode cX5_leastGap 9 = .ok (.if_icmp .ge 11, 3) := by decide +kernel
theorem dX5_leastGap_12 : decode cX5_leastGap 12 = .ok (.getstatic 53, 3) := by decide +kernel
theorem dX5_leastGap_15 : decode cX5_leastGap 15 = .ok (.iload_n 1, 1) := by decide +kernel
theorem dX5_leastGap_16 : decode cX5_leastGap 16 = .ok (.iaload, 1) := by decide +kernel
theorem dX5_leastGap_17 : decode cX5_leastGap 17 = .ok (.goto 4, 3) := by decide +kernel
theorem dX5_leastGap_20 : decode cX5_leastGap 20 = .ok (.iconst 1, 1) := by decide +kernel
theorem dX5_leastGap_21 : decode cX5_leastGap 21 = .ok (.istore_n 3, 1) := by decide +kernel
theorem dX5_leastGap_22 : decode cX5_leastGap 22 = .ok (.iload_n 2, 1) := by decide +kernel
theorem dX5_leastGap_23 : decode cX5_leastGap 23 = .ok (.iload_n 3, 1) := by decide +kernel
theorem dX5_leastGap_24 : decode cX5_leastGap 24 = .ok (.imul, 1) := by decide +kernel
theorem dX5_leastGap_25 : decode cX5_leastGap 25 = .ok (.istore 4, 2) := by decide +kernel
theorem dX5_leastGap_27 : decode cX5_leastGap 27 = .ok (.iload 4, 2) := by decide +kernel
theorem dX5_leastGap_29 : decode cX5_leastGap 29 = .ok (.bipush 9, 2) := by decide +kernel
theorem dX5_leastGap_31 : decode cX5_leastGap 31 = .ok (.iload_n 3, 1) := by decide +kernel
theorem dX5_leastGap_32 : decode cX5_leastGap 32 = .ok (.iconst 1, 1) := by decide +kernel
theorem dX5_leastGap_33 : decode cX5_leastGap 33 = .ok (.isub, 1) := by decide +kernel
theorem dX5_leastGap_34 : decode cX5_leastGap 34 = .ok (.imul, 1) := by decide +kernel
theorem dX5_leastGap_35 : decode cX5_leastGap 35 = .ok (.iadd, 1) := by decide +kernel
theorem dX5_leastGap_36 : decode cX5_leastGap 36 = .ok (.istore 5, 2) := by decide +kernel
theorem dX5_leastGap_38 : decode cX5_leastGap 38 = .ok (.iconst 0, 1) := by decide +kernel
theorem dX5_leastGap_39 : decode cX5_leastGap 39 = .ok (.iload 4, 2) := by decide +kernel
theorem dX5_leastGap_41 : decode cX5_leastGap 41 = .ok (.aload_n 0, 1) := by decide +kernel
theorem dX5_leastGap_42 : decode cX5_leastGap 42 = .ok (.getfield 21, 3) := by decide +kernel
theorem dX5_leastGap_45 : decode cX5_leastGap 45 = .ok (.isub, 1) := by decide +kernel
theorem dX5_leastGap_46 : decode cX5_leastGap 46 = .ok (.aload_n 0, 1) := by decide +kernel
theorem dX5_leastGap_47 : decode cX5_leastGap 47 = .ok (.getfield 21, 3) := by decide +kernel
theorem dX5_leastGap_50 : decode cX5_leastGap 50 = .ok (.iload 5, 2) := by decide +kernel
theorem dX5_leastGap_52 : decode cX5_leastGap 52 = .ok (.isub, 1) := by decide +kernel
theorem dX5_leastGap_53 : decode cX5_leastGap 53 = .ok (.invokestatic 56, 3) := by decide +kernel
theorem dX5_leastGap_56 : decode cX5_leastGap 56 = .ok (.invokestatic 56, 3) := by decide +kernel
theorem dX5_leastGap_59 : decode cX5_leastGap 59 = .ok (.ireturn, 1) := by decide +kernel
theorem dX5_playedOut_0 : decode cX5_playedOut 0 = .ok (.bipush (-9), 2) := by decide +kernel
theorem dX5_playedOut_2 : decode cX5_playedOut 2 = .ok (.istore 5, 2) := by decide +kernel
theorem dX5_playedOut_4 : decode cX5_playedOut 4 = .ok (.iload_n 1, 1) := by decide +kernel
theorem dX5_playedOut_5 : decode cX5_playedOut 5 = .ok (.ifCond .le 100, 3) := by decide +kernel
theorem dX5_playedOut_8 : decode cX5_playedOut 8 = .ok (.iconst 0, 1) := by decide +kernel
theorem dX5_playedOut_9 : decode cX5_playedOut 9 = .ok (.istore 6, 2) := by decide +kernel
theorem dX5_playedOut_11 : decode cX5_playedOut 11 = .ok (.iload 6, 2) := by decide +kernel
theorem dX5_playedOut_13 : decode cX5_playedOut 13 = .ok (.aload_n 0, 1) := by decide +kernel
theorem dX5_playedOut_14 : decode cX5_playedOut 14 = .ok (.getfield 25, 3) := by decide +kernel
theorem dX5_playedOut_17 : decode cX5_playedOut 17 = .ok (.if_icmp .ge 88, 3) := by decide +kernel
theorem dX5_playedOut_20 : decode cX5_playedOut 20 = .ok (.iload_n 2, 1) := by decide +kernel
theorem dX5_playedOut_21 : decode cX5_playedOut 21 = .ok (.iload 6, 2) := by decide +kernel
theorem dX5_playedOut_23 : decode cX5_playedOut 23 = .ok (.ishr, 1) := by decide +kernel
theorem dX5_playedOut_24 : decode cX5_playedOut 24 = .ok (.iconst 1, 1) := by decide +kernel
theorem dX5_playedOut_25 : decode cX5_playedOut 25 = .ok (.iand, 1) := by decide +kernel
theorem dX5_playedOut_26 : decode cX5_playedOut 26 = .ok (.ifCond .ne 73, 3) := by decide +kernel
theorem dX5_playedOut_29 : decode cX5_playedOut 29 = .ok (.aload_n 0, 1) := by decide +kernel
theorem dX5_playedOut_30 : decode cX5_playedOut 30 = .ok (.iload_n 1, 1) := by decide +kernel
theorem dX5_playedOut_31 : decode cX5_playedOut 31 = .ok (.iconst 1, 1) := by decide +kernel
theorem dX5_playedOut_32 : decode cX5_playedOut 32 = .ok (.isub, 1) := by decide +kernel
theorem dX5_playedOut_33 : decode cX5_playedOut 33 = .ok (.iload_n 2, 1) := by decide +kernel
theorem dX5_playedOut_34 : decode cX5_playedOut 34 = .ok (.iconst 1, 1) := by decide +kernel
theorem dX5_playedOut_35 : decode cX5_playedOut 35 = .ok (.iload 6, 2) := by decide +kernel
theorem dX5_playedOut_37 : decode cX5_playedOut 37 = .ok (.ishl, 1) := by decide +kernel
theorem dX5_playedOut_38 : decode cX5_playedOut 38 = .ok (.ior, 1) := by decide +kernel
theorem dX5_playedOut_39 : decode cX5_playedOut 39 = .ok (.bipush 10, 2) := by decide +kernel
theorem dX5_playedOut_41 : decode cX5_playedOut 41 = .ok (.iload_n 3, 1) := by decide +kernel
theorem dX5_playedOut_42 : decode cX5_playedOut 42 = .ok (.imul, 1) := by decide +kernel
theorem dX5_playedOut_43 : decode cX5_playedOut 43 = .ok (.aload_n 0, 1) := by decide +kernel
theorem dX5_playedOut_44 : decode cX5_playedOut 44 = .ok (.getfield 9, 3) := by decide +kernel
theorem dX5_playedOut_47 : decode cX5_playedOut 47 = .ok (.iload 6, 2) := by decide +kernel
theorem dX5_playedOut_49 : decode cX5_playedOut 49 = .ok (.iaload, 1) := by decide +kernel
theorem dX5_playedOut_50 : decode cX5_playedOut 50 = .ok (.iadd, 1) := by decide +kernel
theorem dX5_playedOut_51 : decode cX5_playedOut 51 = .ok (.iload 4, 2) := by decide +kernel
theorem dX5_playedOut_53 : decode cX5_playedOut 53 = .ok (.ifCond .ne 7, 3) := by decide +kernel
theorem dX5_playedOut_56 : decode cX5_playedOut 56 = .ok (.iconst 1, 1) := by decide +kernel
theorem dX5_playedOut_57 : decode cX5_playedOut 57 = .ok (.goto 4, 3) := by decide +kernel
theorem dX5_playedOut_60 : decode cX5_playedOut 60 = .ok (.iconst 0, 1) := by decide +kernel
theorem dX5_playedOut_61 : decode cX5_playedOut 61 = .ok (.invokevirtual 59, 3) := by decide +kernel
theorem dX5_playedOut_64 : decode cX5_playedOut 64 = .ok (.istore 7, 2) := by decide +kernel
theorem dX5_playedOut_66 : decode cX5_playedOut 66 = .ok (.iload 5, 2) := by decide +kernel
theorem dX5_playedOut_68 : decode cX5_playedOut 68 = .ok (.bipush (-9), 2) := by decide +kernel
theorem dX5_playedOut_70 : decode cX5_playedOut 70 = .ok (.if_icmp .eq 25, 3) := by decide +kernel
theorem dX5_playedOut_73 : decode cX5_playedOut 73 = .ok (.iload 4, 2) := by decide +kernel
theorem dX5_playedOut_75 : decode cX5_playedOut 75 = .ok (.ifCond .eq 13, 3) := by decide +kernel
theorem dX5_playedOut_78 : decode cX5_playedOut 78 = .ok (.iload 7, 2) := by decide +kernel
theorem dX5_playedOut_80 : decode cX5_playedOut 80 = .ok (.iload 5, 2) := by decide +kernel
theorem dX5_playedOut_82 : decode cX5_playedOut 82 = .ok (.if_icmp .le 17, 3) := by decide +kernel
theorem dX5_playedOut_85 : decode cX5_playedOut 85 = .ok (.goto 10, 3) := by decide +kernel
theorem dX5_playedOut_88 : decode cX5_playedOut 88 = .ok (.iload 7, 2) := by decide +kernel
theorem dX5_playedOut_90 : decode cX5_playedOut 90 = .ok (.iload 5, 2) := by decide +kernel
theorem dX5_playedOut_92 : decode cX5_playedOut 92 = .ok (.if_icmp .ge 7, 3) := by decide +kernel
theorem dX5_playedOut_95 : decode cX5_playedOut 95 = .ok (.iload 7, 2) := by decide +kernel
theorem dX5_playedOut_97 : decode cX5_playedOut 97 = .ok (.istore 5, 2) := by decide +kernel
theorem dX5_playedOut_99 : decode cX5_playedOut 99 = .ok (.iinc 6 1, 3) := by decide +kernel
theorem dX5_playedOut_102 : decode cX5_playedOut 102 = .ok (.goto (-91), 3) := by decide +kernel
theorem dX5_playedOut_105 : decode cX5_playedOut 105 = .ok (.iload 5, 2) := by decide +kernel
theorem dX5_playedOut_107 : decode cX5_playedOut 107 = .ok (.bipush (-9), 2) := by decide +kernel
theorem dX5_playedOut_109 : decode cX5_playedOut 109 = .ok (.if_icmp .ne 7, 3) := by decide +kernel
theorem dX5_playedOut_112 : decode cX5_playedOut 112 = .ok (.iload_n 3, 1) := by decide +kernel
theorem dX5_playedOut_113 : decode cX5_playedOut 113 = .ok (.goto 5, 3) := by decide +kernel
theorem dX5_playedOut_116 : decode cX5_playedOut 116 = .ok (.iload 5, 2) := by decide +kernel
theorem dX5_playedOut_118 : decode cX5_playedOut 118 = .ok (.ireturn, 1) := by decide +kernel
theorem dX6_init_0 : decode cX6_init 0 = .ok (.aload_n 0, 1) := by decide +kernel
theorem dX6_init_1 : decode cX6_init 1 = .ok (.invokespecial 3, 3) := by decide +kernel
theorem dX6_init_4 : decode cX6_init 4 = .ok (.return_, 1) := by decide +kernel
theorem dX6_shown_0 : decode cX6_shown 0 = .ok (.aload_n 0, 1) := by decide +kernel
theorem dX6_shown_1 : decode cX6_shown 1 = .ok (.iload_n 1, 1) := by decide +kernel
theorem dX6_shown_2 : decode cX6_shown 2 = .ok (.iload_n 2, 1) := by decide +kernel
theorem dX6_shown_3 : decode cX6_shown 3 = .ok (.iload_n 3, 1) := by decide +kernel
theorem dX6_shown_4 : decode cX6_shown 4 = .ok (.bipush 9, 2) := by decide +kernel
theorem dX6_shown_6 : decode cX6_shown 6 = .ok (.if_icmp .lt 7, 3) := by decide +kernel
theorem dX6_shown_9 : decode cX6_shown 9 = .ok (.iconst 1, 1) := by decide +kernel
theorem dX6_shown_10 : decode cX6_shown 10 = .ok (.goto 6, 3) := by decide +kernel
theorem dX6_shown_13 : decode cX6_shown 13 = .ok (.iload_n 3, 1) := by decide +kernel
theorem dX6_shown_14 : decode cX6_shown 14 = .ok (.iconst 1, 1) := by decide +kernel
theorem dX6_shown_15 : decode cX6_shown 15 = .ok (.iadd, 1) := by decide +kernel
theorem dX6_shown_16 : decode cX6_shown 16 = .ok (.invokespecial 9, 3) := by decide +kernel
theorem dX6_shown_19 : decode cX6_shown 19 = .ok (.ireturn, 1) := by decide +kernel
theorem dX7_init_0 : decode cX7_init 0 = .ok (.aload_n 0, 1) := by decide +kernel
theorem dX7_init_1 : decode cX7_init 1 = .ok (.invokespecial 3, 3) := by decide +kernel
theorem dX7_init_4 : decode cX7_init 4 = .ok (.aload_n 0, 1) := by decide +kernel
theorem dX7_init_5 : decode cX7_init 5 = .ok (.bipush 60, 2) := by decide +kernel
theorem dX7_init_7 : decode cX7_init 7 = .ok (.newarray .int, 2) := by decide +kernel
theorem dX7_init_9 : decode cX7_init 9 = .ok (.putfield 9, 3) := by decide +kernel
theorem dX7_init_12 : decode cX7_init 12 = .ok (.aload_n 0, 1) := by decide +kernel
theorem dX7_init_13 : decode cX7_init 13 = .ok (.iconst (-1), 1) := by decide +kernel
theorem dX7_init_14 : decode cX7_init 14 = .ok (.putfield 15, 3) := by decide +kernel
theorem dX7_init_17 : decode cX7_init 17 = .ok (.return_, 1) := by decide +kernel
theorem dX7_isThere_0 : decode cX7_isThere 0 = .ok (.aload_n 0, 1) := by decide +kernel
theorem dX7_isThere_1 : decode cX7_isThere 1 = .ok (.getfield 15, 3) := by decide +kernel
theorem dX7_isThere_4 : decode cX7_isThere 4 = .ok (.iconst (-1), 1) := by decide +kernel
theorem dX7_isThere_5 : decode cX7_isThere 5 = .ok (.if_icmp .eq 7, 3) := by decide +kernel
theorem dX7_isThere_8 : decode cX7_isThere 8 = .ok (.iconst 1, 1) := by decide +kernel
theorem dX7_isThere_9 : decode cX7_isThere 9 = .ok (.goto 4, 3) := by decide +kernel
theorem dX7_isThere_12 : decode cX7_isThere 12 = .ok (.iconst 0, 1) := by decide +kernel
theorem dX7_isThere_13 : decode cX7_isThere 13 = .ok (.ireturn, 1) := by decide +kernel
theorem dX7_holds_0 : decode cX7_holds 0 = .ok (.iload_n 1, 1) := by decide +kernel
theorem dX7_holds_1 : decode cX7_holds 1 = .ok (.ifCond .lt 17, 3) := by decide +kernel
theorem dX7_holds_4 : decode cX7_holds 4 = .ok (.iload_n 1, 1) := by decide +kernel
theorem dX7_holds_5 : decode cX7_holds 5 = .ok (.aload_n 0, 1) := by decide +kernel
theorem dX7_holds_6 : decode cX7_holds 6 = .ok (.getfield 15, 3) := by decide +kernel
theorem dX7_holds_9 : decode cX7_holds 9 = .ok (.iload_n 2, 1) := by decide +kernel
theorem dX7_holds_10 : decode cX7_holds 10 = .ok (.isub, 1) := by decide +kernel
theorem dX7_holds_11 : decode cX7_holds 11 = .ok (.if_icmp .gt 7, 3) := by decide +kernel
theorem dX7_holds_14 : decode cX7_holds 14 = .ok (.iconst 1, 1) := by decide +kernel
theorem dX7_holds_15 : decode cX7_holds 15 = .ok (.goto 4, 3) := by decide +kernel
theorem dX7_holds_18 : decode cX7_holds 18 = .ok (.iconst 0, 1) := by decide +kernel
theorem dX7_holds_19 : decode cX7_holds 19 = .ok (.ireturn, 1) := by decide +kernel
theorem dX7_make_0 : decode cX7_make 0 = .ok (.aload_n 0, 1) := by decide +kernel
theorem dX7_make_1 : decode cX7_make 1 = .ok (.iload_n 1, 1) := by decide +kernel
theorem dX7_make_2 : decode cX7_make 2 = .ok (.putfield 15, 3) := by decide +kernel
theorem dX7_make_5 : decode cX7_make 5 = .ok (.iconst 0, 1) := by decide +kernel
theorem dX7_make_6 : decode cX7_make 6 = .ok (.istore_n 3, 1) := by decide +kernel
theorem dX7_make_7 : decode cX7_make 7 = .ok (.iload_n 3, 1) := by decide +kernel
theorem dX7_make_8 : decode cX7_make 8 = .ok (.iload_n 1, 1) := by decide +kernel
theorem dX7_make_9 : decode cX7_make 9 = .ok (.if_icmp .ge 25, 3) := by decide +kernel
theorem dX7_make_12 : decode cX7_make 12 = .ok (.iload_n 3, 1) := by decide +kernel
theorem dX7_make_13 : decode cX7_make 13 = .ok (.aload_n 0, 1) := by decide +kernel
theorem dX7_make_14 : decode cX7_make 14 = .ok (.getfield 9, 3) := by decide +kernel
theorem dX7_make_17 : decode cX7_make 17 = .ok (.arraylength, 1) := by decide +kernel
theorem dX7_make_18 : decode cX7_make 18 = .ok (.if_icmp .ge 16, 3) := by decide +kernel
theorem dX7_make_21 : decode cX7_make 21 = .ok (.aload_n 0, 1) := by decide +kernel
theorem dX7_make_22 : decode cX7_make 22 = .ok (.getfield 9, 3) := by decide +kernel
theorem dX7_make_25 : decode cX7_make 25 = .ok (.iload_n 3, 1) := by decide +kernel
theorem dX7_make_26 : decode cX7_make 26 = .ok (.iload_n 2, 1) := by decide +kernel
theorem dX7_make_27 : decode cX7_make 27 = .ok (.iastore, 1) := by decide +kernel
theorem dX7_make_28 : decode cX7_make 28 = .ok (.iinc 3 1, 3) := by decide +kernel
theorem dX7_make_31 : decode cX7_make 31 = .ok (.goto (-24), 3) := by decide +kernel
theorem dX7_make_34 : decode cX7_make 34 = .ok (.return_, 1) := by decide +kernel
theorem dX7_take_0 : decode cX7_take 0 = .ok (.aload_n 0, 1) := by decide +kernel
theorem dX7_take_1 : decode cX7_take 1 = .ok (.iload_n 2, 1) := by decide +kernel
theorem dX7_take_2 : decode cX7_take 2 = .ok (.aload_n 1, 1) := by decide +kernel
theorem dX7_take_3 : decode cX7_take 3 = .ok (.arraylength, 1) := by decide +kernel
theorem dX7_take_4 : decode cX7_take 4 = .ok (.invokestatic 19, 3) := by decide +kernel
theorem dX7_take_7 : decode cX7_take 7 = .ok (.putfield 15, 3) := by decide +kernel
theorem dX7_take_10 : decode cX7_take 10 = .ok (.iconst 0, 1) := by decide +kernel
theorem dX7_take_11 : decode cX7_take 11 = .ok (.istore_n 3, 1) := by decide +kernel
theorem dX7_take_12 : decode cX7_take 12 = .ok (.iload_n 3, 1) := by decide +kernel
theorem dX7_take_13 : decode cX7_take 13 = .ok (.aload_n 0, 1) := by decide +kernel
theorem dX7_take_14 : decode cX7_take 14 = .ok (.getfield 15, 3) := by decide +kernel
theorem dX7_take_17 : decode cX7_take 17 = .ok (.if_icmp .ge 18, 3) := by decide +kernel
theorem dX7_take_20 : decode cX7_take 20 = .ok (.aload_n 0, 1) := by decide +kernel
theorem dX7_take_21 : decode cX7_take 21 = .ok (.getfield 9, 3) := by decide +kernel
theorem dX7_take_24 : decode cX7_take 24 = .ok (.iload_n 3, 1) := by decide +kernel
theorem dX7_take_25 : decode cX7_take 25 = .ok (.aload_n 1, 1) := by decide +kernel
theorem dX7_take_26 : decode cX7_take 26 = .ok (.iload_n 3, 1) := by decide +kernel
theorem dX7_take_27 : decode cX7_take 27 = .ok (.iaload, 1) := by decide +kernel
theorem dX7_take_28 : decode cX7_take 28 = .ok (.iastore, 1) := by decide +kernel
theorem dX7_take_29 : decode cX7_take 29 = .ok (.iinc 3 1, 3) := by decide +kernel
theorem dX7_take_32 : decode cX7_take 32 = .ok (.goto (-20), 3) := by decide +kernel
theorem dX7_take_35 : decode cX7_take 35 = .ok (.return_, 1) := by decide +kernel
theorem dX8_init_0 : decode cX8_init 0 = .ok (.aload_n 0, 1) := by decide +kernel
theorem dX8_init_1 : decode cX8_init 1 = .ok (.invokespecial 1, 3) := by decide +kernel
theorem dX8_init_4 : decode cX8_init 4 = .ok (.return_, 1) := by decide +kernel
theorem dX8_shown_0 : decode cX8_shown 0 = .ok (.aload_n 0, 1) := by decide +kernel
theorem dX8_shown_1 : decode cX8_shown 1 = .ok (.bipush 9, 2) := by decide +kernel
theorem dX8_shown_3 : decode cX8_shown 3 = .ok (.iload_n 1, 1) := by decide +kernel
theorem dX8_shown_4 : decode cX8_shown 4 = .ok (.isub, 1) := by decide +kernel
theorem dX8_shown_5 : decode cX8_shown 5 = .ok (.iload_n 2, 1) := by decide +kernel
theorem dX8_shown_6 : decode cX8_shown 6 = .ok (.iload_n 3, 1) := by decide +kernel
theorem dX8_shown_7 : decode cX8_shown 7 = .ok (.invokespecial 7, 3) := by decide +kernel
theorem dX8_shown_10 : decode cX8_shown 10 = .ok (.ireturn, 1) := by decide +kernel
theorem dX9_init_0 : decode cX9_init 0 = .ok (.aload_n 0, 1) := by decide +kernel
theorem dX9_init_1 : decode cX9_init 1 = .ok (.invokespecial 1, 3) := by decide +kernel
theorem dX9_init_4 : decode cX9_init 4 = .ok (.return_, 1) := by decide +kernel
theorem dX9_shown_0 : decode cX9_shown 0 = .ok (.aload_n 0, 1) := by decide +kernel
theorem dX9_shown_1 : decode cX9_shown 1 = .ok (.iload_n 1, 1) := by decide +kernel
theorem dX9_shown_2 : decode cX9_shown 2 = .ok (.iload_n 2, 1) := by decide +kernel
theorem dX9_shown_3 : decode cX9_shown 3 = .ok (.iload_n 3, 1) := by decide +kernel
theorem dX9_shown_4 : decode cX9_shown 4 = .ok (.invokespecial 7, 3) := by decide +kernel
theorem dX9_shown_7 : decode cX9_shown 7 = .ok (.istore 4, 2) := by decide +kernel
theorem dX9_shown_9 : decode cX9_shown 9 = .ok (.aload_n 0, 1) := by decide +kernel
theorem dX9_shown_10 : decode cX9_shown 10 = .ok (.iload_n 2, 1) := by decide +kernel
theorem dX9_shown_11 : decode cX9_shown 11 = .ok (.iload_n 3, 1) := by decide +kernel
theorem dX9_shown_12 : decode cX9_shown 12 = .ok (.invokevirtual 11, 3) := by decide +kernel
theorem dX9_shown_15 : decode cX9_shown 15 = .ok (.ifCond .eq 11, 3) := by decide +kernel
theorem dX9_shown_18 : decode cX9_shown 18 = .ok (.iload 4, 2) := by decide +kernel
theorem dX9_shown_20 : decode cX9_shown 20 = .ok (.bipush 10, 2) := by decide +kernel
theorem dX9_shown_22 : decode cX9_shown 22 = .ok (.irem, 1) := by decide +kernel
theorem dX9_shown_23 : decode cX9_shown 23 = .ok (.goto 5, 3) := by decide +kernel
theorem dX9_shown_26 : decode cX9_shown 26 = .ok (.iload 4, 2) := by decide +kernel
theorem dX9_shown_28 : decode cX9_shown 28 = .ok (.ireturn, 1) := by decide +kernel
theorem dX9_isWithoutTens_0 : decode cX9_isWithoutTens 0 = .ok (.iload_n 2, 1) := by decide +kernel
theorem dX9_isWithoutTens_1 : decode cX9_isWithoutTens 1 = .ok (.iload_n 1, 1) := by decide +kernel
theorem dX9_isWithoutTens_2 : decode cX9_isWithoutTens 2 = .ok (.if_icmp .ne 7, 3) := by decide +kernel
theorem dX9_isWithoutTens_5 : decode cX9_isWithoutTens 5 = .ok (.iconst 1, 1) := by decide +kernel
theorem dX9_isWithoutTens_6 : decode cX9_isWithoutTens 6 = .ok (.goto 4, 3) := by decide +kernel
theorem dX9_isWithoutTens_9 : decode cX9_isWithoutTens 9 = .ok (.iconst 0, 1) := by decide +kernel
theorem dX9_isWithoutTens_10 : decode cX9_isWithoutTens 10 = .ok (.ireturn, 1) := by decide +kernel
theorem dX10_init_0 : decode cX10_init 0 = .ok (.aload_n 0, 1) := by decide +kernel
theorem dX10_init_1 : decode cX10_init 1 = .ok (.invokespecial 1, 3) := by decide +kernel
theorem dX10_init_4 : decode cX10_init 4 = .ok (.aload_n 0, 1) := by decide +kernel
theorem dX10_init_5 : decode cX10_init 5 = .ok (.bipush 6, 2) := by decide +kernel
theorem dX10_init_7 : decode cX10_init 7 = .ok (.anewarray 9, 3) := by decide +kernel
theorem dX10_init_10 : decode cX10_init 10 = .ok (.putfield 11, 3) := by decide +kernel
theorem dX10_init_13 : decode cX10_init 13 = .ok (.iconst 0, 1) := by decide +kernel
theorem dX10_init_14 : decode cX10_init 14 = .ok (.istore_n 1, 1) := by decide +kernel
theorem dX10_init_15 : decode cX10_init 15 = .ok (.iload_n 1, 1) := by decide +kernel
theorem dX10_init_16 : decode cX10_init 16 = .ok (.bipush 6, 2) := by decide +kernel
theorem dX10_init_18 : decode cX10_init 18 = .ok (.if_icmp .ge 22, 3) := by decide +kernel
theorem dX10_init_21 : decode cX10_init 21 = .ok (.aload_n 0, 1) := by decide +kernel
theorem dX10_init_22 : decode cX10_init 22 = .ok (.getfield 11, 3) := by decide +kernel
theorem dX10_init_25 : decode cX10_init 25 = .ok (.iload_n 1, 1) := by decide +kernel
theorem dX10_init_26 : decode cX10_init 26 = .ok (.new 9, 3) := by decide +kernel
theorem dX10_init_29 : decode cX10_init 29 = .ok (.dup, 1) := by decide +kernel
theorem dX10_init_30 : decode cX10_init 30 = .ok (.invokespecial 15, 3) := by decide +kernel
theorem dX10_init_33 : decode cX10_init 33 = .ok (.aastore, 1) := by decide +kernel
theorem dX10_init_34 : decode cX10_init 34 = .ok (.iinc 1 1, 3) := by decide +kernel
theorem dX10_init_37 : decode cX10_init 37 = .ok (.goto (-22), 3) := by decide +kernel
theorem dX10_init_40 : decode cX10_init 40 = .ok (.aload_n 0, 1) := by decide +kernel
theorem dX10_init_41 : decode cX10_init 41 = .ok (.iconst 4, 1) := by decide +kernel
theorem dX10_init_42 : decode cX10_init 42 = .ok (.anewarray 9, 3) := by decide +kernel
theorem dX10_init_45 : decode cX10_init 45 = .ok (.putfield 16, 3) := by decide +kernel
theorem dX10_init_48 : decode cX10_init 48 = .ok (.iconst 0, 1) := by decide +kernel
theorem dX10_init_49 : decode cX10_init 49 = .ok (.istore_n 1, 1) := by decide +kernel
theorem dX10_init_50 : decode cX10_init 50 = .ok (.iload_n 1, 1) := by decide +kernel
theorem dX10_init_51 : decode cX10_init 51 = .ok (.iconst 4, 1) := by decide +kernel
theorem dX10_init_52 : decode cX10_init 52 = .ok (.if_icmp .ge 22, 3) := by decide +kernel
theorem dX10_init_55 : decode cX10_init 55 = .ok (.aload_n 0, 1) := by decide +kernel
theorem dX10_init_56 : decode cX10_init 56 = .ok (.getfield 16, 3) := by decide +kernel
theorem dX10_init_59 : decode cX10_init 59 = .ok (.iload_n 1, 1) := by decide +kernel
theorem dX10_init_60 : decode cX10_init 60 = .ok (.new 9, 3) := by decide +kernel
theorem dX10_init_63 : decode cX10_init 63 = .ok (.dup, 1) := by decide +kernel
theorem dX10_init_64 : decode cX10_init 64 = .ok (.invokespecial 15, 3) := by decide +kernel
theorem dX10_init_67 : decode cX10_init 67 = .ok (.aastore, 1) := by decide +kernel
theorem dX10_init_68 : decode cX10_init 68 = .ok (.iinc 1 1, 3) := by decide +kernel
theorem dX10_init_71 : decode cX10_init 71 = .ok (.goto (-21), 3) := by decide +kernel
theorem dX10_init_74 : decode cX10_init 74 = .ok (.aload_n 0, 1) := by decide +kernel
theorem dX10_init_75 : decode cX10_init 75 = .ok (.bipush 6, 2) := by decide +kernel
theorem dX10_init_77 : decode cX10_init 77 = .ok (.anewarray 19, 3) := by decide +kernel
theorem dX10_init_80 : decode cX10_init 80 = .ok (.putfield 21, 3) := by decide +kernel
theorem dX10_init_83 : decode cX10_init 83 = .ok (.aload_n 0, 1) := by decide +kernel
theorem dX10_init_84 : decode cX10_init 84 = .ok (.getfield 21, 3) := by decide +kernel
theorem dX10_init_87 : decode cX10_init 87 = .ok (.iconst 0, 1) := by decide +kernel
theorem dX10_init_88 : decode cX10_init 88 = .ok (.new 19, 3) := by decide +kernel
theorem dX10_init_91 : decode cX10_init 91 = .ok (.dup, 1) := by decide +kernel
theorem dX10_init_92 : decode cX10_init 92 = .ok (.invokespecial 25, 3) := by decide +kernel
theorem dX10_init_95 : decode cX10_init 95 = .ok (.aastore, 1) := by decide +kernel
theorem dX10_init_96 : decode cX10_init 96 = .ok (.aload_n 0, 1) := by decide +kernel
theorem dX10_init_97 : decode cX10_init 97 = .ok (.getfield 21, 3) := by decide +kernel
theorem dX10_init_100 : decode cX10_init 100 = .ok (.iconst 1, 1) := by decide +kernel
theorem dX10_init_101 : decode cX10_init 101 = .ok (.new 26, 3) := by decide +kernel
theorem dX10_init_104 : decode cX10_init 104 = .ok (.dup, 1) := by decide +kernel
theorem dX10_init_105 : decode cX10_init 105 = .ok (.invokespecial 28, 3) := by decide +kernel
theorem dX10_init_108 : decode cX10_init 108 = .ok (.aastore, 1) := by decide +kernel
theorem dX10_init_109 : decode cX10_init 109 = .ok (.aload_n 0, 1) := by decide +kernel
theorem dX10_init_110 : decode cX10_init 110 = .ok (.getfield 21, 3) := by decide +kernel
theorem dX10_init_113 : decode cX10_init 113 = .ok (.iconst 2, 1) := by decide +kernel
theorem dX10_init_114 : decode cX10_init 114 = .ok (.new 29, 3) := by decide +kernel
theorem dX10_init_117 : decode cX10_init 117 = .ok (.dup, 1) := by decide +kernel
theorem dX10_init_118 : decode cX10_init 118 = .ok (.invokespecial 31, 3) := by decide +kernel
theorem dX10_init_121 : decode cX10_init 121 = .ok (.aastore, 1) := by decide +kernel
theorem dX10_init_122 : decode cX10_init 122 = .ok (.aload_n 0, 1) := by decide +kernel
theorem dX10_init_123 : decode cX10_init 123 = .ok (.getfield 21, 3) := by decide +kernel
theorem dX10_init_126 : decode cX10_init 126 = .ok (.iconst 3, 1) := by decide +kernel
theorem dX10_init_127 : decode cX10_init 127 = .ok (.new 32, 3) := by decide +kernel
theorem dX10_init_130 : decode cX10_init 130 = .ok (.dup, 1) := by decide +kernel
theorem dX10_init_131 : decode cX10_init 131 = .ok (.invokespecial 34, 3) := by decide +kernel
theorem dX10_init_134 : decode cX10_init 134 = .ok (.aastore, 1) := by decide +kernel
theorem dX10_init_135 : decode cX10_init 135 = .ok (.aload_n 0, 1) := by decide +kernel
theorem dX10_init_136 : decode cX10_init 136 = .ok (.getfield 21, 3) := by decide +kernel
theorem dX10_init_139 : decode cX10_init 139 = .ok (.iconst 4, 1) := by decide +kernel
theorem dX10_init_140 : decode cX10_init 140 = .ok (.new 35, 3) := by decide +kernel
theorem dX10_init_143 : decode cX10_init 143 = .ok (.dup, 1) := by decide +kernel
theorem dX10_init_144 : decode cX10_init 144 = .ok (.invokespecial 37, 3) := by decide +kernel
theorem dX10_init_147 : decode cX10_init 147 = .ok (.aastore, 1) := by decide +kernel
theorem dX10_init_148 : decode cX10_init 148 = .ok (.aload_n 0, 1) := by decide +kernel
theorem dX10_init_149 : decode cX10_init 149 = .ok (.getfield 21, 3) := by decide +kernel
theorem dX10_init_152 : decode cX10_init 152 = .ok (.iconst 5, 1) := by decide +kernel
theorem dX10_init_153 : decode cX10_init 153 = .ok (.new 38, 3) := by decide +kernel
theorem dX10_init_156 : decode cX10_init 156 = .ok (.dup, 1) := by decide +kernel
theorem dX10_init_157 : decode cX10_init 157 = .ok (.invokespecial 40, 3) := by decide +kernel
theorem dX10_init_160 : decode cX10_init 160 = .ok (.aastore, 1) := by decide +kernel
theorem dX10_init_161 : decode cX10_init 161 = .ok (.aload_n 0, 1) := by decide +kernel
theorem dX10_init_162 : decode cX10_init 162 = .ok (.bipush 7, 2) := by decide +kernel
theorem dX10_init_164 : decode cX10_init 164 = .ok (.anewarray 41, 3) := by decide +kernel
theorem dX10_init_167 : decode cX10_init 167 = .ok (.putfield 43, 3) := by decide +kernel
theorem dX10_init_170 : decode cX10_init 170 = .ok (.iconst 0, 1) := by decide +kernel
theorem dX10_init_171 : decode cX10_init 171 = .ok (.istore_n 1, 1) := by decide +kernel
theorem dX10_init_172 : decode cX10_init 172 = .ok (.iload_n 1, 1) := by decide +kernel
theorem dX10_init_173 : decode cX10_init 173 = .ok (.bipush 7, 2) := by decide +kernel
theorem dX10_init_175 : decode cX10_init 175 = .ok (.if_icmp .ge 28, 3) := by decide +kernel
theorem dX10_init_178 : decode cX10_init 178 = .ok (.aload_n 0, 1) := by decide +kernel
theorem dX10_init_179 : decode cX10_init 179 = .ok (.getfield 43, 3) := by decide +kernel
theorem dX10_init_182 : decode cX10_init 182 = .ok (.iload_n 1, 1) := by decide +kernel
theorem dX10_init_183 : decode cX10_init 183 = .ok (.new 41, 3) := by decide +kernel
theorem dX10_init_186 : decode cX10_init 186 = .ok (.dup, 1) := by decide +kernel
theorem dX10_init_187 : decode cX10_init 187 = .ok (.aload_n 0, 1) := by decide +kernel
theorem dX10_init_188 : decode cX10_init 188 = .ok (.getfield 21, 3) := by decide +kernel
theorem dX10_init_191 : decode cX10_init 191 = .ok (.iconst 0, 1) := by decide +kernel
theorem dX10_init_192 : decode cX10_init 192 = .ok (.aaload, 1) := by decide +kernel
theorem dX10_init_193 : decode cX10_init 193 = .ok (.invokespecial 47, 3) := by decide +kernel
theorem dX10_init_196 : decode cX10_init 196 = .ok (.aastore, 1) := by decide +kernel
theorem dX10_init_197 : decode cX10_init 197 = .ok (.iinc 1 1, 3) := by decide +kernel
theorem dX10_init_200 : decode cX10_init 200 = .ok (.goto (-28), 3) := by decide +kernel
theorem dX10_init_203 : decode cX10_init 203 = .ok (.aload_n 0, 1) := by decide +kernel
theorem dX10_init_204 : decode cX10_init 204 = .ok (.new 50, 3) := by decide +kernel
theorem dX10_init_207 : decode cX10_init 207 = .ok (.dup, 1) := by decide +kernel
theorem dX10_init_208 : decode cX10_init 208 = .ok (.invokespecial 52, 3) := by decide +kernel
theorem dX10_init_211 : decode cX10_init 211 = .ok (.putfield 53, 3) := by decide +kernel
theorem dX10_init_214 : decode cX10_init 214 = .ok (.aload_n 0, 1) := by decide +kernel
theorem dX10_init_215 : decode cX10_init 215 = .ok (.iconst 3, 1) := by decide +kernel
theorem dX10_init_216 : decode cX10_init 216 = .ok (.anewarray 50, 3) := by decide +kernel
theorem dX10_init_219 : decode cX10_init 219 = .ok (.putfield 57, 3) := by decide +kernel
theorem dX10_init_222 : decode cX10_init 222 = .ok (.iconst 0, 1) := by decide +kernel
theorem dX10_init_223 : decode cX10_init 223 = .ok (.istore_n 1, 1) := by decide +kernel
theorem dX10_init_224 : decode cX10_init 224 = .ok (.iload_n 1, 1) := by decide +kernel
theorem dX10_init_225 : decode cX10_init 225 = .ok (.iconst 3, 1) := by decide +kernel
theorem dX10_init_226 : decode cX10_init 226 = .ok (.if_icmp .ge 22, 3) := by decide +kernel
theorem dX10_init_229 : decode cX10_init 229 = .ok (.aload_n 0, 1) := by decide +kernel
theorem dX10_init_230 : decode cX10_init 230 = .ok (.getfield 57, 3) := by decide +kernel
theorem dX10_init_233 : decode cX10_init 233 = .ok (.iload_n 1, 1) := by decide +kernel
theorem dX10_init_234 : decode cX10_init 234 = .ok (.new 50, 3) := by decide +kernel
theorem dX10_init_237 : decode cX10_init 237 = .ok (.dup, 1) := by decide +kernel
theorem dX10_init_238 : decode cX10_init 238 = .ok (.invokespecial 52, 3) := by decide +kernel
theorem dX10_init_241 : decode cX10_init 241 = .ok (.aastore, 1) := by decide +kernel
theorem dX10_init_242 : decode cX10_init 242 = .ok (.iinc 1 1, 3) := by decide +kernel
theorem dX10_init_245 : decode cX10_init 245 = .ok (.goto (-21), 3) := by decide +kernel
theorem dX10_init_248 : decode cX10_init 248 = .ok (.aload_n 0, 1) := by decide +kernel
theorem dX10_init_249 : decode cX10_init 249 = .ok (.new 61, 3) := by decide +kernel
theorem dX10_init_252 : decode cX10_init 252 = .ok (.dup, 1) := by decide +kernel
theorem dX10_init_253 : decode cX10_init 253 = .ok (.invokespecial 63, 3) := by decide +kernel
theorem dX10_init_256 : decode cX10_init 256 = .ok (.putfield 64, 3) := by decide +kernel
theorem dX10_init_259 : decode cX10_init 259 = .ok (.aload_n 0, 1) := by decide +kernel
theorem dX10_init_260 : decode cX10_init 260 = .ok (.lconst 1, 1) := by decide +kernel
theorem dX10_init_261 : decode cX10_init 261 = .ok (.putfield 68, 3) := by decide +kernel
theorem dX10_init_264 : decode cX10_init 264 = .ok (.aload_n 0, 1) := by decide +kernel
theorem dX10_init_265 : decode cX10_init 265 = .ok (.bipush 6, 2) := by decide +kernel
theorem dX10_init_267 : decode cX10_init 267 = .ok (.newarray .int, 2) := by decide +kernel
theorem dX10_init_269 : decode cX10_init 269 = .ok (.putfield 72, 3) := by decide +kernel
theorem dX10_init_272 : decode cX10_init 272 = .ok (.return_, 1) := by decide +kernel
theorem dX10_row_0 : decode cX10_row 0 = .ok (.iload_n 1, 1) := by decide +kernel
theorem dX10_row_1 : decode cX10_row 1 = .ok (.invokestatic 76, 3) := by decide +kernel
theorem dX10_row_4 : decode cX10_row 4 = .ok (.ifCond .eq 9, 3) := by decide +kernel
theorem dX10_row_7 : decode cX10_row 7 = .ok (.iload_n 2, 1) := by decide +kernel
theorem dX10_row_8 : decode cX10_row 8 = .ok (.bipush 40, 2) := by decide +kernel
theorem dX10_row_10 : decode cX10_row 10 = .ok (.if_icmp .le 5, 3) := by decide +kernel
theorem dX10_row_13 : decode cX10_row 13 = .ok (.iconst (-1), 1) := by decide +kernel
theorem dX10_row_14 : decode cX10_row 14 = .ok (.ireturn, 1) := by decide +kernel
theorem dX10_row_15 : decode cX10_row 15 = .ok (.iload_n 2, 1) := by decide +kernel
theorem dX10_row_16 : decode cX10_row 16 = .ok (.ifCond .ge 9, 3) := by decide +kernel
theorem dX10_row_19 : decode cX10_row 19 = .ok (.aload_n 0, 1) := by decide +kernel
theorem dX10_row_20 : decode cX10_row 20 = .ok (.iconst 5, 1) := by decide +kernel
theorem dX10_row_21 : decode cX10_row 21 = .ok (.invokevirtual 80, 3) := by decide +kernel
theorem dX10_row_24 : decode cX10_row 24 = .ok (.ireturn, 1) := by decide +kernel
theorem dX10_row_25 : decode cX10_row 25 = .ok (.aload_n 0, 1) := by decide +kernel
theorem dX10_row_26 : decode cX10_row 26 = .ok (.getfield 11, 3) := by decide +kernel
theorem dX10_row_29 : decode cX10_row 29 = .ok (.iload_n 1, 1) := by decide +kernel
theorem dX10_row_30 : decode cX10_row 30 = .ok (.aaload, 1) := by decide +kernel
theorem dX10_row_31 : decode cX10_row 31 = .ok (.iload_n 2, 1) := by decide +kernel
theorem dX10_row_32 : decode cX10_row 32 = .ok (.iconst 0, 1) := by decide +kernel
theorem dX10_row_33 : decode cX10_row 33 = .ok (.invokevirtual 84, 3) := by decide +kernel
theorem dX10_row_36 : decode cX10_row 36 = .ok (.iload_n 2, 1) := by decide +kernel
theorem dX10_row_37 : decode cX10_row 37 = .ok (.ireturn, 1) := by decide +kernel
theorem dX10_lay_0 : decode cX10_lay 0 = .ok (.iload_n 1, 1) := by decide +kernel
theorem dX10_lay_1 : decode cX10_lay 1 = .ok (.invokestatic 76, 3) := by decide +kernel
theorem dX10_lay_4 : decode cX10_lay 4 = .ok (.ifCond .ne 5, 3) := by decide +kernel
theorem dX10_lay_7 : decode cX10_lay 7 = .ok (.iconst (-1), 1) := by decide +kernel
theorem dX10_lay_8 : decode cX10_lay 8 = .ok (.ireturn, 1) := by decide +kernel
theorem dX10_lay_9 : decode cX10_lay 9 = .ok (.aload_n 0, 1) := by decide +kernel
theorem dX10_lay_10 : decode cX10_lay 10 = .ok (.getfield 11, 3) := by decide +kernel
theorem dX10_lay_13 : decode cX10_lay 13 = .ok (.iload_n 1, 1) := by decide +kernel
theorem dX10_lay_14 : decode cX10_lay 14 = .ok (.aaload, 1) := by decide +kernel
theorem dX10_lay_15 : decode cX10_lay 15 = .ok (.iload_n 2, 1) := by decide +kernel
theorem dX10_lay_16 : decode cX10_lay 16 = .ok (.invokestatic 88, 3) := by decide +kernel
theorem dX10_lay_19 : decode cX10_lay 19 = .ok (.istore 4, 2) := by decide +kernel
theorem dX10_lay_21 : decode cX10_lay 21 = .ok (.iload 4, 2) := by decide +kernel
theorem dX10_lay_23 : decode cX10_lay 23 = .ok (.ifCond .eq 10, 3) := by decide +kernel
theorem dX10_lay_26 : decode cX10_lay 26 = .ok (.aload_n 0, 1) := by decide +kernel
theorem dX10_lay_27 : decode cX10_lay 27 = .ok (.iload 4, 2) := by decide +kernel
theorem dX10_lay_29 : decode cX10_lay 29 = .ok (.invokevirtual 80, 3) := by decide +kernel
theorem dX10_lay_32 : decode cX10_lay 32 = .ok (.ireturn, 1) := by decide +kernel
theorem dX10_lay_33 : decode cX10_lay 33 = .ok (.aload_n 0, 1) := by decide +kernel
theorem dX10_lay_34 : decode cX10_lay 34 = .ok (.aload_n 0, 1) := by decide +kernel
theorem dX10_lay_35 : decode cX10_lay 35 = .ok (.getfield 11, 3) := by decide +kernel
theorem dX10_lay_38 : decode cX10_lay 38 = .ok (.iload_n 1, 1) := by decide +kernel
theorem dX10_lay_39 : decode cX10_lay 39 = .ok (.aaload, 1) := by decide +kernel
theorem dX10_lay_40 : decode cX10_lay 40 = .ok (.getfield 92, 3) := by decide +kernel
theorem dX10_lay_43 : decode cX10_lay 43 = .ok (.iload_n 2, 1) := by decide +kernel
theorem dX10_lay_44 : decode cX10_lay 44 = .ok (.iaload, 1) := by decide +kernel
theorem dX10_lay_45 : decode cX10_lay 45 = .ok (.putfield 95, 3) := by decide +kernel
theorem dX10_lay_48 : decode cX10_lay 48 = .ok (.aload_n 0, 1) := by decide +kernel
theorem dX10_lay_49 : decode cX10_lay 49 = .ok (.getfield 11, 3) := by decide +kernel
theorem dX10_lay_52 : decode cX10_lay 52 = .ok (.iload_n 1, 1) := by decide +kernel
theorem dX10_lay_53 : decode cX10_lay 53 = .ok (.aaload, 1) := by decide +kernel
theorem dX10_lay_54 : decode cX10_lay 54 = .ok (.getfield 92, 3) := by decide +kernel
theorem dX10_lay_57 : decode cX10_lay 57 = .ok (.iload_n 2, 1) := by decide +kernel
theorem dX10_lay_58 : decode cX10_lay 58 = .ok (.iload_n 3, 1) := by decide +kernel
theorem dX10_lay_59 : decode cX10_lay 59 = .ok (.iastore, 1) := by decide +kernel
theorem dX10_lay_60 : decode cX10_lay 60 = .ok (.iconst 1, 1) := by decide +kernel
theorem dX10_lay_61 : decode cX10_lay 61 = .ok (.ireturn, 1) := by decide +kernel
theorem dX10_at_0 : decode cX10_at 0 = .ok (.iload_n 1, 1) := by decide +kernel
theorem dX10_at_1 : decode cX10_at 1 = .ok (.invokestatic 76, 3) := by decide +kernel
theorem dX10_at_4 : decode cX10_at 4 = .ok (.ifCond .ne 5, 3) := by decide +kernel
theorem dX10_at_7 : decode cX10_at 7 = .ok (.iconst (-1), 1) := by decide +kernel
theorem dX10_at_8 : decode cX10_at 8 = .ok (.ireturn, 1) := by decide +kernel
theorem dX10_at_9 : decode cX10_at 9 = .ok (.aload_n 0, 1) := by decide +kernel
theorem dX10_at_10 : decode cX10_at 10 = .ok (.getfield 11, 3) := by decide +kernel
theorem dX10_at_13 : decode cX10_at 13 = .ok (.iload_n 1, 1) := by decide +kernel
theorem dX10_at_14 : decode cX10_at 14 = .ok (.aaload, 1) := by decide +kernel
theorem dX10_at_15 : decode cX10_at 15 = .ok (.iload_n 2, 1) := by decide +kernel
theorem dX10_at_16 : decode cX10_at 16 = .ok (.invokestatic 88, 3) := by decide +kernel
theorem dX10_at_19 : decode cX10_at 19 = .ok (.istore_n 3, 1) := by decide +kernel
theorem dX10_at_20 : decode cX10_at 20 = .ok (.iload_n 3, 1) := by decide +kernel
theorem dX10_at_21 : decode cX10_at 21 = .ok (.ifCond .eq 9, 3) := by decide +kernel
theorem dX10_at_24 : decode cX10_at 24 = .ok (.aload_n 0, 1) := by decide +kernel
theorem dX10_at_25 : decode cX10_at 25 = .ok (.iload_n 3, 1) := by decide +kernel
theorem dX10_at_26 : decode cX10_at 26 = .ok (.invokevirtual 80, 3) := by decide +kernel
theorem dX10_at_29 : decode cX10_at 29 = .ok (.ireturn, 1) := by decide +kernel
theorem dX10_at_30 : decode cX10_at 30 = .ok (.aload_n 0, 1) := by decide +kernel
theorem dX10_at_31 : decode cX10_at 31 = .ok (.aload_n 0, 1) := by decide +kernel
theorem dX10_at_32 : decode cX10_at 32 = .ok (.getfield 11, 3) := by decide +kernel
theorem dX10_at_35 : decode cX10_at 35 = .ok (.iload_n 1, 1) := by decide +kernel
theorem dX10_at_36 : decode cX10_at 36 = .ok (.aaload, 1) := by decide +kernel
theorem dX10_at_37 : decode cX10_at 37 = .ok (.getfield 92, 3) := by decide +kernel
theorem dX10_at_40 : decode cX10_at 40 = .ok (.iload_n 2, 1) := by decide +kernel
theorem dX10_at_41 : decode cX10_at 41 = .ok (.iaload, 1) := by decide +kernel
theorem dX10_at_42 : decode cX10_at 42 = .ok (.putfield 95, 3) := by decide +kernel
theorem dX10_at_45 : decode cX10_at 45 = .ok (.iconst 1, 1) := by decide +kernel
theorem dX10_at_46 : decode cX10_at 46 = .ok (.ireturn, 1) := by decide +kernel
theorem dX10_tear_0 : decode cX10_tear 0 = .ok (.iload_n 1, 1) := by decide +kernel
theorem dX10_tear_1 : decode cX10_tear 1 = .ok (.invokestatic 76, 3) := by decide +kernel
theorem dX10_tear_4 : decode cX10_tear 4 = .ok (.ifCond .ne 5, 3) := by decide +kernel
theorem dX10_tear_7 : decode cX10_tear 7 = .ok (.iconst (-1), 1) := by decide +kernel
theorem dX10_tear_8 : decode cX10_tear 8 = .ok (.ireturn, 1) := by decide +kernel
theorem dX10_tear_9 : decode cX10_tear 9 = .ok (.aload_n 0, 1) := by decide +kernel
theorem dX10_tear_10 : decode cX10_tear 10 = .ok (.getfield 11, 3) := by decide +kernel
theorem dX10_tear_13 : decode cX10_tear 13 = .ok (.iload_n 1, 1) := by decide +kernel
theorem dX10_tear_14 : decode cX10_tear 14 = .ok (.aaload, 1) := by decide +kernel
theorem dX10_tear_15 : decode cX10_tear 15 = .ok (.invokevirtual 99, 3) := by decide +kernel
theorem dX10_tear_18 : decode cX10_tear 18 = .ok (.ifCond .ne 9, 3) := by decide +kernel
theorem dX10_tear_21 : decode cX10_tear 21 = .ok (.aload_n 0, 1) := by decide +kernel
theorem dX10_tear_22 : decode cX10_tear 22 = .ok (.iconst 1, 1) := by decide +kernel
theorem dX10_tear_23 : decode cX10_tear 23 = .ok (.invokevirtual 80, 3) := by decide +kernel
theorem dX10_tear_26 : decode cX10_tear 26 = .ok (.ireturn, 1) := by decide +kernel
theorem dX10_tear_27 : decode cX10_tear 27 = .ok (.aload_n 0, 1) := by decide +kernel
theorem dX10_tear_28 : decode cX10_tear 28 = .ok (.getfield 11, 3) := by decide +kernel
theorem dX10_tear_31 : decode cX10_tear 31 = .ok (.iload_n 1, 1) := by decide +kernel
theorem dX10_tear_32 : decode cX10_tear 32 = .ok (.aaload, 1) := by decide +kernel
theorem dX10_tear_33 : decode cX10_tear 33 = .ok (.iconst (-1), 1) := by decide +kernel
theorem dX10_tear_34 : decode cX10_tear 34 = .ok (.putfield 103, 3) := by decide +kernel
theorem dX10_tear_37 : decode cX10_tear 37 = .ok (.iconst 1, 1) := by decide +kernel
theorem dX10_tear_38 : decode cX10_tear 38 = .ok (.ireturn, 1) := by decide +kernel
theorem dX10_copy_0 : decode cX10_copy 0 = .ok (.iload_n 1, 1) := by decide +kernel
theorem dX10_copy_1 : decode cX10_copy 1 = .ok (.invokestatic 76, 3) := by decide +kernel
theorem dX10_copy_4 : decode cX10_copy 4 = .ok (.ifCond .eq 10, 3) := by decide +kernel
theorem dX10_copy_7 : decode cX10_copy 7 = .ok (.iload_n 3, 1) := by decide +kernel
theorem dX10_copy_8 : decode cX10_copy 8 = .ok (.invokestatic 76, 3) := by decide +kernel
theorem dX10_copy_11 : decode cX10_copy 11 = .ok (.ifCond .ne 5, 3) := by decide +kernel
theorem dX10_copy_14 : decode cX10_copy 14 = .ok (.iconst (-1), 1) := by decide +kernel
theorem dX10_copy_15 : decode cX10_copy 15 = .ok (.ireturn, 1) := by decide +kernel
theorem dX10_copy_16 : decode cX10_copy 16 = .ok (.iload 5, 2) := by decide +kernel
theorem dX10_copy_18 : decode cX10_copy 18 = .ok (.ifCond .ge 9, 3) := by decide +kernel
theorem dX10_copy_21 : decode cX10_copy 21 = .ok (.aload_n 0, 1) := by decide +kernel
theorem dX10_copy_22 : decode cX10_copy 22 = .ok (.iconst 5, 1) := by decide +kernel
theorem dX10_copy_23 : decode cX10_copy 23 = .ok (.invokevirtual 80, 3) := by decide +kernel
theorem dX10_copy_26 : decode cX10_copy 26 = .ok (.ireturn, 1) := by decide +kernel
theorem dX10_copy_27 : decode cX10_copy 27 = .ok (.aload_n 0, 1) := by decide +kernel
theorem dX10_copy_28 : decode cX10_copy 28 = .ok (.getfield 11, 3) := by decide +kernel
theorem dX10_copy_31 : decode cX10_copy 31 = .ok (.iload_n 1, 1) := by decide +kernel
theorem dX10_copy_32 : decode cX10_copy 32 = .ok (.aaload, 1) := by decide +kernel
theorem dX10_copy_33 : decode cX10_copy 33 = .ok (.invokevirtual 99, 3) := by decide +kernel
theorem dX10_copy_36 : decode cX10_copy 36 = .ok (.ifCond .eq 15, 3) := by decide +kernel
theorem dX10_copy_39 : decode cX10_copy 39 = .ok (.aload_n 0, 1) := by decide +kernel
theorem dX10_copy_40 : decode cX10_copy 40 = .ok (.getfield 11, 3) := by decide +kernel
theorem dX10_copy_43 : decode cX10_copy 43 = .ok (.iload_n 3, 1) := by decide +kernel
theorem dX10_copy_44 : decode cX10_copy 44 = .ok (.aaload, 1) := by decide +kernel
theorem dX10_copy_45 : decode cX10_copy 45 = .ok (.invokevirtual 99, 3) := by decide +kernel
theorem dX10_copy_48 : decode cX10_copy 48 = .ok (.ifCond .ne 9, 3) := by decide +kernel
theorem dX10_copy_51 : decode cX10_copy 51 = .ok (.aload_n 0, 1) := by decide +kernel
theorem dX10_copy_52 : decode cX10_copy 52 = .ok (.iconst 1, 1) := by decide +kernel
theorem dX10_copy_53 : decode cX10_copy 53 = .ok (.invokevirtual 80, 3) := by decide +kernel
theorem dX10_copy_56 : decode cX10_copy 56 = .ok (.ireturn, 1) := by decide +kernel
theorem dX10_copy_57 : decode cX10_copy 57 = .ok (.aload_n 0, 1) := by decide +kernel
theorem dX10_copy_58 : decode cX10_copy 58 = .ok (.getfield 11, 3) := by decide +kernel
theorem dX10_copy_61 : decode cX10_copy 61 = .ok (.iload_n 1, 1) := by decide +kernel
theorem dX10_copy_62 : decode cX10_copy 62 = .ok (.aaload, 1) := by decide +kernel
theorem dX10_copy_63 : decode cX10_copy 63 = .ok (.iload_n 2, 1) := by decide +kernel
theorem dX10_copy_64 : decode cX10_copy 64 = .ok (.iload 5, 2) := by decide +kernel
theorem dX10_copy_66 : decode cX10_copy 66 = .ok (.invokevirtual 106, 3) := by decide +kernel
theorem dX10_copy_69 : decode cX10_copy 69 = .ok (.ifCond .eq 19, 3) := by decide +kernel
theorem dX10_copy_72 : decode cX10_copy 72 = .ok (.aload_n 0, 1) := by decide +kernel
theorem dX10_copy_73 : decode cX10_copy 73 = .ok (.getfield 11, 3) := by decide +kernel
theorem dX10_copy_76 : decode cX10_copy 76 = .ok (.iload_n 3, 1) := by decide +kernel
theorem dX10_copy_77 : decode cX10_copy 77 = .ok (.aaload, 1) := by decide +kernel
theorem dX10_copy_78 : decode cX10_copy 78 = .ok (.iload 4, 2) := by decide +kernel
theorem dX10_copy_80 : decode cX10_copy 80 = .ok (.iload 5, 2) := by decide +kernel
theorem dX10_copy_82 : decode cX10_copy 82 = .ok (.invokevirtual 106, 3) := by decide +kernel
theorem dX10_copy_85 : decode cX10_copy 85 = .ok (.ifCond .ne 9, 3) := by decide +kernel
theorem dX10_copy_88 : decode cX10_copy 88 = .ok (.aload_n 0, 1) := by decide +kernel
theorem dX10_copy_89 : decode cX10_copy 89 = .ok (.iconst 2, 1) := by decide +kernel
theorem dX10_copy_90 : decode cX10_copy 90 = .ok (.invokevirtual 80, 3) := by decide +kernel
theorem dX10_copy_93 : decode cX10_copy 93 = .ok (.ireturn, 1) := by decide +kernel
theorem dX10_copy_94 : decode cX10_copy 94 = .ok (.aload_n 0, 1) := by decide +kernel
theorem dX10_copy_95 : decode cX10_copy 95 = .ok (.getfield 11, 3) := by decide +kernel
theorem dX10_copy_98 : decode cX10_copy 98 = .ok (.iload_n 1, 1) := by decide +kernel
theorem dX10_copy_99 : decode cX10_copy 99 = .ok (.aaload, 1) := by decide +kernel
theorem dX10_copy_100 : decode cX10_copy 100 = .ok (.getfield 92, 3) := by decide +kernel
theorem dX10_copy_103 : decode cX10_copy 103 = .ok (.iload_n 2, 1) := by decide +kernel
theorem dX10_copy_104 : decode cX10_copy 104 = .ok (.aload_n 0, 1) := by decide +kernel
theorem dX10_copy_105 : decode cX10_copy 105 = .ok (.getfield 11, 3) := by decide +kernel
theorem dX10_copy_108 : decode cX10_copy 108 = .ok (.iload_n 3, 1) := by decide +kernel
theorem dX10_copy_109 : decode cX10_copy 109 = .ok (.aaload, 1) := by decide +kernel
theorem dX10_copy_110 : decode cX10_copy 110 = .ok (.getfield 92, 3) := by decide +kernel
theorem dX10_copy_113 : decode cX10_copy 113 = .ok (.iload 4, 2) := by decide +kernel
theorem dX10_copy_115 : decode cX10_copy 115 = .ok (.iload 5, 2) := by decide +kernel
theorem dX10_copy_117 : decode cX10_copy 117 = .ok (.invokestatic 110, 3) := by decide +kernel
theorem dX10_copy_120 : decode cX10_copy 120 = .ok (.iconst 1, 1) := by decide +kernel
theorem dX10_copy_121 : decode cX10_copy 121 = .ok (.ireturn, 1) := by decide +kernel
theorem dX10_mean_0 : decode cX10_mean 0 = .ok (.iload_n 1, 1) := by decide +kernel
theorem dX10_mean_1 : decode cX10_mean 1 = .ok (.invokestatic 76, 3) := by decide +kernel
theorem dX10_mean_4 : decode cX10_mean 4 = .ok (.ifCond .ne 5, 3) := by decide +kernel
theorem dX10_mean_7 : decode cX10_mean 7 = .ok (.iconst (-1), 1) := by decide +kernel
theorem dX10_mean_8 : decode cX10_mean 8 = .ok (.ireturn, 1) := by decide +kernel
theorem dX10_mean_9 : decode cX10_mean 9 = .ok (.aload_n 0, 1) := by decide +kernel
theorem dX10_mean_10 : decode cX10_mean 10 = .ok (.getfield 11, 3) := by decide +kernel
theorem dX10_mean_13 : decode cX10_mean 13 = .ok (.iload_n 1, 1) := by decide +kernel
theorem dX10_mean_14 : decode cX10_mean 14 = .ok (.aaload, 1) := by decide +kernel
theorem dX10_mean_15 : decode cX10_mean 15 = .ok (.invokevirtual 99, 3) := by decide +kernel
theorem dX10_mean_18 : decode cX10_mean 18 = .ok (.ifCond .ne 9, 3) := by decide +kernel
theorem dX10_mean_21 : decode cX10_mean 21 = .ok (.aload_n 0, 1) := by decide +kernel
theorem dX10_mean_22 : decode cX10_mean 22 = .ok (.iconst 1, 1) := by decide +kernel
theorem dX10_mean_23 : decode cX10_mean 23 = .ok (.invokevirtual 80, 3) := by decide +kernel
theorem dX10_mean_26 : decode cX10_mean 26 = .ok (.ireturn, 1) := by decide +kernel
theorem dX10_mean_27 : decode cX10_mean 27 = .ok (.aload_n 0, 1) := by decide +kernel
theorem dX10_mean_28 : decode cX10_mean 28 = .ok (.getfield 11, 3) := by decide +kernel
theorem dX10_mean_31 : decode cX10_mean 31 = .ok (.iload_n 1, 1) := by decide +kernel
theorem dX10_mean_32 : decode cX10_mean 32 = .ok (.aaload, 1) := by decide +kernel
theorem dX10_mean_33 : decode cX10_mean 33 = .ok (.getfield 103, 3) := by decide +kernel
theorem dX10_mean_36 : decode cX10_mean 36 = .ok (.ifCond .ne 9, 3) := by decide +kernel
theorem dX10_mean_39 : decode cX10_mean 39 = .ok (.aload_n 0, 1) := by decide +kernel
theorem dX10_mean_40 : decode cX10_mean 40 = .ok (.iconst 4, 1) := by decide +kernel
theorem dX10_mean_41 : decode cX10_mean 41 = .ok (.invokevirtual 80, 3) := by decide +kernel
theorem dX10_mean_44 : decode cX10_mean 44 = .ok (.ireturn, 1) := by decide +kernel
theorem dX10_mean_45 : decode cX10_mean 45 = .ok (.lconst 0, 1) := by decide +kernel
theorem dX10_mean_46 : decode cX10_mean 46 = .ok (.lstore_n 2, 1) := by decide +kernel
theorem dX10_mean_47 : decode cX10_mean 47 = .ok (.iconst 0, 1) := by decide +kernel
theorem dX10_mean_48 : decode cX10_mean 48 = .ok (.istore 4, 2) := by decide +kernel
theorem dX10_mean_50 : decode cX10_mean 50 = .ok (.iload 4, 2) := by decide +kernel
theorem dX10_mean_52 : decode cX10_mean 52 = .ok (.aload_n 0, 1) := by decide +kernel
theorem dX10_mean_53 : decode cX10_mean 53 = .ok (.getfield 11, 3) := by decide +kernel
theorem dX10_mean_56 : decode cX10_mean 56 = .ok (.iload_n 1, 1) := by decide +kernel
theorem dX10_mean_57 : decode cX10_mean 57 = .ok (.aaload, 1) := by decide +kernel
theorem dX10_mean_58 : decode cX10_mean 58 = .ok (.getfield 103, 3) := by decide +kernel
theorem dX10_mean_61 : decode cX10_mean 61 = .ok (.if_icmp .ge 25, 3) := by decide +kernel
theorem dX10_mean_64 : decode cX10_mean 64 = .ok (.lload_n 2, 1) := by decide +kernel
theorem dX10_mean_65 : decode cX10_mean 65 = .ok (.aload_n 0, 1) := by decide +kernel
theorem dX10_mean_66 : decode cX10_mean 66 = .ok (.getfield 11, 3) := by decide +kernel
theorem dX10_mean_69 : decode cX10_mean 69 = .ok (.iload_n 1, 1) := by decide +kernel
theorem dX10_mean_70 : decode cX10_mean 70 = .ok (.aaload, 1) := by decide +kernel
theorem dX10_mean_71 : decode cX10_mean 71 = .ok (.getfield 92, 3) := by decide +kernel
theorem dX10_mean_74 : decode cX10_mean 74 = .ok (.iload 4, 2) := by decide +kernel
theorem dX10_mean_76 : decode cX10_mean 76 = .ok (.iaload, 1) := by decide +kernel
theorem dX10_mean_77 : decode cX10_mean 77 = .ok (.i2l, 1) := by decide +kernel
theorem dX10_mean_78 : decode cX10_mean 78 = .ok (.ladd, 1) := by decide +kernel
theorem dX10_mean_79 : decode cX10_mean 79 = .ok (.lstore_n 2, 1) := by decide +kernel
theorem dX10_mean_80 : decode cX10_mean 80 = .ok (.iinc 4 1, 3) := by decide +kernel
theorem dX10_mean_83 : decode cX10_mean 83 = .ok (.goto (-33), 3) := by decide +kernel
theorem dX10_mean_86 : decode cX10_mean 86 = .ok (.aload_n 0, 1) := by decide +kernel
theorem dX10_mean_87 : decode cX10_mean 87 = .ok (.lload_n 2, 1) := by decide +kernel
theorem dX10_mean_88 : decode cX10_mean 88 = .ok (.aload_n 0, 1) := by decide +kernel
theorem dX10_mean_89 : decode cX10_mean 89 = .ok (.getfield 11, 3) := by decide +kernel
theorem dX10_mean_92 : decode cX10_mean 92 = .ok (.iload_n 1, 1) := by decide +kernel
theorem dX10_mean_93 : decode cX10_mean 93 = .ok (.aaload, 1) := by decide +kernel
theorem dX10_mean_94 : decode cX10_mean 94 = .ok (.getfield 103, 3) := by decide +kernel
theorem dX10_mean_97 : decode cX10_mean 97 = .ok (.i2l, 1) := by decide +kernel
theorem dX10_mean_98 : decode cX10_mean 98 = .ok (.ldiv, 1) := by decide +kernel
theorem dX10_mean_99 : decode cX10_mean 99 = .ok (.l2i, 1) := by decide +kernel
theorem dX10_mean_100 : decode cX10_mean 100 = .ok (.putfield 95, 3) := by decide +kernel
theorem dX10_mean_103 : decode cX10_mean 103 = .ok (.iconst 1, 1) := by decide +kernel
theorem dX10_mean_104 : decode cX10_mean 104 = .ok (.ireturn, 1) := by decide +kernel
theorem dX10_text_0 : decode cX10_text 0 = .ok (.iload_n 1, 1) := by decide +kernel
theorem dX10_text_1 : decode cX10_text 1 = .ok (.invokestatic 116, 3) := by decide +kernel
theorem dX10_text_4 : decode cX10_text 4 = .ok (.ifCond .eq 9, 3) := by decide +kernel
theorem dX10_text_7 : decode cX10_text 7 = .ok (.iload_n 2, 1) := by decide +kernel
theorem dX10_text_8 : decode cX10_text 8 = .ok (.bipush 60, 2) := by decide +kernel
theorem dX10_text_10 : decode cX10_text 10 = .ok (.if_icmp .le 5, 3) := by decide +kernel
theorem dX10_text_13 : decode cX10_text 13 = .ok (.iconst (-1), 1) := by decide +kernel
theorem dX10_text_14 : decode cX10_text 14 = .ok (.ireturn, 1) := by decide +kernel
theorem dX10_text_15 : decode cX10_text 15 = .ok (.iload_n 2, 1) := by decide +kernel
theorem dX10_text_16 : decode cX10_text 16 = .ok (.ifCond .ge 9, 3) := by decide +kernel
theorem dX10_text_19 : decode cX10_text 19 = .ok (.aload_n 0, 1) := by decide +kernel
theorem dX10_text_20 : decode cX10_text 20 = .ok (.iconst 5, 1) := by decide +kernel
theorem dX10_text_21 : decode cX10_text 21 = .ok (.invokevirtual 80, 3) := by decide +kernel
theorem dX10_text_24 : decode cX10_text 24 = .ok (.ireturn, 1) := by decide +kernel
theorem dX10_text_25 : decode cX10_text 25 = .ok (.aload_n 0, 1) := by decide +kernel
theorem dX10_text_26 : decode cX10_text 26 = .ok (.getfield 16, 3) := by decide +kernel
theorem dX10_text_29 : decode cX10_text 29 = .ok (.iload_n 1, 1) := by decide +kernel
theorem dX10_text_30 : decode cX10_text 30 = .ok (.aaload, 1) := by decide +kernel
theorem dX10_text_31 : decode cX10_text 31 = .ok (.iload_n 2, 1) := by decide +kernel
theorem dX10_text_32 : decode cX10_text 32 = .ok (.bipush 32, 2) := by decide +kernel
theorem dX10_text_34 : decode cX10_text 34 = .ok (.invokevirtual 84, 3) := by decide +kernel
theorem dX10_text_37 : decode cX10_text 37 = .ok (.iload_n 2, 1) := by decide +kernel
theorem dX10_text_38 : decode cX10_text 38 = .ok (.ireturn, 1) := by decide +kernel
theorem dX10_put_0 : decode cX10_put 0 = .ok (.iload_n 1, 1) := by decide +kernel
theorem dX10_put_1 : decode cX10_put 1 = .ok (.invokestatic 116, 3) := by decide +kernel
theorem dX10_put_4 : decode cX10_put 4 = .ok (.ifCond .ne 5, 3) := by decide +kernel
theorem dX10_put_7 : decode cX10_put 7 = .ok (.iconst (-1), 1) := by decide +kernel
theorem dX10_put_8 : decode cX10_put 8 = .ok (.ireturn, 1) := by decide +kernel
theorem dX10_put_9 : decode cX10_put 9 = .ok (.aload_n 0, 1) := by decide +kernel
theorem dX10_put_10 : decode cX10_put 10 = .ok (.getfield 16, 3) := by decide +kernel
theorem dX10_put_13 : decode cX10_put 13 = .ok (.iload_n 1, 1) := by decide +kernel
theorem dX10_put_14 : decode cX10_put 14 = .ok (.aaload, 1) := by decide +kernel
theorem dX10_put_15 : decode cX10_put 15 = .ok (.iload_n 2, 1) := by decide +kernel
theorem dX10_put_16 : decode cX10_put 16 = .ok (.invokestatic 88, 3) := by decide +kernel
theorem dX10_put_19 : decode cX10_put 19 = .ok (.istore 4, 2) := by decide +kernel
theorem dX10_put_21 : decode cX10_put 21 = .ok (.iload 4, 2) := by decide +kernel
theorem dX10_put_23 : decode cX10_put 23 = .ok (.ifCond .eq 10, 3) := by decide +kernel
theorem dX10_put_26 : decode cX10_put 26 = .ok (.aload_n 0, 1) := by decide +kernel
theorem dX10_put_27 : decode cX10_put 27 = .ok (.iload 4, 2) := by decide +kernel
theorem dX10_put_29 : decode cX10_put 29 = .ok (.invokevirtual 80, 3) := by decide +kernel
theorem dX10_put_32 : decode cX10_put 32 = .ok (.ireturn, 1) := by decide +kernel
theorem dX10_put_33 : decode cX10_put 33 = .ok (.aload_n 0, 1) := by decide +kernel
theorem dX10_put_34 : decode cX10_put 34 = .ok (.getfield 16, 3) := by decide +kernel
theorem dX10_put_37 : decode cX10_put 37 = .ok (.iload_n 1, 1) := by decide +kernel
theorem dX10_put_38 : decode cX10_put 38 = .ok (.aaload, 1) := by decide +kernel
theorem dX10_put_39 : decode cX10_put 39 = .ok (.getfield 92, 3) := by decide +kernel
theorem dX10_put_42 : decode cX10_put 42 = .ok (.iload_n 2, 1) := by decide +kernel
theorem dX10_put_43 : decode cX10_put 43 = .ok (.iaload, 1) := by decide +kernel
theorem dX10_put_44 : decode cX10_put 44 = .ok (.istore 5, 2) := by decide +kernel
theorem dX10_put_46 : decode cX10_put 46 = .ok (.aload_n 0, 1) := by decide +kernel
theorem dX10_put_47 : decode cX10_put 47 = .ok (.getfield 16, 3) := by decide +kernel
theorem dX10_put_50 : decode cX10_put 50 = .ok (.iload_n 1, 1) := by decide +kernel
theorem dX10_put_51 : decode cX10_put 51 = .ok (.aaload, 1) := by decide +kernel
theorem dX10_put_52 : decode cX10_put 52 = .ok (.getfield 92, 3) := by decide +kernel
theorem dX10_put_55 : decode cX10_put 55 = .ok (.iload_n 2, 1) := by decide +kernel
theorem dX10_put_56 : decode cX10_put 56 = .ok (.iload_n 3, 1) := by decide +kernel
theorem dX10_put_57 : decode cX10_put 57 = .ok (.i2b, 1) := by decide +kernel
theorem dX10_put_58 : decode cX10_put 58 = .ok (.iastore, 1) := by decide +kernel
theorem dX10_put_59 : decode cX10_put 59 = .ok (.iload 5, 2) := by decide +kernel
theorem dX10_put_61 : decode cX10_put 61 = .ok (.sipush 1000, 3) := by decide +kernel
theorem dX10_put_64 : decode cX10_put 64 = .ok (.iadd, 1) := by decide +kernel
theorem dX10_put_65 : decode cX10_put 65 = .ok (.ireturn, 1) := by decide +kernel
theorem dX10_fault_0 : decode cX10_fault 0 = .ok (.iload_n 1, 1) := by decide +kernel
theorem dX10_fault_1 : decode cX10_fault 1 = .ok (.invokestatic 116, 3) := by decide +kernel
theorem dX10_fault_4 : decode cX10_fault 4 = .ok (.ifCond .ne 5, 3) := by decide +kernel
theorem dX10_fault_7 : decode cX10_fault 7 = .ok (.iconst (-1), 1) := by decide +kernel
theorem dX10_fault_8 : decode cX10_fault 8 = .ok (.ireturn, 1) := by decide +kernel
theorem dX10_fault_9 : decode cX10_fault 9 = .ok (.aload_n 0, 1) := by decide +kernel
theorem dX10_fault_10 : decode cX10_fault 10 = .ok (.getfield 16, 3) := by decide +kernel
theorem dX10_fault_13 : decode cX10_fault 13 = .ok (.iload_n 1, 1) := by decide +kernel
theorem dX10_fault_14 : decode cX10_fault 14 = .ok (.aaload, 1) := by decide +kernel
theorem dX10_fault_15 : decode cX10_fault 15 = .ok (.invokevirtual 99, 3) := by decide +kernel
theorem dX10_fault_18 : decode cX10_fault 18 = .ok (.ifCond .ne 9, 3) := by decide +kernel
theorem dX10_fault_21 : decode cX10_fault 21 = .ok (.aload_n 0, 1) := by decide +kernel
theorem dX10_fault_22 : decode cX10_fault 22 = .ok (.iconst 1, 1) := by decide +kernel
theorem dX10_fault_23 : decode cX10_fault 23 = .ok (.invokevirtual 80, 3) := by decide +kernel
theorem dX10_fault_26 : decode cX10_fault 26 = .ok (.ireturn, 1) := by decide +kernel
theorem dX10_fault_27 : decode cX10_fault 27 = .ok (.aload_n 0, 1) := by decide +kernel
theorem dX10_fault_28 : decode cX10_fault 28 = .ok (.getfield 16, 3) := by decide +kernel
theorem dX10_fault_31 : decode cX10_fault 31 = .ok (.iload_n 1, 1) := by decide +kernel
theorem dX10_fault_32 : decode cX10_fault 32 = .ok (.aaload, 1) := by decide +kernel
theorem dX10_fault_33 : decode cX10_fault 33 = .ok (.invokestatic 119, 3) := by decide +kernel
theorem dX10_fault_36 : decode cX10_fault 36 = .ok (.ireturn, 1) := by decide +kernel
theorem dX10_box_0 : decode cX10_box 0 = .ok (.iload_n 1, 1) := by decide +kernel
theorem dX10_box_1 : decode cX10_box 1 = .ok (.invokestatic 116, 3) := by decide +kernel
theorem dX10_box_4 : decode cX10_box 4 = .ok (.ifCond .ne 5, 3) := by decide +kernel
theorem dX10_box_7 : decode cX10_box 7 = .ok (.iconst (-1), 1) := by decide +kernel
theorem dX10_box_8 : decode cX10_box 8 = .ok (.ireturn, 1) := by decide +kernel
theorem dX10_box_9 : decode cX10_box 9 = .ok (.aload_n 0, 1) := by decide +kernel
theorem dX10_box_10 : decode cX10_box 10 = .ok (.getfield 16, 3) := by decide +kernel
theorem dX10_box_13 : decode cX10_box 13 = .ok (.iload_n 1, 1) := by decide +kernel
theorem dX10_box_14 : decode cX10_box 14 = .ok (.aaload, 1) := by decide +kernel
theorem dX10_box_15 : decode cX10_box 15 = .ok (.invokevirtual 99, 3) := by decide +kernel
theorem dX10_box_18 : decode cX10_box 18 = .ok (.ifCond .ne 9, 3) := by decide +kernel
theorem dX10_box_21 : decode cX10_box 21 = .ok (.aload_n 0, 1) := by decide +kernel
theorem dX10_box_22 : decode cX10_box 22 = .ok (.iconst 1, 1) := by decide +kernel
theorem dX10_box_23 : decode cX10_box 23 = .ok (.invokevirtual 80, 3) := by decide +kernel
theorem dX10_box_26 : decode cX10_box 26 = .ok (.ireturn, 1) := by decide +kernel
theorem dX10_box_27 : decode cX10_box 27 = .ok (.aload_n 0, 1) := by decide +kernel
theorem dX10_box_28 : decode cX10_box 28 = .ok (.getfield 16, 3) := by decide +kernel
theorem dX10_box_31 : decode cX10_box 31 = .ok (.iload_n 1, 1) := by decide +kernel
theorem dX10_box_32 : decode cX10_box 32 = .ok (.aaload, 1) := by decide +kernel
theorem dX10_box_33 : decode cX10_box 33 = .ok (.invokestatic 119, 3) := by decide +kernel
theorem dX10_box_36 : decode cX10_box 36 = .ok (.bipush (-9), 2) := by decide +kernel
theorem dX10_box_38 : decode cX10_box 38 = .ok (.if_icmp .eq 6, 3) := by decide +kernel
theorem dX10_box_41 : decode cX10_box 41 = .ok (.bipush (-4), 2) := by decide +kernel
theorem dX10_box_43 : decode cX10_box 43 = .ok (.ireturn, 1) := by decide +kernel
theorem dX10_box_44 : decode cX10_box 44 = .ok (.aload_n 0, 1) := by decide +kernel
theorem dX10_box_45 : decode cX10_box 45 = .ok (.aload_n 0, 1) := by decide +kernel
theorem dX10_box_46 : decode cX10_box 46 = .ok (.getfield 16, 3) := by decide +kernel
theorem dX10_box_49 : decode cX10_box 49 = .ok (.iload_n 1, 1) := by decide +kernel
theorem dX10_box_50 : decode cX10_box 50 = .ok (.aaload, 1) := by decide +kernel
theorem dX10_box_51 : decode cX10_box 51 = .ok (.invokevirtual 123, 3) := by decide +kernel
theorem dX10_box_54 : decode cX10_box 54 = .ok (.aload_n 0, 1) := by decide +kernel
theorem dX10_box_55 : decode cX10_box 55 = .ok (.getfield 53, 3) := by decide +kernel
theorem dX10_box_58 : decode cX10_box 58 = .ok (.invokevirtual 127, 3) := by decide +kernel
theorem dX10_box_61 : decode cX10_box 61 = .ok (.iconst 0, 1) := by decide +kernel
theorem dX10_box_62 : decode cX10_box 62 = .ok (.istore_n 2, 1) := by decide +kernel
theorem dX10_box_63 : decode cX10_box 63 = .ok (.iload_n 2, 1) := by decide +kernel
theorem dX10_box_64 : decode cX10_box 64 = .ok (.iconst 3, 1) := by decide +kernel
theorem dX10_box_65 : decode cX10_box 65 = .ok (.if_icmp .ge 19, 3) := by decide +kernel
theorem dX10_box_68 : decode cX10_box 68 = .ok (.aload_n 0, 1) := by decide +kernel
theorem dX10_box_69 : decode cX10_box 69 = .ok (.getfield 57, 3) := by decide +kernel
theorem dX10_box_72 : decode cX10_box 72 = .ok (.iload_n 2, 1) := by decide +kernel
theorem dX10_box_73 : decode cX10_box 73 = .ok (.aaload, 1) := by decide +kernel
theorem dX10_box_74 : decode cX10_box 74 = .ok (.iconst 0, 1) := by decide +kernel
theorem dX10_box_75 : decode cX10_box 75 = .ok (.putfield 130, 3) := by decide +kernel
theorem dX10_box_78 : decode cX10_box 78 = .ok (.iinc 2 1, 3) := by decide +kernel
theorem dX10_box_81 : decode cX10_box 81 = .ok (.goto (-18), 3) := by decide +kernel
theorem dX10_box_84 : decode cX10_box 84 = .ok (.aload_n 0, 1) := by decide +kernel
theorem dX10_box_85 : decode cX10_box 85 = .ok (.getfield 134, 3) := by decide +kernel
theorem dX10_box_88 : decode cX10_box 88 = .ok (.ireturn, 1) := by decide +kernel
theorem dX10_rod_0 : decode cX10_rod 0 = .ok (.aload_n 0, 1) := by decide +kernel
theorem dX10_rod_1 : decode cX10_rod 1 = .ok (.iload_n 1, 1) := by decide +kernel
theorem dX10_rod_2 : decode cX10_rod 2 = .ok (.invokevirtual 137, 3) := by decide +kernel
theorem dX10_rod_5 : decode cX10_rod 5 = .ok (.ifCond .eq 12, 3) := by decide +kernel
theorem dX10_rod_8 : decode cX10_rod 8 = .ok (.iload_n 2, 1) := by decide +kernel
theorem dX10_rod_9 : decode cX10_rod 9 = .ok (.ifCond .lt 8, 3) := by decide +kernel
theorem dX10_rod_12 : decode cX10_rod 12 = .ok (.iload_n 2, 1) := by decide +kernel
theorem dX10_rod_13 : decode cX10_rod 13 = .ok (.iconst 5, 1) := by decide +kernel
theorem dX10_rod_14 : decode cX10_rod 14 = .ok (.if_icmp .lt 5, 3) := by decide +kernel
theorem dX10_rod_17 : decode cX10_rod 17 = .ok (.iconst (-1), 1) := by decide +kernel
theorem dX10_rod_18 : decode cX10_rod 18 = .ok (.ireturn, 1) := by decide +kernel
theorem dX10_rod_19 : decode cX10_rod 19 = .ok (.aload_n 0, 1) := by decide +kernel
theorem dX10_rod_20 : decode cX10_rod 20 = .ok (.aload_n 0, 1) := by decide +kernel
theorem dX10_rod_21 : decode cX10_rod 21 = .ok (.iload_n 1, 1) := by decide +kernel
theorem dX10_rod_22 : decode cX10_rod 22 = .ok (.iload_n 2, 1) := by decide +kernel
theorem dX10_rod_23 : decode cX10_rod 23 = .ok (.invokevirtual 140, 3) := by decide +kernel
theorem dX10_rod_26 : decode cX10_rod 26 = .ok (.putfield 95, 3) := by decide +kernel
theorem dX10_rod_29 : decode cX10_rod 29 = .ok (.iconst 1, 1) := by decide +kernel
theorem dX10_rod_30 : decode cX10_rod 30 = .ok (.ireturn, 1) := by decide +kernel
theorem dX10_mark_0 : decode cX10_mark 0 = .ok (.aload_n 0, 1) := by decide +kernel
theorem dX10_mark_1 : decode cX10_mark 1 = .ok (.iload_n 1, 1) := by decide +kernel
theorem dX10_mark_2 : decode cX10_mark 2 = .ok (.invokevirtual 137, 3) := by decide +kernel
theorem dX10_mark_5 : decode cX10_mark 5 = .ok (.ifCond .eq 13, 3) := by decide +kernel
theorem dX10_mark_8 : decode cX10_mark 8 = .ok (.iload_n 2, 1) := by decide +kernel
theorem dX10_mark_9 : decode cX10_mark 9 = .ok (.ifCond .le 9, 3) := by decide +kernel
theorem dX10_mark_12 : decode cX10_mark 12 = .ok (.iload_n 2, 1) := by decide +kernel
theorem dX10_mark_13 : decode cX10_mark 13 = .ok (.bipush 6, 2) := by decide +kernel
theorem dX10_mark_15 : decode cX10_mark 15 = .ok (.if_icmp .lt 5, 3) := by decide +kernel
theorem dX10_mark_18 : decode cX10_mark 18 = .ok (.iconst (-1), 1) := by decide +kernel
theorem dX10_mark_19 : decode cX10_mark 19 = .ok (.ireturn, 1) := by decide +kernel
theorem dX10_mark_20 : decode cX10_mark 20 = .ok (.aload_n 0, 1) := by decide +kernel
theorem dX10_mark_21 : decode cX10_mark 21 = .ok (.getfield 43, 3) := by decide +kernel
theorem dX10_mark_24 : decode cX10_mark 24 = .ok (.iload_n 1, 1) := by decide +kernel
theorem dX10_mark_25 : decode cX10_mark 25 = .ok (.aaload, 1) := by decide +kernel
theorem dX10_mark_26 : decode cX10_mark 26 = .ok (.getfield 144, 3) := by decide +kernel
theorem dX10_mark_29 : decode cX10_mark 29 = .ok (.iload_n 2, 1) := by decide +kernel
theorem dX10_mark_30 : decode cX10_mark 30 = .ok (.invokestatic 148, 3) := by decide +kernel
theorem dX10_mark_33 : decode cX10_mark 33 = .ok (.ifCond .ne 9, 3) := by decide +kernel
theorem dX10_mark_36 : decode cX10_mark 36 = .ok (.aload_n 0, 1) := by decide +kernel
theorem dX10_mark_37 : decode cX10_mark 37 = .ok (.iconst 3, 1) := by decide +kernel
theorem dX10_mark_38 : decode cX10_mark 38 = .ok (.invokevirtual 80, 3) := by decide +kernel
theorem dX10_mark_41 : decode cX10_mark 41 = .ok (.ireturn, 1) := by decide +kernel
theorem dX10_mark_42 : decode cX10_mark 42 = .ok (.iload_n 2, 1) := by decide +kernel
theorem dX10_mark_43 : decode cX10_mark 43 = .ok (.tableswitch 66 1 4 #[29, 38, 47, 57], 29) := by decide +kernel
theorem dX10_mark_72 : decode cX10_mark 72 = .ok (.aload_n 0, 1) := by decide +kernel
theorem dX10_mark_73 : decode cX10_mark 73 = .ok (.iload_n 1, 1) := by decide +kernel
theorem dX10_mark_74 : decode cX10_mark 74 = .ok (.iconst 0, 1) := by decide +kernel
theorem dX10_mark_75 : decode cX10_mark 75 = .ok (.iconst 1, 1) := by decide +kernel
theorem dX10_mark_76 : decode cX10_mark 76 = .ok (.iconst 0, 1) := by decide +kernel
theorem dX10_mark_77 : decode cX10_mark 77 = .ok (.invokevirtual 152, 3) := by decide +kernel
theorem dX10_mark_80 : decode cX10_mark 80 = .ok (.ireturn, 1) := by decide +kernel
theorem dX10_mark_81 : decode cX10_mark 81 = .ok (.aload_n 0, 1) := by decide +kernel
theorem dX10_mark_82 : decode cX10_mark 82 = .ok (.iload_n 1, 1) := by decide +kernel
theorem dX10_mark_83 : decode cX10_mark 83 = .ok (.iconst 0, 1) := by decide +kernel
theorem dX10_mark_84 : decode cX10_mark 84 = .ok (.iconst 0, 1) := by decide +kernel
theorem dX10_mark_85 : decode cX10_mark 85 = .ok (.iconst 1, 1) := by decide +kernel
theorem dX10_mark_86 : decode cX10_mark 86 = .ok (.invokevirtual 152, 3) := by decide +kernel
theorem dX10_mark_89 : decode cX10_mark 89 = .ok (.ireturn, 1) := by decide +kernel
theorem dX10_mark_90 : decode cX10_mark 90 = .ok (.sipush 500, 3) := by decide +kernel
theorem dX10_mark_93 : decode cX10_mark 93 = .ok (.aload_n 0, 1) := by decide +kernel
theorem dX10_mark_94 : decode cX10_mark 94 = .ok (.iload_n 1, 1) := by decide +kernel
theorem dX10_mark_95 : decode cX10_mark 95 = .ok (.invokevirtual 156, 3) := by decide +kernel
theorem dX10_mark_98 : decode cX10_mark 98 = .ok (.iadd, 1) := by decide +kernel
theorem dX10_mark_99 : decode cX10_mark 99 = .ok (.ireturn, 1) := by decide +kernel
theorem dX10_mark_100 : decode cX10_mark 100 = .ok (.aload_n 0, 1) := by decide +kernel
theorem dX10_mark_101 : decode cX10_mark 101 = .ok (.iload_n 1, 1) := by decide +kernel
theorem dX10_mark_102 : decode cX10_mark 102 = .ok (.iconst 1, 1) := by decide +kernel
theorem dX10_mark_103 : decode cX10_mark 103 = .ok (.iconst 1, 1) := by decide +kernel
theorem dX10_mark_104 : decode cX10_mark 104 = .ok (.iconst 0, 1) := by decide +kernel
theorem dX10_mark_105 : decode cX10_mark 105 = .ok (.invokevirtual 152, 3) := by decide +kernel
theorem dX10_mark_108 : decode cX10_mark 108 = .ok (.ireturn, 1) := by decide +kernel
theorem dX10_mark_109 : decode cX10_mark 109 = .ok (.aload_n 0, 1) := by decide +kernel
theorem dX10_mark_110 : decode cX10_mark 110 = .ok (.iload_n 1, 1) := by decide +kernel
theorem dX10_mark_111 : decode cX10_mark 111 = .ok (.iconst 2, 1) := by decide +kernel
theorem dX10_mark_112 : decode cX10_mark 112 = .ok (.iconst 1, 1) := by decide +kernel
theorem dX10_mark_113 : decode cX10_mark 113 = .ok (.iconst 1, 1) := by decide +kernel
theorem dX10_mark_114 : decode cX10_mark 114 = .ok (.invokevirtual 152, 3) := by decide +kernel
theorem dX10_mark_117 : decode cX10_mark 117 = .ok (.ireturn, 1) := by decide +kernel
theorem dX10_shows_0 : decode cX10_shows 0 = .ok (.aload_n 0, 1) := by decide +kernel
theorem dX10_shows_1 : decode cX10_shows 1 = .ok (.iload_n 1, 1) := by decide +kernel
theorem dX10_shows_2 : decode cX10_shows 2 = .ok (.invokevirtual 137, 3) := by decide +kernel
theorem dX10_shows_5 : decode cX10_shows 5 = .ok (.ifCond .eq 10, 3) := by decide +kernel
theorem dX10_shows_8 : decode cX10_shows 8 = .ok (.iload_n 2, 1) := by decide +kernel
theorem dX10_shows_9 : decode cX10_shows 9 = .ok (.invokestatic 159, 3) := by decide +kernel
theorem dX10_shows_12 : decode cX10_shows 12 = .ok (.ifCond .ne 5, 3) := by decide +kernel
theorem dX10_shows_15 : decode cX10_shows 15 = .ok (.iconst (-1), 1) := by decide +kernel
theorem dX10_shows_16 : decode cX10_shows 16 = .ok (.ireturn, 1) := by decide +kernel
theorem dX10_shows_17 : decode cX10_shows 17 = .ok (.aload_n 0, 1) := by decide +kernel
theorem dX10_shows_18 : decode cX10_shows 18 = .ok (.iload_n 1, 1) := by decide +kernel
theorem dX10_shows_19 : decode cX10_shows 19 = .ok (.iload_n 2, 1) := by decide +kernel
theorem dX10_shows_20 : decode cX10_shows 20 = .ok (.invokevirtual 162, 3) := by decide +kernel
theorem dX10_shows_23 : decode cX10_shows 23 = .ok (.ireturn, 1) := by decide +kernel
theorem dX10_laid_0 : decode cX10_laid 0 = .ok (.aload_n 0, 1) := by decide +kernel
theorem dX10_laid_1 : decode cX10_laid 1 = .ok (.iload_n 1, 1) := by decide +kernel
theorem dX10_laid_2 : decode cX10_laid 2 = .ok (.invokevirtual 137, 3) := by decide +kernel
theorem dX10_laid_5 : decode cX10_laid 5 = .ok (.ifCond .ne 5, 3) := by decide +kernel
theorem dX10_laid_8 : decode cX10_laid 8 = .ok (.iconst (-1), 1) := by decide +kernel
theorem dX10_laid_9 : decode cX10_laid 9 = .ok (.ireturn, 1) := by decide +kernel
theorem dX10_laid_10 : decode cX10_laid 10 = .ok (.aload_n 0, 1) := by decide +kernel
theorem dX10_laid_11 : decode cX10_laid 11 = .ok (.getfield 53, 3) := by decide +kernel
theorem dX10_laid_14 : decode cX10_laid 14 = .ok (.iload_n 1, 1) := by decide +kernel
theorem dX10_laid_15 : decode cX10_laid 15 = .ok (.invokevirtual 165, 3) := by decide +kernel
theorem dX10_laid_18 : decode cX10_laid 18 = .ok (.bipush (-9), 2) := by decide +kernel
theorem dX10_laid_20 : decode cX10_laid 20 = .ok (.if_icmp .eq 6, 3) := by decide +kernel
theorem dX10_laid_23 : decode cX10_laid 23 = .ok (.bipush (-4), 2) := by decide +kernel
theorem dX10_laid_25 : decode cX10_laid 25 = .ok (.ireturn, 1) := by decide +kernel
theorem dX10_laid_26 : decode cX10_laid 26 = .ok (.aload_n 0, 1) := by decide +kernel
theorem dX10_laid_27 : decode cX10_laid 27 = .ok (.getfield 53, 3) := by decide +kernel
theorem dX10_laid_30 : decode cX10_laid 30 = .ok (.invokevirtual 168, 3) := by decide +kernel
theorem dX10_laid_33 : decode cX10_laid 33 = .ok (.ifCond .eq 6, 3) := by decide +kernel
theorem dX10_laid_36 : decode cX10_laid 36 = .ok (.bipush (-2), 2) := by decide +kernel
theorem dX10_laid_38 : decode cX10_laid 38 = .ok (.ireturn, 1) := by decide +kernel
theorem dX10_laid_39 : decode cX10_laid 39 = .ok (.aload_n 0, 1) := by decide +kernel
theorem dX10_laid_40 : decode cX10_laid 40 = .ok (.getfield 53, 3) := by decide +kernel
theorem dX10_laid_43 : decode cX10_laid 43 = .ok (.iconst 1, 1) := by decide +kernel
theorem dX10_laid_44 : decode cX10_laid 44 = .ok (.iload_n 1, 1) := by decide +kernel
theorem dX10_laid_45 : decode cX10_laid 45 = .ok (.iconst 0, 1) := by decide +kernel
theorem dX10_laid_46 : decode cX10_laid 46 = .ok (.invokevirtual 171, 3) := by decide +kernel
theorem dX10_laid_49 : decode cX10_laid 49 = .ok (.aload_n 0, 1) := by decide +kernel
theorem dX10_laid_50 : decode cX10_laid 50 = .ok (.getfield 53, 3) := by decide +kernel
theorem dX10_laid_53 : decode cX10_laid 53 = .ok (.getfield 175, 3) := by decide +kernel
theorem dX10_laid_56 : decode cX10_laid 56 = .ok (.ireturn, 1) := by decide +kernel
theorem dX10_lift_0 : decode cX10_lift 0 = .ok (.aload_n 0, 1) := by decide +kernel
theorem dX10_lift_1 : decode cX10_lift 1 = .ok (.getfield 53, 3) := by decide +kernel
theorem dX10_lift_4 : decode cX10_lift 4 = .ok (.getfield 175, 3) := by decide +kernel
theorem dX10_lift_7 : decode cX10_lift 7 = .ok (.ifCond .ne 6, 3) := by decide +kernel
theorem dX10_lift_10 : decode cX10_lift 10 = .ok (.bipush (-4), 2) := by decide +kernel
theorem dX10_lift_12 : decode cX10_lift 12 = .ok (.ireturn, 1) := by decide +kernel
theorem dX10_lift_13 : decode cX10_lift 13 = .ok (.aload_n 0, 1) := by decide +kernel
theorem dX10_lift_14 : decode cX10_lift 14 = .ok (.getfield 53, 3) := by decide +kernel
theorem dX10_lift_17 : decode cX10_lift 17 = .ok (.invokevirtual 168, 3) := by decide +kernel
theorem dX10_lift_20 : decode cX10_lift 20 = .ok (.ifCond .eq 6, 3) := by decide +kernel
theorem dX10_lift_23 : decode cX10_lift 23 = .ok (.bipush (-2), 2) := by decide +kernel
theorem dX10_lift_25 : decode cX10_lift 25 = .ok (.ireturn, 1) := by decide +kernel
theorem dX10_lift_26 : decode cX10_lift 26 = .ok (.aload_n 0, 1) := by decide +kernel
theorem dX10_lift_27 : decode cX10_lift 27 = .ok (.getfield 53, 3) := by decide +kernel
theorem dX10_lift_30 : decode cX10_lift 30 = .ok (.invokevirtual 178, 3) := by decide +kernel
theorem dX10_lift_33 : decode cX10_lift 33 = .ok (.istore_n 1, 1) := by decide +kernel
theorem dX10_lift_34 : decode cX10_lift 34 = .ok (.aload_n 0, 1) := by decide +kernel
theorem dX10_lift_35 : decode cX10_lift 35 = .ok (.getfield 53, 3) := by decide +kernel
theorem dX10_lift_38 : decode cX10_lift 38 = .ok (.iconst 2, 1) := by decide +kernel
theorem dX10_lift_39 : decode cX10_lift 39 = .ok (.iload_n 1, 1) := by decide +kernel
theorem dX10_lift_40 : decode cX10_lift 40 = .ok (.iconst 0, 1) := by decide +kernel
theorem dX10_lift_41 : decode cX10_lift 41 = .ok (.invokevirtual 171, 3) := by decide +kernel
theorem dX10_lift_44 : decode cX10_lift 44 = .ok (.iload_n 1, 1) := by decide +kernel
theorem dX10_lift_45 : decode cX10_lift 45 = .ok (.ireturn, 1) := by decide +kernel
theorem dX10_change_0 : decode cX10_change 0 = .ok (.iload_n 1, 1) := by decide +kernel
theorem dX10_change_1 : decode cX10_change 1 = .ok (.iload_n 2, 1) := by decide +kernel
theorem dX10_change_2 : decode cX10_change 2 = .ok (.if_icmp .eq 25, 3) := by decide +kernel
theorem dX10_change_5 : decode cX10_change 5 = .ok (.aload_n 0, 1) := by decide +kernel
theorem dX10_change_6 : decode cX10_change 6 = .ok (.getfield 53, 3) := by decide +kernel
theorem dX10_change_9 : decode cX10_change 9 = .ok (.iload_n 1, 1) := by decide +kernel
theorem dX10_change_10 : decode cX10_change 10 = .ok (.invokevirtual 182, 3) := by decide +kernel
theorem dX10_change_13 : decode cX10_change 13 = .ok (.ifCond .eq 14, 3) := by decide +kernel
theorem dX10_change_16 : decode cX10_change 16 = .ok (.aload_n 0, 1) := by decide +kernel
theorem dX10_change_17 : decode cX10_change 17 = .ok (.getfield 53, 3) := by decide +kernel
theorem dX10_change_20 : decode cX10_change 20 = .ok (.iload_n 2, 1) := by decide +kernel
theorem dX10_change_21 : decode cX10_change 21 = .ok (.invokevirtual 182, 3) := by decide +kernel
theorem dX10_change_24 : decode cX10_change 24 = .ok (.ifCond .ne 5, 3) := by decide +kernel
theorem dX10_change_27 : decode cX10_change 27 = .ok (.iconst (-1), 1) := by decide +kernel
theorem dX10_change_28 : decode cX10_change 28 = .ok (.ireturn, 1) := by decide +kernel
theorem dX10_change_29 : decode cX10_change 29 = .ok (.aload_n 0, 1) := by decide +kernel
theorem dX10_change_30 : decode cX10_change 30 = .ok (.getfield 53, 3) := by decide +kernel
theorem dX10_change_33 : decode cX10_change 33 = .ok (.invokevirtual 168, 3) := by decide +kernel
theorem dX10_change_36 : decode cX10_change 36 = .ok (.ifCond .eq 6, 3) := by decide +kernel
theorem dX10_change_39 : decode cX10_change 39 = .ok (.bipush (-2), 2) := by decide +kernel
theorem dX10_change_41 : decode cX10_change 41 = .ok (.ireturn, 1) := by decide +kernel
theorem dX10_change_42 : decode cX10_change 42 = .ok (.aload_n 0, 1) := by decide +kernel
theorem dX10_change_43 : decode cX10_change 43 = .ok (.getfield 53, 3) := by decide +kernel
theorem dX10_change_46 : decode cX10_change 46 = .ok (.iconst 3, 1) := by decide +kernel
theorem dX10_change_47 : decode cX10_change 47 = .ok (.iload_n 1, 1) := by decide +kernel
theorem dX10_change_48 : decode cX10_change 48 = .ok (.iload_n 2, 1) := by decide +kernel
theorem dX10_change_49 : decode cX10_change 49 = .ok (.invokevirtual 171, 3) := by decide +kernel
theorem dX10_change_52 : decode cX10_change 52 = .ok (.aload_n 0, 1) := by decide +kernel
theorem dX10_change_53 : decode cX10_change 53 = .ok (.getfield 53, 3) := by decide +kernel
theorem dX10_change_56 : decode cX10_change 56 = .ok (.getfield 185, 3) := by decide +kernel
theorem dX10_change_59 : decode cX10_change 59 = .ok (.iload_n 1, 1) := by decide +kernel
theorem dX10_change_60 : decode cX10_change 60 = .ok (.iaload, 1) := by decide +kernel
theorem dX10_change_61 : decode cX10_change 61 = .ok (.ireturn, 1) := by decide +kernel
theorem dX10_over_0 : decode cX10_over 0 = .ok (.aload_n 0, 1) := by decide +kernel
theorem dX10_over_1 : decode cX10_over 1 = .ok (.iload_n 1, 1) := by decide +kernel
theorem dX10_over_2 : decode cX10_over 2 = .ok (.invokevirtual 137, 3) := by decide +kernel
theorem dX10_over_5 : decode cX10_over 5 = .ok (.ifCond .ne 5, 3) := by decide +kernel
theorem dX10_over_8 : decode cX10_over 8 = .ok (.iconst (-1), 1) := by decide +kernel
theorem dX10_over_9 : decode cX10_over 9 = .ok (.ireturn, 1) := by decide +kernel
theorem dX10_over_10 : decode cX10_over 10 = .ok (.aload_n 0, 1) := by decide +kernel
theorem dX10_over_11 : decode cX10_over 11 = .ok (.getfield 53, 3) := by decide +kernel
theorem dX10_over_14 : decode cX10_over 14 = .ok (.invokevirtual 168, 3) := by decide +kernel
theorem dX10_over_17 : decode cX10_over 17 = .ok (.ifCond .eq 6, 3) := by decide +kernel
theorem dX10_over_20 : decode cX10_over 20 = .ok (.bipush (-2), 2) := by decide +kernel
theorem dX10_over_22 : decode cX10_over 22 = .ok (.ireturn, 1) := by decide +kernel
theorem dX10_over_23 : decode cX10_over 23 = .ok (.aload_n 0, 1) := by decide +kernel
theorem dX10_over_24 : decode cX10_over 24 = .ok (.getfield 53, 3) := by decide +kernel
theorem dX10_over_27 : decode cX10_over 27 = .ok (.iconst 4, 1) := by decide +kernel
theorem dX10_over_28 : decode cX10_over 28 = .ok (.iload_n 1, 1) := by decide +kernel
theorem dX10_over_29 : decode cX10_over 29 = .ok (.iconst 0, 1) := by decide +kernel
theorem dX10_over_30 : decode cX10_over 30 = .ok (.invokevirtual 171, 3) := by decide +kernel
theorem dX10_over_33 : decode cX10_over 33 = .ok (.aload_n 0, 1) := by decide +kernel
theorem dX10_over_34 : decode cX10_over 34 = .ok (.iload_n 1, 1) := by decide +kernel
theorem dX10_over_35 : decode cX10_over 35 = .ok (.invokevirtual 188, 3) := by decide +kernel
theorem dX10_over_38 : decode cX10_over 38 = .ok (.ireturn, 1) := by decide +kernel
theorem dX10_undo_0 : decode cX10_undo 0 = .ok (.iload_n 1, 1) := by decide +kernel
theorem dX10_undo_1 : decode cX10_undo 1 = .ok (.ifCond .lt 14, 3) := by decide +kernel
theorem dX10_undo_4 : decode cX10_undo 4 = .ok (.iload_n 1, 1) := by decide +kernel
theorem dX10_undo_5 : decode cX10_undo 5 = .ok (.aload_n 0, 1) := by decide +kernel
theorem dX10_undo_6 : decode cX10_undo 6 = .ok (.getfield 53, 3) := by decide +kernel
theorem dX10_undo_9 : decode cX10_undo 9 = .ok (.getfield 191, 3) := by decide +kernel
theorem dX10_undo_12 : decode cX10_undo 12 = .ok (.if_icmp .le 5, 3) := by decide +kernel
theorem dX10_undo_15 : decode cX10_undo 15 = .ok (.iconst (-1), 1) := by decide +kernel
theorem dX10_undo_16 : decode cX10_undo 16 = .ok (.ireturn, 1) := by decide +kernel
theorem dX10_undo_17 : decode cX10_undo 17 = .ok (.aload_n 0, 1) := by decide +kernel
theorem dX10_undo_18 : decode cX10_undo 18 = .ok (.getfield 53, 3) := by decide +kernel
theorem dX10_undo_21 : decode cX10_undo 21 = .ok (.getfield 191, 3) := by decide +kernel
theorem dX10_undo_24 : decode cX10_undo 24 = .ok (.iload_n 1, 1) := by decide +kernel
theorem dX10_undo_25 : decode cX10_undo 25 = .ok (.isub, 1) := by decide +kernel
theorem dX10_undo_26 : decode cX10_undo 26 = .ok (.istore_n 2, 1) := by decide +kernel
theorem dX10_undo_27 : decode cX10_undo 27 = .ok (.iconst 0, 1) := by decide +kernel
theorem dX10_undo_28 : decode cX10_undo 28 = .ok (.istore_n 3, 1) := by decide +kernel
theorem dX10_undo_29 : decode cX10_undo 29 = .ok (.iload_n 3, 1) := by decide +kernel
theorem dX10_undo_30 : decode cX10_undo 30 = .ok (.iload_n 2, 1) := by decide +kernel
theorem dX10_undo_31 : decode cX10_undo 31 = .ok (.if_icmp .ge 16, 3) := by decide +kernel
theorem dX10_undo_34 : decode cX10_undo 34 = .ok (.aload_n 0, 1) := by decide +kernel
theorem dX10_undo_35 : decode cX10_undo 35 = .ok (.getfield 53, 3) := by decide +kernel
theorem dX10_undo_38 : decode cX10_undo 38 = .ok (.invokevirtual 194, 3) := by decide +kernel
theorem dX10_undo_41 : decode cX10_undo 41 = .ok (.iinc 3 1, 3) := by decide +kernel
theorem dX10_undo_44 : decode cX10_undo 44 = .ok (.goto (-15), 3) := by decide +kernel
theorem dX10_undo_47 : decode cX10_undo 47 = .ok (.iload_n 2, 1) := by decide +kernel
theorem dX10_undo_48 : decode cX10_undo 48 = .ok (.ireturn, 1) := by decide +kernel
theorem dX10_keep_0 : decode cX10_keep 0 = .ok (.iload_n 1, 1) := by decide +kernel
theorem dX10_keep_1 : decode cX10_keep 1 = .ok (.invokestatic 197, 3) := by decide +kernel
theorem dX10_keep_4 : decode cX10_keep 4 = .ok (.ifCond .ne 5, 3) := by decide +kernel
theorem dX10_keep_7 : decode cX10_keep 7 = .ok (.iconst (-1), 1) := by decide +kernel
theorem dX10_keep_8 : decode cX10_keep 8 = .ok (.ireturn, 1) := by decide +kernel
theorem dX10_keep_9 : decode cX10_keep 9 = .ok (.aload_n 0, 1) := by decide +kernel
theorem dX10_keep_10 : decode cX10_keep 10 = .ok (.getfield 134, 3) := by decide +kernel
theorem dX10_keep_13 : decode cX10_keep 13 = .ok (.ifCond .ne 6, 3) := by decide +kernel
theorem dX10_keep_16 : decode cX10_keep 16 = .ok (.bipush (-4), 2) := by decide +kernel
theorem dX10_keep_18 : decode cX10_keep 18 = .ok (.ireturn, 1) := by decide +kernel
theorem dX10_keep_19 : decode cX10_keep 19 = .ok (.aload_n 0, 1) := by decide +kernel
theorem dX10_keep_20 : decode cX10_keep 20 = .ok (.getfield 57, 3) := by decide +kernel
theorem dX10_keep_23 : decode cX10_keep 23 = .ok (.iload_n 1, 1) := by decide +kernel
theorem dX10_keep_24 : decode cX10_keep 24 = .ok (.aaload, 1) := by decide +kernel
theorem dX10_keep_25 : decode cX10_keep 25 = .ok (.aload_n 0, 1) := by decide +kernel
theorem dX10_keep_26 : decode cX10_keep 26 = .ok (.getfield 53, 3) := by decide +kernel
theorem dX10_keep_29 : decode cX10_keep 29 = .ok (.invokevirtual 200, 3) := by decide +kernel
theorem dX10_keep_32 : decode cX10_keep 32 = .ok (.aload_n 0, 1) := by decide +kernel
theorem dX10_keep_33 : decode cX10_keep 33 = .ok (.getfield 57, 3) := by decide +kernel
theorem dX10_keep_36 : decode cX10_keep 36 = .ok (.iload_n 1, 1) := by decide +kernel
theorem dX10_keep_37 : decode cX10_keep 37 = .ok (.aaload, 1) := by decide +kernel
theorem dX10_keep_38 : decode cX10_keep 38 = .ok (.iconst 1, 1) := by decide +kernel
theorem dX10_keep_39 : decode cX10_keep 39 = .ok (.putfield 130, 3) := by decide +kernel
theorem dX10_keep_42 : decode cX10_keep 42 = .ok (.aload_n 0, 1) := by decide +kernel
theorem dX10_keep_43 : decode cX10_keep 43 = .ok (.getfield 53, 3) := by decide +kernel
theorem dX10_keep_46 : decode cX10_keep 46 = .ok (.getfield 191, 3) := by decide +kernel
theorem dX10_keep_49 : decode cX10_keep 49 = .ok (.ireturn, 1) := by decide +kernel
theorem dX10_on_0 : decode cX10_on 0 = .ok (.iload_n 1, 1) := by decide +kernel
theorem dX10_on_1 : decode cX10_on 1 = .ok (.invokestatic 197, 3) := by decide +kernel
theorem dX10_on_4 : decode cX10_on 4 = .ok (.ifCond .ne 5, 3) := by decide +kernel
theorem dX10_on_7 : decode cX10_on 7 = .ok (.iconst (-1), 1) := by decide +kernel
theorem dX10_on_8 : decode cX10_on 8 = .ok (.ireturn, 1) := by decide +kernel
theorem dX10_on_9 : decode cX10_on 9 = .ok (.aload_n 0, 1) := by decide +kernel
theorem dX10_on_10 : decode cX10_on 10 = .ok (.getfield 57, 3) := by decide +kernel
theorem dX10_on_13 : decode cX10_on 13 = .ok (.iload_n 1, 1) := by decide +kernel
theorem dX10_on_14 : decode cX10_on 14 = .ok (.aaload, 1) := by decide +kernel
theorem dX10_on_15 : decode cX10_on 15 = .ok (.getfield 130, 3) := by decide +kernel
theorem dX10_on_18 : decode cX10_on 18 = .ok (.ifCond .ne 9, 3) := by decide +kernel
theorem dX10_on_21 : decode cX10_on 21 = .ok (.aload_n 0, 1) := by decide +kernel
theorem dX10_on_22 : decode cX10_on 22 = .ok (.iconst 1, 1) := by decide +kernel
theorem dX10_on_23 : decode cX10_on 23 = .ok (.invokevirtual 80, 3) := by decide +kernel
theorem dX10_on_26 : decode cX10_on 26 = .ok (.ireturn, 1) := by decide +kernel
theorem dX10_on_27 : decode cX10_on 27 = .ok (.aload_n 0, 1) := by decide +kernel
theorem dX10_on_28 : decode cX10_on 28 = .ok (.getfield 53, 3) := by decide +kernel
theorem dX10_on_31 : decode cX10_on 31 = .ok (.aload_n 0, 1) := by decide +kernel
theorem dX10_on_32 : decode cX10_on 32 = .ok (.getfield 57, 3) := by decide +kernel
theorem dX10_on_35 : decode cX10_on 35 = .ok (.iload_n 1, 1) := by decide +kernel
theorem dX10_on_36 : decode cX10_on 36 = .ok (.aaload, 1) := by decide +kernel
theorem dX10_on_37 : decode cX10_on 37 = .ok (.invokevirtual 200, 3) := by decide +kernel
theorem dX10_on_40 : decode cX10_on 40 = .ok (.aload_n 0, 1) := by decide +kernel
theorem dX10_on_41 : decode cX10_on 41 = .ok (.getfield 53, 3) := by decide +kernel
theorem dX10_on_44 : decode cX10_on 44 = .ok (.getfield 191, 3) := by decide +kernel
theorem dX10_on_47 : decode cX10_on 47 = .ok (.ireturn, 1) := by decide +kernel
theorem dX10_reads_0 : decode cX10_reads 0 = .ok (.iload_n 1, 1) := by decide +kernel
theorem dX10_reads_1 : decode cX10_reads 1 = .ok (.invokestatic 159, 3) := by decide +kernel
theorem dX10_reads_4 : decode cX10_reads 4 = .ok (.ifCond .ne 5, 3) := by decide +kernel
theorem dX10_reads_7 : decode cX10_reads 7 = .ok (.iconst (-1), 1) := by decide +kernel
theorem dX10_reads_8 : decode cX10_reads 8 = .ok (.ireturn, 1) := by decide +kernel
theorem dX10_reads_9 : decode cX10_reads 9 = .ok (.aload_n 0, 1) := by decide +kernel
theorem dX10_reads_10 : decode cX10_reads 10 = .ok (.aload_n 0, 1) := by decide +kernel
theorem dX10_reads_11 : decode cX10_reads 11 = .ok (.iload_n 1, 1) := by decide +kernel
theorem dX10_reads_12 : decode cX10_reads 12 = .ok (.invokevirtual 204, 3) := by decide +kernel
theorem dX10_reads_15 : decode cX10_reads 15 = .ok (.putfield 95, 3) := by decide +kernel
theorem dX10_reads_18 : decode cX10_reads 18 = .ok (.aload_n 0, 1) := by decide +kernel
theorem dX10_reads_19 : decode cX10_reads 19 = .ok (.iload_n 1, 1) := by decide +kernel
theorem dX10_reads_20 : decode cX10_reads 20 = .ok (.invokevirtual 207, 3) := by decide +kernel
theorem dX10_reads_23 : decode cX10_reads 23 = .ok (.ireturn, 1) := by decide +kernel
theorem dX10_wrong_0 : decode cX10_wrong 0 = .ok (.iconst 0, 1) := by decide +kernel
theorem dX10_wrong_1 : decode cX10_wrong 1 = .ok (.istore_n 1, 1) := by decide +kernel
theorem dX10_wrong_2 : decode cX10_wrong 2 = .ok (.iconst 1, 1) := by decide +kernel
theorem dX10_wrong_3 : decode cX10_wrong 3 = .ok (.istore_n 2, 1) := by decide +kernel
theorem dX10_wrong_4 : decode cX10_wrong 4 = .ok (.iload_n 2, 1) := by decide +kernel
theorem dX10_wrong_5 : decode cX10_wrong 5 = .ok (.bipush 9, 2) := by decide +kernel
theorem dX10_wrong_7 : decode cX10_wrong 7 = .ok (.if_icmp .gt 28, 3) := by decide +kernel
theorem dX10_wrong_10 : decode cX10_wrong 10 = .ok (.aload_n 0, 1) := by decide +kernel
theorem dX10_wrong_11 : decode cX10_wrong 11 = .ok (.iload_n 2, 1) := by decide +kernel
theorem dX10_wrong_12 : decode cX10_wrong 12 = .ok (.invokevirtual 207, 3) := by decide +kernel
theorem dX10_wrong_15 : decode cX10_wrong 15 = .ok (.aload_n 0, 1) := by decide +kernel
theorem dX10_wrong_16 : decode cX10_wrong 16 = .ok (.iload_n 2, 1) := by decide +kernel
theorem dX10_wrong_17 : decode cX10_wrong 17 = .ok (.invokevirtual 204, 3) := by decide +kernel
theorem dX10_wrong_20 : decode cX10_wrong 20 = .ok (.if_icmp .eq 9, 3) := by decide +kernel
theorem dX10_wrong_23 : decode cX10_wrong 23 = .ok (.iload_n 1, 1) := by decide +kernel
theorem dX10_wrong_24 : decode cX10_wrong 24 = .ok (.iconst 1, 1) := by decide +kernel
theorem dX10_wrong_25 : decode cX10_wrong 25 = .ok (.iload_n 2, 1) := by decide +kernel
theorem dX10_wrong_26 : decode cX10_wrong 26 = .ok (.ishl, 1) := by decide +kernel
theorem dX10_wrong_27 : decode cX10_wrong 27 = .ok (.ior, 1) := by decide +kernel
theorem dX10_wrong_28 : decode cX10_wrong 28 = .ok (.istore_n 1, 1) := by decide +kernel
theorem dX10_wrong_29 : decode cX10_wrong 29 = .ok (.iinc 2 1, 3) := by decide +kernel
theorem dX10_wrong_32 : decode cX10_wrong 32 = .ok (.goto (-28), 3) := by decide +kernel
theorem dX10_wrong_35 : decode cX10_wrong 35 = .ok (.iload_n 1, 1) := by decide +kernel
theorem dX10_wrong_36 : decode cX10_wrong 36 = .ok (.ireturn, 1) := by decide +kernel
theorem dX10_carries_0 : decode cX10_carries 0 = .ok (.iload_n 1, 1) := by decide +kernel
theorem dX10_carries_1 : decode cX10_carries 1 = .ok (.invokestatic 159, 3) := by decide +kernel
theorem dX10_carries_4 : decode cX10_carries 4 = .ok (.ifCond .ne 5, 3) := by decide +kernel
theorem dX10_carries_7 : decode cX10_carries 7 = .ok (.iconst (-1), 1) := by decide +kernel
theorem dX10_carries_8 : decode cX10_carries 8 = .ok (.ireturn, 1) := by decide +kernel
theorem dX10_carries_9 : decode cX10_carries 9 = .ok (.iconst 0, 1) := by decide +kernel
theorem dX10_carries_10 : decode cX10_carries 10 = .ok (.istore_n 2, 1) := by decide +kernel
theorem dX10_carries_11 : decode cX10_carries 11 = .ok (.iconst 0, 1) := by decide +kernel
theorem dX10_carries_12 : decode cX10_carries 12 = .ok (.istore_n 3, 1) := by decide +kernel
theorem dX10_carries_13 : decode cX10_carries 13 = .ok (.iconst 0, 1) := by decide +kernel
theorem dX10_carries_14 : decode cX10_carries 14 = .ok (.istore 4, 2) := by decide +kernel
theorem dX10_carries_16 : decode cX10_carries 16 = .ok (.aload_n 0, 1) := by decide +kernel
theorem dX10_carries_17 : decode cX10_carries 17 = .ok (.getfield 53, 3) := by decide +kernel
theorem dX10_carries_20 : decode cX10_carries 20 = .ok (.getfield 175, 3) := by decide +kernel
theorem dX10_carries_23 : decode cX10_carries 23 = .ok (.iconst 1, 1) := by decide +kernel
theorem dX10_carries_24 : decode cX10_carries 24 = .ok (.isub, 1) := by decide +kernel
theorem dX10_carries_25 : decode cX10_carries 25 = .ok (.istore 5, 2) := by decide +kernel
theorem dX10_carries_27 : decode cX10_carries 27 = .ok (.iload 5, 2) := by decide +kernel
theorem dX10_carries_29 : decode cX10_carries 29 = .ok (.ifCond .lt 47, 3) := by decide +kernel
theorem dX10_carries_32 : decode cX10_carries 32 = .ok (.aload_n 0, 1) := by decide +kernel
theorem dX10_carries_33 : decode cX10_carries 33 = .ok (.aload_n 0, 1) := by decide +kernel
theorem dX10_carries_34 : decode cX10_carries 34 = .ok (.getfield 53, 3) := by decide +kernel
theorem dX10_carries_37 : decode cX10_carries 37 = .ok (.getfield 185, 3) := by decide +kernel
theorem dX10_carries_40 : decode cX10_carries 40 = .ok (.iload 5, 2) := by decide +kernel
theorem dX10_carries_42 : decode cX10_carries 42 = .ok (.iaload, 1) := by decide +kernel
theorem dX10_carries_43 : decode cX10_carries 43 = .ok (.iload_n 1, 1) := by decide +kernel
theorem dX10_carries_44 : decode cX10_carries 44 = .ok (.invokevirtual 162, 3) := by decide +kernel
theorem dX10_carries_47 : decode cX10_carries 47 = .ok (.iload 4, 2) := by decide +kernel
theorem dX10_carries_49 : decode cX10_carries 49 = .ok (.iadd, 1) := by decide +kernel
theorem dX10_carries_50 : decode cX10_carries 50 = .ok (.bipush 10, 2) := by decide +kernel
theorem dX10_carries_52 : decode cX10_carries 52 = .ok (.idiv, 1) := by decide +kernel
theorem dX10_carries_53 : decode cX10_carries 53 = .ok (.istore 4, 2) := by decide +kernel
theorem dX10_carries_55 : decode cX10_carries 55 = .ok (.iload 4, 2) := by decide +kernel
theorem dX10_carries_57 : decode cX10_carries 57 = .ok (.ifCond .le 6, 3) := by decide +kernel
theorem dX10_carries_60 : decode cX10_carries 60 = .ok (.iinc 2 1, 3) := by decide +kernel
theorem dX10_carries_63 : decode cX10_carries 63 = .ok (.iload_n 3, 1) := by decide +kernel
theorem dX10_carries_64 : decode cX10_carries 64 = .ok (.iload 4, 2) := by decide +kernel
theorem dX10_carries_66 : decode cX10_carries 66 = .ok (.invokestatic 210, 3) := by decide +kernel
theorem dX10_carries_69 : decode cX10_carries 69 = .ok (.istore_n 3, 1) := by decide +kernel
theorem dX10_carries_70 : decode cX10_carries 70 = .ok (.iinc 5 (-1), 3) := by decide +kernel
theorem dX10_carries_73 : decode cX10_carries 73 = .ok (.goto (-46), 3) := by decide +kernel
theorem dX10_carries_76 : decode cX10_carries 76 = .ok (.aload_n 0, 1) := by decide +kernel
theorem dX10_carries_77 : decode cX10_carries 77 = .ok (.iload_n 3, 1) := by decide +kernel
theorem dX10_carries_78 : decode cX10_carries 78 = .ok (.putfield 95, 3) := by decide +kernel
theorem dX10_carries_81 : decode cX10_carries 81 = .ok (.iload_n 2, 1) := by decide +kernel
theorem dX10_carries_82 : decode cX10_carries 82 = .ok (.ireturn, 1) := by decide +kernel
theorem dX10_makes_0 : decode cX10_makes 0 = .ok (.iload_n 1, 1) := by decide +kernel
theorem dX10_makes_1 : decode cX10_makes 1 = .ok (.ifCond .lt 23, 3) := by decide +kernel
theorem dX10_makes_4 : decode cX10_makes 4 = .ok (.iload_n 1, 1) := by decide +kernel
theorem dX10_makes_5 : decode cX10_makes 5 = .ok (.ldc 215, 2) := by decide +kernel
theorem dX10_makes_7 : decode cX10_makes 7 = .ok (.if_icmp .gt 17, 3) := by decide +kernel
theorem dX10_makes_10 : decode cX10_makes 10 = .ok (.iload_n 2, 1) := by decide +kernel
theorem dX10_makes_11 : decode cX10_makes 11 = .ok (.invokestatic 159, 3) := by decide +kernel
theorem dX10_makes_14 : decode cX10_makes 14 = .ok (.ifCond .eq 10, 3) := by decide +kernel
theorem dX10_makes_17 : decode cX10_makes 17 = .ok (.iload_n 3, 1) := by decide +kernel
theorem dX10_makes_18 : decode cX10_makes 18 = .ok (.invokestatic 76, 3) := by decide +kernel
theorem dX10_makes_21 : decode cX10_makes 21 = .ok (.ifCond .ne 5, 3) := by decide +kernel
theorem dX10_makes_24 : decode cX10_makes 24 = .ok (.iconst (-1), 1) := by decide +kernel
theorem dX10_makes_25 : decode cX10_makes 25 = .ok (.ireturn, 1) := by decide +kernel
theorem dX10_makes_26 : decode cX10_makes 26 = .ok (.aload_n 0, 1) := by decide +kernel
theorem dX10_makes_27 : decode cX10_makes 27 = .ok (.getfield 134, 3) := by decide +kernel
theorem dX10_makes_30 : decode cX10_makes 30 = .ok (.ifCond .ne 6, 3) := by decide +kernel
theorem dX10_makes_33 : decode cX10_makes 33 = .ok (.bipush (-4), 2) := by decide +kernel
theorem dX10_makes_35 : decode cX10_makes 35 = .ok (.ireturn, 1) := by decide +kernel
theorem dX10_makes_36 : decode cX10_makes 36 = .ok (.aload_n 0, 1) := by decide +kernel
theorem dX10_makes_37 : decode cX10_makes 37 = .ok (.iload_n 2, 1) := by decide +kernel
theorem dX10_makes_38 : decode cX10_makes 38 = .ok (.invokevirtual 216, 3) := by decide +kernel
theorem dX10_makes_41 : decode cX10_makes 41 = .ok (.iconst 0, 1) := by decide +kernel
theorem dX10_makes_42 : decode cX10_makes 42 = .ok (.istore 4, 2) := by decide +kernel
theorem dX10_makes_44 : decode cX10_makes 44 = .ok (.iload 4, 2) := by decide +kernel
theorem dX10_makes_46 : decode cX10_makes 46 = .ok (.aload_n 0, 1) := by decide +kernel
theorem dX10_makes_47 : decode cX10_makes 47 = .ok (.getfield 134, 3) := by decide +kernel
theorem dX10_makes_50 : decode cX10_makes 50 = .ok (.if_icmp .gt 44, 3) := by decide +kernel
theorem dX10_makes_53 : decode cX10_makes 53 = .ok (.aload_n 0, 1) := by decide +kernel
theorem dX10_makes_54 : decode cX10_makes 54 = .ok (.getfield 64, 3) := by decide +kernel
theorem dX10_makes_57 : decode cX10_makes 57 = .ok (.iload_n 1, 1) := by decide +kernel
theorem dX10_makes_58 : decode cX10_makes 58 = .ok (.iload 4, 2) := by decide +kernel
theorem dX10_makes_60 : decode cX10_makes 60 = .ok (.iconst 1, 1) := by decide +kernel
theorem dX10_makes_61 : decode cX10_makes 61 = .ok (.invokevirtual 220, 3) := by decide +kernel
theorem dX10_makes_64 : decode cX10_makes 64 = .ok (.ifCond .ne 24, 3) := by decide +kernel
theorem dX10_makes_67 : decode cX10_makes 67 = .ok (.aload_n 0, 1) := by decide +kernel
theorem dX10_makes_68 : decode cX10_makes 68 = .ok (.getfield 11, 3) := by decide +kernel
theorem dX10_makes_71 : decode cX10_makes 71 = .ok (.iload_n 3, 1) := by decide +kernel
theorem dX10_makes_72 : decode cX10_makes 72 = .ok (.aaload, 1) := by decide +kernel
theorem dX10_makes_73 : decode cX10_makes 73 = .ok (.aload_n 0, 1) := by decide +kernel
theorem dX10_makes_74 : decode cX10_makes 74 = .ok (.getfield 64, 3) := by decide +kernel
theorem dX10_makes_77 : decode cX10_makes 77 = .ok (.getfield 224, 3) := by decide +kernel
theorem dX10_makes_80 : decode cX10_makes 80 = .ok (.iload 4, 2) := by decide +kernel
theorem dX10_makes_82 : decode cX10_makes 82 = .ok (.invokevirtual 227, 3) := by decide +kernel
theorem dX10_makes_85 : decode cX10_makes 85 = .ok (.iload 4, 2) := by decide +kernel
theorem dX10_makes_87 : decode cX10_makes 87 = .ok (.ireturn, 1) := by decide +kernel
theorem dX10_makes_88 : decode cX10_makes 88 = .ok (.iinc 4 1, 3) := by decide +kernel
theorem dX10_makes_91 : decode cX10_makes 91 = .ok (.goto (-47), 3) := by decide +kernel
theorem dX10_makes_94 : decode cX10_makes 94 = .ok (.bipush (-9), 2) := by decide +kernel
theorem dX10_makes_96 : decode cX10_makes 96 = .ok (.ireturn, 1) := by decide +kernel
theorem dX10_most_0 : decode cX10_most 0 = .ok (.iload_n 2, 1) := by decide +kernel
theorem dX10_most_1 : decode cX10_most 1 = .ok (.invokestatic 159, 3) := by decide +kernel
theorem dX10_most_4 : decode cX10_most 4 = .ok (.ifCond .eq 10, 3) := by decide +kernel
theorem dX10_most_7 : decode cX10_most 7 = .ok (.iload_n 3, 1) := by decide +kernel
theorem dX10_most_8 : decode cX10_most 8 = .ok (.invokestatic 76, 3) := by decide +kernel
theorem dX10_most_11 : decode cX10_most 11 = .ok (.ifCond .ne 5, 3) := by decide +kernel
theorem dX10_most_14 : decode cX10_most 14 = .ok (.iconst (-1), 1) := by decide +kernel
theorem dX10_most_15 : decode cX10_most 15 = .ok (.ireturn, 1) := by decide +kernel
theorem dX10_most_16 : decode cX10_most 16 = .ok (.aload_n 0, 1) := by decide +kernel
theorem dX10_most_17 : decode cX10_most 17 = .ok (.getfield 134, 3) := by decide +kernel
theorem dX10_most_20 : decode cX10_most 20 = .ok (.ifCond .ne 6, 3) := by decide +kernel
theorem dX10_most_23 : decode cX10_most 23 = .ok (.bipush (-4), 2) := by decide +kernel
theorem dX10_most_25 : decode cX10_most 25 = .ok (.ireturn, 1) := by decide +kernel
theorem dX10_most_26 : decode cX10_most 26 = .ok (.iload_n 1, 1) := by decide +kernel
theorem dX10_most_27 : decode cX10_most 27 = .ok (.iconst 1, 1) := by decide +kernel
theorem dX10_most_28 : decode cX10_most 28 = .ok (.if_icmp .lt 16, 3) := by decide +kernel
theorem dX10_most_31 : decode cX10_most 31 = .ok (.iload_n 1, 1) := by decide +kernel
theorem dX10_most_32 : decode cX10_most 32 = .ok (.iconst 5, 1) := by decide +kernel
theorem dX10_most_33 : decode cX10_most 33 = .ok (.if_icmp .gt 11, 3) := by decide +kernel
theorem dX10_most_36 : decode cX10_most 36 = .ok (.iload_n 1, 1) := by decide +kernel
theorem dX10_most_37 : decode cX10_most 37 = .ok (.aload_n 0, 1) := by decide +kernel
theorem dX10_most_38 : decode cX10_most 38 = .ok (.getfield 134, 3) := by decide +kernel
theorem dX10_most_41 : decode cX10_most 41 = .ok (.if_icmp .le 5, 3) := by decide +kernel
theorem dX10_most_44 : decode cX10_most 44 = .ok (.iconst (-1), 1) := by decide +kernel
theorem dX10_most_45 : decode cX10_most 45 = .ok (.ireturn, 1) := by decide +kernel
theorem dX10_most_46 : decode cX10_most 46 = .ok (.aload_n 0, 1) := by decide +kernel
theorem dX10_most_47 : decode cX10_most 47 = .ok (.iload_n 2, 1) := by decide +kernel
theorem dX10_most_48 : decode cX10_most 48 = .ok (.invokevirtual 216, 3) := by decide +kernel
theorem dX10_most_51 : decode cX10_most 51 = .ok (.ldc 215, 2) := by decide +kernel
theorem dX10_most_53 : decode cX10_most 53 = .ok (.aload_n 0, 1) := by decide +kernel
theorem dX10_most_54 : decode cX10_most 54 = .ok (.getfield 64, 3) := by decide +kernel
theorem dX10_most_57 : decode cX10_most 57 = .ok (.ldc 215, 2) := by decide +kernel
theorem dX10_most_59 : decode cX10_most 59 = .ok (.iload_n 1, 1) := by decide +kernel
theorem dX10_most_60 : decode cX10_most 60 = .ok (.ldc 231, 2) := by decide +kernel
theorem dX10_most_62 : decode cX10_most 62 = .ok (.invokevirtual 220, 3) := by decide +kernel
theorem dX10_most_65 : decode cX10_most 65 = .ok (.isub, 1) := by decide +kernel
theorem dX10_most_66 : decode cX10_most 66 = .ok (.istore 4, 2) := by decide +kernel
theorem dX10_most_68 : decode cX10_most 68 = .ok (.aload_n 0, 1) := by decide +kernel
theorem dX10_most_69 : decode cX10_most 69 = .ok (.getfield 11, 3) := by decide +kernel
theorem dX10_most_72 : decode cX10_most 72 = .ok (.iload_n 3, 1) := by decide +kernel
theorem dX10_most_73 : decode cX10_most 73 = .ok (.aaload, 1) := by decide +kernel
theorem dX10_most_74 : decode cX10_most 74 = .ok (.aload_n 0, 1) := by decide +kernel
theorem dX10_most_75 : decode cX10_most 75 = .ok (.getfield 64, 3) := by decide +kernel
theorem dX10_most_78 : decode cX10_most 78 = .ok (.getfield 224, 3) := by decide +kernel
theorem dX10_most_81 : decode cX10_most 81 = .ok (.iload_n 1, 1) := by decide +kernel
theorem dX10_most_82 : decode cX10_most 82 = .ok (.invokevirtual 227, 3) := by decide +kernel
theorem dX10_most_85 : decode cX10_most 85 = .ok (.iload 4, 2) := by decide +kernel
theorem dX10_most_87 : decode cX10_most 87 = .ok (.ireturn, 1) := by decide +kernel
theorem dX10_near_0 : decode cX10_near 0 = .ok (.iload_n 1, 1) := by decide +kernel
theorem dX10_near_1 : decode cX10_near 1 = .ok (.ifCond .lt 17, 3) := by decide +kernel
theorem dX10_near_4 : decode cX10_near 4 = .ok (.iload_n 1, 1) := by decide +kernel
theorem dX10_near_5 : decode cX10_near 5 = .ok (.sipush 9999, 3) := by decide +kernel
theorem dX10_near_8 : decode cX10_near 8 = .ok (.if_icmp .gt 10, 3) := by decide +kernel
theorem dX10_near_11 : decode cX10_near 11 = .ok (.iload_n 2, 1) := by decide +kernel
theorem dX10_near_12 : decode cX10_near 12 = .ok (.invokestatic 159, 3) := by decide +kernel
theorem dX10_near_15 : decode cX10_near 15 = .ok (.ifCond .ne 5, 3) := by decide +kernel
theorem dX10_near_18 : decode cX10_near 18 = .ok (.iconst (-1), 1) := by decide +kernel
theorem dX10_near_19 : decode cX10_near 19 = .ok (.ireturn, 1) := by decide +kernel
theorem dX10_near_20 : decode cX10_near 20 = .ok (.aload_n 0, 1) := by decide +kernel
theorem dX10_near_21 : decode cX10_near 21 = .ok (.getfield 134, 3) := by decide +kernel
theorem dX10_near_24 : decode cX10_near 24 = .ok (.ifCond .ne 6, 3) := by decide +kernel
theorem dX10_near_27 : decode cX10_near 27 = .ok (.bipush (-4), 2) := by decide +kernel
theorem dX10_near_29 : decode cX10_near 29 = .ok (.ireturn, 1) := by decide +kernel
theorem dX10_near_30 : decode cX10_near 30 = .ok (.aload_n 0, 1) := by decide +kernel
theorem dX10_near_31 : decode cX10_near 31 = .ok (.iload_n 2, 1) := by decide +kernel
theorem dX10_near_32 : decode cX10_near 32 = .ok (.invokevirtual 216, 3) := by decide +kernel
theorem dX10_near_35 : decode cX10_near 35 = .ok (.iconst 3, 1) := by decide +kernel
theorem dX10_near_36 : decode cX10_near 36 = .ok (.aload_n 0, 1) := by decide +kernel
theorem dX10_near_37 : decode cX10_near 37 = .ok (.getfield 134, 3) := by decide +kernel
theorem dX10_near_40 : decode cX10_near 40 = .ok (.invokestatic 232, 3) := by decide +kernel
theorem dX10_near_43 : decode cX10_near 43 = .ok (.istore_n 3, 1) := by decide +kernel
theorem dX10_near_44 : decode cX10_near 44 = .ok (.aload_n 0, 1) := by decide +kernel
theorem dX10_near_45 : decode cX10_near 45 = .ok (.getfield 64, 3) := by decide +kernel
theorem dX10_near_48 : decode cX10_near 48 = .ok (.iload_n 1, 1) := by decide +kernel
theorem dX10_near_49 : decode cX10_near 49 = .ok (.iload_n 3, 1) := by decide +kernel
theorem dX10_near_50 : decode cX10_near 50 = .ok (.ldc 215, 2) := by decide +kernel
theorem dX10_near_52 : decode cX10_near 52 = .ok (.invokevirtual 220, 3) := by decide +kernel
theorem dX10_near_55 : decode cX10_near 55 = .ok (.istore 4, 2) := by decide +kernel
theorem dX10_near_57 : decode cX10_near 57 = .ok (.iconst 0, 1) := by decide +kernel
theorem dX10_near_58 : decode cX10_near 58 = .ok (.istore 5, 2) := by decide +kernel
theorem dX10_near_60 : decode cX10_near 60 = .ok (.iconst 0, 1) := by decide +kernel
theorem dX10_near_61 : decode cX10_near 61 = .ok (.istore 6, 2) := by decide +kernel
theorem dX10_near_63 : decode cX10_near 63 = .ok (.iload 6, 2) := by decide +kernel
theorem dX10_near_65 : decode cX10_near 65 = .ok (.iload_n 3, 1) := by decide +kernel
theorem dX10_near_66 : decode cX10_near 66 = .ok (.if_icmp .ge 27, 3) := by decide +kernel
theorem dX10_near_69 : decode cX10_near 69 = .ok (.bipush 10, 2) := by decide +kernel
theorem dX10_near_71 : decode cX10_near 71 = .ok (.iload 5, 2) := by decide +kernel
theorem dX10_near_73 : decode cX10_near 73 = .ok (.imul, 1) := by decide +kernel
theorem dX10_near_74 : decode cX10_near 74 = .ok (.aload_n 0, 1) := by decide +kernel
theorem dX10_near_75 : decode cX10_near 75 = .ok (.getfield 64, 3) := by decide +kernel
theorem dX10_near_78 : decode cX10_near 78 = .ok (.getfield 224, 3) := by decide +kernel
theorem dX10_near_81 : decode cX10_near 81 = .ok (.iload 6, 2) := by decide +kernel
theorem dX10_near_83 : decode cX10_near 83 = .ok (.iaload, 1) := by decide +kernel
theorem dX10_near_84 : decode cX10_near 84 = .ok (.iadd, 1) := by decide +kernel
theorem dX10_near_85 : decode cX10_near 85 = .ok (.istore 5, 2) := by decide +kernel
theorem dX10_near_87 : decode cX10_near 87 = .ok (.iinc 6 1, 3) := by decide +kernel
theorem dX10_near_90 : decode cX10_near 90 = .ok (.goto (-27), 3) := by decide +kernel
theorem dX10_near_93 : decode cX10_near 93 = .ok (.aload_n 0, 1) := by decide +kernel
theorem dX10_near_94 : decode cX10_near 94 = .ok (.iload 5, 2) := by decide +kernel
theorem dX10_near_96 : decode cX10_near 96 = .ok (.putfield 95, 3) := by decide +kernel
theorem dX10_near_99 : decode cX10_near 99 = .ok (.iload 4, 2) := by decide +kernel
theorem dX10_near_101 : decode cX10_near 101 = .ok (.ireturn, 1) := by decide +kernel
theorem dX10_digits_0 : decode cX10_digits 0 = .ok (.aload_n 0, 1) := by decide +kernel
theorem dX10_digits_1 : decode cX10_digits 1 = .ok (.iload_n 1, 1) := by decide +kernel
theorem dX10_digits_2 : decode cX10_digits 2 = .ok (.invokevirtual 137, 3) := by decide +kernel
theorem dX10_digits_5 : decode cX10_digits 5 = .ok (.ifCond .eq 10, 3) := by decide +kernel
theorem dX10_digits_8 : decode cX10_digits 8 = .ok (.iload_n 2, 1) := by decide +kernel
theorem dX10_digits_9 : decode cX10_digits 9 = .ok (.invokestatic 76, 3) := by decide +kernel
theorem dX10_digits_12 : decode cX10_digits 12 = .ok (.ifCond .ne 5, 3) := by decide +kernel
theorem dX10_digits_15 : decode cX10_digits 15 = .ok (.iconst (-1), 1) := by decide +kernel
theorem dX10_digits_16 : decode cX10_digits 16 = .ok (.ireturn, 1) := by decide +kernel
theorem dX10_digits_17 : decode cX10_digits 17 = .ok (.aload_n 0, 1) := by decide +kernel
theorem dX10_digits_18 : decode cX10_digits 18 = .ok (.getfield 11, 3) := by decide +kernel
theorem dX10_digits_21 : decode cX10_digits 21 = .ok (.iload_n 2, 1) := by decide +kernel
theorem dX10_digits_22 : decode cX10_digits 22 = .ok (.aaload, 1) := by decide +kernel
theorem dX10_digits_23 : decode cX10_digits 23 = .ok (.invokestatic 235, 3) := by decide +kernel
theorem dX10_digits_26 : decode cX10_digits 26 = .ok (.istore_n 3, 1) := by decide +kernel
theorem dX10_digits_27 : decode cX10_digits 27 = .ok (.iload_n 3, 1) := by decide +kernel
theorem dX10_digits_28 : decode cX10_digits 28 = .ok (.ifCond .eq 9, 3) := by decide +kernel
theorem dX10_digits_31 : decode cX10_digits 31 = .ok (.aload_n 0, 1) := by decide +kernel
theorem dX10_digits_32 : decode cX10_digits 32 = .ok (.iload_n 3, 1) := by decide +kernel
theorem dX10_digits_33 : decode cX10_digits 33 = .ok (.invokevirtual 80, 3) := by decide +kernel
theorem dX10_digits_36 : decode cX10_digits 36 = .ok (.ireturn, 1) := by decide +kernel
theorem dX10_digits_37 : decode cX10_digits 37 = .ok (.iconst 0, 1) := by decide +kernel
theorem dX10_digits_38 : decode cX10_digits 38 = .ok (.istore 4, 2) := by decide +kernel
theorem dX10_digits_40 : decode cX10_digits 40 = .ok (.iconst 0, 1) := by decide +kernel
theorem dX10_digits_41 : decode cX10_digits 41 = .ok (.istore 5, 2) := by decide +kernel
theorem dX10_digits_43 : decode cX10_digits 43 = .ok (.iload 5, 2) := by decide +kernel
theorem dX10_digits_45 : decode cX10_digits 45 = .ok (.bipush 10, 2) := by decide +kernel
theorem dX10_digits_47 : decode cX10_digits 47 = .ok (.if_icmp .ge 50, 3) := by decide +kernel
theorem dX10_digits_50 : decode cX10_digits 50 = .ok (.aload_n 0, 1) := by decide +kernel
theorem dX10_digits_51 : decode cX10_digits 51 = .ok (.getfield 43, 3) := by decide +kernel
theorem dX10_digits_54 : decode cX10_digits 54 = .ok (.iload_n 1, 1) := by decide +kernel
theorem dX10_digits_55 : decode cX10_digits 55 = .ok (.aaload, 1) := by decide +kernel
theorem dX10_digits_56 : decode cX10_digits 56 = .ok (.getfield 144, 3) := by decide +kernel
theorem dX10_digits_59 : decode cX10_digits 59 = .ok (.iload 5, 2) := by decide +kernel
theorem dX10_digits_61 : decode cX10_digits 61 = .ok (.aload_n 0, 1) := by decide +kernel
theorem dX10_digits_62 : decode cX10_digits 62 = .ok (.getfield 43, 3) := by decide +kernel
theorem dX10_digits_65 : decode cX10_digits 65 = .ok (.iload_n 1, 1) := by decide +kernel
theorem dX10_digits_66 : decode cX10_digits 66 = .ok (.aaload, 1) := by decide +kernel
theorem dX10_digits_67 : decode cX10_digits 67 = .ok (.getfield 238, 3) := by decide +kernel
theorem dX10_digits_70 : decode cX10_digits 70 = .ok (.aload_n 0, 1) := by decide +kernel
theorem dX10_digits_71 : decode cX10_digits 71 = .ok (.getfield 11, 3) := by decide +kernel
theorem dX10_digits_74 : decode cX10_digits 74 = .ok (.iload_n 2, 1) := by decide +kernel
theorem dX10_digits_75 : decode cX10_digits 75 = .ok (.aaload, 1) := by decide +kernel
theorem dX10_digits_76 : decode cX10_digits 76 = .ok (.invokestatic 241, 3) := by decide +kernel
theorem dX10_digits_79 : decode cX10_digits 79 = .ok (.ifCond .eq 12, 3) := by decide +kernel
theorem dX10_digits_82 : decode cX10_digits 82 = .ok (.iload 4, 2) := by decide +kernel
theorem dX10_digits_84 : decode cX10_digits 84 = .ok (.iconst 1, 1) := by decide +kernel
theorem dX10_digits_85 : decode cX10_digits 85 = .ok (.iload 5, 2) := by decide +kernel
theorem dX10_digits_87 : decode cX10_digits 87 = .ok (.ishl, 1) := by decide +kernel
theorem dX10_digits_88 : decode cX10_digits 88 = .ok (.ior, 1) := by decide +kernel
theorem dX10_digits_89 : decode cX10_digits 89 = .ok (.istore 4, 2) := by decide +kernel
theorem dX10_digits_91 : decode cX10_digits 91 = .ok (.iinc 5 1, 3) := by decide +kernel
theorem dX10_digits_94 : decode cX10_digits 94 = .ok (.goto (-51), 3) := by decide +kernel
theorem dX10_digits_97 : decode cX10_digits 97 = .ok (.iload 4, 2) := by decide +kernel
theorem dX10_digits_99 : decode cX10_digits 99 = .ok (.ireturn, 1) := by decide +kernel
theorem dX10_kinds_0 : decode cX10_kinds 0 = .ok (.aload_n 0, 1) := by decide +kernel
theorem dX10_kinds_1 : decode cX10_kinds 1 = .ok (.iload_n 1, 1) := by decide +kernel
theorem dX10_kinds_2 : decode cX10_kinds 2 = .ok (.invokevirtual 137, 3) := by decide +kernel
theorem dX10_kinds_5 : decode cX10_kinds 5 = .ok (.ifCond .eq 10, 3) := by decide +kernel
theorem dX10_kinds_8 : decode cX10_kinds 8 = .ok (.iload_n 2, 1) := by decide +kernel
theorem dX10_kinds_9 : decode cX10_kinds 9 = .ok (.invokestatic 76, 3) := by decide +kernel
theorem dX10_kinds_12 : decode cX10_kinds 12 = .ok (.ifCond .ne 5, 3) := by decide +kernel
theorem dX10_kinds_15 : decode cX10_kinds 15 = .ok (.iconst (-1), 1) := by decide +kernel
theorem dX10_kinds_16 : decode cX10_kinds 16 = .ok (.ireturn, 1) := by decide +kernel
theorem dX10_kinds_17 : decode cX10_kinds 17 = .ok (.aload_n 0, 1) := by decide +kernel
theorem dX10_kinds_18 : decode cX10_kinds 18 = .ok (.getfield 11, 3) := by decide +kernel
theorem dX10_kinds_21 : decode cX10_kinds 21 = .ok (.iload_n 2, 1) := by decide +kernel
theorem dX10_kinds_22 : decode cX10_kinds 22 = .ok (.aaload, 1) := by decide +kernel
theorem dX10_kinds_23 : decode cX10_kinds 23 = .ok (.invokestatic 235, 3) := by decide +kernel
theorem dX10_kinds_26 : decode cX10_kinds 26 = .ok (.istore_n 3, 1) := by decide +kernel
theorem dX10_kinds_27 : decode cX10_kinds 27 = .ok (.iload_n 3, 1) := by decide +kernel
theorem dX10_kinds_28 : decode cX10_kinds 28 = .ok (.ifCond .eq 9, 3) := by decide +kernel
theorem dX10_kinds_31 : decode cX10_kinds 31 = .ok (.aload_n 0, 1) := by decide +kernel
theorem dX10_kinds_32 : decode cX10_kinds 32 = .ok (.iload_n 3, 1) := by decide +kernel
theorem dX10_kinds_33 : decode cX10_kinds 33 = .ok (.invokevirtual 80, 3) := by decide +kernel
theorem dX10_kinds_36 : decode cX10_kinds 36 = .ok (.ireturn, 1) := by decide +kernel
theorem dX10_kinds_37 : decode cX10_kinds 37 = .ok (.aload_n 0, 1) := by decide +kernel
theorem dX10_kinds_38 : decode cX10_kinds 38 = .ok (.iload_n 1, 1) := by decide +kernel
theorem dX10_kinds_39 : decode cX10_kinds 39 = .ok (.aload_n 0, 1) := by decide +kernel
theorem dX10_kinds_40 : decode cX10_kinds 40 = .ok (.getfield 11, 3) := by decide +kernel
theorem dX10_kinds_43 : decode cX10_kinds 43 = .ok (.iload_n 2, 1) := by decide +kernel
theorem dX10_kinds_44 : decode cX10_kinds 44 = .ok (.aaload, 1) := by decide +kernel
theorem dX10_kinds_45 : decode cX10_kinds 45 = .ok (.invokevirtual 245, 3) := by decide +kernel
theorem dX10_kinds_48 : decode cX10_kinds 48 = .ok (.ireturn, 1) := by decide +kernel
theorem dX10_test_0 : decode cX10_test 0 = .ok (.aload_n 0, 1) := by decide +kernel
theorem dX10_test_1 : decode cX10_test 1 = .ok (.iload_n 1, 1) := by decide +kernel
theorem dX10_test_2 : decode cX10_test 2 = .ok (.invokevirtual 137, 3) := by decide +kernel
theorem dX10_test_5 : decode cX10_test 5 = .ok (.ifCond .eq 10, 3) := by decide +kernel
theorem dX10_test_8 : decode cX10_test 8 = .ok (.iload_n 2, 1) := by decide +kernel
theorem dX10_test_9 : decode cX10_test 9 = .ok (.invokestatic 76, 3) := by decide +kernel
theorem dX10_test_12 : decode cX10_test 12 = .ok (.ifCond .ne 5, 3) := by decide +kernel
theorem dX10_test_15 : decode cX10_test 15 = .ok (.iconst (-1), 1) := by decide +kernel
theorem dX10_test_16 : decode cX10_test 16 = .ok (.ireturn, 1) := by decide +kernel
theorem dX10_test_17 : decode cX10_test 17 = .ok (.aload_n 0, 1) := by decide +kernel
theorem dX10_test_18 : decode cX10_test 18 = .ok (.getfield 11, 3) := by decide +kernel
theorem dX10_test_21 : decode cX10_test 21 = .ok (.iload_n 2, 1) := by decide +kernel
theorem dX10_test_22 : decode cX10_test 22 = .ok (.aaload, 1) := by decide +kernel
theorem dX10_test_23 : decode cX10_test 23 = .ok (.invokestatic 235, 3) := by decide +kernel
theorem dX10_test_26 : decode cX10_test 26 = .ok (.istore_n 3, 1) := by decide +kernel
theorem dX10_test_27 : decode cX10_test 27 = .ok (.iload_n 3, 1) := by decide +kernel
theorem dX10_test_28 : decode cX10_test 28 = .ok (.ifCond .eq 9, 3) := by decide +kernel
theorem dX10_test_31 : decode cX10_test 31 = .ok (.aload_n 0, 1) := by decide +kernel
theorem dX10_test_32 : decode cX10_test 32 = .ok (.iload_n 3, 1) := by decide +kernel
theorem dX10_test_33 : decode cX10_test 33 = .ok (.invokevirtual 80, 3) := by decide +kernel
theorem dX10_test_36 : decode cX10_test 36 = .ok (.ireturn, 1) := by decide +kernel
theorem dX10_test_37 : decode cX10_test 37 = .ok (.aload_n 0, 1) := by decide +kernel
theorem dX10_test_38 : decode cX10_test 38 = .ok (.iload_n 1, 1) := by decide +kernel
theorem dX10_test_39 : decode cX10_test 39 = .ok (.aload_n 0, 1) := by decide +kernel
theorem dX10_test_40 : decode cX10_test 40 = .ok (.getfield 11, 3) := by decide +kernel
theorem dX10_test_43 : decode cX10_test 43 = .ok (.iload_n 2, 1) := by decide +kernel
theorem dX10_test_44 : decode cX10_test 44 = .ok (.aaload, 1) := by decide +kernel
theorem dX10_test_45 : decode cX10_test 45 = .ok (.invokevirtual 245, 3) := by decide +kernel
theorem dX10_test_48 : decode cX10_test 48 = .ok (.istore 4, 2) := by decide +kernel
theorem dX10_test_50 : decode cX10_test 50 = .ok (.iload 4, 2) := by decide +kernel
theorem dX10_test_52 : decode cX10_test 52 = .ok (.ifCond .ne 6, 3) := by decide +kernel
theorem dX10_test_55 : decode cX10_test 55 = .ok (.bipush (-9), 2) := by decide +kernel
theorem dX10_test_57 : decode cX10_test 57 = .ok (.ireturn, 1) := by decide +kernel
theorem dX10_test_58 : decode cX10_test 58 = .ok (.iconst 1, 1) := by decide +kernel
theorem dX10_test_59 : decode cX10_test 59 = .ok (.istore 5, 2) := by decide +kernel
theorem dX10_test_61 : decode cX10_test 61 = .ok (.aload_n 0, 1) := by decide +kernel
theorem dX10_test_62 : decode cX10_test 62 = .ok (.iload_n 1, 1) := by decide +kernel
theorem dX10_test_63 : decode cX10_test 63 = .ok (.iload 4, 2) := by decide +kernel
theorem dX10_test_65 : decode cX10_test 65 = .ok (.iconst 1, 1) := by decide +kernel
theorem dX10_test_66 : decode cX10_test 66 = .ok (.invokevirtual 249, 3) := by decide +kernel
theorem dX10_test_69 : decode cX10_test 69 = .ok (.istore 6, 2) := by decide +kernel
theorem dX10_test_71 : decode cX10_test 71 = .ok (.iconst 2, 1) := by decide +kernel
theorem dX10_test_72 : decode cX10_test 72 = .ok (.istore 7, 2) := by decide +kernel
theorem dX10_test_74 : decode cX10_test 74 = .ok (.iload 7, 2) := by decide +kernel
theorem dX10_test_76 : decode cX10_test 76 = .ok (.bipush 9, 2) := by decide +kernel
theorem dX10_test_78 : decode cX10_test 78 = .ok (.if_icmp .gt 35, 3) := by decide +kernel
theorem dX10_test_81 : decode cX10_test 81 = .ok (.aload_n 0, 1) := by decide +kernel
theorem dX10_test_82 : decode cX10_test 82 = .ok (.iload_n 1, 1) := by decide +kernel
theorem dX10_test_83 : decode cX10_test 83 = .ok (.iload 4, 2) := by decide +kernel
theorem dX10_test_85 : decode cX10_test 85 = .ok (.iload 7, 2) := by decide +kernel
theorem dX10_test_87 : decode cX10_test 87 = .ok (.invokevirtual 249, 3) := by decide +kernel
theorem dX10_test_90 : decode cX10_test 90 = .ok (.istore 8, 2) := by decide +kernel
theorem dX10_test_92 : decode cX10_test 92 = .ok (.iload 8, 2) := by decide +kernel
theorem dX10_test_94 : decode cX10_test 94 = .ok (.iload 6, 2) := by decide +kernel
theorem dX10_test_96 : decode cX10_test 96 = .ok (.if_icmp .ge 11, 3) := by decide +kernel
theorem dX10_test_99 : decode cX10_test 99 = .ok (.iload 8, 2) := by decide +kernel
theorem dX10_test_101 : decode cX10_test 101 = .ok (.istore 6, 2) := by decide +kernel
theorem dX10_test_103 : decode cX10_test 103 = .ok (.iload 7, 2) := by decide +kernel
theorem dX10_test_105 : decode cX10_test 105 = .ok (.istore 5, 2) := by decide +kernel
theorem dX10_test_107 : decode cX10_test 107 = .ok (.iinc 7 1, 3) := by decide +kernel
theorem dX10_test_110 : decode cX10_test 110 = .ok (.goto (-36), 3) := by decide +kernel
theorem dX10_test_113 : decode cX10_test 113 = .ok (.aload_n 0, 1) := by decide +kernel
theorem dX10_test_114 : decode cX10_test 114 = .ok (.iload 6, 2) := by decide +kernel
theorem dX10_test_116 : decode cX10_test 116 = .ok (.putfield 95, 3) := by decide +kernel
theorem dX10_test_119 : decode cX10_test 119 = .ok (.iload 5, 2) := by decide +kernel
theorem dX10_test_121 : decode cX10_test 121 = .ok (.ireturn, 1) := by decide +kernel
theorem dX10_other_0 : decode cX10_other 0 = .ok (.iload_n 1, 1) := by decide +kernel
theorem dX10_other_1 : decode cX10_other 1 = .ok (.invokestatic 76, 3) := by decide +kernel
theorem dX10_other_4 : decode cX10_other 4 = .ok (.ifCond .ne 5, 3) := by decide +kernel
theorem dX10_other_7 : decode cX10_other 7 = .ok (.iconst (-1), 1) := by decide +kernel
theorem dX10_other_8 : decode cX10_other 8 = .ok (.ireturn, 1) := by decide +kernel
theorem dX10_other_9 : decode cX10_other 9 = .ok (.aload_n 0, 1) := by decide +kernel
theorem dX10_other_10 : decode cX10_other 10 = .ok (.getfield 11, 3) := by decide +kernel
theorem dX10_other_13 : decode cX10_other 13 = .ok (.iload_n 1, 1) := by decide +kernel
theorem dX10_other_14 : decode cX10_other 14 = .ok (.aaload, 1) := by decide +kernel
theorem dX10_other_15 : decode cX10_other 15 = .ok (.invokestatic 235, 3) := by decide +kernel
theorem dX10_other_18 : decode cX10_other 18 = .ok (.istore_n 2, 1) := by decide +kernel
theorem dX10_other_19 : decode cX10_other 19 = .ok (.iload_n 2, 1) := by decide +kernel
theorem dX10_other_20 : decode cX10_other 20 = .ok (.ifCond .eq 9, 3) := by decide +kernel
theorem dX10_other_23 : decode cX10_other 23 = .ok (.aload_n 0, 1) := by decide +kernel
theorem dX10_other_24 : decode cX10_other 24 = .ok (.iload_n 2, 1) := by decide +kernel
theorem dX10_other_25 : decode cX10_other 25 = .ok (.invokevirtual 80, 3) := by decide +kernel
theorem dX10_other_28 : decode cX10_other 28 = .ok (.ireturn, 1) := by decide +kernel
theorem dX10_other_29 : decode cX10_other 29 = .ok (.iconst 0, 1) := by decide +kernel
theorem dX10_other_30 : decode cX10_other 30 = .ok (.istore_n 3, 1) := by decide +kernel
theorem dX10_other_31 : decode cX10_other 31 = .ok (.iconst 0, 1) := by decide +kernel
theorem dX10_other_32 : decode cX10_other 32 = .ok (.istore 4, 2) := by decide +kernel
theorem dX10_other_34 : decode cX10_other 34 = .ok (.iconst 0, 1) := by decide +kernel
theorem dX10_other_35 : decode cX10_other 35 = .ok (.istore 5, 2) := by decide +kernel
theorem dX10_other_37 : decode cX10_other 37 = .ok (.iload 5, 2) := by decide +kernel
theorem dX10_other_39 : decode cX10_other 39 = .ok (.aload_n 0, 1) := by decide +kernel
theorem dX10_other_40 : decode cX10_other 40 = .ok (.getfield 53, 3) := by decide +kernel
theorem dX10_other_43 : decode cX10_other 43 = .ok (.getfield 175, 3) := by decide +kernel
theorem dX10_other_46 : decode cX10_other 46 = .ok (.if_icmp .ge 78, 3) := by decide +kernel
theorem dX10_other_49 : decode cX10_other 49 = .ok (.iconst 0, 1) := by decide +kernel
theorem dX10_other_50 : decode cX10_other 50 = .ok (.istore 6, 2) := by decide +kernel
theorem dX10_other_52 : decode cX10_other 52 = .ok (.iload 6, 2) := by decide +kernel
theorem dX10_other_54 : decode cX10_other 54 = .ok (.bipush 10, 2) := by decide +kernel
theorem dX10_other_56 : decode cX10_other 56 = .ok (.if_icmp .ge 62, 3) := by decide +kernel
theorem dX10_other_59 : decode cX10_other 59 = .ok (.iload 6, 2) := by decide +kernel
theorem dX10_other_61 : decode cX10_other 61 = .ok (.aload_n 0, 1) := by decide +kernel
theorem dX10_other_62 : decode cX10_other 62 = .ok (.aload_n 0, 1) := by decide +kernel
theorem dX10_other_63 : decode cX10_other 63 = .ok (.getfield 53, 3) := by decide +kernel
theorem dX10_other_66 : decode cX10_other 66 = .ok (.getfield 185, 3) := by decide +kernel
theorem dX10_other_69 : decode cX10_other 69 = .ok (.iload 5, 2) := by decide +kernel
theorem dX10_other_71 : decode cX10_other 71 = .ok (.iaload, 1) := by decide +kernel
theorem dX10_other_72 : decode cX10_other 72 = .ok (.invokevirtual 188, 3) := by decide +kernel
theorem dX10_other_75 : decode cX10_other 75 = .ok (.if_icmp .eq 37, 3) := by decide +kernel
theorem dX10_other_78 : decode cX10_other 78 = .ok (.aload_n 0, 1) := by decide +kernel
theorem dX10_other_79 : decode cX10_other 79 = .ok (.iload 5, 2) := by decide +kernel
theorem dX10_other_81 : decode cX10_other 81 = .ok (.iload 6, 2) := by decide +kernel
theorem dX10_other_83 : decode cX10_other 83 = .ok (.aload_n 0, 1) := by decide +kernel
theorem dX10_other_84 : decode cX10_other 84 = .ok (.getfield 11, 3) := by decide +kernel
theorem dX10_other_87 : decode cX10_other 87 = .ok (.iload_n 1, 1) := by decide +kernel
theorem dX10_other_88 : decode cX10_other 88 = .ok (.aaload, 1) := by decide +kernel
theorem dX10_other_89 : decode cX10_other 89 = .ok (.invokevirtual 252, 3) := by decide +kernel
theorem dX10_other_92 : decode cX10_other 92 = .ok (.ifCond .eq 20, 3) := by decide +kernel
theorem dX10_other_95 : decode cX10_other 95 = .ok (.iload_n 3, 1) := by decide +kernel
theorem dX10_other_96 : decode cX10_other 96 = .ok (.ifCond .ne 13, 3) := by decide +kernel
theorem dX10_other_99 : decode cX10_other 99 = .ok (.bipush 10, 2) := by decide +kernel
theorem dX10_other_101 : decode cX10_other 101 = .ok (.iload 5, 2) := by decide +kernel
theorem dX10_other_103 : decode cX10_other 103 = .ok (.imul, 1) := by decide +kernel
theorem dX10_other_104 : decode cX10_other 104 = .ok (.iload 6, 2) := by decide +kernel
theorem dX10_other_106 : decode cX10_other 106 = .ok (.iadd, 1) := by decide +kernel
theorem dX10_other_107 : decode cX10_other 107 = .ok (.istore 4, 2) := by decide +kernel
theorem dX10_other_109 : decode cX10_other 109 = .ok (.iinc 3 1, 3) := by decide +kernel
theorem dX10_other_112 : decode cX10_other 112 = .ok (.iinc 6 1, 3) := by decide +kernel
theorem dX10_other_115 : decode cX10_other 115 = .ok (.goto (-63), 3) := by decide +kernel
theorem dX10_other_118 : decode cX10_other 118 = .ok (.iinc 5 1, 3) := by decide +kernel
theorem dX10_other_121 : decode cX10_other 121 = .ok (.goto (-84), 3) := by decide +kernel
theorem dX10_other_124 : decode cX10_other 124 = .ok (.iload_n 3, 1) := by decide +kernel
theorem dX10_other_125 : decode cX10_other 125 = .ok (.ifCond .ne 6, 3) := by decide +kernel
theorem dX10_other_128 : decode cX10_other 128 = .ok (.bipush (-9), 2) := by decide +kernel
theorem dX10_other_130 : decode cX10_other 130 = .ok (.ireturn, 1) := by decide +kernel
theorem dX10_other_131 : decode cX10_other 131 = .ok (.aload_n 0, 1) := by decide +kernel
theorem dX10_other_132 : decode cX10_other 132 = .ok (.iload 4, 2) := by decide +kernel
theorem dX10_other_134 : decode cX10_other 134 = .ok (.putfield 95, 3) := by decide +kernel
theorem dX10_other_137 : decode cX10_other 137 = .ok (.iload_n 3, 1) := by decide +kernel
theorem dX10_other_138 : decode cX10_other 138 = .ok (.ireturn, 1) := by decide +kernel
theorem dX10_duel_0 : decode cX10_duel 0 = .ok (.iload_n 1, 1) := by decide +kernel
theorem dX10_duel_1 : decode cX10_duel 1 = .ok (.ifCond .lt 15, 3) := by decide +kernel
theorem dX10_duel_4 : decode cX10_duel 4 = .ok (.iload_n 1, 1) := by decide +kernel
theorem dX10_duel_5 : decode cX10_duel 5 = .ok (.iconst 5, 1) := by decide +kernel
theorem dX10_duel_6 : decode cX10_duel 6 = .ok (.if_icmp .gt 10, 3) := by decide +kernel
theorem dX10_duel_9 : decode cX10_duel 9 = .ok (.iload_n 2, 1) := by decide +kernel
theorem dX10_duel_10 : decode cX10_duel 10 = .ok (.invokestatic 159, 3) := by decide +kernel
theorem dX10_duel_13 : decode cX10_duel 13 = .ok (.ifCond .ne 5, 3) := by decide +kernel
theorem dX10_duel_16 : decode cX10_duel 16 = .ok (.iconst (-1), 1) := by decide +kernel
theorem dX10_duel_17 : decode cX10_duel 17 = .ok (.ireturn, 1) := by decide +kernel
theorem dX10_duel_18 : decode cX10_duel 18 = .ok (.aload_n 0, 1) := by decide +kernel
theorem dX10_duel_19 : decode cX10_duel 19 = .ok (.getfield 134, 3) := by decide +kernel
theorem dX10_duel_22 : decode cX10_duel 22 = .ok (.ifCond .ne 6, 3) := by decide +kernel
theorem dX10_duel_25 : decode cX10_duel 25 = .ok (.bipush (-4), 2) := by decide +kernel
theorem dX10_duel_27 : decode cX10_duel 27 = .ok (.ireturn, 1) := by decide +kernel
theorem dX10_duel_28 : decode cX10_duel 28 = .ok (.aload_n 0, 1) := by decide +kernel
theorem dX10_duel_29 : decode cX10_duel 29 = .ok (.iload_n 2, 1) := by decide +kernel
theorem dX10_duel_30 : decode cX10_duel 30 = .ok (.invokevirtual 216, 3) := by decide +kernel
theorem dX10_duel_33 : decode cX10_duel 33 = .ok (.aload_n 0, 1) := by decide +kernel
theorem dX10_duel_34 : decode cX10_duel 34 = .ok (.getfield 64, 3) := by decide +kernel
theorem dX10_duel_37 : decode cX10_duel 37 = .ok (.iload_n 1, 1) := by decide +kernel
theorem dX10_duel_38 : decode cX10_duel 38 = .ok (.aload_n 0, 1) := by decide +kernel
theorem dX10_duel_39 : decode cX10_duel 39 = .ok (.getfield 53, 3) := by decide +kernel
theorem dX10_duel_42 : decode cX10_duel 42 = .ok (.invokevirtual 256, 3) := by decide +kernel
theorem dX10_duel_45 : decode cX10_duel 45 = .ok (.aload_n 0, 1) := by decide +kernel
theorem dX10_duel_46 : decode cX10_duel 46 = .ok (.iload_n 2, 1) := by decide +kernel
theorem dX10_duel_47 : decode cX10_duel 47 = .ok (.invokevirtual 207, 3) := by decide +kernel
theorem dX10_duel_50 : decode cX10_duel 50 = .ok (.iconst 1, 1) := by decide +kernel
theorem dX10_duel_51 : decode cX10_duel 51 = .ok (.invokevirtual 259, 3) := by decide +kernel
theorem dX10_duel_54 : decode cX10_duel 54 = .ok (.ireturn, 1) := by decide +kernel
theorem dX10_odds_0 : decode cX10_odds 0 = .ok (.iload_n 1, 1) := by decide +kernel
theorem dX10_odds_1 : decode cX10_odds 1 = .ok (.invokestatic 159, 3) := by decide +kernel
theorem dX10_odds_4 : decode cX10_odds 4 = .ok (.ifCond .eq 10, 3) := by decide +kernel
theorem dX10_odds_7 : decode cX10_odds 7 = .ok (.iload_n 2, 1) := by decide +kernel
theorem dX10_odds_8 : decode cX10_odds 8 = .ok (.invokestatic 263, 3) := by decide +kernel
theorem dX10_odds_11 : decode cX10_odds 11 = .ok (.ifCond .ne 5, 3) := by decide +kernel
theorem dX10_odds_14 : decode cX10_odds 14 = .ok (.iconst (-1), 1) := by decide +kernel
theorem dX10_odds_15 : decode cX10_odds 15 = .ok (.ireturn, 1) := by decide +kernel
theorem dX10_odds_16 : decode cX10_odds 16 = .ok (.aload_n 0, 1) := by decide +kernel
theorem dX10_odds_17 : decode cX10_odds 17 = .ok (.getfield 134, 3) := by decide +kernel
theorem dX10_odds_20 : decode cX10_odds 20 = .ok (.ifCond .ne 6, 3) := by decide +kernel
theorem dX10_odds_23 : decode cX10_odds 23 = .ok (.bipush (-4), 2) := by decide +kernel
theorem dX10_odds_25 : decode cX10_odds 25 = .ok (.ireturn, 1) := by decide +kernel
theorem dX10_odds_26 : decode cX10_odds 26 = .ok (.aload_n 0, 1) := by decide +kernel
theorem dX10_odds_27 : decode cX10_odds 27 = .ok (.iload_n 1, 1) := by decide +kernel
theorem dX10_odds_28 : decode cX10_odds 28 = .ok (.invokevirtual 204, 3) := by decide +kernel
theorem dX10_odds_31 : decode cX10_odds 31 = .ok (.istore_n 3, 1) := by decide +kernel
theorem dX10_odds_32 : decode cX10_odds 32 = .ok (.lconst 0, 1) := by decide +kernel
theorem dX10_odds_33 : decode cX10_odds 33 = .ok (.lstore 4, 2) := by decide +kernel
theorem dX10_odds_35 : decode cX10_odds 35 = .ok (.iconst 0, 1) := by decide +kernel
theorem dX10_odds_36 : decode cX10_odds 36 = .ok (.istore 6, 2) := by decide +kernel
theorem dX10_odds_38 : decode cX10_odds 38 = .ok (.iload 6, 2) := by decide +kernel
theorem dX10_odds_40 : decode cX10_odds 40 = .ok (.iconst 1, 1) := by decide +kernel
theorem dX10_odds_41 : decode cX10_odds 41 = .ok (.aload_n 0, 1) := by decide +kernel
theorem dX10_odds_42 : decode cX10_odds 42 = .ok (.getfield 53, 3) := by decide +kernel
theorem dX10_odds_45 : decode cX10_odds 45 = .ok (.getfield 175, 3) := by decide +kernel
theorem dX10_odds_48 : decode cX10_odds 48 = .ok (.ishl, 1) := by decide +kernel
theorem dX10_odds_49 : decode cX10_odds 49 = .ok (.if_icmp .ge 34, 3) := by decide +kernel
theorem dX10_odds_52 : decode cX10_odds 52 = .ok (.iconst 2, 1) := by decide +kernel
theorem dX10_odds_53 : decode cX10_odds 53 = .ok (.aload_n 0, 1) := by decide +kernel
theorem dX10_odds_54 : decode cX10_odds 54 = .ok (.iload_n 1, 1) := by decide +kernel
theorem dX10_odds_55 : decode cX10_odds 55 = .ok (.iload 6, 2) := by decide +kernel
theorem dX10_odds_57 : decode cX10_odds 57 = .ok (.invokevirtual 266, 3) := by decide +kernel
theorem dX10_odds_60 : decode cX10_odds 60 = .ok (.imul, 1) := by decide +kernel
theorem dX10_odds_61 : decode cX10_odds 61 = .ok (.iload_n 3, 1) := by decide +kernel
