theorem dX0_init_0 : decode cX0_init 0 = .ok (.aload_n 0, 1) := by decide +kernel
theorem dX0_init_1 : decode cX0_init 1 = .ok (.invokespecial 3, 3) := by decide +kernel
theorem dX0_init_4 : decode cX0_init 4 = .ok (.aload_n 0, 1) := by decide +kernel
theorem dX0_init_5 : decode cX0_init 5 = .ok (.iconst 4, 1) := by decide +kernel
theorem dX0_init_6 : decode cX0_init 6 = .ok (.newarray .int, 2) := by decide +kernel
theorem dX0_init_8 : decode cX0_init 8 = .ok (.putfield 9, 3) := by decide +kernel
theorem dX0_init_11 : decode cX0_init 11 = .ok (.aload_n 0, 1) := by decide +kernel
theorem dX0_init_12 : decode cX0_init 12 = .ok (.iload_n 1, 1) := by decide +kernel
theorem dX0_init_13 : decode cX0_init 13 = .ok (.putfield 15, 3) := by decide +kernel
theorem dX0_init_16 : decode cX0_init 16 = .ok (.return_, 1) := by decide +kernel
theorem dX0_become_0 : decode cX0_become 0 = .ok (.aload_n 0, 1) := by decide +kernel
theorem dX0_become_1 : decode cX0_become 1 = .ok (.aload_n 1, 1) := by decide +kernel
theorem dX0_become_2 : decode cX0_become 2 = .ok (.getfield 15, 3) := by decide +kernel
theorem dX0_become_5 : decode cX0_become 5 = .ok (.putfield 15, 3) := by decide +kernel
theorem dX0_become_8 : decode cX0_become 8 = .ok (.aload_n 0, 1) := by decide +kernel
theorem dX0_become_9 : decode cX0_become 9 = .ok (.aload_n 1, 1) := by decide +kernel
theorem dX0_become_10 : decode cX0_become 10 = .ok (.getfield 19, 3) := by decide +kernel
theorem dX0_become_13 : decode cX0_become 13 = .ok (.putfield 19, 3) := by decide +kernel
theorem dX0_become_16 : decode cX0_become 16 = .ok (.aload_n 0, 1) := by decide +kernel
theorem dX0_become_17 : decode cX0_become 17 = .ok (.aload_n 1, 1) := by decide +kernel
theorem dX0_become_18 : decode cX0_become 18 = .ok (.getfield 22, 3) := by decide +kernel
theorem dX0_become_21 : decode cX0_become 21 = .ok (.putfield 22, 3) := by decide +kernel
theorem dX0_become_24 : decode cX0_become 24 = .ok (.aload_n 0, 1) := by decide +kernel
theorem dX0_become_25 : decode cX0_become 25 = .ok (.aload_n 1, 1) := by decide +kernel
theorem dX0_become_26 : decode cX0_become 26 = .ok (.getfield 25, 3) := by decide +kernel
theorem dX0_become_29 : decode cX0_become 29 = .ok (.putfield 25, 3) := by decide +kernel
theorem dX0_become_32 : decode cX0_become 32 = .ok (.aload_n 0, 1) := by decide +kernel
theorem dX0_become_33 : decode cX0_become 33 = .ok (.aload_n 1, 1) := by decide +kernel
theorem dX0_become_34 : decode cX0_become 34 = .ok (.getfield 28, 3) := by decide +kernel
theorem dX0_become_37 : decode cX0_become 37 = .ok (.putfield 28, 3) := by decide +kernel
theorem dX0_become_40 : decode cX0_become 40 = .ok (.aload_n 0, 1) := by decide +kernel
theorem dX0_become_41 : decode cX0_become 41 = .ok (.aload_n 1, 1) := by decide +kernel
theorem dX0_become_42 : decode cX0_become 42 = .ok (.getfield 31, 3) := by decide +kernel
theorem dX0_become_45 : decode cX0_become 45 = .ok (.putfield 31, 3) := by decide +kernel
theorem dX0_become_48 : decode cX0_become 48 = .ok (.aload_n 0, 1) := by decide +kernel
theorem dX0_become_49 : decode cX0_become 49 = .ok (.aload_n 1, 1) := by decide +kernel
theorem dX0_become_50 : decode cX0_become 50 = .ok (.getfield 34, 3) := by decide +kernel
theorem dX0_become_53 : decode cX0_become 53 = .ok (.putfield 34, 3) := by decide +kernel
theorem dX0_become_56 : decode cX0_become 56 = .ok (.aload_n 1, 1) := by decide +kernel
theorem dX0_become_57 : decode cX0_become 57 = .ok (.getfield 9, 3) := by decide +kernel
theorem dX0_become_60 : decode cX0_become 60 = .ok (.iconst 0, 1) := by decide +kernel
theorem dX0_become_61 : decode cX0_become 61 = .ok (.aload_n 0, 1) := by decide +kernel
theorem dX0_become_62 : decode cX0_become 62 = .ok (.getfield 9, 3) := by decide +kernel
theorem dX0_become_65 : decode cX0_become 65 = .ok (.iconst 0, 1) := by decide +kernel
theorem dX0_become_66 : decode cX0_become 66 = .ok (.iconst 4, 1) := by decide +kernel
theorem dX0_become_67 : decode cX0_become 67 = .ok (.invokestatic 37, 3) := by decide +kernel
theorem dX0_become_70 : decode cX0_become 70 = .ok (.return_, 1) := by decide +kernel
theorem dX0_begin_0 : decode cX0_begin 0 = .ok (.aload_n 0, 1) := by decide +kernel
theorem dX0_begin_1 : decode cX0_begin 1 = .ok (.iload_n 1, 1) := by decide +kernel
theorem dX0_begin_2 : decode cX0_begin 2 = .ok (.putfield 19, 3) := by decide +kernel
theorem dX0_begin_5 : decode cX0_begin 5 = .ok (.aload_n 0, 1) := by decide +kernel
theorem dX0_begin_6 : decode cX0_begin 6 = .ok (.iload_n 2, 1) := by decide +kernel
theorem dX0_begin_7 : decode cX0_begin 7 = .ok (.putfield 22, 3) := by decide +kernel
theorem dX0_begin_10 : decode cX0_begin 10 = .ok (.aload_n 0, 1) := by decide +kernel
theorem dX0_begin_11 : decode cX0_begin 11 = .ok (.iload_n 3, 1) := by decide +kernel
theorem dX0_begin_12 : decode cX0_begin 12 = .ok (.putfield 25, 3) := by decide +kernel
theorem dX0_begin_15 : decode cX0_begin 15 = .ok (.aload_n 0, 1) := by decide +kernel
theorem dX0_begin_16 : decode cX0_begin 16 = .ok (.iload 4, 2) := by decide +kernel
theorem dX0_begin_18 : decode cX0_begin 18 = .ok (.putfield 28, 3) := by decide +kernel
theorem dX0_begin_21 : decode cX0_begin 21 = .ok (.aload_n 0, 1) := by decide +kernel
theorem dX0_begin_22 : decode cX0_begin 22 = .ok (.iconst 0, 1) := by decide +kernel
theorem dX0_begin_23 : decode cX0_begin 23 = .ok (.putfield 31, 3) := by decide +kernel
theorem dX0_begin_26 : decode cX0_begin 26 = .ok (.aload_n 0, 1) := by decide +kernel
theorem dX0_begin_27 : decode cX0_begin 27 = .ok (.iconst 0, 1) := by decide +kernel
theorem dX0_begin_28 : decode cX0_begin 28 = .ok (.putfield 34, 3) := by decide +kernel
theorem dX0_begin_31 : decode cX0_begin 31 = .ok (.iconst 0, 1) := by decide +kernel
theorem dX0_begin_32 : decode cX0_begin 32 = .ok (.istore 5, 2) := by decide +kernel
theorem dX0_begin_34 : decode cX0_begin 34 = .ok (.iload 5, 2) := by decide +kernel
theorem dX0_begin_36 : decode cX0_begin 36 = .ok (.iconst 4, 1) := by decide +kernel
theorem dX0_begin_37 : decode cX0_begin 37 = .ok (.if_icmp .ge 17, 3) := by decide +kernel
theorem dX0_begin_40 : decode cX0_begin 40 = .ok (.aload_n 0, 1) := by decide +kernel
theorem dX0_begin_41 : decode cX0_begin 41 = .ok (.getfield 9, 3) := by decide +kernel
theorem dX0_begin_44 : decode cX0_begin 44 = .ok (.iload 5, 2) := by decide +kernel
theorem dX0_begin_46 : decode cX0_begin 46 = .ok (.iconst 0, 1) := by decide +kernel
theorem dX0_begin_47 : decode cX0_begin 47 = .ok (.iastore, 1) := by decide +kernel
theorem dX0_begin_48 : decode cX0_begin 48 = .ok (.iinc 5 1, 3) := by decide +kernel
theorem dX0_begin_51 : decode cX0_begin 51 = .ok (.goto (-17), 3) := by decide +kernel
theorem dX0_begin_54 : decode cX0_begin 54 = .ok (.return_, 1) := by decide +kernel
theorem dX1_init_0 : decode cX1_init 0 = .ok (.aload_n 0, 1) := by decide +kernel
theorem dX1_init_1 : decode cX1_init 1 = .ok (.invokespecial 3, 3) := by decide +kernel
theorem dX1_init_4 : decode cX1_init 4 = .ok (.aload_n 0, 1) := by decide +kernel
theorem dX1_init_5 : decode cX1_init 5 = .ok (.iconst 3, 1) := by decide +kernel
theorem dX1_init_6 : decode cX1_init 6 = .ok (.newarray .int, 2) := by decide +kernel
theorem dX1_init_8 : decode cX1_init 8 = .ok (.putfield 9, 3) := by decide +kernel
theorem dX1_init_11 : decode cX1_init 11 = .ok (.return_, 1) := by decide +kernel
theorem dX1_become_0 : decode cX1_become 0 = .ok (.aload_n 0, 1) := by decide +kernel
theorem dX1_become_1 : decode cX1_become 1 = .ok (.aload_n 1, 1) := by decide +kernel
theorem dX1_become_2 : decode cX1_become 2 = .ok (.getfield 15, 3) := by decide +kernel
theorem dX1_become_5 : decode cX1_become 5 = .ok (.putfield 15, 3) := by decide +kernel
theorem dX1_become_8 : decode cX1_become 8 = .ok (.aload_n 1, 1) := by decide +kernel
theorem dX1_become_9 : decode cX1_become 9 = .ok (.getfield 9, 3) := by decide +kernel
theorem dX1_become_12 : decode cX1_become 12 = .ok (.iconst 0, 1) := by decide +kernel
theorem dX1_become_13 : decode cX1_become 13 = .ok (.aload_n 0, 1) := by decide +kernel
theorem dX1_become_14 : decode cX1_become 14 = .ok (.getfield 9, 3) := by decide +kernel
theorem dX1_become_17 : decode cX1_become 17 = .ok (.iconst 0, 1) := by decide +kernel
theorem dX1_become_18 : decode cX1_become 18 = .ok (.iconst 3, 1) := by decide +kernel
theorem dX1_become_19 : decode cX1_become 19 = .ok (.invokestatic 19, 3) := by decide +kernel
theorem dX1_become_22 : decode cX1_become 22 = .ok (.return_, 1) := by decide +kernel
theorem dX1_learn_0 : decode cX1_learn 0 = .ok (.bipush (-5), 2) := by decide +kernel
theorem dX1_learn_2 : decode cX1_learn 2 = .ok (.istore_n 2, 1) := by decide +kernel
theorem dX1_learn_3 : decode cX1_learn 3 = .ok (.aload_n 0, 1) := by decide +kernel
theorem dX1_learn_4 : decode cX1_learn 4 = .ok (.getfield 15, 3) := by decide +kernel
theorem dX1_learn_7 : decode cX1_learn 7 = .ok (.iconst 3, 1) := by decide +kernel
theorem dX1_learn_8 : decode cX1_learn 8 = .ok (.if_icmp .lt 54, 3) := by decide +kernel
theorem dX1_learn_11 : decode cX1_learn 11 = .ok (.aload_n 0, 1) := by decide +kernel
theorem dX1_learn_12 : decode cX1_learn 12 = .ok (.iload_n 1, 1) := by decide +kernel
theorem dX1_learn_13 : decode cX1_learn 13 = .ok (.invokevirtual 25, 3) := by decide +kernel
theorem dX1_learn_16 : decode cX1_learn 16 = .ok (.istore_n 3, 1) := by decide +kernel
theorem dX1_learn_17 : decode cX1_learn 17 = .ok (.aload_n 0, 1) := by decide +kernel
theorem dX1_learn_18 : decode cX1_learn 18 = .ok (.getfield 9, 3) := by decide +kernel
theorem dX1_learn_21 : decode cX1_learn 21 = .ok (.iload_n 3, 1) := by decide +kernel
theorem dX1_learn_22 : decode cX1_learn 22 = .ok (.iaload, 1) := by decide +kernel
theorem dX1_learn_23 : decode cX1_learn 23 = .ok (.istore_n 2, 1) := by decide +kernel
theorem dX1_learn_24 : decode cX1_learn 24 = .ok (.iload_n 3, 1) := by decide +kernel
theorem dX1_learn_25 : decode cX1_learn 25 = .ok (.istore 4, 2) := by decide +kernel
theorem dX1_learn_27 : decode cX1_learn 27 = .ok (.iload 4, 2) := by decide +kernel
theorem dX1_learn_29 : decode cX1_learn 29 = .ok (.iconst 1, 1) := by decide +kernel
theorem dX1_learn_30 : decode cX1_learn 30 = .ok (.iadd, 1) := by decide +kernel
theorem dX1_learn_31 : decode cX1_learn 31 = .ok (.iconst 3, 1) := by decide +kernel
theorem dX1_learn_32 : decode cX1_learn 32 = .ok (.if_icmp .ge 25, 3) := by decide +kernel
theorem dX1_learn_35 : decode cX1_learn 35 = .ok (.aload_n 0, 1) := by decide +kernel
theorem dX1_learn_36 : decode cX1_learn 36 = .ok (.getfield 9, 3) := by decide +kernel
theorem dX1_learn_39 : decode cX1_learn 39 = .ok (.iload 4, 2) := by decide +kernel
theorem dX1_learn_41 : decode cX1_learn 41 = .ok (.aload_n 0, 1) := by decide +kernel
theorem dX1_learn_42 : decode cX1_learn 42 = .ok (.getfield 9, 3) := by decide +kernel
theorem dX1_learn_45 : decode cX1_learn 45 = .ok (.iload 4, 2) := by decide +kernel
theorem dX1_learn_47 : decode cX1_learn 47 = .ok (.iconst 1, 1) := by decide +kernel
theorem dX1_learn_48 : decode cX1_learn 48 = .ok (.iadd, 1) := by decide +kernel
theorem dX1_learn_49 : decode cX1_learn 49 = .ok (.iaload, 1) := by decide +kernel
theorem dX1_learn_50 : decode cX1_learn 50 = .ok (.iastore, 1) := by decide +kernel
theorem dX1_learn_51 : decode cX1_learn 51 = .ok (.iinc 4 1, 3) := by decide +kernel
theorem dX1_learn_54 : decode cX1_learn 54 = .ok (.goto (-27), 3) := by decide +kernel
theorem dX1_learn_57 : decode cX1_learn 57 = .ok (.aload_n 0, 1) := by decide +kernel
theorem dX1_learn_58 : decode cX1_learn 58 = .ok (.iconst 2, 1) := by decide +kernel
theorem dX1_learn_59 : decode cX1_learn 59 = .ok (.putfield 15, 3) := by decide +kernel
theorem dX1_learn_62 : decode cX1_learn 62 = .ok (.aload_n 0, 1) := by decide +kernel
theorem dX1_learn_63 : decode cX1_learn 63 = .ok (.getfield 9, 3) := by decide +kernel
theorem dX1_learn_66 : decode cX1_learn 66 = .ok (.aload_n 0, 1) := by decide +kernel
theorem dX1_learn_67 : decode cX1_learn 67 = .ok (.getfield 15, 3) := by decide +kernel
theorem dX1_learn_70 : decode cX1_learn 70 = .ok (.iload_n 1, 1) := by decide +kernel
theorem dX1_learn_71 : decode cX1_learn 71 = .ok (.iastore, 1) := by decide +kernel
theorem dX1_learn_72 : decode cX1_learn 72 = .ok (.aload_n 0, 1) := by decide +kernel
theorem dX1_learn_73 : decode cX1_learn 73 = .ok (.dup, 1) := by decide +kernel
theorem dX1_learn_74 : decode cX1_learn 74 = .ok (.getfield 15, 3) := by decide +kernel
theorem dX1_learn_77 : decode cX1_learn 77 = .ok (.iconst 1, 1) := by decide +kernel
theorem dX1_learn_78 : decode cX1_learn 78 = .ok (.iadd, 1) := by decide +kernel
theorem dX1_learn_79 : decode cX1_learn 79 = .ok (.putfield 15, 3) := by decide +kernel
theorem dX1_learn_82 : decode cX1_learn 82 = .ok (.iload_n 2, 1) := by decide +kernel
theorem dX1_learn_83 : decode cX1_learn 83 = .ok (.ireturn, 1) := by decide +kernel
theorem dX1_leastAlike_0 : decode cX1_leastAlike 0 = .ok (.iconst 0, 1) := by decide +kernel
theorem dX1_leastAlike_1 : decode cX1_leastAlike 1 = .ok (.istore_n 2, 1) := by decide +kernel
theorem dX1_leastAlike_2 : decode cX1_leastAlike 2 = .ok (.iconst 1, 1) := by decide +kernel
theorem dX1_leastAlike_3 : decode cX1_leastAlike 3 = .ok (.istore_n 3, 1) := by decide +kernel
theorem dX1_leastAlike_4 : decode cX1_leastAlike 4 = .ok (.iload_n 3, 1) := by decide +kernel
theorem dX1_leastAlike_5 : decode cX1_leastAlike 5 = .ok (.aload_n 0, 1) := by decide +kernel
theorem dX1_leastAlike_6 : decode cX1_leastAlike 6 = .ok (.getfield 15, 3) := by decide +kernel
theorem dX1_leastAlike_9 : decode cX1_leastAlike 9 = .ok (.if_icmp .ge 34, 3) := by decide +kernel
theorem dX1_leastAlike_12 : decode cX1_leastAlike 12 = .ok (.aload_n 0, 1) := by decide +kernel
theorem dX1_leastAlike_13 : decode cX1_leastAlike 13 = .ok (.getfield 9, 3) := by decide +kernel
theorem dX1_leastAlike_16 : decode cX1_leastAlike 16 = .ok (.iload_n 3, 1) := by decide +kernel
theorem dX1_leastAlike_17 : decode cX1_leastAlike 17 = .ok (.iaload, 1) := by decide +kernel
theorem dX1_leastAlike_18 : decode cX1_leastAlike 18 = .ok (.iload_n 1, 1) := by decide +kernel
theorem dX1_leastAlike_19 : decode cX1_leastAlike 19 = .ok (.invokestatic 29, 3) := by decide +kernel
theorem dX1_leastAlike_22 : decode cX1_leastAlike 22 = .ok (.aload_n 0, 1) := by decide +kernel
theorem dX1_leastAlike_23 : decode cX1_leastAlike 23 = .ok (.getfield 9, 3) := by decide +kernel
theorem dX1_leastAlike_26 : decode cX1_leastAlike 26 = .ok (.iload_n 2, 1) := by decide +kernel
theorem dX1_leastAlike_27 : decode cX1_leastAlike 27 = .ok (.iaload, 1) := by decide +kernel
theorem dX1_leastAlike_28 : decode cX1_leastAlike 28 = .ok (.iload_n 1, 1) := by decide +kernel
theorem dX1_leastAlike_29 : decode cX1_leastAlike 29 = .ok (.invokestatic 29, 3) := by decide +kernel
theorem dX1_leastAlike_32 : decode cX1_leastAlike 32 = .ok (.if_icmp .ge 5, 3) := by decide +kernel
theorem dX1_leastAlike_35 : decode cX1_leastAlike 35 = .ok (.iload_n 3, 1) := by decide +kernel
theorem dX1_leastAlike_36 : decode cX1_leastAlike 36 = .ok (.istore_n 2, 1) := by decide +kernel
theorem dX1_leastAlike_37 : decode cX1_leastAlike 37 = .ok (.iinc 3 1, 3) := by decide +kernel
theorem dX1_leastAlike_40 : decode cX1_leastAlike 40 = .ok (.goto (-36), 3) := by decide +kernel
theorem dX1_leastAlike_43 : decode cX1_leastAlike 43 = .ok (.iload_n 2, 1) := by decide +kernel
theorem dX1_leastAlike_44 : decode cX1_leastAlike 44 = .ok (.ireturn, 1) := by decide +kernel
theorem dX1_knowsAlike_0 : decode cX1_knowsAlike 0 = .ok (.iconst 0, 1) := by decide +kernel
theorem dX1_knowsAlike_1 : decode cX1_knowsAlike 1 = .ok (.istore_n 3, 1) := by decide +kernel
theorem dX1_knowsAlike_2 : decode cX1_knowsAlike 2 = .ok (.iload_n 3, 1) := by decide +kernel
theorem dX1_knowsAlike_3 : decode cX1_knowsAlike 3 = .ok (.aload_n 0, 1) := by decide +kernel
theorem dX1_knowsAlike_4 : decode cX1_knowsAlike 4 = .ok (.getfield 15, 3) := by decide +kernel
theorem dX1_knowsAlike_7 : decode cX1_knowsAlike 7 = .ok (.if_icmp .ge 25, 3) := by decide +kernel
theorem dX1_knowsAlike_10 : decode cX1_knowsAlike 10 = .ok (.aload_n 0, 1) := by decide +kernel
theorem dX1_knowsAlike_11 : decode cX1_knowsAlike 11 = .ok (.getfield 9, 3) := by decide +kernel
theorem dX1_knowsAlike_14 : decode cX1_knowsAlike 14 = .ok (.iload_n 3, 1) := by decide +kernel
theorem dX1_knowsAlike_15 : decode cX1_knowsAlike 15 = .ok (.iaload, 1) := by decide +kernel
theorem dX1_knowsAlike_16 : decode cX1_knowsAlike 16 = .ok (.iload_n 1, 1) := by decide +kernel
theorem dX1_knowsAlike_17 : decode cX1_knowsAlike 17 = .ok (.invokestatic 29, 3) := by decide +kernel
theorem dX1_knowsAlike_20 : decode cX1_knowsAlike 20 = .ok (.iload_n 2, 1) := by decide +kernel
theorem dX1_knowsAlike_21 : decode cX1_knowsAlike 21 = .ok (.if_icmp .lt 5, 3) := by decide +kernel
theorem dX1_knowsAlike_24 : decode cX1_knowsAlike 24 = .ok (.iconst 1, 1) := by decide +kernel
theorem dX1_knowsAlike_25 : decode cX1_knowsAlike 25 = .ok (.ireturn, 1) := by decide +kernel
theorem dX1_knowsAlike_26 : decode cX1_knowsAlike 26 = .ok (.iinc 3 1, 3) := by decide +kernel
theorem dX1_knowsAlike_29 : decode cX1_knowsAlike 29 = .ok (.goto (-27), 3) := by decide +kernel
theorem dX1_knowsAlike_32 : decode cX1_knowsAlike 32 = .ok (.iconst 0, 1) := by decide +kernel
theorem dX1_knowsAlike_33 : decode cX1_knowsAlike 33 = .ok (.ireturn, 1) := by decide +kernel
theorem dX2_init_0 : decode cX2_init 0 = .ok (.aload_n 0, 1) := by decide +kernel
theorem dX2_init_1 : decode cX2_init 1 = .ok (.invokespecial 3, 3) := by decide +kernel
theorem dX2_init_4 : decode cX2_init 4 = .ok (.aload_n 0, 1) := by decide +kernel
theorem dX2_init_5 : decode cX2_init 5 = .ok (.iload_n 1, 1) := by decide +kernel
theorem dX2_init_6 : decode cX2_init 6 = .ok (.newarray .int, 2) := by decide +kernel
theorem dX2_init_8 : decode cX2_init 8 = .ok (.putfield 9, 3) := by decide +kernel
theorem dX2_init_11 : decode cX2_init 11 = .ok (.aload_n 0, 1) := by decide +kernel
theorem dX2_init_12 : decode cX2_init 12 = .ok (.iload_n 1, 1) := by decide +kernel
theorem dX2_init_13 : decode cX2_init 13 = .ok (.newarray .int, 2) := by decide +kernel
theorem dX2_init_15 : decode cX2_init 15 = .ok (.putfield 15, 3) := by decide +kernel
theorem dX2_init_18 : decode cX2_init 18 = .ok (.aload_n 0, 1) := by decide +kernel
theorem dX2_init_19 : decode cX2_init 19 = .ok (.bipush 10, 2) := by decide +kernel
theorem dX2_init_21 : decode cX2_init 21 = .ok (.putfield 18, 3) := by decide +kernel
theorem dX2_init_24 : decode cX2_init 24 = .ok (.return_, 1) := by decide +kernel
theorem dX2_clear_0 : decode cX2_clear 0 = .ok (.aload_n 0, 1) := by decide +kernel
theorem dX2_clear_1 : decode cX2_clear 1 = .ok (.iconst 0, 1) := by decide +kernel
theorem dX2_clear_2 : decode cX2_clear 2 = .ok (.putfield 22, 3) := by decide +kernel
theorem dX2_clear_5 : decode cX2_clear 5 = .ok (.aload_n 0, 1) := by decide +kernel
theorem dX2_clear_6 : decode cX2_clear 6 = .ok (.bipush 10, 2) := by decide +kernel
theorem dX2_clear_8 : decode cX2_clear 8 = .ok (.putfield 18, 3) := by decide +kernel
theorem dX2_clear_11 : decode cX2_clear 11 = .ok (.aload_n 0, 1) := by decide +kernel
theorem dX2_clear_12 : decode cX2_clear 12 = .ok (.iconst 0, 1) := by decide +kernel
theorem dX2_clear_13 : decode cX2_clear 13 = .ok (.putfield 25, 3) := by decide +kernel
theorem dX2_clear_16 : decode cX2_clear 16 = .ok (.return_, 1) := by decide +kernel
theorem dX2_put_0 : decode cX2_put 0 = .ok (.aload_n 0, 1) := by decide +kernel
theorem dX2_put_1 : decode cX2_put 1 = .ok (.getfield 22, 3) := by decide +kernel
theorem dX2_put_4 : decode cX2_put 4 = .ok (.aload_n 0, 1) := by decide +kernel
theorem dX2_put_5 : decode cX2_put 5 = .ok (.getfield 9, 3) := by decide +kernel
theorem dX2_put_8 : decode cX2_put 8 = .ok (.arraylength, 1) := by decide +kernel
theorem dX2_put_9 : decode cX2_put 9 = .ok (.if_icmp .ge 33, 3) := by decide +kernel
theorem dX2_put_12 : decode cX2_put 12 = .ok (.aload_n 0, 1) := by decide +kernel
theorem dX2_put_13 : decode cX2_put 13 = .ok (.getfield 9, 3) := by decide +kernel
theorem dX2_put_16 : decode cX2_put 16 = .ok (.aload_n 0, 1) := by decide +kernel
theorem dX2_put_17 : decode cX2_put 17 = .ok (.getfield 22, 3) := by decide +kernel
theorem dX2_put_20 : decode cX2_put 20 = .ok (.iload_n 1, 1) := by decide +kernel
theorem dX2_put_21 : decode cX2_put 21 = .ok (.iastore, 1) := by decide +kernel
theorem dX2_put_22 : decode cX2_put 22 = .ok (.aload_n 0, 1) := by decide +kernel
theorem dX2_put_23 : decode cX2_put 23 = .ok (.getfield 15, 3) := by decide +kernel
theorem dX2_put_26 : decode cX2_put 26 = .ok (.aload_n 0, 1) := by decide +kernel
theorem dX2_put_27 : decode cX2_put 27 = .ok (.getfield 22, 3) := by decide +kernel
theorem dX2_put_30 : decode cX2_put 30 = .ok (.iload_n 2, 1) := by decide +kernel
theorem dX2_put_31 : decode cX2_put 31 = .ok (.iastore, 1) := by decide +kernel
theorem dX2_put_32 : decode cX2_put 32 = .ok (.aload_n 0, 1) := by decide +kernel
theorem dX2_put_33 : decode cX2_put 33 = .ok (.dup, 1) := by decide +kernel
theorem dX2_put_34 : decode cX2_put 34 = .ok (.getfield 22, 3) := by decide +kernel
theorem dX2_put_37 : decode cX2_put 37 = .ok (.iconst 1, 1) := by decide +kernel
theorem dX2_put_38 : decode cX2_put 38 = .ok (.iadd, 1) := by decide +kernel
theorem dX2_put_39 : decode cX2_put 39 = .ok (.putfield 22, 3) := by decide +kernel
theorem dX2_put_42 : decode cX2_put 42 = .ok (.return_, 1) := by decide +kernel
theorem dX2_bonus_0 : decode cX2_bonus 0 = .ok (.iconst 0, 1) := by decide +kernel
theorem dX2_bonus_1 : decode cX2_bonus 1 = .ok (.istore 4, 2) := by decide +kernel
theorem dX2_bonus_3 : decode cX2_bonus 3 = .ok (.iconst 0, 1) := by decide +kernel
theorem dX2_bonus_4 : decode cX2_bonus 4 = .ok (.istore 5, 2) := by decide +kernel
theorem dX2_bonus_6 : decode cX2_bonus 6 = .ok (.iconst 0, 1) := by decide +kernel
theorem dX2_bonus_7 : decode cX2_bonus 7 = .ok (.istore 6, 2) := by decide +kernel
theorem dX2_bonus_9 : decode cX2_bonus 9 = .ok (.iload 6, 2) := by decide +kernel
theorem dX2_bonus_11 : decode cX2_bonus 11 = .ok (.aload_n 0, 1) := by decide +kernel
theorem dX2_bonus_12 : decode cX2_bonus 12 = .ok (.getfield 22, 3) := by decide +kernel
theorem dX2_bonus_15 : decode cX2_bonus 15 = .ok (.if_icmp .ge 180, 3) := by decide +kernel
theorem dX2_bonus_18 : decode cX2_bonus 18 = .ok (.aload_n 0, 1) := by decide +kernel
theorem dX2_bonus_19 : decode cX2_bonus 19 = .ok (.getfield 9, 3) := by decide +kernel
theorem dX2_bonus_22 : decode cX2_bonus 22 = .ok (.iload 6, 2) := by decide +kernel
theorem dX2_bonus_24 : decode cX2_bonus 24 = .ok (.iaload, 1) := by decide +kernel
theorem dX2_bonus_25 : decode cX2_bonus 25 = .ok (.istore 7, 2) := by decide +kernel
theorem dX2_bonus_27 : decode cX2_bonus 27 = .ok (.iload 5, 2) := by decide +kernel
theorem dX2_bonus_29 : decode cX2_bonus 29 = .ok (.iconst 1, 1) := by decide +kernel
theorem dX2_bonus_30 : decode cX2_bonus 30 = .ok (.iand, 1) := by decide +kernel
theorem dX2_bonus_31 : decode cX2_bonus 31 = .ok (.istore 8, 2) := by decide +kernel
theorem dX2_bonus_33 : decode cX2_bonus 33 = .ok (.iload 7, 2) := by decide +kernel
theorem dX2_bonus_35 : decode cX2_bonus 35 = .ok (.bipush 18, 2) := by decide +kernel
theorem dX2_bonus_37 : decode cX2_bonus 37 = .ok (.if_icmp .ge 49, 3) := by decide +kernel
theorem dX2_bonus_40 : decode cX2_bonus 40 = .ok (.iload 7, 2) := by decide +kernel
theorem dX2_bonus_42 : decode cX2_bonus 42 = .ok (.iconst 3, 1) := by decide +kernel
theorem dX2_bonus_43 : decode cX2_bonus 43 = .ok (.idiv, 1) := by decide +kernel
theorem dX2_bonus_44 : decode cX2_bonus 44 = .ok (.aload_n 1, 1) := by decide +kernel
theorem dX2_bonus_45 : decode cX2_bonus 45 = .ok (.iload_n 2, 1) := by decide +kernel
theorem dX2_bonus_46 : decode cX2_bonus 46 = .ok (.iload_n 3, 1) := by decide +kernel
theorem dX2_bonus_47 : decode cX2_bonus 47 = .ok (.invokestatic 28, 3) := by decide +kernel
theorem dX2_bonus_50 : decode cX2_bonus 50 = .ok (.iload 7, 2) := by decide +kernel
theorem dX2_bonus_52 : decode cX2_bonus 52 = .ok (.iconst 3, 1) := by decide +kernel
theorem dX2_bonus_53 : decode cX2_bonus 53 = .ok (.irem, 1) := by decide +kernel
theorem dX2_bonus_54 : decode cX2_bonus 54 = .ok (.aload_n 0, 1) := by decide +kernel
theorem dX2_bonus_55 : decode cX2_bonus 55 = .ok (.getfield 15, 3) := by decide +kernel
theorem dX2_bonus_58 : decode cX2_bonus 58 = .ok (.iload 6, 2) := by decide +kernel
theorem dX2_bonus_60 : decode cX2_bonus 60 = .ok (.iaload, 1) := by decide +kernel
theorem dX2_bonus_61 : decode cX2_bonus 61 = .ok (.invokestatic 32, 3) := by decide +kernel
theorem dX2_bonus_64 : decode cX2_bonus 64 = .ok (.istore 9, 2) := by decide +kernel
theorem dX2_bonus_66 : decode cX2_bonus 66 = .ok (.iload 5, 2) := by decide +kernel
theorem dX2_bonus_68 : decode cX2_bonus 68 = .ok (.iconst 1, 1) := by decide +kernel
theorem dX2_bonus_69 : decode cX2_bonus 69 = .ok (.ishl, 1) := by decide +kernel
theorem dX2_bonus_70 : decode cX2_bonus 70 = .ok (.iload 9, 2) := by decide +kernel
theorem dX2_bonus_72 : decode cX2_bonus 72 = .ok (.ifCond .eq 7, 3) := by decide +kernel
theorem dX2_bonus_75 : decode cX2_bonus 75 = .ok (.iconst 1, 1) := by decide +kernel
theorem dX2_bonus_76 : decode cX2_bonus 76 = .ok (.goto 4, 3) := by decide +kernel
theorem dX2_bonus_79 : decode cX2_bonus 79 = .ok (.iconst 0, 1) := by decide +kernel
theorem dX2_bonus_80 : decode cX2_bonus 80 = .ok (.ior, 1) := by decide +kernel
theorem dX2_bonus_81 : decode cX2_bonus 81 = .ok (.istore 5, 2) := by decide +kernel
theorem dX2_bonus_83 : decode cX2_bonus 83 = .ok (.goto 106, 3) := by decide +kernel
theorem dX2_bonus_86 : decode cX2_bonus 86 = .ok (.iload 7, 2) := by decide +kernel
theorem dX2_bonus_88 : decode cX2_bonus 88 = .ok (.bipush 18, 2) := by decide +kernel
theorem dX2_bonus_90 : decode cX2_bonus 90 = .ok (.if_icmp .ne 12, 3) := by decide +kernel
theorem dX2_bonus_93 : decode cX2_bonus 93 = .ok (.iload 5, 2) := by decide +kernel
theorem dX2_bonus_95 : decode cX2_bonus 95 = .ok (.iconst 1, 1) := by decide +kernel
theorem dX2_bonus_96 : decode cX2_bonus 96 = .ok (.ixor, 1) := by decide +kernel
theorem dX2_bonus_97 : decode cX2_bonus 97 = .ok (.istore 5, 2) := by decide +kernel
theorem dX2_bonus_99 : decode cX2_bonus 99 = .ok (.goto 90, 3) := by decide +kernel
theorem dX2_bonus_102 : decode cX2_bonus 102 = .ok (.iload 7, 2) := by decide +kernel
theorem dX2_bonus_104 : decode cX2_bonus 104 = .ok (.bipush 19, 2) := by decide +kernel
theorem dX2_bonus_106 : decode cX2_bonus 106 = .ok (.if_icmp .ne 25, 3) := by decide +kernel
theorem dX2_bonus_109 : decode cX2_bonus 109 = .ok (.iload 5, 2) := by decide +kernel
theorem dX2_bonus_111 : decode cX2_bonus 111 = .ok (.iconst 1, 1) := by decide +kernel
theorem dX2_bonus_112 : decode cX2_bonus 112 = .ok (.ishr, 1) := by decide +kernel
theorem dX2_bonus_113 : decode cX2_bonus 113 = .ok (.iload 8, 2) := by decide +kernel
theorem dX2_bonus_115 : decode cX2_bonus 115 = .ok (.iconst 1, 1) := by decide +kernel
theorem dX2_bonus_116 : decode cX2_bonus 116 = .ok (.if_icmp .ne 7, 3) := by decide +kernel
theorem dX2_bonus_119 : decode cX2_bonus 119 = .ok (.iconst (-1), 1) := by decide +kernel
theorem dX2_bonus_120 : decode cX2_bonus 120 = .ok (.goto 5, 3) := by decide +kernel
theorem dX2_bonus_123 : decode cX2_bonus 123 = .ok (.bipush (-2), 2) := by decide +kernel
theorem dX2_bonus_125 : decode cX2_bonus 125 = .ok (.iand, 1) := by decide +kernel
theorem dX2_bonus_126 : decode cX2_bonus 126 = .ok (.istore 5, 2) := by decide +kernel
theorem dX2_bonus_128 : decode cX2_bonus 128 = .ok (.goto 61, 3) := by decide +kernel
theorem dX2_bonus_131 : decode cX2_bonus 131 = .ok (.iload 7, 2) := by decide +kernel
theorem dX2_bonus_133 : decode cX2_bonus 133 = .ok (.bipush 20, 2) := by decide +kernel
theorem dX2_bonus_135 : decode cX2_bonus 135 = .ok (.if_icmp .ne 15, 3) := by decide +kernel
theorem dX2_bonus_138 : decode cX2_bonus 138 = .ok (.iload 5, 2) := by decide +kernel
theorem dX2_bonus_140 : decode cX2_bonus 140 = .ok (.iconst 1, 1) := by decide +kernel
theorem dX2_bonus_141 : decode cX2_bonus 141 = .ok (.ishr, 1) := by decide +kernel
theorem dX2_bonus_142 : decode cX2_bonus 142 = .ok (.iload 8, 2) := by decide +kernel
theorem dX2_bonus_144 : decode cX2_bonus 144 = .ok (.ior, 1) := by decide +kernel
theorem dX2_bonus_145 : decode cX2_bonus 145 = .ok (.istore 5, 2) := by decide +kernel
theorem dX2_bonus_147 : decode cX2_bonus 147 = .ok (.goto 42, 3) := by decide +kernel
theorem dX2_bonus_150 : decode cX2_bonus 150 = .ok (.iload 8, 2) := by decide +kernel
theorem dX2_bonus_152 : decode cX2_bonus 152 = .ok (.iconst 1, 1) := by decide +kernel
theorem dX2_bonus_153 : decode cX2_bonus 153 = .ok (.if_icmp .ne 33, 3) := by decide +kernel
theorem dX2_bonus_156 : decode cX2_bonus 156 = .ok (.iload 4, 2) := by decide +kernel
theorem dX2_bonus_158 : decode cX2_bonus 158 = .ok (.iload 7, 2) := by decide +kernel
theorem dX2_bonus_160 : decode cX2_bonus 160 = .ok (.bipush 21, 2) := by decide +kernel
theorem dX2_bonus_162 : decode cX2_bonus 162 = .ok (.if_icmp .ne 13, 3) := by decide +kernel
theorem dX2_bonus_165 : decode cX2_bonus 165 = .ok (.aload_n 0, 1) := by decide +kernel
theorem dX2_bonus_166 : decode cX2_bonus 166 = .ok (.getfield 15, 3) := by decide +kernel
theorem dX2_bonus_169 : decode cX2_bonus 169 = .ok (.iload 6, 2) := by decide +kernel
theorem dX2_bonus_171 : decode cX2_bonus 171 = .ok (.iaload, 1) := by decide +kernel
theorem dX2_bonus_172 : decode cX2_bonus 172 = .ok (.goto 11, 3) := by decide +kernel
theorem dX2_bonus_175 : decode cX2_bonus 175 = .ok (.aload_n 0, 1) := by decide +kernel
theorem dX2_bonus_176 : decode cX2_bonus 176 = .ok (.getfield 15, 3) := by decide +kernel
theorem dX2_bonus_179 : decode cX2_bonus 179 = .ok (.iload 6, 2) := by decide +kernel
theorem dX2_bonus_181 : decode cX2_bonus 181 = .ok (.iaload, 1) := by decide +kernel
theorem dX2_bonus_182 : decode cX2_bonus 182 = .ok (.ineg, 1) := by decide +kernel
theorem dX2_bonus_183 : decode cX2_bonus 183 = .ok (.iadd, 1) := by decide +kernel
theorem dX2_bonus_184 : decode cX2_bonus 184 = .ok (.istore 4, 2) := by decide +kernel
theorem dX2_bonus_186 : decode cX2_bonus 186 = .ok (.iconst 0, 1) := by decide +kernel
theorem dX2_bonus_187 : decode cX2_bonus 187 = .ok (.istore 5, 2) := by decide +kernel
theorem dX2_bonus_189 : decode cX2_bonus 189 = .ok (.iinc 6 1, 3) := by decide +kernel
theorem dX2_bonus_192 : decode cX2_bonus 192 = .ok (.goto (-183), 3) := by decide +kernel
theorem dX2_bonus_195 : decode cX2_bonus 195 = .ok (.iload 4, 2) := by decide +kernel
theorem dX2_bonus_197 : decode cX2_bonus 197 = .ok (.ireturn, 1) := by decide +kernel
theorem dX2_valueOf_0 : decode cX2_valueOf 0 = .ok (.iload_n 0, 1) := by decide +kernel
theorem dX2_valueOf_1 : decode cX2_valueOf 1 = .ok (.tableswitch 57 0 4 #[35, 40, 45, 50, 52], 35) := by decide +kernel
theorem dX2_valueOf_36 : decode cX2_valueOf 36 = .ok (.aload_n 1, 1) := by decide +kernel
theorem dX2_valueOf_37 : decode cX2_valueOf 37 = .ok (.getfield 36, 3) := by decide +kernel
theorem dX2_valueOf_40 : decode cX2_valueOf 40 = .ok (.ireturn, 1) := by decide +kernel
theorem dX2_valueOf_41 : decode cX2_valueOf 41 = .ok (.aload_n 1, 1) := by decide +kernel
theorem dX2_valueOf_42 : decode cX2_valueOf 42 = .ok (.getfield 41, 3) := by decide +kernel
theorem dX2_valueOf_45 : decode cX2_valueOf 45 = .ok (.ireturn, 1) := by decide +kernel
theorem dX2_valueOf_46 : decode cX2_valueOf 46 = .ok (.aload_n 1, 1) := by decide +kernel
theorem dX2_valueOf_47 : decode cX2_valueOf 47 = .ok (.getfield 44, 3) := by decide +kernel
theorem dX2_valueOf_50 : decode cX2_valueOf 50 = .ok (.ireturn, 1) := by decide +kernel
theorem dX2_valueOf_51 : decode cX2_valueOf 51 = .ok (.iload_n 2, 1) := by decide +kernel
theorem dX2_valueOf_52 : decode cX2_valueOf 52 = .ok (.ireturn, 1) := by decide +kernel
theorem dX2_valueOf_53 : decode cX2_valueOf 53 = .ok (.aload_n 1, 1) := by decide +kernel
theorem dX2_valueOf_54 : decode cX2_valueOf 54 = .ok (.getfield 47, 3) := by decide +kernel
theorem dX2_valueOf_57 : decode cX2_valueOf 57 = .ok (.ireturn, 1) := by decide +kernel
theorem dX2_valueOf_58 : decode cX2_valueOf 58 = .ok (.iload_n 3, 1) := by decide +kernel
theorem dX2_valueOf_59 : decode cX2_valueOf 59 = .ok (.bipush 10, 2) := by decide +kernel
theorem dX2_valueOf_61 : decode cX2_valueOf 61 = .ok (.irem, 1) := by decide +kernel
theorem dX2_valueOf_62 : decode cX2_valueOf 62 = .ok (.ireturn, 1) := by decide +kernel
theorem dX2_isSo_0 : decode cX2_isSo 0 = .ok (.iload_n 1, 1) := by decide +kernel
theorem dX2_isSo_1 : decode cX2_isSo 1 = .ok (.ifCond .ne 14, 3) := by decide +kernel
theorem dX2_isSo_4 : decode cX2_isSo 4 = .ok (.iload_n 0, 1) := by decide +kernel
theorem dX2_isSo_5 : decode cX2_isSo 5 = .ok (.iload_n 2, 1) := by decide +kernel
theorem dX2_isSo_6 : decode cX2_isSo 6 = .ok (.if_icmp .ge 7, 3) := by decide +kernel
theorem dX2_isSo_9 : decode cX2_isSo 9 = .ok (.iconst 1, 1) := by decide +kernel
theorem dX2_isSo_10 : decode cX2_isSo 10 = .ok (.goto 4, 3) := by decide +kernel
theorem dX2_isSo_13 : decode cX2_isSo 13 = .ok (.iconst 0, 1) := by decide +kernel
theorem dX2_isSo_14 : decode cX2_isSo 14 = .ok (.ireturn, 1) := by decide +kernel
theorem dX2_isSo_15 : decode cX2_isSo 15 = .ok (.iload_n 1, 1) := by decide +kernel
theorem dX2_isSo_16 : decode cX2_isSo 16 = .ok (.iconst 1, 1) := by decide +kernel
theorem dX2_isSo_17 : decode cX2_isSo 17 = .ok (.if_icmp .ne 16, 3) := by decide +kernel
theorem dX2_isSo_20 : decode cX2_isSo 20 = .ok (.iload_n 0, 1) := by decide +kernel
theorem dX2_isSo_21 : decode cX2_isSo 21 = .ok (.iload_n 2, 1) := by decide +kernel
theorem dX2_isSo_22 : decode cX2_isSo 22 = .ok (.if_icmp .ne 7, 3) := by decide +kernel
theorem dX2_isSo_25 : decode cX2_isSo 25 = .ok (.iconst 1, 1) := by decide +kernel
theorem dX2_isSo_26 : decode cX2_isSo 26 = .ok (.goto 17, 3) := by decide +kernel
theorem dX2_isSo_29 : decode cX2_isSo 29 = .ok (.iconst 0, 1) := by decide +kernel
theorem dX2_isSo_30 : decode cX2_isSo 30 = .ok (.goto 13, 3) := by decide +kernel
theorem dX2_isSo_33 : decode cX2_isSo 33 = .ok (.iload_n 0, 1) := by decide +kernel
theorem dX2_isSo_34 : decode cX2_isSo 34 = .ok (.iload_n 2, 1) := by decide +kernel
theorem dX2_isSo_35 : decode cX2_isSo 35 = .ok (.if_icmp .le 7, 3) := by decide +kernel
theorem dX2_isSo_38 : decode cX2_isSo 38 = .ok (.iconst 1, 1) := by decide +kernel
theorem dX2_isSo_39 : decode cX2_isSo 39 = .ok (.goto 4, 3) := by decide +kernel
theorem dX2_isSo_42 : decode cX2_isSo 42 = .ok (.iconst 0, 1) := by decide +kernel
theorem dX2_isSo_43 : decode cX2_isSo 43 = .ok (.ireturn, 1) := by decide +kernel
theorem dX3_init_0 : decode cX3_init 0 = .ok (.aload_n 0, 1) := by decide +kernel
theorem dX3_init_1 : decode cX3_init 1 = .ok (.invokespecial 3, 3) := by decide +kernel
theorem dX3_init_4 : decode cX3_init 4 = .ok (.aload_n 0, 1) := by decide +kernel
theorem dX3_init_5 : decode cX3_init 5 = .ok (.bipush 100, 2) := by decide +kernel
theorem dX3_init_7 : decode cX3_init 7 = .ok (.newarray .byte, 2) := by decide +kernel
theorem dX3_init_9 : decode cX3_init 9 = .ok (.putfield 9, 3) := by decide +kernel
theorem dX3_init_12 : decode cX3_init 12 = .ok (.return_, 1) := by decide +kernel
theorem dX3_readHouse_0 : decode cX3_readHouse 0 = .ok (.aload_n 0, 1) := by decide +kernel
theorem dX3_readHouse_1 : decode cX3_readHouse 1 = .ok (.aload_n 1, 1) := by decide +kernel
theorem dX3_readHouse_2 : decode cX3_readHouse 2 = .ok (.putfield 15, 3) := by decide +kernel
theorem dX3_readHouse_5 : decode cX3_readHouse 5 = .ok (.aload_n 0, 1) := by decide +kernel
theorem dX3_readHouse_6 : decode cX3_readHouse 6 = .ok (.getfield 15, 3) := by decide +kernel
theorem dX3_readHouse_9 : decode cX3_readHouse 9 = .ok (.invokevirtual 19, 3) := by decide +kernel
theorem dX3_readHouse_12 : decode cX3_readHouse 12 = .ok (.aload_n 0, 1) := by decide +kernel
theorem dX3_readHouse_13 : decode cX3_readHouse 13 = .ok (.iconst 0, 1) := by decide +kernel
theorem dX3_readHouse_14 : decode cX3_readHouse 14 = .ok (.putfield 24, 3) := by decide +kernel
theorem dX3_readHouse_17 : decode cX3_readHouse 17 = .ok (.iconst 1, 1) := by decide +kernel
theorem dX3_readHouse_18 : decode cX3_readHouse 18 = .ok (.istore_n 2, 1) := by decide +kernel
theorem dX3_readHouse_19 : decode cX3_readHouse 19 = .ok (.iload_n 2, 1) := by decide +kernel
theorem dX3_readHouse_20 : decode cX3_readHouse 20 = .ok (.bipush 10, 2) := by decide +kernel
theorem dX3_readHouse_22 : decode cX3_readHouse 22 = .ok (.if_icmp .gt 48, 3) := by decide +kernel
theorem dX3_readHouse_25 : decode cX3_readHouse 25 = .ok (.aload_n 0, 1) := by decide +kernel
theorem dX3_readHouse_26 : decode cX3_readHouse 26 = .ok (.invokevirtual 28, 3) := by decide +kernel
theorem dX3_readHouse_29 : decode cX3_readHouse 29 = .ok (.ifCond .ne 5, 3) := by decide +kernel
theorem dX3_readHouse_32 : decode cX3_readHouse 32 = .ok (.iconst 0, 1) := by decide +kernel
theorem dX3_readHouse_33 : decode cX3_readHouse 33 = .ok (.ireturn, 1) := by decide +kernel
theorem dX3_readHouse_34 : decode cX3_readHouse 34 = .ok (.aload_n 0, 1) := by decide +kernel
theorem dX3_readHouse_35 : decode cX3_readHouse 35 = .ok (.getfield 24, 3) := by decide +kernel
theorem dX3_readHouse_38 : decode cX3_readHouse 38 = .ok (.aload_n 0, 1) := by decide +kernel
theorem dX3_readHouse_39 : decode cX3_readHouse 39 = .ok (.getfield 32, 3) := by decide +kernel
theorem dX3_readHouse_42 : decode cX3_readHouse 42 = .ok (.if_icmp .lt 5, 3) := by decide +kernel
theorem dX3_readHouse_45 : decode cX3_readHouse 45 = .ok (.iconst 1, 1) := by decide +kernel
theorem dX3_readHouse_46 : decode cX3_readHouse 46 = .ok (.ireturn, 1) := by decide +kernel
theorem dX3_readHouse_47 : decode cX3_readHouse 47 = .ok (.iload_n 2, 1) := by decide +kernel
theorem dX3_readHouse_48 : decode cX3_readHouse 48 = .ok (.bipush 10, 2) := by decide +kernel
theorem dX3_readHouse_50 : decode cX3_readHouse 50 = .ok (.if_icmp .eq 12, 3) := by decide +kernel
theorem dX3_readHouse_53 : decode cX3_readHouse 53 = .ok (.aload_n 0, 1) := by decide +kernel
theorem dX3_readHouse_54 : decode cX3_readHouse 54 = .ok (.bipush 59, 2) := by decide +kernel
theorem dX3_readHouse_56 : decode cX3_readHouse 56 = .ok (.invokevirtual 35, 3) := by decide +kernel
theorem dX3_readHouse_59 : decode cX3_readHouse 59 = .ok (.ifCond .ne 5, 3) := by decide +kernel
theorem dX3_readHouse_62 : decode cX3_readHouse 62 = .ok (.iconst 0, 1) := by decide +kernel
theorem dX3_readHouse_63 : decode cX3_readHouse 63 = .ok (.ireturn, 1) := by decide +kernel
theorem dX3_readHouse_64 : decode cX3_readHouse 64 = .ok (.iinc 2 1, 3) := by decide +kernel
theorem dX3_readHouse_67 : decode cX3_readHouse 67 = .ok (.goto (-48), 3) := by decide +kernel
theorem dX3_readHouse_70 : decode cX3_readHouse 70 = .ok (.iconst 0, 1) := by decide +kernel
theorem dX3_readHouse_71 : decode cX3_readHouse 71 = .ok (.ireturn, 1) := by decide +kernel
theorem dX3_readClause_0 : decode cX3_readClause 0 = .ok (.aload_n 0, 1) := by decide +kernel
theorem dX3_readClause_1 : decode cX3_readClause 1 = .ok (.invokevirtual 39, 3) := by decide +kernel
theorem dX3_readClause_4 : decode cX3_readClause 4 = .ok (.istore_n 1, 1) := by decide +kernel
theorem dX3_readClause_5 : decode cX3_readClause 5 = .ok (.iload_n 1, 1) := by decide +kernel
theorem dX3_readClause_6 : decode cX3_readClause 6 = .ok (.ifCond .lt 12, 3) := by decide +kernel
theorem dX3_readClause_9 : decode cX3_readClause 9 = .ok (.aload_n 0, 1) := by decide +kernel
theorem dX3_readClause_10 : decode cX3_readClause 10 = .ok (.bipush 32, 2) := by decide +kernel
theorem dX3_readClause_12 : decode cX3_readClause 12 = .ok (.invokevirtual 35, 3) := by decide +kernel
theorem dX3_readClause_15 : decode cX3_readClause 15 = .ok (.ifCond .ne 5, 3) := by decide +kernel
theorem dX3_readClause_18 : decode cX3_readClause 18 = .ok (.iconst 0, 1) := by decide +kernel
theorem dX3_readClause_19 : decode cX3_readClause 19 = .ok (.ireturn, 1) := by decide +kernel
theorem dX3_readClause_20 : decode cX3_readClause 20 = .ok (.aload_n 0, 1) := by decide +kernel
theorem dX3_readClause_21 : decode cX3_readClause 21 = .ok (.invokevirtual 43, 3) := by decide +kernel
theorem dX3_readClause_24 : decode cX3_readClause 24 = .ok (.istore_n 2, 1) := by decide +kernel
theorem dX3_readClause_25 : decode cX3_readClause 25 = .ok (.iload_n 2, 1) := by decide +kernel
theorem dX3_readClause_26 : decode cX3_readClause 26 = .ok (.ifCond .ge 5, 3) := by decide +kernel
theorem dX3_readClause_29 : decode cX3_readClause 29 = .ok (.iconst 0, 1) := by decide +kernel
theorem dX3_readClause_30 : decode cX3_readClause 30 = .ok (.ireturn, 1) := by decide +kernel
theorem dX3_readClause_31 : decode cX3_readClause 31 = .ok (.iload_n 1, 1) := by decide +kernel
theorem dX3_readClause_32 : decode cX3_readClause 32 = .ok (.iconst 2, 1) := by decide +kernel
theorem dX3_readClause_33 : decode cX3_readClause 33 = .ok (.if_icmp .ne 13, 3) := by decide +kernel
theorem dX3_readClause_36 : decode cX3_readClause 36 = .ok (.aload_n 0, 1) := by decide +kernel
theorem dX3_readClause_37 : decode cX3_readClause 37 = .ok (.getfield 15, 3) := by decide +kernel
theorem dX3_readClause_40 : decode cX3_readClause 40 = .ok (.iload_n 2, 1) := by decide +kernel
theorem dX3_readClause_41 : decode cX3_readClause 41 = .ok (.putfield 46, 3) := by decide +kernel
theorem dX3_readClause_44 : decode cX3_readClause 44 = .ok (.iconst 1, 1) := by decide +kernel
theorem dX3_readClause_45 : decode cX3_readClause 45 = .ok (.ireturn, 1) := by decide +kernel
theorem dX3_readClause_46 : decode cX3_readClause 46 = .ok (.iload_n 1, 1) := by decide +kernel
theorem dX3_readClause_47 : decode cX3_readClause 47 = .ok (.iconst 3, 1) := by decide +kernel
theorem dX3_readClause_48 : decode cX3_readClause 48 = .ok (.if_icmp .ne 13, 3) := by decide +kernel
theorem dX3_readClause_51 : decode cX3_readClause 51 = .ok (.aload_n 0, 1) := by decide +kernel
theorem dX3_readClause_52 : decode cX3_readClause 52 = .ok (.getfield 15, 3) := by decide +kernel
theorem dX3_readClause_55 : decode cX3_readClause 55 = .ok (.iload_n 2, 1) := by decide +kernel
theorem dX3_readClause_56 : decode cX3_readClause 56 = .ok (.putfield 49, 3) := by decide +kernel
theorem dX3_readClause_59 : decode cX3_readClause 59 = .ok (.iconst 1, 1) := by decide +kernel
theorem dX3_readClause_60 : decode cX3_readClause 60 = .ok (.ireturn, 1) := by decide +kernel
theorem dX3_readClause_61 : decode cX3_readClause 61 = .ok (.aload_n 0, 1) := by decide +kernel
theorem dX3_readClause_62 : decode cX3_readClause 62 = .ok (.bipush 32, 2) := by decide +kernel
theorem dX3_readClause_64 : decode cX3_readClause 64 = .ok (.invokevirtual 35, 3) := by decide +kernel
theorem dX3_readClause_67 : decode cX3_readClause 67 = .ok (.ifCond .eq 11, 3) := by decide +kernel
theorem dX3_readClause_70 : decode cX3_readClause 70 = .ok (.aload_n 0, 1) := by decide +kernel
theorem dX3_readClause_71 : decode cX3_readClause 71 = .ok (.iconst 0, 1) := by decide +kernel
theorem dX3_readClause_72 : decode cX3_readClause 72 = .ok (.invokevirtual 52, 3) := by decide +kernel
theorem dX3_readClause_75 : decode cX3_readClause 75 = .ok (.ifCond .ne 5, 3) := by decide +kernel
theorem dX3_readClause_78 : decode cX3_readClause 78 = .ok (.iconst 0, 1) := by decide +kernel
theorem dX3_readClause_79 : decode cX3_readClause 79 = .ok (.ireturn, 1) := by decide +kernel
theorem dX3_readClause_80 : decode cX3_readClause 80 = .ok (.aload_n 0, 1) := by decide +kernel
theorem dX3_readClause_81 : decode cX3_readClause 81 = .ok (.getfield 15, 3) := by decide +kernel
theorem dX3_readClause_84 : decode cX3_readClause 84 = .ok (.iload_n 1, 1) := by decide +kernel
theorem dX3_readClause_85 : decode cX3_readClause 85 = .ok (.ifCond .ne 8, 3) := by decide +kernel
theorem dX3_readClause_88 : decode cX3_readClause 88 = .ok (.bipush 21, 2) := by decide +kernel
theorem dX3_readClause_90 : decode cX3_readClause 90 = .ok (.goto 5, 3) := by decide +kernel
theorem dX3_readClause_93 : decode cX3_readClause 93 = .ok (.bipush 22, 2) := by decide +kernel
theorem dX3_readClause_95 : decode cX3_readClause 95 = .ok (.iload_n 2, 1) := by decide +kernel
theorem dX3_readClause_96 : decode cX3_readClause 96 = .ok (.invokevirtual 55, 3) := by decide +kernel
theorem dX3_readClause_99 : decode cX3_readClause 99 = .ok (.iconst 1, 1) := by decide +kernel
theorem dX3_readClause_100 : decode cX3_readClause 100 = .ok (.ireturn, 1) := by decide +kernel
theorem dX3_readWord_0 : decode cX3_readWord 0 = .ok (.iconst 0, 1) := by decide +kernel
theorem dX3_readWord_1 : decode cX3_readWord 1 = .ok (.istore_n 1, 1) := by decide +kernel
theorem dX3_readWord_2 : decode cX3_readWord 2 = .ok (.iconst 0, 1) := by decide +kernel
theorem dX3_readWord_3 : decode cX3_readWord 3 = .ok (.istore_n 2, 1) := by decide +kernel
theorem dX3_readWord_4 : decode cX3_readWord 4 = .ok (.iload_n 2, 1) := by decide +kernel
theorem dX3_readWord_5 : decode cX3_readWord 5 = .ok (.iconst 4, 1) := by decide +kernel
theorem dX3_readWord_6 : decode cX3_readWord 6 = .ok (.if_icmp .ge 50, 3) := by decide +kernel
theorem dX3_readWord_9 : decode cX3_readWord 9 = .ok (.iload_n 2, 1) := by decide +kernel
theorem dX3_readWord_10 : decode cX3_readWord 10 = .ok (.invokestatic 59, 3) := by decide +kernel
theorem dX3_readWord_13 : decode cX3_readWord 13 = .ok (.astore_n 3, 1) := by decide +kernel
theorem dX3_readWord_14 : decode cX3_readWord 14 = .ok (.aload_n 0, 1) := by decide +kernel
theorem dX3_readWord_15 : decode cX3_readWord 15 = .ok (.aload_n 3, 1) := by decide +kernel
theorem dX3_readWord_16 : decode cX3_readWord 16 = .ok (.invokevirtual 63, 3) := by decide +kernel
theorem dX3_readWord_19 : decode cX3_readWord 19 = .ok (.istore 4, 2) := by decide +kernel
theorem dX3_readWord_21 : decode cX3_readWord 21 = .ok (.iload 4, 2) := by decide +kernel
theorem dX3_readWord_23 : decode cX3_readWord 23 = .ok (.aload_n 3, 1) := by decide +kernel
theorem dX3_readWord_24 : decode cX3_readWord 24 = .ok (.invokevirtual 67, 3) := by decide +kernel
theorem dX3_readWord_27 : decode cX3_readWord 27 = .ok (.if_icmp .ne 16, 3) := by decide +kernel
theorem dX3_readWord_30 : decode cX3_readWord 30 = .ok (.aload_n 0, 1) := by decide +kernel
theorem dX3_readWord_31 : decode cX3_readWord 31 = .ok (.dup, 1) := by decide +kernel
theorem dX3_readWord_32 : decode cX3_readWord 32 = .ok (.getfield 24, 3) := by decide +kernel
theorem dX3_readWord_35 : decode cX3_readWord 35 = .ok (.iload 4, 2) := by decide +kernel
theorem dX3_readWord_37 : decode cX3_readWord 37 = .ok (.iadd, 1) := by decide +kernel
theorem dX3_readWord_38 : decode cX3_readWord 38 = .ok (.putfield 24, 3) := by decide +kernel
theorem dX3_readWord_41 : decode cX3_readWord 41 = .ok (.iload_n 2, 1) := by decide +kernel
theorem dX3_readWord_42 : decode cX3_readWord 42 = .ok (.ireturn, 1) := by decide +kernel
theorem dX3_readWord_43 : decode cX3_readWord 43 = .ok (.iload_n 1, 1) := by decide +kernel
theorem dX3_readWord_44 : decode cX3_readWord 44 = .ok (.iload 4, 2) := by decide +kernel
theorem dX3_readWord_46 : decode cX3_readWord 46 = .ok (.invokestatic 71, 3) := by decide +kernel
theorem dX3_readWord_49 : decode cX3_readWord 49 = .ok (.istore_n 1, 1) := by decide +kernel
theorem dX3_readWord_50 : decode cX3_readWord 50 = .ok (.iinc 2 1, 3) := by decide +kernel
theorem dX3_readWord_53 : decode cX3_readWord 53 = .ok (.goto (-49), 3) := by decide +kernel
theorem dX3_readWord_56 : decode cX3_readWord 56 = .ok (.aload_n 0, 1) := by decide +kernel
theorem dX3_readWord_57 : decode cX3_readWord 57 = .ok (.dup, 1) := by decide +kernel
theorem dX3_readWord_58 : decode cX3_readWord 58 = .ok (.getfield 24, 3) := by decide +kernel
theorem dX3_readWord_61 : decode cX3_readWord 61 = .ok (.iload_n 1, 1) := by decide +kernel
theorem dX3_readWord_62 : decode cX3_readWord 62 = .ok (.iadd, 1) := by decide +kernel
theorem dX3_readWord_63 : decode cX3_readWord 63 = .ok (.putfield 24, 3) := by decide +kernel
theorem dX3_readWord_66 : decode cX3_readWord 66 = .ok (.iconst (-1), 1) := by decide +kernel
theorem dX3_readWord_67 : decode cX3_readWord 67 = .ok (.ireturn, 1) := by decide +kernel
theorem dX3_wordOf_0 : decode cX3_wordOf 0 = .ok (.iload_n 0, 1) := by decide +kernel
theorem dX3_wordOf_1 : decode cX3_wordOf 1 = .ok (.tableswitch 36 0 2 #[27, 30, 33], 27) := by decide +kernel
theorem dX3_wordOf_28 : decode cX3_wordOf 28 = .ok (.ldc 77, 2) := by decide +kernel
theorem dX3_wordOf_30 : decode cX3_wordOf 30 = .ok (.areturn, 1) := by decide +kernel
theorem dX3_wordOf_31 : decode cX3_wordOf 31 = .ok (.ldc 79, 2) := by decide +kernel
theorem dX3_wordOf_33 : decode cX3_wordOf 33 = .ok (.areturn, 1) := by decide +kernel
theorem dX3_wordOf_34 : decode cX3_wordOf 34 = .ok (.ldc 81, 2) := by decide +kernel
theorem dX3_wordOf_36 : decode cX3_wordOf 36 = .ok (.areturn, 1) := by decide +kernel
theorem dX3_wordOf_37 : decode cX3_wordOf 37 = .ok (.ldc 82, 2) := by decide +kernel
theorem dX3_wordOf_39 : decode cX3_wordOf 39 = .ok (.areturn, 1) := by decide +kernel
theorem dX3_sameSigns_0 : decode cX3_sameSigns 0 = .ok (.iconst 0, 1) := by decide +kernel
theorem dX3_sameSigns_1 : decode cX3_sameSigns 1 = .ok (.istore_n 2, 1) := by decide +kernel
theorem dX3_sameSigns_2 : decode cX3_sameSigns 2 = .ok (.iload_n 2, 1) := by decide +kernel
theorem dX3_sameSigns_3 : decode cX3_sameSigns 3 = .ok (.aload_n 1, 1) := by decide +kernel
theorem dX3_sameSigns_4 : decode cX3_sameSigns 4 = .ok (.invokevirtual 67, 3) := by decide +kernel
theorem dX3_sameSigns_7 : decode cX3_sameSigns 7 = .ok (.if_icmp .ge 41, 3) := by decide +kernel
theorem dX3_sameSigns_10 : decode cX3_sameSigns 10 = .ok (.aload_n 0, 1) := by decide +kernel
theorem dX3_sameSigns_11 : decode cX3_sameSigns 11 = .ok (.getfield 24, 3) := by decide +kernel
theorem dX3_sameSigns_14 : decode cX3_sameSigns 14 = .ok (.iload_n 2, 1) := by decide +kernel
theorem dX3_sameSigns_15 : decode cX3_sameSigns 15 = .ok (.iadd, 1) := by decide +kernel
theorem dX3_sameSigns_16 : decode cX3_sameSigns 16 = .ok (.aload_n 0, 1) := by decide +kernel
theorem dX3_sameSigns_17 : decode cX3_sameSigns 17 = .ok (.getfield 32, 3) := by decide +kernel
theorem dX3_sameSigns_20 : decode cX3_sameSigns 20 = .ok (.if_icmp .ge 28, 3) := by decide +kernel
theorem dX3_sameSigns_23 : decode cX3_sameSigns 23 = .ok (.aload_n 0, 1) := by decide +kernel
theorem dX3_sameSigns_24 : decode cX3_sameSigns 24 = .ok (.getfield 9, 3) := by decide +kernel
theorem dX3_sameSigns_27 : decode cX3_sameSigns 27 = .ok (.aload_n 0, 1) := by decide +kernel
theorem dX3_sameSigns_28 : decode cX3_sameSigns 28 = .ok (.getfield 24, 3) := by decide +kernel
theorem dX3_sameSigns_31 : decode cX3_sameSigns 31 = .ok (.iload_n 2, 1) := by decide +kernel
theorem dX3_sameSigns_32 : decode cX3_sameSigns 32 = .ok (.iadd, 1) := by decide +kernel
theorem dX3_sameSigns_33 : decode cX3_sameSigns 33 = .ok (.baload, 1) := by decide +kernel
theorem dX3_sameSigns_34 : decode cX3_sameSigns 34 = .ok (.aload_n 1, 1) := by decide +kernel
theorem dX3_sameSigns_35 : decode cX3_sameSigns 35 = .ok (.iload_n 2, 1) := by decide +kernel
theorem dX3_sameSigns_36 : decode cX3_sameSigns 36 = .ok (.invokevirtual 83, 3) := by decide +kernel
theorem dX3_sameSigns_39 : decode cX3_sameSigns 39 = .ok (.if_icmp .ne 9, 3) := by decide +kernel
theorem dX3_sameSigns_42 : decode cX3_sameSigns 42 = .ok (.iinc 2 1, 3) := by decide +kernel
theorem dX3_sameSigns_45 : decode cX3_sameSigns 45 = .ok (.goto (-43), 3) := by decide +kernel
theorem dX3_sameSigns_48 : decode cX3_sameSigns 48 = .ok (.iload_n 2, 1) := by decide +kernel
theorem dX3_sameSigns_49 : decode cX3_sameSigns 49 = .ok (.ireturn, 1) := by decide +kernel
theorem dX3_readEither_0 : decode cX3_readEither 0 = .ok (.aload_n 0, 1) := by decide +kernel
theorem dX3_readEither_1 : decode cX3_readEither 1 = .ok (.iload_n 1, 1) := by decide +kernel
theorem dX3_readEither_2 : decode cX3_readEither 2 = .ok (.invokevirtual 87, 3) := by decide +kernel
theorem dX3_readEither_5 : decode cX3_readEither 5 = .ok (.ifCond .ne 5, 3) := by decide +kernel
theorem dX3_readEither_8 : decode cX3_readEither 8 = .ok (.iconst 0, 1) := by decide +kernel
theorem dX3_readEither_9 : decode cX3_readEither 9 = .ok (.ireturn, 1) := by decide +kernel
theorem dX3_readEither_10 : decode cX3_readEither 10 = .ok (.iconst 0, 1) := by decide +kernel
theorem dX3_readEither_11 : decode cX3_readEither 11 = .ok (.istore_n 2, 1) := by decide +kernel
theorem dX3_readEither_12 : decode cX3_readEither 12 = .ok (.iconst 0, 1) := by decide +kernel
theorem dX3_readEither_13 : decode cX3_readEither 13 = .ok (.istore_n 3, 1) := by decide +kernel
theorem dX3_readEither_14 : decode cX3_readEither 14 = .ok (.iload_n 3, 1) := by decide +kernel
theorem dX3_readEither_15 : decode cX3_readEither 15 = .ok (.bipush 100, 2) := by decide +kernel
theorem dX3_readEither_17 : decode cX3_readEither 17 = .ok (.if_icmp .ge 78, 3) := by decide +kernel
theorem dX3_readEither_20 : decode cX3_readEither 20 = .ok (.aload_n 0, 1) := by decide +kernel
theorem dX3_readEither_21 : decode cX3_readEither 21 = .ok (.bipush 38, 2) := by decide +kernel
theorem dX3_readEither_23 : decode cX3_readEither 23 = .ok (.invokevirtual 35, 3) := by decide +kernel
theorem dX3_readEither_26 : decode cX3_readEither 26 = .ok (.ifCond .eq 26, 3) := by decide +kernel
theorem dX3_readEither_29 : decode cX3_readEither 29 = .ok (.aload_n 0, 1) := by decide +kernel
theorem dX3_readEither_30 : decode cX3_readEither 30 = .ok (.iload_n 1, 1) := by decide +kernel
theorem dX3_readEither_31 : decode cX3_readEither 31 = .ok (.invokevirtual 87, 3) := by decide +kernel
theorem dX3_readEither_34 : decode cX3_readEither 34 = .ok (.ifCond .ne 5, 3) := by decide +kernel
theorem dX3_readEither_37 : decode cX3_readEither 37 = .ok (.iconst 0, 1) := by decide +kernel
theorem dX3_readEither_38 : decode cX3_readEither 38 = .ok (.ireturn, 1) := by decide +kernel
theorem dX3_readEither_39 : decode cX3_readEither 39 = .ok (.aload_n 0, 1) := by decide +kernel
theorem dX3_readEither_40 : decode cX3_readEither 40 = .ok (.getfield 15, 3) := by decide +kernel
theorem dX3_readEither_43 : decode cX3_readEither 43 = .ok (.bipush 19, 2) := by decide +kernel
theorem dX3_readEither_45 : decode cX3_readEither 45 = .ok (.iconst 0, 1) := by decide +kernel
theorem dX3_readEither_46 : decode cX3_readEither 46 = .ok (.invokevirtual 55, 3) := by decide +kernel
theorem dX3_readEither_49 : decode cX3_readEither 49 = .ok (.goto 40, 3) := by decide +kernel
theorem dX3_readEither_52 : decode cX3_readEither 52 = .ok (.iload_n 2, 1) := by decide +kernel
theorem dX3_readEither_53 : decode cX3_readEither 53 = .ok (.ifCond .eq 13, 3) := by decide +kernel
theorem dX3_readEither_56 : decode cX3_readEither 56 = .ok (.aload_n 0, 1) := by decide +kernel
theorem dX3_readEither_57 : decode cX3_readEither 57 = .ok (.getfield 15, 3) := by decide +kernel
theorem dX3_readEither_60 : decode cX3_readEither 60 = .ok (.bipush 20, 2) := by decide +kernel
theorem dX3_readEither_62 : decode cX3_readEither 62 = .ok (.iconst 0, 1) := by decide +kernel
theorem dX3_readEither_63 : decode cX3_readEither 63 = .ok (.invokevirtual 55, 3) := by decide +kernel
theorem dX3_readEither_66 : decode cX3_readEither 66 = .ok (.aload_n 0, 1) := by decide +kernel
theorem dX3_readEither_67 : decode cX3_readEither 67 = .ok (.bipush 124, 2) := by decide +kernel
theorem dX3_readEither_69 : decode cX3_readEither 69 = .ok (.invokevirtual 35, 3) := by decide +kernel
theorem dX3_readEither_72 : decode cX3_readEither 72 = .ok (.ifCond .ne 5, 3) := by decide +kernel
theorem dX3_readEither_75 : decode cX3_readEither 75 = .ok (.iconst 1, 1) := by decide +kernel
theorem dX3_readEither_76 : decode cX3_readEither 76 = .ok (.ireturn, 1) := by decide +kernel
theorem dX3_readEither_77 : decode cX3_readEither 77 = .ok (.iconst 1, 1) := by decide +kernel
theorem dX3_readEither_78 : decode cX3_readEither 78 = .ok (.istore_n 2, 1) := by decide +kernel
theorem dX3_readEither_79 : decode cX3_readEither 79 = .ok (.aload_n 0, 1) := by decide +kernel
theorem dX3_readEither_80 : decode cX3_readEither 80 = .ok (.iload_n 1, 1) := by decide +kernel
theorem dX3_readEither_81 : decode cX3_readEither 81 = .ok (.invokevirtual 87, 3) := by decide +kernel
theorem dX3_readEither_84 : decode cX3_readEither 84 = .ok (.ifCond .ne 5, 3) := by decide +kernel
theorem dX3_readEither_87 : decode cX3_readEither 87 = .ok (.iconst 0, 1) := by decide +kernel
theorem dX3_readEither_88 : decode cX3_readEither 88 = .ok (.ireturn, 1) := by decide +kernel
theorem dX3_readEither_89 : decode cX3_readEither 89 = .ok (.iinc 3 1, 3) := by decide +kernel
theorem dX3_readEither_92 : decode cX3_readEither 92 = .ok (.goto (-78), 3) := by decide +kernel
theorem dX3_readEither_95 : decode cX3_readEither 95 = .ok (.iconst 0, 1) := by decide +kernel
theorem dX3_readEither_96 : decode cX3_readEither 96 = .ok (.ireturn, 1) := by decide +kernel
theorem dX3_readFactor_0 : decode cX3_readFactor 0 = .ok (.aload_n 0, 1) := by decide +kernel
theorem dX3_readFactor_1 : decode cX3_readFactor 1 = .ok (.invokevirtual 90, 3) := by decide +kernel
theorem dX3_readFactor_4 : decode cX3_readFactor 4 = .ok (.istore_n 2, 1) := by decide +kernel
theorem dX3_readFactor_5 : decode cX3_readFactor 5 = .ok (.iload_n 2, 1) := by decide +kernel
theorem dX3_readFactor_6 : decode cX3_readFactor 6 = .ok (.bipush 33, 2) := by decide +kernel
theorem dX3_readFactor_8 : decode cX3_readFactor 8 = .ok (.if_icmp .eq 14, 3) := by decide +kernel
theorem dX3_readFactor_11 : decode cX3_readFactor 11 = .ok (.iload_n 2, 1) := by decide +kernel
theorem dX3_readFactor_12 : decode cX3_readFactor 12 = .ok (.bipush 40, 2) := by decide +kernel
theorem dX3_readFactor_14 : decode cX3_readFactor 14 = .ok (.if_icmp .eq 8, 3) := by decide +kernel
theorem dX3_readFactor_17 : decode cX3_readFactor 17 = .ok (.aload_n 0, 1) := by decide +kernel
theorem dX3_readFactor_18 : decode cX3_readFactor 18 = .ok (.invokevirtual 93, 3) := by decide +kernel
theorem dX3_readFactor_21 : decode cX3_readFactor 21 = .ok (.ireturn, 1) := by decide +kernel
theorem dX3_readFactor_22 : decode cX3_readFactor 22 = .ok (.iload_n 1, 1) := by decide +kernel
theorem dX3_readFactor_23 : decode cX3_readFactor 23 = .ok (.iconst 4, 1) := by decide +kernel
theorem dX3_readFactor_24 : decode cX3_readFactor 24 = .ok (.if_icmp .lt 5, 3) := by decide +kernel
theorem dX3_readFactor_27 : decode cX3_readFactor 27 = .ok (.iconst 0, 1) := by decide +kernel
theorem dX3_readFactor_28 : decode cX3_readFactor 28 = .ok (.ireturn, 1) := by decide +kernel
theorem dX3_readFactor_29 : decode cX3_readFactor 29 = .ok (.aload_n 0, 1) := by decide +kernel
theorem dX3_readFactor_30 : decode cX3_readFactor 30 = .ok (.dup, 1) := by decide +kernel
theorem dX3_readFactor_31 : decode cX3_readFactor 31 = .ok (.getfield 24, 3) := by decide +kernel
theorem dX3_readFactor_34 : decode cX3_readFactor 34 = .ok (.iconst 1, 1) := by decide +kernel
theorem dX3_readFactor_35 : decode cX3_readFactor 35 = .ok (.iadd, 1) := by decide +kernel
theorem dX3_readFactor_36 : decode cX3_readFactor 36 = .ok (.putfield 24, 3) := by decide +kernel
theorem dX3_readFactor_39 : decode cX3_readFactor 39 = .ok (.iload_n 2, 1) := by decide +kernel
theorem dX3_readFactor_40 : decode cX3_readFactor 40 = .ok (.bipush 40, 2) := by decide +kernel
theorem dX3_readFactor_42 : decode cX3_readFactor 42 = .ok (.if_icmp .ne 28, 3) := by decide +kernel
theorem dX3_readFactor_45 : decode cX3_readFactor 45 = .ok (.aload_n 0, 1) := by decide +kernel
theorem dX3_readFactor_46 : decode cX3_readFactor 46 = .ok (.iload_n 1, 1) := by decide +kernel
theorem dX3_readFactor_47 : decode cX3_readFactor 47 = .ok (.iconst 1, 1) := by decide +kernel
theorem dX3_readFactor_48 : decode cX3_readFactor 48 = .ok (.iadd, 1) := by decide +kernel
theorem dX3_readFactor_49 : decode cX3_readFactor 49 = .ok (.invokevirtual 52, 3) := by decide +kernel
theorem dX3_readFactor_52 : decode cX3_readFactor 52 = .ok (.ifCond .eq 16, 3) := by decide +kernel
theorem dX3_readFactor_55 : decode cX3_readFactor 55 = .ok (.aload_n 0, 1) := by decide +kernel
theorem dX3_readFactor_56 : decode cX3_readFactor 56 = .ok (.bipush 41, 2) := by decide +kernel
theorem dX3_readFactor_58 : decode cX3_readFactor 58 = .ok (.invokevirtual 35, 3) := by decide +kernel
theorem dX3_readFactor_61 : decode cX3_readFactor 61 = .ok (.ifCond .eq 7, 3) := by decide +kernel
theorem dX3_readFactor_64 : decode cX3_readFactor 64 = .ok (.iconst 1, 1) := by decide +kernel
theorem dX3_readFactor_65 : decode cX3_readFactor 65 = .ok (.goto 4, 3) := by decide +kernel
theorem dX3_readFactor_68 : decode cX3_readFactor 68 = .ok (.iconst 0, 1) := by decide +kernel
theorem dX3_readFactor_69 : decode cX3_readFactor 69 = .ok (.ireturn, 1) := by decide +kernel
theorem dX3_readFactor_70 : decode cX3_readFactor 70 = .ok (.aload_n 0, 1) := by decide +kernel
theorem dX3_readFactor_71 : decode cX3_readFactor 71 = .ok (.iload_n 1, 1) := by decide +kernel
theorem dX3_readFactor_72 : decode cX3_readFactor 72 = .ok (.iconst 1, 1) := by decide +kernel
theorem dX3_readFactor_73 : decode cX3_readFactor 73 = .ok (.iadd, 1) := by decide +kernel
theorem dX3_readFactor_74 : decode cX3_readFactor 74 = .ok (.invokevirtual 87, 3) := by decide +kernel
theorem dX3_readFactor_77 : decode cX3_readFactor 77 = .ok (.ifCond .ne 5, 3) := by decide +kernel
theorem dX3_readFactor_80 : decode cX3_readFactor 80 = .ok (.iconst 0, 1) := by decide +kernel
theorem dX3_readFactor_81 : decode cX3_readFactor 81 = .ok (.ireturn, 1) := by decide +kernel
theorem dX3_readFactor_82 : decode cX3_readFactor 82 = .ok (.aload_n 0, 1) := by decide +kernel
theorem dX3_readFactor_83 : decode cX3_readFactor 83 = .ok (.getfield 15, 3) := by decide +kernel
theorem dX3_readFactor_86 : decode cX3_readFactor 86 = .ok (.bipush 18, 2) := by decide +kernel
theorem dX3_readFactor_88 : decode cX3_readFactor 88 = .ok (.iconst 0, 1) := by decide +kernel
theorem dX3_readFactor_89 : decode cX3_readFactor 89 = .ok (.invokevirtual 55, 3) := by decide +kernel
theorem dX3_readFactor_92 : decode cX3_readFactor 92 = .ok (.iconst 1, 1) := by decide +kernel
theorem dX3_readFactor_93 : decode cX3_readFactor 93 = .ok (.ireturn, 1) := by decide +kernel
theorem dX3_readTest_0 : decode cX3_readTest 0 = .ok (.aload_n 0, 1) := by decide +kernel
theorem dX3_readTest_1 : decode cX3_readTest 1 = .ok (.ldc 96, 2) := by decide +kernel
theorem dX3_readTest_3 : decode cX3_readTest 3 = .ok (.invokevirtual 98, 3) := by decide +kernel
theorem dX3_readTest_6 : decode cX3_readTest 6 = .ok (.istore_n 1, 1) := by decide +kernel
theorem dX3_readTest_7 : decode cX3_readTest 7 = .ok (.iload_n 1, 1) := by decide +kernel
theorem dX3_readTest_8 : decode cX3_readTest 8 = .ok (.ifCond .ge 5, 3) := by decide +kernel
theorem dX3_readTest_11 : decode cX3_readTest 11 = .ok (.iconst 0, 1) := by decide +kernel
theorem dX3_readTest_12 : decode cX3_readTest 12 = .ok (.ireturn, 1) := by decide +kernel
theorem dX3_readTest_13 : decode cX3_readTest 13 = .ok (.aload_n 0, 1) := by decide +kernel
theorem dX3_readTest_14 : decode cX3_readTest 14 = .ok (.ldc 101, 2) := by decide +kernel
theorem dX3_readTest_16 : decode cX3_readTest 16 = .ok (.invokevirtual 98, 3) := by decide +kernel
theorem dX3_readTest_19 : decode cX3_readTest 19 = .ok (.istore_n 2, 1) := by decide +kernel
theorem dX3_readTest_20 : decode cX3_readTest 20 = .ok (.iload_n 2, 1) := by decide +kernel
theorem dX3_readTest_21 : decode cX3_readTest 21 = .ok (.ifCond .ge 5, 3) := by decide +kernel
theorem dX3_readTest_24 : decode cX3_readTest 24 = .ok (.iconst 0, 1) := by decide +kernel
theorem dX3_readTest_25 : decode cX3_readTest 25 = .ok (.ireturn, 1) := by decide +kernel
theorem dX3_readTest_26 : decode cX3_readTest 26 = .ok (.aload_n 0, 1) := by decide +kernel
theorem dX3_readTest_27 : decode cX3_readTest 27 = .ok (.invokevirtual 43, 3) := by decide +kernel
theorem dX3_readTest_30 : decode cX3_readTest 30 = .ok (.istore_n 3, 1) := by decide +kernel
theorem dX3_readTest_31 : decode cX3_readTest 31 = .ok (.iload_n 3, 1) := by decide +kernel
theorem dX3_readTest_32 : decode cX3_readTest 32 = .ok (.ifCond .ge 5, 3) := by decide +kernel
theorem dX3_readTest_35 : decode cX3_readTest 35 = .ok (.iconst 0, 1) := by decide +kernel
theorem dX3_readTest_36 : decode cX3_readTest 36 = .ok (.ireturn, 1) := by decide +kernel
theorem dX3_readTest_37 : decode cX3_readTest 37 = .ok (.aload_n 0, 1) := by decide +kernel
theorem dX3_readTest_38 : decode cX3_readTest 38 = .ok (.getfield 15, 3) := by decide +kernel
theorem dX3_readTest_41 : decode cX3_readTest 41 = .ok (.iconst 3, 1) := by decide +kernel
theorem dX3_readTest_42 : decode cX3_readTest 42 = .ok (.iload_n 1, 1) := by decide +kernel
theorem dX3_readTest_43 : decode cX3_readTest 43 = .ok (.imul, 1) := by decide +kernel
theorem dX3_readTest_44 : decode cX3_readTest 44 = .ok (.iload_n 2, 1) := by decide +kernel
theorem dX3_readTest_45 : decode cX3_readTest 45 = .ok (.iadd, 1) := by decide +kernel
theorem dX3_readTest_46 : decode cX3_readTest 46 = .ok (.iload_n 3, 1) := by decide +kernel
theorem dX3_readTest_47 : decode cX3_readTest 47 = .ok (.invokevirtual 55, 3) := by decide +kernel
theorem dX3_readTest_50 : decode cX3_readTest 50 = .ok (.iconst 1, 1) := by decide +kernel
theorem dX3_readTest_51 : decode cX3_readTest 51 = .ok (.ireturn, 1) := by decide +kernel
theorem dX3_readNumber_0 : decode cX3_readNumber 0 = .ok (.iconst (-1), 1) := by decide +kernel
theorem dX3_readNumber_1 : decode cX3_readNumber 1 = .ok (.istore_n 1, 1) := by decide +kernel
theorem dX3_readNumber_2 : decode cX3_readNumber 2 = .ok (.iconst 0, 1) := by decide +kernel
theorem dX3_readNumber_3 : decode cX3_readNumber 3 = .ok (.istore_n 2, 1) := by decide +kernel
theorem dX3_readNumber_4 : decode cX3_readNumber 4 = .ok (.iload_n 2, 1) := by decide +kernel
theorem dX3_readNumber_5 : decode cX3_readNumber 5 = .ok (.iconst 2, 1) := by decide +kernel
theorem dX3_readNumber_6 : decode cX3_readNumber 6 = .ok (.if_icmp .ge 52, 3) := by decide +kernel
theorem dX3_readNumber_9 : decode cX3_readNumber 9 = .ok (.aload_n 0, 1) := by decide +kernel
theorem dX3_readNumber_10 : decode cX3_readNumber 10 = .ok (.invokevirtual 90, 3) := by decide +kernel
theorem dX3_readNumber_13 : decode cX3_readNumber 13 = .ok (.istore_n 3, 1) := by decide +kernel
theorem dX3_readNumber_14 : decode cX3_readNumber 14 = .ok (.iload_n 3, 1) := by decide +kernel
theorem dX3_readNumber_15 : decode cX3_readNumber 15 = .ok (.bipush 48, 2) := by decide +kernel
theorem dX3_readNumber_17 : decode cX3_readNumber 17 = .ok (.if_icmp .lt 9, 3) := by decide +kernel
theorem dX3_readNumber_20 : decode cX3_readNumber 20 = .ok (.iload_n 3, 1) := by decide +kernel
theorem dX3_readNumber_21 : decode cX3_readNumber 21 = .ok (.bipush 57, 2) := by decide +kernel
theorem dX3_readNumber_23 : decode cX3_readNumber 23 = .ok (.if_icmp .le 5, 3) := by decide +kernel
theorem dX3_readNumber_26 : decode cX3_readNumber 26 = .ok (.iload_n 1, 1) := by decide +kernel
theorem dX3_readNumber_27 : decode cX3_readNumber 27 = .ok (.ireturn, 1) := by decide +kernel
theorem dX3_readNumber_28 : decode cX3_readNumber 28 = .ok (.iload_n 1, 1) := by decide +kernel
theorem dX3_readNumber_29 : decode cX3_readNumber 29 = .ok (.iconst 0, 1) := by decide +kernel
theorem dX3_readNumber_30 : decode cX3_readNumber 30 = .ok (.invokestatic 71, 3) := by decide +kernel
theorem dX3_readNumber_33 : decode cX3_readNumber 33 = .ok (.bipush 10, 2) := by decide +kernel
theorem dX3_readNumber_35 : decode cX3_readNumber 35 = .ok (.imul, 1) := by decide +kernel
theorem dX3_readNumber_36 : decode cX3_readNumber 36 = .ok (.iload_n 3, 1) := by decide +kernel
theorem dX3_readNumber_37 : decode cX3_readNumber 37 = .ok (.bipush 48, 2) := by decide +kernel
theorem dX3_readNumber_39 : decode cX3_readNumber 39 = .ok (.isub, 1) := by decide +kernel
theorem dX3_readNumber_40 : decode cX3_readNumber 40 = .ok (.iadd, 1) := by decide +kernel
theorem dX3_readNumber_41 : decode cX3_readNumber 41 = .ok (.istore_n 1, 1) := by decide +kernel
theorem dX3_readNumber_42 : decode cX3_readNumber 42 = .ok (.aload_n 0, 1) := by decide +kernel
theorem dX3_readNumber_43 : decode cX3_readNumber 43 = .ok (.dup, 1) := by decide +kernel
theorem dX3_readNumber_44 : decode cX3_readNumber 44 = .ok (.getfield 24, 3) := by decide +kernel
theorem dX3_readNumber_47 : decode cX3_readNumber 47 = .ok (.iconst 1, 1) := by decide +kernel
theorem dX3_readNumber_48 : decode cX3_readNumber 48 = .ok (.iadd, 1) := by decide +kernel
theorem dX3_readNumber_49 : decode cX3_readNumber 49 = .ok (.putfield 24, 3) := by decide +kernel
theorem dX3_readNumber_52 : decode cX3_readNumber 52 = .ok (.iinc 2 1, 3) := by decide +kernel
theorem dX3_readNumber_55 : decode cX3_readNumber 55 = .ok (.goto (-51), 3) := by decide +kernel
theorem dX3_readNumber_58 : decode cX3_readNumber 58 = .ok (.iload_n 1, 1) := by decide +kernel
theorem dX3_readNumber_59 : decode cX3_readNumber 59 = .ok (.ireturn, 1) := by decide +kernel
theorem dX3_readOneOf_0 : decode cX3_readOneOf 0 = .ok (.aload_n 0, 1) := by decide +kernel
theorem dX3_readOneOf_1 : decode cX3_readOneOf 1 = .ok (.invokevirtual 90, 3) := by decide +kernel
theorem dX3_readOneOf_4 : decode cX3_readOneOf 4 = .ok (.istore_n 2, 1) := by decide +kernel
theorem dX3_readOneOf_5 : decode cX3_readOneOf 5 = .ok (.iconst 0, 1) := by decide +kernel
theorem dX3_readOneOf_6 : decode cX3_readOneOf 6 = .ok (.istore_n 3, 1) := by decide +kernel
theorem dX3_readOneOf_7 : decode cX3_readOneOf 7 = .ok (.iload_n 3, 1) := by decide +kernel
theorem dX3_readOneOf_8 : decode cX3_readOneOf 8 = .ok (.aload_n 1, 1) := by decide +kernel
theorem dX3_readOneOf_9 : decode cX3_readOneOf 9 = .ok (.invokevirtual 67, 3) := by decide +kernel
theorem dX3_readOneOf_12 : decode cX3_readOneOf 12 = .ok (.if_icmp .ge 30, 3) := by decide +kernel
theorem dX3_readOneOf_15 : decode cX3_readOneOf 15 = .ok (.aload_n 1, 1) := by decide +kernel
theorem dX3_readOneOf_16 : decode cX3_readOneOf 16 = .ok (.iload_n 3, 1) := by decide +kernel
theorem dX3_readOneOf_17 : decode cX3_readOneOf 17 = .ok (.invokevirtual 83, 3) := by decide +kernel
theorem dX3_readOneOf_20 : decode cX3_readOneOf 20 = .ok (.iload_n 2, 1) := by decide +kernel
theorem dX3_readOneOf_21 : decode cX3_readOneOf 21 = .ok (.if_icmp .ne 15, 3) := by decide +kernel
theorem dX3_readOneOf_24 : decode cX3_readOneOf 24 = .ok (.aload_n 0, 1) := by decide +kernel
theorem dX3_readOneOf_25 : decode cX3_readOneOf 25 = .ok (.dup, 1) := by decide +kernel
theorem dX3_readOneOf_26 : decode cX3_readOneOf 26 = .ok (.getfield 24, 3) := by decide +kernel
theorem dX3_readOneOf_29 : decode cX3_readOneOf 29 = .ok (.iconst 1, 1) := by decide +kernel
theorem dX3_readOneOf_30 : decode cX3_readOneOf 30 = .ok (.iadd, 1) := by decide +kernel
theorem dX3_readOneOf_31 : decode cX3_readOneOf 31 = .ok (.putfield 24, 3) := by decide +kernel
theorem dX3_readOneOf_34 : decode cX3_readOneOf 34 = .ok (.iload_n 3, 1) := by decide +kernel
theorem dX3_readOneOf_35 : decode cX3_readOneOf 35 = .ok (.ireturn, 1) := by decide +kernel
theorem dX3_readOneOf_36 : decode cX3_readOneOf 36 = .ok (.iinc 3 1, 3) := by decide +kernel
theorem dX3_readOneOf_39 : decode cX3_readOneOf 39 = .ok (.goto (-32), 3) := by decide +kernel
theorem dX3_readOneOf_42 : decode cX3_readOneOf 42 = .ok (.iconst (-1), 1) := by decide +kernel
theorem dX3_readOneOf_43 : decode cX3_readOneOf 43 = .ok (.ireturn, 1) := by decide +kernel
theorem dX3_readSign_0 : decode cX3_readSign 0 = .ok (.aload_n 0, 1) := by decide +kernel
theorem dX3_readSign_1 : decode cX3_readSign 1 = .ok (.invokevirtual 90, 3) := by decide +kernel
theorem dX3_readSign_4 : decode cX3_readSign 4 = .ok (.iload_n 1, 1) := by decide +kernel
theorem dX3_readSign_5 : decode cX3_readSign 5 = .ok (.if_icmp .eq 5, 3) := by decide +kernel
theorem dX3_readSign_8 : decode cX3_readSign 8 = .ok (.iconst 0, 1) := by decide +kernel
theorem dX3_readSign_9 : decode cX3_readSign 9 = .ok (.ireturn, 1) := by decide +kernel
theorem dX3_readSign_10 : decode cX3_readSign 10 = .ok (.aload_n 0, 1) := by decide +kernel
theorem dX3_readSign_11 : decode cX3_readSign 11 = .ok (.dup, 1) := by decide +kernel
theorem dX3_readSign_12 : decode cX3_readSign 12 = .ok (.getfield 24, 3) := by decide +kernel
theorem dX3_readSign_15 : decode cX3_readSign 15 = .ok (.iconst 1, 1) := by decide +kernel
theorem dX3_readSign_16 : decode cX3_readSign 16 = .ok (.iadd, 1) := by decide +kernel
theorem dX3_readSign_17 : decode cX3_readSign 17 = .ok (.putfield 24, 3) := by decide +kernel
theorem dX3_readSign_20 : decode cX3_readSign 20 = .ok (.iconst 1, 1) := by decide +kernel
theorem dX3_readSign_21 : decode cX3_readSign 21 = .ok (.ireturn, 1) := by decide +kernel
theorem dX3_signAt_0 : decode cX3_signAt 0 = .ok (.aload_n 0, 1) := by decide +kernel
theorem dX3_signAt_1 : decode cX3_signAt 1 = .ok (.getfield 24, 3) := by decide +kernel
theorem dX3_signAt_4 : decode cX3_signAt 4 = .ok (.aload_n 0, 1) := by decide +kernel
theorem dX3_signAt_5 : decode cX3_signAt 5 = .ok (.getfield 32, 3) := by decide +kernel
theorem dX3_signAt_8 : decode cX3_signAt 8 = .ok (.if_icmp .ge 15, 3) := by decide +kernel
theorem dX3_signAt_11 : decode cX3_signAt 11 = .ok (.aload_n 0, 1) := by decide +kernel
theorem dX3_signAt_12 : decode cX3_signAt 12 = .ok (.getfield 9, 3) := by decide +kernel
theorem dX3_signAt_15 : decode cX3_signAt 15 = .ok (.aload_n 0, 1) := by decide +kernel
theorem dX3_signAt_16 : decode cX3_signAt 16 = .ok (.getfield 24, 3) := by decide +kernel
theorem dX3_signAt_19 : decode cX3_signAt 19 = .ok (.baload, 1) := by decide +kernel
theorem dX3_signAt_20 : decode cX3_signAt 20 = .ok (.goto 4, 3) := by decide +kernel
theorem dX3_signAt_23 : decode cX3_signAt 23 = .ok (.iconst (-1), 1) := by decide +kernel
theorem dX3_signAt_24 : decode cX3_signAt 24 = .ok (.ireturn, 1) := by decide +kernel
theorem dX4_init_0 : decode cX4_init 0 = .ok (.aload_n 0, 1) := by decide +kernel
theorem dX4_init_1 : decode cX4_init 1 = .ok (.invokespecial 3, 3) := by decide +kernel
theorem dX4_init_4 : decode cX4_init 4 = .ok (.aload_n 0, 1) := by decide +kernel
theorem dX4_init_5 : decode cX4_init 5 = .ok (.iload_n 1, 1) := by decide +kernel
theorem dX4_init_6 : decode cX4_init 6 = .ok (.newarray .int, 2) := by decide +kernel
theorem dX4_init_8 : decode cX4_init 8 = .ok (.putfield 9, 3) := by decide +kernel
theorem dX4_init_11 : decode cX4_init 11 = .ok (.aload_n 0, 1) := by decide +kernel
theorem dX4_init_12 : decode cX4_init 12 = .ok (.iload_n 1, 1) := by decide +kernel
theorem dX4_init_13 : decode cX4_init 13 = .ok (.newarray .int, 2) := by decide +kernel
theorem dX4_init_15 : decode cX4_init 15 = .ok (.putfield 15, 3) := by decide +kernel
theorem dX4_init_18 : decode cX4_init 18 = .ok (.aload_n 0, 1) := by decide +kernel
theorem dX4_init_19 : decode cX4_init 19 = .ok (.iload_n 1, 1) := by decide +kernel
theorem dX4_init_20 : decode cX4_init 20 = .ok (.newarray .int, 2) := by decide +kernel
theorem dX4_init_22 : decode cX4_init 22 = .ok (.putfield 18, 3) := by decide +kernel
theorem dX4_init_25 : decode cX4_init 25 = .ok (.return_, 1) := by decide +kernel
theorem dX4_become_0 : decode cX4_become 0 = .ok (.aload_n 0, 1) := by decide +kernel
theorem dX4_become_1 : decode cX4_become 1 = .ok (.aload_n 1, 1) := by decide +kernel
theorem dX4_become_2 : decode cX4_become 2 = .ok (.getfield 21, 3) := by decide +kernel
theorem dX4_become_5 : decode cX4_become 5 = .ok (.putfield 21, 3) := by decide +kernel
theorem dX4_become_8 : decode cX4_become 8 = .ok (.aload_n 1, 1) := by decide +kernel
theorem dX4_become_9 : decode cX4_become 9 = .ok (.getfield 9, 3) := by decide +kernel
theorem dX4_become_12 : decode cX4_become 12 = .ok (.iconst 0, 1) := by decide +kernel
theorem dX4_become_13 : decode cX4_become 13 = .ok (.aload_n 0, 1) := by decide +kernel
theorem dX4_become_14 : decode cX4_become 14 = .ok (.getfield 9, 3) := by decide +kernel
theorem dX4_become_17 : decode cX4_become 17 = .ok (.iconst 0, 1) := by decide +kernel
theorem dX4_become_18 : decode cX4_become 18 = .ok (.aload_n 0, 1) := by decide +kernel
theorem dX4_become_19 : decode cX4_become 19 = .ok (.getfield 9, 3) := by decide +kernel
theorem dX4_become_22 : decode cX4_become 22 = .ok (.arraylength, 1) := by decide +kernel
theorem dX4_become_23 : decode cX4_become 23 = .ok (.invokestatic 25, 3) := by decide +kernel
theorem dX4_become_26 : decode cX4_become 26 = .ok (.aload_n 1, 1) := by decide +kernel
theorem dX4_become_27 : decode cX4_become 27 = .ok (.getfield 15, 3) := by decide +kernel
theorem dX4_become_30 : decode cX4_become 30 = .ok (.iconst 0, 1) := by decide +kernel
theorem dX4_become_31 : decode cX4_become 31 = .ok (.aload_n 0, 1) := by decide +kernel
theorem dX4_become_32 : decode cX4_become 32 = .ok (.getfield 15, 3) := by decide +kernel
theorem dX4_become_35 : decode cX4_become 35 = .ok (.iconst 0, 1) := by decide +kernel
theorem dX4_become_36 : decode cX4_become 36 = .ok (.aload_n 0, 1) := by decide +kernel
theorem dX4_become_37 : decode cX4_become 37 = .ok (.getfield 15, 3) := by decide +kernel
theorem dX4_become_40 : decode cX4_become 40 = .ok (.arraylength, 1) := by decide +kernel
theorem dX4_become_41 : decode cX4_become 41 = .ok (.invokestatic 25, 3) := by decide +kernel
theorem dX4_become_44 : decode cX4_become 44 = .ok (.aload_n 1, 1) := by decide +kernel
theorem dX4_become_45 : decode cX4_become 45 = .ok (.getfield 18, 3) := by decide +kernel
theorem dX4_become_48 : decode cX4_become 48 = .ok (.iconst 0, 1) := by decide +kernel
theorem dX4_become_49 : decode cX4_become 49 = .ok (.aload_n 0, 1) := by decide +kernel
theorem dX4_become_50 : decode cX4_become 50 = .ok (.getfield 18, 3) := by decide +kernel
theorem dX4_become_53 : decode cX4_become 53 = .ok (.iconst 0, 1) := by decide +kernel
theorem dX4_become_54 : decode cX4_become 54 = .ok (.aload_n 0, 1) := by decide +kernel
theorem dX4_become_55 : decode cX4_become 55 = .ok (.getfield 18, 3) := by decide +kernel
theorem dX4_become_58 : decode cX4_become 58 = .ok (.arraylength, 1) := by decide +kernel
theorem dX4_become_59 : decode cX4_become 59 = .ok (.invokestatic 25, 3) := by decide +kernel
theorem dX4_become_62 : decode cX4_become 62 = .ok (.return_, 1) := by decide +kernel
theorem dX4_add_0 : decode cX4_add 0 = .ok (.aload_n 0, 1) := by decide +kernel
theorem dX4_add_1 : decode cX4_add 1 = .ok (.getfield 21, 3) := by decide +kernel
theorem dX4_add_4 : decode cX4_add 4 = .ok (.aload_n 0, 1) := by decide +kernel
theorem dX4_add_5 : decode cX4_add 5 = .ok (.getfield 9, 3) := by decide +kernel
theorem dX4_add_8 : decode cX4_add 8 = .ok (.arraylength, 1) := by decide +kernel
theorem dX4_add_9 : decode cX4_add 9 = .ok (.if_icmp .lt 6, 3) := by decide +kernel
theorem dX4_add_12 : decode cX4_add 12 = .ok (.bipush (-4), 2) := by decide +kernel
theorem dX4_add_14 : decode cX4_add 14 = .ok (.ireturn, 1) := by decide +kernel
theorem dX4_add_15 : decode cX4_add 15 = .ok (.aload_n 0, 1) := by decide +kernel
theorem dX4_add_16 : decode cX4_add 16 = .ok (.getfield 9, 3) := by decide +kernel
theorem dX4_add_19 : decode cX4_add 19 = .ok (.aload_n 0, 1) := by decide +kernel
theorem dX4_add_20 : decode cX4_add 20 = .ok (.getfield 21, 3) := by decide +kernel
theorem dX4_add_23 : decode cX4_add 23 = .ok (.iload_n 1, 1) := by decide +kernel
theorem dX4_add_24 : decode cX4_add 24 = .ok (.iastore, 1) := by decide +kernel
theorem dX4_add_25 : decode cX4_add 25 = .ok (.aload_n 0, 1) := by decide +kernel
theorem dX4_add_26 : decode cX4_add 26 = .ok (.getfield 15, 3) := by decide +kernel
theorem dX4_add_29 : decode cX4_add 29 = .ok (.aload_n 0, 1) := by decide +kernel
theorem dX4_add_30 : decode cX4_add 30 = .ok (.getfield 21, 3) := by decide +kernel
theorem dX4_add_33 : decode cX4_add 33 = .ok (.iload_n 2, 1) := by decide +kernel
theorem dX4_add_34 : decode cX4_add 34 = .ok (.iastore, 1) := by decide +kernel
theorem dX4_add_35 : decode cX4_add 35 = .ok (.aload_n 0, 1) := by decide +kernel
theorem dX4_add_36 : decode cX4_add 36 = .ok (.getfield 18, 3) := by decide +kernel
theorem dX4_add_39 : decode cX4_add 39 = .ok (.aload_n 0, 1) := by decide +kernel
theorem dX4_add_40 : decode cX4_add 40 = .ok (.getfield 21, 3) := by decide +kernel
theorem dX4_add_43 : decode cX4_add 43 = .ok (.iload_n 3, 1) := by decide +kernel
theorem dX4_add_44 : decode cX4_add 44 = .ok (.iastore, 1) := by decide +kernel
theorem dX4_add_45 : decode cX4_add 45 = .ok (.aload_n 0, 1) := by decide +kernel
theorem dX4_add_46 : decode cX4_add 46 = .ok (.dup, 1) := by decide +kernel
theorem dX4_add_47 : decode cX4_add 47 = .ok (.getfield 21, 3) := by decide +kernel
theorem dX4_add_50 : decode cX4_add 50 = .ok (.iconst 1, 1) := by decide +kernel
theorem dX4_add_51 : decode cX4_add 51 = .ok (.iadd, 1) := by decide +kernel
theorem dX4_add_52 : decode cX4_add 52 = .ok (.putfield 21, 3) := by decide +kernel
theorem dX4_add_55 : decode cX4_add 55 = .ok (.aload_n 0, 1) := by decide +kernel
theorem dX4_add_56 : decode cX4_add 56 = .ok (.getfield 21, 3) := by decide +kernel
theorem dX4_add_59 : decode cX4_add 59 = .ok (.ireturn, 1) := by decide +kernel
theorem dX4_clear_0 : decode cX4_clear 0 = .ok (.aload_n 0, 1) := by decide +kernel
theorem dX4_clear_1 : decode cX4_clear 1 = .ok (.iconst 0, 1) := by decide +kernel
theorem dX4_clear_2 : decode cX4_clear 2 = .ok (.putfield 21, 3) := by decide +kernel
theorem dX4_clear_5 : decode cX4_clear 5 = .ok (.aload_n 0, 1) := by decide +kernel
theorem dX4_clear_6 : decode cX4_clear 6 = .ok (.getfield 21, 3) := by decide +kernel
theorem dX4_clear_9 : decode cX4_clear 9 = .ok (.ireturn, 1) := by decide +kernel
theorem dX5_init_0 : decode cX5_init 0 = .ok (.aload_n 0, 1) := by decide +kernel
theorem dX5_init_1 : decode cX5_init 1 = .ok (.invokespecial 3, 3) := by decide +kernel
theorem dX5_init_4 : decode cX5_init 4 = .ok (.aload_n 0, 1) := by decide +kernel
theorem dX5_init_5 : decode cX5_init 5 = .ok (.bipush 60, 2) := by decide +kernel
theorem dX5_init_7 : decode cX5_init 7 = .ok (.newarray .long, 2) := by decide +kernel
theorem dX5_init_9 : decode cX5_init 9 = .ok (.putfield 9, 3) := by decide +kernel
theorem dX5_init_12 : decode cX5_init 12 = .ok (.aload_n 0, 1) := by decide +kernel
theorem dX5_init_13 : decode cX5_init 13 = .ok (.iconst (-1), 1) := by decide +kernel
theorem dX5_init_14 : decode cX5_init 14 = .ok (.putfield 15, 3) := by decide +kernel
theorem dX5_init_17 : decode cX5_init 17 = .ok (.return_, 1) := by decide +kernel
theorem dX5_become_0 : decode cX5_become 0 = .ok (.aload_n 0, 1) := by decide +kernel
theorem dX5_become_1 : decode cX5_become 1 = .ok (.iload_n 1, 1) := by decide +kernel
theorem dX5_become_2 : decode cX5_become 2 = .ok (.putfield 15, 3) := by decide +kernel
theorem dX5_become_5 : decode cX5_become 5 = .ok (.aload_n 0, 1) := by decide +kernel
theorem dX5_become_6 : decode cX5_become 6 = .ok (.iload_n 2, 1) := by decide +kernel
theorem dX5_become_7 : decode cX5_become 7 = .ok (.putfield 19, 3) := by decide +kernel
theorem dX5_become_10 : decode cX5_become 10 = .ok (.iconst 0, 1) := by decide +kernel
theorem dX5_become_11 : decode cX5_become 11 = .ok (.istore_n 3, 1) := by decide +kernel
theorem dX5_become_12 : decode cX5_become 12 = .ok (.iload_n 3, 1) := by decide +kernel
theorem dX5_become_13 : decode cX5_become 13 = .ok (.bipush 60, 2) := by decide +kernel
theorem dX5_become_15 : decode cX5_become 15 = .ok (.if_icmp .ge 16, 3) := by decide +kernel
theorem dX5_become_18 : decode cX5_become 18 = .ok (.aload_n 0, 1) := by decide +kernel
theorem dX5_become_19 : decode cX5_become 19 = .ok (.getfield 9, 3) := by decide +kernel
theorem dX5_become_22 : decode cX5_become 22 = .ok (.iload_n 3, 1) := by decide +kernel
theorem dX5_become_23 : decode cX5_become 23 = .ok (.lconst 0, 1) := by decide +kernel
theorem dX5_become_24 : decode cX5_become 24 = .ok (.lastore, 1) := by decide +kernel
theorem dX5_become_25 : decode cX5_become 25 = .ok (.iinc 3 1, 3) := by decide +kernel
theorem dX5_become_28 : decode cX5_become 28 = .ok (.goto (-16), 3) := by decide +kernel
theorem dX5_become_31 : decode cX5_become 31 = .ok (.return_, 1) := by decide +kernel
theorem dX5_hasPlace_0 : decode cX5_hasPlace 0 = .ok (.iload_n 1, 1) := by decide +kernel
theorem dX5_hasPlace_1 : decode cX5_hasPlace 1 = .ok (.ifCond .lt 15, 3) := by decide +kernel
theorem dX5_hasPlace_4 : decode cX5_hasPlace 4 = .ok (.iload_n 1, 1) := by decide +kernel
theorem dX5_hasPlace_5 : decode cX5_hasPlace 5 = .ok (.aload_n 0, 1) := by decide +kernel
theorem dX5_hasPlace_6 : decode cX5_hasPlace 6 = .ok (.getfield 19, 3) := by decide +kernel
theorem dX5_hasPlace_9 : decode cX5_hasPlace 9 = .ok (.if_icmp .ge 7, 3) := by decide +kernel
theorem dX5_hasPlace_12 : decode cX5_hasPlace 12 = .ok (.iconst 1, 1) := by decide +kernel
theorem dX5_hasPlace_13 : decode cX5_hasPlace 13 = .ok (.goto 4, 3) := by decide +kernel
theorem dX5_hasPlace_16 : decode cX5_hasPlace 16 = .ok (.iconst 0, 1) := by decide +kernel
theorem dX5_hasPlace_17 : decode cX5_hasPlace 17 = .ok (.ireturn, 1) := by decide +kernel
theorem dX5_hasPlaces_0 : decode cX5_hasPlaces 0 = .ok (.iload_n 1, 1) := by decide +kernel
theorem dX5_hasPlaces_1 : decode cX5_hasPlaces 1 = .ok (.ifCond .lt 29, 3) := by decide +kernel
theorem dX5_hasPlaces_4 : decode cX5_hasPlaces 4 = .ok (.iload_n 2, 1) := by decide +kernel
theorem dX5_hasPlaces_5 : decode cX5_hasPlaces 5 = .ok (.ifCond .lt 25, 3) := by decide +kernel
theorem dX5_hasPlaces_8 : decode cX5_hasPlaces 8 = .ok (.iload_n 1, 1) := by decide +kernel
theorem dX5_hasPlaces_9 : decode cX5_hasPlaces 9 = .ok (.aload_n 0, 1) := by decide +kernel
theorem dX5_hasPlaces_10 : decode cX5_hasPlaces 10 = .ok (.getfield 19, 3) := by decide +kernel
theorem dX5_hasPlaces_13 : decode cX5_hasPlaces 13 = .ok (.if_icmp .gt 17, 3) := by decide +kernel
theorem dX5_hasPlaces_16 : decode cX5_hasPlaces 16 = .ok (.iload_n 2, 1) := by decide +kernel
theorem dX5_hasPlaces_17 : decode cX5_hasPlaces 17 = .ok (.aload_n 0, 1) := by decide +kernel
theorem dX5_hasPlaces_18 : decode cX5_hasPlaces 18 = .ok (.getfield 19, 3) := by decide +kernel
theorem dX5_hasPlaces_21 : decode cX5_hasPlaces 21 = .ok (.iload_n 1, 1) := by decide +kernel
theorem dX5_hasPlaces_22 : decode cX5_hasPlaces 22 = .ok (.isub, 1) := by decide +kernel
theorem dX5_hasPlaces_23 : decode cX5_hasPlaces 23 = .ok (.if_icmp .gt 7, 3) := by decide +kernel
theorem dX5_hasPlaces_26 : decode cX5_hasPlaces 26 = .ok (.iconst 1, 1) := by decide +kernel
theorem dX5_hasPlaces_27 : decode cX5_hasPlaces 27 = .ok (.goto 4, 3) := by decide +kernel
theorem dX5_hasPlaces_30 : decode cX5_hasPlaces 30 = .ok (.iconst 0, 1) := by decide +kernel
theorem dX5_hasPlaces_31 : decode cX5_hasPlaces 31 = .ok (.ireturn, 1) := by decide +kernel
theorem dX5_put_0 : decode cX5_put 0 = .ok (.aload_n 0, 1) := by decide +kernel
theorem dX5_put_1 : decode cX5_put 1 = .ok (.iload_n 1, 1) := by decide +kernel
theorem dX5_put_2 : decode cX5_put 2 = .ok (.invokevirtual 22, 3) := by decide +kernel
theorem dX5_put_5 : decode cX5_put 5 = .ok (.ifCond .eq 14, 3) := by decide +kernel
theorem dX5_put_8 : decode cX5_put 8 = .ok (.aload_n 0, 1) := by decide +kernel
theorem dX5_put_9 : decode cX5_put 9 = .ok (.getfield 9, 3) := by decide +kernel
theorem dX5_put_12 : decode cX5_put 12 = .ok (.iload_n 1, 1) := by decide +kernel
theorem dX5_put_13 : decode cX5_put 13 = .ok (.aload_n 0, 1) := by decide +kernel
theorem dX5_put_14 : decode cX5_put 14 = .ok (.lload_n 2, 1) := by decide +kernel
theorem dX5_put_15 : decode cX5_put 15 = .ok (.invokevirtual 26, 3) := by decide +kernel
theorem dX5_put_18 : decode cX5_put 18 = .ok (.lastore, 1) := by decide +kernel
theorem dX5_put_19 : decode cX5_put 19 = .ok (.return_, 1) := by decide +kernel
theorem dX5_cut_0 : decode cX5_cut 0 = .ok (.aload_n 0, 1) := by decide +kernel
theorem dX5_cut_1 : decode cX5_cut 1 = .ok (.getfield 15, 3) := by decide +kernel
theorem dX5_cut_4 : decode cX5_cut 4 = .ok (.tableswitch 62 0 4 #[36, 41, 46, 62, 50], 36) := by decide +kernel
theorem dX5_cut_40 : decode cX5_cut 40 = .ok (.lload_n 1, 1) := by decide +kernel
theorem dX5_cut_41 : decode cX5_cut 41 = .ok (.l2i, 1) := by decide +kernel
theorem dX5_cut_42 : decode cX5_cut 42 = .ok (.i2b, 1) := by decide +kernel
theorem dX5_cut_43 : decode cX5_cut 43 = .ok (.i2l, 1) := by decide +kernel
theorem dX5_cut_44 : decode cX5_cut 44 = .ok (.lreturn, 1) := by decide +kernel
theorem dX5_cut_45 : decode cX5_cut 45 = .ok (.lload_n 1, 1) := by decide +kernel
theorem dX5_cut_46 : decode cX5_cut 46 = .ok (.l2i, 1) := by decide +kernel
theorem dX5_cut_47 : decode cX5_cut 47 = .ok (.i2s, 1) := by decide +kernel
theorem dX5_cut_48 : decode cX5_cut 48 = .ok (.i2l, 1) := by decide +kernel
theorem dX5_cut_49 : decode cX5_cut 49 = .ok (.lreturn, 1) := by decide +kernel
theorem dX5_cut_50 : decode cX5_cut 50 = .ok (.lload_n 1, 1) := by decide +kernel
theorem dX5_cut_51 : decode cX5_cut 51 = .ok (.l2i, 1) := by decide +kernel
theorem dX5_cut_52 : decode cX5_cut 52 = .ok (.i2l, 1) := by decide +kernel
theorem dX5_cut_53 : decode cX5_cut 53 = .ok (.lreturn, 1) := by decide +kernel
theorem dX5_cut_54 : decode cX5_cut 54 = .ok (.lload_n 1, 1) := by decide +kernel
theorem dX5_cut_55 : decode cX5_cut 55 = .ok (.lconst 0, 1) := by decide +kernel
theorem dX5_cut_56 : decode cX5_cut 56 = .ok (.lcmp, 1) := by decide +kernel
theorem dX5_cut_57 : decode cX5_cut 57 = .ok (.ifCond .eq 7, 3) := by decide +kernel
theorem dX5_cut_60 : decode cX5_cut 60 = .ok (.lconst 1, 1) := by decide +kernel
theorem dX5_cut_61 : decode cX5_cut 61 = .ok (.goto 4, 3) := by decide +kernel
theorem dX5_cut_64 : decode cX5_cut 64 = .ok (.lconst 0, 1) := by decide +kernel
theorem dX5_cut_65 : decode cX5_cut 65 = .ok (.lreturn, 1) := by decide +kernel
theorem dX5_cut_66 : decode cX5_cut 66 = .ok (.lload_n 1, 1) := by decide +kernel
theorem dX5_cut_67 : decode cX5_cut 67 = .ok (.lreturn, 1) := by decide +kernel
theorem dX6_init_0 : decode cX6_init 0 = .ok (.aload_n 0, 1) := by decide +kernel
theorem dX6_init_1 : decode cX6_init 1 = .ok (.invokespecial 3, 3) := by decide +kernel
theorem dX6_init_4 : decode cX6_init 4 = .ok (.aload_n 0, 1) := by decide +kernel
theorem dX6_init_5 : decode cX6_init 5 = .ok (.iconst 4, 1) := by decide +kernel
theorem dX6_init_6 : decode cX6_init 6 = .ok (.anewarray 9, 3) := by decide +kernel
theorem dX6_init_9 : decode cX6_init 9 = .ok (.putfield 11, 3) := by decide +kernel
theorem dX6_init_12 : decode cX6_init 12 = .ok (.aload_n 0, 1) := by decide +kernel
theorem dX6_init_13 : decode cX6_init 13 = .ok (.bipush 6, 2) := by decide +kernel
theorem dX6_init_15 : decode cX6_init 15 = .ok (.anewarray 17, 3) := by decide +kernel
theorem dX6_init_18 : decode cX6_init 18 = .ok (.putfield 19, 3) := by decide +kernel
theorem dX6_init_21 : decode cX6_init 21 = .ok (.aload_n 0, 1) := by decide +kernel
theorem dX6_init_22 : decode cX6_init 22 = .ok (.new 23, 3) := by decide +kernel
theorem dX6_init_25 : decode cX6_init 25 = .ok (.dup, 1) := by decide +kernel
theorem dX6_init_26 : decode cX6_init 26 = .ok (.iconst 5, 1) := by decide +kernel
theorem dX6_init_27 : decode cX6_init 27 = .ok (.invokespecial 25, 3) := by decide +kernel
theorem dX6_init_30 : decode cX6_init 30 = .ok (.putfield 28, 3) := by decide +kernel
theorem dX6_init_33 : decode cX6_init 33 = .ok (.aload_n 0, 1) := by decide +kernel
theorem dX6_init_34 : decode cX6_init 34 = .ok (.new 23, 3) := by decide +kernel
theorem dX6_init_37 : decode cX6_init 37 = .ok (.dup, 1) := by decide +kernel
theorem dX6_init_38 : decode cX6_init 38 = .ok (.bipush 10, 2) := by decide +kernel
theorem dX6_init_40 : decode cX6_init 40 = .ok (.invokespecial 25, 3) := by decide +kernel
theorem dX6_init_43 : decode cX6_init 43 = .ok (.putfield 32, 3) := by decide +kernel
theorem dX6_init_46 : decode cX6_init 46 = .ok (.aload_n 0, 1) := by decide +kernel
theorem dX6_init_47 : decode cX6_init 47 = .ok (.new 23, 3) := by decide +kernel
theorem dX6_init_50 : decode cX6_init 50 = .ok (.dup, 1) := by decide +kernel
theorem dX6_init_51 : decode cX6_init 51 = .ok (.bipush 8, 2) := by decide +kernel
theorem dX6_init_53 : decode cX6_init 53 = .ok (.invokespecial 25, 3) := by decide +kernel
theorem dX6_init_56 : decode cX6_init 56 = .ok (.putfield 35, 3) := by decide +kernel
theorem dX6_init_59 : decode cX6_init 59 = .ok (.aload_n 0, 1) := by decide +kernel
theorem dX6_init_60 : decode cX6_init 60 = .ok (.aload_n 1, 1) := by decide +kernel
theorem dX6_init_61 : decode cX6_init 61 = .ok (.putfield 38, 3) := by decide +kernel
theorem dX6_init_64 : decode cX6_init 64 = .ok (.iconst 0, 1) := by decide +kernel
theorem dX6_init_65 : decode cX6_init 65 = .ok (.istore_n 2, 1) := by decide +kernel
theorem dX6_init_66 : decode cX6_init 66 = .ok (.iload_n 2, 1) := by decide +kernel
theorem dX6_init_67 : decode cX6_init 67 = .ok (.iconst 4, 1) := by decide +kernel
theorem dX6_init_68 : decode cX6_init 68 = .ok (.if_icmp .ge 22, 3) := by decide +kernel
theorem dX6_init_71 : decode cX6_init 71 = .ok (.aload_n 0, 1) := by decide +kernel
theorem dX6_init_72 : decode cX6_init 72 = .ok (.getfield 11, 3) := by decide +kernel
theorem dX6_init_75 : decode cX6_init 75 = .ok (.iload_n 2, 1) := by decide +kernel
theorem dX6_init_76 : decode cX6_init 76 = .ok (.new 9, 3) := by decide +kernel
theorem dX6_init_79 : decode cX6_init 79 = .ok (.dup, 1) := by decide +kernel
theorem dX6_init_80 : decode cX6_init 80 = .ok (.invokespecial 42, 3) := by decide +kernel
theorem dX6_init_83 : decode cX6_init 83 = .ok (.aastore, 1) := by decide +kernel
theorem dX6_init_84 : decode cX6_init 84 = .ok (.iinc 2 1, 3) := by decide +kernel
theorem dX6_init_87 : decode cX6_init 87 = .ok (.goto (-21), 3) := by decide +kernel
theorem dX6_init_90 : decode cX6_init 90 = .ok (.iconst 0, 1) := by decide +kernel
theorem dX6_init_91 : decode cX6_init 91 = .ok (.istore_n 2, 1) := by decide +kernel
theorem dX6_init_92 : decode cX6_init 92 = .ok (.iload_n 2, 1) := by decide +kernel
theorem dX6_init_93 : decode cX6_init 93 = .ok (.bipush 6, 2) := by decide +kernel
theorem dX6_init_95 : decode cX6_init 95 = .ok (.if_icmp .ge 23, 3) := by decide +kernel
theorem dX6_init_98 : decode cX6_init 98 = .ok (.aload_n 0, 1) := by decide +kernel
theorem dX6_init_99 : decode cX6_init 99 = .ok (.getfield 19, 3) := by decide +kernel
theorem dX6_init_102 : decode cX6_init 102 = .ok (.iload_n 2, 1) := by decide +kernel
theorem dX6_init_103 : decode cX6_init 103 = .ok (.new 17, 3) := by decide +kernel
theorem dX6_init_106 : decode cX6_init 106 = .ok (.dup, 1) := by decide +kernel
theorem dX6_init_107 : decode cX6_init 107 = .ok (.iload_n 2, 1) := by decide +kernel
theorem dX6_init_108 : decode cX6_init 108 = .ok (.invokespecial 43, 3) := by decide +kernel
theorem dX6_init_111 : decode cX6_init 111 = .ok (.aastore, 1) := by decide +kernel
theorem dX6_init_112 : decode cX6_init 112 = .ok (.iinc 2 1, 3) := by decide +kernel
theorem dX6_init_115 : decode cX6_init 115 = .ok (.goto (-23), 3) := by decide +kernel
theorem dX6_init_118 : decode cX6_init 118 = .ok (.return_, 1) := by decide +kernel
theorem dX6_become_0 : decode cX6_become 0 = .ok (.iconst 0, 1) := by decide +kernel
theorem dX6_become_1 : decode cX6_become 1 = .ok (.istore_n 2, 1) := by decide +kernel
theorem dX6_become_2 : decode cX6_become 2 = .ok (.iload_n 2, 1) := by decide +kernel
theorem dX6_become_3 : decode cX6_become 3 = .ok (.iconst 4, 1) := by decide +kernel
theorem dX6_become_4 : decode cX6_become 4 = .ok (.if_icmp .ge 24, 3) := by decide +kernel
theorem dX6_become_7 : decode cX6_become 7 = .ok (.aload_n 0, 1) := by decide +kernel
theorem dX6_become_8 : decode cX6_become 8 = .ok (.getfield 11, 3) := by decide +kernel
theorem dX6_become_11 : decode cX6_become 11 = .ok (.iload_n 2, 1) := by decide +kernel
theorem dX6_become_12 : decode cX6_become 12 = .ok (.aaload, 1) := by decide +kernel
theorem dX6_become_13 : decode cX6_become 13 = .ok (.aload_n 1, 1) := by decide +kernel
theorem dX6_become_14 : decode cX6_become 14 = .ok (.getfield 11, 3) := by decide +kernel
theorem dX6_become_17 : decode cX6_become 17 = .ok (.iload_n 2, 1) := by decide +kernel
theorem dX6_become_18 : decode cX6_become 18 = .ok (.aaload, 1) := by decide +kernel
theorem dX6_become_19 : decode cX6_become 19 = .ok (.invokevirtual 44, 3) := by decide +kernel
theorem dX6_become_22 : decode cX6_become 22 = .ok (.iinc 2 1, 3) := by decide +kernel
theorem dX6_become_25 : decode cX6_become 25 = .ok (.goto (-23), 3) := by decide +kernel
theorem dX6_become_28 : decode cX6_become 28 = .ok (.iconst 0, 1) := by decide +kernel
theorem dX6_become_29 : decode cX6_become 29 = .ok (.istore_n 2, 1) := by decide +kernel
theorem dX6_become_30 : decode cX6_become 30 = .ok (.iload_n 2, 1) := by decide +kernel
theorem dX6_become_31 : decode cX6_become 31 = .ok (.bipush 6, 2) := by decide +kernel
theorem dX6_become_33 : decode cX6_become 33 = .ok (.if_icmp .ge 24, 3) := by decide +kernel
theorem dX6_become_36 : decode cX6_become 36 = .ok (.aload_n 0, 1) := by decide +kernel
theorem dX6_become_37 : decode cX6_become 37 = .ok (.getfield 19, 3) := by decide +kernel
theorem dX6_become_40 : decode cX6_become 40 = .ok (.iload_n 2, 1) := by decide +kernel
theorem dX6_become_41 : decode cX6_become 41 = .ok (.aaload, 1) := by decide +kernel
theorem dX6_become_42 : decode cX6_become 42 = .ok (.aload_n 1, 1) := by decide +kernel
theorem dX6_become_43 : decode cX6_become 43 = .ok (.getfield 19, 3) := by decide +kernel
theorem dX6_become_46 : decode cX6_become 46 = .ok (.iload_n 2, 1) := by decide +kernel
theorem dX6_become_47 : decode cX6_become 47 = .ok (.aaload, 1) := by decide +kernel
theorem dX6_become_48 : decode cX6_become 48 = .ok (.invokevirtual 48, 3) := by decide +kernel
theorem dX6_become_51 : decode cX6_become 51 = .ok (.iinc 2 1, 3) := by decide +kernel
theorem dX6_become_54 : decode cX6_become 54 = .ok (.goto (-24), 3) := by decide +kernel
theorem dX6_become_57 : decode cX6_become 57 = .ok (.aload_n 0, 1) := by decide +kernel
theorem dX6_become_58 : decode cX6_become 58 = .ok (.getfield 28, 3) := by decide +kernel
theorem dX6_become_61 : decode cX6_become 61 = .ok (.aload_n 1, 1) := by decide +kernel
theorem dX6_become_62 : decode cX6_become 62 = .ok (.getfield 28, 3) := by decide +kernel
theorem dX6_become_65 : decode cX6_become 65 = .ok (.invokevirtual 51, 3) := by decide +kernel
theorem dX6_become_68 : decode cX6_become 68 = .ok (.aload_n 0, 1) := by decide +kernel
theorem dX6_become_69 : decode cX6_become 69 = .ok (.getfield 32, 3) := by decide +kernel
theorem dX6_become_72 : decode cX6_become 72 = .ok (.aload_n 1, 1) := by decide +kernel
theorem dX6_become_73 : decode cX6_become 73 = .ok (.getfield 32, 3) := by decide +kernel
theorem dX6_become_76 : decode cX6_become 76 = .ok (.invokevirtual 51, 3) := by decide +kernel
theorem dX6_become_79 : decode cX6_become 79 = .ok (.aload_n 0, 1) := by decide +kernel
theorem dX6_become_80 : decode cX6_become 80 = .ok (.getfield 35, 3) := by decide +kernel
theorem dX6_become_83 : decode cX6_become 83 = .ok (.aload_n 1, 1) := by decide +kernel
theorem dX6_become_84 : decode cX6_become 84 = .ok (.getfield 35, 3) := by decide +kernel
theorem dX6_become_87 : decode cX6_become 87 = .ok (.invokevirtual 51, 3) := by decide +kernel
theorem dX6_become_90 : decode cX6_become 90 = .ok (.aload_n 0, 1) := by decide +kernel
theorem dX6_become_91 : decode cX6_become 91 = .ok (.aload_n 1, 1) := by decide +kernel
theorem dX6_become_92 : decode cX6_become 92 = .ok (.getfield 54, 3) := by decide +kernel
theorem dX6_become_95 : decode cX6_become 95 = .ok (.putfield 54, 3) := by decide +kernel
theorem dX6_become_98 : decode cX6_become 98 = .ok (.aload_n 0, 1) := by decide +kernel
theorem dX6_become_99 : decode cX6_become 99 = .ok (.aload_n 1, 1) := by decide +kernel
theorem dX6_become_100 : decode cX6_become 100 = .ok (.getfield 58, 3) := by decide +kernel
theorem dX6_become_103 : decode cX6_become 103 = .ok (.putfield 58, 3) := by decide +kernel
theorem dX6_become_106 : decode cX6_become 106 = .ok (.aload_n 0, 1) := by decide +kernel
theorem dX6_become_107 : decode cX6_become 107 = .ok (.aload_n 1, 1) := by decide +kernel
theorem dX6_become_108 : decode cX6_become 108 = .ok (.getfield 38, 3) := by decide +kernel
theorem dX6_become_111 : decode cX6_become 111 = .ok (.putfield 38, 3) := by decide +kernel
theorem dX6_become_114 : decode cX6_become 114 = .ok (.return_, 1) := by decide +kernel
theorem dX6_likeToWalk_0 : decode cX6_likeToWalk 0 = .ok (.aload_n 0, 1) := by decide +kernel
theorem dX6_likeToWalk_1 : decode cX6_likeToWalk 1 = .ok (.aload_n 1, 1) := by decide +kernel
theorem dX6_likeToWalk_2 : decode cX6_likeToWalk 2 = .ok (.iload_n 2, 1) := by decide +kernel
theorem dX6_likeToWalk_3 : decode cX6_likeToWalk 3 = .ok (.aload_n 1, 1) := by decide +kernel
theorem dX6_likeToWalk_4 : decode cX6_likeToWalk 4 = .ok (.getfield 61, 3) := by decide +kernel
theorem dX6_likeToWalk_7 : decode cX6_likeToWalk 7 = .ok (.iload_n 3, 1) := by decide +kernel
theorem dX6_likeToWalk_8 : decode cX6_likeToWalk 8 = .ok (.invokestatic 64, 3) := by decide +kernel
theorem dX6_likeToWalk_11 : decode cX6_likeToWalk 11 = .ok (.aload_n 0, 1) := by decide +kernel
theorem dX6_likeToWalk_12 : decode cX6_likeToWalk 12 = .ok (.getfield 38, 3) := by decide +kernel
theorem dX6_likeToWalk_15 : decode cX6_likeToWalk 15 = .ok (.aload_n 1, 1) := by decide +kernel
theorem dX6_likeToWalk_16 : decode cX6_likeToWalk 16 = .ok (.iload_n 2, 1) := by decide +kernel
theorem dX6_likeToWalk_17 : decode cX6_likeToWalk 17 = .ok (.aload_n 0, 1) := by decide +kernel
theorem dX6_likeToWalk_18 : decode cX6_likeToWalk 18 = .ok (.getfield 58, 3) := by decide +kernel
theorem dX6_likeToWalk_21 : decode cX6_likeToWalk 21 = .ok (.invokevirtual 68, 3) := by decide +kernel
theorem dX6_likeToWalk_24 : decode cX6_likeToWalk 24 = .ok (.iadd, 1) := by decide +kernel
theorem dX6_likeToWalk_25 : decode cX6_likeToWalk 25 = .ok (.invokevirtual 74, 3) := by decide +kernel
theorem dX6_likeToWalk_28 : decode cX6_likeToWalk 28 = .ok (.ireturn, 1) := by decide +kernel
theorem dX6_likeBySum_0 : decode cX6_likeBySum 0 = .ok (.aload_n 1, 1) := by decide +kernel
theorem dX6_likeBySum_1 : decode cX6_likeBySum 1 = .ok (.getfield 77, 3) := by decide +kernel
theorem dX6_likeBySum_4 : decode cX6_likeBySum 4 = .ok (.tableswitch 119 1 6 #[40, 47, 53, 67, 87, 98], 40) := by decide +kernel
theorem dX6_likeBySum_44 : decode cX6_likeBySum 44 = .ok (.iload_n 3, 1) := by decide +kernel
theorem dX6_likeBySum_45 : decode cX6_likeBySum 45 = .ok (.aload_n 1, 1) := by decide +kernel
theorem dX6_likeBySum_46 : decode cX6_likeBySum 46 = .ok (.getfield 80, 3) := by decide +kernel
theorem dX6_likeBySum_49 : decode cX6_likeBySum 49 = .ok (.iadd, 1) := by decide +kernel
theorem dX6_likeBySum_50 : decode cX6_likeBySum 50 = .ok (.ireturn, 1) := by decide +kernel
theorem dX6_likeBySum_51 : decode cX6_likeBySum 51 = .ok (.iload_n 3, 1) := by decide +kernel
theorem dX6_likeBySum_52 : decode cX6_likeBySum 52 = .ok (.iconst 2, 1) := by decide +kernel
theorem dX6_likeBySum_53 : decode cX6_likeBySum 53 = .ok (.idiv, 1) := by decide +kernel
theorem dX6_likeBySum_54 : decode cX6_likeBySum 54 = .ok (.iconst 4, 1) := by decide +kernel
theorem dX6_likeBySum_55 : decode cX6_likeBySum 55 = .ok (.iadd, 1) := by decide +kernel
theorem dX6_likeBySum_56 : decode cX6_likeBySum 56 = .ok (.ireturn, 1) := by decide +kernel
theorem dX6_likeBySum_57 : decode cX6_likeBySum 57 = .ok (.aload_n 1, 1) := by decide +kernel
theorem dX6_likeBySum_58 : decode cX6_likeBySum 58 = .ok (.getfield 83, 3) := by decide +kernel
theorem dX6_likeBySum_61 : decode cX6_likeBySum 61 = .ok (.iload_n 2, 1) := by decide +kernel
theorem dX6_likeBySum_62 : decode cX6_likeBySum 62 = .ok (.if_icmp .ne 7, 3) := by decide +kernel
theorem dX6_likeBySum_65 : decode cX6_likeBySum 65 = .ok (.iload_n 3, 1) := by decide +kernel
theorem dX6_likeBySum_66 : decode cX6_likeBySum 66 = .ok (.goto 4, 3) := by decide +kernel
theorem dX6_likeBySum_69 : decode cX6_likeBySum 69 = .ok (.iconst 0, 1) := by decide +kernel
theorem dX6_likeBySum_70 : decode cX6_likeBySum 70 = .ok (.ireturn, 1) := by decide +kernel
theorem dX6_likeBySum_71 : decode cX6_likeBySum 71 = .ok (.iload_n 3, 1) := by decide +kernel
theorem dX6_likeBySum_72 : decode cX6_likeBySum 72 = .ok (.aload_n 1, 1) := by decide +kernel
theorem dX6_likeBySum_73 : decode cX6_likeBySum 73 = .ok (.getfield 80, 3) := by decide +kernel
theorem dX6_likeBySum_76 : decode cX6_likeBySum 76 = .ok (.iadd, 1) := by decide +kernel
theorem dX6_likeBySum_77 : decode cX6_likeBySum 77 = .ok (.aload_n 0, 1) := by decide +kernel
theorem dX6_likeBySum_78 : decode cX6_likeBySum 78 = .ok (.getfield 58, 3) := by decide +kernel
theorem dX6_likeBySum_81 : decode cX6_likeBySum 81 = .ok (.bipush 10, 2) := by decide +kernel
theorem dX6_likeBySum_83 : decode cX6_likeBySum 83 = .ok (.idiv, 1) := by decide +kernel
theorem dX6_likeBySum_84 : decode cX6_likeBySum 84 = .ok (.bipush 9, 2) := by decide +kernel
theorem dX6_likeBySum_86 : decode cX6_likeBySum 86 = .ok (.invokestatic 86, 3) := by decide +kernel
theorem dX6_likeBySum_89 : decode cX6_likeBySum 89 = .ok (.isub, 1) := by decide +kernel
theorem dX6_likeBySum_90 : decode cX6_likeBySum 90 = .ok (.ireturn, 1) := by decide +kernel
theorem dX6_likeBySum_91 : decode cX6_likeBySum 91 = .ok (.iload_n 3, 1) := by decide +kernel
theorem dX6_likeBySum_92 : decode cX6_likeBySum 92 = .ok (.iconst 2, 1) := by decide +kernel
theorem dX6_likeBySum_93 : decode cX6_likeBySum 93 = .ok (.idiv, 1) := by decide +kernel
theorem dX6_likeBySum_94 : decode cX6_likeBySum 94 = .ok (.iconst 4, 1) := by decide +kernel
theorem dX6_likeBySum_95 : decode cX6_likeBySum 95 = .ok (.iadd, 1) := by decide +kernel
theorem dX6_likeBySum_96 : decode cX6_likeBySum 96 = .ok (.aload_n 1, 1) := by decide +kernel
theorem dX6_likeBySum_97 : decode cX6_likeBySum 97 = .ok (.getfield 91, 3) := by decide +kernel
theorem dX6_likeBySum_100 : decode cX6_likeBySum 100 = .ok (.iadd, 1) := by decide +kernel
theorem dX6_likeBySum_101 : decode cX6_likeBySum 101 = .ok (.ireturn, 1) := by decide +kernel
theorem dX6_likeBySum_102 : decode cX6_likeBySum 102 = .ok (.aload_n 1, 1) := by decide +kernel
theorem dX6_likeBySum_103 : decode cX6_likeBySum 103 = .ok (.getfield 83, 3) := by decide +kernel
theorem dX6_likeBySum_106 : decode cX6_likeBySum 106 = .ok (.iload_n 2, 1) := by decide +kernel
theorem dX6_likeBySum_107 : decode cX6_likeBySum 107 = .ok (.if_icmp .ne 7, 3) := by decide +kernel
theorem dX6_likeBySum_110 : decode cX6_likeBySum 110 = .ok (.iload_n 3, 1) := by decide +kernel
theorem dX6_likeBySum_111 : decode cX6_likeBySum 111 = .ok (.goto 4, 3) := by decide +kernel
theorem dX6_likeBySum_114 : decode cX6_likeBySum 114 = .ok (.iconst 0, 1) := by decide +kernel
theorem dX6_likeBySum_115 : decode cX6_likeBySum 115 = .ok (.aload_n 1, 1) := by decide +kernel
theorem dX6_likeBySum_116 : decode cX6_likeBySum 116 = .ok (.getfield 94, 3) := by decide +kernel
theorem dX6_likeBySum_119 : decode cX6_likeBySum 119 = .ok (.iload_n 2, 1) := by decide +kernel
theorem dX6_likeBySum_120 : decode cX6_likeBySum 120 = .ok (.iaload, 1) := by decide +kernel
theorem dX6_likeBySum_121 : decode cX6_likeBySum 121 = .ok (.iadd, 1) := by decide +kernel
theorem dX6_likeBySum_122 : decode cX6_likeBySum 122 = .ok (.ireturn, 1) := by decide +kernel
theorem dX6_likeBySum_123 : decode cX6_likeBySum 123 = .ok (.iload_n 3, 1) := by decide +kernel
theorem dX6_likeBySum_124 : decode cX6_likeBySum 124 = .ok (.ireturn, 1) := by decide +kernel
theorem dX6_marksNeeded_0 : decode cX6_marksNeeded 0 = .ok (.aload_n 0, 1) := by decide +kernel
theorem dX6_marksNeeded_1 : decode cX6_marksNeeded 1 = .ok (.getfield 38, 3) := by decide +kernel
theorem dX6_marksNeeded_4 : decode cX6_marksNeeded 4 = .ok (.aload_n 1, 1) := by decide +kernel
theorem dX6_marksNeeded_5 : decode cX6_marksNeeded 5 = .ok (.iload_n 2, 1) := by decide +kernel
theorem dX6_marksNeeded_6 : decode cX6_marksNeeded 6 = .ok (.aload_n 0, 1) := by decide +kernel
theorem dX6_marksNeeded_7 : decode cX6_marksNeeded 7 = .ok (.getfield 58, 3) := by decide +kernel
theorem dX6_marksNeeded_10 : decode cX6_marksNeeded 10 = .ok (.invokevirtual 68, 3) := by decide +kernel
theorem dX6_marksNeeded_13 : decode cX6_marksNeeded 13 = .ok (.istore_n 3, 1) := by decide +kernel
theorem dX6_marksNeeded_14 : decode cX6_marksNeeded 14 = .ok (.iconst 0, 1) := by decide +kernel
theorem dX6_marksNeeded_15 : decode cX6_marksNeeded 15 = .ok (.istore 4, 2) := by decide +kernel
theorem dX6_marksNeeded_17 : decode cX6_marksNeeded 17 = .ok (.iload 4, 2) := by decide +kernel
theorem dX6_marksNeeded_19 : decode cX6_marksNeeded 19 = .ok (.bipush 12, 2) := by decide +kernel
theorem dX6_marksNeeded_21 : decode cX6_marksNeeded 21 = .ok (.if_icmp .gt 32, 3) := by decide +kernel
theorem dX6_marksNeeded_24 : decode cX6_marksNeeded 24 = .ok (.aload_n 0, 1) := by decide +kernel
theorem dX6_marksNeeded_25 : decode cX6_marksNeeded 25 = .ok (.aload_n 1, 1) := by decide +kernel
theorem dX6_marksNeeded_26 : decode cX6_marksNeeded 26 = .ok (.iload_n 2, 1) := by decide +kernel
theorem dX6_marksNeeded_27 : decode cX6_marksNeeded 27 = .ok (.iload 4, 2) := by decide +kernel
theorem dX6_marksNeeded_29 : decode cX6_marksNeeded 29 = .ok (.iload_n 3, 1) := by decide +kernel
theorem dX6_marksNeeded_30 : decode cX6_marksNeeded 30 = .ok (.iadd, 1) := by decide +kernel
theorem dX6_marksNeeded_31 : decode cX6_marksNeeded 31 = .ok (.invokevirtual 74, 3) := by decide +kernel
theorem dX6_marksNeeded_34 : decode cX6_marksNeeded 34 = .ok (.aload_n 0, 1) := by decide +kernel
theorem dX6_marksNeeded_35 : decode cX6_marksNeeded 35 = .ok (.getfield 38, 3) := by decide +kernel
theorem dX6_marksNeeded_38 : decode cX6_marksNeeded 38 = .ok (.getfield 98, 3) := by decide +kernel
theorem dX6_marksNeeded_41 : decode cX6_marksNeeded 41 = .ok (.if_icmp .lt 6, 3) := by decide +kernel
theorem dX6_marksNeeded_44 : decode cX6_marksNeeded 44 = .ok (.iload 4, 2) := by decide +kernel
theorem dX6_marksNeeded_46 : decode cX6_marksNeeded 46 = .ok (.ireturn, 1) := by decide +kernel
theorem dX6_marksNeeded_47 : decode cX6_marksNeeded 47 = .ok (.iinc 4 1, 3) := by decide +kernel
theorem dX6_marksNeeded_50 : decode cX6_marksNeeded 50 = .ok (.goto (-33), 3) := by decide +kernel
theorem dX6_marksNeeded_53 : decode cX6_marksNeeded 53 = .ok (.bipush 13, 2) := by decide +kernel
theorem dX6_marksNeeded_55 : decode cX6_marksNeeded 55 = .ok (.ireturn, 1) := by decide +kernel
theorem dX6_letsBy_0 : decode cX6_letsBy 0 = .ok (.aload_n 0, 1) := by decide +kernel
theorem dX6_letsBy_1 : decode cX6_letsBy 1 = .ok (.getfield 11, 3) := by decide +kernel
theorem dX6_letsBy_4 : decode cX6_letsBy 4 = .ok (.iload_n 2, 1) := by decide +kernel
theorem dX6_letsBy_5 : decode cX6_letsBy 5 = .ok (.aaload, 1) := by decide +kernel
theorem dX6_letsBy_6 : decode cX6_letsBy 6 = .ok (.aload_n 1, 1) := by decide +kernel
theorem dX6_letsBy_7 : decode cX6_letsBy 7 = .ok (.getfield 61, 3) := by decide +kernel
theorem dX6_letsBy_10 : decode cX6_letsBy 10 = .ok (.aload_n 0, 1) := by decide +kernel
theorem dX6_letsBy_11 : decode cX6_letsBy 11 = .ok (.aload_n 1, 1) := by decide +kernel
theorem dX6_letsBy_12 : decode cX6_letsBy 12 = .ok (.iload_n 2, 1) := by decide +kernel
theorem dX6_letsBy_13 : decode cX6_letsBy 13 = .ok (.invokevirtual 101, 3) := by decide +kernel
theorem dX6_letsBy_16 : decode cX6_letsBy 16 = .ok (.invokevirtual 105, 3) := by decide +kernel
theorem dX6_letsBy_19 : decode cX6_letsBy 19 = .ok (.ireturn, 1) := by decide +kernel
theorem dX6_whoIsLet_0 : decode cX6_whoIsLet 0 = .ok (.iconst 0, 1) := by decide +kernel
theorem dX6_whoIsLet_1 : decode cX6_whoIsLet 1 = .ok (.istore_n 1, 1) := by decide +kernel
theorem dX6_whoIsLet_2 : decode cX6_whoIsLet 2 = .ok (.iconst 0, 1) := by decide +kernel
theorem dX6_whoIsLet_3 : decode cX6_whoIsLet 3 = .ok (.istore_n 2, 1) := by decide +kernel
theorem dX6_whoIsLet_4 : decode cX6_whoIsLet 4 = .ok (.iload_n 2, 1) := by decide +kernel
theorem dX6_whoIsLet_5 : decode cX6_whoIsLet 5 = .ok (.aload_n 0, 1) := by decide +kernel
theorem dX6_whoIsLet_6 : decode cX6_whoIsLet 6 = .ok (.getfield 54, 3) := by decide +kernel
theorem dX6_whoIsLet_9 : decode cX6_whoIsLet 9 = .ok (.if_icmp .ge 37, 3) := by decide +kernel
theorem dX6_whoIsLet_12 : decode cX6_whoIsLet 12 = .ok (.aload_n 0, 1) := by decide +kernel
theorem dX6_whoIsLet_13 : decode cX6_whoIsLet 13 = .ok (.aload_n 0, 1) := by decide +kernel
theorem dX6_whoIsLet_14 : decode cX6_whoIsLet 14 = .ok (.getfield 19, 3) := by decide +kernel
theorem dX6_whoIsLet_17 : decode cX6_whoIsLet 17 = .ok (.iload_n 2, 1) := by decide +kernel
theorem dX6_whoIsLet_18 : decode cX6_whoIsLet 18 = .ok (.aaload, 1) := by decide +kernel
theorem dX6_whoIsLet_19 : decode cX6_whoIsLet 19 = .ok (.aload_n 0, 1) := by decide +kernel
theorem dX6_whoIsLet_20 : decode cX6_whoIsLet 20 = .ok (.getfield 19, 3) := by decide +kernel
theorem dX6_whoIsLet_23 : decode cX6_whoIsLet 23 = .ok (.iload_n 2, 1) := by decide +kernel
theorem dX6_whoIsLet_24 : decode cX6_whoIsLet 24 = .ok (.aaload, 1) := by decide +kernel
theorem dX6_whoIsLet_25 : decode cX6_whoIsLet 25 = .ok (.getfield 83, 3) := by decide +kernel
theorem dX6_whoIsLet_28 : decode cX6_whoIsLet 28 = .ok (.invokevirtual 109, 3) := by decide +kernel
theorem dX6_whoIsLet_31 : decode cX6_whoIsLet 31 = .ok (.ifCond .eq 9, 3) := by decide +kernel
theorem dX6_whoIsLet_34 : decode cX6_whoIsLet 34 = .ok (.iload_n 1, 1) := by decide +kernel
theorem dX6_whoIsLet_35 : decode cX6_whoIsLet 35 = .ok (.iconst 1, 1) := by decide +kernel
theorem dX6_whoIsLet_36 : decode cX6_whoIsLet 36 = .ok (.iload_n 2, 1) := by decide +kernel
theorem dX6_whoIsLet_37 : decode cX6_whoIsLet 37 = .ok (.ishl, 1) := by decide +kernel
theorem dX6_whoIsLet_38 : decode cX6_whoIsLet 38 = .ok (.ior, 1) := by decide +kernel
theorem dX6_whoIsLet_39 : decode cX6_whoIsLet 39 = .ok (.istore_n 1, 1) := by decide +kernel
theorem dX6_whoIsLet_40 : decode cX6_whoIsLet 40 = .ok (.iinc 2 1, 3) := by decide +kernel
theorem dX6_whoIsLet_43 : decode cX6_whoIsLet 43 = .ok (.goto (-39), 3) := by decide +kernel
theorem dX6_whoIsLet_46 : decode cX6_whoIsLet 46 = .ok (.iload_n 1, 1) := by decide +kernel
theorem dX6_whoIsLet_47 : decode cX6_whoIsLet 47 = .ok (.ireturn, 1) := by decide +kernel
theorem dX6_passedTogether_0 : decode cX6_passedTogether 0 = .ok (.iconst 0, 1) := by decide +kernel
theorem dX6_passedTogether_1 : decode cX6_passedTogether 1 = .ok (.istore_n 1, 1) := by decide +kernel
theorem dX6_passedTogether_2 : decode cX6_passedTogether 2 = .ok (.iconst 0, 1) := by decide +kernel
theorem dX6_passedTogether_3 : decode cX6_passedTogether 3 = .ok (.istore_n 2, 1) := by decide +kernel
theorem dX6_passedTogether_4 : decode cX6_passedTogether 4 = .ok (.iload_n 2, 1) := by decide +kernel
theorem dX6_passedTogether_5 : decode cX6_passedTogether 5 = .ok (.aload_n 0, 1) := by decide +kernel
theorem dX6_passedTogether_6 : decode cX6_passedTogether 6 = .ok (.getfield 54, 3) := by decide +kernel
theorem dX6_passedTogether_9 : decode cX6_passedTogether 9 = .ok (.if_icmp .ge 21, 3) := by decide +kernel
theorem dX6_passedTogether_12 : decode cX6_passedTogether 12 = .ok (.iload_n 1, 1) := by decide +kernel
theorem dX6_passedTogether_13 : decode cX6_passedTogether 13 = .ok (.aload_n 0, 1) := by decide +kernel
theorem dX6_passedTogether_14 : decode cX6_passedTogether 14 = .ok (.getfield 19, 3) := by decide +kernel
theorem dX6_passedTogether_17 : decode cX6_passedTogether 17 = .ok (.iload_n 2, 1) := by decide +kernel
theorem dX6_passedTogether_18 : decode cX6_passedTogether 18 = .ok (.aaload, 1) := by decide +kernel
theorem dX6_passedTogether_19 : decode cX6_passedTogether 19 = .ok (.getfield 113, 3) := by decide +kernel
theorem dX6_passedTogether_22 : decode cX6_passedTogether 22 = .ok (.iadd, 1) := by decide +kernel
theorem dX6_passedTogether_23 : decode cX6_passedTogether 23 = .ok (.istore_n 1, 1) := by decide +kernel
theorem dX6_passedTogether_24 : decode cX6_passedTogether 24 = .ok (.iinc 2 1, 3) := by decide +kernel
theorem dX6_passedTogether_27 : decode cX6_passedTogether 27 = .ok (.goto (-23), 3) := by decide +kernel
theorem dX6_passedTogether_30 : decode cX6_passedTogether 30 = .ok (.iload_n 1, 1) := by decide +kernel
theorem dX6_passedTogether_31 : decode cX6_passedTogether 31 = .ok (.ireturn, 1) := by decide +kernel
theorem dX6_goDays_0 : decode cX6_goDays 0 = .ok (.iconst 0, 1) := by decide +kernel
theorem dX6_goDays_1 : decode cX6_goDays 1 = .ok (.istore_n 2, 1) := by decide +kernel
theorem dX6_goDays_2 : decode cX6_goDays 2 = .ok (.iload_n 2, 1) := by decide +kernel
theorem dX6_goDays_3 : decode cX6_goDays 3 = .ok (.iload_n 1, 1) := by decide +kernel
theorem dX6_goDays_4 : decode cX6_goDays 4 = .ok (.if_icmp .ge 45, 3) := by decide +kernel
theorem dX6_goDays_7 : decode cX6_goDays 7 = .ok (.iconst 0, 1) := by decide +kernel
theorem dX6_goDays_8 : decode cX6_goDays 8 = .ok (.istore_n 3, 1) := by decide +kernel
theorem dX6_goDays_9 : decode cX6_goDays 9 = .ok (.iload_n 3, 1) := by decide +kernel
theorem dX6_goDays_10 : decode cX6_goDays 10 = .ok (.aload_n 0, 1) := by decide +kernel
theorem dX6_goDays_11 : decode cX6_goDays 11 = .ok (.getfield 54, 3) := by decide +kernel
theorem dX6_goDays_14 : decode cX6_goDays 14 = .ok (.if_icmp .ge 19, 3) := by decide +kernel
theorem dX6_goDays_17 : decode cX6_goDays 17 = .ok (.aload_n 0, 1) := by decide +kernel
theorem dX6_goDays_18 : decode cX6_goDays 18 = .ok (.aload_n 0, 1) := by decide +kernel
theorem dX6_goDays_19 : decode cX6_goDays 19 = .ok (.getfield 19, 3) := by decide +kernel
theorem dX6_goDays_22 : decode cX6_goDays 22 = .ok (.iload_n 3, 1) := by decide +kernel
theorem dX6_goDays_23 : decode cX6_goDays 23 = .ok (.aaload, 1) := by decide +kernel
theorem dX6_goDays_24 : decode cX6_goDays 24 = .ok (.invokevirtual 116, 3) := by decide +kernel
theorem dX6_goDays_27 : decode cX6_goDays 27 = .ok (.iinc 3 1, 3) := by decide +kernel
theorem dX6_goDays_30 : decode cX6_goDays 30 = .ok (.goto (-21), 3) := by decide +kernel
theorem dX6_goDays_33 : decode cX6_goDays 33 = .ok (.aload_n 0, 1) := by decide +kernel
theorem dX6_goDays_34 : decode cX6_goDays 34 = .ok (.dup, 1) := by decide +kernel
theorem dX6_goDays_35 : decode cX6_goDays 35 = .ok (.getfield 58, 3) := by decide +kernel
theorem dX6_goDays_38 : decode cX6_goDays 38 = .ok (.iconst 1, 1) := by decide +kernel
theorem dX6_goDays_39 : decode cX6_goDays 39 = .ok (.iadd, 1) := by decide +kernel
theorem dX6_goDays_40 : decode cX6_goDays 40 = .ok (.putfield 58, 3) := by decide +kernel
theorem dX6_goDays_43 : decode cX6_goDays 43 = .ok (.iinc 2 1, 3) := by decide +kernel
theorem dX6_goDays_46 : decode cX6_goDays 46 = .ok (.goto (-44), 3) := by decide +kernel
theorem dX6_goDays_49 : decode cX6_goDays 49 = .ok (.return_, 1) := by decide +kernel
theorem dX6_spendDay_0 : decode cX6_spendDay 0 = .ok (.aload_n 0, 1) := by decide +kernel
theorem dX6_spendDay_1 : decode cX6_spendDay 1 = .ok (.aload_n 1, 1) := by decide +kernel
theorem dX6_spendDay_2 : decode cX6_spendDay 2 = .ok (.aload_n 1, 1) := by decide +kernel
theorem dX6_spendDay_3 : decode cX6_spendDay 3 = .ok (.getfield 83, 3) := by decide +kernel
theorem dX6_spendDay_6 : decode cX6_spendDay 6 = .ok (.invokevirtual 109, 3) := by decide +kernel
theorem dX6_spendDay_9 : decode cX6_spendDay 9 = .ok (.ifCond .eq 16, 3) := by decide +kernel
theorem dX6_spendDay_12 : decode cX6_spendDay 12 = .ok (.aload_n 1, 1) := by decide +kernel
theorem dX6_spendDay_13 : decode cX6_spendDay 13 = .ok (.dup, 1) := by decide +kernel
theorem dX6_spendDay_14 : decode cX6_spendDay 14 = .ok (.getfield 113, 3) := by decide +kernel
theorem dX6_spendDay_17 : decode cX6_spendDay 17 = .ok (.iconst 1, 1) := by decide +kernel
theorem dX6_spendDay_18 : decode cX6_spendDay 18 = .ok (.iadd, 1) := by decide +kernel
theorem dX6_spendDay_19 : decode cX6_spendDay 19 = .ok (.putfield 113, 3) := by decide +kernel
theorem dX6_spendDay_22 : decode cX6_spendDay 22 = .ok (.goto 22, 3) := by decide +kernel
theorem dX6_spendDay_25 : decode cX6_spendDay 25 = .ok (.aload_n 1, 1) := by decide +kernel
theorem dX6_spendDay_26 : decode cX6_spendDay 26 = .ok (.getfield 91, 3) := by decide +kernel
theorem dX6_spendDay_29 : decode cX6_spendDay 29 = .ok (.bipush 9, 2) := by decide +kernel
theorem dX6_spendDay_31 : decode cX6_spendDay 31 = .ok (.if_icmp .ge 13, 3) := by decide +kernel
theorem dX6_spendDay_34 : decode cX6_spendDay 34 = .ok (.aload_n 1, 1) := by decide +kernel
theorem dX6_spendDay_35 : decode cX6_spendDay 35 = .ok (.dup, 1) := by decide +kernel
theorem dX6_spendDay_36 : decode cX6_spendDay 36 = .ok (.getfield 91, 3) := by decide +kernel
theorem dX6_spendDay_39 : decode cX6_spendDay 39 = .ok (.iconst 1, 1) := by decide +kernel
theorem dX6_spendDay_40 : decode cX6_spendDay 40 = .ok (.iadd, 1) := by decide +kernel
theorem dX6_spendDay_41 : decode cX6_spendDay 41 = .ok (.putfield 91, 3) := by decide +kernel
theorem dX6_spendDay_44 : decode cX6_spendDay 44 = .ok (.aload_n 0, 1) := by decide +kernel
theorem dX6_spendDay_45 : decode cX6_spendDay 45 = .ok (.getfield 38, 3) := by decide +kernel
theorem dX6_spendDay_48 : decode cX6_spendDay 48 = .ok (.getfield 119, 3) := by decide +kernel
theorem dX6_spendDay_51 : decode cX6_spendDay 51 = .ok (.ifCond .le 41, 3) := by decide +kernel
theorem dX6_spendDay_54 : decode cX6_spendDay 54 = .ok (.aload_n 0, 1) := by decide +kernel
theorem dX6_spendDay_55 : decode cX6_spendDay 55 = .ok (.getfield 58, 3) := by decide +kernel
theorem dX6_spendDay_58 : decode cX6_spendDay 58 = .ok (.aload_n 0, 1) := by decide +kernel
theorem dX6_spendDay_59 : decode cX6_spendDay 59 = .ok (.getfield 38, 3) := by decide +kernel
theorem dX6_spendDay_62 : decode cX6_spendDay 62 = .ok (.getfield 119, 3) := by decide +kernel
theorem dX6_spendDay_65 : decode cX6_spendDay 65 = .ok (.irem, 1) := by decide +kernel
theorem dX6_spendDay_66 : decode cX6_spendDay 66 = .ok (.ifCond .ne 26, 3) := by decide +kernel
theorem dX6_spendDay_69 : decode cX6_spendDay 69 = .ok (.aload_n 1, 1) := by decide +kernel
theorem dX6_spendDay_70 : decode cX6_spendDay 70 = .ok (.dup, 1) := by decide +kernel
theorem dX6_spendDay_71 : decode cX6_spendDay 71 = .ok (.getfield 61, 3) := by decide +kernel
theorem dX6_spendDay_74 : decode cX6_spendDay 74 = .ok (.iconst 1, 1) := by decide +kernel
theorem dX6_spendDay_75 : decode cX6_spendDay 75 = .ok (.aload_n 1, 1) := by decide +kernel
theorem dX6_spendDay_76 : decode cX6_spendDay 76 = .ok (.getfield 122, 3) := by decide +kernel
theorem dX6_spendDay_79 : decode cX6_spendDay 79 = .ok (.aload_n 0, 1) := by decide +kernel
theorem dX6_spendDay_80 : decode cX6_spendDay 80 = .ok (.getfield 58, 3) := by decide +kernel
theorem dX6_spendDay_83 : decode cX6_spendDay 83 = .ok (.iadd, 1) := by decide +kernel
theorem dX6_spendDay_84 : decode cX6_spendDay 84 = .ok (.bipush 12, 2) := by decide +kernel
theorem dX6_spendDay_86 : decode cX6_spendDay 86 = .ok (.irem, 1) := by decide +kernel
theorem dX6_spendDay_87 : decode cX6_spendDay 87 = .ok (.ishl, 1) := by decide +kernel
theorem dX6_spendDay_88 : decode cX6_spendDay 88 = .ok (.ixor, 1) := by decide +kernel
theorem dX6_spendDay_89 : decode cX6_spendDay 89 = .ok (.putfield 61, 3) := by decide +kernel
theorem dX6_spendDay_92 : decode cX6_spendDay 92 = .ok (.return_, 1) := by decide +kernel
theorem dX6_goByPlan_0 : decode cX6_goByPlan 0 = .ok (.iconst 0, 1) := by decide +kernel
theorem dX6_goByPlan_1 : decode cX6_goByPlan 1 = .ok (.istore_n 1, 1) := by decide +kernel
theorem dX6_goByPlan_2 : decode cX6_goByPlan 2 = .ok (.iload_n 1, 1) := by decide +kernel
theorem dX6_goByPlan_3 : decode cX6_goByPlan 3 = .ok (.aload_n 0, 1) := by decide +kernel
theorem dX6_goByPlan_4 : decode cX6_goByPlan 4 = .ok (.getfield 32, 3) := by decide +kernel
theorem dX6_goByPlan_7 : decode cX6_goByPlan 7 = .ok (.getfield 125, 3) := by decide +kernel
theorem dX6_goByPlan_10 : decode cX6_goByPlan 10 = .ok (.if_icmp .ge 115, 3) := by decide +kernel
theorem dX6_goByPlan_13 : decode cX6_goByPlan 13 = .ok (.aload_n 0, 1) := by decide +kernel
theorem dX6_goByPlan_14 : decode cX6_goByPlan 14 = .ok (.getfield 32, 3) := by decide +kernel
theorem dX6_goByPlan_17 : decode cX6_goByPlan 17 = .ok (.getfield 126, 3) := by decide +kernel
theorem dX6_goByPlan_20 : decode cX6_goByPlan 20 = .ok (.iload_n 1, 1) := by decide +kernel
theorem dX6_goByPlan_21 : decode cX6_goByPlan 21 = .ok (.iaload, 1) := by decide +kernel
theorem dX6_goByPlan_22 : decode cX6_goByPlan 22 = .ok (.istore_n 2, 1) := by decide +kernel
theorem dX6_goByPlan_23 : decode cX6_goByPlan 23 = .ok (.aload_n 0, 1) := by decide +kernel
theorem dX6_goByPlan_24 : decode cX6_goByPlan 24 = .ok (.getfield 32, 3) := by decide +kernel
theorem dX6_goByPlan_27 : decode cX6_goByPlan 27 = .ok (.getfield 129, 3) := by decide +kernel
theorem dX6_goByPlan_30 : decode cX6_goByPlan 30 = .ok (.iload_n 1, 1) := by decide +kernel
theorem dX6_goByPlan_31 : decode cX6_goByPlan 31 = .ok (.iaload, 1) := by decide +kernel
theorem dX6_goByPlan_32 : decode cX6_goByPlan 32 = .ok (.tableswitch 77 0 2 #[28, 36, 64], 28) := by decide +kernel
theorem dX6_goByPlan_60 : decode cX6_goByPlan 60 = .ok (.aload_n 0, 1) := by decide +kernel
theorem dX6_goByPlan_61 : decode cX6_goByPlan 61 = .ok (.iconst 1, 1) := by decide +kernel
theorem dX6_goByPlan_62 : decode cX6_goByPlan 62 = .ok (.invokevirtual 132, 3) := by decide +kernel
theorem dX6_goByPlan_65 : decode cX6_goByPlan 65 = .ok (.goto 54, 3) := by decide +kernel
theorem dX6_goByPlan_68 : decode cX6_goByPlan 68 = .ok (.aload_n 0, 1) := by decide +kernel
theorem dX6_goByPlan_69 : decode cX6_goByPlan 69 = .ok (.getfield 11, 3) := by decide +kernel
theorem dX6_goByPlan_72 : decode cX6_goByPlan 72 = .ok (.iload_n 2, 1) := by decide +kernel
theorem dX6_goByPlan_73 : decode cX6_goByPlan 73 = .ok (.bipush 10, 2) := by decide +kernel
theorem dX6_goByPlan_75 : decode cX6_goByPlan 75 = .ok (.idiv, 1) := by decide +kernel
theorem dX6_goByPlan_76 : decode cX6_goByPlan 76 = .ok (.aaload, 1) := by decide +kernel
theorem dX6_goByPlan_77 : decode cX6_goByPlan 77 = .ok (.aload_n 0, 1) := by decide +kernel
theorem dX6_goByPlan_78 : decode cX6_goByPlan 78 = .ok (.getfield 19, 3) := by decide +kernel
theorem dX6_goByPlan_81 : decode cX6_goByPlan 81 = .ok (.iload_n 2, 1) := by decide +kernel
theorem dX6_goByPlan_82 : decode cX6_goByPlan 82 = .ok (.bipush 10, 2) := by decide +kernel
theorem dX6_goByPlan_84 : decode cX6_goByPlan 84 = .ok (.irem, 1) := by decide +kernel
theorem dX6_goByPlan_85 : decode cX6_goByPlan 85 = .ok (.aaload, 1) := by decide +kernel
theorem dX6_goByPlan_86 : decode cX6_goByPlan 86 = .ok (.getfield 61, 3) := by decide +kernel
theorem dX6_goByPlan_89 : decode cX6_goByPlan 89 = .ok (.invokevirtual 135, 3) := by decide +kernel
theorem dX6_goByPlan_92 : decode cX6_goByPlan 92 = .ok (.pop, 1) := by decide +kernel
theorem dX6_goByPlan_93 : decode cX6_goByPlan 93 = .ok (.goto 26, 3) := by decide +kernel
theorem dX6_goByPlan_96 : decode cX6_goByPlan 96 = .ok (.aload_n 0, 1) := by decide +kernel
theorem dX6_goByPlan_97 : decode cX6_goByPlan 97 = .ok (.getfield 11, 3) := by decide +kernel
theorem dX6_goByPlan_100 : decode cX6_goByPlan 100 = .ok (.iload_n 2, 1) := by decide +kernel
theorem dX6_goByPlan_101 : decode cX6_goByPlan 101 = .ok (.aaload, 1) := by decide +kernel
theorem dX6_goByPlan_102 : decode cX6_goByPlan 102 = .ok (.iconst 0, 1) := by decide +kernel
theorem dX6_goByPlan_103 : decode cX6_goByPlan 103 = .ok (.putfield 139, 3) := by decide +kernel
theorem dX6_goByPlan_106 : decode cX6_goByPlan 106 = .ok (.goto 13, 3) := by decide +kernel
theorem dX6_goByPlan_109 : decode cX6_goByPlan 109 = .ok (.aload_n 0, 1) := by decide +kernel
theorem dX6_goByPlan_110 : decode cX6_goByPlan 110 = .ok (.getfield 19, 3) := by decide +kernel
theorem dX6_goByPlan_113 : decode cX6_goByPlan 113 = .ok (.iload_n 2, 1) := by decide +kernel
theorem dX6_goByPlan_114 : decode cX6_goByPlan 114 = .ok (.aaload, 1) := by decide +kernel
theorem dX6_goByPlan_115 : decode cX6_goByPlan 115 = .ok (.iconst 0, 1) := by decide +kernel
theorem dX6_goByPlan_116 : decode cX6_goByPlan 116 = .ok (.putfield 91, 3) := by decide +kernel
theorem dX6_goByPlan_119 : decode cX6_goByPlan 119 = .ok (.iinc 1 1, 3) := by decide +kernel
theorem dX6_goByPlan_122 : decode cX6_goByPlan 122 = .ok (.goto (-120), 3) := by decide +kernel
theorem dX6_goByPlan_125 : decode cX6_goByPlan 125 = .ok (.return_, 1) := by decide +kernel
theorem dX7_init_0 : decode cX7_init 0 = .ok (.aload_n 0, 1) := by decide +kernel
theorem dX7_init_1 : decode cX7_init 1 = .ok (.invokespecial 3, 3) := by decide +kernel
theorem dX7_init_4 : decode cX7_init 4 = .ok (.aload_n 0, 1) := by decide +kernel
theorem dX7_init_5 : decode cX7_init 5 = .ok (.new 9, 3) := by decide +kernel
theorem dX7_init_8 : decode cX7_init 8 = .ok (.dup, 1) := by decide +kernel
theorem dX7_init_9 : decode cX7_init 9 = .ok (.invokespecial 11, 3) := by decide +kernel
theorem dX7_init_12 : decode cX7_init 12 = .ok (.putfield 12, 3) := by decide +kernel
theorem dX7_init_15 : decode cX7_init 15 = .ok (.aload_n 0, 1) := by decide +kernel
theorem dX7_init_16 : decode cX7_init 16 = .ok (.bipush 6, 2) := by decide +kernel
theorem dX7_init_18 : decode cX7_init 18 = .ok (.anewarray 18, 3) := by decide +kernel
theorem dX7_init_21 : decode cX7_init 21 = .ok (.putfield 20, 3) := by decide +kernel
theorem dX7_init_24 : decode cX7_init 24 = .ok (.aload_n 0, 1) := by decide +kernel
theorem dX7_init_25 : decode cX7_init 25 = .ok (.bipush 20, 2) := by decide +kernel
theorem dX7_init_27 : decode cX7_init 27 = .ok (.newarray .int, 2) := by decide +kernel
theorem dX7_init_29 : decode cX7_init 29 = .ok (.putfield 24, 3) := by decide +kernel
theorem dX7_init_32 : decode cX7_init 32 = .ok (.aload_n 0, 1) := by decide +kernel
theorem dX7_init_33 : decode cX7_init 33 = .ok (.bipush 6, 2) := by decide +kernel
theorem dX7_init_35 : decode cX7_init 35 = .ok (.anewarray 28, 3) := by decide +kernel
theorem dX7_init_38 : decode cX7_init 38 = .ok (.putfield 30, 3) := by decide +kernel
theorem dX7_init_41 : decode cX7_init 41 = .ok (.aload_n 0, 1) := by decide +kernel
theorem dX7_init_42 : decode cX7_init 42 = .ok (.new 34, 3) := by decide +kernel
theorem dX7_init_45 : decode cX7_init 45 = .ok (.dup, 1) := by decide +kernel
theorem dX7_init_46 : decode cX7_init 46 = .ok (.invokespecial 36, 3) := by decide +kernel
theorem dX7_init_49 : decode cX7_init 49 = .ok (.putfield 37, 3) := by decide +kernel
theorem dX7_init_52 : decode cX7_init 52 = .ok (.aload_n 0, 1) := by decide +kernel
theorem dX7_init_53 : decode cX7_init 53 = .ok (.new 41, 3) := by decide +kernel
theorem dX7_init_56 : decode cX7_init 56 = .ok (.dup, 1) := by decide +kernel
theorem dX7_init_57 : decode cX7_init 57 = .ok (.iconst 0, 1) := by decide +kernel
theorem dX7_init_58 : decode cX7_init 58 = .ok (.invokespecial 43, 3) := by decide +kernel
theorem dX7_init_61 : decode cX7_init 61 = .ok (.putfield 46, 3) := by decide +kernel
theorem dX7_init_64 : decode cX7_init 64 = .ok (.aload_n 0, 1) := by decide +kernel
theorem dX7_init_65 : decode cX7_init 65 = .ok (.bipush 6, 2) := by decide +kernel
theorem dX7_init_67 : decode cX7_init 67 = .ok (.newarray .int, 2) := by decide +kernel
theorem dX7_init_69 : decode cX7_init 69 = .ok (.putfield 50, 3) := by decide +kernel
theorem dX7_init_72 : decode cX7_init 72 = .ok (.aload_n 0, 1) := by decide +kernel
theorem dX7_init_73 : decode cX7_init 73 = .ok (.iconst 4, 1) := by decide +kernel
theorem dX7_init_74 : decode cX7_init 74 = .ok (.newarray .int, 2) := by decide +kernel
theorem dX7_init_76 : decode cX7_init 76 = .ok (.putfield 53, 3) := by decide +kernel
theorem dX7_init_79 : decode cX7_init 79 = .ok (.new 18, 3) := by decide +kernel
theorem dX7_init_82 : decode cX7_init 82 = .ok (.dup, 1) := by decide +kernel
theorem dX7_init_83 : decode cX7_init 83 = .ok (.iconst 0, 1) := by decide +kernel
theorem dX7_init_84 : decode cX7_init 84 = .ok (.invokespecial 56, 3) := by decide +kernel
theorem dX7_init_87 : decode cX7_init 87 = .ok (.astore_n 1, 1) := by decide +kernel
theorem dX7_init_88 : decode cX7_init 88 = .ok (.aload_n 0, 1) := by decide +kernel
theorem dX7_init_89 : decode cX7_init 89 = .ok (.new 57, 3) := by decide +kernel
theorem dX7_init_92 : decode cX7_init 92 = .ok (.dup, 1) := by decide +kernel
theorem dX7_init_93 : decode cX7_init 93 = .ok (.aload_n 1, 1) := by decide +kernel
theorem dX7_init_94 : decode cX7_init 94 = .ok (.invokespecial 59, 3) := by decide +kernel
theorem dX7_init_97 : decode cX7_init 97 = .ok (.putfield 62, 3) := by decide +kernel
theorem dX7_init_100 : decode cX7_init 100 = .ok (.aload_n 0, 1) := by decide +kernel
theorem dX7_init_101 : decode cX7_init 101 = .ok (.new 57, 3) := by decide +kernel
theorem dX7_init_104 : decode cX7_init 104 = .ok (.dup, 1) := by decide +kernel
theorem dX7_init_105 : decode cX7_init 105 = .ok (.aload_n 1, 1) := by decide +kernel
theorem dX7_init_106 : decode cX7_init 106 = .ok (.invokespecial 59, 3) := by decide +kernel
theorem dX7_init_109 : decode cX7_init 109 = .ok (.putfield 66, 3) := by decide +kernel
theorem dX7_init_112 : decode cX7_init 112 = .ok (.aload_n 0, 1) := by decide +kernel
theorem dX7_init_113 : decode cX7_init 113 = .ok (.new 57, 3) := by decide +kernel
theorem dX7_init_116 : decode cX7_init 116 = .ok (.dup, 1) := by decide +kernel
theorem dX7_init_117 : decode cX7_init 117 = .ok (.aload_n 1, 1) := by decide +kernel
theorem dX7_init_118 : decode cX7_init 118 = .ok (.invokespecial 59, 3) := by decide +kernel
theorem dX7_init_121 : decode cX7_init 121 = .ok (.putfield 69, 3) := by decide +kernel
theorem dX7_init_124 : decode cX7_init 124 = .ok (.iconst 0, 1) := by decide +kernel
theorem dX7_init_125 : decode cX7_init 125 = .ok (.istore_n 2, 1) := by decide +kernel
theorem dX7_init_126 : decode cX7_init 126 = .ok (.iload_n 2, 1) := by decide +kernel
theorem dX7_init_127 : decode cX7_init 127 = .ok (.bipush 6, 2) := by decide +kernel
theorem dX7_init_129 : decode cX7_init 129 = .ok (.if_icmp .ge 22, 3) := by decide +kernel
theorem dX7_init_132 : decode cX7_init 132 = .ok (.aload_n 0, 1) := by decide +kernel
theorem dX7_init_133 : decode cX7_init 133 = .ok (.getfield 30, 3) := by decide +kernel
theorem dX7_init_136 : decode cX7_init 136 = .ok (.iload_n 2, 1) := by decide +kernel
theorem dX7_init_137 : decode cX7_init 137 = .ok (.new 28, 3) := by decide +kernel
theorem dX7_init_140 : decode cX7_init 140 = .ok (.dup, 1) := by decide +kernel
theorem dX7_init_141 : decode cX7_init 141 = .ok (.invokespecial 72, 3) := by decide +kernel
theorem dX7_init_144 : decode cX7_init 144 = .ok (.aastore, 1) := by decide +kernel
theorem dX7_init_145 : decode cX7_init 145 = .ok (.iinc 2 1, 3) := by decide +kernel
theorem dX7_init_148 : decode cX7_init 148 = .ok (.goto (-22), 3) := by decide +kernel
theorem dX7_init_151 : decode cX7_init 151 = .ok (.return_, 1) := by decide +kernel
theorem dX7_alike_0 : decode cX7_alike 0 = .ok (.bipush 12, 2) := by decide +kernel
theorem dX7_alike_2 : decode cX7_alike 2 = .ok (.iload_n 0, 1) := by decide +kernel
theorem dX7_alike_3 : decode cX7_alike 3 = .ok (.iload_n 1, 1) := by decide +kernel
theorem dX7_alike_4 : decode cX7_alike 4 = .ok (.ixor, 1) := by decide +kernel
theorem dX7_alike_5 : decode cX7_alike 5 = .ok (.invokestatic 73, 3) := by decide +kernel
theorem dX7_alike_8 : decode cX7_alike 8 = .ok (.isub, 1) := by decide +kernel
theorem dX7_alike_9 : decode cX7_alike 9 = .ok (.ireturn, 1) := by decide +kernel
theorem dX7_isIn_0 : decode cX7_isIn 0 = .ok (.iload_n 0, 1) := by decide +kernel
theorem dX7_isIn_1 : decode cX7_isIn 1 = .ok (.ifCond .lt 12, 3) := by decide +kernel
theorem dX7_isIn_4 : decode cX7_isIn 4 = .ok (.iload_n 0, 1) := by decide +kernel
theorem dX7_isIn_5 : decode cX7_isIn 5 = .ok (.iload_n 1, 1) := by decide +kernel
theorem dX7_isIn_6 : decode cX7_isIn 6 = .ok (.if_icmp .ge 7, 3) := by decide +kernel
theorem dX7_isIn_9 : decode cX7_isIn 9 = .ok (.iconst 1, 1) := by decide +kernel
theorem dX7_isIn_10 : decode cX7_isIn 10 = .ok (.goto 4, 3) := by decide +kernel
theorem dX7_isIn_13 : decode cX7_isIn 13 = .ok (.iconst 0, 1) := by decide +kernel
theorem dX7_isIn_14 : decode cX7_isIn 14 = .ok (.ireturn, 1) := by decide +kernel
theorem dX7_isComer_0 : decode cX7_isComer 0 = .ok (.iload_n 1, 1) := by decide +kernel
theorem dX7_isComer_1 : decode cX7_isComer 1 = .ok (.aload_n 0, 1) := by decide +kernel
theorem dX7_isComer_2 : decode cX7_isComer 2 = .ok (.getfield 62, 3) := by decide +kernel
theorem dX7_isComer_5 : decode cX7_isComer 5 = .ok (.getfield 79, 3) := by decide +kernel
theorem dX7_isComer_8 : decode cX7_isComer 8 = .ok (.invokestatic 83, 3) := by decide +kernel
theorem dX7_isComer_11 : decode cX7_isComer 11 = .ok (.ireturn, 1) := by decide +kernel
theorem dX7_lowest_0 : decode cX7_lowest 0 = .ok (.iconst 1, 1) := by decide +kernel
theorem dX7_lowest_1 : decode cX7_lowest 1 = .ok (.istore_n 3, 1) := by decide +kernel
theorem dX7_lowest_2 : decode cX7_lowest 2 = .ok (.iconst 2, 1) := by decide +kernel
theorem dX7_lowest_3 : decode cX7_lowest 3 = .ok (.istore 4, 2) := by decide +kernel
theorem dX7_lowest_5 : decode cX7_lowest 5 = .ok (.iload 4, 2) := by decide +kernel
theorem dX7_lowest_7 : decode cX7_lowest 7 = .ok (.iload_n 1, 1) := by decide +kernel
theorem dX7_lowest_8 : decode cX7_lowest 8 = .ok (.if_icmp .gt 26, 3) := by decide +kernel
theorem dX7_lowest_11 : decode cX7_lowest 11 = .ok (.iload_n 0, 1) := by decide +kernel
theorem dX7_lowest_12 : decode cX7_lowest 12 = .ok (.iload 4, 2) := by decide +kernel
theorem dX7_lowest_14 : decode cX7_lowest 14 = .ok (.irem, 1) := by decide +kernel
theorem dX7_lowest_15 : decode cX7_lowest 15 = .ok (.ifCond .ne 13, 3) := by decide +kernel
theorem dX7_lowest_18 : decode cX7_lowest 18 = .ok (.iload_n 1, 1) := by decide +kernel
theorem dX7_lowest_19 : decode cX7_lowest 19 = .ok (.iload 4, 2) := by decide +kernel
theorem dX7_lowest_21 : decode cX7_lowest 21 = .ok (.irem, 1) := by decide +kernel
theorem dX7_lowest_22 : decode cX7_lowest 22 = .ok (.ifCond .ne 6, 3) := by decide +kernel
theorem dX7_lowest_25 : decode cX7_lowest 25 = .ok (.iload 4, 2) := by decide +kernel
theorem dX7_lowest_27 : decode cX7_lowest 27 = .ok (.istore_n 3, 1) := by decide +kernel
theorem dX7_lowest_28 : decode cX7_lowest 28 = .ok (.iinc 4 1, 3) := by decide +kernel
theorem dX7_lowest_31 : decode cX7_lowest 31 = .ok (.goto (-26), 3) := by decide +kernel
theorem dX7_lowest_34 : decode cX7_lowest 34 = .ok (.iload_n 2, 1) := by decide +kernel
theorem dX7_lowest_35 : decode cX7_lowest 35 = .ok (.ifCond .ne 10, 3) := by decide +kernel
theorem dX7_lowest_38 : decode cX7_lowest 38 = .ok (.iload_n 0, 1) := by decide +kernel
theorem dX7_lowest_39 : decode cX7_lowest 39 = .ok (.iload_n 3, 1) := by decide +kernel
theorem dX7_lowest_40 : decode cX7_lowest 40 = .ok (.idiv, 1) := by decide +kernel
theorem dX7_lowest_41 : decode cX7_lowest 41 = .ok (.i2l, 1) := by decide +kernel
theorem dX7_lowest_42 : decode cX7_lowest 42 = .ok (.goto 7, 3) := by decide +kernel
theorem dX7_lowest_45 : decode cX7_lowest 45 = .ok (.iload_n 1, 1) := by decide +kernel
theorem dX7_lowest_46 : decode cX7_lowest 46 = .ok (.iload_n 3, 1) := by decide +kernel
theorem dX7_lowest_47 : decode cX7_lowest 47 = .ok (.idiv, 1) := by decide +kernel
theorem dX7_lowest_48 : decode cX7_lowest 48 = .ok (.i2l, 1) := by decide +kernel
theorem dX7_lowest_49 : decode cX7_lowest 49 = .ok (.lreturn, 1) := by decide +kernel
theorem dX7_aheadBy_0 : decode cX7_aheadBy 0 = .ok (.aload_n 0, 1) := by decide +kernel
theorem dX7_aheadBy_1 : decode cX7_aheadBy 1 = .ok (.getfield 69, 3) := by decide +kernel
theorem dX7_aheadBy_4 : decode cX7_aheadBy 4 = .ok (.aload_n 0, 1) := by decide +kernel
theorem dX7_aheadBy_5 : decode cX7_aheadBy 5 = .ok (.getfield 62, 3) := by decide +kernel
theorem dX7_aheadBy_8 : decode cX7_aheadBy 8 = .ok (.invokevirtual 87, 3) := by decide +kernel
theorem dX7_aheadBy_11 : decode cX7_aheadBy 11 = .ok (.aload_n 0, 1) := by decide +kernel
theorem dX7_aheadBy_12 : decode cX7_aheadBy 12 = .ok (.getfield 69, 3) := by decide +kernel
theorem dX7_aheadBy_15 : decode cX7_aheadBy 15 = .ok (.iload_n 1, 1) := by decide +kernel
theorem dX7_aheadBy_16 : decode cX7_aheadBy 16 = .ok (.invokevirtual 91, 3) := by decide +kernel
theorem dX7_aheadBy_19 : decode cX7_aheadBy 19 = .ok (.aload_n 0, 1) := by decide +kernel
theorem dX7_aheadBy_20 : decode cX7_aheadBy 20 = .ok (.getfield 69, 3) := by decide +kernel
theorem dX7_aheadBy_23 : decode cX7_aheadBy 23 = .ok (.areturn, 1) := by decide +kernel
theorem dX7_comer_0 : decode cX7_comer 0 = .ok (.iload_n 1, 1) := by decide +kernel
theorem dX7_comer_1 : decode cX7_comer 1 = .ok (.bipush 7, 2) := by decide +kernel
theorem dX7_comer_3 : decode cX7_comer 3 = .ok (.invokestatic 83, 3) := by decide +kernel
theorem dX7_comer_6 : decode cX7_comer 6 = .ok (.ifCond .eq 12, 3) := by decide +kernel
theorem dX7_comer_9 : decode cX7_comer 9 = .ok (.iload 4, 2) := by decide +kernel
theorem dX7_comer_11 : decode cX7_comer 11 = .ok (.iconst 4, 1) := by decide +kernel
theorem dX7_comer_12 : decode cX7_comer 12 = .ok (.invokestatic 83, 3) := by decide +kernel
theorem dX7_comer_15 : decode cX7_comer 15 = .ok (.ifCond .ne 5, 3) := by decide +kernel
theorem dX7_comer_18 : decode cX7_comer 18 = .ok (.iconst (-1), 1) := by decide +kernel
theorem dX7_comer_19 : decode cX7_comer 19 = .ok (.ireturn, 1) := by decide +kernel
theorem dX7_comer_20 : decode cX7_comer 20 = .ok (.iload_n 2, 1) := by decide +kernel
theorem dX7_comer_21 : decode cX7_comer 21 = .ok (.bipush 10, 2) := by decide +kernel
theorem dX7_comer_23 : decode cX7_comer 23 = .ok (.invokestatic 83, 3) := by decide +kernel
theorem dX7_comer_26 : decode cX7_comer 26 = .ok (.ifCond .eq 13, 3) := by decide +kernel
theorem dX7_comer_29 : decode cX7_comer 29 = .ok (.iload_n 3, 1) := by decide +kernel
theorem dX7_comer_30 : decode cX7_comer 30 = .ok (.sipush 4096, 3) := by decide +kernel
theorem dX7_comer_33 : decode cX7_comer 33 = .ok (.invokestatic 83, 3) := by decide +kernel
theorem dX7_comer_36 : decode cX7_comer 36 = .ok (.ifCond .ne 6, 3) := by decide +kernel
theorem dX7_comer_39 : decode cX7_comer 39 = .ok (.bipush (-2), 2) := by decide +kernel
theorem dX7_comer_41 : decode cX7_comer 41 = .ok (.ireturn, 1) := by decide +kernel
theorem dX7_comer_42 : decode cX7_comer 42 = .ok (.aload_n 0, 1) := by decide +kernel
theorem dX7_comer_43 : decode cX7_comer 43 = .ok (.getfield 62, 3) := by decide +kernel
theorem dX7_comer_46 : decode cX7_comer 46 = .ok (.getfield 79, 3) := by decide +kernel
theorem dX7_comer_49 : decode cX7_comer 49 = .ok (.bipush 6, 2) := by decide +kernel
theorem dX7_comer_51 : decode cX7_comer 51 = .ok (.if_icmp .lt 6, 3) := by decide +kernel
theorem dX7_comer_54 : decode cX7_comer 54 = .ok (.bipush (-4), 2) := by decide +kernel
theorem dX7_comer_56 : decode cX7_comer 56 = .ok (.ireturn, 1) := by decide +kernel
theorem dX7_comer_57 : decode cX7_comer 57 = .ok (.aload_n 0, 1) := by decide +kernel
theorem dX7_comer_58 : decode cX7_comer 58 = .ok (.getfield 62, 3) := by decide +kernel
theorem dX7_comer_61 : decode cX7_comer 61 = .ok (.getfield 94, 3) := by decide +kernel
theorem dX7_comer_64 : decode cX7_comer 64 = .ok (.aload_n 0, 1) := by decide +kernel
theorem dX7_comer_65 : decode cX7_comer 65 = .ok (.getfield 62, 3) := by decide +kernel
theorem dX7_comer_68 : decode cX7_comer 68 = .ok (.getfield 79, 3) := by decide +kernel
theorem dX7_comer_71 : decode cX7_comer 71 = .ok (.aaload, 1) := by decide +kernel
theorem dX7_comer_72 : decode cX7_comer 72 = .ok (.iload_n 1, 1) := by decide +kernel
theorem dX7_comer_73 : decode cX7_comer 73 = .ok (.iload_n 2, 1) := by decide +kernel
theorem dX7_comer_74 : decode cX7_comer 74 = .ok (.iload_n 3, 1) := by decide +kernel
theorem dX7_comer_75 : decode cX7_comer 75 = .ok (.iload 4, 2) := by decide +kernel
theorem dX7_comer_77 : decode cX7_comer 77 = .ok (.invokevirtual 98, 3) := by decide +kernel
theorem dX7_comer_80 : decode cX7_comer 80 = .ok (.aload_n 0, 1) := by decide +kernel
theorem dX7_comer_81 : decode cX7_comer 81 = .ok (.getfield 62, 3) := by decide +kernel
theorem dX7_comer_84 : decode cX7_comer 84 = .ok (.dup, 1) := by decide +kernel
theorem dX7_comer_85 : decode cX7_comer 85 = .ok (.getfield 79, 3) := by decide +kernel
theorem dX7_comer_88 : decode cX7_comer 88 = .ok (.iconst 1, 1) := by decide +kernel
theorem dX7_comer_89 : decode cX7_comer 89 = .ok (.iadd, 1) := by decide +kernel
theorem dX7_comer_90 : decode cX7_comer 90 = .ok (.putfield 79, 3) := by decide +kernel
theorem dX7_comer_93 : decode cX7_comer 93 = .ok (.aload_n 0, 1) := by decide +kernel
theorem dX7_comer_94 : decode cX7_comer 94 = .ok (.getfield 62, 3) := by decide +kernel
theorem dX7_comer_97 : decode cX7_comer 97 = .ok (.getfield 79, 3) := by decide +kernel
theorem dX7_comer_100 : decode cX7_comer 100 = .ok (.iconst 1, 1) := by decide +kernel
theorem dX7_comer_101 : decode cX7_comer 101 = .ok (.isub, 1) := by decide +kernel
theorem dX7_comer_102 : decode cX7_comer 102 = .ok (.ireturn, 1) := by decide +kernel
theorem dX7_of_0 : decode cX7_of 0 = .ok (.aload_n 0, 1) := by decide +kernel
theorem dX7_of_1 : decode cX7_of 1 = .ok (.iload_n 1, 1) := by decide +kernel
theorem dX7_of_2 : decode cX7_of 2 = .ok (.invokevirtual 102, 3) := by decide +kernel
theorem dX7_of_5 : decode cX7_of 5 = .ok (.ifCond .ne 5, 3) := by decide +kernel
theorem dX7_of_8 : decode cX7_of 8 = .ok (.iconst (-1), 1) := by decide +kernel
theorem dX7_of_9 : decode cX7_of 9 = .ok (.ireturn, 1) := by decide +kernel
theorem dX7_of_10 : decode cX7_of 10 = .ok (.aload_n 0, 1) := by decide +kernel
theorem dX7_of_11 : decode cX7_of 11 = .ok (.getfield 62, 3) := by decide +kernel
theorem dX7_of_14 : decode cX7_of 14 = .ok (.getfield 94, 3) := by decide +kernel
theorem dX7_of_17 : decode cX7_of 17 = .ok (.iload_n 1, 1) := by decide +kernel
theorem dX7_of_18 : decode cX7_of 18 = .ok (.aaload, 1) := by decide +kernel
theorem dX7_of_19 : decode cX7_of 19 = .ok (.astore_n 3, 1) := by decide +kernel
theorem dX7_of_20 : decode cX7_of 20 = .ok (.iload_n 2, 1) := by decide +kernel
theorem dX7_of_21 : decode cX7_of 21 = .ok (.bipush 10, 2) := by decide +kernel
theorem dX7_of_23 : decode cX7_of 23 = .ok (.isub, 1) := by decide +kernel
theorem dX7_of_24 : decode cX7_of 24 = .ok (.iconst 4, 1) := by decide +kernel
theorem dX7_of_25 : decode cX7_of 25 = .ok (.invokestatic 83, 3) := by decide +kernel
theorem dX7_of_28 : decode cX7_of 28 = .ok (.ifCond .eq 24, 3) := by decide +kernel
theorem dX7_of_31 : decode cX7_of 31 = .ok (.aload_n 0, 1) := by decide +kernel
theorem dX7_of_32 : decode cX7_of 32 = .ok (.getfield 62, 3) := by decide +kernel
theorem dX7_of_35 : decode cX7_of 35 = .ok (.aload_n 3, 1) := by decide +kernel
theorem dX7_of_36 : decode cX7_of 36 = .ok (.iload_n 2, 1) := by decide +kernel
theorem dX7_of_37 : decode cX7_of 37 = .ok (.bipush 10, 2) := by decide +kernel
theorem dX7_of_39 : decode cX7_of 39 = .ok (.isub, 1) := by decide +kernel
theorem dX7_of_40 : decode cX7_of 40 = .ok (.invokevirtual 106, 3) := by decide +kernel
theorem dX7_of_43 : decode cX7_of 43 = .ok (.ifCond .eq 7, 3) := by decide +kernel
theorem dX7_of_46 : decode cX7_of 46 = .ok (.iconst 1, 1) := by decide +kernel
theorem dX7_of_47 : decode cX7_of 47 = .ok (.goto 4, 3) := by decide +kernel
theorem dX7_of_50 : decode cX7_of 50 = .ok (.iconst 0, 1) := by decide +kernel
theorem dX7_of_51 : decode cX7_of 51 = .ok (.ireturn, 1) := by decide +kernel
theorem dX7_of_52 : decode cX7_of 52 = .ok (.iload_n 2, 1) := by decide +kernel
theorem dX7_of_53 : decode cX7_of 53 = .ok (.bipush 20, 2) := by decide +kernel
theorem dX7_of_55 : decode cX7_of 55 = .ok (.isub, 1) := by decide +kernel
theorem dX7_of_56 : decode cX7_of 56 = .ok (.iconst 4, 1) := by decide +kernel
theorem dX7_of_57 : decode cX7_of 57 = .ok (.invokestatic 83, 3) := by decide +kernel
theorem dX7_of_60 : decode cX7_of 60 = .ok (.ifCond .eq 13, 3) := by decide +kernel
theorem dX7_of_63 : decode cX7_of 63 = .ok (.aload_n 0, 1) := by decide +kernel
theorem dX7_of_64 : decode cX7_of 64 = .ok (.aload_n 3, 1) := by decide +kernel
theorem dX7_of_65 : decode cX7_of 65 = .ok (.iload_n 2, 1) := by decide +kernel
theorem dX7_of_66 : decode cX7_of 66 = .ok (.bipush 20, 2) := by decide +kernel
theorem dX7_of_68 : decode cX7_of 68 = .ok (.isub, 1) := by decide +kernel
theorem dX7_of_69 : decode cX7_of 69 = .ok (.invokevirtual 110, 3) := by decide +kernel
theorem dX7_of_72 : decode cX7_of 72 = .ok (.ireturn, 1) := by decide +kernel
theorem dX7_of_73 : decode cX7_of 73 = .ok (.iload_n 2, 1) := by decide +kernel
theorem dX7_of_74 : decode cX7_of 74 = .ok (.tableswitch 78 0 6 #[42, 47, 52, 57, 62, 67, 72], 42) := by decide +kernel
theorem dX7_of_116 : decode cX7_of 116 = .ok (.aload_n 3, 1) := by decide +kernel
theorem dX7_of_117 : decode cX7_of 117 = .ok (.getfield 114, 3) := by decide +kernel
theorem dX7_of_120 : decode cX7_of 120 = .ok (.ireturn, 1) := by decide +kernel
theorem dX7_of_121 : decode cX7_of 121 = .ok (.aload_n 3, 1) := by decide +kernel
theorem dX7_of_122 : decode cX7_of 122 = .ok (.getfield 117, 3) := by decide +kernel
theorem dX7_of_125 : decode cX7_of 125 = .ok (.ireturn, 1) := by decide +kernel
theorem dX7_of_126 : decode cX7_of 126 = .ok (.aload_n 3, 1) := by decide +kernel
theorem dX7_of_127 : decode cX7_of 127 = .ok (.getfield 120, 3) := by decide +kernel
theorem dX7_of_130 : decode cX7_of 130 = .ok (.ireturn, 1) := by decide +kernel
theorem dX7_of_131 : decode cX7_of 131 = .ok (.aload_n 3, 1) := by decide +kernel
theorem dX7_of_132 : decode cX7_of 132 = .ok (.getfield 123, 3) := by decide +kernel
theorem dX7_of_135 : decode cX7_of 135 = .ok (.ireturn, 1) := by decide +kernel
theorem dX7_of_136 : decode cX7_of 136 = .ok (.aload_n 3, 1) := by decide +kernel
theorem dX7_of_137 : decode cX7_of 137 = .ok (.getfield 126, 3) := by decide +kernel
theorem dX7_of_140 : decode cX7_of 140 = .ok (.ireturn, 1) := by decide +kernel
theorem dX7_of_141 : decode cX7_of 141 = .ok (.aload_n 3, 1) := by decide +kernel
theorem dX7_of_142 : decode cX7_of 142 = .ok (.getfield 129, 3) := by decide +kernel
theorem dX7_of_145 : decode cX7_of 145 = .ok (.ireturn, 1) := by decide +kernel
theorem dX7_of_146 : decode cX7_of 146 = .ok (.aload_n 0, 1) := by decide +kernel
theorem dX7_of_147 : decode cX7_of 147 = .ok (.iload_n 1, 1) := by decide +kernel
theorem dX7_of_148 : decode cX7_of 148 = .ok (.invokevirtual 132, 3) := by decide +kernel
theorem dX7_of_151 : decode cX7_of 151 = .ok (.ireturn, 1) := by decide +kernel
theorem dX7_of_152 : decode cX7_of 152 = .ok (.iconst (-1), 1) := by decide +kernel
theorem dX7_of_153 : decode cX7_of 153 = .ok (.ireturn, 1) := by decide +kernel
theorem dX7_nearest_0 : decode cX7_nearest 0 = .ok (.aload_n 0, 1) := by decide +kernel
theorem dX7_nearest_1 : decode cX7_nearest 1 = .ok (.getfield 62, 3) := by decide +kernel
theorem dX7_nearest_4 : decode cX7_nearest 4 = .ok (.getfield 135, 3) := by decide +kernel
theorem dX7_nearest_7 : decode cX7_nearest 7 = .ok (.iload_n 2, 1) := by decide +kernel
theorem dX7_nearest_8 : decode cX7_nearest 8 = .ok (.aaload, 1) := by decide +kernel
theorem dX7_nearest_9 : decode cX7_nearest 9 = .ok (.astore_n 3, 1) := by decide +kernel
theorem dX7_nearest_10 : decode cX7_nearest 10 = .ok (.bipush (-5), 2) := by decide +kernel
theorem dX7_nearest_12 : decode cX7_nearest 12 = .ok (.istore 4, 2) := by decide +kernel
theorem dX7_nearest_14 : decode cX7_nearest 14 = .ok (.iconst 0, 1) := by decide +kernel
theorem dX7_nearest_15 : decode cX7_nearest 15 = .ok (.istore 5, 2) := by decide +kernel
theorem dX7_nearest_17 : decode cX7_nearest 17 = .ok (.iconst 0, 1) := by decide +kernel
theorem dX7_nearest_18 : decode cX7_nearest 18 = .ok (.istore 6, 2) := by decide +kernel
theorem dX7_nearest_20 : decode cX7_nearest 20 = .ok (.iload 6, 2) := by decide +kernel
theorem dX7_nearest_22 : decode cX7_nearest 22 = .ok (.aload_n 3, 1) := by decide +kernel
theorem dX7_nearest_23 : decode cX7_nearest 23 = .ok (.getfield 139, 3) := by decide +kernel
theorem dX7_nearest_26 : decode cX7_nearest 26 = .ok (.if_icmp .ge 49, 3) := by decide +kernel
theorem dX7_nearest_29 : decode cX7_nearest 29 = .ok (.aload_n 0, 1) := by decide +kernel
theorem dX7_nearest_30 : decode cX7_nearest 30 = .ok (.getfield 62, 3) := by decide +kernel
theorem dX7_nearest_33 : decode cX7_nearest 33 = .ok (.aload_n 1, 1) := by decide +kernel
theorem dX7_nearest_34 : decode cX7_nearest 34 = .ok (.iload_n 2, 1) := by decide +kernel
theorem dX7_nearest_35 : decode cX7_nearest 35 = .ok (.aload_n 3, 1) := by decide +kernel
theorem dX7_nearest_36 : decode cX7_nearest 36 = .ok (.getfield 142, 3) := by decide +kernel
theorem dX7_nearest_39 : decode cX7_nearest 39 = .ok (.iload 6, 2) := by decide +kernel
theorem dX7_nearest_41 : decode cX7_nearest 41 = .ok (.iaload, 1) := by decide +kernel
theorem dX7_nearest_42 : decode cX7_nearest 42 = .ok (.invokevirtual 145, 3) := by decide +kernel
theorem dX7_nearest_45 : decode cX7_nearest 45 = .ok (.istore 7, 2) := by decide +kernel
theorem dX7_nearest_47 : decode cX7_nearest 47 = .ok (.iload 4, 2) := by decide +kernel
theorem dX7_nearest_49 : decode cX7_nearest 49 = .ok (.bipush (-5), 2) := by decide +kernel
theorem dX7_nearest_51 : decode cX7_nearest 51 = .ok (.if_icmp .eq 10, 3) := by decide +kernel
theorem dX7_nearest_54 : decode cX7_nearest 54 = .ok (.iload 7, 2) := by decide +kernel
theorem dX7_nearest_56 : decode cX7_nearest 56 = .ok (.iload 5, 2) := by decide +kernel
theorem dX7_nearest_58 : decode cX7_nearest 58 = .ok (.if_icmp .le 11, 3) := by decide +kernel
theorem dX7_nearest_61 : decode cX7_nearest 61 = .ok (.iload 6, 2) := by decide +kernel
theorem dX7_nearest_63 : decode cX7_nearest 63 = .ok (.istore 4, 2) := by decide +kernel
theorem dX7_nearest_65 : decode cX7_nearest 65 = .ok (.iload 7, 2) := by decide +kernel
theorem dX7_nearest_67 : decode cX7_nearest 67 = .ok (.istore 5, 2) := by decide +kernel
theorem dX7_nearest_69 : decode cX7_nearest 69 = .ok (.iinc 6 1, 3) := by decide +kernel
theorem dX7_nearest_72 : decode cX7_nearest 72 = .ok (.goto (-52), 3) := by decide +kernel
theorem dX7_nearest_75 : decode cX7_nearest 75 = .ok (.iload 4, 2) := by decide +kernel
theorem dX7_nearest_77 : decode cX7_nearest 77 = .ok (.ireturn, 1) := by decide +kernel
theorem dX7_daysUntilOut_0 : decode cX7_daysUntilOut 0 = .ok (.aload_n 0, 1) := by decide +kernel
theorem dX7_daysUntilOut_1 : decode cX7_daysUntilOut 1 = .ok (.getfield 69, 3) := by decide +kernel
theorem dX7_daysUntilOut_4 : decode cX7_daysUntilOut 4 = .ok (.aload_n 0, 1) := by decide +kernel
theorem dX7_daysUntilOut_5 : decode cX7_daysUntilOut 5 = .ok (.getfield 62, 3) := by decide +kernel
theorem dX7_daysUntilOut_8 : decode cX7_daysUntilOut 8 = .ok (.invokevirtual 87, 3) := by decide +kernel
theorem dX7_daysUntilOut_11 : decode cX7_daysUntilOut 11 = .ok (.aload_n 0, 1) := by decide +kernel
theorem dX7_daysUntilOut_12 : decode cX7_daysUntilOut 12 = .ok (.getfield 69, 3) := by decide +kernel
theorem dX7_daysUntilOut_15 : decode cX7_daysUntilOut 15 = .ok (.getfield 94, 3) := by decide +kernel
theorem dX7_daysUntilOut_18 : decode cX7_daysUntilOut 18 = .ok (.iload_n 1, 1) := by decide +kernel
theorem dX7_daysUntilOut_19 : decode cX7_daysUntilOut 19 = .ok (.aaload, 1) := by decide +kernel
theorem dX7_daysUntilOut_20 : decode cX7_daysUntilOut 20 = .ok (.astore_n 2, 1) := by decide +kernel
theorem dX7_daysUntilOut_21 : decode cX7_daysUntilOut 21 = .ok (.iconst 0, 1) := by decide +kernel
theorem dX7_daysUntilOut_22 : decode cX7_daysUntilOut 22 = .ok (.istore_n 3, 1) := by decide +kernel
theorem dX7_daysUntilOut_23 : decode cX7_daysUntilOut 23 = .ok (.iload_n 3, 1) := by decide +kernel
theorem dX7_daysUntilOut_24 : decode cX7_daysUntilOut 24 = .ok (.bipush 60, 2) := by decide +kernel
theorem dX7_daysUntilOut_26 : decode cX7_daysUntilOut 26 = .ok (.if_icmp .gt 47, 3) := by decide +kernel
theorem dX7_daysUntilOut_29 : decode cX7_daysUntilOut 29 = .ok (.aload_n 0, 1) := by decide +kernel
theorem dX7_daysUntilOut_30 : decode cX7_daysUntilOut 30 = .ok (.getfield 69, 3) := by decide +kernel
theorem dX7_daysUntilOut_33 : decode cX7_daysUntilOut 33 = .ok (.aload_n 2, 1) := by decide +kernel
theorem dX7_daysUntilOut_34 : decode cX7_daysUntilOut 34 = .ok (.aload_n 2, 1) := by decide +kernel
theorem dX7_daysUntilOut_35 : decode cX7_daysUntilOut 35 = .ok (.getfield 123, 3) := by decide +kernel
theorem dX7_daysUntilOut_38 : decode cX7_daysUntilOut 38 = .ok (.invokevirtual 106, 3) := by decide +kernel
theorem dX7_daysUntilOut_41 : decode cX7_daysUntilOut 41 = .ok (.ifCond .ne 5, 3) := by decide +kernel
theorem dX7_daysUntilOut_44 : decode cX7_daysUntilOut 44 = .ok (.iload_n 3, 1) := by decide +kernel
theorem dX7_daysUntilOut_45 : decode cX7_daysUntilOut 45 = .ok (.ireturn, 1) := by decide +kernel
theorem dX7_daysUntilOut_46 : decode cX7_daysUntilOut 46 = .ok (.aload_n 0, 1) := by decide +kernel
theorem dX7_daysUntilOut_47 : decode cX7_daysUntilOut 47 = .ok (.getfield 69, 3) := by decide +kernel
theorem dX7_daysUntilOut_50 : decode cX7_daysUntilOut 50 = .ok (.aload_n 2, 1) := by decide +kernel
theorem dX7_daysUntilOut_51 : decode cX7_daysUntilOut 51 = .ok (.invokevirtual 149, 3) := by decide +kernel
theorem dX7_daysUntilOut_54 : decode cX7_daysUntilOut 54 = .ok (.aload_n 0, 1) := by decide +kernel
theorem dX7_daysUntilOut_55 : decode cX7_daysUntilOut 55 = .ok (.getfield 69, 3) := by decide +kernel
theorem dX7_daysUntilOut_58 : decode cX7_daysUntilOut 58 = .ok (.dup, 1) := by decide +kernel
theorem dX7_daysUntilOut_59 : decode cX7_daysUntilOut 59 = .ok (.getfield 153, 3) := by decide +kernel
theorem dX7_daysUntilOut_62 : decode cX7_daysUntilOut 62 = .ok (.iconst 1, 1) := by decide +kernel
theorem dX7_daysUntilOut_63 : decode cX7_daysUntilOut 63 = .ok (.iadd, 1) := by decide +kernel
theorem dX7_daysUntilOut_64 : decode cX7_daysUntilOut 64 = .ok (.putfield 153, 3) := by decide +kernel
theorem dX7_daysUntilOut_67 : decode cX7_daysUntilOut 67 = .ok (.iinc 3 1, 3) := by decide +kernel
theorem dX7_daysUntilOut_70 : decode cX7_daysUntilOut 70 = .ok (.goto (-47), 3) := by decide +kernel
theorem dX7_daysUntilOut_73 : decode cX7_daysUntilOut 73 = .ok (.bipush (-5), 2) := by decide +kernel
theorem dX7_daysUntilOut_75 : decode cX7_daysUntilOut 75 = .ok (.ireturn, 1) := by decide +kernel
theorem dX7_set_0 : decode cX7_set 0 = .ok (.aload_n 0, 1) := by decide +kernel
theorem dX7_set_1 : decode cX7_set 1 = .ok (.iload_n 1, 1) := by decide +kernel
theorem dX7_set_2 : decode cX7_set 2 = .ok (.invokevirtual 102, 3) := by decide +kernel
theorem dX7_set_5 : decode cX7_set 5 = .ok (.ifCond .eq 11, 3) := by decide +kernel
theorem dX7_set_8 : decode cX7_set 8 = .ok (.iload_n 2, 1) := by decide +kernel
theorem dX7_set_9 : decode cX7_set 9 = .ok (.iconst 3, 1) := by decide +kernel
theorem dX7_set_10 : decode cX7_set 10 = .ok (.invokestatic 83, 3) := by decide +kernel
theorem dX7_set_13 : decode cX7_set 13 = .ok (.ifCond .ne 5, 3) := by decide +kernel
theorem dX7_set_16 : decode cX7_set 16 = .ok (.iconst (-1), 1) := by decide +kernel
theorem dX7_set_17 : decode cX7_set 17 = .ok (.ireturn, 1) := by decide +kernel
theorem dX7_set_18 : decode cX7_set 18 = .ok (.iload_n 3, 1) := by decide +kernel
theorem dX7_set_19 : decode cX7_set 19 = .ok (.iload_n 2, 1) := by decide +kernel
theorem dX7_set_20 : decode cX7_set 20 = .ok (.ifCond .ne 9, 3) := by decide +kernel
theorem dX7_set_23 : decode cX7_set 23 = .ok (.sipush 4096, 3) := by decide +kernel
theorem dX7_set_26 : decode cX7_set 26 = .ok (.goto 14, 3) := by decide +kernel
theorem dX7_set_29 : decode cX7_set 29 = .ok (.iload_n 2, 1) := by decide +kernel
theorem dX7_set_30 : decode cX7_set 30 = .ok (.iconst 1, 1) := by decide +kernel
theorem dX7_set_31 : decode cX7_set 31 = .ok (.if_icmp .ne 7, 3) := by decide +kernel
theorem dX7_set_34 : decode cX7_set 34 = .ok (.iconst 4, 1) := by decide +kernel
theorem dX7_set_35 : decode cX7_set 35 = .ok (.goto 5, 3) := by decide +kernel
theorem dX7_set_38 : decode cX7_set 38 = .ok (.bipush 10, 2) := by decide +kernel
theorem dX7_set_40 : decode cX7_set 40 = .ok (.invokestatic 83, 3) := by decide +kernel
theorem dX7_set_43 : decode cX7_set 43 = .ok (.ifCond .ne 6, 3) := by decide +kernel
theorem dX7_set_46 : decode cX7_set 46 = .ok (.bipush (-2), 2) := by decide +kernel
theorem dX7_set_48 : decode cX7_set 48 = .ok (.ireturn, 1) := by decide +kernel
theorem dX7_set_49 : decode cX7_set 49 = .ok (.aload_n 0, 1) := by decide +kernel
theorem dX7_set_50 : decode cX7_set 50 = .ok (.getfield 62, 3) := by decide +kernel
theorem dX7_set_53 : decode cX7_set 53 = .ok (.getfield 94, 3) := by decide +kernel
theorem dX7_set_56 : decode cX7_set 56 = .ok (.iload_n 1, 1) := by decide +kernel
theorem dX7_set_57 : decode cX7_set 57 = .ok (.aaload, 1) := by decide +kernel
theorem dX7_set_58 : decode cX7_set 58 = .ok (.astore 4, 2) := by decide +kernel
theorem dX7_set_60 : decode cX7_set 60 = .ok (.iload_n 2, 1) := by decide +kernel
theorem dX7_set_61 : decode cX7_set 61 = .ok (.ifCond .ne 19, 3) := by decide +kernel
theorem dX7_set_64 : decode cX7_set 64 = .ok (.aload 4, 2) := by decide +kernel
theorem dX7_set_66 : decode cX7_set 66 = .ok (.getfield 120, 3) := by decide +kernel
theorem dX7_set_69 : decode cX7_set 69 = .ok (.istore 5, 2) := by decide +kernel
theorem dX7_set_71 : decode cX7_set 71 = .ok (.aload 4, 2) := by decide +kernel
theorem dX7_set_73 : decode cX7_set 73 = .ok (.iload_n 3, 1) := by decide +kernel
theorem dX7_set_74 : decode cX7_set 74 = .ok (.putfield 120, 3) := by decide +kernel
theorem dX7_set_77 : decode cX7_set 77 = .ok (.goto 37, 3) := by decide +kernel
theorem dX7_set_80 : decode cX7_set 80 = .ok (.iload_n 2, 1) := by decide +kernel
theorem dX7_set_81 : decode cX7_set 81 = .ok (.iconst 1, 1) := by decide +kernel
theorem dX7_set_82 : decode cX7_set 82 = .ok (.if_icmp .ne 19, 3) := by decide +kernel
theorem dX7_set_85 : decode cX7_set 85 = .ok (.aload 4, 2) := by decide +kernel
theorem dX7_set_87 : decode cX7_set 87 = .ok (.getfield 123, 3) := by decide +kernel
theorem dX7_set_90 : decode cX7_set 90 = .ok (.istore 5, 2) := by decide +kernel
theorem dX7_set_92 : decode cX7_set 92 = .ok (.aload 4, 2) := by decide +kernel
theorem dX7_set_94 : decode cX7_set 94 = .ok (.iload_n 3, 1) := by decide +kernel
theorem dX7_set_95 : decode cX7_set 95 = .ok (.putfield 123, 3) := by decide +kernel
theorem dX7_set_98 : decode cX7_set 98 = .ok (.goto 16, 3) := by decide +kernel
theorem dX7_set_101 : decode cX7_set 101 = .ok (.aload 4, 2) := by decide +kernel
theorem dX7_set_103 : decode cX7_set 103 = .ok (.getfield 126, 3) := by decide +kernel
theorem dX7_set_106 : decode cX7_set 106 = .ok (.istore 5, 2) := by decide +kernel
theorem dX7_set_108 : decode cX7_set 108 = .ok (.aload 4, 2) := by decide +kernel
theorem dX7_set_110 : decode cX7_set 110 = .ok (.iload_n 3, 1) := by decide +kernel
theorem dX7_set_111 : decode cX7_set 111 = .ok (.putfield 126, 3) := by decide +kernel
theorem dX7_set_114 : decode cX7_set 114 = .ok (.iload 5, 2) := by decide +kernel
theorem dX7_set_116 : decode cX7_set 116 = .ok (.ireturn, 1) := by decide +kernel
theorem dX7_like_0 : decode cX7_like 0 = .ok (.aload_n 0, 1) := by decide +kernel
theorem dX7_like_1 : decode cX7_like 1 = .ok (.iload_n 1, 1) := by decide +kernel
theorem dX7_like_2 : decode cX7_like 2 = .ok (.invokevirtual 102, 3) := by decide +kernel
theorem dX7_like_5 : decode cX7_like 5 = .ok (.ifCond .eq 30, 3) := by decide +kernel
theorem dX7_like_8 : decode cX7_like 8 = .ok (.iload_n 2, 1) := by decide +kernel
theorem dX7_like_9 : decode cX7_like 9 = .ok (.iconst 4, 1) := by decide +kernel
theorem dX7_like_10 : decode cX7_like 10 = .ok (.invokestatic 83, 3) := by decide +kernel
theorem dX7_like_13 : decode cX7_like 13 = .ok (.ifCond .eq 22, 3) := by decide +kernel
theorem dX7_like_16 : decode cX7_like 16 = .ok (.iload_n 3, 1) := by decide +kernel
theorem dX7_like_17 : decode cX7_like 17 = .ok (.aload_n 0, 1) := by decide +kernel
theorem dX7_like_18 : decode cX7_like 18 = .ok (.getfield 62, 3) := by decide +kernel
theorem dX7_like_21 : decode cX7_like 21 = .ok (.getfield 135, 3) := by decide +kernel
theorem dX7_like_24 : decode cX7_like 24 = .ok (.iload_n 2, 1) := by decide +kernel
theorem dX7_like_25 : decode cX7_like 25 = .ok (.aaload, 1) := by decide +kernel
theorem dX7_like_26 : decode cX7_like 26 = .ok (.getfield 139, 3) := by decide +kernel
theorem dX7_like_29 : decode cX7_like 29 = .ok (.invokestatic 83, 3) := by decide +kernel
theorem dX7_like_32 : decode cX7_like 32 = .ok (.ifCond .ne 7, 3) := by decide +kernel
theorem dX7_like_35 : decode cX7_like 35 = .ok (.sipush (-10001), 3) := by decide +kernel
theorem dX7_like_38 : decode cX7_like 38 = .ok (.ireturn, 1) := by decide +kernel
theorem dX7_like_39 : decode cX7_like 39 = .ok (.aload_n 0, 1) := by decide +kernel
theorem dX7_like_40 : decode cX7_like 40 = .ok (.getfield 62, 3) := by decide +kernel
theorem dX7_like_43 : decode cX7_like 43 = .ok (.aload_n 0, 1) := by decide +kernel
theorem dX7_like_44 : decode cX7_like 44 = .ok (.getfield 62, 3) := by decide +kernel
theorem dX7_like_47 : decode cX7_like 47 = .ok (.getfield 94, 3) := by decide +kernel
theorem dX7_like_50 : decode cX7_like 50 = .ok (.iload_n 1, 1) := by decide +kernel
theorem dX7_like_51 : decode cX7_like 51 = .ok (.aaload, 1) := by decide +kernel
theorem dX7_like_52 : decode cX7_like 52 = .ok (.iload_n 2, 1) := by decide +kernel
theorem dX7_like_53 : decode cX7_like 53 = .ok (.aload_n 0, 1) := by decide +kernel
theorem dX7_like_54 : decode cX7_like 54 = .ok (.getfield 62, 3) := by decide +kernel
theorem dX7_like_57 : decode cX7_like 57 = .ok (.getfield 135, 3) := by decide +kernel
theorem dX7_like_60 : decode cX7_like 60 = .ok (.iload_n 2, 1) := by decide +kernel
theorem dX7_like_61 : decode cX7_like 61 = .ok (.aaload, 1) := by decide +kernel
theorem dX7_like_62 : decode cX7_like 62 = .ok (.getfield 142, 3) := by decide +kernel
theorem dX7_like_65 : decode cX7_like 65 = .ok (.iload_n 3, 1) := by decide +kernel
theorem dX7_like_66 : decode cX7_like 66 = .ok (.iaload, 1) := by decide +kernel
theorem dX7_like_67 : decode cX7_like 67 = .ok (.invokevirtual 145, 3) := by decide +kernel
theorem dX7_like_70 : decode cX7_like 70 = .ok (.ireturn, 1) := by decide +kernel
theorem dX7_teach_0 : decode cX7_teach 0 = .ok (.iload_n 1, 1) := by decide +kernel
theorem dX7_teach_1 : decode cX7_teach 1 = .ok (.iconst 4, 1) := by decide +kernel
theorem dX7_teach_2 : decode cX7_teach 2 = .ok (.invokestatic 83, 3) := by decide +kernel
theorem dX7_teach_5 : decode cX7_teach 5 = .ok (.ifCond .eq 11, 3) := by decide +kernel
theorem dX7_teach_8 : decode cX7_teach 8 = .ok (.aload_n 0, 1) := by decide +kernel
theorem dX7_teach_9 : decode cX7_teach 9 = .ok (.iload_n 2, 1) := by decide +kernel
theorem dX7_teach_10 : decode cX7_teach 10 = .ok (.invokevirtual 102, 3) := by decide +kernel
theorem dX7_teach_13 : decode cX7_teach 13 = .ok (.ifCond .ne 5, 3) := by decide +kernel
theorem dX7_teach_16 : decode cX7_teach 16 = .ok (.iconst (-1), 1) := by decide +kernel
theorem dX7_teach_17 : decode cX7_teach 17 = .ok (.ireturn, 1) := by decide +kernel
theorem dX7_teach_18 : decode cX7_teach 18 = .ok (.aload_n 0, 1) := by decide +kernel
theorem dX7_teach_19 : decode cX7_teach 19 = .ok (.getfield 62, 3) := by decide +kernel
theorem dX7_teach_22 : decode cX7_teach 22 = .ok (.getfield 135, 3) := by decide +kernel
theorem dX7_teach_25 : decode cX7_teach 25 = .ok (.iload_n 1, 1) := by decide +kernel
theorem dX7_teach_26 : decode cX7_teach 26 = .ok (.aaload, 1) := by decide +kernel
theorem dX7_teach_27 : decode cX7_teach 27 = .ok (.aload_n 0, 1) := by decide +kernel
theorem dX7_teach_28 : decode cX7_teach 28 = .ok (.getfield 62, 3) := by decide +kernel
theorem dX7_teach_31 : decode cX7_teach 31 = .ok (.getfield 94, 3) := by decide +kernel
theorem dX7_teach_34 : decode cX7_teach 34 = .ok (.iload_n 2, 1) := by decide +kernel
theorem dX7_teach_35 : decode cX7_teach 35 = .ok (.aaload, 1) := by decide +kernel
theorem dX7_teach_36 : decode cX7_teach 36 = .ok (.getfield 120, 3) := by decide +kernel
theorem dX7_teach_39 : decode cX7_teach 39 = .ok (.invokevirtual 156, 3) := by decide +kernel
theorem dX7_teach_42 : decode cX7_teach 42 = .ok (.ireturn, 1) := by decide +kernel
theorem dX7_forget_0 : decode cX7_forget 0 = .ok (.iload_n 1, 1) := by decide +kernel
theorem dX7_forget_1 : decode cX7_forget 1 = .ok (.iconst 4, 1) := by decide +kernel
theorem dX7_forget_2 : decode cX7_forget 2 = .ok (.invokestatic 83, 3) := by decide +kernel
theorem dX7_forget_5 : decode cX7_forget 5 = .ok (.ifCond .ne 5, 3) := by decide +kernel
theorem dX7_forget_8 : decode cX7_forget 8 = .ok (.iconst (-1), 1) := by decide +kernel
theorem dX7_forget_9 : decode cX7_forget 9 = .ok (.ireturn, 1) := by decide +kernel
theorem dX7_forget_10 : decode cX7_forget 10 = .ok (.aload_n 0, 1) := by decide +kernel
theorem dX7_forget_11 : decode cX7_forget 11 = .ok (.getfield 62, 3) := by decide +kernel
theorem dX7_forget_14 : decode cX7_forget 14 = .ok (.getfield 135, 3) := by decide +kernel
theorem dX7_forget_17 : decode cX7_forget 17 = .ok (.iload_n 1, 1) := by decide +kernel
theorem dX7_forget_18 : decode cX7_forget 18 = .ok (.aaload, 1) := by decide +kernel
theorem dX7_forget_19 : decode cX7_forget 19 = .ok (.getfield 139, 3) := by decide +kernel
theorem dX7_forget_22 : decode cX7_forget 22 = .ok (.istore_n 2, 1) := by decide +kernel
theorem dX7_forget_23 : decode cX7_forget 23 = .ok (.aload_n 0, 1) := by decide +kernel
theorem dX7_forget_24 : decode cX7_forget 24 = .ok (.getfield 62, 3) := by decide +kernel
theorem dX7_forget_27 : decode cX7_forget 27 = .ok (.getfield 135, 3) := by decide +kernel
theorem dX7_forget_30 : decode cX7_forget 30 = .ok (.iload_n 1, 1) := by decide +kernel
theorem dX7_forget_31 : decode cX7_forget 31 = .ok (.aaload, 1) := by decide +kernel
theorem dX7_forget_32 : decode cX7_forget 32 = .ok (.iconst 0, 1) := by decide +kernel
theorem dX7_forget_33 : decode cX7_forget 33 = .ok (.putfield 139, 3) := by decide +kernel
theorem dX7_forget_36 : decode cX7_forget 36 = .ok (.iload_n 2, 1) := by decide +kernel
theorem dX7_forget_37 : decode cX7_forget 37 = .ok (.ireturn, 1) := by decide +kernel
theorem dX7_row_0 : decode cX7_row 0 = .ok (.aload_n 0, 1) := by decide +kernel
theorem dX7_row_1 : decode cX7_row 1 = .ok (.iload_n 1, 1) := by decide +kernel
theorem dX7_row_2 : decode cX7_row 2 = .ok (.invokevirtual 102, 3) := by decide +kernel
theorem dX7_row_5 : decode cX7_row 5 = .ok (.ifCond .eq 11, 3) := by decide +kernel
theorem dX7_row_8 : decode cX7_row 8 = .ok (.iload_n 2, 1) := by decide +kernel
theorem dX7_row_9 : decode cX7_row 9 = .ok (.iconst 4, 1) := by decide +kernel
theorem dX7_row_10 : decode cX7_row 10 = .ok (.invokestatic 83, 3) := by decide +kernel
theorem dX7_row_13 : decode cX7_row 13 = .ok (.ifCond .ne 5, 3) := by decide +kernel
theorem dX7_row_16 : decode cX7_row 16 = .ok (.iconst (-1), 1) := by decide +kernel
theorem dX7_row_17 : decode cX7_row 17 = .ok (.ireturn, 1) := by decide +kernel
theorem dX7_row_18 : decode cX7_row 18 = .ok (.iload_n 3, 1) := by decide +kernel
theorem dX7_row_19 : decode cX7_row 19 = .ok (.bipush 10, 2) := by decide +kernel
theorem dX7_row_21 : decode cX7_row 21 = .ok (.invokestatic 83, 3) := by decide +kernel
theorem dX7_row_24 : decode cX7_row 24 = .ok (.ifCond .ne 6, 3) := by decide +kernel
theorem dX7_row_27 : decode cX7_row 27 = .ok (.bipush (-2), 2) := by decide +kernel
theorem dX7_row_29 : decode cX7_row 29 = .ok (.ireturn, 1) := by decide +kernel
theorem dX7_row_30 : decode cX7_row 30 = .ok (.aload_n 0, 1) := by decide +kernel
theorem dX7_row_31 : decode cX7_row 31 = .ok (.getfield 62, 3) := by decide +kernel
theorem dX7_row_34 : decode cX7_row 34 = .ok (.getfield 94, 3) := by decide +kernel
theorem dX7_row_37 : decode cX7_row 37 = .ok (.iload_n 1, 1) := by decide +kernel
theorem dX7_row_38 : decode cX7_row 38 = .ok (.aaload, 1) := by decide +kernel
theorem dX7_row_39 : decode cX7_row 39 = .ok (.astore 4, 2) := by decide +kernel
theorem dX7_row_41 : decode cX7_row 41 = .ok (.aload 4, 2) := by decide +kernel
theorem dX7_row_43 : decode cX7_row 43 = .ok (.getfield 114, 3) := by decide +kernel
theorem dX7_row_46 : decode cX7_row 46 = .ok (.bipush 6, 2) := by decide +kernel
theorem dX7_row_48 : decode cX7_row 48 = .ok (.if_icmp .eq 6, 3) := by decide +kernel
theorem dX7_row_51 : decode cX7_row 51 = .ok (.bipush (-3), 2) := by decide +kernel
theorem dX7_row_53 : decode cX7_row 53 = .ok (.ireturn, 1) := by decide +kernel
theorem dX7_row_54 : decode cX7_row 54 = .ok (.aload 4, 2) := by decide +kernel
theorem dX7_row_56 : decode cX7_row 56 = .ok (.getfield 159, 3) := by decide +kernel
theorem dX7_row_59 : decode cX7_row 59 = .ok (.iload_n 2, 1) := by decide +kernel
theorem dX7_row_60 : decode cX7_row 60 = .ok (.iaload, 1) := by decide +kernel
theorem dX7_row_61 : decode cX7_row 61 = .ok (.istore 5, 2) := by decide +kernel
theorem dX7_row_63 : decode cX7_row 63 = .ok (.aload 4, 2) := by decide +kernel
theorem dX7_row_65 : decode cX7_row 65 = .ok (.getfield 159, 3) := by decide +kernel
theorem dX7_row_68 : decode cX7_row 68 = .ok (.iload_n 2, 1) := by decide +kernel
theorem dX7_row_69 : decode cX7_row 69 = .ok (.iload_n 3, 1) := by decide +kernel
theorem dX7_row_70 : decode cX7_row 70 = .ok (.iastore, 1) := by decide +kernel
theorem dX7_row_71 : decode cX7_row 71 = .ok (.iload 5, 2) := by decide +kernel
theorem dX7_row_73 : decode cX7_row 73 = .ok (.ireturn, 1) := by decide +kernel
theorem dX7_feed_0 : decode cX7_feed 0 = .ok (.iload_n 1, 1) := by decide +kernel
theorem dX7_feed_1 : decode cX7_feed 1 = .ok (.sipush 128, 3) := by decide +kernel
theorem dX7_feed_4 : decode cX7_feed 4 = .ok (.invokestatic 83, 3) := by decide +kernel
theorem dX7_feed_7 : decode cX7_feed 7 = .ok (.ifCond .ne 6, 3) := by decide +kernel
theorem dX7_feed_10 : decode cX7_feed 10 = .ok (.bipush (-2), 2) := by decide +kernel
theorem dX7_feed_12 : decode cX7_feed 12 = .ok (.ireturn, 1) := by decide +kernel
theorem dX7_feed_13 : decode cX7_feed 13 = .ok (.aload_n 0, 1) := by decide +kernel
theorem dX7_feed_14 : decode cX7_feed 14 = .ok (.getfield 12, 3) := by decide +kernel
theorem dX7_feed_17 : decode cX7_feed 17 = .ok (.getfield 162, 3) := by decide +kernel
theorem dX7_feed_20 : decode cX7_feed 20 = .ok (.bipush 100, 2) := by decide +kernel
theorem dX7_feed_22 : decode cX7_feed 22 = .ok (.if_icmp .lt 6, 3) := by decide +kernel
theorem dX7_feed_25 : decode cX7_feed 25 = .ok (.bipush (-4), 2) := by decide +kernel
theorem dX7_feed_27 : decode cX7_feed 27 = .ok (.ireturn, 1) := by decide +kernel
theorem dX7_feed_28 : decode cX7_feed 28 = .ok (.aload_n 0, 1) := by decide +kernel
theorem dX7_feed_29 : decode cX7_feed 29 = .ok (.getfield 12, 3) := by decide +kernel
theorem dX7_feed_32 : decode cX7_feed 32 = .ok (.getfield 165, 3) := by decide +kernel
theorem dX7_feed_35 : decode cX7_feed 35 = .ok (.aload_n 0, 1) := by decide +kernel
theorem dX7_feed_36 : decode cX7_feed 36 = .ok (.getfield 12, 3) := by decide +kernel
theorem dX7_feed_39 : decode cX7_feed 39 = .ok (.getfield 162, 3) := by decide +kernel
theorem dX7_feed_42 : decode cX7_feed 42 = .ok (.iload_n 1, 1) := by decide +kernel
theorem dX7_feed_43 : decode cX7_feed 43 = .ok (.i2b, 1) := by decide +kernel
theorem dX7_feed_44 : decode cX7_feed 44 = .ok (.bastore, 1) := by decide +kernel
theorem dX7_feed_45 : decode cX7_feed 45 = .ok (.aload_n 0, 1) := by decide +kernel
theorem dX7_feed_46 : decode cX7_feed 46 = .ok (.getfield 12, 3) := by decide +kernel
theorem dX7_feed_49 : decode cX7_feed 49 = .ok (.dup, 1) := by decide +kernel
theorem dX7_feed_50 : decode cX7_feed 50 = .ok (.getfield 162, 3) := by decide +kernel
theorem dX7_feed_53 : decode cX7_feed 53 = .ok (.iconst 1, 1) := by decide +kernel
theorem dX7_feed_54 : decode cX7_feed 54 = .ok (.iadd, 1) := by decide +kernel
theorem dX7_feed_55 : decode cX7_feed 55 = .ok (.putfield 162, 3) := by decide +kernel
theorem dX7_feed_58 : decode cX7_feed 58 = .ok (.aload_n 0, 1) := by decide +kernel
theorem dX7_feed_59 : decode cX7_feed 59 = .ok (.getfield 12, 3) := by decide +kernel
theorem dX7_feed_62 : decode cX7_feed 62 = .ok (.getfield 162, 3) := by decide +kernel
theorem dX7_feed_65 : decode cX7_feed 65 = .ok (.ireturn, 1) := by decide +kernel
theorem dX7_house_0 : decode cX7_house 0 = .ok (.aload_n 0, 1) := by decide +kernel
theorem dX7_house_1 : decode cX7_house 1 = .ok (.getfield 169, 3) := by decide +kernel
theorem dX7_house_4 : decode cX7_house 4 = .ok (.bipush 6, 2) := by decide +kernel
theorem dX7_house_6 : decode cX7_house 6 = .ok (.if_icmp .lt 6, 3) := by decide +kernel
theorem dX7_house_9 : decode cX7_house 9 = .ok (.bipush (-4), 2) := by decide +kernel
theorem dX7_house_11 : decode cX7_house 11 = .ok (.ireturn, 1) := by decide +kernel
theorem dX7_house_12 : decode cX7_house 12 = .ok (.aload_n 0, 1) := by decide +kernel
theorem dX7_house_13 : decode cX7_house 13 = .ok (.getfield 20, 3) := by decide +kernel
theorem dX7_house_16 : decode cX7_house 16 = .ok (.aload_n 0, 1) := by decide +kernel
theorem dX7_house_17 : decode cX7_house 17 = .ok (.getfield 169, 3) := by decide +kernel
theorem dX7_house_20 : decode cX7_house 20 = .ok (.aaload, 1) := by decide +kernel
theorem dX7_house_21 : decode cX7_house 21 = .ok (.ifnonnull 21, 3) := by decide +kernel
theorem dX7_house_24 : decode cX7_house 24 = .ok (.aload_n 0, 1) := by decide +kernel
theorem dX7_house_25 : decode cX7_house 25 = .ok (.getfield 20, 3) := by decide +kernel
theorem dX7_house_28 : decode cX7_house 28 = .ok (.aload_n 0, 1) := by decide +kernel
theorem dX7_house_29 : decode cX7_house 29 = .ok (.getfield 169, 3) := by decide +kernel
theorem dX7_house_32 : decode cX7_house 32 = .ok (.new 18, 3) := by decide +kernel
theorem dX7_house_35 : decode cX7_house 35 = .ok (.dup, 1) := by decide +kernel
theorem dX7_house_36 : decode cX7_house 36 = .ok (.bipush 100, 2) := by decide +kernel
theorem dX7_house_38 : decode cX7_house 38 = .ok (.invokespecial 56, 3) := by decide +kernel
theorem dX7_house_41 : decode cX7_house 41 = .ok (.aastore, 1) := by decide +kernel
theorem dX7_house_42 : decode cX7_house 42 = .ok (.aload_n 0, 1) := by decide +kernel
theorem dX7_house_43 : decode cX7_house 43 = .ok (.getfield 20, 3) := by decide +kernel
theorem dX7_house_46 : decode cX7_house 46 = .ok (.aload_n 0, 1) := by decide +kernel
theorem dX7_house_47 : decode cX7_house 47 = .ok (.getfield 169, 3) := by decide +kernel
theorem dX7_house_50 : decode cX7_house 50 = .ok (.aaload, 1) := by decide +kernel
theorem dX7_house_51 : decode cX7_house 51 = .ok (.astore_n 1, 1) := by decide +kernel
theorem dX7_house_52 : decode cX7_house 52 = .ok (.aload_n 0, 1) := by decide +kernel
theorem dX7_house_53 : decode cX7_house 53 = .ok (.getfield 12, 3) := by decide +kernel
theorem dX7_house_56 : decode cX7_house 56 = .ok (.aload_n 1, 1) := by decide +kernel
theorem dX7_house_57 : decode cX7_house 57 = .ok (.invokevirtual 172, 3) := by decide +kernel
theorem dX7_house_60 : decode cX7_house 60 = .ok (.istore_n 2, 1) := by decide +kernel
theorem dX7_house_61 : decode cX7_house 61 = .ok (.aload_n 0, 1) := by decide +kernel
theorem dX7_house_62 : decode cX7_house 62 = .ok (.getfield 12, 3) := by decide +kernel
theorem dX7_house_65 : decode cX7_house 65 = .ok (.iconst 0, 1) := by decide +kernel
theorem dX7_house_66 : decode cX7_house 66 = .ok (.putfield 162, 3) := by decide +kernel
theorem dX7_house_69 : decode cX7_house 69 = .ok (.iload_n 2, 1) := by decide +kernel
theorem dX7_house_70 : decode cX7_house 70 = .ok (.ifCond .ne 14, 3) := by decide +kernel
theorem dX7_house_73 : decode cX7_house 73 = .ok (.bipush (-10), 2) := by decide +kernel
theorem dX7_house_75 : decode cX7_house 75 = .ok (.aload_n 0, 1) := by decide +kernel
theorem dX7_house_76 : decode cX7_house 76 = .ok (.getfield 12, 3) := by decide +kernel
theorem dX7_house_79 : decode cX7_house 79 = .ok (.getfield 176, 3) := by decide +kernel
theorem dX7_house_82 : decode cX7_house 82 = .ok (.isub, 1) := by decide +kernel
theorem dX7_house_83 : decode cX7_house 83 = .ok (.ireturn, 1) := by decide +kernel
theorem dX7_house_84 : decode cX7_house 84 = .ok (.aload_n 0, 1) := by decide +kernel
theorem dX7_house_85 : decode cX7_house 85 = .ok (.getfield 62, 3) := by decide +kernel
theorem dX7_house_88 : decode cX7_house 88 = .ok (.aload_n 1, 1) := by decide +kernel
theorem dX7_house_89 : decode cX7_house 89 = .ok (.putfield 179, 3) := by decide +kernel
theorem dX7_house_92 : decode cX7_house 92 = .ok (.aload_n 0, 1) := by decide +kernel
theorem dX7_house_93 : decode cX7_house 93 = .ok (.dup, 1) := by decide +kernel
theorem dX7_house_94 : decode cX7_house 94 = .ok (.getfield 169, 3) := by decide +kernel
theorem dX7_house_97 : decode cX7_house 97 = .ok (.iconst 1, 1) := by decide +kernel
theorem dX7_house_98 : decode cX7_house 98 = .ok (.iadd, 1) := by decide +kernel
theorem dX7_house_99 : decode cX7_house 99 = .ok (.putfield 169, 3) := by decide +kernel
theorem dX7_house_102 : decode cX7_house 102 = .ok (.aload_n 0, 1) := by decide +kernel
theorem dX7_house_103 : decode cX7_house 103 = .ok (.getfield 169, 3) := by decide +kernel
theorem dX7_house_106 : decode cX7_house 106 = .ok (.iconst 1, 1) := by decide +kernel
theorem dX7_house_107 : decode cX7_house 107 = .ok (.isub, 1) := by decide +kernel
theorem dX7_house_108 : decode cX7_house 108 = .ok (.ireturn, 1) := by decide +kernel
theorem dX7_told_0 : decode cX7_told 0 = .ok (.iload_n 1, 1) := by decide +kernel
theorem dX7_told_1 : decode cX7_told 1 = .ok (.bipush 10, 2) := by decide +kernel
theorem dX7_told_3 : decode cX7_told 3 = .ok (.isub, 1) := by decide +kernel
theorem dX7_told_4 : decode cX7_told 4 = .ok (.bipush 12, 2) := by decide +kernel
theorem dX7_told_6 : decode cX7_told 6 = .ok (.invokestatic 83, 3) := by decide +kernel
theorem dX7_told_9 : decode cX7_told 9 = .ok (.ifCond .eq 45, 3) := by decide +kernel
theorem dX7_told_12 : decode cX7_told 12 = .ok (.aload_n 0, 1) := by decide +kernel
theorem dX7_told_13 : decode cX7_told 13 = .ok (.getfield 62, 3) := by decide +kernel
theorem dX7_told_16 : decode cX7_told 16 = .ok (.getfield 135, 3) := by decide +kernel
theorem dX7_told_19 : decode cX7_told 19 = .ok (.iload_n 1, 1) := by decide +kernel
theorem dX7_told_20 : decode cX7_told 20 = .ok (.bipush 10, 2) := by decide +kernel
theorem dX7_told_22 : decode cX7_told 22 = .ok (.isub, 1) := by decide +kernel
theorem dX7_told_23 : decode cX7_told 23 = .ok (.iconst 3, 1) := by decide +kernel
theorem dX7_told_24 : decode cX7_told 24 = .ok (.idiv, 1) := by decide +kernel
theorem dX7_told_25 : decode cX7_told 25 = .ok (.aaload, 1) := by decide +kernel
theorem dX7_told_26 : decode cX7_told 26 = .ok (.astore_n 2, 1) := by decide +kernel
theorem dX7_told_27 : decode cX7_told 27 = .ok (.iload_n 1, 1) := by decide +kernel
theorem dX7_told_28 : decode cX7_told 28 = .ok (.bipush 10, 2) := by decide +kernel
theorem dX7_told_30 : decode cX7_told 30 = .ok (.isub, 1) := by decide +kernel
theorem dX7_told_31 : decode cX7_told 31 = .ok (.iconst 3, 1) := by decide +kernel
theorem dX7_told_32 : decode cX7_told 32 = .ok (.irem, 1) := by decide +kernel
theorem dX7_told_33 : decode cX7_told 33 = .ok (.istore_n 3, 1) := by decide +kernel
theorem dX7_told_34 : decode cX7_told 34 = .ok (.iload_n 3, 1) := by decide +kernel
theorem dX7_told_35 : decode cX7_told 35 = .ok (.aload_n 2, 1) := by decide +kernel
theorem dX7_told_36 : decode cX7_told 36 = .ok (.getfield 139, 3) := by decide +kernel
theorem dX7_told_39 : decode cX7_told 39 = .ok (.if_icmp .ge 12, 3) := by decide +kernel
theorem dX7_told_42 : decode cX7_told 42 = .ok (.aload_n 2, 1) := by decide +kernel
theorem dX7_told_43 : decode cX7_told 43 = .ok (.getfield 142, 3) := by decide +kernel
theorem dX7_told_46 : decode cX7_told 46 = .ok (.iload_n 3, 1) := by decide +kernel
theorem dX7_told_47 : decode cX7_told 47 = .ok (.iaload, 1) := by decide +kernel
theorem dX7_told_48 : decode cX7_told 48 = .ok (.goto 5, 3) := by decide +kernel
theorem dX7_told_51 : decode cX7_told 51 = .ok (.bipush (-5), 2) := by decide +kernel
theorem dX7_told_53 : decode cX7_told 53 = .ok (.ireturn, 1) := by decide +kernel
theorem dX7_told_54 : decode cX7_told 54 = .ok (.iload_n 1, 1) := by decide +kernel
theorem dX7_told_55 : decode cX7_told 55 = .ok (.bipush 30, 2) := by decide +kernel
theorem dX7_told_57 : decode cX7_told 57 = .ok (.isub, 1) := by decide +kernel
theorem dX7_told_58 : decode cX7_told 58 = .ok (.iconst 4, 1) := by decide +kernel
theorem dX7_told_59 : decode cX7_told 59 = .ok (.invokestatic 83, 3) := by decide +kernel
theorem dX7_told_62 : decode cX7_told 62 = .ok (.ifCond .eq 12, 3) := by decide +kernel
theorem dX7_told_65 : decode cX7_told 65 = .ok (.aload_n 0, 1) := by decide +kernel
theorem dX7_told_66 : decode cX7_told 66 = .ok (.iload_n 1, 1) := by decide +kernel
theorem dX7_told_67 : decode cX7_told 67 = .ok (.bipush 30, 2) := by decide +kernel
theorem dX7_told_69 : decode cX7_told 69 = .ok (.isub, 1) := by decide +kernel
theorem dX7_told_70 : decode cX7_told 70 = .ok (.invokevirtual 183, 3) := by decide +kernel
theorem dX7_told_73 : decode cX7_told 73 = .ok (.ireturn, 1) := by decide +kernel
theorem dX7_told_74 : decode cX7_told 74 = .ok (.iload_n 1, 1) := by decide +kernel
theorem dX7_told_75 : decode cX7_told 75 = .ok (.bipush 40, 2) := by decide +kernel
theorem dX7_told_77 : decode cX7_told 77 = .ok (.isub, 1) := by decide +kernel
theorem dX7_told_78 : decode cX7_told 78 = .ok (.iconst 4, 1) := by decide +kernel
theorem dX7_told_79 : decode cX7_told 79 = .ok (.invokestatic 83, 3) := by decide +kernel
theorem dX7_told_82 : decode cX7_told 82 = .ok (.ifCond .eq 16, 3) := by decide +kernel
theorem dX7_told_85 : decode cX7_told 85 = .ok (.aload_n 0, 1) := by decide +kernel
theorem dX7_told_86 : decode cX7_told 86 = .ok (.aload_n 0, 1) := by decide +kernel
theorem dX7_told_87 : decode cX7_told 87 = .ok (.iload_n 1, 1) := by decide +kernel
theorem dX7_told_88 : decode cX7_told 88 = .ok (.bipush 40, 2) := by decide +kernel
theorem dX7_told_90 : decode cX7_told 90 = .ok (.isub, 1) := by decide +kernel
theorem dX7_told_91 : decode cX7_told 91 = .ok (.invokevirtual 183, 3) := by decide +kernel
theorem dX7_told_94 : decode cX7_told 94 = .ok (.invokevirtual 186, 3) := by decide +kernel
theorem dX7_told_97 : decode cX7_told 97 = .ok (.ireturn, 1) := by decide +kernel
theorem dX7_told_98 : decode cX7_told 98 = .ok (.iload_n 1, 1) := by decide +kernel
theorem dX7_told_99 : decode cX7_told 99 = .ok (.tableswitch 79 0 4 #[33, 41, 52, 63, 71], 33) := by decide +kernel
theorem dX7_told_132 : decode cX7_told 132 = .ok (.aload_n 0, 1) := by decide +kernel
theorem dX7_told_133 : decode cX7_told 133 = .ok (.getfield 62, 3) := by decide +kernel
theorem dX7_told_136 : decode cX7_told 136 = .ok (.getfield 153, 3) := by decide +kernel
theorem dX7_told_139 : decode cX7_told 139 = .ok (.ireturn, 1) := by decide +kernel
theorem dX7_told_140 : decode cX7_told 140 = .ok (.aload_n 0, 1) := by decide +kernel
theorem dX7_told_141 : decode cX7_told 141 = .ok (.getfield 62, 3) := by decide +kernel
theorem dX7_told_144 : decode cX7_told 144 = .ok (.getfield 179, 3) := by decide +kernel
theorem dX7_told_147 : decode cX7_told 147 = .ok (.getfield 189, 3) := by decide +kernel
theorem dX7_told_150 : decode cX7_told 150 = .ok (.ireturn, 1) := by decide +kernel
theorem dX7_told_151 : decode cX7_told 151 = .ok (.aload_n 0, 1) := by decide +kernel
theorem dX7_told_152 : decode cX7_told 152 = .ok (.getfield 62, 3) := by decide +kernel
theorem dX7_told_155 : decode cX7_told 155 = .ok (.getfield 179, 3) := by decide +kernel
theorem dX7_told_158 : decode cX7_told 158 = .ok (.getfield 192, 3) := by decide +kernel
theorem dX7_told_161 : decode cX7_told 161 = .ok (.ireturn, 1) := by decide +kernel
theorem dX7_told_162 : decode cX7_told 162 = .ok (.aload_n 0, 1) := by decide +kernel
theorem dX7_told_163 : decode cX7_told 163 = .ok (.getfield 62, 3) := by decide +kernel
theorem dX7_told_166 : decode cX7_told 166 = .ok (.invokevirtual 195, 3) := by decide +kernel
theorem dX7_told_169 : decode cX7_told 169 = .ok (.ireturn, 1) := by decide +kernel
theorem dX7_told_170 : decode cX7_told 170 = .ok (.aload_n 0, 1) := by decide +kernel
theorem dX7_told_171 : decode cX7_told 171 = .ok (.getfield 62, 3) := by decide +kernel
theorem dX7_told_174 : decode cX7_told 174 = .ok (.invokevirtual 199, 3) := by decide +kernel
theorem dX7_told_177 : decode cX7_told 177 = .ok (.ireturn, 1) := by decide +kernel
theorem dX7_told_178 : decode cX7_told 178 = .ok (.iconst (-1), 1) := by decide +kernel
theorem dX7_told_179 : decode cX7_told 179 = .ok (.ireturn, 1) := by decide +kernel
theorem dX7_askNeededByComer_0 : decode cX7_askNeededByComer 0 = .ok (.iconst 0, 1) := by decide +kernel
theorem dX7_askNeededByComer_1 : decode cX7_askNeededByComer 1 = .ok (.istore_n 2, 1) := by decide +kernel
theorem dX7_askNeededByComer_2 : decode cX7_askNeededByComer 2 = .ok (.iload_n 2, 1) := by decide +kernel
theorem dX7_askNeededByComer_3 : decode cX7_askNeededByComer 3 = .ok (.aload_n 0, 1) := by decide +kernel
theorem dX7_askNeededByComer_4 : decode cX7_askNeededByComer 4 = .ok (.getfield 62, 3) := by decide +kernel
theorem dX7_askNeededByComer_7 : decode cX7_askNeededByComer 7 = .ok (.getfield 79, 3) := by decide +kernel
theorem dX7_askNeededByComer_10 : decode cX7_askNeededByComer 10 = .ok (.if_icmp .ge 32, 3) := by decide +kernel
theorem dX7_askNeededByComer_13 : decode cX7_askNeededByComer 13 = .ok (.aload_n 0, 1) := by decide +kernel
theorem dX7_askNeededByComer_14 : decode cX7_askNeededByComer 14 = .ok (.getfield 50, 3) := by decide +kernel
theorem dX7_askNeededByComer_17 : decode cX7_askNeededByComer 17 = .ok (.iload_n 2, 1) := by decide +kernel
theorem dX7_askNeededByComer_18 : decode cX7_askNeededByComer 18 = .ok (.aload_n 0, 1) := by decide +kernel
theorem dX7_askNeededByComer_19 : decode cX7_askNeededByComer 19 = .ok (.getfield 62, 3) := by decide +kernel
theorem dX7_askNeededByComer_22 : decode cX7_askNeededByComer 22 = .ok (.aload_n 0, 1) := by decide +kernel
theorem dX7_askNeededByComer_23 : decode cX7_askNeededByComer 23 = .ok (.getfield 62, 3) := by decide +kernel
theorem dX7_askNeededByComer_26 : decode cX7_askNeededByComer 26 = .ok (.getfield 94, 3) := by decide +kernel
theorem dX7_askNeededByComer_29 : decode cX7_askNeededByComer 29 = .ok (.iload_n 2, 1) := by decide +kernel
theorem dX7_askNeededByComer_30 : decode cX7_askNeededByComer 30 = .ok (.aaload, 1) := by decide +kernel
theorem dX7_askNeededByComer_31 : decode cX7_askNeededByComer 31 = .ok (.iload_n 1, 1) := by decide +kernel
theorem dX7_askNeededByComer_32 : decode cX7_askNeededByComer 32 = .ok (.invokevirtual 202, 3) := by decide +kernel
theorem dX7_askNeededByComer_35 : decode cX7_askNeededByComer 35 = .ok (.iastore, 1) := by decide +kernel
theorem dX7_askNeededByComer_36 : decode cX7_askNeededByComer 36 = .ok (.iinc 2 1, 3) := by decide +kernel
theorem dX7_askNeededByComer_39 : decode cX7_askNeededByComer 39 = .ok (.goto (-37), 3) := by decide +kernel
theorem dX7_askNeededByComer_42 : decode cX7_askNeededByComer 42 = .ok (.return_, 1) := by decide +kernel
theorem dX7_master_0 : decode cX7_master 0 = .ok (.aload_n 0, 1) := by decide +kernel
theorem dX7_master_1 : decode cX7_master 1 = .ok (.iload_n 1, 1) := by decide +kernel
theorem dX7_master_2 : decode cX7_master 2 = .ok (.invokevirtual 205, 3) := by decide +kernel
theorem dX7_master_5 : decode cX7_master 5 = .ok (.iconst 0, 1) := by decide +kernel
theorem dX7_master_6 : decode cX7_master 6 = .ok (.istore_n 2, 1) := by decide +kernel
theorem dX7_master_7 : decode cX7_master 7 = .ok (.iconst (-1), 1) := by decide +kernel
theorem dX7_master_8 : decode cX7_master 8 = .ok (.istore_n 3, 1) := by decide +kernel
theorem dX7_master_9 : decode cX7_master 9 = .ok (.iconst 0, 1) := by decide +kernel
theorem dX7_master_10 : decode cX7_master 10 = .ok (.istore 4, 2) := by decide +kernel
theorem dX7_master_12 : decode cX7_master 12 = .ok (.iload 4, 2) := by decide +kernel
theorem dX7_master_14 : decode cX7_master 14 = .ok (.sipush 4096, 3) := by decide +kernel
theorem dX7_master_17 : decode cX7_master 17 = .ok (.if_icmp .ge 40, 3) := by decide +kernel
theorem dX7_master_20 : decode cX7_master 20 = .ok (.iload_n 3, 1) := by decide +kernel
theorem dX7_master_21 : decode cX7_master 21 = .ok (.aload_n 0, 1) := by decide +kernel
theorem dX7_master_22 : decode cX7_master 22 = .ok (.getfield 62, 3) := by decide +kernel
theorem dX7_master_25 : decode cX7_master 25 = .ok (.getfield 79, 3) := by decide +kernel
theorem dX7_master_28 : decode cX7_master 28 = .ok (.if_icmp .ge 29, 3) := by decide +kernel
theorem dX7_master_31 : decode cX7_master 31 = .ok (.aload_n 0, 1) := by decide +kernel
theorem dX7_master_32 : decode cX7_master 32 = .ok (.iload 4, 2) := by decide +kernel
theorem dX7_master_34 : decode cX7_master 34 = .ok (.invokevirtual 186, 3) := by decide +kernel
theorem dX7_master_37 : decode cX7_master 37 = .ok (.istore 5, 2) := by decide +kernel
theorem dX7_master_39 : decode cX7_master 39 = .ok (.iload 5, 2) := by decide +kernel
theorem dX7_master_41 : decode cX7_master 41 = .ok (.iload_n 3, 1) := by decide +kernel
theorem dX7_master_42 : decode cX7_master 42 = .ok (.if_icmp .le 9, 3) := by decide +kernel
theorem dX7_master_45 : decode cX7_master 45 = .ok (.iload 5, 2) := by decide +kernel
theorem dX7_master_47 : decode cX7_master 47 = .ok (.istore_n 3, 1) := by decide +kernel
theorem dX7_master_48 : decode cX7_master 48 = .ok (.iload 4, 2) := by decide +kernel
theorem dX7_master_50 : decode cX7_master 50 = .ok (.istore_n 2, 1) := by decide +kernel
theorem dX7_master_51 : decode cX7_master 51 = .ok (.iinc 4 1, 3) := by decide +kernel
theorem dX7_master_54 : decode cX7_master 54 = .ok (.goto (-42), 3) := by decide +kernel
theorem dX7_master_57 : decode cX7_master 57 = .ok (.iload_n 2, 1) := by decide +kernel
theorem dX7_master_58 : decode cX7_master 58 = .ok (.ireturn, 1) := by decide +kernel
theorem dX7_letByWalkAlone_0 : decode cX7_letByWalkAlone 0 = .ok (.iconst 0, 1) := by decide +kernel
theorem dX7_letByWalkAlone_1 : decode cX7_letByWalkAlone 1 = .ok (.istore_n 2, 1) := by decide +kernel
theorem dX7_letByWalkAlone_2 : decode cX7_letByWalkAlone 2 = .ok (.iconst 0, 1) := by decide +kernel
theorem dX7_letByWalkAlone_3 : decode cX7_letByWalkAlone 3 = .ok (.istore_n 3, 1) := by decide +kernel
theorem dX7_letByWalkAlone_4 : decode cX7_letByWalkAlone 4 = .ok (.iload_n 3, 1) := by decide +kernel
theorem dX7_letByWalkAlone_5 : decode cX7_letByWalkAlone 5 = .ok (.aload_n 0, 1) := by decide +kernel
theorem dX7_letByWalkAlone_6 : decode cX7_letByWalkAlone 6 = .ok (.getfield 62, 3) := by decide +kernel
theorem dX7_letByWalkAlone_9 : decode cX7_letByWalkAlone 9 = .ok (.getfield 79, 3) := by decide +kernel
theorem dX7_letByWalkAlone_12 : decode cX7_letByWalkAlone 12 = .ok (.if_icmp .ge 37, 3) := by decide +kernel
theorem dX7_letByWalkAlone_15 : decode cX7_letByWalkAlone 15 = .ok (.aload_n 0, 1) := by decide +kernel
theorem dX7_letByWalkAlone_16 : decode cX7_letByWalkAlone 16 = .ok (.getfield 62, 3) := by decide +kernel
theorem dX7_letByWalkAlone_19 : decode cX7_letByWalkAlone 19 = .ok (.getfield 94, 3) := by decide +kernel
theorem dX7_letByWalkAlone_22 : decode cX7_letByWalkAlone 22 = .ok (.iload_n 3, 1) := by decide +kernel
theorem dX7_letByWalkAlone_23 : decode cX7_letByWalkAlone 23 = .ok (.aaload, 1) := by decide +kernel
theorem dX7_letByWalkAlone_24 : decode cX7_letByWalkAlone 24 = .ok (.getfield 120, 3) := by decide +kernel
theorem dX7_letByWalkAlone_27 : decode cX7_letByWalkAlone 27 = .ok (.iload_n 1, 1) := by decide +kernel
theorem dX7_letByWalkAlone_28 : decode cX7_letByWalkAlone 28 = .ok (.invokestatic 208, 3) := by decide +kernel
theorem dX7_letByWalkAlone_31 : decode cX7_letByWalkAlone 31 = .ok (.aload_n 0, 1) := by decide +kernel
theorem dX7_letByWalkAlone_32 : decode cX7_letByWalkAlone 32 = .ok (.getfield 50, 3) := by decide +kernel
theorem dX7_letByWalkAlone_35 : decode cX7_letByWalkAlone 35 = .ok (.iload_n 3, 1) := by decide +kernel
theorem dX7_letByWalkAlone_36 : decode cX7_letByWalkAlone 36 = .ok (.iaload, 1) := by decide +kernel
theorem dX7_letByWalkAlone_37 : decode cX7_letByWalkAlone 37 = .ok (.if_icmp .lt 6, 3) := by decide +kernel
theorem dX7_letByWalkAlone_40 : decode cX7_letByWalkAlone 40 = .ok (.iinc 2 1, 3) := by decide +kernel
theorem dX7_letByWalkAlone_43 : decode cX7_letByWalkAlone 43 = .ok (.iinc 3 1, 3) := by decide +kernel
theorem dX7_letByWalkAlone_46 : decode cX7_letByWalkAlone 46 = .ok (.goto (-42), 3) := by decide +kernel
theorem dX7_letByWalkAlone_49 : decode cX7_letByWalkAlone 49 = .ok (.iload_n 2, 1) := by decide +kernel
theorem dX7_letByWalkAlone_50 : decode cX7_letByWalkAlone 50 = .ok (.ireturn, 1) := by decide +kernel
theorem dX7_pass_0 : decode cX7_pass 0 = .ok (.iload_n 1, 1) := by decide +kernel
theorem dX7_pass_1 : decode cX7_pass 1 = .ok (.bipush 61, 2) := by decide +kernel
theorem dX7_pass_3 : decode cX7_pass 3 = .ok (.invokestatic 83, 3) := by decide +kernel
theorem dX7_pass_6 : decode cX7_pass 6 = .ok (.ifCond .ne 6, 3) := by decide +kernel
theorem dX7_pass_9 : decode cX7_pass 9 = .ok (.bipush (-2), 2) := by decide +kernel
theorem dX7_pass_11 : decode cX7_pass 11 = .ok (.ireturn, 1) := by decide +kernel
theorem dX7_pass_12 : decode cX7_pass 12 = .ok (.aload_n 0, 1) := by decide +kernel
theorem dX7_pass_13 : decode cX7_pass 13 = .ok (.getfield 62, 3) := by decide +kernel
theorem dX7_pass_16 : decode cX7_pass 16 = .ok (.getfield 153, 3) := by decide +kernel
theorem dX7_pass_19 : decode cX7_pass 19 = .ok (.iload_n 1, 1) := by decide +kernel
theorem dX7_pass_20 : decode cX7_pass 20 = .ok (.iadd, 1) := by decide +kernel
theorem dX7_pass_21 : decode cX7_pass 21 = .ok (.sipush 9999, 3) := by decide +kernel
theorem dX7_pass_24 : decode cX7_pass 24 = .ok (.if_icmp .le 6, 3) := by decide +kernel
theorem dX7_pass_27 : decode cX7_pass 27 = .ok (.bipush (-3), 2) := by decide +kernel
theorem dX7_pass_29 : decode cX7_pass 29 = .ok (.ireturn, 1) := by decide +kernel
theorem dX7_pass_30 : decode cX7_pass 30 = .ok (.aload_n 0, 1) := by decide +kernel
theorem dX7_pass_31 : decode cX7_pass 31 = .ok (.getfield 62, 3) := by decide +kernel
theorem dX7_pass_34 : decode cX7_pass 34 = .ok (.iload_n 1, 1) := by decide +kernel
theorem dX7_pass_35 : decode cX7_pass 35 = .ok (.invokevirtual 91, 3) := by decide +kernel
theorem dX7_pass_38 : decode cX7_pass 38 = .ok (.aload_n 0, 1) := by decide +kernel
theorem dX7_pass_39 : decode cX7_pass 39 = .ok (.getfield 62, 3) := by decide +kernel
theorem dX7_pass_42 : decode cX7_pass 42 = .ok (.getfield 153, 3) := by decide +kernel
theorem dX7_pass_45 : decode cX7_pass 45 = .ok (.ireturn, 1) := by decide +kernel
theorem dX7_on_0 : decode cX7_on 0 = .ok (.iload_n 2, 1) := by decide +kernel
theorem dX7_on_1 : decode cX7_on 1 = .ok (.ifCond .eq 27, 3) := by decide +kernel
theorem dX7_on_4 : decode cX7_on 4 = .ok (.aload_n 0, 1) := by decide +kernel
theorem dX7_on_5 : decode cX7_on 5 = .ok (.iload_n 2, 1) := by decide +kernel
theorem dX7_on_6 : decode cX7_on 6 = .ok (.bipush 10, 2) := by decide +kernel
theorem dX7_on_8 : decode cX7_on 8 = .ok (.isub, 1) := by decide +kernel
theorem dX7_on_9 : decode cX7_on 9 = .ok (.invokevirtual 102, 3) := by decide +kernel
theorem dX7_on_12 : decode cX7_on 12 = .ok (.ifCond .ne 16, 3) := by decide +kernel
theorem dX7_on_15 : decode cX7_on 15 = .ok (.aload_n 0, 1) := by decide +kernel
theorem dX7_on_16 : decode cX7_on 16 = .ok (.iload_n 2, 1) := by decide +kernel
theorem dX7_on_17 : decode cX7_on 17 = .ok (.bipush 20, 2) := by decide +kernel
theorem dX7_on_19 : decode cX7_on 19 = .ok (.isub, 1) := by decide +kernel
theorem dX7_on_20 : decode cX7_on 20 = .ok (.invokevirtual 102, 3) := by decide +kernel
theorem dX7_on_23 : decode cX7_on 23 = .ok (.ifCond .ne 5, 3) := by decide +kernel
theorem dX7_on_26 : decode cX7_on 26 = .ok (.iconst (-1), 1) := by decide +kernel
theorem dX7_on_27 : decode cX7_on 27 = .ok (.ireturn, 1) := by decide +kernel
theorem dX7_on_28 : decode cX7_on 28 = .ok (.iload_n 1, 1) := by decide +kernel
theorem dX7_on_29 : decode cX7_on 29 = .ok (.bipush 61, 2) := by decide +kernel
theorem dX7_on_31 : decode cX7_on 31 = .ok (.invokestatic 83, 3) := by decide +kernel
theorem dX7_on_34 : decode cX7_on 34 = .ok (.ifCond .ne 6, 3) := by decide +kernel
theorem dX7_on_37 : decode cX7_on 37 = .ok (.bipush (-2), 2) := by decide +kernel
theorem dX7_on_39 : decode cX7_on 39 = .ok (.ireturn, 1) := by decide +kernel
theorem dX7_on_40 : decode cX7_on 40 = .ok (.aload_n 0, 1) := by decide +kernel
theorem dX7_on_41 : decode cX7_on 41 = .ok (.iload_n 1, 1) := by decide +kernel
theorem dX7_on_42 : decode cX7_on 42 = .ok (.invokevirtual 212, 3) := by decide +kernel
theorem dX7_on_45 : decode cX7_on 45 = .ok (.astore_n 3, 1) := by decide +kernel
theorem dX7_on_46 : decode cX7_on 46 = .ok (.iload_n 2, 1) := by decide +kernel
theorem dX7_on_47 : decode cX7_on 47 = .ok (.ifCond .ne 8, 3) := by decide +kernel
theorem dX7_on_50 : decode cX7_on 50 = .ok (.aload_n 3, 1) := by decide +kernel
theorem dX7_on_51 : decode cX7_on 51 = .ok (.invokevirtual 195, 3) := by decide +kernel
theorem dX7_on_54 : decode cX7_on 54 = .ok (.ireturn, 1) := by decide +kernel
theorem dX7_on_55 : decode cX7_on 55 = .ok (.aload_n 0, 1) := by decide +kernel
theorem dX7_on_56 : decode cX7_on 56 = .ok (.iload_n 2, 1) := by decide +kernel
theorem dX7_on_57 : decode cX7_on 57 = .ok (.bipush 10, 2) := by decide +kernel
theorem dX7_on_59 : decode cX7_on 59 = .ok (.isub, 1) := by decide +kernel
theorem dX7_on_60 : decode cX7_on 60 = .ok (.invokevirtual 102, 3) := by decide +kernel
theorem dX7_on_63 : decode cX7_on 63 = .ok (.ifCond .eq 18, 3) := by decide +kernel
theorem dX7_on_66 : decode cX7_on 66 = .ok (.aload_n 3, 1) := by decide +kernel
theorem dX7_on_67 : decode cX7_on 67 = .ok (.getfield 94, 3) := by decide +kernel
theorem dX7_on_70 : decode cX7_on 70 = .ok (.iload_n 2, 1) := by decide +kernel
theorem dX7_on_71 : decode cX7_on 71 = .ok (.bipush 10, 2) := by decide +kernel
theorem dX7_on_73 : decode cX7_on 73 = .ok (.isub, 1) := by decide +kernel
theorem dX7_on_74 : decode cX7_on 74 = .ok (.aaload, 1) := by decide +kernel
theorem dX7_on_75 : decode cX7_on 75 = .ok (.getfield 129, 3) := by decide +kernel
theorem dX7_on_78 : decode cX7_on 78 = .ok (.goto 15, 3) := by decide +kernel
theorem dX7_on_81 : decode cX7_on 81 = .ok (.aload_n 3, 1) := by decide +kernel
theorem dX7_on_82 : decode cX7_on 82 = .ok (.getfield 94, 3) := by decide +kernel
theorem dX7_on_85 : decode cX7_on 85 = .ok (.iload_n 2, 1) := by decide +kernel
theorem dX7_on_86 : decode cX7_on 86 = .ok (.bipush 20, 2) := by decide +kernel
theorem dX7_on_88 : decode cX7_on 88 = .ok (.isub, 1) := by decide +kernel
theorem dX7_on_89 : decode cX7_on 89 = .ok (.aaload, 1) := by decide +kernel
theorem dX7_on_90 : decode cX7_on 90 = .ok (.getfield 120, 3) := by decide +kernel
theorem dX7_on_93 : decode cX7_on 93 = .ok (.ireturn, 1) := by decide +kernel
theorem dX7_lessons_0 : decode cX7_lessons 0 = .ok (.iload_n 1, 1) := by decide +kernel
theorem dX7_lessons_1 : decode cX7_lessons 1 = .ok (.iconst 4, 1) := by decide +kernel
theorem dX7_lessons_2 : decode cX7_lessons 2 = .ok (.invokestatic 83, 3) := by decide +kernel
theorem dX7_lessons_5 : decode cX7_lessons 5 = .ok (.ifCond .eq 13, 3) := by decide +kernel
theorem dX7_lessons_8 : decode cX7_lessons 8 = .ok (.iload_n 3, 1) := by decide +kernel
theorem dX7_lessons_9 : decode cX7_lessons 9 = .ok (.iconst (-1), 1) := by decide +kernel
theorem dX7_lessons_10 : decode cX7_lessons 10 = .ok (.if_icmp .lt 8, 3) := by decide +kernel
theorem dX7_lessons_13 : decode cX7_lessons 13 = .ok (.iload_n 3, 1) := by decide +kernel
theorem dX7_lessons_14 : decode cX7_lessons 14 = .ok (.iconst 3, 1) := by decide +kernel
theorem dX7_lessons_15 : decode cX7_lessons 15 = .ok (.if_icmp .lt 5, 3) := by decide +kernel
theorem dX7_lessons_18 : decode cX7_lessons 18 = .ok (.iconst (-1), 1) := by decide +kernel
theorem dX7_lessons_19 : decode cX7_lessons 19 = .ok (.ireturn, 1) := by decide +kernel
theorem dX7_lessons_20 : decode cX7_lessons 20 = .ok (.iload_n 2, 1) := by decide +kernel
theorem dX7_lessons_21 : decode cX7_lessons 21 = .ok (.iconst 1, 1) := by decide +kernel
theorem dX7_lessons_22 : decode cX7_lessons 22 = .ok (.if_icmp .lt 8, 3) := by decide +kernel
theorem dX7_lessons_25 : decode cX7_lessons 25 = .ok (.iload_n 2, 1) := by decide +kernel
theorem dX7_lessons_26 : decode cX7_lessons 26 = .ok (.iconst 3, 1) := by decide +kernel
theorem dX7_lessons_27 : decode cX7_lessons 27 = .ok (.if_icmp .le 6, 3) := by decide +kernel
theorem dX7_lessons_30 : decode cX7_lessons 30 = .ok (.bipush (-2), 2) := by decide +kernel
theorem dX7_lessons_32 : decode cX7_lessons 32 = .ok (.ireturn, 1) := by decide +kernel
theorem dX7_lessons_33 : decode cX7_lessons 33 = .ok (.aload_n 0, 1) := by decide +kernel
theorem dX7_lessons_34 : decode cX7_lessons 34 = .ok (.getfield 62, 3) := by decide +kernel
theorem dX7_lessons_37 : decode cX7_lessons 37 = .ok (.getfield 79, 3) := by decide +kernel
theorem dX7_lessons_40 : decode cX7_lessons 40 = .ok (.ifCond .ne 15, 3) := by decide +kernel
theorem dX7_lessons_43 : decode cX7_lessons 43 = .ok (.iload_n 3, 1) := by decide +kernel
theorem dX7_lessons_44 : decode cX7_lessons 44 = .ok (.iconst (-1), 1) := by decide +kernel
theorem dX7_lessons_45 : decode cX7_lessons 45 = .ok (.if_icmp .ne 7, 3) := by decide +kernel
theorem dX7_lessons_48 : decode cX7_lessons 48 = .ok (.iconst 0, 1) := by decide +kernel
theorem dX7_lessons_49 : decode cX7_lessons 49 = .ok (.goto 5, 3) := by decide +kernel
theorem dX7_lessons_52 : decode cX7_lessons 52 = .ok (.bipush (-5), 2) := by decide +kernel
theorem dX7_lessons_54 : decode cX7_lessons 54 = .ok (.ireturn, 1) := by decide +kernel
theorem dX7_lessons_55 : decode cX7_lessons 55 = .ok (.iload_n 3, 1) := by decide +kernel
theorem dX7_lessons_56 : decode cX7_lessons 56 = .ok (.iload_n 2, 1) := by decide +kernel
theorem dX7_lessons_57 : decode cX7_lessons 57 = .ok (.if_icmp .lt 6, 3) := by decide +kernel
theorem dX7_lessons_60 : decode cX7_lessons 60 = .ok (.bipush (-5), 2) := by decide +kernel
theorem dX7_lessons_62 : decode cX7_lessons 62 = .ok (.ireturn, 1) := by decide +kernel
theorem dX7_lessons_63 : decode cX7_lessons 63 = .ok (.aload_n 0, 1) := by decide +kernel
theorem dX7_lessons_64 : decode cX7_lessons 64 = .ok (.iload_n 1, 1) := by decide +kernel
theorem dX7_lessons_65 : decode cX7_lessons 65 = .ok (.iload_n 2, 1) := by decide +kernel
theorem dX7_lessons_66 : decode cX7_lessons 66 = .ok (.invokevirtual 216, 3) := by decide +kernel
theorem dX7_lessons_69 : decode cX7_lessons 69 = .ok (.istore 4, 2) := by decide +kernel
theorem dX7_lessons_71 : decode cX7_lessons 71 = .ok (.iload_n 3, 1) := by decide +kernel
theorem dX7_lessons_72 : decode cX7_lessons 72 = .ok (.iconst (-1), 1) := by decide +kernel
theorem dX7_lessons_73 : decode cX7_lessons 73 = .ok (.if_icmp .ne 14, 3) := by decide +kernel
theorem dX7_lessons_76 : decode cX7_lessons 76 = .ok (.aload_n 0, 1) := by decide +kernel
theorem dX7_lessons_77 : decode cX7_lessons 77 = .ok (.iload_n 1, 1) := by decide +kernel
theorem dX7_lessons_78 : decode cX7_lessons 78 = .ok (.iload_n 2, 1) := by decide +kernel
theorem dX7_lessons_79 : decode cX7_lessons 79 = .ok (.iload 4, 2) := by decide +kernel
theorem dX7_lessons_81 : decode cX7_lessons 81 = .ok (.invokevirtual 219, 3) := by decide +kernel
theorem dX7_lessons_84 : decode cX7_lessons 84 = .ok (.goto 11, 3) := by decide +kernel
theorem dX7_lessons_87 : decode cX7_lessons 87 = .ok (.aload_n 0, 1) := by decide +kernel
theorem dX7_lessons_88 : decode cX7_lessons 88 = .ok (.iload 4, 2) := by decide +kernel
theorem dX7_lessons_90 : decode cX7_lessons 90 = .ok (.iload_n 2, 1) := by decide +kernel
theorem dX7_lessons_91 : decode cX7_lessons 91 = .ok (.iload_n 3, 1) := by decide +kernel
theorem dX7_lessons_92 : decode cX7_lessons 92 = .ok (.invokevirtual 223, 3) := by decide +kernel
theorem dX7_lessons_95 : decode cX7_lessons 95 = .ok (.ireturn, 1) := by decide +kernel
theorem dX7_bestLessons_0 : decode cX7_bestLessons 0 = .ok (.aload_n 0, 1) := by decide +kernel
theorem dX7_bestLessons_1 : decode cX7_bestLessons 1 = .ok (.iload_n 1, 1) := by decide +kernel
theorem dX7_bestLessons_2 : decode cX7_bestLessons 2 = .ok (.invokevirtual 205, 3) := by decide +kernel
theorem dX7_bestLessons_5 : decode cX7_bestLessons 5 = .ok (.iconst 1, 1) := by decide +kernel
theorem dX7_bestLessons_6 : decode cX7_bestLessons 6 = .ok (.istore_n 3, 1) := by decide +kernel
theorem dX7_bestLessons_7 : decode cX7_bestLessons 7 = .ok (.iconst 0, 1) := by decide +kernel
theorem dX7_bestLessons_8 : decode cX7_bestLessons 8 = .ok (.istore 4, 2) := by decide +kernel
theorem dX7_bestLessons_10 : decode cX7_bestLessons 10 = .ok (.iload 4, 2) := by decide +kernel
theorem dX7_bestLessons_12 : decode cX7_bestLessons 12 = .ok (.iload_n 2, 1) := by decide +kernel
theorem dX7_bestLessons_13 : decode cX7_bestLessons 13 = .ok (.if_icmp .ge 19, 3) := by decide +kernel
theorem dX7_bestLessons_16 : decode cX7_bestLessons 16 = .ok (.iload_n 3, 1) := by decide +kernel
theorem dX7_bestLessons_17 : decode cX7_bestLessons 17 = .ok (.aload_n 0, 1) := by decide +kernel
theorem dX7_bestLessons_18 : decode cX7_bestLessons 18 = .ok (.getfield 62, 3) := by decide +kernel
theorem dX7_bestLessons_21 : decode cX7_bestLessons 21 = .ok (.getfield 79, 3) := by decide +kernel
theorem dX7_bestLessons_24 : decode cX7_bestLessons 24 = .ok (.imul, 1) := by decide +kernel
theorem dX7_bestLessons_25 : decode cX7_bestLessons 25 = .ok (.istore_n 3, 1) := by decide +kernel
theorem dX7_bestLessons_26 : decode cX7_bestLessons 26 = .ok (.iinc 4 1, 3) := by decide +kernel
theorem dX7_bestLessons_29 : decode cX7_bestLessons 29 = .ok (.goto (-19), 3) := by decide +kernel
theorem dX7_bestLessons_32 : decode cX7_bestLessons 32 = .ok (.iconst 0, 1) := by decide +kernel
theorem dX7_bestLessons_33 : decode cX7_bestLessons 33 = .ok (.istore 4, 2) := by decide +kernel
theorem dX7_bestLessons_35 : decode cX7_bestLessons 35 = .ok (.iconst (-1), 1) := by decide +kernel
theorem dX7_bestLessons_36 : decode cX7_bestLessons 36 = .ok (.istore 5, 2) := by decide +kernel
theorem dX7_bestLessons_38 : decode cX7_bestLessons 38 = .ok (.iconst 0, 1) := by decide +kernel
theorem dX7_bestLessons_39 : decode cX7_bestLessons 39 = .ok (.istore 6, 2) := by decide +kernel
theorem dX7_bestLessons_41 : decode cX7_bestLessons 41 = .ok (.iload 6, 2) := by decide +kernel
theorem dX7_bestLessons_43 : decode cX7_bestLessons 43 = .ok (.iload_n 3, 1) := by decide +kernel
theorem dX7_bestLessons_44 : decode cX7_bestLessons 44 = .ok (.if_icmp .ge 34, 3) := by decide +kernel
theorem dX7_bestLessons_47 : decode cX7_bestLessons 47 = .ok (.aload_n 0, 1) := by decide +kernel
theorem dX7_bestLessons_48 : decode cX7_bestLessons 48 = .ok (.iload_n 1, 1) := by decide +kernel
theorem dX7_bestLessons_49 : decode cX7_bestLessons 49 = .ok (.iload_n 2, 1) := by decide +kernel
theorem dX7_bestLessons_50 : decode cX7_bestLessons 50 = .ok (.iload 6, 2) := by decide +kernel
theorem dX7_bestLessons_52 : decode cX7_bestLessons 52 = .ok (.invokevirtual 219, 3) := by decide +kernel
theorem dX7_bestLessons_55 : decode cX7_bestLessons 55 = .ok (.istore 7, 2) := by decide +kernel
theorem dX7_bestLessons_57 : decode cX7_bestLessons 57 = .ok (.iload 7, 2) := by decide +kernel
theorem dX7_bestLessons_59 : decode cX7_bestLessons 59 = .ok (.iload 5, 2) := by decide +kernel
theorem dX7_bestLessons_61 : decode cX7_bestLessons 61 = .ok (.if_icmp .le 11, 3) := by decide +kernel
theorem dX7_bestLessons_64 : decode cX7_bestLessons 64 = .ok (.iload 7, 2) := by decide +kernel
theorem dX7_bestLessons_66 : decode cX7_bestLessons 66 = .ok (.istore 5, 2) := by decide +kernel
theorem dX7_bestLessons_68 : decode cX7_bestLessons 68 = .ok (.iload 6, 2) := by decide +kernel
theorem dX7_bestLessons_70 : decode cX7_bestLessons 70 = .ok (.istore 4, 2) := by decide +kernel
theorem dX7_bestLessons_72 : decode cX7_bestLessons 72 = .ok (.iinc 6 1, 3) := by decide +kernel
theorem dX7_bestLessons_75 : decode cX7_bestLessons 75 = .ok (.goto (-34), 3) := by decide +kernel
theorem dX7_bestLessons_78 : decode cX7_bestLessons 78 = .ok (.iload 4, 2) := by decide +kernel
theorem dX7_bestLessons_80 : decode cX7_bestLessons 80 = .ok (.ireturn, 1) := by decide +kernel
theorem dX7_pupil_0 : decode cX7_pupil 0 = .ok (.aload_n 0, 1) := by decide +kernel
theorem dX7_pupil_1 : decode cX7_pupil 1 = .ok (.getfield 62, 3) := by decide +kernel
theorem dX7_pupil_4 : decode cX7_pupil 4 = .ok (.getfield 79, 3) := by decide +kernel
theorem dX7_pupil_7 : decode cX7_pupil 7 = .ok (.ifCond .ne 5, 3) := by decide +kernel
theorem dX7_pupil_10 : decode cX7_pupil 10 = .ok (.iconst 0, 1) := by decide +kernel
theorem dX7_pupil_11 : decode cX7_pupil 11 = .ok (.ireturn, 1) := by decide +kernel
theorem dX7_pupil_12 : decode cX7_pupil 12 = .ok (.iload_n 1, 1) := by decide +kernel
theorem dX7_pupil_13 : decode cX7_pupil 13 = .ok (.istore 4, 2) := by decide +kernel
theorem dX7_pupil_15 : decode cX7_pupil 15 = .ok (.iload_n 3, 1) := by decide +kernel
theorem dX7_pupil_16 : decode cX7_pupil 16 = .ok (.iconst 1, 1) := by decide +kernel
theorem dX7_pupil_17 : decode cX7_pupil 17 = .ok (.iadd, 1) := by decide +kernel
theorem dX7_pupil_18 : decode cX7_pupil 18 = .ok (.istore 5, 2) := by decide +kernel
theorem dX7_pupil_20 : decode cX7_pupil 20 = .ok (.iload 5, 2) := by decide +kernel
theorem dX7_pupil_22 : decode cX7_pupil 22 = .ok (.iload_n 2, 1) := by decide +kernel
theorem dX7_pupil_23 : decode cX7_pupil 23 = .ok (.if_icmp .ge 21, 3) := by decide +kernel
theorem dX7_pupil_26 : decode cX7_pupil 26 = .ok (.iload 4, 2) := by decide +kernel
theorem dX7_pupil_28 : decode cX7_pupil 28 = .ok (.aload_n 0, 1) := by decide +kernel
theorem dX7_pupil_29 : decode cX7_pupil 29 = .ok (.getfield 62, 3) := by decide +kernel
theorem dX7_pupil_32 : decode cX7_pupil 32 = .ok (.getfield 79, 3) := by decide +kernel
theorem dX7_pupil_35 : decode cX7_pupil 35 = .ok (.idiv, 1) := by decide +kernel
theorem dX7_pupil_36 : decode cX7_pupil 36 = .ok (.istore 4, 2) := by decide +kernel
theorem dX7_pupil_38 : decode cX7_pupil 38 = .ok (.iinc 5 1, 3) := by decide +kernel
theorem dX7_pupil_41 : decode cX7_pupil 41 = .ok (.goto (-21), 3) := by decide +kernel
theorem dX7_pupil_44 : decode cX7_pupil 44 = .ok (.iload 4, 2) := by decide +kernel
theorem dX7_pupil_46 : decode cX7_pupil 46 = .ok (.aload_n 0, 1) := by decide +kernel
theorem dX7_pupil_47 : decode cX7_pupil 47 = .ok (.getfield 62, 3) := by decide +kernel
theorem dX7_pupil_50 : decode cX7_pupil 50 = .ok (.getfield 79, 3) := by decide +kernel
theorem dX7_pupil_53 : decode cX7_pupil 53 = .ok (.irem, 1) := by decide +kernel
theorem dX7_pupil_54 : decode cX7_pupil 54 = .ok (.ireturn, 1) := by decide +kernel
theorem dX7_letByLessons_0 : decode cX7_letByLessons 0 = .ok (.aload_n 0, 1) := by decide +kernel
theorem dX7_letByLessons_1 : decode cX7_letByLessons 1 = .ok (.getfield 37, 3) := by decide +kernel
theorem dX7_letByLessons_4 : decode cX7_letByLessons 4 = .ok (.aload_n 0, 1) := by decide +kernel
theorem dX7_letByLessons_5 : decode cX7_letByLessons 5 = .ok (.getfield 62, 3) := by decide +kernel
theorem dX7_letByLessons_8 : decode cX7_letByLessons 8 = .ok (.getfield 135, 3) := by decide +kernel
theorem dX7_letByLessons_11 : decode cX7_letByLessons 11 = .ok (.iload_n 1, 1) := by decide +kernel
theorem dX7_letByLessons_12 : decode cX7_letByLessons 12 = .ok (.aaload, 1) := by decide +kernel
theorem dX7_letByLessons_13 : decode cX7_letByLessons 13 = .ok (.invokevirtual 226, 3) := by decide +kernel
theorem dX7_letByLessons_16 : decode cX7_letByLessons 16 = .ok (.iconst 0, 1) := by decide +kernel
theorem dX7_letByLessons_17 : decode cX7_letByLessons 17 = .ok (.istore 4, 2) := by decide +kernel
theorem dX7_letByLessons_19 : decode cX7_letByLessons 19 = .ok (.iload 4, 2) := by decide +kernel
theorem dX7_letByLessons_21 : decode cX7_letByLessons 21 = .ok (.iload_n 2, 1) := by decide +kernel
theorem dX7_letByLessons_22 : decode cX7_letByLessons 22 = .ok (.if_icmp .ge 36, 3) := by decide +kernel
theorem dX7_letByLessons_25 : decode cX7_letByLessons 25 = .ok (.aload_n 0, 1) := by decide +kernel
theorem dX7_letByLessons_26 : decode cX7_letByLessons 26 = .ok (.getfield 37, 3) := by decide +kernel
theorem dX7_letByLessons_29 : decode cX7_letByLessons 29 = .ok (.aload_n 0, 1) := by decide +kernel
theorem dX7_letByLessons_30 : decode cX7_letByLessons 30 = .ok (.getfield 62, 3) := by decide +kernel
theorem dX7_letByLessons_33 : decode cX7_letByLessons 33 = .ok (.getfield 94, 3) := by decide +kernel
theorem dX7_letByLessons_36 : decode cX7_letByLessons 36 = .ok (.aload_n 0, 1) := by decide +kernel
theorem dX7_letByLessons_37 : decode cX7_letByLessons 37 = .ok (.iload_n 3, 1) := by decide +kernel
theorem dX7_letByLessons_38 : decode cX7_letByLessons 38 = .ok (.iload_n 2, 1) := by decide +kernel
theorem dX7_letByLessons_39 : decode cX7_letByLessons 39 = .ok (.iload 4, 2) := by decide +kernel
theorem dX7_letByLessons_41 : decode cX7_letByLessons 41 = .ok (.invokevirtual 223, 3) := by decide +kernel
theorem dX7_letByLessons_44 : decode cX7_letByLessons 44 = .ok (.aaload, 1) := by decide +kernel
theorem dX7_letByLessons_45 : decode cX7_letByLessons 45 = .ok (.getfield 120, 3) := by decide +kernel
theorem dX7_letByLessons_48 : decode cX7_letByLessons 48 = .ok (.invokevirtual 156, 3) := by decide +kernel
theorem dX7_letByLessons_51 : decode cX7_letByLessons 51 = .ok (.pop, 1) := by decide +kernel
theorem dX7_letByLessons_52 : decode cX7_letByLessons 52 = .ok (.iinc 4 1, 3) := by decide +kernel
theorem dX7_letByLessons_55 : decode cX7_letByLessons 55 = .ok (.goto (-36), 3) := by decide +kernel
theorem dX7_letByLessons_58 : decode cX7_letByLessons 58 = .ok (.iconst 0, 1) := by decide +kernel
theorem dX7_letByLessons_59 : decode cX7_letByLessons 59 = .ok (.istore 4, 2) := by decide +kernel
theorem dX7_letByLessons_61 : decode cX7_letByLessons 61 = .ok (.iconst 0, 1) := by decide +kernel
theorem dX7_letByLessons_62 : decode cX7_letByLessons 62 = .ok (.istore 5, 2) := by decide +kernel
theorem dX7_letByLessons_64 : decode cX7_letByLessons 64 = .ok (.iload 5, 2) := by decide +kernel
theorem dX7_letByLessons_66 : decode cX7_letByLessons 66 = .ok (.aload_n 0, 1) := by decide +kernel
theorem dX7_letByLessons_67 : decode cX7_letByLessons 67 = .ok (.getfield 62, 3) := by decide +kernel
theorem dX7_letByLessons_70 : decode cX7_letByLessons 70 = .ok (.getfield 79, 3) := by decide +kernel
theorem dX7_letByLessons_73 : decode cX7_letByLessons 73 = .ok (.if_icmp .ge 42, 3) := by decide +kernel
theorem dX7_letByLessons_76 : decode cX7_letByLessons 76 = .ok (.aload_n 0, 1) := by decide +kernel
theorem dX7_letByLessons_77 : decode cX7_letByLessons 77 = .ok (.getfield 37, 3) := by decide +kernel
theorem dX7_letByLessons_80 : decode cX7_letByLessons 80 = .ok (.aload_n 0, 1) := by decide +kernel
theorem dX7_letByLessons_81 : decode cX7_letByLessons 81 = .ok (.getfield 62, 3) := by decide +kernel
theorem dX7_letByLessons_84 : decode cX7_letByLessons 84 = .ok (.getfield 94, 3) := by decide +kernel
theorem dX7_letByLessons_87 : decode cX7_letByLessons 87 = .ok (.iload 5, 2) := by decide +kernel
theorem dX7_letByLessons_89 : decode cX7_letByLessons 89 = .ok (.aaload, 1) := by decide +kernel
theorem dX7_letByLessons_90 : decode cX7_letByLessons 90 = .ok (.getfield 120, 3) := by decide +kernel
theorem dX7_letByLessons_93 : decode cX7_letByLessons 93 = .ok (.aload_n 0, 1) := by decide +kernel
theorem dX7_letByLessons_94 : decode cX7_letByLessons 94 = .ok (.getfield 50, 3) := by decide +kernel
theorem dX7_letByLessons_97 : decode cX7_letByLessons 97 = .ok (.iload 5, 2) := by decide +kernel
theorem dX7_letByLessons_99 : decode cX7_letByLessons 99 = .ok (.iaload, 1) := by decide +kernel
theorem dX7_letByLessons_100 : decode cX7_letByLessons 100 = .ok (.invokevirtual 229, 3) := by decide +kernel
theorem dX7_letByLessons_103 : decode cX7_letByLessons 103 = .ok (.ifCond .eq 6, 3) := by decide +kernel
theorem dX7_letByLessons_106 : decode cX7_letByLessons 106 = .ok (.iinc 4 1, 3) := by decide +kernel
theorem dX7_letByLessons_109 : decode cX7_letByLessons 109 = .ok (.iinc 5 1, 3) := by decide +kernel
theorem dX7_letByLessons_112 : decode cX7_letByLessons 112 = .ok (.goto (-48), 3) := by decide +kernel
theorem dX7_letByLessons_115 : decode cX7_letByLessons 115 = .ok (.iload 4, 2) := by decide +kernel
theorem dX7_letByLessons_117 : decode cX7_letByLessons 117 = .ok (.ireturn, 1) := by decide +kernel
theorem dX7_feign_0 : decode cX7_feign 0 = .ok (.aload_n 0, 1) := by decide +kernel
theorem dX7_feign_1 : decode cX7_feign 1 = .ok (.iload_n 1, 1) := by decide +kernel
theorem dX7_feign_2 : decode cX7_feign 2 = .ok (.invokevirtual 102, 3) := by decide +kernel
theorem dX7_feign_5 : decode cX7_feign 5 = .ok (.ifCond .eq 19, 3) := by decide +kernel
theorem dX7_feign_8 : decode cX7_feign 8 = .ok (.iload_n 2, 1) := by decide +kernel
theorem dX7_feign_9 : decode cX7_feign 9 = .ok (.iconst 4, 1) := by decide +kernel
theorem dX7_feign_10 : decode cX7_feign 10 = .ok (.invokestatic 83, 3) := by decide +kernel
theorem dX7_feign_13 : decode cX7_feign 13 = .ok (.ifCond .eq 11, 3) := by decide +kernel
theorem dX7_feign_16 : decode cX7_feign 16 = .ok (.iload_n 3, 1) := by decide +kernel
theorem dX7_feign_17 : decode cX7_feign 17 = .ok (.iconst 2, 1) := by decide +kernel
theorem dX7_feign_18 : decode cX7_feign 18 = .ok (.invokestatic 83, 3) := by decide +kernel
theorem dX7_feign_21 : decode cX7_feign 21 = .ok (.ifCond .ne 5, 3) := by decide +kernel
theorem dX7_feign_24 : decode cX7_feign 24 = .ok (.iconst (-1), 1) := by decide +kernel
theorem dX7_feign_25 : decode cX7_feign 25 = .ok (.ireturn, 1) := by decide +kernel
theorem dX7_feign_26 : decode cX7_feign 26 = .ok (.aload_n 0, 1) := by decide +kernel
theorem dX7_feign_27 : decode cX7_feign 27 = .ok (.getfield 62, 3) := by decide +kernel
theorem dX7_feign_30 : decode cX7_feign 30 = .ok (.getfield 94, 3) := by decide +kernel
theorem dX7_feign_33 : decode cX7_feign 33 = .ok (.iload_n 1, 1) := by decide +kernel
theorem dX7_feign_34 : decode cX7_feign 34 = .ok (.aaload, 1) := by decide +kernel
theorem dX7_feign_35 : decode cX7_feign 35 = .ok (.astore 4, 2) := by decide +kernel
theorem dX7_feign_37 : decode cX7_feign 37 = .ok (.aload_n 0, 1) := by decide +kernel
theorem dX7_feign_38 : decode cX7_feign 38 = .ok (.getfield 62, 3) := by decide +kernel
theorem dX7_feign_41 : decode cX7_feign 41 = .ok (.aload 4, 2) := by decide +kernel
theorem dX7_feign_43 : decode cX7_feign 43 = .ok (.iload_n 2, 1) := by decide +kernel
theorem dX7_feign_44 : decode cX7_feign 44 = .ok (.invokevirtual 202, 3) := by decide +kernel
theorem dX7_feign_47 : decode cX7_feign 47 = .ok (.istore 5, 2) := by decide +kernel
theorem dX7_feign_49 : decode cX7_feign 49 = .ok (.bipush 13, 2) := by decide +kernel
theorem dX7_feign_51 : decode cX7_feign 51 = .ok (.istore 6, 2) := by decide +kernel
theorem dX7_feign_53 : decode cX7_feign 53 = .ok (.bipush (-5), 2) := by decide +kernel
theorem dX7_feign_55 : decode cX7_feign 55 = .ok (.istore 7, 2) := by decide +kernel
theorem dX7_feign_57 : decode cX7_feign 57 = .ok (.iconst 0, 1) := by decide +kernel
theorem dX7_feign_58 : decode cX7_feign 58 = .ok (.istore 8, 2) := by decide +kernel
theorem dX7_feign_60 : decode cX7_feign 60 = .ok (.iload 8, 2) := by decide +kernel
theorem dX7_feign_62 : decode cX7_feign 62 = .ok (.sipush 4096, 3) := by decide +kernel
theorem dX7_feign_65 : decode cX7_feign 65 = .ok (.if_icmp .ge 58, 3) := by decide +kernel
theorem dX7_feign_68 : decode cX7_feign 68 = .ok (.bipush 12, 2) := by decide +kernel
theorem dX7_feign_70 : decode cX7_feign 70 = .ok (.aload 4, 2) := by decide +kernel
theorem dX7_feign_72 : decode cX7_feign 72 = .ok (.getfield 120, 3) := by decide +kernel
theorem dX7_feign_75 : decode cX7_feign 75 = .ok (.iload 8, 2) := by decide +kernel
theorem dX7_feign_77 : decode cX7_feign 77 = .ok (.invokestatic 208, 3) := by decide +kernel
theorem dX7_feign_80 : decode cX7_feign 80 = .ok (.isub, 1) := by decide +kernel
theorem dX7_feign_81 : decode cX7_feign 81 = .ok (.istore 9, 2) := by decide +kernel
theorem dX7_feign_83 : decode cX7_feign 83 = .ok (.iload 9, 2) := by decide +kernel
theorem dX7_feign_85 : decode cX7_feign 85 = .ok (.iload 6, 2) := by decide +kernel
theorem dX7_feign_87 : decode cX7_feign 87 = .ok (.if_icmp .ge 30, 3) := by decide +kernel
theorem dX7_feign_90 : decode cX7_feign 90 = .ok (.aload_n 0, 1) := by decide +kernel
theorem dX7_feign_91 : decode cX7_feign 91 = .ok (.getfield 62, 3) := by decide +kernel
theorem dX7_feign_94 : decode cX7_feign 94 = .ok (.getfield 135, 3) := by decide +kernel
theorem dX7_feign_97 : decode cX7_feign 97 = .ok (.iload_n 2, 1) := by decide +kernel
theorem dX7_feign_98 : decode cX7_feign 98 = .ok (.aaload, 1) := by decide +kernel
theorem dX7_feign_99 : decode cX7_feign 99 = .ok (.iload 8, 2) := by decide +kernel
theorem dX7_feign_101 : decode cX7_feign 101 = .ok (.iload 5, 2) := by decide +kernel
theorem dX7_feign_103 : decode cX7_feign 103 = .ok (.invokevirtual 229, 3) := by decide +kernel
theorem dX7_feign_106 : decode cX7_feign 106 = .ok (.ifCond .eq 11, 3) := by decide +kernel
theorem dX7_feign_109 : decode cX7_feign 109 = .ok (.iload 9, 2) := by decide +kernel
theorem dX7_feign_111 : decode cX7_feign 111 = .ok (.istore 6, 2) := by decide +kernel
theorem dX7_feign_113 : decode cX7_feign 113 = .ok (.iload 8, 2) := by decide +kernel
theorem dX7_feign_115 : decode cX7_feign 115 = .ok (.istore 7, 2) := by decide +kernel
theorem dX7_feign_117 : decode cX7_feign 117 = .ok (.iinc 8 1, 3) := by decide +kernel
theorem dX7_feign_120 : decode cX7_feign 120 = .ok (.goto (-60), 3) := by decide +kernel
theorem dX7_feign_123 : decode cX7_feign 123 = .ok (.iload 7, 2) := by decide +kernel
theorem dX7_feign_125 : decode cX7_feign 125 = .ok (.bipush (-5), 2) := by decide +kernel
theorem dX7_feign_127 : decode cX7_feign 127 = .ok (.if_icmp .eq 8, 3) := by decide +kernel
theorem dX7_feign_130 : decode cX7_feign 130 = .ok (.iload_n 3, 1) := by decide +kernel
theorem dX7_feign_131 : decode cX7_feign 131 = .ok (.iconst 1, 1) := by decide +kernel
theorem dX7_feign_132 : decode cX7_feign 132 = .ok (.if_icmp .ne 8, 3) := by decide +kernel
theorem dX7_feign_135 : decode cX7_feign 135 = .ok (.iload 7, 2) := by decide +kernel
theorem dX7_feign_137 : decode cX7_feign 137 = .ok (.goto 5, 3) := by decide +kernel
theorem dX7_feign_140 : decode cX7_feign 140 = .ok (.iload 6, 2) := by decide +kernel
theorem dX7_feign_142 : decode cX7_feign 142 = .ok (.ireturn, 1) := by decide +kernel
theorem dX7_see_0 : decode cX7_see 0 = .ok (.iload_n 1, 1) := by decide +kernel
theorem dX7_see_1 : decode cX7_see 1 = .ok (.iconst (-1), 1) := by decide +kernel
theorem dX7_see_2 : decode cX7_see 2 = .ok (.if_icmp .ne 14, 3) := by decide +kernel
theorem dX7_see_5 : decode cX7_see 5 = .ok (.aload_n 0, 1) := by decide +kernel
theorem dX7_see_6 : decode cX7_see 6 = .ok (.getfield 62, 3) := by decide +kernel
theorem dX7_see_9 : decode cX7_see 9 = .ok (.getfield 232, 3) := by decide +kernel
theorem dX7_see_12 : decode cX7_see 12 = .ok (.invokevirtual 236, 3) := by decide +kernel
theorem dX7_see_15 : decode cX7_see 15 = .ok (.ireturn, 1) := by decide +kernel
theorem dX7_see_16 : decode cX7_see 16 = .ok (.aload_n 0, 1) := by decide +kernel
theorem dX7_see_17 : decode cX7_see 17 = .ok (.iload_n 1, 1) := by decide +kernel
theorem dX7_see_18 : decode cX7_see 18 = .ok (.invokevirtual 102, 3) := by decide +kernel
theorem dX7_see_21 : decode cX7_see 21 = .ok (.ifCond .eq 11, 3) := by decide +kernel
theorem dX7_see_24 : decode cX7_see 24 = .ok (.iload_n 2, 1) := by decide +kernel
theorem dX7_see_25 : decode cX7_see 25 = .ok (.iconst 4, 1) := by decide +kernel
theorem dX7_see_26 : decode cX7_see 26 = .ok (.invokestatic 83, 3) := by decide +kernel
theorem dX7_see_29 : decode cX7_see 29 = .ok (.ifCond .ne 5, 3) := by decide +kernel
theorem dX7_see_32 : decode cX7_see 32 = .ok (.iconst (-1), 1) := by decide +kernel
theorem dX7_see_33 : decode cX7_see 33 = .ok (.ireturn, 1) := by decide +kernel
theorem dX7_see_34 : decode cX7_see 34 = .ok (.aload_n 0, 1) := by decide +kernel
theorem dX7_see_35 : decode cX7_see 35 = .ok (.getfield 62, 3) := by decide +kernel
theorem dX7_see_38 : decode cX7_see 38 = .ok (.getfield 232, 3) := by decide +kernel
theorem dX7_see_41 : decode cX7_see 41 = .ok (.iload_n 1, 1) := by decide +kernel
theorem dX7_see_42 : decode cX7_see 42 = .ok (.iload_n 2, 1) := by decide +kernel
theorem dX7_see_43 : decode cX7_see 43 = .ok (.iload_n 3, 1) := by decide +kernel
theorem dX7_see_44 : decode cX7_see 44 = .ok (.ifCond .eq 7, 3) := by decide +kernel
theorem dX7_see_47 : decode cX7_see 47 = .ok (.iconst 1, 1) := by decide +kernel
theorem dX7_see_48 : decode cX7_see 48 = .ok (.goto 4, 3) := by decide +kernel
theorem dX7_see_51 : decode cX7_see 51 = .ok (.iconst 0, 1) := by decide +kernel
theorem dX7_see_52 : decode cX7_see 52 = .ok (.invokevirtual 241, 3) := by decide +kernel
theorem dX7_see_55 : decode cX7_see 55 = .ok (.ireturn, 1) := by decide +kernel
theorem dX7_wrong_0 : decode cX7_wrong 0 = .ok (.aload_n 0, 1) := by decide +kernel
theorem dX7_wrong_1 : decode cX7_wrong 1 = .ok (.getfield 62, 3) := by decide +kernel
theorem dX7_wrong_4 : decode cX7_wrong 4 = .ok (.getfield 232, 3) := by decide +kernel
theorem dX7_wrong_7 : decode cX7_wrong 7 = .ok (.astore_n 1, 1) := by decide +kernel
theorem dX7_wrong_8 : decode cX7_wrong 8 = .ok (.iconst 0, 1) := by decide +kernel
theorem dX7_wrong_9 : decode cX7_wrong 9 = .ok (.istore_n 2, 1) := by decide +kernel
theorem dX7_wrong_10 : decode cX7_wrong 10 = .ok (.iload_n 2, 1) := by decide +kernel
theorem dX7_wrong_11 : decode cX7_wrong 11 = .ok (.aload_n 1, 1) := by decide +kernel
theorem dX7_wrong_12 : decode cX7_wrong 12 = .ok (.getfield 244, 3) := by decide +kernel
theorem dX7_wrong_15 : decode cX7_wrong 15 = .ok (.if_icmp .ge 58, 3) := by decide +kernel
theorem dX7_wrong_18 : decode cX7_wrong 18 = .ok (.aload_n 0, 1) := by decide +kernel
theorem dX7_wrong_19 : decode cX7_wrong 19 = .ok (.getfield 62, 3) := by decide +kernel
theorem dX7_wrong_22 : decode cX7_wrong 22 = .ok (.aload_n 0, 1) := by decide +kernel
theorem dX7_wrong_23 : decode cX7_wrong 23 = .ok (.getfield 62, 3) := by decide +kernel
theorem dX7_wrong_26 : decode cX7_wrong 26 = .ok (.getfield 94, 3) := by decide +kernel
theorem dX7_wrong_29 : decode cX7_wrong 29 = .ok (.aload_n 1, 1) := by decide +kernel
theorem dX7_wrong_30 : decode cX7_wrong 30 = .ok (.getfield 245, 3) := by decide +kernel
theorem dX7_wrong_33 : decode cX7_wrong 33 = .ok (.iload_n 2, 1) := by decide +kernel
theorem dX7_wrong_34 : decode cX7_wrong 34 = .ok (.iaload, 1) := by decide +kernel
theorem dX7_wrong_35 : decode cX7_wrong 35 = .ok (.aaload, 1) := by decide +kernel
theorem dX7_wrong_36 : decode cX7_wrong 36 = .ok (.aload_n 1, 1) := by decide +kernel
theorem dX7_wrong_37 : decode cX7_wrong 37 = .ok (.getfield 248, 3) := by decide +kernel
theorem dX7_wrong_40 : decode cX7_wrong 40 = .ok (.iload_n 2, 1) := by decide +kernel
theorem dX7_wrong_41 : decode cX7_wrong 41 = .ok (.iaload, 1) := by decide +kernel
theorem dX7_wrong_42 : decode cX7_wrong 42 = .ok (.invokevirtual 106, 3) := by decide +kernel
theorem dX7_wrong_45 : decode cX7_wrong 45 = .ok (.istore_n 3, 1) := by decide +kernel
theorem dX7_wrong_46 : decode cX7_wrong 46 = .ok (.iload_n 3, 1) := by decide +kernel
theorem dX7_wrong_47 : decode cX7_wrong 47 = .ok (.aload_n 1, 1) := by decide +kernel
theorem dX7_wrong_48 : decode cX7_wrong 48 = .ok (.getfield 251, 3) := by decide +kernel
theorem dX7_wrong_51 : decode cX7_wrong 51 = .ok (.iload_n 2, 1) := by decide +kernel
theorem dX7_wrong_52 : decode cX7_wrong 52 = .ok (.iaload, 1) := by decide +kernel
theorem dX7_wrong_53 : decode cX7_wrong 53 = .ok (.iconst 1, 1) := by decide +kernel
theorem dX7_wrong_54 : decode cX7_wrong 54 = .ok (.if_icmp .ne 7, 3) := by decide +kernel
theorem dX7_wrong_57 : decode cX7_wrong 57 = .ok (.iconst 1, 1) := by decide +kernel
theorem dX7_wrong_58 : decode cX7_wrong 58 = .ok (.goto 4, 3) := by decide +kernel
theorem dX7_wrong_61 : decode cX7_wrong 61 = .ok (.iconst 0, 1) := by decide +kernel
theorem dX7_wrong_62 : decode cX7_wrong 62 = .ok (.if_icmp .eq 5, 3) := by decide +kernel
theorem dX7_wrong_65 : decode cX7_wrong 65 = .ok (.iload_n 2, 1) := by decide +kernel
theorem dX7_wrong_66 : decode cX7_wrong 66 = .ok (.ireturn, 1) := by decide +kernel
theorem dX7_wrong_67 : decode cX7_wrong 67 = .ok (.iinc 2 1, 3) := by decide +kernel
theorem dX7_wrong_70 : decode cX7_wrong 70 = .ok (.goto (-60), 3) := by decide +kernel
theorem dX7_wrong_73 : decode cX7_wrong 73 = .ok (.bipush (-5), 2) := by decide +kernel
theorem dX7_wrong_75 : decode cX7_wrong 75 = .ok (.ireturn, 1) := by decide +kernel
theorem dX7_can_0 : decode cX7_can 0 = .ok (.aload_n 0, 1) := by decide +kernel
theorem dX7_can_1 : decode cX7_can 1 = .ok (.iload_n 1, 1) := by decide +kernel
theorem dX7_can_2 : decode cX7_can 2 = .ok (.invokevirtual 102, 3) := by decide +kernel
theorem dX7_can_5 : decode cX7_can 5 = .ok (.ifCond .eq 19, 3) := by decide +kernel
theorem dX7_can_8 : decode cX7_can 8 = .ok (.iload_n 2, 1) := by decide +kernel
theorem dX7_can_9 : decode cX7_can 9 = .ok (.iconst 2, 1) := by decide +kernel
theorem dX7_can_10 : decode cX7_can 10 = .ok (.invokestatic 83, 3) := by decide +kernel
theorem dX7_can_13 : decode cX7_can 13 = .ok (.ifCond .eq 11, 3) := by decide +kernel
theorem dX7_can_16 : decode cX7_can 16 = .ok (.iload_n 3, 1) := by decide +kernel
theorem dX7_can_17 : decode cX7_can 17 = .ok (.iconst 2, 1) := by decide +kernel
theorem dX7_can_18 : decode cX7_can 18 = .ok (.invokestatic 83, 3) := by decide +kernel
theorem dX7_can_21 : decode cX7_can 21 = .ok (.ifCond .ne 5, 3) := by decide +kernel
theorem dX7_can_24 : decode cX7_can 24 = .ok (.iconst (-1), 1) := by decide +kernel
theorem dX7_can_25 : decode cX7_can 25 = .ok (.ireturn, 1) := by decide +kernel
theorem dX7_can_26 : decode cX7_can 26 = .ok (.iload_n 2, 1) := by decide +kernel
theorem dX7_can_27 : decode cX7_can 27 = .ok (.ifCond .ne 12, 3) := by decide +kernel
theorem dX7_can_30 : decode cX7_can 30 = .ok (.aload_n 0, 1) := by decide +kernel
theorem dX7_can_31 : decode cX7_can 31 = .ok (.iload_n 1, 1) := by decide +kernel
theorem dX7_can_32 : decode cX7_can 32 = .ok (.iload_n 3, 1) := by decide +kernel
theorem dX7_can_33 : decode cX7_can 33 = .ok (.invokevirtual 254, 3) := by decide +kernel
theorem dX7_can_36 : decode cX7_can 36 = .ok (.goto 9, 3) := by decide +kernel
theorem dX7_can_39 : decode cX7_can 39 = .ok (.aload_n 0, 1) := by decide +kernel
theorem dX7_can_40 : decode cX7_can 40 = .ok (.iload_n 1, 1) := by decide +kernel
theorem dX7_can_41 : decode cX7_can 41 = .ok (.iload_n 3, 1) := by decide +kernel
theorem dX7_can_42 : decode cX7_can 42 = .ok (.invokevirtual 257, 3) := by decide +kernel
theorem dX7_can_45 : decode cX7_can 45 = .ok (.ireturn, 1) := by decide +kernel
theorem dX7_walksBySeen_0 : decode cX7_walksBySeen 0 = .ok (.aload_n 0, 1) := by decide +kernel
theorem dX7_walksBySeen_1 : decode cX7_walksBySeen 1 = .ok (.getfield 46, 3) := by decide +kernel
theorem dX7_walksBySeen_4 : decode cX7_walksBySeen 4 = .ok (.aload_n 0, 1) := by decide +kernel
theorem dX7_walksBySeen_5 : decode cX7_walksBySeen 5 = .ok (.getfield 62, 3) := by decide +kernel
theorem dX7_walksBySeen_8 : decode cX7_walksBySeen 8 = .ok (.getfield 94, 3) := by decide +kernel
theorem dX7_walksBySeen_11 : decode cX7_walksBySeen 11 = .ok (.iload_n 1, 1) := by decide +kernel
theorem dX7_walksBySeen_12 : decode cX7_walksBySeen 12 = .ok (.aaload, 1) := by decide +kernel
theorem dX7_walksBySeen_13 : decode cX7_walksBySeen 13 = .ok (.invokevirtual 260, 3) := by decide +kernel
theorem dX7_walksBySeen_16 : decode cX7_walksBySeen 16 = .ok (.aload_n 0, 1) := by decide +kernel
theorem dX7_walksBySeen_17 : decode cX7_walksBySeen 17 = .ok (.invokevirtual 262, 3) := by decide +kernel
theorem dX7_walksBySeen_20 : decode cX7_walksBySeen 20 = .ok (.iconst 0, 1) := by decide +kernel
theorem dX7_walksBySeen_21 : decode cX7_walksBySeen 21 = .ok (.istore_n 3, 1) := by decide +kernel
theorem dX7_walksBySeen_22 : decode cX7_walksBySeen 22 = .ok (.bipush (-5), 2) := by decide +kernel
theorem dX7_walksBySeen_24 : decode cX7_walksBySeen 24 = .ok (.istore 4, 2) := by decide +kernel
theorem dX7_walksBySeen_26 : decode cX7_walksBySeen 26 = .ok (.sipush 4095, 3) := by decide +kernel
theorem dX7_walksBySeen_29 : decode cX7_walksBySeen 29 = .ok (.istore 5, 2) := by decide +kernel
theorem dX7_walksBySeen_31 : decode cX7_walksBySeen 31 = .ok (.iload 5, 2) := by decide +kernel
theorem dX7_walksBySeen_33 : decode cX7_walksBySeen 33 = .ok (.ifCond .lt 32, 3) := by decide +kernel
theorem dX7_walksBySeen_36 : decode cX7_walksBySeen 36 = .ok (.aload_n 0, 1) := by decide +kernel
theorem dX7_walksBySeen_37 : decode cX7_walksBySeen 37 = .ok (.getfield 46, 3) := by decide +kernel
theorem dX7_walksBySeen_40 : decode cX7_walksBySeen 40 = .ok (.iload 5, 2) := by decide +kernel
theorem dX7_walksBySeen_42 : decode cX7_walksBySeen 42 = .ok (.putfield 120, 3) := by decide +kernel
theorem dX7_walksBySeen_45 : decode cX7_walksBySeen 45 = .ok (.aload_n 0, 1) := by decide +kernel
theorem dX7_walksBySeen_46 : decode cX7_walksBySeen 46 = .ok (.invokevirtual 265, 3) := by decide +kernel
theorem dX7_walksBySeen_49 : decode cX7_walksBySeen 49 = .ok (.ifCond .eq 10, 3) := by decide +kernel
theorem dX7_walksBySeen_52 : decode cX7_walksBySeen 52 = .ok (.iinc 3 1, 3) := by decide +kernel
theorem dX7_walksBySeen_55 : decode cX7_walksBySeen 55 = .ok (.iload 5, 2) := by decide +kernel
theorem dX7_walksBySeen_57 : decode cX7_walksBySeen 57 = .ok (.istore 4, 2) := by decide +kernel
theorem dX7_walksBySeen_59 : decode cX7_walksBySeen 59 = .ok (.iinc 5 (-1), 3) := by decide +kernel
theorem dX7_walksBySeen_62 : decode cX7_walksBySeen 62 = .ok (.goto (-31), 3) := by decide +kernel
theorem dX7_walksBySeen_65 : decode cX7_walksBySeen 65 = .ok (.iload_n 2, 1) := by decide +kernel
theorem dX7_walksBySeen_66 : decode cX7_walksBySeen 66 = .ok (.ifCond .ne 7, 3) := by decide +kernel
theorem dX7_walksBySeen_69 : decode cX7_walksBySeen 69 = .ok (.iload_n 3, 1) := by decide +kernel
theorem dX7_walksBySeen_70 : decode cX7_walksBySeen 70 = .ok (.goto 5, 3) := by decide +kernel
theorem dX7_walksBySeen_73 : decode cX7_walksBySeen 73 = .ok (.iload 4, 2) := by decide +kernel
theorem dX7_walksBySeen_75 : decode cX7_walksBySeen 75 = .ok (.ireturn, 1) := by decide +kernel
theorem dX7_numbersBySeen_0 : decode cX7_numbersBySeen 0 = .ok (.aload_n 0, 1) := by decide +kernel
theorem dX7_numbersBySeen_1 : decode cX7_numbersBySeen 1 = .ok (.getfield 46, 3) := by decide +kernel
theorem dX7_numbersBySeen_4 : decode cX7_numbersBySeen 4 = .ok (.aload_n 0, 1) := by decide +kernel
theorem dX7_numbersBySeen_5 : decode cX7_numbersBySeen 5 = .ok (.getfield 62, 3) := by decide +kernel
theorem dX7_numbersBySeen_8 : decode cX7_numbersBySeen 8 = .ok (.getfield 94, 3) := by decide +kernel
theorem dX7_numbersBySeen_11 : decode cX7_numbersBySeen 11 = .ok (.iload_n 1, 1) := by decide +kernel
theorem dX7_numbersBySeen_12 : decode cX7_numbersBySeen 12 = .ok (.aaload, 1) := by decide +kernel
theorem dX7_numbersBySeen_13 : decode cX7_numbersBySeen 13 = .ok (.invokevirtual 260, 3) := by decide +kernel
theorem dX7_numbersBySeen_16 : decode cX7_numbersBySeen 16 = .ok (.iconst 0, 1) := by decide +kernel
theorem dX7_numbersBySeen_17 : decode cX7_numbersBySeen 17 = .ok (.istore_n 3, 1) := by decide +kernel
theorem dX7_numbersBySeen_18 : decode cX7_numbersBySeen 18 = .ok (.bipush (-5), 2) := by decide +kernel
theorem dX7_numbersBySeen_20 : decode cX7_numbersBySeen 20 = .ok (.istore 4, 2) := by decide +kernel
theorem dX7_numbersBySeen_22 : decode cX7_numbersBySeen 22 = .ok (.bipush 9, 2) := by decide +kernel
theorem dX7_numbersBySeen_24 : decode cX7_numbersBySeen 24 = .ok (.istore 5, 2) := by decide +kernel
theorem dX7_numbersBySeen_26 : decode cX7_numbersBySeen 26 = .ok (.iload 5, 2) := by decide +kernel
theorem dX7_numbersBySeen_28 : decode cX7_numbersBySeen 28 = .ok (.ifCond .lt 36, 3) := by decide +kernel
theorem dX7_numbersBySeen_31 : decode cX7_numbersBySeen 31 = .ok (.aload_n 0, 1) := by decide +kernel
theorem dX7_numbersBySeen_32 : decode cX7_numbersBySeen 32 = .ok (.getfield 46, 3) := by decide +kernel
theorem dX7_numbersBySeen_35 : decode cX7_numbersBySeen 35 = .ok (.iload 5, 2) := by decide +kernel
theorem dX7_numbersBySeen_37 : decode cX7_numbersBySeen 37 = .ok (.putfield 117, 3) := by decide +kernel
theorem dX7_numbersBySeen_40 : decode cX7_numbersBySeen 40 = .ok (.aload_n 0, 1) := by decide +kernel
theorem dX7_numbersBySeen_41 : decode cX7_numbersBySeen 41 = .ok (.invokevirtual 262, 3) := by decide +kernel
theorem dX7_numbersBySeen_44 : decode cX7_numbersBySeen 44 = .ok (.aload_n 0, 1) := by decide +kernel
theorem dX7_numbersBySeen_45 : decode cX7_numbersBySeen 45 = .ok (.invokevirtual 265, 3) := by decide +kernel
theorem dX7_numbersBySeen_48 : decode cX7_numbersBySeen 48 = .ok (.ifCond .eq 10, 3) := by decide +kernel
theorem dX7_numbersBySeen_51 : decode cX7_numbersBySeen 51 = .ok (.iinc 3 1, 3) := by decide +kernel
theorem dX7_numbersBySeen_54 : decode cX7_numbersBySeen 54 = .ok (.iload 5, 2) := by decide +kernel
theorem dX7_numbersBySeen_56 : decode cX7_numbersBySeen 56 = .ok (.istore 4, 2) := by decide +kernel
theorem dX7_numbersBySeen_58 : decode cX7_numbersBySeen 58 = .ok (.iinc 5 (-1), 3) := by decide +kernel
theorem dX7_numbersBySeen_61 : decode cX7_numbersBySeen 61 = .ok (.goto (-35), 3) := by decide +kernel
theorem dX7_numbersBySeen_64 : decode cX7_numbersBySeen 64 = .ok (.iload_n 2, 1) := by decide +kernel
theorem dX7_numbersBySeen_65 : decode cX7_numbersBySeen 65 = .ok (.ifCond .ne 7, 3) := by decide +kernel
theorem dX7_numbersBySeen_68 : decode cX7_numbersBySeen 68 = .ok (.iload_n 3, 1) := by decide +kernel
theorem dX7_numbersBySeen_69 : decode cX7_numbersBySeen 69 = .ok (.goto 5, 3) := by decide +kernel
theorem dX7_numbersBySeen_72 : decode cX7_numbersBySeen 72 = .ok (.iload 4, 2) := by decide +kernel
theorem dX7_numbersBySeen_74 : decode cX7_numbersBySeen 74 = .ok (.ireturn, 1) := by decide +kernel
theorem dX7_askNeededByGate_0 : decode cX7_askNeededByGate 0 = .ok (.iconst 0, 1) := by decide +kernel
theorem dX7_askNeededByGate_1 : decode cX7_askNeededByGate 1 = .ok (.istore_n 1, 1) := by decide +kernel
theorem dX7_askNeededByGate_2 : decode cX7_askNeededByGate 2 = .ok (.iload_n 1, 1) := by decide +kernel
theorem dX7_askNeededByGate_3 : decode cX7_askNeededByGate 3 = .ok (.iconst 4, 1) := by decide +kernel
theorem dX7_askNeededByGate_4 : decode cX7_askNeededByGate 4 = .ok (.if_icmp .ge 27, 3) := by decide +kernel
theorem dX7_askNeededByGate_7 : decode cX7_askNeededByGate 7 = .ok (.aload_n 0, 1) := by decide +kernel
theorem dX7_askNeededByGate_8 : decode cX7_askNeededByGate 8 = .ok (.getfield 53, 3) := by decide +kernel
theorem dX7_askNeededByGate_11 : decode cX7_askNeededByGate 11 = .ok (.iload_n 1, 1) := by decide +kernel
theorem dX7_askNeededByGate_12 : decode cX7_askNeededByGate 12 = .ok (.aload_n 0, 1) := by decide +kernel
theorem dX7_askNeededByGate_13 : decode cX7_askNeededByGate 13 = .ok (.getfield 62, 3) := by decide +kernel
theorem dX7_askNeededByGate_16 : decode cX7_askNeededByGate 16 = .ok (.aload_n 0, 1) := by decide +kernel
theorem dX7_askNeededByGate_17 : decode cX7_askNeededByGate 17 = .ok (.getfield 46, 3) := by decide +kernel
theorem dX7_askNeededByGate_20 : decode cX7_askNeededByGate 20 = .ok (.iload_n 1, 1) := by decide +kernel
theorem dX7_askNeededByGate_21 : decode cX7_askNeededByGate 21 = .ok (.invokevirtual 202, 3) := by decide +kernel
theorem dX7_askNeededByGate_24 : decode cX7_askNeededByGate 24 = .ok (.iastore, 1) := by decide +kernel
theorem dX7_askNeededByGate_25 : decode cX7_askNeededByGate 25 = .ok (.iinc 1 1, 3) := by decide +kernel
theorem dX7_askNeededByGate_28 : decode cX7_askNeededByGate 28 = .ok (.goto (-26), 3) := by decide +kernel
theorem dX7_askNeededByGate_31 : decode cX7_askNeededByGate 31 = .ok (.return_, 1) := by decide +kernel
theorem dX7_isAllSeenSo_0 : decode cX7_isAllSeenSo 0 = .ok (.aload_n 0, 1) := by decide +kernel
theorem dX7_isAllSeenSo_1 : decode cX7_isAllSeenSo 1 = .ok (.getfield 62, 3) := by decide +kernel
theorem dX7_isAllSeenSo_4 : decode cX7_isAllSeenSo 4 = .ok (.getfield 232, 3) := by decide +kernel
theorem dX7_isAllSeenSo_7 : decode cX7_isAllSeenSo 7 = .ok (.astore_n 1, 1) := by decide +kernel
theorem dX7_isAllSeenSo_8 : decode cX7_isAllSeenSo 8 = .ok (.iconst 0, 1) := by decide +kernel
theorem dX7_isAllSeenSo_9 : decode cX7_isAllSeenSo 9 = .ok (.istore_n 2, 1) := by decide +kernel
theorem dX7_isAllSeenSo_10 : decode cX7_isAllSeenSo 10 = .ok (.iload_n 2, 1) := by decide +kernel
theorem dX7_isAllSeenSo_11 : decode cX7_isAllSeenSo 11 = .ok (.aload_n 1, 1) := by decide +kernel
theorem dX7_isAllSeenSo_12 : decode cX7_isAllSeenSo 12 = .ok (.getfield 244, 3) := by decide +kernel
theorem dX7_isAllSeenSo_15 : decode cX7_isAllSeenSo 15 = .ok (.if_icmp .ge 81, 3) := by decide +kernel
theorem dX7_isAllSeenSo_18 : decode cX7_isAllSeenSo 18 = .ok (.aload_n 1, 1) := by decide +kernel
theorem dX7_isAllSeenSo_19 : decode cX7_isAllSeenSo 19 = .ok (.getfield 245, 3) := by decide +kernel
theorem dX7_isAllSeenSo_22 : decode cX7_isAllSeenSo 22 = .ok (.iload_n 2, 1) := by decide +kernel
theorem dX7_isAllSeenSo_23 : decode cX7_isAllSeenSo 23 = .ok (.iaload, 1) := by decide +kernel
theorem dX7_isAllSeenSo_24 : decode cX7_isAllSeenSo 24 = .ok (.aload_n 0, 1) := by decide +kernel
theorem dX7_isAllSeenSo_25 : decode cX7_isAllSeenSo 25 = .ok (.getfield 46, 3) := by decide +kernel
theorem dX7_isAllSeenSo_28 : decode cX7_isAllSeenSo 28 = .ok (.getfield 269, 3) := by decide +kernel
theorem dX7_isAllSeenSo_31 : decode cX7_isAllSeenSo 31 = .ok (.if_icmp .ne 59, 3) := by decide +kernel
theorem dX7_isAllSeenSo_34 : decode cX7_isAllSeenSo 34 = .ok (.aload_n 1, 1) := by decide +kernel
theorem dX7_isAllSeenSo_35 : decode cX7_isAllSeenSo 35 = .ok (.getfield 248, 3) := by decide +kernel
theorem dX7_isAllSeenSo_38 : decode cX7_isAllSeenSo 38 = .ok (.iload_n 2, 1) := by decide +kernel
theorem dX7_isAllSeenSo_39 : decode cX7_isAllSeenSo 39 = .ok (.iaload, 1) := by decide +kernel
theorem dX7_isAllSeenSo_40 : decode cX7_isAllSeenSo 40 = .ok (.istore_n 3, 1) := by decide +kernel
theorem dX7_isAllSeenSo_41 : decode cX7_isAllSeenSo 41 = .ok (.aload_n 0, 1) := by decide +kernel
theorem dX7_isAllSeenSo_42 : decode cX7_isAllSeenSo 42 = .ok (.getfield 62, 3) := by decide +kernel
theorem dX7_isAllSeenSo_45 : decode cX7_isAllSeenSo 45 = .ok (.getfield 135, 3) := by decide +kernel
theorem dX7_isAllSeenSo_48 : decode cX7_isAllSeenSo 48 = .ok (.iload_n 3, 1) := by decide +kernel
theorem dX7_isAllSeenSo_49 : decode cX7_isAllSeenSo 49 = .ok (.aaload, 1) := by decide +kernel
theorem dX7_isAllSeenSo_50 : decode cX7_isAllSeenSo 50 = .ok (.aload_n 0, 1) := by decide +kernel
theorem dX7_isAllSeenSo_51 : decode cX7_isAllSeenSo 51 = .ok (.getfield 46, 3) := by decide +kernel
theorem dX7_isAllSeenSo_54 : decode cX7_isAllSeenSo 54 = .ok (.getfield 120, 3) := by decide +kernel
theorem dX7_isAllSeenSo_57 : decode cX7_isAllSeenSo 57 = .ok (.aload_n 0, 1) := by decide +kernel
theorem dX7_isAllSeenSo_58 : decode cX7_isAllSeenSo 58 = .ok (.getfield 53, 3) := by decide +kernel
theorem dX7_isAllSeenSo_61 : decode cX7_isAllSeenSo 61 = .ok (.iload_n 3, 1) := by decide +kernel
theorem dX7_isAllSeenSo_62 : decode cX7_isAllSeenSo 62 = .ok (.iaload, 1) := by decide +kernel
theorem dX7_isAllSeenSo_63 : decode cX7_isAllSeenSo 63 = .ok (.invokevirtual 229, 3) := by decide +kernel
theorem dX7_isAllSeenSo_66 : decode cX7_isAllSeenSo 66 = .ok (.istore 4, 2) := by decide +kernel
theorem dX7_isAllSeenSo_68 : decode cX7_isAllSeenSo 68 = .ok (.iload 4, 2) := by decide +kernel
theorem dX7_isAllSeenSo_70 : decode cX7_isAllSeenSo 70 = .ok (.aload_n 1, 1) := by decide +kernel
theorem dX7_isAllSeenSo_71 : decode cX7_isAllSeenSo 71 = .ok (.getfield 251, 3) := by decide +kernel
theorem dX7_isAllSeenSo_74 : decode cX7_isAllSeenSo 74 = .ok (.iload_n 2, 1) := by decide +kernel
theorem dX7_isAllSeenSo_75 : decode cX7_isAllSeenSo 75 = .ok (.iaload, 1) := by decide +kernel
theorem dX7_isAllSeenSo_76 : decode cX7_isAllSeenSo 76 = .ok (.iconst 1, 1) := by decide +kernel
theorem dX7_isAllSeenSo_77 : decode cX7_isAllSeenSo 77 = .ok (.if_icmp .ne 7, 3) := by decide +kernel
theorem dX7_isAllSeenSo_80 : decode cX7_isAllSeenSo 80 = .ok (.iconst 1, 1) := by decide +kernel
theorem dX7_isAllSeenSo_81 : decode cX7_isAllSeenSo 81 = .ok (.goto 4, 3) := by decide +kernel
theorem dX7_isAllSeenSo_84 : decode cX7_isAllSeenSo 84 = .ok (.iconst 0, 1) := by decide +kernel
theorem dX7_isAllSeenSo_85 : decode cX7_isAllSeenSo 85 = .ok (.if_icmp .eq 5, 3) := by decide +kernel
theorem dX7_isAllSeenSo_88 : decode cX7_isAllSeenSo 88 = .ok (.iconst 0, 1) := by decide +kernel
theorem dX7_isAllSeenSo_89 : decode cX7_isAllSeenSo 89 = .ok (.ireturn, 1) := by decide +kernel
theorem dX7_isAllSeenSo_90 : decode cX7_isAllSeenSo 90 = .ok (.iinc 2 1, 3) := by decide +kernel
theorem dX7_isAllSeenSo_93 : decode cX7_isAllSeenSo 93 = .ok (.goto (-83), 3) := by decide +kernel
theorem dX7_isAllSeenSo_96 : decode cX7_isAllSeenSo 96 = .ok (.iconst 1, 1) := by decide +kernel
theorem dX7_isAllSeenSo_97 : decode cX7_isAllSeenSo 97 = .ok (.ireturn, 1) := by decide +kernel
theorem dX7_odds_0 : decode cX7_odds 0 = .ok (.aload_n 0, 1) := by decide +kernel
theorem dX7_odds_1 : decode cX7_odds 1 = .ok (.iload_n 1, 1) := by decide +kernel
theorem dX7_odds_2 : decode cX7_odds 2 = .ok (.invokevirtual 102, 3) := by decide +kernel
theorem dX7_odds_5 : decode cX7_odds 5 = .ok (.ifCond .eq 19, 3) := by decide +kernel
theorem dX7_odds_8 : decode cX7_odds 8 = .ok (.iload_n 2, 1) := by decide +kernel
theorem dX7_odds_9 : decode cX7_odds 9 = .ok (.iconst 4, 1) := by decide +kernel
theorem dX7_odds_10 : decode cX7_odds 10 = .ok (.invokestatic 83, 3) := by decide +kernel
theorem dX7_odds_13 : decode cX7_odds 13 = .ok (.ifCond .eq 11, 3) := by decide +kernel
theorem dX7_odds_16 : decode cX7_odds 16 = .ok (.iload_n 3, 1) := by decide +kernel
theorem dX7_odds_17 : decode cX7_odds 17 = .ok (.iconst 2, 1) := by decide +kernel
theorem dX7_odds_18 : decode cX7_odds 18 = .ok (.invokestatic 83, 3) := by decide +kernel
theorem dX7_odds_21 : decode cX7_odds 21 = .ok (.ifCond .ne 7, 3) := by decide +kernel
theorem dX7_odds_24 : decode cX7_odds 24 = .ok (.ldc2_w 272, 3) := by decide +kernel
theorem dX7_odds_27 : decode cX7_odds 27 = .ok (.lreturn, 1) := by decide +kernel
theorem dX7_odds_28 : decode cX7_odds 28 = .ok (.aload_n 0, 1) := by decide +kernel
theorem dX7_odds_29 : decode cX7_odds 29 = .ok (.getfield 62, 3) := by decide +kernel
theorem dX7_odds_32 : decode cX7_odds 32 = .ok (.getfield 94, 3) := by decide +kernel
theorem dX7_odds_35 : decode cX7_odds 35 = .ok (.iload_n 1, 1) := by decide +kernel
theorem dX7_odds_36 : decode cX7_odds 36 = .ok (.aaload, 1) := by decide +kernel
theorem dX7_odds_37 : decode cX7_odds 37 = .ok (.astore 4, 2) := by decide +kernel
theorem dX7_odds_39 : decode cX7_odds 39 = .ok (.aload_n 0, 1) := by decide +kernel
theorem dX7_odds_40 : decode cX7_odds 40 = .ok (.getfield 62, 3) := by decide +kernel
theorem dX7_odds_43 : decode cX7_odds 43 = .ok (.aload 4, 2) := by decide +kernel
theorem dX7_odds_45 : decode cX7_odds 45 = .ok (.iload_n 2, 1) := by decide +kernel
theorem dX7_odds_46 : decode cX7_odds 46 = .ok (.invokevirtual 202, 3) := by decide +kernel
theorem dX7_odds_49 : decode cX7_odds 49 = .ok (.istore 5, 2) := by decide +kernel
theorem dX7_odds_51 : decode cX7_odds 51 = .ok (.iconst 0, 1) := by decide +kernel
theorem dX7_odds_52 : decode cX7_odds 52 = .ok (.istore 6, 2) := by decide +kernel
theorem dX7_odds_54 : decode cX7_odds 54 = .ok (.iconst 0, 1) := by decide +kernel
theorem dX7_odds_55 : decode cX7_odds 55 = .ok (.istore 7, 2) := by decide +kernel
theorem dX7_odds_57 : decode cX7_odds 57 = .ok (.iload 7, 2) := by decide +kernel
theorem dX7_odds_59 : decode cX7_odds 59 = .ok (.bipush 12, 2) := by decide +kernel
theorem dX7_odds_61 : decode cX7_odds 61 = .ok (.if_icmp .ge 39, 3) := by decide +kernel
theorem dX7_odds_64 : decode cX7_odds 64 = .ok (.aload_n 0, 1) := by decide +kernel
theorem dX7_odds_65 : decode cX7_odds 65 = .ok (.getfield 62, 3) := by decide +kernel
theorem dX7_odds_68 : decode cX7_odds 68 = .ok (.getfield 135, 3) := by decide +kernel
theorem dX7_odds_71 : decode cX7_odds 71 = .ok (.iload_n 2, 1) := by decide +kernel
theorem dX7_odds_72 : decode cX7_odds 72 = .ok (.aaload, 1) := by decide +kernel
theorem dX7_odds_73 : decode cX7_odds 73 = .ok (.aload 4, 2) := by decide +kernel
theorem dX7_odds_75 : decode cX7_odds 75 = .ok (.getfield 120, 3) := by decide +kernel
theorem dX7_odds_78 : decode cX7_odds 78 = .ok (.iconst 1, 1) := by decide +kernel
theorem dX7_odds_79 : decode cX7_odds 79 = .ok (.iload 7, 2) := by decide +kernel
theorem dX7_odds_81 : decode cX7_odds 81 = .ok (.ishl, 1) := by decide +kernel
theorem dX7_odds_82 : decode cX7_odds 82 = .ok (.ixor, 1) := by decide +kernel
theorem dX7_odds_83 : decode cX7_odds 83 = .ok (.iload 5, 2) := by decide +kernel
theorem dX7_odds_85 : decode cX7_odds 85 = .ok (.invokevirtual 229, 3) := by decide +kernel
theorem dX7_odds_88 : decode cX7_odds 88 = .ok (.ifCond .eq 6, 3) := by decide +kernel
theorem dX7_odds_91 : decode cX7_odds 91 = .ok (.iinc 6 1, 3) := by decide +kernel
theorem dX7_odds_94 : decode cX7_odds 94 = .ok (.iinc 7 1, 3) := by decide +kernel
theorem dX7_odds_97 : decode cX7_odds 97 = .ok (.goto (-40), 3) := by decide +kernel
theorem dX7_odds_100 : decode cX7_odds 100 = .ok (.iload 6, 2) := by decide +kernel
theorem dX7_odds_102 : decode cX7_odds 102 = .ok (.bipush 12, 2) := by decide +kernel
theorem dX7_odds_104 : decode cX7_odds 104 = .ok (.iload_n 3, 1) := by decide +kernel
theorem dX7_odds_105 : decode cX7_odds 105 = .ok (.invokestatic 274, 3) := by decide +kernel
theorem dX7_odds_108 : decode cX7_odds 108 = .ok (.lreturn, 1) := by decide +kernel
theorem dX7_mean_0 : decode cX7_mean 0 = .ok (.iload_n 1, 1) := by decide +kernel
theorem dX7_mean_1 : decode cX7_mean 1 = .ok (.bipush 61, 2) := by decide +kernel
theorem dX7_mean_3 : decode cX7_mean 3 = .ok (.invokestatic 83, 3) := by decide +kernel
theorem dX7_mean_6 : decode cX7_mean 6 = .ok (.ifCond .eq 21, 3) := by decide +kernel
theorem dX7_mean_9 : decode cX7_mean 9 = .ok (.iload_n 2, 1) := by decide +kernel
theorem dX7_mean_10 : decode cX7_mean 10 = .ok (.iconst 2, 1) := by decide +kernel
theorem dX7_mean_11 : decode cX7_mean 11 = .ok (.invokestatic 83, 3) := by decide +kernel
theorem dX7_mean_14 : decode cX7_mean 14 = .ok (.ifCond .eq 13, 3) := by decide +kernel
theorem dX7_mean_17 : decode cX7_mean 17 = .ok (.aload_n 0, 1) := by decide +kernel
theorem dX7_mean_18 : decode cX7_mean 18 = .ok (.getfield 62, 3) := by decide +kernel
theorem dX7_mean_21 : decode cX7_mean 21 = .ok (.getfield 79, 3) := by decide +kernel
theorem dX7_mean_24 : decode cX7_mean 24 = .ok (.ifCond .ne 7, 3) := by decide +kernel
theorem dX7_mean_27 : decode cX7_mean 27 = .ok (.ldc2_w 272, 3) := by decide +kernel
theorem dX7_mean_30 : decode cX7_mean 30 = .ok (.lreturn, 1) := by decide +kernel
theorem dX7_mean_31 : decode cX7_mean 31 = .ok (.aload_n 0, 1) := by decide +kernel
theorem dX7_mean_32 : decode cX7_mean 32 = .ok (.iload_n 1, 1) := by decide +kernel
theorem dX7_mean_33 : decode cX7_mean 33 = .ok (.invokevirtual 212, 3) := by decide +kernel
theorem dX7_mean_36 : decode cX7_mean 36 = .ok (.invokevirtual 199, 3) := by decide +kernel
theorem dX7_mean_39 : decode cX7_mean 39 = .ok (.aload_n 0, 1) := by decide +kernel
theorem dX7_mean_40 : decode cX7_mean 40 = .ok (.getfield 62, 3) := by decide +kernel
theorem dX7_mean_43 : decode cX7_mean 43 = .ok (.getfield 79, 3) := by decide +kernel
theorem dX7_mean_46 : decode cX7_mean 46 = .ok (.iload_n 2, 1) := by decide +kernel
theorem dX7_mean_47 : decode cX7_mean 47 = .ok (.invokestatic 274, 3) := by decide +kernel
theorem dX7_mean_50 : decode cX7_mean 50 = .ok (.lreturn, 1) := by decide +kernel
theorem dX7_plan_0 : decode cX7_plan 0 = .ok (.iload_n 1, 1) := by decide +kernel
theorem dX7_plan_1 : decode cX7_plan 1 = .ok (.iconst (-1), 1) := by decide +kernel
theorem dX7_plan_2 : decode cX7_plan 2 = .ok (.if_icmp .ne 14, 3) := by decide +kernel
theorem dX7_plan_5 : decode cX7_plan 5 = .ok (.aload_n 0, 1) := by decide +kernel
theorem dX7_plan_6 : decode cX7_plan 6 = .ok (.getfield 62, 3) := by decide +kernel
theorem dX7_plan_9 : decode cX7_plan 9 = .ok (.getfield 278, 3) := by decide +kernel
theorem dX7_plan_12 : decode cX7_plan 12 = .ok (.invokevirtual 236, 3) := by decide +kernel
theorem dX7_plan_15 : decode cX7_plan 15 = .ok (.ireturn, 1) := by decide +kernel
theorem dX7_plan_16 : decode cX7_plan 16 = .ok (.aload_n 0, 1) := by decide +kernel
theorem dX7_plan_17 : decode cX7_plan 17 = .ok (.iload_n 1, 1) := by decide +kernel
theorem dX7_plan_18 : decode cX7_plan 18 = .ok (.iload_n 2, 1) := by decide +kernel
theorem dX7_plan_19 : decode cX7_plan 19 = .ok (.invokevirtual 281, 3) := by decide +kernel
theorem dX7_plan_22 : decode cX7_plan 22 = .ok (.ifCond .ne 5, 3) := by decide +kernel
theorem dX7_plan_25 : decode cX7_plan 25 = .ok (.iconst (-1), 1) := by decide +kernel
theorem dX7_plan_26 : decode cX7_plan 26 = .ok (.ireturn, 1) := by decide +kernel
theorem dX7_plan_27 : decode cX7_plan 27 = .ok (.aload_n 0, 1) := by decide +kernel
theorem dX7_plan_28 : decode cX7_plan 28 = .ok (.getfield 62, 3) := by decide +kernel
theorem dX7_plan_31 : decode cX7_plan 31 = .ok (.getfield 278, 3) := by decide +kernel
theorem dX7_plan_34 : decode cX7_plan 34 = .ok (.iload_n 1, 1) := by decide +kernel
theorem dX7_plan_35 : decode cX7_plan 35 = .ok (.iload_n 2, 1) := by decide +kernel
theorem dX7_plan_36 : decode cX7_plan 36 = .ok (.iconst 0, 1) := by decide +kernel
theorem dX7_plan_37 : decode cX7_plan 37 = .ok (.invokevirtual 241, 3) := by decide +kernel
theorem dX7_plan_40 : decode cX7_plan 40 = .ok (.ireturn, 1) := by decide +kernel
theorem dX7_isInPlan_0 : decode cX7_isInPlan 0 = .ok (.iload_n 1, 1) := by decide +kernel
theorem dX7_isInPlan_1 : decode cX7_isInPlan 1 = .ok (.tableswitch 71 0 3 #[31, 33, 59, 65], 31) := by decide +kernel
theorem dX7_isInPlan_32 : decode cX7_isInPlan 32 = .ok (.iconst 1, 1) := by decide +kernel
theorem dX7_isInPlan_33 : decode cX7_isInPlan 33 = .ok (.ireturn, 1) := by decide +kernel
theorem dX7_isInPlan_34 : decode cX7_isInPlan 34 = .ok (.iload_n 2, 1) := by decide +kernel
theorem dX7_isInPlan_35 : decode cX7_isInPlan 35 = .ok (.bipush 40, 2) := by decide +kernel
theorem dX7_isInPlan_37 : decode cX7_isInPlan 37 = .ok (.invokestatic 83, 3) := by decide +kernel
theorem dX7_isInPlan_40 : decode cX7_isInPlan 40 = .ok (.ifCond .eq 18, 3) := by decide +kernel
theorem dX7_isInPlan_43 : decode cX7_isInPlan 43 = .ok (.aload_n 0, 1) := by decide +kernel
theorem dX7_isInPlan_44 : decode cX7_isInPlan 44 = .ok (.iload_n 2, 1) := by decide +kernel
theorem dX7_isInPlan_45 : decode cX7_isInPlan 45 = .ok (.bipush 10, 2) := by decide +kernel
theorem dX7_isInPlan_47 : decode cX7_isInPlan 47 = .ok (.irem, 1) := by decide +kernel
theorem dX7_isInPlan_48 : decode cX7_isInPlan 48 = .ok (.invokevirtual 102, 3) := by decide +kernel
theorem dX7_isInPlan_51 : decode cX7_isInPlan 51 = .ok (.ifCond .eq 7, 3) := by decide +kernel
theorem dX7_isInPlan_54 : decode cX7_isInPlan 54 = .ok (.iconst 1, 1) := by decide +kernel
theorem dX7_isInPlan_55 : decode cX7_isInPlan 55 = .ok (.goto 4, 3) := by decide +kernel
theorem dX7_isInPlan_58 : decode cX7_isInPlan 58 = .ok (.iconst 0, 1) := by decide +kernel
theorem dX7_isInPlan_59 : decode cX7_isInPlan 59 = .ok (.ireturn, 1) := by decide +kernel
theorem dX7_isInPlan_60 : decode cX7_isInPlan 60 = .ok (.iload_n 2, 1) := by decide +kernel
theorem dX7_isInPlan_61 : decode cX7_isInPlan 61 = .ok (.iconst 4, 1) := by decide +kernel
theorem dX7_isInPlan_62 : decode cX7_isInPlan 62 = .ok (.invokestatic 83, 3) := by decide +kernel
theorem dX7_isInPlan_65 : decode cX7_isInPlan 65 = .ok (.ireturn, 1) := by decide +kernel
theorem dX7_isInPlan_66 : decode cX7_isInPlan 66 = .ok (.aload_n 0, 1) := by decide +kernel
theorem dX7_isInPlan_67 : decode cX7_isInPlan 67 = .ok (.iload_n 2, 1) := by decide +kernel
theorem dX7_isInPlan_68 : decode cX7_isInPlan 68 = .ok (.invokevirtual 102, 3) := by decide +kernel
theorem dX7_isInPlan_71 : decode cX7_isInPlan 71 = .ok (.ireturn, 1) := by decide +kernel
theorem dX7_isInPlan_72 : decode cX7_isInPlan 72 = .ok (.iconst 0, 1) := by decide +kernel
theorem dX7_isInPlan_73 : decode cX7_isInPlan 73 = .ok (.ireturn, 1) := by decide +kernel
theorem dX7_ends_0 : decode cX7_ends 0 = .ok (.iload_n 1, 1) := by decide +kernel
theorem dX7_ends_1 : decode cX7_ends 1 = .ok (.iconst 2, 1) := by decide +kernel
theorem dX7_ends_2 : decode cX7_ends 2 = .ok (.invokestatic 83, 3) := by decide +kernel
theorem dX7_ends_5 : decode cX7_ends 5 = .ok (.ifCond .ne 5, 3) := by decide +kernel
theorem dX7_ends_8 : decode cX7_ends 8 = .ok (.iconst (-1), 1) := by decide +kernel
theorem dX7_ends_9 : decode cX7_ends 9 = .ok (.ireturn, 1) := by decide +kernel
theorem dX7_ends_10 : decode cX7_ends 10 = .ok (.aload_n 0, 1) := by decide +kernel
theorem dX7_ends_11 : decode cX7_ends 11 = .ok (.getfield 69, 3) := by decide +kernel
theorem dX7_ends_14 : decode cX7_ends 14 = .ok (.aload_n 0, 1) := by decide +kernel
theorem dX7_ends_15 : decode cX7_ends 15 = .ok (.getfield 62, 3) := by decide +kernel
theorem dX7_ends_18 : decode cX7_ends 18 = .ok (.invokevirtual 87, 3) := by decide +kernel
theorem dX7_ends_21 : decode cX7_ends 21 = .ok (.aload_n 0, 1) := by decide +kernel
theorem dX7_ends_22 : decode cX7_ends 22 = .ok (.getfield 69, 3) := by decide +kernel
theorem dX7_ends_25 : decode cX7_ends 25 = .ok (.invokevirtual 284, 3) := by decide +kernel
theorem dX7_ends_28 : decode cX7_ends 28 = .ok (.iload_n 1, 1) := by decide +kernel
theorem dX7_ends_29 : decode cX7_ends 29 = .ok (.ifCond .ne 13, 3) := by decide +kernel
theorem dX7_ends_32 : decode cX7_ends 32 = .ok (.aload_n 0, 1) := by decide +kernel
theorem dX7_ends_33 : decode cX7_ends 33 = .ok (.getfield 69, 3) := by decide +kernel
theorem dX7_ends_36 : decode cX7_ends 36 = .ok (.invokevirtual 199, 3) := by decide +kernel
theorem dX7_ends_39 : decode cX7_ends 39 = .ok (.goto 10, 3) := by decide +kernel
theorem dX7_ends_42 : decode cX7_ends 42 = .ok (.aload_n 0, 1) := by decide +kernel
theorem dX7_ends_43 : decode cX7_ends 43 = .ok (.getfield 69, 3) := by decide +kernel
theorem dX7_ends_46 : decode cX7_ends 46 = .ok (.invokevirtual 195, 3) := by decide +kernel
theorem dX7_ends_49 : decode cX7_ends 49 = .ok (.ireturn, 1) := by decide +kernel
theorem dX7_book_0 : decode cX7_book 0 = .ok (.iload_n 1, 1) := by decide +kernel
theorem dX7_book_1 : decode cX7_book 1 = .ok (.iconst (-1), 1) := by decide +kernel
theorem dX7_book_2 : decode cX7_book 2 = .ok (.if_icmp .ne 14, 3) := by decide +kernel
theorem dX7_book_5 : decode cX7_book 5 = .ok (.aload_n 0, 1) := by decide +kernel
theorem dX7_book_6 : decode cX7_book 6 = .ok (.getfield 62, 3) := by decide +kernel
theorem dX7_book_9 : decode cX7_book 9 = .ok (.getfield 287, 3) := by decide +kernel
theorem dX7_book_12 : decode cX7_book 12 = .ok (.invokevirtual 236, 3) := by decide +kernel
theorem dX7_book_15 : decode cX7_book 15 = .ok (.ireturn, 1) := by decide +kernel
theorem dX7_book_16 : decode cX7_book 16 = .ok (.aload_n 0, 1) := by decide +kernel
theorem dX7_book_17 : decode cX7_book 17 = .ok (.iload_n 1, 1) := by decide +kernel
theorem dX7_book_18 : decode cX7_book 18 = .ok (.invokevirtual 102, 3) := by decide +kernel
theorem dX7_book_21 : decode cX7_book 21 = .ok (.ifCond .ne 5, 3) := by decide +kernel
theorem dX7_book_24 : decode cX7_book 24 = .ok (.iconst (-1), 1) := by decide +kernel
theorem dX7_book_25 : decode cX7_book 25 = .ok (.ireturn, 1) := by decide +kernel
theorem dX7_book_26 : decode cX7_book 26 = .ok (.iload_n 2, 1) := by decide +kernel
theorem dX7_book_27 : decode cX7_book 27 = .ok (.sipush 10000, 3) := by decide +kernel
theorem dX7_book_30 : decode cX7_book 30 = .ok (.invokestatic 83, 3) := by decide +kernel
theorem dX7_book_33 : decode cX7_book 33 = .ok (.ifCond .ne 6, 3) := by decide +kernel
theorem dX7_book_36 : decode cX7_book 36 = .ok (.bipush (-2), 2) := by decide +kernel
theorem dX7_book_38 : decode cX7_book 38 = .ok (.ireturn, 1) := by decide +kernel
theorem dX7_book_39 : decode cX7_book 39 = .ok (.aload_n 0, 1) := by decide +kernel
theorem dX7_book_40 : decode cX7_book 40 = .ok (.getfield 62, 3) := by decide +kernel
theorem dX7_book_43 : decode cX7_book 43 = .ok (.getfield 287, 3) := by decide +kernel
theorem dX7_book_46 : decode cX7_book 46 = .ok (.iload_n 1, 1) := by decide +kernel
theorem dX7_book_47 : decode cX7_book 47 = .ok (.iload_n 2, 1) := by decide +kernel
theorem dX7_book_48 : decode cX7_book 48 = .ok (.iconst 0, 1) := by decide +kernel
theorem dX7_book_49 : decode cX7_book 49 = .ok (.invokevirtual 241, 3) := by decide +kernel
theorem dX7_book_52 : decode cX7_book 52 = .ok (.ireturn, 1) := by decide +kernel
theorem dX7_looked_0 : decode cX7_looked 0 = .ok (.aload_n 0, 1) := by decide +kernel
theorem dX7_looked_1 : decode cX7_looked 1 = .ok (.getfield 62, 3) := by decide +kernel
theorem dX7_looked_4 : decode cX7_looked 4 = .ok (.getfield 287, 3) := by decide +kernel
theorem dX7_looked_7 : decode cX7_looked 7 = .ok (.astore_n 1, 1) := by decide +kernel
theorem dX7_looked_8 : decode cX7_looked 8 = .ok (.iconst 0, 1) := by decide +kernel
theorem dX7_looked_9 : decode cX7_looked 9 = .ok (.istore_n 2, 1) := by decide +kernel
theorem dX7_looked_10 : decode cX7_looked 10 = .ok (.iload_n 2, 1) := by decide +kernel
theorem dX7_looked_11 : decode cX7_looked 11 = .ok (.aload_n 1, 1) := by decide +kernel
theorem dX7_looked_12 : decode cX7_looked 12 = .ok (.getfield 244, 3) := by decide +kernel
theorem dX7_looked_15 : decode cX7_looked 15 = .ok (.if_icmp .ge 37, 3) := by decide +kernel
theorem dX7_looked_18 : decode cX7_looked 18 = .ok (.aload_n 0, 1) := by decide +kernel
theorem dX7_looked_19 : decode cX7_looked 19 = .ok (.getfield 62, 3) := by decide +kernel
theorem dX7_looked_22 : decode cX7_looked 22 = .ok (.getfield 94, 3) := by decide +kernel
theorem dX7_looked_25 : decode cX7_looked 25 = .ok (.aload_n 1, 1) := by decide +kernel
theorem dX7_looked_26 : decode cX7_looked 26 = .ok (.getfield 245, 3) := by decide +kernel
theorem dX7_looked_29 : decode cX7_looked 29 = .ok (.iload_n 2, 1) := by decide +kernel
theorem dX7_looked_30 : decode cX7_looked 30 = .ok (.iaload, 1) := by decide +kernel
theorem dX7_looked_31 : decode cX7_looked 31 = .ok (.aaload, 1) := by decide +kernel
theorem dX7_looked_32 : decode cX7_looked 32 = .ok (.getfield 129, 3) := by decide +kernel
theorem dX7_looked_35 : decode cX7_looked 35 = .ok (.aload_n 1, 1) := by decide +kernel
theorem dX7_looked_36 : decode cX7_looked 36 = .ok (.getfield 248, 3) := by decide +kernel
theorem dX7_looked_39 : decode cX7_looked 39 = .ok (.iload_n 2, 1) := by decide +kernel
theorem dX7_looked_40 : decode cX7_looked 40 = .ok (.iaload, 1) := by decide +kernel
theorem dX7_looked_41 : decode cX7_looked 41 = .ok (.if_icmp .eq 5, 3) := by decide +kernel
theorem dX7_looked_44 : decode cX7_looked 44 = .ok (.iload_n 2, 1) := by decide +kernel
theorem dX7_looked_45 : decode cX7_looked 45 = .ok (.ireturn, 1) := by decide +kernel
theorem dX7_looked_46 : decode cX7_looked 46 = .ok (.iinc 2 1, 3) := by decide +kernel
theorem dX7_looked_49 : decode cX7_looked 49 = .ok (.goto (-39), 3) := by decide +kernel
theorem dX7_looked_52 : decode cX7_looked 52 = .ok (.bipush (-5), 2) := by decide +kernel
theorem dX7_looked_54 : decode cX7_looked 54 = .ok (.ireturn, 1) := by decide +kernel
theorem dX7_judge_0 : decode cX7_judge 0 = .ok (.iload_n 1, 1) := by decide +kernel
theorem dX7_judge_1 : decode cX7_judge 1 = .ok (.bipush 6, 2) := by decide +kernel
theorem dX7_judge_3 : decode cX7_judge 3 = .ok (.invokestatic 83, 3) := by decide +kernel
theorem dX7_judge_6 : decode cX7_judge 6 = .ok (.ifCond .ne 5, 3) := by decide +kernel
theorem dX7_judge_9 : decode cX7_judge 9 = .ok (.iconst (-1), 1) := by decide +kernel
theorem dX7_judge_10 : decode cX7_judge 10 = .ok (.ireturn, 1) := by decide +kernel
theorem dX7_judge_11 : decode cX7_judge 11 = .ok (.aload_n 0, 1) := by decide +kernel
theorem dX7_judge_12 : decode cX7_judge 12 = .ok (.getfield 30, 3) := by decide +kernel
theorem dX7_judge_15 : decode cX7_judge 15 = .ok (.iload_n 1, 1) := by decide +kernel
theorem dX7_judge_16 : decode cX7_judge 16 = .ok (.aaload, 1) := by decide +kernel
theorem dX7_judge_17 : decode cX7_judge 17 = .ok (.astore_n 3, 1) := by decide +kernel
theorem dX7_judge_18 : decode cX7_judge 18 = .ok (.aload_n 3, 1) := by decide +kernel
theorem dX7_judge_19 : decode cX7_judge 19 = .ok (.getfield 290, 3) := by decide +kernel
theorem dX7_judge_22 : decode cX7_judge 22 = .ok (.iconst (-1), 1) := by decide +kernel
theorem dX7_judge_23 : decode cX7_judge 23 = .ok (.if_icmp .eq 14, 3) := by decide +kernel
theorem dX7_judge_26 : decode cX7_judge 26 = .ok (.aload_n 3, 1) := by decide +kernel
theorem dX7_judge_27 : decode cX7_judge 27 = .ok (.getfield 290, 3) := by decide +kernel
theorem dX7_judge_30 : decode cX7_judge 30 = .ok (.iconst 1, 1) := by decide +kernel
theorem dX7_judge_31 : decode cX7_judge 31 = .ok (.if_icmp .eq 6, 3) := by decide +kernel
theorem dX7_judge_34 : decode cX7_judge 34 = .ok (.bipush (-12), 2) := by decide +kernel
theorem dX7_judge_36 : decode cX7_judge 36 = .ok (.ireturn, 1) := by decide +kernel
theorem dX7_judge_37 : decode cX7_judge 37 = .ok (.iconst 0, 1) := by decide +kernel
theorem dX7_judge_38 : decode cX7_judge 38 = .ok (.istore 4, 2) := by decide +kernel
theorem dX7_judge_40 : decode cX7_judge 40 = .ok (.iload 4, 2) := by decide +kernel
theorem dX7_judge_42 : decode cX7_judge 42 = .ok (.aload_n 0, 1) := by decide +kernel
theorem dX7_judge_43 : decode cX7_judge 43 = .ok (.getfield 62, 3) := by decide +kernel
theorem dX7_judge_46 : decode cX7_judge 46 = .ok (.getfield 79, 3) := by decide +kernel
theorem dX7_judge_49 : decode cX7_judge 49 = .ok (.if_icmp .ge 64, 3) := by decide +kernel
theorem dX7_judge_52 : decode cX7_judge 52 = .ok (.aload_n 3, 1) := by decide +kernel
theorem dX7_judge_53 : decode cX7_judge 53 = .ok (.iload_n 2, 1) := by decide +kernel
theorem dX7_judge_54 : decode cX7_judge 54 = .ok (.invokevirtual 293, 3) := by decide +kernel
theorem dX7_judge_57 : decode cX7_judge 57 = .ok (.ifCond .eq 14, 3) := by decide +kernel
theorem dX7_judge_60 : decode cX7_judge 60 = .ok (.aload_n 3, 1) := by decide +kernel
theorem dX7_judge_61 : decode cX7_judge 61 = .ok (.iload_n 2, 1) := by decide +kernel
theorem dX7_judge_62 : decode cX7_judge 62 = .ok (.iload 4, 2) := by decide +kernel
theorem dX7_judge_64 : decode cX7_judge 64 = .ok (.iadd, 1) := by decide +kernel
theorem dX7_judge_65 : decode cX7_judge 65 = .ok (.invokevirtual 293, 3) := by decide +kernel
theorem dX7_judge_68 : decode cX7_judge 68 = .ok (.ifCond .ne 9, 3) := by decide +kernel
theorem dX7_judge_71 : decode cX7_judge 71 = .ok (.bipush 100, 2) := by decide +kernel
theorem dX7_judge_73 : decode cX7_judge 73 = .ok (.iload 4, 2) := by decide +kernel
theorem dX7_judge_75 : decode cX7_judge 75 = .ok (.iadd, 1) := by decide +kernel
theorem dX7_judge_76 : decode cX7_judge 76 = .ok (.ireturn, 1) := by decide +kernel
theorem dX7_judge_77 : decode cX7_judge 77 = .ok (.aload_n 3, 1) := by decide +kernel
theorem dX7_judge_78 : decode cX7_judge 78 = .ok (.getfield 296, 3) := by decide +kernel
theorem dX7_judge_81 : decode cX7_judge 81 = .ok (.iload_n 2, 1) := by decide +kernel
theorem dX7_judge_82 : decode cX7_judge 82 = .ok (.iload 4, 2) := by decide +kernel
theorem dX7_judge_84 : decode cX7_judge 84 = .ok (.iadd, 1) := by decide +kernel
theorem dX7_judge_85 : decode cX7_judge 85 = .ok (.laload, 1) := by decide +kernel
theorem dX7_judge_86 : decode cX7_judge 86 = .ok (.aload_n 0, 1) := by decide +kernel
theorem dX7_judge_87 : decode cX7_judge 87 = .ok (.getfield 62, 3) := by decide +kernel
theorem dX7_judge_90 : decode cX7_judge 90 = .ok (.getfield 94, 3) := by decide +kernel
theorem dX7_judge_93 : decode cX7_judge 93 = .ok (.iload 4, 2) := by decide +kernel
theorem dX7_judge_95 : decode cX7_judge 95 = .ok (.aaload, 1) := by decide +kernel
theorem dX7_judge_96 : decode cX7_judge 96 = .ok (.getfield 120, 3) := by decide +kernel
theorem dX7_judge_99 : decode cX7_judge 99 = .ok (.i2l, 1) := by decide +kernel
theorem dX7_judge_100 : decode cX7_judge 100 = .ok (.lcmp, 1) := by decide +kernel
theorem dX7_judge_101 : decode cX7_judge 101 = .ok (.ifCond .eq 6, 3) := by decide +kernel
theorem dX7_judge_104 : decode cX7_judge 104 = .ok (.iload 4, 2) := by decide +kernel
theorem dX7_judge_106 : decode cX7_judge 106 = .ok (.ireturn, 1) := by decide +kernel
theorem dX7_judge_107 : decode cX7_judge 107 = .ok (.iinc 4 1, 3) := by decide +kernel
theorem dX7_judge_110 : decode cX7_judge 110 = .ok (.goto (-70), 3) := by decide +kernel
theorem dX7_judge_113 : decode cX7_judge 113 = .ok (.bipush (-5), 2) := by decide +kernel
theorem dX7_judge_115 : decode cX7_judge 115 = .ok (.ireturn, 1) := by decide +kernel
theorem dX7_image_0 : decode cX7_image 0 = .ok (.aload_n 0, 1) := by decide +kernel
theorem dX7_image_1 : decode cX7_image 1 = .ok (.getfield 66, 3) := by decide +kernel
theorem dX7_image_4 : decode cX7_image 4 = .ok (.aload_n 0, 1) := by decide +kernel
theorem dX7_image_5 : decode cX7_image 5 = .ok (.getfield 62, 3) := by decide +kernel
theorem dX7_image_8 : decode cX7_image 8 = .ok (.invokevirtual 87, 3) := by decide +kernel
theorem dX7_image_11 : decode cX7_image 11 = .ok (.aload_n 0, 1) := by decide +kernel
theorem dX7_image_12 : decode cX7_image 12 = .ok (.iconst 1, 1) := by decide +kernel
theorem dX7_image_13 : decode cX7_image 13 = .ok (.putfield 300, 3) := by decide +kernel
theorem dX7_image_16 : decode cX7_image 16 = .ok (.aload_n 0, 1) := by decide +kernel
theorem dX7_image_17 : decode cX7_image 17 = .ok (.getfield 62, 3) := by decide +kernel
theorem dX7_image_20 : decode cX7_image 20 = .ok (.getfield 79, 3) := by decide +kernel
theorem dX7_image_23 : decode cX7_image 23 = .ok (.ireturn, 1) := by decide +kernel
theorem dX7_undo_0 : decode cX7_undo 0 = .ok (.aload_n 0, 1) := by decide +kernel
theorem dX7_undo_1 : decode cX7_undo 1 = .ok (.getfield 300, 3) := by decide +kernel
theorem dX7_undo_4 : decode cX7_undo 4 = .ok (.ifCond .ne 6, 3) := by decide +kernel
theorem dX7_undo_7 : decode cX7_undo 7 = .ok (.bipush (-3), 2) := by decide +kernel
theorem dX7_undo_9 : decode cX7_undo 9 = .ok (.ireturn, 1) := by decide +kernel
theorem dX7_undo_10 : decode cX7_undo 10 = .ok (.aload_n 0, 1) := by decide +kernel
theorem dX7_undo_11 : decode cX7_undo 11 = .ok (.getfield 62, 3) := by decide +kernel
theorem dX7_undo_14 : decode cX7_undo 14 = .ok (.aload_n 0, 1) := by decide +kernel
theorem dX7_undo_15 : decode cX7_undo 15 = .ok (.getfield 66, 3) := by decide +kernel
theorem dX7_undo_18 : decode cX7_undo 18 = .ok (.invokevirtual 87, 3) := by decide +kernel
theorem dX7_undo_21 : decode cX7_undo 21 = .ok (.aload_n 0, 1) := by decide +kernel
theorem dX7_undo_22 : decode cX7_undo 22 = .ok (.getfield 62, 3) := by decide +kernel
theorem dX7_undo_25 : decode cX7_undo 25 = .ok (.getfield 79, 3) := by decide +kernel
theorem dX7_undo_28 : decode cX7_undo 28 = .ok (.ireturn, 1) := by decide +kernel
theorem dX7_act_0 : decode cX7_act 0 = .ok (.aload_n 0, 1) := by decide +kernel
theorem dX7_act_1 : decode cX7_act 1 = .ok (.iconst 0, 1) := by decide +kernel
theorem dX7_act_2 : decode cX7_act 2 = .ok (.putfield 304, 3) := by decide +kernel
theorem dX7_act_5 : decode cX7_act 5 = .ok (.aload_n 0, 1) := by decide +kernel
theorem dX7_act_6 : decode cX7_act 6 = .ok (.iload_n 1, 1) := by decide +kernel
theorem dX7_act_7 : decode cX7_act 7 = .ok (.invokevirtual 102, 3) := by decide +kernel
theorem dX7_act_10 : decode cX7_act 10 = .ok (.ifCond .ne 5, 3) := by decide +kernel
theorem dX7_act_13 : decode cX7_act 13 = .ok (.iconst 0, 1) := by decide +kernel
theorem dX7_act_14 : decode cX7_act 14 = .ok (.ireturn, 1) := by decide +kernel
theorem dX7_act_15 : decode cX7_act 15 = .ok (.aload_n 0, 1) := by decide +kernel
theorem dX7_act_16 : decode cX7_act 16 = .ok (.getfield 62, 3) := by decide +kernel
theorem dX7_act_19 : decode cX7_act 19 = .ok (.getfield 94, 3) := by decide +kernel
theorem dX7_act_22 : decode cX7_act 22 = .ok (.iload_n 1, 1) := by decide +kernel
theorem dX7_act_23 : decode cX7_act 23 = .ok (.aaload, 1) := by decide +kernel
theorem dX7_act_24 : decode cX7_act 24 = .ok (.astore 4, 2) := by decide +kernel
theorem dX7_act_26 : decode cX7_act 26 = .ok (.iload_n 2, 1) := by decide +kernel
theorem dX7_act_27 : decode cX7_act 27 = .ok (.tableswitch 67 0 2 #[25, 39, 53], 25) := by decide +kernel
theorem dX7_act_52 : decode cX7_act 52 = .ok (.aload_n 0, 1) := by decide +kernel
theorem dX7_act_53 : decode cX7_act 53 = .ok (.aload 4, 2) := by decide +kernel
theorem dX7_act_55 : decode cX7_act 55 = .ok (.aload 4, 2) := by decide +kernel
theorem dX7_act_57 : decode cX7_act 57 = .ok (.getfield 114, 3) := by decide +kernel
theorem dX7_act_60 : decode cX7_act 60 = .ok (.iload_n 3, 1) := by decide +kernel
theorem dX7_act_61 : decode cX7_act 61 = .ok (.iconst 0, 1) := by decide +kernel
theorem dX7_act_62 : decode cX7_act 62 = .ok (.invokevirtual 307, 3) := by decide +kernel
theorem dX7_act_65 : decode cX7_act 65 = .ok (.ireturn, 1) := by decide +kernel
theorem dX7_act_66 : decode cX7_act 66 = .ok (.aload_n 0, 1) := by decide +kernel
theorem dX7_act_67 : decode cX7_act 67 = .ok (.aload 4, 2) := by decide +kernel
theorem dX7_act_69 : decode cX7_act 69 = .ok (.aload 4, 2) := by decide +kernel
theorem dX7_act_71 : decode cX7_act 71 = .ok (.getfield 114, 3) := by decide +kernel
theorem dX7_act_74 : decode cX7_act 74 = .ok (.iload_n 3, 1) := by decide +kernel
theorem dX7_act_75 : decode cX7_act 75 = .ok (.iconst 0, 1) := by decide +kernel
theorem dX7_act_76 : decode cX7_act 76 = .ok (.invokevirtual 310, 3) := by decide +kernel
theorem dX7_act_79 : decode cX7_act 79 = .ok (.ireturn, 1) := by decide +kernel
theorem dX7_act_80 : decode cX7_act 80 = .ok (.aload_n 0, 1) := by decide +kernel
theorem dX7_act_81 : decode cX7_act 81 = .ok (.aload 4, 2) := by decide +kernel
theorem dX7_act_83 : decode cX7_act 83 = .ok (.aload 4, 2) := by decide +kernel
theorem dX7_act_85 : decode cX7_act 85 = .ok (.getfield 114, 3) := by decide +kernel
theorem dX7_act_88 : decode cX7_act 88 = .ok (.iload_n 3, 1) := by decide +kernel
theorem dX7_act_89 : decode cX7_act 89 = .ok (.iconst 0, 1) := by decide +kernel
theorem dX7_act_90 : decode cX7_act 90 = .ok (.invokevirtual 313, 3) := by decide +kernel
theorem dX7_act_93 : decode cX7_act 93 = .ok (.ireturn, 1) := by decide +kernel
theorem dX7_act_94 : decode cX7_act 94 = .ok (.iconst 0, 1) := by decide +kernel
theorem dX7_act_95 : decode cX7_act 95 = .ok (.ireturn, 1) := by decide +kernel
theorem dX7_startBody_0 : decode cX7_startBody 0 = .ok (.aload_n 0, 1) := by decide +kernel
theorem dX7_startBody_1 : decode cX7_startBody 1 = .ok (.getfield 304, 3) := by decide +kernel
theorem dX7_startBody_4 : decode cX7_startBody 4 = .ok (.bipush 20, 2) := by decide +kernel
theorem dX7_startBody_6 : decode cX7_startBody 6 = .ok (.if_icmp .ge 13, 3) := by decide +kernel
theorem dX7_startBody_9 : decode cX7_startBody 9 = .ok (.aload_n 0, 1) := by decide +kernel
theorem dX7_startBody_10 : decode cX7_startBody 10 = .ok (.getfield 24, 3) := by decide +kernel
theorem dX7_startBody_13 : decode cX7_startBody 13 = .ok (.aload_n 0, 1) := by decide +kernel
theorem dX7_startBody_14 : decode cX7_startBody 14 = .ok (.getfield 304, 3) := by decide +kernel
theorem dX7_startBody_17 : decode cX7_startBody 17 = .ok (.iload_n 1, 1) := by decide +kernel
theorem dX7_startBody_18 : decode cX7_startBody 18 = .ok (.iastore, 1) := by decide +kernel
theorem dX7_startBody_19 : decode cX7_startBody 19 = .ok (.aload_n 0, 1) := by decide +kernel
theorem dX7_startBody_20 : decode cX7_startBody 20 = .ok (.dup, 1) := by decide +kernel
theorem dX7_startBody_21 : decode cX7_startBody 21 = .ok (.getfield 304, 3) := by decide +kernel
theorem dX7_startBody_24 : decode cX7_startBody 24 = .ok (.iconst 1, 1) := by decide +kernel
theorem dX7_startBody_25 : decode cX7_startBody 25 = .ok (.iadd, 1) := by decide +kernel
theorem dX7_startBody_26 : decode cX7_startBody 26 = .ok (.putfield 304, 3) := by decide +kernel
theorem dX7_startBody_29 : decode cX7_startBody 29 = .ok (.return_, 1) := by decide +kernel
theorem dX7_walks_0 : decode cX7_walks 0 = .ok (.iload 4, 2) := by decide +kernel
theorem dX7_walks_2 : decode cX7_walks 2 = .ok (.bipush 16, 2) := by decide +kernel
theorem dX7_walks_4 : decode cX7_walks 4 = .ok (.if_icmp .le 5, 3) := by decide +kernel
theorem dX7_walks_7 : decode cX7_walks 7 = .ok (.iconst 0, 1) := by decide +kernel
theorem dX7_walks_8 : decode cX7_walks 8 = .ok (.ireturn, 1) := by decide +kernel
theorem dX7_walks_9 : decode cX7_walks 9 = .ok (.iload_n 2, 1) := by decide +kernel
theorem dX7_walks_10 : decode cX7_walks 10 = .ok (.tableswitch 96 2 6 #[34, 96, 54, 34, 73], 34) := by decide +kernel
theorem dX7_walks_44 : decode cX7_walks 44 = .ok (.aload_n 0, 1) := by decide +kernel
theorem dX7_walks_45 : decode cX7_walks 45 = .ok (.bipush 30, 2) := by decide +kernel
theorem dX7_walks_47 : decode cX7_walks 47 = .ok (.invokevirtual 316, 3) := by decide +kernel
theorem dX7_walks_50 : decode cX7_walks 50 = .ok (.aload_n 0, 1) := by decide +kernel
theorem dX7_walks_51 : decode cX7_walks 51 = .ok (.aload_n 1, 1) := by decide +kernel
theorem dX7_walks_52 : decode cX7_walks 52 = .ok (.iconst 0, 1) := by decide +kernel
theorem dX7_walks_53 : decode cX7_walks 53 = .ok (.iload_n 3, 1) := by decide +kernel
theorem dX7_walks_54 : decode cX7_walks 54 = .ok (.iconst 3, 1) := by decide +kernel
theorem dX7_walks_55 : decode cX7_walks 55 = .ok (.imul, 1) := by decide +kernel
theorem dX7_walks_56 : decode cX7_walks 56 = .ok (.iload 4, 2) := by decide +kernel
theorem dX7_walks_58 : decode cX7_walks 58 = .ok (.iconst 1, 1) := by decide +kernel
theorem dX7_walks_59 : decode cX7_walks 59 = .ok (.iadd, 1) := by decide +kernel
theorem dX7_walks_60 : decode cX7_walks 60 = .ok (.invokevirtual 307, 3) := by decide +kernel
theorem dX7_walks_63 : decode cX7_walks 63 = .ok (.ireturn, 1) := by decide +kernel
theorem dX7_walks_64 : decode cX7_walks 64 = .ok (.aload_n 0, 1) := by decide +kernel
theorem dX7_walks_65 : decode cX7_walks 65 = .ok (.bipush 50, 2) := by decide +kernel
theorem dX7_walks_67 : decode cX7_walks 67 = .ok (.invokevirtual 316, 3) := by decide +kernel
theorem dX7_walks_70 : decode cX7_walks 70 = .ok (.aload_n 0, 1) := by decide +kernel
theorem dX7_walks_71 : decode cX7_walks 71 = .ok (.aload_n 1, 1) := by decide +kernel
theorem dX7_walks_72 : decode cX7_walks 72 = .ok (.iconst 1, 1) := by decide +kernel
theorem dX7_walks_73 : decode cX7_walks 73 = .ok (.iload_n 3, 1) := by decide +kernel
theorem dX7_walks_74 : decode cX7_walks 74 = .ok (.iload 4, 2) := by decide +kernel
theorem dX7_walks_76 : decode cX7_walks 76 = .ok (.iconst 1, 1) := by decide +kernel
theorem dX7_walks_77 : decode cX7_walks 77 = .ok (.iadd, 1) := by decide +kernel
theorem dX7_walks_78 : decode cX7_walks 78 = .ok (.invokevirtual 307, 3) := by decide +kernel
theorem dX7_walks_81 : decode cX7_walks 81 = .ok (.ineg, 1) := by decide +kernel
theorem dX7_walks_82 : decode cX7_walks 82 = .ok (.ireturn, 1) := by decide +kernel
theorem dX7_walks_83 : decode cX7_walks 83 = .ok (.aload_n 0, 1) := by decide +kernel
theorem dX7_walks_84 : decode cX7_walks 84 = .ok (.bipush 71, 2) := by decide +kernel
theorem dX7_walks_86 : decode cX7_walks 86 = .ok (.invokevirtual 316, 3) := by decide +kernel
theorem dX7_walks_89 : decode cX7_walks 89 = .ok (.aload_n 0, 1) := by decide +kernel
theorem dX7_walks_90 : decode cX7_walks 90 = .ok (.aload_n 1, 1) := by decide +kernel
theorem dX7_walks_91 : decode cX7_walks 91 = .ok (.iconst 3, 1) := by decide +kernel
theorem dX7_walks_92 : decode cX7_walks 92 = .ok (.iload_n 3, 1) := by decide +kernel
theorem dX7_walks_93 : decode cX7_walks 93 = .ok (.iload 4, 2) := by decide +kernel
theorem dX7_walks_95 : decode cX7_walks 95 = .ok (.iconst 1, 1) := by decide +kernel
theorem dX7_walks_96 : decode cX7_walks 96 = .ok (.iadd, 1) := by decide +kernel
theorem dX7_walks_97 : decode cX7_walks 97 = .ok (.invokevirtual 307, 3) := by decide +kernel
theorem dX7_walks_100 : decode cX7_walks 100 = .ok (.aload_n 1, 1) := by decide +kernel
theorem dX7_walks_101 : decode cX7_walks 101 = .ok (.getfield 117, 3) := by decide +kernel
theorem dX7_walks_104 : decode cX7_walks 104 = .ok (.ixor, 1) := by decide +kernel
theorem dX7_walks_105 : decode cX7_walks 105 = .ok (.ireturn, 1) := by decide +kernel
theorem dX7_walks_106 : decode cX7_walks 106 = .ok (.aload_n 0, 1) := by decide +kernel
theorem dX7_walks_107 : decode cX7_walks 107 = .ok (.bipush 10, 2) := by decide +kernel
theorem dX7_walks_109 : decode cX7_walks 109 = .ok (.invokevirtual 316, 3) := by decide +kernel
theorem dX7_walks_112 : decode cX7_walks 112 = .ok (.iload_n 3, 1) := by decide +kernel
theorem dX7_walks_113 : decode cX7_walks 113 = .ok (.aload_n 1, 1) := by decide +kernel
theorem dX7_walks_114 : decode cX7_walks 114 = .ok (.getfield 269, 3) := by decide +kernel
theorem dX7_walks_117 : decode cX7_walks 117 = .ok (.iadd, 1) := by decide +kernel
theorem dX7_walks_118 : decode cX7_walks 118 = .ok (.ireturn, 1) := by decide +kernel
theorem dX7_knocks_0 : decode cX7_knocks 0 = .ok (.iload 4, 2) := by decide +kernel
theorem dX7_knocks_2 : decode cX7_knocks 2 = .ok (.bipush 16, 2) := by decide +kernel
theorem dX7_knocks_4 : decode cX7_knocks 4 = .ok (.if_icmp .le 5, 3) := by decide +kernel
theorem dX7_knocks_7 : decode cX7_knocks 7 = .ok (.iconst 0, 1) := by decide +kernel
theorem dX7_knocks_8 : decode cX7_knocks 8 = .ok (.ireturn, 1) := by decide +kernel
theorem dX7_knocks_9 : decode cX7_knocks 9 = .ok (.iload_n 2, 1) := by decide +kernel
theorem dX7_knocks_10 : decode cX7_knocks 10 = .ok (.lookupswitch 109 #[(1, 34), (4, 55), (6, 75)], 34) := by decide +kernel
theorem dX7_knocks_44 : decode cX7_knocks 44 = .ok (.aload_n 0, 1) := by decide +kernel
theorem dX7_knocks_45 : decode cX7_knocks 45 = .ok (.bipush 20, 2) := by decide +kernel
theorem dX7_knocks_47 : decode cX7_knocks 47 = .ok (.invokevirtual 316, 3) := by decide +kernel
theorem dX7_knocks_50 : decode cX7_knocks 50 = .ok (.aload_n 0, 1) := by decide +kernel
theorem dX7_knocks_51 : decode cX7_knocks 51 = .ok (.aload_n 1, 1) := by decide +kernel
theorem dX7_knocks_52 : decode cX7_knocks 52 = .ok (.iconst 0, 1) := by decide +kernel
theorem dX7_knocks_53 : decode cX7_knocks 53 = .ok (.iload_n 3, 1) := by decide +kernel
theorem dX7_knocks_54 : decode cX7_knocks 54 = .ok (.iload 4, 2) := by decide +kernel
theorem dX7_knocks_56 : decode cX7_knocks 56 = .ok (.iconst 1, 1) := by decide +kernel
theorem dX7_knocks_57 : decode cX7_knocks 57 = .ok (.iadd, 1) := by decide +kernel
theorem dX7_knocks_58 : decode cX7_knocks 58 = .ok (.invokevirtual 310, 3) := by decide +kernel
theorem dX7_knocks_61 : decode cX7_knocks 61 = .ok (.bipush 6, 2) := by decide +kernel
theorem dX7_knocks_63 : decode cX7_knocks 63 = .ok (.ixor, 1) := by decide +kernel
theorem dX7_knocks_64 : decode cX7_knocks 64 = .ok (.ireturn, 1) := by decide +kernel
theorem dX7_knocks_65 : decode cX7_knocks 65 = .ok (.aload_n 0, 1) := by decide +kernel
theorem dX7_knocks_66 : decode cX7_knocks 66 = .ok (.bipush 51, 2) := by decide +kernel
theorem dX7_knocks_68 : decode cX7_knocks 68 = .ok (.invokevirtual 316, 3) := by decide +kernel
theorem dX7_knocks_71 : decode cX7_knocks 71 = .ok (.aload_n 0, 1) := by decide +kernel
theorem dX7_knocks_72 : decode cX7_knocks 72 = .ok (.aload_n 1, 1) := by decide +kernel
theorem dX7_knocks_73 : decode cX7_knocks 73 = .ok (.iconst 1, 1) := by decide +kernel
theorem dX7_knocks_74 : decode cX7_knocks 74 = .ok (.iload_n 3, 1) := by decide +kernel
theorem dX7_knocks_75 : decode cX7_knocks 75 = .ok (.iconst 1, 1) := by decide +kernel
theorem dX7_knocks_76 : decode cX7_knocks 76 = .ok (.iadd, 1) := by decide +kernel
theorem dX7_knocks_77 : decode cX7_knocks 77 = .ok (.iload 4, 2) := by decide +kernel
theorem dX7_knocks_79 : decode cX7_knocks 79 = .ok (.iconst 1, 1) := by decide +kernel
theorem dX7_knocks_80 : decode cX7_knocks 80 = .ok (.iadd, 1) := by decide +kernel
theorem dX7_knocks_81 : decode cX7_knocks 81 = .ok (.invokevirtual 310, 3) := by decide +kernel
theorem dX7_knocks_84 : decode cX7_knocks 84 = .ok (.ireturn, 1) := by decide +kernel
theorem dX7_knocks_85 : decode cX7_knocks 85 = .ok (.aload_n 0, 1) := by decide +kernel
theorem dX7_knocks_86 : decode cX7_knocks 86 = .ok (.bipush 70, 2) := by decide +kernel
theorem dX7_knocks_88 : decode cX7_knocks 88 = .ok (.invokevirtual 316, 3) := by decide +kernel
theorem dX7_knocks_91 : decode cX7_knocks 91 = .ok (.aload_n 0, 1) := by decide +kernel
theorem dX7_knocks_92 : decode cX7_knocks 92 = .ok (.aload_n 1, 1) := by decide +kernel
theorem dX7_knocks_93 : decode cX7_knocks 93 = .ok (.iconst 3, 1) := by decide +kernel
theorem dX7_knocks_94 : decode cX7_knocks 94 = .ok (.iload_n 3, 1) := by decide +kernel
theorem dX7_knocks_95 : decode cX7_knocks 95 = .ok (.iload 4, 2) := by decide +kernel
theorem dX7_knocks_97 : decode cX7_knocks 97 = .ok (.iconst 1, 1) := by decide +kernel
theorem dX7_knocks_98 : decode cX7_knocks 98 = .ok (.iadd, 1) := by decide +kernel
theorem dX7_knocks_99 : decode cX7_knocks 99 = .ok (.invokevirtual 310, 3) := by decide +kernel
theorem dX7_knocks_102 : decode cX7_knocks 102 = .ok (.istore 5, 2) := by decide +kernel
theorem dX7_knocks_104 : decode cX7_knocks 104 = .ok (.iload 5, 2) := by decide +kernel
theorem dX7_knocks_106 : decode cX7_knocks 106 = .ok (.aload_n 0, 1) := by decide +kernel
theorem dX7_knocks_107 : decode cX7_knocks 107 = .ok (.aload_n 1, 1) := by decide +kernel
theorem dX7_knocks_108 : decode cX7_knocks 108 = .ok (.iconst 3, 1) := by decide +kernel
theorem dX7_knocks_109 : decode cX7_knocks 109 = .ok (.iconst 2, 1) := by decide +kernel
theorem dX7_knocks_110 : decode cX7_knocks 110 = .ok (.iload 4, 2) := by decide +kernel
theorem dX7_knocks_112 : decode cX7_knocks 112 = .ok (.iconst 1, 1) := by decide +kernel
theorem dX7_knocks_113 : decode cX7_knocks 113 = .ok (.iadd, 1) := by decide +kernel
theorem dX7_knocks_114 : decode cX7_knocks 114 = .ok (.invokevirtual 307, 3) := by decide +kernel
theorem dX7_knocks_117 : decode cX7_knocks 117 = .ok (.iadd, 1) := by decide +kernel
theorem dX7_knocks_118 : decode cX7_knocks 118 = .ok (.ireturn, 1) := by decide +kernel
theorem dX7_knocks_119 : decode cX7_knocks 119 = .ok (.aload_n 0, 1) := by decide +kernel
theorem dX7_knocks_120 : decode cX7_knocks 120 = .ok (.bipush 11, 2) := by decide +kernel
theorem dX7_knocks_122 : decode cX7_knocks 122 = .ok (.invokevirtual 316, 3) := by decide +kernel
theorem dX7_knocks_125 : decode cX7_knocks 125 = .ok (.aload_n 0, 1) := by decide +kernel
theorem dX7_knocks_126 : decode cX7_knocks 126 = .ok (.aload_n 1, 1) := by decide +kernel
theorem dX7_knocks_127 : decode cX7_knocks 127 = .ok (.aload_n 1, 1) := by decide +kernel
theorem dX7_knocks_128 : decode cX7_knocks 128 = .ok (.getfield 114, 3) := by decide +kernel
theorem dX7_knocks_131 : decode cX7_knocks 131 = .ok (.iload_n 3, 1) := by decide +kernel
theorem dX7_knocks_132 : decode cX7_knocks 132 = .ok (.iload 4, 2) := by decide +kernel
theorem dX7_knocks_134 : decode cX7_knocks 134 = .ok (.iconst 1, 1) := by decide +kernel
theorem dX7_knocks_135 : decode cX7_knocks 135 = .ok (.iadd, 1) := by decide +kernel
theorem dX7_knocks_136 : decode cX7_knocks 136 = .ok (.invokevirtual 307, 3) := by decide +kernel
theorem dX7_knocks_139 : decode cX7_knocks 139 = .ok (.aload_n 1, 1) := by decide +kernel
theorem dX7_knocks_140 : decode cX7_knocks 140 = .ok (.getfield 117, 3) := by decide +kernel
theorem dX7_knocks_143 : decode cX7_knocks 143 = .ok (.isub, 1) := by decide +kernel
theorem dX7_knocks_144 : decode cX7_knocks 144 = .ok (.ireturn, 1) := by decide +kernel
theorem dX7_tells_0 : decode cX7_tells 0 = .ok (.iload 4, 2) := by decide +kernel
theorem dX7_tells_2 : decode cX7_tells 2 = .ok (.bipush 16, 2) := by decide +kernel
theorem dX7_tells_4 : decode cX7_tells 4 = .ok (.if_icmp .le 5, 3) := by decide +kernel
theorem dX7_tells_7 : decode cX7_tells 7 = .ok (.iconst 0, 1) := by decide +kernel
theorem dX7_tells_8 : decode cX7_tells 8 = .ok (.ireturn, 1) := by decide +kernel
theorem dX7_tells_9 : decode cX7_tells 9 = .ok (.iload_n 2, 1) := by decide +kernel
theorem dX7_tells_10 : decode cX7_tells 10 = .ok (.tableswitch 90 3 6 #[30, 90, 67, 30], 30) := by decide +kernel
theorem dX7_tells_40 : decode cX7_tells 40 = .ok (.aload_n 0, 1) := by decide +kernel
theorem dX7_tells_41 : decode cX7_tells 41 = .ok (.bipush 40, 2) := by decide +kernel
theorem dX7_tells_43 : decode cX7_tells 43 = .ok (.invokevirtual 316, 3) := by decide +kernel
theorem dX7_tells_46 : decode cX7_tells 46 = .ok (.aload_n 0, 1) := by decide +kernel
theorem dX7_tells_47 : decode cX7_tells 47 = .ok (.aload_n 1, 1) := by decide +kernel
theorem dX7_tells_48 : decode cX7_tells 48 = .ok (.iconst 0, 1) := by decide +kernel
theorem dX7_tells_49 : decode cX7_tells 49 = .ok (.iload_n 3, 1) := by decide +kernel
theorem dX7_tells_50 : decode cX7_tells 50 = .ok (.iload 4, 2) := by decide +kernel
theorem dX7_tells_52 : decode cX7_tells 52 = .ok (.iconst 1, 1) := by decide +kernel
theorem dX7_tells_53 : decode cX7_tells 53 = .ok (.iadd, 1) := by decide +kernel
theorem dX7_tells_54 : decode cX7_tells 54 = .ok (.invokevirtual 313, 3) := by decide +kernel
theorem dX7_tells_57 : decode cX7_tells 57 = .ok (.istore 5, 2) := by decide +kernel
theorem dX7_tells_59 : decode cX7_tells 59 = .ok (.iload 5, 2) := by decide +kernel
theorem dX7_tells_61 : decode cX7_tells 61 = .ok (.aload_n 0, 1) := by decide +kernel
theorem dX7_tells_62 : decode cX7_tells 62 = .ok (.aload_n 1, 1) := by decide +kernel
theorem dX7_tells_63 : decode cX7_tells 63 = .ok (.aload_n 1, 1) := by decide +kernel
theorem dX7_tells_64 : decode cX7_tells 64 = .ok (.getfield 114, 3) := by decide +kernel
theorem dX7_tells_67 : decode cX7_tells 67 = .ok (.iconst 1, 1) := by decide +kernel
theorem dX7_tells_68 : decode cX7_tells 68 = .ok (.iload 4, 2) := by decide +kernel
theorem dX7_tells_70 : decode cX7_tells 70 = .ok (.iconst 1, 1) := by decide +kernel
theorem dX7_tells_71 : decode cX7_tells 71 = .ok (.iadd, 1) := by decide +kernel
theorem dX7_tells_72 : decode cX7_tells 72 = .ok (.invokevirtual 310, 3) := by decide +kernel
theorem dX7_tells_75 : decode cX7_tells 75 = .ok (.iadd, 1) := by decide +kernel
theorem dX7_tells_76 : decode cX7_tells 76 = .ok (.ireturn, 1) := by decide +kernel
theorem dX7_tells_77 : decode cX7_tells 77 = .ok (.aload_n 0, 1) := by decide +kernel
theorem dX7_tells_78 : decode cX7_tells 78 = .ok (.bipush 60, 2) := by decide +kernel
theorem dX7_tells_80 : decode cX7_tells 80 = .ok (.invokevirtual 316, 3) := by decide +kernel
theorem dX7_tells_83 : decode cX7_tells 83 = .ok (.aload_n 0, 1) := by decide +kernel
theorem dX7_tells_84 : decode cX7_tells 84 = .ok (.aload_n 1, 1) := by decide +kernel
theorem dX7_tells_85 : decode cX7_tells 85 = .ok (.iconst 2, 1) := by decide +kernel
theorem dX7_tells_86 : decode cX7_tells 86 = .ok (.iload_n 3, 1) := by decide +kernel
theorem dX7_tells_87 : decode cX7_tells 87 = .ok (.aload_n 1, 1) := by decide +kernel
theorem dX7_tells_88 : decode cX7_tells 88 = .ok (.getfield 269, 3) := by decide +kernel
theorem dX7_tells_91 : decode cX7_tells 91 = .ok (.isub, 1) := by decide +kernel
theorem dX7_tells_92 : decode cX7_tells 92 = .ok (.iload 4, 2) := by decide +kernel
theorem dX7_tells_94 : decode cX7_tells 94 = .ok (.iconst 1, 1) := by decide +kernel
theorem dX7_tells_95 : decode cX7_tells 95 = .ok (.iadd, 1) := by decide +kernel
theorem dX7_tells_96 : decode cX7_tells 96 = .ok (.invokevirtual 313, 3) := by decide +kernel
theorem dX7_tells_99 : decode cX7_tells 99 = .ok (.ireturn, 1) := by decide +kernel
theorem dX7_tells_100 : decode cX7_tells 100 = .ok (.aload_n 0, 1) := by decide +kernel
theorem dX7_tells_101 : decode cX7_tells 101 = .ok (.bipush 12, 2) := by decide +kernel
theorem dX7_tells_103 : decode cX7_tells 103 = .ok (.invokevirtual 316, 3) := by decide +kernel
theorem dX7_tells_106 : decode cX7_tells 106 = .ok (.aload_n 0, 1) := by decide +kernel
theorem dX7_tells_107 : decode cX7_tells 107 = .ok (.aload_n 1, 1) := by decide +kernel
theorem dX7_tells_108 : decode cX7_tells 108 = .ok (.aload_n 1, 1) := by decide +kernel
theorem dX7_tells_109 : decode cX7_tells 109 = .ok (.getfield 114, 3) := by decide +kernel
theorem dX7_tells_112 : decode cX7_tells 112 = .ok (.iload_n 3, 1) := by decide +kernel
theorem dX7_tells_113 : decode cX7_tells 113 = .ok (.iload 4, 2) := by decide +kernel
theorem dX7_tells_115 : decode cX7_tells 115 = .ok (.iconst 1, 1) := by decide +kernel
theorem dX7_tells_116 : decode cX7_tells 116 = .ok (.iadd, 1) := by decide +kernel
theorem dX7_tells_117 : decode cX7_tells 117 = .ok (.invokevirtual 310, 3) := by decide +kernel
theorem dX7_tells_120 : decode cX7_tells 120 = .ok (.iconst 2, 1) := by decide +kernel
theorem dX7_tells_121 : decode cX7_tells 121 = .ok (.imul, 1) := by decide +kernel
theorem dX7_tells_122 : decode cX7_tells 122 = .ok (.ireturn, 1) := by decide +kernel
theorem dX7_trace_0 : decode cX7_trace 0 = .ok (.iload_n 1, 1) := by decide +kernel
theorem dX7_trace_1 : decode cX7_trace 1 = .ok (.aload_n 0, 1) := by decide +kernel
theorem dX7_trace_2 : decode cX7_trace 2 = .ok (.getfield 304, 3) := by decide +kernel
theorem dX7_trace_5 : decode cX7_trace 5 = .ok (.bipush 20, 2) := by decide +kernel
theorem dX7_trace_7 : decode cX7_trace 7 = .ok (.invokestatic 319, 3) := by decide +kernel
theorem dX7_trace_10 : decode cX7_trace 10 = .ok (.invokestatic 83, 3) := by decide +kernel
theorem dX7_trace_13 : decode cX7_trace 13 = .ok (.ifCond .ne 5, 3) := by decide +kernel
theorem dX7_trace_16 : decode cX7_trace 16 = .ok (.iconst (-1), 1) := by decide +kernel
theorem dX7_trace_17 : decode cX7_trace 17 = .ok (.ireturn, 1) := by decide +kernel
theorem dX7_trace_18 : decode cX7_trace 18 = .ok (.aload_n 0, 1) := by decide +kernel
theorem dX7_trace_19 : decode cX7_trace 19 = .ok (.getfield 24, 3) := by decide +kernel
theorem dX7_trace_22 : decode cX7_trace 22 = .ok (.iload_n 1, 1) := by decide +kernel
theorem dX7_trace_23 : decode cX7_trace 23 = .ok (.iaload, 1) := by decide +kernel
theorem dX7_trace_24 : decode cX7_trace 24 = .ok (.ireturn, 1) := by decide +kernel
theorem dX7_taken_0 : decode cX7_taken 0 = .ok (.iload_n 2, 1) := by decide +kernel
theorem dX7_taken_1 : decode cX7_taken 1 = .ok (.bipush 7, 2) := by decide +kernel
theorem dX7_taken_3 : decode cX7_taken 3 = .ok (.invokestatic 83, 3) := by decide +kernel
theorem dX7_taken_6 : decode cX7_taken 6 = .ok (.ifCond .ne 6, 3) := by decide +kernel
theorem dX7_taken_9 : decode cX7_taken 9 = .ok (.bipush (-2), 2) := by decide +kernel
theorem dX7_taken_11 : decode cX7_taken 11 = .ok (.ireturn, 1) := by decide +kernel
theorem dX7_taken_12 : decode cX7_taken 12 = .ok (.aload_n 0, 1) := by decide +kernel
theorem dX7_taken_13 : decode cX7_taken 13 = .ok (.iload_n 1, 1) := by decide +kernel
theorem dX7_taken_14 : decode cX7_taken 14 = .ok (.invokevirtual 102, 3) := by decide +kernel
theorem dX7_taken_17 : decode cX7_taken 17 = .ok (.ifCond .ne 6, 3) := by decide +kernel
theorem dX7_taken_20 : decode cX7_taken 20 = .ok (.bipush (-11), 2) := by decide +kernel
theorem dX7_taken_22 : decode cX7_taken 22 = .ok (.ireturn, 1) := by decide +kernel
theorem dX7_taken_23 : decode cX7_taken 23 = .ok (.aload_n 0, 1) := by decide +kernel
theorem dX7_taken_24 : decode cX7_taken 24 = .ok (.getfield 62, 3) := by decide +kernel
theorem dX7_taken_27 : decode cX7_taken 27 = .ok (.getfield 94, 3) := by decide +kernel
theorem dX7_taken_30 : decode cX7_taken 30 = .ok (.iload_n 1, 1) := by decide +kernel
theorem dX7_taken_31 : decode cX7_taken 31 = .ok (.aaload, 1) := by decide +kernel
theorem dX7_taken_32 : decode cX7_taken 32 = .ok (.getfield 114, 3) := by decide +kernel
theorem dX7_taken_35 : decode cX7_taken 35 = .ok (.istore_n 3, 1) := by decide +kernel
theorem dX7_taken_36 : decode cX7_taken 36 = .ok (.iload_n 3, 1) := by decide +kernel
theorem dX7_taken_37 : decode cX7_taken 37 = .ok (.invokestatic 324, 3) := by decide +kernel
theorem dX7_taken_40 : decode cX7_taken 40 = .ok (.istore 4, 2) := by decide +kernel
theorem dX7_taken_42 : decode cX7_taken 42 = .ok (.iload_n 3, 1) := by decide +kernel
theorem dX7_taken_43 : decode cX7_taken 43 = .ok (.iload_n 2, 1) := by decide +kernel
theorem dX7_taken_44 : decode cX7_taken 44 = .ok (.if_icmp .eq 18, 3) := by decide +kernel
theorem dX7_taken_47 : decode cX7_taken 47 = .ok (.iload 4, 2) := by decide +kernel
theorem dX7_taken_49 : decode cX7_taken 49 = .ok (.iload_n 2, 1) := by decide +kernel
theorem dX7_taken_50 : decode cX7_taken 50 = .ok (.if_icmp .eq 12, 3) := by decide +kernel
theorem dX7_taken_53 : decode cX7_taken 53 = .ok (.iload 4, 2) := by decide +kernel
theorem dX7_taken_55 : decode cX7_taken 55 = .ok (.invokestatic 324, 3) := by decide +kernel
theorem dX7_taken_58 : decode cX7_taken 58 = .ok (.iload_n 2, 1) := by decide +kernel
theorem dX7_taken_59 : decode cX7_taken 59 = .ok (.if_icmp .ne 7, 3) := by decide +kernel
theorem dX7_taken_62 : decode cX7_taken 62 = .ok (.iconst 1, 1) := by decide +kernel
theorem dX7_taken_63 : decode cX7_taken 63 = .ok (.goto 4, 3) := by decide +kernel
theorem dX7_taken_66 : decode cX7_taken 66 = .ok (.iconst 0, 1) := by decide +kernel
theorem dX7_taken_67 : decode cX7_taken 67 = .ok (.istore 5, 2) := by decide +kernel
theorem dX7_taken_69 : decode cX7_taken 69 = .ok (.iload 5, 2) := by decide +kernel
theorem dX7_taken_71 : decode cX7_taken 71 = .ok (.ifCond .eq 7, 3) := by decide +kernel
theorem dX7_taken_74 : decode cX7_taken 74 = .ok (.iload_n 3, 1) := by decide +kernel
theorem dX7_taken_75 : decode cX7_taken 75 = .ok (.goto 5, 3) := by decide +kernel
theorem dX7_taken_78 : decode cX7_taken 78 = .ok (.bipush (-12), 2) := by decide +kernel
theorem dX7_taken_80 : decode cX7_taken 80 = .ok (.ireturn, 1) := by decide +kernel
theorem dX7_kindAbove_0 : decode cX7_kindAbove 0 = .ok (.iload_n 0, 1) := by decide +kernel
theorem dX7_kindAbove_1 : decode cX7_kindAbove 1 = .ok (.tableswitch 47 1 6 #[39, 39, 39, 41, 43, 45], 39) := by decide +kernel
theorem dX7_kindAbove_40 : decode cX7_kindAbove 40 = .ok (.iconst 0, 1) := by decide +kernel
theorem dX7_kindAbove_41 : decode cX7_kindAbove 41 = .ok (.ireturn, 1) := by decide +kernel
theorem dX7_kindAbove_42 : decode cX7_kindAbove 42 = .ok (.iconst 1, 1) := by decide +kernel
theorem dX7_kindAbove_43 : decode cX7_kindAbove 43 = .ok (.ireturn, 1) := by decide +kernel
theorem dX7_kindAbove_44 : decode cX7_kindAbove 44 = .ok (.iconst 2, 1) := by decide +kernel
theorem dX7_kindAbove_45 : decode cX7_kindAbove 45 = .ok (.ireturn, 1) := by decide +kernel
theorem dX7_kindAbove_46 : decode cX7_kindAbove 46 = .ok (.iconst 3, 1) := by decide +kernel
theorem dX7_kindAbove_47 : decode cX7_kindAbove 47 = .ok (.ireturn, 1) := by decide +kernel
theorem dX7_kindAbove_48 : decode cX7_kindAbove 48 = .ok (.iconst (-1), 1) := by decide +kernel
theorem dX7_kindAbove_49 : decode cX7_kindAbove 49 = .ok (.ireturn, 1) := by decide +kernel
theorem dX7_count_0 : decode cX7_count 0 = .ok (.iload_n 1, 1) := by decide +kernel
theorem dX7_count_1 : decode cX7_count 1 = .ok (.tableswitch 102 0 6 #[43, 51, 56, 67, 78, 89, 97], 43) := by decide +kernel
theorem dX7_count_44 : decode cX7_count 44 = .ok (.aload_n 0, 1) := by decide +kernel
theorem dX7_count_45 : decode cX7_count 45 = .ok (.getfield 62, 3) := by decide +kernel
theorem dX7_count_48 : decode cX7_count 48 = .ok (.getfield 79, 3) := by decide +kernel
theorem dX7_count_51 : decode cX7_count 51 = .ok (.ireturn, 1) := by decide +kernel
theorem dX7_count_52 : decode cX7_count 52 = .ok (.aload_n 0, 1) := by decide +kernel
theorem dX7_count_53 : decode cX7_count 53 = .ok (.getfield 169, 3) := by decide +kernel
theorem dX7_count_56 : decode cX7_count 56 = .ok (.ireturn, 1) := by decide +kernel
theorem dX7_count_57 : decode cX7_count 57 = .ok (.aload_n 0, 1) := by decide +kernel
theorem dX7_count_58 : decode cX7_count 58 = .ok (.getfield 62, 3) := by decide +kernel
theorem dX7_count_61 : decode cX7_count 61 = .ok (.getfield 232, 3) := by decide +kernel
theorem dX7_count_64 : decode cX7_count 64 = .ok (.getfield 244, 3) := by decide +kernel
theorem dX7_count_67 : decode cX7_count 67 = .ok (.ireturn, 1) := by decide +kernel
theorem dX7_count_68 : decode cX7_count 68 = .ok (.aload_n 0, 1) := by decide +kernel
theorem dX7_count_69 : decode cX7_count 69 = .ok (.getfield 62, 3) := by decide +kernel
theorem dX7_count_72 : decode cX7_count 72 = .ok (.getfield 278, 3) := by decide +kernel
theorem dX7_count_75 : decode cX7_count 75 = .ok (.getfield 244, 3) := by decide +kernel
theorem dX7_count_78 : decode cX7_count 78 = .ok (.ireturn, 1) := by decide +kernel
theorem dX7_count_79 : decode cX7_count 79 = .ok (.aload_n 0, 1) := by decide +kernel
theorem dX7_count_80 : decode cX7_count 80 = .ok (.getfield 62, 3) := by decide +kernel
theorem dX7_count_83 : decode cX7_count 83 = .ok (.getfield 287, 3) := by decide +kernel
theorem dX7_count_86 : decode cX7_count 86 = .ok (.getfield 244, 3) := by decide +kernel
theorem dX7_count_89 : decode cX7_count 89 = .ok (.ireturn, 1) := by decide +kernel
theorem dX7_count_90 : decode cX7_count 90 = .ok (.aload_n 0, 1) := by decide +kernel
theorem dX7_count_91 : decode cX7_count 91 = .ok (.getfield 12, 3) := by decide +kernel
theorem dX7_count_94 : decode cX7_count 94 = .ok (.getfield 162, 3) := by decide +kernel
theorem dX7_count_97 : decode cX7_count 97 = .ok (.ireturn, 1) := by decide +kernel
theorem dX7_count_98 : decode cX7_count 98 = .ok (.aload_n 0, 1) := by decide +kernel
theorem dX7_count_99 : decode cX7_count 99 = .ok (.getfield 304, 3) := by decide +kernel
theorem dX7_count_102 : decode cX7_count 102 = .ok (.ireturn, 1) := by decide +kernel
theorem dX7_count_103 : decode cX7_count 103 = .ok (.bipush (-2), 2) := by decide +kernel
theorem dX7_count_105 : decode cX7_count 105 = .ok (.ireturn, 1) := by decide +kernel
theorem dX7_tape_0 : decode cX7_tape 0 = .ok (.iload_n 1, 1) := by decide +kernel
theorem dX7_tape_1 : decode cX7_tape 1 = .ok (.bipush 6, 2) := by decide +kernel
theorem dX7_tape_3 : decode cX7_tape 3 = .ok (.invokestatic 83, 3) := by decide +kernel
theorem dX7_tape_6 : decode cX7_tape 6 = .ok (.ifCond .ne 5, 3) := by decide +kernel
theorem dX7_tape_9 : decode cX7_tape 9 = .ok (.iconst (-1), 1) := by decide +kernel
theorem dX7_tape_10 : decode cX7_tape 10 = .ok (.ireturn, 1) := by decide +kernel
theorem dX7_tape_11 : decode cX7_tape 11 = .ok (.iload_n 2, 1) := by decide +kernel
theorem dX7_tape_12 : decode cX7_tape 12 = .ok (.iconst (-1), 1) := by decide +kernel
theorem dX7_tape_13 : decode cX7_tape 13 = .ok (.if_icmp .ne 16, 3) := by decide +kernel
theorem dX7_tape_16 : decode cX7_tape 16 = .ok (.aload_n 0, 1) := by decide +kernel
theorem dX7_tape_17 : decode cX7_tape 17 = .ok (.getfield 30, 3) := by decide +kernel
theorem dX7_tape_20 : decode cX7_tape 20 = .ok (.iload_n 1, 1) := by decide +kernel
theorem dX7_tape_21 : decode cX7_tape 21 = .ok (.aaload, 1) := by decide +kernel
theorem dX7_tape_22 : decode cX7_tape 22 = .ok (.iconst (-1), 1) := by decide +kernel
theorem dX7_tape_23 : decode cX7_tape 23 = .ok (.iconst 0, 1) := by decide +kernel
theorem dX7_tape_24 : decode cX7_tape 24 = .ok (.invokevirtual 327, 3) := by decide +kernel
theorem dX7_tape_27 : decode cX7_tape 27 = .ok (.iconst 1, 1) := by decide +kernel
theorem dX7_tape_28 : decode cX7_tape 28 = .ok (.ireturn, 1) := by decide +kernel
theorem dX7_tape_29 : decode cX7_tape 29 = .ok (.iload_n 2, 1) := by decide +kernel
theorem dX7_tape_30 : decode cX7_tape 30 = .ok (.iconst 5, 1) := by decide +kernel
theorem dX7_tape_31 : decode cX7_tape 31 = .ok (.invokestatic 83, 3) := by decide +kernel
theorem dX7_tape_34 : decode cX7_tape 34 = .ok (.ifCond .eq 9, 3) := by decide +kernel
theorem dX7_tape_37 : decode cX7_tape 37 = .ok (.iload_n 3, 1) := by decide +kernel
theorem dX7_tape_38 : decode cX7_tape 38 = .ok (.bipush 60, 2) := by decide +kernel
theorem dX7_tape_40 : decode cX7_tape 40 = .ok (.if_icmp .le 6, 3) := by decide +kernel
theorem dX7_tape_43 : decode cX7_tape 43 = .ok (.bipush (-2), 2) := by decide +kernel
theorem dX7_tape_45 : decode cX7_tape 45 = .ok (.ireturn, 1) := by decide +kernel
theorem dX7_tape_46 : decode cX7_tape 46 = .ok (.iload_n 3, 1) := by decide +kernel
theorem dX7_tape_47 : decode cX7_tape 47 = .ok (.ifCond .ge 6, 3) := by decide +kernel
theorem dX7_tape_50 : decode cX7_tape 50 = .ok (.bipush (-14), 2) := by decide +kernel
theorem dX7_tape_52 : decode cX7_tape 52 = .ok (.ireturn, 1) := by decide +kernel
theorem dX7_tape_53 : decode cX7_tape 53 = .ok (.aload_n 0, 1) := by decide +kernel
theorem dX7_tape_54 : decode cX7_tape 54 = .ok (.getfield 30, 3) := by decide +kernel
theorem dX7_tape_57 : decode cX7_tape 57 = .ok (.iload_n 1, 1) := by decide +kernel
theorem dX7_tape_58 : decode cX7_tape 58 = .ok (.aaload, 1) := by decide +kernel
theorem dX7_tape_59 : decode cX7_tape 59 = .ok (.iload_n 2, 1) := by decide +kernel
theorem dX7_tape_60 : decode cX7_tape 60 = .ok (.iload_n 3, 1) := by decide +kernel
theorem dX7_tape_61 : decode cX7_tape 61 = .ok (.invokevirtual 327, 3) := by decide +kernel
theorem dX7_tape_64 : decode cX7_tape 64 = .ok (.iconst 1, 1) := by decide +kernel
theorem dX7_tape_65 : decode cX7_tape 65 = .ok (.ireturn, 1) := by decide +kernel
theorem dX7_item_0 : decode cX7_item 0 = .ok (.iload_n 1, 1) := by decide +kernel
theorem dX7_item_1 : decode cX7_item 1 = .ok (.bipush 6, 2) := by decide +kernel
theorem dX7_item_3 : decode cX7_item 3 = .ok (.invokestatic 83, 3) := by decide +kernel
theorem dX7_item_6 : decode cX7_item 6 = .ok (.ifCond .ne 5, 3) := by decide +kernel
theorem dX7_item_9 : decode cX7_item 9 = .ok (.iconst (-1), 1) := by decide +kernel
theorem dX7_item_10 : decode cX7_item 10 = .ok (.ireturn, 1) := by decide +kernel
theorem dX7_item_11 : decode cX7_item 11 = .ok (.aload_n 0, 1) := by decide +kernel
theorem dX7_item_12 : decode cX7_item 12 = .ok (.getfield 30, 3) := by decide +kernel
theorem dX7_item_15 : decode cX7_item 15 = .ok (.iload_n 1, 1) := by decide +kernel
theorem dX7_item_16 : decode cX7_item 16 = .ok (.aaload, 1) := by decide +kernel
theorem dX7_item_17 : decode cX7_item 17 = .ok (.getfield 290, 3) := by decide +kernel
theorem dX7_item_20 : decode cX7_item 20 = .ok (.iconst (-1), 1) := by decide +kernel
theorem dX7_item_21 : decode cX7_item 21 = .ok (.if_icmp .ne 6, 3) := by decide +kernel
theorem dX7_item_24 : decode cX7_item 24 = .ok (.bipush (-11), 2) := by decide +kernel
theorem dX7_item_26 : decode cX7_item 26 = .ok (.ireturn, 1) := by decide +kernel
theorem dX7_item_27 : decode cX7_item 27 = .ok (.aload_n 0, 1) := by decide +kernel
theorem dX7_item_28 : decode cX7_item 28 = .ok (.getfield 30, 3) := by decide +kernel
theorem dX7_item_31 : decode cX7_item 31 = .ok (.iload_n 1, 1) := by decide +kernel
theorem dX7_item_32 : decode cX7_item 32 = .ok (.aaload, 1) := by decide +kernel
theorem dX7_item_33 : decode cX7_item 33 = .ok (.iload_n 2, 1) := by decide +kernel
theorem dX7_item_34 : decode cX7_item 34 = .ok (.invokevirtual 293, 3) := by decide +kernel
theorem dX7_item_37 : decode cX7_item 37 = .ok (.ifCond .ne 6, 3) := by decide +kernel
theorem dX7_item_40 : decode cX7_item 40 = .ok (.bipush (-13), 2) := by decide +kernel
theorem dX7_item_42 : decode cX7_item 42 = .ok (.ireturn, 1) := by decide +kernel
theorem dX7_item_43 : decode cX7_item 43 = .ok (.aload_n 0, 1) := by decide +kernel
theorem dX7_item_44 : decode cX7_item 44 = .ok (.getfield 30, 3) := by decide +kernel
theorem dX7_item_47 : decode cX7_item 47 = .ok (.iload_n 1, 1) := by decide +kernel
theorem dX7_item_48 : decode cX7_item 48 = .ok (.aaload, 1) := by decide +kernel
theorem dX7_item_49 : decode cX7_item 49 = .ok (.iload_n 2, 1) := by decide +kernel
theorem dX7_item_50 : decode cX7_item 50 = .ok (.lload_n 3, 1) := by decide +kernel
theorem dX7_item_51 : decode cX7_item 51 = .ok (.invokevirtual 330, 3) := by decide +kernel
theorem dX7_item_54 : decode cX7_item 54 = .ok (.iconst 1, 1) := by decide +kernel
theorem dX7_item_55 : decode cX7_item 55 = .ok (.ireturn, 1) := by decide +kernel
theorem dX7_read_0 : decode cX7_read 0 = .ok (.iload_n 1, 1) := by decide +kernel
theorem dX7_read_1 : decode cX7_read 1 = .ok (.bipush 6, 2) := by decide +kernel
theorem dX7_read_3 : decode cX7_read 3 = .ok (.invokestatic 83, 3) := by decide +kernel
theorem dX7_read_6 : decode cX7_read 6 = .ok (.ifCond .eq 16, 3) := by decide +kernel
theorem dX7_read_9 : decode cX7_read 9 = .ok (.aload_n 0, 1) := by decide +kernel
theorem dX7_read_10 : decode cX7_read 10 = .ok (.getfield 30, 3) := by decide +kernel
theorem dX7_read_13 : decode cX7_read 13 = .ok (.iload_n 1, 1) := by decide +kernel
theorem dX7_read_14 : decode cX7_read 14 = .ok (.aaload, 1) := by decide +kernel
theorem dX7_read_15 : decode cX7_read 15 = .ok (.iload_n 2, 1) := by decide +kernel
theorem dX7_read_16 : decode cX7_read 16 = .ok (.invokevirtual 293, 3) := by decide +kernel
theorem dX7_read_19 : decode cX7_read 19 = .ok (.ifCond .ne 7, 3) := by decide +kernel
theorem dX7_read_22 : decode cX7_read 22 = .ok (.ldc2_w 272, 3) := by decide +kernel
theorem dX7_read_25 : decode cX7_read 25 = .ok (.lreturn, 1) := by decide +kernel
theorem dX7_read_26 : decode cX7_read 26 = .ok (.aload_n 0, 1) := by decide +kernel
theorem dX7_read_27 : decode cX7_read 27 = .ok (.getfield 30, 3) := by decide +kernel
theorem dX7_read_30 : decode cX7_read 30 = .ok (.iload_n 1, 1) := by decide +kernel
theorem dX7_read_31 : decode cX7_read 31 = .ok (.aaload, 1) := by decide +kernel
theorem dX7_read_32 : decode cX7_read 32 = .ok (.getfield 296, 3) := by decide +kernel
theorem dX7_read_35 : decode cX7_read 35 = .ok (.iload_n 2, 1) := by decide +kernel
theorem dX7_read_36 : decode cX7_read 36 = .ok (.laload, 1) := by decide +kernel
theorem dX7_read_37 : decode cX7_read 37 = .ok (.lreturn, 1) := by decide +kernel
theorem dX7_shift_0 : decode cX7_shift 0 = .ok (.iload_n 1, 1) := by decide +kernel
theorem dX7_shift_1 : decode cX7_shift 1 = .ok (.bipush 6, 2) := by decide +kernel
theorem dX7_shift_3 : decode cX7_shift 3 = .ok (.invokestatic 83, 3) := by decide +kernel
theorem dX7_shift_6 : decode cX7_shift 6 = .ok (.ifCond .eq 12, 3) := by decide +kernel
theorem dX7_shift_9 : decode cX7_shift 9 = .ok (.iload_n 3, 1) := by decide +kernel
theorem dX7_shift_10 : decode cX7_shift 10 = .ok (.bipush 6, 2) := by decide +kernel
theorem dX7_shift_12 : decode cX7_shift 12 = .ok (.invokestatic 83, 3) := by decide +kernel
theorem dX7_shift_15 : decode cX7_shift 15 = .ok (.ifCond .ne 5, 3) := by decide +kernel
theorem dX7_shift_18 : decode cX7_shift 18 = .ok (.iconst (-1), 1) := by decide +kernel
theorem dX7_shift_19 : decode cX7_shift 19 = .ok (.ireturn, 1) := by decide +kernel
theorem dX7_shift_20 : decode cX7_shift 20 = .ok (.aload_n 0, 1) := by decide +kernel
theorem dX7_shift_21 : decode cX7_shift 21 = .ok (.getfield 30, 3) := by decide +kernel
theorem dX7_shift_24 : decode cX7_shift 24 = .ok (.iload_n 1, 1) := by decide +kernel
theorem dX7_shift_25 : decode cX7_shift 25 = .ok (.aaload, 1) := by decide +kernel
theorem dX7_shift_26 : decode cX7_shift 26 = .ok (.astore 6, 2) := by decide +kernel
theorem dX7_shift_28 : decode cX7_shift 28 = .ok (.aload_n 0, 1) := by decide +kernel
theorem dX7_shift_29 : decode cX7_shift 29 = .ok (.getfield 30, 3) := by decide +kernel
theorem dX7_shift_32 : decode cX7_shift 32 = .ok (.iload_n 3, 1) := by decide +kernel
theorem dX7_shift_33 : decode cX7_shift 33 = .ok (.aaload, 1) := by decide +kernel
theorem dX7_shift_34 : decode cX7_shift 34 = .ok (.astore 7, 2) := by decide +kernel
theorem dX7_shift_36 : decode cX7_shift 36 = .ok (.aload 6, 2) := by decide +kernel
theorem dX7_shift_38 : decode cX7_shift 38 = .ok (.getfield 290, 3) := by decide +kernel
theorem dX7_shift_41 : decode cX7_shift 41 = .ok (.iconst (-1), 1) := by decide +kernel
theorem dX7_shift_42 : decode cX7_shift 42 = .ok (.if_icmp .eq 12, 3) := by decide +kernel
theorem dX7_shift_45 : decode cX7_shift 45 = .ok (.aload 7, 2) := by decide +kernel
theorem dX7_shift_47 : decode cX7_shift 47 = .ok (.getfield 290, 3) := by decide +kernel
theorem dX7_shift_50 : decode cX7_shift 50 = .ok (.iconst (-1), 1) := by decide +kernel
theorem dX7_shift_51 : decode cX7_shift 51 = .ok (.if_icmp .ne 6, 3) := by decide +kernel
theorem dX7_shift_54 : decode cX7_shift 54 = .ok (.bipush (-11), 2) := by decide +kernel
theorem dX7_shift_56 : decode cX7_shift 56 = .ok (.ireturn, 1) := by decide +kernel
theorem dX7_shift_57 : decode cX7_shift 57 = .ok (.aload 6, 2) := by decide +kernel
theorem dX7_shift_59 : decode cX7_shift 59 = .ok (.getfield 290, 3) := by decide +kernel
theorem dX7_shift_62 : decode cX7_shift 62 = .ok (.aload 7, 2) := by decide +kernel
theorem dX7_shift_64 : decode cX7_shift 64 = .ok (.getfield 290, 3) := by decide +kernel
theorem dX7_shift_67 : decode cX7_shift 67 = .ok (.if_icmp .eq 6, 3) := by decide +kernel
theorem dX7_shift_70 : decode cX7_shift 70 = .ok (.bipush (-12), 2) := by decide +kernel
theorem dX7_shift_72 : decode cX7_shift 72 = .ok (.ireturn, 1) := by decide +kernel
theorem dX7_shift_73 : decode cX7_shift 73 = .ok (.aload 6, 2) := by decide +kernel
theorem dX7_shift_75 : decode cX7_shift 75 = .ok (.iload_n 2, 1) := by decide +kernel
theorem dX7_shift_76 : decode cX7_shift 76 = .ok (.iload 5, 2) := by decide +kernel
theorem dX7_shift_78 : decode cX7_shift 78 = .ok (.invokevirtual 334, 3) := by decide +kernel
theorem dX7_shift_81 : decode cX7_shift 81 = .ok (.ifCond .eq 15, 3) := by decide +kernel
theorem dX7_shift_84 : decode cX7_shift 84 = .ok (.aload 7, 2) := by decide +kernel
theorem dX7_shift_86 : decode cX7_shift 86 = .ok (.iload 4, 2) := by decide +kernel
theorem dX7_shift_88 : decode cX7_shift 88 = .ok (.iload 5, 2) := by decide +kernel
theorem dX7_shift_90 : decode cX7_shift 90 = .ok (.invokevirtual 334, 3) := by decide +kernel
theorem dX7_shift_93 : decode cX7_shift 93 = .ok (.ifCond .ne 6, 3) := by decide +kernel
theorem dX7_shift_96 : decode cX7_shift 96 = .ok (.bipush (-13), 2) := by decide +kernel
theorem dX7_shift_98 : decode cX7_shift 98 = .ok (.ireturn, 1) := by decide +kernel
theorem dX7_shift_99 : decode cX7_shift 99 = .ok (.aload 6, 2) := by decide +kernel
theorem dX7_shift_101 : decode cX7_shift 101 = .ok (.getfield 296, 3) := by decide +kernel
theorem dX7_shift_104 : decode cX7_shift 104 = .ok (.iload_n 2, 1) := by decide +kernel
theorem dX7_shift_105 : decode cX7_shift 105 = .ok (.aload 7, 2) := by decide +kernel
theorem dX7_shift_107 : decode cX7_shift 107 = .ok (.getfield 296, 3) := by decide +kernel
theorem dX7_shift_110 : decode cX7_shift 110 = .ok (.iload 4, 2) := by decide +kernel
theorem dX7_shift_112 : decode cX7_shift 112 = .ok (.iload 5, 2) := by decide +kernel
theorem dX7_shift_114 : decode cX7_shift 114 = .ok (.invokestatic 337, 3) := by decide +kernel
theorem dX7_shift_117 : decode cX7_shift 117 = .ok (.iload 5, 2) := by decide +kernel
theorem dX7_shift_119 : decode cX7_shift 119 = .ok (.ireturn, 1) := by decide +kernel
theorem dX8_init_0 : decode cX8_init 0 = .ok (.aload_n 0, 1) := by decide +kernel
theorem dX8_init_1 : decode cX8_init 1 = .ok (.invokespecial 3, 3) := by decide +kernel
theorem dX8_init_4 : decode cX8_init 4 = .ok (.aload_n 0, 1) := by decide +kernel
theorem dX8_init_5 : decode cX8_init 5 = .ok (.sipush 133, 3) := by decide +kernel
theorem dX8_init_8 : decode cX8_init 8 = .ok (.newarray .int, 2) := by decide +kernel
theorem dX8_init_10 : decode cX8_init 10 = .ok (.putfield 9, 3) := by decide +kernel
theorem dX8_init_13 : decode cX8_init 13 = .ok (.aload_n 0, 1) := by decide +kernel
theorem dX8_init_14 : decode cX8_init 14 = .ok (.sipush 532, 3) := by decide +kernel
theorem dX8_init_17 : decode cX8_init 17 = .ok (.newarray .int, 2) := by decide +kernel
theorem dX8_init_19 : decode cX8_init 19 = .ok (.putfield 15, 3) := by decide +kernel
theorem dX8_init_22 : decode cX8_init 22 = .ok (.aload_n 0, 1) := by decide +kernel
theorem dX8_init_23 : decode cX8_init 23 = .ok (.sipush 133, 3) := by decide +kernel
theorem dX8_init_26 : decode cX8_init 26 = .ok (.newarray .int, 2) := by decide +kernel
theorem dX8_init_28 : decode cX8_init 28 = .ok (.putfield 18, 3) := by decide +kernel
theorem dX8_init_31 : decode cX8_init 31 = .ok (.aload_n 0, 1) := by decide +kernel
theorem dX8_init_32 : decode cX8_init 32 = .ok (.bipush 100, 2) := by decide +kernel
theorem dX8_init_34 : decode cX8_init 34 = .ok (.newarray .int, 2) := by decide +kernel
theorem dX8_init_36 : decode cX8_init 36 = .ok (.putfield 21, 3) := by decide +kernel
theorem dX8_init_39 : decode cX8_init 39 = .ok (.aload_n 0, 1) := by decide +kernel
theorem dX8_init_40 : decode cX8_init 40 = .ok (.sipush 600, 3) := by decide +kernel
theorem dX8_init_43 : decode cX8_init 43 = .ok (.newarray .int, 2) := by decide +kernel
theorem dX8_init_45 : decode cX8_init 45 = .ok (.putfield 24, 3) := by decide +kernel
theorem dX8_init_48 : decode cX8_init 48 = .ok (.aload_n 0, 1) := by decide +kernel
theorem dX8_init_49 : decode cX8_init 49 = .ok (.bipush 6, 2) := by decide +kernel
theorem dX8_init_51 : decode cX8_init 51 = .ok (.newarray .int, 2) := by decide +kernel
theorem dX8_init_53 : decode cX8_init 53 = .ok (.putfield 27, 3) := by decide +kernel
theorem dX8_init_56 : decode cX8_init 56 = .ok (.aload_n 0, 1) := by decide +kernel
theorem dX8_init_57 : decode cX8_init 57 = .ok (.bipush 100, 2) := by decide +kernel
theorem dX8_init_59 : decode cX8_init 59 = .ok (.newarray .int, 2) := by decide +kernel
theorem dX8_init_61 : decode cX8_init 61 = .ok (.putfield 30, 3) := by decide +kernel
theorem dX8_init_64 : decode cX8_init 64 = .ok (.aload_n 0, 1) := by decide +kernel
theorem dX8_init_65 : decode cX8_init 65 = .ok (.bipush 6, 2) := by decide +kernel
theorem dX8_init_67 : decode cX8_init 67 = .ok (.newarray .int, 2) := by decide +kernel
theorem dX8_init_69 : decode cX8_init 69 = .ok (.putfield 33, 3) := by decide +kernel
theorem dX8_init_72 : decode cX8_init 72 = .ok (.aload_n 0, 1) := by decide +kernel
theorem dX8_init_73 : decode cX8_init 73 = .ok (.bipush 6, 2) := by decide +kernel
theorem dX8_init_75 : decode cX8_init 75 = .ok (.newarray .char, 2) := by decide +kernel
theorem dX8_init_77 : decode cX8_init 77 = .ok (.dup, 1) := by decide +kernel
theorem dX8_init_78 : decode cX8_init 78 = .ok (.iconst 0, 1) := by decide +kernel
theorem dX8_init_79 : decode cX8_init 79 = .ok (.bipush 112, 2) := by decide +kernel
theorem dX8_init_81 : decode cX8_init 81 = .ok (.castore, 1) := by decide +kernel
theorem dX8_init_82 : decode cX8_init 82 = .ok (.dup, 1) := by decide +kernel
theorem dX8_init_83 : decode cX8_init 83 = .ok (.iconst 1, 1) := by decide +kernel
theorem dX8_init_84 : decode cX8_init 84 = .ok (.bipush 107, 2) := by decide +kernel
theorem dX8_init_86 : decode cX8_init 86 = .ok (.castore, 1) := by decide +kernel
theorem dX8_init_87 : decode cX8_init 87 = .ok (.dup, 1) := by decide +kernel
theorem dX8_init_88 : decode cX8_init 88 = .ok (.iconst 2, 1) := by decide +kernel
theorem dX8_init_89 : decode cX8_init 89 = .ok (.bipush 118, 2) := by decide +kernel
theorem dX8_init_91 : decode cX8_init 91 = .ok (.castore, 1) := by decide +kernel
theorem dX8_init_92 : decode cX8_init 92 = .ok (.dup, 1) := by decide +kernel
theorem dX8_init_93 : decode cX8_init 93 = .ok (.iconst 3, 1) := by decide +kernel
theorem dX8_init_94 : decode cX8_init 94 = .ok (.bipush 103, 2) := by decide +kernel
theorem dX8_init_96 : decode cX8_init 96 = .ok (.castore, 1) := by decide +kernel
theorem dX8_init_97 : decode cX8_init 97 = .ok (.dup, 1) := by decide +kernel
theorem dX8_init_98 : decode cX8_init 98 = .ok (.iconst 4, 1) := by decide +kernel
theorem dX8_init_99 : decode cX8_init 99 = .ok (.bipush 116, 2) := by decide +kernel
theorem dX8_init_101 : decode cX8_init 101 = .ok (.castore, 1) := by decide +kernel
theorem dX8_init_102 : decode cX8_init 102 = .ok (.dup, 1) := by decide +kernel
theorem dX8_init_103 : decode cX8_init 103 = .ok (.iconst 5, 1) := by decide +kernel
theorem dX8_init_104 : decode cX8_init 104 = .ok (.bipush 100, 2) := by decide +kernel
theorem dX8_init_106 : decode cX8_init 106 = .ok (.castore, 1) := by decide +kernel
theorem dX8_init_107 : decode cX8_init 107 = .ok (.putfield 36, 3) := by decide +kernel
theorem dX8_init_110 : decode cX8_init 110 = .ok (.aload_n 0, 1) := by decide +kernel
theorem dX8_init_111 : decode cX8_init 111 = .ok (.bipush 24, 2) := by decide +kernel
theorem dX8_init_113 : decode cX8_init 113 = .ok (.newarray .char, 2) := by decide +kernel
theorem dX8_init_115 : decode cX8_init 115 = .ok (.dup, 1) := by decide +kernel
theorem dX8_init_116 : decode cX8_init 116 = .ok (.iconst 0, 1) := by decide +kernel
theorem dX8_init_117 : decode cX8_init 117 = .ok (.bipush 104, 2) := by decide +kernel
theorem dX8_init_119 : decode cX8_init 119 = .ok (.castore, 1) := by decide +kernel
theorem dX8_init_120 : decode cX8_init 120 = .ok (.dup, 1) := by decide +kernel
theorem dX8_init_121 : decode cX8_init 121 = .ok (.iconst 1, 1) := by decide +kernel
theorem dX8_init_122 : decode cX8_init 122 = .ok (.bipush 101, 2) := by decide +kernel
theorem dX8_init_124 : decode cX8_init 124 = .ok (.castore, 1) := by decide +kernel
theorem dX8_init_125 : decode cX8_init 125 = .ok (.dup, 1) := by decide +kernel
theorem dX8_init_126 : decode cX8_init 126 = .ok (.iconst 2, 1) := by decide +kernel
theorem dX8_init_127 : decode cX8_init 127 = .ok (.bipush 108, 2) := by decide +kernel
theorem dX8_init_129 : decode cX8_init 129 = .ok (.castore, 1) := by decide +kernel
theorem dX8_init_130 : decode cX8_init 130 = .ok (.dup, 1) := by decide +kernel
theorem dX8_init_131 : decode cX8_init 131 = .ok (.iconst 3, 1) := by decide +kernel
theorem dX8_init_132 : decode cX8_init 132 = .ok (.bipush 112, 2) := by decide +kernel
theorem dX8_init_134 : decode cX8_init 134 = .ok (.castore, 1) := by decide +kernel
theorem dX8_init_135 : decode cX8_init 135 = .ok (.dup, 1) := by decide +kernel
theorem dX8_init_136 : decode cX8_init 136 = .ok (.iconst 4, 1) := by decide +kernel
theorem dX8_init_137 : decode cX8_init 137 = .ok (.iconst 0, 1) := by decide +kernel
theorem dX8_init_138 : decode cX8_init 138 = .ok (.castore, 1) := by decide +kernel
theorem dX8_init_139 : decode cX8_init 139 = .ok (.dup, 1) := by decide +kernel
theorem dX8_init_140 : decode cX8_init 140 = .ok (.iconst 5, 1) := by decide +kernel
theorem dX8_init_141 : decode cX8_init 141 = .ok (.iconst 0, 1) := by decide +kernel
theorem dX8_init_142 : decode cX8_init 142 = .ok (.castore, 1) := by decide +kernel
theorem dX8_init_143 : decode cX8_init 143 = .ok (.dup, 1) := by decide +kernel
theorem dX8_init_144 : decode cX8_init 144 = .ok (.bipush 6, 2) := by decide +kernel
theorem dX8_init_146 : decode cX8_init 146 = .ok (.bipush 104, 2) := by decide +kernel
theorem dX8_init_148 : decode cX8_init 148 = .ok (.castore, 1) := by decide +kernel
theorem dX8_init_149 : decode cX8_init 149 = .ok (.dup, 1) := by decide +kernel
theorem dX8_init_150 : decode cX8_init 150 = .ok (.bipush 7, 2) := by decide +kernel
theorem dX8_init_152 : decode cX8_init 152 = .ok (.bipush 105, 2) := by decide +kernel
theorem dX8_init_154 : decode cX8_init 154 = .ok (.castore, 1) := by decide +kernel
theorem dX8_init_155 : decode cX8_init 155 = .ok (.dup, 1) := by decide +kernel
theorem dX8_init_156 : decode cX8_init 156 = .ok (.bipush 8, 2) := by decide +kernel
theorem dX8_init_158 : decode cX8_init 158 = .ok (.bipush 110, 2) := by decide +kernel
theorem dX8_init_160 : decode cX8_init 160 = .ok (.castore, 1) := by decide +kernel
theorem dX8_init_161 : decode cX8_init 161 = .ok (.dup, 1) := by decide +kernel
theorem dX8_init_162 : decode cX8_init 162 = .ok (.bipush 9, 2) := by decide +kernel
theorem dX8_init_164 : decode cX8_init 164 = .ok (.bipush 100, 2) := by decide +kernel
theorem dX8_init_166 : decode cX8_init 166 = .ok (.castore, 1) := by decide +kernel
theorem dX8_init_167 : decode cX8_init 167 = .ok (.dup, 1) := by decide +kernel
theorem dX8_init_168 : decode cX8_init 168 = .ok (.bipush 10, 2) := by decide +kernel
theorem dX8_init_170 : decode cX8_init 170 = .ok (.bipush 101, 2) := by decide +kernel
theorem dX8_init_172 : decode cX8_init 172 = .ok (.castore, 1) := by decide +kernel
theorem dX8_init_173 : decode cX8_init 173 = .ok (.dup, 1) := by decide +kernel
theorem dX8_init_174 : decode cX8_init 174 = .ok (.bipush 11, 2) := by decide +kernel
theorem dX8_init_176 : decode cX8_init 176 = .ok (.bipush 114, 2) := by decide +kernel
theorem dX8_init_178 : decode cX8_init 178 = .ok (.castore, 1) := by decide +kernel
theorem dX8_init_179 : decode cX8_init 179 = .ok (.dup, 1) := by decide +kernel
theorem dX8_init_180 : decode cX8_init 180 = .ok (.bipush 12, 2) := by decide +kernel
theorem dX8_init_182 : decode cX8_init 182 = .ok (.bipush 110, 2) := by decide +kernel
theorem dX8_init_184 : decode cX8_init 184 = .ok (.castore, 1) := by decide +kernel
theorem dX8_init_185 : decode cX8_init 185 = .ok (.dup, 1) := by decide +kernel
theorem dX8_init_186 : decode cX8_init 186 = .ok (.bipush 13, 2) := by decide +kernel
theorem dX8_init_188 : decode cX8_init 188 = .ok (.bipush 101, 2) := by decide +kernel
theorem dX8_init_190 : decode cX8_init 190 = .ok (.castore, 1) := by decide +kernel
theorem dX8_init_191 : decode cX8_init 191 = .ok (.dup, 1) := by decide +kernel
theorem dX8_init_192 : decode cX8_init 192 = .ok (.bipush 14, 2) := by decide +kernel
theorem dX8_init_194 : decode cX8_init 194 = .ok (.bipush 101, 2) := by decide +kernel
theorem dX8_init_196 : decode cX8_init 196 = .ok (.castore, 1) := by decide +kernel
theorem dX8_init_197 : decode cX8_init 197 = .ok (.dup, 1) := by decide +kernel
theorem dX8_init_198 : decode cX8_init 198 = .ok (.bipush 15, 2) := by decide +kernel
