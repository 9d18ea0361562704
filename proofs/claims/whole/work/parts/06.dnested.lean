theorem dX0_init_0 : decode cX0_init 0 = .ok (.aload_n 0, 1) := by decide +kernel
theorem dX0_init_1 : decode cX0_init 1 = .ok (.invokespecial 3, 3) := by decide +kernel
theorem dX0_init_4 : decode cX0_init 4 = .ok (.aload_n 0, 1) := by decide +kernel
theorem dX0_init_5 : decode cX0_init 5 = .ok (.bipush 7, 2) := by decide +kernel
theorem dX0_init_7 : decode cX0_init 7 = .ok (.newarray .int, 2) := by decide +kernel
theorem dX0_init_9 : decode cX0_init 9 = .ok (.putfield 9, 3) := by decide +kernel
theorem dX0_init_12 : decode cX0_init 12 = .ok (.aload_n 0, 1) := by decide +kernel
theorem dX0_init_13 : decode cX0_init 13 = .ok (.bipush 36, 2) := by decide +kernel
theorem dX0_init_15 : decode cX0_init 15 = .ok (.newarray .int, 2) := by decide +kernel
theorem dX0_init_17 : decode cX0_init 17 = .ok (.putfield 15, 3) := by decide +kernel
theorem dX0_init_20 : decode cX0_init 20 = .ok (.aload_n 0, 1) := by decide +kernel
theorem dX0_init_21 : decode cX0_init 21 = .ok (.bipush 36, 2) := by decide +kernel
theorem dX0_init_23 : decode cX0_init 23 = .ok (.newarray .int, 2) := by decide +kernel
theorem dX0_init_25 : decode cX0_init 25 = .ok (.putfield 18, 3) := by decide +kernel
theorem dX0_init_28 : decode cX0_init 28 = .ok (.aload_n 0, 1) := by decide +kernel
theorem dX0_init_29 : decode cX0_init 29 = .ok (.iconst 0, 1) := by decide +kernel
theorem dX0_init_30 : decode cX0_init 30 = .ok (.putfield 21, 3) := by decide +kernel
theorem dX0_init_33 : decode cX0_init 33 = .ok (.aload_n 0, 1) := by decide +kernel
theorem dX0_init_34 : decode cX0_init 34 = .ok (.iconst 0, 1) := by decide +kernel
theorem dX0_init_35 : decode cX0_init 35 = .ok (.putfield 25, 3) := by decide +kernel
theorem dX0_init_38 : decode cX0_init 38 = .ok (.aload_n 0, 1) := by decide +kernel
theorem dX0_init_39 : decode cX0_init 39 = .ok (.iconst 0, 1) := by decide +kernel
theorem dX0_init_40 : decode cX0_init 40 = .ok (.putfield 28, 3) := by decide +kernel
theorem dX0_init_43 : decode cX0_init 43 = .ok (.return_, 1) := by decide +kernel
theorem dX4_init_0 : decode cX4_init 0 = .ok (.aload_n 0, 1) := by decide +kernel
theorem dX4_init_1 : decode cX4_init 1 = .ok (.invokespecial 3, 3) := by decide +kernel
theorem dX4_init_4 : decode cX4_init 4 = .ok (.aload_n 0, 1) := by decide +kernel
theorem dX4_init_5 : decode cX4_init 5 = .ok (.bipush 120, 2) := by decide +kernel
theorem dX4_init_7 : decode cX4_init 7 = .ok (.newarray .int, 2) := by decide +kernel
theorem dX4_init_9 : decode cX4_init 9 = .ok (.putfield 9, 3) := by decide +kernel
theorem dX4_init_12 : decode cX4_init 12 = .ok (.aload_n 0, 1) := by decide +kernel
theorem dX4_init_13 : decode cX4_init 13 = .ok (.iconst 0, 1) := by decide +kernel
theorem dX4_init_14 : decode cX4_init 14 = .ok (.putfield 15, 3) := by decide +kernel
theorem dX4_init_17 : decode cX4_init 17 = .ok (.aload_n 0, 1) := by decide +kernel
theorem dX4_init_18 : decode cX4_init 18 = .ok (.iconst (-1), 1) := by decide +kernel
theorem dX4_init_19 : decode cX4_init 19 = .ok (.putfield 19, 3) := by decide +kernel
theorem dX4_init_22 : decode cX4_init 22 = .ok (.aload_n 0, 1) := by decide +kernel
theorem dX4_init_23 : decode cX4_init 23 = .ok (.iconst 0, 1) := by decide +kernel
theorem dX4_init_24 : decode cX4_init 24 = .ok (.putfield 22, 3) := by decide +kernel
theorem dX4_init_27 : decode cX4_init 27 = .ok (.aload_n 0, 1) := by decide +kernel
theorem dX4_init_28 : decode cX4_init 28 = .ok (.iconst 0, 1) := by decide +kernel
theorem dX4_init_29 : decode cX4_init 29 = .ok (.putfield 25, 3) := by decide +kernel
theorem dX4_init_32 : decode cX4_init 32 = .ok (.aload_n 0, 1) := by decide +kernel
theorem dX4_init_33 : decode cX4_init 33 = .ok (.iconst 0, 1) := by decide +kernel
theorem dX4_init_34 : decode cX4_init 34 = .ok (.putfield 28, 3) := by decide +kernel
theorem dX4_init_37 : decode cX4_init 37 = .ok (.return_, 1) := by decide +kernel
theorem dX1_init_0 : decode cX1_init 0 = .ok (.aload_n 0, 1) := by decide +kernel
theorem dX1_init_1 : decode cX1_init 1 = .ok (.invokespecial 3, 3) := by decide +kernel
theorem dX1_init_4 : decode cX1_init 4 = .ok (.aload_n 0, 1) := by decide +kernel
theorem dX1_init_5 : decode cX1_init 5 = .ok (.new 9, 3) := by decide +kernel
theorem dX1_init_8 : decode cX1_init 8 = .ok (.dup, 1) := by decide +kernel
theorem dX1_init_9 : decode cX1_init 9 = .ok (.invokespecial 11, 3) := by decide +kernel
theorem dX1_init_12 : decode cX1_init 12 = .ok (.putfield 12, 3) := by decide +kernel
theorem dX1_init_15 : decode cX1_init 15 = .ok (.aload_n 0, 1) := by decide +kernel
theorem dX1_init_16 : decode cX1_init 16 = .ok (.iconst 0, 1) := by decide +kernel
theorem dX1_init_17 : decode cX1_init 17 = .ok (.putfield 18, 3) := by decide +kernel
theorem dX1_init_20 : decode cX1_init 20 = .ok (.aload_n 0, 1) := by decide +kernel
theorem dX1_init_21 : decode cX1_init 21 = .ok (.iconst 0, 1) := by decide +kernel
theorem dX1_init_22 : decode cX1_init 22 = .ok (.putfield 22, 3) := by decide +kernel
theorem dX1_init_25 : decode cX1_init 25 = .ok (.return_, 1) := by decide +kernel
theorem dX2_init_0 : decode cX2_init 0 = .ok (.aload_n 0, 1) := by decide +kernel
theorem dX2_init_1 : decode cX2_init 1 = .ok (.invokespecial 3, 3) := by decide +kernel
theorem dX2_init_4 : decode cX2_init 4 = .ok (.aload_n 0, 1) := by decide +kernel
theorem dX2_init_5 : decode cX2_init 5 = .ok (.iconst 0, 1) := by decide +kernel
theorem dX2_init_6 : decode cX2_init 6 = .ok (.putfield 9, 3) := by decide +kernel
theorem dX2_init_9 : decode cX2_init 9 = .ok (.aload_n 0, 1) := by decide +kernel
theorem dX2_init_10 : decode cX2_init 10 = .ok (.iconst 0, 1) := by decide +kernel
theorem dX2_init_11 : decode cX2_init 11 = .ok (.putfield 15, 3) := by decide +kernel
theorem dX2_init_14 : decode cX2_init 14 = .ok (.aload_n 0, 1) := by decide +kernel
theorem dX2_init_15 : decode cX2_init 15 = .ok (.bipush 40, 2) := by decide +kernel
theorem dX2_init_17 : decode cX2_init 17 = .ok (.newarray .int, 2) := by decide +kernel
theorem dX2_init_19 : decode cX2_init 19 = .ok (.putfield 18, 3) := by decide +kernel
theorem dX2_init_22 : decode cX2_init 22 = .ok (.return_, 1) := by decide +kernel
theorem dX3_init_0 : decode cX3_init 0 = .ok (.aload_n 0, 1) := by decide +kernel
theorem dX3_init_1 : decode cX3_init 1 = .ok (.invokespecial 3, 3) := by decide +kernel
theorem dX3_init_4 : decode cX3_init 4 = .ok (.aload_n 0, 1) := by decide +kernel
theorem dX3_init_5 : decode cX3_init 5 = .ok (.iconst 0, 1) := by decide +kernel
theorem dX3_init_6 : decode cX3_init 6 = .ok (.putfield 9, 3) := by decide +kernel
theorem dX3_init_9 : decode cX3_init 9 = .ok (.aload_n 0, 1) := by decide +kernel
theorem dX3_init_10 : decode cX3_init 10 = .ok (.bipush 6, 2) := by decide +kernel
theorem dX3_init_12 : decode cX3_init 12 = .ok (.newarray .int, 2) := by decide +kernel
theorem dX3_init_14 : decode cX3_init 14 = .ok (.putfield 15, 3) := by decide +kernel
theorem dX3_init_17 : decode cX3_init 17 = .ok (.aload_n 0, 1) := by decide +kernel
theorem dX3_init_18 : decode cX3_init 18 = .ok (.bipush 6, 2) := by decide +kernel
theorem dX3_init_20 : decode cX3_init 20 = .ok (.newarray .int, 2) := by decide +kernel
theorem dX3_init_22 : decode cX3_init 22 = .ok (.putfield 19, 3) := by decide +kernel
theorem dX3_init_25 : decode cX3_init 25 = .ok (.aload_n 0, 1) := by decide +kernel
theorem dX3_init_26 : decode cX3_init 26 = .ok (.bipush 6, 2) := by decide +kernel
theorem dX3_init_28 : decode cX3_init 28 = .ok (.newarray .int, 2) := by decide +kernel
theorem dX3_init_30 : decode cX3_init 30 = .ok (.putfield 22, 3) := by decide +kernel
theorem dX3_init_33 : decode cX3_init 33 = .ok (.return_, 1) := by decide +kernel
theorem dX5_init_0 : decode cX5_init 0 = .ok (.aload_n 0, 1) := by decide +kernel
theorem dX5_init_1 : decode cX5_init 1 = .ok (.invokespecial 3, 3) := by decide +kernel
theorem dX5_init_4 : decode cX5_init 4 = .ok (.aload_n 0, 1) := by decide +kernel
theorem dX5_init_5 : decode cX5_init 5 = .ok (.iconst 0, 1) := by decide +kernel
theorem dX5_init_6 : decode cX5_init 6 = .ok (.putfield 9, 3) := by decide +kernel
theorem dX5_init_9 : decode cX5_init 9 = .ok (.aload_n 0, 1) := by decide +kernel
theorem dX5_init_10 : decode cX5_init 10 = .ok (.iconst 1, 1) := by decide +kernel
theorem dX5_init_11 : decode cX5_init 11 = .ok (.putfield 15, 3) := by decide +kernel
theorem dX5_init_14 : decode cX5_init 14 = .ok (.aload_n 0, 1) := by decide +kernel
theorem dX5_init_15 : decode cX5_init 15 = .ok (.iconst 0, 1) := by decide +kernel
theorem dX5_init_16 : decode cX5_init 16 = .ok (.putfield 18, 3) := by decide +kernel
theorem dX5_init_19 : decode cX5_init 19 = .ok (.aload_n 0, 1) := by decide +kernel
theorem dX5_init_20 : decode cX5_init 20 = .ok (.bipush 36, 2) := by decide +kernel
theorem dX5_init_22 : decode cX5_init 22 = .ok (.newarray .int, 2) := by decide +kernel
theorem dX5_init_24 : decode cX5_init 24 = .ok (.putfield 21, 3) := by decide +kernel
theorem dX5_init_27 : decode cX5_init 27 = .ok (.aload_n 0, 1) := by decide +kernel
theorem dX5_init_28 : decode cX5_init 28 = .ok (.bipush 24, 2) := by decide +kernel
theorem dX5_init_30 : decode cX5_init 30 = .ok (.newarray .int, 2) := by decide +kernel
theorem dX5_init_32 : decode cX5_init 32 = .ok (.putfield 25, 3) := by decide +kernel
theorem dX5_init_35 : decode cX5_init 35 = .ok (.aload_n 0, 1) := by decide +kernel
theorem dX5_init_36 : decode cX5_init 36 = .ok (.bipush 6, 2) := by decide +kernel
theorem dX5_init_38 : decode cX5_init 38 = .ok (.newarray .int, 2) := by decide +kernel
theorem dX5_init_40 : decode cX5_init 40 = .ok (.putfield 28, 3) := by decide +kernel
theorem dX5_init_43 : decode cX5_init 43 = .ok (.aload_n 0, 1) := by decide +kernel
theorem dX5_init_44 : decode cX5_init 44 = .ok (.bipush 10, 2) := by decide +kernel
theorem dX5_init_46 : decode cX5_init 46 = .ok (.newarray .int, 2) := by decide +kernel
theorem dX5_init_48 : decode cX5_init 48 = .ok (.putfield 31, 3) := by decide +kernel
theorem dX5_init_51 : decode cX5_init 51 = .ok (.aload_n 0, 1) := by decide +kernel
theorem dX5_init_52 : decode cX5_init 52 = .ok (.bipush 8, 2) := by decide +kernel
theorem dX5_init_54 : decode cX5_init 54 = .ok (.anewarray 34, 3) := by decide +kernel
theorem dX5_init_57 : decode cX5_init 57 = .ok (.putfield 36, 3) := by decide +kernel
theorem dX5_init_60 : decode cX5_init 60 = .ok (.aload_n 0, 1) := by decide +kernel
theorem dX5_init_61 : decode cX5_init 61 = .ok (.getfield 21, 3) := by decide +kernel
theorem dX5_init_64 : decode cX5_init 64 = .ok (.iconst (-1), 1) := by decide +kernel
theorem dX5_init_65 : decode cX5_init 65 = .ok (.invokestatic 40, 3) := by decide +kernel
theorem dX5_init_68 : decode cX5_init 68 = .ok (.aload_n 0, 1) := by decide +kernel
theorem dX5_init_69 : decode cX5_init 69 = .ok (.getfield 31, 3) := by decide +kernel
theorem dX5_init_72 : decode cX5_init 72 = .ok (.iconst (-1), 1) := by decide +kernel
theorem dX5_init_73 : decode cX5_init 73 = .ok (.invokestatic 40, 3) := by decide +kernel
theorem dX5_init_76 : decode cX5_init 76 = .ok (.iconst 0, 1) := by decide +kernel
theorem dX5_init_77 : decode cX5_init 77 = .ok (.istore_n 1, 1) := by decide +kernel
theorem dX5_init_78 : decode cX5_init 78 = .ok (.iload_n 1, 1) := by decide +kernel
theorem dX5_init_79 : decode cX5_init 79 = .ok (.bipush 8, 2) := by decide +kernel
theorem dX5_init_81 : decode cX5_init 81 = .ok (.if_icmp .ge 22, 3) := by decide +kernel
theorem dX5_init_84 : decode cX5_init 84 = .ok (.aload_n 0, 1) := by decide +kernel
theorem dX5_init_85 : decode cX5_init 85 = .ok (.getfield 36, 3) := by decide +kernel
theorem dX5_init_88 : decode cX5_init 88 = .ok (.iload_n 1, 1) := by decide +kernel
theorem dX5_init_89 : decode cX5_init 89 = .ok (.new 34, 3) := by decide +kernel
theorem dX5_init_92 : decode cX5_init 92 = .ok (.dup, 1) := by decide +kernel
theorem dX5_init_93 : decode cX5_init 93 = .ok (.invokespecial 46, 3) := by decide +kernel
theorem dX5_init_96 : decode cX5_init 96 = .ok (.aastore, 1) := by decide +kernel
theorem dX5_init_97 : decode cX5_init 97 = .ok (.iinc 1 1, 3) := by decide +kernel
theorem dX5_init_100 : decode cX5_init 100 = .ok (.goto (-22), 3) := by decide +kernel
theorem dX5_init_103 : decode cX5_init 103 = .ok (.return_, 1) := by decide +kernel
theorem dX5_isFull_0 : decode cX5_isFull 0 = .ok (.aload_n 0, 1) := by decide +kernel
theorem dX5_isFull_1 : decode cX5_isFull 1 = .ok (.getfield 18, 3) := by decide +kernel
theorem dX5_isFull_4 : decode cX5_isFull 4 = .ok (.bipush 8, 2) := by decide +kernel
theorem dX5_isFull_6 : decode cX5_isFull 6 = .ok (.if_icmp .lt 7, 3) := by decide +kernel
theorem dX5_isFull_9 : decode cX5_isFull 9 = .ok (.iconst 1, 1) := by decide +kernel
theorem dX5_isFull_10 : decode cX5_isFull 10 = .ok (.goto 4, 3) := by decide +kernel
theorem dX5_isFull_13 : decode cX5_isFull 13 = .ok (.iconst 0, 1) := by decide +kernel
theorem dX5_isFull_14 : decode cX5_isFull 14 = .ok (.ireturn, 1) := by decide +kernel
theorem dX0_begin_0 : decode cX0_begin 0 = .ok (.aload_n 0, 1) := by decide +kernel
theorem dX0_begin_1 : decode cX0_begin 1 = .ok (.getfield 9, 3) := by decide +kernel
theorem dX0_begin_4 : decode cX0_begin 4 = .ok (.iconst 0, 1) := by decide +kernel
theorem dX0_begin_5 : decode cX0_begin 5 = .ok (.iload_n 1, 1) := by decide +kernel
theorem dX0_begin_6 : decode cX0_begin 6 = .ok (.iastore, 1) := by decide +kernel
theorem dX0_begin_7 : decode cX0_begin 7 = .ok (.aload_n 0, 1) := by decide +kernel
theorem dX0_begin_8 : decode cX0_begin 8 = .ok (.getfield 9, 3) := by decide +kernel
theorem dX0_begin_11 : decode cX0_begin 11 = .ok (.iconst 1, 1) := by decide +kernel
theorem dX0_begin_12 : decode cX0_begin 12 = .ok (.iload_n 2, 1) := by decide +kernel
theorem dX0_begin_13 : decode cX0_begin 13 = .ok (.iastore, 1) := by decide +kernel
theorem dX0_begin_14 : decode cX0_begin 14 = .ok (.aload_n 0, 1) := by decide +kernel
theorem dX0_begin_15 : decode cX0_begin 15 = .ok (.getfield 9, 3) := by decide +kernel
theorem dX0_begin_18 : decode cX0_begin 18 = .ok (.iconst 2, 1) := by decide +kernel
theorem dX0_begin_19 : decode cX0_begin 19 = .ok (.iload_n 3, 1) := by decide +kernel
theorem dX0_begin_20 : decode cX0_begin 20 = .ok (.iastore, 1) := by decide +kernel
theorem dX0_begin_21 : decode cX0_begin 21 = .ok (.aload_n 0, 1) := by decide +kernel
theorem dX0_begin_22 : decode cX0_begin 22 = .ok (.getfield 9, 3) := by decide +kernel
theorem dX0_begin_25 : decode cX0_begin 25 = .ok (.iconst 3, 1) := by decide +kernel
theorem dX0_begin_26 : decode cX0_begin 26 = .ok (.iconst 1, 1) := by decide +kernel
theorem dX0_begin_27 : decode cX0_begin 27 = .ok (.iastore, 1) := by decide +kernel
theorem dX0_begin_28 : decode cX0_begin 28 = .ok (.aload_n 0, 1) := by decide +kernel
theorem dX0_begin_29 : decode cX0_begin 29 = .ok (.getfield 9, 3) := by decide +kernel
theorem dX0_begin_32 : decode cX0_begin 32 = .ok (.iconst 4, 1) := by decide +kernel
theorem dX0_begin_33 : decode cX0_begin 33 = .ok (.bipush 20, 2) := by decide +kernel
theorem dX0_begin_35 : decode cX0_begin 35 = .ok (.iastore, 1) := by decide +kernel
theorem dX0_begin_36 : decode cX0_begin 36 = .ok (.aload_n 0, 1) := by decide +kernel
theorem dX0_begin_37 : decode cX0_begin 37 = .ok (.getfield 9, 3) := by decide +kernel
theorem dX0_begin_40 : decode cX0_begin 40 = .ok (.iconst 5, 1) := by decide +kernel
theorem dX0_begin_41 : decode cX0_begin 41 = .ok (.iconst 0, 1) := by decide +kernel
theorem dX0_begin_42 : decode cX0_begin 42 = .ok (.iastore, 1) := by decide +kernel
theorem dX0_begin_43 : decode cX0_begin 43 = .ok (.aload_n 0, 1) := by decide +kernel
theorem dX0_begin_44 : decode cX0_begin 44 = .ok (.getfield 9, 3) := by decide +kernel
theorem dX0_begin_47 : decode cX0_begin 47 = .ok (.bipush 6, 2) := by decide +kernel
theorem dX0_begin_49 : decode cX0_begin 49 = .ok (.bipush 24, 2) := by decide +kernel
theorem dX0_begin_51 : decode cX0_begin 51 = .ok (.iastore, 1) := by decide +kernel
theorem dX0_begin_52 : decode cX0_begin 52 = .ok (.aload_n 0, 1) := by decide +kernel
theorem dX0_begin_53 : decode cX0_begin 53 = .ok (.getfield 15, 3) := by decide +kernel
theorem dX0_begin_56 : decode cX0_begin 56 = .ok (.iconst 0, 1) := by decide +kernel
theorem dX0_begin_57 : decode cX0_begin 57 = .ok (.invokestatic 31, 3) := by decide +kernel
theorem dX0_begin_60 : decode cX0_begin 60 = .ok (.aload_n 0, 1) := by decide +kernel
theorem dX0_begin_61 : decode cX0_begin 61 = .ok (.getfield 18, 3) := by decide +kernel
theorem dX0_begin_64 : decode cX0_begin 64 = .ok (.iconst 0, 1) := by decide +kernel
theorem dX0_begin_65 : decode cX0_begin 65 = .ok (.invokestatic 31, 3) := by decide +kernel
theorem dX0_begin_68 : decode cX0_begin 68 = .ok (.aload_n 0, 1) := by decide +kernel
theorem dX0_begin_69 : decode cX0_begin 69 = .ok (.iconst 0, 1) := by decide +kernel
theorem dX0_begin_70 : decode cX0_begin 70 = .ok (.putfield 21, 3) := by decide +kernel
theorem dX0_begin_73 : decode cX0_begin 73 = .ok (.aload_n 0, 1) := by decide +kernel
theorem dX0_begin_74 : decode cX0_begin 74 = .ok (.iconst 0, 1) := by decide +kernel
theorem dX0_begin_75 : decode cX0_begin 75 = .ok (.putfield 25, 3) := by decide +kernel
theorem dX0_begin_78 : decode cX0_begin 78 = .ok (.aload_n 0, 1) := by decide +kernel
theorem dX0_begin_79 : decode cX0_begin 79 = .ok (.iconst 0, 1) := by decide +kernel
theorem dX0_begin_80 : decode cX0_begin 80 = .ok (.putfield 28, 3) := by decide +kernel
theorem dX0_begin_83 : decode cX0_begin 83 = .ok (.return_, 1) := by decide +kernel
theorem dX5_raise_0 : decode cX5_raise 0 = .ok (.aload_n 0, 1) := by decide +kernel
theorem dX5_raise_1 : decode cX5_raise 1 = .ok (.getfield 36, 3) := by decide +kernel
theorem dX5_raise_4 : decode cX5_raise 4 = .ok (.aload_n 0, 1) := by decide +kernel
theorem dX5_raise_5 : decode cX5_raise 5 = .ok (.getfield 18, 3) := by decide +kernel
theorem dX5_raise_8 : decode cX5_raise 8 = .ok (.aaload, 1) := by decide +kernel
theorem dX5_raise_9 : decode cX5_raise 9 = .ok (.iload_n 1, 1) := by decide +kernel
theorem dX5_raise_10 : decode cX5_raise 10 = .ok (.iload_n 2, 1) := by decide +kernel
theorem dX5_raise_11 : decode cX5_raise 11 = .ok (.iload_n 3, 1) := by decide +kernel
theorem dX5_raise_12 : decode cX5_raise 12 = .ok (.invokevirtual 57, 3) := by decide +kernel
theorem dX5_raise_15 : decode cX5_raise 15 = .ok (.aload_n 0, 1) := by decide +kernel
theorem dX5_raise_16 : decode cX5_raise 16 = .ok (.dup, 1) := by decide +kernel
theorem dX5_raise_17 : decode cX5_raise 17 = .ok (.getfield 18, 3) := by decide +kernel
theorem dX5_raise_20 : decode cX5_raise 20 = .ok (.iconst 1, 1) := by decide +kernel
theorem dX5_raise_21 : decode cX5_raise 21 = .ok (.iadd, 1) := by decide +kernel
theorem dX5_raise_22 : decode cX5_raise 22 = .ok (.putfield 18, 3) := by decide +kernel
theorem dX5_raise_25 : decode cX5_raise 25 = .ok (.aload_n 0, 1) := by decide +kernel
theorem dX5_raise_26 : decode cX5_raise 26 = .ok (.getfield 18, 3) := by decide +kernel
theorem dX5_raise_29 : decode cX5_raise 29 = .ok (.iconst 1, 1) := by decide +kernel
theorem dX5_raise_30 : decode cX5_raise 30 = .ok (.isub, 1) := by decide +kernel
theorem dX5_raise_31 : decode cX5_raise 31 = .ok (.ireturn, 1) := by decide +kernel
theorem dX0_burnsAt_0 : decode cX0_burnsAt 0 = .ok (.aload_n 0, 1) := by decide +kernel
theorem dX0_burnsAt_1 : decode cX0_burnsAt 1 = .ok (.getfield 9, 3) := by decide +kernel
theorem dX0_burnsAt_4 : decode cX0_burnsAt 4 = .ok (.iconst 4, 1) := by decide +kernel
theorem dX0_burnsAt_5 : decode cX0_burnsAt 5 = .ok (.iaload, 1) := by decide +kernel
theorem dX0_burnsAt_6 : decode cX0_burnsAt 6 = .ok (.istore_n 2, 1) := by decide +kernel
theorem dX0_burnsAt_7 : decode cX0_burnsAt 7 = .ok (.aload_n 0, 1) := by decide +kernel
theorem dX0_burnsAt_8 : decode cX0_burnsAt 8 = .ok (.getfield 9, 3) := by decide +kernel
theorem dX0_burnsAt_11 : decode cX0_burnsAt 11 = .ok (.iconst 0, 1) := by decide +kernel
theorem dX0_burnsAt_12 : decode cX0_burnsAt 12 = .ok (.iaload, 1) := by decide +kernel
theorem dX0_burnsAt_13 : decode cX0_burnsAt 13 = .ok (.tableswitch 53 3 6 #[31, 41, 53, 35], 31) := by decide +kernel
theorem dX0_burnsAt_44 : decode cX0_burnsAt 44 = .ok (.iconst 2, 1) := by decide +kernel
theorem dX0_burnsAt_45 : decode cX0_burnsAt 45 = .ok (.iload_n 2, 1) := by decide +kernel
theorem dX0_burnsAt_46 : decode cX0_burnsAt 46 = .ok (.imul, 1) := by decide +kernel
theorem dX0_burnsAt_47 : decode cX0_burnsAt 47 = .ok (.ireturn, 1) := by decide +kernel
theorem dX0_burnsAt_48 : decode cX0_burnsAt 48 = .ok (.iconst 2, 1) := by decide +kernel
theorem dX0_burnsAt_49 : decode cX0_burnsAt 49 = .ok (.iload_n 2, 1) := by decide +kernel
theorem dX0_burnsAt_50 : decode cX0_burnsAt 50 = .ok (.imul, 1) := by decide +kernel
theorem dX0_burnsAt_51 : decode cX0_burnsAt 51 = .ok (.iconst 5, 1) := by decide +kernel
theorem dX0_burnsAt_52 : decode cX0_burnsAt 52 = .ok (.iadd, 1) := by decide +kernel
theorem dX0_burnsAt_53 : decode cX0_burnsAt 53 = .ok (.ireturn, 1) := by decide +kernel
theorem dX0_burnsAt_54 : decode cX0_burnsAt 54 = .ok (.iload_n 1, 1) := by decide +kernel
theorem dX0_burnsAt_55 : decode cX0_burnsAt 55 = .ok (.bipush 12, 2) := by decide +kernel
theorem dX0_burnsAt_57 : decode cX0_burnsAt 57 = .ok (.if_icmp .ge 7, 3) := by decide +kernel
theorem dX0_burnsAt_60 : decode cX0_burnsAt 60 = .ok (.iload_n 2, 1) := by decide +kernel
theorem dX0_burnsAt_61 : decode cX0_burnsAt 61 = .ok (.goto 4, 3) := by decide +kernel
theorem dX0_burnsAt_64 : decode cX0_burnsAt 64 = .ok (.iconst 0, 1) := by decide +kernel
theorem dX0_burnsAt_65 : decode cX0_burnsAt 65 = .ok (.ireturn, 1) := by decide +kernel
theorem dX0_burnsAt_66 : decode cX0_burnsAt 66 = .ok (.iload_n 2, 1) := by decide +kernel
theorem dX0_burnsAt_67 : decode cX0_burnsAt 67 = .ok (.ireturn, 1) := by decide +kernel
theorem dX0_isLitAt_0 : decode cX0_isLitAt 0 = .ok (.iload_n 1, 1) := by decide +kernel
theorem dX0_isLitAt_1 : decode cX0_isLitAt 1 = .ok (.aload_n 0, 1) := by decide +kernel
theorem dX0_isLitAt_2 : decode cX0_isLitAt 2 = .ok (.getfield 9, 3) := by decide +kernel
theorem dX0_isLitAt_5 : decode cX0_isLitAt 5 = .ok (.iconst 5, 1) := by decide +kernel
theorem dX0_isLitAt_6 : decode cX0_isLitAt 6 = .ok (.iaload, 1) := by decide +kernel
theorem dX0_isLitAt_7 : decode cX0_isLitAt 7 = .ok (.isub, 1) := by decide +kernel
theorem dX0_isLitAt_8 : decode cX0_isLitAt 8 = .ok (.bipush 24, 2) := by decide +kernel
theorem dX0_isLitAt_10 : decode cX0_isLitAt 10 = .ok (.invokestatic 55, 3) := by decide +kernel
theorem dX0_isLitAt_13 : decode cX0_isLitAt 13 = .ok (.aload_n 0, 1) := by decide +kernel
theorem dX0_isLitAt_14 : decode cX0_isLitAt 14 = .ok (.getfield 9, 3) := by decide +kernel
theorem dX0_isLitAt_17 : decode cX0_isLitAt 17 = .ok (.bipush 6, 2) := by decide +kernel
theorem dX0_isLitAt_19 : decode cX0_isLitAt 19 = .ok (.iaload, 1) := by decide +kernel
theorem dX0_isLitAt_20 : decode cX0_isLitAt 20 = .ok (.if_icmp .ge 7, 3) := by decide +kernel
theorem dX0_isLitAt_23 : decode cX0_isLitAt 23 = .ok (.iconst 1, 1) := by decide +kernel
theorem dX0_isLitAt_24 : decode cX0_isLitAt 24 = .ok (.goto 4, 3) := by decide +kernel
theorem dX0_isLitAt_27 : decode cX0_isLitAt 27 = .ok (.iconst 0, 1) := by decide +kernel
theorem dX0_isLitAt_28 : decode cX0_isLitAt 28 = .ok (.ireturn, 1) := by decide +kernel
theorem dX0_sooty_0 : decode cX0_sooty 0 = .ok (.getstatic 46, 3) := by decide +kernel
theorem dX0_sooty_3 : decode cX0_sooty 3 = .ok (.aload_n 0, 1) := by decide +kernel
theorem dX0_sooty_4 : decode cX0_sooty 4 = .ok (.getfield 9, 3) := by decide +kernel
theorem dX0_sooty_7 : decode cX0_sooty 7 = .ok (.iconst 0, 1) := by decide +kernel
theorem dX0_sooty_8 : decode cX0_sooty 8 = .ok (.iaload, 1) := by decide +kernel
theorem dX0_sooty_9 : decode cX0_sooty 9 = .ok (.iaload, 1) := by decide +kernel
theorem dX0_sooty_10 : decode cX0_sooty 10 = .ok (.iconst 3, 1) := by decide +kernel
theorem dX0_sooty_11 : decode cX0_sooty 11 = .ok (.aload_n 0, 1) := by decide +kernel
theorem dX0_sooty_12 : decode cX0_sooty 12 = .ok (.getfield 9, 3) := by decide +kernel
theorem dX0_sooty_15 : decode cX0_sooty 15 = .ok (.iconst 3, 1) := by decide +kernel
theorem dX0_sooty_16 : decode cX0_sooty 16 = .ok (.iaload, 1) := by decide +kernel
theorem dX0_sooty_17 : decode cX0_sooty 17 = .ok (.imul, 1) := by decide +kernel
theorem dX0_sooty_18 : decode cX0_sooty 18 = .ok (.isub, 1) := by decide +kernel
theorem dX0_sooty_19 : decode cX0_sooty 19 = .ok (.iconst 0, 1) := by decide +kernel
theorem dX0_sooty_20 : decode cX0_sooty 20 = .ok (.invokestatic 49, 3) := by decide +kernel
theorem dX0_sooty_23 : decode cX0_sooty 23 = .ok (.ireturn, 1) := by decide +kernel
theorem dX0_worth_0 : decode cX0_worth 0 = .ok (.getstatic 43, 3) := by decide +kernel
theorem dX0_worth_3 : decode cX0_worth 3 = .ok (.aload_n 0, 1) := by decide +kernel
theorem dX0_worth_4 : decode cX0_worth 4 = .ok (.getfield 9, 3) := by decide +kernel
theorem dX0_worth_7 : decode cX0_worth 7 = .ok (.iconst 0, 1) := by decide +kernel
theorem dX0_worth_8 : decode cX0_worth 8 = .ok (.iaload, 1) := by decide +kernel
theorem dX0_worth_9 : decode cX0_worth 9 = .ok (.iaload, 1) := by decide +kernel
theorem dX0_worth_10 : decode cX0_worth 10 = .ok (.ireturn, 1) := by decide +kernel
theorem dX5_aloftOver_0 : decode cX5_aloftOver 0 = .ok (.iconst 0, 1) := by decide +kernel
theorem dX5_aloftOver_1 : decode cX5_aloftOver 1 = .ok (.istore_n 2, 1) := by decide +kernel
theorem dX5_aloftOver_2 : decode cX5_aloftOver 2 = .ok (.iconst 0, 1) := by decide +kernel
theorem dX5_aloftOver_3 : decode cX5_aloftOver 3 = .ok (.istore_n 3, 1) := by decide +kernel
theorem dX5_aloftOver_4 : decode cX5_aloftOver 4 = .ok (.iload_n 3, 1) := by decide +kernel
theorem dX5_aloftOver_5 : decode cX5_aloftOver 5 = .ok (.aload_n 0, 1) := by decide +kernel
theorem dX5_aloftOver_6 : decode cX5_aloftOver 6 = .ok (.getfield 18, 3) := by decide +kernel
theorem dX5_aloftOver_9 : decode cX5_aloftOver 9 = .ok (.if_icmp .ge 23, 3) := by decide +kernel
theorem dX5_aloftOver_12 : decode cX5_aloftOver 12 = .ok (.iload_n 2, 1) := by decide +kernel
theorem dX5_aloftOver_13 : decode cX5_aloftOver 13 = .ok (.aload_n 0, 1) := by decide +kernel
theorem dX5_aloftOver_14 : decode cX5_aloftOver 14 = .ok (.getfield 36, 3) := by decide +kernel
theorem dX5_aloftOver_17 : decode cX5_aloftOver 17 = .ok (.iload_n 3, 1) := by decide +kernel
theorem dX5_aloftOver_18 : decode cX5_aloftOver 18 = .ok (.aaload, 1) := by decide +kernel
theorem dX5_aloftOver_19 : decode cX5_aloftOver 19 = .ok (.getfield 61, 3) := by decide +kernel
theorem dX5_aloftOver_22 : decode cX5_aloftOver 22 = .ok (.iload_n 1, 1) := by decide +kernel
theorem dX5_aloftOver_23 : decode cX5_aloftOver 23 = .ok (.iaload, 1) := by decide +kernel
theorem dX5_aloftOver_24 : decode cX5_aloftOver 24 = .ok (.iadd, 1) := by decide +kernel
theorem dX5_aloftOver_25 : decode cX5_aloftOver 25 = .ok (.istore_n 2, 1) := by decide +kernel
theorem dX5_aloftOver_26 : decode cX5_aloftOver 26 = .ok (.iinc 3 1, 3) := by decide +kernel
theorem dX5_aloftOver_29 : decode cX5_aloftOver 29 = .ok (.goto (-25), 3) := by decide +kernel
theorem dX5_aloftOver_32 : decode cX5_aloftOver 32 = .ok (.iload_n 2, 1) := by decide +kernel
theorem dX5_aloftOver_33 : decode cX5_aloftOver 33 = .ok (.ireturn, 1) := by decide +kernel
theorem dX3_begin_0 : decode cX3_begin 0 = .ok (.aload_n 0, 1) := by decide +kernel
theorem dX3_begin_1 : decode cX3_begin 1 = .ok (.iconst 0, 1) := by decide +kernel
theorem dX3_begin_2 : decode cX3_begin 2 = .ok (.putfield 9, 3) := by decide +kernel
theorem dX3_begin_5 : decode cX3_begin 5 = .ok (.aload_n 0, 1) := by decide +kernel
theorem dX3_begin_6 : decode cX3_begin 6 = .ok (.getfield 15, 3) := by decide +kernel
theorem dX3_begin_9 : decode cX3_begin 9 = .ok (.iconst 0, 1) := by decide +kernel
theorem dX3_begin_10 : decode cX3_begin 10 = .ok (.invokestatic 25, 3) := by decide +kernel
theorem dX3_begin_13 : decode cX3_begin 13 = .ok (.aload_n 0, 1) := by decide +kernel
theorem dX3_begin_14 : decode cX3_begin 14 = .ok (.getfield 19, 3) := by decide +kernel
theorem dX3_begin_17 : decode cX3_begin 17 = .ok (.iconst 0, 1) := by decide +kernel
theorem dX3_begin_18 : decode cX3_begin 18 = .ok (.invokestatic 25, 3) := by decide +kernel
theorem dX3_begin_21 : decode cX3_begin 21 = .ok (.aload_n 0, 1) := by decide +kernel
theorem dX3_begin_22 : decode cX3_begin 22 = .ok (.getfield 22, 3) := by decide +kernel
theorem dX3_begin_25 : decode cX3_begin 25 = .ok (.iconst 0, 1) := by decide +kernel
theorem dX3_begin_26 : decode cX3_begin 26 = .ok (.invokestatic 25, 3) := by decide +kernel
theorem dX3_begin_29 : decode cX3_begin 29 = .ok (.return_, 1) := by decide +kernel
theorem dX0_burnAt_0 : decode cX0_burnAt 0 = .ok (.aload_n 0, 1) := by decide +kernel
theorem dX0_burnAt_1 : decode cX0_burnAt 1 = .ok (.iload_n 1, 1) := by decide +kernel
theorem dX0_burnAt_2 : decode cX0_burnAt 2 = .ok (.invokevirtual 58, 3) := by decide +kernel
theorem dX0_burnAt_5 : decode cX0_burnAt 5 = .ok (.istore_n 2, 1) := by decide +kernel
theorem dX0_burnAt_6 : decode cX0_burnAt 6 = .ok (.aload_n 0, 1) := by decide +kernel
theorem dX0_burnAt_7 : decode cX0_burnAt 7 = .ok (.getfield 15, 3) := by decide +kernel
theorem dX0_burnAt_10 : decode cX0_burnAt 10 = .ok (.aload_n 0, 1) := by decide +kernel
theorem dX0_burnAt_11 : decode cX0_burnAt 11 = .ok (.getfield 9, 3) := by decide +kernel
theorem dX0_burnAt_14 : decode cX0_burnAt 14 = .ok (.iconst 2, 1) := by decide +kernel
theorem dX0_burnAt_15 : decode cX0_burnAt 15 = .ok (.iaload, 1) := by decide +kernel
theorem dX0_burnAt_16 : decode cX0_burnAt 16 = .ok (.dup2, 1) := by decide +kernel
theorem dX0_burnAt_17 : decode cX0_burnAt 17 = .ok (.iaload, 1) := by decide +kernel
theorem dX0_burnAt_18 : decode cX0_burnAt 18 = .ok (.iload_n 2, 1) := by decide +kernel
theorem dX0_burnAt_19 : decode cX0_burnAt 19 = .ok (.iadd, 1) := by decide +kernel
theorem dX0_burnAt_20 : decode cX0_burnAt 20 = .ok (.iastore, 1) := by decide +kernel
theorem dX0_burnAt_21 : decode cX0_burnAt 21 = .ok (.aload_n 0, 1) := by decide +kernel
theorem dX0_burnAt_22 : decode cX0_burnAt 22 = .ok (.dup, 1) := by decide +kernel
theorem dX0_burnAt_23 : decode cX0_burnAt 23 = .ok (.getfield 28, 3) := by decide +kernel
theorem dX0_burnAt_26 : decode cX0_burnAt 26 = .ok (.iload_n 2, 1) := by decide +kernel
theorem dX0_burnAt_27 : decode cX0_burnAt 27 = .ok (.iadd, 1) := by decide +kernel
theorem dX0_burnAt_28 : decode cX0_burnAt 28 = .ok (.putfield 28, 3) := by decide +kernel
theorem dX0_burnAt_31 : decode cX0_burnAt 31 = .ok (.return_, 1) := by decide +kernel
theorem dX0_comeDown_0 : decode cX0_comeDown 0 = .ok (.iconst 0, 1) := by decide +kernel
theorem dX0_comeDown_1 : decode cX0_comeDown 1 = .ok (.istore_n 1, 1) := by decide +kernel
theorem dX0_comeDown_2 : decode cX0_comeDown 2 = .ok (.iload_n 1, 1) := by decide +kernel
theorem dX0_comeDown_3 : decode cX0_comeDown 3 = .ok (.bipush 36, 2) := by decide +kernel
theorem dX0_comeDown_5 : decode cX0_comeDown 5 = .ok (.if_icmp .ge 31, 3) := by decide +kernel
theorem dX0_comeDown_8 : decode cX0_comeDown 8 = .ok (.aload_n 0, 1) := by decide +kernel
theorem dX0_comeDown_9 : decode cX0_comeDown 9 = .ok (.dup, 1) := by decide +kernel
theorem dX0_comeDown_10 : decode cX0_comeDown 10 = .ok (.getfield 25, 3) := by decide +kernel
theorem dX0_comeDown_13 : decode cX0_comeDown 13 = .ok (.aload_n 0, 1) := by decide +kernel
theorem dX0_comeDown_14 : decode cX0_comeDown 14 = .ok (.getfield 15, 3) := by decide +kernel
theorem dX0_comeDown_17 : decode cX0_comeDown 17 = .ok (.iload_n 1, 1) := by decide +kernel
theorem dX0_comeDown_18 : decode cX0_comeDown 18 = .ok (.iaload, 1) := by decide +kernel
theorem dX0_comeDown_19 : decode cX0_comeDown 19 = .ok (.iadd, 1) := by decide +kernel
theorem dX0_comeDown_20 : decode cX0_comeDown 20 = .ok (.putfield 25, 3) := by decide +kernel
theorem dX0_comeDown_23 : decode cX0_comeDown 23 = .ok (.aload_n 0, 1) := by decide +kernel
theorem dX0_comeDown_24 : decode cX0_comeDown 24 = .ok (.getfield 15, 3) := by decide +kernel
theorem dX0_comeDown_27 : decode cX0_comeDown 27 = .ok (.iload_n 1, 1) := by decide +kernel
theorem dX0_comeDown_28 : decode cX0_comeDown 28 = .ok (.iconst 0, 1) := by decide +kernel
theorem dX0_comeDown_29 : decode cX0_comeDown 29 = .ok (.iastore, 1) := by decide +kernel
theorem dX0_comeDown_30 : decode cX0_comeDown 30 = .ok (.iinc 1 1, 3) := by decide +kernel
theorem dX0_comeDown_33 : decode cX0_comeDown 33 = .ok (.goto (-31), 3) := by decide +kernel
theorem dX0_comeDown_36 : decode cX0_comeDown 36 = .ok (.return_, 1) := by decide +kernel
theorem dX0_cellBeside_0 : decode cX0_cellBeside 0 = .ok (.iload_n 1, 1) := by decide +kernel
theorem dX0_cellBeside_1 : decode cX0_cellBeside 1 = .ok (.tableswitch 94 1 4 #[31, 46, 63, 78], 31) := by decide +kernel
theorem dX0_cellBeside_32 : decode cX0_cellBeside 32 = .ok (.iload_n 0, 1) := by decide +kernel
theorem dX0_cellBeside_33 : decode cX0_cellBeside 33 = .ok (.bipush 6, 2) := by decide +kernel
theorem dX0_cellBeside_35 : decode cX0_cellBeside 35 = .ok (.if_icmp .ge 7, 3) := by decide +kernel
theorem dX0_cellBeside_38 : decode cX0_cellBeside 38 = .ok (.iconst 1, 1) := by decide +kernel
theorem dX0_cellBeside_39 : decode cX0_cellBeside 39 = .ok (.goto 4, 3) := by decide +kernel
theorem dX0_cellBeside_42 : decode cX0_cellBeside 42 = .ok (.iconst 0, 1) := by decide +kernel
theorem dX0_cellBeside_43 : decode cX0_cellBeside 43 = .ok (.istore_n 2, 1) := by decide +kernel
theorem dX0_cellBeside_44 : decode cX0_cellBeside 44 = .ok (.goto 53, 3) := by decide +kernel
theorem dX0_cellBeside_47 : decode cX0_cellBeside 47 = .ok (.iload_n 0, 1) := by decide +kernel
theorem dX0_cellBeside_48 : decode cX0_cellBeside 48 = .ok (.bipush 6, 2) := by decide +kernel
theorem dX0_cellBeside_50 : decode cX0_cellBeside 50 = .ok (.irem, 1) := by decide +kernel
theorem dX0_cellBeside_51 : decode cX0_cellBeside 51 = .ok (.iconst 5, 1) := by decide +kernel
theorem dX0_cellBeside_52 : decode cX0_cellBeside 52 = .ok (.if_icmp .ne 7, 3) := by decide +kernel
theorem dX0_cellBeside_55 : decode cX0_cellBeside 55 = .ok (.iconst 1, 1) := by decide +kernel
theorem dX0_cellBeside_56 : decode cX0_cellBeside 56 = .ok (.goto 4, 3) := by decide +kernel
theorem dX0_cellBeside_59 : decode cX0_cellBeside 59 = .ok (.iconst 0, 1) := by decide +kernel
theorem dX0_cellBeside_60 : decode cX0_cellBeside 60 = .ok (.istore_n 2, 1) := by decide +kernel
theorem dX0_cellBeside_61 : decode cX0_cellBeside 61 = .ok (.goto 36, 3) := by decide +kernel
theorem dX0_cellBeside_64 : decode cX0_cellBeside 64 = .ok (.iload_n 0, 1) := by decide +kernel
theorem dX0_cellBeside_65 : decode cX0_cellBeside 65 = .ok (.bipush 30, 2) := by decide +kernel
theorem dX0_cellBeside_67 : decode cX0_cellBeside 67 = .ok (.if_icmp .lt 7, 3) := by decide +kernel
theorem dX0_cellBeside_70 : decode cX0_cellBeside 70 = .ok (.iconst 1, 1) := by decide +kernel
theorem dX0_cellBeside_71 : decode cX0_cellBeside 71 = .ok (.goto 4, 3) := by decide +kernel
theorem dX0_cellBeside_74 : decode cX0_cellBeside 74 = .ok (.iconst 0, 1) := by decide +kernel
theorem dX0_cellBeside_75 : decode cX0_cellBeside 75 = .ok (.istore_n 2, 1) := by decide +kernel
theorem dX0_cellBeside_76 : decode cX0_cellBeside 76 = .ok (.goto 21, 3) := by decide +kernel
theorem dX0_cellBeside_79 : decode cX0_cellBeside 79 = .ok (.iload_n 0, 1) := by decide +kernel
theorem dX0_cellBeside_80 : decode cX0_cellBeside 80 = .ok (.bipush 6, 2) := by decide +kernel
theorem dX0_cellBeside_82 : decode cX0_cellBeside 82 = .ok (.irem, 1) := by decide +kernel
theorem dX0_cellBeside_83 : decode cX0_cellBeside 83 = .ok (.ifCond .ne 7, 3) := by decide +kernel
theorem dX0_cellBeside_86 : decode cX0_cellBeside 86 = .ok (.iconst 1, 1) := by decide +kernel
theorem dX0_cellBeside_87 : decode cX0_cellBeside 87 = .ok (.goto 4, 3) := by decide +kernel
theorem dX0_cellBeside_90 : decode cX0_cellBeside 90 = .ok (.iconst 0, 1) := by decide +kernel
theorem dX0_cellBeside_91 : decode cX0_cellBeside 91 = .ok (.istore_n 2, 1) := by decide +kernel
theorem dX0_cellBeside_92 : decode cX0_cellBeside 92 = .ok (.goto 5, 3) := by decide +kernel
theorem dX0_cellBeside_95 : decode cX0_cellBeside 95 = .ok (.iconst 1, 1) := by decide +kernel
theorem dX0_cellBeside_96 : decode cX0_cellBeside 96 = .ok (.istore_n 2, 1) := by decide +kernel
theorem dX0_cellBeside_97 : decode cX0_cellBeside 97 = .ok (.iload_n 2, 1) := by decide +kernel
theorem dX0_cellBeside_98 : decode cX0_cellBeside 98 = .ok (.ifCond .eq 7, 3) := by decide +kernel
theorem dX0_cellBeside_101 : decode cX0_cellBeside 101 = .ok (.iconst (-1), 1) := by decide +kernel
theorem dX0_cellBeside_102 : decode cX0_cellBeside 102 = .ok (.goto 10, 3) := by decide +kernel
theorem dX0_cellBeside_105 : decode cX0_cellBeside 105 = .ok (.iload_n 0, 1) := by decide +kernel
theorem dX0_cellBeside_106 : decode cX0_cellBeside 106 = .ok (.getstatic 62, 3) := by decide +kernel
theorem dX0_cellBeside_109 : decode cX0_cellBeside 109 = .ok (.iload_n 1, 1) := by decide +kernel
theorem dX0_cellBeside_110 : decode cX0_cellBeside 110 = .ok (.iaload, 1) := by decide +kernel
theorem dX0_cellBeside_111 : decode cX0_cellBeside 111 = .ok (.iadd, 1) := by decide +kernel
theorem dX0_cellBeside_112 : decode cX0_cellBeside 112 = .ok (.ireturn, 1) := by decide +kernel
theorem dX0_moveTo_0 : decode cX0_moveTo 0 = .ok (.iload_n 1, 1) := by decide +kernel
theorem dX0_moveTo_1 : decode cX0_moveTo 1 = .ok (.iconst (-1), 1) := by decide +kernel
theorem dX0_moveTo_2 : decode cX0_moveTo 2 = .ok (.if_icmp .ne 21, 3) := by decide +kernel
theorem dX0_moveTo_5 : decode cX0_moveTo 5 = .ok (.aload_n 0, 1) := by decide +kernel
theorem dX0_moveTo_6 : decode cX0_moveTo 6 = .ok (.dup, 1) := by decide +kernel
theorem dX0_moveTo_7 : decode cX0_moveTo 7 = .ok (.getfield 21, 3) := by decide +kernel
theorem dX0_moveTo_10 : decode cX0_moveTo 10 = .ok (.aload_n 0, 1) := by decide +kernel
theorem dX0_moveTo_11 : decode cX0_moveTo 11 = .ok (.getfield 15, 3) := by decide +kernel
theorem dX0_moveTo_14 : decode cX0_moveTo 14 = .ok (.iload_n 2, 1) := by decide +kernel
theorem dX0_moveTo_15 : decode cX0_moveTo 15 = .ok (.iaload, 1) := by decide +kernel
theorem dX0_moveTo_16 : decode cX0_moveTo 16 = .ok (.iadd, 1) := by decide +kernel
theorem dX0_moveTo_17 : decode cX0_moveTo 17 = .ok (.putfield 21, 3) := by decide +kernel
theorem dX0_moveTo_20 : decode cX0_moveTo 20 = .ok (.goto 15, 3) := by decide +kernel
theorem dX0_moveTo_23 : decode cX0_moveTo 23 = .ok (.aload_n 0, 1) := by decide +kernel
theorem dX0_moveTo_24 : decode cX0_moveTo 24 = .ok (.getfield 15, 3) := by decide +kernel
theorem dX0_moveTo_27 : decode cX0_moveTo 27 = .ok (.iload_n 1, 1) := by decide +kernel
theorem dX0_moveTo_28 : decode cX0_moveTo 28 = .ok (.aload_n 0, 1) := by decide +kernel
theorem dX0_moveTo_29 : decode cX0_moveTo 29 = .ok (.getfield 15, 3) := by decide +kernel
theorem dX0_moveTo_32 : decode cX0_moveTo 32 = .ok (.iload_n 2, 1) := by decide +kernel
theorem dX0_moveTo_33 : decode cX0_moveTo 33 = .ok (.iaload, 1) := by decide +kernel
theorem dX0_moveTo_34 : decode cX0_moveTo 34 = .ok (.iastore, 1) := by decide +kernel
theorem dX0_moveTo_35 : decode cX0_moveTo 35 = .ok (.aload_n 0, 1) := by decide +kernel
theorem dX0_moveTo_36 : decode cX0_moveTo 36 = .ok (.getfield 15, 3) := by decide +kernel
theorem dX0_moveTo_39 : decode cX0_moveTo 39 = .ok (.iload_n 2, 1) := by decide +kernel
theorem dX0_moveTo_40 : decode cX0_moveTo 40 = .ok (.iconst 0, 1) := by decide +kernel
theorem dX0_moveTo_41 : decode cX0_moveTo 41 = .ok (.iastore, 1) := by decide +kernel
theorem dX0_moveTo_42 : decode cX0_moveTo 42 = .ok (.return_, 1) := by decide +kernel
theorem dX0_drift_0 : decode cX0_drift 0 = .ok (.iconst 0, 1) := by decide +kernel
theorem dX0_drift_1 : decode cX0_drift 1 = .ok (.istore_n 2, 1) := by decide +kernel
theorem dX0_drift_2 : decode cX0_drift 2 = .ok (.iload_n 2, 1) := by decide +kernel
theorem dX0_drift_3 : decode cX0_drift 3 = .ok (.bipush 36, 2) := by decide +kernel
theorem dX0_drift_5 : decode cX0_drift 5 = .ok (.if_icmp .ge 45, 3) := by decide +kernel
theorem dX0_drift_8 : decode cX0_drift 8 = .ok (.getstatic 62, 3) := by decide +kernel
theorem dX0_drift_11 : decode cX0_drift 11 = .ok (.iload_n 1, 1) := by decide +kernel
theorem dX0_drift_12 : decode cX0_drift 12 = .ok (.iaload, 1) := by decide +kernel
theorem dX0_drift_13 : decode cX0_drift 13 = .ok (.ifCond .ge 7, 3) := by decide +kernel
theorem dX0_drift_16 : decode cX0_drift 16 = .ok (.iload_n 2, 1) := by decide +kernel
theorem dX0_drift_17 : decode cX0_drift 17 = .ok (.goto 7, 3) := by decide +kernel
theorem dX0_drift_20 : decode cX0_drift 20 = .ok (.bipush 35, 2) := by decide +kernel
theorem dX0_drift_22 : decode cX0_drift 22 = .ok (.iload_n 2, 1) := by decide +kernel
theorem dX0_drift_23 : decode cX0_drift 23 = .ok (.isub, 1) := by decide +kernel
theorem dX0_drift_24 : decode cX0_drift 24 = .ok (.istore_n 3, 1) := by decide +kernel
theorem dX0_drift_25 : decode cX0_drift 25 = .ok (.aload_n 0, 1) := by decide +kernel
theorem dX0_drift_26 : decode cX0_drift 26 = .ok (.getfield 15, 3) := by decide +kernel
theorem dX0_drift_29 : decode cX0_drift 29 = .ok (.iload_n 3, 1) := by decide +kernel
theorem dX0_drift_30 : decode cX0_drift 30 = .ok (.iaload, 1) := by decide +kernel
theorem dX0_drift_31 : decode cX0_drift 31 = .ok (.ifCond .le 13, 3) := by decide +kernel
theorem dX0_drift_34 : decode cX0_drift 34 = .ok (.aload_n 0, 1) := by decide +kernel
theorem dX0_drift_35 : decode cX0_drift 35 = .ok (.iload_n 3, 1) := by decide +kernel
theorem dX0_drift_36 : decode cX0_drift 36 = .ok (.iload_n 1, 1) := by decide +kernel
theorem dX0_drift_37 : decode cX0_drift 37 = .ok (.invokestatic 65, 3) := by decide +kernel
theorem dX0_drift_40 : decode cX0_drift 40 = .ok (.iload_n 3, 1) := by decide +kernel
theorem dX0_drift_41 : decode cX0_drift 41 = .ok (.invokevirtual 68, 3) := by decide +kernel
theorem dX0_drift_44 : decode cX0_drift 44 = .ok (.iinc 2 1, 3) := by decide +kernel
theorem dX0_drift_47 : decode cX0_drift 47 = .ok (.goto (-45), 3) := by decide +kernel
theorem dX0_drift_50 : decode cX0_drift 50 = .ok (.return_, 1) := by decide +kernel
theorem dX3_add_0 : decode cX3_add 0 = .ok (.aload_n 0, 1) := by decide +kernel
theorem dX3_add_1 : decode cX3_add 1 = .ok (.dup, 1) := by decide +kernel
theorem dX3_add_2 : decode cX3_add 2 = .ok (.getfield 9, 3) := by decide +kernel
theorem dX3_add_5 : decode cX3_add 5 = .ok (.iload_n 1, 1) := by decide +kernel
theorem dX3_add_6 : decode cX3_add 6 = .ok (.iadd, 1) := by decide +kernel
theorem dX3_add_7 : decode cX3_add 7 = .ok (.putfield 9, 3) := by decide +kernel
theorem dX3_add_10 : decode cX3_add 10 = .ok (.iload 4, 2) := by decide +kernel
theorem dX3_add_12 : decode cX3_add 12 = .ok (.ifCond .lt 58, 3) := by decide +kernel
theorem dX3_add_15 : decode cX3_add 15 = .ok (.aload_n 0, 1) := by decide +kernel
theorem dX3_add_16 : decode cX3_add 16 = .ok (.getfield 19, 3) := by decide +kernel
theorem dX3_add_19 : decode cX3_add 19 = .ok (.iload 4, 2) := by decide +kernel
theorem dX3_add_21 : decode cX3_add 21 = .ok (.dup2, 1) := by decide +kernel
theorem dX3_add_22 : decode cX3_add 22 = .ok (.iaload, 1) := by decide +kernel
theorem dX3_add_23 : decode cX3_add 23 = .ok (.iload_n 1, 1) := by decide +kernel
theorem dX3_add_24 : decode cX3_add 24 = .ok (.iadd, 1) := by decide +kernel
theorem dX3_add_25 : decode cX3_add 25 = .ok (.iastore, 1) := by decide +kernel
theorem dX3_add_26 : decode cX3_add 26 = .ok (.aload_n 0, 1) := by decide +kernel
theorem dX3_add_27 : decode cX3_add 27 = .ok (.getfield 22, 3) := by decide +kernel
theorem dX3_add_30 : decode cX3_add 30 = .ok (.iload 4, 2) := by decide +kernel
theorem dX3_add_32 : decode cX3_add 32 = .ok (.dup2, 1) := by decide +kernel
theorem dX3_add_33 : decode cX3_add 33 = .ok (.iaload, 1) := by decide +kernel
theorem dX3_add_34 : decode cX3_add 34 = .ok (.iload_n 2, 1) := by decide +kernel
theorem dX3_add_35 : decode cX3_add 35 = .ok (.ifCond .ge 7, 3) := by decide +kernel
theorem dX3_add_38 : decode cX3_add 38 = .ok (.iload_n 1, 1) := by decide +kernel
theorem dX3_add_39 : decode cX3_add 39 = .ok (.goto 4, 3) := by decide +kernel
theorem dX3_add_42 : decode cX3_add 42 = .ok (.iconst 0, 1) := by decide +kernel
theorem dX3_add_43 : decode cX3_add 43 = .ok (.iadd, 1) := by decide +kernel
theorem dX3_add_44 : decode cX3_add 44 = .ok (.iastore, 1) := by decide +kernel
theorem dX3_add_45 : decode cX3_add 45 = .ok (.aload_n 0, 1) := by decide +kernel
theorem dX3_add_46 : decode cX3_add 46 = .ok (.getfield 15, 3) := by decide +kernel
theorem dX3_add_49 : decode cX3_add 49 = .ok (.iload 4, 2) := by decide +kernel
theorem dX3_add_51 : decode cX3_add 51 = .ok (.dup2, 1) := by decide +kernel
theorem dX3_add_52 : decode cX3_add 52 = .ok (.iaload, 1) := by decide +kernel
theorem dX3_add_53 : decode cX3_add 53 = .ok (.iload_n 1, 1) := by decide +kernel
theorem dX3_add_54 : decode cX3_add 54 = .ok (.iload_n 2, 1) := by decide +kernel
theorem dX3_add_55 : decode cX3_add 55 = .ok (.imul, 1) := by decide +kernel
theorem dX3_add_56 : decode cX3_add 56 = .ok (.isub, 1) := by decide +kernel
theorem dX3_add_57 : decode cX3_add 57 = .ok (.iastore, 1) := by decide +kernel
theorem dX3_add_58 : decode cX3_add 58 = .ok (.aload_n 0, 1) := by decide +kernel
theorem dX3_add_59 : decode cX3_add 59 = .ok (.getfield 15, 3) := by decide +kernel
theorem dX3_add_62 : decode cX3_add 62 = .ok (.iload_n 3, 1) := by decide +kernel
theorem dX3_add_63 : decode cX3_add 63 = .ok (.dup2, 1) := by decide +kernel
theorem dX3_add_64 : decode cX3_add 64 = .ok (.iaload, 1) := by decide +kernel
theorem dX3_add_65 : decode cX3_add 65 = .ok (.iload_n 1, 1) := by decide +kernel
theorem dX3_add_66 : decode cX3_add 66 = .ok (.iload_n 2, 1) := by decide +kernel
theorem dX3_add_67 : decode cX3_add 67 = .ok (.imul, 1) := by decide +kernel
theorem dX3_add_68 : decode cX3_add 68 = .ok (.iadd, 1) := by decide +kernel
theorem dX3_add_69 : decode cX3_add 69 = .ok (.iastore, 1) := by decide +kernel
theorem dX3_add_70 : decode cX3_add 70 = .ok (.return_, 1) := by decide +kernel
theorem dX0_settle_0 : decode cX0_settle 0 = .ok (.aload_n 0, 1) := by decide +kernel
theorem dX0_settle_1 : decode cX0_settle 1 = .ok (.invokevirtual 72, 3) := by decide +kernel
theorem dX0_settle_4 : decode cX0_settle 4 = .ok (.istore_n 3, 1) := by decide +kernel
theorem dX0_settle_5 : decode cX0_settle 5 = .ok (.aload_n 0, 1) := by decide +kernel
theorem dX0_settle_6 : decode cX0_settle 6 = .ok (.invokevirtual 76, 3) := by decide +kernel
theorem dX0_settle_9 : decode cX0_settle 9 = .ok (.istore 4, 2) := by decide +kernel
theorem dX0_settle_11 : decode cX0_settle 11 = .ok (.iconst 0, 1) := by decide +kernel
theorem dX0_settle_12 : decode cX0_settle 12 = .ok (.istore 5, 2) := by decide +kernel
theorem dX0_settle_14 : decode cX0_settle 14 = .ok (.iload 5, 2) := by decide +kernel
theorem dX0_settle_16 : decode cX0_settle 16 = .ok (.bipush 36, 2) := by decide +kernel
theorem dX0_settle_18 : decode cX0_settle 18 = .ok (.if_icmp .ge 70, 3) := by decide +kernel
theorem dX0_settle_21 : decode cX0_settle 21 = .ok (.aload_n 0, 1) := by decide +kernel
theorem dX0_settle_22 : decode cX0_settle 22 = .ok (.getfield 15, 3) := by decide +kernel
theorem dX0_settle_25 : decode cX0_settle 25 = .ok (.iload 5, 2) := by decide +kernel
theorem dX0_settle_27 : decode cX0_settle 27 = .ok (.iaload, 1) := by decide +kernel
theorem dX0_settle_28 : decode cX0_settle 28 = .ok (.iload_n 3, 1) := by decide +kernel
theorem dX0_settle_29 : decode cX0_settle 29 = .ok (.imul, 1) := by decide +kernel
theorem dX0_settle_30 : decode cX0_settle 30 = .ok (.bipush 100, 2) := by decide +kernel
theorem dX0_settle_32 : decode cX0_settle 32 = .ok (.idiv, 1) := by decide +kernel
theorem dX0_settle_33 : decode cX0_settle 33 = .ok (.istore 6, 2) := by decide +kernel
theorem dX0_settle_35 : decode cX0_settle 35 = .ok (.iload 6, 2) := by decide +kernel
theorem dX0_settle_37 : decode cX0_settle 37 = .ok (.ifCond .le 45, 3) := by decide +kernel
theorem dX0_settle_40 : decode cX0_settle 40 = .ok (.aload_n 0, 1) := by decide +kernel
theorem dX0_settle_41 : decode cX0_settle 41 = .ok (.getfield 15, 3) := by decide +kernel
theorem dX0_settle_44 : decode cX0_settle 44 = .ok (.iload 5, 2) := by decide +kernel
theorem dX0_settle_46 : decode cX0_settle 46 = .ok (.dup2, 1) := by decide +kernel
theorem dX0_settle_47 : decode cX0_settle 47 = .ok (.iaload, 1) := by decide +kernel
theorem dX0_settle_48 : decode cX0_settle 48 = .ok (.iload 6, 2) := by decide +kernel
theorem dX0_settle_50 : decode cX0_settle 50 = .ok (.isub, 1) := by decide +kernel
theorem dX0_settle_51 : decode cX0_settle 51 = .ok (.iastore, 1) := by decide +kernel
theorem dX0_settle_52 : decode cX0_settle 52 = .ok (.aload_n 0, 1) := by decide +kernel
theorem dX0_settle_53 : decode cX0_settle 53 = .ok (.getfield 18, 3) := by decide +kernel
theorem dX0_settle_56 : decode cX0_settle 56 = .ok (.iload 5, 2) := by decide +kernel
theorem dX0_settle_58 : decode cX0_settle 58 = .ok (.dup2, 1) := by decide +kernel
theorem dX0_settle_59 : decode cX0_settle 59 = .ok (.iaload, 1) := by decide +kernel
theorem dX0_settle_60 : decode cX0_settle 60 = .ok (.iload 6, 2) := by decide +kernel
theorem dX0_settle_62 : decode cX0_settle 62 = .ok (.iadd, 1) := by decide +kernel
theorem dX0_settle_63 : decode cX0_settle 63 = .ok (.iastore, 1) := by decide +kernel
theorem dX0_settle_64 : decode cX0_settle 64 = .ok (.aload_n 2, 1) := by decide +kernel
theorem dX0_settle_65 : decode cX0_settle 65 = .ok (.iload 6, 2) := by decide +kernel
theorem dX0_settle_67 : decode cX0_settle 67 = .ok (.iload 4, 2) := by decide +kernel
theorem dX0_settle_69 : decode cX0_settle 69 = .ok (.aload_n 0, 1) := by decide +kernel
theorem dX0_settle_70 : decode cX0_settle 70 = .ok (.getfield 9, 3) := by decide +kernel
theorem dX0_settle_73 : decode cX0_settle 73 = .ok (.iconst 1, 1) := by decide +kernel
theorem dX0_settle_74 : decode cX0_settle 74 = .ok (.iaload, 1) := by decide +kernel
theorem dX0_settle_75 : decode cX0_settle 75 = .ok (.aload_n 1, 1) := by decide +kernel
theorem dX0_settle_76 : decode cX0_settle 76 = .ok (.iload 5, 2) := by decide +kernel
theorem dX0_settle_78 : decode cX0_settle 78 = .ok (.iaload, 1) := by decide +kernel
theorem dX0_settle_79 : decode cX0_settle 79 = .ok (.invokevirtual 79, 3) := by decide +kernel
theorem dX0_settle_82 : decode cX0_settle 82 = .ok (.iinc 5 1, 3) := by decide +kernel
theorem dX0_settle_85 : decode cX0_settle 85 = .ok (.goto (-71), 3) := by decide +kernel
theorem dX0_settle_88 : decode cX0_settle 88 = .ok (.return_, 1) := by decide +kernel
theorem dX5_playClock_0 : decode cX5_playClock 0 = .ok (.iload_n 3, 1) := by decide +kernel
theorem dX5_playClock_1 : decode cX5_playClock 1 = .ok (.ifCond .eq 8, 3) := by decide +kernel
theorem dX5_playClock_4 : decode cX5_playClock 4 = .ok (.aload_n 1, 1) := by decide +kernel
theorem dX5_playClock_5 : decode cX5_playClock 5 = .ok (.iload_n 2, 1) := by decide +kernel
theorem dX5_playClock_6 : decode cX5_playClock 6 = .ok (.invokevirtual 73, 3) := by decide +kernel
theorem dX5_playClock_9 : decode cX5_playClock 9 = .ok (.aload_n 0, 1) := by decide +kernel
theorem dX5_playClock_10 : decode cX5_playClock 10 = .ok (.getfield 25, 3) := by decide +kernel
theorem dX5_playClock_13 : decode cX5_playClock 13 = .ok (.iload_n 2, 1) := by decide +kernel
theorem dX5_playClock_14 : decode cX5_playClock 14 = .ok (.iaload, 1) := by decide +kernel
theorem dX5_playClock_15 : decode cX5_playClock 15 = .ok (.ifCond .ne 10, 3) := by decide +kernel
theorem dX5_playClock_18 : decode cX5_playClock 18 = .ok (.aload_n 1, 1) := by decide +kernel
theorem dX5_playClock_19 : decode cX5_playClock 19 = .ok (.invokevirtual 77, 3) := by decide +kernel
theorem dX5_playClock_22 : decode cX5_playClock 22 = .ok (.goto 23, 3) := by decide +kernel
theorem dX5_playClock_25 : decode cX5_playClock 25 = .ok (.aload_n 1, 1) := by decide +kernel
theorem dX5_playClock_26 : decode cX5_playClock 26 = .ok (.aload_n 0, 1) := by decide +kernel
theorem dX5_playClock_27 : decode cX5_playClock 27 = .ok (.getfield 25, 3) := by decide +kernel
theorem dX5_playClock_30 : decode cX5_playClock 30 = .ok (.iload_n 2, 1) := by decide +kernel
theorem dX5_playClock_31 : decode cX5_playClock 31 = .ok (.iaload, 1) := by decide +kernel
theorem dX5_playClock_32 : decode cX5_playClock 32 = .ok (.invokevirtual 80, 3) := by decide +kernel
theorem dX5_playClock_35 : decode cX5_playClock 35 = .ok (.aload_n 1, 1) := by decide +kernel
theorem dX5_playClock_36 : decode cX5_playClock 36 = .ok (.aload_n 0, 1) := by decide +kernel
theorem dX5_playClock_37 : decode cX5_playClock 37 = .ok (.getfield 21, 3) := by decide +kernel
theorem dX5_playClock_40 : decode cX5_playClock 40 = .ok (.aload 4, 2) := by decide +kernel
theorem dX5_playClock_42 : decode cX5_playClock 42 = .ok (.invokevirtual 83, 3) := by decide +kernel
theorem dX5_playClock_45 : decode cX5_playClock 45 = .ok (.return_, 1) := by decide +kernel
theorem dX5_playHours_0 : decode cX5_playHours 0 = .ok (.iconst 0, 1) := by decide +kernel
theorem dX5_playHours_1 : decode cX5_playHours 1 = .ok (.istore 5, 2) := by decide +kernel
theorem dX5_playHours_3 : decode cX5_playHours 3 = .ok (.iload 5, 2) := by decide +kernel
theorem dX5_playHours_5 : decode cX5_playHours 5 = .ok (.iload_n 3, 1) := by decide +kernel
theorem dX5_playHours_6 : decode cX5_playHours 6 = .ok (.if_icmp .ge 38, 3) := by decide +kernel
theorem dX5_playHours_9 : decode cX5_playHours 9 = .ok (.aload_n 0, 1) := by decide +kernel
theorem dX5_playHours_10 : decode cX5_playHours 10 = .ok (.getfield 9, 3) := by decide +kernel
theorem dX5_playHours_13 : decode cX5_playHours 13 = .ok (.iload_n 2, 1) := by decide +kernel
theorem dX5_playHours_14 : decode cX5_playHours 14 = .ok (.iadd, 1) := by decide +kernel
theorem dX5_playHours_15 : decode cX5_playHours 15 = .ok (.iload 5, 2) := by decide +kernel
theorem dX5_playHours_17 : decode cX5_playHours 17 = .ok (.iadd, 1) := by decide +kernel
theorem dX5_playHours_18 : decode cX5_playHours 18 = .ok (.bipush 24, 2) := by decide +kernel
theorem dX5_playHours_20 : decode cX5_playHours 20 = .ok (.irem, 1) := by decide +kernel
theorem dX5_playHours_21 : decode cX5_playHours 21 = .ok (.istore 6, 2) := by decide +kernel
theorem dX5_playHours_23 : decode cX5_playHours 23 = .ok (.aload_n 0, 1) := by decide +kernel
theorem dX5_playHours_24 : decode cX5_playHours 24 = .ok (.aload_n 1, 1) := by decide +kernel
theorem dX5_playHours_25 : decode cX5_playHours 25 = .ok (.iload 6, 2) := by decide +kernel
theorem dX5_playHours_27 : decode cX5_playHours 27 = .ok (.aload_n 1, 1) := by decide +kernel
theorem dX5_playHours_28 : decode cX5_playHours 28 = .ok (.iload 6, 2) := by decide +kernel
theorem dX5_playHours_30 : decode cX5_playHours 30 = .ok (.invokevirtual 65, 3) := by decide +kernel
theorem dX5_playHours_33 : decode cX5_playHours 33 = .ok (.aload 4, 2) := by decide +kernel
theorem dX5_playHours_35 : decode cX5_playHours 35 = .ok (.invokevirtual 69, 3) := by decide +kernel
theorem dX5_playHours_38 : decode cX5_playHours 38 = .ok (.iinc 5 1, 3) := by decide +kernel
theorem dX5_playHours_41 : decode cX5_playHours 41 = .ok (.goto (-38), 3) := by decide +kernel
theorem dX5_playHours_44 : decode cX5_playHours 44 = .ok (.return_, 1) := by decide +kernel
theorem dX0_take_0 : decode cX0_take 0 = .ok (.aload_n 1, 1) := by decide +kernel
theorem dX0_take_1 : decode cX0_take 1 = .ok (.getfield 9, 3) := by decide +kernel
theorem dX0_take_4 : decode cX0_take 4 = .ok (.iconst 0, 1) := by decide +kernel
theorem dX0_take_5 : decode cX0_take 5 = .ok (.aload_n 0, 1) := by decide +kernel
theorem dX0_take_6 : decode cX0_take 6 = .ok (.getfield 9, 3) := by decide +kernel
theorem dX0_take_9 : decode cX0_take 9 = .ok (.iconst 0, 1) := by decide +kernel
theorem dX0_take_10 : decode cX0_take 10 = .ok (.bipush 7, 2) := by decide +kernel
theorem dX0_take_12 : decode cX0_take 12 = .ok (.invokestatic 37, 3) := by decide +kernel
theorem dX0_take_15 : decode cX0_take 15 = .ok (.aload_n 1, 1) := by decide +kernel
theorem dX0_take_16 : decode cX0_take 16 = .ok (.getfield 15, 3) := by decide +kernel
theorem dX0_take_19 : decode cX0_take 19 = .ok (.iconst 0, 1) := by decide +kernel
theorem dX0_take_20 : decode cX0_take 20 = .ok (.aload_n 0, 1) := by decide +kernel
theorem dX0_take_21 : decode cX0_take 21 = .ok (.getfield 15, 3) := by decide +kernel
theorem dX0_take_24 : decode cX0_take 24 = .ok (.iconst 0, 1) := by decide +kernel
theorem dX0_take_25 : decode cX0_take 25 = .ok (.bipush 36, 2) := by decide +kernel
theorem dX0_take_27 : decode cX0_take 27 = .ok (.invokestatic 37, 3) := by decide +kernel
theorem dX0_take_30 : decode cX0_take 30 = .ok (.aload_n 1, 1) := by decide +kernel
theorem dX0_take_31 : decode cX0_take 31 = .ok (.getfield 18, 3) := by decide +kernel
theorem dX0_take_34 : decode cX0_take 34 = .ok (.iconst 0, 1) := by decide +kernel
theorem dX0_take_35 : decode cX0_take 35 = .ok (.aload_n 0, 1) := by decide +kernel
theorem dX0_take_36 : decode cX0_take 36 = .ok (.getfield 18, 3) := by decide +kernel
theorem dX0_take_39 : decode cX0_take 39 = .ok (.iconst 0, 1) := by decide +kernel
theorem dX0_take_40 : decode cX0_take 40 = .ok (.bipush 36, 2) := by decide +kernel
theorem dX0_take_42 : decode cX0_take 42 = .ok (.invokestatic 37, 3) := by decide +kernel
theorem dX0_take_45 : decode cX0_take 45 = .ok (.aload_n 0, 1) := by decide +kernel
theorem dX0_take_46 : decode cX0_take 46 = .ok (.aload_n 1, 1) := by decide +kernel
theorem dX0_take_47 : decode cX0_take 47 = .ok (.getfield 21, 3) := by decide +kernel
theorem dX0_take_50 : decode cX0_take 50 = .ok (.putfield 21, 3) := by decide +kernel
theorem dX0_take_53 : decode cX0_take 53 = .ok (.aload_n 0, 1) := by decide +kernel
theorem dX0_take_54 : decode cX0_take 54 = .ok (.aload_n 1, 1) := by decide +kernel
theorem dX0_take_55 : decode cX0_take 55 = .ok (.getfield 25, 3) := by decide +kernel
theorem dX0_take_58 : decode cX0_take 58 = .ok (.putfield 25, 3) := by decide +kernel
theorem dX0_take_61 : decode cX0_take 61 = .ok (.aload_n 0, 1) := by decide +kernel
theorem dX0_take_62 : decode cX0_take 62 = .ok (.aload_n 1, 1) := by decide +kernel
theorem dX0_take_63 : decode cX0_take 63 = .ok (.getfield 28, 3) := by decide +kernel
theorem dX0_take_66 : decode cX0_take 66 = .ok (.putfield 28, 3) := by decide +kernel
theorem dX0_take_69 : decode cX0_take 69 = .ok (.return_, 1) := by decide +kernel
theorem dX5_cellBehind_0 : decode cX5_cellBehind 0 = .ok (.iload_n 1, 1) := by decide +kernel
theorem dX5_cellBehind_1 : decode cX5_cellBehind 1 = .ok (.istore 4, 2) := by decide +kernel
theorem dX5_cellBehind_3 : decode cX5_cellBehind 3 = .ok (.iconst 0, 1) := by decide +kernel
theorem dX5_cellBehind_4 : decode cX5_cellBehind 4 = .ok (.istore 5, 2) := by decide +kernel
theorem dX5_cellBehind_6 : decode cX5_cellBehind 6 = .ok (.iload 5, 2) := by decide +kernel
theorem dX5_cellBehind_8 : decode cX5_cellBehind 8 = .ok (.iload_n 3, 1) := by decide +kernel
theorem dX5_cellBehind_9 : decode cX5_cellBehind 9 = .ok (.if_icmp .ge 34, 3) := by decide +kernel
theorem dX5_cellBehind_12 : decode cX5_cellBehind 12 = .ok (.iload 4, 2) := by decide +kernel
theorem dX5_cellBehind_14 : decode cX5_cellBehind 14 = .ok (.iconst (-1), 1) := by decide +kernel
theorem dX5_cellBehind_15 : decode cX5_cellBehind 15 = .ok (.if_icmp .eq 28, 3) := by decide +kernel
theorem dX5_cellBehind_18 : decode cX5_cellBehind 18 = .ok (.iload 4, 2) := by decide +kernel
theorem dX5_cellBehind_20 : decode cX5_cellBehind 20 = .ok (.aload_n 0, 1) := by decide +kernel
theorem dX5_cellBehind_21 : decode cX5_cellBehind 21 = .ok (.getfield 25, 3) := by decide +kernel
theorem dX5_cellBehind_24 : decode cX5_cellBehind 24 = .ok (.iload_n 2, 1) := by decide +kernel
theorem dX5_cellBehind_25 : decode cX5_cellBehind 25 = .ok (.iload 5, 2) := by decide +kernel
theorem dX5_cellBehind_27 : decode cX5_cellBehind 27 = .ok (.iadd, 1) := by decide +kernel
theorem dX5_cellBehind_28 : decode cX5_cellBehind 28 = .ok (.bipush 24, 2) := by decide +kernel
theorem dX5_cellBehind_30 : decode cX5_cellBehind 30 = .ok (.irem, 1) := by decide +kernel
theorem dX5_cellBehind_31 : decode cX5_cellBehind 31 = .ok (.iaload, 1) := by decide +kernel
theorem dX5_cellBehind_32 : decode cX5_cellBehind 32 = .ok (.invokestatic 87, 3) := by decide +kernel
theorem dX5_cellBehind_35 : decode cX5_cellBehind 35 = .ok (.istore 4, 2) := by decide +kernel
theorem dX5_cellBehind_37 : decode cX5_cellBehind 37 = .ok (.iinc 5 1, 3) := by decide +kernel
theorem dX5_cellBehind_40 : decode cX5_cellBehind 40 = .ok (.goto (-34), 3) := by decide +kernel
theorem dX5_cellBehind_43 : decode cX5_cellBehind 43 = .ok (.iload 4, 2) := by decide +kernel
theorem dX5_cellBehind_45 : decode cX5_cellBehind 45 = .ok (.ireturn, 1) := by decide +kernel
theorem dX5_draw_0 : decode cX5_draw 0 = .ok (.aload_n 0, 1) := by decide +kernel
theorem dX5_draw_1 : decode cX5_draw 1 = .ok (.aload_n 0, 1) := by decide +kernel
theorem dX5_draw_2 : decode cX5_draw 2 = .ok (.getfield 15, 3) := by decide +kernel
theorem dX5_draw_5 : decode cX5_draw 5 = .ok (.ldc 64, 2) := by decide +kernel
theorem dX5_draw_7 : decode cX5_draw 7 = .ok (.imul, 1) := by decide +kernel
theorem dX5_draw_8 : decode cX5_draw 8 = .ok (.sipush 12345, 3) := by decide +kernel
theorem dX5_draw_11 : decode cX5_draw 11 = .ok (.iadd, 1) := by decide +kernel
theorem dX5_draw_12 : decode cX5_draw 12 = .ok (.putfield 15, 3) := by decide +kernel
theorem dX5_draw_15 : decode cX5_draw 15 = .ok (.aload_n 0, 1) := by decide +kernel
theorem dX5_draw_16 : decode cX5_draw 16 = .ok (.getfield 15, 3) := by decide +kernel
theorem dX5_draw_19 : decode cX5_draw 19 = .ok (.bipush 8, 2) := by decide +kernel
theorem dX5_draw_21 : decode cX5_draw 21 = .ok (.iushr, 1) := by decide +kernel
theorem dX5_draw_22 : decode cX5_draw 22 = .ok (.ireturn, 1) := by decide +kernel
theorem dX1_wordOf_0 : decode cX1_wordOf 0 = .ok (.iload_n 0, 1) := by decide +kernel
theorem dX1_wordOf_1 : decode cX1_wordOf 1 = .ok (.tableswitch 57 1 6 #[39, 42, 45, 48, 51, 54], 39) := by decide +kernel
theorem dX1_wordOf_40 : decode cX1_wordOf 40 = .ok (.ldc 129, 2) := by decide +kernel
theorem dX1_wordOf_42 : decode cX1_wordOf 42 = .ok (.areturn, 1) := by decide +kernel
theorem dX1_wordOf_43 : decode cX1_wordOf 43 = .ok (.ldc 131, 2) := by decide +kernel
theorem dX1_wordOf_45 : decode cX1_wordOf 45 = .ok (.areturn, 1) := by decide +kernel
theorem dX1_wordOf_46 : decode cX1_wordOf 46 = .ok (.ldc 133, 2) := by decide +kernel
theorem dX1_wordOf_48 : decode cX1_wordOf 48 = .ok (.areturn, 1) := by decide +kernel
theorem dX1_wordOf_49 : decode cX1_wordOf 49 = .ok (.ldc 135, 2) := by decide +kernel
theorem dX1_wordOf_51 : decode cX1_wordOf 51 = .ok (.areturn, 1) := by decide +kernel
theorem dX1_wordOf_52 : decode cX1_wordOf 52 = .ok (.ldc 137, 2) := by decide +kernel
theorem dX1_wordOf_54 : decode cX1_wordOf 54 = .ok (.areturn, 1) := by decide +kernel
theorem dX1_wordOf_55 : decode cX1_wordOf 55 = .ok (.ldc 139, 2) := by decide +kernel
theorem dX1_wordOf_57 : decode cX1_wordOf 57 = .ok (.areturn, 1) := by decide +kernel
theorem dX1_wordOf_58 : decode cX1_wordOf 58 = .ok (.ldc 141, 2) := by decide +kernel
theorem dX1_wordOf_60 : decode cX1_wordOf 60 = .ok (.areturn, 1) := by decide +kernel
theorem dX4_isWord_0 : decode cX4_isWord 0 = .ok (.aload_n 0, 1) := by decide +kernel
theorem dX4_isWord_1 : decode cX4_isWord 1 = .ok (.getfield 22, 3) := by decide +kernel
theorem dX4_isWord_4 : decode cX4_isWord 4 = .ok (.iconst 1, 1) := by decide +kernel
theorem dX4_isWord_5 : decode cX4_isWord 5 = .ok (.if_icmp .ne 19, 3) := by decide +kernel
theorem dX4_isWord_8 : decode cX4_isWord 8 = .ok (.aload_n 0, 1) := by decide +kernel
theorem dX4_isWord_9 : decode cX4_isWord 9 = .ok (.getfield 28, 3) := by decide +kernel
theorem dX4_isWord_12 : decode cX4_isWord 12 = .ok (.aload_n 0, 1) := by decide +kernel
theorem dX4_isWord_13 : decode cX4_isWord 13 = .ok (.getfield 25, 3) := by decide +kernel
theorem dX4_isWord_16 : decode cX4_isWord 16 = .ok (.isub, 1) := by decide +kernel
theorem dX4_isWord_17 : decode cX4_isWord 17 = .ok (.aload_n 1, 1) := by decide +kernel
theorem dX4_isWord_18 : decode cX4_isWord 18 = .ok (.invokevirtual 44, 3) := by decide +kernel
theorem dX4_isWord_21 : decode cX4_isWord 21 = .ok (.if_icmp .eq 5, 3) := by decide +kernel
theorem dX4_isWord_24 : decode cX4_isWord 24 = .ok (.iconst 0, 1) := by decide +kernel
theorem dX4_isWord_25 : decode cX4_isWord 25 = .ok (.ireturn, 1) := by decide +kernel
theorem dX4_isWord_26 : decode cX4_isWord 26 = .ok (.iconst 0, 1) := by decide +kernel
theorem dX4_isWord_27 : decode cX4_isWord 27 = .ok (.istore_n 2, 1) := by decide +kernel
theorem dX4_isWord_28 : decode cX4_isWord 28 = .ok (.iload_n 2, 1) := by decide +kernel
theorem dX4_isWord_29 : decode cX4_isWord 29 = .ok (.aload_n 1, 1) := by decide +kernel
theorem dX4_isWord_30 : decode cX4_isWord 30 = .ok (.invokevirtual 44, 3) := by decide +kernel
theorem dX4_isWord_33 : decode cX4_isWord 33 = .ok (.if_icmp .ge 30, 3) := by decide +kernel
theorem dX4_isWord_36 : decode cX4_isWord 36 = .ok (.aload_n 0, 1) := by decide +kernel
theorem dX4_isWord_37 : decode cX4_isWord 37 = .ok (.getfield 9, 3) := by decide +kernel
theorem dX4_isWord_40 : decode cX4_isWord 40 = .ok (.aload_n 0, 1) := by decide +kernel
theorem dX4_isWord_41 : decode cX4_isWord 41 = .ok (.getfield 25, 3) := by decide +kernel
theorem dX4_isWord_44 : decode cX4_isWord 44 = .ok (.iload_n 2, 1) := by decide +kernel
theorem dX4_isWord_45 : decode cX4_isWord 45 = .ok (.iadd, 1) := by decide +kernel
theorem dX4_isWord_46 : decode cX4_isWord 46 = .ok (.iaload, 1) := by decide +kernel
theorem dX4_isWord_47 : decode cX4_isWord 47 = .ok (.aload_n 1, 1) := by decide +kernel
theorem dX4_isWord_48 : decode cX4_isWord 48 = .ok (.iload_n 2, 1) := by decide +kernel
theorem dX4_isWord_49 : decode cX4_isWord 49 = .ok (.invokevirtual 49, 3) := by decide +kernel
theorem dX4_isWord_52 : decode cX4_isWord 52 = .ok (.if_icmp .eq 5, 3) := by decide +kernel
theorem dX4_isWord_55 : decode cX4_isWord 55 = .ok (.iconst 0, 1) := by decide +kernel
theorem dX4_isWord_56 : decode cX4_isWord 56 = .ok (.ireturn, 1) := by decide +kernel
theorem dX4_isWord_57 : decode cX4_isWord 57 = .ok (.iinc 2 1, 3) := by decide +kernel
theorem dX4_isWord_60 : decode cX4_isWord 60 = .ok (.goto (-32), 3) := by decide +kernel
theorem dX4_isWord_63 : decode cX4_isWord 63 = .ok (.iconst 1, 1) := by decide +kernel
theorem dX4_isWord_64 : decode cX4_isWord 64 = .ok (.ireturn, 1) := by decide +kernel
theorem dX1_kindAtHand_0 : decode cX1_kindAtHand 0 = .ok (.iconst 0, 1) := by decide +kernel
theorem dX1_kindAtHand_1 : decode cX1_kindAtHand 1 = .ok (.istore_n 1, 1) := by decide +kernel
theorem dX1_kindAtHand_2 : decode cX1_kindAtHand 2 = .ok (.iload_n 1, 1) := by decide +kernel
theorem dX1_kindAtHand_3 : decode cX1_kindAtHand 3 = .ok (.bipush 7, 2) := by decide +kernel
theorem dX1_kindAtHand_5 : decode cX1_kindAtHand 5 = .ok (.if_icmp .ge 25, 3) := by decide +kernel
theorem dX1_kindAtHand_8 : decode cX1_kindAtHand 8 = .ok (.aload_n 0, 1) := by decide +kernel
theorem dX1_kindAtHand_9 : decode cX1_kindAtHand 9 = .ok (.getfield 12, 3) := by decide +kernel
theorem dX1_kindAtHand_12 : decode cX1_kindAtHand 12 = .ok (.iload_n 1, 1) := by decide +kernel
theorem dX1_kindAtHand_13 : decode cX1_kindAtHand 13 = .ok (.invokestatic 122, 3) := by decide +kernel
theorem dX1_kindAtHand_16 : decode cX1_kindAtHand 16 = .ok (.invokevirtual 126, 3) := by decide +kernel
theorem dX1_kindAtHand_19 : decode cX1_kindAtHand 19 = .ok (.ifCond .eq 5, 3) := by decide +kernel
theorem dX1_kindAtHand_22 : decode cX1_kindAtHand 22 = .ok (.iload_n 1, 1) := by decide +kernel
theorem dX1_kindAtHand_23 : decode cX1_kindAtHand 23 = .ok (.ireturn, 1) := by decide +kernel
theorem dX1_kindAtHand_24 : decode cX1_kindAtHand 24 = .ok (.iinc 1 1, 3) := by decide +kernel
theorem dX1_kindAtHand_27 : decode cX1_kindAtHand 27 = .ok (.goto (-25), 3) := by decide +kernel
theorem dX1_kindAtHand_30 : decode cX1_kindAtHand 30 = .ok (.iconst (-1), 1) := by decide +kernel
theorem dX1_kindAtHand_31 : decode cX1_kindAtHand 31 = .ok (.ireturn, 1) := by decide +kernel
theorem dX4_fail_0 : decode cX4_fail 0 = .ok (.aload_n 0, 1) := by decide +kernel
theorem dX4_fail_1 : decode cX4_fail 1 = .ok (.getfield 19, 3) := by decide +kernel
theorem dX4_fail_4 : decode cX4_fail 4 = .ok (.ifCond .ge 11, 3) := by decide +kernel
theorem dX4_fail_7 : decode cX4_fail 7 = .ok (.aload_n 0, 1) := by decide +kernel
theorem dX4_fail_8 : decode cX4_fail 8 = .ok (.aload_n 0, 1) := by decide +kernel
theorem dX4_fail_9 : decode cX4_fail 9 = .ok (.getfield 25, 3) := by decide +kernel
theorem dX4_fail_12 : decode cX4_fail 12 = .ok (.putfield 19, 3) := by decide +kernel
theorem dX4_fail_15 : decode cX4_fail 15 = .ok (.return_, 1) := by decide +kernel
theorem dX4_hasFault_0 : decode cX4_hasFault 0 = .ok (.aload_n 0, 1) := by decide +kernel
theorem dX4_hasFault_1 : decode cX4_hasFault 1 = .ok (.getfield 19, 3) := by decide +kernel
theorem dX4_hasFault_4 : decode cX4_hasFault 4 = .ok (.ifCond .lt 7, 3) := by decide +kernel
theorem dX4_hasFault_7 : decode cX4_hasFault 7 = .ok (.iconst 1, 1) := by decide +kernel
theorem dX4_hasFault_8 : decode cX4_hasFault 8 = .ok (.goto 4, 3) := by decide +kernel
theorem dX4_hasFault_11 : decode cX4_hasFault 11 = .ok (.iconst 0, 1) := by decide +kernel
theorem dX4_hasFault_12 : decode cX4_hasFault 12 = .ok (.ireturn, 1) := by decide +kernel
theorem dX4_sortOf_0 : decode cX4_sortOf 0 = .ok (.iload_n 0, 1) := by decide +kernel
theorem dX4_sortOf_1 : decode cX4_sortOf 1 = .ok (.bipush 97, 2) := by decide +kernel
theorem dX4_sortOf_3 : decode cX4_sortOf 3 = .ok (.if_icmp .lt 11, 3) := by decide +kernel
theorem dX4_sortOf_6 : decode cX4_sortOf 6 = .ok (.iload_n 0, 1) := by decide +kernel
theorem dX4_sortOf_7 : decode cX4_sortOf 7 = .ok (.bipush 122, 2) := by decide +kernel
theorem dX4_sortOf_9 : decode cX4_sortOf 9 = .ok (.if_icmp .gt 5, 3) := by decide +kernel
theorem dX4_sortOf_12 : decode cX4_sortOf 12 = .ok (.iconst 1, 1) := by decide +kernel
theorem dX4_sortOf_13 : decode cX4_sortOf 13 = .ok (.ireturn, 1) := by decide +kernel
theorem dX4_sortOf_14 : decode cX4_sortOf 14 = .ok (.iload_n 0, 1) := by decide +kernel
theorem dX4_sortOf_15 : decode cX4_sortOf 15 = .ok (.bipush 48, 2) := by decide +kernel
theorem dX4_sortOf_17 : decode cX4_sortOf 17 = .ok (.if_icmp .lt 11, 3) := by decide +kernel
theorem dX4_sortOf_20 : decode cX4_sortOf 20 = .ok (.iload_n 0, 1) := by decide +kernel
theorem dX4_sortOf_21 : decode cX4_sortOf 21 = .ok (.bipush 57, 2) := by decide +kernel
theorem dX4_sortOf_23 : decode cX4_sortOf 23 = .ok (.if_icmp .gt 5, 3) := by decide +kernel
theorem dX4_sortOf_26 : decode cX4_sortOf 26 = .ok (.iconst 2, 1) := by decide +kernel
theorem dX4_sortOf_27 : decode cX4_sortOf 27 = .ok (.ireturn, 1) := by decide +kernel
theorem dX4_sortOf_28 : decode cX4_sortOf 28 = .ok (.iload_n 0, 1) := by decide +kernel
theorem dX4_sortOf_29 : decode cX4_sortOf 29 = .ok (.bipush 59, 2) := by decide +kernel
theorem dX4_sortOf_31 : decode cX4_sortOf 31 = .ok (.if_icmp .ne 7, 3) := by decide +kernel
theorem dX4_sortOf_34 : decode cX4_sortOf 34 = .ok (.iconst 3, 1) := by decide +kernel
theorem dX4_sortOf_35 : decode cX4_sortOf 35 = .ok (.goto 4, 3) := by decide +kernel
theorem dX4_sortOf_38 : decode cX4_sortOf 38 = .ok (.iconst 4, 1) := by decide +kernel
theorem dX4_sortOf_39 : decode cX4_sortOf 39 = .ok (.ireturn, 1) := by decide +kernel
theorem dX4_next_0 : decode cX4_next 0 = .ok (.aload_n 0, 1) := by decide +kernel
theorem dX4_next_1 : decode cX4_next 1 = .ok (.getfield 28, 3) := by decide +kernel
theorem dX4_next_4 : decode cX4_next 4 = .ok (.aload_n 0, 1) := by decide +kernel
theorem dX4_next_5 : decode cX4_next 5 = .ok (.getfield 15, 3) := by decide +kernel
theorem dX4_next_8 : decode cX4_next 8 = .ok (.if_icmp .ge 30, 3) := by decide +kernel
theorem dX4_next_11 : decode cX4_next 11 = .ok (.aload_n 0, 1) := by decide +kernel
theorem dX4_next_12 : decode cX4_next 12 = .ok (.getfield 9, 3) := by decide +kernel
theorem dX4_next_15 : decode cX4_next 15 = .ok (.aload_n 0, 1) := by decide +kernel
theorem dX4_next_16 : decode cX4_next 16 = .ok (.getfield 28, 3) := by decide +kernel
theorem dX4_next_19 : decode cX4_next 19 = .ok (.iaload, 1) := by decide +kernel
theorem dX4_next_20 : decode cX4_next 20 = .ok (.bipush 32, 2) := by decide +kernel
theorem dX4_next_22 : decode cX4_next 22 = .ok (.if_icmp .ne 16, 3) := by decide +kernel
theorem dX4_next_25 : decode cX4_next 25 = .ok (.aload_n 0, 1) := by decide +kernel
theorem dX4_next_26 : decode cX4_next 26 = .ok (.dup, 1) := by decide +kernel
theorem dX4_next_27 : decode cX4_next 27 = .ok (.getfield 28, 3) := by decide +kernel
theorem dX4_next_30 : decode cX4_next 30 = .ok (.iconst 1, 1) := by decide +kernel
theorem dX4_next_31 : decode cX4_next 31 = .ok (.iadd, 1) := by decide +kernel
theorem dX4_next_32 : decode cX4_next 32 = .ok (.putfield 28, 3) := by decide +kernel
theorem dX4_next_35 : decode cX4_next 35 = .ok (.goto (-35), 3) := by decide +kernel
theorem dX4_next_38 : decode cX4_next 38 = .ok (.aload_n 0, 1) := by decide +kernel
theorem dX4_next_39 : decode cX4_next 39 = .ok (.aload_n 0, 1) := by decide +kernel
theorem dX4_next_40 : decode cX4_next 40 = .ok (.getfield 28, 3) := by decide +kernel
theorem dX4_next_43 : decode cX4_next 43 = .ok (.putfield 25, 3) := by decide +kernel
theorem dX4_next_46 : decode cX4_next 46 = .ok (.aload_n 0, 1) := by decide +kernel
theorem dX4_next_47 : decode cX4_next 47 = .ok (.iconst 0, 1) := by decide +kernel
theorem dX4_next_48 : decode cX4_next 48 = .ok (.putfield 22, 3) := by decide +kernel
theorem dX4_next_51 : decode cX4_next 51 = .ok (.aload_n 0, 1) := by decide +kernel
theorem dX4_next_52 : decode cX4_next 52 = .ok (.getfield 28, 3) := by decide +kernel
theorem dX4_next_55 : decode cX4_next 55 = .ok (.aload_n 0, 1) := by decide +kernel
theorem dX4_next_56 : decode cX4_next 56 = .ok (.getfield 15, 3) := by decide +kernel
theorem dX4_next_59 : decode cX4_next 59 = .ok (.if_icmp .ge 29, 3) := by decide +kernel
theorem dX4_next_62 : decode cX4_next 62 = .ok (.aload_n 0, 1) := by decide +kernel
theorem dX4_next_63 : decode cX4_next 63 = .ok (.aload_n 0, 1) := by decide +kernel
theorem dX4_next_64 : decode cX4_next 64 = .ok (.getfield 9, 3) := by decide +kernel
theorem dX4_next_67 : decode cX4_next 67 = .ok (.aload_n 0, 1) := by decide +kernel
theorem dX4_next_68 : decode cX4_next 68 = .ok (.getfield 28, 3) := by decide +kernel
theorem dX4_next_71 : decode cX4_next 71 = .ok (.iaload, 1) := by decide +kernel
theorem dX4_next_72 : decode cX4_next 72 = .ok (.invokestatic 34, 3) := by decide +kernel
theorem dX4_next_75 : decode cX4_next 75 = .ok (.putfield 22, 3) := by decide +kernel
theorem dX4_next_78 : decode cX4_next 78 = .ok (.aload_n 0, 1) := by decide +kernel
theorem dX4_next_79 : decode cX4_next 79 = .ok (.dup, 1) := by decide +kernel
theorem dX4_next_80 : decode cX4_next 80 = .ok (.getfield 28, 3) := by decide +kernel
theorem dX4_next_83 : decode cX4_next 83 = .ok (.iconst 1, 1) := by decide +kernel
theorem dX4_next_84 : decode cX4_next 84 = .ok (.iadd, 1) := by decide +kernel
theorem dX4_next_85 : decode cX4_next 85 = .ok (.putfield 28, 3) := by decide +kernel
theorem dX4_next_88 : decode cX4_next 88 = .ok (.aload_n 0, 1) := by decide +kernel
theorem dX4_next_89 : decode cX4_next 89 = .ok (.getfield 22, 3) := by decide +kernel
theorem dX4_next_92 : decode cX4_next 92 = .ok (.iconst 1, 1) := by decide +kernel
theorem dX4_next_93 : decode cX4_next 93 = .ok (.if_icmp .eq 11, 3) := by decide +kernel
theorem dX4_next_96 : decode cX4_next 96 = .ok (.aload_n 0, 1) := by decide +kernel
theorem dX4_next_97 : decode cX4_next 97 = .ok (.getfield 22, 3) := by decide +kernel
theorem dX4_next_100 : decode cX4_next 100 = .ok (.iconst 2, 1) := by decide +kernel
theorem dX4_next_101 : decode cX4_next 101 = .ok (.if_icmp .ne 7, 3) := by decide +kernel
theorem dX4_next_104 : decode cX4_next 104 = .ok (.iconst 1, 1) := by decide +kernel
theorem dX4_next_105 : decode cX4_next 105 = .ok (.goto 4, 3) := by decide +kernel
theorem dX4_next_108 : decode cX4_next 108 = .ok (.iconst 0, 1) := by decide +kernel
theorem dX4_next_109 : decode cX4_next 109 = .ok (.istore_n 1, 1) := by decide +kernel
theorem dX4_next_110 : decode cX4_next 110 = .ok (.iload_n 1, 1) := by decide +kernel
theorem dX4_next_111 : decode cX4_next 111 = .ok (.ifCond .eq 46, 3) := by decide +kernel
theorem dX4_next_114 : decode cX4_next 114 = .ok (.aload_n 0, 1) := by decide +kernel
theorem dX4_next_115 : decode cX4_next 115 = .ok (.getfield 28, 3) := by decide +kernel
theorem dX4_next_118 : decode cX4_next 118 = .ok (.aload_n 0, 1) := by decide +kernel
theorem dX4_next_119 : decode cX4_next 119 = .ok (.getfield 15, 3) := by decide +kernel
theorem dX4_next_122 : decode cX4_next 122 = .ok (.if_icmp .ge 35, 3) := by decide +kernel
theorem dX4_next_125 : decode cX4_next 125 = .ok (.aload_n 0, 1) := by decide +kernel
theorem dX4_next_126 : decode cX4_next 126 = .ok (.getfield 9, 3) := by decide +kernel
theorem dX4_next_129 : decode cX4_next 129 = .ok (.aload_n 0, 1) := by decide +kernel
theorem dX4_next_130 : decode cX4_next 130 = .ok (.getfield 28, 3) := by decide +kernel
theorem dX4_next_133 : decode cX4_next 133 = .ok (.iaload, 1) := by decide +kernel
theorem dX4_next_134 : decode cX4_next 134 = .ok (.invokestatic 34, 3) := by decide +kernel
theorem dX4_next_137 : decode cX4_next 137 = .ok (.aload_n 0, 1) := by decide +kernel
theorem dX4_next_138 : decode cX4_next 138 = .ok (.getfield 22, 3) := by decide +kernel
theorem dX4_next_141 : decode cX4_next 141 = .ok (.if_icmp .ne 16, 3) := by decide +kernel
theorem dX4_next_144 : decode cX4_next 144 = .ok (.aload_n 0, 1) := by decide +kernel
theorem dX4_next_145 : decode cX4_next 145 = .ok (.dup, 1) := by decide +kernel
theorem dX4_next_146 : decode cX4_next 146 = .ok (.getfield 28, 3) := by decide +kernel
theorem dX4_next_149 : decode cX4_next 149 = .ok (.iconst 1, 1) := by decide +kernel
theorem dX4_next_150 : decode cX4_next 150 = .ok (.iadd, 1) := by decide +kernel
theorem dX4_next_151 : decode cX4_next 151 = .ok (.putfield 28, 3) := by decide +kernel
theorem dX4_next_154 : decode cX4_next 154 = .ok (.goto (-44), 3) := by decide +kernel
theorem dX4_next_157 : decode cX4_next 157 = .ok (.return_, 1) := by decide +kernel
theorem dX4_numberAtHand_0 : decode cX4_numberAtHand 0 = .ok (.iconst 0, 1) := by decide +kernel
theorem dX4_numberAtHand_1 : decode cX4_numberAtHand 1 = .ok (.istore_n 1, 1) := by decide +kernel
theorem dX4_numberAtHand_2 : decode cX4_numberAtHand 2 = .ok (.aload_n 0, 1) := by decide +kernel
theorem dX4_numberAtHand_3 : decode cX4_numberAtHand 3 = .ok (.getfield 25, 3) := by decide +kernel
theorem dX4_numberAtHand_6 : decode cX4_numberAtHand 6 = .ok (.istore_n 2, 1) := by decide +kernel
theorem dX4_numberAtHand_7 : decode cX4_numberAtHand 7 = .ok (.iload_n 2, 1) := by decide +kernel
theorem dX4_numberAtHand_8 : decode cX4_numberAtHand 8 = .ok (.aload_n 0, 1) := by decide +kernel
theorem dX4_numberAtHand_9 : decode cX4_numberAtHand 9 = .ok (.getfield 28, 3) := by decide +kernel
theorem dX4_numberAtHand_12 : decode cX4_numberAtHand 12 = .ok (.if_icmp .ge 30, 3) := by decide +kernel
theorem dX4_numberAtHand_15 : decode cX4_numberAtHand 15 = .ok (.iload_n 1, 1) := by decide +kernel
theorem dX4_numberAtHand_16 : decode cX4_numberAtHand 16 = .ok (.bipush 10, 2) := by decide +kernel
theorem dX4_numberAtHand_18 : decode cX4_numberAtHand 18 = .ok (.imul, 1) := by decide +kernel
theorem dX4_numberAtHand_19 : decode cX4_numberAtHand 19 = .ok (.aload_n 0, 1) := by decide +kernel
theorem dX4_numberAtHand_20 : decode cX4_numberAtHand 20 = .ok (.getfield 9, 3) := by decide +kernel
theorem dX4_numberAtHand_23 : decode cX4_numberAtHand 23 = .ok (.iload_n 2, 1) := by decide +kernel
theorem dX4_numberAtHand_24 : decode cX4_numberAtHand 24 = .ok (.iaload, 1) := by decide +kernel
theorem dX4_numberAtHand_25 : decode cX4_numberAtHand 25 = .ok (.iadd, 1) := by decide +kernel
theorem dX4_numberAtHand_26 : decode cX4_numberAtHand 26 = .ok (.bipush 48, 2) := by decide +kernel
theorem dX4_numberAtHand_28 : decode cX4_numberAtHand 28 = .ok (.isub, 1) := by decide +kernel
theorem dX4_numberAtHand_29 : decode cX4_numberAtHand 29 = .ok (.sipush 1000, 3) := by decide +kernel
theorem dX4_numberAtHand_32 : decode cX4_numberAtHand 32 = .ok (.invokestatic 38, 3) := by decide +kernel
theorem dX4_numberAtHand_35 : decode cX4_numberAtHand 35 = .ok (.istore_n 1, 1) := by decide +kernel
theorem dX4_numberAtHand_36 : decode cX4_numberAtHand 36 = .ok (.iinc 2 1, 3) := by decide +kernel
theorem dX4_numberAtHand_39 : decode cX4_numberAtHand 39 = .ok (.goto (-32), 3) := by decide +kernel
theorem dX4_numberAtHand_42 : decode cX4_numberAtHand 42 = .ok (.iload_n 1, 1) := by decide +kernel
theorem dX4_numberAtHand_43 : decode cX4_numberAtHand 43 = .ok (.ireturn, 1) := by decide +kernel
theorem dX4_needNumber_0 : decode cX4_needNumber 0 = .ok (.aload_n 0, 1) := by decide +kernel
theorem dX4_needNumber_1 : decode cX4_needNumber 1 = .ok (.getfield 22, 3) := by decide +kernel
theorem dX4_needNumber_4 : decode cX4_needNumber 4 = .ok (.iconst 2, 1) := by decide +kernel
theorem dX4_needNumber_5 : decode cX4_needNumber 5 = .ok (.if_icmp .ne 10, 3) := by decide +kernel
theorem dX4_needNumber_8 : decode cX4_needNumber 8 = .ok (.aload_n 0, 1) := by decide +kernel
theorem dX4_needNumber_9 : decode cX4_needNumber 9 = .ok (.invokevirtual 67, 3) := by decide +kernel
theorem dX4_needNumber_12 : decode cX4_needNumber 12 = .ok (.goto 4, 3) := by decide +kernel
theorem dX4_needNumber_15 : decode cX4_needNumber 15 = .ok (.iconst (-1), 1) := by decide +kernel
theorem dX4_needNumber_16 : decode cX4_needNumber 16 = .ok (.istore_n 2, 1) := by decide +kernel
theorem dX4_needNumber_17 : decode cX4_needNumber 17 = .ok (.aload_n 0, 1) := by decide +kernel
theorem dX4_needNumber_18 : decode cX4_needNumber 18 = .ok (.invokevirtual 53, 3) := by decide +kernel
theorem dX4_needNumber_21 : decode cX4_needNumber 21 = .ok (.ifCond .ne 12, 3) := by decide +kernel
theorem dX4_needNumber_24 : decode cX4_needNumber 24 = .ok (.iload_n 2, 1) := by decide +kernel
theorem dX4_needNumber_25 : decode cX4_needNumber 25 = .ok (.ifCond .lt 8, 3) := by decide +kernel
theorem dX4_needNumber_28 : decode cX4_needNumber 28 = .ok (.iload_n 2, 1) := by decide +kernel
theorem dX4_needNumber_29 : decode cX4_needNumber 29 = .ok (.iload_n 1, 1) := by decide +kernel
theorem dX4_needNumber_30 : decode cX4_needNumber 30 = .ok (.if_icmp .le 9, 3) := by decide +kernel
theorem dX4_needNumber_33 : decode cX4_needNumber 33 = .ok (.aload_n 0, 1) := by decide +kernel
theorem dX4_needNumber_34 : decode cX4_needNumber 34 = .ok (.invokevirtual 64, 3) := by decide +kernel
theorem dX4_needNumber_37 : decode cX4_needNumber 37 = .ok (.iconst 0, 1) := by decide +kernel
theorem dX4_needNumber_38 : decode cX4_needNumber 38 = .ok (.ireturn, 1) := by decide +kernel
theorem dX4_needNumber_39 : decode cX4_needNumber 39 = .ok (.aload_n 0, 1) := by decide +kernel
theorem dX4_needNumber_40 : decode cX4_needNumber 40 = .ok (.invokevirtual 31, 3) := by decide +kernel
theorem dX4_needNumber_43 : decode cX4_needNumber 43 = .ok (.iload_n 2, 1) := by decide +kernel
theorem dX4_needNumber_44 : decode cX4_needNumber 44 = .ok (.ireturn, 1) := by decide +kernel
theorem dX4_passWord_0 : decode cX4_passWord 0 = .ok (.aload_n 0, 1) := by decide +kernel
theorem dX4_passWord_1 : decode cX4_passWord 1 = .ok (.invokevirtual 53, 3) := by decide +kernel
theorem dX4_passWord_4 : decode cX4_passWord 4 = .ok (.ifCond .ne 11, 3) := by decide +kernel
theorem dX4_passWord_7 : decode cX4_passWord 7 = .ok (.aload_n 0, 1) := by decide +kernel
theorem dX4_passWord_8 : decode cX4_passWord 8 = .ok (.aload_n 1, 1) := by decide +kernel
theorem dX4_passWord_9 : decode cX4_passWord 9 = .ok (.invokevirtual 57, 3) := by decide +kernel
theorem dX4_passWord_12 : decode cX4_passWord 12 = .ok (.ifCond .ne 5, 3) := by decide +kernel
theorem dX4_passWord_15 : decode cX4_passWord 15 = .ok (.iconst 0, 1) := by decide +kernel
theorem dX4_passWord_16 : decode cX4_passWord 16 = .ok (.ireturn, 1) := by decide +kernel
theorem dX4_passWord_17 : decode cX4_passWord 17 = .ok (.aload_n 0, 1) := by decide +kernel
theorem dX4_passWord_18 : decode cX4_passWord 18 = .ok (.invokevirtual 31, 3) := by decide +kernel
theorem dX4_passWord_21 : decode cX4_passWord 21 = .ok (.iconst 1, 1) := by decide +kernel
theorem dX4_passWord_22 : decode cX4_passWord 22 = .ok (.ireturn, 1) := by decide +kernel
theorem dX4_needWord_0 : decode cX4_needWord 0 = .ok (.aload_n 0, 1) := by decide +kernel
theorem dX4_needWord_1 : decode cX4_needWord 1 = .ok (.aload_n 1, 1) := by decide +kernel
theorem dX4_needWord_2 : decode cX4_needWord 2 = .ok (.invokevirtual 61, 3) := by decide +kernel
theorem dX4_needWord_5 : decode cX4_needWord 5 = .ok (.ifCond .ne 7, 3) := by decide +kernel
theorem dX4_needWord_8 : decode cX4_needWord 8 = .ok (.aload_n 0, 1) := by decide +kernel
theorem dX4_needWord_9 : decode cX4_needWord 9 = .ok (.invokevirtual 64, 3) := by decide +kernel
theorem dX4_needWord_12 : decode cX4_needWord 12 = .ok (.return_, 1) := by decide +kernel
theorem dX1_readChimney_0 : decode cX1_readChimney 0 = .ok (.aload_n 0, 1) := by decide +kernel
theorem dX1_readChimney_1 : decode cX1_readChimney 1 = .ok (.getfield 12, 3) := by decide +kernel
theorem dX1_readChimney_4 : decode cX1_readChimney 4 = .ok (.ldc 77, 2) := by decide +kernel
theorem dX1_readChimney_6 : decode cX1_readChimney 6 = .ok (.invokevirtual 79, 3) := by decide +kernel
theorem dX1_readChimney_9 : decode cX1_readChimney 9 = .ok (.aload_n 0, 1) := by decide +kernel
theorem dX1_readChimney_10 : decode cX1_readChimney 10 = .ok (.getfield 12, 3) := by decide +kernel
theorem dX1_readChimney_13 : decode cX1_readChimney 13 = .ok (.iconst 5, 1) := by decide +kernel
theorem dX1_readChimney_14 : decode cX1_readChimney 14 = .ok (.invokevirtual 73, 3) := by decide +kernel
theorem dX1_readChimney_17 : decode cX1_readChimney 17 = .ok (.istore_n 3, 1) := by decide +kernel
theorem dX1_readChimney_18 : decode cX1_readChimney 18 = .ok (.aload_n 0, 1) := by decide +kernel
theorem dX1_readChimney_19 : decode cX1_readChimney 19 = .ok (.getfield 12, 3) := by decide +kernel
theorem dX1_readChimney_22 : decode cX1_readChimney 22 = .ok (.ldc 93, 2) := by decide +kernel
theorem dX1_readChimney_24 : decode cX1_readChimney 24 = .ok (.invokevirtual 79, 3) := by decide +kernel
theorem dX1_readChimney_27 : decode cX1_readChimney 27 = .ok (.aload_n 0, 1) := by decide +kernel
theorem dX1_readChimney_28 : decode cX1_readChimney 28 = .ok (.getfield 12, 3) := by decide +kernel
theorem dX1_readChimney_31 : decode cX1_readChimney 31 = .ok (.bipush 35, 2) := by decide +kernel
theorem dX1_readChimney_33 : decode cX1_readChimney 33 = .ok (.invokevirtual 73, 3) := by decide +kernel
theorem dX1_readChimney_36 : decode cX1_readChimney 36 = .ok (.istore 4, 2) := by decide +kernel
theorem dX1_readChimney_38 : decode cX1_readChimney 38 = .ok (.aload_n 0, 1) := by decide +kernel
theorem dX1_readChimney_39 : decode cX1_readChimney 39 = .ok (.getfield 12, 3) := by decide +kernel
theorem dX1_readChimney_42 : decode cX1_readChimney 42 = .ok (.ldc 95, 2) := by decide +kernel
theorem dX1_readChimney_44 : decode cX1_readChimney 44 = .ok (.invokevirtual 54, 3) := by decide +kernel
theorem dX1_readChimney_47 : decode cX1_readChimney 47 = .ok (.ifCond .eq 18, 3) := by decide +kernel
theorem dX1_readChimney_50 : decode cX1_readChimney 50 = .ok (.aload_n 0, 1) := by decide +kernel
theorem dX1_readChimney_51 : decode cX1_readChimney 51 = .ok (.getfield 12, 3) := by decide +kernel
theorem dX1_readChimney_54 : decode cX1_readChimney 54 = .ok (.getstatic 97, 3) := by decide +kernel
theorem dX1_readChimney_57 : decode cX1_readChimney 57 = .ok (.iconst 3, 1) := by decide +kernel
theorem dX1_readChimney_58 : decode cX1_readChimney 58 = .ok (.iaload, 1) := by decide +kernel
theorem dX1_readChimney_59 : decode cX1_readChimney 59 = .ok (.invokevirtual 73, 3) := by decide +kernel
theorem dX1_readChimney_62 : decode cX1_readChimney 62 = .ok (.goto 4, 3) := by decide +kernel
theorem dX1_readChimney_65 : decode cX1_readChimney 65 = .ok (.iconst (-1), 1) := by decide +kernel
theorem dX1_readChimney_66 : decode cX1_readChimney 66 = .ok (.istore 5, 2) := by decide +kernel
theorem dX1_readChimney_68 : decode cX1_readChimney 68 = .ok (.aload_n 0, 1) := by decide +kernel
theorem dX1_readChimney_69 : decode cX1_readChimney 69 = .ok (.getfield 12, 3) := by decide +kernel
theorem dX1_readChimney_72 : decode cX1_readChimney 72 = .ok (.ldc 100, 2) := by decide +kernel
theorem dX1_readChimney_74 : decode cX1_readChimney 74 = .ok (.invokevirtual 54, 3) := by decide +kernel
theorem dX1_readChimney_77 : decode cX1_readChimney 77 = .ok (.ifCond .eq 18, 3) := by decide +kernel
theorem dX1_readChimney_80 : decode cX1_readChimney 80 = .ok (.aload_n 0, 1) := by decide +kernel
theorem dX1_readChimney_81 : decode cX1_readChimney 81 = .ok (.getfield 12, 3) := by decide +kernel
theorem dX1_readChimney_84 : decode cX1_readChimney 84 = .ok (.getstatic 97, 3) := by decide +kernel
theorem dX1_readChimney_87 : decode cX1_readChimney 87 = .ok (.iconst 4, 1) := by decide +kernel
theorem dX1_readChimney_88 : decode cX1_readChimney 88 = .ok (.iaload, 1) := by decide +kernel
theorem dX1_readChimney_89 : decode cX1_readChimney 89 = .ok (.invokevirtual 73, 3) := by decide +kernel
theorem dX1_readChimney_92 : decode cX1_readChimney 92 = .ok (.goto 4, 3) := by decide +kernel
theorem dX1_readChimney_95 : decode cX1_readChimney 95 = .ok (.iconst (-1), 1) := by decide +kernel
theorem dX1_readChimney_96 : decode cX1_readChimney 96 = .ok (.istore 6, 2) := by decide +kernel
theorem dX1_readChimney_98 : decode cX1_readChimney 98 = .ok (.iconst (-1), 1) := by decide +kernel
theorem dX1_readChimney_99 : decode cX1_readChimney 99 = .ok (.istore 7, 2) := by decide +kernel
theorem dX1_readChimney_101 : decode cX1_readChimney 101 = .ok (.iconst (-1), 1) := by decide +kernel
theorem dX1_readChimney_102 : decode cX1_readChimney 102 = .ok (.istore 8, 2) := by decide +kernel
theorem dX1_readChimney_104 : decode cX1_readChimney 104 = .ok (.aload_n 0, 1) := by decide +kernel
theorem dX1_readChimney_105 : decode cX1_readChimney 105 = .ok (.getfield 12, 3) := by decide +kernel
theorem dX1_readChimney_108 : decode cX1_readChimney 108 = .ok (.ldc 102, 2) := by decide +kernel
theorem dX1_readChimney_110 : decode cX1_readChimney 110 = .ok (.invokevirtual 54, 3) := by decide +kernel
theorem dX1_readChimney_113 : decode cX1_readChimney 113 = .ok (.ifCond .eq 41, 3) := by decide +kernel
theorem dX1_readChimney_116 : decode cX1_readChimney 116 = .ok (.aload_n 0, 1) := by decide +kernel
theorem dX1_readChimney_117 : decode cX1_readChimney 117 = .ok (.getfield 12, 3) := by decide +kernel
theorem dX1_readChimney_120 : decode cX1_readChimney 120 = .ok (.getstatic 97, 3) := by decide +kernel
theorem dX1_readChimney_123 : decode cX1_readChimney 123 = .ok (.iconst 5, 1) := by decide +kernel
theorem dX1_readChimney_124 : decode cX1_readChimney 124 = .ok (.iaload, 1) := by decide +kernel
theorem dX1_readChimney_125 : decode cX1_readChimney 125 = .ok (.invokevirtual 73, 3) := by decide +kernel
theorem dX1_readChimney_128 : decode cX1_readChimney 128 = .ok (.istore 7, 2) := by decide +kernel
theorem dX1_readChimney_130 : decode cX1_readChimney 130 = .ok (.aload_n 0, 1) := by decide +kernel
theorem dX1_readChimney_131 : decode cX1_readChimney 131 = .ok (.getfield 12, 3) := by decide +kernel
theorem dX1_readChimney_134 : decode cX1_readChimney 134 = .ok (.ldc 104, 2) := by decide +kernel
theorem dX1_readChimney_136 : decode cX1_readChimney 136 = .ok (.invokevirtual 79, 3) := by decide +kernel
theorem dX1_readChimney_139 : decode cX1_readChimney 139 = .ok (.aload_n 0, 1) := by decide +kernel
theorem dX1_readChimney_140 : decode cX1_readChimney 140 = .ok (.getfield 12, 3) := by decide +kernel
theorem dX1_readChimney_143 : decode cX1_readChimney 143 = .ok (.getstatic 97, 3) := by decide +kernel
theorem dX1_readChimney_146 : decode cX1_readChimney 146 = .ok (.bipush 6, 2) := by decide +kernel
theorem dX1_readChimney_148 : decode cX1_readChimney 148 = .ok (.iaload, 1) := by decide +kernel
theorem dX1_readChimney_149 : decode cX1_readChimney 149 = .ok (.invokevirtual 73, 3) := by decide +kernel
theorem dX1_readChimney_152 : decode cX1_readChimney 152 = .ok (.istore 8, 2) := by decide +kernel
theorem dX1_readChimney_154 : decode cX1_readChimney 154 = .ok (.aload_n 0, 1) := by decide +kernel
theorem dX1_readChimney_155 : decode cX1_readChimney 155 = .ok (.dup, 1) := by decide +kernel
theorem dX1_readChimney_156 : decode cX1_readChimney 156 = .ok (.getfield 22, 3) := by decide +kernel
theorem dX1_readChimney_159 : decode cX1_readChimney 159 = .ok (.iconst 1, 1) := by decide +kernel
theorem dX1_readChimney_160 : decode cX1_readChimney 160 = .ok (.iadd, 1) := by decide +kernel
theorem dX1_readChimney_161 : decode cX1_readChimney 161 = .ok (.putfield 22, 3) := by decide +kernel
theorem dX1_readChimney_164 : decode cX1_readChimney 164 = .ok (.aload_n 0, 1) := by decide +kernel
theorem dX1_readChimney_165 : decode cX1_readChimney 165 = .ok (.getfield 18, 3) := by decide +kernel
theorem dX1_readChimney_168 : decode cX1_readChimney 168 = .ok (.ifCond .eq 102, 3) := by decide +kernel
theorem dX1_readChimney_171 : decode cX1_readChimney 171 = .ok (.aload_n 1, 1) := by decide +kernel
theorem dX1_readChimney_172 : decode cX1_readChimney 172 = .ok (.invokevirtual 106, 3) := by decide +kernel
theorem dX1_readChimney_175 : decode cX1_readChimney 175 = .ok (.ifCond .ne 95, 3) := by decide +kernel
theorem dX1_readChimney_178 : decode cX1_readChimney 178 = .ok (.aload_n 1, 1) := by decide +kernel
theorem dX1_readChimney_179 : decode cX1_readChimney 179 = .ok (.getfield 109, 3) := by decide +kernel
theorem dX1_readChimney_182 : decode cX1_readChimney 182 = .ok (.aload_n 1, 1) := by decide +kernel
theorem dX1_readChimney_183 : decode cX1_readChimney 183 = .ok (.iload_n 2, 1) := by decide +kernel
theorem dX1_readChimney_184 : decode cX1_readChimney 184 = .ok (.iload_n 3, 1) := by decide +kernel
theorem dX1_readChimney_185 : decode cX1_readChimney 185 = .ok (.iload 4, 2) := by decide +kernel
theorem dX1_readChimney_187 : decode cX1_readChimney 187 = .ok (.invokevirtual 113, 3) := by decide +kernel
theorem dX1_readChimney_190 : decode cX1_readChimney 190 = .ok (.aaload, 1) := by decide +kernel
theorem dX1_readChimney_191 : decode cX1_readChimney 191 = .ok (.getfield 117, 3) := by decide +kernel
theorem dX1_readChimney_194 : decode cX1_readChimney 194 = .ok (.astore 9, 2) := by decide +kernel
theorem dX1_readChimney_196 : decode cX1_readChimney 196 = .ok (.aload 9, 2) := by decide +kernel
theorem dX1_readChimney_198 : decode cX1_readChimney 198 = .ok (.iconst 3, 1) := by decide +kernel
theorem dX1_readChimney_199 : decode cX1_readChimney 199 = .ok (.iload 5, 2) := by decide +kernel
theorem dX1_readChimney_201 : decode cX1_readChimney 201 = .ok (.ifCond .ge 10, 3) := by decide +kernel
theorem dX1_readChimney_204 : decode cX1_readChimney 204 = .ok (.aload 9, 2) := by decide +kernel
theorem dX1_readChimney_206 : decode cX1_readChimney 206 = .ok (.iconst 3, 1) := by decide +kernel
theorem dX1_readChimney_207 : decode cX1_readChimney 207 = .ok (.iaload, 1) := by decide +kernel
theorem dX1_readChimney_208 : decode cX1_readChimney 208 = .ok (.goto 5, 3) := by decide +kernel
theorem dX1_readChimney_211 : decode cX1_readChimney 211 = .ok (.iload 5, 2) := by decide +kernel
theorem dX1_readChimney_213 : decode cX1_readChimney 213 = .ok (.iastore, 1) := by decide +kernel
theorem dX1_readChimney_214 : decode cX1_readChimney 214 = .ok (.aload 9, 2) := by decide +kernel
theorem dX1_readChimney_216 : decode cX1_readChimney 216 = .ok (.iconst 4, 1) := by decide +kernel
theorem dX1_readChimney_217 : decode cX1_readChimney 217 = .ok (.iload 6, 2) := by decide +kernel
theorem dX1_readChimney_219 : decode cX1_readChimney 219 = .ok (.ifCond .ge 10, 3) := by decide +kernel
theorem dX1_readChimney_222 : decode cX1_readChimney 222 = .ok (.aload 9, 2) := by decide +kernel
theorem dX1_readChimney_224 : decode cX1_readChimney 224 = .ok (.iconst 4, 1) := by decide +kernel
theorem dX1_readChimney_225 : decode cX1_readChimney 225 = .ok (.iaload, 1) := by decide +kernel
theorem dX1_readChimney_226 : decode cX1_readChimney 226 = .ok (.goto 5, 3) := by decide +kernel
theorem dX1_readChimney_229 : decode cX1_readChimney 229 = .ok (.iload 6, 2) := by decide +kernel
theorem dX1_readChimney_231 : decode cX1_readChimney 231 = .ok (.iastore, 1) := by decide +kernel
theorem dX1_readChimney_232 : decode cX1_readChimney 232 = .ok (.aload 9, 2) := by decide +kernel
theorem dX1_readChimney_234 : decode cX1_readChimney 234 = .ok (.iconst 5, 1) := by decide +kernel
theorem dX1_readChimney_235 : decode cX1_readChimney 235 = .ok (.iload 7, 2) := by decide +kernel
theorem dX1_readChimney_237 : decode cX1_readChimney 237 = .ok (.ifCond .ge 10, 3) := by decide +kernel
theorem dX1_readChimney_240 : decode cX1_readChimney 240 = .ok (.aload 9, 2) := by decide +kernel
theorem dX1_readChimney_242 : decode cX1_readChimney 242 = .ok (.iconst 5, 1) := by decide +kernel
theorem dX1_readChimney_243 : decode cX1_readChimney 243 = .ok (.iaload, 1) := by decide +kernel
theorem dX1_readChimney_244 : decode cX1_readChimney 244 = .ok (.goto 5, 3) := by decide +kernel
theorem dX1_readChimney_247 : decode cX1_readChimney 247 = .ok (.iload 7, 2) := by decide +kernel
theorem dX1_readChimney_249 : decode cX1_readChimney 249 = .ok (.iastore, 1) := by decide +kernel
theorem dX1_readChimney_250 : decode cX1_readChimney 250 = .ok (.aload 9, 2) := by decide +kernel
theorem dX1_readChimney_252 : decode cX1_readChimney 252 = .ok (.bipush 6, 2) := by decide +kernel
theorem dX1_readChimney_254 : decode cX1_readChimney 254 = .ok (.iload 8, 2) := by decide +kernel
theorem dX1_readChimney_256 : decode cX1_readChimney 256 = .ok (.ifCond .ge 11, 3) := by decide +kernel
theorem dX1_readChimney_259 : decode cX1_readChimney 259 = .ok (.aload 9, 2) := by decide +kernel
theorem dX1_readChimney_261 : decode cX1_readChimney 261 = .ok (.bipush 6, 2) := by decide +kernel
theorem dX1_readChimney_263 : decode cX1_readChimney 263 = .ok (.iaload, 1) := by decide +kernel
theorem dX1_readChimney_264 : decode cX1_readChimney 264 = .ok (.goto 5, 3) := by decide +kernel
theorem dX1_readChimney_267 : decode cX1_readChimney 267 = .ok (.iload 8, 2) := by decide +kernel
theorem dX1_readChimney_269 : decode cX1_readChimney 269 = .ok (.iastore, 1) := by decide +kernel
theorem dX1_readChimney_270 : decode cX1_readChimney 270 = .ok (.return_, 1) := by decide +kernel
theorem dX1_readRoof_0 : decode cX1_readRoof 0 = .ok (.aload_n 0, 1) := by decide +kernel
theorem dX1_readRoof_1 : decode cX1_readRoof 1 = .ok (.getfield 12, 3) := by decide +kernel
theorem dX1_readRoof_4 : decode cX1_readRoof 4 = .ok (.bipush 35, 2) := by decide +kernel
theorem dX1_readRoof_6 : decode cX1_readRoof 6 = .ok (.invokevirtual 73, 3) := by decide +kernel
theorem dX1_readRoof_9 : decode cX1_readRoof 9 = .ok (.istore_n 2, 1) := by decide +kernel
theorem dX1_readRoof_10 : decode cX1_readRoof 10 = .ok (.aload_n 0, 1) := by decide +kernel
theorem dX1_readRoof_11 : decode cX1_readRoof 11 = .ok (.getfield 12, 3) := by decide +kernel
theorem dX1_readRoof_14 : decode cX1_readRoof 14 = .ok (.ldc 77, 2) := by decide +kernel
theorem dX1_readRoof_16 : decode cX1_readRoof 16 = .ok (.invokevirtual 79, 3) := by decide +kernel
theorem dX1_readRoof_19 : decode cX1_readRoof 19 = .ok (.aload_n 0, 1) := by decide +kernel
theorem dX1_readRoof_20 : decode cX1_readRoof 20 = .ok (.getfield 12, 3) := by decide +kernel
theorem dX1_readRoof_23 : decode cX1_readRoof 23 = .ok (.iconst 5, 1) := by decide +kernel
theorem dX1_readRoof_24 : decode cX1_readRoof 24 = .ok (.invokevirtual 73, 3) := by decide +kernel
theorem dX1_readRoof_27 : decode cX1_readRoof 27 = .ok (.istore_n 3, 1) := by decide +kernel
theorem dX1_readRoof_28 : decode cX1_readRoof 28 = .ok (.aload_n 0, 1) := by decide +kernel
theorem dX1_readRoof_29 : decode cX1_readRoof 29 = .ok (.getfield 18, 3) := by decide +kernel
theorem dX1_readRoof_32 : decode cX1_readRoof 32 = .ok (.ifCond .eq 10, 3) := by decide +kernel
theorem dX1_readRoof_35 : decode cX1_readRoof 35 = .ok (.aload_n 1, 1) := by decide +kernel
theorem dX1_readRoof_36 : decode cX1_readRoof 36 = .ok (.getfield 83, 3) := by decide +kernel
theorem dX1_readRoof_39 : decode cX1_readRoof 39 = .ok (.iload_n 2, 1) := by decide +kernel
theorem dX1_readRoof_40 : decode cX1_readRoof 40 = .ok (.iload_n 3, 1) := by decide +kernel
theorem dX1_readRoof_41 : decode cX1_readRoof 41 = .ok (.iastore, 1) := by decide +kernel
theorem dX1_readRoof_42 : decode cX1_readRoof 42 = .ok (.return_, 1) := by decide +kernel
theorem dX1_readWind_0 : decode cX1_readWind 0 = .ok (.aload_n 0, 1) := by decide +kernel
theorem dX1_readWind_1 : decode cX1_readWind 1 = .ok (.getfield 12, 3) := by decide +kernel
theorem dX1_readWind_4 : decode cX1_readWind 4 = .ok (.bipush 23, 2) := by decide +kernel
theorem dX1_readWind_6 : decode cX1_readWind 6 = .ok (.invokevirtual 73, 3) := by decide +kernel
theorem dX1_readWind_9 : decode cX1_readWind 9 = .ok (.istore_n 2, 1) := by decide +kernel
theorem dX1_readWind_10 : decode cX1_readWind 10 = .ok (.aload_n 0, 1) := by decide +kernel
theorem dX1_readWind_11 : decode cX1_readWind 11 = .ok (.getfield 12, 3) := by decide +kernel
theorem dX1_readWind_14 : decode cX1_readWind 14 = .ok (.iconst 4, 1) := by decide +kernel
theorem dX1_readWind_15 : decode cX1_readWind 15 = .ok (.invokevirtual 73, 3) := by decide +kernel
theorem dX1_readWind_18 : decode cX1_readWind 18 = .ok (.istore_n 3, 1) := by decide +kernel
theorem dX1_readWind_19 : decode cX1_readWind 19 = .ok (.aload_n 0, 1) := by decide +kernel
theorem dX1_readWind_20 : decode cX1_readWind 20 = .ok (.getfield 18, 3) := by decide +kernel
theorem dX1_readWind_23 : decode cX1_readWind 23 = .ok (.ifCond .eq 10, 3) := by decide +kernel
theorem dX1_readWind_26 : decode cX1_readWind 26 = .ok (.aload_n 1, 1) := by decide +kernel
theorem dX1_readWind_27 : decode cX1_readWind 27 = .ok (.getfield 87, 3) := by decide +kernel
theorem dX1_readWind_30 : decode cX1_readWind 30 = .ok (.iload_n 2, 1) := by decide +kernel
theorem dX1_readWind_31 : decode cX1_readWind 31 = .ok (.iload_n 3, 1) := by decide +kernel
theorem dX1_readWind_32 : decode cX1_readWind 32 = .ok (.iastore, 1) := by decide +kernel
theorem dX1_readWind_33 : decode cX1_readWind 33 = .ok (.iinc 2 1, 3) := by decide +kernel
theorem dX1_readWind_36 : decode cX1_readWind 36 = .ok (.iload_n 2, 1) := by decide +kernel
theorem dX1_readWind_37 : decode cX1_readWind 37 = .ok (.bipush 24, 2) := by decide +kernel
theorem dX1_readWind_39 : decode cX1_readWind 39 = .ok (.if_icmp .ge 24, 3) := by decide +kernel
theorem dX1_readWind_42 : decode cX1_readWind 42 = .ok (.aload_n 0, 1) := by decide +kernel
theorem dX1_readWind_43 : decode cX1_readWind 43 = .ok (.getfield 12, 3) := by decide +kernel
theorem dX1_readWind_46 : decode cX1_readWind 46 = .ok (.invokevirtual 90, 3) := by decide +kernel
theorem dX1_readWind_49 : decode cX1_readWind 49 = .ok (.ifCond .ne 14, 3) := by decide +kernel
theorem dX1_readWind_52 : decode cX1_readWind 52 = .ok (.aload_n 0, 1) := by decide +kernel
theorem dX1_readWind_53 : decode cX1_readWind 53 = .ok (.getfield 12, 3) := by decide +kernel
theorem dX1_readWind_56 : decode cX1_readWind 56 = .ok (.getfield 42, 3) := by decide +kernel
theorem dX1_readWind_59 : decode cX1_readWind 59 = .ok (.iconst 2, 1) := by decide +kernel
theorem dX1_readWind_60 : decode cX1_readWind 60 = .ok (.if_icmp .eq (-50), 3) := by decide +kernel
theorem dX1_readWind_63 : decode cX1_readWind 63 = .ok (.return_, 1) := by decide +kernel
theorem dX1_readItem_0 : decode cX1_readItem 0 = .ok (.aload_n 0, 1) := by decide +kernel
theorem dX1_readItem_1 : decode cX1_readItem 1 = .ok (.invokevirtual 48, 3) := by decide +kernel
theorem dX1_readItem_4 : decode cX1_readItem 4 = .ok (.istore_n 2, 1) := by decide +kernel
theorem dX1_readItem_5 : decode cX1_readItem 5 = .ok (.aload_n 0, 1) := by decide +kernel
theorem dX1_readItem_6 : decode cX1_readItem 6 = .ok (.getfield 12, 3) := by decide +kernel
theorem dX1_readItem_9 : decode cX1_readItem 9 = .ok (.ldc 52, 2) := by decide +kernel
theorem dX1_readItem_11 : decode cX1_readItem 11 = .ok (.invokevirtual 54, 3) := by decide +kernel
theorem dX1_readItem_14 : decode cX1_readItem 14 = .ok (.ifCond .eq 11, 3) := by decide +kernel
theorem dX1_readItem_17 : decode cX1_readItem 17 = .ok (.aload_n 0, 1) := by decide +kernel
theorem dX1_readItem_18 : decode cX1_readItem 18 = .ok (.aload_n 1, 1) := by decide +kernel
theorem dX1_readItem_19 : decode cX1_readItem 19 = .ok (.invokevirtual 58, 3) := by decide +kernel
theorem dX1_readItem_22 : decode cX1_readItem 22 = .ok (.goto 59, 3) := by decide +kernel
theorem dX1_readItem_25 : decode cX1_readItem 25 = .ok (.aload_n 0, 1) := by decide +kernel
theorem dX1_readItem_26 : decode cX1_readItem 26 = .ok (.getfield 12, 3) := by decide +kernel
theorem dX1_readItem_29 : decode cX1_readItem 29 = .ok (.ldc 61, 2) := by decide +kernel
theorem dX1_readItem_31 : decode cX1_readItem 31 = .ok (.invokevirtual 54, 3) := by decide +kernel
theorem dX1_readItem_34 : decode cX1_readItem 34 = .ok (.ifCond .eq 11, 3) := by decide +kernel
theorem dX1_readItem_37 : decode cX1_readItem 37 = .ok (.aload_n 0, 1) := by decide +kernel
theorem dX1_readItem_38 : decode cX1_readItem 38 = .ok (.aload_n 1, 1) := by decide +kernel
theorem dX1_readItem_39 : decode cX1_readItem 39 = .ok (.invokevirtual 63, 3) := by decide +kernel
theorem dX1_readItem_42 : decode cX1_readItem 42 = .ok (.goto 39, 3) := by decide +kernel
theorem dX1_readItem_45 : decode cX1_readItem 45 = .ok (.iload_n 2, 1) := by decide +kernel
theorem dX1_readItem_46 : decode cX1_readItem 46 = .ok (.ifCond .lt 28, 3) := by decide +kernel
theorem dX1_readItem_49 : decode cX1_readItem 49 = .ok (.aload_n 0, 1) := by decide +kernel
theorem dX1_readItem_50 : decode cX1_readItem 50 = .ok (.getfield 22, 3) := by decide +kernel
theorem dX1_readItem_53 : decode cX1_readItem 53 = .ok (.bipush 8, 2) := by decide +kernel
theorem dX1_readItem_55 : decode cX1_readItem 55 = .ok (.if_icmp .ge 19, 3) := by decide +kernel
theorem dX1_readItem_58 : decode cX1_readItem 58 = .ok (.aload_n 0, 1) := by decide +kernel
theorem dX1_readItem_59 : decode cX1_readItem 59 = .ok (.getfield 12, 3) := by decide +kernel
theorem dX1_readItem_62 : decode cX1_readItem 62 = .ok (.invokevirtual 66, 3) := by decide +kernel
theorem dX1_readItem_65 : decode cX1_readItem 65 = .ok (.aload_n 0, 1) := by decide +kernel
theorem dX1_readItem_66 : decode cX1_readItem 66 = .ok (.aload_n 1, 1) := by decide +kernel
theorem dX1_readItem_67 : decode cX1_readItem 67 = .ok (.iload_n 2, 1) := by decide +kernel
theorem dX1_readItem_68 : decode cX1_readItem 68 = .ok (.invokevirtual 69, 3) := by decide +kernel
theorem dX1_readItem_71 : decode cX1_readItem 71 = .ok (.goto 10, 3) := by decide +kernel
theorem dX1_readItem_74 : decode cX1_readItem 74 = .ok (.aload_n 0, 1) := by decide +kernel
theorem dX1_readItem_75 : decode cX1_readItem 75 = .ok (.getfield 12, 3) := by decide +kernel
theorem dX1_readItem_78 : decode cX1_readItem 78 = .ok (.invokevirtual 45, 3) := by decide +kernel
theorem dX1_readItem_81 : decode cX1_readItem 81 = .ok (.return_, 1) := by decide +kernel
theorem dX4_passSign_0 : decode cX4_passSign 0 = .ok (.aload_n 0, 1) := by decide +kernel
theorem dX4_passSign_1 : decode cX4_passSign 1 = .ok (.invokevirtual 53, 3) := by decide +kernel
theorem dX4_passSign_4 : decode cX4_passSign 4 = .ok (.ifCond .ne 11, 3) := by decide +kernel
theorem dX4_passSign_7 : decode cX4_passSign 7 = .ok (.aload_n 0, 1) := by decide +kernel
theorem dX4_passSign_8 : decode cX4_passSign 8 = .ok (.getfield 22, 3) := by decide +kernel
theorem dX4_passSign_11 : decode cX4_passSign 11 = .ok (.iconst 3, 1) := by decide +kernel
theorem dX4_passSign_12 : decode cX4_passSign 12 = .ok (.if_icmp .eq 5, 3) := by decide +kernel
theorem dX4_passSign_15 : decode cX4_passSign 15 = .ok (.iconst 0, 1) := by decide +kernel
theorem dX4_passSign_16 : decode cX4_passSign 16 = .ok (.ireturn, 1) := by decide +kernel
theorem dX4_passSign_17 : decode cX4_passSign 17 = .ok (.aload_n 0, 1) := by decide +kernel
theorem dX4_passSign_18 : decode cX4_passSign 18 = .ok (.invokevirtual 31, 3) := by decide +kernel
theorem dX4_passSign_21 : decode cX4_passSign 21 = .ok (.iconst 1, 1) := by decide +kernel
theorem dX4_passSign_22 : decode cX4_passSign 22 = .ok (.ireturn, 1) := by decide +kernel
theorem dX4_rewind_0 : decode cX4_rewind 0 = .ok (.aload_n 0, 1) := by decide +kernel
theorem dX4_rewind_1 : decode cX4_rewind 1 = .ok (.iconst (-1), 1) := by decide +kernel
theorem dX4_rewind_2 : decode cX4_rewind 2 = .ok (.putfield 19, 3) := by decide +kernel
theorem dX4_rewind_5 : decode cX4_rewind 5 = .ok (.aload_n 0, 1) := by decide +kernel
theorem dX4_rewind_6 : decode cX4_rewind 6 = .ok (.iconst 0, 1) := by decide +kernel
theorem dX4_rewind_7 : decode cX4_rewind 7 = .ok (.putfield 28, 3) := by decide +kernel
theorem dX4_rewind_10 : decode cX4_rewind 10 = .ok (.aload_n 0, 1) := by decide +kernel
theorem dX4_rewind_11 : decode cX4_rewind 11 = .ok (.invokevirtual 31, 3) := by decide +kernel
theorem dX4_rewind_14 : decode cX4_rewind 14 = .ok (.return_, 1) := by decide +kernel
theorem dX1_read_0 : decode cX1_read 0 = .ok (.aload_n 0, 1) := by decide +kernel
theorem dX1_read_1 : decode cX1_read 1 = .ok (.iload_n 2, 1) := by decide +kernel
theorem dX1_read_2 : decode cX1_read 2 = .ok (.putfield 18, 3) := by decide +kernel
theorem dX1_read_5 : decode cX1_read 5 = .ok (.aload_n 0, 1) := by decide +kernel
theorem dX1_read_6 : decode cX1_read 6 = .ok (.aload_n 1, 1) := by decide +kernel
theorem dX1_read_7 : decode cX1_read 7 = .ok (.getfield 26, 3) := by decide +kernel
theorem dX1_read_10 : decode cX1_read 10 = .ok (.putfield 22, 3) := by decide +kernel
theorem dX1_read_13 : decode cX1_read 13 = .ok (.aload_n 0, 1) := by decide +kernel
theorem dX1_read_14 : decode cX1_read 14 = .ok (.getfield 12, 3) := by decide +kernel
theorem dX1_read_17 : decode cX1_read 17 = .ok (.invokevirtual 31, 3) := by decide +kernel
theorem dX1_read_20 : decode cX1_read 20 = .ok (.iconst 0, 1) := by decide +kernel
theorem dX1_read_21 : decode cX1_read 21 = .ok (.istore_n 3, 1) := by decide +kernel
theorem dX1_read_22 : decode cX1_read 22 = .ok (.aload_n 0, 1) := by decide +kernel
theorem dX1_read_23 : decode cX1_read 23 = .ok (.aload_n 1, 1) := by decide +kernel
theorem dX1_read_24 : decode cX1_read 24 = .ok (.invokevirtual 34, 3) := by decide +kernel
theorem dX1_read_27 : decode cX1_read 27 = .ok (.iinc 3 1, 3) := by decide +kernel
theorem dX1_read_30 : decode cX1_read 30 = .ok (.iload_n 3, 1) := by decide +kernel
theorem dX1_read_31 : decode cX1_read 31 = .ok (.bipush 120, 2) := by decide +kernel
theorem dX1_read_33 : decode cX1_read 33 = .ok (.if_icmp .gt 13, 3) := by decide +kernel
theorem dX1_read_36 : decode cX1_read 36 = .ok (.aload_n 0, 1) := by decide +kernel
theorem dX1_read_37 : decode cX1_read 37 = .ok (.getfield 12, 3) := by decide +kernel
theorem dX1_read_40 : decode cX1_read 40 = .ok (.invokevirtual 38, 3) := by decide +kernel
theorem dX1_read_43 : decode cX1_read 43 = .ok (.ifCond .ne (-21), 3) := by decide +kernel
theorem dX1_read_46 : decode cX1_read 46 = .ok (.aload_n 0, 1) := by decide +kernel
theorem dX1_read_47 : decode cX1_read 47 = .ok (.getfield 12, 3) := by decide +kernel
theorem dX1_read_50 : decode cX1_read 50 = .ok (.getfield 42, 3) := by decide +kernel
theorem dX1_read_53 : decode cX1_read 53 = .ok (.ifCond .eq 10, 3) := by decide +kernel
theorem dX1_read_56 : decode cX1_read 56 = .ok (.aload_n 0, 1) := by decide +kernel
theorem dX1_read_57 : decode cX1_read 57 = .ok (.getfield 12, 3) := by decide +kernel
theorem dX1_read_60 : decode cX1_read 60 = .ok (.invokevirtual 45, 3) := by decide +kernel
theorem dX1_read_63 : decode cX1_read 63 = .ok (.iload_n 3, 1) := by decide +kernel
theorem dX1_read_64 : decode cX1_read 64 = .ok (.ireturn, 1) := by decide +kernel
theorem dX2_begin_0 : decode cX2_begin 0 = .ok (.aload_n 0, 1) := by decide +kernel
theorem dX2_begin_1 : decode cX2_begin 1 = .ok (.iload_n 1, 1) := by decide +kernel
theorem dX2_begin_2 : decode cX2_begin 2 = .ok (.putfield 9, 3) := by decide +kernel
theorem dX2_begin_5 : decode cX2_begin 5 = .ok (.aload_n 0, 1) := by decide +kernel
theorem dX2_begin_6 : decode cX2_begin 6 = .ok (.iload_n 1, 1) := by decide +kernel
theorem dX2_begin_7 : decode cX2_begin 7 = .ok (.ifCond .ne 7, 3) := by decide +kernel
theorem dX2_begin_10 : decode cX2_begin 10 = .ok (.iconst 0, 1) := by decide +kernel
theorem dX2_begin_11 : decode cX2_begin 11 = .ok (.goto 4, 3) := by decide +kernel
theorem dX2_begin_14 : decode cX2_begin 14 = .ok (.iload_n 2, 1) := by decide +kernel
theorem dX2_begin_15 : decode cX2_begin 15 = .ok (.putfield 15, 3) := by decide +kernel
theorem dX2_begin_18 : decode cX2_begin 18 = .ok (.aload_n 0, 1) := by decide +kernel
theorem dX2_begin_19 : decode cX2_begin 19 = .ok (.getfield 18, 3) := by decide +kernel
theorem dX2_begin_22 : decode cX2_begin 22 = .ok (.iconst 0, 1) := by decide +kernel
theorem dX2_begin_23 : decode cX2_begin 23 = .ok (.invokestatic 22, 3) := by decide +kernel
theorem dX2_begin_26 : decode cX2_begin 26 = .ok (.return_, 1) := by decide +kernel
theorem dX2_isMissing_0 : decode cX2_isMissing 0 = .ok (.aload_n 0, 1) := by decide +kernel
theorem dX2_isMissing_1 : decode cX2_isMissing 1 = .ok (.getfield 9, 3) := by decide +kernel
theorem dX2_isMissing_4 : decode cX2_isMissing 4 = .ok (.ifCond .ne 7, 3) := by decide +kernel
theorem dX2_isMissing_7 : decode cX2_isMissing 7 = .ok (.iconst 1, 1) := by decide +kernel
theorem dX2_isMissing_8 : decode cX2_isMissing 8 = .ok (.goto 4, 3) := by decide +kernel
theorem dX2_isMissing_11 : decode cX2_isMissing 11 = .ok (.iconst 0, 1) := by decide +kernel
theorem dX2_isMissing_12 : decode cX2_isMissing 12 = .ok (.ireturn, 1) := by decide +kernel
theorem dX2_put_0 : decode cX2_put 0 = .ok (.aload_n 0, 1) := by decide +kernel
theorem dX2_put_1 : decode cX2_put 1 = .ok (.getfield 9, 3) := by decide +kernel
theorem dX2_put_4 : decode cX2_put 4 = .ok (.bipush 8, 2) := by decide +kernel
theorem dX2_put_6 : decode cX2_put 6 = .ok (.if_icmp .ne 14, 3) := by decide +kernel
theorem dX2_put_9 : decode cX2_put 9 = .ok (.aload_n 0, 1) := by decide +kernel
theorem dX2_put_10 : decode cX2_put 10 = .ok (.getfield 18, 3) := by decide +kernel
theorem dX2_put_13 : decode cX2_put 13 = .ok (.iload_n 1, 1) := by decide +kernel
theorem dX2_put_14 : decode cX2_put 14 = .ok (.iload_n 2, 1) := by decide +kernel
theorem dX2_put_15 : decode cX2_put 15 = .ok (.i2b, 1) := by decide +kernel
theorem dX2_put_16 : decode cX2_put 16 = .ok (.iastore, 1) := by decide +kernel
theorem dX2_put_17 : decode cX2_put 17 = .ok (.goto 30, 3) := by decide +kernel
theorem dX2_put_20 : decode cX2_put 20 = .ok (.aload_n 0, 1) := by decide +kernel
theorem dX2_put_21 : decode cX2_put 21 = .ok (.getfield 9, 3) := by decide +kernel
theorem dX2_put_24 : decode cX2_put 24 = .ok (.bipush 16, 2) := by decide +kernel
theorem dX2_put_26 : decode cX2_put 26 = .ok (.if_icmp .ne 14, 3) := by decide +kernel
theorem dX2_put_29 : decode cX2_put 29 = .ok (.aload_n 0, 1) := by decide +kernel
theorem dX2_put_30 : decode cX2_put 30 = .ok (.getfield 18, 3) := by decide +kernel
theorem dX2_put_33 : decode cX2_put 33 = .ok (.iload_n 1, 1) := by decide +kernel
theorem dX2_put_34 : decode cX2_put 34 = .ok (.iload_n 2, 1) := by decide +kernel
theorem dX2_put_35 : decode cX2_put 35 = .ok (.i2s, 1) := by decide +kernel
theorem dX2_put_36 : decode cX2_put 36 = .ok (.iastore, 1) := by decide +kernel
theorem dX2_put_37 : decode cX2_put 37 = .ok (.goto 10, 3) := by decide +kernel
theorem dX2_put_40 : decode cX2_put 40 = .ok (.aload_n 0, 1) := by decide +kernel
theorem dX2_put_41 : decode cX2_put 41 = .ok (.getfield 18, 3) := by decide +kernel
theorem dX2_put_44 : decode cX2_put 44 = .ok (.iload_n 1, 1) := by decide +kernel
theorem dX2_put_45 : decode cX2_put 45 = .ok (.iload_n 2, 1) := by decide +kernel
theorem dX2_put_46 : decode cX2_put 46 = .ok (.iastore, 1) := by decide +kernel
theorem dX2_put_47 : decode cX2_put 47 = .ok (.return_, 1) := by decide +kernel
theorem dX2_hasPart_0 : decode cX2_hasPart 0 = .ok (.iload_n 1, 1) := by decide +kernel
theorem dX2_hasPart_1 : decode cX2_hasPart 1 = .ok (.ifCond .lt 29, 3) := by decide +kernel
theorem dX2_hasPart_4 : decode cX2_hasPart 4 = .ok (.iload_n 2, 1) := by decide +kernel
theorem dX2_hasPart_5 : decode cX2_hasPart 5 = .ok (.ifCond .lt 25, 3) := by decide +kernel
theorem dX2_hasPart_8 : decode cX2_hasPart 8 = .ok (.iload_n 1, 1) := by decide +kernel
theorem dX2_hasPart_9 : decode cX2_hasPart 9 = .ok (.aload_n 0, 1) := by decide +kernel
theorem dX2_hasPart_10 : decode cX2_hasPart 10 = .ok (.getfield 15, 3) := by decide +kernel
theorem dX2_hasPart_13 : decode cX2_hasPart 13 = .ok (.if_icmp .gt 17, 3) := by decide +kernel
theorem dX2_hasPart_16 : decode cX2_hasPart 16 = .ok (.iload_n 2, 1) := by decide +kernel
theorem dX2_hasPart_17 : decode cX2_hasPart 17 = .ok (.aload_n 0, 1) := by decide +kernel
theorem dX2_hasPart_18 : decode cX2_hasPart 18 = .ok (.getfield 15, 3) := by decide +kernel
theorem dX2_hasPart_21 : decode cX2_hasPart 21 = .ok (.iload_n 1, 1) := by decide +kernel
theorem dX2_hasPart_22 : decode cX2_hasPart 22 = .ok (.isub, 1) := by decide +kernel
theorem dX2_hasPart_23 : decode cX2_hasPart 23 = .ok (.if_icmp .gt 7, 3) := by decide +kernel
theorem dX2_hasPart_26 : decode cX2_hasPart 26 = .ok (.iconst 1, 1) := by decide +kernel
theorem dX2_hasPart_27 : decode cX2_hasPart 27 = .ok (.goto 4, 3) := by decide +kernel
theorem dX2_hasPart_30 : decode cX2_hasPart 30 = .ok (.iconst 0, 1) := by decide +kernel
theorem dX2_hasPart_31 : decode cX2_hasPart 31 = .ok (.ireturn, 1) := by decide +kernel
theorem dX5_take_0 : decode cX5_take 0 = .ok (.aload_n 0, 1) := by decide +kernel
theorem dX5_take_1 : decode cX5_take 1 = .ok (.aload_n 1, 1) := by decide +kernel
theorem dX5_take_2 : decode cX5_take 2 = .ok (.getfield 9, 3) := by decide +kernel
theorem dX5_take_5 : decode cX5_take 5 = .ok (.putfield 9, 3) := by decide +kernel
theorem dX5_take_8 : decode cX5_take 8 = .ok (.aload_n 0, 1) := by decide +kernel
theorem dX5_take_9 : decode cX5_take 9 = .ok (.aload_n 1, 1) := by decide +kernel
theorem dX5_take_10 : decode cX5_take 10 = .ok (.getfield 15, 3) := by decide +kernel
theorem dX5_take_13 : decode cX5_take 13 = .ok (.putfield 15, 3) := by decide +kernel
theorem dX5_take_16 : decode cX5_take 16 = .ok (.aload_n 0, 1) := by decide +kernel
theorem dX5_take_17 : decode cX5_take 17 = .ok (.aload_n 1, 1) := by decide +kernel
theorem dX5_take_18 : decode cX5_take 18 = .ok (.getfield 18, 3) := by decide +kernel
theorem dX5_take_21 : decode cX5_take 21 = .ok (.putfield 18, 3) := by decide +kernel
theorem dX5_take_24 : decode cX5_take 24 = .ok (.aload_n 1, 1) := by decide +kernel
theorem dX5_take_25 : decode cX5_take 25 = .ok (.getfield 21, 3) := by decide +kernel
theorem dX5_take_28 : decode cX5_take 28 = .ok (.iconst 0, 1) := by decide +kernel
theorem dX5_take_29 : decode cX5_take 29 = .ok (.aload_n 0, 1) := by decide +kernel
theorem dX5_take_30 : decode cX5_take 30 = .ok (.getfield 21, 3) := by decide +kernel
theorem dX5_take_33 : decode cX5_take 33 = .ok (.iconst 0, 1) := by decide +kernel
theorem dX5_take_34 : decode cX5_take 34 = .ok (.bipush 36, 2) := by decide +kernel
theorem dX5_take_36 : decode cX5_take 36 = .ok (.invokestatic 47, 3) := by decide +kernel
theorem dX5_take_39 : decode cX5_take 39 = .ok (.aload_n 1, 1) := by decide +kernel
theorem dX5_take_40 : decode cX5_take 40 = .ok (.getfield 25, 3) := by decide +kernel
theorem dX5_take_43 : decode cX5_take 43 = .ok (.iconst 0, 1) := by decide +kernel
theorem dX5_take_44 : decode cX5_take 44 = .ok (.aload_n 0, 1) := by decide +kernel
theorem dX5_take_45 : decode cX5_take 45 = .ok (.getfield 25, 3) := by decide +kernel
theorem dX5_take_48 : decode cX5_take 48 = .ok (.iconst 0, 1) := by decide +kernel
theorem dX5_take_49 : decode cX5_take 49 = .ok (.bipush 24, 2) := by decide +kernel
theorem dX5_take_51 : decode cX5_take 51 = .ok (.invokestatic 47, 3) := by decide +kernel
theorem dX5_take_54 : decode cX5_take 54 = .ok (.aload_n 1, 1) := by decide +kernel
theorem dX5_take_55 : decode cX5_take 55 = .ok (.getfield 28, 3) := by decide +kernel
theorem dX5_take_58 : decode cX5_take 58 = .ok (.iconst 0, 1) := by decide +kernel
theorem dX5_take_59 : decode cX5_take 59 = .ok (.aload_n 0, 1) := by decide +kernel
theorem dX5_take_60 : decode cX5_take 60 = .ok (.getfield 28, 3) := by decide +kernel
theorem dX5_take_63 : decode cX5_take 63 = .ok (.iconst 0, 1) := by decide +kernel
theorem dX5_take_64 : decode cX5_take 64 = .ok (.bipush 6, 2) := by decide +kernel
theorem dX5_take_66 : decode cX5_take 66 = .ok (.invokestatic 47, 3) := by decide +kernel
theorem dX5_take_69 : decode cX5_take 69 = .ok (.aload_n 1, 1) := by decide +kernel
theorem dX5_take_70 : decode cX5_take 70 = .ok (.getfield 31, 3) := by decide +kernel
theorem dX5_take_73 : decode cX5_take 73 = .ok (.iconst 0, 1) := by decide +kernel
theorem dX5_take_74 : decode cX5_take 74 = .ok (.aload_n 0, 1) := by decide +kernel
theorem dX5_take_75 : decode cX5_take 75 = .ok (.getfield 31, 3) := by decide +kernel
theorem dX5_take_78 : decode cX5_take 78 = .ok (.iconst 0, 1) := by decide +kernel
theorem dX5_take_79 : decode cX5_take 79 = .ok (.bipush 10, 2) := by decide +kernel
theorem dX5_take_81 : decode cX5_take 81 = .ok (.invokestatic 47, 3) := by decide +kernel
theorem dX5_take_84 : decode cX5_take 84 = .ok (.iconst 0, 1) := by decide +kernel
theorem dX5_take_85 : decode cX5_take 85 = .ok (.istore_n 2, 1) := by decide +kernel
theorem dX5_take_86 : decode cX5_take 86 = .ok (.iload_n 2, 1) := by decide +kernel
theorem dX5_take_87 : decode cX5_take 87 = .ok (.aload_n 0, 1) := by decide +kernel
theorem dX5_take_88 : decode cX5_take 88 = .ok (.getfield 18, 3) := by decide +kernel
theorem dX5_take_91 : decode cX5_take 91 = .ok (.if_icmp .ge 24, 3) := by decide +kernel
theorem dX5_take_94 : decode cX5_take 94 = .ok (.aload_n 0, 1) := by decide +kernel
theorem dX5_take_95 : decode cX5_take 95 = .ok (.getfield 36, 3) := by decide +kernel
theorem dX5_take_98 : decode cX5_take 98 = .ok (.iload_n 2, 1) := by decide +kernel
theorem dX5_take_99 : decode cX5_take 99 = .ok (.aaload, 1) := by decide +kernel
theorem dX5_take_100 : decode cX5_take 100 = .ok (.aload_n 1, 1) := by decide +kernel
theorem dX5_take_101 : decode cX5_take 101 = .ok (.getfield 36, 3) := by decide +kernel
theorem dX5_take_104 : decode cX5_take 104 = .ok (.iload_n 2, 1) := by decide +kernel
theorem dX5_take_105 : decode cX5_take 105 = .ok (.aaload, 1) := by decide +kernel
theorem dX5_take_106 : decode cX5_take 106 = .ok (.invokevirtual 53, 3) := by decide +kernel
theorem dX5_take_109 : decode cX5_take 109 = .ok (.iinc 2 1, 3) := by decide +kernel
theorem dX5_take_112 : decode cX5_take 112 = .ok (.goto (-26), 3) := by decide +kernel
theorem dX5_take_115 : decode cX5_take 115 = .ok (.return_, 1) := by decide +kernel
