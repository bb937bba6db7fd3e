theorem dX0_init_0 : decode cX0_init 0 = .ok (.aload_n 0, 1) := by decide +kernel
theorem dX0_init_1 : decode cX0_init 1 = .ok (.invokespecial 3, 3) := by decide +kernel
theorem dX0_init_4 : decode cX0_init 4 = .ok (.return_, 1) := by decide +kernel
theorem dX0_become_0 : decode cX0_become 0 = .ok (.aload_n 0, 1) := by decide +kernel
theorem dX0_become_1 : decode cX0_become 1 = .ok (.iload_n 1, 1) := by decide +kernel
theorem dX0_become_2 : decode cX0_become 2 = .ok (.putfield 9, 3) := by decide +kernel
theorem dX0_become_5 : decode cX0_become 5 = .ok (.aload_n 0, 1) := by decide +kernel
theorem dX0_become_6 : decode cX0_become 6 = .ok (.iload_n 2, 1) := by decide +kernel
theorem dX0_become_7 : decode cX0_become 7 = .ok (.putfield 15, 3) := by decide +kernel
theorem dX0_become_10 : decode cX0_become 10 = .ok (.aload_n 0, 1) := by decide +kernel
theorem dX0_become_11 : decode cX0_become 11 = .ok (.iload_n 3, 1) := by decide +kernel
theorem dX0_become_12 : decode cX0_become 12 = .ok (.putfield 18, 3) := by decide +kernel
theorem dX0_become_15 : decode cX0_become 15 = .ok (.aload_n 0, 1) := by decide +kernel
theorem dX0_become_16 : decode cX0_become 16 = .ok (.iload 4, 2) := by decide +kernel
theorem dX0_become_18 : decode cX0_become 18 = .ok (.putfield 21, 3) := by decide +kernel
theorem dX0_become_21 : decode cX0_become 21 = .ok (.return_, 1) := by decide +kernel
theorem dX0_take_0 : decode cX0_take 0 = .ok (.aload_n 0, 1) := by decide +kernel
theorem dX0_take_1 : decode cX0_take 1 = .ok (.aload_n 1, 1) := by decide +kernel
theorem dX0_take_2 : decode cX0_take 2 = .ok (.getfield 9, 3) := by decide +kernel
theorem dX0_take_5 : decode cX0_take 5 = .ok (.aload_n 1, 1) := by decide +kernel
theorem dX0_take_6 : decode cX0_take 6 = .ok (.getfield 15, 3) := by decide +kernel
theorem dX0_take_9 : decode cX0_take 9 = .ok (.aload_n 1, 1) := by decide +kernel
theorem dX0_take_10 : decode cX0_take 10 = .ok (.getfield 18, 3) := by decide +kernel
theorem dX0_take_13 : decode cX0_take 13 = .ok (.aload_n 1, 1) := by decide +kernel
theorem dX0_take_14 : decode cX0_take 14 = .ok (.getfield 21, 3) := by decide +kernel
theorem dX0_take_17 : decode cX0_take 17 = .ok (.invokevirtual 24, 3) := by decide +kernel
theorem dX0_take_20 : decode cX0_take 20 = .ok (.return_, 1) := by decide +kernel
theorem dX0_isOf_0 : decode cX0_isOf 0 = .ok (.aload_n 0, 1) := by decide +kernel
theorem dX0_isOf_1 : decode cX0_isOf 1 = .ok (.getfield 9, 3) := by decide +kernel
theorem dX0_isOf_4 : decode cX0_isOf 4 = .ok (.istore_n 2, 1) := by decide +kernel
theorem dX0_isOf_5 : decode cX0_isOf 5 = .ok (.iconst 0, 1) := by decide +kernel
theorem dX0_isOf_6 : decode cX0_isOf 6 = .ok (.istore_n 3, 1) := by decide +kernel
theorem dX0_isOf_7 : decode cX0_isOf 7 = .ok (.iload_n 3, 1) := by decide +kernel
theorem dX0_isOf_8 : decode cX0_isOf 8 = .ok (.bipush 6, 2) := by decide +kernel
theorem dX0_isOf_10 : decode cX0_isOf 10 = .ok (.if_icmp .ge 32, 3) := by decide +kernel
theorem dX0_isOf_13 : decode cX0_isOf 13 = .ok (.iload_n 2, 1) := by decide +kernel
theorem dX0_isOf_14 : decode cX0_isOf 14 = .ok (.ifCond .lt 28, 3) := by decide +kernel
theorem dX0_isOf_17 : decode cX0_isOf 17 = .ok (.iload_n 2, 1) := by decide +kernel
theorem dX0_isOf_18 : decode cX0_isOf 18 = .ok (.bipush 6, 2) := by decide +kernel
theorem dX0_isOf_20 : decode cX0_isOf 20 = .ok (.if_icmp .ge 22, 3) := by decide +kernel
theorem dX0_isOf_23 : decode cX0_isOf 23 = .ok (.iload_n 2, 1) := by decide +kernel
theorem dX0_isOf_24 : decode cX0_isOf 24 = .ok (.iload_n 1, 1) := by decide +kernel
theorem dX0_isOf_25 : decode cX0_isOf 25 = .ok (.if_icmp .ne 5, 3) := by decide +kernel
theorem dX0_isOf_28 : decode cX0_isOf 28 = .ok (.iconst 1, 1) := by decide +kernel
theorem dX0_isOf_29 : decode cX0_isOf 29 = .ok (.ireturn, 1) := by decide +kernel
theorem dX0_isOf_30 : decode cX0_isOf 30 = .ok (.getstatic 28, 3) := by decide +kernel
theorem dX0_isOf_33 : decode cX0_isOf 33 = .ok (.iload_n 2, 1) := by decide +kernel
theorem dX0_isOf_34 : decode cX0_isOf 34 = .ok (.iaload, 1) := by decide +kernel
theorem dX0_isOf_35 : decode cX0_isOf 35 = .ok (.istore_n 2, 1) := by decide +kernel
theorem dX0_isOf_36 : decode cX0_isOf 36 = .ok (.iinc 3 1, 3) := by decide +kernel
theorem dX0_isOf_39 : decode cX0_isOf 39 = .ok (.goto (-32), 3) := by decide +kernel
theorem dX0_isOf_42 : decode cX0_isOf 42 = .ok (.iconst 0, 1) := by decide +kernel
theorem dX0_isOf_43 : decode cX0_isOf 43 = .ok (.ireturn, 1) := by decide +kernel
theorem dX0_worth_0 : decode cX0_worth 0 = .ok (.aload_n 0, 1) := by decide +kernel
theorem dX0_worth_1 : decode cX0_worth 1 = .ok (.getfield 18, 3) := by decide +kernel
theorem dX0_worth_4 : decode cX0_worth 4 = .ok (.aload_n 0, 1) := by decide +kernel
theorem dX0_worth_5 : decode cX0_worth 5 = .ok (.getfield 21, 3) := by decide +kernel
theorem dX0_worth_8 : decode cX0_worth 8 = .ok (.iadd, 1) := by decide +kernel
theorem dX0_worth_9 : decode cX0_worth 9 = .ok (.istore_n 1, 1) := by decide +kernel
theorem dX0_worth_10 : decode cX0_worth 10 = .ok (.bipush 99, 2) := by decide +kernel
theorem dX0_worth_12 : decode cX0_worth 12 = .ok (.aload_n 0, 1) := by decide +kernel
theorem dX0_worth_13 : decode cX0_worth 13 = .ok (.getfield 18, 3) := by decide +kernel
theorem dX0_worth_16 : decode cX0_worth 16 = .ok (.isub, 1) := by decide +kernel
theorem dX0_worth_17 : decode cX0_worth 17 = .ok (.istore_n 2, 1) := by decide +kernel
theorem dX0_worth_18 : decode cX0_worth 18 = .ok (.aload_n 0, 1) := by decide +kernel
theorem dX0_worth_19 : decode cX0_worth 19 = .ok (.getfield 9, 3) := by decide +kernel
theorem dX0_worth_22 : decode cX0_worth 22 = .ok (.tableswitch 49 1 5 #[34, 40, 36, 42, 47], 34) := by decide +kernel
theorem dX0_worth_56 : decode cX0_worth 56 = .ok (.iload_n 1, 1) := by decide +kernel
theorem dX0_worth_57 : decode cX0_worth 57 = .ok (.ireturn, 1) := by decide +kernel
theorem dX0_worth_58 : decode cX0_worth 58 = .ok (.iconst 2, 1) := by decide +kernel
theorem dX0_worth_59 : decode cX0_worth 59 = .ok (.iload_n 1, 1) := by decide +kernel
theorem dX0_worth_60 : decode cX0_worth 60 = .ok (.imul, 1) := by decide +kernel
theorem dX0_worth_61 : decode cX0_worth 61 = .ok (.ireturn, 1) := by decide +kernel
theorem dX0_worth_62 : decode cX0_worth 62 = .ok (.iload_n 2, 1) := by decide +kernel
theorem dX0_worth_63 : decode cX0_worth 63 = .ok (.ireturn, 1) := by decide +kernel
theorem dX0_worth_64 : decode cX0_worth 64 = .ok (.iload_n 2, 1) := by decide +kernel
theorem dX0_worth_65 : decode cX0_worth 65 = .ok (.bipush 7, 2) := by decide +kernel
theorem dX0_worth_67 : decode cX0_worth 67 = .ok (.isub, 1) := by decide +kernel
theorem dX0_worth_68 : decode cX0_worth 68 = .ok (.ireturn, 1) := by decide +kernel
theorem dX0_worth_69 : decode cX0_worth 69 = .ok (.iconst 2, 1) := by decide +kernel
theorem dX0_worth_70 : decode cX0_worth 70 = .ok (.ireturn, 1) := by decide +kernel
theorem dX0_worth_71 : decode cX0_worth 71 = .ok (.aload_n 0, 1) := by decide +kernel
theorem dX0_worth_72 : decode cX0_worth 72 = .ok (.getfield 18, 3) := by decide +kernel
theorem dX0_worth_75 : decode cX0_worth 75 = .ok (.ireturn, 1) := by decide +kernel
theorem dX0_likedFrom_0 : decode cX0_likedFrom 0 = .ok (.iload_n 1, 1) := by decide +kernel
theorem dX0_likedFrom_1 : decode cX0_likedFrom 1 = .ok (.bipush 10, 2) := by decide +kernel
theorem dX0_likedFrom_3 : decode cX0_likedFrom 3 = .ok (.iadd, 1) := by decide +kernel
theorem dX0_likedFrom_4 : decode cX0_likedFrom 4 = .ok (.istore_n 3, 1) := by decide +kernel
theorem dX0_likedFrom_5 : decode cX0_likedFrom 5 = .ok (.iload_n 1, 1) := by decide +kernel
theorem dX0_likedFrom_6 : decode cX0_likedFrom 6 = .ok (.iconst 2, 1) := by decide +kernel
theorem dX0_likedFrom_7 : decode cX0_likedFrom 7 = .ok (.idiv, 1) := by decide +kernel
theorem dX0_likedFrom_8 : decode cX0_likedFrom 8 = .ok (.istore 4, 2) := by decide +kernel
theorem dX0_likedFrom_10 : decode cX0_likedFrom 10 = .ok (.aload_n 0, 1) := by decide +kernel
theorem dX0_likedFrom_11 : decode cX0_likedFrom 11 = .ok (.getfield 9, 3) := by decide +kernel
theorem dX0_likedFrom_14 : decode cX0_likedFrom 14 = .ok (.tableswitch 61 1 5 #[34, 40, 36, 43, 51], 34) := by decide +kernel
theorem dX0_likedFrom_48 : decode cX0_likedFrom 48 = .ok (.iload_n 3, 1) := by decide +kernel
theorem dX0_likedFrom_49 : decode cX0_likedFrom 49 = .ok (.ireturn, 1) := by decide +kernel
theorem dX0_likedFrom_50 : decode cX0_likedFrom 50 = .ok (.iconst 2, 1) := by decide +kernel
theorem dX0_likedFrom_51 : decode cX0_likedFrom 51 = .ok (.iload_n 3, 1) := by decide +kernel
theorem dX0_likedFrom_52 : decode cX0_likedFrom 52 = .ok (.imul, 1) := by decide +kernel
theorem dX0_likedFrom_53 : decode cX0_likedFrom 53 = .ok (.ireturn, 1) := by decide +kernel
theorem dX0_likedFrom_54 : decode cX0_likedFrom 54 = .ok (.iload 4, 2) := by decide +kernel
theorem dX0_likedFrom_56 : decode cX0_likedFrom 56 = .ok (.ireturn, 1) := by decide +kernel
theorem dX0_likedFrom_57 : decode cX0_likedFrom 57 = .ok (.iload 4, 2) := by decide +kernel
theorem dX0_likedFrom_59 : decode cX0_likedFrom 59 = .ok (.aload_n 0, 1) := by decide +kernel
theorem dX0_likedFrom_60 : decode cX0_likedFrom 60 = .ok (.getfield 18, 3) := by decide +kernel
theorem dX0_likedFrom_63 : decode cX0_likedFrom 63 = .ok (.iadd, 1) := by decide +kernel
theorem dX0_likedFrom_64 : decode cX0_likedFrom 64 = .ok (.ireturn, 1) := by decide +kernel
theorem dX0_likedFrom_65 : decode cX0_likedFrom 65 = .ok (.aload_n 0, 1) := by decide +kernel
theorem dX0_likedFrom_66 : decode cX0_likedFrom 66 = .ok (.getfield 21, 3) := by decide +kernel
theorem dX0_likedFrom_69 : decode cX0_likedFrom 69 = .ok (.bipush 50, 2) := by decide +kernel
theorem dX0_likedFrom_71 : decode cX0_likedFrom 71 = .ok (.iload_n 2, 1) := by decide +kernel
theorem dX0_likedFrom_72 : decode cX0_likedFrom 72 = .ok (.imul, 1) := by decide +kernel
theorem dX0_likedFrom_73 : decode cX0_likedFrom 73 = .ok (.iadd, 1) := by decide +kernel
theorem dX0_likedFrom_74 : decode cX0_likedFrom 74 = .ok (.ireturn, 1) := by decide +kernel
theorem dX0_likedFrom_75 : decode cX0_likedFrom 75 = .ok (.iload_n 1, 1) := by decide +kernel
theorem dX0_likedFrom_76 : decode cX0_likedFrom 76 = .ok (.ireturn, 1) := by decide +kernel
theorem dX1_init_0 : decode cX1_init 0 = .ok (.aload_n 0, 1) := by decide +kernel
theorem dX1_init_1 : decode cX1_init 1 = .ok (.invokespecial 3, 3) := by decide +kernel
theorem dX1_init_4 : decode cX1_init 4 = .ok (.aload_n 0, 1) := by decide +kernel
theorem dX1_init_5 : decode cX1_init 5 = .ok (.bipush 96, 2) := by decide +kernel
theorem dX1_init_7 : decode cX1_init 7 = .ok (.newarray .int, 2) := by decide +kernel
theorem dX1_init_9 : decode cX1_init 9 = .ok (.putfield 9, 3) := by decide +kernel
theorem dX1_init_12 : decode cX1_init 12 = .ok (.aload_n 0, 1) := by decide +kernel
theorem dX1_init_13 : decode cX1_init 13 = .ok (.bipush 96, 2) := by decide +kernel
theorem dX1_init_15 : decode cX1_init 15 = .ok (.newarray .int, 2) := by decide +kernel
theorem dX1_init_17 : decode cX1_init 17 = .ok (.putfield 15, 3) := by decide +kernel
theorem dX1_init_20 : decode cX1_init 20 = .ok (.return_, 1) := by decide +kernel
theorem dX1_fault_0 : decode cX1_fault 0 = .ok (.aload_n 0, 1) := by decide +kernel
theorem dX1_fault_1 : decode cX1_fault 1 = .ok (.invokevirtual 18, 3) := by decide +kernel
theorem dX1_fault_4 : decode cX1_fault 4 = .ok (.iconst 0, 1) := by decide +kernel
theorem dX1_fault_5 : decode cX1_fault 5 = .ok (.istore_n 2, 1) := by decide +kernel
theorem dX1_fault_6 : decode cX1_fault 6 = .ok (.iload_n 2, 1) := by decide +kernel
theorem dX1_fault_7 : decode cX1_fault 7 = .ok (.aload_n 1, 1) := by decide +kernel
theorem dX1_fault_8 : decode cX1_fault 8 = .ok (.getfield 21, 3) := by decide +kernel
theorem dX1_fault_11 : decode cX1_fault 11 = .ok (.if_icmp .ge 49, 3) := by decide +kernel
theorem dX1_fault_14 : decode cX1_fault 14 = .ok (.aload_n 1, 1) := by decide +kernel
theorem dX1_fault_15 : decode cX1_fault 15 = .ok (.getfield 27, 3) := by decide +kernel
theorem dX1_fault_18 : decode cX1_fault 18 = .ok (.iload_n 2, 1) := by decide +kernel
theorem dX1_fault_19 : decode cX1_fault 19 = .ok (.iaload, 1) := by decide +kernel
theorem dX1_fault_20 : decode cX1_fault 20 = .ok (.bipush 32, 2) := by decide +kernel
theorem dX1_fault_22 : decode cX1_fault 22 = .ok (.if_icmp .ne 9, 3) := by decide +kernel
theorem dX1_fault_25 : decode cX1_fault 25 = .ok (.iinc 2 1, 3) := by decide +kernel
theorem dX1_fault_28 : decode cX1_fault 28 = .ok (.goto (-22), 3) := by decide +kernel
theorem dX1_fault_31 : decode cX1_fault 31 = .ok (.aload_n 1, 1) := by decide +kernel
theorem dX1_fault_32 : decode cX1_fault 32 = .ok (.iload_n 2, 1) := by decide +kernel
theorem dX1_fault_33 : decode cX1_fault 33 = .ok (.invokevirtual 30, 3) := by decide +kernel
theorem dX1_fault_36 : decode cX1_fault 36 = .ok (.istore_n 3, 1) := by decide +kernel
theorem dX1_fault_37 : decode cX1_fault 37 = .ok (.aload_n 0, 1) := by decide +kernel
theorem dX1_fault_38 : decode cX1_fault 38 = .ok (.aload_n 1, 1) := by decide +kernel
theorem dX1_fault_39 : decode cX1_fault 39 = .ok (.iload_n 2, 1) := by decide +kernel
theorem dX1_fault_40 : decode cX1_fault 40 = .ok (.iload_n 3, 1) := by decide +kernel
theorem dX1_fault_41 : decode cX1_fault 41 = .ok (.invokevirtual 34, 3) := by decide +kernel
theorem dX1_fault_44 : decode cX1_fault 44 = .ok (.ifCond .ne 5, 3) := by decide +kernel
theorem dX1_fault_47 : decode cX1_fault 47 = .ok (.iload_n 2, 1) := by decide +kernel
theorem dX1_fault_48 : decode cX1_fault 48 = .ok (.ireturn, 1) := by decide +kernel
theorem dX1_fault_49 : decode cX1_fault 49 = .ok (.iload_n 2, 1) := by decide +kernel
theorem dX1_fault_50 : decode cX1_fault 50 = .ok (.iconst 1, 1) := by decide +kernel
theorem dX1_fault_51 : decode cX1_fault 51 = .ok (.iadd, 1) := by decide +kernel
theorem dX1_fault_52 : decode cX1_fault 52 = .ok (.iload_n 3, 1) := by decide +kernel
theorem dX1_fault_53 : decode cX1_fault 53 = .ok (.invokestatic 38, 3) := by decide +kernel
theorem dX1_fault_56 : decode cX1_fault 56 = .ok (.istore_n 2, 1) := by decide +kernel
theorem dX1_fault_57 : decode cX1_fault 57 = .ok (.goto (-51), 3) := by decide +kernel
theorem dX1_fault_60 : decode cX1_fault 60 = .ok (.aload_n 0, 1) := by decide +kernel
theorem dX1_fault_61 : decode cX1_fault 61 = .ok (.getfield 44, 3) := by decide +kernel
theorem dX1_fault_64 : decode cX1_fault 64 = .ok (.ifCond .ne 10, 3) := by decide +kernel
theorem dX1_fault_67 : decode cX1_fault 67 = .ok (.aload_n 0, 1) := by decide +kernel
theorem dX1_fault_68 : decode cX1_fault 68 = .ok (.getfield 48, 3) := by decide +kernel
theorem dX1_fault_71 : decode cX1_fault 71 = .ok (.ifCond .le 8, 3) := by decide +kernel
theorem dX1_fault_74 : decode cX1_fault 74 = .ok (.aload_n 1, 1) := by decide +kernel
theorem dX1_fault_75 : decode cX1_fault 75 = .ok (.getfield 21, 3) := by decide +kernel
theorem dX1_fault_78 : decode cX1_fault 78 = .ok (.ireturn, 1) := by decide +kernel
theorem dX1_fault_79 : decode cX1_fault 79 = .ok (.aload_n 0, 1) := by decide +kernel
theorem dX1_fault_80 : decode cX1_fault 80 = .ok (.iconst 1, 1) := by decide +kernel
theorem dX1_fault_81 : decode cX1_fault 81 = .ok (.invokevirtual 51, 3) := by decide +kernel
theorem dX1_fault_84 : decode cX1_fault 84 = .ok (.iconst (-1), 1) := by decide +kernel
theorem dX1_fault_85 : decode cX1_fault 85 = .ok (.ireturn, 1) := by decide +kernel
theorem dX1_read_0 : decode cX1_read 0 = .ok (.new 55, 3) := by decide +kernel
theorem dX1_read_3 : decode cX1_read 3 = .ok (.dup, 1) := by decide +kernel
theorem dX1_read_4 : decode cX1_read 4 = .ok (.aload_n 0, 1) := by decide +kernel
theorem dX1_read_5 : decode cX1_read 5 = .ok (.getfield 57, 3) := by decide +kernel
theorem dX1_read_8 : decode cX1_read 8 = .ok (.aload_n 0, 1) := by decide +kernel
theorem dX1_read_9 : decode cX1_read 9 = .ok (.getfield 60, 3) := by decide +kernel
theorem dX1_read_12 : decode cX1_read 12 = .ok (.aload_n 0, 1) := by decide +kernel
theorem dX1_read_13 : decode cX1_read 13 = .ok (.getfield 9, 3) := by decide +kernel
theorem dX1_read_16 : decode cX1_read 16 = .ok (.aload_n 0, 1) := by decide +kernel
theorem dX1_read_17 : decode cX1_read 17 = .ok (.getfield 63, 3) := by decide +kernel
theorem dX1_read_20 : decode cX1_read 20 = .ok (.invokestatic 66, 3) := by decide +kernel
theorem dX1_read_23 : decode cX1_read 23 = .ok (.invokespecial 72, 3) := by decide +kernel
theorem dX1_read_26 : decode cX1_read 26 = .ok (.areturn, 1) := by decide +kernel
theorem dX1_begin_0 : decode cX1_begin 0 = .ok (.aload_n 0, 1) := by decide +kernel
theorem dX1_begin_1 : decode cX1_begin 1 = .ok (.iconst 0, 1) := by decide +kernel
theorem dX1_begin_2 : decode cX1_begin 2 = .ok (.putfield 63, 3) := by decide +kernel
theorem dX1_begin_5 : decode cX1_begin 5 = .ok (.aload_n 0, 1) := by decide +kernel
theorem dX1_begin_6 : decode cX1_begin 6 = .ok (.iconst 0, 1) := by decide +kernel
theorem dX1_begin_7 : decode cX1_begin 7 = .ok (.putfield 75, 3) := by decide +kernel
theorem dX1_begin_10 : decode cX1_begin 10 = .ok (.aload_n 0, 1) := by decide +kernel
theorem dX1_begin_11 : decode cX1_begin 11 = .ok (.ldc 78, 2) := by decide +kernel
theorem dX1_begin_13 : decode cX1_begin 13 = .ok (.putfield 57, 3) := by decide +kernel
theorem dX1_begin_16 : decode cX1_begin 16 = .ok (.aload_n 0, 1) := by decide +kernel
theorem dX1_begin_17 : decode cX1_begin 17 = .ok (.iconst 0, 1) := by decide +kernel
theorem dX1_begin_18 : decode cX1_begin 18 = .ok (.putfield 60, 3) := by decide +kernel
theorem dX1_begin_21 : decode cX1_begin 21 = .ok (.aload_n 0, 1) := by decide +kernel
theorem dX1_begin_22 : decode cX1_begin 22 = .ok (.iconst (-1), 1) := by decide +kernel
theorem dX1_begin_23 : decode cX1_begin 23 = .ok (.putfield 79, 3) := by decide +kernel
theorem dX1_begin_26 : decode cX1_begin 26 = .ok (.aload_n 0, 1) := by decide +kernel
theorem dX1_begin_27 : decode cX1_begin 27 = .ok (.iconst 1, 1) := by decide +kernel
theorem dX1_begin_28 : decode cX1_begin 28 = .ok (.putfield 44, 3) := by decide +kernel
theorem dX1_begin_31 : decode cX1_begin 31 = .ok (.aload_n 0, 1) := by decide +kernel
theorem dX1_begin_32 : decode cX1_begin 32 = .ok (.iconst 0, 1) := by decide +kernel
theorem dX1_begin_33 : decode cX1_begin 33 = .ok (.putfield 48, 3) := by decide +kernel
theorem dX1_begin_36 : decode cX1_begin 36 = .ok (.aload_n 0, 1) := by decide +kernel
theorem dX1_begin_37 : decode cX1_begin 37 = .ok (.iconst 0, 1) := by decide +kernel
theorem dX1_begin_38 : decode cX1_begin 38 = .ok (.putfield 82, 3) := by decide +kernel
theorem dX1_begin_41 : decode cX1_begin 41 = .ok (.aload_n 0, 1) := by decide +kernel
theorem dX1_begin_42 : decode cX1_begin 42 = .ok (.iconst 0, 1) := by decide +kernel
theorem dX1_begin_43 : decode cX1_begin 43 = .ok (.putfield 85, 3) := by decide +kernel
theorem dX1_begin_46 : decode cX1_begin 46 = .ok (.return_, 1) := by decide +kernel
theorem dX1_goesOn_0 : decode cX1_goesOn 0 = .ok (.aload_n 1, 1) := by decide +kernel
theorem dX1_goesOn_1 : decode cX1_goesOn 1 = .ok (.getfield 27, 3) := by decide +kernel
theorem dX1_goesOn_4 : decode cX1_goesOn 4 = .ok (.iload_n 2, 1) := by decide +kernel
theorem dX1_goesOn_5 : decode cX1_goesOn 5 = .ok (.iaload, 1) := by decide +kernel
theorem dX1_goesOn_6 : decode cX1_goesOn 6 = .ok (.istore 4, 2) := by decide +kernel
theorem dX1_goesOn_8 : decode cX1_goesOn 8 = .ok (.iload 4, 2) := by decide +kernel
theorem dX1_goesOn_10 : decode cX1_goesOn 10 = .ok (.invokestatic 88, 3) := by decide +kernel
theorem dX1_goesOn_13 : decode cX1_goesOn 13 = .ok (.ifCond .ne 11, 3) := by decide +kernel
theorem dX1_goesOn_16 : decode cX1_goesOn 16 = .ok (.iload 4, 2) := by decide +kernel
theorem dX1_goesOn_18 : decode cX1_goesOn 18 = .ok (.invokestatic 92, 3) := by decide +kernel
theorem dX1_goesOn_21 : decode cX1_goesOn 21 = .ok (.ifCond .eq 7, 3) := by decide +kernel
theorem dX1_goesOn_24 : decode cX1_goesOn 24 = .ok (.iconst 1, 1) := by decide +kernel
theorem dX1_goesOn_25 : decode cX1_goesOn 25 = .ok (.goto 4, 3) := by decide +kernel
theorem dX1_goesOn_28 : decode cX1_goesOn 28 = .ok (.iconst 0, 1) := by decide +kernel
theorem dX1_goesOn_29 : decode cX1_goesOn 29 = .ok (.istore 5, 2) := by decide +kernel
theorem dX1_goesOn_31 : decode cX1_goesOn 31 = .ok (.iload 5, 2) := by decide +kernel
theorem dX1_goesOn_33 : decode cX1_goesOn 33 = .ok (.ifCond .eq 13, 3) := by decide +kernel
theorem dX1_goesOn_36 : decode cX1_goesOn 36 = .ok (.iload_n 2, 1) := by decide +kernel
theorem dX1_goesOn_37 : decode cX1_goesOn 37 = .ok (.aload_n 0, 1) := by decide +kernel
theorem dX1_goesOn_38 : decode cX1_goesOn 38 = .ok (.getfield 79, 3) := by decide +kernel
theorem dX1_goesOn_41 : decode cX1_goesOn 41 = .ok (.if_icmp .ne 5, 3) := by decide +kernel
theorem dX1_goesOn_44 : decode cX1_goesOn 44 = .ok (.iconst 0, 1) := by decide +kernel
theorem dX1_goesOn_45 : decode cX1_goesOn 45 = .ok (.ireturn, 1) := by decide +kernel
theorem dX1_goesOn_46 : decode cX1_goesOn 46 = .ok (.iload 5, 2) := by decide +kernel
theorem dX1_goesOn_48 : decode cX1_goesOn 48 = .ok (.ifCond .eq 8, 3) := by decide +kernel
theorem dX1_goesOn_51 : decode cX1_goesOn 51 = .ok (.aload_n 0, 1) := by decide +kernel
theorem dX1_goesOn_52 : decode cX1_goesOn 52 = .ok (.iload_n 3, 1) := by decide +kernel
theorem dX1_goesOn_53 : decode cX1_goesOn 53 = .ok (.putfield 79, 3) := by decide +kernel
theorem dX1_goesOn_56 : decode cX1_goesOn 56 = .ok (.aload_n 0, 1) := by decide +kernel
theorem dX1_goesOn_57 : decode cX1_goesOn 57 = .ok (.getfield 57, 3) := by decide +kernel
theorem dX1_goesOn_60 : decode cX1_goesOn 60 = .ok (.ldc 78, 2) := by decide +kernel
theorem dX1_goesOn_62 : decode cX1_goesOn 62 = .ok (.if_icmp .ne 28, 3) := by decide +kernel
theorem dX1_goesOn_65 : decode cX1_goesOn 65 = .ok (.aload_n 0, 1) := by decide +kernel
theorem dX1_goesOn_66 : decode cX1_goesOn 66 = .ok (.aload_n 1, 1) := by decide +kernel
theorem dX1_goesOn_67 : decode cX1_goesOn 67 = .ok (.iload_n 2, 1) := by decide +kernel
theorem dX1_goesOn_68 : decode cX1_goesOn 68 = .ok (.iload_n 3, 1) := by decide +kernel
theorem dX1_goesOn_69 : decode cX1_goesOn 69 = .ok (.invokestatic 95, 3) := by decide +kernel
theorem dX1_goesOn_72 : decode cX1_goesOn 72 = .ok (.putfield 57, 3) := by decide +kernel
theorem dX1_goesOn_75 : decode cX1_goesOn 75 = .ok (.aload_n 0, 1) := by decide +kernel
theorem dX1_goesOn_76 : decode cX1_goesOn 76 = .ok (.getfield 57, 3) := by decide +kernel
theorem dX1_goesOn_79 : decode cX1_goesOn 79 = .ok (.ldc 78, 2) := by decide +kernel
theorem dX1_goesOn_81 : decode cX1_goesOn 81 = .ok (.if_icmp .eq 7, 3) := by decide +kernel
theorem dX1_goesOn_84 : decode cX1_goesOn 84 = .ok (.iconst 1, 1) := by decide +kernel
theorem dX1_goesOn_85 : decode cX1_goesOn 85 = .ok (.goto 4, 3) := by decide +kernel
theorem dX1_goesOn_88 : decode cX1_goesOn 88 = .ok (.iconst 0, 1) := by decide +kernel
theorem dX1_goesOn_89 : decode cX1_goesOn 89 = .ok (.ireturn, 1) := by decide +kernel
theorem dX1_goesOn_90 : decode cX1_goesOn 90 = .ok (.aload_n 0, 1) := by decide +kernel
theorem dX1_goesOn_91 : decode cX1_goesOn 91 = .ok (.getfield 44, 3) := by decide +kernel
theorem dX1_goesOn_94 : decode cX1_goesOn 94 = .ok (.ifCond .ne 24, 3) := by decide +kernel
theorem dX1_goesOn_97 : decode cX1_goesOn 97 = .ok (.iload 4, 2) := by decide +kernel
theorem dX1_goesOn_99 : decode cX1_goesOn 99 = .ok (.bipush 41, 2) := by decide +kernel
theorem dX1_goesOn_101 : decode cX1_goesOn 101 = .ok (.if_icmp .ne 10, 3) := by decide +kernel
theorem dX1_goesOn_104 : decode cX1_goesOn 104 = .ok (.aload_n 0, 1) := by decide +kernel
theorem dX1_goesOn_105 : decode cX1_goesOn 105 = .ok (.invokevirtual 99, 3) := by decide +kernel
theorem dX1_goesOn_108 : decode cX1_goesOn 108 = .ok (.goto 9, 3) := by decide +kernel
theorem dX1_goesOn_111 : decode cX1_goesOn 111 = .ok (.aload_n 0, 1) := by decide +kernel
theorem dX1_goesOn_112 : decode cX1_goesOn 112 = .ok (.iload 4, 2) := by decide +kernel
theorem dX1_goesOn_114 : decode cX1_goesOn 114 = .ok (.invokevirtual 103, 3) := by decide +kernel
theorem dX1_goesOn_117 : decode cX1_goesOn 117 = .ok (.ireturn, 1) := by decide +kernel
theorem dX1_goesOn_118 : decode cX1_goesOn 118 = .ok (.iload 4, 2) := by decide +kernel
theorem dX1_goesOn_120 : decode cX1_goesOn 120 = .ok (.invokestatic 92, 3) := by decide +kernel
theorem dX1_goesOn_123 : decode cX1_goesOn 123 = .ok (.ifCond .eq 29, 3) := by decide +kernel
theorem dX1_goesOn_126 : decode cX1_goesOn 126 = .ok (.iload_n 3, 1) := by decide +kernel
theorem dX1_goesOn_127 : decode cX1_goesOn 127 = .ok (.iload_n 2, 1) := by decide +kernel
theorem dX1_goesOn_128 : decode cX1_goesOn 128 = .ok (.isub, 1) := by decide +kernel
theorem dX1_goesOn_129 : decode cX1_goesOn 129 = .ok (.iconst 4, 1) := by decide +kernel
theorem dX1_goesOn_130 : decode cX1_goesOn 130 = .ok (.if_icmp .gt 20, 3) := by decide +kernel
theorem dX1_goesOn_133 : decode cX1_goesOn 133 = .ok (.aload_n 0, 1) := by decide +kernel
theorem dX1_goesOn_134 : decode cX1_goesOn 134 = .ok (.aload_n 1, 1) := by decide +kernel
theorem dX1_goesOn_135 : decode cX1_goesOn 135 = .ok (.iload_n 2, 1) := by decide +kernel
theorem dX1_goesOn_136 : decode cX1_goesOn 136 = .ok (.iload_n 3, 1) := by decide +kernel
theorem dX1_goesOn_137 : decode cX1_goesOn 137 = .ok (.invokevirtual 106, 3) := by decide +kernel
theorem dX1_goesOn_140 : decode cX1_goesOn 140 = .ok (.invokevirtual 109, 3) := by decide +kernel
theorem dX1_goesOn_143 : decode cX1_goesOn 143 = .ok (.ifCond .eq 7, 3) := by decide +kernel
theorem dX1_goesOn_146 : decode cX1_goesOn 146 = .ok (.iconst 1, 1) := by decide +kernel
theorem dX1_goesOn_147 : decode cX1_goesOn 147 = .ok (.goto 4, 3) := by decide +kernel
theorem dX1_goesOn_150 : decode cX1_goesOn 150 = .ok (.iconst 0, 1) := by decide +kernel
theorem dX1_goesOn_151 : decode cX1_goesOn 151 = .ok (.ireturn, 1) := by decide +kernel
theorem dX1_goesOn_152 : decode cX1_goesOn 152 = .ok (.iload 4, 2) := by decide +kernel
theorem dX1_goesOn_154 : decode cX1_goesOn 154 = .ok (.invokestatic 88, 3) := by decide +kernel
theorem dX1_goesOn_157 : decode cX1_goesOn 157 = .ok (.ifCond .eq 46, 3) := by decide +kernel
theorem dX1_goesOn_160 : decode cX1_goesOn 160 = .ok (.aload_n 0, 1) := by decide +kernel
theorem dX1_goesOn_161 : decode cX1_goesOn 161 = .ok (.invokevirtual 112, 3) := by decide +kernel
theorem dX1_goesOn_164 : decode cX1_goesOn 164 = .ok (.iload 4, 2) := by decide +kernel
theorem dX1_goesOn_166 : decode cX1_goesOn 166 = .ok (.i2c, 1) := by decide +kernel
theorem dX1_goesOn_167 : decode cX1_goesOn 167 = .ok (.invokevirtual 116, 3) := by decide +kernel
theorem dX1_goesOn_170 : decode cX1_goesOn 170 = .ok (.istore 6, 2) := by decide +kernel
theorem dX1_goesOn_172 : decode cX1_goesOn 172 = .ok (.iload_n 3, 1) := by decide +kernel
theorem dX1_goesOn_173 : decode cX1_goesOn 173 = .ok (.iload_n 2, 1) := by decide +kernel
theorem dX1_goesOn_174 : decode cX1_goesOn 174 = .ok (.isub, 1) := by decide +kernel
theorem dX1_goesOn_175 : decode cX1_goesOn 175 = .ok (.iconst 1, 1) := by decide +kernel
theorem dX1_goesOn_176 : decode cX1_goesOn 176 = .ok (.if_icmp .ne 25, 3) := by decide +kernel
theorem dX1_goesOn_179 : decode cX1_goesOn 179 = .ok (.iload 6, 2) := by decide +kernel
theorem dX1_goesOn_181 : decode cX1_goesOn 181 = .ok (.ifCond .lt 20, 3) := by decide +kernel
theorem dX1_goesOn_184 : decode cX1_goesOn 184 = .ok (.aload_n 0, 1) := by decide +kernel
theorem dX1_goesOn_185 : decode cX1_goesOn 185 = .ok (.sipush 10000, 3) := by decide +kernel
theorem dX1_goesOn_188 : decode cX1_goesOn 188 = .ok (.iload 6, 2) := by decide +kernel
theorem dX1_goesOn_190 : decode cX1_goesOn 190 = .ok (.iadd, 1) := by decide +kernel
theorem dX1_goesOn_191 : decode cX1_goesOn 191 = .ok (.invokevirtual 109, 3) := by decide +kernel
theorem dX1_goesOn_194 : decode cX1_goesOn 194 = .ok (.ifCond .eq 7, 3) := by decide +kernel
theorem dX1_goesOn_197 : decode cX1_goesOn 197 = .ok (.iconst 1, 1) := by decide +kernel
theorem dX1_goesOn_198 : decode cX1_goesOn 198 = .ok (.goto 4, 3) := by decide +kernel
theorem dX1_goesOn_201 : decode cX1_goesOn 201 = .ok (.iconst 0, 1) := by decide +kernel
theorem dX1_goesOn_202 : decode cX1_goesOn 202 = .ok (.ireturn, 1) := by decide +kernel
theorem dX1_goesOn_203 : decode cX1_goesOn 203 = .ok (.iload 4, 2) := by decide +kernel
theorem dX1_goesOn_205 : decode cX1_goesOn 205 = .ok (.bipush 40, 2) := by decide +kernel
theorem dX1_goesOn_207 : decode cX1_goesOn 207 = .ok (.if_icmp .ne 10, 3) := by decide +kernel
theorem dX1_goesOn_210 : decode cX1_goesOn 210 = .ok (.aload_n 0, 1) := by decide +kernel
theorem dX1_goesOn_211 : decode cX1_goesOn 211 = .ok (.invokevirtual 121, 3) := by decide +kernel
theorem dX1_goesOn_214 : decode cX1_goesOn 214 = .ok (.goto 22, 3) := by decide +kernel
theorem dX1_goesOn_217 : decode cX1_goesOn 217 = .ok (.iload 4, 2) := by decide +kernel
theorem dX1_goesOn_219 : decode cX1_goesOn 219 = .ok (.bipush 33, 2) := by decide +kernel
theorem dX1_goesOn_221 : decode cX1_goesOn 221 = .ok (.if_icmp .ne 14, 3) := by decide +kernel
theorem dX1_goesOn_224 : decode cX1_goesOn 224 = .ok (.aload_n 0, 1) := by decide +kernel
theorem dX1_goesOn_225 : decode cX1_goesOn 225 = .ok (.invokevirtual 124, 3) := by decide +kernel
theorem dX1_goesOn_228 : decode cX1_goesOn 228 = .ok (.ifCond .eq 7, 3) := by decide +kernel
theorem dX1_goesOn_231 : decode cX1_goesOn 231 = .ok (.iconst 1, 1) := by decide +kernel
theorem dX1_goesOn_232 : decode cX1_goesOn 232 = .ok (.goto 4, 3) := by decide +kernel
theorem dX1_goesOn_235 : decode cX1_goesOn 235 = .ok (.iconst 0, 1) := by decide +kernel
theorem dX1_goesOn_236 : decode cX1_goesOn 236 = .ok (.ireturn, 1) := by decide +kernel
theorem dX1_keyAt_0 : decode cX1_keyAt 0 = .ok (.aload_n 0, 1) := by decide +kernel
theorem dX1_keyAt_1 : decode cX1_keyAt 1 = .ok (.iload_n 1, 1) := by decide +kernel
theorem dX1_keyAt_2 : decode cX1_keyAt 2 = .ok (.iload_n 2, 1) := by decide +kernel
theorem dX1_keyAt_3 : decode cX1_keyAt 3 = .ok (.ldc 127, 2) := by decide +kernel
theorem dX1_keyAt_5 : decode cX1_keyAt 5 = .ok (.invokevirtual 129, 3) := by decide +kernel
theorem dX1_keyAt_8 : decode cX1_keyAt 8 = .ok (.ifCond .eq 5, 3) := by decide +kernel
theorem dX1_keyAt_11 : decode cX1_keyAt 11 = .ok (.iconst 0, 1) := by decide +kernel
theorem dX1_keyAt_12 : decode cX1_keyAt 12 = .ok (.ireturn, 1) := by decide +kernel
theorem dX1_keyAt_13 : decode cX1_keyAt 13 = .ok (.aload_n 0, 1) := by decide +kernel
theorem dX1_keyAt_14 : decode cX1_keyAt 14 = .ok (.iload_n 1, 1) := by decide +kernel
theorem dX1_keyAt_15 : decode cX1_keyAt 15 = .ok (.iload_n 2, 1) := by decide +kernel
theorem dX1_keyAt_16 : decode cX1_keyAt 16 = .ok (.ldc 133, 2) := by decide +kernel
theorem dX1_keyAt_18 : decode cX1_keyAt 18 = .ok (.invokevirtual 129, 3) := by decide +kernel
theorem dX1_keyAt_21 : decode cX1_keyAt 21 = .ok (.ifCond .eq 5, 3) := by decide +kernel
theorem dX1_keyAt_24 : decode cX1_keyAt 24 = .ok (.iconst 1, 1) := by decide +kernel
theorem dX1_keyAt_25 : decode cX1_keyAt 25 = .ok (.ireturn, 1) := by decide +kernel
theorem dX1_keyAt_26 : decode cX1_keyAt 26 = .ok (.aload_n 0, 1) := by decide +kernel
theorem dX1_keyAt_27 : decode cX1_keyAt 27 = .ok (.iload_n 1, 1) := by decide +kernel
theorem dX1_keyAt_28 : decode cX1_keyAt 28 = .ok (.iload_n 2, 1) := by decide +kernel
theorem dX1_keyAt_29 : decode cX1_keyAt 29 = .ok (.ldc 135, 2) := by decide +kernel
theorem dX1_keyAt_31 : decode cX1_keyAt 31 = .ok (.invokevirtual 129, 3) := by decide +kernel
theorem dX1_keyAt_34 : decode cX1_keyAt 34 = .ok (.ifCond .eq 7, 3) := by decide +kernel
theorem dX1_keyAt_37 : decode cX1_keyAt 37 = .ok (.iconst 2, 1) := by decide +kernel
theorem dX1_keyAt_38 : decode cX1_keyAt 38 = .ok (.goto 5, 3) := by decide +kernel
theorem dX1_keyAt_41 : decode cX1_keyAt 41 = .ok (.ldc 78, 2) := by decide +kernel
theorem dX1_keyAt_43 : decode cX1_keyAt 43 = .ok (.ireturn, 1) := by decide +kernel
theorem dX1_names_0 : decode cX1_names 0 = .ok (.aload_n 0, 1) := by decide +kernel
theorem dX1_names_1 : decode cX1_names 1 = .ok (.getfield 57, 3) := by decide +kernel
theorem dX1_names_4 : decode cX1_names 4 = .ok (.ifCond .ne 6, 3) := by decide +kernel
theorem dX1_names_7 : decode cX1_names 7 = .ok (.ldc 137, 2) := by decide +kernel
theorem dX1_names_9 : decode cX1_names 9 = .ok (.areturn, 1) := by decide +kernel
theorem dX1_names_10 : decode cX1_names 10 = .ok (.aload_n 0, 1) := by decide +kernel
theorem dX1_names_11 : decode cX1_names 11 = .ok (.getfield 57, 3) := by decide +kernel
theorem dX1_names_14 : decode cX1_names 14 = .ok (.iconst 1, 1) := by decide +kernel
theorem dX1_names_15 : decode cX1_names 15 = .ok (.if_icmp .ne 8, 3) := by decide +kernel
theorem dX1_names_18 : decode cX1_names 18 = .ok (.ldc 139, 2) := by decide +kernel
theorem dX1_names_20 : decode cX1_names 20 = .ok (.goto 5, 3) := by decide +kernel
theorem dX1_names_23 : decode cX1_names 23 = .ok (.ldc 141, 2) := by decide +kernel
theorem dX1_names_25 : decode cX1_names 25 = .ok (.areturn, 1) := by decide +kernel
theorem dX1_isPiece_0 : decode cX1_isPiece 0 = .ok (.aload_n 0, 1) := by decide +kernel
theorem dX1_isPiece_1 : decode cX1_isPiece 1 = .ok (.dup, 1) := by decide +kernel
theorem dX1_isPiece_2 : decode cX1_isPiece 2 = .ok (.getfield 60, 3) := by decide +kernel
theorem dX1_isPiece_5 : decode cX1_isPiece 5 = .ok (.iconst 1, 1) := by decide +kernel
theorem dX1_isPiece_6 : decode cX1_isPiece 6 = .ok (.iadd, 1) := by decide +kernel
theorem dX1_isPiece_7 : decode cX1_isPiece 7 = .ok (.putfield 60, 3) := by decide +kernel
theorem dX1_isPiece_10 : decode cX1_isPiece 10 = .ok (.aload_n 0, 1) := by decide +kernel
theorem dX1_isPiece_11 : decode cX1_isPiece 11 = .ok (.iload_n 1, 1) := by decide +kernel
theorem dX1_isPiece_12 : decode cX1_isPiece 12 = .ok (.invokevirtual 143, 3) := by decide +kernel
theorem dX1_isPiece_15 : decode cX1_isPiece 15 = .ok (.aload_n 0, 1) := by decide +kernel
theorem dX1_isPiece_16 : decode cX1_isPiece 16 = .ok (.invokevirtual 146, 3) := by decide +kernel
theorem dX1_isPiece_19 : decode cX1_isPiece 19 = .ok (.iconst 1, 1) := by decide +kernel
theorem dX1_isPiece_20 : decode cX1_isPiece 20 = .ok (.ireturn, 1) := by decide +kernel
theorem dX1_endPiece_0 : decode cX1_endPiece 0 = .ok (.aload_n 0, 1) := by decide +kernel
theorem dX1_endPiece_1 : decode cX1_endPiece 1 = .ok (.iconst 0, 1) := by decide +kernel
theorem dX1_endPiece_2 : decode cX1_endPiece 2 = .ok (.putfield 44, 3) := by decide +kernel
theorem dX1_endPiece_5 : decode cX1_endPiece 5 = .ok (.aload_n 0, 1) := by decide +kernel
theorem dX1_endPiece_6 : decode cX1_endPiece 6 = .ok (.getfield 75, 3) := by decide +kernel
theorem dX1_endPiece_9 : decode cX1_endPiece 9 = .ok (.ifCond .le 49, 3) := by decide +kernel
theorem dX1_endPiece_12 : decode cX1_endPiece 12 = .ok (.aload_n 0, 1) := by decide +kernel
theorem dX1_endPiece_13 : decode cX1_endPiece 13 = .ok (.getfield 15, 3) := by decide +kernel
theorem dX1_endPiece_16 : decode cX1_endPiece 16 = .ok (.aload_n 0, 1) := by decide +kernel
theorem dX1_endPiece_17 : decode cX1_endPiece 17 = .ok (.getfield 75, 3) := by decide +kernel
theorem dX1_endPiece_20 : decode cX1_endPiece 20 = .ok (.iconst 1, 1) := by decide +kernel
theorem dX1_endPiece_21 : decode cX1_endPiece 21 = .ok (.isub, 1) := by decide +kernel
theorem dX1_endPiece_22 : decode cX1_endPiece 22 = .ok (.iaload, 1) := by decide +kernel
theorem dX1_endPiece_23 : decode cX1_endPiece 23 = .ok (.bipush 33, 2) := by decide +kernel
theorem dX1_endPiece_25 : decode cX1_endPiece 25 = .ok (.if_icmp .ne 33, 3) := by decide +kernel
theorem dX1_endPiece_28 : decode cX1_endPiece 28 = .ok (.aload_n 0, 1) := by decide +kernel
theorem dX1_endPiece_29 : decode cX1_endPiece 29 = .ok (.dup, 1) := by decide +kernel
theorem dX1_endPiece_30 : decode cX1_endPiece 30 = .ok (.getfield 75, 3) := by decide +kernel
theorem dX1_endPiece_33 : decode cX1_endPiece 33 = .ok (.iconst 1, 1) := by decide +kernel
theorem dX1_endPiece_34 : decode cX1_endPiece 34 = .ok (.isub, 1) := by decide +kernel
theorem dX1_endPiece_35 : decode cX1_endPiece 35 = .ok (.putfield 75, 3) := by decide +kernel
theorem dX1_endPiece_38 : decode cX1_endPiece 38 = .ok (.aload_n 0, 1) := by decide +kernel
theorem dX1_endPiece_39 : decode cX1_endPiece 39 = .ok (.dup, 1) := by decide +kernel
theorem dX1_endPiece_40 : decode cX1_endPiece 40 = .ok (.getfield 82, 3) := by decide +kernel
theorem dX1_endPiece_43 : decode cX1_endPiece 43 = .ok (.iconst 1, 1) := by decide +kernel
theorem dX1_endPiece_44 : decode cX1_endPiece 44 = .ok (.isub, 1) := by decide +kernel
theorem dX1_endPiece_45 : decode cX1_endPiece 45 = .ok (.putfield 82, 3) := by decide +kernel
theorem dX1_endPiece_48 : decode cX1_endPiece 48 = .ok (.aload_n 0, 1) := by decide +kernel
theorem dX1_endPiece_49 : decode cX1_endPiece 49 = .ok (.sipush 20033, 3) := by decide +kernel
theorem dX1_endPiece_52 : decode cX1_endPiece 52 = .ok (.invokevirtual 143, 3) := by decide +kernel
theorem dX1_endPiece_55 : decode cX1_endPiece 55 = .ok (.goto (-50), 3) := by decide +kernel
theorem dX1_endPiece_58 : decode cX1_endPiece 58 = .ok (.return_, 1) := by decide +kernel
theorem dX1_opens_0 : decode cX1_opens 0 = .ok (.aload_n 0, 1) := by decide +kernel
theorem dX1_opens_1 : decode cX1_opens 1 = .ok (.getfield 48, 3) := by decide +kernel
theorem dX1_opens_4 : decode cX1_opens 4 = .ok (.bipush 8, 2) := by decide +kernel
theorem dX1_opens_6 : decode cX1_opens 6 = .ok (.if_icmp .lt 5, 3) := by decide +kernel
theorem dX1_opens_9 : decode cX1_opens 9 = .ok (.iconst 0, 1) := by decide +kernel
theorem dX1_opens_10 : decode cX1_opens 10 = .ok (.ireturn, 1) := by decide +kernel
theorem dX1_opens_11 : decode cX1_opens 11 = .ok (.aload_n 0, 1) := by decide +kernel
theorem dX1_opens_12 : decode cX1_opens 12 = .ok (.dup, 1) := by decide +kernel
theorem dX1_opens_13 : decode cX1_opens 13 = .ok (.getfield 48, 3) := by decide +kernel
theorem dX1_opens_16 : decode cX1_opens 16 = .ok (.iconst 1, 1) := by decide +kernel
theorem dX1_opens_17 : decode cX1_opens 17 = .ok (.iadd, 1) := by decide +kernel
theorem dX1_opens_18 : decode cX1_opens 18 = .ok (.putfield 48, 3) := by decide +kernel
theorem dX1_opens_21 : decode cX1_opens 21 = .ok (.aload_n 0, 1) := by decide +kernel
theorem dX1_opens_22 : decode cX1_opens 22 = .ok (.dup, 1) := by decide +kernel
theorem dX1_opens_23 : decode cX1_opens 23 = .ok (.getfield 85, 3) := by decide +kernel
theorem dX1_opens_26 : decode cX1_opens 26 = .ok (.iconst 1, 1) := by decide +kernel
theorem dX1_opens_27 : decode cX1_opens 27 = .ok (.aload_n 0, 1) := by decide +kernel
theorem dX1_opens_28 : decode cX1_opens 28 = .ok (.getfield 48, 3) := by decide +kernel
theorem dX1_opens_31 : decode cX1_opens 31 = .ok (.ishl, 1) := by decide +kernel
theorem dX1_opens_32 : decode cX1_opens 32 = .ok (.iconst (-1), 1) := by decide +kernel
theorem dX1_opens_33 : decode cX1_opens 33 = .ok (.ixor, 1) := by decide +kernel
theorem dX1_opens_34 : decode cX1_opens 34 = .ok (.iand, 1) := by decide +kernel
theorem dX1_opens_35 : decode cX1_opens 35 = .ok (.putfield 85, 3) := by decide +kernel
theorem dX1_opens_38 : decode cX1_opens 38 = .ok (.aload_n 0, 1) := by decide +kernel
theorem dX1_opens_39 : decode cX1_opens 39 = .ok (.bipush 40, 2) := by decide +kernel
theorem dX1_opens_41 : decode cX1_opens 41 = .ok (.invokevirtual 149, 3) := by decide +kernel
theorem dX1_opens_44 : decode cX1_opens 44 = .ok (.iconst 1, 1) := by decide +kernel
theorem dX1_opens_45 : decode cX1_opens 45 = .ok (.ireturn, 1) := by decide +kernel
theorem dX1_negates_0 : decode cX1_negates 0 = .ok (.aload_n 0, 1) := by decide +kernel
theorem dX1_negates_1 : decode cX1_negates 1 = .ok (.getfield 82, 3) := by decide +kernel
theorem dX1_negates_4 : decode cX1_negates 4 = .ok (.bipush 8, 2) := by decide +kernel
theorem dX1_negates_6 : decode cX1_negates 6 = .ok (.if_icmp .lt 5, 3) := by decide +kernel
theorem dX1_negates_9 : decode cX1_negates 9 = .ok (.iconst 0, 1) := by decide +kernel
theorem dX1_negates_10 : decode cX1_negates 10 = .ok (.ireturn, 1) := by decide +kernel
theorem dX1_negates_11 : decode cX1_negates 11 = .ok (.aload_n 0, 1) := by decide +kernel
theorem dX1_negates_12 : decode cX1_negates 12 = .ok (.dup, 1) := by decide +kernel
theorem dX1_negates_13 : decode cX1_negates 13 = .ok (.getfield 82, 3) := by decide +kernel
theorem dX1_negates_16 : decode cX1_negates 16 = .ok (.iconst 1, 1) := by decide +kernel
theorem dX1_negates_17 : decode cX1_negates 17 = .ok (.iadd, 1) := by decide +kernel
theorem dX1_negates_18 : decode cX1_negates 18 = .ok (.putfield 82, 3) := by decide +kernel
theorem dX1_negates_21 : decode cX1_negates 21 = .ok (.aload_n 0, 1) := by decide +kernel
theorem dX1_negates_22 : decode cX1_negates 22 = .ok (.bipush 33, 2) := by decide +kernel
theorem dX1_negates_24 : decode cX1_negates 24 = .ok (.invokevirtual 149, 3) := by decide +kernel
theorem dX1_negates_27 : decode cX1_negates 27 = .ok (.iconst 1, 1) := by decide +kernel
theorem dX1_negates_28 : decode cX1_negates 28 = .ok (.ireturn, 1) := by decide +kernel
theorem dX1_closes_0 : decode cX1_closes 0 = .ok (.aload_n 0, 1) := by decide +kernel
theorem dX1_closes_1 : decode cX1_closes 1 = .ok (.getfield 48, 3) := by decide +kernel
theorem dX1_closes_4 : decode cX1_closes 4 = .ok (.ifCond .gt 5, 3) := by decide +kernel
theorem dX1_closes_7 : decode cX1_closes 7 = .ok (.iconst 0, 1) := by decide +kernel
theorem dX1_closes_8 : decode cX1_closes 8 = .ok (.ireturn, 1) := by decide +kernel
theorem dX1_closes_9 : decode cX1_closes 9 = .ok (.aload_n 0, 1) := by decide +kernel
theorem dX1_closes_10 : decode cX1_closes 10 = .ok (.iconst 1, 1) := by decide +kernel
theorem dX1_closes_11 : decode cX1_closes 11 = .ok (.invokevirtual 51, 3) := by decide +kernel
theorem dX1_closes_14 : decode cX1_closes 14 = .ok (.aload_n 0, 1) := by decide +kernel
theorem dX1_closes_15 : decode cX1_closes 15 = .ok (.iconst 0, 1) := by decide +kernel
theorem dX1_closes_16 : decode cX1_closes 16 = .ok (.aload_n 0, 1) := by decide +kernel
theorem dX1_closes_17 : decode cX1_closes 17 = .ok (.getfield 75, 3) := by decide +kernel
theorem dX1_closes_20 : decode cX1_closes 20 = .ok (.iconst 1, 1) := by decide +kernel
theorem dX1_closes_21 : decode cX1_closes 21 = .ok (.isub, 1) := by decide +kernel
theorem dX1_closes_22 : decode cX1_closes 22 = .ok (.invokestatic 38, 3) := by decide +kernel
theorem dX1_closes_25 : decode cX1_closes 25 = .ok (.putfield 75, 3) := by decide +kernel
theorem dX1_closes_28 : decode cX1_closes 28 = .ok (.aload_n 0, 1) := by decide +kernel
theorem dX1_closes_29 : decode cX1_closes 29 = .ok (.dup, 1) := by decide +kernel
theorem dX1_closes_30 : decode cX1_closes 30 = .ok (.getfield 48, 3) := by decide +kernel
theorem dX1_closes_33 : decode cX1_closes 33 = .ok (.iconst 1, 1) := by decide +kernel
theorem dX1_closes_34 : decode cX1_closes 34 = .ok (.isub, 1) := by decide +kernel
theorem dX1_closes_35 : decode cX1_closes 35 = .ok (.putfield 48, 3) := by decide +kernel
theorem dX1_closes_38 : decode cX1_closes 38 = .ok (.aload_n 0, 1) := by decide +kernel
theorem dX1_closes_39 : decode cX1_closes 39 = .ok (.invokevirtual 146, 3) := by decide +kernel
theorem dX1_closes_42 : decode cX1_closes 42 = .ok (.iconst 1, 1) := by decide +kernel
theorem dX1_closes_43 : decode cX1_closes 43 = .ok (.ireturn, 1) := by decide +kernel
theorem dX1_joins_0 : decode cX1_joins 0 = .ok (.iload_n 1, 1) := by decide +kernel
theorem dX1_joins_1 : decode cX1_joins 1 = .ok (.invokestatic 152, 3) := by decide +kernel
theorem dX1_joins_4 : decode cX1_joins 4 = .ok (.istore_n 2, 1) := by decide +kernel
theorem dX1_joins_5 : decode cX1_joins 5 = .ok (.iload_n 2, 1) := by decide +kernel
theorem dX1_joins_6 : decode cX1_joins 6 = .ok (.ifCond .eq 23, 3) := by decide +kernel
theorem dX1_joins_9 : decode cX1_joins 9 = .ok (.iload_n 2, 1) := by decide +kernel
theorem dX1_joins_10 : decode cX1_joins 10 = .ok (.iconst 3, 1) := by decide +kernel
theorem dX1_joins_11 : decode cX1_joins 11 = .ok (.if_icmp .ne 20, 3) := by decide +kernel
theorem dX1_joins_14 : decode cX1_joins 14 = .ok (.aload_n 0, 1) := by decide +kernel
theorem dX1_joins_15 : decode cX1_joins 15 = .ok (.getfield 85, 3) := by decide +kernel
theorem dX1_joins_18 : decode cX1_joins 18 = .ok (.aload_n 0, 1) := by decide +kernel
theorem dX1_joins_19 : decode cX1_joins 19 = .ok (.getfield 48, 3) := by decide +kernel
theorem dX1_joins_22 : decode cX1_joins 22 = .ok (.iushr, 1) := by decide +kernel
theorem dX1_joins_23 : decode cX1_joins 23 = .ok (.iconst 1, 1) := by decide +kernel
theorem dX1_joins_24 : decode cX1_joins 24 = .ok (.iand, 1) := by decide +kernel
theorem dX1_joins_25 : decode cX1_joins 25 = .ok (.iconst 1, 1) := by decide +kernel
theorem dX1_joins_26 : decode cX1_joins 26 = .ok (.if_icmp .ne 5, 3) := by decide +kernel
theorem dX1_joins_29 : decode cX1_joins 29 = .ok (.iconst 0, 1) := by decide +kernel
theorem dX1_joins_30 : decode cX1_joins 30 = .ok (.ireturn, 1) := by decide +kernel
theorem dX1_joins_31 : decode cX1_joins 31 = .ok (.iload_n 2, 1) := by decide +kernel
theorem dX1_joins_32 : decode cX1_joins 32 = .ok (.iconst 3, 1) := by decide +kernel
theorem dX1_joins_33 : decode cX1_joins 33 = .ok (.if_icmp .ne 21, 3) := by decide +kernel
theorem dX1_joins_36 : decode cX1_joins 36 = .ok (.aload_n 0, 1) := by decide +kernel
theorem dX1_joins_37 : decode cX1_joins 37 = .ok (.dup, 1) := by decide +kernel
theorem dX1_joins_38 : decode cX1_joins 38 = .ok (.getfield 85, 3) := by decide +kernel
theorem dX1_joins_41 : decode cX1_joins 41 = .ok (.iconst 1, 1) := by decide +kernel
theorem dX1_joins_42 : decode cX1_joins 42 = .ok (.aload_n 0, 1) := by decide +kernel
theorem dX1_joins_43 : decode cX1_joins 43 = .ok (.getfield 48, 3) := by decide +kernel
theorem dX1_joins_46 : decode cX1_joins 46 = .ok (.ishl, 1) := by decide +kernel
theorem dX1_joins_47 : decode cX1_joins 47 = .ok (.ior, 1) := by decide +kernel
theorem dX1_joins_48 : decode cX1_joins 48 = .ok (.putfield 85, 3) := by decide +kernel
theorem dX1_joins_51 : decode cX1_joins 51 = .ok (.goto 25, 3) := by decide +kernel
theorem dX1_joins_54 : decode cX1_joins 54 = .ok (.iload_n 2, 1) := by decide +kernel
theorem dX1_joins_55 : decode cX1_joins 55 = .ok (.iconst 3, 1) := by decide +kernel
theorem dX1_joins_56 : decode cX1_joins 56 = .ok (.if_icmp .ge 20, 3) := by decide +kernel
theorem dX1_joins_59 : decode cX1_joins 59 = .ok (.aload_n 0, 1) := by decide +kernel
theorem dX1_joins_60 : decode cX1_joins 60 = .ok (.dup, 1) := by decide +kernel
theorem dX1_joins_61 : decode cX1_joins 61 = .ok (.getfield 85, 3) := by decide +kernel
theorem dX1_joins_64 : decode cX1_joins 64 = .ok (.iconst 1, 1) := by decide +kernel
theorem dX1_joins_65 : decode cX1_joins 65 = .ok (.aload_n 0, 1) := by decide +kernel
theorem dX1_joins_66 : decode cX1_joins 66 = .ok (.getfield 48, 3) := by decide +kernel
theorem dX1_joins_69 : decode cX1_joins 69 = .ok (.ishl, 1) := by decide +kernel
theorem dX1_joins_70 : decode cX1_joins 70 = .ok (.iconst (-1), 1) := by decide +kernel
theorem dX1_joins_71 : decode cX1_joins 71 = .ok (.ixor, 1) := by decide +kernel
theorem dX1_joins_72 : decode cX1_joins 72 = .ok (.iand, 1) := by decide +kernel
theorem dX1_joins_73 : decode cX1_joins 73 = .ok (.putfield 85, 3) := by decide +kernel
theorem dX1_joins_76 : decode cX1_joins 76 = .ok (.aload_n 0, 1) := by decide +kernel
theorem dX1_joins_77 : decode cX1_joins 77 = .ok (.iload_n 2, 1) := by decide +kernel
theorem dX1_joins_78 : decode cX1_joins 78 = .ok (.invokevirtual 51, 3) := by decide +kernel
theorem dX1_joins_81 : decode cX1_joins 81 = .ok (.aload_n 0, 1) := by decide +kernel
theorem dX1_joins_82 : decode cX1_joins 82 = .ok (.iload_n 1, 1) := by decide +kernel
theorem dX1_joins_83 : decode cX1_joins 83 = .ok (.invokevirtual 149, 3) := by decide +kernel
theorem dX1_joins_86 : decode cX1_joins 86 = .ok (.aload_n 0, 1) := by decide +kernel
theorem dX1_joins_87 : decode cX1_joins 87 = .ok (.iconst 1, 1) := by decide +kernel
theorem dX1_joins_88 : decode cX1_joins 88 = .ok (.putfield 44, 3) := by decide +kernel
theorem dX1_joins_91 : decode cX1_joins 91 = .ok (.iconst 1, 1) := by decide +kernel
theorem dX1_joins_92 : decode cX1_joins 92 = .ok (.ireturn, 1) := by decide +kernel
theorem dX1_joinDownTo_0 : decode cX1_joinDownTo 0 = .ok (.aload_n 0, 1) := by decide +kernel
theorem dX1_joinDownTo_1 : decode cX1_joinDownTo 1 = .ok (.getfield 75, 3) := by decide +kernel
theorem dX1_joinDownTo_4 : decode cX1_joinDownTo 4 = .ok (.ifCond .le 51, 3) := by decide +kernel
theorem dX1_joinDownTo_7 : decode cX1_joinDownTo 7 = .ok (.aload_n 0, 1) := by decide +kernel
theorem dX1_joinDownTo_8 : decode cX1_joinDownTo 8 = .ok (.getfield 15, 3) := by decide +kernel
theorem dX1_joinDownTo_11 : decode cX1_joinDownTo 11 = .ok (.aload_n 0, 1) := by decide +kernel
theorem dX1_joinDownTo_12 : decode cX1_joinDownTo 12 = .ok (.getfield 75, 3) := by decide +kernel
theorem dX1_joinDownTo_15 : decode cX1_joinDownTo 15 = .ok (.iconst 1, 1) := by decide +kernel
theorem dX1_joinDownTo_16 : decode cX1_joinDownTo 16 = .ok (.isub, 1) := by decide +kernel
theorem dX1_joinDownTo_17 : decode cX1_joinDownTo 17 = .ok (.iaload, 1) := by decide +kernel
theorem dX1_joinDownTo_18 : decode cX1_joinDownTo 18 = .ok (.invokestatic 152, 3) := by decide +kernel
theorem dX1_joinDownTo_21 : decode cX1_joinDownTo 21 = .ok (.iload_n 1, 1) := by decide +kernel
theorem dX1_joinDownTo_22 : decode cX1_joinDownTo 22 = .ok (.if_icmp .lt 33, 3) := by decide +kernel
theorem dX1_joinDownTo_25 : decode cX1_joinDownTo 25 = .ok (.aload_n 0, 1) := by decide +kernel
theorem dX1_joinDownTo_26 : decode cX1_joinDownTo 26 = .ok (.dup, 1) := by decide +kernel
theorem dX1_joinDownTo_27 : decode cX1_joinDownTo 27 = .ok (.getfield 75, 3) := by decide +kernel
theorem dX1_joinDownTo_30 : decode cX1_joinDownTo 30 = .ok (.iconst 1, 1) := by decide +kernel
theorem dX1_joinDownTo_31 : decode cX1_joinDownTo 31 = .ok (.isub, 1) := by decide +kernel
theorem dX1_joinDownTo_32 : decode cX1_joinDownTo 32 = .ok (.putfield 75, 3) := by decide +kernel
theorem dX1_joinDownTo_35 : decode cX1_joinDownTo 35 = .ok (.aload_n 0, 1) := by decide +kernel
theorem dX1_joinDownTo_36 : decode cX1_joinDownTo 36 = .ok (.sipush 20000, 3) := by decide +kernel
theorem dX1_joinDownTo_39 : decode cX1_joinDownTo 39 = .ok (.aload_n 0, 1) := by decide +kernel
theorem dX1_joinDownTo_40 : decode cX1_joinDownTo 40 = .ok (.getfield 15, 3) := by decide +kernel
theorem dX1_joinDownTo_43 : decode cX1_joinDownTo 43 = .ok (.aload_n 0, 1) := by decide +kernel
theorem dX1_joinDownTo_44 : decode cX1_joinDownTo 44 = .ok (.getfield 75, 3) := by decide +kernel
theorem dX1_joinDownTo_47 : decode cX1_joinDownTo 47 = .ok (.iaload, 1) := by decide +kernel
theorem dX1_joinDownTo_48 : decode cX1_joinDownTo 48 = .ok (.iadd, 1) := by decide +kernel
theorem dX1_joinDownTo_49 : decode cX1_joinDownTo 49 = .ok (.invokevirtual 143, 3) := by decide +kernel
theorem dX1_joinDownTo_52 : decode cX1_joinDownTo 52 = .ok (.goto (-52), 3) := by decide +kernel
theorem dX1_joinDownTo_55 : decode cX1_joinDownTo 55 = .ok (.return_, 1) := by decide +kernel
theorem dX1_rankOf_0 : decode cX1_rankOf 0 = .ok (.iload_n 0, 1) := by decide +kernel
theorem dX1_rankOf_1 : decode cX1_rankOf 1 = .ok (.lookupswitch 93 #[(38, 85), (42, 91), (43, 89), (45, 89), (47, 91), (60, 87), (61, 87), (62, 87), (124, 83)], 83) := by decide +kernel
theorem dX1_rankOf_84 : decode cX1_rankOf 84 = .ok (.iconst 1, 1) := by decide +kernel
theorem dX1_rankOf_85 : decode cX1_rankOf 85 = .ok (.ireturn, 1) := by decide +kernel
theorem dX1_rankOf_86 : decode cX1_rankOf 86 = .ok (.iconst 2, 1) := by decide +kernel
theorem dX1_rankOf_87 : decode cX1_rankOf 87 = .ok (.ireturn, 1) := by decide +kernel
theorem dX1_rankOf_88 : decode cX1_rankOf 88 = .ok (.iconst 3, 1) := by decide +kernel
theorem dX1_rankOf_89 : decode cX1_rankOf 89 = .ok (.ireturn, 1) := by decide +kernel
theorem dX1_rankOf_90 : decode cX1_rankOf 90 = .ok (.iconst 4, 1) := by decide +kernel
theorem dX1_rankOf_91 : decode cX1_rankOf 91 = .ok (.ireturn, 1) := by decide +kernel
theorem dX1_rankOf_92 : decode cX1_rankOf 92 = .ok (.iconst 5, 1) := by decide +kernel
theorem dX1_rankOf_93 : decode cX1_rankOf 93 = .ok (.ireturn, 1) := by decide +kernel
theorem dX1_rankOf_94 : decode cX1_rankOf 94 = .ok (.iconst 0, 1) := by decide +kernel
theorem dX1_rankOf_95 : decode cX1_rankOf 95 = .ok (.ireturn, 1) := by decide +kernel
theorem dX1_addStep_0 : decode cX1_addStep 0 = .ok (.aload_n 0, 1) := by decide +kernel
theorem dX1_addStep_1 : decode cX1_addStep 1 = .ok (.getfield 63, 3) := by decide +kernel
theorem dX1_addStep_4 : decode cX1_addStep 4 = .ok (.aload_n 0, 1) := by decide +kernel
theorem dX1_addStep_5 : decode cX1_addStep 5 = .ok (.getfield 9, 3) := by decide +kernel
theorem dX1_addStep_8 : decode cX1_addStep 8 = .ok (.arraylength, 1) := by decide +kernel
theorem dX1_addStep_9 : decode cX1_addStep 9 = .ok (.if_icmp .ge 23, 3) := by decide +kernel
theorem dX1_addStep_12 : decode cX1_addStep 12 = .ok (.aload_n 0, 1) := by decide +kernel
theorem dX1_addStep_13 : decode cX1_addStep 13 = .ok (.getfield 9, 3) := by decide +kernel
theorem dX1_addStep_16 : decode cX1_addStep 16 = .ok (.aload_n 0, 1) := by decide +kernel
theorem dX1_addStep_17 : decode cX1_addStep 17 = .ok (.getfield 63, 3) := by decide +kernel
theorem dX1_addStep_20 : decode cX1_addStep 20 = .ok (.iload_n 1, 1) := by decide +kernel
theorem dX1_addStep_21 : decode cX1_addStep 21 = .ok (.iastore, 1) := by decide +kernel
theorem dX1_addStep_22 : decode cX1_addStep 22 = .ok (.aload_n 0, 1) := by decide +kernel
theorem dX1_addStep_23 : decode cX1_addStep 23 = .ok (.dup, 1) := by decide +kernel
theorem dX1_addStep_24 : decode cX1_addStep 24 = .ok (.getfield 63, 3) := by decide +kernel
theorem dX1_addStep_27 : decode cX1_addStep 27 = .ok (.iconst 1, 1) := by decide +kernel
theorem dX1_addStep_28 : decode cX1_addStep 28 = .ok (.iadd, 1) := by decide +kernel
theorem dX1_addStep_29 : decode cX1_addStep 29 = .ok (.putfield 63, 3) := by decide +kernel
theorem dX1_addStep_32 : decode cX1_addStep 32 = .ok (.return_, 1) := by decide +kernel
theorem dX1_addSign_0 : decode cX1_addSign 0 = .ok (.aload_n 0, 1) := by decide +kernel
theorem dX1_addSign_1 : decode cX1_addSign 1 = .ok (.getfield 75, 3) := by decide +kernel
theorem dX1_addSign_4 : decode cX1_addSign 4 = .ok (.aload_n 0, 1) := by decide +kernel
theorem dX1_addSign_5 : decode cX1_addSign 5 = .ok (.getfield 15, 3) := by decide +kernel
theorem dX1_addSign_8 : decode cX1_addSign 8 = .ok (.arraylength, 1) := by decide +kernel
theorem dX1_addSign_9 : decode cX1_addSign 9 = .ok (.if_icmp .ge 23, 3) := by decide +kernel
theorem dX1_addSign_12 : decode cX1_addSign 12 = .ok (.aload_n 0, 1) := by decide +kernel
theorem dX1_addSign_13 : decode cX1_addSign 13 = .ok (.getfield 15, 3) := by decide +kernel
theorem dX1_addSign_16 : decode cX1_addSign 16 = .ok (.aload_n 0, 1) := by decide +kernel
theorem dX1_addSign_17 : decode cX1_addSign 17 = .ok (.getfield 75, 3) := by decide +kernel
theorem dX1_addSign_20 : decode cX1_addSign 20 = .ok (.iload_n 1, 1) := by decide +kernel
theorem dX1_addSign_21 : decode cX1_addSign 21 = .ok (.iastore, 1) := by decide +kernel
theorem dX1_addSign_22 : decode cX1_addSign 22 = .ok (.aload_n 0, 1) := by decide +kernel
theorem dX1_addSign_23 : decode cX1_addSign 23 = .ok (.dup, 1) := by decide +kernel
theorem dX1_addSign_24 : decode cX1_addSign 24 = .ok (.getfield 75, 3) := by decide +kernel
theorem dX1_addSign_27 : decode cX1_addSign 27 = .ok (.iconst 1, 1) := by decide +kernel
theorem dX1_addSign_28 : decode cX1_addSign 28 = .ok (.iadd, 1) := by decide +kernel
theorem dX1_addSign_29 : decode cX1_addSign 29 = .ok (.putfield 75, 3) := by decide +kernel
theorem dX1_addSign_32 : decode cX1_addSign 32 = .ok (.return_, 1) := by decide +kernel
theorem dX2_init_0 : decode cX2_init 0 = .ok (.aload_n 0, 1) := by decide +kernel
theorem dX2_init_1 : decode cX2_init 1 = .ok (.invokespecial 3, 3) := by decide +kernel
theorem dX2_init_4 : decode cX2_init 4 = .ok (.aload_n 0, 1) := by decide +kernel
theorem dX2_init_5 : decode cX2_init 5 = .ok (.iconst (-1), 1) := by decide +kernel
theorem dX2_init_6 : decode cX2_init 6 = .ok (.putfield 9, 3) := by decide +kernel
theorem dX2_init_9 : decode cX2_init 9 = .ok (.aload_n 0, 1) := by decide +kernel
theorem dX2_init_10 : decode cX2_init 10 = .ok (.bipush 24, 2) := by decide +kernel
theorem dX2_init_12 : decode cX2_init 12 = .ok (.newarray .int, 2) := by decide +kernel
theorem dX2_init_14 : decode cX2_init 14 = .ok (.putfield 15, 3) := by decide +kernel
theorem dX2_init_17 : decode cX2_init 17 = .ok (.return_, 1) := by decide +kernel
theorem dX2_isMissing_0 : decode cX2_isMissing 0 = .ok (.aload_n 0, 1) := by decide +kernel
theorem dX2_isMissing_1 : decode cX2_isMissing 1 = .ok (.getfield 9, 3) := by decide +kernel
theorem dX2_isMissing_4 : decode cX2_isMissing 4 = .ok (.iconst (-1), 1) := by decide +kernel
theorem dX2_isMissing_5 : decode cX2_isMissing 5 = .ok (.if_icmp .ne 7, 3) := by decide +kernel
theorem dX2_isMissing_8 : decode cX2_isMissing 8 = .ok (.iconst 1, 1) := by decide +kernel
theorem dX2_isMissing_9 : decode cX2_isMissing 9 = .ok (.goto 4, 3) := by decide +kernel
theorem dX2_isMissing_12 : decode cX2_isMissing 12 = .ok (.iconst 0, 1) := by decide +kernel
theorem dX2_isMissing_13 : decode cX2_isMissing 13 = .ok (.ireturn, 1) := by decide +kernel
theorem dX2_has_0 : decode cX2_has 0 = .ok (.iload_n 1, 1) := by decide +kernel
theorem dX2_has_1 : decode cX2_has 1 = .ok (.ifCond .lt 15, 3) := by decide +kernel
theorem dX2_has_4 : decode cX2_has 4 = .ok (.iload_n 1, 1) := by decide +kernel
theorem dX2_has_5 : decode cX2_has 5 = .ok (.aload_n 0, 1) := by decide +kernel
theorem dX2_has_6 : decode cX2_has 6 = .ok (.getfield 19, 3) := by decide +kernel
theorem dX2_has_9 : decode cX2_has 9 = .ok (.if_icmp .ge 7, 3) := by decide +kernel
theorem dX2_has_12 : decode cX2_has 12 = .ok (.iconst 1, 1) := by decide +kernel
theorem dX2_has_13 : decode cX2_has 13 = .ok (.goto 4, 3) := by decide +kernel
theorem dX2_has_16 : decode cX2_has 16 = .ok (.iconst 0, 1) := by decide +kernel
theorem dX2_has_17 : decode cX2_has 17 = .ok (.ireturn, 1) := by decide +kernel
theorem dX2_hasRow_0 : decode cX2_hasRow 0 = .ok (.iload_n 1, 1) := by decide +kernel
theorem dX2_hasRow_1 : decode cX2_hasRow 1 = .ok (.ifCond .lt 29, 3) := by decide +kernel
theorem dX2_hasRow_4 : decode cX2_hasRow 4 = .ok (.iload_n 2, 1) := by decide +kernel
theorem dX2_hasRow_5 : decode cX2_hasRow 5 = .ok (.ifCond .lt 25, 3) := by decide +kernel
theorem dX2_hasRow_8 : decode cX2_hasRow 8 = .ok (.iload_n 1, 1) := by decide +kernel
theorem dX2_hasRow_9 : decode cX2_hasRow 9 = .ok (.aload_n 0, 1) := by decide +kernel
theorem dX2_hasRow_10 : decode cX2_hasRow 10 = .ok (.getfield 19, 3) := by decide +kernel
theorem dX2_hasRow_13 : decode cX2_hasRow 13 = .ok (.if_icmp .gt 17, 3) := by decide +kernel
theorem dX2_hasRow_16 : decode cX2_hasRow 16 = .ok (.iload_n 2, 1) := by decide +kernel
theorem dX2_hasRow_17 : decode cX2_hasRow 17 = .ok (.aload_n 0, 1) := by decide +kernel
theorem dX2_hasRow_18 : decode cX2_hasRow 18 = .ok (.getfield 19, 3) := by decide +kernel
theorem dX2_hasRow_21 : decode cX2_hasRow 21 = .ok (.iload_n 1, 1) := by decide +kernel
theorem dX2_hasRow_22 : decode cX2_hasRow 22 = .ok (.isub, 1) := by decide +kernel
theorem dX2_hasRow_23 : decode cX2_hasRow 23 = .ok (.if_icmp .gt 7, 3) := by decide +kernel
theorem dX2_hasRow_26 : decode cX2_hasRow 26 = .ok (.iconst 1, 1) := by decide +kernel
theorem dX2_hasRow_27 : decode cX2_hasRow 27 = .ok (.goto 4, 3) := by decide +kernel
theorem dX2_hasRow_30 : decode cX2_hasRow 30 = .ok (.iconst 0, 1) := by decide +kernel
theorem dX2_hasRow_31 : decode cX2_hasRow 31 = .ok (.ireturn, 1) := by decide +kernel
theorem dX2_become_0 : decode cX2_become 0 = .ok (.aload_n 0, 1) := by decide +kernel
theorem dX2_become_1 : decode cX2_become 1 = .ok (.iload_n 1, 1) := by decide +kernel
theorem dX2_become_2 : decode cX2_become 2 = .ok (.putfield 9, 3) := by decide +kernel
theorem dX2_become_5 : decode cX2_become 5 = .ok (.aload_n 0, 1) := by decide +kernel
theorem dX2_become_6 : decode cX2_become 6 = .ok (.iload_n 2, 1) := by decide +kernel
theorem dX2_become_7 : decode cX2_become 7 = .ok (.putfield 19, 3) := by decide +kernel
theorem dX2_become_10 : decode cX2_become 10 = .ok (.aload_n 0, 1) := by decide +kernel
theorem dX2_become_11 : decode cX2_become 11 = .ok (.getfield 15, 3) := by decide +kernel
theorem dX2_become_14 : decode cX2_become 14 = .ok (.iconst 0, 1) := by decide +kernel
theorem dX2_become_15 : decode cX2_become 15 = .ok (.invokestatic 22, 3) := by decide +kernel
theorem dX2_become_18 : decode cX2_become 18 = .ok (.return_, 1) := by decide +kernel
theorem dX2_take_0 : decode cX2_take 0 = .ok (.aload_n 0, 1) := by decide +kernel
theorem dX2_take_1 : decode cX2_take 1 = .ok (.aload_n 1, 1) := by decide +kernel
theorem dX2_take_2 : decode cX2_take 2 = .ok (.getfield 9, 3) := by decide +kernel
theorem dX2_take_5 : decode cX2_take 5 = .ok (.putfield 9, 3) := by decide +kernel
theorem dX2_take_8 : decode cX2_take 8 = .ok (.aload_n 0, 1) := by decide +kernel
theorem dX2_take_9 : decode cX2_take 9 = .ok (.aload_n 1, 1) := by decide +kernel
theorem dX2_take_10 : decode cX2_take 10 = .ok (.getfield 19, 3) := by decide +kernel
theorem dX2_take_13 : decode cX2_take 13 = .ok (.putfield 19, 3) := by decide +kernel
theorem dX2_take_16 : decode cX2_take 16 = .ok (.aload_n 1, 1) := by decide +kernel
theorem dX2_take_17 : decode cX2_take 17 = .ok (.getfield 15, 3) := by decide +kernel
theorem dX2_take_20 : decode cX2_take 20 = .ok (.iconst 0, 1) := by decide +kernel
theorem dX2_take_21 : decode cX2_take 21 = .ok (.aload_n 0, 1) := by decide +kernel
theorem dX2_take_22 : decode cX2_take 22 = .ok (.getfield 15, 3) := by decide +kernel
theorem dX2_take_25 : decode cX2_take 25 = .ok (.iconst 0, 1) := by decide +kernel
theorem dX2_take_26 : decode cX2_take 26 = .ok (.bipush 24, 2) := by decide +kernel
theorem dX2_take_28 : decode cX2_take 28 = .ok (.invokestatic 28, 3) := by decide +kernel
theorem dX2_take_31 : decode cX2_take 31 = .ok (.return_, 1) := by decide +kernel
theorem dX3_init_0 : decode cX3_init 0 = .ok (.aload_n 0, 1) := by decide +kernel
theorem dX3_init_1 : decode cX3_init 1 = .ok (.invokespecial 3, 3) := by decide +kernel
theorem dX3_init_4 : decode cX3_init 4 = .ok (.aload_n 0, 1) := by decide +kernel
theorem dX3_init_5 : decode cX3_init 5 = .ok (.iconst 0, 1) := by decide +kernel
theorem dX3_init_6 : decode cX3_init 6 = .ok (.putfield 9, 3) := by decide +kernel
theorem dX3_init_9 : decode cX3_init 9 = .ok (.aload_n 0, 1) := by decide +kernel
theorem dX3_init_10 : decode cX3_init 10 = .ok (.new 15, 3) := by decide +kernel
theorem dX3_init_13 : decode cX3_init 13 = .ok (.dup, 1) := by decide +kernel
theorem dX3_init_14 : decode cX3_init 14 = .ok (.invokespecial 17, 3) := by decide +kernel
theorem dX3_init_17 : decode cX3_init 17 = .ok (.putfield 18, 3) := by decide +kernel
theorem dX3_init_20 : decode cX3_init 20 = .ok (.aload_n 0, 1) := by decide +kernel
theorem dX3_init_21 : decode cX3_init 21 = .ok (.new 22, 3) := by decide +kernel
theorem dX3_init_24 : decode cX3_init 24 = .ok (.dup, 1) := by decide +kernel
theorem dX3_init_25 : decode cX3_init 25 = .ok (.invokespecial 24, 3) := by decide +kernel
theorem dX3_init_28 : decode cX3_init 28 = .ok (.putfield 25, 3) := by decide +kernel
theorem dX3_init_31 : decode cX3_init 31 = .ok (.return_, 1) := by decide +kernel
theorem dX4_init_0 : decode cX4_init 0 = .ok (.aload_n 0, 1) := by decide +kernel
theorem dX4_init_1 : decode cX4_init 1 = .ok (.invokespecial 3, 3) := by decide +kernel
theorem dX4_init_4 : decode cX4_init 4 = .ok (.aload_n 0, 1) := by decide +kernel
theorem dX4_init_5 : decode cX4_init 5 = .ok (.bipush 10, 2) := by decide +kernel
theorem dX4_init_7 : decode cX4_init 7 = .ok (.newarray .int, 2) := by decide +kernel
theorem dX4_init_9 : decode cX4_init 9 = .ok (.putfield 9, 3) := by decide +kernel
theorem dX4_init_12 : decode cX4_init 12 = .ok (.aload_n 0, 1) := by decide +kernel
theorem dX4_init_13 : decode cX4_init 13 = .ok (.bipush 8, 2) := by decide +kernel
theorem dX4_init_15 : decode cX4_init 15 = .ok (.newarray .int, 2) := by decide +kernel
theorem dX4_init_17 : decode cX4_init 17 = .ok (.putfield 15, 3) := by decide +kernel
theorem dX4_init_20 : decode cX4_init 20 = .ok (.aload_n 0, 1) := by decide +kernel
theorem dX4_init_21 : decode cX4_init 21 = .ok (.bipush 8, 2) := by decide +kernel
theorem dX4_init_23 : decode cX4_init 23 = .ok (.newarray .int, 2) := by decide +kernel
theorem dX4_init_25 : decode cX4_init 25 = .ok (.putfield 18, 3) := by decide +kernel
theorem dX4_init_28 : decode cX4_init 28 = .ok (.aload_n 0, 1) := by decide +kernel
theorem dX4_init_29 : decode cX4_init 29 = .ok (.bipush 8, 2) := by decide +kernel
theorem dX4_init_31 : decode cX4_init 31 = .ok (.newarray .int, 2) := by decide +kernel
theorem dX4_init_33 : decode cX4_init 33 = .ok (.putfield 21, 3) := by decide +kernel
theorem dX4_init_36 : decode cX4_init 36 = .ok (.return_, 1) := by decide +kernel
theorem dX4_look_0 : decode cX4_look 0 = .ok (.iconst 0, 1) := by decide +kernel
theorem dX4_look_1 : decode cX4_look 1 = .ok (.istore_n 2, 1) := by decide +kernel
theorem dX4_look_2 : decode cX4_look 2 = .ok (.iload_n 2, 1) := by decide +kernel
theorem dX4_look_3 : decode cX4_look 3 = .ok (.aload_n 1, 1) := by decide +kernel
theorem dX4_look_4 : decode cX4_look 4 = .ok (.getfield 24, 3) := by decide +kernel
theorem dX4_look_7 : decode cX4_look 7 = .ok (.if_icmp .ge 15, 3) := by decide +kernel
theorem dX4_look_10 : decode cX4_look 10 = .ok (.aload_n 0, 1) := by decide +kernel
theorem dX4_look_11 : decode cX4_look 11 = .ok (.aload_n 1, 1) := by decide +kernel
theorem dX4_look_12 : decode cX4_look 12 = .ok (.iload_n 2, 1) := by decide +kernel
theorem dX4_look_13 : decode cX4_look 13 = .ok (.invokevirtual 30, 3) := by decide +kernel
theorem dX4_look_16 : decode cX4_look 16 = .ok (.iinc 2 1, 3) := by decide +kernel
theorem dX4_look_19 : decode cX4_look 19 = .ok (.goto (-17), 3) := by decide +kernel
theorem dX4_look_22 : decode cX4_look 22 = .ok (.return_, 1) := by decide +kernel
theorem dX4_lookAt_0 : decode cX4_lookAt 0 = .ok (.aload_n 0, 1) := by decide +kernel
theorem dX4_lookAt_1 : decode cX4_lookAt 1 = .ok (.getfield 18, 3) := by decide +kernel
theorem dX4_lookAt_4 : decode cX4_lookAt 4 = .ok (.iload_n 2, 1) := by decide +kernel
theorem dX4_lookAt_5 : decode cX4_lookAt 5 = .ok (.aload_n 1, 1) := by decide +kernel
theorem dX4_lookAt_6 : decode cX4_lookAt 6 = .ok (.iload_n 2, 1) := by decide +kernel
theorem dX4_lookAt_7 : decode cX4_lookAt 7 = .ok (.iconst 0, 1) := by decide +kernel
theorem dX4_lookAt_8 : decode cX4_lookAt 8 = .ok (.invokevirtual 34, 3) := by decide +kernel
theorem dX4_lookAt_11 : decode cX4_lookAt 11 = .ok (.iastore, 1) := by decide +kernel
theorem dX4_lookAt_12 : decode cX4_lookAt 12 = .ok (.aload_n 0, 1) := by decide +kernel
theorem dX4_lookAt_13 : decode cX4_lookAt 13 = .ok (.getfield 21, 3) := by decide +kernel
theorem dX4_lookAt_16 : decode cX4_lookAt 16 = .ok (.iload_n 2, 1) := by decide +kernel
theorem dX4_lookAt_17 : decode cX4_lookAt 17 = .ok (.aload_n 1, 1) := by decide +kernel
theorem dX4_lookAt_18 : decode cX4_lookAt 18 = .ok (.iload_n 2, 1) := by decide +kernel
theorem dX4_lookAt_19 : decode cX4_lookAt 19 = .ok (.iconst 1, 1) := by decide +kernel
theorem dX4_lookAt_20 : decode cX4_lookAt 20 = .ok (.invokevirtual 34, 3) := by decide +kernel
theorem dX4_lookAt_23 : decode cX4_lookAt 23 = .ok (.iastore, 1) := by decide +kernel
theorem dX4_lookAt_24 : decode cX4_lookAt 24 = .ok (.return_, 1) := by decide +kernel
theorem dX4_liked_0 : decode cX4_liked 0 = .ok (.aload_n 1, 1) := by decide +kernel
theorem dX4_liked_1 : decode cX4_liked 1 = .ok (.getfield 38, 3) := by decide +kernel
theorem dX4_liked_4 : decode cX4_liked 4 = .ok (.iload_n 2, 1) := by decide +kernel
theorem dX4_liked_5 : decode cX4_liked 5 = .ok (.aaload, 1) := by decide +kernel
theorem dX4_liked_6 : decode cX4_liked 6 = .ok (.getfield 42, 3) := by decide +kernel
theorem dX4_liked_9 : decode cX4_liked 9 = .ok (.iload_n 3, 1) := by decide +kernel
theorem dX4_liked_10 : decode cX4_liked 10 = .ok (.if_icmp .ne 12, 3) := by decide +kernel
theorem dX4_liked_13 : decode cX4_liked 13 = .ok (.aload_n 0, 1) := by decide +kernel
theorem dX4_liked_14 : decode cX4_liked 14 = .ok (.getfield 21, 3) := by decide +kernel
theorem dX4_liked_17 : decode cX4_liked 17 = .ok (.iload_n 3, 1) := by decide +kernel
theorem dX4_liked_18 : decode cX4_liked 18 = .ok (.iaload, 1) := by decide +kernel
theorem dX4_liked_19 : decode cX4_liked 19 = .ok (.goto 9, 3) := by decide +kernel
theorem dX4_liked_22 : decode cX4_liked 22 = .ok (.aload_n 0, 1) := by decide +kernel
theorem dX4_liked_23 : decode cX4_liked 23 = .ok (.getfield 18, 3) := by decide +kernel
theorem dX4_liked_26 : decode cX4_liked 26 = .ok (.iload_n 3, 1) := by decide +kernel
theorem dX4_liked_27 : decode cX4_liked 27 = .ok (.iaload, 1) := by decide +kernel
theorem dX4_liked_28 : decode cX4_liked 28 = .ok (.ireturn, 1) := by decide +kernel
theorem dX4_wants_0 : decode cX4_wants 0 = .ok (.aload_n 0, 1) := by decide +kernel
theorem dX4_wants_1 : decode cX4_wants 1 = .ok (.aload_n 1, 1) := by decide +kernel
theorem dX4_wants_2 : decode cX4_wants 2 = .ok (.iload_n 2, 1) := by decide +kernel
theorem dX4_wants_3 : decode cX4_wants 3 = .ok (.iload_n 3, 1) := by decide +kernel
theorem dX4_wants_4 : decode cX4_wants 4 = .ok (.invokevirtual 47, 3) := by decide +kernel
theorem dX4_wants_7 : decode cX4_wants 7 = .ok (.aload_n 1, 1) := by decide +kernel
theorem dX4_wants_8 : decode cX4_wants 8 = .ok (.getfield 51, 3) := by decide +kernel
theorem dX4_wants_11 : decode cX4_wants 11 = .ok (.iconst 0, 1) := by decide +kernel
theorem dX4_wants_12 : decode cX4_wants 12 = .ok (.iaload, 1) := by decide +kernel
theorem dX4_wants_13 : decode cX4_wants 13 = .ok (.if_icmp .lt 7, 3) := by decide +kernel
theorem dX4_wants_16 : decode cX4_wants 16 = .ok (.iconst 1, 1) := by decide +kernel
theorem dX4_wants_17 : decode cX4_wants 17 = .ok (.goto 4, 3) := by decide +kernel
theorem dX4_wants_20 : decode cX4_wants 20 = .ok (.iconst 0, 1) := by decide +kernel
theorem dX4_wants_21 : decode cX4_wants 21 = .ok (.ireturn, 1) := by decide +kernel
theorem dX4_settle_0 : decode cX4_settle 0 = .ok (.aload_n 0, 1) := by decide +kernel
theorem dX4_settle_1 : decode cX4_settle 1 = .ok (.getfield 9, 3) := by decide +kernel
theorem dX4_settle_4 : decode cX4_settle 4 = .ok (.ldc 54, 2) := by decide +kernel
theorem dX4_settle_6 : decode cX4_settle 6 = .ok (.invokestatic 55, 3) := by decide +kernel
theorem dX4_settle_9 : decode cX4_settle 9 = .ok (.aload_n 0, 1) := by decide +kernel
theorem dX4_settle_10 : decode cX4_settle 10 = .ok (.getfield 15, 3) := by decide +kernel
theorem dX4_settle_13 : decode cX4_settle 13 = .ok (.ldc 54, 2) := by decide +kernel
theorem dX4_settle_15 : decode cX4_settle 15 = .ok (.invokestatic 55, 3) := by decide +kernel
theorem dX4_settle_18 : decode cX4_settle 18 = .ok (.iconst 0, 1) := by decide +kernel
theorem dX4_settle_19 : decode cX4_settle 19 = .ok (.istore_n 3, 1) := by decide +kernel
theorem dX4_settle_20 : decode cX4_settle 20 = .ok (.iconst 0, 1) := by decide +kernel
theorem dX4_settle_21 : decode cX4_settle 21 = .ok (.istore 4, 2) := by decide +kernel
theorem dX4_settle_23 : decode cX4_settle 23 = .ok (.iload 4, 2) := by decide +kernel
theorem dX4_settle_25 : decode cX4_settle 25 = .ok (.aload_n 1, 1) := by decide +kernel
theorem dX4_settle_26 : decode cX4_settle 26 = .ok (.getfield 61, 3) := by decide +kernel
theorem dX4_settle_29 : decode cX4_settle 29 = .ok (.if_icmp .ge 57, 3) := by decide +kernel
theorem dX4_settle_32 : decode cX4_settle 32 = .ok (.aload_n 0, 1) := by decide +kernel
theorem dX4_settle_33 : decode cX4_settle 33 = .ok (.aload_n 1, 1) := by decide +kernel
theorem dX4_settle_34 : decode cX4_settle 34 = .ok (.iload_n 3, 1) := by decide +kernel
theorem dX4_settle_35 : decode cX4_settle 35 = .ok (.invokevirtual 64, 3) := by decide +kernel
theorem dX4_settle_38 : decode cX4_settle 38 = .ok (.istore 5, 2) := by decide +kernel
theorem dX4_settle_40 : decode cX4_settle 40 = .ok (.iload 5, 2) := by decide +kernel
theorem dX4_settle_42 : decode cX4_settle 42 = .ok (.ldc 54, 2) := by decide +kernel
theorem dX4_settle_44 : decode cX4_settle 44 = .ok (.if_icmp .ne 4, 3) := by decide +kernel
theorem dX4_settle_47 : decode cX4_settle 47 = .ok (.return_, 1) := by decide +kernel
theorem dX4_settle_48 : decode cX4_settle 48 = .ok (.iload_n 3, 1) := by decide +kernel
theorem dX4_settle_49 : decode cX4_settle 49 = .ok (.iconst 1, 1) := by decide +kernel
theorem dX4_settle_50 : decode cX4_settle 50 = .ok (.iload 5, 2) := by decide +kernel
theorem dX4_settle_52 : decode cX4_settle 52 = .ok (.ishl, 1) := by decide +kernel
theorem dX4_settle_53 : decode cX4_settle 53 = .ok (.ior, 1) := by decide +kernel
theorem dX4_settle_54 : decode cX4_settle 54 = .ok (.istore_n 3, 1) := by decide +kernel
theorem dX4_settle_55 : decode cX4_settle 55 = .ok (.aload_n 0, 1) := by decide +kernel
theorem dX4_settle_56 : decode cX4_settle 56 = .ok (.aload_n 1, 1) := by decide +kernel
theorem dX4_settle_57 : decode cX4_settle 57 = .ok (.iload 5, 2) := by decide +kernel
theorem dX4_settle_59 : decode cX4_settle 59 = .ok (.iload_n 2, 1) := by decide +kernel
theorem dX4_settle_60 : decode cX4_settle 60 = .ok (.invokevirtual 68, 3) := by decide +kernel
theorem dX4_settle_63 : decode cX4_settle 63 = .ok (.istore 6, 2) := by decide +kernel
theorem dX4_settle_65 : decode cX4_settle 65 = .ok (.iload 6, 2) := by decide +kernel
theorem dX4_settle_67 : decode cX4_settle 67 = .ok (.ldc 54, 2) := by decide +kernel
theorem dX4_settle_69 : decode cX4_settle 69 = .ok (.if_icmp .eq 11, 3) := by decide +kernel
theorem dX4_settle_72 : decode cX4_settle 72 = .ok (.aload_n 0, 1) := by decide +kernel
theorem dX4_settle_73 : decode cX4_settle 73 = .ok (.iload 5, 2) := by decide +kernel
theorem dX4_settle_75 : decode cX4_settle 75 = .ok (.iload 6, 2) := by decide +kernel
theorem dX4_settle_77 : decode cX4_settle 77 = .ok (.invokevirtual 71, 3) := by decide +kernel
theorem dX4_settle_80 : decode cX4_settle 80 = .ok (.iinc 4 1, 3) := by decide +kernel
theorem dX4_settle_83 : decode cX4_settle 83 = .ok (.goto (-60), 3) := by decide +kernel
theorem dX4_settle_86 : decode cX4_settle 86 = .ok (.return_, 1) := by decide +kernel
theorem dX4_move_0 : decode cX4_move 0 = .ok (.aload_n 0, 1) := by decide +kernel
theorem dX4_move_1 : decode cX4_move 1 = .ok (.getfield 9, 3) := by decide +kernel
theorem dX4_move_4 : decode cX4_move 4 = .ok (.iload_n 1, 1) := by decide +kernel
theorem dX4_move_5 : decode cX4_move 5 = .ok (.iload_n 2, 1) := by decide +kernel
theorem dX4_move_6 : decode cX4_move 6 = .ok (.iastore, 1) := by decide +kernel
theorem dX4_move_7 : decode cX4_move 7 = .ok (.aload_n 0, 1) := by decide +kernel
theorem dX4_move_8 : decode cX4_move 8 = .ok (.getfield 15, 3) := by decide +kernel
theorem dX4_move_11 : decode cX4_move 11 = .ok (.iload_n 2, 1) := by decide +kernel
theorem dX4_move_12 : decode cX4_move 12 = .ok (.iload_n 1, 1) := by decide +kernel
theorem dX4_move_13 : decode cX4_move 13 = .ok (.iastore, 1) := by decide +kernel
theorem dX4_move_14 : decode cX4_move 14 = .ok (.return_, 1) := by decide +kernel
theorem dX4_strongest_0 : decode cX4_strongest 0 = .ok (.ldc 54, 2) := by decide +kernel
theorem dX4_strongest_2 : decode cX4_strongest 2 = .ok (.istore_n 3, 1) := by decide +kernel
theorem dX4_strongest_3 : decode cX4_strongest 3 = .ok (.iconst 0, 1) := by decide +kernel
theorem dX4_strongest_4 : decode cX4_strongest 4 = .ok (.istore 4, 2) := by decide +kernel
theorem dX4_strongest_6 : decode cX4_strongest 6 = .ok (.iload 4, 2) := by decide +kernel
theorem dX4_strongest_8 : decode cX4_strongest 8 = .ok (.aload_n 1, 1) := by decide +kernel
theorem dX4_strongest_9 : decode cX4_strongest 9 = .ok (.getfield 61, 3) := by decide +kernel
theorem dX4_strongest_12 : decode cX4_strongest 12 = .ok (.if_icmp .ge 62, 3) := by decide +kernel
theorem dX4_strongest_15 : decode cX4_strongest 15 = .ok (.aload_n 1, 1) := by decide +kernel
theorem dX4_strongest_16 : decode cX4_strongest 16 = .ok (.getfield 38, 3) := by decide +kernel
theorem dX4_strongest_19 : decode cX4_strongest 19 = .ok (.iload 4, 2) := by decide +kernel
theorem dX4_strongest_21 : decode cX4_strongest 21 = .ok (.aaload, 1) := by decide +kernel
theorem dX4_strongest_22 : decode cX4_strongest 22 = .ok (.getfield 75, 3) := by decide +kernel
theorem dX4_strongest_25 : decode cX4_strongest 25 = .ok (.ifCond .ne 16, 3) := by decide +kernel
theorem dX4_strongest_28 : decode cX4_strongest 28 = .ok (.iload_n 2, 1) := by decide +kernel
theorem dX4_strongest_29 : decode cX4_strongest 29 = .ok (.iload 4, 2) := by decide +kernel
theorem dX4_strongest_31 : decode cX4_strongest 31 = .ok (.iushr, 1) := by decide +kernel
theorem dX4_strongest_32 : decode cX4_strongest 32 = .ok (.iconst 1, 1) := by decide +kernel
theorem dX4_strongest_33 : decode cX4_strongest 33 = .ok (.iand, 1) := by decide +kernel
theorem dX4_strongest_34 : decode cX4_strongest 34 = .ok (.ifCond .ne 7, 3) := by decide +kernel
theorem dX4_strongest_37 : decode cX4_strongest 37 = .ok (.iconst 1, 1) := by decide +kernel
theorem dX4_strongest_38 : decode cX4_strongest 38 = .ok (.goto 4, 3) := by decide +kernel
theorem dX4_strongest_41 : decode cX4_strongest 41 = .ok (.iconst 0, 1) := by decide +kernel
theorem dX4_strongest_42 : decode cX4_strongest 42 = .ok (.istore 5, 2) := by decide +kernel
theorem dX4_strongest_44 : decode cX4_strongest 44 = .ok (.iload 5, 2) := by decide +kernel
theorem dX4_strongest_46 : decode cX4_strongest 46 = .ok (.ifCond .eq 22, 3) := by decide +kernel
theorem dX4_strongest_49 : decode cX4_strongest 49 = .ok (.iload_n 3, 1) := by decide +kernel
theorem dX4_strongest_50 : decode cX4_strongest 50 = .ok (.ldc 54, 2) := by decide +kernel
theorem dX4_strongest_52 : decode cX4_strongest 52 = .ok (.if_icmp .eq 13, 3) := by decide +kernel
theorem dX4_strongest_55 : decode cX4_strongest 55 = .ok (.aload_n 1, 1) := by decide +kernel
theorem dX4_strongest_56 : decode cX4_strongest 56 = .ok (.iload 4, 2) := by decide +kernel
theorem dX4_strongest_58 : decode cX4_strongest 58 = .ok (.iload_n 3, 1) := by decide +kernel
theorem dX4_strongest_59 : decode cX4_strongest 59 = .ok (.invokevirtual 79, 3) := by decide +kernel
theorem dX4_strongest_62 : decode cX4_strongest 62 = .ok (.ifCond .eq 6, 3) := by decide +kernel
theorem dX4_strongest_65 : decode cX4_strongest 65 = .ok (.iload 4, 2) := by decide +kernel
theorem dX4_strongest_67 : decode cX4_strongest 67 = .ok (.istore_n 3, 1) := by decide +kernel
theorem dX4_strongest_68 : decode cX4_strongest 68 = .ok (.iinc 4 1, 3) := by decide +kernel
theorem dX4_strongest_71 : decode cX4_strongest 71 = .ok (.goto (-65), 3) := by decide +kernel
theorem dX4_strongest_74 : decode cX4_strongest 74 = .ok (.iload_n 3, 1) := by decide +kernel
theorem dX4_strongest_75 : decode cX4_strongest 75 = .ok (.ireturn, 1) := by decide +kernel
theorem dX4_bestLeft_0 : decode cX4_bestLeft 0 = .ok (.ldc 54, 2) := by decide +kernel
theorem dX4_bestLeft_2 : decode cX4_bestLeft 2 = .ok (.istore 4, 2) := by decide +kernel
theorem dX4_bestLeft_4 : decode cX4_bestLeft 4 = .ok (.iconst 0, 1) := by decide +kernel
theorem dX4_bestLeft_5 : decode cX4_bestLeft 5 = .ok (.istore 5, 2) := by decide +kernel
theorem dX4_bestLeft_7 : decode cX4_bestLeft 7 = .ok (.iload 5, 2) := by decide +kernel
theorem dX4_bestLeft_9 : decode cX4_bestLeft 9 = .ok (.aload_n 1, 1) := by decide +kernel
theorem dX4_bestLeft_10 : decode cX4_bestLeft 10 = .ok (.getfield 24, 3) := by decide +kernel
theorem dX4_bestLeft_13 : decode cX4_bestLeft 13 = .ok (.if_icmp .ge 80, 3) := by decide +kernel
theorem dX4_bestLeft_16 : decode cX4_bestLeft 16 = .ok (.iload 5, 2) := by decide +kernel
theorem dX4_bestLeft_18 : decode cX4_bestLeft 18 = .ok (.iload_n 3, 1) := by decide +kernel
theorem dX4_bestLeft_19 : decode cX4_bestLeft 19 = .ok (.if_icmp .eq 30, 3) := by decide +kernel
theorem dX4_bestLeft_22 : decode cX4_bestLeft 22 = .ok (.aload_n 0, 1) := by decide +kernel
theorem dX4_bestLeft_23 : decode cX4_bestLeft 23 = .ok (.getfield 15, 3) := by decide +kernel
theorem dX4_bestLeft_26 : decode cX4_bestLeft 26 = .ok (.iload 5, 2) := by decide +kernel
theorem dX4_bestLeft_28 : decode cX4_bestLeft 28 = .ok (.iaload, 1) := by decide +kernel
theorem dX4_bestLeft_29 : decode cX4_bestLeft 29 = .ok (.ldc 54, 2) := by decide +kernel
theorem dX4_bestLeft_31 : decode cX4_bestLeft 31 = .ok (.if_icmp .ne 18, 3) := by decide +kernel
theorem dX4_bestLeft_34 : decode cX4_bestLeft 34 = .ok (.aload_n 0, 1) := by decide +kernel
theorem dX4_bestLeft_35 : decode cX4_bestLeft 35 = .ok (.aload_n 1, 1) := by decide +kernel
theorem dX4_bestLeft_36 : decode cX4_bestLeft 36 = .ok (.iload_n 2, 1) := by decide +kernel
theorem dX4_bestLeft_37 : decode cX4_bestLeft 37 = .ok (.iload 5, 2) := by decide +kernel
theorem dX4_bestLeft_39 : decode cX4_bestLeft 39 = .ok (.invokevirtual 83, 3) := by decide +kernel
theorem dX4_bestLeft_42 : decode cX4_bestLeft 42 = .ok (.ifCond .eq 7, 3) := by decide +kernel
theorem dX4_bestLeft_45 : decode cX4_bestLeft 45 = .ok (.iconst 1, 1) := by decide +kernel
theorem dX4_bestLeft_46 : decode cX4_bestLeft 46 = .ok (.goto 4, 3) := by decide +kernel
theorem dX4_bestLeft_49 : decode cX4_bestLeft 49 = .ok (.iconst 0, 1) := by decide +kernel
theorem dX4_bestLeft_50 : decode cX4_bestLeft 50 = .ok (.istore 6, 2) := by decide +kernel
theorem dX4_bestLeft_52 : decode cX4_bestLeft 52 = .ok (.iload 6, 2) := by decide +kernel
theorem dX4_bestLeft_54 : decode cX4_bestLeft 54 = .ok (.ifCond .eq 33, 3) := by decide +kernel
theorem dX4_bestLeft_57 : decode cX4_bestLeft 57 = .ok (.iload 4, 2) := by decide +kernel
theorem dX4_bestLeft_59 : decode cX4_bestLeft 59 = .ok (.ldc 54, 2) := by decide +kernel
theorem dX4_bestLeft_61 : decode cX4_bestLeft 61 = .ok (.if_icmp .eq 22, 3) := by decide +kernel
theorem dX4_bestLeft_64 : decode cX4_bestLeft 64 = .ok (.aload_n 0, 1) := by decide +kernel
theorem dX4_bestLeft_65 : decode cX4_bestLeft 65 = .ok (.aload_n 1, 1) := by decide +kernel
theorem dX4_bestLeft_66 : decode cX4_bestLeft 66 = .ok (.iload_n 2, 1) := by decide +kernel
theorem dX4_bestLeft_67 : decode cX4_bestLeft 67 = .ok (.iload 5, 2) := by decide +kernel
theorem dX4_bestLeft_69 : decode cX4_bestLeft 69 = .ok (.invokevirtual 47, 3) := by decide +kernel
theorem dX4_bestLeft_72 : decode cX4_bestLeft 72 = .ok (.aload_n 0, 1) := by decide +kernel
theorem dX4_bestLeft_73 : decode cX4_bestLeft 73 = .ok (.aload_n 1, 1) := by decide +kernel
theorem dX4_bestLeft_74 : decode cX4_bestLeft 74 = .ok (.iload_n 2, 1) := by decide +kernel
theorem dX4_bestLeft_75 : decode cX4_bestLeft 75 = .ok (.iload 4, 2) := by decide +kernel
theorem dX4_bestLeft_77 : decode cX4_bestLeft 77 = .ok (.invokevirtual 47, 3) := by decide +kernel
theorem dX4_bestLeft_80 : decode cX4_bestLeft 80 = .ok (.if_icmp .le 7, 3) := by decide +kernel
theorem dX4_bestLeft_83 : decode cX4_bestLeft 83 = .ok (.iload 5, 2) := by decide +kernel
theorem dX4_bestLeft_85 : decode cX4_bestLeft 85 = .ok (.istore 4, 2) := by decide +kernel
theorem dX4_bestLeft_87 : decode cX4_bestLeft 87 = .ok (.iinc 5 1, 3) := by decide +kernel
theorem dX4_bestLeft_90 : decode cX4_bestLeft 90 = .ok (.goto (-83), 3) := by decide +kernel
theorem dX4_bestLeft_93 : decode cX4_bestLeft 93 = .ok (.iload 4, 2) := by decide +kernel
theorem dX4_bestLeft_95 : decode cX4_bestLeft 95 = .ok (.ireturn, 1) := by decide +kernel
theorem dX4_nestsIn_0 : decode cX4_nestsIn 0 = .ok (.iconst 0, 1) := by decide +kernel
theorem dX4_nestsIn_1 : decode cX4_nestsIn 1 = .ok (.istore_n 3, 1) := by decide +kernel
theorem dX4_nestsIn_2 : decode cX4_nestsIn 2 = .ok (.iconst 0, 1) := by decide +kernel
theorem dX4_nestsIn_3 : decode cX4_nestsIn 3 = .ok (.istore 4, 2) := by decide +kernel
theorem dX4_nestsIn_5 : decode cX4_nestsIn 5 = .ok (.iload 4, 2) := by decide +kernel
theorem dX4_nestsIn_7 : decode cX4_nestsIn 7 = .ok (.aload_n 1, 1) := by decide +kernel
theorem dX4_nestsIn_8 : decode cX4_nestsIn 8 = .ok (.getfield 24, 3) := by decide +kernel
theorem dX4_nestsIn_11 : decode cX4_nestsIn 11 = .ok (.if_icmp .ge 46, 3) := by decide +kernel
theorem dX4_nestsIn_14 : decode cX4_nestsIn 14 = .ok (.iload_n 3, 1) := by decide +kernel
theorem dX4_nestsIn_15 : decode cX4_nestsIn 15 = .ok (.aload_n 0, 1) := by decide +kernel
theorem dX4_nestsIn_16 : decode cX4_nestsIn 16 = .ok (.getfield 15, 3) := by decide +kernel
theorem dX4_nestsIn_19 : decode cX4_nestsIn 19 = .ok (.iload 4, 2) := by decide +kernel
theorem dX4_nestsIn_21 : decode cX4_nestsIn 21 = .ok (.iaload, 1) := by decide +kernel
theorem dX4_nestsIn_22 : decode cX4_nestsIn 22 = .ok (.ldc 54, 2) := by decide +kernel
theorem dX4_nestsIn_24 : decode cX4_nestsIn 24 = .ok (.if_icmp .eq 21, 3) := by decide +kernel
theorem dX4_nestsIn_27 : decode cX4_nestsIn 27 = .ok (.aload_n 1, 1) := by decide +kernel
theorem dX4_nestsIn_28 : decode cX4_nestsIn 28 = .ok (.getfield 87, 3) := by decide +kernel
theorem dX4_nestsIn_31 : decode cX4_nestsIn 31 = .ok (.iload 4, 2) := by decide +kernel
theorem dX4_nestsIn_33 : decode cX4_nestsIn 33 = .ok (.aaload, 1) := by decide +kernel
theorem dX4_nestsIn_34 : decode cX4_nestsIn 34 = .ok (.getfield 91, 3) := by decide +kernel
theorem dX4_nestsIn_37 : decode cX4_nestsIn 37 = .ok (.iload_n 2, 1) := by decide +kernel
theorem dX4_nestsIn_38 : decode cX4_nestsIn 38 = .ok (.if_icmp .ne 7, 3) := by decide +kernel
theorem dX4_nestsIn_41 : decode cX4_nestsIn 41 = .ok (.iconst 1, 1) := by decide +kernel
theorem dX4_nestsIn_42 : decode cX4_nestsIn 42 = .ok (.goto 4, 3) := by decide +kernel
theorem dX4_nestsIn_45 : decode cX4_nestsIn 45 = .ok (.iconst 0, 1) := by decide +kernel
theorem dX4_nestsIn_46 : decode cX4_nestsIn 46 = .ok (.invokestatic 96, 3) := by decide +kernel
theorem dX4_nestsIn_49 : decode cX4_nestsIn 49 = .ok (.iadd, 1) := by decide +kernel
theorem dX4_nestsIn_50 : decode cX4_nestsIn 50 = .ok (.istore_n 3, 1) := by decide +kernel
theorem dX4_nestsIn_51 : decode cX4_nestsIn 51 = .ok (.iinc 4 1, 3) := by decide +kernel
theorem dX4_nestsIn_54 : decode cX4_nestsIn 54 = .ok (.goto (-49), 3) := by decide +kernel
theorem dX4_nestsIn_57 : decode cX4_nestsIn 57 = .ok (.iload_n 3, 1) := by decide +kernel
theorem dX4_nestsIn_58 : decode cX4_nestsIn 58 = .ok (.ireturn, 1) := by decide +kernel
theorem dX4_allNests_0 : decode cX4_allNests 0 = .ok (.iconst 0, 1) := by decide +kernel
theorem dX4_allNests_1 : decode cX4_allNests 1 = .ok (.istore_n 2, 1) := by decide +kernel
theorem dX4_allNests_2 : decode cX4_allNests 2 = .ok (.iconst 0, 1) := by decide +kernel
theorem dX4_allNests_3 : decode cX4_allNests 3 = .ok (.istore_n 3, 1) := by decide +kernel
theorem dX4_allNests_4 : decode cX4_allNests 4 = .ok (.iload_n 3, 1) := by decide +kernel
theorem dX4_allNests_5 : decode cX4_allNests 5 = .ok (.iconst 4, 1) := by decide +kernel
theorem dX4_allNests_6 : decode cX4_allNests 6 = .ok (.if_icmp .ge 18, 3) := by decide +kernel
theorem dX4_allNests_9 : decode cX4_allNests 9 = .ok (.iload_n 2, 1) := by decide +kernel
theorem dX4_allNests_10 : decode cX4_allNests 10 = .ok (.aload_n 0, 1) := by decide +kernel
theorem dX4_allNests_11 : decode cX4_allNests 11 = .ok (.aload_n 1, 1) := by decide +kernel
theorem dX4_allNests_12 : decode cX4_allNests 12 = .ok (.iload_n 3, 1) := by decide +kernel
theorem dX4_allNests_13 : decode cX4_allNests 13 = .ok (.invokevirtual 100, 3) := by decide +kernel
theorem dX4_allNests_16 : decode cX4_allNests 16 = .ok (.iadd, 1) := by decide +kernel
theorem dX4_allNests_17 : decode cX4_allNests 17 = .ok (.istore_n 2, 1) := by decide +kernel
theorem dX4_allNests_18 : decode cX4_allNests 18 = .ok (.iinc 3 1, 3) := by decide +kernel
theorem dX4_allNests_21 : decode cX4_allNests 21 = .ok (.goto (-17), 3) := by decide +kernel
theorem dX4_allNests_24 : decode cX4_allNests 24 = .ok (.iload_n 2, 1) := by decide +kernel
theorem dX4_allNests_25 : decode cX4_allNests 25 = .ok (.ireturn, 1) := by decide +kernel
theorem dX4_seats_0 : decode cX4_seats 0 = .ok (.aload_n 1, 1) := by decide +kernel
theorem dX4_seats_1 : decode cX4_seats 1 = .ok (.aload_n 0, 1) := by decide +kernel
theorem dX4_seats_2 : decode cX4_seats 2 = .ok (.aload_n 1, 1) := by decide +kernel
theorem dX4_seats_3 : decode cX4_seats 3 = .ok (.iload_n 2, 1) := by decide +kernel
theorem dX4_seats_4 : decode cX4_seats 4 = .ok (.invokevirtual 100, 3) := by decide +kernel
theorem dX4_seats_7 : decode cX4_seats 7 = .ok (.iload_n 2, 1) := by decide +kernel
theorem dX4_seats_8 : decode cX4_seats 8 = .ok (.invokevirtual 103, 3) := by decide +kernel
theorem dX4_seats_11 : decode cX4_seats 11 = .ok (.ireturn, 1) := by decide +kernel
theorem dX4_allSeats_0 : decode cX4_allSeats 0 = .ok (.iconst 0, 1) := by decide +kernel
theorem dX4_allSeats_1 : decode cX4_allSeats 1 = .ok (.istore_n 2, 1) := by decide +kernel
theorem dX4_allSeats_2 : decode cX4_allSeats 2 = .ok (.iconst 0, 1) := by decide +kernel
theorem dX4_allSeats_3 : decode cX4_allSeats 3 = .ok (.istore_n 3, 1) := by decide +kernel
theorem dX4_allSeats_4 : decode cX4_allSeats 4 = .ok (.iload_n 3, 1) := by decide +kernel
theorem dX4_allSeats_5 : decode cX4_allSeats 5 = .ok (.iconst 4, 1) := by decide +kernel
theorem dX4_allSeats_6 : decode cX4_allSeats 6 = .ok (.if_icmp .ge 18, 3) := by decide +kernel
theorem dX4_allSeats_9 : decode cX4_allSeats 9 = .ok (.iload_n 2, 1) := by decide +kernel
theorem dX4_allSeats_10 : decode cX4_allSeats 10 = .ok (.aload_n 0, 1) := by decide +kernel
theorem dX4_allSeats_11 : decode cX4_allSeats 11 = .ok (.aload_n 1, 1) := by decide +kernel
theorem dX4_allSeats_12 : decode cX4_allSeats 12 = .ok (.iload_n 3, 1) := by decide +kernel
theorem dX4_allSeats_13 : decode cX4_allSeats 13 = .ok (.invokevirtual 106, 3) := by decide +kernel
theorem dX4_allSeats_16 : decode cX4_allSeats 16 = .ok (.iadd, 1) := by decide +kernel
theorem dX4_allSeats_17 : decode cX4_allSeats 17 = .ok (.istore_n 2, 1) := by decide +kernel
theorem dX4_allSeats_18 : decode cX4_allSeats 18 = .ok (.iinc 3 1, 3) := by decide +kernel
theorem dX4_allSeats_21 : decode cX4_allSeats 21 = .ok (.goto (-17), 3) := by decide +kernel
theorem dX4_allSeats_24 : decode cX4_allSeats 24 = .ok (.iload_n 2, 1) := by decide +kernel
theorem dX4_allSeats_25 : decode cX4_allSeats 25 = .ok (.ireturn, 1) := by decide +kernel
theorem dX4_winner_0 : decode cX4_winner 0 = .ok (.iconst 0, 1) := by decide +kernel
theorem dX4_winner_1 : decode cX4_winner 1 = .ok (.istore_n 2, 1) := by decide +kernel
theorem dX4_winner_2 : decode cX4_winner 2 = .ok (.aload_n 0, 1) := by decide +kernel
theorem dX4_winner_3 : decode cX4_winner 3 = .ok (.aload_n 1, 1) := by decide +kernel
theorem dX4_winner_4 : decode cX4_winner 4 = .ok (.iconst 0, 1) := by decide +kernel
theorem dX4_winner_5 : decode cX4_winner 5 = .ok (.invokevirtual 106, 3) := by decide +kernel
theorem dX4_winner_8 : decode cX4_winner 8 = .ok (.istore_n 3, 1) := by decide +kernel
theorem dX4_winner_9 : decode cX4_winner 9 = .ok (.iconst 1, 1) := by decide +kernel
theorem dX4_winner_10 : decode cX4_winner 10 = .ok (.istore 4, 2) := by decide +kernel
theorem dX4_winner_12 : decode cX4_winner 12 = .ok (.iload 4, 2) := by decide +kernel
theorem dX4_winner_14 : decode cX4_winner 14 = .ok (.iconst 4, 1) := by decide +kernel
theorem dX4_winner_15 : decode cX4_winner 15 = .ok (.if_icmp .ge 30, 3) := by decide +kernel
theorem dX4_winner_18 : decode cX4_winner 18 = .ok (.aload_n 0, 1) := by decide +kernel
theorem dX4_winner_19 : decode cX4_winner 19 = .ok (.aload_n 1, 1) := by decide +kernel
theorem dX4_winner_20 : decode cX4_winner 20 = .ok (.iload 4, 2) := by decide +kernel
theorem dX4_winner_22 : decode cX4_winner 22 = .ok (.invokevirtual 106, 3) := by decide +kernel
theorem dX4_winner_25 : decode cX4_winner 25 = .ok (.istore 5, 2) := by decide +kernel
theorem dX4_winner_27 : decode cX4_winner 27 = .ok (.iload 5, 2) := by decide +kernel
theorem dX4_winner_29 : decode cX4_winner 29 = .ok (.iload_n 3, 1) := by decide +kernel
theorem dX4_winner_30 : decode cX4_winner 30 = .ok (.if_icmp .le 9, 3) := by decide +kernel
theorem dX4_winner_33 : decode cX4_winner 33 = .ok (.iload 5, 2) := by decide +kernel
theorem dX4_winner_35 : decode cX4_winner 35 = .ok (.istore_n 3, 1) := by decide +kernel
theorem dX4_winner_36 : decode cX4_winner 36 = .ok (.iload 4, 2) := by decide +kernel
theorem dX4_winner_38 : decode cX4_winner 38 = .ok (.istore_n 2, 1) := by decide +kernel
theorem dX4_winner_39 : decode cX4_winner 39 = .ok (.iinc 4 1, 3) := by decide +kernel
theorem dX4_winner_42 : decode cX4_winner 42 = .ok (.goto (-30), 3) := by decide +kernel
theorem dX4_winner_45 : decode cX4_winner 45 = .ok (.iload_n 2, 1) := by decide +kernel
theorem dX4_winner_46 : decode cX4_winner 46 = .ok (.ireturn, 1) := by decide +kernel
theorem dX4_nestsTold_0 : decode cX4_nestsTold 0 = .ok (.aload_n 0, 1) := by decide +kernel
theorem dX4_nestsTold_1 : decode cX4_nestsTold 1 = .ok (.getfield 9, 3) := by decide +kernel
theorem dX4_nestsTold_4 : decode cX4_nestsTold 4 = .ok (.ldc 54, 2) := by decide +kernel
theorem dX4_nestsTold_6 : decode cX4_nestsTold 6 = .ok (.invokestatic 55, 3) := by decide +kernel
theorem dX4_nestsTold_9 : decode cX4_nestsTold 9 = .ok (.aload_n 0, 1) := by decide +kernel
theorem dX4_nestsTold_10 : decode cX4_nestsTold 10 = .ok (.getfield 15, 3) := by decide +kernel
theorem dX4_nestsTold_13 : decode cX4_nestsTold 13 = .ok (.ldc 54, 2) := by decide +kernel
theorem dX4_nestsTold_15 : decode cX4_nestsTold 15 = .ok (.invokestatic 55, 3) := by decide +kernel
theorem dX4_nestsTold_18 : decode cX4_nestsTold 18 = .ok (.iconst 0, 1) := by decide +kernel
theorem dX4_nestsTold_19 : decode cX4_nestsTold 19 = .ok (.istore_n 3, 1) := by decide +kernel
theorem dX4_nestsTold_20 : decode cX4_nestsTold 20 = .ok (.iload_n 3, 1) := by decide +kernel
theorem dX4_nestsTold_21 : decode cX4_nestsTold 21 = .ok (.aload_n 1, 1) := by decide +kernel
theorem dX4_nestsTold_22 : decode cX4_nestsTold 22 = .ok (.getfield 61, 3) := by decide +kernel
theorem dX4_nestsTold_25 : decode cX4_nestsTold 25 = .ok (.if_icmp .ge 65, 3) := by decide +kernel
theorem dX4_nestsTold_28 : decode cX4_nestsTold 28 = .ok (.iload_n 3, 1) := by decide +kernel
theorem dX4_nestsTold_29 : decode cX4_nestsTold 29 = .ok (.aload_n 2, 1) := by decide +kernel
theorem dX4_nestsTold_30 : decode cX4_nestsTold 30 = .ok (.getfield 109, 3) := by decide +kernel
theorem dX4_nestsTold_33 : decode cX4_nestsTold 33 = .ok (.if_icmp .ge 57, 3) := by decide +kernel
theorem dX4_nestsTold_36 : decode cX4_nestsTold 36 = .ok (.aload_n 2, 1) := by decide +kernel
theorem dX4_nestsTold_37 : decode cX4_nestsTold 37 = .ok (.getfield 114, 3) := by decide +kernel
theorem dX4_nestsTold_40 : decode cX4_nestsTold 40 = .ok (.iload_n 3, 1) := by decide +kernel
theorem dX4_nestsTold_41 : decode cX4_nestsTold 41 = .ok (.iaload, 1) := by decide +kernel
theorem dX4_nestsTold_42 : decode cX4_nestsTold 42 = .ok (.istore 4, 2) := by decide +kernel
theorem dX4_nestsTold_44 : decode cX4_nestsTold 44 = .ok (.aload_n 1, 1) := by decide +kernel
theorem dX4_nestsTold_45 : decode cX4_nestsTold 45 = .ok (.getfield 38, 3) := by decide +kernel
theorem dX4_nestsTold_48 : decode cX4_nestsTold 48 = .ok (.iload_n 3, 1) := by decide +kernel
theorem dX4_nestsTold_49 : decode cX4_nestsTold 49 = .ok (.aaload, 1) := by decide +kernel
theorem dX4_nestsTold_50 : decode cX4_nestsTold 50 = .ok (.getfield 75, 3) := by decide +kernel
theorem dX4_nestsTold_53 : decode cX4_nestsTold 53 = .ok (.ifCond .ne 31, 3) := by decide +kernel
theorem dX4_nestsTold_56 : decode cX4_nestsTold 56 = .ok (.aload_n 1, 1) := by decide +kernel
theorem dX4_nestsTold_57 : decode cX4_nestsTold 57 = .ok (.iload 4, 2) := by decide +kernel
theorem dX4_nestsTold_59 : decode cX4_nestsTold 59 = .ok (.invokevirtual 117, 3) := by decide +kernel
theorem dX4_nestsTold_62 : decode cX4_nestsTold 62 = .ok (.ifCond .eq 22, 3) := by decide +kernel
theorem dX4_nestsTold_65 : decode cX4_nestsTold 65 = .ok (.aload_n 0, 1) := by decide +kernel
theorem dX4_nestsTold_66 : decode cX4_nestsTold 66 = .ok (.getfield 15, 3) := by decide +kernel
theorem dX4_nestsTold_69 : decode cX4_nestsTold 69 = .ok (.iload 4, 2) := by decide +kernel
theorem dX4_nestsTold_71 : decode cX4_nestsTold 71 = .ok (.iaload, 1) := by decide +kernel
theorem dX4_nestsTold_72 : decode cX4_nestsTold 72 = .ok (.ldc 54, 2) := by decide +kernel
theorem dX4_nestsTold_74 : decode cX4_nestsTold 74 = .ok (.if_icmp .ne 10, 3) := by decide +kernel
theorem dX4_nestsTold_77 : decode cX4_nestsTold 77 = .ok (.aload_n 0, 1) := by decide +kernel
theorem dX4_nestsTold_78 : decode cX4_nestsTold 78 = .ok (.iload_n 3, 1) := by decide +kernel
theorem dX4_nestsTold_79 : decode cX4_nestsTold 79 = .ok (.iload 4, 2) := by decide +kernel
theorem dX4_nestsTold_81 : decode cX4_nestsTold 81 = .ok (.invokevirtual 71, 3) := by decide +kernel
theorem dX4_nestsTold_84 : decode cX4_nestsTold 84 = .ok (.iinc 3 1, 3) := by decide +kernel
theorem dX4_nestsTold_87 : decode cX4_nestsTold 87 = .ok (.goto (-67), 3) := by decide +kernel
theorem dX4_nestsTold_90 : decode cX4_nestsTold 90 = .ok (.return_, 1) := by decide +kernel
theorem dX4_betterFor_0 : decode cX4_betterFor 0 = .ok (.aload_n 0, 1) := by decide +kernel
theorem dX4_betterFor_1 : decode cX4_betterFor 1 = .ok (.getfield 9, 3) := by decide +kernel
theorem dX4_betterFor_4 : decode cX4_betterFor 4 = .ok (.iload_n 2, 1) := by decide +kernel
theorem dX4_betterFor_5 : decode cX4_betterFor 5 = .ok (.iaload, 1) := by decide +kernel
theorem dX4_betterFor_6 : decode cX4_betterFor 6 = .ok (.istore_n 3, 1) := by decide +kernel
theorem dX4_betterFor_7 : decode cX4_betterFor 7 = .ok (.iconst 0, 1) := by decide +kernel
theorem dX4_betterFor_8 : decode cX4_betterFor 8 = .ok (.istore 4, 2) := by decide +kernel
theorem dX4_betterFor_10 : decode cX4_betterFor 10 = .ok (.iload 4, 2) := by decide +kernel
theorem dX4_betterFor_12 : decode cX4_betterFor 12 = .ok (.aload_n 1, 1) := by decide +kernel
theorem dX4_betterFor_13 : decode cX4_betterFor 13 = .ok (.getfield 24, 3) := by decide +kernel
theorem dX4_betterFor_16 : decode cX4_betterFor 16 = .ok (.if_icmp .ge 98, 3) := by decide +kernel
theorem dX4_betterFor_19 : decode cX4_betterFor 19 = .ok (.iload_n 3, 1) := by decide +kernel
theorem dX4_betterFor_20 : decode cX4_betterFor 20 = .ok (.ldc 54, 2) := by decide +kernel
theorem dX4_betterFor_22 : decode cX4_betterFor 22 = .ok (.if_icmp .eq 21, 3) := by decide +kernel
theorem dX4_betterFor_25 : decode cX4_betterFor 25 = .ok (.aload_n 0, 1) := by decide +kernel
theorem dX4_betterFor_26 : decode cX4_betterFor 26 = .ok (.aload_n 1, 1) := by decide +kernel
theorem dX4_betterFor_27 : decode cX4_betterFor 27 = .ok (.iload_n 2, 1) := by decide +kernel
theorem dX4_betterFor_28 : decode cX4_betterFor 28 = .ok (.iload 4, 2) := by decide +kernel
theorem dX4_betterFor_30 : decode cX4_betterFor 30 = .ok (.invokevirtual 47, 3) := by decide +kernel
theorem dX4_betterFor_33 : decode cX4_betterFor 33 = .ok (.aload_n 0, 1) := by decide +kernel
theorem dX4_betterFor_34 : decode cX4_betterFor 34 = .ok (.aload_n 1, 1) := by decide +kernel
theorem dX4_betterFor_35 : decode cX4_betterFor 35 = .ok (.iload_n 2, 1) := by decide +kernel
theorem dX4_betterFor_36 : decode cX4_betterFor 36 = .ok (.iload_n 3, 1) := by decide +kernel
theorem dX4_betterFor_37 : decode cX4_betterFor 37 = .ok (.invokevirtual 47, 3) := by decide +kernel
theorem dX4_betterFor_40 : decode cX4_betterFor 40 = .ok (.if_icmp .le 7, 3) := by decide +kernel
theorem dX4_betterFor_43 : decode cX4_betterFor 43 = .ok (.iconst 1, 1) := by decide +kernel
theorem dX4_betterFor_44 : decode cX4_betterFor 44 = .ok (.goto 4, 3) := by decide +kernel
theorem dX4_betterFor_47 : decode cX4_betterFor 47 = .ok (.iconst 0, 1) := by decide +kernel
theorem dX4_betterFor_48 : decode cX4_betterFor 48 = .ok (.istore 5, 2) := by decide +kernel
theorem dX4_betterFor_50 : decode cX4_betterFor 50 = .ok (.aload_n 0, 1) := by decide +kernel
theorem dX4_betterFor_51 : decode cX4_betterFor 51 = .ok (.getfield 15, 3) := by decide +kernel
theorem dX4_betterFor_54 : decode cX4_betterFor 54 = .ok (.iload 4, 2) := by decide +kernel
theorem dX4_betterFor_56 : decode cX4_betterFor 56 = .ok (.iaload, 1) := by decide +kernel
theorem dX4_betterFor_57 : decode cX4_betterFor 57 = .ok (.ldc 54, 2) := by decide +kernel
theorem dX4_betterFor_59 : decode cX4_betterFor 59 = .ok (.if_icmp .eq 18, 3) := by decide +kernel
theorem dX4_betterFor_62 : decode cX4_betterFor 62 = .ok (.aload_n 1, 1) := by decide +kernel
theorem dX4_betterFor_63 : decode cX4_betterFor 63 = .ok (.iload_n 2, 1) := by decide +kernel
theorem dX4_betterFor_64 : decode cX4_betterFor 64 = .ok (.aload_n 0, 1) := by decide +kernel
theorem dX4_betterFor_65 : decode cX4_betterFor 65 = .ok (.getfield 15, 3) := by decide +kernel
theorem dX4_betterFor_68 : decode cX4_betterFor 68 = .ok (.iload 4, 2) := by decide +kernel
theorem dX4_betterFor_70 : decode cX4_betterFor 70 = .ok (.iaload, 1) := by decide +kernel
theorem dX4_betterFor_71 : decode cX4_betterFor 71 = .ok (.invokevirtual 79, 3) := by decide +kernel
theorem dX4_betterFor_74 : decode cX4_betterFor 74 = .ok (.ifCond .eq 7, 3) := by decide +kernel
theorem dX4_betterFor_77 : decode cX4_betterFor 77 = .ok (.iconst 1, 1) := by decide +kernel
theorem dX4_betterFor_78 : decode cX4_betterFor 78 = .ok (.goto 4, 3) := by decide +kernel
theorem dX4_betterFor_81 : decode cX4_betterFor 81 = .ok (.iconst 0, 1) := by decide +kernel
theorem dX4_betterFor_82 : decode cX4_betterFor 82 = .ok (.istore 6, 2) := by decide +kernel
theorem dX4_betterFor_84 : decode cX4_betterFor 84 = .ok (.iload 5, 2) := by decide +kernel
theorem dX4_betterFor_86 : decode cX4_betterFor 86 = .ok (.ifCond .eq 22, 3) := by decide +kernel
theorem dX4_betterFor_89 : decode cX4_betterFor 89 = .ok (.iload 6, 2) := by decide +kernel
theorem dX4_betterFor_91 : decode cX4_betterFor 91 = .ok (.ifCond .eq 17, 3) := by decide +kernel
theorem dX4_betterFor_94 : decode cX4_betterFor 94 = .ok (.aload_n 0, 1) := by decide +kernel
theorem dX4_betterFor_95 : decode cX4_betterFor 95 = .ok (.aload_n 1, 1) := by decide +kernel
theorem dX4_betterFor_96 : decode cX4_betterFor 96 = .ok (.iload_n 2, 1) := by decide +kernel
theorem dX4_betterFor_97 : decode cX4_betterFor 97 = .ok (.iload 4, 2) := by decide +kernel
theorem dX4_betterFor_99 : decode cX4_betterFor 99 = .ok (.invokevirtual 83, 3) := by decide +kernel
theorem dX4_betterFor_102 : decode cX4_betterFor 102 = .ok (.ifCond .eq 6, 3) := by decide +kernel
theorem dX4_betterFor_105 : decode cX4_betterFor 105 = .ok (.iload 4, 2) := by decide +kernel
theorem dX4_betterFor_107 : decode cX4_betterFor 107 = .ok (.ireturn, 1) := by decide +kernel
theorem dX4_betterFor_108 : decode cX4_betterFor 108 = .ok (.iinc 4 1, 3) := by decide +kernel
theorem dX4_betterFor_111 : decode cX4_betterFor 111 = .ok (.goto (-101), 3) := by decide +kernel
theorem dX4_betterFor_114 : decode cX4_betterFor 114 = .ok (.ldc 54, 2) := by decide +kernel
theorem dX4_betterFor_116 : decode cX4_betterFor 116 = .ok (.ireturn, 1) := by decide +kernel
theorem dX5_init_0 : decode cX5_init 0 = .ok (.aload_n 0, 1) := by decide +kernel
theorem dX5_init_1 : decode cX5_init 1 = .ok (.invokespecial 1, 3) := by decide +kernel
theorem dX5_init_4 : decode cX5_init 4 = .ok (.return_, 1) := by decide +kernel
theorem dX5_become_0 : decode cX5_become 0 = .ok (.aload_n 0, 1) := by decide +kernel
theorem dX5_become_1 : decode cX5_become 1 = .ok (.iload_n 1, 1) := by decide +kernel
theorem dX5_become_2 : decode cX5_become 2 = .ok (.putfield 7, 3) := by decide +kernel
theorem dX5_become_5 : decode cX5_become 5 = .ok (.aload_n 0, 1) := by decide +kernel
theorem dX5_become_6 : decode cX5_become 6 = .ok (.iload_n 2, 1) := by decide +kernel
theorem dX5_become_7 : decode cX5_become 7 = .ok (.putfield 13, 3) := by decide +kernel
theorem dX5_become_10 : decode cX5_become 10 = .ok (.aload_n 0, 1) := by decide +kernel
theorem dX5_become_11 : decode cX5_become 11 = .ok (.iload_n 3, 1) := by decide +kernel
theorem dX5_become_12 : decode cX5_become 12 = .ok (.putfield 16, 3) := by decide +kernel
theorem dX5_become_15 : decode cX5_become 15 = .ok (.return_, 1) := by decide +kernel
theorem dX5_take_0 : decode cX5_take 0 = .ok (.aload_n 0, 1) := by decide +kernel
theorem dX5_take_1 : decode cX5_take 1 = .ok (.aload_n 1, 1) := by decide +kernel
theorem dX5_take_2 : decode cX5_take 2 = .ok (.getfield 7, 3) := by decide +kernel
theorem dX5_take_5 : decode cX5_take 5 = .ok (.aload_n 1, 1) := by decide +kernel
theorem dX5_take_6 : decode cX5_take 6 = .ok (.getfield 13, 3) := by decide +kernel
theorem dX5_take_9 : decode cX5_take 9 = .ok (.aload_n 1, 1) := by decide +kernel
theorem dX5_take_10 : decode cX5_take 10 = .ok (.getfield 16, 3) := by decide +kernel
theorem dX5_take_13 : decode cX5_take 13 = .ok (.invokevirtual 20, 3) := by decide +kernel
theorem dX5_take_16 : decode cX5_take 16 = .ok (.return_, 1) := by decide +kernel
theorem dX6_init_0 : decode cX6_init 0 = .ok (.aload_n 0, 1) := by decide +kernel
theorem dX6_init_1 : decode cX6_init 1 = .ok (.invokespecial 3, 3) := by decide +kernel
theorem dX6_init_4 : decode cX6_init 4 = .ok (.aload_n 0, 1) := by decide +kernel
theorem dX6_init_5 : decode cX6_init 5 = .ok (.bipush 96, 2) := by decide +kernel
theorem dX6_init_7 : decode cX6_init 7 = .ok (.newarray .int, 2) := by decide +kernel
theorem dX6_init_9 : decode cX6_init 9 = .ok (.putfield 9, 3) := by decide +kernel
theorem dX6_init_12 : decode cX6_init 12 = .ok (.return_, 1) := by decide +kernel
theorem dX6_put_0 : decode cX6_put 0 = .ok (.bipush 24, 2) := by decide +kernel
theorem dX6_put_2 : decode cX6_put 2 = .ok (.istore_n 2, 1) := by decide +kernel
theorem dX6_put_3 : decode cX6_put 3 = .ok (.iload_n 2, 1) := by decide +kernel
theorem dX6_put_4 : decode cX6_put 4 = .ok (.ifCond .lt 44, 3) := by decide +kernel
theorem dX6_put_7 : decode cX6_put 7 = .ok (.aload_n 0, 1) := by decide +kernel
theorem dX6_put_8 : decode cX6_put 8 = .ok (.getfield 15, 3) := by decide +kernel
theorem dX6_put_11 : decode cX6_put 11 = .ok (.bipush 96, 2) := by decide +kernel
theorem dX6_put_13 : decode cX6_put 13 = .ok (.if_icmp .ge 35, 3) := by decide +kernel
theorem dX6_put_16 : decode cX6_put 16 = .ok (.aload_n 0, 1) := by decide +kernel
theorem dX6_put_17 : decode cX6_put 17 = .ok (.getfield 9, 3) := by decide +kernel
theorem dX6_put_20 : decode cX6_put 20 = .ok (.aload_n 0, 1) := by decide +kernel
theorem dX6_put_21 : decode cX6_put 21 = .ok (.getfield 15, 3) := by decide +kernel
theorem dX6_put_24 : decode cX6_put 24 = .ok (.iload_n 1, 1) := by decide +kernel
theorem dX6_put_25 : decode cX6_put 25 = .ok (.iload_n 2, 1) := by decide +kernel
theorem dX6_put_26 : decode cX6_put 26 = .ok (.iushr, 1) := by decide +kernel
theorem dX6_put_27 : decode cX6_put 27 = .ok (.sipush 255, 3) := by decide +kernel
theorem dX6_put_30 : decode cX6_put 30 = .ok (.iand, 1) := by decide +kernel
theorem dX6_put_31 : decode cX6_put 31 = .ok (.iastore, 1) := by decide +kernel
theorem dX6_put_32 : decode cX6_put 32 = .ok (.aload_n 0, 1) := by decide +kernel
theorem dX6_put_33 : decode cX6_put 33 = .ok (.dup, 1) := by decide +kernel
theorem dX6_put_34 : decode cX6_put 34 = .ok (.getfield 15, 3) := by decide +kernel
theorem dX6_put_37 : decode cX6_put 37 = .ok (.iconst 1, 1) := by decide +kernel
theorem dX6_put_38 : decode cX6_put 38 = .ok (.iadd, 1) := by decide +kernel
theorem dX6_put_39 : decode cX6_put 39 = .ok (.putfield 15, 3) := by decide +kernel
theorem dX6_put_42 : decode cX6_put 42 = .ok (.iinc 2 (-8), 3) := by decide +kernel
theorem dX6_put_45 : decode cX6_put 45 = .ok (.goto (-42), 3) := by decide +kernel
theorem dX6_put_48 : decode cX6_put 48 = .ok (.return_, 1) := by decide +kernel
theorem dX6_endOf_0 : decode cX6_endOf 0 = .ok (.iload_n 1, 1) := by decide +kernel
theorem dX6_endOf_1 : decode cX6_endOf 1 = .ok (.iconst 1, 1) := by decide +kernel
theorem dX6_endOf_2 : decode cX6_endOf 2 = .ok (.iadd, 1) := by decide +kernel
theorem dX6_endOf_3 : decode cX6_endOf 3 = .ok (.istore_n 2, 1) := by decide +kernel
theorem dX6_endOf_4 : decode cX6_endOf 4 = .ok (.aload_n 0, 1) := by decide +kernel
theorem dX6_endOf_5 : decode cX6_endOf 5 = .ok (.getfield 9, 3) := by decide +kernel
theorem dX6_endOf_8 : decode cX6_endOf 8 = .ok (.iload_n 1, 1) := by decide +kernel
theorem dX6_endOf_9 : decode cX6_endOf 9 = .ok (.iaload, 1) := by decide +kernel
theorem dX6_endOf_10 : decode cX6_endOf 10 = .ok (.invokestatic 19, 3) := by decide +kernel
theorem dX6_endOf_13 : decode cX6_endOf 13 = .ok (.ifCond .eq 29, 3) := by decide +kernel
theorem dX6_endOf_16 : decode cX6_endOf 16 = .ok (.iload_n 2, 1) := by decide +kernel
theorem dX6_endOf_17 : decode cX6_endOf 17 = .ok (.aload_n 0, 1) := by decide +kernel
theorem dX6_endOf_18 : decode cX6_endOf 18 = .ok (.getfield 15, 3) := by decide +kernel
theorem dX6_endOf_21 : decode cX6_endOf 21 = .ok (.if_icmp .ge 59, 3) := by decide +kernel
theorem dX6_endOf_24 : decode cX6_endOf 24 = .ok (.aload_n 0, 1) := by decide +kernel
theorem dX6_endOf_25 : decode cX6_endOf 25 = .ok (.getfield 9, 3) := by decide +kernel
theorem dX6_endOf_28 : decode cX6_endOf 28 = .ok (.iload_n 2, 1) := by decide +kernel
theorem dX6_endOf_29 : decode cX6_endOf 29 = .ok (.iaload, 1) := by decide +kernel
theorem dX6_endOf_30 : decode cX6_endOf 30 = .ok (.invokestatic 19, 3) := by decide +kernel
theorem dX6_endOf_33 : decode cX6_endOf 33 = .ok (.ifCond .eq 47, 3) := by decide +kernel
theorem dX6_endOf_36 : decode cX6_endOf 36 = .ok (.iinc 2 1, 3) := by decide +kernel
theorem dX6_endOf_39 : decode cX6_endOf 39 = .ok (.goto (-23), 3) := by decide +kernel
theorem dX6_endOf_42 : decode cX6_endOf 42 = .ok (.aload_n 0, 1) := by decide +kernel
theorem dX6_endOf_43 : decode cX6_endOf 43 = .ok (.getfield 9, 3) := by decide +kernel
theorem dX6_endOf_46 : decode cX6_endOf 46 = .ok (.iload_n 1, 1) := by decide +kernel
theorem dX6_endOf_47 : decode cX6_endOf 47 = .ok (.iaload, 1) := by decide +kernel
theorem dX6_endOf_48 : decode cX6_endOf 48 = .ok (.invokestatic 23, 3) := by decide +kernel
theorem dX6_endOf_51 : decode cX6_endOf 51 = .ok (.ifCond .eq 29, 3) := by decide +kernel
theorem dX6_endOf_54 : decode cX6_endOf 54 = .ok (.iload_n 2, 1) := by decide +kernel
theorem dX6_endOf_55 : decode cX6_endOf 55 = .ok (.aload_n 0, 1) := by decide +kernel
theorem dX6_endOf_56 : decode cX6_endOf 56 = .ok (.getfield 15, 3) := by decide +kernel
theorem dX6_endOf_59 : decode cX6_endOf 59 = .ok (.if_icmp .ge 21, 3) := by decide +kernel
theorem dX6_endOf_62 : decode cX6_endOf 62 = .ok (.aload_n 0, 1) := by decide +kernel
theorem dX6_endOf_63 : decode cX6_endOf 63 = .ok (.getfield 9, 3) := by decide +kernel
theorem dX6_endOf_66 : decode cX6_endOf 66 = .ok (.iload_n 2, 1) := by decide +kernel
theorem dX6_endOf_67 : decode cX6_endOf 67 = .ok (.iaload, 1) := by decide +kernel
theorem dX6_endOf_68 : decode cX6_endOf 68 = .ok (.invokestatic 23, 3) := by decide +kernel
theorem dX6_endOf_71 : decode cX6_endOf 71 = .ok (.ifCond .eq 9, 3) := by decide +kernel
theorem dX6_endOf_74 : decode cX6_endOf 74 = .ok (.iinc 2 1, 3) := by decide +kernel
theorem dX6_endOf_77 : decode cX6_endOf 77 = .ok (.goto (-23), 3) := by decide +kernel
theorem dX6_endOf_80 : decode cX6_endOf 80 = .ok (.iload_n 2, 1) := by decide +kernel
theorem dX6_endOf_81 : decode cX6_endOf 81 = .ok (.ireturn, 1) := by decide +kernel
theorem dX6_isWord_0 : decode cX6_isWord 0 = .ok (.iload_n 2, 1) := by decide +kernel
theorem dX6_isWord_1 : decode cX6_isWord 1 = .ok (.iload_n 1, 1) := by decide +kernel
theorem dX6_isWord_2 : decode cX6_isWord 2 = .ok (.isub, 1) := by decide +kernel
theorem dX6_isWord_3 : decode cX6_isWord 3 = .ok (.aload_n 3, 1) := by decide +kernel
theorem dX6_isWord_4 : decode cX6_isWord 4 = .ok (.invokevirtual 26, 3) := by decide +kernel
theorem dX6_isWord_7 : decode cX6_isWord 7 = .ok (.if_icmp .eq 5, 3) := by decide +kernel
theorem dX6_isWord_10 : decode cX6_isWord 10 = .ok (.iconst 0, 1) := by decide +kernel
theorem dX6_isWord_11 : decode cX6_isWord 11 = .ok (.ireturn, 1) := by decide +kernel
theorem dX6_isWord_12 : decode cX6_isWord 12 = .ok (.iconst 0, 1) := by decide +kernel
theorem dX6_isWord_13 : decode cX6_isWord 13 = .ok (.istore 4, 2) := by decide +kernel
theorem dX6_isWord_15 : decode cX6_isWord 15 = .ok (.iload 4, 2) := by decide +kernel
theorem dX6_isWord_17 : decode cX6_isWord 17 = .ok (.aload_n 3, 1) := by decide +kernel
theorem dX6_isWord_18 : decode cX6_isWord 18 = .ok (.invokevirtual 26, 3) := by decide +kernel
theorem dX6_isWord_21 : decode cX6_isWord 21 = .ok (.if_icmp .ge 29, 3) := by decide +kernel
theorem dX6_isWord_24 : decode cX6_isWord 24 = .ok (.aload_n 0, 1) := by decide +kernel
theorem dX6_isWord_25 : decode cX6_isWord 25 = .ok (.getfield 9, 3) := by decide +kernel
theorem dX6_isWord_28 : decode cX6_isWord 28 = .ok (.iload_n 1, 1) := by decide +kernel
theorem dX6_isWord_29 : decode cX6_isWord 29 = .ok (.iload 4, 2) := by decide +kernel
theorem dX6_isWord_31 : decode cX6_isWord 31 = .ok (.iadd, 1) := by decide +kernel
theorem dX6_isWord_32 : decode cX6_isWord 32 = .ok (.iaload, 1) := by decide +kernel
theorem dX6_isWord_33 : decode cX6_isWord 33 = .ok (.aload_n 3, 1) := by decide +kernel
theorem dX6_isWord_34 : decode cX6_isWord 34 = .ok (.iload 4, 2) := by decide +kernel
theorem dX6_isWord_36 : decode cX6_isWord 36 = .ok (.invokevirtual 32, 3) := by decide +kernel
theorem dX6_isWord_39 : decode cX6_isWord 39 = .ok (.if_icmp .eq 5, 3) := by decide +kernel
theorem dX6_isWord_42 : decode cX6_isWord 42 = .ok (.iconst 0, 1) := by decide +kernel
theorem dX6_isWord_43 : decode cX6_isWord 43 = .ok (.ireturn, 1) := by decide +kernel
theorem dX6_isWord_44 : decode cX6_isWord 44 = .ok (.iinc 4 1, 3) := by decide +kernel
theorem dX6_isWord_47 : decode cX6_isWord 47 = .ok (.goto (-32), 3) := by decide +kernel
theorem dX6_isWord_50 : decode cX6_isWord 50 = .ok (.iconst 1, 1) := by decide +kernel
theorem dX6_isWord_51 : decode cX6_isWord 51 = .ok (.ireturn, 1) := by decide +kernel
theorem dX6_number_0 : decode cX6_number 0 = .ok (.iconst 0, 1) := by decide +kernel
theorem dX6_number_1 : decode cX6_number 1 = .ok (.istore_n 3, 1) := by decide +kernel
theorem dX6_number_2 : decode cX6_number 2 = .ok (.iload_n 1, 1) := by decide +kernel
theorem dX6_number_3 : decode cX6_number 3 = .ok (.istore 4, 2) := by decide +kernel
theorem dX6_number_5 : decode cX6_number 5 = .ok (.iload 4, 2) := by decide +kernel
theorem dX6_number_7 : decode cX6_number 7 = .ok (.iload_n 2, 1) := by decide +kernel
theorem dX6_number_8 : decode cX6_number 8 = .ok (.if_icmp .ge 25, 3) := by decide +kernel
theorem dX6_number_11 : decode cX6_number 11 = .ok (.bipush 10, 2) := by decide +kernel
theorem dX6_number_13 : decode cX6_number 13 = .ok (.iload_n 3, 1) := by decide +kernel
theorem dX6_number_14 : decode cX6_number 14 = .ok (.imul, 1) := by decide +kernel
theorem dX6_number_15 : decode cX6_number 15 = .ok (.aload_n 0, 1) := by decide +kernel
theorem dX6_number_16 : decode cX6_number 16 = .ok (.getfield 9, 3) := by decide +kernel
theorem dX6_number_19 : decode cX6_number 19 = .ok (.iload 4, 2) := by decide +kernel
theorem dX6_number_21 : decode cX6_number 21 = .ok (.iaload, 1) := by decide +kernel
theorem dX6_number_22 : decode cX6_number 22 = .ok (.iadd, 1) := by decide +kernel
theorem dX6_number_23 : decode cX6_number 23 = .ok (.bipush 48, 2) := by decide +kernel
theorem dX6_number_25 : decode cX6_number 25 = .ok (.isub, 1) := by decide +kernel
theorem dX6_number_26 : decode cX6_number 26 = .ok (.istore_n 3, 1) := by decide +kernel
theorem dX6_number_27 : decode cX6_number 27 = .ok (.iinc 4 1, 3) := by decide +kernel
theorem dX6_number_30 : decode cX6_number 30 = .ok (.goto (-25), 3) := by decide +kernel
theorem dX6_number_33 : decode cX6_number 33 = .ok (.iload_n 3, 1) := by decide +kernel
theorem dX6_number_34 : decode cX6_number 34 = .ok (.ireturn, 1) := by decide +kernel
theorem dX7_init_0 : decode cX7_init 0 = .ok (.aload_n 0, 1) := by decide +kernel
theorem dX7_init_1 : decode cX7_init 1 = .ok (.invokespecial 3, 3) := by decide +kernel
theorem dX7_init_4 : decode cX7_init 4 = .ok (.aload_n 0, 1) := by decide +kernel
theorem dX7_init_5 : decode cX7_init 5 = .ok (.iload_n 1, 1) := by decide +kernel
theorem dX7_init_6 : decode cX7_init 6 = .ok (.putfield 9, 3) := by decide +kernel
theorem dX7_init_9 : decode cX7_init 9 = .ok (.aload_n 0, 1) := by decide +kernel
theorem dX7_init_10 : decode cX7_init 10 = .ok (.iload_n 2, 1) := by decide +kernel
theorem dX7_init_11 : decode cX7_init 11 = .ok (.putfield 15, 3) := by decide +kernel
theorem dX7_init_14 : decode cX7_init 14 = .ok (.aload_n 0, 1) := by decide +kernel
theorem dX7_init_15 : decode cX7_init 15 = .ok (.aload_n 3, 1) := by decide +kernel
theorem dX7_init_16 : decode cX7_init 16 = .ok (.putfield 18, 3) := by decide +kernel
theorem dX7_init_19 : decode cX7_init 19 = .ok (.return_, 1) := by decide +kernel
theorem dX7_value_0 : decode cX7_value 0 = .ok (.iconst 0, 1) := by decide +kernel
theorem dX7_value_1 : decode cX7_value 1 = .ok (.istore 5, 2) := by decide +kernel
theorem dX7_value_3 : decode cX7_value 3 = .ok (.iconst 0, 1) := by decide +kernel
theorem dX7_value_4 : decode cX7_value 4 = .ok (.istore 6, 2) := by decide +kernel
theorem dX7_value_6 : decode cX7_value 6 = .ok (.iload 6, 2) := by decide +kernel
theorem dX7_value_8 : decode cX7_value 8 = .ok (.aload_n 0, 1) := by decide +kernel
theorem dX7_value_9 : decode cX7_value 9 = .ok (.getfield 18, 3) := by decide +kernel
theorem dX7_value_12 : decode cX7_value 12 = .ok (.arraylength, 1) := by decide +kernel
theorem dX7_value_13 : decode cX7_value 13 = .ok (.if_icmp .ge 151, 3) := by decide +kernel
theorem dX7_value_16 : decode cX7_value 16 = .ok (.aload_n 0, 1) := by decide +kernel
theorem dX7_value_17 : decode cX7_value 17 = .ok (.getfield 18, 3) := by decide +kernel
theorem dX7_value_20 : decode cX7_value 20 = .ok (.iload 6, 2) := by decide +kernel
theorem dX7_value_22 : decode cX7_value 22 = .ok (.iaload, 1) := by decide +kernel
theorem dX7_value_23 : decode cX7_value 23 = .ok (.istore 7, 2) := by decide +kernel
theorem dX7_value_25 : decode cX7_value 25 = .ok (.iload 7, 2) := by decide +kernel
theorem dX7_value_27 : decode cX7_value 27 = .ok (.sipush 20000, 3) := by decide +kernel
theorem dX7_value_30 : decode cX7_value 30 = .ok (.if_icmp .ge 45, 3) := by decide +kernel
theorem dX7_value_33 : decode cX7_value 33 = .ok (.iload 5, 2) := by decide +kernel
theorem dX7_value_35 : decode cX7_value 35 = .ok (.aload 4, 2) := by decide +kernel
theorem dX7_value_37 : decode cX7_value 37 = .ok (.arraylength, 1) := by decide +kernel
theorem dX7_value_38 : decode cX7_value 38 = .ok (.if_icmp .lt 5, 3) := by decide +kernel
theorem dX7_value_41 : decode cX7_value 41 = .ok (.iconst 0, 1) := by decide +kernel
theorem dX7_value_42 : decode cX7_value 42 = .ok (.ireturn, 1) := by decide +kernel
theorem dX7_value_43 : decode cX7_value 43 = .ok (.aload 4, 2) := by decide +kernel
theorem dX7_value_45 : decode cX7_value 45 = .ok (.iload 5, 2) := by decide +kernel
theorem dX7_value_47 : decode cX7_value 47 = .ok (.iload 7, 2) := by decide +kernel
theorem dX7_value_49 : decode cX7_value 49 = .ok (.sipush 10000, 3) := by decide +kernel
theorem dX7_value_52 : decode cX7_value 52 = .ok (.if_icmp .ge 8, 3) := by decide +kernel
theorem dX7_value_55 : decode cX7_value 55 = .ok (.iload 7, 2) := by decide +kernel
theorem dX7_value_57 : decode cX7_value 57 = .ok (.goto 11, 3) := by decide +kernel
theorem dX7_value_60 : decode cX7_value 60 = .ok (.iload 7, 2) := by decide +kernel
theorem dX7_value_62 : decode cX7_value 62 = .ok (.iload_n 1, 1) := by decide +kernel
theorem dX7_value_63 : decode cX7_value 63 = .ok (.iload_n 2, 1) := by decide +kernel
theorem dX7_value_64 : decode cX7_value 64 = .ok (.iload_n 3, 1) := by decide +kernel
theorem dX7_value_65 : decode cX7_value 65 = .ok (.invokestatic 22, 3) := by decide +kernel
theorem dX7_value_68 : decode cX7_value 68 = .ok (.iastore, 1) := by decide +kernel
theorem dX7_value_69 : decode cX7_value 69 = .ok (.iinc 5 1, 3) := by decide +kernel
theorem dX7_value_72 : decode cX7_value 72 = .ok (.goto 86, 3) := by decide +kernel
theorem dX7_value_75 : decode cX7_value 75 = .ok (.iload 7, 2) := by decide +kernel
theorem dX7_value_77 : decode cX7_value 77 = .ok (.sipush 20033, 3) := by decide +kernel
theorem dX7_value_80 : decode cX7_value 80 = .ok (.if_icmp .ne 39, 3) := by decide +kernel
theorem dX7_value_83 : decode cX7_value 83 = .ok (.iload 5, 2) := by decide +kernel
theorem dX7_value_85 : decode cX7_value 85 = .ok (.iconst 1, 1) := by decide +kernel
theorem dX7_value_86 : decode cX7_value 86 = .ok (.if_icmp .ge 5, 3) := by decide +kernel
theorem dX7_value_89 : decode cX7_value 89 = .ok (.iconst 0, 1) := by decide +kernel
theorem dX7_value_90 : decode cX7_value 90 = .ok (.ireturn, 1) := by decide +kernel
theorem dX7_value_91 : decode cX7_value 91 = .ok (.aload 4, 2) := by decide +kernel
theorem dX7_value_93 : decode cX7_value 93 = .ok (.iload 5, 2) := by decide +kernel
theorem dX7_value_95 : decode cX7_value 95 = .ok (.iconst 1, 1) := by decide +kernel
theorem dX7_value_96 : decode cX7_value 96 = .ok (.isub, 1) := by decide +kernel
theorem dX7_value_97 : decode cX7_value 97 = .ok (.aload 4, 2) := by decide +kernel
theorem dX7_value_99 : decode cX7_value 99 = .ok (.iload 5, 2) := by decide +kernel
theorem dX7_value_101 : decode cX7_value 101 = .ok (.iconst 1, 1) := by decide +kernel
theorem dX7_value_102 : decode cX7_value 102 = .ok (.isub, 1) := by decide +kernel
theorem dX7_value_103 : decode cX7_value 103 = .ok (.iaload, 1) := by decide +kernel
theorem dX7_value_104 : decode cX7_value 104 = .ok (.ifCond .ne 7, 3) := by decide +kernel
theorem dX7_value_107 : decode cX7_value 107 = .ok (.iconst 1, 1) := by decide +kernel
theorem dX7_value_108 : decode cX7_value 108 = .ok (.goto 4, 3) := by decide +kernel
theorem dX7_value_111 : decode cX7_value 111 = .ok (.iconst 0, 1) := by decide +kernel
theorem dX7_value_112 : decode cX7_value 112 = .ok (.invokestatic 26, 3) := by decide +kernel
theorem dX7_value_115 : decode cX7_value 115 = .ok (.iastore, 1) := by decide +kernel
theorem dX7_value_116 : decode cX7_value 116 = .ok (.goto 42, 3) := by decide +kernel
theorem dX7_value_119 : decode cX7_value 119 = .ok (.iload 5, 2) := by decide +kernel
theorem dX7_value_121 : decode cX7_value 121 = .ok (.iconst 2, 1) := by decide +kernel
theorem dX7_value_122 : decode cX7_value 122 = .ok (.if_icmp .ge 5, 3) := by decide +kernel
theorem dX7_value_125 : decode cX7_value 125 = .ok (.iconst 0, 1) := by decide +kernel
theorem dX7_value_126 : decode cX7_value 126 = .ok (.ireturn, 1) := by decide +kernel
theorem dX7_value_127 : decode cX7_value 127 = .ok (.iinc 5 (-1), 3) := by decide +kernel
theorem dX7_value_130 : decode cX7_value 130 = .ok (.aload 4, 2) := by decide +kernel
theorem dX7_value_132 : decode cX7_value 132 = .ok (.iload 5, 2) := by decide +kernel
theorem dX7_value_134 : decode cX7_value 134 = .ok (.iconst 1, 1) := by decide +kernel
theorem dX7_value_135 : decode cX7_value 135 = .ok (.isub, 1) := by decide +kernel
theorem dX7_value_136 : decode cX7_value 136 = .ok (.iload 7, 2) := by decide +kernel
theorem dX7_value_138 : decode cX7_value 138 = .ok (.sipush 20000, 3) := by decide +kernel
theorem dX7_value_141 : decode cX7_value 141 = .ok (.isub, 1) := by decide +kernel
theorem dX7_value_142 : decode cX7_value 142 = .ok (.aload 4, 2) := by decide +kernel
theorem dX7_value_144 : decode cX7_value 144 = .ok (.iload 5, 2) := by decide +kernel
theorem dX7_value_146 : decode cX7_value 146 = .ok (.iconst 1, 1) := by decide +kernel
theorem dX7_value_147 : decode cX7_value 147 = .ok (.isub, 1) := by decide +kernel
theorem dX7_value_148 : decode cX7_value 148 = .ok (.iaload, 1) := by decide +kernel
theorem dX7_value_149 : decode cX7_value 149 = .ok (.aload 4, 2) := by decide +kernel
theorem dX7_value_151 : decode cX7_value 151 = .ok (.iload 5, 2) := by decide +kernel
theorem dX7_value_153 : decode cX7_value 153 = .ok (.iaload, 1) := by decide +kernel
theorem dX7_value_154 : decode cX7_value 154 = .ok (.invokestatic 30, 3) := by decide +kernel
theorem dX7_value_157 : decode cX7_value 157 = .ok (.iastore, 1) := by decide +kernel
theorem dX7_value_158 : decode cX7_value 158 = .ok (.iinc 6 1, 3) := by decide +kernel
theorem dX7_value_161 : decode cX7_value 161 = .ok (.goto (-155), 3) := by decide +kernel
theorem dX7_value_164 : decode cX7_value 164 = .ok (.iload 5, 2) := by decide +kernel
theorem dX7_value_166 : decode cX7_value 166 = .ok (.iconst 1, 1) := by decide +kernel
theorem dX7_value_167 : decode cX7_value 167 = .ok (.if_icmp .ge 7, 3) := by decide +kernel
theorem dX7_value_170 : decode cX7_value 170 = .ok (.iconst 0, 1) := by decide +kernel
theorem dX7_value_171 : decode cX7_value 171 = .ok (.goto 7, 3) := by decide +kernel
theorem dX7_value_174 : decode cX7_value 174 = .ok (.aload 4, 2) := by decide +kernel
theorem dX7_value_176 : decode cX7_value 176 = .ok (.iconst 0, 1) := by decide +kernel
theorem dX7_value_177 : decode cX7_value 177 = .ok (.iaload, 1) := by decide +kernel
theorem dX7_value_178 : decode cX7_value 178 = .ok (.ireturn, 1) := by decide +kernel
theorem dX7_named_0 : decode cX7_named 0 = .ok (.iload_n 0, 1) := by decide +kernel
theorem dX7_named_1 : decode cX7_named 1 = .ok (.sipush 10000, 3) := by decide +kernel
theorem dX7_named_4 : decode cX7_named 4 = .ok (.if_icmp .ne 5, 3) := by decide +kernel
theorem dX7_named_7 : decode cX7_named 7 = .ok (.iload_n 1, 1) := by decide +kernel
theorem dX7_named_8 : decode cX7_named 8 = .ok (.ireturn, 1) := by decide +kernel
theorem dX7_named_9 : decode cX7_named 9 = .ok (.iload_n 0, 1) := by decide +kernel
theorem dX7_named_10 : decode cX7_named 10 = .ok (.sipush 10001, 3) := by decide +kernel
theorem dX7_named_13 : decode cX7_named 13 = .ok (.if_icmp .ne 7, 3) := by decide +kernel
theorem dX7_named_16 : decode cX7_named 16 = .ok (.iload_n 2, 1) := by decide +kernel
theorem dX7_named_17 : decode cX7_named 17 = .ok (.goto 4, 3) := by decide +kernel
theorem dX7_named_20 : decode cX7_named 20 = .ok (.iload_n 3, 1) := by decide +kernel
theorem dX7_named_21 : decode cX7_named 21 = .ok (.ireturn, 1) := by decide +kernel
theorem dX7_joined_0 : decode cX7_joined 0 = .ok (.iload_n 0, 1) := by decide +kernel
theorem dX7_joined_1 : decode cX7_joined 1 = .ok (.lookupswitch 148 #[(38, 89), (42, 144), (43, 136), (45, 140), (60, 103), (61, 114), (62, 125), (124, 75)], 75) := by decide +kernel
theorem dX7_joined_76 : decode cX7_joined 76 = .ok (.iload_n 1, 1) := by decide +kernel
theorem dX7_joined_77 : decode cX7_joined 77 = .ok (.ifCond .ne 7, 3) := by decide +kernel
theorem dX7_joined_80 : decode cX7_joined 80 = .ok (.iload_n 2, 1) := by decide +kernel
theorem dX7_joined_81 : decode cX7_joined 81 = .ok (.ifCond .eq 7, 3) := by decide +kernel
theorem dX7_joined_84 : decode cX7_joined 84 = .ok (.iconst 1, 1) := by decide +kernel
theorem dX7_joined_85 : decode cX7_joined 85 = .ok (.goto 4, 3) := by decide +kernel
theorem dX7_joined_88 : decode cX7_joined 88 = .ok (.iconst 0, 1) := by decide +kernel
theorem dX7_joined_89 : decode cX7_joined 89 = .ok (.ireturn, 1) := by decide +kernel
theorem dX7_joined_90 : decode cX7_joined 90 = .ok (.iload_n 1, 1) := by decide +kernel
theorem dX7_joined_91 : decode cX7_joined 91 = .ok (.ifCond .eq 11, 3) := by decide +kernel
theorem dX7_joined_94 : decode cX7_joined 94 = .ok (.iload_n 2, 1) := by decide +kernel
theorem dX7_joined_95 : decode cX7_joined 95 = .ok (.ifCond .eq 7, 3) := by decide +kernel
theorem dX7_joined_98 : decode cX7_joined 98 = .ok (.iconst 1, 1) := by decide +kernel
theorem dX7_joined_99 : decode cX7_joined 99 = .ok (.goto 4, 3) := by decide +kernel
theorem dX7_joined_102 : decode cX7_joined 102 = .ok (.iconst 0, 1) := by decide +kernel
theorem dX7_joined_103 : decode cX7_joined 103 = .ok (.ireturn, 1) := by decide +kernel
theorem dX7_joined_104 : decode cX7_joined 104 = .ok (.iload_n 1, 1) := by decide +kernel
theorem dX7_joined_105 : decode cX7_joined 105 = .ok (.iload_n 2, 1) := by decide +kernel
theorem dX7_joined_106 : decode cX7_joined 106 = .ok (.if_icmp .ge 7, 3) := by decide +kernel
theorem dX7_joined_109 : decode cX7_joined 109 = .ok (.iconst 1, 1) := by decide +kernel
theorem dX7_joined_110 : decode cX7_joined 110 = .ok (.goto 4, 3) := by decide +kernel
theorem dX7_joined_113 : decode cX7_joined 113 = .ok (.iconst 0, 1) := by decide +kernel
theorem dX7_joined_114 : decode cX7_joined 114 = .ok (.ireturn, 1) := by decide +kernel
theorem dX7_joined_115 : decode cX7_joined 115 = .ok (.iload_n 1, 1) := by decide +kernel
theorem dX7_joined_116 : decode cX7_joined 116 = .ok (.iload_n 2, 1) := by decide +kernel
theorem dX7_joined_117 : decode cX7_joined 117 = .ok (.if_icmp .ne 7, 3) := by decide +kernel
theorem dX7_joined_120 : decode cX7_joined 120 = .ok (.iconst 1, 1) := by decide +kernel
theorem dX7_joined_121 : decode cX7_joined 121 = .ok (.goto 4, 3) := by decide +kernel
theorem dX7_joined_124 : decode cX7_joined 124 = .ok (.iconst 0, 1) := by decide +kernel
theorem dX7_joined_125 : decode cX7_joined 125 = .ok (.ireturn, 1) := by decide +kernel
theorem dX7_joined_126 : decode cX7_joined 126 = .ok (.iload_n 1, 1) := by decide +kernel
theorem dX7_joined_127 : decode cX7_joined 127 = .ok (.iload_n 2, 1) := by decide +kernel
theorem dX7_joined_128 : decode cX7_joined 128 = .ok (.if_icmp .le 7, 3) := by decide +kernel
theorem dX7_joined_131 : decode cX7_joined 131 = .ok (.iconst 1, 1) := by decide +kernel
theorem dX7_joined_132 : decode cX7_joined 132 = .ok (.goto 4, 3) := by decide +kernel
theorem dX7_joined_135 : decode cX7_joined 135 = .ok (.iconst 0, 1) := by decide +kernel
theorem dX7_joined_136 : decode cX7_joined 136 = .ok (.ireturn, 1) := by decide +kernel
theorem dX7_joined_137 : decode cX7_joined 137 = .ok (.iload_n 1, 1) := by decide +kernel
theorem dX7_joined_138 : decode cX7_joined 138 = .ok (.iload_n 2, 1) := by decide +kernel
theorem dX7_joined_139 : decode cX7_joined 139 = .ok (.iadd, 1) := by decide +kernel
theorem dX7_joined_140 : decode cX7_joined 140 = .ok (.ireturn, 1) := by decide +kernel
theorem dX7_joined_141 : decode cX7_joined 141 = .ok (.iload_n 1, 1) := by decide +kernel
theorem dX7_joined_142 : decode cX7_joined 142 = .ok (.iload_n 2, 1) := by decide +kernel
theorem dX7_joined_143 : decode cX7_joined 143 = .ok (.isub, 1) := by decide +kernel
theorem dX7_joined_144 : decode cX7_joined 144 = .ok (.ireturn, 1) := by decide +kernel
theorem dX7_joined_145 : decode cX7_joined 145 = .ok (.iload_n 1, 1) := by decide +kernel
theorem dX7_joined_146 : decode cX7_joined 146 = .ok (.iload_n 2, 1) := by decide +kernel
theorem dX7_joined_147 : decode cX7_joined 147 = .ok (.imul, 1) := by decide +kernel
theorem dX7_joined_148 : decode cX7_joined 148 = .ok (.ireturn, 1) := by decide +kernel
theorem dX7_joined_149 : decode cX7_joined 149 = .ok (.iload_n 2, 1) := by decide +kernel
theorem dX7_joined_150 : decode cX7_joined 150 = .ok (.ifCond .ne 7, 3) := by decide +kernel
theorem dX7_joined_153 : decode cX7_joined 153 = .ok (.iconst 0, 1) := by decide +kernel
theorem dX7_joined_154 : decode cX7_joined 154 = .ok (.goto 6, 3) := by decide +kernel
theorem dX7_joined_157 : decode cX7_joined 157 = .ok (.iload_n 1, 1) := by decide +kernel
theorem dX7_joined_158 : decode cX7_joined 158 = .ok (.iload_n 2, 1) := by decide +kernel
theorem dX7_joined_159 : decode cX7_joined 159 = .ok (.idiv, 1) := by decide +kernel
theorem dX7_joined_160 : decode cX7_joined 160 = .ok (.ireturn, 1) := by decide +kernel
theorem dX8_init_0 : decode cX8_init 0 = .ok (.aload_n 0, 1) := by decide +kernel
theorem dX8_init_1 : decode cX8_init 1 = .ok (.invokespecial 3, 3) := by decide +kernel
theorem dX8_init_4 : decode cX8_init 4 = .ok (.aload_n 0, 1) := by decide +kernel
theorem dX8_init_5 : decode cX8_init 5 = .ok (.bipush 8, 2) := by decide +kernel
theorem dX8_init_7 : decode cX8_init 7 = .ok (.anewarray 9, 3) := by decide +kernel
theorem dX8_init_10 : decode cX8_init 10 = .ok (.putfield 11, 3) := by decide +kernel
theorem dX8_init_13 : decode cX8_init 13 = .ok (.aload_n 0, 1) := by decide +kernel
theorem dX8_init_14 : decode cX8_init 14 = .ok (.bipush 10, 2) := by decide +kernel
theorem dX8_init_16 : decode cX8_init 16 = .ok (.anewarray 17, 3) := by decide +kernel
theorem dX8_init_19 : decode cX8_init 19 = .ok (.putfield 19, 3) := by decide +kernel
theorem dX8_init_22 : decode cX8_init 22 = .ok (.aload_n 0, 1) := by decide +kernel
theorem dX8_init_23 : decode cX8_init 23 = .ok (.iconst 3, 1) := by decide +kernel
theorem dX8_init_24 : decode cX8_init 24 = .ok (.newarray .int, 2) := by decide +kernel
theorem dX8_init_26 : decode cX8_init 26 = .ok (.dup, 1) := by decide +kernel
theorem dX8_init_27 : decode cX8_init 27 = .ok (.iconst 0, 1) := by decide +kernel
theorem dX8_init_28 : decode cX8_init 28 = .ok (.bipush 10, 2) := by decide +kernel
theorem dX8_init_30 : decode cX8_init 30 = .ok (.iastore, 1) := by decide +kernel
theorem dX8_init_31 : decode cX8_init 31 = .ok (.dup, 1) := by decide +kernel
theorem dX8_init_32 : decode cX8_init 32 = .ok (.iconst 1, 1) := by decide +kernel
theorem dX8_init_33 : decode cX8_init 33 = .ok (.bipush 30, 2) := by decide +kernel
theorem dX8_init_35 : decode cX8_init 35 = .ok (.iastore, 1) := by decide +kernel
theorem dX8_init_36 : decode cX8_init 36 = .ok (.dup, 1) := by decide +kernel
theorem dX8_init_37 : decode cX8_init 37 = .ok (.iconst 2, 1) := by decide +kernel
theorem dX8_init_38 : decode cX8_init 38 = .ok (.bipush 20, 2) := by decide +kernel
theorem dX8_init_40 : decode cX8_init 40 = .ok (.iastore, 1) := by decide +kernel
theorem dX8_init_41 : decode cX8_init 41 = .ok (.putfield 23, 3) := by decide +kernel
theorem dX8_init_44 : decode cX8_init 44 = .ok (.aload_n 0, 1) := by decide +kernel
theorem dX8_init_45 : decode cX8_init 45 = .ok (.iconst 1, 1) := by decide +kernel
theorem dX8_init_46 : decode cX8_init 46 = .ok (.putfield 27, 3) := by decide +kernel
theorem dX8_init_49 : decode cX8_init 49 = .ok (.aload_n 0, 1) := by decide +kernel
theorem dX8_init_50 : decode cX8_init 50 = .ok (.bipush 14, 2) := by decide +kernel
theorem dX8_init_52 : decode cX8_init 52 = .ok (.anewarray 31, 3) := by decide +kernel
theorem dX8_init_55 : decode cX8_init 55 = .ok (.putfield 33, 3) := by decide +kernel
theorem dX8_init_58 : decode cX8_init 58 = .ok (.aload_n 0, 1) := by decide +kernel
theorem dX8_init_59 : decode cX8_init 59 = .ok (.bipush 96, 2) := by decide +kernel
theorem dX8_init_61 : decode cX8_init 61 = .ok (.newarray .int, 2) := by decide +kernel
theorem dX8_init_63 : decode cX8_init 63 = .ok (.putfield 37, 3) := by decide +kernel
theorem dX8_init_66 : decode cX8_init 66 = .ok (.iconst 0, 1) := by decide +kernel
theorem dX8_init_67 : decode cX8_init 67 = .ok (.istore_n 1, 1) := by decide +kernel
theorem dX8_init_68 : decode cX8_init 68 = .ok (.iload_n 1, 1) := by decide +kernel
theorem dX8_init_69 : decode cX8_init 69 = .ok (.bipush 8, 2) := by decide +kernel
theorem dX8_init_71 : decode cX8_init 71 = .ok (.if_icmp .ge 22, 3) := by decide +kernel
theorem dX8_init_74 : decode cX8_init 74 = .ok (.aload_n 0, 1) := by decide +kernel
theorem dX8_init_75 : decode cX8_init 75 = .ok (.getfield 11, 3) := by decide +kernel
theorem dX8_init_78 : decode cX8_init 78 = .ok (.iload_n 1, 1) := by decide +kernel
theorem dX8_init_79 : decode cX8_init 79 = .ok (.new 9, 3) := by decide +kernel
theorem dX8_init_82 : decode cX8_init 82 = .ok (.dup, 1) := by decide +kernel
theorem dX8_init_83 : decode cX8_init 83 = .ok (.invokespecial 40, 3) := by decide +kernel
theorem dX8_init_86 : decode cX8_init 86 = .ok (.aastore, 1) := by decide +kernel
theorem dX8_init_87 : decode cX8_init 87 = .ok (.iinc 1 1, 3) := by decide +kernel
theorem dX8_init_90 : decode cX8_init 90 = .ok (.goto (-22), 3) := by decide +kernel
theorem dX8_init_93 : decode cX8_init 93 = .ok (.iconst 0, 1) := by decide +kernel
theorem dX8_init_94 : decode cX8_init 94 = .ok (.istore_n 1, 1) := by decide +kernel
theorem dX8_init_95 : decode cX8_init 95 = .ok (.iload_n 1, 1) := by decide +kernel
theorem dX8_init_96 : decode cX8_init 96 = .ok (.bipush 10, 2) := by decide +kernel
theorem dX8_init_98 : decode cX8_init 98 = .ok (.if_icmp .ge 22, 3) := by decide +kernel
theorem dX8_init_101 : decode cX8_init 101 = .ok (.aload_n 0, 1) := by decide +kernel
theorem dX8_init_102 : decode cX8_init 102 = .ok (.getfield 19, 3) := by decide +kernel
theorem dX8_init_105 : decode cX8_init 105 = .ok (.iload_n 1, 1) := by decide +kernel
theorem dX8_init_106 : decode cX8_init 106 = .ok (.new 17, 3) := by decide +kernel
theorem dX8_init_109 : decode cX8_init 109 = .ok (.dup, 1) := by decide +kernel
theorem dX8_init_110 : decode cX8_init 110 = .ok (.invokespecial 41, 3) := by decide +kernel
theorem dX8_init_113 : decode cX8_init 113 = .ok (.aastore, 1) := by decide +kernel
theorem dX8_init_114 : decode cX8_init 114 = .ok (.iinc 1 1, 3) := by decide +kernel
theorem dX8_init_117 : decode cX8_init 117 = .ok (.goto (-22), 3) := by decide +kernel
theorem dX8_init_120 : decode cX8_init 120 = .ok (.return_, 1) := by decide +kernel
theorem dX8_take_0 : decode cX8_take 0 = .ok (.aload_n 0, 1) := by decide +kernel
theorem dX8_take_1 : decode cX8_take 1 = .ok (.aload_n 1, 1) := by decide +kernel
theorem dX8_take_2 : decode cX8_take 2 = .ok (.getfield 42, 3) := by decide +kernel
theorem dX8_take_5 : decode cX8_take 5 = .ok (.putfield 42, 3) := by decide +kernel
theorem dX8_take_8 : decode cX8_take 8 = .ok (.iconst 0, 1) := by decide +kernel
theorem dX8_take_9 : decode cX8_take 9 = .ok (.istore_n 2, 1) := by decide +kernel
theorem dX8_take_10 : decode cX8_take 10 = .ok (.iload_n 2, 1) := by decide +kernel
theorem dX8_take_11 : decode cX8_take 11 = .ok (.aload_n 0, 1) := by decide +kernel
theorem dX8_take_12 : decode cX8_take 12 = .ok (.getfield 42, 3) := by decide +kernel
theorem dX8_take_15 : decode cX8_take 15 = .ok (.if_icmp .ge 24, 3) := by decide +kernel
theorem dX8_take_18 : decode cX8_take 18 = .ok (.aload_n 0, 1) := by decide +kernel
theorem dX8_take_19 : decode cX8_take 19 = .ok (.getfield 11, 3) := by decide +kernel
theorem dX8_take_22 : decode cX8_take 22 = .ok (.iload_n 2, 1) := by decide +kernel
theorem dX8_take_23 : decode cX8_take 23 = .ok (.aaload, 1) := by decide +kernel
theorem dX8_take_24 : decode cX8_take 24 = .ok (.aload_n 1, 1) := by decide +kernel
theorem dX8_take_25 : decode cX8_take 25 = .ok (.getfield 11, 3) := by decide +kernel
theorem dX8_take_28 : decode cX8_take 28 = .ok (.iload_n 2, 1) := by decide +kernel
theorem dX8_take_29 : decode cX8_take 29 = .ok (.aaload, 1) := by decide +kernel
theorem dX8_take_30 : decode cX8_take 30 = .ok (.invokevirtual 45, 3) := by decide +kernel
theorem dX8_take_33 : decode cX8_take 33 = .ok (.iinc 2 1, 3) := by decide +kernel
theorem dX8_take_36 : decode cX8_take 36 = .ok (.goto (-26), 3) := by decide +kernel
theorem dX8_take_39 : decode cX8_take 39 = .ok (.aload_n 0, 1) := by decide +kernel
theorem dX8_take_40 : decode cX8_take 40 = .ok (.aload_n 1, 1) := by decide +kernel
theorem dX8_take_41 : decode cX8_take 41 = .ok (.getfield 49, 3) := by decide +kernel
theorem dX8_take_44 : decode cX8_take 44 = .ok (.putfield 49, 3) := by decide +kernel
theorem dX8_take_47 : decode cX8_take 47 = .ok (.iconst 0, 1) := by decide +kernel
theorem dX8_take_48 : decode cX8_take 48 = .ok (.istore_n 2, 1) := by decide +kernel
theorem dX8_take_49 : decode cX8_take 49 = .ok (.iload_n 2, 1) := by decide +kernel
theorem dX8_take_50 : decode cX8_take 50 = .ok (.aload_n 0, 1) := by decide +kernel
theorem dX8_take_51 : decode cX8_take 51 = .ok (.getfield 49, 3) := by decide +kernel
theorem dX8_take_54 : decode cX8_take 54 = .ok (.if_icmp .ge 24, 3) := by decide +kernel
theorem dX8_take_57 : decode cX8_take 57 = .ok (.aload_n 0, 1) := by decide +kernel
theorem dX8_take_58 : decode cX8_take 58 = .ok (.getfield 19, 3) := by decide +kernel
theorem dX8_take_61 : decode cX8_take 61 = .ok (.iload_n 2, 1) := by decide +kernel
theorem dX8_take_62 : decode cX8_take 62 = .ok (.aaload, 1) := by decide +kernel
theorem dX8_take_63 : decode cX8_take 63 = .ok (.aload_n 1, 1) := by decide +kernel
theorem dX8_take_64 : decode cX8_take 64 = .ok (.getfield 19, 3) := by decide +kernel
theorem dX8_take_67 : decode cX8_take 67 = .ok (.iload_n 2, 1) := by decide +kernel
theorem dX8_take_68 : decode cX8_take 68 = .ok (.aaload, 1) := by decide +kernel
theorem dX8_take_69 : decode cX8_take 69 = .ok (.invokevirtual 52, 3) := by decide +kernel
theorem dX8_take_72 : decode cX8_take 72 = .ok (.iinc 2 1, 3) := by decide +kernel
theorem dX8_take_75 : decode cX8_take 75 = .ok (.goto (-26), 3) := by decide +kernel
theorem dX8_take_78 : decode cX8_take 78 = .ok (.aload_n 1, 1) := by decide +kernel
theorem dX8_take_79 : decode cX8_take 79 = .ok (.getfield 23, 3) := by decide +kernel
theorem dX8_take_82 : decode cX8_take 82 = .ok (.iconst 0, 1) := by decide +kernel
theorem dX8_take_83 : decode cX8_take 83 = .ok (.aload_n 0, 1) := by decide +kernel
theorem dX8_take_84 : decode cX8_take 84 = .ok (.getfield 23, 3) := by decide +kernel
theorem dX8_take_87 : decode cX8_take 87 = .ok (.iconst 0, 1) := by decide +kernel
theorem dX8_take_88 : decode cX8_take 88 = .ok (.aload_n 0, 1) := by decide +kernel
theorem dX8_take_89 : decode cX8_take 89 = .ok (.getfield 23, 3) := by decide +kernel
theorem dX8_take_92 : decode cX8_take 92 = .ok (.arraylength, 1) := by decide +kernel
theorem dX8_take_93 : decode cX8_take 93 = .ok (.invokestatic 55, 3) := by decide +kernel
theorem dX8_take_96 : decode cX8_take 96 = .ok (.aload_n 0, 1) := by decide +kernel
theorem dX8_take_97 : decode cX8_take 97 = .ok (.aload_n 1, 1) := by decide +kernel
theorem dX8_take_98 : decode cX8_take 98 = .ok (.getfield 61, 3) := by decide +kernel
theorem dX8_take_101 : decode cX8_take 101 = .ok (.putfield 61, 3) := by decide +kernel
theorem dX8_take_104 : decode cX8_take 104 = .ok (.aload_n 0, 1) := by decide +kernel
theorem dX8_take_105 : decode cX8_take 105 = .ok (.aload_n 1, 1) := by decide +kernel
theorem dX8_take_106 : decode cX8_take 106 = .ok (.getfield 27, 3) := by decide +kernel
theorem dX8_take_109 : decode cX8_take 109 = .ok (.putfield 27, 3) := by decide +kernel
theorem dX8_take_112 : decode cX8_take 112 = .ok (.aload_n 0, 1) := by decide +kernel
theorem dX8_take_113 : decode cX8_take 113 = .ok (.aload_n 1, 1) := by decide +kernel
theorem dX8_take_114 : decode cX8_take 114 = .ok (.getfield 64, 3) := by decide +kernel
theorem dX8_take_117 : decode cX8_take 117 = .ok (.putfield 64, 3) := by decide +kernel
theorem dX8_take_120 : decode cX8_take 120 = .ok (.iconst 0, 1) := by decide +kernel
theorem dX8_take_121 : decode cX8_take 121 = .ok (.istore_n 2, 1) := by decide +kernel
theorem dX8_take_122 : decode cX8_take 122 = .ok (.iload_n 2, 1) := by decide +kernel
theorem dX8_take_123 : decode cX8_take 123 = .ok (.aload_n 0, 1) := by decide +kernel
theorem dX8_take_124 : decode cX8_take 124 = .ok (.getfield 64, 3) := by decide +kernel
theorem dX8_take_127 : decode cX8_take 127 = .ok (.if_icmp .ge 21, 3) := by decide +kernel
theorem dX8_take_130 : decode cX8_take 130 = .ok (.aload_n 0, 1) := by decide +kernel
theorem dX8_take_131 : decode cX8_take 131 = .ok (.getfield 33, 3) := by decide +kernel
theorem dX8_take_134 : decode cX8_take 134 = .ok (.iload_n 2, 1) := by decide +kernel
theorem dX8_take_135 : decode cX8_take 135 = .ok (.aload_n 1, 1) := by decide +kernel
theorem dX8_take_136 : decode cX8_take 136 = .ok (.getfield 33, 3) := by decide +kernel
theorem dX8_take_139 : decode cX8_take 139 = .ok (.iload_n 2, 1) := by decide +kernel
theorem dX8_take_140 : decode cX8_take 140 = .ok (.aaload, 1) := by decide +kernel
theorem dX8_take_141 : decode cX8_take 141 = .ok (.aastore, 1) := by decide +kernel
theorem dX8_take_142 : decode cX8_take 142 = .ok (.iinc 2 1, 3) := by decide +kernel
theorem dX8_take_145 : decode cX8_take 145 = .ok (.goto (-23), 3) := by decide +kernel
theorem dX8_take_148 : decode cX8_take 148 = .ok (.return_, 1) := by decide +kernel
theorem dX8_hasChimney_0 : decode cX8_hasChimney 0 = .ok (.iload_n 1, 1) := by decide +kernel
theorem dX8_hasChimney_1 : decode cX8_hasChimney 1 = .ok (.ifCond .lt 15, 3) := by decide +kernel
theorem dX8_hasChimney_4 : decode cX8_hasChimney 4 = .ok (.iload_n 1, 1) := by decide +kernel
theorem dX8_hasChimney_5 : decode cX8_hasChimney 5 = .ok (.aload_n 0, 1) := by decide +kernel
theorem dX8_hasChimney_6 : decode cX8_hasChimney 6 = .ok (.getfield 42, 3) := by decide +kernel
theorem dX8_hasChimney_9 : decode cX8_hasChimney 9 = .ok (.if_icmp .ge 7, 3) := by decide +kernel
theorem dX8_hasChimney_12 : decode cX8_hasChimney 12 = .ok (.iconst 1, 1) := by decide +kernel
theorem dX8_hasChimney_13 : decode cX8_hasChimney 13 = .ok (.goto 4, 3) := by decide +kernel
theorem dX8_hasChimney_16 : decode cX8_hasChimney 16 = .ok (.iconst 0, 1) := by decide +kernel
theorem dX8_hasChimney_17 : decode cX8_hasChimney 17 = .ok (.ireturn, 1) := by decide +kernel
theorem dX8_hasStork_0 : decode cX8_hasStork 0 = .ok (.iload_n 1, 1) := by decide +kernel
theorem dX8_hasStork_1 : decode cX8_hasStork 1 = .ok (.ifCond .lt 15, 3) := by decide +kernel
theorem dX8_hasStork_4 : decode cX8_hasStork 4 = .ok (.iload_n 1, 1) := by decide +kernel
theorem dX8_hasStork_5 : decode cX8_hasStork 5 = .ok (.aload_n 0, 1) := by decide +kernel
theorem dX8_hasStork_6 : decode cX8_hasStork 6 = .ok (.getfield 49, 3) := by decide +kernel
theorem dX8_hasStork_9 : decode cX8_hasStork 9 = .ok (.if_icmp .ge 7, 3) := by decide +kernel
theorem dX8_hasStork_12 : decode cX8_hasStork 12 = .ok (.iconst 1, 1) := by decide +kernel
theorem dX8_hasStork_13 : decode cX8_hasStork 13 = .ok (.goto 4, 3) := by decide +kernel
theorem dX8_hasStork_16 : decode cX8_hasStork 16 = .ok (.iconst 0, 1) := by decide +kernel
theorem dX8_hasStork_17 : decode cX8_hasStork 17 = .ok (.ireturn, 1) := by decide +kernel
theorem dX8_build_0 : decode cX8_build 0 = .ok (.aload_n 0, 1) := by decide +kernel
theorem dX8_build_1 : decode cX8_build 1 = .ok (.getfield 42, 3) := by decide +kernel
theorem dX8_build_4 : decode cX8_build 4 = .ok (.bipush 8, 2) := by decide +kernel
theorem dX8_build_6 : decode cX8_build 6 = .ok (.if_icmp .lt 6, 3) := by decide +kernel
theorem dX8_build_9 : decode cX8_build 9 = .ok (.ldc 67, 2) := by decide +kernel
theorem dX8_build_11 : decode cX8_build 11 = .ok (.ireturn, 1) := by decide +kernel
theorem dX8_build_12 : decode cX8_build 12 = .ok (.aload_n 0, 1) := by decide +kernel
theorem dX8_build_13 : decode cX8_build 13 = .ok (.getfield 11, 3) := by decide +kernel
theorem dX8_build_16 : decode cX8_build 16 = .ok (.aload_n 0, 1) := by decide +kernel
theorem dX8_build_17 : decode cX8_build 17 = .ok (.getfield 42, 3) := by decide +kernel
theorem dX8_build_20 : decode cX8_build 20 = .ok (.aaload, 1) := by decide +kernel
theorem dX8_build_21 : decode cX8_build 21 = .ok (.iload_n 1, 1) := by decide +kernel
theorem dX8_build_22 : decode cX8_build 22 = .ok (.iload_n 2, 1) := by decide +kernel
theorem dX8_build_23 : decode cX8_build 23 = .ok (.iload_n 3, 1) := by decide +kernel
theorem dX8_build_24 : decode cX8_build 24 = .ok (.iload 4, 2) := by decide +kernel
theorem dX8_build_26 : decode cX8_build 26 = .ok (.invokevirtual 68, 3) := by decide +kernel
theorem dX8_build_29 : decode cX8_build 29 = .ok (.aload_n 0, 1) := by decide +kernel
theorem dX8_build_30 : decode cX8_build 30 = .ok (.dup, 1) := by decide +kernel
theorem dX8_build_31 : decode cX8_build 31 = .ok (.getfield 42, 3) := by decide +kernel
theorem dX8_build_34 : decode cX8_build 34 = .ok (.iconst 1, 1) := by decide +kernel
theorem dX8_build_35 : decode cX8_build 35 = .ok (.iadd, 1) := by decide +kernel
theorem dX8_build_36 : decode cX8_build 36 = .ok (.putfield 42, 3) := by decide +kernel
theorem dX8_build_39 : decode cX8_build 39 = .ok (.aload_n 0, 1) := by decide +kernel
theorem dX8_build_40 : decode cX8_build 40 = .ok (.getfield 42, 3) := by decide +kernel
theorem dX8_build_43 : decode cX8_build 43 = .ok (.iconst 1, 1) := by decide +kernel
theorem dX8_build_44 : decode cX8_build 44 = .ok (.isub, 1) := by decide +kernel
theorem dX8_build_45 : decode cX8_build 45 = .ok (.ireturn, 1) := by decide +kernel
theorem dX8_hatch_0 : decode cX8_hatch 0 = .ok (.aload_n 0, 1) := by decide +kernel
theorem dX8_hatch_1 : decode cX8_hatch 1 = .ok (.getfield 49, 3) := by decide +kernel
theorem dX8_hatch_4 : decode cX8_hatch 4 = .ok (.bipush 10, 2) := by decide +kernel
theorem dX8_hatch_6 : decode cX8_hatch 6 = .ok (.if_icmp .lt 6, 3) := by decide +kernel
theorem dX8_hatch_9 : decode cX8_hatch 9 = .ok (.ldc 67, 2) := by decide +kernel
theorem dX8_hatch_11 : decode cX8_hatch 11 = .ok (.ireturn, 1) := by decide +kernel
theorem dX8_hatch_12 : decode cX8_hatch 12 = .ok (.aload_n 0, 1) := by decide +kernel
theorem dX8_hatch_13 : decode cX8_hatch 13 = .ok (.getfield 19, 3) := by decide +kernel
theorem dX8_hatch_16 : decode cX8_hatch 16 = .ok (.aload_n 0, 1) := by decide +kernel
theorem dX8_hatch_17 : decode cX8_hatch 17 = .ok (.getfield 49, 3) := by decide +kernel
theorem dX8_hatch_20 : decode cX8_hatch 20 = .ok (.aaload, 1) := by decide +kernel
theorem dX8_hatch_21 : decode cX8_hatch 21 = .ok (.iload_n 1, 1) := by decide +kernel
theorem dX8_hatch_22 : decode cX8_hatch 22 = .ok (.iload_n 2, 1) := by decide +kernel
theorem dX8_hatch_23 : decode cX8_hatch 23 = .ok (.iconst 0, 1) := by decide +kernel
theorem dX8_hatch_24 : decode cX8_hatch 24 = .ok (.invokevirtual 72, 3) := by decide +kernel
theorem dX8_hatch_27 : decode cX8_hatch 27 = .ok (.aload_n 0, 1) := by decide +kernel
theorem dX8_hatch_28 : decode cX8_hatch 28 = .ok (.dup, 1) := by decide +kernel
theorem dX8_hatch_29 : decode cX8_hatch 29 = .ok (.getfield 49, 3) := by decide +kernel
theorem dX8_hatch_32 : decode cX8_hatch 32 = .ok (.iconst 1, 1) := by decide +kernel
theorem dX8_hatch_33 : decode cX8_hatch 33 = .ok (.iadd, 1) := by decide +kernel
theorem dX8_hatch_34 : decode cX8_hatch 34 = .ok (.putfield 49, 3) := by decide +kernel
theorem dX8_hatch_37 : decode cX8_hatch 37 = .ok (.aload_n 0, 1) := by decide +kernel
theorem dX8_hatch_38 : decode cX8_hatch 38 = .ok (.getfield 49, 3) := by decide +kernel
theorem dX8_hatch_41 : decode cX8_hatch 41 = .ok (.iconst 1, 1) := by decide +kernel
theorem dX8_hatch_42 : decode cX8_hatch 42 = .ok (.isub, 1) := by decide +kernel
theorem dX8_hatch_43 : decode cX8_hatch 43 = .ok (.ireturn, 1) := by decide +kernel
theorem dX8_draw_0 : decode cX8_draw 0 = .ok (.aload_n 0, 1) := by decide +kernel
theorem dX8_draw_1 : decode cX8_draw 1 = .ok (.aload_n 0, 1) := by decide +kernel
theorem dX8_draw_2 : decode cX8_draw 2 = .ok (.getfield 27, 3) := by decide +kernel
theorem dX8_draw_5 : decode cX8_draw 5 = .ok (.ldc 75, 2) := by decide +kernel
theorem dX8_draw_7 : decode cX8_draw 7 = .ok (.imul, 1) := by decide +kernel
theorem dX8_draw_8 : decode cX8_draw 8 = .ok (.sipush 12345, 3) := by decide +kernel
theorem dX8_draw_11 : decode cX8_draw 11 = .ok (.iadd, 1) := by decide +kernel
theorem dX8_draw_12 : decode cX8_draw 12 = .ok (.putfield 27, 3) := by decide +kernel
theorem dX8_draw_15 : decode cX8_draw 15 = .ok (.aload_n 0, 1) := by decide +kernel
theorem dX8_draw_16 : decode cX8_draw 16 = .ok (.getfield 27, 3) := by decide +kernel
theorem dX8_draw_19 : decode cX8_draw 19 = .ok (.bipush 8, 2) := by decide +kernel
theorem dX8_draw_21 : decode cX8_draw 21 = .ok (.iushr, 1) := by decide +kernel
theorem dX8_draw_22 : decode cX8_draw 22 = .ok (.ireturn, 1) := by decide +kernel
theorem dX8_here_0 : decode cX8_here 0 = .ok (.iconst 0, 1) := by decide +kernel
theorem dX8_here_1 : decode cX8_here 1 = .ok (.istore_n 1, 1) := by decide +kernel
theorem dX8_here_2 : decode cX8_here 2 = .ok (.iconst 0, 1) := by decide +kernel
theorem dX8_here_3 : decode cX8_here 3 = .ok (.istore_n 2, 1) := by decide +kernel
theorem dX8_here_4 : decode cX8_here 4 = .ok (.iload_n 2, 1) := by decide +kernel
theorem dX8_here_5 : decode cX8_here 5 = .ok (.aload_n 0, 1) := by decide +kernel
theorem dX8_here_6 : decode cX8_here 6 = .ok (.getfield 49, 3) := by decide +kernel
theorem dX8_here_9 : decode cX8_here 9 = .ok (.if_icmp .ge 32, 3) := by decide +kernel
theorem dX8_here_12 : decode cX8_here 12 = .ok (.iload_n 1, 1) := by decide +kernel
theorem dX8_here_13 : decode cX8_here 13 = .ok (.aload_n 0, 1) := by decide +kernel
theorem dX8_here_14 : decode cX8_here 14 = .ok (.getfield 19, 3) := by decide +kernel
theorem dX8_here_17 : decode cX8_here 17 = .ok (.iload_n 2, 1) := by decide +kernel
theorem dX8_here_18 : decode cX8_here 18 = .ok (.aaload, 1) := by decide +kernel
theorem dX8_here_19 : decode cX8_here 19 = .ok (.getfield 76, 3) := by decide +kernel
theorem dX8_here_22 : decode cX8_here 22 = .ok (.ifCond .ne 7, 3) := by decide +kernel
theorem dX8_here_25 : decode cX8_here 25 = .ok (.iconst 1, 1) := by decide +kernel
theorem dX8_here_26 : decode cX8_here 26 = .ok (.goto 4, 3) := by decide +kernel
theorem dX8_here_29 : decode cX8_here 29 = .ok (.iconst 0, 1) := by decide +kernel
theorem dX8_here_30 : decode cX8_here 30 = .ok (.invokestatic 80, 3) := by decide +kernel
theorem dX8_here_33 : decode cX8_here 33 = .ok (.iadd, 1) := by decide +kernel
theorem dX8_here_34 : decode cX8_here 34 = .ok (.istore_n 1, 1) := by decide +kernel
theorem dX8_here_35 : decode cX8_here 35 = .ok (.iinc 2 1, 3) := by decide +kernel
theorem dX8_here_38 : decode cX8_here 38 = .ok (.goto (-34), 3) := by decide +kernel
theorem dX8_here_41 : decode cX8_here 41 = .ok (.iload_n 1, 1) := by decide +kernel
theorem dX8_here_42 : decode cX8_here 42 = .ok (.ireturn, 1) := by decide +kernel
theorem dX8_counts_0 : decode cX8_counts 0 = .ok (.aload_n 0, 1) := by decide +kernel
theorem dX8_counts_1 : decode cX8_counts 1 = .ok (.getfield 64, 3) := by decide +kernel
theorem dX8_counts_4 : decode cX8_counts 4 = .ok (.iconst 1, 1) := by decide +kernel
theorem dX8_counts_5 : decode cX8_counts 5 = .ok (.isub, 1) := by decide +kernel
theorem dX8_counts_6 : decode cX8_counts 6 = .ok (.istore_n 2, 1) := by decide +kernel
theorem dX8_counts_7 : decode cX8_counts 7 = .ok (.iload_n 2, 1) := by decide +kernel
theorem dX8_counts_8 : decode cX8_counts 8 = .ok (.ifCond .lt 33, 3) := by decide +kernel
theorem dX8_counts_11 : decode cX8_counts 11 = .ok (.aload_n 0, 1) := by decide +kernel
theorem dX8_counts_12 : decode cX8_counts 12 = .ok (.getfield 33, 3) := by decide +kernel
theorem dX8_counts_15 : decode cX8_counts 15 = .ok (.iload_n 2, 1) := by decide +kernel
theorem dX8_counts_16 : decode cX8_counts 16 = .ok (.aaload, 1) := by decide +kernel
theorem dX8_counts_17 : decode cX8_counts 17 = .ok (.ifnull 18, 3) := by decide +kernel
theorem dX8_counts_20 : decode cX8_counts 20 = .ok (.aload_n 0, 1) := by decide +kernel
theorem dX8_counts_21 : decode cX8_counts 21 = .ok (.getfield 33, 3) := by decide +kernel
theorem dX8_counts_24 : decode cX8_counts 24 = .ok (.iload_n 2, 1) := by decide +kernel
theorem dX8_counts_25 : decode cX8_counts 25 = .ok (.aaload, 1) := by decide +kernel
theorem dX8_counts_26 : decode cX8_counts 26 = .ok (.getfield 84, 3) := by decide +kernel
theorem dX8_counts_29 : decode cX8_counts 29 = .ok (.iload_n 1, 1) := by decide +kernel
theorem dX8_counts_30 : decode cX8_counts 30 = .ok (.if_icmp .ne 5, 3) := by decide +kernel
theorem dX8_counts_33 : decode cX8_counts 33 = .ok (.iload_n 2, 1) := by decide +kernel
theorem dX8_counts_34 : decode cX8_counts 34 = .ok (.ireturn, 1) := by decide +kernel
theorem dX8_counts_35 : decode cX8_counts 35 = .ok (.iinc 2 (-1), 3) := by decide +kernel
theorem dX8_counts_38 : decode cX8_counts 38 = .ok (.goto (-31), 3) := by decide +kernel
theorem dX8_counts_41 : decode cX8_counts 41 = .ok (.ldc 87, 2) := by decide +kernel
theorem dX8_counts_43 : decode cX8_counts 43 = .ok (.ireturn, 1) := by decide +kernel
theorem dX8_counting_0 : decode cX8_counting 0 = .ok (.aload_n 0, 1) := by decide +kernel
theorem dX8_counting_1 : decode cX8_counting 1 = .ok (.iload_n 1, 1) := by decide +kernel
theorem dX8_counting_2 : decode cX8_counting 2 = .ok (.invokevirtual 88, 3) := by decide +kernel
theorem dX8_counting_5 : decode cX8_counting 5 = .ok (.istore_n 2, 1) := by decide +kernel
theorem dX8_counting_6 : decode cX8_counting 6 = .ok (.iload_n 2, 1) := by decide +kernel
theorem dX8_counting_7 : decode cX8_counting 7 = .ok (.ldc 87, 2) := by decide +kernel
theorem dX8_counting_9 : decode cX8_counting 9 = .ok (.if_icmp .ne 7, 3) := by decide +kernel
theorem dX8_counting_12 : decode cX8_counting 12 = .ok (.aconst_null, 1) := by decide +kernel
theorem dX8_counting_13 : decode cX8_counting 13 = .ok (.goto 9, 3) := by decide +kernel
theorem dX8_counting_16 : decode cX8_counting 16 = .ok (.aload_n 0, 1) := by decide +kernel
theorem dX8_counting_17 : decode cX8_counting 17 = .ok (.getfield 33, 3) := by decide +kernel
theorem dX8_counting_20 : decode cX8_counting 20 = .ok (.iload_n 2, 1) := by decide +kernel
theorem dX8_counting_21 : decode cX8_counting 21 = .ok (.aaload, 1) := by decide +kernel
theorem dX8_counting_22 : decode cX8_counting 22 = .ok (.areturn, 1) := by decide +kernel
theorem dX8_liking_0 : decode cX8_liking 0 = .ok (.aload_n 0, 1) := by decide +kernel
theorem dX8_liking_1 : decode cX8_liking 1 = .ok (.getfield 11, 3) := by decide +kernel
theorem dX8_liking_4 : decode cX8_liking 4 = .ok (.iload_n 1, 1) := by decide +kernel
theorem dX8_liking_5 : decode cX8_liking 5 = .ok (.aaload, 1) := by decide +kernel
theorem dX8_liking_6 : decode cX8_liking 6 = .ok (.astore_n 3, 1) := by decide +kernel
theorem dX8_liking_7 : decode cX8_liking 7 = .ok (.aload_n 0, 1) := by decide +kernel
theorem dX8_liking_8 : decode cX8_liking 8 = .ok (.iconst 0, 1) := by decide +kernel
theorem dX8_liking_9 : decode cX8_liking 9 = .ok (.invokevirtual 92, 3) := by decide +kernel
theorem dX8_liking_12 : decode cX8_liking 12 = .ok (.astore 4, 2) := by decide +kernel
theorem dX8_liking_14 : decode cX8_liking 14 = .ok (.aload_n 3, 1) := by decide +kernel
theorem dX8_liking_15 : decode cX8_liking 15 = .ok (.getfield 96, 3) := by decide +kernel
theorem dX8_liking_18 : decode cX8_liking 18 = .ok (.aload_n 3, 1) := by decide +kernel
theorem dX8_liking_19 : decode cX8_liking 19 = .ok (.getfield 99, 3) := by decide +kernel
theorem dX8_liking_22 : decode cX8_liking 22 = .ok (.iadd, 1) := by decide +kernel
theorem dX8_liking_23 : decode cX8_liking 23 = .ok (.bipush 20, 2) := by decide +kernel
theorem dX8_liking_25 : decode cX8_liking 25 = .ok (.iload_n 2, 1) := by decide +kernel
theorem dX8_liking_26 : decode cX8_liking 26 = .ok (.imul, 1) := by decide +kernel
theorem dX8_liking_27 : decode cX8_liking 27 = .ok (.iadd, 1) := by decide +kernel
theorem dX8_liking_28 : decode cX8_liking 28 = .ok (.istore 5, 2) := by decide +kernel
theorem dX8_liking_30 : decode cX8_liking 30 = .ok (.aload 4, 2) := by decide +kernel
theorem dX8_liking_32 : decode cX8_liking 32 = .ok (.ifnull 29, 3) := by decide +kernel
theorem dX8_liking_35 : decode cX8_liking 35 = .ok (.aload 4, 2) := by decide +kernel
theorem dX8_liking_37 : decode cX8_liking 37 = .ok (.aload_n 3, 1) := by decide +kernel
theorem dX8_liking_38 : decode cX8_liking 38 = .ok (.getfield 96, 3) := by decide +kernel
theorem dX8_liking_41 : decode cX8_liking 41 = .ok (.aload_n 3, 1) := by decide +kernel
theorem dX8_liking_42 : decode cX8_liking 42 = .ok (.getfield 99, 3) := by decide +kernel
theorem dX8_liking_45 : decode cX8_liking 45 = .ok (.iload_n 2, 1) := by decide +kernel
theorem dX8_liking_46 : decode cX8_liking 46 = .ok (.aload_n 0, 1) := by decide +kernel
theorem dX8_liking_47 : decode cX8_liking 47 = .ok (.getfield 37, 3) := by decide +kernel
theorem dX8_liking_50 : decode cX8_liking 50 = .ok (.invokevirtual 102, 3) := by decide +kernel
theorem dX8_liking_53 : decode cX8_liking 53 = .ok (.sipush 999, 3) := by decide +kernel
theorem dX8_liking_56 : decode cX8_liking 56 = .ok (.invokestatic 106, 3) := by decide +kernel
theorem dX8_liking_59 : decode cX8_liking 59 = .ok (.istore 5, 2) := by decide +kernel
theorem dX8_liking_61 : decode cX8_liking 61 = .ok (.aload_n 3, 1) := by decide +kernel
theorem dX8_liking_62 : decode cX8_liking 62 = .ok (.iload 5, 2) := by decide +kernel
theorem dX8_liking_64 : decode cX8_liking 64 = .ok (.iload_n 2, 1) := by decide +kernel
theorem dX8_liking_65 : decode cX8_liking 65 = .ok (.invokevirtual 110, 3) := by decide +kernel
theorem dX8_liking_68 : decode cX8_liking 68 = .ok (.ireturn, 1) := by decide +kernel
theorem dX8_seatsFor_0 : decode cX8_seatsFor 0 = .ok (.aload_n 0, 1) := by decide +kernel
theorem dX8_seatsFor_1 : decode cX8_seatsFor 1 = .ok (.iconst 1, 1) := by decide +kernel
theorem dX8_seatsFor_2 : decode cX8_seatsFor 2 = .ok (.invokevirtual 92, 3) := by decide +kernel
theorem dX8_seatsFor_5 : decode cX8_seatsFor 5 = .ok (.astore_n 3, 1) := by decide +kernel
theorem dX8_seatsFor_6 : decode cX8_seatsFor 6 = .ok (.aload_n 3, 1) := by decide +kernel
theorem dX8_seatsFor_7 : decode cX8_seatsFor 7 = .ok (.ifnonnull 7, 3) := by decide +kernel
theorem dX8_seatsFor_10 : decode cX8_seatsFor 10 = .ok (.iload_n 1, 1) := by decide +kernel
theorem dX8_seatsFor_11 : decode cX8_seatsFor 11 = .ok (.goto 20, 3) := by decide +kernel
theorem dX8_seatsFor_14 : decode cX8_seatsFor 14 = .ok (.aload_n 3, 1) := by decide +kernel
theorem dX8_seatsFor_15 : decode cX8_seatsFor 15 = .ok (.iload_n 1, 1) := by decide +kernel
theorem dX8_seatsFor_16 : decode cX8_seatsFor 16 = .ok (.iload_n 2, 1) := by decide +kernel
theorem dX8_seatsFor_17 : decode cX8_seatsFor 17 = .ok (.iconst 0, 1) := by decide +kernel
theorem dX8_seatsFor_18 : decode cX8_seatsFor 18 = .ok (.aload_n 0, 1) := by decide +kernel
theorem dX8_seatsFor_19 : decode cX8_seatsFor 19 = .ok (.getfield 37, 3) := by decide +kernel
theorem dX8_seatsFor_22 : decode cX8_seatsFor 22 = .ok (.invokevirtual 102, 3) := by decide +kernel
theorem dX8_seatsFor_25 : decode cX8_seatsFor 25 = .ok (.sipush 999, 3) := by decide +kernel
theorem dX8_seatsFor_28 : decode cX8_seatsFor 28 = .ok (.invokestatic 106, 3) := by decide +kernel
theorem dX8_seatsFor_31 : decode cX8_seatsFor 31 = .ok (.ireturn, 1) := by decide +kernel
theorem dX8_keepsFirst_0 : decode cX8_keepsFirst 0 = .ok (.aload_n 0, 1) := by decide +kernel
theorem dX8_keepsFirst_1 : decode cX8_keepsFirst 1 = .ok (.getfield 19, 3) := by decide +kernel
theorem dX8_keepsFirst_4 : decode cX8_keepsFirst 4 = .ok (.iload_n 1, 1) := by decide +kernel
theorem dX8_keepsFirst_5 : decode cX8_keepsFirst 5 = .ok (.aaload, 1) := by decide +kernel
theorem dX8_keepsFirst_6 : decode cX8_keepsFirst 6 = .ok (.getfield 113, 3) := by decide +kernel
theorem dX8_keepsFirst_9 : decode cX8_keepsFirst 9 = .ok (.aload_n 0, 1) := by decide +kernel
theorem dX8_keepsFirst_10 : decode cX8_keepsFirst 10 = .ok (.getfield 19, 3) := by decide +kernel
theorem dX8_keepsFirst_13 : decode cX8_keepsFirst 13 = .ok (.iload_n 2, 1) := by decide +kernel
theorem dX8_keepsFirst_14 : decode cX8_keepsFirst 14 = .ok (.aaload, 1) := by decide +kernel
theorem dX8_keepsFirst_15 : decode cX8_keepsFirst 15 = .ok (.getfield 113, 3) := by decide +kernel
theorem dX8_keepsFirst_18 : decode cX8_keepsFirst 18 = .ok (.if_icmp .eq 30, 3) := by decide +kernel
theorem dX8_keepsFirst_21 : decode cX8_keepsFirst 21 = .ok (.aload_n 0, 1) := by decide +kernel
theorem dX8_keepsFirst_22 : decode cX8_keepsFirst 22 = .ok (.getfield 19, 3) := by decide +kernel
theorem dX8_keepsFirst_25 : decode cX8_keepsFirst 25 = .ok (.iload_n 1, 1) := by decide +kernel
theorem dX8_keepsFirst_26 : decode cX8_keepsFirst 26 = .ok (.aaload, 1) := by decide +kernel
theorem dX8_keepsFirst_27 : decode cX8_keepsFirst 27 = .ok (.getfield 113, 3) := by decide +kernel
theorem dX8_keepsFirst_30 : decode cX8_keepsFirst 30 = .ok (.aload_n 0, 1) := by decide +kernel
theorem dX8_keepsFirst_31 : decode cX8_keepsFirst 31 = .ok (.getfield 19, 3) := by decide +kernel
theorem dX8_keepsFirst_34 : decode cX8_keepsFirst 34 = .ok (.iload_n 2, 1) := by decide +kernel
theorem dX8_keepsFirst_35 : decode cX8_keepsFirst 35 = .ok (.aaload, 1) := by decide +kernel
theorem dX8_keepsFirst_36 : decode cX8_keepsFirst 36 = .ok (.getfield 113, 3) := by decide +kernel
theorem dX8_keepsFirst_39 : decode cX8_keepsFirst 39 = .ok (.if_icmp .le 7, 3) := by decide +kernel
theorem dX8_keepsFirst_42 : decode cX8_keepsFirst 42 = .ok (.iconst 1, 1) := by decide +kernel
theorem dX8_keepsFirst_43 : decode cX8_keepsFirst 43 = .ok (.goto 4, 3) := by decide +kernel
theorem dX8_keepsFirst_46 : decode cX8_keepsFirst 46 = .ok (.iconst 0, 1) := by decide +kernel
theorem dX8_keepsFirst_47 : decode cX8_keepsFirst 47 = .ok (.ireturn, 1) := by decide +kernel
theorem dX8_keepsFirst_48 : decode cX8_keepsFirst 48 = .ok (.iload_n 1, 1) := by decide +kernel
theorem dX8_keepsFirst_49 : decode cX8_keepsFirst 49 = .ok (.iload_n 2, 1) := by decide +kernel
theorem dX8_keepsFirst_50 : decode cX8_keepsFirst 50 = .ok (.if_icmp .ge 7, 3) := by decide +kernel
theorem dX8_keepsFirst_53 : decode cX8_keepsFirst 53 = .ok (.iconst 1, 1) := by decide +kernel
theorem dX8_keepsFirst_54 : decode cX8_keepsFirst 54 = .ok (.goto 4, 3) := by decide +kernel
theorem dX8_keepsFirst_57 : decode cX8_keepsFirst 57 = .ok (.iconst 0, 1) := by decide +kernel
theorem dX8_keepsFirst_58 : decode cX8_keepsFirst 58 = .ok (.ireturn, 1) := by decide +kernel
theorem dX8_live_0 : decode cX8_live 0 = .ok (.aload_n 1, 1) := by decide +kernel
theorem dX8_live_1 : decode cX8_live 1 = .ok (.aload_n 0, 1) := by decide +kernel
theorem dX8_live_2 : decode cX8_live 2 = .ok (.ldc 87, 2) := by decide +kernel
theorem dX8_live_4 : decode cX8_live 4 = .ok (.invokevirtual 116, 3) := by decide +kernel
theorem dX8_live_7 : decode cX8_live 7 = .ok (.aload_n 0, 1) := by decide +kernel
theorem dX8_live_8 : decode cX8_live 8 = .ok (.getfield 49, 3) := by decide +kernel
theorem dX8_live_11 : decode cX8_live 11 = .ok (.istore_n 2, 1) := by decide +kernel
theorem dX8_live_12 : decode cX8_live 12 = .ok (.iconst 0, 1) := by decide +kernel
theorem dX8_live_13 : decode cX8_live 13 = .ok (.istore_n 3, 1) := by decide +kernel
theorem dX8_live_14 : decode cX8_live 14 = .ok (.iload_n 3, 1) := by decide +kernel
theorem dX8_live_15 : decode cX8_live 15 = .ok (.iload_n 2, 1) := by decide +kernel
theorem dX8_live_16 : decode cX8_live 16 = .ok (.if_icmp .ge 32, 3) := by decide +kernel
theorem dX8_live_19 : decode cX8_live 19 = .ok (.aload_n 0, 1) := by decide +kernel
theorem dX8_live_20 : decode cX8_live 20 = .ok (.getfield 19, 3) := by decide +kernel
theorem dX8_live_23 : decode cX8_live 23 = .ok (.iload_n 3, 1) := by decide +kernel
theorem dX8_live_24 : decode cX8_live 24 = .ok (.aaload, 1) := by decide +kernel
theorem dX8_live_25 : decode cX8_live 25 = .ok (.getfield 76, 3) := by decide +kernel
theorem dX8_live_28 : decode cX8_live 28 = .ok (.ifCond .ne 14, 3) := by decide +kernel
theorem dX8_live_31 : decode cX8_live 31 = .ok (.aload_n 0, 1) := by decide +kernel
theorem dX8_live_32 : decode cX8_live 32 = .ok (.iload_n 3, 1) := by decide +kernel
theorem dX8_live_33 : decode cX8_live 33 = .ok (.aload_n 1, 1) := by decide +kernel
theorem dX8_live_34 : decode cX8_live 34 = .ok (.getfield 122, 3) := by decide +kernel
theorem dX8_live_37 : decode cX8_live 37 = .ok (.iload_n 3, 1) := by decide +kernel
theorem dX8_live_38 : decode cX8_live 38 = .ok (.iaload, 1) := by decide +kernel
theorem dX8_live_39 : decode cX8_live 39 = .ok (.invokevirtual 125, 3) := by decide +kernel
theorem dX8_live_42 : decode cX8_live 42 = .ok (.iinc 3 1, 3) := by decide +kernel
theorem dX8_live_45 : decode cX8_live 45 = .ok (.goto (-31), 3) := by decide +kernel
theorem dX8_live_48 : decode cX8_live 48 = .ok (.aload_n 0, 1) := by decide +kernel
theorem dX8_live_49 : decode cX8_live 49 = .ok (.dup, 1) := by decide +kernel
theorem dX8_live_50 : decode cX8_live 50 = .ok (.getfield 61, 3) := by decide +kernel
theorem dX8_live_53 : decode cX8_live 53 = .ok (.iconst 1, 1) := by decide +kernel
theorem dX8_live_54 : decode cX8_live 54 = .ok (.iadd, 1) := by decide +kernel
theorem dX8_live_55 : decode cX8_live 55 = .ok (.putfield 61, 3) := by decide +kernel
theorem dX8_live_58 : decode cX8_live 58 = .ok (.return_, 1) := by decide +kernel
theorem dX8_fare_0 : decode cX8_fare 0 = .ok (.aload_n 0, 1) := by decide +kernel
theorem dX8_fare_1 : decode cX8_fare 1 = .ok (.invokevirtual 129, 3) := by decide +kernel
theorem dX8_fare_4 : decode cX8_fare 4 = .ok (.bipush 100, 2) := by decide +kernel
theorem dX8_fare_6 : decode cX8_fare 6 = .ok (.irem, 1) := by decide +kernel
theorem dX8_fare_7 : decode cX8_fare 7 = .ok (.istore_n 3, 1) := by decide +kernel
theorem dX8_fare_8 : decode cX8_fare 8 = .ok (.iload_n 2, 1) := by decide +kernel
theorem dX8_fare_9 : decode cX8_fare 9 = .ok (.ldc 87, 2) := by decide +kernel
theorem dX8_fare_11 : decode cX8_fare 11 = .ok (.if_icmp .ne 30, 3) := by decide +kernel
theorem dX8_fare_14 : decode cX8_fare 14 = .ok (.aload_n 0, 1) := by decide +kernel
theorem dX8_fare_15 : decode cX8_fare 15 = .ok (.getfield 19, 3) := by decide +kernel
theorem dX8_fare_18 : decode cX8_fare 18 = .ok (.iload_n 1, 1) := by decide +kernel
theorem dX8_fare_19 : decode cX8_fare 19 = .ok (.aaload, 1) := by decide +kernel
theorem dX8_fare_20 : decode cX8_fare 20 = .ok (.iload_n 3, 1) := by decide +kernel
theorem dX8_fare_21 : decode cX8_fare 21 = .ok (.aload_n 0, 1) := by decide +kernel
theorem dX8_fare_22 : decode cX8_fare 22 = .ok (.getfield 23, 3) := by decide +kernel
theorem dX8_fare_25 : decode cX8_fare 25 = .ok (.iconst 2, 1) := by decide +kernel
theorem dX8_fare_26 : decode cX8_fare 26 = .ok (.iaload, 1) := by decide +kernel
theorem dX8_fare_27 : decode cX8_fare 27 = .ok (.if_icmp .ge 7, 3) := by decide +kernel
theorem dX8_fare_30 : decode cX8_fare 30 = .ok (.iconst 1, 1) := by decide +kernel
theorem dX8_fare_31 : decode cX8_fare 31 = .ok (.goto 4, 3) := by decide +kernel
theorem dX8_fare_34 : decode cX8_fare 34 = .ok (.iconst 0, 1) := by decide +kernel
theorem dX8_fare_35 : decode cX8_fare 35 = .ok (.putfield 76, 3) := by decide +kernel
theorem dX8_fare_38 : decode cX8_fare 38 = .ok (.goto 37, 3) := by decide +kernel
theorem dX8_fare_41 : decode cX8_fare 41 = .ok (.iload_n 3, 1) := by decide +kernel
theorem dX8_fare_42 : decode cX8_fare 42 = .ok (.aload_n 0, 1) := by decide +kernel
theorem dX8_fare_43 : decode cX8_fare 43 = .ok (.getfield 23, 3) := by decide +kernel
theorem dX8_fare_46 : decode cX8_fare 46 = .ok (.iconst 1, 1) := by decide +kernel
theorem dX8_fare_47 : decode cX8_fare 47 = .ok (.iaload, 1) := by decide +kernel
theorem dX8_fare_48 : decode cX8_fare 48 = .ok (.if_icmp .ge 27, 3) := by decide +kernel
theorem dX8_fare_51 : decode cX8_fare 51 = .ok (.aload_n 0, 1) := by decide +kernel
theorem dX8_fare_52 : decode cX8_fare 52 = .ok (.getfield 49, 3) := by decide +kernel
theorem dX8_fare_55 : decode cX8_fare 55 = .ok (.bipush 10, 2) := by decide +kernel
theorem dX8_fare_57 : decode cX8_fare 57 = .ok (.if_icmp .ge 18, 3) := by decide +kernel
theorem dX8_fare_60 : decode cX8_fare 60 = .ok (.aload_n 0, 1) := by decide +kernel
theorem dX8_fare_61 : decode cX8_fare 61 = .ok (.iconst 1, 1) := by decide +kernel
theorem dX8_fare_62 : decode cX8_fare 62 = .ok (.aload_n 0, 1) := by decide +kernel
theorem dX8_fare_63 : decode cX8_fare 63 = .ok (.invokevirtual 129, 3) := by decide +kernel
theorem dX8_fare_66 : decode cX8_fare 66 = .ok (.bipush 20, 2) := by decide +kernel
theorem dX8_fare_68 : decode cX8_fare 68 = .ok (.irem, 1) := by decide +kernel
theorem dX8_fare_69 : decode cX8_fare 69 = .ok (.iadd, 1) := by decide +kernel
theorem dX8_fare_70 : decode cX8_fare 70 = .ok (.iload_n 2, 1) := by decide +kernel
theorem dX8_fare_71 : decode cX8_fare 71 = .ok (.invokevirtual 133, 3) := by decide +kernel
theorem dX8_fare_74 : decode cX8_fare 74 = .ok (.pop, 1) := by decide +kernel
theorem dX8_fare_75 : decode cX8_fare 75 = .ok (.return_, 1) := by decide +kernel
theorem dJ11_isValidCodePoint_9a6ad_0 : decode cJ11_isValidCodePoint_9a6ad 0 = .ok (.iload_n 0, 1) := by decide +kernel
theorem dJ11_isValidCodePoint_9a6ad_1 : decode cJ11_isValidCodePoint_9a6ad 1 = .ok (.bipush 16, 2) := by decide +kernel
theorem dJ11_isValidCodePoint_9a6ad_3 : decode cJ11_isValidCodePoint_9a6ad 3 = .ok (.iushr, 1) := by decide +kernel
theorem dJ11_isValidCodePoint_9a6ad_4 : decode cJ11_isValidCodePoint_9a6ad 4 = .ok (.istore_n 1, 1) := by decide +kernel
theorem dJ11_isValidCodePoint_9a6ad_5 : decode cJ11_isValidCodePoint_9a6ad 5 = .ok (.iload_n 1, 1) := by decide +kernel
theorem dJ11_isValidCodePoint_9a6ad_6 : decode cJ11_isValidCodePoint_9a6ad 6 = .ok (.bipush 17, 2) := by decide +kernel
theorem dJ11_isValidCodePoint_9a6ad_8 : decode cJ11_isValidCodePoint_9a6ad 8 = .ok (.if_icmp .ge 7, 3) := by decide +kernel
theorem dJ11_isValidCodePoint_9a6ad_11 : decode cJ11_isValidCodePoint_9a6ad 11 = .ok (.iconst 1, 1) := by decide +kernel
theorem dJ11_isValidCodePoint_9a6ad_12 : decode cJ11_isValidCodePoint_9a6ad 12 = .ok (.goto 4, 3) := by decide +kernel
theorem dJ11_isValidCodePoint_9a6ad_15 : decode cJ11_isValidCodePoint_9a6ad 15 = .ok (.iconst 0, 1) := by decide +kernel
theorem dJ11_isValidCodePoint_9a6ad_16 : decode cJ11_isValidCodePoint_9a6ad 16 = .ok (.ireturn, 1) := by decide +kernel
theorem dJ11_highSurrogate_5068e_0 : decode cJ11_highSurrogate_5068e 0 = .ok (.iload_n 0, 1) := by decide +kernel
theorem dJ11_highSurrogate_5068e_1 : decode cJ11_highSurrogate_5068e 1 = .ok (.bipush 10, 2) := by decide +kernel
theorem dJ11_highSurrogate_5068e_3 : decode cJ11_highSurrogate_5068e 3 = .ok (.iushr, 1) := by decide +kernel
theorem dJ11_highSurrogate_5068e_4 : decode cJ11_highSurrogate_5068e 4 = .ok (.ldc 110, 2) := by decide +kernel
theorem dJ11_highSurrogate_5068e_6 : decode cJ11_highSurrogate_5068e 6 = .ok (.iadd, 1) := by decide +kernel
theorem dJ11_highSurrogate_5068e_7 : decode cJ11_highSurrogate_5068e 7 = .ok (.i2c, 1) := by decide +kernel
theorem dJ11_highSurrogate_5068e_8 : decode cJ11_highSurrogate_5068e 8 = .ok (.ireturn, 1) := by decide +kernel
theorem dJ11_lowSurrogate_5068e_0 : decode cJ11_lowSurrogate_5068e 0 = .ok (.iload_n 0, 1) := by decide +kernel
theorem dJ11_lowSurrogate_5068e_1 : decode cJ11_lowSurrogate_5068e 1 = .ok (.sipush 1023, 3) := by decide +kernel
theorem dJ11_lowSurrogate_5068e_4 : decode cJ11_lowSurrogate_5068e 4 = .ok (.iand, 1) := by decide +kernel
theorem dJ11_lowSurrogate_5068e_5 : decode cJ11_lowSurrogate_5068e 5 = .ok (.ldc 76, 2) := by decide +kernel
theorem dJ11_lowSurrogate_5068e_7 : decode cJ11_lowSurrogate_5068e 7 = .ok (.iadd, 1) := by decide +kernel
theorem dJ11_lowSurrogate_5068e_8 : decode cJ11_lowSurrogate_5068e 8 = .ok (.i2c, 1) := by decide +kernel
theorem dJ11_lowSurrogate_5068e_9 : decode cJ11_lowSurrogate_5068e 9 = .ok (.ireturn, 1) := by decide +kernel
theorem dJ9_max_7cf53_0 : decode cJ9_max_7cf53 0 = .ok (.iload_n 0, 1) := by decide +kernel
theorem dJ9_max_7cf53_1 : decode cJ9_max_7cf53 1 = .ok (.iload_n 1, 1) := by decide +kernel
theorem dJ9_max_7cf53_2 : decode cJ9_max_7cf53 2 = .ok (.if_icmp .lt 7, 3) := by decide +kernel
theorem dJ9_max_7cf53_5 : decode cJ9_max_7cf53 5 = .ok (.iload_n 0, 1) := by decide +kernel
theorem dJ9_max_7cf53_6 : decode cJ9_max_7cf53 6 = .ok (.goto 4, 3) := by decide +kernel
theorem dJ9_max_7cf53_9 : decode cJ9_max_7cf53 9 = .ok (.iload_n 1, 1) := by decide +kernel
theorem dJ9_max_7cf53_10 : decode cJ9_max_7cf53 10 = .ok (.ireturn, 1) := by decide +kernel
theorem dJ9_min_7cf53_0 : decode cJ9_min_7cf53 0 = .ok (.iload_n 0, 1) := by decide +kernel
theorem dJ9_min_7cf53_1 : decode cJ9_min_7cf53 1 = .ok (.iload_n 1, 1) := by decide +kernel
theorem dJ9_min_7cf53_2 : decode cJ9_min_7cf53 2 = .ok (.if_icmp .gt 7, 3) := by decide +kernel
theorem dJ9_min_7cf53_5 : decode cJ9_min_7cf53 5 = .ok (.iload_n 0, 1) := by decide +kernel
theorem dJ9_min_7cf53_6 : decode cJ9_min_7cf53 6 = .ok (.goto 4, 3) := by decide +kernel
theorem dJ9_min_7cf53_9 : decode cJ9_min_7cf53 9 = .ok (.iload_n 1, 1) := by decide +kernel
theorem dJ9_min_7cf53_10 : decode cJ9_min_7cf53 10 = .ok (.ireturn, 1) := by decide +kernel
theorem dJ0_length_8abf5_0 : decode cJ0_length_8abf5 0 = .ok (.aload_n 0, 1) := by decide +kernel
theorem dJ0_length_8abf5_1 : decode cJ0_length_8abf5 1 = .ok (.getfield 9, 3) := by decide +kernel
theorem dJ0_length_8abf5_4 : decode cJ0_length_8abf5 4 = .ok (.arraylength, 1) := by decide +kernel
theorem dJ0_length_8abf5_5 : decode cJ0_length_8abf5 5 = .ok (.aload_n 0, 1) := by decide +kernel
theorem dJ0_length_8abf5_6 : decode cJ0_length_8abf5 6 = .ok (.invokevirtual 335, 3) := by decide +kernel
theorem dJ0_length_8abf5_9 : decode cJ0_length_8abf5 9 = .ok (.ishr, 1) := by decide +kernel
theorem dJ0_length_8abf5_10 : decode cJ0_length_8abf5 10 = .ok (.ireturn, 1) := by decide +kernel
theorem dJ0_charAt_5068e_0 : decode cJ0_charAt_5068e 0 = .ok (.aload_n 0, 1) := by decide +kernel
theorem dJ0_charAt_5068e_1 : decode cJ0_charAt_5068e 1 = .ok (.invokevirtual 492, 3) := by decide +kernel
theorem dJ0_charAt_5068e_4 : decode cJ0_charAt_5068e 4 = .ok (.ifCond .eq 12, 3) := by decide +kernel
theorem dJ0_charAt_5068e_7 : decode cJ0_charAt_5068e 7 = .ok (.aload_n 0, 1) := by decide +kernel
theorem dJ0_charAt_5068e_8 : decode cJ0_charAt_5068e 8 = .ok (.getfield 9, 3) := by decide +kernel
theorem dJ0_charAt_5068e_11 : decode cJ0_charAt_5068e 11 = .ok (.iload_n 1, 1) := by decide +kernel
theorem dJ0_charAt_5068e_12 : decode cJ0_charAt_5068e 12 = .ok (.invokestatic 495, 3) := by decide +kernel
theorem dJ0_charAt_5068e_15 : decode cJ0_charAt_5068e 15 = .ok (.ireturn, 1) := by decide +kernel
theorem dJ0_charAt_5068e_16 : decode cJ0_charAt_5068e 16 = .ok (.aload_n 0, 1) := by decide +kernel
theorem dJ0_charAt_5068e_17 : decode cJ0_charAt_5068e 17 = .ok (.getfield 9, 3) := by decide +kernel
theorem dJ0_charAt_5068e_20 : decode cJ0_charAt_5068e 20 = .ok (.iload_n 1, 1) := by decide +kernel
theorem dJ0_charAt_5068e_21 : decode cJ0_charAt_5068e 21 = .ok (.invokestatic 498, 3) := by decide +kernel
theorem dJ0_charAt_5068e_24 : decode cJ0_charAt_5068e 24 = .ok (.ireturn, 1) := by decide +kernel
theorem dJ0_indexOf_0f7a4_0 : decode cJ0_indexOf_0f7a4 0 = .ok (.aload_n 0, 1) := by decide +kernel
theorem dJ0_indexOf_0f7a4_1 : decode cJ0_indexOf_0f7a4 1 = .ok (.iload_n 1, 1) := by decide +kernel
theorem dJ0_indexOf_0f7a4_2 : decode cJ0_indexOf_0f7a4 2 = .ok (.iconst 0, 1) := by decide +kernel
theorem dJ0_indexOf_0f7a4_3 : decode cJ0_indexOf_0f7a4 3 = .ok (.invokevirtual 633, 3) := by decide +kernel
theorem dJ0_indexOf_0f7a4_6 : decode cJ0_indexOf_0f7a4 6 = .ok (.ireturn, 1) := by decide +kernel
theorem dJ0_indexOf_7cf53_0 : decode cJ0_indexOf_7cf53 0 = .ok (.aload_n 0, 1) := by decide +kernel
theorem dJ0_indexOf_7cf53_1 : decode cJ0_indexOf_7cf53 1 = .ok (.invokevirtual 492, 3) := by decide +kernel
theorem dJ0_indexOf_7cf53_4 : decode cJ0_indexOf_7cf53 4 = .ok (.ifCond .eq 19, 3) := by decide +kernel
theorem dJ0_indexOf_7cf53_7 : decode cJ0_indexOf_7cf53 7 = .ok (.aload_n 0, 1) := by decide +kernel
theorem dJ0_indexOf_7cf53_8 : decode cJ0_indexOf_7cf53 8 = .ok (.getfield 9, 3) := by decide +kernel
theorem dJ0_indexOf_7cf53_11 : decode cJ0_indexOf_7cf53 11 = .ok (.iload_n 1, 1) := by decide +kernel
theorem dJ0_indexOf_7cf53_12 : decode cJ0_indexOf_7cf53 12 = .ok (.iload_n 2, 1) := by decide +kernel
theorem dJ0_indexOf_7cf53_13 : decode cJ0_indexOf_7cf53 13 = .ok (.aload_n 0, 1) := by decide +kernel
theorem dJ0_indexOf_7cf53_14 : decode cJ0_indexOf_7cf53 14 = .ok (.invokevirtual 505, 3) := by decide +kernel
theorem dJ0_indexOf_7cf53_17 : decode cJ0_indexOf_7cf53 17 = .ok (.invokestatic 637, 3) := by decide +kernel
theorem dJ0_indexOf_7cf53_20 : decode cJ0_indexOf_7cf53 20 = .ok (.goto 16, 3) := by decide +kernel
theorem dJ0_indexOf_7cf53_23 : decode cJ0_indexOf_7cf53 23 = .ok (.aload_n 0, 1) := by decide +kernel
theorem dJ0_indexOf_7cf53_24 : decode cJ0_indexOf_7cf53 24 = .ok (.getfield 9, 3) := by decide +kernel
theorem dJ0_indexOf_7cf53_27 : decode cJ0_indexOf_7cf53 27 = .ok (.iload_n 1, 1) := by decide +kernel
theorem dJ0_indexOf_7cf53_28 : decode cJ0_indexOf_7cf53 28 = .ok (.iload_n 2, 1) := by decide +kernel
theorem dJ0_indexOf_7cf53_29 : decode cJ0_indexOf_7cf53 29 = .ok (.aload_n 0, 1) := by decide +kernel
theorem dJ0_indexOf_7cf53_30 : decode cJ0_indexOf_7cf53 30 = .ok (.invokevirtual 505, 3) := by decide +kernel
theorem dJ0_indexOf_7cf53_33 : decode cJ0_indexOf_7cf53 33 = .ok (.invokestatic 640, 3) := by decide +kernel
theorem dJ0_indexOf_7cf53_36 : decode cJ0_indexOf_7cf53 36 = .ok (.ireturn, 1) := by decide +kernel
theorem dJ0_coder_7d493_0 : decode cJ0_coder_7d493 0 = .ok (.getstatic 38, 3) := by decide +kernel
theorem dJ0_coder_7d493_3 : decode cJ0_coder_7d493 3 = .ok (.ifCond .eq 10, 3) := by decide +kernel
theorem dJ0_coder_7d493_6 : decode cJ0_coder_7d493 6 = .ok (.aload_n 0, 1) := by decide +kernel
theorem dJ0_coder_7d493_7 : decode cJ0_coder_7d493 7 = .ok (.getfield 15, 3) := by decide +kernel
theorem dJ0_coder_7d493_10 : decode cJ0_coder_7d493 10 = .ok (.goto 4, 3) := by decide +kernel
theorem dJ0_coder_7d493_13 : decode cJ0_coder_7d493 13 = .ok (.iconst 1, 1) := by decide +kernel
theorem dJ0_coder_7d493_14 : decode cJ0_coder_7d493 14 = .ok (.ireturn, 1) := by decide +kernel
theorem dJ0_isLatin1_aae02_0 : decode cJ0_isLatin1_aae02 0 = .ok (.getstatic 38, 3) := by decide +kernel
theorem dJ0_isLatin1_aae02_3 : decode cJ0_isLatin1_aae02 3 = .ok (.ifCond .eq 14, 3) := by decide +kernel
theorem dJ0_isLatin1_aae02_6 : decode cJ0_isLatin1_aae02 6 = .ok (.aload_n 0, 1) := by decide +kernel
theorem dJ0_isLatin1_aae02_7 : decode cJ0_isLatin1_aae02 7 = .ok (.getfield 15, 3) := by decide +kernel
theorem dJ0_isLatin1_aae02_10 : decode cJ0_isLatin1_aae02 10 = .ok (.ifCond .ne 7, 3) := by decide +kernel
theorem dJ0_isLatin1_aae02_13 : decode cJ0_isLatin1_aae02 13 = .ok (.iconst 1, 1) := by decide +kernel
theorem dJ0_isLatin1_aae02_14 : decode cJ0_isLatin1_aae02 14 = .ok (.goto 4, 3) := by decide +kernel
theorem dJ0_isLatin1_aae02_17 : decode cJ0_isLatin1_aae02 17 = .ok (.iconst 0, 1) := by decide +kernel
theorem dJ0_isLatin1_aae02_18 : decode cJ0_isLatin1_aae02 18 = .ok (.ireturn, 1) := by decide +kernel
theorem dJ0_checkIndex_df160_0 : decode cJ0_checkIndex_df160 0 = .ok (.iload_n 0, 1) := by decide +kernel
theorem dJ0_checkIndex_df160_1 : decode cJ0_checkIndex_df160 1 = .ok (.iload_n 1, 1) := by decide +kernel
theorem dJ0_checkIndex_df160_2 : decode cJ0_checkIndex_df160 2 = .ok (.getstatic 1053, 3) := by decide +kernel
theorem dJ0_checkIndex_df160_5 : decode cJ0_checkIndex_df160 5 = .ok (.invokestatic 1059, 3) := by decide +kernel
theorem dJ0_checkIndex_df160_8 : decode cJ0_checkIndex_df160 8 = .ok (.pop, 1) := by decide +kernel
theorem dJ0_checkIndex_df160_9 : decode cJ0_checkIndex_df160 9 = .ok (.return_, 1) := by decide +kernel
theorem dJ0_checkBoundsBeginEnd_23922_0 : decode cJ0_checkBoundsBeginEnd_23922 0 = .ok (.iload_n 0, 1) := by decide +kernel
theorem dJ0_checkBoundsBeginEnd_23922_1 : decode cJ0_checkBoundsBeginEnd_23922 1 = .ok (.iload_n 1, 1) := by decide +kernel
theorem dJ0_checkBoundsBeginEnd_23922_2 : decode cJ0_checkBoundsBeginEnd_23922 2 = .ok (.iload_n 2, 1) := by decide +kernel
theorem dJ0_checkBoundsBeginEnd_23922_3 : decode cJ0_checkBoundsBeginEnd_23922 3 = .ok (.getstatic 1053, 3) := by decide +kernel
theorem dJ0_checkBoundsBeginEnd_23922_6 : decode cJ0_checkBoundsBeginEnd_23922 6 = .ok (.invokestatic 1062, 3) := by decide +kernel
theorem dJ0_checkBoundsBeginEnd_23922_9 : decode cJ0_checkBoundsBeginEnd_23922 9 = .ok (.pop, 1) := by decide +kernel
theorem dJ0_checkBoundsBeginEnd_23922_10 : decode cJ0_checkBoundsBeginEnd_23922 10 = .ok (.return_, 1) := by decide +kernel
theorem dJ1_charAt_3b067_0 : decode cJ1_charAt_3b067 0 = .ok (.iload_n 1, 1) := by decide +kernel
theorem dJ1_charAt_3b067_1 : decode cJ1_charAt_3b067 1 = .ok (.aload_n 0, 1) := by decide +kernel
theorem dJ1_charAt_3b067_2 : decode cJ1_charAt_3b067 2 = .ok (.arraylength, 1) := by decide +kernel
theorem dJ1_charAt_3b067_3 : decode cJ1_charAt_3b067 3 = .ok (.invokestatic 9, 3) := by decide +kernel
theorem dJ1_charAt_3b067_6 : decode cJ1_charAt_3b067 6 = .ok (.aload_n 0, 1) := by decide +kernel
theorem dJ1_charAt_3b067_7 : decode cJ1_charAt_3b067 7 = .ok (.iload_n 1, 1) := by decide +kernel
theorem dJ1_charAt_3b067_8 : decode cJ1_charAt_3b067 8 = .ok (.baload, 1) := by decide +kernel
theorem dJ1_charAt_3b067_9 : decode cJ1_charAt_3b067 9 = .ok (.sipush 255, 3) := by decide +kernel
theorem dJ1_charAt_3b067_12 : decode cJ1_charAt_3b067 12 = .ok (.iand, 1) := by decide +kernel
theorem dJ1_charAt_3b067_13 : decode cJ1_charAt_3b067 13 = .ok (.i2c, 1) := by decide +kernel
theorem dJ1_charAt_3b067_14 : decode cJ1_charAt_3b067 14 = .ok (.ireturn, 1) := by decide +kernel
theorem dJ1_canEncode_9a6ad_0 : decode cJ1_canEncode_9a6ad 0 = .ok (.iload_n 0, 1) := by decide +kernel
theorem dJ1_canEncode_9a6ad_1 : decode cJ1_canEncode_9a6ad 1 = .ok (.ifCond .lt 14, 3) := by decide +kernel
theorem dJ1_canEncode_9a6ad_4 : decode cJ1_canEncode_9a6ad 4 = .ok (.iload_n 0, 1) := by decide +kernel
theorem dJ1_canEncode_9a6ad_5 : decode cJ1_canEncode_9a6ad 5 = .ok (.sipush 255, 3) := by decide +kernel
theorem dJ1_canEncode_9a6ad_8 : decode cJ1_canEncode_9a6ad 8 = .ok (.if_icmp .gt 7, 3) := by decide +kernel
theorem dJ1_canEncode_9a6ad_11 : decode cJ1_canEncode_9a6ad 11 = .ok (.iconst 1, 1) := by decide +kernel
theorem dJ1_canEncode_9a6ad_12 : decode cJ1_canEncode_9a6ad 12 = .ok (.goto 4, 3) := by decide +kernel
theorem dJ1_canEncode_9a6ad_15 : decode cJ1_canEncode_9a6ad 15 = .ok (.iconst 0, 1) := by decide +kernel
theorem dJ1_canEncode_9a6ad_16 : decode cJ1_canEncode_9a6ad 16 = .ok (.ireturn, 1) := by decide +kernel
theorem dJ1_indexOf_4cfef_0 : decode cJ1_indexOf_4cfef 0 = .ok (.iload_n 1, 1) := by decide +kernel
theorem dJ1_indexOf_4cfef_1 : decode cJ1_indexOf_4cfef 1 = .ok (.invokestatic 88, 3) := by decide +kernel
theorem dJ1_indexOf_4cfef_4 : decode cJ1_indexOf_4cfef 4 = .ok (.ifCond .ne 5, 3) := by decide +kernel
theorem dJ1_indexOf_4cfef_7 : decode cJ1_indexOf_4cfef 7 = .ok (.iconst (-1), 1) := by decide +kernel
theorem dJ1_indexOf_4cfef_8 : decode cJ1_indexOf_4cfef 8 = .ok (.ireturn, 1) := by decide +kernel
theorem dJ1_indexOf_4cfef_9 : decode cJ1_indexOf_4cfef 9 = .ok (.iload_n 2, 1) := by decide +kernel
theorem dJ1_indexOf_4cfef_10 : decode cJ1_indexOf_4cfef 10 = .ok (.iconst 0, 1) := by decide +kernel
theorem dJ1_indexOf_4cfef_11 : decode cJ1_indexOf_4cfef 11 = .ok (.invokestatic 92, 3) := by decide +kernel
theorem dJ1_indexOf_4cfef_14 : decode cJ1_indexOf_4cfef 14 = .ok (.istore_n 2, 1) := by decide +kernel
theorem dJ1_indexOf_4cfef_15 : decode cJ1_indexOf_4cfef 15 = .ok (.iload_n 3, 1) := by decide +kernel
theorem dJ1_indexOf_4cfef_16 : decode cJ1_indexOf_4cfef 16 = .ok (.aload_n 0, 1) := by decide +kernel
theorem dJ1_indexOf_4cfef_17 : decode cJ1_indexOf_4cfef 17 = .ok (.arraylength, 1) := by decide +kernel
theorem dJ1_indexOf_4cfef_18 : decode cJ1_indexOf_4cfef 18 = .ok (.invokestatic 38, 3) := by decide +kernel
theorem dJ1_indexOf_4cfef_21 : decode cJ1_indexOf_4cfef 21 = .ok (.istore_n 3, 1) := by decide +kernel
theorem dJ1_indexOf_4cfef_22 : decode cJ1_indexOf_4cfef 22 = .ok (.iload_n 2, 1) := by decide +kernel
theorem dJ1_indexOf_4cfef_23 : decode cJ1_indexOf_4cfef 23 = .ok (.iload_n 3, 1) := by decide +kernel
theorem dJ1_indexOf_4cfef_24 : decode cJ1_indexOf_4cfef 24 = .ok (.if_icmp .lt 5, 3) := by decide +kernel
theorem dJ1_indexOf_4cfef_27 : decode cJ1_indexOf_4cfef 27 = .ok (.iconst (-1), 1) := by decide +kernel
theorem dJ1_indexOf_4cfef_28 : decode cJ1_indexOf_4cfef 28 = .ok (.ireturn, 1) := by decide +kernel
theorem dJ1_indexOf_4cfef_29 : decode cJ1_indexOf_4cfef 29 = .ok (.aload_n 0, 1) := by decide +kernel
theorem dJ1_indexOf_4cfef_30 : decode cJ1_indexOf_4cfef 30 = .ok (.iload_n 1, 1) := by decide +kernel
theorem dJ1_indexOf_4cfef_31 : decode cJ1_indexOf_4cfef 31 = .ok (.iload_n 2, 1) := by decide +kernel
theorem dJ1_indexOf_4cfef_32 : decode cJ1_indexOf_4cfef 32 = .ok (.iload_n 3, 1) := by decide +kernel
theorem dJ1_indexOf_4cfef_33 : decode cJ1_indexOf_4cfef 33 = .ok (.invokestatic 95, 3) := by decide +kernel
theorem dJ1_indexOf_4cfef_36 : decode cJ1_indexOf_4cfef 36 = .ok (.ireturn, 1) := by decide +kernel
theorem dJ1_indexOfChar_4cfef_0 : decode cJ1_indexOfChar_4cfef 0 = .ok (.iload_n 1, 1) := by decide +kernel
theorem dJ1_indexOfChar_4cfef_1 : decode cJ1_indexOfChar_4cfef 1 = .ok (.i2b, 1) := by decide +kernel
theorem dJ1_indexOfChar_4cfef_2 : decode cJ1_indexOfChar_4cfef 2 = .ok (.istore 4, 2) := by decide +kernel
theorem dJ1_indexOfChar_4cfef_4 : decode cJ1_indexOfChar_4cfef 4 = .ok (.iload_n 2, 1) := by decide +kernel
theorem dJ1_indexOfChar_4cfef_5 : decode cJ1_indexOfChar_4cfef 5 = .ok (.istore 5, 2) := by decide +kernel
theorem dJ1_indexOfChar_4cfef_7 : decode cJ1_indexOfChar_4cfef 7 = .ok (.iload 5, 2) := by decide +kernel
theorem dJ1_indexOfChar_4cfef_9 : decode cJ1_indexOfChar_4cfef 9 = .ok (.iload_n 3, 1) := by decide +kernel
theorem dJ1_indexOfChar_4cfef_10 : decode cJ1_indexOfChar_4cfef 10 = .ok (.if_icmp .ge 21, 3) := by decide +kernel
theorem dJ1_indexOfChar_4cfef_13 : decode cJ1_indexOfChar_4cfef 13 = .ok (.aload_n 0, 1) := by decide +kernel
theorem dJ1_indexOfChar_4cfef_14 : decode cJ1_indexOfChar_4cfef 14 = .ok (.iload 5, 2) := by decide +kernel
theorem dJ1_indexOfChar_4cfef_16 : decode cJ1_indexOfChar_4cfef 16 = .ok (.baload, 1) := by decide +kernel
theorem dJ1_indexOfChar_4cfef_17 : decode cJ1_indexOfChar_4cfef 17 = .ok (.iload 4, 2) := by decide +kernel
theorem dJ1_indexOfChar_4cfef_19 : decode cJ1_indexOfChar_4cfef 19 = .ok (.if_icmp .ne 6, 3) := by decide +kernel
theorem dJ1_indexOfChar_4cfef_22 : decode cJ1_indexOfChar_4cfef 22 = .ok (.iload 5, 2) := by decide +kernel
theorem dJ1_indexOfChar_4cfef_24 : decode cJ1_indexOfChar_4cfef 24 = .ok (.ireturn, 1) := by decide +kernel
theorem dJ1_indexOfChar_4cfef_25 : decode cJ1_indexOfChar_4cfef 25 = .ok (.iinc 5 1, 3) := by decide +kernel
theorem dJ1_indexOfChar_4cfef_28 : decode cJ1_indexOfChar_4cfef 28 = .ok (.goto (-21), 3) := by decide +kernel
theorem dJ1_indexOfChar_4cfef_31 : decode cJ1_indexOfChar_4cfef 31 = .ok (.iconst (-1), 1) := by decide +kernel
theorem dJ1_indexOfChar_4cfef_32 : decode cJ1_indexOfChar_4cfef 32 = .ok (.ireturn, 1) := by decide +kernel
theorem dJ2_getChar_3b067_0 : decode cJ2_getChar_3b067 0 = .ok (.getstatic 44, 3) := by decide +kernel
theorem dJ2_getChar_3b067_3 : decode cJ2_getChar_3b067 3 = .ok (.ifCond .ne 25, 3) := by decide +kernel
theorem dJ2_getChar_3b067_6 : decode cJ2_getChar_3b067 6 = .ok (.iload_n 1, 1) := by decide +kernel
theorem dJ2_getChar_3b067_7 : decode cJ2_getChar_3b067 7 = .ok (.ifCond .lt 11, 3) := by decide +kernel
theorem dJ2_getChar_3b067_10 : decode cJ2_getChar_3b067 10 = .ok (.iload_n 1, 1) := by decide +kernel
theorem dJ2_getChar_3b067_11 : decode cJ2_getChar_3b067 11 = .ok (.aload_n 0, 1) := by decide +kernel
theorem dJ2_getChar_3b067_12 : decode cJ2_getChar_3b067 12 = .ok (.invokestatic 48, 3) := by decide +kernel
theorem dJ2_getChar_3b067_15 : decode cJ2_getChar_3b067 15 = .ok (.if_icmp .lt 13, 3) := by decide +kernel
theorem dJ2_getChar_3b067_18 : decode cJ2_getChar_3b067 18 = .ok (.new 52, 3) := by decide +kernel
theorem dJ2_getChar_3b067_21 : decode cJ2_getChar_3b067 21 = .ok (.dup, 1) := by decide +kernel
theorem dJ2_getChar_3b067_22 : decode cJ2_getChar_3b067 22 = .ok (.ldc 54, 2) := by decide +kernel
theorem dJ2_getChar_3b067_24 : decode cJ2_getChar_3b067 24 = .ok (.invokespecial 56, 3) := by decide +kernel
theorem dJ2_getChar_3b067_27 : decode cJ2_getChar_3b067 27 = .ok (.athrow, 1) := by decide +kernel
theorem dJ2_getChar_3b067_28 : decode cJ2_getChar_3b067 28 = .ok (.iload_n 1, 1) := by decide +kernel
theorem dJ2_getChar_3b067_29 : decode cJ2_getChar_3b067 29 = .ok (.iconst 1, 1) := by decide +kernel
theorem dJ2_getChar_3b067_30 : decode cJ2_getChar_3b067 30 = .ok (.ishl, 1) := by decide +kernel
theorem dJ2_getChar_3b067_31 : decode cJ2_getChar_3b067 31 = .ok (.istore_n 1, 1) := by decide +kernel
theorem dJ2_getChar_3b067_32 : decode cJ2_getChar_3b067 32 = .ok (.aload_n 0, 1) := by decide +kernel
theorem dJ2_getChar_3b067_33 : decode cJ2_getChar_3b067 33 = .ok (.iload_n 1, 1) := by decide +kernel
theorem dJ2_getChar_3b067_34 : decode cJ2_getChar_3b067 34 = .ok (.iinc 1 1, 3) := by decide +kernel
theorem dJ2_getChar_3b067_37 : decode cJ2_getChar_3b067 37 = .ok (.baload, 1) := by decide +kernel
theorem dJ2_getChar_3b067_38 : decode cJ2_getChar_3b067 38 = .ok (.sipush 255, 3) := by decide +kernel
theorem dJ2_getChar_3b067_41 : decode cJ2_getChar_3b067 41 = .ok (.iand, 1) := by decide +kernel
theorem dJ2_getChar_3b067_42 : decode cJ2_getChar_3b067 42 = .ok (.getstatic 59, 3) := by decide +kernel
theorem dJ2_getChar_3b067_45 : decode cJ2_getChar_3b067 45 = .ok (.ishl, 1) := by decide +kernel
theorem dJ2_getChar_3b067_46 : decode cJ2_getChar_3b067 46 = .ok (.aload_n 0, 1) := by decide +kernel
theorem dJ2_getChar_3b067_47 : decode cJ2_getChar_3b067 47 = .ok (.iload_n 1, 1) := by decide +kernel
theorem dJ2_getChar_3b067_48 : decode cJ2_getChar_3b067 48 = .ok (.baload, 1) := by decide +kernel
theorem dJ2_getChar_3b067_49 : decode cJ2_getChar_3b067 49 = .ok (.sipush 255, 3) := by decide +kernel
theorem dJ2_getChar_3b067_52 : decode cJ2_getChar_3b067 52 = .ok (.iand, 1) := by decide +kernel
theorem dJ2_getChar_3b067_53 : decode cJ2_getChar_3b067 53 = .ok (.getstatic 63, 3) := by decide +kernel
theorem dJ2_getChar_3b067_56 : decode cJ2_getChar_3b067 56 = .ok (.ishl, 1) := by decide +kernel
theorem dJ2_getChar_3b067_57 : decode cJ2_getChar_3b067 57 = .ok (.ior, 1) := by decide +kernel
theorem dJ2_getChar_3b067_58 : decode cJ2_getChar_3b067 58 = .ok (.i2c, 1) := by decide +kernel
theorem dJ2_getChar_3b067_59 : decode cJ2_getChar_3b067 59 = .ok (.ireturn, 1) := by decide +kernel
theorem dJ2_length_9d52b_0 : decode cJ2_length_9d52b 0 = .ok (.aload_n 0, 1) := by decide +kernel
theorem dJ2_length_9d52b_1 : decode cJ2_length_9d52b 1 = .ok (.arraylength, 1) := by decide +kernel
theorem dJ2_length_9d52b_2 : decode cJ2_length_9d52b 2 = .ok (.iconst 1, 1) := by decide +kernel
theorem dJ2_length_9d52b_3 : decode cJ2_length_9d52b 3 = .ok (.ishr, 1) := by decide +kernel
theorem dJ2_length_9d52b_4 : decode cJ2_length_9d52b 4 = .ok (.ireturn, 1) := by decide +kernel
theorem dJ2_indexOf_4cfef_0 : decode cJ2_indexOf_4cfef 0 = .ok (.iload_n 2, 1) := by decide +kernel
theorem dJ2_indexOf_4cfef_1 : decode cJ2_indexOf_4cfef 1 = .ok (.iconst 0, 1) := by decide +kernel
theorem dJ2_indexOf_4cfef_2 : decode cJ2_indexOf_4cfef 2 = .ok (.invokestatic 224, 3) := by decide +kernel
theorem dJ2_indexOf_4cfef_5 : decode cJ2_indexOf_4cfef 5 = .ok (.istore_n 2, 1) := by decide +kernel
theorem dJ2_indexOf_4cfef_6 : decode cJ2_indexOf_4cfef 6 = .ok (.iload_n 3, 1) := by decide +kernel
theorem dJ2_indexOf_4cfef_7 : decode cJ2_indexOf_4cfef 7 = .ok (.aload_n 0, 1) := by decide +kernel
theorem dJ2_indexOf_4cfef_8 : decode cJ2_indexOf_4cfef 8 = .ok (.arraylength, 1) := by decide +kernel
theorem dJ2_indexOf_4cfef_9 : decode cJ2_indexOf_4cfef 9 = .ok (.iconst 1, 1) := by decide +kernel
theorem dJ2_indexOf_4cfef_10 : decode cJ2_indexOf_4cfef 10 = .ok (.ishr, 1) := by decide +kernel
theorem dJ2_indexOf_4cfef_11 : decode cJ2_indexOf_4cfef 11 = .ok (.invokestatic 183, 3) := by decide +kernel
theorem dJ2_indexOf_4cfef_14 : decode cJ2_indexOf_4cfef 14 = .ok (.istore_n 3, 1) := by decide +kernel
theorem dJ2_indexOf_4cfef_15 : decode cJ2_indexOf_4cfef 15 = .ok (.iload_n 2, 1) := by decide +kernel
theorem dJ2_indexOf_4cfef_16 : decode cJ2_indexOf_4cfef 16 = .ok (.iload_n 3, 1) := by decide +kernel
theorem dJ2_indexOf_4cfef_17 : decode cJ2_indexOf_4cfef 17 = .ok (.if_icmp .lt 5, 3) := by decide +kernel
theorem dJ2_indexOf_4cfef_20 : decode cJ2_indexOf_4cfef 20 = .ok (.iconst (-1), 1) := by decide +kernel
theorem dJ2_indexOf_4cfef_21 : decode cJ2_indexOf_4cfef 21 = .ok (.ireturn, 1) := by decide +kernel
theorem dJ2_indexOf_4cfef_22 : decode cJ2_indexOf_4cfef 22 = .ok (.iload_n 1, 1) := by decide +kernel
theorem dJ2_indexOf_4cfef_23 : decode cJ2_indexOf_4cfef 23 = .ok (.ldc 227, 2) := by decide +kernel
theorem dJ2_indexOf_4cfef_25 : decode cJ2_indexOf_4cfef 25 = .ok (.if_icmp .ge 11, 3) := by decide +kernel
theorem dJ2_indexOf_4cfef_28 : decode cJ2_indexOf_4cfef 28 = .ok (.aload_n 0, 1) := by decide +kernel
theorem dJ2_indexOf_4cfef_29 : decode cJ2_indexOf_4cfef 29 = .ok (.iload_n 1, 1) := by decide +kernel
theorem dJ2_indexOf_4cfef_30 : decode cJ2_indexOf_4cfef 30 = .ok (.iload_n 2, 1) := by decide +kernel
theorem dJ2_indexOf_4cfef_31 : decode cJ2_indexOf_4cfef 31 = .ok (.iload_n 3, 1) := by decide +kernel
theorem dJ2_indexOf_4cfef_32 : decode cJ2_indexOf_4cfef 32 = .ok (.invokestatic 228, 3) := by decide +kernel
theorem dJ2_indexOf_4cfef_35 : decode cJ2_indexOf_4cfef 35 = .ok (.ireturn, 1) := by decide +kernel
theorem dJ2_indexOf_4cfef_36 : decode cJ2_indexOf_4cfef 36 = .ok (.aload_n 0, 1) := by decide +kernel
theorem dJ2_indexOf_4cfef_37 : decode cJ2_indexOf_4cfef 37 = .ok (.iload_n 1, 1) := by decide +kernel
theorem dJ2_indexOf_4cfef_38 : decode cJ2_indexOf_4cfef 38 = .ok (.iload_n 2, 1) := by decide +kernel
theorem dJ2_indexOf_4cfef_39 : decode cJ2_indexOf_4cfef 39 = .ok (.iload_n 3, 1) := by decide +kernel
theorem dJ2_indexOf_4cfef_40 : decode cJ2_indexOf_4cfef 40 = .ok (.invokestatic 232, 3) := by decide +kernel
theorem dJ2_indexOf_4cfef_43 : decode cJ2_indexOf_4cfef 43 = .ok (.ireturn, 1) := by decide +kernel
theorem dJ2_indexOfChar_4cfef_0 : decode cJ2_indexOfChar_4cfef 0 = .ok (.iload_n 2, 1) := by decide +kernel
theorem dJ2_indexOfChar_4cfef_1 : decode cJ2_indexOfChar_4cfef 1 = .ok (.iload_n 3, 1) := by decide +kernel
theorem dJ2_indexOfChar_4cfef_2 : decode cJ2_indexOfChar_4cfef 2 = .ok (.aload_n 0, 1) := by decide +kernel
theorem dJ2_indexOfChar_4cfef_3 : decode cJ2_indexOfChar_4cfef 3 = .ok (.invokestatic 96, 3) := by decide +kernel
theorem dJ2_indexOfChar_4cfef_6 : decode cJ2_indexOfChar_4cfef 6 = .ok (.aload_n 0, 1) := by decide +kernel
theorem dJ2_indexOfChar_4cfef_7 : decode cJ2_indexOfChar_4cfef 7 = .ok (.iload_n 1, 1) := by decide +kernel
theorem dJ2_indexOfChar_4cfef_8 : decode cJ2_indexOfChar_4cfef 8 = .ok (.iload_n 2, 1) := by decide +kernel
theorem dJ2_indexOfChar_4cfef_9 : decode cJ2_indexOfChar_4cfef 9 = .ok (.iload_n 3, 1) := by decide +kernel
theorem dJ2_indexOfChar_4cfef_10 : decode cJ2_indexOfChar_4cfef 10 = .ok (.invokestatic 244, 3) := by decide +kernel
theorem dJ2_indexOfChar_4cfef_13 : decode cJ2_indexOfChar_4cfef 13 = .ok (.ireturn, 1) := by decide +kernel
theorem dJ2_indexOfCharUnsafe_4cfef_0 : decode cJ2_indexOfCharUnsafe_4cfef 0 = .ok (.iload_n 2, 1) := by decide +kernel
theorem dJ2_indexOfCharUnsafe_4cfef_1 : decode cJ2_indexOfCharUnsafe_4cfef 1 = .ok (.istore 4, 2) := by decide +kernel
theorem dJ2_indexOfCharUnsafe_4cfef_3 : decode cJ2_indexOfCharUnsafe_4cfef 3 = .ok (.iload 4, 2) := by decide +kernel
theorem dJ2_indexOfCharUnsafe_4cfef_5 : decode cJ2_indexOfCharUnsafe_4cfef 5 = .ok (.iload_n 3, 1) := by decide +kernel
theorem dJ2_indexOfCharUnsafe_4cfef_6 : decode cJ2_indexOfCharUnsafe_4cfef 6 = .ok (.if_icmp .ge 22, 3) := by decide +kernel
theorem dJ2_indexOfCharUnsafe_4cfef_9 : decode cJ2_indexOfCharUnsafe_4cfef 9 = .ok (.aload_n 0, 1) := by decide +kernel
theorem dJ2_indexOfCharUnsafe_4cfef_10 : decode cJ2_indexOfCharUnsafe_4cfef 10 = .ok (.iload 4, 2) := by decide +kernel
theorem dJ2_indexOfCharUnsafe_4cfef_12 : decode cJ2_indexOfCharUnsafe_4cfef 12 = .ok (.invokestatic 71, 3) := by decide +kernel
theorem dJ2_indexOfCharUnsafe_4cfef_15 : decode cJ2_indexOfCharUnsafe_4cfef 15 = .ok (.iload_n 1, 1) := by decide +kernel
theorem dJ2_indexOfCharUnsafe_4cfef_16 : decode cJ2_indexOfCharUnsafe_4cfef 16 = .ok (.if_icmp .ne 6, 3) := by decide +kernel
theorem dJ2_indexOfCharUnsafe_4cfef_19 : decode cJ2_indexOfCharUnsafe_4cfef 19 = .ok (.iload 4, 2) := by decide +kernel
theorem dJ2_indexOfCharUnsafe_4cfef_21 : decode cJ2_indexOfCharUnsafe_4cfef 21 = .ok (.ireturn, 1) := by decide +kernel
theorem dJ2_indexOfCharUnsafe_4cfef_22 : decode cJ2_indexOfCharUnsafe_4cfef 22 = .ok (.iinc 4 1, 3) := by decide +kernel
theorem dJ2_indexOfCharUnsafe_4cfef_25 : decode cJ2_indexOfCharUnsafe_4cfef 25 = .ok (.goto (-22), 3) := by decide +kernel
theorem dJ2_indexOfCharUnsafe_4cfef_28 : decode cJ2_indexOfCharUnsafe_4cfef 28 = .ok (.iconst (-1), 1) := by decide +kernel
theorem dJ2_indexOfCharUnsafe_4cfef_29 : decode cJ2_indexOfCharUnsafe_4cfef 29 = .ok (.ireturn, 1) := by decide +kernel
theorem dJ2_indexOfSupplementary_4cfef_0 : decode cJ2_indexOfSupplementary_4cfef 0 = .ok (.iload_n 1, 1) := by decide +kernel
theorem dJ2_indexOfSupplementary_4cfef_1 : decode cJ2_indexOfSupplementary_4cfef 1 = .ok (.invokestatic 164, 3) := by decide +kernel
theorem dJ2_indexOfSupplementary_4cfef_4 : decode cJ2_indexOfSupplementary_4cfef 4 = .ok (.ifCond .eq 65, 3) := by decide +kernel
theorem dJ2_indexOfSupplementary_4cfef_7 : decode cJ2_indexOfSupplementary_4cfef 7 = .ok (.iload_n 1, 1) := by decide +kernel
theorem dJ2_indexOfSupplementary_4cfef_8 : decode cJ2_indexOfSupplementary_4cfef 8 = .ok (.invokestatic 157, 3) := by decide +kernel
theorem dJ2_indexOfSupplementary_4cfef_11 : decode cJ2_indexOfSupplementary_4cfef 11 = .ok (.istore 4, 2) := by decide +kernel
theorem dJ2_indexOfSupplementary_4cfef_13 : decode cJ2_indexOfSupplementary_4cfef 13 = .ok (.iload_n 1, 1) := by decide +kernel
theorem dJ2_indexOfSupplementary_4cfef_14 : decode cJ2_indexOfSupplementary_4cfef 14 = .ok (.invokestatic 161, 3) := by decide +kernel
theorem dJ2_indexOfSupplementary_4cfef_17 : decode cJ2_indexOfSupplementary_4cfef 17 = .ok (.istore 5, 2) := by decide +kernel
theorem dJ2_indexOfSupplementary_4cfef_19 : decode cJ2_indexOfSupplementary_4cfef 19 = .ok (.iload_n 2, 1) := by decide +kernel
theorem dJ2_indexOfSupplementary_4cfef_20 : decode cJ2_indexOfSupplementary_4cfef 20 = .ok (.iload_n 3, 1) := by decide +kernel
theorem dJ2_indexOfSupplementary_4cfef_21 : decode cJ2_indexOfSupplementary_4cfef 21 = .ok (.aload_n 0, 1) := by decide +kernel
theorem dJ2_indexOfSupplementary_4cfef_22 : decode cJ2_indexOfSupplementary_4cfef 22 = .ok (.invokestatic 96, 3) := by decide +kernel
theorem dJ2_indexOfSupplementary_4cfef_25 : decode cJ2_indexOfSupplementary_4cfef 25 = .ok (.iload_n 2, 1) := by decide +kernel
theorem dJ2_indexOfSupplementary_4cfef_26 : decode cJ2_indexOfSupplementary_4cfef 26 = .ok (.istore 6, 2) := by decide +kernel
theorem dJ2_indexOfSupplementary_4cfef_28 : decode cJ2_indexOfSupplementary_4cfef 28 = .ok (.iload 6, 2) := by decide +kernel
theorem dJ2_indexOfSupplementary_4cfef_30 : decode cJ2_indexOfSupplementary_4cfef 30 = .ok (.iload_n 3, 1) := by decide +kernel
theorem dJ2_indexOfSupplementary_4cfef_31 : decode cJ2_indexOfSupplementary_4cfef 31 = .ok (.iconst 1, 1) := by decide +kernel
theorem dJ2_indexOfSupplementary_4cfef_32 : decode cJ2_indexOfSupplementary_4cfef 32 = .ok (.isub, 1) := by decide +kernel
theorem dJ2_indexOfSupplementary_4cfef_33 : decode cJ2_indexOfSupplementary_4cfef 33 = .ok (.if_icmp .ge 36, 3) := by decide +kernel
theorem dJ2_indexOfSupplementary_4cfef_36 : decode cJ2_indexOfSupplementary_4cfef 36 = .ok (.aload_n 0, 1) := by decide +kernel
theorem dJ2_indexOfSupplementary_4cfef_37 : decode cJ2_indexOfSupplementary_4cfef 37 = .ok (.iload 6, 2) := by decide +kernel
theorem dJ2_indexOfSupplementary_4cfef_39 : decode cJ2_indexOfSupplementary_4cfef 39 = .ok (.invokestatic 71, 3) := by decide +kernel
theorem dJ2_indexOfSupplementary_4cfef_42 : decode cJ2_indexOfSupplementary_4cfef 42 = .ok (.iload 4, 2) := by decide +kernel
theorem dJ2_indexOfSupplementary_4cfef_44 : decode cJ2_indexOfSupplementary_4cfef 44 = .ok (.if_icmp .ne 19, 3) := by decide +kernel
theorem dJ2_indexOfSupplementary_4cfef_47 : decode cJ2_indexOfSupplementary_4cfef 47 = .ok (.aload_n 0, 1) := by decide +kernel
theorem dJ2_indexOfSupplementary_4cfef_48 : decode cJ2_indexOfSupplementary_4cfef 48 = .ok (.iload 6, 2) := by decide +kernel
theorem dJ2_indexOfSupplementary_4cfef_50 : decode cJ2_indexOfSupplementary_4cfef 50 = .ok (.iconst 1, 1) := by decide +kernel
theorem dJ2_indexOfSupplementary_4cfef_51 : decode cJ2_indexOfSupplementary_4cfef 51 = .ok (.iadd, 1) := by decide +kernel
theorem dJ2_indexOfSupplementary_4cfef_52 : decode cJ2_indexOfSupplementary_4cfef 52 = .ok (.invokestatic 71, 3) := by decide +kernel
theorem dJ2_indexOfSupplementary_4cfef_55 : decode cJ2_indexOfSupplementary_4cfef 55 = .ok (.iload 5, 2) := by decide +kernel
theorem dJ2_indexOfSupplementary_4cfef_57 : decode cJ2_indexOfSupplementary_4cfef 57 = .ok (.if_icmp .ne 6, 3) := by decide +kernel
theorem dJ2_indexOfSupplementary_4cfef_60 : decode cJ2_indexOfSupplementary_4cfef 60 = .ok (.iload 6, 2) := by decide +kernel
theorem dJ2_indexOfSupplementary_4cfef_62 : decode cJ2_indexOfSupplementary_4cfef 62 = .ok (.ireturn, 1) := by decide +kernel
theorem dJ2_indexOfSupplementary_4cfef_63 : decode cJ2_indexOfSupplementary_4cfef 63 = .ok (.iinc 6 1, 3) := by decide +kernel
theorem dJ2_indexOfSupplementary_4cfef_66 : decode cJ2_indexOfSupplementary_4cfef 66 = .ok (.goto (-38), 3) := by decide +kernel
theorem dJ2_indexOfSupplementary_4cfef_69 : decode cJ2_indexOfSupplementary_4cfef 69 = .ok (.iconst (-1), 1) := by decide +kernel
theorem dJ2_indexOfSupplementary_4cfef_70 : decode cJ2_indexOfSupplementary_4cfef 70 = .ok (.ireturn, 1) := by decide +kernel
theorem dJ2_charAt_3b067_0 : decode cJ2_charAt_3b067 0 = .ok (.iload_n 1, 1) := by decide +kernel
theorem dJ2_charAt_3b067_1 : decode cJ2_charAt_3b067 1 = .ok (.aload_n 0, 1) := by decide +kernel
theorem dJ2_charAt_3b067_2 : decode cJ2_charAt_3b067 2 = .ok (.invokestatic 67, 3) := by decide +kernel
theorem dJ2_charAt_3b067_5 : decode cJ2_charAt_3b067 5 = .ok (.aload_n 0, 1) := by decide +kernel
theorem dJ2_charAt_3b067_6 : decode cJ2_charAt_3b067 6 = .ok (.iload_n 1, 1) := by decide +kernel
theorem dJ2_charAt_3b067_7 : decode cJ2_charAt_3b067 7 = .ok (.invokestatic 71, 3) := by decide +kernel
theorem dJ2_charAt_3b067_10 : decode cJ2_charAt_3b067 10 = .ok (.ireturn, 1) := by decide +kernel
theorem dJ2_checkIndex_2214a_0 : decode cJ2_checkIndex_2214a 0 = .ok (.iload_n 0, 1) := by decide +kernel
theorem dJ2_checkIndex_2214a_1 : decode cJ2_checkIndex_2214a 1 = .ok (.aload_n 1, 1) := by decide +kernel
theorem dJ2_checkIndex_2214a_2 : decode cJ2_checkIndex_2214a 2 = .ok (.invokestatic 48, 3) := by decide +kernel
theorem dJ2_checkIndex_2214a_5 : decode cJ2_checkIndex_2214a 5 = .ok (.invokestatic 414, 3) := by decide +kernel
theorem dJ2_checkIndex_2214a_8 : decode cJ2_checkIndex_2214a 8 = .ok (.return_, 1) := by decide +kernel
theorem dJ2_checkBoundsBeginEnd_d044e_0 : decode cJ2_checkBoundsBeginEnd_d044e 0 = .ok (.iload_n 0, 1) := by decide +kernel
theorem dJ2_checkBoundsBeginEnd_d044e_1 : decode cJ2_checkBoundsBeginEnd_d044e 1 = .ok (.iload_n 1, 1) := by decide +kernel
theorem dJ2_checkBoundsBeginEnd_d044e_2 : decode cJ2_checkBoundsBeginEnd_d044e 2 = .ok (.aload_n 2, 1) := by decide +kernel
theorem dJ2_checkBoundsBeginEnd_d044e_3 : decode cJ2_checkBoundsBeginEnd_d044e 3 = .ok (.invokestatic 48, 3) := by decide +kernel
theorem dJ2_checkBoundsBeginEnd_d044e_6 : decode cJ2_checkBoundsBeginEnd_d044e 6 = .ok (.invokestatic 241, 3) := by decide +kernel
theorem dJ2_checkBoundsBeginEnd_d044e_9 : decode cJ2_checkBoundsBeginEnd_d044e 9 = .ok (.return_, 1) := by decide +kernel
theorem dJ7_fill_53178_0 : decode cJ7_fill_53178 0 = .ok (.iconst 0, 1) := by decide +kernel
theorem dJ7_fill_53178_1 : decode cJ7_fill_53178 1 = .ok (.istore_n 2, 1) := by decide +kernel
theorem dJ7_fill_53178_2 : decode cJ7_fill_53178 2 = .ok (.aload_n 0, 1) := by decide +kernel
theorem dJ7_fill_53178_3 : decode cJ7_fill_53178 3 = .ok (.arraylength, 1) := by decide +kernel
theorem dJ7_fill_53178_4 : decode cJ7_fill_53178 4 = .ok (.istore_n 3, 1) := by decide +kernel
theorem dJ7_fill_53178_5 : decode cJ7_fill_53178 5 = .ok (.iload_n 2, 1) := by decide +kernel
theorem dJ7_fill_53178_6 : decode cJ7_fill_53178 6 = .ok (.iload_n 3, 1) := by decide +kernel
theorem dJ7_fill_53178_7 : decode cJ7_fill_53178 7 = .ok (.if_icmp .ge 13, 3) := by decide +kernel
theorem dJ7_fill_53178_10 : decode cJ7_fill_53178 10 = .ok (.aload_n 0, 1) := by decide +kernel
theorem dJ7_fill_53178_11 : decode cJ7_fill_53178 11 = .ok (.iload_n 2, 1) := by decide +kernel
theorem dJ7_fill_53178_12 : decode cJ7_fill_53178 12 = .ok (.iload_n 1, 1) := by decide +kernel
theorem dJ7_fill_53178_13 : decode cJ7_fill_53178 13 = .ok (.iastore, 1) := by decide +kernel
theorem dJ7_fill_53178_14 : decode cJ7_fill_53178 14 = .ok (.iinc 2 1, 3) := by decide +kernel
theorem dJ7_fill_53178_17 : decode cJ7_fill_53178 17 = .ok (.goto (-12), 3) := by decide +kernel
theorem dJ7_fill_53178_20 : decode cJ7_fill_53178 20 = .ok (.return_, 1) := by decide +kernel
theorem dJ7_copyOf_59c91_0 : decode cJ7_copyOf_59c91 0 = .ok (.iload_n 1, 1) := by decide +kernel
theorem dJ7_copyOf_59c91_1 : decode cJ7_copyOf_59c91 1 = .ok (.aload_n 0, 1) := by decide +kernel
theorem dJ7_copyOf_59c91_2 : decode cJ7_copyOf_59c91 2 = .ok (.arraylength, 1) := by decide +kernel
theorem dJ7_copyOf_59c91_3 : decode cJ7_copyOf_59c91 3 = .ok (.if_icmp .ne 11, 3) := by decide +kernel
theorem dJ7_copyOf_59c91_6 : decode cJ7_copyOf_59c91 6 = .ok (.aload_n 0, 1) := by decide +kernel
theorem dJ7_copyOf_59c91_7 : decode cJ7_copyOf_59c91 7 = .ok (.invokevirtual 316, 3) := by decide +kernel
theorem dJ7_copyOf_59c91_10 : decode cJ7_copyOf_59c91 10 = .ok (.checkcast 317, 3) := by decide +kernel
theorem dJ7_copyOf_59c91_13 : decode cJ7_copyOf_59c91 13 = .ok (.areturn, 1) := by decide +kernel
theorem dJ7_copyOf_59c91_14 : decode cJ7_copyOf_59c91 14 = .ok (.iload_n 1, 1) := by decide +kernel
theorem dJ7_copyOf_59c91_15 : decode cJ7_copyOf_59c91 15 = .ok (.newarray .int, 2) := by decide +kernel
theorem dJ7_copyOf_59c91_17 : decode cJ7_copyOf_59c91 17 = .ok (.astore_n 2, 1) := by decide +kernel
theorem dJ7_copyOf_59c91_18 : decode cJ7_copyOf_59c91 18 = .ok (.aload_n 0, 1) := by decide +kernel
theorem dJ7_copyOf_59c91_19 : decode cJ7_copyOf_59c91 19 = .ok (.iconst 0, 1) := by decide +kernel
theorem dJ7_copyOf_59c91_20 : decode cJ7_copyOf_59c91 20 = .ok (.aload_n 2, 1) := by decide +kernel
theorem dJ7_copyOf_59c91_21 : decode cJ7_copyOf_59c91 21 = .ok (.iconst 0, 1) := by decide +kernel
theorem dJ7_copyOf_59c91_22 : decode cJ7_copyOf_59c91 22 = .ok (.aload_n 0, 1) := by decide +kernel
theorem dJ7_copyOf_59c91_23 : decode cJ7_copyOf_59c91 23 = .ok (.arraylength, 1) := by decide +kernel
theorem dJ7_copyOf_59c91_24 : decode cJ7_copyOf_59c91 24 = .ok (.iload_n 1, 1) := by decide +kernel
theorem dJ7_copyOf_59c91_25 : decode cJ7_copyOf_59c91 25 = .ok (.invokestatic 304, 3) := by decide +kernel
theorem dJ7_copyOf_59c91_28 : decode cJ7_copyOf_59c91 28 = .ok (.invokestatic 150, 3) := by decide +kernel
theorem dJ7_copyOf_59c91_31 : decode cJ7_copyOf_59c91 31 = .ok (.aload_n 2, 1) := by decide +kernel
theorem dJ7_copyOf_59c91_32 : decode cJ7_copyOf_59c91 32 = .ok (.areturn, 1) := by decide +kernel
theorem dJ3_checkIndex_8e157_0 : decode cJ3_checkIndex_8e157 0 = .ok (.iload_n 0, 1) := by decide +kernel
theorem dJ3_checkIndex_8e157_1 : decode cJ3_checkIndex_8e157 1 = .ok (.ifCond .lt 8, 3) := by decide +kernel
theorem dJ3_checkIndex_8e157_4 : decode cJ3_checkIndex_8e157 4 = .ok (.iload_n 0, 1) := by decide +kernel
theorem dJ3_checkIndex_8e157_5 : decode cJ3_checkIndex_8e157 5 = .ok (.iload_n 1, 1) := by decide +kernel
theorem dJ3_checkIndex_8e157_6 : decode cJ3_checkIndex_8e157 6 = .ok (.if_icmp .lt 10, 3) := by decide +kernel
theorem dJ3_checkIndex_8e157_9 : decode cJ3_checkIndex_8e157 9 = .ok (.aload_n 2, 1) := by decide +kernel
theorem dJ3_checkIndex_8e157_10 : decode cJ3_checkIndex_8e157 10 = .ok (.iload_n 0, 1) := by decide +kernel
theorem dJ3_checkIndex_8e157_11 : decode cJ3_checkIndex_8e157 11 = .ok (.iload_n 1, 1) := by decide +kernel
theorem dJ3_checkIndex_8e157_12 : decode cJ3_checkIndex_8e157 12 = .ok (.invokestatic 95, 3) := by decide +kernel
theorem dJ3_checkIndex_8e157_15 : decode cJ3_checkIndex_8e157 15 = .ok (.athrow, 1) := by decide +kernel
theorem dJ3_checkIndex_8e157_16 : decode cJ3_checkIndex_8e157 16 = .ok (.iload_n 0, 1) := by decide +kernel
theorem dJ3_checkIndex_8e157_17 : decode cJ3_checkIndex_8e157 17 = .ok (.ireturn, 1) := by decide +kernel
theorem dJ3_checkFromToIndex_8c36e_0 : decode cJ3_checkFromToIndex_8c36e 0 = .ok (.iload_n 0, 1) := by decide +kernel
theorem dJ3_checkFromToIndex_8c36e_1 : decode cJ3_checkFromToIndex_8c36e 1 = .ok (.ifCond .lt 13, 3) := by decide +kernel
theorem dJ3_checkFromToIndex_8c36e_4 : decode cJ3_checkFromToIndex_8c36e 4 = .ok (.iload_n 0, 1) := by decide +kernel
theorem dJ3_checkFromToIndex_8c36e_5 : decode cJ3_checkFromToIndex_8c36e 5 = .ok (.iload_n 1, 1) := by decide +kernel
theorem dJ3_checkFromToIndex_8c36e_6 : decode cJ3_checkFromToIndex_8c36e 6 = .ok (.if_icmp .gt 8, 3) := by decide +kernel
theorem dJ3_checkFromToIndex_8c36e_9 : decode cJ3_checkFromToIndex_8c36e 9 = .ok (.iload_n 1, 1) := by decide +kernel
theorem dJ3_checkFromToIndex_8c36e_10 : decode cJ3_checkFromToIndex_8c36e 10 = .ok (.iload_n 2, 1) := by decide +kernel
theorem dJ3_checkFromToIndex_8c36e_11 : decode cJ3_checkFromToIndex_8c36e 11 = .ok (.if_icmp .le 11, 3) := by decide +kernel
theorem dJ3_checkFromToIndex_8c36e_14 : decode cJ3_checkFromToIndex_8c36e 14 = .ok (.aload_n 3, 1) := by decide +kernel
theorem dJ3_checkFromToIndex_8c36e_15 : decode cJ3_checkFromToIndex_8c36e 15 = .ok (.iload_n 0, 1) := by decide +kernel
theorem dJ3_checkFromToIndex_8c36e_16 : decode cJ3_checkFromToIndex_8c36e 16 = .ok (.iload_n 1, 1) := by decide +kernel
theorem dJ3_checkFromToIndex_8c36e_17 : decode cJ3_checkFromToIndex_8c36e 17 = .ok (.iload_n 2, 1) := by decide +kernel
theorem dJ3_checkFromToIndex_8c36e_18 : decode cJ3_checkFromToIndex_8c36e 18 = .ok (.invokestatic 99, 3) := by decide +kernel
theorem dJ3_checkFromToIndex_8c36e_21 : decode cJ3_checkFromToIndex_8c36e 21 = .ok (.athrow, 1) := by decide +kernel
theorem dJ3_checkFromToIndex_8c36e_22 : decode cJ3_checkFromToIndex_8c36e 22 = .ok (.iload_n 0, 1) := by decide +kernel
theorem dJ3_checkFromToIndex_8c36e_23 : decode cJ3_checkFromToIndex_8c36e 23 = .ok (.ireturn, 1) := by decide +kernel
theorem dL_law_0 : decode cL_law 0 = .ok (.new 7, 3) := by decide +kernel
theorem dL_law_3 : decode cL_law 3 = .ok (.dup, 1) := by decide +kernel
theorem dL_law_4 : decode cL_law 4 = .ok (.invokespecial 9, 3) := by decide +kernel
theorem dL_law_7 : decode cL_law 7 = .ok (.astore_n 1, 1) := by decide +kernel
theorem dL_law_8 : decode cL_law 8 = .ok (.new 10, 3) := by decide +kernel
theorem dL_law_11 : decode cL_law 11 = .ok (.dup, 1) := by decide +kernel
theorem dL_law_12 : decode cL_law 12 = .ok (.invokespecial 12, 3) := by decide +kernel
theorem dL_law_15 : decode cL_law 15 = .ok (.astore_n 2, 1) := by decide +kernel
theorem dL_law_16 : decode cL_law 16 = .ok (.iconst 0, 1) := by decide +kernel
theorem dL_law_17 : decode cL_law 17 = .ok (.istore_n 3, 1) := by decide +kernel
theorem dL_law_18 : decode cL_law 18 = .ok (.iload_n 3, 1) := by decide +kernel
theorem dL_law_19 : decode cL_law 19 = .ok (.aload_n 0, 1) := by decide +kernel
theorem dL_law_20 : decode cL_law 20 = .ok (.arraylength, 1) := by decide +kernel
theorem dL_law_21 : decode cL_law 21 = .ok (.bipush 6, 2) := by decide +kernel
theorem dL_law_23 : decode cL_law 23 = .ok (.isub, 1) := by decide +kernel
theorem dL_law_24 : decode cL_law 24 = .ok (.if_icmp .gt 1380, 3) := by decide +kernel
theorem dL_law_27 : decode cL_law 27 = .ok (.aload_n 0, 1) := by decide +kernel
theorem dL_law_28 : decode cL_law 28 = .ok (.iload_n 3, 1) := by decide +kernel
theorem dL_law_29 : decode cL_law 29 = .ok (.iaload, 1) := by decide +kernel
theorem dL_law_30 : decode cL_law 30 = .ok (.bipush 63, 2) := by decide +kernel
theorem dL_law_32 : decode cL_law 32 = .ok (.iand, 1) := by decide +kernel
theorem dL_law_33 : decode cL_law 33 = .ok (.tableswitch 1365 0 39 #[175, 228, 261, 294, 327, 370, 403, 436, 469, 502, 535, 558, 581, 614, 627, 650, 683, 706, 729, 762, 785, 798, 841, 864, 877, 910, 933, 976, 1019, 1042, 1065, 1128, 1171, 1204, 1237, 1270, 1293, 1316, 1329, 1342], 175) := by decide +kernel
theorem dL_law_208 : decode cL_law 208 = .ok (.aload_n 1, 1) := by decide +kernel
theorem dL_law_209 : decode cL_law 209 = .ok (.aload_n 0, 1) := by decide +kernel
theorem dL_law_210 : decode cL_law 210 = .ok (.iload_n 3, 1) := by decide +kernel
theorem dL_law_211 : decode cL_law 211 = .ok (.iconst 1, 1) := by decide +kernel
theorem dL_law_212 : decode cL_law 212 = .ok (.iadd, 1) := by decide +kernel
theorem dL_law_213 : decode cL_law 213 = .ok (.iaload, 1) := by decide +kernel
theorem dL_law_214 : decode cL_law 214 = .ok (.aload_n 0, 1) := by decide +kernel
theorem dL_law_215 : decode cL_law 215 = .ok (.iload_n 3, 1) := by decide +kernel
theorem dL_law_216 : decode cL_law 216 = .ok (.iconst 2, 1) := by decide +kernel
theorem dL_law_217 : decode cL_law 217 = .ok (.iadd, 1) := by decide +kernel
theorem dL_law_218 : decode cL_law 218 = .ok (.iaload, 1) := by decide +kernel
theorem dL_law_219 : decode cL_law 219 = .ok (.aload_n 0, 1) := by decide +kernel
theorem dL_law_220 : decode cL_law 220 = .ok (.iload_n 3, 1) := by decide +kernel
theorem dL_law_221 : decode cL_law 221 = .ok (.iconst 3, 1) := by decide +kernel
theorem dL_law_222 : decode cL_law 222 = .ok (.iadd, 1) := by decide +kernel
theorem dL_law_223 : decode cL_law 223 = .ok (.iaload, 1) := by decide +kernel
theorem dL_law_224 : decode cL_law 224 = .ok (.aload_n 0, 1) := by decide +kernel
theorem dL_law_225 : decode cL_law 225 = .ok (.iload_n 3, 1) := by decide +kernel
theorem dL_law_226 : decode cL_law 226 = .ok (.iconst 4, 1) := by decide +kernel
theorem dL_law_227 : decode cL_law 227 = .ok (.iadd, 1) := by decide +kernel
theorem dL_law_228 : decode cL_law 228 = .ok (.iaload, 1) := by decide +kernel
theorem dL_law_229 : decode cL_law 229 = .ok (.invokevirtual 13, 3) := by decide +kernel
theorem dL_law_232 : decode cL_law 232 = .ok (.aload_n 2, 1) := by decide +kernel
theorem dL_law_233 : decode cL_law 233 = .ok (.aload_n 0, 1) := by decide +kernel
theorem dL_law_234 : decode cL_law 234 = .ok (.iload_n 3, 1) := by decide +kernel
theorem dL_law_235 : decode cL_law 235 = .ok (.iconst 1, 1) := by decide +kernel
theorem dL_law_236 : decode cL_law 236 = .ok (.iadd, 1) := by decide +kernel
theorem dL_law_237 : decode cL_law 237 = .ok (.iaload, 1) := by decide +kernel
theorem dL_law_238 : decode cL_law 238 = .ok (.aload_n 0, 1) := by decide +kernel
theorem dL_law_239 : decode cL_law 239 = .ok (.iload_n 3, 1) := by decide +kernel
theorem dL_law_240 : decode cL_law 240 = .ok (.iconst 2, 1) := by decide +kernel
theorem dL_law_241 : decode cL_law 241 = .ok (.iadd, 1) := by decide +kernel
theorem dL_law_242 : decode cL_law 242 = .ok (.iaload, 1) := by decide +kernel
theorem dL_law_243 : decode cL_law 243 = .ok (.aload_n 0, 1) := by decide +kernel
theorem dL_law_244 : decode cL_law 244 = .ok (.iload_n 3, 1) := by decide +kernel
theorem dL_law_245 : decode cL_law 245 = .ok (.iconst 3, 1) := by decide +kernel
theorem dL_law_246 : decode cL_law 246 = .ok (.iadd, 1) := by decide +kernel
theorem dL_law_247 : decode cL_law 247 = .ok (.iaload, 1) := by decide +kernel
theorem dL_law_248 : decode cL_law 248 = .ok (.aload_n 0, 1) := by decide +kernel
theorem dL_law_249 : decode cL_law 249 = .ok (.iload_n 3, 1) := by decide +kernel
theorem dL_law_250 : decode cL_law 250 = .ok (.iconst 4, 1) := by decide +kernel
theorem dL_law_251 : decode cL_law 251 = .ok (.iadd, 1) := by decide +kernel
theorem dL_law_252 : decode cL_law 252 = .ok (.iaload, 1) := by decide +kernel
theorem dL_law_253 : decode cL_law 253 = .ok (.invokevirtual 17, 3) := by decide +kernel
theorem dL_law_256 : decode cL_law 256 = .ok (.if_icmp .eq 1142, 3) := by decide +kernel
theorem dL_law_259 : decode cL_law 259 = .ok (.iconst 0, 1) := by decide +kernel
theorem dL_law_260 : decode cL_law 260 = .ok (.ireturn, 1) := by decide +kernel
theorem dL_law_261 : decode cL_law 261 = .ok (.aload_n 1, 1) := by decide +kernel
theorem dL_law_262 : decode cL_law 262 = .ok (.aload_n 0, 1) := by decide +kernel
theorem dL_law_263 : decode cL_law 263 = .ok (.iload_n 3, 1) := by decide +kernel
theorem dL_law_264 : decode cL_law 264 = .ok (.iconst 1, 1) := by decide +kernel
theorem dL_law_265 : decode cL_law 265 = .ok (.iadd, 1) := by decide +kernel
theorem dL_law_266 : decode cL_law 266 = .ok (.iaload, 1) := by decide +kernel
theorem dL_law_267 : decode cL_law 267 = .ok (.aload_n 0, 1) := by decide +kernel
theorem dL_law_268 : decode cL_law 268 = .ok (.iload_n 3, 1) := by decide +kernel
theorem dL_law_269 : decode cL_law 269 = .ok (.iconst 2, 1) := by decide +kernel
theorem dL_law_270 : decode cL_law 270 = .ok (.iadd, 1) := by decide +kernel
theorem dL_law_271 : decode cL_law 271 = .ok (.iaload, 1) := by decide +kernel
theorem dL_law_272 : decode cL_law 272 = .ok (.invokevirtual 18, 3) := by decide +kernel
theorem dL_law_275 : decode cL_law 275 = .ok (.aload_n 2, 1) := by decide +kernel
theorem dL_law_276 : decode cL_law 276 = .ok (.aload_n 0, 1) := by decide +kernel
theorem dL_law_277 : decode cL_law 277 = .ok (.iload_n 3, 1) := by decide +kernel
theorem dL_law_278 : decode cL_law 278 = .ok (.iconst 1, 1) := by decide +kernel
theorem dL_law_279 : decode cL_law 279 = .ok (.iadd, 1) := by decide +kernel
theorem dL_law_280 : decode cL_law 280 = .ok (.iaload, 1) := by decide +kernel
theorem dL_law_281 : decode cL_law 281 = .ok (.aload_n 0, 1) := by decide +kernel
theorem dL_law_282 : decode cL_law 282 = .ok (.iload_n 3, 1) := by decide +kernel
theorem dL_law_283 : decode cL_law 283 = .ok (.iconst 2, 1) := by decide +kernel
theorem dL_law_284 : decode cL_law 284 = .ok (.iadd, 1) := by decide +kernel
theorem dL_law_285 : decode cL_law 285 = .ok (.iaload, 1) := by decide +kernel
theorem dL_law_286 : decode cL_law 286 = .ok (.invokevirtual 22, 3) := by decide +kernel
theorem dL_law_289 : decode cL_law 289 = .ok (.if_icmp .eq 1109, 3) := by decide +kernel
theorem dL_law_292 : decode cL_law 292 = .ok (.iconst 0, 1) := by decide +kernel
theorem dL_law_293 : decode cL_law 293 = .ok (.ireturn, 1) := by decide +kernel
theorem dL_law_294 : decode cL_law 294 = .ok (.aload_n 1, 1) := by decide +kernel
theorem dL_law_295 : decode cL_law 295 = .ok (.aload_n 0, 1) := by decide +kernel
theorem dL_law_296 : decode cL_law 296 = .ok (.iload_n 3, 1) := by decide +kernel
theorem dL_law_297 : decode cL_law 297 = .ok (.iconst 1, 1) := by decide +kernel
theorem dL_law_298 : decode cL_law 298 = .ok (.iadd, 1) := by decide +kernel
theorem dL_law_299 : decode cL_law 299 = .ok (.iaload, 1) := by decide +kernel
theorem dL_law_300 : decode cL_law 300 = .ok (.aload_n 0, 1) := by decide +kernel
theorem dL_law_301 : decode cL_law 301 = .ok (.iload_n 3, 1) := by decide +kernel
theorem dL_law_302 : decode cL_law 302 = .ok (.iconst 2, 1) := by decide +kernel
theorem dL_law_303 : decode cL_law 303 = .ok (.iadd, 1) := by decide +kernel
theorem dL_law_304 : decode cL_law 304 = .ok (.iaload, 1) := by decide +kernel
theorem dL_law_305 : decode cL_law 305 = .ok (.invokevirtual 23, 3) := by decide +kernel
theorem dL_law_308 : decode cL_law 308 = .ok (.aload_n 2, 1) := by decide +kernel
theorem dL_law_309 : decode cL_law 309 = .ok (.aload_n 0, 1) := by decide +kernel
theorem dL_law_310 : decode cL_law 310 = .ok (.iload_n 3, 1) := by decide +kernel
theorem dL_law_311 : decode cL_law 311 = .ok (.iconst 1, 1) := by decide +kernel
theorem dL_law_312 : decode cL_law 312 = .ok (.iadd, 1) := by decide +kernel
theorem dL_law_313 : decode cL_law 313 = .ok (.iaload, 1) := by decide +kernel
theorem dL_law_314 : decode cL_law 314 = .ok (.aload_n 0, 1) := by decide +kernel
theorem dL_law_315 : decode cL_law 315 = .ok (.iload_n 3, 1) := by decide +kernel
theorem dL_law_316 : decode cL_law 316 = .ok (.iconst 2, 1) := by decide +kernel
theorem dL_law_317 : decode cL_law 317 = .ok (.iadd, 1) := by decide +kernel
theorem dL_law_318 : decode cL_law 318 = .ok (.iaload, 1) := by decide +kernel
theorem dL_law_319 : decode cL_law 319 = .ok (.invokevirtual 26, 3) := by decide +kernel
theorem dL_law_322 : decode cL_law 322 = .ok (.if_icmp .eq 1076, 3) := by decide +kernel
theorem dL_law_325 : decode cL_law 325 = .ok (.iconst 0, 1) := by decide +kernel
theorem dL_law_326 : decode cL_law 326 = .ok (.ireturn, 1) := by decide +kernel
theorem dL_law_327 : decode cL_law 327 = .ok (.aload_n 1, 1) := by decide +kernel
theorem dL_law_328 : decode cL_law 328 = .ok (.aload_n 0, 1) := by decide +kernel
theorem dL_law_329 : decode cL_law 329 = .ok (.iload_n 3, 1) := by decide +kernel
theorem dL_law_330 : decode cL_law 330 = .ok (.iconst 1, 1) := by decide +kernel
theorem dL_law_331 : decode cL_law 331 = .ok (.iadd, 1) := by decide +kernel
theorem dL_law_332 : decode cL_law 332 = .ok (.iaload, 1) := by decide +kernel
theorem dL_law_333 : decode cL_law 333 = .ok (.aload_n 0, 1) := by decide +kernel
theorem dL_law_334 : decode cL_law 334 = .ok (.iload_n 3, 1) := by decide +kernel
theorem dL_law_335 : decode cL_law 335 = .ok (.iconst 2, 1) := by decide +kernel
theorem dL_law_336 : decode cL_law 336 = .ok (.iadd, 1) := by decide +kernel
theorem dL_law_337 : decode cL_law 337 = .ok (.iaload, 1) := by decide +kernel
theorem dL_law_338 : decode cL_law 338 = .ok (.invokevirtual 27, 3) := by decide +kernel
theorem dL_law_341 : decode cL_law 341 = .ok (.aload_n 2, 1) := by decide +kernel
theorem dL_law_342 : decode cL_law 342 = .ok (.aload_n 0, 1) := by decide +kernel
theorem dL_law_343 : decode cL_law 343 = .ok (.iload_n 3, 1) := by decide +kernel
theorem dL_law_344 : decode cL_law 344 = .ok (.iconst 1, 1) := by decide +kernel
theorem dL_law_345 : decode cL_law 345 = .ok (.iadd, 1) := by decide +kernel
theorem dL_law_346 : decode cL_law 346 = .ok (.iaload, 1) := by decide +kernel
theorem dL_law_347 : decode cL_law 347 = .ok (.aload_n 0, 1) := by decide +kernel
theorem dL_law_348 : decode cL_law 348 = .ok (.iload_n 3, 1) := by decide +kernel
theorem dL_law_349 : decode cL_law 349 = .ok (.iconst 2, 1) := by decide +kernel
theorem dL_law_350 : decode cL_law 350 = .ok (.iadd, 1) := by decide +kernel
theorem dL_law_351 : decode cL_law 351 = .ok (.iaload, 1) := by decide +kernel
theorem dL_law_352 : decode cL_law 352 = .ok (.invokevirtual 30, 3) := by decide +kernel
theorem dL_law_355 : decode cL_law 355 = .ok (.if_icmp .eq 1043, 3) := by decide +kernel
theorem dL_law_358 : decode cL_law 358 = .ok (.iconst 0, 1) := by decide +kernel
theorem dL_law_359 : decode cL_law 359 = .ok (.ireturn, 1) := by decide +kernel
theorem dL_law_360 : decode cL_law 360 = .ok (.aload_n 1, 1) := by decide +kernel
theorem dL_law_361 : decode cL_law 361 = .ok (.aload_n 0, 1) := by decide +kernel
theorem dL_law_362 : decode cL_law 362 = .ok (.iload_n 3, 1) := by decide +kernel
theorem dL_law_363 : decode cL_law 363 = .ok (.iconst 1, 1) := by decide +kernel
theorem dL_law_364 : decode cL_law 364 = .ok (.iadd, 1) := by decide +kernel
theorem dL_law_365 : decode cL_law 365 = .ok (.iaload, 1) := by decide +kernel
theorem dL_law_366 : decode cL_law 366 = .ok (.aload_n 0, 1) := by decide +kernel
theorem dL_law_367 : decode cL_law 367 = .ok (.iload_n 3, 1) := by decide +kernel
theorem dL_law_368 : decode cL_law 368 = .ok (.iconst 2, 1) := by decide +kernel
theorem dL_law_369 : decode cL_law 369 = .ok (.iadd, 1) := by decide +kernel
theorem dL_law_370 : decode cL_law 370 = .ok (.iaload, 1) := by decide +kernel
theorem dL_law_371 : decode cL_law 371 = .ok (.aload_n 0, 1) := by decide +kernel
theorem dL_law_372 : decode cL_law 372 = .ok (.iload_n 3, 1) := by decide +kernel
theorem dL_law_373 : decode cL_law 373 = .ok (.iconst 3, 1) := by decide +kernel
theorem dL_law_374 : decode cL_law 374 = .ok (.iadd, 1) := by decide +kernel
theorem dL_law_375 : decode cL_law 375 = .ok (.iaload, 1) := by decide +kernel
theorem dL_law_376 : decode cL_law 376 = .ok (.invokevirtual 31, 3) := by decide +kernel
theorem dL_law_379 : decode cL_law 379 = .ok (.aload_n 2, 1) := by decide +kernel
theorem dL_law_380 : decode cL_law 380 = .ok (.aload_n 0, 1) := by decide +kernel
theorem dL_law_381 : decode cL_law 381 = .ok (.iload_n 3, 1) := by decide +kernel
theorem dL_law_382 : decode cL_law 382 = .ok (.iconst 1, 1) := by decide +kernel
theorem dL_law_383 : decode cL_law 383 = .ok (.iadd, 1) := by decide +kernel
theorem dL_law_384 : decode cL_law 384 = .ok (.iaload, 1) := by decide +kernel
theorem dL_law_385 : decode cL_law 385 = .ok (.aload_n 0, 1) := by decide +kernel
theorem dL_law_386 : decode cL_law 386 = .ok (.iload_n 3, 1) := by decide +kernel
theorem dL_law_387 : decode cL_law 387 = .ok (.iconst 2, 1) := by decide +kernel
theorem dL_law_388 : decode cL_law 388 = .ok (.iadd, 1) := by decide +kernel
theorem dL_law_389 : decode cL_law 389 = .ok (.iaload, 1) := by decide +kernel
theorem dL_law_390 : decode cL_law 390 = .ok (.aload_n 0, 1) := by decide +kernel
theorem dL_law_391 : decode cL_law 391 = .ok (.iload_n 3, 1) := by decide +kernel
theorem dL_law_392 : decode cL_law 392 = .ok (.iconst 3, 1) := by decide +kernel
theorem dL_law_393 : decode cL_law 393 = .ok (.iadd, 1) := by decide +kernel
theorem dL_law_394 : decode cL_law 394 = .ok (.iaload, 1) := by decide +kernel
theorem dL_law_395 : decode cL_law 395 = .ok (.invokevirtual 35, 3) := by decide +kernel
theorem dL_law_398 : decode cL_law 398 = .ok (.if_icmp .eq 1000, 3) := by decide +kernel
theorem dL_law_401 : decode cL_law 401 = .ok (.iconst 0, 1) := by decide +kernel
theorem dL_law_402 : decode cL_law 402 = .ok (.ireturn, 1) := by decide +kernel
theorem dL_law_403 : decode cL_law 403 = .ok (.aload_n 1, 1) := by decide +kernel
theorem dL_law_404 : decode cL_law 404 = .ok (.aload_n 0, 1) := by decide +kernel
theorem dL_law_405 : decode cL_law 405 = .ok (.iload_n 3, 1) := by decide +kernel
theorem dL_law_406 : decode cL_law 406 = .ok (.iconst 1, 1) := by decide +kernel
theorem dL_law_407 : decode cL_law 407 = .ok (.iadd, 1) := by decide +kernel
theorem dL_law_408 : decode cL_law 408 = .ok (.iaload, 1) := by decide +kernel
theorem dL_law_409 : decode cL_law 409 = .ok (.aload_n 0, 1) := by decide +kernel
theorem dL_law_410 : decode cL_law 410 = .ok (.iload_n 3, 1) := by decide +kernel
theorem dL_law_411 : decode cL_law 411 = .ok (.iconst 2, 1) := by decide +kernel
theorem dL_law_412 : decode cL_law 412 = .ok (.iadd, 1) := by decide +kernel
theorem dL_law_413 : decode cL_law 413 = .ok (.iaload, 1) := by decide +kernel
theorem dL_law_414 : decode cL_law 414 = .ok (.invokevirtual 36, 3) := by decide +kernel
theorem dL_law_417 : decode cL_law 417 = .ok (.aload_n 2, 1) := by decide +kernel
theorem dL_law_418 : decode cL_law 418 = .ok (.aload_n 0, 1) := by decide +kernel
theorem dL_law_419 : decode cL_law 419 = .ok (.iload_n 3, 1) := by decide +kernel
theorem dL_law_420 : decode cL_law 420 = .ok (.iconst 1, 1) := by decide +kernel
theorem dL_law_421 : decode cL_law 421 = .ok (.iadd, 1) := by decide +kernel
theorem dL_law_422 : decode cL_law 422 = .ok (.iaload, 1) := by decide +kernel
theorem dL_law_423 : decode cL_law 423 = .ok (.aload_n 0, 1) := by decide +kernel
theorem dL_law_424 : decode cL_law 424 = .ok (.iload_n 3, 1) := by decide +kernel
theorem dL_law_425 : decode cL_law 425 = .ok (.iconst 2, 1) := by decide +kernel
theorem dL_law_426 : decode cL_law 426 = .ok (.iadd, 1) := by decide +kernel
theorem dL_law_427 : decode cL_law 427 = .ok (.iaload, 1) := by decide +kernel
theorem dL_law_428 : decode cL_law 428 = .ok (.invokevirtual 39, 3) := by decide +kernel
theorem dL_law_431 : decode cL_law 431 = .ok (.if_icmp .eq 967, 3) := by decide +kernel
theorem dL_law_434 : decode cL_law 434 = .ok (.iconst 0, 1) := by decide +kernel
theorem dL_law_435 : decode cL_law 435 = .ok (.ireturn, 1) := by decide +kernel
theorem dL_law_436 : decode cL_law 436 = .ok (.aload_n 1, 1) := by decide +kernel
theorem dL_law_437 : decode cL_law 437 = .ok (.aload_n 0, 1) := by decide +kernel
theorem dL_law_438 : decode cL_law 438 = .ok (.iload_n 3, 1) := by decide +kernel
theorem dL_law_439 : decode cL_law 439 = .ok (.iconst 1, 1) := by decide +kernel
theorem dL_law_440 : decode cL_law 440 = .ok (.iadd, 1) := by decide +kernel
theorem dL_law_441 : decode cL_law 441 = .ok (.iaload, 1) := by decide +kernel
theorem dL_law_442 : decode cL_law 442 = .ok (.aload_n 0, 1) := by decide +kernel
theorem dL_law_443 : decode cL_law 443 = .ok (.iload_n 3, 1) := by decide +kernel
theorem dL_law_444 : decode cL_law 444 = .ok (.iconst 2, 1) := by decide +kernel
theorem dL_law_445 : decode cL_law 445 = .ok (.iadd, 1) := by decide +kernel
theorem dL_law_446 : decode cL_law 446 = .ok (.iaload, 1) := by decide +kernel
theorem dL_law_447 : decode cL_law 447 = .ok (.invokevirtual 40, 3) := by decide +kernel
theorem dL_law_450 : decode cL_law 450 = .ok (.aload_n 2, 1) := by decide +kernel
theorem dL_law_451 : decode cL_law 451 = .ok (.aload_n 0, 1) := by decide +kernel
theorem dL_law_452 : decode cL_law 452 = .ok (.iload_n 3, 1) := by decide +kernel
theorem dL_law_453 : decode cL_law 453 = .ok (.iconst 1, 1) := by decide +kernel
theorem dL_law_454 : decode cL_law 454 = .ok (.iadd, 1) := by decide +kernel
theorem dL_law_455 : decode cL_law 455 = .ok (.iaload, 1) := by decide +kernel
theorem dL_law_456 : decode cL_law 456 = .ok (.aload_n 0, 1) := by decide +kernel
theorem dL_law_457 : decode cL_law 457 = .ok (.iload_n 3, 1) := by decide +kernel
theorem dL_law_458 : decode cL_law 458 = .ok (.iconst 2, 1) := by decide +kernel
theorem dL_law_459 : decode cL_law 459 = .ok (.iadd, 1) := by decide +kernel
theorem dL_law_460 : decode cL_law 460 = .ok (.iaload, 1) := by decide +kernel
theorem dL_law_461 : decode cL_law 461 = .ok (.invokevirtual 43, 3) := by decide +kernel
theorem dL_law_464 : decode cL_law 464 = .ok (.if_icmp .eq 934, 3) := by decide +kernel
theorem dL_law_467 : decode cL_law 467 = .ok (.iconst 0, 1) := by decide +kernel
theorem dL_law_468 : decode cL_law 468 = .ok (.ireturn, 1) := by decide +kernel
theorem dL_law_469 : decode cL_law 469 = .ok (.aload_n 1, 1) := by decide +kernel
theorem dL_law_470 : decode cL_law 470 = .ok (.aload_n 0, 1) := by decide +kernel
theorem dL_law_471 : decode cL_law 471 = .ok (.iload_n 3, 1) := by decide +kernel
theorem dL_law_472 : decode cL_law 472 = .ok (.iconst 1, 1) := by decide +kernel
theorem dL_law_473 : decode cL_law 473 = .ok (.iadd, 1) := by decide +kernel
theorem dL_law_474 : decode cL_law 474 = .ok (.iaload, 1) := by decide +kernel
theorem dL_law_475 : decode cL_law 475 = .ok (.aload_n 0, 1) := by decide +kernel
theorem dL_law_476 : decode cL_law 476 = .ok (.iload_n 3, 1) := by decide +kernel
theorem dL_law_477 : decode cL_law 477 = .ok (.iconst 2, 1) := by decide +kernel
theorem dL_law_478 : decode cL_law 478 = .ok (.iadd, 1) := by decide +kernel
theorem dL_law_479 : decode cL_law 479 = .ok (.iaload, 1) := by decide +kernel
theorem dL_law_480 : decode cL_law 480 = .ok (.invokevirtual 44, 3) := by decide +kernel
theorem dL_law_483 : decode cL_law 483 = .ok (.aload_n 2, 1) := by decide +kernel
theorem dL_law_484 : decode cL_law 484 = .ok (.aload_n 0, 1) := by decide +kernel
theorem dL_law_485 : decode cL_law 485 = .ok (.iload_n 3, 1) := by decide +kernel
theorem dL_law_486 : decode cL_law 486 = .ok (.iconst 1, 1) := by decide +kernel
theorem dL_law_487 : decode cL_law 487 = .ok (.iadd, 1) := by decide +kernel
theorem dL_law_488 : decode cL_law 488 = .ok (.iaload, 1) := by decide +kernel
theorem dL_law_489 : decode cL_law 489 = .ok (.aload_n 0, 1) := by decide +kernel
theorem dL_law_490 : decode cL_law 490 = .ok (.iload_n 3, 1) := by decide +kernel
theorem dL_law_491 : decode cL_law 491 = .ok (.iconst 2, 1) := by decide +kernel
theorem dL_law_492 : decode cL_law 492 = .ok (.iadd, 1) := by decide +kernel
theorem dL_law_493 : decode cL_law 493 = .ok (.iaload, 1) := by decide +kernel
theorem dL_law_494 : decode cL_law 494 = .ok (.invokevirtual 47, 3) := by decide +kernel
theorem dL_law_497 : decode cL_law 497 = .ok (.if_icmp .eq 901, 3) := by decide +kernel
theorem dL_law_500 : decode cL_law 500 = .ok (.iconst 0, 1) := by decide +kernel
theorem dL_law_501 : decode cL_law 501 = .ok (.ireturn, 1) := by decide +kernel
theorem dL_law_502 : decode cL_law 502 = .ok (.aload_n 1, 1) := by decide +kernel
theorem dL_law_503 : decode cL_law 503 = .ok (.aload_n 0, 1) := by decide +kernel
theorem dL_law_504 : decode cL_law 504 = .ok (.iload_n 3, 1) := by decide +kernel
theorem dL_law_505 : decode cL_law 505 = .ok (.iconst 1, 1) := by decide +kernel
theorem dL_law_506 : decode cL_law 506 = .ok (.iadd, 1) := by decide +kernel
theorem dL_law_507 : decode cL_law 507 = .ok (.iaload, 1) := by decide +kernel
theorem dL_law_508 : decode cL_law 508 = .ok (.aload_n 0, 1) := by decide +kernel
theorem dL_law_509 : decode cL_law 509 = .ok (.iload_n 3, 1) := by decide +kernel
theorem dL_law_510 : decode cL_law 510 = .ok (.iconst 2, 1) := by decide +kernel
theorem dL_law_511 : decode cL_law 511 = .ok (.iadd, 1) := by decide +kernel
theorem dL_law_512 : decode cL_law 512 = .ok (.iaload, 1) := by decide +kernel
theorem dL_law_513 : decode cL_law 513 = .ok (.invokevirtual 48, 3) := by decide +kernel
theorem dL_law_516 : decode cL_law 516 = .ok (.aload_n 2, 1) := by decide +kernel
theorem dL_law_517 : decode cL_law 517 = .ok (.aload_n 0, 1) := by decide +kernel
theorem dL_law_518 : decode cL_law 518 = .ok (.iload_n 3, 1) := by decide +kernel
theorem dL_law_519 : decode cL_law 519 = .ok (.iconst 1, 1) := by decide +kernel
theorem dL_law_520 : decode cL_law 520 = .ok (.iadd, 1) := by decide +kernel
theorem dL_law_521 : decode cL_law 521 = .ok (.iaload, 1) := by decide +kernel
theorem dL_law_522 : decode cL_law 522 = .ok (.aload_n 0, 1) := by decide +kernel
theorem dL_law_523 : decode cL_law 523 = .ok (.iload_n 3, 1) := by decide +kernel
theorem dL_law_524 : decode cL_law 524 = .ok (.iconst 2, 1) := by decide +kernel
theorem dL_law_525 : decode cL_law 525 = .ok (.iadd, 1) := by decide +kernel
theorem dL_law_526 : decode cL_law 526 = .ok (.iaload, 1) := by decide +kernel
theorem dL_law_527 : decode cL_law 527 = .ok (.invokevirtual 51, 3) := by decide +kernel
theorem dL_law_530 : decode cL_law 530 = .ok (.if_icmp .eq 868, 3) := by decide +kernel
theorem dL_law_533 : decode cL_law 533 = .ok (.iconst 0, 1) := by decide +kernel
theorem dL_law_534 : decode cL_law 534 = .ok (.ireturn, 1) := by decide +kernel
theorem dL_law_535 : decode cL_law 535 = .ok (.aload_n 1, 1) := by decide +kernel
theorem dL_law_536 : decode cL_law 536 = .ok (.aload_n 0, 1) := by decide +kernel
theorem dL_law_537 : decode cL_law 537 = .ok (.iload_n 3, 1) := by decide +kernel
theorem dL_law_538 : decode cL_law 538 = .ok (.iconst 1, 1) := by decide +kernel
theorem dL_law_539 : decode cL_law 539 = .ok (.iadd, 1) := by decide +kernel
theorem dL_law_540 : decode cL_law 540 = .ok (.iaload, 1) := by decide +kernel
theorem dL_law_541 : decode cL_law 541 = .ok (.aload_n 0, 1) := by decide +kernel
theorem dL_law_542 : decode cL_law 542 = .ok (.iload_n 3, 1) := by decide +kernel
theorem dL_law_543 : decode cL_law 543 = .ok (.iconst 2, 1) := by decide +kernel
theorem dL_law_544 : decode cL_law 544 = .ok (.iadd, 1) := by decide +kernel
theorem dL_law_545 : decode cL_law 545 = .ok (.iaload, 1) := by decide +kernel
theorem dL_law_546 : decode cL_law 546 = .ok (.invokevirtual 52, 3) := by decide +kernel
theorem dL_law_549 : decode cL_law 549 = .ok (.aload_n 2, 1) := by decide +kernel
theorem dL_law_550 : decode cL_law 550 = .ok (.aload_n 0, 1) := by decide +kernel
theorem dL_law_551 : decode cL_law 551 = .ok (.iload_n 3, 1) := by decide +kernel
theorem dL_law_552 : decode cL_law 552 = .ok (.iconst 1, 1) := by decide +kernel
theorem dL_law_553 : decode cL_law 553 = .ok (.iadd, 1) := by decide +kernel
theorem dL_law_554 : decode cL_law 554 = .ok (.iaload, 1) := by decide +kernel
theorem dL_law_555 : decode cL_law 555 = .ok (.aload_n 0, 1) := by decide +kernel
theorem dL_law_556 : decode cL_law 556 = .ok (.iload_n 3, 1) := by decide +kernel
theorem dL_law_557 : decode cL_law 557 = .ok (.iconst 2, 1) := by decide +kernel
theorem dL_law_558 : decode cL_law 558 = .ok (.iadd, 1) := by decide +kernel
theorem dL_law_559 : decode cL_law 559 = .ok (.iaload, 1) := by decide +kernel
theorem dL_law_560 : decode cL_law 560 = .ok (.invokevirtual 55, 3) := by decide +kernel
theorem dL_law_563 : decode cL_law 563 = .ok (.if_icmp .eq 835, 3) := by decide +kernel
theorem dL_law_566 : decode cL_law 566 = .ok (.iconst 0, 1) := by decide +kernel
theorem dL_law_567 : decode cL_law 567 = .ok (.ireturn, 1) := by decide +kernel
theorem dL_law_568 : decode cL_law 568 = .ok (.aload_n 1, 1) := by decide +kernel
theorem dL_law_569 : decode cL_law 569 = .ok (.aload_n 0, 1) := by decide +kernel
theorem dL_law_570 : decode cL_law 570 = .ok (.iload_n 3, 1) := by decide +kernel
theorem dL_law_571 : decode cL_law 571 = .ok (.iconst 1, 1) := by decide +kernel
theorem dL_law_572 : decode cL_law 572 = .ok (.iadd, 1) := by decide +kernel
theorem dL_law_573 : decode cL_law 573 = .ok (.iaload, 1) := by decide +kernel
theorem dL_law_574 : decode cL_law 574 = .ok (.invokevirtual 56, 3) := by decide +kernel
theorem dL_law_577 : decode cL_law 577 = .ok (.aload_n 2, 1) := by decide +kernel
theorem dL_law_578 : decode cL_law 578 = .ok (.aload_n 0, 1) := by decide +kernel
theorem dL_law_579 : decode cL_law 579 = .ok (.iload_n 3, 1) := by decide +kernel
theorem dL_law_580 : decode cL_law 580 = .ok (.iconst 1, 1) := by decide +kernel
theorem dL_law_581 : decode cL_law 581 = .ok (.iadd, 1) := by decide +kernel
theorem dL_law_582 : decode cL_law 582 = .ok (.iaload, 1) := by decide +kernel
theorem dL_law_583 : decode cL_law 583 = .ok (.invokevirtual 60, 3) := by decide +kernel
theorem dL_law_586 : decode cL_law 586 = .ok (.if_icmp .eq 812, 3) := by decide +kernel
theorem dL_law_589 : decode cL_law 589 = .ok (.iconst 0, 1) := by decide +kernel
theorem dL_law_590 : decode cL_law 590 = .ok (.ireturn, 1) := by decide +kernel
theorem dL_law_591 : decode cL_law 591 = .ok (.aload_n 1, 1) := by decide +kernel
theorem dL_law_592 : decode cL_law 592 = .ok (.aload_n 0, 1) := by decide +kernel
theorem dL_law_593 : decode cL_law 593 = .ok (.iload_n 3, 1) := by decide +kernel
theorem dL_law_594 : decode cL_law 594 = .ok (.iconst 1, 1) := by decide +kernel
theorem dL_law_595 : decode cL_law 595 = .ok (.iadd, 1) := by decide +kernel
theorem dL_law_596 : decode cL_law 596 = .ok (.iaload, 1) := by decide +kernel
theorem dL_law_597 : decode cL_law 597 = .ok (.invokevirtual 61, 3) := by decide +kernel
theorem dL_law_600 : decode cL_law 600 = .ok (.aload_n 2, 1) := by decide +kernel
theorem dL_law_601 : decode cL_law 601 = .ok (.aload_n 0, 1) := by decide +kernel
theorem dL_law_602 : decode cL_law 602 = .ok (.iload_n 3, 1) := by decide +kernel
theorem dL_law_603 : decode cL_law 603 = .ok (.iconst 1, 1) := by decide +kernel
theorem dL_law_604 : decode cL_law 604 = .ok (.iadd, 1) := by decide +kernel
theorem dL_law_605 : decode cL_law 605 = .ok (.iaload, 1) := by decide +kernel
theorem dL_law_606 : decode cL_law 606 = .ok (.invokevirtual 64, 3) := by decide +kernel
theorem dL_law_609 : decode cL_law 609 = .ok (.if_icmp .eq 789, 3) := by decide +kernel
theorem dL_law_612 : decode cL_law 612 = .ok (.iconst 0, 1) := by decide +kernel
theorem dL_law_613 : decode cL_law 613 = .ok (.ireturn, 1) := by decide +kernel
theorem dL_law_614 : decode cL_law 614 = .ok (.aload_n 1, 1) := by decide +kernel
theorem dL_law_615 : decode cL_law 615 = .ok (.aload_n 0, 1) := by decide +kernel
theorem dL_law_616 : decode cL_law 616 = .ok (.iload_n 3, 1) := by decide +kernel
theorem dL_law_617 : decode cL_law 617 = .ok (.iconst 1, 1) := by decide +kernel
theorem dL_law_618 : decode cL_law 618 = .ok (.iadd, 1) := by decide +kernel
theorem dL_law_619 : decode cL_law 619 = .ok (.iaload, 1) := by decide +kernel
theorem dL_law_620 : decode cL_law 620 = .ok (.aload_n 0, 1) := by decide +kernel
theorem dL_law_621 : decode cL_law 621 = .ok (.iload_n 3, 1) := by decide +kernel
theorem dL_law_622 : decode cL_law 622 = .ok (.iconst 2, 1) := by decide +kernel
theorem dL_law_623 : decode cL_law 623 = .ok (.iadd, 1) := by decide +kernel
theorem dL_law_624 : decode cL_law 624 = .ok (.iaload, 1) := by decide +kernel
theorem dL_law_625 : decode cL_law 625 = .ok (.invokevirtual 65, 3) := by decide +kernel
theorem dL_law_628 : decode cL_law 628 = .ok (.aload_n 2, 1) := by decide +kernel
theorem dL_law_629 : decode cL_law 629 = .ok (.aload_n 0, 1) := by decide +kernel
theorem dL_law_630 : decode cL_law 630 = .ok (.iload_n 3, 1) := by decide +kernel
theorem dL_law_631 : decode cL_law 631 = .ok (.iconst 1, 1) := by decide +kernel
theorem dL_law_632 : decode cL_law 632 = .ok (.iadd, 1) := by decide +kernel
theorem dL_law_633 : decode cL_law 633 = .ok (.iaload, 1) := by decide +kernel
theorem dL_law_634 : decode cL_law 634 = .ok (.aload_n 0, 1) := by decide +kernel
theorem dL_law_635 : decode cL_law 635 = .ok (.iload_n 3, 1) := by decide +kernel
theorem dL_law_636 : decode cL_law 636 = .ok (.iconst 2, 1) := by decide +kernel
theorem dL_law_637 : decode cL_law 637 = .ok (.iadd, 1) := by decide +kernel
theorem dL_law_638 : decode cL_law 638 = .ok (.iaload, 1) := by decide +kernel
theorem dL_law_639 : decode cL_law 639 = .ok (.invokevirtual 68, 3) := by decide +kernel
theorem dL_law_642 : decode cL_law 642 = .ok (.if_icmp .eq 756, 3) := by decide +kernel
theorem dL_law_645 : decode cL_law 645 = .ok (.iconst 0, 1) := by decide +kernel
theorem dL_law_646 : decode cL_law 646 = .ok (.ireturn, 1) := by decide +kernel
theorem dL_law_647 : decode cL_law 647 = .ok (.aload_n 1, 1) := by decide +kernel
theorem dL_law_648 : decode cL_law 648 = .ok (.invokevirtual 69, 3) := by decide +kernel
theorem dL_law_651 : decode cL_law 651 = .ok (.aload_n 2, 1) := by decide +kernel
theorem dL_law_652 : decode cL_law 652 = .ok (.invokevirtual 73, 3) := by decide +kernel
theorem dL_law_655 : decode cL_law 655 = .ok (.if_icmp .eq 743, 3) := by decide +kernel
theorem dL_law_658 : decode cL_law 658 = .ok (.iconst 0, 1) := by decide +kernel
theorem dL_law_659 : decode cL_law 659 = .ok (.ireturn, 1) := by decide +kernel
theorem dL_law_660 : decode cL_law 660 = .ok (.aload_n 1, 1) := by decide +kernel
theorem dL_law_661 : decode cL_law 661 = .ok (.aload_n 0, 1) := by decide +kernel
theorem dL_law_662 : decode cL_law 662 = .ok (.iload_n 3, 1) := by decide +kernel
theorem dL_law_663 : decode cL_law 663 = .ok (.iconst 1, 1) := by decide +kernel
theorem dL_law_664 : decode cL_law 664 = .ok (.iadd, 1) := by decide +kernel
theorem dL_law_665 : decode cL_law 665 = .ok (.iaload, 1) := by decide +kernel
theorem dL_law_666 : decode cL_law 666 = .ok (.invokevirtual 74, 3) := by decide +kernel
theorem dL_law_669 : decode cL_law 669 = .ok (.aload_n 2, 1) := by decide +kernel
theorem dL_law_670 : decode cL_law 670 = .ok (.aload_n 0, 1) := by decide +kernel
theorem dL_law_671 : decode cL_law 671 = .ok (.iload_n 3, 1) := by decide +kernel
theorem dL_law_672 : decode cL_law 672 = .ok (.iconst 1, 1) := by decide +kernel
theorem dL_law_673 : decode cL_law 673 = .ok (.iadd, 1) := by decide +kernel
theorem dL_law_674 : decode cL_law 674 = .ok (.iaload, 1) := by decide +kernel
theorem dL_law_675 : decode cL_law 675 = .ok (.invokevirtual 77, 3) := by decide +kernel
theorem dL_law_678 : decode cL_law 678 = .ok (.if_icmp .eq 720, 3) := by decide +kernel
theorem dL_law_681 : decode cL_law 681 = .ok (.iconst 0, 1) := by decide +kernel
theorem dL_law_682 : decode cL_law 682 = .ok (.ireturn, 1) := by decide +kernel
theorem dL_law_683 : decode cL_law 683 = .ok (.aload_n 1, 1) := by decide +kernel
theorem dL_law_684 : decode cL_law 684 = .ok (.aload_n 0, 1) := by decide +kernel
theorem dL_law_685 : decode cL_law 685 = .ok (.iload_n 3, 1) := by decide +kernel
theorem dL_law_686 : decode cL_law 686 = .ok (.iconst 1, 1) := by decide +kernel
theorem dL_law_687 : decode cL_law 687 = .ok (.iadd, 1) := by decide +kernel
theorem dL_law_688 : decode cL_law 688 = .ok (.iaload, 1) := by decide +kernel
theorem dL_law_689 : decode cL_law 689 = .ok (.aload_n 0, 1) := by decide +kernel
theorem dL_law_690 : decode cL_law 690 = .ok (.iload_n 3, 1) := by decide +kernel
theorem dL_law_691 : decode cL_law 691 = .ok (.iconst 2, 1) := by decide +kernel
theorem dL_law_692 : decode cL_law 692 = .ok (.iadd, 1) := by decide +kernel
theorem dL_law_693 : decode cL_law 693 = .ok (.iaload, 1) := by decide +kernel
theorem dL_law_694 : decode cL_law 694 = .ok (.invokevirtual 78, 3) := by decide +kernel
theorem dL_law_697 : decode cL_law 697 = .ok (.aload_n 2, 1) := by decide +kernel
theorem dL_law_698 : decode cL_law 698 = .ok (.aload_n 0, 1) := by decide +kernel
theorem dL_law_699 : decode cL_law 699 = .ok (.iload_n 3, 1) := by decide +kernel
theorem dL_law_700 : decode cL_law 700 = .ok (.iconst 1, 1) := by decide +kernel
theorem dL_law_701 : decode cL_law 701 = .ok (.iadd, 1) := by decide +kernel
theorem dL_law_702 : decode cL_law 702 = .ok (.iaload, 1) := by decide +kernel
theorem dL_law_703 : decode cL_law 703 = .ok (.aload_n 0, 1) := by decide +kernel
theorem dL_law_704 : decode cL_law 704 = .ok (.iload_n 3, 1) := by decide +kernel
theorem dL_law_705 : decode cL_law 705 = .ok (.iconst 2, 1) := by decide +kernel
theorem dL_law_706 : decode cL_law 706 = .ok (.iadd, 1) := by decide +kernel
theorem dL_law_707 : decode cL_law 707 = .ok (.iaload, 1) := by decide +kernel
theorem dL_law_708 : decode cL_law 708 = .ok (.invokevirtual 81, 3) := by decide +kernel
theorem dL_law_711 : decode cL_law 711 = .ok (.if_icmp .eq 687, 3) := by decide +kernel
theorem dL_law_714 : decode cL_law 714 = .ok (.iconst 0, 1) := by decide +kernel
theorem dL_law_715 : decode cL_law 715 = .ok (.ireturn, 1) := by decide +kernel
theorem dL_law_716 : decode cL_law 716 = .ok (.aload_n 1, 1) := by decide +kernel
theorem dL_law_717 : decode cL_law 717 = .ok (.aload_n 0, 1) := by decide +kernel
theorem dL_law_718 : decode cL_law 718 = .ok (.iload_n 3, 1) := by decide +kernel
theorem dL_law_719 : decode cL_law 719 = .ok (.iconst 1, 1) := by decide +kernel
theorem dL_law_720 : decode cL_law 720 = .ok (.iadd, 1) := by decide +kernel
theorem dL_law_721 : decode cL_law 721 = .ok (.iaload, 1) := by decide +kernel
theorem dL_law_722 : decode cL_law 722 = .ok (.invokevirtual 82, 3) := by decide +kernel
theorem dL_law_725 : decode cL_law 725 = .ok (.aload_n 2, 1) := by decide +kernel
theorem dL_law_726 : decode cL_law 726 = .ok (.aload_n 0, 1) := by decide +kernel
theorem dL_law_727 : decode cL_law 727 = .ok (.iload_n 3, 1) := by decide +kernel
theorem dL_law_728 : decode cL_law 728 = .ok (.iconst 1, 1) := by decide +kernel
theorem dL_law_729 : decode cL_law 729 = .ok (.iadd, 1) := by decide +kernel
theorem dL_law_730 : decode cL_law 730 = .ok (.iaload, 1) := by decide +kernel
theorem dL_law_731 : decode cL_law 731 = .ok (.invokevirtual 85, 3) := by decide +kernel
theorem dL_law_734 : decode cL_law 734 = .ok (.if_icmp .eq 664, 3) := by decide +kernel
theorem dL_law_737 : decode cL_law 737 = .ok (.iconst 0, 1) := by decide +kernel
theorem dL_law_738 : decode cL_law 738 = .ok (.ireturn, 1) := by decide +kernel
theorem dL_law_739 : decode cL_law 739 = .ok (.aload_n 1, 1) := by decide +kernel
theorem dL_law_740 : decode cL_law 740 = .ok (.aload_n 0, 1) := by decide +kernel
theorem dL_law_741 : decode cL_law 741 = .ok (.iload_n 3, 1) := by decide +kernel
theorem dL_law_742 : decode cL_law 742 = .ok (.iconst 1, 1) := by decide +kernel
theorem dL_law_743 : decode cL_law 743 = .ok (.iadd, 1) := by decide +kernel
theorem dL_law_744 : decode cL_law 744 = .ok (.iaload, 1) := by decide +kernel
theorem dL_law_745 : decode cL_law 745 = .ok (.invokevirtual 86, 3) := by decide +kernel
theorem dL_law_748 : decode cL_law 748 = .ok (.aload_n 2, 1) := by decide +kernel
theorem dL_law_749 : decode cL_law 749 = .ok (.aload_n 0, 1) := by decide +kernel
theorem dL_law_750 : decode cL_law 750 = .ok (.iload_n 3, 1) := by decide +kernel
theorem dL_law_751 : decode cL_law 751 = .ok (.iconst 1, 1) := by decide +kernel
theorem dL_law_752 : decode cL_law 752 = .ok (.iadd, 1) := by decide +kernel
theorem dL_law_753 : decode cL_law 753 = .ok (.iaload, 1) := by decide +kernel
theorem dL_law_754 : decode cL_law 754 = .ok (.invokevirtual 89, 3) := by decide +kernel
theorem dL_law_757 : decode cL_law 757 = .ok (.if_icmp .eq 641, 3) := by decide +kernel
theorem dL_law_760 : decode cL_law 760 = .ok (.iconst 0, 1) := by decide +kernel
theorem dL_law_761 : decode cL_law 761 = .ok (.ireturn, 1) := by decide +kernel
theorem dL_law_762 : decode cL_law 762 = .ok (.aload_n 1, 1) := by decide +kernel
theorem dL_law_763 : decode cL_law 763 = .ok (.aload_n 0, 1) := by decide +kernel
theorem dL_law_764 : decode cL_law 764 = .ok (.iload_n 3, 1) := by decide +kernel
theorem dL_law_765 : decode cL_law 765 = .ok (.iconst 1, 1) := by decide +kernel
theorem dL_law_766 : decode cL_law 766 = .ok (.iadd, 1) := by decide +kernel
theorem dL_law_767 : decode cL_law 767 = .ok (.iaload, 1) := by decide +kernel
theorem dL_law_768 : decode cL_law 768 = .ok (.aload_n 0, 1) := by decide +kernel
theorem dL_law_769 : decode cL_law 769 = .ok (.iload_n 3, 1) := by decide +kernel
theorem dL_law_770 : decode cL_law 770 = .ok (.iconst 2, 1) := by decide +kernel
theorem dL_law_771 : decode cL_law 771 = .ok (.iadd, 1) := by decide +kernel
theorem dL_law_772 : decode cL_law 772 = .ok (.iaload, 1) := by decide +kernel
theorem dL_law_773 : decode cL_law 773 = .ok (.invokevirtual 90, 3) := by decide +kernel
theorem dL_law_776 : decode cL_law 776 = .ok (.aload_n 2, 1) := by decide +kernel
theorem dL_law_777 : decode cL_law 777 = .ok (.aload_n 0, 1) := by decide +kernel
theorem dL_law_778 : decode cL_law 778 = .ok (.iload_n 3, 1) := by decide +kernel
theorem dL_law_779 : decode cL_law 779 = .ok (.iconst 1, 1) := by decide +kernel
theorem dL_law_780 : decode cL_law 780 = .ok (.iadd, 1) := by decide +kernel
theorem dL_law_781 : decode cL_law 781 = .ok (.iaload, 1) := by decide +kernel
theorem dL_law_782 : decode cL_law 782 = .ok (.aload_n 0, 1) := by decide +kernel
theorem dL_law_783 : decode cL_law 783 = .ok (.iload_n 3, 1) := by decide +kernel
theorem dL_law_784 : decode cL_law 784 = .ok (.iconst 2, 1) := by decide +kernel
theorem dL_law_785 : decode cL_law 785 = .ok (.iadd, 1) := by decide +kernel
theorem dL_law_786 : decode cL_law 786 = .ok (.iaload, 1) := by decide +kernel
theorem dL_law_787 : decode cL_law 787 = .ok (.invokevirtual 93, 3) := by decide +kernel
theorem dL_law_790 : decode cL_law 790 = .ok (.if_icmp .eq 608, 3) := by decide +kernel
theorem dL_law_793 : decode cL_law 793 = .ok (.iconst 0, 1) := by decide +kernel
theorem dL_law_794 : decode cL_law 794 = .ok (.ireturn, 1) := by decide +kernel
theorem dL_law_795 : decode cL_law 795 = .ok (.aload_n 1, 1) := by decide +kernel
theorem dL_law_796 : decode cL_law 796 = .ok (.aload_n 0, 1) := by decide +kernel
theorem dL_law_797 : decode cL_law 797 = .ok (.iload_n 3, 1) := by decide +kernel
theorem dL_law_798 : decode cL_law 798 = .ok (.iconst 1, 1) := by decide +kernel
theorem dL_law_799 : decode cL_law 799 = .ok (.iadd, 1) := by decide +kernel
theorem dL_law_800 : decode cL_law 800 = .ok (.iaload, 1) := by decide +kernel
theorem dL_law_801 : decode cL_law 801 = .ok (.invokevirtual 94, 3) := by decide +kernel
theorem dL_law_804 : decode cL_law 804 = .ok (.aload_n 2, 1) := by decide +kernel
theorem dL_law_805 : decode cL_law 805 = .ok (.aload_n 0, 1) := by decide +kernel
theorem dL_law_806 : decode cL_law 806 = .ok (.iload_n 3, 1) := by decide +kernel
theorem dL_law_807 : decode cL_law 807 = .ok (.iconst 1, 1) := by decide +kernel
theorem dL_law_808 : decode cL_law 808 = .ok (.iadd, 1) := by decide +kernel
theorem dL_law_809 : decode cL_law 809 = .ok (.iaload, 1) := by decide +kernel
theorem dL_law_810 : decode cL_law 810 = .ok (.invokevirtual 97, 3) := by decide +kernel
theorem dL_law_813 : decode cL_law 813 = .ok (.if_icmp .eq 585, 3) := by decide +kernel
theorem dL_law_816 : decode cL_law 816 = .ok (.iconst 0, 1) := by decide +kernel
theorem dL_law_817 : decode cL_law 817 = .ok (.ireturn, 1) := by decide +kernel
theorem dL_law_818 : decode cL_law 818 = .ok (.aload_n 1, 1) := by decide +kernel
theorem dL_law_819 : decode cL_law 819 = .ok (.invokevirtual 98, 3) := by decide +kernel
theorem dL_law_822 : decode cL_law 822 = .ok (.aload_n 2, 1) := by decide +kernel
theorem dL_law_823 : decode cL_law 823 = .ok (.invokevirtual 101, 3) := by decide +kernel
theorem dL_law_826 : decode cL_law 826 = .ok (.if_icmp .eq 572, 3) := by decide +kernel
theorem dL_law_829 : decode cL_law 829 = .ok (.iconst 0, 1) := by decide +kernel
theorem dL_law_830 : decode cL_law 830 = .ok (.ireturn, 1) := by decide +kernel
theorem dL_law_831 : decode cL_law 831 = .ok (.aload_n 1, 1) := by decide +kernel
theorem dL_law_832 : decode cL_law 832 = .ok (.aload_n 0, 1) := by decide +kernel
theorem dL_law_833 : decode cL_law 833 = .ok (.iload_n 3, 1) := by decide +kernel
theorem dL_law_834 : decode cL_law 834 = .ok (.iconst 1, 1) := by decide +kernel
theorem dL_law_835 : decode cL_law 835 = .ok (.iadd, 1) := by decide +kernel
theorem dL_law_836 : decode cL_law 836 = .ok (.iaload, 1) := by decide +kernel
theorem dL_law_837 : decode cL_law 837 = .ok (.aload_n 0, 1) := by decide +kernel
theorem dL_law_838 : decode cL_law 838 = .ok (.iload_n 3, 1) := by decide +kernel
theorem dL_law_839 : decode cL_law 839 = .ok (.iconst 2, 1) := by decide +kernel
theorem dL_law_840 : decode cL_law 840 = .ok (.iadd, 1) := by decide +kernel
theorem dL_law_841 : decode cL_law 841 = .ok (.iaload, 1) := by decide +kernel
theorem dL_law_842 : decode cL_law 842 = .ok (.aload_n 0, 1) := by decide +kernel
theorem dL_law_843 : decode cL_law 843 = .ok (.iload_n 3, 1) := by decide +kernel
theorem dL_law_844 : decode cL_law 844 = .ok (.iconst 3, 1) := by decide +kernel
theorem dL_law_845 : decode cL_law 845 = .ok (.iadd, 1) := by decide +kernel
theorem dL_law_846 : decode cL_law 846 = .ok (.iaload, 1) := by decide +kernel
theorem dL_law_847 : decode cL_law 847 = .ok (.invokevirtual 102, 3) := by decide +kernel
theorem dL_law_850 : decode cL_law 850 = .ok (.aload_n 2, 1) := by decide +kernel
theorem dL_law_851 : decode cL_law 851 = .ok (.aload_n 0, 1) := by decide +kernel
theorem dL_law_852 : decode cL_law 852 = .ok (.iload_n 3, 1) := by decide +kernel
theorem dL_law_853 : decode cL_law 853 = .ok (.iconst 1, 1) := by decide +kernel
theorem dL_law_854 : decode cL_law 854 = .ok (.iadd, 1) := by decide +kernel
theorem dL_law_855 : decode cL_law 855 = .ok (.iaload, 1) := by decide +kernel
theorem dL_law_856 : decode cL_law 856 = .ok (.aload_n 0, 1) := by decide +kernel
theorem dL_law_857 : decode cL_law 857 = .ok (.iload_n 3, 1) := by decide +kernel
theorem dL_law_858 : decode cL_law 858 = .ok (.iconst 2, 1) := by decide +kernel
theorem dL_law_859 : decode cL_law 859 = .ok (.iadd, 1) := by decide +kernel
theorem dL_law_860 : decode cL_law 860 = .ok (.iaload, 1) := by decide +kernel
theorem dL_law_861 : decode cL_law 861 = .ok (.aload_n 0, 1) := by decide +kernel
theorem dL_law_862 : decode cL_law 862 = .ok (.iload_n 3, 1) := by decide +kernel
theorem dL_law_863 : decode cL_law 863 = .ok (.iconst 3, 1) := by decide +kernel
theorem dL_law_864 : decode cL_law 864 = .ok (.iadd, 1) := by decide +kernel
theorem dL_law_865 : decode cL_law 865 = .ok (.iaload, 1) := by decide +kernel
theorem dL_law_866 : decode cL_law 866 = .ok (.invokevirtual 105, 3) := by decide +kernel
theorem dL_law_869 : decode cL_law 869 = .ok (.if_icmp .eq 529, 3) := by decide +kernel
theorem dL_law_872 : decode cL_law 872 = .ok (.iconst 0, 1) := by decide +kernel
theorem dL_law_873 : decode cL_law 873 = .ok (.ireturn, 1) := by decide +kernel
theorem dL_law_874 : decode cL_law 874 = .ok (.aload_n 1, 1) := by decide +kernel
theorem dL_law_875 : decode cL_law 875 = .ok (.aload_n 0, 1) := by decide +kernel
theorem dL_law_876 : decode cL_law 876 = .ok (.iload_n 3, 1) := by decide +kernel
theorem dL_law_877 : decode cL_law 877 = .ok (.iconst 1, 1) := by decide +kernel
theorem dL_law_878 : decode cL_law 878 = .ok (.iadd, 1) := by decide +kernel
theorem dL_law_879 : decode cL_law 879 = .ok (.iaload, 1) := by decide +kernel
theorem dL_law_880 : decode cL_law 880 = .ok (.invokevirtual 106, 3) := by decide +kernel
theorem dL_law_883 : decode cL_law 883 = .ok (.aload_n 2, 1) := by decide +kernel
theorem dL_law_884 : decode cL_law 884 = .ok (.aload_n 0, 1) := by decide +kernel
theorem dL_law_885 : decode cL_law 885 = .ok (.iload_n 3, 1) := by decide +kernel
theorem dL_law_886 : decode cL_law 886 = .ok (.iconst 1, 1) := by decide +kernel
theorem dL_law_887 : decode cL_law 887 = .ok (.iadd, 1) := by decide +kernel
theorem dL_law_888 : decode cL_law 888 = .ok (.iaload, 1) := by decide +kernel
theorem dL_law_889 : decode cL_law 889 = .ok (.invokevirtual 109, 3) := by decide +kernel
theorem dL_law_892 : decode cL_law 892 = .ok (.if_icmp .eq 506, 3) := by decide +kernel
theorem dL_law_895 : decode cL_law 895 = .ok (.iconst 0, 1) := by decide +kernel
theorem dL_law_896 : decode cL_law 896 = .ok (.ireturn, 1) := by decide +kernel
theorem dL_law_897 : decode cL_law 897 = .ok (.aload_n 1, 1) := by decide +kernel
theorem dL_law_898 : decode cL_law 898 = .ok (.invokevirtual 110, 3) := by decide +kernel
theorem dL_law_901 : decode cL_law 901 = .ok (.aload_n 2, 1) := by decide +kernel
theorem dL_law_902 : decode cL_law 902 = .ok (.invokevirtual 113, 3) := by decide +kernel
theorem dL_law_905 : decode cL_law 905 = .ok (.if_icmp .eq 493, 3) := by decide +kernel
theorem dL_law_908 : decode cL_law 908 = .ok (.iconst 0, 1) := by decide +kernel
theorem dL_law_909 : decode cL_law 909 = .ok (.ireturn, 1) := by decide +kernel
theorem dL_law_910 : decode cL_law 910 = .ok (.aload_n 1, 1) := by decide +kernel
theorem dL_law_911 : decode cL_law 911 = .ok (.aload_n 0, 1) := by decide +kernel
theorem dL_law_912 : decode cL_law 912 = .ok (.iload_n 3, 1) := by decide +kernel
theorem dL_law_913 : decode cL_law 913 = .ok (.iconst 1, 1) := by decide +kernel
theorem dL_law_914 : decode cL_law 914 = .ok (.iadd, 1) := by decide +kernel
theorem dL_law_915 : decode cL_law 915 = .ok (.iaload, 1) := by decide +kernel
theorem dL_law_916 : decode cL_law 916 = .ok (.aload_n 0, 1) := by decide +kernel
theorem dL_law_917 : decode cL_law 917 = .ok (.iload_n 3, 1) := by decide +kernel
theorem dL_law_918 : decode cL_law 918 = .ok (.iconst 2, 1) := by decide +kernel
theorem dL_law_919 : decode cL_law 919 = .ok (.iadd, 1) := by decide +kernel
theorem dL_law_920 : decode cL_law 920 = .ok (.iaload, 1) := by decide +kernel
theorem dL_law_921 : decode cL_law 921 = .ok (.invokevirtual 114, 3) := by decide +kernel
theorem dL_law_924 : decode cL_law 924 = .ok (.aload_n 2, 1) := by decide +kernel
theorem dL_law_925 : decode cL_law 925 = .ok (.aload_n 0, 1) := by decide +kernel
theorem dL_law_926 : decode cL_law 926 = .ok (.iload_n 3, 1) := by decide +kernel
theorem dL_law_927 : decode cL_law 927 = .ok (.iconst 1, 1) := by decide +kernel
theorem dL_law_928 : decode cL_law 928 = .ok (.iadd, 1) := by decide +kernel
theorem dL_law_929 : decode cL_law 929 = .ok (.iaload, 1) := by decide +kernel
theorem dL_law_930 : decode cL_law 930 = .ok (.aload_n 0, 1) := by decide +kernel
theorem dL_law_931 : decode cL_law 931 = .ok (.iload_n 3, 1) := by decide +kernel
theorem dL_law_932 : decode cL_law 932 = .ok (.iconst 2, 1) := by decide +kernel
theorem dL_law_933 : decode cL_law 933 = .ok (.iadd, 1) := by decide +kernel
theorem dL_law_934 : decode cL_law 934 = .ok (.iaload, 1) := by decide +kernel
theorem dL_law_935 : decode cL_law 935 = .ok (.invokevirtual 117, 3) := by decide +kernel
theorem dL_law_938 : decode cL_law 938 = .ok (.if_icmp .eq 460, 3) := by decide +kernel
theorem dL_law_941 : decode cL_law 941 = .ok (.iconst 0, 1) := by decide +kernel
theorem dL_law_942 : decode cL_law 942 = .ok (.ireturn, 1) := by decide +kernel
theorem dL_law_943 : decode cL_law 943 = .ok (.aload_n 1, 1) := by decide +kernel
theorem dL_law_944 : decode cL_law 944 = .ok (.aload_n 0, 1) := by decide +kernel
theorem dL_law_945 : decode cL_law 945 = .ok (.iload_n 3, 1) := by decide +kernel
theorem dL_law_946 : decode cL_law 946 = .ok (.iconst 1, 1) := by decide +kernel
theorem dL_law_947 : decode cL_law 947 = .ok (.iadd, 1) := by decide +kernel
theorem dL_law_948 : decode cL_law 948 = .ok (.iaload, 1) := by decide +kernel
theorem dL_law_949 : decode cL_law 949 = .ok (.invokevirtual 118, 3) := by decide +kernel
theorem dL_law_952 : decode cL_law 952 = .ok (.aload_n 2, 1) := by decide +kernel
theorem dL_law_953 : decode cL_law 953 = .ok (.aload_n 0, 1) := by decide +kernel
theorem dL_law_954 : decode cL_law 954 = .ok (.iload_n 3, 1) := by decide +kernel
theorem dL_law_955 : decode cL_law 955 = .ok (.iconst 1, 1) := by decide +kernel
theorem dL_law_956 : decode cL_law 956 = .ok (.iadd, 1) := by decide +kernel
theorem dL_law_957 : decode cL_law 957 = .ok (.iaload, 1) := by decide +kernel
theorem dL_law_958 : decode cL_law 958 = .ok (.invokevirtual 121, 3) := by decide +kernel
theorem dL_law_961 : decode cL_law 961 = .ok (.if_icmp .eq 437, 3) := by decide +kernel
theorem dL_law_964 : decode cL_law 964 = .ok (.iconst 0, 1) := by decide +kernel
theorem dL_law_965 : decode cL_law 965 = .ok (.ireturn, 1) := by decide +kernel
theorem dL_law_966 : decode cL_law 966 = .ok (.aload_n 1, 1) := by decide +kernel
theorem dL_law_967 : decode cL_law 967 = .ok (.aload_n 0, 1) := by decide +kernel
theorem dL_law_968 : decode cL_law 968 = .ok (.iload_n 3, 1) := by decide +kernel
theorem dL_law_969 : decode cL_law 969 = .ok (.iconst 1, 1) := by decide +kernel
theorem dL_law_970 : decode cL_law 970 = .ok (.iadd, 1) := by decide +kernel
theorem dL_law_971 : decode cL_law 971 = .ok (.iaload, 1) := by decide +kernel
theorem dL_law_972 : decode cL_law 972 = .ok (.aload_n 0, 1) := by decide +kernel
theorem dL_law_973 : decode cL_law 973 = .ok (.iload_n 3, 1) := by decide +kernel
theorem dL_law_974 : decode cL_law 974 = .ok (.iconst 2, 1) := by decide +kernel
theorem dL_law_975 : decode cL_law 975 = .ok (.iadd, 1) := by decide +kernel
theorem dL_law_976 : decode cL_law 976 = .ok (.iaload, 1) := by decide +kernel
theorem dL_law_977 : decode cL_law 977 = .ok (.aload_n 0, 1) := by decide +kernel
theorem dL_law_978 : decode cL_law 978 = .ok (.iload_n 3, 1) := by decide +kernel
theorem dL_law_979 : decode cL_law 979 = .ok (.iconst 3, 1) := by decide +kernel
theorem dL_law_980 : decode cL_law 980 = .ok (.iadd, 1) := by decide +kernel
theorem dL_law_981 : decode cL_law 981 = .ok (.iaload, 1) := by decide +kernel
theorem dL_law_982 : decode cL_law 982 = .ok (.invokevirtual 122, 3) := by decide +kernel
theorem dL_law_985 : decode cL_law 985 = .ok (.aload_n 2, 1) := by decide +kernel
theorem dL_law_986 : decode cL_law 986 = .ok (.aload_n 0, 1) := by decide +kernel
theorem dL_law_987 : decode cL_law 987 = .ok (.iload_n 3, 1) := by decide +kernel
theorem dL_law_988 : decode cL_law 988 = .ok (.iconst 1, 1) := by decide +kernel
theorem dL_law_989 : decode cL_law 989 = .ok (.iadd, 1) := by decide +kernel
theorem dL_law_990 : decode cL_law 990 = .ok (.iaload, 1) := by decide +kernel
theorem dL_law_991 : decode cL_law 991 = .ok (.aload_n 0, 1) := by decide +kernel
theorem dL_law_992 : decode cL_law 992 = .ok (.iload_n 3, 1) := by decide +kernel
theorem dL_law_993 : decode cL_law 993 = .ok (.iconst 2, 1) := by decide +kernel
theorem dL_law_994 : decode cL_law 994 = .ok (.iadd, 1) := by decide +kernel
theorem dL_law_995 : decode cL_law 995 = .ok (.iaload, 1) := by decide +kernel
theorem dL_law_996 : decode cL_law 996 = .ok (.aload_n 0, 1) := by decide +kernel
theorem dL_law_997 : decode cL_law 997 = .ok (.iload_n 3, 1) := by decide +kernel
theorem dL_law_998 : decode cL_law 998 = .ok (.iconst 3, 1) := by decide +kernel
theorem dL_law_999 : decode cL_law 999 = .ok (.iadd, 1) := by decide +kernel
theorem dL_law_1000 : decode cL_law 1000 = .ok (.iaload, 1) := by decide +kernel
theorem dL_law_1001 : decode cL_law 1001 = .ok (.invokevirtual 125, 3) := by decide +kernel
theorem dL_law_1004 : decode cL_law 1004 = .ok (.if_icmp .eq 394, 3) := by decide +kernel
theorem dL_law_1007 : decode cL_law 1007 = .ok (.iconst 0, 1) := by decide +kernel
theorem dL_law_1008 : decode cL_law 1008 = .ok (.ireturn, 1) := by decide +kernel
theorem dL_law_1009 : decode cL_law 1009 = .ok (.aload_n 1, 1) := by decide +kernel
theorem dL_law_1010 : decode cL_law 1010 = .ok (.aload_n 0, 1) := by decide +kernel
theorem dL_law_1011 : decode cL_law 1011 = .ok (.iload_n 3, 1) := by decide +kernel
theorem dL_law_1012 : decode cL_law 1012 = .ok (.iconst 1, 1) := by decide +kernel
theorem dL_law_1013 : decode cL_law 1013 = .ok (.iadd, 1) := by decide +kernel
theorem dL_law_1014 : decode cL_law 1014 = .ok (.iaload, 1) := by decide +kernel
theorem dL_law_1015 : decode cL_law 1015 = .ok (.aload_n 0, 1) := by decide +kernel
theorem dL_law_1016 : decode cL_law 1016 = .ok (.iload_n 3, 1) := by decide +kernel
theorem dL_law_1017 : decode cL_law 1017 = .ok (.iconst 2, 1) := by decide +kernel
theorem dL_law_1018 : decode cL_law 1018 = .ok (.iadd, 1) := by decide +kernel
theorem dL_law_1019 : decode cL_law 1019 = .ok (.iaload, 1) := by decide +kernel
theorem dL_law_1020 : decode cL_law 1020 = .ok (.aload_n 0, 1) := by decide +kernel
theorem dL_law_1021 : decode cL_law 1021 = .ok (.iload_n 3, 1) := by decide +kernel
theorem dL_law_1022 : decode cL_law 1022 = .ok (.iconst 3, 1) := by decide +kernel
theorem dL_law_1023 : decode cL_law 1023 = .ok (.iadd, 1) := by decide +kernel
theorem dL_law_1024 : decode cL_law 1024 = .ok (.iaload, 1) := by decide +kernel
theorem dL_law_1025 : decode cL_law 1025 = .ok (.invokevirtual 126, 3) := by decide +kernel
theorem dL_law_1028 : decode cL_law 1028 = .ok (.aload_n 2, 1) := by decide +kernel
theorem dL_law_1029 : decode cL_law 1029 = .ok (.aload_n 0, 1) := by decide +kernel
theorem dL_law_1030 : decode cL_law 1030 = .ok (.iload_n 3, 1) := by decide +kernel
theorem dL_law_1031 : decode cL_law 1031 = .ok (.iconst 1, 1) := by decide +kernel
theorem dL_law_1032 : decode cL_law 1032 = .ok (.iadd, 1) := by decide +kernel
theorem dL_law_1033 : decode cL_law 1033 = .ok (.iaload, 1) := by decide +kernel
theorem dL_law_1034 : decode cL_law 1034 = .ok (.aload_n 0, 1) := by decide +kernel
theorem dL_law_1035 : decode cL_law 1035 = .ok (.iload_n 3, 1) := by decide +kernel
theorem dL_law_1036 : decode cL_law 1036 = .ok (.iconst 2, 1) := by decide +kernel
theorem dL_law_1037 : decode cL_law 1037 = .ok (.iadd, 1) := by decide +kernel
theorem dL_law_1038 : decode cL_law 1038 = .ok (.iaload, 1) := by decide +kernel
theorem dL_law_1039 : decode cL_law 1039 = .ok (.aload_n 0, 1) := by decide +kernel
theorem dL_law_1040 : decode cL_law 1040 = .ok (.iload_n 3, 1) := by decide +kernel
theorem dL_law_1041 : decode cL_law 1041 = .ok (.iconst 3, 1) := by decide +kernel
theorem dL_law_1042 : decode cL_law 1042 = .ok (.iadd, 1) := by decide +kernel
theorem dL_law_1043 : decode cL_law 1043 = .ok (.iaload, 1) := by decide +kernel
theorem dL_law_1044 : decode cL_law 1044 = .ok (.invokevirtual 129, 3) := by decide +kernel
theorem dL_law_1047 : decode cL_law 1047 = .ok (.if_icmp .eq 351, 3) := by decide +kernel
theorem dL_law_1050 : decode cL_law 1050 = .ok (.iconst 0, 1) := by decide +kernel
theorem dL_law_1051 : decode cL_law 1051 = .ok (.ireturn, 1) := by decide +kernel
theorem dL_law_1052 : decode cL_law 1052 = .ok (.aload_n 1, 1) := by decide +kernel
theorem dL_law_1053 : decode cL_law 1053 = .ok (.aload_n 0, 1) := by decide +kernel
theorem dL_law_1054 : decode cL_law 1054 = .ok (.iload_n 3, 1) := by decide +kernel
theorem dL_law_1055 : decode cL_law 1055 = .ok (.iconst 1, 1) := by decide +kernel
theorem dL_law_1056 : decode cL_law 1056 = .ok (.iadd, 1) := by decide +kernel
theorem dL_law_1057 : decode cL_law 1057 = .ok (.iaload, 1) := by decide +kernel
theorem dL_law_1058 : decode cL_law 1058 = .ok (.invokevirtual 130, 3) := by decide +kernel
theorem dL_law_1061 : decode cL_law 1061 = .ok (.aload_n 2, 1) := by decide +kernel
theorem dL_law_1062 : decode cL_law 1062 = .ok (.aload_n 0, 1) := by decide +kernel
theorem dL_law_1063 : decode cL_law 1063 = .ok (.iload_n 3, 1) := by decide +kernel
theorem dL_law_1064 : decode cL_law 1064 = .ok (.iconst 1, 1) := by decide +kernel
theorem dL_law_1065 : decode cL_law 1065 = .ok (.iadd, 1) := by decide +kernel
theorem dL_law_1066 : decode cL_law 1066 = .ok (.iaload, 1) := by decide +kernel
theorem dL_law_1067 : decode cL_law 1067 = .ok (.invokevirtual 133, 3) := by decide +kernel
theorem dL_law_1070 : decode cL_law 1070 = .ok (.if_icmp .eq 328, 3) := by decide +kernel
theorem dL_law_1073 : decode cL_law 1073 = .ok (.iconst 0, 1) := by decide +kernel
theorem dL_law_1074 : decode cL_law 1074 = .ok (.ireturn, 1) := by decide +kernel
theorem dL_law_1075 : decode cL_law 1075 = .ok (.aload_n 1, 1) := by decide +kernel
theorem dL_law_1076 : decode cL_law 1076 = .ok (.aload_n 0, 1) := by decide +kernel
theorem dL_law_1077 : decode cL_law 1077 = .ok (.iload_n 3, 1) := by decide +kernel
theorem dL_law_1078 : decode cL_law 1078 = .ok (.iconst 1, 1) := by decide +kernel
theorem dL_law_1079 : decode cL_law 1079 = .ok (.iadd, 1) := by decide +kernel
theorem dL_law_1080 : decode cL_law 1080 = .ok (.iaload, 1) := by decide +kernel
theorem dL_law_1081 : decode cL_law 1081 = .ok (.invokevirtual 134, 3) := by decide +kernel
theorem dL_law_1084 : decode cL_law 1084 = .ok (.aload_n 2, 1) := by decide +kernel
theorem dL_law_1085 : decode cL_law 1085 = .ok (.aload_n 0, 1) := by decide +kernel
theorem dL_law_1086 : decode cL_law 1086 = .ok (.iload_n 3, 1) := by decide +kernel
theorem dL_law_1087 : decode cL_law 1087 = .ok (.iconst 1, 1) := by decide +kernel
theorem dL_law_1088 : decode cL_law 1088 = .ok (.iadd, 1) := by decide +kernel
theorem dL_law_1089 : decode cL_law 1089 = .ok (.iaload, 1) := by decide +kernel
theorem dL_law_1090 : decode cL_law 1090 = .ok (.invokevirtual 137, 3) := by decide +kernel
theorem dL_law_1093 : decode cL_law 1093 = .ok (.if_icmp .eq 305, 3) := by decide +kernel
theorem dL_law_1096 : decode cL_law 1096 = .ok (.iconst 0, 1) := by decide +kernel
theorem dL_law_1097 : decode cL_law 1097 = .ok (.ireturn, 1) := by decide +kernel
theorem dL_law_1098 : decode cL_law 1098 = .ok (.aload_n 1, 1) := by decide +kernel
theorem dL_law_1099 : decode cL_law 1099 = .ok (.aload_n 0, 1) := by decide +kernel
theorem dL_law_1100 : decode cL_law 1100 = .ok (.iload_n 3, 1) := by decide +kernel
theorem dL_law_1101 : decode cL_law 1101 = .ok (.iconst 1, 1) := by decide +kernel
theorem dL_law_1102 : decode cL_law 1102 = .ok (.iadd, 1) := by decide +kernel
theorem dL_law_1103 : decode cL_law 1103 = .ok (.iaload, 1) := by decide +kernel
theorem dL_law_1104 : decode cL_law 1104 = .ok (.aload_n 0, 1) := by decide +kernel
theorem dL_law_1105 : decode cL_law 1105 = .ok (.iload_n 3, 1) := by decide +kernel
theorem dL_law_1106 : decode cL_law 1106 = .ok (.iconst 2, 1) := by decide +kernel
theorem dL_law_1107 : decode cL_law 1107 = .ok (.iadd, 1) := by decide +kernel
theorem dL_law_1108 : decode cL_law 1108 = .ok (.iaload, 1) := by decide +kernel
theorem dL_law_1109 : decode cL_law 1109 = .ok (.aload_n 0, 1) := by decide +kernel
theorem dL_law_1110 : decode cL_law 1110 = .ok (.iload_n 3, 1) := by decide +kernel
theorem dL_law_1111 : decode cL_law 1111 = .ok (.iconst 3, 1) := by decide +kernel
theorem dL_law_1112 : decode cL_law 1112 = .ok (.iadd, 1) := by decide +kernel
theorem dL_law_1113 : decode cL_law 1113 = .ok (.iaload, 1) := by decide +kernel
theorem dL_law_1114 : decode cL_law 1114 = .ok (.aload_n 0, 1) := by decide +kernel
theorem dL_law_1115 : decode cL_law 1115 = .ok (.iload_n 3, 1) := by decide +kernel
theorem dL_law_1116 : decode cL_law 1116 = .ok (.iconst 4, 1) := by decide +kernel
theorem dL_law_1117 : decode cL_law 1117 = .ok (.iadd, 1) := by decide +kernel
theorem dL_law_1118 : decode cL_law 1118 = .ok (.iaload, 1) := by decide +kernel
theorem dL_law_1119 : decode cL_law 1119 = .ok (.aload_n 0, 1) := by decide +kernel
theorem dL_law_1120 : decode cL_law 1120 = .ok (.iload_n 3, 1) := by decide +kernel
theorem dL_law_1121 : decode cL_law 1121 = .ok (.iconst 5, 1) := by decide +kernel
theorem dL_law_1122 : decode cL_law 1122 = .ok (.iadd, 1) := by decide +kernel
theorem dL_law_1123 : decode cL_law 1123 = .ok (.iaload, 1) := by decide +kernel
theorem dL_law_1124 : decode cL_law 1124 = .ok (.invokevirtual 138, 3) := by decide +kernel
theorem dL_law_1127 : decode cL_law 1127 = .ok (.aload_n 2, 1) := by decide +kernel
theorem dL_law_1128 : decode cL_law 1128 = .ok (.aload_n 0, 1) := by decide +kernel
theorem dL_law_1129 : decode cL_law 1129 = .ok (.iload_n 3, 1) := by decide +kernel
theorem dL_law_1130 : decode cL_law 1130 = .ok (.iconst 1, 1) := by decide +kernel
theorem dL_law_1131 : decode cL_law 1131 = .ok (.iadd, 1) := by decide +kernel
theorem dL_law_1132 : decode cL_law 1132 = .ok (.iaload, 1) := by decide +kernel
theorem dL_law_1133 : decode cL_law 1133 = .ok (.aload_n 0, 1) := by decide +kernel
theorem dL_law_1134 : decode cL_law 1134 = .ok (.iload_n 3, 1) := by decide +kernel
theorem dL_law_1135 : decode cL_law 1135 = .ok (.iconst 2, 1) := by decide +kernel
theorem dL_law_1136 : decode cL_law 1136 = .ok (.iadd, 1) := by decide +kernel
theorem dL_law_1137 : decode cL_law 1137 = .ok (.iaload, 1) := by decide +kernel
theorem dL_law_1138 : decode cL_law 1138 = .ok (.aload_n 0, 1) := by decide +kernel
theorem dL_law_1139 : decode cL_law 1139 = .ok (.iload_n 3, 1) := by decide +kernel
theorem dL_law_1140 : decode cL_law 1140 = .ok (.iconst 3, 1) := by decide +kernel
theorem dL_law_1141 : decode cL_law 1141 = .ok (.iadd, 1) := by decide +kernel
theorem dL_law_1142 : decode cL_law 1142 = .ok (.iaload, 1) := by decide +kernel
theorem dL_law_1143 : decode cL_law 1143 = .ok (.aload_n 0, 1) := by decide +kernel
theorem dL_law_1144 : decode cL_law 1144 = .ok (.iload_n 3, 1) := by decide +kernel
theorem dL_law_1145 : decode cL_law 1145 = .ok (.iconst 4, 1) := by decide +kernel
theorem dL_law_1146 : decode cL_law 1146 = .ok (.iadd, 1) := by decide +kernel
theorem dL_law_1147 : decode cL_law 1147 = .ok (.iaload, 1) := by decide +kernel
theorem dL_law_1148 : decode cL_law 1148 = .ok (.aload_n 0, 1) := by decide +kernel
theorem dL_law_1149 : decode cL_law 1149 = .ok (.iload_n 3, 1) := by decide +kernel
theorem dL_law_1150 : decode cL_law 1150 = .ok (.iconst 5, 1) := by decide +kernel
theorem dL_law_1151 : decode cL_law 1151 = .ok (.iadd, 1) := by decide +kernel
theorem dL_law_1152 : decode cL_law 1152 = .ok (.iaload, 1) := by decide +kernel
theorem dL_law_1153 : decode cL_law 1153 = .ok (.invokevirtual 142, 3) := by decide +kernel
theorem dL_law_1156 : decode cL_law 1156 = .ok (.if_icmp .eq 242, 3) := by decide +kernel
theorem dL_law_1159 : decode cL_law 1159 = .ok (.iconst 0, 1) := by decide +kernel
theorem dL_law_1160 : decode cL_law 1160 = .ok (.ireturn, 1) := by decide +kernel
theorem dL_law_1161 : decode cL_law 1161 = .ok (.aload_n 1, 1) := by decide +kernel
theorem dL_law_1162 : decode cL_law 1162 = .ok (.aload_n 0, 1) := by decide +kernel
theorem dL_law_1163 : decode cL_law 1163 = .ok (.iload_n 3, 1) := by decide +kernel
theorem dL_law_1164 : decode cL_law 1164 = .ok (.iconst 1, 1) := by decide +kernel
theorem dL_law_1165 : decode cL_law 1165 = .ok (.iadd, 1) := by decide +kernel
theorem dL_law_1166 : decode cL_law 1166 = .ok (.iaload, 1) := by decide +kernel
theorem dL_law_1167 : decode cL_law 1167 = .ok (.aload_n 0, 1) := by decide +kernel
theorem dL_law_1168 : decode cL_law 1168 = .ok (.iload_n 3, 1) := by decide +kernel
theorem dL_law_1169 : decode cL_law 1169 = .ok (.iconst 2, 1) := by decide +kernel
theorem dL_law_1170 : decode cL_law 1170 = .ok (.iadd, 1) := by decide +kernel
theorem dL_law_1171 : decode cL_law 1171 = .ok (.iaload, 1) := by decide +kernel
theorem dL_law_1172 : decode cL_law 1172 = .ok (.aload_n 0, 1) := by decide +kernel
theorem dL_law_1173 : decode cL_law 1173 = .ok (.iload_n 3, 1) := by decide +kernel
theorem dL_law_1174 : decode cL_law 1174 = .ok (.iconst 3, 1) := by decide +kernel
theorem dL_law_1175 : decode cL_law 1175 = .ok (.iadd, 1) := by decide +kernel
theorem dL_law_1176 : decode cL_law 1176 = .ok (.iaload, 1) := by decide +kernel
theorem dL_law_1177 : decode cL_law 1177 = .ok (.invokevirtual 143, 3) := by decide +kernel
theorem dL_law_1180 : decode cL_law 1180 = .ok (.aload_n 2, 1) := by decide +kernel
theorem dL_law_1181 : decode cL_law 1181 = .ok (.aload_n 0, 1) := by decide +kernel
theorem dL_law_1182 : decode cL_law 1182 = .ok (.iload_n 3, 1) := by decide +kernel
theorem dL_law_1183 : decode cL_law 1183 = .ok (.iconst 1, 1) := by decide +kernel
theorem dL_law_1184 : decode cL_law 1184 = .ok (.iadd, 1) := by decide +kernel
theorem dL_law_1185 : decode cL_law 1185 = .ok (.iaload, 1) := by decide +kernel
theorem dL_law_1186 : decode cL_law 1186 = .ok (.aload_n 0, 1) := by decide +kernel
theorem dL_law_1187 : decode cL_law 1187 = .ok (.iload_n 3, 1) := by decide +kernel
theorem dL_law_1188 : decode cL_law 1188 = .ok (.iconst 2, 1) := by decide +kernel
theorem dL_law_1189 : decode cL_law 1189 = .ok (.iadd, 1) := by decide +kernel
theorem dL_law_1190 : decode cL_law 1190 = .ok (.iaload, 1) := by decide +kernel
theorem dL_law_1191 : decode cL_law 1191 = .ok (.aload_n 0, 1) := by decide +kernel
theorem dL_law_1192 : decode cL_law 1192 = .ok (.iload_n 3, 1) := by decide +kernel
theorem dL_law_1193 : decode cL_law 1193 = .ok (.iconst 3, 1) := by decide +kernel
theorem dL_law_1194 : decode cL_law 1194 = .ok (.iadd, 1) := by decide +kernel
theorem dL_law_1195 : decode cL_law 1195 = .ok (.iaload, 1) := by decide +kernel
theorem dL_law_1196 : decode cL_law 1196 = .ok (.invokevirtual 146, 3) := by decide +kernel
theorem dL_law_1199 : decode cL_law 1199 = .ok (.if_icmp .eq 199, 3) := by decide +kernel
theorem dL_law_1202 : decode cL_law 1202 = .ok (.iconst 0, 1) := by decide +kernel
theorem dL_law_1203 : decode cL_law 1203 = .ok (.ireturn, 1) := by decide +kernel
theorem dL_law_1204 : decode cL_law 1204 = .ok (.aload_n 1, 1) := by decide +kernel
theorem dL_law_1205 : decode cL_law 1205 = .ok (.aload_n 0, 1) := by decide +kernel
theorem dL_law_1206 : decode cL_law 1206 = .ok (.iload_n 3, 1) := by decide +kernel
theorem dL_law_1207 : decode cL_law 1207 = .ok (.iconst 1, 1) := by decide +kernel
theorem dL_law_1208 : decode cL_law 1208 = .ok (.iadd, 1) := by decide +kernel
theorem dL_law_1209 : decode cL_law 1209 = .ok (.iaload, 1) := by decide +kernel
theorem dL_law_1210 : decode cL_law 1210 = .ok (.aload_n 0, 1) := by decide +kernel
theorem dL_law_1211 : decode cL_law 1211 = .ok (.iload_n 3, 1) := by decide +kernel
theorem dL_law_1212 : decode cL_law 1212 = .ok (.iconst 2, 1) := by decide +kernel
theorem dL_law_1213 : decode cL_law 1213 = .ok (.iadd, 1) := by decide +kernel
theorem dL_law_1214 : decode cL_law 1214 = .ok (.iaload, 1) := by decide +kernel
theorem dL_law_1215 : decode cL_law 1215 = .ok (.invokevirtual 147, 3) := by decide +kernel
theorem dL_law_1218 : decode cL_law 1218 = .ok (.aload_n 2, 1) := by decide +kernel
theorem dL_law_1219 : decode cL_law 1219 = .ok (.aload_n 0, 1) := by decide +kernel
theorem dL_law_1220 : decode cL_law 1220 = .ok (.iload_n 3, 1) := by decide +kernel
theorem dL_law_1221 : decode cL_law 1221 = .ok (.iconst 1, 1) := by decide +kernel
theorem dL_law_1222 : decode cL_law 1222 = .ok (.iadd, 1) := by decide +kernel
theorem dL_law_1223 : decode cL_law 1223 = .ok (.iaload, 1) := by decide +kernel
theorem dL_law_1224 : decode cL_law 1224 = .ok (.aload_n 0, 1) := by decide +kernel
theorem dL_law_1225 : decode cL_law 1225 = .ok (.iload_n 3, 1) := by decide +kernel
theorem dL_law_1226 : decode cL_law 1226 = .ok (.iconst 2, 1) := by decide +kernel
theorem dL_law_1227 : decode cL_law 1227 = .ok (.iadd, 1) := by decide +kernel
theorem dL_law_1228 : decode cL_law 1228 = .ok (.iaload, 1) := by decide +kernel
theorem dL_law_1229 : decode cL_law 1229 = .ok (.invokevirtual 150, 3) := by decide +kernel
theorem dL_law_1232 : decode cL_law 1232 = .ok (.if_icmp .eq 166, 3) := by decide +kernel
theorem dL_law_1235 : decode cL_law 1235 = .ok (.iconst 0, 1) := by decide +kernel
theorem dL_law_1236 : decode cL_law 1236 = .ok (.ireturn, 1) := by decide +kernel
theorem dL_law_1237 : decode cL_law 1237 = .ok (.aload_n 1, 1) := by decide +kernel
theorem dL_law_1238 : decode cL_law 1238 = .ok (.aload_n 0, 1) := by decide +kernel
theorem dL_law_1239 : decode cL_law 1239 = .ok (.iload_n 3, 1) := by decide +kernel
theorem dL_law_1240 : decode cL_law 1240 = .ok (.iconst 1, 1) := by decide +kernel
theorem dL_law_1241 : decode cL_law 1241 = .ok (.iadd, 1) := by decide +kernel
theorem dL_law_1242 : decode cL_law 1242 = .ok (.iaload, 1) := by decide +kernel
theorem dL_law_1243 : decode cL_law 1243 = .ok (.aload_n 0, 1) := by decide +kernel
theorem dL_law_1244 : decode cL_law 1244 = .ok (.iload_n 3, 1) := by decide +kernel
theorem dL_law_1245 : decode cL_law 1245 = .ok (.iconst 2, 1) := by decide +kernel
theorem dL_law_1246 : decode cL_law 1246 = .ok (.iadd, 1) := by decide +kernel
theorem dL_law_1247 : decode cL_law 1247 = .ok (.iaload, 1) := by decide +kernel
theorem dL_law_1248 : decode cL_law 1248 = .ok (.invokevirtual 151, 3) := by decide +kernel
theorem dL_law_1251 : decode cL_law 1251 = .ok (.aload_n 2, 1) := by decide +kernel
theorem dL_law_1252 : decode cL_law 1252 = .ok (.aload_n 0, 1) := by decide +kernel
theorem dL_law_1253 : decode cL_law 1253 = .ok (.iload_n 3, 1) := by decide +kernel
theorem dL_law_1254 : decode cL_law 1254 = .ok (.iconst 1, 1) := by decide +kernel
theorem dL_law_1255 : decode cL_law 1255 = .ok (.iadd, 1) := by decide +kernel
theorem dL_law_1256 : decode cL_law 1256 = .ok (.iaload, 1) := by decide +kernel
theorem dL_law_1257 : decode cL_law 1257 = .ok (.aload_n 0, 1) := by decide +kernel
theorem dL_law_1258 : decode cL_law 1258 = .ok (.iload_n 3, 1) := by decide +kernel
theorem dL_law_1259 : decode cL_law 1259 = .ok (.iconst 2, 1) := by decide +kernel
theorem dL_law_1260 : decode cL_law 1260 = .ok (.iadd, 1) := by decide +kernel
theorem dL_law_1261 : decode cL_law 1261 = .ok (.iaload, 1) := by decide +kernel
theorem dL_law_1262 : decode cL_law 1262 = .ok (.invokevirtual 154, 3) := by decide +kernel
theorem dL_law_1265 : decode cL_law 1265 = .ok (.if_icmp .eq 133, 3) := by decide +kernel
theorem dL_law_1268 : decode cL_law 1268 = .ok (.iconst 0, 1) := by decide +kernel
theorem dL_law_1269 : decode cL_law 1269 = .ok (.ireturn, 1) := by decide +kernel
theorem dL_law_1270 : decode cL_law 1270 = .ok (.aload_n 1, 1) := by decide +kernel
theorem dL_law_1271 : decode cL_law 1271 = .ok (.aload_n 0, 1) := by decide +kernel
theorem dL_law_1272 : decode cL_law 1272 = .ok (.iload_n 3, 1) := by decide +kernel
theorem dL_law_1273 : decode cL_law 1273 = .ok (.iconst 1, 1) := by decide +kernel
theorem dL_law_1274 : decode cL_law 1274 = .ok (.iadd, 1) := by decide +kernel
theorem dL_law_1275 : decode cL_law 1275 = .ok (.iaload, 1) := by decide +kernel
theorem dL_law_1276 : decode cL_law 1276 = .ok (.aload_n 0, 1) := by decide +kernel
theorem dL_law_1277 : decode cL_law 1277 = .ok (.iload_n 3, 1) := by decide +kernel
theorem dL_law_1278 : decode cL_law 1278 = .ok (.iconst 2, 1) := by decide +kernel
theorem dL_law_1279 : decode cL_law 1279 = .ok (.iadd, 1) := by decide +kernel
theorem dL_law_1280 : decode cL_law 1280 = .ok (.iaload, 1) := by decide +kernel
theorem dL_law_1281 : decode cL_law 1281 = .ok (.invokevirtual 155, 3) := by decide +kernel
theorem dL_law_1284 : decode cL_law 1284 = .ok (.aload_n 2, 1) := by decide +kernel
theorem dL_law_1285 : decode cL_law 1285 = .ok (.aload_n 0, 1) := by decide +kernel
theorem dL_law_1286 : decode cL_law 1286 = .ok (.iload_n 3, 1) := by decide +kernel
theorem dL_law_1287 : decode cL_law 1287 = .ok (.iconst 1, 1) := by decide +kernel
theorem dL_law_1288 : decode cL_law 1288 = .ok (.iadd, 1) := by decide +kernel
theorem dL_law_1289 : decode cL_law 1289 = .ok (.iaload, 1) := by decide +kernel
theorem dL_law_1290 : decode cL_law 1290 = .ok (.aload_n 0, 1) := by decide +kernel
theorem dL_law_1291 : decode cL_law 1291 = .ok (.iload_n 3, 1) := by decide +kernel
theorem dL_law_1292 : decode cL_law 1292 = .ok (.iconst 2, 1) := by decide +kernel
theorem dL_law_1293 : decode cL_law 1293 = .ok (.iadd, 1) := by decide +kernel
theorem dL_law_1294 : decode cL_law 1294 = .ok (.iaload, 1) := by decide +kernel
theorem dL_law_1295 : decode cL_law 1295 = .ok (.invokevirtual 158, 3) := by decide +kernel
theorem dL_law_1298 : decode cL_law 1298 = .ok (.if_icmp .eq 100, 3) := by decide +kernel
theorem dL_law_1301 : decode cL_law 1301 = .ok (.iconst 0, 1) := by decide +kernel
theorem dL_law_1302 : decode cL_law 1302 = .ok (.ireturn, 1) := by decide +kernel
theorem dL_law_1303 : decode cL_law 1303 = .ok (.aload_n 1, 1) := by decide +kernel
theorem dL_law_1304 : decode cL_law 1304 = .ok (.aload_n 0, 1) := by decide +kernel
theorem dL_law_1305 : decode cL_law 1305 = .ok (.iload_n 3, 1) := by decide +kernel
theorem dL_law_1306 : decode cL_law 1306 = .ok (.iconst 1, 1) := by decide +kernel
theorem dL_law_1307 : decode cL_law 1307 = .ok (.iadd, 1) := by decide +kernel
theorem dL_law_1308 : decode cL_law 1308 = .ok (.iaload, 1) := by decide +kernel
theorem dL_law_1309 : decode cL_law 1309 = .ok (.invokevirtual 159, 3) := by decide +kernel
theorem dL_law_1312 : decode cL_law 1312 = .ok (.aload_n 2, 1) := by decide +kernel
theorem dL_law_1313 : decode cL_law 1313 = .ok (.aload_n 0, 1) := by decide +kernel
theorem dL_law_1314 : decode cL_law 1314 = .ok (.iload_n 3, 1) := by decide +kernel
theorem dL_law_1315 : decode cL_law 1315 = .ok (.iconst 1, 1) := by decide +kernel
theorem dL_law_1316 : decode cL_law 1316 = .ok (.iadd, 1) := by decide +kernel
theorem dL_law_1317 : decode cL_law 1317 = .ok (.iaload, 1) := by decide +kernel
theorem dL_law_1318 : decode cL_law 1318 = .ok (.invokevirtual 162, 3) := by decide +kernel
theorem dL_law_1321 : decode cL_law 1321 = .ok (.if_icmp .eq 77, 3) := by decide +kernel
theorem dL_law_1324 : decode cL_law 1324 = .ok (.iconst 0, 1) := by decide +kernel
theorem dL_law_1325 : decode cL_law 1325 = .ok (.ireturn, 1) := by decide +kernel
theorem dL_law_1326 : decode cL_law 1326 = .ok (.aload_n 1, 1) := by decide +kernel
theorem dL_law_1327 : decode cL_law 1327 = .ok (.aload_n 0, 1) := by decide +kernel
theorem dL_law_1328 : decode cL_law 1328 = .ok (.iload_n 3, 1) := by decide +kernel
theorem dL_law_1329 : decode cL_law 1329 = .ok (.iconst 1, 1) := by decide +kernel
theorem dL_law_1330 : decode cL_law 1330 = .ok (.iadd, 1) := by decide +kernel
theorem dL_law_1331 : decode cL_law 1331 = .ok (.iaload, 1) := by decide +kernel
theorem dL_law_1332 : decode cL_law 1332 = .ok (.invokevirtual 163, 3) := by decide +kernel
theorem dL_law_1335 : decode cL_law 1335 = .ok (.aload_n 2, 1) := by decide +kernel
theorem dL_law_1336 : decode cL_law 1336 = .ok (.aload_n 0, 1) := by decide +kernel
theorem dL_law_1337 : decode cL_law 1337 = .ok (.iload_n 3, 1) := by decide +kernel
theorem dL_law_1338 : decode cL_law 1338 = .ok (.iconst 1, 1) := by decide +kernel
theorem dL_law_1339 : decode cL_law 1339 = .ok (.iadd, 1) := by decide +kernel
theorem dL_law_1340 : decode cL_law 1340 = .ok (.iaload, 1) := by decide +kernel
theorem dL_law_1341 : decode cL_law 1341 = .ok (.invokevirtual 166, 3) := by decide +kernel
theorem dL_law_1344 : decode cL_law 1344 = .ok (.if_icmp .eq 54, 3) := by decide +kernel
theorem dL_law_1347 : decode cL_law 1347 = .ok (.iconst 0, 1) := by decide +kernel
theorem dL_law_1348 : decode cL_law 1348 = .ok (.ireturn, 1) := by decide +kernel
theorem dL_law_1349 : decode cL_law 1349 = .ok (.aload_n 1, 1) := by decide +kernel
theorem dL_law_1350 : decode cL_law 1350 = .ok (.invokevirtual 167, 3) := by decide +kernel
theorem dL_law_1353 : decode cL_law 1353 = .ok (.aload_n 2, 1) := by decide +kernel
theorem dL_law_1354 : decode cL_law 1354 = .ok (.invokevirtual 170, 3) := by decide +kernel
theorem dL_law_1357 : decode cL_law 1357 = .ok (.if_icmp .eq 41, 3) := by decide +kernel
theorem dL_law_1360 : decode cL_law 1360 = .ok (.iconst 0, 1) := by decide +kernel
theorem dL_law_1361 : decode cL_law 1361 = .ok (.ireturn, 1) := by decide +kernel
theorem dL_law_1362 : decode cL_law 1362 = .ok (.aload_n 1, 1) := by decide +kernel
theorem dL_law_1363 : decode cL_law 1363 = .ok (.invokevirtual 171, 3) := by decide +kernel
theorem dL_law_1366 : decode cL_law 1366 = .ok (.aload_n 2, 1) := by decide +kernel
theorem dL_law_1367 : decode cL_law 1367 = .ok (.invokevirtual 174, 3) := by decide +kernel
theorem dL_law_1370 : decode cL_law 1370 = .ok (.if_icmp .eq 28, 3) := by decide +kernel
theorem dL_law_1373 : decode cL_law 1373 = .ok (.iconst 0, 1) := by decide +kernel
theorem dL_law_1374 : decode cL_law 1374 = .ok (.ireturn, 1) := by decide +kernel
theorem dL_law_1375 : decode cL_law 1375 = .ok (.aload_n 1, 1) := by decide +kernel
theorem dL_law_1376 : decode cL_law 1376 = .ok (.aload_n 0, 1) := by decide +kernel
theorem dL_law_1377 : decode cL_law 1377 = .ok (.iload_n 3, 1) := by decide +kernel
theorem dL_law_1378 : decode cL_law 1378 = .ok (.iconst 1, 1) := by decide +kernel
theorem dL_law_1379 : decode cL_law 1379 = .ok (.iadd, 1) := by decide +kernel
theorem dL_law_1380 : decode cL_law 1380 = .ok (.iaload, 1) := by decide +kernel
theorem dL_law_1381 : decode cL_law 1381 = .ok (.invokevirtual 175, 3) := by decide +kernel
theorem dL_law_1384 : decode cL_law 1384 = .ok (.aload_n 2, 1) := by decide +kernel
theorem dL_law_1385 : decode cL_law 1385 = .ok (.aload_n 0, 1) := by decide +kernel
theorem dL_law_1386 : decode cL_law 1386 = .ok (.iload_n 3, 1) := by decide +kernel
theorem dL_law_1387 : decode cL_law 1387 = .ok (.iconst 1, 1) := by decide +kernel
theorem dL_law_1388 : decode cL_law 1388 = .ok (.iadd, 1) := by decide +kernel
theorem dL_law_1389 : decode cL_law 1389 = .ok (.iaload, 1) := by decide +kernel
theorem dL_law_1390 : decode cL_law 1390 = .ok (.invokevirtual 178, 3) := by decide +kernel
theorem dL_law_1393 : decode cL_law 1393 = .ok (.if_icmp .eq 5, 3) := by decide +kernel
theorem dL_law_1396 : decode cL_law 1396 = .ok (.iconst 0, 1) := by decide +kernel
theorem dL_law_1397 : decode cL_law 1397 = .ok (.ireturn, 1) := by decide +kernel
theorem dL_law_1398 : decode cL_law 1398 = .ok (.iinc 3 6, 3) := by decide +kernel
theorem dL_law_1401 : decode cL_law 1401 = .ok (.goto (-1383), 3) := by decide +kernel
theorem dL_law_1404 : decode cL_law 1404 = .ok (.iconst 1, 1) := by decide +kernel
theorem dL_law_1405 : decode cL_law 1405 = .ok (.ireturn, 1) := by decide +kernel
