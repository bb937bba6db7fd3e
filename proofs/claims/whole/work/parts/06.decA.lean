theorem dX9_init_0 : decode cX9_init 0 = .ok (.aload_n 0, 1) := by decide +kernel
theorem dX9_init_1 : decode cX9_init 1 = .ok (.invokespecial 1, 3) := by decide +kernel
theorem dX9_init_4 : decode cX9_init 4 = .ok (.aload_n 0, 1) := by decide +kernel
theorem dX9_init_5 : decode cX9_init 5 = .ok (.new 7, 3) := by decide +kernel
theorem dX9_init_8 : decode cX9_init 8 = .ok (.dup, 1) := by decide +kernel
theorem dX9_init_9 : decode cX9_init 9 = .ok (.invokespecial 9, 3) := by decide +kernel
theorem dX9_init_12 : decode cX9_init 12 = .ok (.putfield 10, 3) := by decide +kernel
theorem dX9_init_15 : decode cX9_init 15 = .ok (.aload_n 0, 1) := by decide +kernel
theorem dX9_init_16 : decode cX9_init 16 = .ok (.new 7, 3) := by decide +kernel
theorem dX9_init_19 : decode cX9_init 19 = .ok (.dup, 1) := by decide +kernel
theorem dX9_init_20 : decode cX9_init 20 = .ok (.invokespecial 9, 3) := by decide +kernel
theorem dX9_init_23 : decode cX9_init 23 = .ok (.putfield 16, 3) := by decide +kernel
theorem dX9_init_26 : decode cX9_init 26 = .ok (.aload_n 0, 1) := by decide +kernel
theorem dX9_init_27 : decode cX9_init 27 = .ok (.new 7, 3) := by decide +kernel
theorem dX9_init_30 : decode cX9_init 30 = .ok (.dup, 1) := by decide +kernel
theorem dX9_init_31 : decode cX9_init 31 = .ok (.invokespecial 9, 3) := by decide +kernel
theorem dX9_init_34 : decode cX9_init 34 = .ok (.putfield 19, 3) := by decide +kernel
theorem dX9_init_37 : decode cX9_init 37 = .ok (.aload_n 0, 1) := by decide +kernel
theorem dX9_init_38 : decode cX9_init 38 = .ok (.new 22, 3) := by decide +kernel
theorem dX9_init_41 : decode cX9_init 41 = .ok (.dup, 1) := by decide +kernel
theorem dX9_init_42 : decode cX9_init 42 = .ok (.invokespecial 24, 3) := by decide +kernel
theorem dX9_init_45 : decode cX9_init 45 = .ok (.putfield 25, 3) := by decide +kernel
theorem dX9_init_48 : decode cX9_init 48 = .ok (.aload_n 0, 1) := by decide +kernel
theorem dX9_init_49 : decode cX9_init 49 = .ok (.new 29, 3) := by decide +kernel
theorem dX9_init_52 : decode cX9_init 52 = .ok (.dup, 1) := by decide +kernel
theorem dX9_init_53 : decode cX9_init 53 = .ok (.invokespecial 31, 3) := by decide +kernel
theorem dX9_init_56 : decode cX9_init 56 = .ok (.putfield 32, 3) := by decide +kernel
theorem dX9_init_59 : decode cX9_init 59 = .ok (.aload_n 0, 1) := by decide +kernel
theorem dX9_init_60 : decode cX9_init 60 = .ok (.new 36, 3) := by decide +kernel
theorem dX9_init_63 : decode cX9_init 63 = .ok (.dup, 1) := by decide +kernel
theorem dX9_init_64 : decode cX9_init 64 = .ok (.invokespecial 38, 3) := by decide +kernel
theorem dX9_init_67 : decode cX9_init 67 = .ok (.putfield 39, 3) := by decide +kernel
theorem dX9_init_70 : decode cX9_init 70 = .ok (.aload_n 0, 1) := by decide +kernel
theorem dX9_init_71 : decode cX9_init 71 = .ok (.iconst 4, 1) := by decide +kernel
theorem dX9_init_72 : decode cX9_init 72 = .ok (.anewarray 43, 3) := by decide +kernel
theorem dX9_init_75 : decode cX9_init 75 = .ok (.putfield 45, 3) := by decide +kernel
theorem dX9_init_78 : decode cX9_init 78 = .ok (.aload_n 0, 1) := by decide +kernel
theorem dX9_init_79 : decode cX9_init 79 = .ok (.iconst 5, 1) := by decide +kernel
theorem dX9_init_80 : decode cX9_init 80 = .ok (.anewarray 49, 3) := by decide +kernel
theorem dX9_init_83 : decode cX9_init 83 = .ok (.putfield 51, 3) := by decide +kernel
theorem dX9_init_86 : decode cX9_init 86 = .ok (.aload_n 0, 1) := by decide +kernel
theorem dX9_init_87 : decode cX9_init 87 = .ok (.bipush 60, 2) := by decide +kernel
theorem dX9_init_89 : decode cX9_init 89 = .ok (.newarray .int, 2) := by decide +kernel
theorem dX9_init_91 : decode cX9_init 91 = .ok (.putfield 55, 3) := by decide +kernel
theorem dX9_init_94 : decode cX9_init 94 = .ok (.iconst 0, 1) := by decide +kernel
theorem dX9_init_95 : decode cX9_init 95 = .ok (.istore_n 1, 1) := by decide +kernel
theorem dX9_init_96 : decode cX9_init 96 = .ok (.iload_n 1, 1) := by decide +kernel
theorem dX9_init_97 : decode cX9_init 97 = .ok (.iconst 4, 1) := by decide +kernel
theorem dX9_init_98 : decode cX9_init 98 = .ok (.if_icmp .ge 22, 3) := by decide +kernel
theorem dX9_init_101 : decode cX9_init 101 = .ok (.aload_n 0, 1) := by decide +kernel
theorem dX9_init_102 : decode cX9_init 102 = .ok (.getfield 45, 3) := by decide +kernel
theorem dX9_init_105 : decode cX9_init 105 = .ok (.iload_n 1, 1) := by decide +kernel
theorem dX9_init_106 : decode cX9_init 106 = .ok (.new 43, 3) := by decide +kernel
theorem dX9_init_109 : decode cX9_init 109 = .ok (.dup, 1) := by decide +kernel
theorem dX9_init_110 : decode cX9_init 110 = .ok (.invokespecial 59, 3) := by decide +kernel
theorem dX9_init_113 : decode cX9_init 113 = .ok (.aastore, 1) := by decide +kernel
theorem dX9_init_114 : decode cX9_init 114 = .ok (.iinc 1 1, 3) := by decide +kernel
theorem dX9_init_117 : decode cX9_init 117 = .ok (.goto (-21), 3) := by decide +kernel
theorem dX9_init_120 : decode cX9_init 120 = .ok (.iconst 0, 1) := by decide +kernel
theorem dX9_init_121 : decode cX9_init 121 = .ok (.istore_n 1, 1) := by decide +kernel
theorem dX9_init_122 : decode cX9_init 122 = .ok (.iload_n 1, 1) := by decide +kernel
theorem dX9_init_123 : decode cX9_init 123 = .ok (.iconst 5, 1) := by decide +kernel
theorem dX9_init_124 : decode cX9_init 124 = .ok (.if_icmp .ge 22, 3) := by decide +kernel
theorem dX9_init_127 : decode cX9_init 127 = .ok (.aload_n 0, 1) := by decide +kernel
theorem dX9_init_128 : decode cX9_init 128 = .ok (.getfield 51, 3) := by decide +kernel
theorem dX9_init_131 : decode cX9_init 131 = .ok (.iload_n 1, 1) := by decide +kernel
theorem dX9_init_132 : decode cX9_init 132 = .ok (.new 49, 3) := by decide +kernel
theorem dX9_init_135 : decode cX9_init 135 = .ok (.dup, 1) := by decide +kernel
theorem dX9_init_136 : decode cX9_init 136 = .ok (.invokespecial 60, 3) := by decide +kernel
theorem dX9_init_139 : decode cX9_init 139 = .ok (.aastore, 1) := by decide +kernel
theorem dX9_init_140 : decode cX9_init 140 = .ok (.iinc 1 1, 3) := by decide +kernel
theorem dX9_init_143 : decode cX9_init 143 = .ok (.goto (-21), 3) := by decide +kernel
theorem dX9_init_146 : decode cX9_init 146 = .ok (.return_, 1) := by decide +kernel
theorem dX9_chimney_0 : decode cX9_chimney 0 = .ok (.iload_n 1, 1) := by decide +kernel
theorem dX9_chimney_1 : decode cX9_chimney 1 = .ok (.iconst 5, 1) := by decide +kernel
theorem dX9_chimney_2 : decode cX9_chimney 2 = .ok (.invokestatic 61, 3) := by decide +kernel
theorem dX9_chimney_5 : decode cX9_chimney 5 = .ok (.ifCond .eq 30, 3) := by decide +kernel
theorem dX9_chimney_8 : decode cX9_chimney 8 = .ok (.iload_n 2, 1) := by decide +kernel
theorem dX9_chimney_9 : decode cX9_chimney 9 = .ok (.iconst 3, 1) := by decide +kernel
theorem dX9_chimney_10 : decode cX9_chimney 10 = .ok (.invokestatic 61, 3) := by decide +kernel
theorem dX9_chimney_13 : decode cX9_chimney 13 = .ok (.ifCond .eq 22, 3) := by decide +kernel
theorem dX9_chimney_16 : decode cX9_chimney 16 = .ok (.iload_n 3, 1) := by decide +kernel
theorem dX9_chimney_17 : decode cX9_chimney 17 = .ok (.bipush 99, 2) := by decide +kernel
theorem dX9_chimney_19 : decode cX9_chimney 19 = .ok (.invokestatic 61, 3) := by decide +kernel
theorem dX9_chimney_22 : decode cX9_chimney 22 = .ok (.ifCond .eq 13, 3) := by decide +kernel
theorem dX9_chimney_25 : decode cX9_chimney 25 = .ok (.iload 4, 2) := by decide +kernel
theorem dX9_chimney_27 : decode cX9_chimney 27 = .ok (.bipush 99, 2) := by decide +kernel
theorem dX9_chimney_29 : decode cX9_chimney 29 = .ok (.invokestatic 61, 3) := by decide +kernel
theorem dX9_chimney_32 : decode cX9_chimney 32 = .ok (.ifCond .ne 6, 3) := by decide +kernel
theorem dX9_chimney_35 : decode cX9_chimney 35 = .ok (.ldc 65, 2) := by decide +kernel
theorem dX9_chimney_37 : decode cX9_chimney 37 = .ok (.ireturn, 1) := by decide +kernel
theorem dX9_chimney_38 : decode cX9_chimney 38 = .ok (.aload_n 0, 1) := by decide +kernel
theorem dX9_chimney_39 : decode cX9_chimney 39 = .ok (.getfield 10, 3) := by decide +kernel
theorem dX9_chimney_42 : decode cX9_chimney 42 = .ok (.iload_n 1, 1) := by decide +kernel
theorem dX9_chimney_43 : decode cX9_chimney 43 = .ok (.iload_n 2, 1) := by decide +kernel
theorem dX9_chimney_44 : decode cX9_chimney 44 = .ok (.iload_n 3, 1) := by decide +kernel
theorem dX9_chimney_45 : decode cX9_chimney 45 = .ok (.iload 4, 2) := by decide +kernel
theorem dX9_chimney_47 : decode cX9_chimney 47 = .ok (.invokevirtual 66, 3) := by decide +kernel
theorem dX9_chimney_50 : decode cX9_chimney 50 = .ok (.ireturn, 1) := by decide +kernel
theorem dX9_told_0 : decode cX9_told 0 = .ok (.aload_n 0, 1) := by decide +kernel
theorem dX9_told_1 : decode cX9_told 1 = .ok (.getfield 10, 3) := by decide +kernel
theorem dX9_told_4 : decode cX9_told 4 = .ok (.iload_n 1, 1) := by decide +kernel
theorem dX9_told_5 : decode cX9_told 5 = .ok (.invokevirtual 70, 3) := by decide +kernel
theorem dX9_told_8 : decode cX9_told 8 = .ok (.ifCond .ne 6, 3) := by decide +kernel
theorem dX9_told_11 : decode cX9_told 11 = .ok (.ldc 65, 2) := by decide +kernel
theorem dX9_told_13 : decode cX9_told 13 = .ok (.ireturn, 1) := by decide +kernel
theorem dX9_told_14 : decode cX9_told 14 = .ok (.aload_n 0, 1) := by decide +kernel
theorem dX9_told_15 : decode cX9_told 15 = .ok (.getfield 10, 3) := by decide +kernel
theorem dX9_told_18 : decode cX9_told 18 = .ok (.getfield 74, 3) := by decide +kernel
theorem dX9_told_21 : decode cX9_told 21 = .ok (.iload_n 1, 1) := by decide +kernel
theorem dX9_told_22 : decode cX9_told 22 = .ok (.aaload, 1) := by decide +kernel
theorem dX9_told_23 : decode cX9_told 23 = .ok (.astore_n 3, 1) := by decide +kernel
theorem dX9_told_24 : decode cX9_told 24 = .ok (.iload_n 2, 1) := by decide +kernel
theorem dX9_told_25 : decode cX9_told 25 = .ok (.tableswitch 78 0 5 #[39, 44, 49, 54, 59, 64], 39) := by decide +kernel
theorem dX9_told_64 : decode cX9_told 64 = .ok (.aload_n 3, 1) := by decide +kernel
theorem dX9_told_65 : decode cX9_told 65 = .ok (.getfield 78, 3) := by decide +kernel
theorem dX9_told_68 : decode cX9_told 68 = .ok (.ireturn, 1) := by decide +kernel
theorem dX9_told_69 : decode cX9_told 69 = .ok (.aload_n 3, 1) := by decide +kernel
theorem dX9_told_70 : decode cX9_told 70 = .ok (.getfield 84, 3) := by decide +kernel
theorem dX9_told_73 : decode cX9_told 73 = .ok (.ireturn, 1) := by decide +kernel
theorem dX9_told_74 : decode cX9_told 74 = .ok (.aload_n 3, 1) := by decide +kernel
theorem dX9_told_75 : decode cX9_told 75 = .ok (.getfield 87, 3) := by decide +kernel
theorem dX9_told_78 : decode cX9_told 78 = .ok (.ireturn, 1) := by decide +kernel
theorem dX9_told_79 : decode cX9_told 79 = .ok (.aload_n 3, 1) := by decide +kernel
theorem dX9_told_80 : decode cX9_told 80 = .ok (.getfield 90, 3) := by decide +kernel
theorem dX9_told_83 : decode cX9_told 83 = .ok (.ireturn, 1) := by decide +kernel
theorem dX9_told_84 : decode cX9_told 84 = .ok (.aload_n 3, 1) := by decide +kernel
theorem dX9_told_85 : decode cX9_told 85 = .ok (.invokevirtual 93, 3) := by decide +kernel
theorem dX9_told_88 : decode cX9_told 88 = .ok (.ireturn, 1) := by decide +kernel
theorem dX9_told_89 : decode cX9_told 89 = .ok (.aload_n 0, 1) := by decide +kernel
theorem dX9_told_90 : decode cX9_told 90 = .ok (.invokevirtual 97, 3) := by decide +kernel
theorem dX9_told_93 : decode cX9_told 93 = .ok (.aload_n 0, 1) := by decide +kernel
theorem dX9_told_94 : decode cX9_told 94 = .ok (.getfield 25, 3) := by decide +kernel
theorem dX9_told_97 : decode cX9_told 97 = .ok (.getfield 100, 3) := by decide +kernel
theorem dX9_told_100 : decode cX9_told 100 = .ok (.iload_n 1, 1) := by decide +kernel
theorem dX9_told_101 : decode cX9_told 101 = .ok (.iaload, 1) := by decide +kernel
theorem dX9_told_102 : decode cX9_told 102 = .ok (.ireturn, 1) := by decide +kernel
theorem dX9_told_103 : decode cX9_told 103 = .ok (.ldc 65, 2) := by decide +kernel
theorem dX9_told_105 : decode cX9_told 105 = .ok (.ireturn, 1) := by decide +kernel
theorem dX9_as_0 : decode cX9_as 0 = .ok (.aload_n 0, 1) := by decide +kernel
theorem dX9_as_1 : decode cX9_as 1 = .ok (.getfield 10, 3) := by decide +kernel
theorem dX9_as_4 : decode cX9_as 4 = .ok (.iload_n 1, 1) := by decide +kernel
theorem dX9_as_5 : decode cX9_as 5 = .ok (.invokevirtual 70, 3) := by decide +kernel
theorem dX9_as_8 : decode cX9_as 8 = .ok (.ifCond .eq 11, 3) := by decide +kernel
theorem dX9_as_11 : decode cX9_as 11 = .ok (.iload_n 2, 1) := by decide +kernel
theorem dX9_as_12 : decode cX9_as 12 = .ok (.iconst 5, 1) := by decide +kernel
theorem dX9_as_13 : decode cX9_as 13 = .ok (.invokestatic 61, 3) := by decide +kernel
theorem dX9_as_16 : decode cX9_as 16 = .ok (.ifCond .ne 6, 3) := by decide +kernel
theorem dX9_as_19 : decode cX9_as 19 = .ok (.ldc 65, 2) := by decide +kernel
theorem dX9_as_21 : decode cX9_as 21 = .ok (.ireturn, 1) := by decide +kernel
theorem dX9_as_22 : decode cX9_as 22 = .ok (.aload_n 0, 1) := by decide +kernel
theorem dX9_as_23 : decode cX9_as 23 = .ok (.getfield 10, 3) := by decide +kernel
theorem dX9_as_26 : decode cX9_as 26 = .ok (.getfield 74, 3) := by decide +kernel
theorem dX9_as_29 : decode cX9_as 29 = .ok (.iload_n 1, 1) := by decide +kernel
theorem dX9_as_30 : decode cX9_as 30 = .ok (.aaload, 1) := by decide +kernel
theorem dX9_as_31 : decode cX9_as 31 = .ok (.astore_n 3, 1) := by decide +kernel
theorem dX9_as_32 : decode cX9_as 32 = .ok (.aload_n 3, 1) := by decide +kernel
theorem dX9_as_33 : decode cX9_as 33 = .ok (.iload_n 2, 1) := by decide +kernel
theorem dX9_as_34 : decode cX9_as 34 = .ok (.invokevirtual 103, 3) := by decide +kernel
theorem dX9_as_37 : decode cX9_as 37 = .ok (.ifCond .eq 10, 3) := by decide +kernel
theorem dX9_as_40 : decode cX9_as 40 = .ok (.aload_n 3, 1) := by decide +kernel
theorem dX9_as_41 : decode cX9_as 41 = .ok (.getfield 87, 3) := by decide +kernel
theorem dX9_as_44 : decode cX9_as 44 = .ok (.goto 5, 3) := by decide +kernel
theorem dX9_as_47 : decode cX9_as 47 = .ok (.ldc 106, 2) := by decide +kernel
theorem dX9_as_49 : decode cX9_as 49 = .ok (.ireturn, 1) := by decide +kernel
theorem dX9_turns_0 : decode cX9_turns 0 = .ok (.aload_n 0, 1) := by decide +kernel
theorem dX9_turns_1 : decode cX9_turns 1 = .ok (.getfield 10, 3) := by decide +kernel
theorem dX9_turns_4 : decode cX9_turns 4 = .ok (.iload_n 1, 1) := by decide +kernel
theorem dX9_turns_5 : decode cX9_turns 5 = .ok (.invokevirtual 70, 3) := by decide +kernel
theorem dX9_turns_8 : decode cX9_turns 8 = .ok (.ifCond .eq 11, 3) := by decide +kernel
theorem dX9_turns_11 : decode cX9_turns 11 = .ok (.iload_n 2, 1) := by decide +kernel
theorem dX9_turns_12 : decode cX9_turns 12 = .ok (.iconst 5, 1) := by decide +kernel
theorem dX9_turns_13 : decode cX9_turns 13 = .ok (.invokestatic 61, 3) := by decide +kernel
theorem dX9_turns_16 : decode cX9_turns 16 = .ok (.ifCond .ne 6, 3) := by decide +kernel
theorem dX9_turns_19 : decode cX9_turns 19 = .ok (.ldc 65, 2) := by decide +kernel
theorem dX9_turns_21 : decode cX9_turns 21 = .ok (.ireturn, 1) := by decide +kernel
theorem dX9_turns_22 : decode cX9_turns 22 = .ok (.aload_n 0, 1) := by decide +kernel
theorem dX9_turns_23 : decode cX9_turns 23 = .ok (.getfield 10, 3) := by decide +kernel
theorem dX9_turns_26 : decode cX9_turns 26 = .ok (.getfield 74, 3) := by decide +kernel
theorem dX9_turns_29 : decode cX9_turns 29 = .ok (.iload_n 1, 1) := by decide +kernel
theorem dX9_turns_30 : decode cX9_turns 30 = .ok (.aaload, 1) := by decide +kernel
theorem dX9_turns_31 : decode cX9_turns 31 = .ok (.astore_n 3, 1) := by decide +kernel
theorem dX9_turns_32 : decode cX9_turns 32 = .ok (.aload_n 3, 1) := by decide +kernel
theorem dX9_turns_33 : decode cX9_turns 33 = .ok (.getfield 78, 3) := by decide +kernel
theorem dX9_turns_36 : decode cX9_turns 36 = .ok (.istore 4, 2) := by decide +kernel
theorem dX9_turns_38 : decode cX9_turns 38 = .ok (.aload_n 3, 1) := by decide +kernel
theorem dX9_turns_39 : decode cX9_turns 39 = .ok (.iload_n 2, 1) := by decide +kernel
theorem dX9_turns_40 : decode cX9_turns 40 = .ok (.putfield 78, 3) := by decide +kernel
theorem dX9_turns_43 : decode cX9_turns 43 = .ok (.iload 4, 2) := by decide +kernel
theorem dX9_turns_45 : decode cX9_turns 45 = .ok (.ireturn, 1) := by decide +kernel
theorem dX9_set_0 : decode cX9_set 0 = .ok (.aload_n 0, 1) := by decide +kernel
theorem dX9_set_1 : decode cX9_set 1 = .ok (.getfield 10, 3) := by decide +kernel
theorem dX9_set_4 : decode cX9_set 4 = .ok (.iload_n 1, 1) := by decide +kernel
theorem dX9_set_5 : decode cX9_set 5 = .ok (.invokevirtual 70, 3) := by decide +kernel
theorem dX9_set_8 : decode cX9_set 8 = .ok (.ifCond .eq 31, 3) := by decide +kernel
theorem dX9_set_11 : decode cX9_set 11 = .ok (.iload_n 2, 1) := by decide +kernel
theorem dX9_set_12 : decode cX9_set 12 = .ok (.iconst 1, 1) := by decide +kernel
theorem dX9_set_13 : decode cX9_set 13 = .ok (.if_icmp .lt 26, 3) := by decide +kernel
theorem dX9_set_16 : decode cX9_set 16 = .ok (.iload_n 2, 1) := by decide +kernel
theorem dX9_set_17 : decode cX9_set 17 = .ok (.iconst 3, 1) := by decide +kernel
theorem dX9_set_18 : decode cX9_set 18 = .ok (.if_icmp .gt 21, 3) := by decide +kernel
theorem dX9_set_21 : decode cX9_set 21 = .ok (.iload_n 3, 1) := by decide +kernel
theorem dX9_set_22 : decode cX9_set 22 = .ok (.iload_n 2, 1) := by decide +kernel
theorem dX9_set_23 : decode cX9_set 23 = .ok (.iconst 1, 1) := by decide +kernel
theorem dX9_set_24 : decode cX9_set 24 = .ok (.if_icmp .ne 7, 3) := by decide +kernel
theorem dX9_set_27 : decode cX9_set 27 = .ok (.iconst 3, 1) := by decide +kernel
theorem dX9_set_28 : decode cX9_set 28 = .ok (.goto 5, 3) := by decide +kernel
theorem dX9_set_31 : decode cX9_set 31 = .ok (.bipush 99, 2) := by decide +kernel
theorem dX9_set_33 : decode cX9_set 33 = .ok (.invokestatic 61, 3) := by decide +kernel
theorem dX9_set_36 : decode cX9_set 36 = .ok (.ifCond .ne 6, 3) := by decide +kernel
theorem dX9_set_39 : decode cX9_set 39 = .ok (.ldc 65, 2) := by decide +kernel
theorem dX9_set_41 : decode cX9_set 41 = .ok (.ireturn, 1) := by decide +kernel
theorem dX9_set_42 : decode cX9_set 42 = .ok (.aload_n 0, 1) := by decide +kernel
theorem dX9_set_43 : decode cX9_set 43 = .ok (.getfield 10, 3) := by decide +kernel
theorem dX9_set_46 : decode cX9_set 46 = .ok (.getfield 74, 3) := by decide +kernel
theorem dX9_set_49 : decode cX9_set 49 = .ok (.iload_n 1, 1) := by decide +kernel
theorem dX9_set_50 : decode cX9_set 50 = .ok (.aaload, 1) := by decide +kernel
theorem dX9_set_51 : decode cX9_set 51 = .ok (.astore 4, 2) := by decide +kernel
theorem dX9_set_53 : decode cX9_set 53 = .ok (.iload_n 2, 1) := by decide +kernel
theorem dX9_set_54 : decode cX9_set 54 = .ok (.iconst 1, 1) := by decide +kernel
theorem dX9_set_55 : decode cX9_set 55 = .ok (.if_icmp .ne 19, 3) := by decide +kernel
theorem dX9_set_58 : decode cX9_set 58 = .ok (.aload 4, 2) := by decide +kernel
theorem dX9_set_60 : decode cX9_set 60 = .ok (.getfield 84, 3) := by decide +kernel
theorem dX9_set_63 : decode cX9_set 63 = .ok (.istore 5, 2) := by decide +kernel
theorem dX9_set_65 : decode cX9_set 65 = .ok (.aload 4, 2) := by decide +kernel
theorem dX9_set_67 : decode cX9_set 67 = .ok (.iload_n 3, 1) := by decide +kernel
theorem dX9_set_68 : decode cX9_set 68 = .ok (.putfield 84, 3) := by decide +kernel
theorem dX9_set_71 : decode cX9_set 71 = .ok (.goto 37, 3) := by decide +kernel
theorem dX9_set_74 : decode cX9_set 74 = .ok (.iload_n 2, 1) := by decide +kernel
theorem dX9_set_75 : decode cX9_set 75 = .ok (.iconst 2, 1) := by decide +kernel
theorem dX9_set_76 : decode cX9_set 76 = .ok (.if_icmp .ne 19, 3) := by decide +kernel
theorem dX9_set_79 : decode cX9_set 79 = .ok (.aload 4, 2) := by decide +kernel
theorem dX9_set_81 : decode cX9_set 81 = .ok (.getfield 87, 3) := by decide +kernel
theorem dX9_set_84 : decode cX9_set 84 = .ok (.istore 5, 2) := by decide +kernel
theorem dX9_set_86 : decode cX9_set 86 = .ok (.aload 4, 2) := by decide +kernel
theorem dX9_set_88 : decode cX9_set 88 = .ok (.iload_n 3, 1) := by decide +kernel
theorem dX9_set_89 : decode cX9_set 89 = .ok (.putfield 87, 3) := by decide +kernel
theorem dX9_set_92 : decode cX9_set 92 = .ok (.goto 16, 3) := by decide +kernel
theorem dX9_set_95 : decode cX9_set 95 = .ok (.aload 4, 2) := by decide +kernel
theorem dX9_set_97 : decode cX9_set 97 = .ok (.getfield 90, 3) := by decide +kernel
theorem dX9_set_100 : decode cX9_set 100 = .ok (.istore 5, 2) := by decide +kernel
theorem dX9_set_102 : decode cX9_set 102 = .ok (.aload 4, 2) := by decide +kernel
theorem dX9_set_104 : decode cX9_set 104 = .ok (.iload_n 3, 1) := by decide +kernel
theorem dX9_set_105 : decode cX9_set 105 = .ok (.putfield 90, 3) := by decide +kernel
theorem dX9_set_108 : decode cX9_set 108 = .ok (.iload 5, 2) := by decide +kernel
theorem dX9_set_110 : decode cX9_set 110 = .ok (.ireturn, 1) := by decide +kernel
theorem dX9_stork_0 : decode cX9_stork 0 = .ok (.iload_n 1, 1) := by decide +kernel
theorem dX9_stork_1 : decode cX9_stork 1 = .ok (.iconst 1, 1) := by decide +kernel
theorem dX9_stork_2 : decode cX9_stork 2 = .ok (.if_icmp .lt 26, 3) := by decide +kernel
theorem dX9_stork_5 : decode cX9_stork 5 = .ok (.iload_n 1, 1) := by decide +kernel
theorem dX9_stork_6 : decode cX9_stork 6 = .ok (.bipush 99, 2) := by decide +kernel
theorem dX9_stork_8 : decode cX9_stork 8 = .ok (.if_icmp .gt 20, 3) := by decide +kernel
theorem dX9_stork_11 : decode cX9_stork 11 = .ok (.iload_n 2, 1) := by decide +kernel
theorem dX9_stork_12 : decode cX9_stork 12 = .ok (.ldc 107, 2) := by decide +kernel
theorem dX9_stork_14 : decode cX9_stork 14 = .ok (.if_icmp .eq 17, 3) := by decide +kernel
theorem dX9_stork_17 : decode cX9_stork 17 = .ok (.aload_n 0, 1) := by decide +kernel
theorem dX9_stork_18 : decode cX9_stork 18 = .ok (.getfield 10, 3) := by decide +kernel
theorem dX9_stork_21 : decode cX9_stork 21 = .ok (.iload_n 2, 1) := by decide +kernel
theorem dX9_stork_22 : decode cX9_stork 22 = .ok (.invokevirtual 70, 3) := by decide +kernel
theorem dX9_stork_25 : decode cX9_stork 25 = .ok (.ifCond .ne 6, 3) := by decide +kernel
theorem dX9_stork_28 : decode cX9_stork 28 = .ok (.ldc 65, 2) := by decide +kernel
theorem dX9_stork_30 : decode cX9_stork 30 = .ok (.ireturn, 1) := by decide +kernel
theorem dX9_stork_31 : decode cX9_stork 31 = .ok (.aload_n 0, 1) := by decide +kernel
theorem dX9_stork_32 : decode cX9_stork 32 = .ok (.getfield 10, 3) := by decide +kernel
theorem dX9_stork_35 : decode cX9_stork 35 = .ok (.iload_n 1, 1) := by decide +kernel
theorem dX9_stork_36 : decode cX9_stork 36 = .ok (.iload_n 2, 1) := by decide +kernel
theorem dX9_stork_37 : decode cX9_stork 37 = .ok (.invokevirtual 108, 3) := by decide +kernel
theorem dX9_stork_40 : decode cX9_stork 40 = .ok (.ireturn, 1) := by decide +kernel
theorem dX9_storkTold_0 : decode cX9_storkTold 0 = .ok (.aload_n 0, 1) := by decide +kernel
theorem dX9_storkTold_1 : decode cX9_storkTold 1 = .ok (.getfield 10, 3) := by decide +kernel
theorem dX9_storkTold_4 : decode cX9_storkTold 4 = .ok (.iload_n 1, 1) := by decide +kernel
theorem dX9_storkTold_5 : decode cX9_storkTold 5 = .ok (.invokevirtual 112, 3) := by decide +kernel
theorem dX9_storkTold_8 : decode cX9_storkTold 8 = .ok (.ifCond .ne 6, 3) := by decide +kernel
theorem dX9_storkTold_11 : decode cX9_storkTold 11 = .ok (.ldc 65, 2) := by decide +kernel
theorem dX9_storkTold_13 : decode cX9_storkTold 13 = .ok (.ireturn, 1) := by decide +kernel
theorem dX9_storkTold_14 : decode cX9_storkTold 14 = .ok (.aload_n 0, 1) := by decide +kernel
theorem dX9_storkTold_15 : decode cX9_storkTold 15 = .ok (.getfield 10, 3) := by decide +kernel
theorem dX9_storkTold_18 : decode cX9_storkTold 18 = .ok (.getfield 115, 3) := by decide +kernel
theorem dX9_storkTold_21 : decode cX9_storkTold 21 = .ok (.iload_n 1, 1) := by decide +kernel
theorem dX9_storkTold_22 : decode cX9_storkTold 22 = .ok (.aaload, 1) := by decide +kernel
theorem dX9_storkTold_23 : decode cX9_storkTold 23 = .ok (.astore_n 3, 1) := by decide +kernel
theorem dX9_storkTold_24 : decode cX9_storkTold 24 = .ok (.iload_n 2, 1) := by decide +kernel
theorem dX9_storkTold_25 : decode cX9_storkTold 25 = .ok (.tableswitch 63 0 3 #[31, 36, 41, 49], 31) := by decide +kernel
theorem dX9_storkTold_56 : decode cX9_storkTold 56 = .ok (.aload_n 3, 1) := by decide +kernel
theorem dX9_storkTold_57 : decode cX9_storkTold 57 = .ok (.getfield 119, 3) := by decide +kernel
theorem dX9_storkTold_60 : decode cX9_storkTold 60 = .ok (.ireturn, 1) := by decide +kernel
theorem dX9_storkTold_61 : decode cX9_storkTold 61 = .ok (.aload_n 3, 1) := by decide +kernel
theorem dX9_storkTold_62 : decode cX9_storkTold 62 = .ok (.getfield 124, 3) := by decide +kernel
theorem dX9_storkTold_65 : decode cX9_storkTold 65 = .ok (.ireturn, 1) := by decide +kernel
theorem dX9_storkTold_66 : decode cX9_storkTold 66 = .ok (.aload_n 3, 1) := by decide +kernel
theorem dX9_storkTold_67 : decode cX9_storkTold 67 = .ok (.getfield 127, 3) := by decide +kernel
theorem dX9_storkTold_70 : decode cX9_storkTold 70 = .ok (.invokestatic 131, 3) := by decide +kernel
theorem dX9_storkTold_73 : decode cX9_storkTold 73 = .ok (.ireturn, 1) := by decide +kernel
theorem dX9_storkTold_74 : decode cX9_storkTold 74 = .ok (.aload_n 0, 1) := by decide +kernel
theorem dX9_storkTold_75 : decode cX9_storkTold 75 = .ok (.invokevirtual 97, 3) := by decide +kernel
theorem dX9_storkTold_78 : decode cX9_storkTold 78 = .ok (.aload_n 0, 1) := by decide +kernel
theorem dX9_storkTold_79 : decode cX9_storkTold 79 = .ok (.getfield 25, 3) := by decide +kernel
theorem dX9_storkTold_82 : decode cX9_storkTold 82 = .ok (.getfield 135, 3) := by decide +kernel
theorem dX9_storkTold_85 : decode cX9_storkTold 85 = .ok (.iload_n 1, 1) := by decide +kernel
theorem dX9_storkTold_86 : decode cX9_storkTold 86 = .ok (.iaload, 1) := by decide +kernel
theorem dX9_storkTold_87 : decode cX9_storkTold 87 = .ok (.ireturn, 1) := by decide +kernel
theorem dX9_storkTold_88 : decode cX9_storkTold 88 = .ok (.ldc 65, 2) := by decide +kernel
theorem dX9_storkTold_90 : decode cX9_storkTold 90 = .ok (.ireturn, 1) := by decide +kernel
theorem dX9_away_0 : decode cX9_away 0 = .ok (.aload_n 0, 1) := by decide +kernel
theorem dX9_away_1 : decode cX9_away 1 = .ok (.getfield 10, 3) := by decide +kernel
theorem dX9_away_4 : decode cX9_away 4 = .ok (.iload_n 1, 1) := by decide +kernel
theorem dX9_away_5 : decode cX9_away 5 = .ok (.invokevirtual 112, 3) := by decide +kernel
theorem dX9_away_8 : decode cX9_away 8 = .ok (.ifCond .eq 11, 3) := by decide +kernel
theorem dX9_away_11 : decode cX9_away 11 = .ok (.iload_n 2, 1) := by decide +kernel
theorem dX9_away_12 : decode cX9_away 12 = .ok (.iconst 1, 1) := by decide +kernel
theorem dX9_away_13 : decode cX9_away 13 = .ok (.invokestatic 61, 3) := by decide +kernel
theorem dX9_away_16 : decode cX9_away 16 = .ok (.ifCond .ne 6, 3) := by decide +kernel
theorem dX9_away_19 : decode cX9_away 19 = .ok (.ldc 65, 2) := by decide +kernel
theorem dX9_away_21 : decode cX9_away 21 = .ok (.ireturn, 1) := by decide +kernel
theorem dX9_away_22 : decode cX9_away 22 = .ok (.aload_n 0, 1) := by decide +kernel
theorem dX9_away_23 : decode cX9_away 23 = .ok (.getfield 10, 3) := by decide +kernel
theorem dX9_away_26 : decode cX9_away 26 = .ok (.getfield 115, 3) := by decide +kernel
theorem dX9_away_29 : decode cX9_away 29 = .ok (.iload_n 1, 1) := by decide +kernel
theorem dX9_away_30 : decode cX9_away 30 = .ok (.aaload, 1) := by decide +kernel
theorem dX9_away_31 : decode cX9_away 31 = .ok (.astore_n 3, 1) := by decide +kernel
theorem dX9_away_32 : decode cX9_away 32 = .ok (.aload_n 3, 1) := by decide +kernel
theorem dX9_away_33 : decode cX9_away 33 = .ok (.getfield 127, 3) := by decide +kernel
theorem dX9_away_36 : decode cX9_away 36 = .ok (.invokestatic 131, 3) := by decide +kernel
theorem dX9_away_39 : decode cX9_away 39 = .ok (.istore 4, 2) := by decide +kernel
theorem dX9_away_41 : decode cX9_away 41 = .ok (.aload_n 3, 1) := by decide +kernel
theorem dX9_away_42 : decode cX9_away 42 = .ok (.iload_n 2, 1) := by decide +kernel
theorem dX9_away_43 : decode cX9_away 43 = .ok (.iconst 1, 1) := by decide +kernel
theorem dX9_away_44 : decode cX9_away 44 = .ok (.if_icmp .ne 7, 3) := by decide +kernel
theorem dX9_away_47 : decode cX9_away 47 = .ok (.iconst 1, 1) := by decide +kernel
theorem dX9_away_48 : decode cX9_away 48 = .ok (.goto 4, 3) := by decide +kernel
theorem dX9_away_51 : decode cX9_away 51 = .ok (.iconst 0, 1) := by decide +kernel
theorem dX9_away_52 : decode cX9_away 52 = .ok (.putfield 127, 3) := by decide +kernel
theorem dX9_away_55 : decode cX9_away 55 = .ok (.iload 4, 2) := by decide +kernel
theorem dX9_away_57 : decode cX9_away 57 = .ok (.ireturn, 1) := by decide +kernel
theorem dX9_likes_0 : decode cX9_likes 0 = .ok (.aload_n 0, 1) := by decide +kernel
theorem dX9_likes_1 : decode cX9_likes 1 = .ok (.getfield 10, 3) := by decide +kernel
theorem dX9_likes_4 : decode cX9_likes 4 = .ok (.iload_n 1, 1) := by decide +kernel
theorem dX9_likes_5 : decode cX9_likes 5 = .ok (.invokevirtual 112, 3) := by decide +kernel
theorem dX9_likes_8 : decode cX9_likes 8 = .ok (.ifCond .eq 14, 3) := by decide +kernel
theorem dX9_likes_11 : decode cX9_likes 11 = .ok (.aload_n 0, 1) := by decide +kernel
theorem dX9_likes_12 : decode cX9_likes 12 = .ok (.getfield 10, 3) := by decide +kernel
theorem dX9_likes_15 : decode cX9_likes 15 = .ok (.iload_n 2, 1) := by decide +kernel
theorem dX9_likes_16 : decode cX9_likes 16 = .ok (.invokevirtual 70, 3) := by decide +kernel
theorem dX9_likes_19 : decode cX9_likes 19 = .ok (.ifCond .ne 6, 3) := by decide +kernel
theorem dX9_likes_22 : decode cX9_likes 22 = .ok (.ldc 65, 2) := by decide +kernel
theorem dX9_likes_24 : decode cX9_likes 24 = .ok (.ireturn, 1) := by decide +kernel
theorem dX9_likes_25 : decode cX9_likes 25 = .ok (.aload_n 0, 1) := by decide +kernel
theorem dX9_likes_26 : decode cX9_likes 26 = .ok (.getfield 10, 3) := by decide +kernel
theorem dX9_likes_29 : decode cX9_likes 29 = .ok (.iload_n 2, 1) := by decide +kernel
theorem dX9_likes_30 : decode cX9_likes 30 = .ok (.aload_n 0, 1) := by decide +kernel
theorem dX9_likes_31 : decode cX9_likes 31 = .ok (.getfield 10, 3) := by decide +kernel
theorem dX9_likes_34 : decode cX9_likes 34 = .ok (.getfield 115, 3) := by decide +kernel
theorem dX9_likes_37 : decode cX9_likes 37 = .ok (.iload_n 1, 1) := by decide +kernel
theorem dX9_likes_38 : decode cX9_likes 38 = .ok (.aaload, 1) := by decide +kernel
theorem dX9_likes_39 : decode cX9_likes 39 = .ok (.getfield 124, 3) := by decide +kernel
theorem dX9_likes_42 : decode cX9_likes 42 = .ok (.iload_n 2, 1) := by decide +kernel
theorem dX9_likes_43 : decode cX9_likes 43 = .ok (.if_icmp .ne 7, 3) := by decide +kernel
theorem dX9_likes_46 : decode cX9_likes 46 = .ok (.iconst 1, 1) := by decide +kernel
theorem dX9_likes_47 : decode cX9_likes 47 = .ok (.goto 4, 3) := by decide +kernel
theorem dX9_likes_50 : decode cX9_likes 50 = .ok (.iconst 0, 1) := by decide +kernel
theorem dX9_likes_51 : decode cX9_likes 51 = .ok (.invokestatic 131, 3) := by decide +kernel
theorem dX9_likes_54 : decode cX9_likes 54 = .ok (.invokevirtual 138, 3) := by decide +kernel
theorem dX9_likes_57 : decode cX9_likes 57 = .ok (.ireturn, 1) := by decide +kernel
theorem dX9_rule_0 : decode cX9_rule 0 = .ok (.iload_n 1, 1) := by decide +kernel
theorem dX9_rule_1 : decode cX9_rule 1 = .ok (.iconst 2, 1) := by decide +kernel
theorem dX9_rule_2 : decode cX9_rule 2 = .ok (.invokestatic 61, 3) := by decide +kernel
theorem dX9_rule_5 : decode cX9_rule 5 = .ok (.ifCond .eq 22, 3) := by decide +kernel
theorem dX9_rule_8 : decode cX9_rule 8 = .ok (.iload_n 2, 1) := by decide +kernel
theorem dX9_rule_9 : decode cX9_rule 9 = .ok (.iload_n 1, 1) := by decide +kernel
theorem dX9_rule_10 : decode cX9_rule 10 = .ok (.ifCond .ne 9, 3) := by decide +kernel
theorem dX9_rule_13 : decode cX9_rule 13 = .ok (.sipush 999, 3) := by decide +kernel
theorem dX9_rule_16 : decode cX9_rule 16 = .ok (.goto 5, 3) := by decide +kernel
theorem dX9_rule_19 : decode cX9_rule 19 = .ok (.bipush 100, 2) := by decide +kernel
theorem dX9_rule_21 : decode cX9_rule 21 = .ok (.invokestatic 61, 3) := by decide +kernel
theorem dX9_rule_24 : decode cX9_rule 24 = .ok (.ifCond .ne 6, 3) := by decide +kernel
theorem dX9_rule_27 : decode cX9_rule 27 = .ok (.ldc 65, 2) := by decide +kernel
theorem dX9_rule_29 : decode cX9_rule 29 = .ok (.ireturn, 1) := by decide +kernel
theorem dX9_rule_30 : decode cX9_rule 30 = .ok (.aload_n 0, 1) := by decide +kernel
theorem dX9_rule_31 : decode cX9_rule 31 = .ok (.getfield 10, 3) := by decide +kernel
theorem dX9_rule_34 : decode cX9_rule 34 = .ok (.getfield 141, 3) := by decide +kernel
theorem dX9_rule_37 : decode cX9_rule 37 = .ok (.iload_n 1, 1) := by decide +kernel
theorem dX9_rule_38 : decode cX9_rule 38 = .ok (.iaload, 1) := by decide +kernel
theorem dX9_rule_39 : decode cX9_rule 39 = .ok (.istore_n 3, 1) := by decide +kernel
theorem dX9_rule_40 : decode cX9_rule 40 = .ok (.aload_n 0, 1) := by decide +kernel
theorem dX9_rule_41 : decode cX9_rule 41 = .ok (.getfield 10, 3) := by decide +kernel
theorem dX9_rule_44 : decode cX9_rule 44 = .ok (.getfield 141, 3) := by decide +kernel
theorem dX9_rule_47 : decode cX9_rule 47 = .ok (.iload_n 1, 1) := by decide +kernel
theorem dX9_rule_48 : decode cX9_rule 48 = .ok (.iload_n 2, 1) := by decide +kernel
theorem dX9_rule_49 : decode cX9_rule 49 = .ok (.iastore, 1) := by decide +kernel
theorem dX9_rule_50 : decode cX9_rule 50 = .ok (.iload_n 3, 1) := by decide +kernel
theorem dX9_rule_51 : decode cX9_rule 51 = .ok (.ireturn, 1) := by decide +kernel
theorem dX9_deal_0 : decode cX9_deal 0 = .ok (.iload_n 1, 1) := by decide +kernel
theorem dX9_deal_1 : decode cX9_deal 1 = .ok (.iconst 1, 1) := by decide +kernel
theorem dX9_deal_2 : decode cX9_deal 2 = .ok (.if_icmp .lt 9, 3) := by decide +kernel
theorem dX9_deal_5 : decode cX9_deal 5 = .ok (.iload_n 1, 1) := by decide +kernel
theorem dX9_deal_6 : decode cX9_deal 6 = .ok (.bipush 8, 2) := by decide +kernel
theorem dX9_deal_8 : decode cX9_deal 8 = .ok (.if_icmp .le 6, 3) := by decide +kernel
theorem dX9_deal_11 : decode cX9_deal 11 = .ok (.ldc 65, 2) := by decide +kernel
theorem dX9_deal_13 : decode cX9_deal 13 = .ok (.ireturn, 1) := by decide +kernel
theorem dX9_deal_14 : decode cX9_deal 14 = .ok (.iload_n 1, 1) := by decide +kernel
theorem dX9_deal_15 : decode cX9_deal 15 = .ok (.bipush 8, 2) := by decide +kernel
theorem dX9_deal_17 : decode cX9_deal 17 = .ok (.aload_n 0, 1) := by decide +kernel
theorem dX9_deal_18 : decode cX9_deal 18 = .ok (.getfield 10, 3) := by decide +kernel
theorem dX9_deal_21 : decode cX9_deal 21 = .ok (.getfield 144, 3) := by decide +kernel
theorem dX9_deal_24 : decode cX9_deal 24 = .ok (.isub, 1) := by decide +kernel
theorem dX9_deal_25 : decode cX9_deal 25 = .ok (.invokestatic 147, 3) := by decide +kernel
theorem dX9_deal_28 : decode cX9_deal 28 = .ok (.istore_n 2, 1) := by decide +kernel
theorem dX9_deal_29 : decode cX9_deal 29 = .ok (.iconst 0, 1) := by decide +kernel
theorem dX9_deal_30 : decode cX9_deal 30 = .ok (.istore_n 3, 1) := by decide +kernel
theorem dX9_deal_31 : decode cX9_deal 31 = .ok (.iload_n 3, 1) := by decide +kernel
theorem dX9_deal_32 : decode cX9_deal 32 = .ok (.iload_n 2, 1) := by decide +kernel
theorem dX9_deal_33 : decode cX9_deal 33 = .ok (.if_icmp .ge 72, 3) := by decide +kernel
theorem dX9_deal_36 : decode cX9_deal 36 = .ok (.aload_n 0, 1) := by decide +kernel
theorem dX9_deal_37 : decode cX9_deal 37 = .ok (.getfield 10, 3) := by decide +kernel
theorem dX9_deal_40 : decode cX9_deal 40 = .ok (.invokevirtual 152, 3) := by decide +kernel
theorem dX9_deal_43 : decode cX9_deal 43 = .ok (.bipush 6, 2) := by decide +kernel
theorem dX9_deal_45 : decode cX9_deal 45 = .ok (.irem, 1) := by decide +kernel
theorem dX9_deal_46 : decode cX9_deal 46 = .ok (.istore 4, 2) := by decide +kernel
theorem dX9_deal_48 : decode cX9_deal 48 = .ok (.aload_n 0, 1) := by decide +kernel
theorem dX9_deal_49 : decode cX9_deal 49 = .ok (.getfield 10, 3) := by decide +kernel
theorem dX9_deal_52 : decode cX9_deal 52 = .ok (.invokevirtual 152, 3) := by decide +kernel
theorem dX9_deal_55 : decode cX9_deal 55 = .ok (.iconst 4, 1) := by decide +kernel
theorem dX9_deal_56 : decode cX9_deal 56 = .ok (.irem, 1) := by decide +kernel
theorem dX9_deal_57 : decode cX9_deal 57 = .ok (.istore 5, 2) := by decide +kernel
theorem dX9_deal_59 : decode cX9_deal 59 = .ok (.aload_n 0, 1) := by decide +kernel
theorem dX9_deal_60 : decode cX9_deal 60 = .ok (.getfield 10, 3) := by decide +kernel
theorem dX9_deal_63 : decode cX9_deal 63 = .ok (.invokevirtual 152, 3) := by decide +kernel
theorem dX9_deal_66 : decode cX9_deal 66 = .ok (.bipush 60, 2) := by decide +kernel
theorem dX9_deal_68 : decode cX9_deal 68 = .ok (.irem, 1) := by decide +kernel
theorem dX9_deal_69 : decode cX9_deal 69 = .ok (.istore 6, 2) := by decide +kernel
theorem dX9_deal_71 : decode cX9_deal 71 = .ok (.aload_n 0, 1) := by decide +kernel
theorem dX9_deal_72 : decode cX9_deal 72 = .ok (.getfield 10, 3) := by decide +kernel
theorem dX9_deal_75 : decode cX9_deal 75 = .ok (.invokevirtual 152, 3) := by decide +kernel
theorem dX9_deal_78 : decode cX9_deal 78 = .ok (.bipush 60, 2) := by decide +kernel
theorem dX9_deal_80 : decode cX9_deal 80 = .ok (.irem, 1) := by decide +kernel
theorem dX9_deal_81 : decode cX9_deal 81 = .ok (.istore 7, 2) := by decide +kernel
theorem dX9_deal_83 : decode cX9_deal 83 = .ok (.aload_n 0, 1) := by decide +kernel
theorem dX9_deal_84 : decode cX9_deal 84 = .ok (.getfield 10, 3) := by decide +kernel
theorem dX9_deal_87 : decode cX9_deal 87 = .ok (.iload 4, 2) := by decide +kernel
theorem dX9_deal_89 : decode cX9_deal 89 = .ok (.iload 5, 2) := by decide +kernel
theorem dX9_deal_91 : decode cX9_deal 91 = .ok (.iload 6, 2) := by decide +kernel
theorem dX9_deal_93 : decode cX9_deal 93 = .ok (.iload 7, 2) := by decide +kernel
theorem dX9_deal_95 : decode cX9_deal 95 = .ok (.invokevirtual 66, 3) := by decide +kernel
theorem dX9_deal_98 : decode cX9_deal 98 = .ok (.pop, 1) := by decide +kernel
theorem dX9_deal_99 : decode cX9_deal 99 = .ok (.iinc 3 1, 3) := by decide +kernel
theorem dX9_deal_102 : decode cX9_deal 102 = .ok (.goto (-71), 3) := by decide +kernel
theorem dX9_deal_105 : decode cX9_deal 105 = .ok (.iload_n 2, 1) := by decide +kernel
theorem dX9_deal_106 : decode cX9_deal 106 = .ok (.ireturn, 1) := by decide +kernel
theorem dX9_seed_0 : decode cX9_seed 0 = .ok (.aload_n 0, 1) := by decide +kernel
theorem dX9_seed_1 : decode cX9_seed 1 = .ok (.getfield 10, 3) := by decide +kernel
theorem dX9_seed_4 : decode cX9_seed 4 = .ok (.getfield 155, 3) := by decide +kernel
theorem dX9_seed_7 : decode cX9_seed 7 = .ok (.istore_n 2, 1) := by decide +kernel
theorem dX9_seed_8 : decode cX9_seed 8 = .ok (.aload_n 0, 1) := by decide +kernel
theorem dX9_seed_9 : decode cX9_seed 9 = .ok (.getfield 10, 3) := by decide +kernel
theorem dX9_seed_12 : decode cX9_seed 12 = .ok (.iload_n 1, 1) := by decide +kernel
theorem dX9_seed_13 : decode cX9_seed 13 = .ok (.putfield 155, 3) := by decide +kernel
theorem dX9_seed_16 : decode cX9_seed 16 = .ok (.iload_n 2, 1) := by decide +kernel
theorem dX9_seed_17 : decode cX9_seed 17 = .ok (.ireturn, 1) := by decide +kernel
theorem dX9_ward_0 : decode cX9_ward 0 = .ok (.iload_n 1, 1) := by decide +kernel
theorem dX9_ward_1 : decode cX9_ward 1 = .ok (.iconst 3, 1) := by decide +kernel
theorem dX9_ward_2 : decode cX9_ward 2 = .ok (.invokestatic 61, 3) := by decide +kernel
theorem dX9_ward_5 : decode cX9_ward 5 = .ok (.ifCond .eq 11, 3) := by decide +kernel
theorem dX9_ward_8 : decode cX9_ward 8 = .ok (.iload_n 2, 1) := by decide +kernel
theorem dX9_ward_9 : decode cX9_ward 9 = .ok (.iconst 1, 1) := by decide +kernel
theorem dX9_ward_10 : decode cX9_ward 10 = .ok (.invokestatic 61, 3) := by decide +kernel
theorem dX9_ward_13 : decode cX9_ward 13 = .ok (.ifCond .ne 6, 3) := by decide +kernel
theorem dX9_ward_16 : decode cX9_ward 16 = .ok (.ldc 65, 2) := by decide +kernel
theorem dX9_ward_18 : decode cX9_ward 18 = .ok (.ireturn, 1) := by decide +kernel
theorem dX9_ward_19 : decode cX9_ward 19 = .ok (.aload_n 0, 1) := by decide +kernel
theorem dX9_ward_20 : decode cX9_ward 20 = .ok (.invokevirtual 97, 3) := by decide +kernel
theorem dX9_ward_23 : decode cX9_ward 23 = .ok (.iload_n 2, 1) := by decide +kernel
theorem dX9_ward_24 : decode cX9_ward 24 = .ok (.ifCond .ne 18, 3) := by decide +kernel
theorem dX9_ward_27 : decode cX9_ward 27 = .ok (.aload_n 0, 1) := by decide +kernel
theorem dX9_ward_28 : decode cX9_ward 28 = .ok (.getfield 25, 3) := by decide +kernel
theorem dX9_ward_31 : decode cX9_ward 31 = .ok (.aload_n 0, 1) := by decide +kernel
theorem dX9_ward_32 : decode cX9_ward 32 = .ok (.getfield 10, 3) := by decide +kernel
theorem dX9_ward_35 : decode cX9_ward 35 = .ok (.iload_n 1, 1) := by decide +kernel
theorem dX9_ward_36 : decode cX9_ward 36 = .ok (.invokevirtual 158, 3) := by decide +kernel
theorem dX9_ward_39 : decode cX9_ward 39 = .ok (.goto 15, 3) := by decide +kernel
theorem dX9_ward_42 : decode cX9_ward 42 = .ok (.aload_n 0, 1) := by decide +kernel
theorem dX9_ward_43 : decode cX9_ward 43 = .ok (.getfield 25, 3) := by decide +kernel
theorem dX9_ward_46 : decode cX9_ward 46 = .ok (.aload_n 0, 1) := by decide +kernel
theorem dX9_ward_47 : decode cX9_ward 47 = .ok (.getfield 10, 3) := by decide +kernel
theorem dX9_ward_50 : decode cX9_ward 50 = .ok (.iload_n 1, 1) := by decide +kernel
theorem dX9_ward_51 : decode cX9_ward 51 = .ok (.invokevirtual 162, 3) := by decide +kernel
theorem dX9_ward_54 : decode cX9_ward 54 = .ok (.ireturn, 1) := by decide +kernel
theorem dX9_elected_0 : decode cX9_elected 0 = .ok (.aload_n 0, 1) := by decide +kernel
theorem dX9_elected_1 : decode cX9_elected 1 = .ok (.invokevirtual 97, 3) := by decide +kernel
theorem dX9_elected_4 : decode cX9_elected 4 = .ok (.aload_n 0, 1) := by decide +kernel
theorem dX9_elected_5 : decode cX9_elected 5 = .ok (.getfield 25, 3) := by decide +kernel
theorem dX9_elected_8 : decode cX9_elected 8 = .ok (.aload_n 0, 1) := by decide +kernel
theorem dX9_elected_9 : decode cX9_elected 9 = .ok (.getfield 10, 3) := by decide +kernel
theorem dX9_elected_12 : decode cX9_elected 12 = .ok (.invokevirtual 165, 3) := by decide +kernel
theorem dX9_elected_15 : decode cX9_elected 15 = .ok (.ireturn, 1) := by decide +kernel
theorem dX9_years_0 : decode cX9_years 0 = .ok (.iload_n 1, 1) := by decide +kernel
theorem dX9_years_1 : decode cX9_years 1 = .ok (.iconst 1, 1) := by decide +kernel
theorem dX9_years_2 : decode cX9_years 2 = .ok (.if_icmp .lt 9, 3) := by decide +kernel
theorem dX9_years_5 : decode cX9_years 5 = .ok (.iload_n 1, 1) := by decide +kernel
theorem dX9_years_6 : decode cX9_years 6 = .ok (.bipush 60, 2) := by decide +kernel
theorem dX9_years_8 : decode cX9_years 8 = .ok (.if_icmp .le 6, 3) := by decide +kernel
theorem dX9_years_11 : decode cX9_years 11 = .ok (.ldc 65, 2) := by decide +kernel
theorem dX9_years_13 : decode cX9_years 13 = .ok (.ireturn, 1) := by decide +kernel
theorem dX9_years_14 : decode cX9_years 14 = .ok (.iload_n 1, 1) := by decide +kernel
theorem dX9_years_15 : decode cX9_years 15 = .ok (.sipush 999, 3) := by decide +kernel
theorem dX9_years_18 : decode cX9_years 18 = .ok (.aload_n 0, 1) := by decide +kernel
theorem dX9_years_19 : decode cX9_years 19 = .ok (.getfield 10, 3) := by decide +kernel
theorem dX9_years_22 : decode cX9_years 22 = .ok (.getfield 169, 3) := by decide +kernel
theorem dX9_years_25 : decode cX9_years 25 = .ok (.isub, 1) := by decide +kernel
theorem dX9_years_26 : decode cX9_years 26 = .ok (.invokestatic 147, 3) := by decide +kernel
theorem dX9_years_29 : decode cX9_years 29 = .ok (.istore_n 2, 1) := by decide +kernel
theorem dX9_years_30 : decode cX9_years 30 = .ok (.aload_n 0, 1) := by decide +kernel
theorem dX9_years_31 : decode cX9_years 31 = .ok (.getfield 10, 3) := by decide +kernel
theorem dX9_years_34 : decode cX9_years 34 = .ok (.getfield 172, 3) := by decide +kernel
theorem dX9_years_37 : decode cX9_years 37 = .ok (.istore_n 3, 1) := by decide +kernel
theorem dX9_years_38 : decode cX9_years 38 = .ok (.aload_n 0, 1) := by decide +kernel
theorem dX9_years_39 : decode cX9_years 39 = .ok (.getfield 25, 3) := by decide +kernel
theorem dX9_years_42 : decode cX9_years 42 = .ok (.aload_n 0, 1) := by decide +kernel
theorem dX9_years_43 : decode cX9_years 43 = .ok (.getfield 10, 3) := by decide +kernel
theorem dX9_years_46 : decode cX9_years 46 = .ok (.invokevirtual 175, 3) := by decide +kernel
theorem dX9_years_49 : decode cX9_years 49 = .ok (.iconst 0, 1) := by decide +kernel
theorem dX9_years_50 : decode cX9_years 50 = .ok (.istore 4, 2) := by decide +kernel
theorem dX9_years_52 : decode cX9_years 52 = .ok (.iload 4, 2) := by decide +kernel
theorem dX9_years_54 : decode cX9_years 54 = .ok (.iload_n 2, 1) := by decide +kernel
theorem dX9_years_55 : decode cX9_years 55 = .ok (.if_icmp .ge 20, 3) := by decide +kernel
theorem dX9_years_58 : decode cX9_years 58 = .ok (.aload_n 0, 1) := by decide +kernel
theorem dX9_years_59 : decode cX9_years 59 = .ok (.getfield 10, 3) := by decide +kernel
theorem dX9_years_62 : decode cX9_years 62 = .ok (.aload_n 0, 1) := by decide +kernel
theorem dX9_years_63 : decode cX9_years 63 = .ok (.getfield 25, 3) := by decide +kernel
theorem dX9_years_66 : decode cX9_years 66 = .ok (.invokevirtual 179, 3) := by decide +kernel
theorem dX9_years_69 : decode cX9_years 69 = .ok (.iinc 4 1, 3) := by decide +kernel
theorem dX9_years_72 : decode cX9_years 72 = .ok (.goto (-20), 3) := by decide +kernel
theorem dX9_years_75 : decode cX9_years 75 = .ok (.aload_n 0, 1) := by decide +kernel
theorem dX9_years_76 : decode cX9_years 76 = .ok (.getfield 10, 3) := by decide +kernel
theorem dX9_years_79 : decode cX9_years 79 = .ok (.getfield 172, 3) := by decide +kernel
theorem dX9_years_82 : decode cX9_years 82 = .ok (.iload_n 3, 1) := by decide +kernel
theorem dX9_years_83 : decode cX9_years 83 = .ok (.isub, 1) := by decide +kernel
theorem dX9_years_84 : decode cX9_years 84 = .ok (.ireturn, 1) := by decide +kernel
theorem dX9_frogs_0 : decode cX9_frogs 0 = .ok (.aload_n 0, 1) := by decide +kernel
theorem dX9_frogs_1 : decode cX9_frogs 1 = .ok (.getfield 10, 3) := by decide +kernel
theorem dX9_frogs_4 : decode cX9_frogs 4 = .ok (.iload_n 1, 1) := by decide +kernel
theorem dX9_frogs_5 : decode cX9_frogs 5 = .ok (.invokevirtual 70, 3) := by decide +kernel
theorem dX9_frogs_8 : decode cX9_frogs 8 = .ok (.ifCond .eq 11, 3) := by decide +kernel
theorem dX9_frogs_11 : decode cX9_frogs 11 = .ok (.iload_n 2, 1) := by decide +kernel
theorem dX9_frogs_12 : decode cX9_frogs 12 = .ok (.iconst 3, 1) := by decide +kernel
theorem dX9_frogs_13 : decode cX9_frogs 13 = .ok (.invokestatic 61, 3) := by decide +kernel
theorem dX9_frogs_16 : decode cX9_frogs 16 = .ok (.ifCond .ne 6, 3) := by decide +kernel
theorem dX9_frogs_19 : decode cX9_frogs 19 = .ok (.ldc 65, 2) := by decide +kernel
theorem dX9_frogs_21 : decode cX9_frogs 21 = .ok (.ireturn, 1) := by decide +kernel
theorem dX9_frogs_22 : decode cX9_frogs 22 = .ok (.aload_n 0, 1) := by decide +kernel
theorem dX9_frogs_23 : decode cX9_frogs 23 = .ok (.getfield 19, 3) := by decide +kernel
theorem dX9_frogs_26 : decode cX9_frogs 26 = .ok (.aload_n 0, 1) := by decide +kernel
theorem dX9_frogs_27 : decode cX9_frogs 27 = .ok (.getfield 10, 3) := by decide +kernel
theorem dX9_frogs_30 : decode cX9_frogs 30 = .ok (.invokevirtual 183, 3) := by decide +kernel
theorem dX9_frogs_33 : decode cX9_frogs 33 = .ok (.aload_n 0, 1) := by decide +kernel
theorem dX9_frogs_34 : decode cX9_frogs 34 = .ok (.getfield 25, 3) := by decide +kernel
theorem dX9_frogs_37 : decode cX9_frogs 37 = .ok (.aload_n 0, 1) := by decide +kernel
theorem dX9_frogs_38 : decode cX9_frogs 38 = .ok (.getfield 19, 3) := by decide +kernel
theorem dX9_frogs_41 : decode cX9_frogs 41 = .ok (.invokevirtual 175, 3) := by decide +kernel
theorem dX9_frogs_44 : decode cX9_frogs 44 = .ok (.aload_n 0, 1) := by decide +kernel
theorem dX9_frogs_45 : decode cX9_frogs 45 = .ok (.getfield 19, 3) := by decide +kernel
theorem dX9_frogs_48 : decode cX9_frogs 48 = .ok (.getfield 74, 3) := by decide +kernel
theorem dX9_frogs_51 : decode cX9_frogs 51 = .ok (.iload_n 1, 1) := by decide +kernel
theorem dX9_frogs_52 : decode cX9_frogs 52 = .ok (.aaload, 1) := by decide +kernel
theorem dX9_frogs_53 : decode cX9_frogs 53 = .ok (.astore_n 3, 1) := by decide +kernel
theorem dX9_frogs_54 : decode cX9_frogs 54 = .ok (.aload_n 3, 1) := by decide +kernel
theorem dX9_frogs_55 : decode cX9_frogs 55 = .ok (.getfield 90, 3) := by decide +kernel
theorem dX9_frogs_58 : decode cX9_frogs 58 = .ok (.istore 4, 2) := by decide +kernel
theorem dX9_frogs_60 : decode cX9_frogs 60 = .ok (.iconst 0, 1) := by decide +kernel
theorem dX9_frogs_61 : decode cX9_frogs 61 = .ok (.istore 5, 2) := by decide +kernel
theorem dX9_frogs_63 : decode cX9_frogs 63 = .ok (.iload 4, 2) := by decide +kernel
theorem dX9_frogs_65 : decode cX9_frogs 65 = .ok (.iload 5, 2) := by decide +kernel
theorem dX9_frogs_67 : decode cX9_frogs 67 = .ok (.iadd, 1) := by decide +kernel
theorem dX9_frogs_68 : decode cX9_frogs 68 = .ok (.bipush 99, 2) := by decide +kernel
theorem dX9_frogs_70 : decode cX9_frogs 70 = .ok (.if_icmp .gt 61, 3) := by decide +kernel
theorem dX9_frogs_73 : decode cX9_frogs 73 = .ok (.aload_n 3, 1) := by decide +kernel
theorem dX9_frogs_74 : decode cX9_frogs 74 = .ok (.iload 4, 2) := by decide +kernel
theorem dX9_frogs_76 : decode cX9_frogs 76 = .ok (.iload 5, 2) := by decide +kernel
theorem dX9_frogs_78 : decode cX9_frogs 78 = .ok (.iadd, 1) := by decide +kernel
theorem dX9_frogs_79 : decode cX9_frogs 79 = .ok (.putfield 90, 3) := by decide +kernel
theorem dX9_frogs_82 : decode cX9_frogs 82 = .ok (.aload_n 0, 1) := by decide +kernel
theorem dX9_frogs_83 : decode cX9_frogs 83 = .ok (.getfield 25, 3) := by decide +kernel
theorem dX9_frogs_86 : decode cX9_frogs 86 = .ok (.aload_n 0, 1) := by decide +kernel
theorem dX9_frogs_87 : decode cX9_frogs 87 = .ok (.getfield 19, 3) := by decide +kernel
theorem dX9_frogs_90 : decode cX9_frogs 90 = .ok (.iload_n 1, 1) := by decide +kernel
theorem dX9_frogs_91 : decode cX9_frogs 91 = .ok (.invokevirtual 186, 3) := by decide +kernel
theorem dX9_frogs_94 : decode cX9_frogs 94 = .ok (.aload_n 0, 1) := by decide +kernel
theorem dX9_frogs_95 : decode cX9_frogs 95 = .ok (.getfield 25, 3) := by decide +kernel
theorem dX9_frogs_98 : decode cX9_frogs 98 = .ok (.aload_n 0, 1) := by decide +kernel
theorem dX9_frogs_99 : decode cX9_frogs 99 = .ok (.getfield 19, 3) := by decide +kernel
theorem dX9_frogs_102 : decode cX9_frogs 102 = .ok (.ldc 107, 2) := by decide +kernel
theorem dX9_frogs_104 : decode cX9_frogs 104 = .ok (.invokevirtual 190, 3) := by decide +kernel
theorem dX9_frogs_107 : decode cX9_frogs 107 = .ok (.aload_n 0, 1) := by decide +kernel
theorem dX9_frogs_108 : decode cX9_frogs 108 = .ok (.getfield 25, 3) := by decide +kernel
theorem dX9_frogs_111 : decode cX9_frogs 111 = .ok (.aload_n 0, 1) := by decide +kernel
theorem dX9_frogs_112 : decode cX9_frogs 112 = .ok (.getfield 19, 3) := by decide +kernel
theorem dX9_frogs_115 : decode cX9_frogs 115 = .ok (.invokevirtual 165, 3) := by decide +kernel
theorem dX9_frogs_118 : decode cX9_frogs 118 = .ok (.iload_n 2, 1) := by decide +kernel
theorem dX9_frogs_119 : decode cX9_frogs 119 = .ok (.if_icmp .ne 6, 3) := by decide +kernel
theorem dX9_frogs_122 : decode cX9_frogs 122 = .ok (.iload 5, 2) := by decide +kernel
theorem dX9_frogs_124 : decode cX9_frogs 124 = .ok (.ireturn, 1) := by decide +kernel
theorem dX9_frogs_125 : decode cX9_frogs 125 = .ok (.iinc 5 1, 3) := by decide +kernel
theorem dX9_frogs_128 : decode cX9_frogs 128 = .ok (.goto (-65), 3) := by decide +kernel
theorem dX9_frogs_131 : decode cX9_frogs 131 = .ok (.ldc 107, 2) := by decide +kernel
theorem dX9_frogs_133 : decode cX9_frogs 133 = .ok (.ireturn, 1) := by decide +kernel
theorem dX9_driven_0 : decode cX9_driven 0 = .ok (.iload_n 1, 1) := by decide +kernel
theorem dX9_driven_1 : decode cX9_driven 1 = .ok (.iconst 3, 1) := by decide +kernel
theorem dX9_driven_2 : decode cX9_driven 2 = .ok (.invokestatic 61, 3) := by decide +kernel
theorem dX9_driven_5 : decode cX9_driven 5 = .ok (.ifCond .ne 6, 3) := by decide +kernel
theorem dX9_driven_8 : decode cX9_driven 8 = .ok (.ldc 65, 2) := by decide +kernel
theorem dX9_driven_10 : decode cX9_driven 10 = .ok (.ireturn, 1) := by decide +kernel
theorem dX9_driven_11 : decode cX9_driven 11 = .ok (.aload_n 0, 1) := by decide +kernel
theorem dX9_driven_12 : decode cX9_driven 12 = .ok (.getfield 19, 3) := by decide +kernel
theorem dX9_driven_15 : decode cX9_driven 15 = .ok (.aload_n 0, 1) := by decide +kernel
theorem dX9_driven_16 : decode cX9_driven 16 = .ok (.getfield 10, 3) := by decide +kernel
theorem dX9_driven_19 : decode cX9_driven 19 = .ok (.invokevirtual 183, 3) := by decide +kernel
theorem dX9_driven_22 : decode cX9_driven 22 = .ok (.aload_n 0, 1) := by decide +kernel
theorem dX9_driven_23 : decode cX9_driven 23 = .ok (.getfield 25, 3) := by decide +kernel
theorem dX9_driven_26 : decode cX9_driven 26 = .ok (.aload_n 0, 1) := by decide +kernel
theorem dX9_driven_27 : decode cX9_driven 27 = .ok (.getfield 19, 3) := by decide +kernel
theorem dX9_driven_30 : decode cX9_driven 30 = .ok (.invokevirtual 175, 3) := by decide +kernel
theorem dX9_driven_33 : decode cX9_driven 33 = .ok (.iconst 0, 1) := by decide +kernel
theorem dX9_driven_34 : decode cX9_driven 34 = .ok (.istore_n 2, 1) := by decide +kernel
theorem dX9_driven_35 : decode cX9_driven 35 = .ok (.iload_n 2, 1) := by decide +kernel
theorem dX9_driven_36 : decode cX9_driven 36 = .ok (.aload_n 0, 1) := by decide +kernel
theorem dX9_driven_37 : decode cX9_driven 37 = .ok (.getfield 19, 3) := by decide +kernel
theorem dX9_driven_40 : decode cX9_driven 40 = .ok (.getfield 172, 3) := by decide +kernel
theorem dX9_driven_43 : decode cX9_driven 43 = .ok (.if_icmp .ge 66, 3) := by decide +kernel
theorem dX9_driven_46 : decode cX9_driven 46 = .ok (.aload_n 0, 1) := by decide +kernel
theorem dX9_driven_47 : decode cX9_driven 47 = .ok (.getfield 19, 3) := by decide +kernel
theorem dX9_driven_50 : decode cX9_driven 50 = .ok (.getfield 115, 3) := by decide +kernel
theorem dX9_driven_53 : decode cX9_driven 53 = .ok (.iload_n 2, 1) := by decide +kernel
theorem dX9_driven_54 : decode cX9_driven 54 = .ok (.aaload, 1) := by decide +kernel
theorem dX9_driven_55 : decode cX9_driven 55 = .ok (.astore_n 3, 1) := by decide +kernel
theorem dX9_driven_56 : decode cX9_driven 56 = .ok (.aload_n 3, 1) := by decide +kernel
theorem dX9_driven_57 : decode cX9_driven 57 = .ok (.getfield 127, 3) := by decide +kernel
theorem dX9_driven_60 : decode cX9_driven 60 = .ok (.istore 4, 2) := by decide +kernel
theorem dX9_driven_62 : decode cX9_driven 62 = .ok (.aload_n 3, 1) := by decide +kernel
theorem dX9_driven_63 : decode cX9_driven 63 = .ok (.iconst 1, 1) := by decide +kernel
theorem dX9_driven_64 : decode cX9_driven 64 = .ok (.putfield 127, 3) := by decide +kernel
theorem dX9_driven_67 : decode cX9_driven 67 = .ok (.aload_n 0, 1) := by decide +kernel
theorem dX9_driven_68 : decode cX9_driven 68 = .ok (.getfield 25, 3) := by decide +kernel
theorem dX9_driven_71 : decode cX9_driven 71 = .ok (.aload_n 0, 1) := by decide +kernel
theorem dX9_driven_72 : decode cX9_driven 72 = .ok (.getfield 19, 3) := by decide +kernel
theorem dX9_driven_75 : decode cX9_driven 75 = .ok (.ldc 107, 2) := by decide +kernel
theorem dX9_driven_77 : decode cX9_driven 77 = .ok (.invokevirtual 190, 3) := by decide +kernel
theorem dX9_driven_80 : decode cX9_driven 80 = .ok (.aload_n 3, 1) := by decide +kernel
theorem dX9_driven_81 : decode cX9_driven 81 = .ok (.iload 4, 2) := by decide +kernel
theorem dX9_driven_83 : decode cX9_driven 83 = .ok (.putfield 127, 3) := by decide +kernel
theorem dX9_driven_86 : decode cX9_driven 86 = .ok (.aload_n 0, 1) := by decide +kernel
theorem dX9_driven_87 : decode cX9_driven 87 = .ok (.getfield 25, 3) := by decide +kernel
theorem dX9_driven_90 : decode cX9_driven 90 = .ok (.aload_n 0, 1) := by decide +kernel
theorem dX9_driven_91 : decode cX9_driven 91 = .ok (.getfield 19, 3) := by decide +kernel
theorem dX9_driven_94 : decode cX9_driven 94 = .ok (.invokevirtual 165, 3) := by decide +kernel
theorem dX9_driven_97 : decode cX9_driven 97 = .ok (.iload_n 1, 1) := by decide +kernel
theorem dX9_driven_98 : decode cX9_driven 98 = .ok (.if_icmp .ne 5, 3) := by decide +kernel
theorem dX9_driven_101 : decode cX9_driven 101 = .ok (.iload_n 2, 1) := by decide +kernel
theorem dX9_driven_102 : decode cX9_driven 102 = .ok (.ireturn, 1) := by decide +kernel
theorem dX9_driven_103 : decode cX9_driven 103 = .ok (.iinc 2 1, 3) := by decide +kernel
theorem dX9_driven_106 : decode cX9_driven 106 = .ok (.goto (-71), 3) := by decide +kernel
theorem dX9_driven_109 : decode cX9_driven 109 = .ok (.ldc 107, 2) := by decide +kernel
theorem dX9_driven_111 : decode cX9_driven 111 = .ok (.ireturn, 1) := by decide +kernel
theorem dX9_brings_0 : decode cX9_brings 0 = .ok (.aload_n 0, 1) := by decide +kernel
theorem dX9_brings_1 : decode cX9_brings 1 = .ok (.getfield 10, 3) := by decide +kernel
theorem dX9_brings_4 : decode cX9_brings 4 = .ok (.iload_n 1, 1) := by decide +kernel
theorem dX9_brings_5 : decode cX9_brings 5 = .ok (.invokevirtual 70, 3) := by decide +kernel
theorem dX9_brings_8 : decode cX9_brings 8 = .ok (.ifCond .ne 6, 3) := by decide +kernel
theorem dX9_brings_11 : decode cX9_brings 11 = .ok (.ldc 65, 2) := by decide +kernel
theorem dX9_brings_13 : decode cX9_brings 13 = .ok (.ireturn, 1) := by decide +kernel
theorem dX9_brings_14 : decode cX9_brings 14 = .ok (.aload_n 0, 1) := by decide +kernel
theorem dX9_brings_15 : decode cX9_brings 15 = .ok (.getfield 10, 3) := by decide +kernel
theorem dX9_brings_18 : decode cX9_brings 18 = .ok (.getfield 74, 3) := by decide +kernel
theorem dX9_brings_21 : decode cX9_brings 21 = .ok (.iload_n 1, 1) := by decide +kernel
theorem dX9_brings_22 : decode cX9_brings 22 = .ok (.aaload, 1) := by decide +kernel
theorem dX9_brings_23 : decode cX9_brings 23 = .ok (.getfield 84, 3) := by decide +kernel
theorem dX9_brings_26 : decode cX9_brings 26 = .ok (.istore_n 2, 1) := by decide +kernel
theorem dX9_brings_27 : decode cX9_brings 27 = .ok (.aload_n 0, 1) := by decide +kernel
theorem dX9_brings_28 : decode cX9_brings 28 = .ok (.invokevirtual 97, 3) := by decide +kernel
theorem dX9_brings_31 : decode cX9_brings 31 = .ok (.aload_n 0, 1) := by decide +kernel
theorem dX9_brings_32 : decode cX9_brings 32 = .ok (.getfield 25, 3) := by decide +kernel
theorem dX9_brings_35 : decode cX9_brings 35 = .ok (.aload_n 0, 1) := by decide +kernel
theorem dX9_brings_36 : decode cX9_brings 36 = .ok (.getfield 10, 3) := by decide +kernel
theorem dX9_brings_39 : decode cX9_brings 39 = .ok (.iload_n 2, 1) := by decide +kernel
theorem dX9_brings_40 : decode cX9_brings 40 = .ok (.invokevirtual 162, 3) := by decide +kernel
theorem dX9_brings_43 : decode cX9_brings 43 = .ok (.istore_n 3, 1) := by decide +kernel
theorem dX9_brings_44 : decode cX9_brings 44 = .ok (.aload_n 0, 1) := by decide +kernel
theorem dX9_brings_45 : decode cX9_brings 45 = .ok (.getfield 25, 3) := by decide +kernel
theorem dX9_brings_48 : decode cX9_brings 48 = .ok (.aload_n 0, 1) := by decide +kernel
theorem dX9_brings_49 : decode cX9_brings 49 = .ok (.getfield 10, 3) := by decide +kernel
theorem dX9_brings_52 : decode cX9_brings 52 = .ok (.iload_n 1, 1) := by decide +kernel
theorem dX9_brings_53 : decode cX9_brings 53 = .ok (.invokevirtual 190, 3) := by decide +kernel
theorem dX9_brings_56 : decode cX9_brings 56 = .ok (.iload_n 3, 1) := by decide +kernel
theorem dX9_brings_57 : decode cX9_brings 57 = .ok (.aload_n 0, 1) := by decide +kernel
theorem dX9_brings_58 : decode cX9_brings 58 = .ok (.getfield 25, 3) := by decide +kernel
theorem dX9_brings_61 : decode cX9_brings 61 = .ok (.aload_n 0, 1) := by decide +kernel
theorem dX9_brings_62 : decode cX9_brings 62 = .ok (.getfield 10, 3) := by decide +kernel
theorem dX9_brings_65 : decode cX9_brings 65 = .ok (.iload_n 2, 1) := by decide +kernel
theorem dX9_brings_66 : decode cX9_brings 66 = .ok (.invokevirtual 162, 3) := by decide +kernel
theorem dX9_brings_69 : decode cX9_brings 69 = .ok (.isub, 1) := by decide +kernel
theorem dX9_brings_70 : decode cX9_brings 70 = .ok (.ireturn, 1) := by decide +kernel
theorem dX9_behind_0 : decode cX9_behind 0 = .ok (.iload_n 1, 1) := by decide +kernel
theorem dX9_behind_1 : decode cX9_behind 1 = .ok (.bipush 60, 2) := by decide +kernel
theorem dX9_behind_3 : decode cX9_behind 3 = .ok (.invokestatic 61, 3) := by decide +kernel
theorem dX9_behind_6 : decode cX9_behind 6 = .ok (.ifCond .eq 11, 3) := by decide +kernel
theorem dX9_behind_9 : decode cX9_behind 9 = .ok (.iload_n 2, 1) := by decide +kernel
theorem dX9_behind_10 : decode cX9_behind 10 = .ok (.iconst 2, 1) := by decide +kernel
theorem dX9_behind_11 : decode cX9_behind 11 = .ok (.invokestatic 61, 3) := by decide +kernel
theorem dX9_behind_14 : decode cX9_behind 14 = .ok (.ifCond .ne 6, 3) := by decide +kernel
theorem dX9_behind_17 : decode cX9_behind 17 = .ok (.ldc 65, 2) := by decide +kernel
theorem dX9_behind_19 : decode cX9_behind 19 = .ok (.ireturn, 1) := by decide +kernel
theorem dX9_behind_20 : decode cX9_behind 20 = .ok (.aload_n 0, 1) := by decide +kernel
theorem dX9_behind_21 : decode cX9_behind 21 = .ok (.getfield 19, 3) := by decide +kernel
theorem dX9_behind_24 : decode cX9_behind 24 = .ok (.aload_n 0, 1) := by decide +kernel
theorem dX9_behind_25 : decode cX9_behind 25 = .ok (.getfield 10, 3) := by decide +kernel
theorem dX9_behind_28 : decode cX9_behind 28 = .ok (.invokevirtual 183, 3) := by decide +kernel
theorem dX9_behind_31 : decode cX9_behind 31 = .ok (.aload_n 0, 1) := by decide +kernel
theorem dX9_behind_32 : decode cX9_behind 32 = .ok (.getfield 25, 3) := by decide +kernel
theorem dX9_behind_35 : decode cX9_behind 35 = .ok (.aload_n 0, 1) := by decide +kernel
theorem dX9_behind_36 : decode cX9_behind 36 = .ok (.getfield 19, 3) := by decide +kernel
theorem dX9_behind_39 : decode cX9_behind 39 = .ok (.invokevirtual 175, 3) := by decide +kernel
theorem dX9_behind_42 : decode cX9_behind 42 = .ok (.iconst 0, 1) := by decide +kernel
theorem dX9_behind_43 : decode cX9_behind 43 = .ok (.istore_n 3, 1) := by decide +kernel
theorem dX9_behind_44 : decode cX9_behind 44 = .ok (.iload_n 3, 1) := by decide +kernel
theorem dX9_behind_45 : decode cX9_behind 45 = .ok (.iload_n 1, 1) := by decide +kernel
theorem dX9_behind_46 : decode cX9_behind 46 = .ok (.if_icmp .ge 20, 3) := by decide +kernel
theorem dX9_behind_49 : decode cX9_behind 49 = .ok (.aload_n 0, 1) := by decide +kernel
theorem dX9_behind_50 : decode cX9_behind 50 = .ok (.getfield 19, 3) := by decide +kernel
theorem dX9_behind_53 : decode cX9_behind 53 = .ok (.aload_n 0, 1) := by decide +kernel
theorem dX9_behind_54 : decode cX9_behind 54 = .ok (.getfield 25, 3) := by decide +kernel
theorem dX9_behind_57 : decode cX9_behind 57 = .ok (.invokevirtual 179, 3) := by decide +kernel
theorem dX9_behind_60 : decode cX9_behind 60 = .ok (.iinc 3 1, 3) := by decide +kernel
theorem dX9_behind_63 : decode cX9_behind 63 = .ok (.goto (-19), 3) := by decide +kernel
theorem dX9_behind_66 : decode cX9_behind 66 = .ok (.aload_n 0, 1) := by decide +kernel
theorem dX9_behind_67 : decode cX9_behind 67 = .ok (.getfield 25, 3) := by decide +kernel
theorem dX9_behind_70 : decode cX9_behind 70 = .ok (.aload_n 0, 1) := by decide +kernel
theorem dX9_behind_71 : decode cX9_behind 71 = .ok (.getfield 19, 3) := by decide +kernel
theorem dX9_behind_74 : decode cX9_behind 74 = .ok (.ldc 107, 2) := by decide +kernel
theorem dX9_behind_76 : decode cX9_behind 76 = .ok (.invokevirtual 190, 3) := by decide +kernel
theorem dX9_behind_79 : decode cX9_behind 79 = .ok (.iload_n 2, 1) := by decide +kernel
theorem dX9_behind_80 : decode cX9_behind 80 = .ok (.ifCond .ne 15, 3) := by decide +kernel
theorem dX9_behind_83 : decode cX9_behind 83 = .ok (.aload_n 0, 1) := by decide +kernel
theorem dX9_behind_84 : decode cX9_behind 84 = .ok (.getfield 25, 3) := by decide +kernel
theorem dX9_behind_87 : decode cX9_behind 87 = .ok (.aload_n 0, 1) := by decide +kernel
theorem dX9_behind_88 : decode cX9_behind 88 = .ok (.getfield 19, 3) := by decide +kernel
theorem dX9_behind_91 : decode cX9_behind 91 = .ok (.invokevirtual 165, 3) := by decide +kernel
theorem dX9_behind_94 : decode cX9_behind 94 = .ok (.ireturn, 1) := by decide +kernel
theorem dX9_behind_95 : decode cX9_behind 95 = .ok (.iload_n 2, 1) := by decide +kernel
theorem dX9_behind_96 : decode cX9_behind 96 = .ok (.iconst 1, 1) := by decide +kernel
theorem dX9_behind_97 : decode cX9_behind 97 = .ok (.if_icmp .ne 13, 3) := by decide +kernel
theorem dX9_behind_100 : decode cX9_behind 100 = .ok (.aload_n 0, 1) := by decide +kernel
theorem dX9_behind_101 : decode cX9_behind 101 = .ok (.getfield 19, 3) := by decide +kernel
theorem dX9_behind_104 : decode cX9_behind 104 = .ok (.invokevirtual 193, 3) := by decide +kernel
theorem dX9_behind_107 : decode cX9_behind 107 = .ok (.goto 14, 3) := by decide +kernel
theorem dX9_behind_110 : decode cX9_behind 110 = .ok (.aload_n 0, 1) := by decide +kernel
theorem dX9_behind_111 : decode cX9_behind 111 = .ok (.getfield 25, 3) := by decide +kernel
theorem dX9_behind_114 : decode cX9_behind 114 = .ok (.aload_n 0, 1) := by decide +kernel
theorem dX9_behind_115 : decode cX9_behind 115 = .ok (.getfield 19, 3) := by decide +kernel
theorem dX9_behind_118 : decode cX9_behind 118 = .ok (.invokevirtual 196, 3) := by decide +kernel
theorem dX9_behind_121 : decode cX9_behind 121 = .ok (.ireturn, 1) := by decide +kernel
theorem dX9_rather_0 : decode cX9_rather 0 = .ok (.iload_n 1, 1) := by decide +kernel
theorem dX9_rather_1 : decode cX9_rather 1 = .ok (.iconst 3, 1) := by decide +kernel
theorem dX9_rather_2 : decode cX9_rather 2 = .ok (.invokestatic 61, 3) := by decide +kernel
theorem dX9_rather_5 : decode cX9_rather 5 = .ok (.ifCond .ne 6, 3) := by decide +kernel
theorem dX9_rather_8 : decode cX9_rather 8 = .ok (.ldc 65, 2) := by decide +kernel
theorem dX9_rather_10 : decode cX9_rather 10 = .ok (.ireturn, 1) := by decide +kernel
theorem dX9_rather_11 : decode cX9_rather 11 = .ok (.aload_n 0, 1) := by decide +kernel
theorem dX9_rather_12 : decode cX9_rather 12 = .ok (.getfield 45, 3) := by decide +kernel
theorem dX9_rather_15 : decode cX9_rather 15 = .ok (.iload_n 1, 1) := by decide +kernel
theorem dX9_rather_16 : decode cX9_rather 16 = .ok (.aaload, 1) := by decide +kernel
theorem dX9_rather_17 : decode cX9_rather 17 = .ok (.invokevirtual 199, 3) := by decide +kernel
theorem dX9_rather_20 : decode cX9_rather 20 = .ok (.ifCond .eq 6, 3) := by decide +kernel
theorem dX9_rather_23 : decode cX9_rather 23 = .ok (.ldc 203, 2) := by decide +kernel
theorem dX9_rather_25 : decode cX9_rather 25 = .ok (.ireturn, 1) := by decide +kernel
theorem dX9_rather_26 : decode cX9_rather 26 = .ok (.aload_n 0, 1) := by decide +kernel
theorem dX9_rather_27 : decode cX9_rather 27 = .ok (.getfield 25, 3) := by decide +kernel
theorem dX9_rather_30 : decode cX9_rather 30 = .ok (.aload_n 0, 1) := by decide +kernel
theorem dX9_rather_31 : decode cX9_rather 31 = .ok (.getfield 10, 3) := by decide +kernel
theorem dX9_rather_34 : decode cX9_rather 34 = .ok (.invokevirtual 175, 3) := by decide +kernel
theorem dX9_rather_37 : decode cX9_rather 37 = .ok (.aload_n 0, 1) := by decide +kernel
theorem dX9_rather_38 : decode cX9_rather 38 = .ok (.getfield 25, 3) := by decide +kernel
theorem dX9_rather_41 : decode cX9_rather 41 = .ok (.aload_n 0, 1) := by decide +kernel
theorem dX9_rather_42 : decode cX9_rather 42 = .ok (.getfield 10, 3) := by decide +kernel
theorem dX9_rather_45 : decode cX9_rather 45 = .ok (.aload_n 0, 1) := by decide +kernel
theorem dX9_rather_46 : decode cX9_rather 46 = .ok (.getfield 45, 3) := by decide +kernel
theorem dX9_rather_49 : decode cX9_rather 49 = .ok (.iload_n 1, 1) := by decide +kernel
theorem dX9_rather_50 : decode cX9_rather 50 = .ok (.aaload, 1) := by decide +kernel
theorem dX9_rather_51 : decode cX9_rather 51 = .ok (.invokevirtual 204, 3) := by decide +kernel
theorem dX9_rather_54 : decode cX9_rather 54 = .ok (.iconst 0, 1) := by decide +kernel
theorem dX9_rather_55 : decode cX9_rather 55 = .ok (.istore_n 2, 1) := by decide +kernel
theorem dX9_rather_56 : decode cX9_rather 56 = .ok (.iload_n 2, 1) := by decide +kernel
theorem dX9_rather_57 : decode cX9_rather 57 = .ok (.aload_n 0, 1) := by decide +kernel
theorem dX9_rather_58 : decode cX9_rather 58 = .ok (.getfield 10, 3) := by decide +kernel
theorem dX9_rather_61 : decode cX9_rather 61 = .ok (.getfield 172, 3) := by decide +kernel
theorem dX9_rather_64 : decode cX9_rather 64 = .ok (.if_icmp .ge 55, 3) := by decide +kernel
theorem dX9_rather_67 : decode cX9_rather 67 = .ok (.aload_n 0, 1) := by decide +kernel
theorem dX9_rather_68 : decode cX9_rather 68 = .ok (.getfield 10, 3) := by decide +kernel
theorem dX9_rather_71 : decode cX9_rather 71 = .ok (.getfield 115, 3) := by decide +kernel
theorem dX9_rather_74 : decode cX9_rather 74 = .ok (.iload_n 2, 1) := by decide +kernel
theorem dX9_rather_75 : decode cX9_rather 75 = .ok (.aaload, 1) := by decide +kernel
theorem dX9_rather_76 : decode cX9_rather 76 = .ok (.getfield 127, 3) := by decide +kernel
theorem dX9_rather_79 : decode cX9_rather 79 = .ok (.ifCond .eq 8, 3) := by decide +kernel
theorem dX9_rather_82 : decode cX9_rather 82 = .ok (.ldc 107, 2) := by decide +kernel
theorem dX9_rather_84 : decode cX9_rather 84 = .ok (.goto 15, 3) := by decide +kernel
theorem dX9_rather_87 : decode cX9_rather 87 = .ok (.aload_n 0, 1) := by decide +kernel
theorem dX9_rather_88 : decode cX9_rather 88 = .ok (.getfield 25, 3) := by decide +kernel
theorem dX9_rather_91 : decode cX9_rather 91 = .ok (.aload_n 0, 1) := by decide +kernel
theorem dX9_rather_92 : decode cX9_rather 92 = .ok (.getfield 10, 3) := by decide +kernel
theorem dX9_rather_95 : decode cX9_rather 95 = .ok (.iload_n 2, 1) := by decide +kernel
theorem dX9_rather_96 : decode cX9_rather 96 = .ok (.invokevirtual 208, 3) := by decide +kernel
theorem dX9_rather_99 : decode cX9_rather 99 = .ok (.istore_n 3, 1) := by decide +kernel
theorem dX9_rather_100 : decode cX9_rather 100 = .ok (.iload_n 3, 1) := by decide +kernel
theorem dX9_rather_101 : decode cX9_rather 101 = .ok (.ldc 107, 2) := by decide +kernel
theorem dX9_rather_103 : decode cX9_rather 103 = .ok (.if_icmp .eq 10, 3) := by decide +kernel
theorem dX9_rather_106 : decode cX9_rather 106 = .ok (.bipush 10, 2) := by decide +kernel
theorem dX9_rather_108 : decode cX9_rather 108 = .ok (.iload_n 2, 1) := by decide +kernel
theorem dX9_rather_109 : decode cX9_rather 109 = .ok (.imul, 1) := by decide +kernel
theorem dX9_rather_110 : decode cX9_rather 110 = .ok (.iload_n 3, 1) := by decide +kernel
theorem dX9_rather_111 : decode cX9_rather 111 = .ok (.iadd, 1) := by decide +kernel
theorem dX9_rather_112 : decode cX9_rather 112 = .ok (.ireturn, 1) := by decide +kernel
theorem dX9_rather_113 : decode cX9_rather 113 = .ok (.iinc 2 1, 3) := by decide +kernel
theorem dX9_rather_116 : decode cX9_rather 116 = .ok (.goto (-60), 3) := by decide +kernel
theorem dX9_rather_119 : decode cX9_rather 119 = .ok (.ldc 107, 2) := by decide +kernel
theorem dX9_rather_121 : decode cX9_rather 121 = .ok (.ireturn, 1) := by decide +kernel
theorem dX9_fine_0 : decode cX9_fine 0 = .ok (.aload_n 0, 1) := by decide +kernel
theorem dX9_fine_1 : decode cX9_fine 1 = .ok (.getfield 10, 3) := by decide +kernel
theorem dX9_fine_4 : decode cX9_fine 4 = .ok (.iconst 2, 1) := by decide +kernel
theorem dX9_fine_5 : decode cX9_fine 5 = .ok (.invokevirtual 211, 3) := by decide +kernel
theorem dX9_fine_8 : decode cX9_fine 8 = .ok (.astore_n 1, 1) := by decide +kernel
theorem dX9_fine_9 : decode cX9_fine 9 = .ok (.aload_n 1, 1) := by decide +kernel
theorem dX9_fine_10 : decode cX9_fine 10 = .ok (.ifnonnull 7, 3) := by decide +kernel
theorem dX9_fine_13 : decode cX9_fine 13 = .ok (.iconst 0, 1) := by decide +kernel
theorem dX9_fine_14 : decode cX9_fine 14 = .ok (.goto 29, 3) := by decide +kernel
theorem dX9_fine_17 : decode cX9_fine 17 = .ok (.aload_n 1, 1) := by decide +kernel
theorem dX9_fine_18 : decode cX9_fine 18 = .ok (.aload_n 0, 1) := by decide +kernel
theorem dX9_fine_19 : decode cX9_fine 19 = .ok (.getfield 10, 3) := by decide +kernel
theorem dX9_fine_22 : decode cX9_fine 22 = .ok (.getfield 169, 3) := by decide +kernel
theorem dX9_fine_25 : decode cX9_fine 25 = .ok (.aload_n 0, 1) := by decide +kernel
theorem dX9_fine_26 : decode cX9_fine 26 = .ok (.getfield 10, 3) := by decide +kernel
theorem dX9_fine_29 : decode cX9_fine 29 = .ok (.invokevirtual 193, 3) := by decide +kernel
theorem dX9_fine_32 : decode cX9_fine 32 = .ok (.iconst 0, 1) := by decide +kernel
theorem dX9_fine_33 : decode cX9_fine 33 = .ok (.aload_n 0, 1) := by decide +kernel
theorem dX9_fine_34 : decode cX9_fine 34 = .ok (.getfield 10, 3) := by decide +kernel
theorem dX9_fine_37 : decode cX9_fine 37 = .ok (.getfield 215, 3) := by decide +kernel
theorem dX9_fine_40 : decode cX9_fine 40 = .ok (.invokevirtual 218, 3) := by decide +kernel
theorem dX9_fine_43 : decode cX9_fine 43 = .ok (.ireturn, 1) := by decide +kernel
theorem dX9_feed_0 : decode cX9_feed 0 = .ok (.aload_n 0, 1) := by decide +kernel
theorem dX9_feed_1 : decode cX9_feed 1 = .ok (.getfield 32, 3) := by decide +kernel
theorem dX9_feed_4 : decode cX9_feed 4 = .ok (.getfield 224, 3) := by decide +kernel
theorem dX9_feed_7 : decode cX9_feed 7 = .ok (.bipush 12, 2) := by decide +kernel
theorem dX9_feed_9 : decode cX9_feed 9 = .ok (.iadd, 1) := by decide +kernel
theorem dX9_feed_10 : decode cX9_feed 10 = .ok (.bipush 96, 2) := by decide +kernel
theorem dX9_feed_12 : decode cX9_feed 12 = .ok (.if_icmp .le 6, 3) := by decide +kernel
theorem dX9_feed_15 : decode cX9_feed 15 = .ok (.ldc 227, 2) := by decide +kernel
theorem dX9_feed_17 : decode cX9_feed 17 = .ok (.ireturn, 1) := by decide +kernel
theorem dX9_feed_18 : decode cX9_feed 18 = .ok (.aload_n 0, 1) := by decide +kernel
theorem dX9_feed_19 : decode cX9_feed 19 = .ok (.getfield 32, 3) := by decide +kernel
theorem dX9_feed_22 : decode cX9_feed 22 = .ok (.iload_n 1, 1) := by decide +kernel
theorem dX9_feed_23 : decode cX9_feed 23 = .ok (.invokevirtual 228, 3) := by decide +kernel
theorem dX9_feed_26 : decode cX9_feed 26 = .ok (.aload_n 0, 1) := by decide +kernel
theorem dX9_feed_27 : decode cX9_feed 27 = .ok (.getfield 32, 3) := by decide +kernel
theorem dX9_feed_30 : decode cX9_feed 30 = .ok (.iload_n 2, 1) := by decide +kernel
theorem dX9_feed_31 : decode cX9_feed 31 = .ok (.invokevirtual 228, 3) := by decide +kernel
theorem dX9_feed_34 : decode cX9_feed 34 = .ok (.aload_n 0, 1) := by decide +kernel
theorem dX9_feed_35 : decode cX9_feed 35 = .ok (.getfield 32, 3) := by decide +kernel
theorem dX9_feed_38 : decode cX9_feed 38 = .ok (.iload_n 3, 1) := by decide +kernel
theorem dX9_feed_39 : decode cX9_feed 39 = .ok (.invokevirtual 228, 3) := by decide +kernel
theorem dX9_feed_42 : decode cX9_feed 42 = .ok (.aload_n 0, 1) := by decide +kernel
theorem dX9_feed_43 : decode cX9_feed 43 = .ok (.getfield 32, 3) := by decide +kernel
theorem dX9_feed_46 : decode cX9_feed 46 = .ok (.getfield 224, 3) := by decide +kernel
theorem dX9_feed_49 : decode cX9_feed 49 = .ok (.ireturn, 1) := by decide +kernel
theorem dX9_trim_0 : decode cX9_trim 0 = .ok (.iload_n 1, 1) := by decide +kernel
theorem dX9_trim_1 : decode cX9_trim 1 = .ok (.aload_n 0, 1) := by decide +kernel
theorem dX9_trim_2 : decode cX9_trim 2 = .ok (.getfield 32, 3) := by decide +kernel
theorem dX9_trim_5 : decode cX9_trim 5 = .ok (.getfield 224, 3) := by decide +kernel
theorem dX9_trim_8 : decode cX9_trim 8 = .ok (.invokestatic 61, 3) := by decide +kernel
theorem dX9_trim_11 : decode cX9_trim 11 = .ok (.ifCond .ne 6, 3) := by decide +kernel
theorem dX9_trim_14 : decode cX9_trim 14 = .ok (.ldc 65, 2) := by decide +kernel
theorem dX9_trim_16 : decode cX9_trim 16 = .ok (.ireturn, 1) := by decide +kernel
theorem dX9_trim_17 : decode cX9_trim 17 = .ok (.aload_n 0, 1) := by decide +kernel
theorem dX9_trim_18 : decode cX9_trim 18 = .ok (.getfield 32, 3) := by decide +kernel
theorem dX9_trim_21 : decode cX9_trim 21 = .ok (.iload_n 1, 1) := by decide +kernel
theorem dX9_trim_22 : decode cX9_trim 22 = .ok (.putfield 224, 3) := by decide +kernel
theorem dX9_trim_25 : decode cX9_trim 25 = .ok (.iload_n 1, 1) := by decide +kernel
theorem dX9_trim_26 : decode cX9_trim 26 = .ok (.ireturn, 1) := by decide +kernel
theorem dX9_text_0 : decode cX9_text 0 = .ok (.aload_n 0, 1) := by decide +kernel
theorem dX9_text_1 : decode cX9_text 1 = .ok (.getfield 39, 3) := by decide +kernel
theorem dX9_text_4 : decode cX9_text 4 = .ok (.aload_n 0, 1) := by decide +kernel
theorem dX9_text_5 : decode cX9_text 5 = .ok (.getfield 32, 3) := by decide +kernel
theorem dX9_text_8 : decode cX9_text 8 = .ok (.invokevirtual 232, 3) := by decide +kernel
theorem dX9_text_11 : decode cX9_text 11 = .ok (.istore_n 1, 1) := by decide +kernel
theorem dX9_text_12 : decode cX9_text 12 = .ok (.aload_n 0, 1) := by decide +kernel
theorem dX9_text_13 : decode cX9_text 13 = .ok (.getfield 32, 3) := by decide +kernel
theorem dX9_text_16 : decode cX9_text 16 = .ok (.iconst 0, 1) := by decide +kernel
theorem dX9_text_17 : decode cX9_text 17 = .ok (.putfield 224, 3) := by decide +kernel
theorem dX9_text_20 : decode cX9_text 20 = .ok (.iload_n 1, 1) := by decide +kernel
theorem dX9_text_21 : decode cX9_text 21 = .ok (.ifCond .lt 8, 3) := by decide +kernel
theorem dX9_text_24 : decode cX9_text 24 = .ok (.bipush (-100), 2) := by decide +kernel
theorem dX9_text_26 : decode cX9_text 26 = .ok (.iload_n 1, 1) := by decide +kernel
theorem dX9_text_27 : decode cX9_text 27 = .ok (.isub, 1) := by decide +kernel
theorem dX9_text_28 : decode cX9_text 28 = .ok (.ireturn, 1) := by decide +kernel
theorem dX9_text_29 : decode cX9_text 29 = .ok (.aload_n 0, 1) := by decide +kernel
theorem dX9_text_30 : decode cX9_text 30 = .ok (.getfield 10, 3) := by decide +kernel
theorem dX9_text_33 : decode cX9_text 33 = .ok (.getfield 236, 3) := by decide +kernel
theorem dX9_text_36 : decode cX9_text 36 = .ok (.bipush 14, 2) := by decide +kernel
theorem dX9_text_38 : decode cX9_text 38 = .ok (.if_icmp .lt 6, 3) := by decide +kernel
theorem dX9_text_41 : decode cX9_text 41 = .ok (.ldc 227, 2) := by decide +kernel
theorem dX9_text_43 : decode cX9_text 43 = .ok (.ireturn, 1) := by decide +kernel
theorem dX9_text_44 : decode cX9_text 44 = .ok (.aload_n 0, 1) := by decide +kernel
theorem dX9_text_45 : decode cX9_text 45 = .ok (.getfield 10, 3) := by decide +kernel
theorem dX9_text_48 : decode cX9_text 48 = .ok (.getfield 239, 3) := by decide +kernel
theorem dX9_text_51 : decode cX9_text 51 = .ok (.aload_n 0, 1) := by decide +kernel
theorem dX9_text_52 : decode cX9_text 52 = .ok (.getfield 10, 3) := by decide +kernel
theorem dX9_text_55 : decode cX9_text 55 = .ok (.getfield 236, 3) := by decide +kernel
theorem dX9_text_58 : decode cX9_text 58 = .ok (.aload_n 0, 1) := by decide +kernel
theorem dX9_text_59 : decode cX9_text 59 = .ok (.getfield 39, 3) := by decide +kernel
theorem dX9_text_62 : decode cX9_text 62 = .ok (.invokevirtual 243, 3) := by decide +kernel
theorem dX9_text_65 : decode cX9_text 65 = .ok (.aastore, 1) := by decide +kernel
theorem dX9_text_66 : decode cX9_text 66 = .ok (.aload_n 0, 1) := by decide +kernel
theorem dX9_text_67 : decode cX9_text 67 = .ok (.getfield 10, 3) := by decide +kernel
theorem dX9_text_70 : decode cX9_text 70 = .ok (.dup, 1) := by decide +kernel
theorem dX9_text_71 : decode cX9_text 71 = .ok (.getfield 236, 3) := by decide +kernel
theorem dX9_text_74 : decode cX9_text 74 = .ok (.iconst 1, 1) := by decide +kernel
theorem dX9_text_75 : decode cX9_text 75 = .ok (.iadd, 1) := by decide +kernel
theorem dX9_text_76 : decode cX9_text 76 = .ok (.putfield 236, 3) := by decide +kernel
theorem dX9_text_79 : decode cX9_text 79 = .ok (.aload_n 0, 1) := by decide +kernel
theorem dX9_text_80 : decode cX9_text 80 = .ok (.getfield 10, 3) := by decide +kernel
theorem dX9_text_83 : decode cX9_text 83 = .ok (.getfield 236, 3) := by decide +kernel
theorem dX9_text_86 : decode cX9_text 86 = .ok (.iconst 1, 1) := by decide +kernel
theorem dX9_text_87 : decode cX9_text 87 = .ok (.isub, 1) := by decide +kernel
theorem dX9_text_88 : decode cX9_text 88 = .ok (.ireturn, 1) := by decide +kernel
theorem dX9_textTold_0 : decode cX9_textTold 0 = .ok (.iload_n 1, 1) := by decide +kernel
theorem dX9_textTold_1 : decode cX9_textTold 1 = .ok (.ifCond .lt 22, 3) := by decide +kernel
theorem dX9_textTold_4 : decode cX9_textTold 4 = .ok (.iload_n 1, 1) := by decide +kernel
theorem dX9_textTold_5 : decode cX9_textTold 5 = .ok (.aload_n 0, 1) := by decide +kernel
theorem dX9_textTold_6 : decode cX9_textTold 6 = .ok (.getfield 10, 3) := by decide +kernel
theorem dX9_textTold_9 : decode cX9_textTold 9 = .ok (.getfield 236, 3) := by decide +kernel
theorem dX9_textTold_12 : decode cX9_textTold 12 = .ok (.if_icmp .ge 11, 3) := by decide +kernel
theorem dX9_textTold_15 : decode cX9_textTold 15 = .ok (.iload_n 2, 1) := by decide +kernel
theorem dX9_textTold_16 : decode cX9_textTold 16 = .ok (.iconst 1, 1) := by decide +kernel
theorem dX9_textTold_17 : decode cX9_textTold 17 = .ok (.invokestatic 61, 3) := by decide +kernel
theorem dX9_textTold_20 : decode cX9_textTold 20 = .ok (.ifCond .ne 6, 3) := by decide +kernel
theorem dX9_textTold_23 : decode cX9_textTold 23 = .ok (.ldc 65, 2) := by decide +kernel
theorem dX9_textTold_25 : decode cX9_textTold 25 = .ok (.ireturn, 1) := by decide +kernel
theorem dX9_textTold_26 : decode cX9_textTold 26 = .ok (.aload_n 0, 1) := by decide +kernel
theorem dX9_textTold_27 : decode cX9_textTold 27 = .ok (.getfield 10, 3) := by decide +kernel
theorem dX9_textTold_30 : decode cX9_textTold 30 = .ok (.getfield 239, 3) := by decide +kernel
theorem dX9_textTold_33 : decode cX9_textTold 33 = .ok (.iload_n 1, 1) := by decide +kernel
theorem dX9_textTold_34 : decode cX9_textTold 34 = .ok (.aaload, 1) := by decide +kernel
theorem dX9_textTold_35 : decode cX9_textTold 35 = .ok (.astore_n 3, 1) := by decide +kernel
theorem dX9_textTold_36 : decode cX9_textTold 36 = .ok (.aload_n 3, 1) := by decide +kernel
theorem dX9_textTold_37 : decode cX9_textTold 37 = .ok (.ifnonnull 6, 3) := by decide +kernel
theorem dX9_textTold_40 : decode cX9_textTold 40 = .ok (.ldc 65, 2) := by decide +kernel
theorem dX9_textTold_42 : decode cX9_textTold 42 = .ok (.ireturn, 1) := by decide +kernel
theorem dX9_textTold_43 : decode cX9_textTold 43 = .ok (.iload_n 2, 1) := by decide +kernel
theorem dX9_textTold_44 : decode cX9_textTold 44 = .ok (.ifCond .ne 10, 3) := by decide +kernel
theorem dX9_textTold_47 : decode cX9_textTold 47 = .ok (.aload_n 3, 1) := by decide +kernel
theorem dX9_textTold_48 : decode cX9_textTold 48 = .ok (.getfield 247, 3) := by decide +kernel
theorem dX9_textTold_51 : decode cX9_textTold 51 = .ok (.goto 7, 3) := by decide +kernel
theorem dX9_textTold_54 : decode cX9_textTold 54 = .ok (.aload_n 3, 1) := by decide +kernel
theorem dX9_textTold_55 : decode cX9_textTold 55 = .ok (.getfield 250, 3) := by decide +kernel
theorem dX9_textTold_58 : decode cX9_textTold 58 = .ok (.ireturn, 1) := by decide +kernel
theorem dX9_why_0 : decode cX9_why 0 = .ok (.iload_n 1, 1) := by decide +kernel
theorem dX9_why_1 : decode cX9_why 1 = .ok (.iconst 2, 1) := by decide +kernel
theorem dX9_why_2 : decode cX9_why 2 = .ok (.invokestatic 61, 3) := by decide +kernel
theorem dX9_why_5 : decode cX9_why 5 = .ok (.ifCond .eq 14, 3) := by decide +kernel
theorem dX9_why_8 : decode cX9_why 8 = .ok (.aload_n 0, 1) := by decide +kernel
theorem dX9_why_9 : decode cX9_why 9 = .ok (.getfield 10, 3) := by decide +kernel
theorem dX9_why_12 : decode cX9_why 12 = .ok (.iload_n 1, 1) := by decide +kernel
theorem dX9_why_13 : decode cX9_why 13 = .ok (.invokevirtual 253, 3) := by decide +kernel
theorem dX9_why_16 : decode cX9_why 16 = .ok (.goto 5, 3) := by decide +kernel
theorem dX9_why_19 : decode cX9_why 19 = .ok (.ldc 65, 2) := by decide +kernel
theorem dX9_why_21 : decode cX9_why 21 = .ok (.ireturn, 1) := by decide +kernel
theorem dX9_sheet_0 : decode cX9_sheet 0 = .ok (.iload_n 1, 1) := by decide +kernel
theorem dX9_sheet_1 : decode cX9_sheet 1 = .ok (.iconst 3, 1) := by decide +kernel
theorem dX9_sheet_2 : decode cX9_sheet 2 = .ok (.invokestatic 61, 3) := by decide +kernel
theorem dX9_sheet_5 : decode cX9_sheet 5 = .ok (.ifCond .eq 13, 3) := by decide +kernel
theorem dX9_sheet_8 : decode cX9_sheet 8 = .ok (.iload_n 2, 1) := by decide +kernel
theorem dX9_sheet_9 : decode cX9_sheet 9 = .ok (.iconst (-1), 1) := by decide +kernel
theorem dX9_sheet_10 : decode cX9_sheet 10 = .ok (.if_icmp .lt 8, 3) := by decide +kernel
theorem dX9_sheet_13 : decode cX9_sheet 13 = .ok (.iload_n 2, 1) := by decide +kernel
theorem dX9_sheet_14 : decode cX9_sheet 14 = .ok (.iconst 1, 1) := by decide +kernel
theorem dX9_sheet_15 : decode cX9_sheet 15 = .ok (.if_icmp .le 6, 3) := by decide +kernel
theorem dX9_sheet_18 : decode cX9_sheet 18 = .ok (.ldc 65, 2) := by decide +kernel
theorem dX9_sheet_20 : decode cX9_sheet 20 = .ok (.ireturn, 1) := by decide +kernel
theorem dX9_sheet_21 : decode cX9_sheet 21 = .ok (.iload_n 2, 1) := by decide +kernel
theorem dX9_sheet_22 : decode cX9_sheet 22 = .ok (.iconst (-1), 1) := by decide +kernel
theorem dX9_sheet_23 : decode cX9_sheet 23 = .ok (.if_icmp .ne 16, 3) := by decide +kernel
theorem dX9_sheet_26 : decode cX9_sheet 26 = .ok (.aload_n 0, 1) := by decide +kernel
theorem dX9_sheet_27 : decode cX9_sheet 27 = .ok (.getfield 45, 3) := by decide +kernel
theorem dX9_sheet_30 : decode cX9_sheet 30 = .ok (.iload_n 1, 1) := by decide +kernel
theorem dX9_sheet_31 : decode cX9_sheet 31 = .ok (.aaload, 1) := by decide +kernel
theorem dX9_sheet_32 : decode cX9_sheet 32 = .ok (.iconst (-1), 1) := by decide +kernel
theorem dX9_sheet_33 : decode cX9_sheet 33 = .ok (.iconst 0, 1) := by decide +kernel
theorem dX9_sheet_34 : decode cX9_sheet 34 = .ok (.invokevirtual 257, 3) := by decide +kernel
theorem dX9_sheet_37 : decode cX9_sheet 37 = .ok (.iconst 0, 1) := by decide +kernel
theorem dX9_sheet_38 : decode cX9_sheet 38 = .ok (.ireturn, 1) := by decide +kernel
theorem dX9_sheet_39 : decode cX9_sheet 39 = .ok (.iload_n 3, 1) := by decide +kernel
theorem dX9_sheet_40 : decode cX9_sheet 40 = .ok (.bipush 24, 2) := by decide +kernel
theorem dX9_sheet_42 : decode cX9_sheet 42 = .ok (.if_icmp .le 6, 3) := by decide +kernel
theorem dX9_sheet_45 : decode cX9_sheet 45 = .ok (.ldc 65, 2) := by decide +kernel
theorem dX9_sheet_47 : decode cX9_sheet 47 = .ok (.ireturn, 1) := by decide +kernel
theorem dX9_sheet_48 : decode cX9_sheet 48 = .ok (.iload_n 3, 1) := by decide +kernel
theorem dX9_sheet_49 : decode cX9_sheet 49 = .ok (.ifCond .ge 7, 3) := by decide +kernel
theorem dX9_sheet_52 : decode cX9_sheet 52 = .ok (.ldc_w 261, 3) := by decide +kernel
theorem dX9_sheet_55 : decode cX9_sheet 55 = .ok (.ireturn, 1) := by decide +kernel
theorem dX9_sheet_56 : decode cX9_sheet 56 = .ok (.aload_n 0, 1) := by decide +kernel
theorem dX9_sheet_57 : decode cX9_sheet 57 = .ok (.getfield 45, 3) := by decide +kernel
theorem dX9_sheet_60 : decode cX9_sheet 60 = .ok (.iload_n 1, 1) := by decide +kernel
theorem dX9_sheet_61 : decode cX9_sheet 61 = .ok (.aaload, 1) := by decide +kernel
theorem dX9_sheet_62 : decode cX9_sheet 62 = .ok (.iload_n 2, 1) := by decide +kernel
theorem dX9_sheet_63 : decode cX9_sheet 63 = .ok (.iload_n 3, 1) := by decide +kernel
theorem dX9_sheet_64 : decode cX9_sheet 64 = .ok (.invokevirtual 257, 3) := by decide +kernel
theorem dX9_sheet_67 : decode cX9_sheet 67 = .ok (.iload_n 3, 1) := by decide +kernel
theorem dX9_sheet_68 : decode cX9_sheet 68 = .ok (.ireturn, 1) := by decide +kernel
theorem dX9_mark_0 : decode cX9_mark 0 = .ok (.iload_n 1, 1) := by decide +kernel
theorem dX9_mark_1 : decode cX9_mark 1 = .ok (.iconst 3, 1) := by decide +kernel
theorem dX9_mark_2 : decode cX9_mark 2 = .ok (.invokestatic 61, 3) := by decide +kernel
theorem dX9_mark_5 : decode cX9_mark 5 = .ok (.ifCond .ne 6, 3) := by decide +kernel
theorem dX9_mark_8 : decode cX9_mark 8 = .ok (.ldc 65, 2) := by decide +kernel
theorem dX9_mark_10 : decode cX9_mark 10 = .ok (.ireturn, 1) := by decide +kernel
theorem dX9_mark_11 : decode cX9_mark 11 = .ok (.aload_n 0, 1) := by decide +kernel
theorem dX9_mark_12 : decode cX9_mark 12 = .ok (.getfield 45, 3) := by decide +kernel
theorem dX9_mark_15 : decode cX9_mark 15 = .ok (.iload_n 1, 1) := by decide +kernel
theorem dX9_mark_16 : decode cX9_mark 16 = .ok (.aaload, 1) := by decide +kernel
theorem dX9_mark_17 : decode cX9_mark 17 = .ok (.astore 4, 2) := by decide +kernel
theorem dX9_mark_19 : decode cX9_mark 19 = .ok (.aload 4, 2) := by decide +kernel
theorem dX9_mark_21 : decode cX9_mark 21 = .ok (.invokevirtual 199, 3) := by decide +kernel
theorem dX9_mark_24 : decode cX9_mark 24 = .ok (.ifCond .eq 6, 3) := by decide +kernel
theorem dX9_mark_27 : decode cX9_mark 27 = .ok (.ldc 203, 2) := by decide +kernel
theorem dX9_mark_29 : decode cX9_mark 29 = .ok (.ireturn, 1) := by decide +kernel
theorem dX9_mark_30 : decode cX9_mark 30 = .ok (.aload 4, 2) := by decide +kernel
theorem dX9_mark_32 : decode cX9_mark 32 = .ok (.iload_n 2, 1) := by decide +kernel
theorem dX9_mark_33 : decode cX9_mark 33 = .ok (.invokevirtual 262, 3) := by decide +kernel
theorem dX9_mark_36 : decode cX9_mark 36 = .ok (.ifCond .ne 7, 3) := by decide +kernel
theorem dX9_mark_39 : decode cX9_mark 39 = .ok (.ldc_w 265, 3) := by decide +kernel
theorem dX9_mark_42 : decode cX9_mark 42 = .ok (.ireturn, 1) := by decide +kernel
theorem dX9_mark_43 : decode cX9_mark 43 = .ok (.aload 4, 2) := by decide +kernel
theorem dX9_mark_45 : decode cX9_mark 45 = .ok (.getfield 266, 3) := by decide +kernel
theorem dX9_mark_48 : decode cX9_mark 48 = .ok (.ifCond .ne 23, 3) := by decide +kernel
theorem dX9_mark_51 : decode cX9_mark 51 = .ok (.iload_n 3, 1) := by decide +kernel
theorem dX9_mark_52 : decode cX9_mark 52 = .ok (.ldc 107, 2) := by decide +kernel
theorem dX9_mark_54 : decode cX9_mark 54 = .ok (.if_icmp .ne 6, 3) := by decide +kernel
theorem dX9_mark_57 : decode cX9_mark 57 = .ok (.ldc 106, 2) := by decide +kernel
theorem dX9_mark_59 : decode cX9_mark 59 = .ok (.ireturn, 1) := by decide +kernel
theorem dX9_mark_60 : decode cX9_mark 60 = .ok (.aload 4, 2) := by decide +kernel
theorem dX9_mark_62 : decode cX9_mark 62 = .ok (.getfield 269, 3) := by decide +kernel
theorem dX9_mark_65 : decode cX9_mark 65 = .ok (.iload_n 2, 1) := by decide +kernel
theorem dX9_mark_66 : decode cX9_mark 66 = .ok (.iload_n 3, 1) := by decide +kernel
theorem dX9_mark_67 : decode cX9_mark 67 = .ok (.i2s, 1) := by decide +kernel
theorem dX9_mark_68 : decode cX9_mark 68 = .ok (.iastore, 1) := by decide +kernel
theorem dX9_mark_69 : decode cX9_mark 69 = .ok (.iconst 1, 1) := by decide +kernel
theorem dX9_mark_70 : decode cX9_mark 70 = .ok (.ireturn, 1) := by decide +kernel
theorem dX9_mark_71 : decode cX9_mark 71 = .ok (.iload_n 3, 1) := by decide +kernel
theorem dX9_mark_72 : decode cX9_mark 72 = .ok (.ldc 107, 2) := by decide +kernel
theorem dX9_mark_74 : decode cX9_mark 74 = .ok (.if_icmp .eq 20, 3) := by decide +kernel
theorem dX9_mark_77 : decode cX9_mark 77 = .ok (.iload_n 3, 1) := by decide +kernel
theorem dX9_mark_78 : decode cX9_mark 78 = .ok (.ldc_w 272, 3) := by decide +kernel
theorem dX9_mark_81 : decode cX9_mark 81 = .ok (.if_icmp .lt 10, 3) := by decide +kernel
theorem dX9_mark_84 : decode cX9_mark 84 = .ok (.iload_n 3, 1) := by decide +kernel
theorem dX9_mark_85 : decode cX9_mark 85 = .ok (.ldc_w 273, 3) := by decide +kernel
theorem dX9_mark_88 : decode cX9_mark 88 = .ok (.if_icmp .le 6, 3) := by decide +kernel
theorem dX9_mark_91 : decode cX9_mark 91 = .ok (.ldc 65, 2) := by decide +kernel
theorem dX9_mark_93 : decode cX9_mark 93 = .ok (.ireturn, 1) := by decide +kernel
theorem dX9_mark_94 : decode cX9_mark 94 = .ok (.aload 4, 2) := by decide +kernel
theorem dX9_mark_96 : decode cX9_mark 96 = .ok (.getfield 269, 3) := by decide +kernel
theorem dX9_mark_99 : decode cX9_mark 99 = .ok (.iload_n 2, 1) := by decide +kernel
theorem dX9_mark_100 : decode cX9_mark 100 = .ok (.iload_n 3, 1) := by decide +kernel
theorem dX9_mark_101 : decode cX9_mark 101 = .ok (.iastore, 1) := by decide +kernel
theorem dX9_mark_102 : decode cX9_mark 102 = .ok (.iconst 1, 1) := by decide +kernel
theorem dX9_mark_103 : decode cX9_mark 103 = .ok (.ireturn, 1) := by decide +kernel
theorem dX9_pour_0 : decode cX9_pour 0 = .ok (.iload_n 1, 1) := by decide +kernel
theorem dX9_pour_1 : decode cX9_pour 1 = .ok (.iconst 3, 1) := by decide +kernel
theorem dX9_pour_2 : decode cX9_pour 2 = .ok (.invokestatic 61, 3) := by decide +kernel
theorem dX9_pour_5 : decode cX9_pour 5 = .ok (.ifCond .ne 6, 3) := by decide +kernel
theorem dX9_pour_8 : decode cX9_pour 8 = .ok (.ldc 65, 2) := by decide +kernel
theorem dX9_pour_10 : decode cX9_pour 10 = .ok (.ireturn, 1) := by decide +kernel
theorem dX9_pour_11 : decode cX9_pour 11 = .ok (.aload_n 0, 1) := by decide +kernel
theorem dX9_pour_12 : decode cX9_pour 12 = .ok (.getfield 45, 3) := by decide +kernel
theorem dX9_pour_15 : decode cX9_pour 15 = .ok (.iload_n 1, 1) := by decide +kernel
theorem dX9_pour_16 : decode cX9_pour 16 = .ok (.aaload, 1) := by decide +kernel
theorem dX9_pour_17 : decode cX9_pour 17 = .ok (.astore_n 2, 1) := by decide +kernel
theorem dX9_pour_18 : decode cX9_pour 18 = .ok (.aload_n 2, 1) := by decide +kernel
theorem dX9_pour_19 : decode cX9_pour 19 = .ok (.invokevirtual 199, 3) := by decide +kernel
theorem dX9_pour_22 : decode cX9_pour 22 = .ok (.ifCond .eq 6, 3) := by decide +kernel
theorem dX9_pour_25 : decode cX9_pour 25 = .ok (.ldc 203, 2) := by decide +kernel
theorem dX9_pour_27 : decode cX9_pour 27 = .ok (.ireturn, 1) := by decide +kernel
theorem dX9_pour_28 : decode cX9_pour 28 = .ok (.iconst 0, 1) := by decide +kernel
theorem dX9_pour_29 : decode cX9_pour 29 = .ok (.istore_n 3, 1) := by decide +kernel
theorem dX9_pour_30 : decode cX9_pour 30 = .ok (.iconst 0, 1) := by decide +kernel
theorem dX9_pour_31 : decode cX9_pour 31 = .ok (.istore 4, 2) := by decide +kernel
theorem dX9_pour_33 : decode cX9_pour 33 = .ok (.iload 4, 2) := by decide +kernel
theorem dX9_pour_35 : decode cX9_pour 35 = .ok (.aload_n 0, 1) := by decide +kernel
theorem dX9_pour_36 : decode cX9_pour 36 = .ok (.getfield 10, 3) := by decide +kernel
theorem dX9_pour_39 : decode cX9_pour 39 = .ok (.getfield 144, 3) := by decide +kernel
theorem dX9_pour_42 : decode cX9_pour 42 = .ok (.if_icmp .ge 97, 3) := by decide +kernel
theorem dX9_pour_45 : decode cX9_pour 45 = .ok (.iload 4, 2) := by decide +kernel
theorem dX9_pour_47 : decode cX9_pour 47 = .ok (.aload_n 2, 1) := by decide +kernel
theorem dX9_pour_48 : decode cX9_pour 48 = .ok (.getfield 274, 3) := by decide +kernel
theorem dX9_pour_51 : decode cX9_pour 51 = .ok (.if_icmp .ge 88, 3) := by decide +kernel
theorem dX9_pour_54 : decode cX9_pour 54 = .ok (.aload_n 0, 1) := by decide +kernel
theorem dX9_pour_55 : decode cX9_pour 55 = .ok (.getfield 10, 3) := by decide +kernel
theorem dX9_pour_58 : decode cX9_pour 58 = .ok (.getfield 74, 3) := by decide +kernel
theorem dX9_pour_61 : decode cX9_pour 61 = .ok (.iload 4, 2) := by decide +kernel
theorem dX9_pour_63 : decode cX9_pour 63 = .ok (.aaload, 1) := by decide +kernel
theorem dX9_pour_64 : decode cX9_pour 64 = .ok (.getfield 90, 3) := by decide +kernel
theorem dX9_pour_67 : decode cX9_pour 67 = .ok (.istore 5, 2) := by decide +kernel
theorem dX9_pour_69 : decode cX9_pour 69 = .ok (.aload_n 2, 1) := by decide +kernel
theorem dX9_pour_70 : decode cX9_pour 70 = .ok (.getfield 269, 3) := by decide +kernel
theorem dX9_pour_73 : decode cX9_pour 73 = .ok (.iload 4, 2) := by decide +kernel
theorem dX9_pour_75 : decode cX9_pour 75 = .ok (.iaload, 1) := by decide +kernel
theorem dX9_pour_76 : decode cX9_pour 76 = .ok (.ldc 107, 2) := by decide +kernel
theorem dX9_pour_78 : decode cX9_pour 78 = .ok (.if_icmp .ne 8, 3) := by decide +kernel
theorem dX9_pour_81 : decode cX9_pour 81 = .ok (.iload 5, 2) := by decide +kernel
theorem dX9_pour_83 : decode cX9_pour 83 = .ok (.goto 15, 3) := by decide +kernel
theorem dX9_pour_86 : decode cX9_pour 86 = .ok (.aload_n 2, 1) := by decide +kernel
theorem dX9_pour_87 : decode cX9_pour 87 = .ok (.getfield 269, 3) := by decide +kernel
theorem dX9_pour_90 : decode cX9_pour 90 = .ok (.iload 4, 2) := by decide +kernel
theorem dX9_pour_92 : decode cX9_pour 92 = .ok (.iaload, 1) := by decide +kernel
theorem dX9_pour_93 : decode cX9_pour 93 = .ok (.bipush 99, 2) := by decide +kernel
theorem dX9_pour_95 : decode cX9_pour 95 = .ok (.invokestatic 275, 3) := by decide +kernel
theorem dX9_pour_98 : decode cX9_pour 98 = .ok (.istore 6, 2) := by decide +kernel
theorem dX9_pour_100 : decode cX9_pour 100 = .ok (.aload_n 0, 1) := by decide +kernel
theorem dX9_pour_101 : decode cX9_pour 101 = .ok (.getfield 10, 3) := by decide +kernel
theorem dX9_pour_104 : decode cX9_pour 104 = .ok (.getfield 74, 3) := by decide +kernel
theorem dX9_pour_107 : decode cX9_pour 107 = .ok (.iload 4, 2) := by decide +kernel
theorem dX9_pour_109 : decode cX9_pour 109 = .ok (.aaload, 1) := by decide +kernel
theorem dX9_pour_110 : decode cX9_pour 110 = .ok (.iload 6, 2) := by decide +kernel
theorem dX9_pour_112 : decode cX9_pour 112 = .ok (.putfield 90, 3) := by decide +kernel
theorem dX9_pour_115 : decode cX9_pour 115 = .ok (.iload_n 3, 1) := by decide +kernel
theorem dX9_pour_116 : decode cX9_pour 116 = .ok (.iload 6, 2) := by decide +kernel
theorem dX9_pour_118 : decode cX9_pour 118 = .ok (.iload 5, 2) := by decide +kernel
theorem dX9_pour_120 : decode cX9_pour 120 = .ok (.if_icmp .eq 7, 3) := by decide +kernel
theorem dX9_pour_123 : decode cX9_pour 123 = .ok (.iconst 1, 1) := by decide +kernel
theorem dX9_pour_124 : decode cX9_pour 124 = .ok (.goto 4, 3) := by decide +kernel
theorem dX9_pour_127 : decode cX9_pour 127 = .ok (.iconst 0, 1) := by decide +kernel
theorem dX9_pour_128 : decode cX9_pour 128 = .ok (.invokestatic 131, 3) := by decide +kernel
theorem dX9_pour_131 : decode cX9_pour 131 = .ok (.iadd, 1) := by decide +kernel
theorem dX9_pour_132 : decode cX9_pour 132 = .ok (.istore_n 3, 1) := by decide +kernel
theorem dX9_pour_133 : decode cX9_pour 133 = .ok (.iinc 4 1, 3) := by decide +kernel
theorem dX9_pour_136 : decode cX9_pour 136 = .ok (.goto (-103), 3) := by decide +kernel
theorem dX9_pour_139 : decode cX9_pour 139 = .ok (.iload_n 3, 1) := by decide +kernel
theorem dX9_pour_140 : decode cX9_pour 140 = .ok (.ireturn, 1) := by decide +kernel
theorem dX9_reads_0 : decode cX9_reads 0 = .ok (.iload_n 1, 1) := by decide +kernel
theorem dX9_reads_1 : decode cX9_reads 1 = .ok (.iconst 3, 1) := by decide +kernel
theorem dX9_reads_2 : decode cX9_reads 2 = .ok (.invokestatic 61, 3) := by decide +kernel
theorem dX9_reads_5 : decode cX9_reads 5 = .ok (.ifCond .ne 6, 3) := by decide +kernel
theorem dX9_reads_8 : decode cX9_reads 8 = .ok (.ldc 65, 2) := by decide +kernel
theorem dX9_reads_10 : decode cX9_reads 10 = .ok (.ireturn, 1) := by decide +kernel
theorem dX9_reads_11 : decode cX9_reads 11 = .ok (.aload_n 0, 1) := by decide +kernel
theorem dX9_reads_12 : decode cX9_reads 12 = .ok (.getfield 45, 3) := by decide +kernel
theorem dX9_reads_15 : decode cX9_reads 15 = .ok (.iload_n 1, 1) := by decide +kernel
theorem dX9_reads_16 : decode cX9_reads 16 = .ok (.aaload, 1) := by decide +kernel
theorem dX9_reads_17 : decode cX9_reads 17 = .ok (.astore_n 2, 1) := by decide +kernel
theorem dX9_reads_18 : decode cX9_reads 18 = .ok (.aload_n 2, 1) := by decide +kernel
theorem dX9_reads_19 : decode cX9_reads 19 = .ok (.invokevirtual 199, 3) := by decide +kernel
theorem dX9_reads_22 : decode cX9_reads 22 = .ok (.ifCond .eq 6, 3) := by decide +kernel
theorem dX9_reads_25 : decode cX9_reads 25 = .ok (.ldc 203, 2) := by decide +kernel
theorem dX9_reads_27 : decode cX9_reads 27 = .ok (.ireturn, 1) := by decide +kernel
theorem dX9_reads_28 : decode cX9_reads 28 = .ok (.aload_n 0, 1) := by decide +kernel
theorem dX9_reads_29 : decode cX9_reads 29 = .ok (.invokevirtual 97, 3) := by decide +kernel
theorem dX9_reads_32 : decode cX9_reads 32 = .ok (.iconst 0, 1) := by decide +kernel
theorem dX9_reads_33 : decode cX9_reads 33 = .ok (.istore_n 3, 1) := by decide +kernel
theorem dX9_reads_34 : decode cX9_reads 34 = .ok (.iload_n 3, 1) := by decide +kernel
theorem dX9_reads_35 : decode cX9_reads 35 = .ok (.aload_n 2, 1) := by decide +kernel
theorem dX9_reads_36 : decode cX9_reads 36 = .ok (.getfield 274, 3) := by decide +kernel
theorem dX9_reads_39 : decode cX9_reads 39 = .ok (.if_icmp .ge 36, 3) := by decide +kernel
theorem dX9_reads_42 : decode cX9_reads 42 = .ok (.aload_n 2, 1) := by decide +kernel
theorem dX9_reads_43 : decode cX9_reads 43 = .ok (.getfield 269, 3) := by decide +kernel
theorem dX9_reads_46 : decode cX9_reads 46 = .ok (.iload_n 3, 1) := by decide +kernel
theorem dX9_reads_47 : decode cX9_reads 47 = .ok (.iaload, 1) := by decide +kernel
theorem dX9_reads_48 : decode cX9_reads 48 = .ok (.ldc 107, 2) := by decide +kernel
theorem dX9_reads_50 : decode cX9_reads 50 = .ok (.if_icmp .eq 19, 3) := by decide +kernel
theorem dX9_reads_53 : decode cX9_reads 53 = .ok (.aload_n 0, 1) := by decide +kernel
theorem dX9_reads_54 : decode cX9_reads 54 = .ok (.iload_n 3, 1) := by decide +kernel
theorem dX9_reads_55 : decode cX9_reads 55 = .ok (.aload_n 2, 1) := by decide +kernel
theorem dX9_reads_56 : decode cX9_reads 56 = .ok (.getfield 269, 3) := by decide +kernel
theorem dX9_reads_59 : decode cX9_reads 59 = .ok (.iload_n 3, 1) := by decide +kernel
theorem dX9_reads_60 : decode cX9_reads 60 = .ok (.iaload, 1) := by decide +kernel
theorem dX9_reads_61 : decode cX9_reads 61 = .ok (.invokevirtual 278, 3) := by decide +kernel
theorem dX9_reads_64 : decode cX9_reads 64 = .ok (.ifCond .ne 5, 3) := by decide +kernel
theorem dX9_reads_67 : decode cX9_reads 67 = .ok (.iload_n 3, 1) := by decide +kernel
theorem dX9_reads_68 : decode cX9_reads 68 = .ok (.ireturn, 1) := by decide +kernel
theorem dX9_reads_69 : decode cX9_reads 69 = .ok (.iinc 3 1, 3) := by decide +kernel
theorem dX9_reads_72 : decode cX9_reads 72 = .ok (.goto (-38), 3) := by decide +kernel
theorem dX9_reads_75 : decode cX9_reads 75 = .ok (.ldc 107, 2) := by decide +kernel
theorem dX9_reads_77 : decode cX9_reads 77 = .ok (.ireturn, 1) := by decide +kernel
theorem dX9_copy_0 : decode cX9_copy 0 = .ok (.iload_n 1, 1) := by decide +kernel
theorem dX9_copy_1 : decode cX9_copy 1 = .ok (.iconst 3, 1) := by decide +kernel
theorem dX9_copy_2 : decode cX9_copy 2 = .ok (.invokestatic 61, 3) := by decide +kernel
theorem dX9_copy_5 : decode cX9_copy 5 = .ok (.ifCond .eq 11, 3) := by decide +kernel
theorem dX9_copy_8 : decode cX9_copy 8 = .ok (.iload_n 3, 1) := by decide +kernel
theorem dX9_copy_9 : decode cX9_copy 9 = .ok (.iconst 3, 1) := by decide +kernel
theorem dX9_copy_10 : decode cX9_copy 10 = .ok (.invokestatic 61, 3) := by decide +kernel
theorem dX9_copy_13 : decode cX9_copy 13 = .ok (.ifCond .ne 6, 3) := by decide +kernel
theorem dX9_copy_16 : decode cX9_copy 16 = .ok (.ldc 65, 2) := by decide +kernel
theorem dX9_copy_18 : decode cX9_copy 18 = .ok (.ireturn, 1) := by decide +kernel
theorem dX9_copy_19 : decode cX9_copy 19 = .ok (.aload_n 0, 1) := by decide +kernel
theorem dX9_copy_20 : decode cX9_copy 20 = .ok (.getfield 45, 3) := by decide +kernel
theorem dX9_copy_23 : decode cX9_copy 23 = .ok (.iload_n 1, 1) := by decide +kernel
theorem dX9_copy_24 : decode cX9_copy 24 = .ok (.aaload, 1) := by decide +kernel
theorem dX9_copy_25 : decode cX9_copy 25 = .ok (.astore 6, 2) := by decide +kernel
theorem dX9_copy_27 : decode cX9_copy 27 = .ok (.aload_n 0, 1) := by decide +kernel
theorem dX9_copy_28 : decode cX9_copy 28 = .ok (.getfield 45, 3) := by decide +kernel
theorem dX9_copy_31 : decode cX9_copy 31 = .ok (.iload_n 3, 1) := by decide +kernel
theorem dX9_copy_32 : decode cX9_copy 32 = .ok (.aaload, 1) := by decide +kernel
theorem dX9_copy_33 : decode cX9_copy 33 = .ok (.astore 7, 2) := by decide +kernel
theorem dX9_copy_35 : decode cX9_copy 35 = .ok (.aload 6, 2) := by decide +kernel
theorem dX9_copy_37 : decode cX9_copy 37 = .ok (.invokevirtual 199, 3) := by decide +kernel
theorem dX9_copy_40 : decode cX9_copy 40 = .ok (.ifCond .ne 11, 3) := by decide +kernel
theorem dX9_copy_43 : decode cX9_copy 43 = .ok (.aload 7, 2) := by decide +kernel
theorem dX9_copy_45 : decode cX9_copy 45 = .ok (.invokevirtual 199, 3) := by decide +kernel
theorem dX9_copy_48 : decode cX9_copy 48 = .ok (.ifCond .eq 6, 3) := by decide +kernel
theorem dX9_copy_51 : decode cX9_copy 51 = .ok (.ldc 203, 2) := by decide +kernel
theorem dX9_copy_53 : decode cX9_copy 53 = .ok (.ireturn, 1) := by decide +kernel
theorem dX9_copy_54 : decode cX9_copy 54 = .ok (.aload 6, 2) := by decide +kernel
theorem dX9_copy_56 : decode cX9_copy 56 = .ok (.getfield 266, 3) := by decide +kernel
theorem dX9_copy_59 : decode cX9_copy 59 = .ok (.aload 7, 2) := by decide +kernel
theorem dX9_copy_61 : decode cX9_copy 61 = .ok (.getfield 266, 3) := by decide +kernel
theorem dX9_copy_64 : decode cX9_copy 64 = .ok (.if_icmp .eq 6, 3) := by decide +kernel
theorem dX9_copy_67 : decode cX9_copy 67 = .ok (.ldc 106, 2) := by decide +kernel
theorem dX9_copy_69 : decode cX9_copy 69 = .ok (.ireturn, 1) := by decide +kernel
theorem dX9_copy_70 : decode cX9_copy 70 = .ok (.aload 6, 2) := by decide +kernel
theorem dX9_copy_72 : decode cX9_copy 72 = .ok (.iload_n 2, 1) := by decide +kernel
theorem dX9_copy_73 : decode cX9_copy 73 = .ok (.iload 5, 2) := by decide +kernel
theorem dX9_copy_75 : decode cX9_copy 75 = .ok (.invokevirtual 281, 3) := by decide +kernel
theorem dX9_copy_78 : decode cX9_copy 78 = .ok (.ifCond .eq 15, 3) := by decide +kernel
theorem dX9_copy_81 : decode cX9_copy 81 = .ok (.aload 7, 2) := by decide +kernel
theorem dX9_copy_83 : decode cX9_copy 83 = .ok (.iload 4, 2) := by decide +kernel
theorem dX9_copy_85 : decode cX9_copy 85 = .ok (.iload 5, 2) := by decide +kernel
theorem dX9_copy_87 : decode cX9_copy 87 = .ok (.invokevirtual 281, 3) := by decide +kernel
theorem dX9_copy_90 : decode cX9_copy 90 = .ok (.ifCond .ne 7, 3) := by decide +kernel
theorem dX9_copy_93 : decode cX9_copy 93 = .ok (.ldc_w 265, 3) := by decide +kernel
theorem dX9_copy_96 : decode cX9_copy 96 = .ok (.ireturn, 1) := by decide +kernel
theorem dX9_copy_97 : decode cX9_copy 97 = .ok (.aload 6, 2) := by decide +kernel
theorem dX9_copy_99 : decode cX9_copy 99 = .ok (.getfield 269, 3) := by decide +kernel
theorem dX9_copy_102 : decode cX9_copy 102 = .ok (.iload_n 2, 1) := by decide +kernel
theorem dX9_copy_103 : decode cX9_copy 103 = .ok (.aload 7, 2) := by decide +kernel
theorem dX9_copy_105 : decode cX9_copy 105 = .ok (.getfield 269, 3) := by decide +kernel
theorem dX9_copy_108 : decode cX9_copy 108 = .ok (.iload 4, 2) := by decide +kernel
theorem dX9_copy_110 : decode cX9_copy 110 = .ok (.iload 5, 2) := by decide +kernel
theorem dX9_copy_112 : decode cX9_copy 112 = .ok (.invokestatic 284, 3) := by decide +kernel
theorem dX9_copy_115 : decode cX9_copy 115 = .ok (.iload 5, 2) := by decide +kernel
theorem dX9_copy_117 : decode cX9_copy 117 = .ok (.ireturn, 1) := by decide +kernel
theorem dX9_lay_0 : decode cX9_lay 0 = .ok (.iload_n 1, 1) := by decide +kernel
theorem dX9_lay_1 : decode cX9_lay 1 = .ok (.iconst 4, 1) := by decide +kernel
theorem dX9_lay_2 : decode cX9_lay 2 = .ok (.invokestatic 61, 3) := by decide +kernel
theorem dX9_lay_5 : decode cX9_lay 5 = .ok (.ifCond .eq 11, 3) := by decide +kernel
theorem dX9_lay_8 : decode cX9_lay 8 = .ok (.iload_n 2, 1) := by decide +kernel
theorem dX9_lay_9 : decode cX9_lay 9 = .ok (.iconst 3, 1) := by decide +kernel
theorem dX9_lay_10 : decode cX9_lay 10 = .ok (.invokestatic 61, 3) := by decide +kernel
theorem dX9_lay_13 : decode cX9_lay 13 = .ok (.ifCond .ne 6, 3) := by decide +kernel
theorem dX9_lay_16 : decode cX9_lay 16 = .ok (.ldc 65, 2) := by decide +kernel
theorem dX9_lay_18 : decode cX9_lay 18 = .ok (.ireturn, 1) := by decide +kernel
theorem dX9_lay_19 : decode cX9_lay 19 = .ok (.iload_n 2, 1) := by decide +kernel
theorem dX9_lay_20 : decode cX9_lay 20 = .ok (.iconst 1, 1) := by decide +kernel
theorem dX9_lay_21 : decode cX9_lay 21 = .ok (.if_icmp .ne 14, 3) := by decide +kernel
theorem dX9_lay_24 : decode cX9_lay 24 = .ok (.aload_n 0, 1) := by decide +kernel
theorem dX9_lay_25 : decode cX9_lay 25 = .ok (.getfield 10, 3) := by decide +kernel
theorem dX9_lay_28 : decode cX9_lay 28 = .ok (.iload_n 3, 1) := by decide +kernel
theorem dX9_lay_29 : decode cX9_lay 29 = .ok (.invokevirtual 70, 3) := by decide +kernel
theorem dX9_lay_32 : decode cX9_lay 32 = .ok (.ifCond .eq 16, 3) := by decide +kernel
theorem dX9_lay_35 : decode cX9_lay 35 = .ok (.iload_n 2, 1) := by decide +kernel
theorem dX9_lay_36 : decode cX9_lay 36 = .ok (.iconst 2, 1) := by decide +kernel
theorem dX9_lay_37 : decode cX9_lay 37 = .ok (.if_icmp .ne 14, 3) := by decide +kernel
theorem dX9_lay_40 : decode cX9_lay 40 = .ok (.iload_n 3, 1) := by decide +kernel
theorem dX9_lay_41 : decode cX9_lay 41 = .ok (.iconst 3, 1) := by decide +kernel
theorem dX9_lay_42 : decode cX9_lay 42 = .ok (.invokestatic 61, 3) := by decide +kernel
theorem dX9_lay_45 : decode cX9_lay 45 = .ok (.ifCond .ne 6, 3) := by decide +kernel
theorem dX9_lay_48 : decode cX9_lay 48 = .ok (.ldc 65, 2) := by decide +kernel
theorem dX9_lay_50 : decode cX9_lay 50 = .ok (.ireturn, 1) := by decide +kernel
theorem dX9_lay_51 : decode cX9_lay 51 = .ok (.iload_n 2, 1) := by decide +kernel
theorem dX9_lay_52 : decode cX9_lay 52 = .ok (.iconst 2, 1) := by decide +kernel
theorem dX9_lay_53 : decode cX9_lay 53 = .ok (.if_icmp .ne 18, 3) := by decide +kernel
theorem dX9_lay_56 : decode cX9_lay 56 = .ok (.aload_n 0, 1) := by decide +kernel
theorem dX9_lay_57 : decode cX9_lay 57 = .ok (.getfield 45, 3) := by decide +kernel
theorem dX9_lay_60 : decode cX9_lay 60 = .ok (.iload_n 3, 1) := by decide +kernel
theorem dX9_lay_61 : decode cX9_lay 61 = .ok (.aaload, 1) := by decide +kernel
theorem dX9_lay_62 : decode cX9_lay 62 = .ok (.invokevirtual 199, 3) := by decide +kernel
theorem dX9_lay_65 : decode cX9_lay 65 = .ok (.ifCond .eq 6, 3) := by decide +kernel
theorem dX9_lay_68 : decode cX9_lay 68 = .ok (.ldc 203, 2) := by decide +kernel
theorem dX9_lay_70 : decode cX9_lay 70 = .ok (.ireturn, 1) := by decide +kernel
theorem dX9_lay_71 : decode cX9_lay 71 = .ok (.aload_n 0, 1) := by decide +kernel
theorem dX9_lay_72 : decode cX9_lay 72 = .ok (.getfield 51, 3) := by decide +kernel
theorem dX9_lay_75 : decode cX9_lay 75 = .ok (.iload_n 1, 1) := by decide +kernel
theorem dX9_lay_76 : decode cX9_lay 76 = .ok (.aaload, 1) := by decide +kernel
theorem dX9_lay_77 : decode cX9_lay 77 = .ok (.astore 4, 2) := by decide +kernel
theorem dX9_lay_79 : decode cX9_lay 79 = .ok (.aload 4, 2) := by decide +kernel
theorem dX9_lay_81 : decode cX9_lay 81 = .ok (.getfield 290, 3) := by decide +kernel
theorem dX9_lay_84 : decode cX9_lay 84 = .ok (.istore 5, 2) := by decide +kernel
theorem dX9_lay_86 : decode cX9_lay 86 = .ok (.aload 4, 2) := by decide +kernel
theorem dX9_lay_88 : decode cX9_lay 88 = .ok (.iload_n 2, 1) := by decide +kernel
theorem dX9_lay_89 : decode cX9_lay 89 = .ok (.putfield 290, 3) := by decide +kernel
theorem dX9_lay_92 : decode cX9_lay 92 = .ok (.iload_n 2, 1) := by decide +kernel
theorem dX9_lay_93 : decode cX9_lay 93 = .ok (.iconst 1, 1) := by decide +kernel
theorem dX9_lay_94 : decode cX9_lay 94 = .ok (.if_icmp .ne 23, 3) := by decide +kernel
theorem dX9_lay_97 : decode cX9_lay 97 = .ok (.aload 4, 2) := by decide +kernel
theorem dX9_lay_99 : decode cX9_lay 99 = .ok (.getfield 293, 3) := by decide +kernel
theorem dX9_lay_102 : decode cX9_lay 102 = .ok (.aload_n 0, 1) := by decide +kernel
theorem dX9_lay_103 : decode cX9_lay 103 = .ok (.getfield 10, 3) := by decide +kernel
theorem dX9_lay_106 : decode cX9_lay 106 = .ok (.getfield 74, 3) := by decide +kernel
theorem dX9_lay_109 : decode cX9_lay 109 = .ok (.iload_n 3, 1) := by decide +kernel
theorem dX9_lay_110 : decode cX9_lay 110 = .ok (.aaload, 1) := by decide +kernel
theorem dX9_lay_111 : decode cX9_lay 111 = .ok (.invokevirtual 297, 3) := by decide +kernel
theorem dX9_lay_114 : decode cX9_lay 114 = .ok (.goto 31, 3) := by decide +kernel
theorem dX9_lay_117 : decode cX9_lay 117 = .ok (.iload_n 2, 1) := by decide +kernel
theorem dX9_lay_118 : decode cX9_lay 118 = .ok (.iconst 2, 1) := by decide +kernel
theorem dX9_lay_119 : decode cX9_lay 119 = .ok (.if_icmp .ne 20, 3) := by decide +kernel
theorem dX9_lay_122 : decode cX9_lay 122 = .ok (.aload 4, 2) := by decide +kernel
theorem dX9_lay_124 : decode cX9_lay 124 = .ok (.getfield 300, 3) := by decide +kernel
theorem dX9_lay_127 : decode cX9_lay 127 = .ok (.aload_n 0, 1) := by decide +kernel
theorem dX9_lay_128 : decode cX9_lay 128 = .ok (.getfield 45, 3) := by decide +kernel
theorem dX9_lay_131 : decode cX9_lay 131 = .ok (.iload_n 3, 1) := by decide +kernel
theorem dX9_lay_132 : decode cX9_lay 132 = .ok (.aaload, 1) := by decide +kernel
theorem dX9_lay_133 : decode cX9_lay 133 = .ok (.invokevirtual 304, 3) := by decide +kernel
theorem dX9_lay_136 : decode cX9_lay 136 = .ok (.goto 9, 3) := by decide +kernel
theorem dX9_lay_139 : decode cX9_lay 139 = .ok (.aload 4, 2) := by decide +kernel
theorem dX9_lay_141 : decode cX9_lay 141 = .ok (.iload_n 3, 1) := by decide +kernel
theorem dX9_lay_142 : decode cX9_lay 142 = .ok (.putfield 307, 3) := by decide +kernel
theorem dX9_lay_145 : decode cX9_lay 145 = .ok (.iload 5, 2) := by decide +kernel
theorem dX9_lay_147 : decode cX9_lay 147 = .ok (.ireturn, 1) := by decide +kernel
theorem dX9_ask_0 : decode cX9_ask 0 = .ok (.iload_n 1, 1) := by decide +kernel
theorem dX9_ask_1 : decode cX9_ask 1 = .ok (.iconst 4, 1) := by decide +kernel
theorem dX9_ask_2 : decode cX9_ask 2 = .ok (.invokestatic 61, 3) := by decide +kernel
theorem dX9_ask_5 : decode cX9_ask 5 = .ok (.ifCond .eq 11, 3) := by decide +kernel
theorem dX9_ask_8 : decode cX9_ask 8 = .ok (.iload_n 2, 1) := by decide +kernel
theorem dX9_ask_9 : decode cX9_ask 9 = .ok (.iconst 5, 1) := by decide +kernel
theorem dX9_ask_10 : decode cX9_ask 10 = .ok (.invokestatic 61, 3) := by decide +kernel
theorem dX9_ask_13 : decode cX9_ask 13 = .ok (.ifCond .ne 6, 3) := by decide +kernel
theorem dX9_ask_16 : decode cX9_ask 16 = .ok (.ldc 65, 2) := by decide +kernel
theorem dX9_ask_18 : decode cX9_ask 18 = .ok (.ireturn, 1) := by decide +kernel
theorem dX9_ask_19 : decode cX9_ask 19 = .ok (.aload_n 0, 1) := by decide +kernel
theorem dX9_ask_20 : decode cX9_ask 20 = .ok (.getfield 51, 3) := by decide +kernel
theorem dX9_ask_23 : decode cX9_ask 23 = .ok (.iload_n 1, 1) := by decide +kernel
theorem dX9_ask_24 : decode cX9_ask 24 = .ok (.aaload, 1) := by decide +kernel
theorem dX9_ask_25 : decode cX9_ask 25 = .ok (.astore_n 3, 1) := by decide +kernel
theorem dX9_ask_26 : decode cX9_ask 26 = .ok (.aload_n 3, 1) := by decide +kernel
theorem dX9_ask_27 : decode cX9_ask 27 = .ok (.getfield 290, 3) := by decide +kernel
theorem dX9_ask_30 : decode cX9_ask 30 = .ok (.ifCond .ne 6, 3) := by decide +kernel
theorem dX9_ask_33 : decode cX9_ask 33 = .ok (.ldc 203, 2) := by decide +kernel
theorem dX9_ask_35 : decode cX9_ask 35 = .ok (.ireturn, 1) := by decide +kernel
theorem dX9_ask_36 : decode cX9_ask 36 = .ok (.aload_n 3, 1) := by decide +kernel
theorem dX9_ask_37 : decode cX9_ask 37 = .ok (.getfield 290, 3) := by decide +kernel
theorem dX9_ask_40 : decode cX9_ask 40 = .ok (.iconst 1, 1) := by decide +kernel
theorem dX9_ask_41 : decode cX9_ask 41 = .ok (.if_icmp .ne 24, 3) := by decide +kernel
theorem dX9_ask_44 : decode cX9_ask 44 = .ok (.aload_n 3, 1) := by decide +kernel
theorem dX9_ask_45 : decode cX9_ask 45 = .ok (.getfield 293, 3) := by decide +kernel
theorem dX9_ask_48 : decode cX9_ask 48 = .ok (.iload_n 2, 1) := by decide +kernel
theorem dX9_ask_49 : decode cX9_ask 49 = .ok (.invokevirtual 103, 3) := by decide +kernel
theorem dX9_ask_52 : decode cX9_ask 52 = .ok (.ifCond .eq 13, 3) := by decide +kernel
theorem dX9_ask_55 : decode cX9_ask 55 = .ok (.aload_n 3, 1) := by decide +kernel
theorem dX9_ask_56 : decode cX9_ask 56 = .ok (.getfield 293, 3) := by decide +kernel
theorem dX9_ask_59 : decode cX9_ask 59 = .ok (.invokevirtual 93, 3) := by decide +kernel
theorem dX9_ask_62 : decode cX9_ask 62 = .ok (.goto 5, 3) := by decide +kernel
theorem dX9_ask_65 : decode cX9_ask 65 = .ok (.ldc 106, 2) := by decide +kernel
theorem dX9_ask_67 : decode cX9_ask 67 = .ok (.ireturn, 1) := by decide +kernel
theorem dX9_item_0 : decode cX9_item 0 = .ok (.iload_n 1, 1) := by decide +kernel
theorem dX9_item_1 : decode cX9_item 1 = .ok (.iconst 4, 1) := by decide +kernel
theorem dX9_item_2 : decode cX9_item 2 = .ok (.invokestatic 61, 3) := by decide +kernel
theorem dX9_item_5 : decode cX9_item 5 = .ok (.ifCond .ne 6, 3) := by decide +kernel
theorem dX9_item_8 : decode cX9_item 8 = .ok (.ldc 65, 2) := by decide +kernel
theorem dX9_item_10 : decode cX9_item 10 = .ok (.ireturn, 1) := by decide +kernel
theorem dX9_item_11 : decode cX9_item 11 = .ok (.aload_n 0, 1) := by decide +kernel
theorem dX9_item_12 : decode cX9_item 12 = .ok (.getfield 51, 3) := by decide +kernel
theorem dX9_item_15 : decode cX9_item 15 = .ok (.iload_n 1, 1) := by decide +kernel
theorem dX9_item_16 : decode cX9_item 16 = .ok (.aaload, 1) := by decide +kernel
theorem dX9_item_17 : decode cX9_item 17 = .ok (.astore_n 3, 1) := by decide +kernel
theorem dX9_item_18 : decode cX9_item 18 = .ok (.aload_n 3, 1) := by decide +kernel
theorem dX9_item_19 : decode cX9_item 19 = .ok (.getfield 290, 3) := by decide +kernel
theorem dX9_item_22 : decode cX9_item 22 = .ok (.ifCond .ne 6, 3) := by decide +kernel
theorem dX9_item_25 : decode cX9_item 25 = .ok (.ldc 203, 2) := by decide +kernel
theorem dX9_item_27 : decode cX9_item 27 = .ok (.ireturn, 1) := by decide +kernel
theorem dX9_item_28 : decode cX9_item 28 = .ok (.aload_n 3, 1) := by decide +kernel
theorem dX9_item_29 : decode cX9_item 29 = .ok (.getfield 290, 3) := by decide +kernel
theorem dX9_item_32 : decode cX9_item 32 = .ok (.iconst 2, 1) := by decide +kernel
theorem dX9_item_33 : decode cX9_item 33 = .ok (.if_icmp .eq 6, 3) := by decide +kernel
theorem dX9_item_36 : decode cX9_item 36 = .ok (.ldc 106, 2) := by decide +kernel
theorem dX9_item_38 : decode cX9_item 38 = .ok (.ireturn, 1) := by decide +kernel
theorem dX9_item_39 : decode cX9_item 39 = .ok (.aload_n 3, 1) := by decide +kernel
theorem dX9_item_40 : decode cX9_item 40 = .ok (.getfield 300, 3) := by decide +kernel
theorem dX9_item_43 : decode cX9_item 43 = .ok (.iload_n 2, 1) := by decide +kernel
theorem dX9_item_44 : decode cX9_item 44 = .ok (.invokevirtual 262, 3) := by decide +kernel
theorem dX9_item_47 : decode cX9_item 47 = .ok (.ifCond .ne 7, 3) := by decide +kernel
theorem dX9_item_50 : decode cX9_item 50 = .ok (.ldc_w 265, 3) := by decide +kernel
theorem dX9_item_53 : decode cX9_item 53 = .ok (.ireturn, 1) := by decide +kernel
theorem dX9_item_54 : decode cX9_item 54 = .ok (.aload_n 3, 1) := by decide +kernel
theorem dX9_item_55 : decode cX9_item 55 = .ok (.getfield 300, 3) := by decide +kernel
theorem dX9_item_58 : decode cX9_item 58 = .ok (.getfield 269, 3) := by decide +kernel
theorem dX9_item_61 : decode cX9_item 61 = .ok (.iload_n 2, 1) := by decide +kernel
theorem dX9_item_62 : decode cX9_item 62 = .ok (.iaload, 1) := by decide +kernel
theorem dX9_item_63 : decode cX9_item 63 = .ok (.istore 4, 2) := by decide +kernel
theorem dX9_item_65 : decode cX9_item 65 = .ok (.iload 4, 2) := by decide +kernel
theorem dX9_item_67 : decode cX9_item 67 = .ok (.ldc 107, 2) := by decide +kernel
theorem dX9_item_69 : decode cX9_item 69 = .ok (.if_icmp .ne 8, 3) := by decide +kernel
theorem dX9_item_72 : decode cX9_item 72 = .ok (.ldc 106, 2) := by decide +kernel
theorem dX9_item_74 : decode cX9_item 74 = .ok (.goto 5, 3) := by decide +kernel
theorem dX9_item_77 : decode cX9_item 77 = .ok (.iload 4, 2) := by decide +kernel
theorem dX9_item_79 : decode cX9_item 79 = .ok (.ireturn, 1) := by decide +kernel
theorem dX9_rest_0 : decode cX9_rest 0 = .ok (.iload_n 1, 1) := by decide +kernel
theorem dX9_rest_1 : decode cX9_rest 1 = .ok (.iconst 4, 1) := by decide +kernel
theorem dX9_rest_2 : decode cX9_rest 2 = .ok (.invokestatic 61, 3) := by decide +kernel
theorem dX9_rest_5 : decode cX9_rest 5 = .ok (.ifCond .ne 6, 3) := by decide +kernel
theorem dX9_rest_8 : decode cX9_rest 8 = .ok (.ldc 65, 2) := by decide +kernel
theorem dX9_rest_10 : decode cX9_rest 10 = .ok (.ireturn, 1) := by decide +kernel
theorem dX9_rest_11 : decode cX9_rest 11 = .ok (.aload_n 0, 1) := by decide +kernel
theorem dX9_rest_12 : decode cX9_rest 12 = .ok (.getfield 51, 3) := by decide +kernel
theorem dX9_rest_15 : decode cX9_rest 15 = .ok (.iload_n 1, 1) := by decide +kernel
theorem dX9_rest_16 : decode cX9_rest 16 = .ok (.aaload, 1) := by decide +kernel
theorem dX9_rest_17 : decode cX9_rest 17 = .ok (.astore_n 3, 1) := by decide +kernel
theorem dX9_rest_18 : decode cX9_rest 18 = .ok (.aload_n 3, 1) := by decide +kernel
theorem dX9_rest_19 : decode cX9_rest 19 = .ok (.getfield 290, 3) := by decide +kernel
theorem dX9_rest_22 : decode cX9_rest 22 = .ok (.ifCond .ne 6, 3) := by decide +kernel
theorem dX9_rest_25 : decode cX9_rest 25 = .ok (.ldc 203, 2) := by decide +kernel
theorem dX9_rest_27 : decode cX9_rest 27 = .ok (.ireturn, 1) := by decide +kernel
theorem dX9_rest_28 : decode cX9_rest 28 = .ok (.aload_n 3, 1) := by decide +kernel
theorem dX9_rest_29 : decode cX9_rest 29 = .ok (.getfield 290, 3) := by decide +kernel
theorem dX9_rest_32 : decode cX9_rest 32 = .ok (.iconst 3, 1) := by decide +kernel
theorem dX9_rest_33 : decode cX9_rest 33 = .ok (.if_icmp .eq 6, 3) := by decide +kernel
theorem dX9_rest_36 : decode cX9_rest 36 = .ok (.ldc 106, 2) := by decide +kernel
theorem dX9_rest_38 : decode cX9_rest 38 = .ok (.ireturn, 1) := by decide +kernel
theorem dX9_rest_39 : decode cX9_rest 39 = .ok (.iload_n 2, 1) := by decide +kernel
theorem dX9_rest_40 : decode cX9_rest 40 = .ok (.ifCond .ne 9, 3) := by decide +kernel
theorem dX9_rest_43 : decode cX9_rest 43 = .ok (.ldc_w 310, 3) := by decide +kernel
theorem dX9_rest_46 : decode cX9_rest 46 = .ok (.goto 9, 3) := by decide +kernel
theorem dX9_rest_49 : decode cX9_rest 49 = .ok (.aload_n 3, 1) := by decide +kernel
theorem dX9_rest_50 : decode cX9_rest 50 = .ok (.getfield 307, 3) := by decide +kernel
theorem dX9_rest_53 : decode cX9_rest 53 = .ok (.iload_n 2, 1) := by decide +kernel
theorem dX9_rest_54 : decode cX9_rest 54 = .ok (.irem, 1) := by decide +kernel
theorem dX9_rest_55 : decode cX9_rest 55 = .ok (.ireturn, 1) := by decide +kernel
theorem dX9_tell_0 : decode cX9_tell 0 = .ok (.aload_n 0, 1) := by decide +kernel
theorem dX9_tell_1 : decode cX9_tell 1 = .ok (.getfield 311, 3) := by decide +kernel
theorem dX9_tell_4 : decode cX9_tell 4 = .ok (.bipush 60, 2) := by decide +kernel
theorem dX9_tell_6 : decode cX9_tell 6 = .ok (.if_icmp .lt 6, 3) := by decide +kernel
theorem dX9_tell_9 : decode cX9_tell 9 = .ok (.ldc 227, 2) := by decide +kernel
theorem dX9_tell_11 : decode cX9_tell 11 = .ok (.ireturn, 1) := by decide +kernel
theorem dX9_tell_12 : decode cX9_tell 12 = .ok (.aload_n 0, 1) := by decide +kernel
theorem dX9_tell_13 : decode cX9_tell 13 = .ok (.getfield 55, 3) := by decide +kernel
theorem dX9_tell_16 : decode cX9_tell 16 = .ok (.aload_n 0, 1) := by decide +kernel
theorem dX9_tell_17 : decode cX9_tell 17 = .ok (.getfield 311, 3) := by decide +kernel
theorem dX9_tell_20 : decode cX9_tell 20 = .ok (.iload_n 1, 1) := by decide +kernel
theorem dX9_tell_21 : decode cX9_tell 21 = .ok (.iastore, 1) := by decide +kernel
theorem dX9_tell_22 : decode cX9_tell 22 = .ok (.aload_n 0, 1) := by decide +kernel
theorem dX9_tell_23 : decode cX9_tell 23 = .ok (.dup, 1) := by decide +kernel
theorem dX9_tell_24 : decode cX9_tell 24 = .ok (.getfield 311, 3) := by decide +kernel
theorem dX9_tell_27 : decode cX9_tell 27 = .ok (.iconst 1, 1) := by decide +kernel
theorem dX9_tell_28 : decode cX9_tell 28 = .ok (.iadd, 1) := by decide +kernel
theorem dX9_tell_29 : decode cX9_tell 29 = .ok (.putfield 311, 3) := by decide +kernel
theorem dX9_tell_32 : decode cX9_tell 32 = .ok (.aload_n 0, 1) := by decide +kernel
theorem dX9_tell_33 : decode cX9_tell 33 = .ok (.getfield 311, 3) := by decide +kernel
theorem dX9_tell_36 : decode cX9_tell 36 = .ok (.ireturn, 1) := by decide +kernel
theorem dX9_check_0 : decode cX9_check 0 = .ok (.aload_n 0, 1) := by decide +kernel
theorem dX9_check_1 : decode cX9_check 1 = .ok (.getfield 311, 3) := by decide +kernel
theorem dX9_check_4 : decode cX9_check 4 = .ok (.istore_n 2, 1) := by decide +kernel
theorem dX9_check_5 : decode cX9_check 5 = .ok (.aload_n 0, 1) := by decide +kernel
theorem dX9_check_6 : decode cX9_check 6 = .ok (.iconst 0, 1) := by decide +kernel
theorem dX9_check_7 : decode cX9_check 7 = .ok (.putfield 311, 3) := by decide +kernel
theorem dX9_check_10 : decode cX9_check 10 = .ok (.iload_n 1, 1) := by decide +kernel
theorem dX9_check_11 : decode cX9_check 11 = .ok (.iconst 1, 1) := by decide +kernel
theorem dX9_check_12 : decode cX9_check 12 = .ok (.if_icmp .lt 9, 3) := by decide +kernel
theorem dX9_check_15 : decode cX9_check 15 = .ok (.iload_n 1, 1) := by decide +kernel
theorem dX9_check_16 : decode cX9_check 16 = .ok (.bipush 30, 2) := by decide +kernel
theorem dX9_check_18 : decode cX9_check 18 = .ok (.if_icmp .le 6, 3) := by decide +kernel
theorem dX9_check_21 : decode cX9_check 21 = .ok (.ldc 65, 2) := by decide +kernel
theorem dX9_check_23 : decode cX9_check 23 = .ok (.ireturn, 1) := by decide +kernel
theorem dX9_check_24 : decode cX9_check 24 = .ok (.aload_n 0, 1) := by decide +kernel
theorem dX9_check_25 : decode cX9_check 25 = .ok (.getfield 314, 3) := by decide +kernel
theorem dX9_check_28 : decode cX9_check 28 = .ok (.ifCond .ne 7, 3) := by decide +kernel
theorem dX9_check_31 : decode cX9_check 31 = .ok (.ldc_w 310, 3) := by decide +kernel
theorem dX9_check_34 : decode cX9_check 34 = .ok (.ireturn, 1) := by decide +kernel
theorem dX9_check_35 : decode cX9_check 35 = .ok (.iload_n 1, 1) := by decide +kernel
theorem dX9_check_36 : decode cX9_check 36 = .ok (.sipush 999, 3) := by decide +kernel
theorem dX9_check_39 : decode cX9_check 39 = .ok (.aload_n 0, 1) := by decide +kernel
theorem dX9_check_40 : decode cX9_check 40 = .ok (.getfield 16, 3) := by decide +kernel
theorem dX9_check_43 : decode cX9_check 43 = .ok (.getfield 169, 3) := by decide +kernel
theorem dX9_check_46 : decode cX9_check 46 = .ok (.isub, 1) := by decide +kernel
theorem dX9_check_47 : decode cX9_check 47 = .ok (.invokestatic 147, 3) := by decide +kernel
theorem dX9_check_50 : decode cX9_check 50 = .ok (.istore_n 3, 1) := by decide +kernel
theorem dX9_check_51 : decode cX9_check 51 = .ok (.aload_n 0, 1) := by decide +kernel
theorem dX9_check_52 : decode cX9_check 52 = .ok (.getfield 19, 3) := by decide +kernel
theorem dX9_check_55 : decode cX9_check 55 = .ok (.aload_n 0, 1) := by decide +kernel
theorem dX9_check_56 : decode cX9_check 56 = .ok (.getfield 16, 3) := by decide +kernel
theorem dX9_check_59 : decode cX9_check 59 = .ok (.invokevirtual 183, 3) := by decide +kernel
theorem dX9_check_62 : decode cX9_check 62 = .ok (.aload_n 0, 1) := by decide +kernel
theorem dX9_check_63 : decode cX9_check 63 = .ok (.getfield 25, 3) := by decide +kernel
theorem dX9_check_66 : decode cX9_check 66 = .ok (.aload_n 0, 1) := by decide +kernel
theorem dX9_check_67 : decode cX9_check 67 = .ok (.getfield 19, 3) := by decide +kernel
theorem dX9_check_70 : decode cX9_check 70 = .ok (.invokevirtual 175, 3) := by decide +kernel
theorem dX9_check_73 : decode cX9_check 73 = .ok (.iconst 0, 1) := by decide +kernel
theorem dX9_check_74 : decode cX9_check 74 = .ok (.istore 4, 2) := by decide +kernel
theorem dX9_check_76 : decode cX9_check 76 = .ok (.iload 4, 2) := by decide +kernel
theorem dX9_check_78 : decode cX9_check 78 = .ok (.iload_n 3, 1) := by decide +kernel
theorem dX9_check_79 : decode cX9_check 79 = .ok (.if_icmp .ge 91, 3) := by decide +kernel
theorem dX9_check_82 : decode cX9_check 82 = .ok (.aload_n 0, 1) := by decide +kernel
theorem dX9_check_83 : decode cX9_check 83 = .ok (.getfield 19, 3) := by decide +kernel
theorem dX9_check_86 : decode cX9_check 86 = .ok (.aload_n 0, 1) := by decide +kernel
theorem dX9_check_87 : decode cX9_check 87 = .ok (.getfield 25, 3) := by decide +kernel
theorem dX9_check_90 : decode cX9_check 90 = .ok (.invokevirtual 179, 3) := by decide +kernel
theorem dX9_check_93 : decode cX9_check 93 = .ok (.aload_n 0, 1) := by decide +kernel
theorem dX9_check_94 : decode cX9_check 94 = .ok (.getfield 25, 3) := by decide +kernel
theorem dX9_check_97 : decode cX9_check 97 = .ok (.aload_n 0, 1) := by decide +kernel
theorem dX9_check_98 : decode cX9_check 98 = .ok (.getfield 19, 3) := by decide +kernel
theorem dX9_check_101 : decode cX9_check 101 = .ok (.ldc 107, 2) := by decide +kernel
theorem dX9_check_103 : decode cX9_check 103 = .ok (.invokevirtual 190, 3) := by decide +kernel
theorem dX9_check_106 : decode cX9_check 106 = .ok (.aload_n 0, 1) := by decide +kernel
theorem dX9_check_107 : decode cX9_check 107 = .ok (.iconst 2, 1) := by decide +kernel
theorem dX9_check_108 : decode cX9_check 108 = .ok (.iload 4, 2) := by decide +kernel
theorem dX9_check_110 : decode cX9_check 110 = .ok (.imul, 1) := by decide +kernel
theorem dX9_check_111 : decode cX9_check 111 = .ok (.iload_n 2, 1) := by decide +kernel
theorem dX9_check_112 : decode cX9_check 112 = .ok (.aload_n 0, 1) := by decide +kernel
theorem dX9_check_113 : decode cX9_check 113 = .ok (.getfield 25, 3) := by decide +kernel
theorem dX9_check_116 : decode cX9_check 116 = .ok (.aload_n 0, 1) := by decide +kernel
theorem dX9_check_117 : decode cX9_check 117 = .ok (.getfield 19, 3) := by decide +kernel
theorem dX9_check_120 : decode cX9_check 120 = .ok (.invokevirtual 165, 3) := by decide +kernel
theorem dX9_check_123 : decode cX9_check 123 = .ok (.invokevirtual 317, 3) := by decide +kernel
theorem dX9_check_126 : decode cX9_check 126 = .ok (.ifCond .ne 10, 3) := by decide +kernel
theorem dX9_check_129 : decode cX9_check 129 = .ok (.iconst 1, 1) := by decide +kernel
theorem dX9_check_130 : decode cX9_check 130 = .ok (.iconst 2, 1) := by decide +kernel
theorem dX9_check_131 : decode cX9_check 131 = .ok (.iload 4, 2) := by decide +kernel
theorem dX9_check_133 : decode cX9_check 133 = .ok (.imul, 1) := by decide +kernel
theorem dX9_check_134 : decode cX9_check 134 = .ok (.iadd, 1) := by decide +kernel
theorem dX9_check_135 : decode cX9_check 135 = .ok (.ireturn, 1) := by decide +kernel
theorem dX9_check_136 : decode cX9_check 136 = .ok (.aload_n 0, 1) := by decide +kernel
theorem dX9_check_137 : decode cX9_check 137 = .ok (.iconst 2, 1) := by decide +kernel
theorem dX9_check_138 : decode cX9_check 138 = .ok (.iload 4, 2) := by decide +kernel
theorem dX9_check_140 : decode cX9_check 140 = .ok (.imul, 1) := by decide +kernel
theorem dX9_check_141 : decode cX9_check 141 = .ok (.iconst 1, 1) := by decide +kernel
theorem dX9_check_142 : decode cX9_check 142 = .ok (.iadd, 1) := by decide +kernel
theorem dX9_check_143 : decode cX9_check 143 = .ok (.iload_n 2, 1) := by decide +kernel
theorem dX9_check_144 : decode cX9_check 144 = .ok (.aload_n 0, 1) := by decide +kernel
theorem dX9_check_145 : decode cX9_check 145 = .ok (.getfield 19, 3) := by decide +kernel
theorem dX9_check_148 : decode cX9_check 148 = .ok (.invokevirtual 193, 3) := by decide +kernel
theorem dX9_check_151 : decode cX9_check 151 = .ok (.invokevirtual 317, 3) := by decide +kernel
theorem dX9_check_154 : decode cX9_check 154 = .ok (.ifCond .ne 10, 3) := by decide +kernel
theorem dX9_check_157 : decode cX9_check 157 = .ok (.iconst 2, 1) := by decide +kernel
theorem dX9_check_158 : decode cX9_check 158 = .ok (.iconst 2, 1) := by decide +kernel
theorem dX9_check_159 : decode cX9_check 159 = .ok (.iload 4, 2) := by decide +kernel
theorem dX9_check_161 : decode cX9_check 161 = .ok (.imul, 1) := by decide +kernel
theorem dX9_check_162 : decode cX9_check 162 = .ok (.iadd, 1) := by decide +kernel
theorem dX9_check_163 : decode cX9_check 163 = .ok (.ireturn, 1) := by decide +kernel
theorem dX9_check_164 : decode cX9_check 164 = .ok (.iinc 4 1, 3) := by decide +kernel
theorem dX9_check_167 : decode cX9_check 167 = .ok (.goto (-91), 3) := by decide +kernel
theorem dX9_check_170 : decode cX9_check 170 = .ok (.iload_n 2, 1) := by decide +kernel
theorem dX9_check_171 : decode cX9_check 171 = .ok (.iconst 2, 1) := by decide +kernel
theorem dX9_check_172 : decode cX9_check 172 = .ok (.iload_n 3, 1) := by decide +kernel
theorem dX9_check_173 : decode cX9_check 173 = .ok (.imul, 1) := by decide +kernel
theorem dX9_check_174 : decode cX9_check 174 = .ok (.if_icmp .le 11, 3) := by decide +kernel
theorem dX9_check_177 : decode cX9_check 177 = .ok (.iconst 1, 1) := by decide +kernel
theorem dX9_check_178 : decode cX9_check 178 = .ok (.iconst 2, 1) := by decide +kernel
theorem dX9_check_179 : decode cX9_check 179 = .ok (.iload_n 3, 1) := by decide +kernel
theorem dX9_check_180 : decode cX9_check 180 = .ok (.imul, 1) := by decide +kernel
theorem dX9_check_181 : decode cX9_check 181 = .ok (.iadd, 1) := by decide +kernel
theorem dX9_check_182 : decode cX9_check 182 = .ok (.goto 4, 3) := by decide +kernel
theorem dX9_check_185 : decode cX9_check 185 = .ok (.iconst 0, 1) := by decide +kernel
theorem dX9_check_186 : decode cX9_check 186 = .ok (.ireturn, 1) := by decide +kernel
theorem dX9_keep_0 : decode cX9_keep 0 = .ok (.aload_n 0, 1) := by decide +kernel
theorem dX9_keep_1 : decode cX9_keep 1 = .ok (.getfield 16, 3) := by decide +kernel
theorem dX9_keep_4 : decode cX9_keep 4 = .ok (.aload_n 0, 1) := by decide +kernel
theorem dX9_keep_5 : decode cX9_keep 5 = .ok (.getfield 10, 3) := by decide +kernel
theorem dX9_keep_8 : decode cX9_keep 8 = .ok (.invokevirtual 183, 3) := by decide +kernel
theorem dX9_keep_11 : decode cX9_keep 11 = .ok (.aload_n 0, 1) := by decide +kernel
theorem dX9_keep_12 : decode cX9_keep 12 = .ok (.iconst 1, 1) := by decide +kernel
theorem dX9_keep_13 : decode cX9_keep 13 = .ok (.putfield 314, 3) := by decide +kernel
theorem dX9_keep_16 : decode cX9_keep 16 = .ok (.aload_n 0, 1) := by decide +kernel
theorem dX9_keep_17 : decode cX9_keep 17 = .ok (.getfield 16, 3) := by decide +kernel
theorem dX9_keep_20 : decode cX9_keep 20 = .ok (.getfield 144, 3) := by decide +kernel
theorem dX9_keep_23 : decode cX9_keep 23 = .ok (.ireturn, 1) := by decide +kernel
theorem dX9_back_0 : decode cX9_back 0 = .ok (.aload_n 0, 1) := by decide +kernel
theorem dX9_back_1 : decode cX9_back 1 = .ok (.getfield 314, 3) := by decide +kernel
theorem dX9_back_4 : decode cX9_back 4 = .ok (.ifCond .ne 7, 3) := by decide +kernel
theorem dX9_back_7 : decode cX9_back 7 = .ok (.ldc_w 310, 3) := by decide +kernel
theorem dX9_back_10 : decode cX9_back 10 = .ok (.ireturn, 1) := by decide +kernel
theorem dX9_back_11 : decode cX9_back 11 = .ok (.aload_n 0, 1) := by decide +kernel
theorem dX9_back_12 : decode cX9_back 12 = .ok (.getfield 10, 3) := by decide +kernel
theorem dX9_back_15 : decode cX9_back 15 = .ok (.aload_n 0, 1) := by decide +kernel
theorem dX9_back_16 : decode cX9_back 16 = .ok (.getfield 16, 3) := by decide +kernel
theorem dX9_back_19 : decode cX9_back 19 = .ok (.invokevirtual 183, 3) := by decide +kernel
theorem dX9_back_22 : decode cX9_back 22 = .ok (.aload_n 0, 1) := by decide +kernel
theorem dX9_back_23 : decode cX9_back 23 = .ok (.getfield 10, 3) := by decide +kernel
theorem dX9_back_26 : decode cX9_back 26 = .ok (.getfield 144, 3) := by decide +kernel
theorem dX9_back_29 : decode cX9_back 29 = .ok (.ireturn, 1) := by decide +kernel
theorem dX9_count_0 : decode cX9_count 0 = .ok (.iload_n 1, 1) := by decide +kernel
theorem dX9_count_1 : decode cX9_count 1 = .ok (.tableswitch 170 0 11 #[63, 71, 79, 87, 95, 105, 115, 125, 141, 149, 154, 162], 63) := by decide +kernel
theorem dX9_count_64 : decode cX9_count 64 = .ok (.aload_n 0, 1) := by decide +kernel
theorem dX9_count_65 : decode cX9_count 65 = .ok (.getfield 10, 3) := by decide +kernel
theorem dX9_count_68 : decode cX9_count 68 = .ok (.getfield 144, 3) := by decide +kernel
theorem dX9_count_71 : decode cX9_count 71 = .ok (.ireturn, 1) := by decide +kernel
theorem dX9_count_72 : decode cX9_count 72 = .ok (.aload_n 0, 1) := by decide +kernel
theorem dX9_count_73 : decode cX9_count 73 = .ok (.getfield 10, 3) := by decide +kernel
theorem dX9_count_76 : decode cX9_count 76 = .ok (.getfield 172, 3) := by decide +kernel
theorem dX9_count_79 : decode cX9_count 79 = .ok (.ireturn, 1) := by decide +kernel
theorem dX9_count_80 : decode cX9_count 80 = .ok (.aload_n 0, 1) := by decide +kernel
theorem dX9_count_81 : decode cX9_count 81 = .ok (.getfield 10, 3) := by decide +kernel
theorem dX9_count_84 : decode cX9_count 84 = .ok (.invokevirtual 193, 3) := by decide +kernel
theorem dX9_count_87 : decode cX9_count 87 = .ok (.ireturn, 1) := by decide +kernel
theorem dX9_count_88 : decode cX9_count 88 = .ok (.aload_n 0, 1) := by decide +kernel
theorem dX9_count_89 : decode cX9_count 89 = .ok (.getfield 10, 3) := by decide +kernel
theorem dX9_count_92 : decode cX9_count 92 = .ok (.getfield 169, 3) := by decide +kernel
theorem dX9_count_95 : decode cX9_count 95 = .ok (.ireturn, 1) := by decide +kernel
theorem dX9_count_96 : decode cX9_count 96 = .ok (.aload_n 0, 1) := by decide +kernel
theorem dX9_count_97 : decode cX9_count 97 = .ok (.getfield 10, 3) := by decide +kernel
theorem dX9_count_100 : decode cX9_count 100 = .ok (.getfield 141, 3) := by decide +kernel
theorem dX9_count_103 : decode cX9_count 103 = .ok (.iconst 0, 1) := by decide +kernel
theorem dX9_count_104 : decode cX9_count 104 = .ok (.iaload, 1) := by decide +kernel
theorem dX9_count_105 : decode cX9_count 105 = .ok (.ireturn, 1) := by decide +kernel
theorem dX9_count_106 : decode cX9_count 106 = .ok (.aload_n 0, 1) := by decide +kernel
theorem dX9_count_107 : decode cX9_count 107 = .ok (.getfield 10, 3) := by decide +kernel
theorem dX9_count_110 : decode cX9_count 110 = .ok (.getfield 141, 3) := by decide +kernel
theorem dX9_count_113 : decode cX9_count 113 = .ok (.iconst 1, 1) := by decide +kernel
theorem dX9_count_114 : decode cX9_count 114 = .ok (.iaload, 1) := by decide +kernel
theorem dX9_count_115 : decode cX9_count 115 = .ok (.ireturn, 1) := by decide +kernel
theorem dX9_count_116 : decode cX9_count 116 = .ok (.aload_n 0, 1) := by decide +kernel
theorem dX9_count_117 : decode cX9_count 117 = .ok (.getfield 10, 3) := by decide +kernel
theorem dX9_count_120 : decode cX9_count 120 = .ok (.getfield 141, 3) := by decide +kernel
theorem dX9_count_123 : decode cX9_count 123 = .ok (.iconst 2, 1) := by decide +kernel
theorem dX9_count_124 : decode cX9_count 124 = .ok (.iaload, 1) := by decide +kernel
theorem dX9_count_125 : decode cX9_count 125 = .ok (.ireturn, 1) := by decide +kernel
theorem dX9_count_126 : decode cX9_count 126 = .ok (.aload_n 0, 1) := by decide +kernel
theorem dX9_count_127 : decode cX9_count 127 = .ok (.invokevirtual 97, 3) := by decide +kernel
theorem dX9_count_130 : decode cX9_count 130 = .ok (.aload_n 0, 1) := by decide +kernel
theorem dX9_count_131 : decode cX9_count 131 = .ok (.getfield 25, 3) := by decide +kernel
theorem dX9_count_134 : decode cX9_count 134 = .ok (.aload_n 0, 1) := by decide +kernel
theorem dX9_count_135 : decode cX9_count 135 = .ok (.getfield 10, 3) := by decide +kernel
theorem dX9_count_138 : decode cX9_count 138 = .ok (.invokevirtual 321, 3) := by decide +kernel
theorem dX9_count_141 : decode cX9_count 141 = .ok (.ireturn, 1) := by decide +kernel
theorem dX9_count_142 : decode cX9_count 142 = .ok (.aload_n 0, 1) := by decide +kernel
theorem dX9_count_143 : decode cX9_count 143 = .ok (.getfield 10, 3) := by decide +kernel
theorem dX9_count_146 : decode cX9_count 146 = .ok (.getfield 236, 3) := by decide +kernel
theorem dX9_count_149 : decode cX9_count 149 = .ok (.ireturn, 1) := by decide +kernel
theorem dX9_count_150 : decode cX9_count 150 = .ok (.aload_n 0, 1) := by decide +kernel
theorem dX9_count_151 : decode cX9_count 151 = .ok (.getfield 311, 3) := by decide +kernel
theorem dX9_count_154 : decode cX9_count 154 = .ok (.ireturn, 1) := by decide +kernel
theorem dX9_count_155 : decode cX9_count 155 = .ok (.aload_n 0, 1) := by decide +kernel
theorem dX9_count_156 : decode cX9_count 156 = .ok (.getfield 32, 3) := by decide +kernel
theorem dX9_count_159 : decode cX9_count 159 = .ok (.getfield 224, 3) := by decide +kernel
theorem dX9_count_162 : decode cX9_count 162 = .ok (.ireturn, 1) := by decide +kernel
theorem dX9_count_163 : decode cX9_count 163 = .ok (.aload_n 0, 1) := by decide +kernel
theorem dX9_count_164 : decode cX9_count 164 = .ok (.getfield 10, 3) := by decide +kernel
theorem dX9_count_167 : decode cX9_count 167 = .ok (.getfield 155, 3) := by decide +kernel
theorem dX9_count_170 : decode cX9_count 170 = .ok (.ireturn, 1) := by decide +kernel
theorem dX9_count_171 : decode cX9_count 171 = .ok (.ldc 65, 2) := by decide +kernel
theorem dX9_count_173 : decode cX9_count 173 = .ok (.ireturn, 1) := by decide +kernel
theorem dX9_settleNow_0 : decode cX9_settleNow 0 = .ok (.aload_n 0, 1) := by decide +kernel
theorem dX9_settleNow_1 : decode cX9_settleNow 1 = .ok (.getfield 25, 3) := by decide +kernel
theorem dX9_settleNow_4 : decode cX9_settleNow 4 = .ok (.aload_n 0, 1) := by decide +kernel
theorem dX9_settleNow_5 : decode cX9_settleNow 5 = .ok (.getfield 10, 3) := by decide +kernel
theorem dX9_settleNow_8 : decode cX9_settleNow 8 = .ok (.invokevirtual 175, 3) := by decide +kernel
theorem dX9_settleNow_11 : decode cX9_settleNow 11 = .ok (.aload_n 0, 1) := by decide +kernel
theorem dX9_settleNow_12 : decode cX9_settleNow 12 = .ok (.getfield 25, 3) := by decide +kernel
theorem dX9_settleNow_15 : decode cX9_settleNow 15 = .ok (.aload_n 0, 1) := by decide +kernel
theorem dX9_settleNow_16 : decode cX9_settleNow 16 = .ok (.getfield 10, 3) := by decide +kernel
theorem dX9_settleNow_19 : decode cX9_settleNow 19 = .ok (.ldc 107, 2) := by decide +kernel
theorem dX9_settleNow_21 : decode cX9_settleNow 21 = .ok (.invokevirtual 190, 3) := by decide +kernel
theorem dX9_settleNow_24 : decode cX9_settleNow 24 = .ok (.return_, 1) := by decide +kernel
theorem dX9_nestIs_0 : decode cX9_nestIs 0 = .ok (.aload_n 0, 1) := by decide +kernel
theorem dX9_nestIs_1 : decode cX9_nestIs 1 = .ok (.getfield 10, 3) := by decide +kernel
theorem dX9_nestIs_4 : decode cX9_nestIs 4 = .ok (.iload_n 1, 1) := by decide +kernel
theorem dX9_nestIs_5 : decode cX9_nestIs 5 = .ok (.invokevirtual 112, 3) := by decide +kernel
theorem dX9_nestIs_8 : decode cX9_nestIs 8 = .ok (.ifCond .ne 5, 3) := by decide +kernel
theorem dX9_nestIs_11 : decode cX9_nestIs 11 = .ok (.iconst 0, 1) := by decide +kernel
theorem dX9_nestIs_12 : decode cX9_nestIs 12 = .ok (.ireturn, 1) := by decide +kernel
theorem dX9_nestIs_13 : decode cX9_nestIs 13 = .ok (.aload_n 0, 1) := by decide +kernel
theorem dX9_nestIs_14 : decode cX9_nestIs 14 = .ok (.getfield 25, 3) := by decide +kernel
theorem dX9_nestIs_17 : decode cX9_nestIs 17 = .ok (.getfield 135, 3) := by decide +kernel
theorem dX9_nestIs_20 : decode cX9_nestIs 20 = .ok (.iload_n 1, 1) := by decide +kernel
theorem dX9_nestIs_21 : decode cX9_nestIs 21 = .ok (.iaload, 1) := by decide +kernel
theorem dX9_nestIs_22 : decode cX9_nestIs 22 = .ok (.istore_n 3, 1) := by decide +kernel
theorem dX9_nestIs_23 : decode cX9_nestIs 23 = .ok (.iload_n 2, 1) := by decide +kernel
theorem dX9_nestIs_24 : decode cX9_nestIs 24 = .ok (.iload_n 3, 1) := by decide +kernel
theorem dX9_nestIs_25 : decode cX9_nestIs 25 = .ok (.ldc 107, 2) := by decide +kernel
theorem dX9_nestIs_27 : decode cX9_nestIs 27 = .ok (.if_icmp .ne 7, 3) := by decide +kernel
theorem dX9_nestIs_30 : decode cX9_nestIs 30 = .ok (.iconst (-1), 1) := by decide +kernel
theorem dX9_nestIs_31 : decode cX9_nestIs 31 = .ok (.goto 4, 3) := by decide +kernel
theorem dX9_nestIs_34 : decode cX9_nestIs 34 = .ok (.iload_n 3, 1) := by decide +kernel
theorem dX9_nestIs_35 : decode cX9_nestIs 35 = .ok (.if_icmp .ne 7, 3) := by decide +kernel
theorem dX9_nestIs_38 : decode cX9_nestIs 38 = .ok (.iconst 1, 1) := by decide +kernel
theorem dX9_nestIs_39 : decode cX9_nestIs 39 = .ok (.goto 4, 3) := by decide +kernel
theorem dX9_nestIs_42 : decode cX9_nestIs 42 = .ok (.iconst 0, 1) := by decide +kernel
theorem dX9_nestIs_43 : decode cX9_nestIs 43 = .ok (.ireturn, 1) := by decide +kernel
theorem dX9_waitsAt_0 : decode cX9_waitsAt 0 = .ok (.iload_n 1, 1) := by decide +kernel
theorem dX9_waitsAt_1 : decode cX9_waitsAt 1 = .ok (.iload_n 2, 1) := by decide +kernel
theorem dX9_waitsAt_2 : decode cX9_waitsAt 2 = .ok (.if_icmp .ge 23, 3) := by decide +kernel
theorem dX9_waitsAt_5 : decode cX9_waitsAt 5 = .ok (.iload_n 1, 1) := by decide +kernel
theorem dX9_waitsAt_6 : decode cX9_waitsAt 6 = .ok (.bipush 60, 2) := by decide +kernel
theorem dX9_waitsAt_8 : decode cX9_waitsAt 8 = .ok (.if_icmp .ge 17, 3) := by decide +kernel
theorem dX9_waitsAt_11 : decode cX9_waitsAt 11 = .ok (.aload_n 0, 1) := by decide +kernel
theorem dX9_waitsAt_12 : decode cX9_waitsAt 12 = .ok (.getfield 55, 3) := by decide +kernel
theorem dX9_waitsAt_15 : decode cX9_waitsAt 15 = .ok (.iload_n 1, 1) := by decide +kernel
theorem dX9_waitsAt_16 : decode cX9_waitsAt 16 = .ok (.iaload, 1) := by decide +kernel
theorem dX9_waitsAt_17 : decode cX9_waitsAt 17 = .ok (.iload_n 3, 1) := by decide +kernel
theorem dX9_waitsAt_18 : decode cX9_waitsAt 18 = .ok (.if_icmp .ne 7, 3) := by decide +kernel
theorem dX9_waitsAt_21 : decode cX9_waitsAt 21 = .ok (.iconst 1, 1) := by decide +kernel
theorem dX9_waitsAt_22 : decode cX9_waitsAt 22 = .ok (.goto 4, 3) := by decide +kernel
theorem dX9_waitsAt_25 : decode cX9_waitsAt 25 = .ok (.iconst 0, 1) := by decide +kernel
theorem dX9_waitsAt_26 : decode cX9_waitsAt 26 = .ok (.ireturn, 1) := by decide +kernel
theorem dX9_within_0 : decode cX9_within 0 = .ok (.iload_n 0, 1) := by decide +kernel
theorem dX9_within_1 : decode cX9_within 1 = .ok (.ifCond .lt 12, 3) := by decide +kernel
theorem dX9_within_4 : decode cX9_within 4 = .ok (.iload_n 0, 1) := by decide +kernel
theorem dX9_within_5 : decode cX9_within 5 = .ok (.iload_n 1, 1) := by decide +kernel
theorem dX9_within_6 : decode cX9_within 6 = .ok (.if_icmp .gt 7, 3) := by decide +kernel
theorem dX9_within_9 : decode cX9_within 9 = .ok (.iconst 1, 1) := by decide +kernel
theorem dX9_within_10 : decode cX9_within 10 = .ok (.goto 4, 3) := by decide +kernel
theorem dX9_within_13 : decode cX9_within 13 = .ok (.iconst 0, 1) := by decide +kernel
theorem dX9_within_14 : decode cX9_within 14 = .ok (.ireturn, 1) := by decide +kernel
theorem dX9_held_0 : decode cX9_held 0 = .ok (.iconst 0, 1) := by decide +kernel
theorem dX9_held_1 : decode cX9_held 1 = .ok (.iload_n 0, 1) := by decide +kernel
theorem dX9_held_2 : decode cX9_held 2 = .ok (.iload_n 1, 1) := by decide +kernel
theorem dX9_held_3 : decode cX9_held 3 = .ok (.invokestatic 147, 3) := by decide +kernel
theorem dX9_held_6 : decode cX9_held 6 = .ok (.invokestatic 324, 3) := by decide +kernel
theorem dX9_held_9 : decode cX9_held 9 = .ok (.ireturn, 1) := by decide +kernel
theorem dX9_bit_0 : decode cX9_bit 0 = .ok (.iload_n 0, 1) := by decide +kernel
theorem dX9_bit_1 : decode cX9_bit 1 = .ok (.ifCond .eq 7, 3) := by decide +kernel
theorem dX9_bit_4 : decode cX9_bit 4 = .ok (.iconst 1, 1) := by decide +kernel
theorem dX9_bit_5 : decode cX9_bit 5 = .ok (.goto 4, 3) := by decide +kernel
theorem dX9_bit_8 : decode cX9_bit 8 = .ok (.iconst 0, 1) := by decide +kernel
theorem dX9_bit_9 : decode cX9_bit 9 = .ok (.ireturn, 1) := by decide +kernel
theorem dX9_isLetter_0 : decode cX9_isLetter 0 = .ok (.iload_n 0, 1) := by decide +kernel
theorem dX9_isLetter_1 : decode cX9_isLetter 1 = .ok (.bipush 97, 2) := by decide +kernel
theorem dX9_isLetter_3 : decode cX9_isLetter 3 = .ok (.if_icmp .lt 13, 3) := by decide +kernel
theorem dX9_isLetter_6 : decode cX9_isLetter 6 = .ok (.iload_n 0, 1) := by decide +kernel
theorem dX9_isLetter_7 : decode cX9_isLetter 7 = .ok (.bipush 122, 2) := by decide +kernel
theorem dX9_isLetter_9 : decode cX9_isLetter 9 = .ok (.if_icmp .gt 7, 3) := by decide +kernel
theorem dX9_isLetter_12 : decode cX9_isLetter 12 = .ok (.iconst 1, 1) := by decide +kernel
theorem dX9_isLetter_13 : decode cX9_isLetter 13 = .ok (.goto 4, 3) := by decide +kernel
theorem dX9_isLetter_16 : decode cX9_isLetter 16 = .ok (.iconst 0, 1) := by decide +kernel
theorem dX9_isLetter_17 : decode cX9_isLetter 17 = .ok (.ireturn, 1) := by decide +kernel
theorem dX9_isDigit_0 : decode cX9_isDigit 0 = .ok (.iload_n 0, 1) := by decide +kernel
theorem dX9_isDigit_1 : decode cX9_isDigit 1 = .ok (.bipush 48, 2) := by decide +kernel
theorem dX9_isDigit_3 : decode cX9_isDigit 3 = .ok (.if_icmp .lt 13, 3) := by decide +kernel
theorem dX9_isDigit_6 : decode cX9_isDigit 6 = .ok (.iload_n 0, 1) := by decide +kernel
theorem dX9_isDigit_7 : decode cX9_isDigit 7 = .ok (.bipush 57, 2) := by decide +kernel
theorem dX9_isDigit_9 : decode cX9_isDigit 9 = .ok (.if_icmp .gt 7, 3) := by decide +kernel
theorem dX9_isDigit_12 : decode cX9_isDigit 12 = .ok (.iconst 1, 1) := by decide +kernel
theorem dX9_isDigit_13 : decode cX9_isDigit 13 = .ok (.goto 4, 3) := by decide +kernel
theorem dX9_isDigit_16 : decode cX9_isDigit 16 = .ok (.iconst 0, 1) := by decide +kernel
theorem dX9_isDigit_17 : decode cX9_isDigit 17 = .ok (.ireturn, 1) := by decide +kernel
