theorem dX6_init_0 : decode cX6_init 0 = .ok (.aload_n 0, 1) := by decide +kernel
theorem dX6_init_1 : decode cX6_init 1 = .ok (.invokespecial 3, 3) := by decide +kernel
theorem dX6_init_4 : decode cX6_init 4 = .ok (.aload_n 0, 1) := by decide +kernel
theorem dX6_init_5 : decode cX6_init 5 = .ok (.sipush 1786, 3) := by decide +kernel
theorem dX6_init_8 : decode cX6_init 8 = .ok (.newarray .int, 2) := by decide +kernel
theorem dX6_init_10 : decode cX6_init 10 = .ok (.putfield 9, 3) := by decide +kernel
theorem dX6_init_13 : decode cX6_init 13 = .ok (.aload_n 0, 1) := by decide +kernel
theorem dX6_init_14 : decode cX6_init 14 = .ok (.sipush 1786, 3) := by decide +kernel
theorem dX6_init_17 : decode cX6_init 17 = .ok (.newarray .int, 2) := by decide +kernel
theorem dX6_init_19 : decode cX6_init 19 = .ok (.putfield 15, 3) := by decide +kernel
theorem dX6_init_22 : decode cX6_init 22 = .ok (.aload_n 0, 1) := by decide +kernel
theorem dX6_init_23 : decode cX6_init 23 = .ok (.sipush 3572, 3) := by decide +kernel
theorem dX6_init_26 : decode cX6_init 26 = .ok (.newarray .int, 2) := by decide +kernel
theorem dX6_init_28 : decode cX6_init 28 = .ok (.putfield 18, 3) := by decide +kernel
theorem dX6_init_31 : decode cX6_init 31 = .ok (.aload_n 0, 1) := by decide +kernel
theorem dX6_init_32 : decode cX6_init 32 = .ok (.iconst 2, 1) := by decide +kernel
theorem dX6_init_33 : decode cX6_init 33 = .ok (.newarray .boolean, 2) := by decide +kernel
theorem dX6_init_35 : decode cX6_init 35 = .ok (.putfield 21, 3) := by decide +kernel
theorem dX6_init_38 : decode cX6_init 38 = .ok (.aload_n 0, 1) := by decide +kernel
theorem dX6_init_39 : decode cX6_init 39 = .ok (.bipush 6, 2) := by decide +kernel
theorem dX6_init_41 : decode cX6_init 41 = .ok (.newarray .int, 2) := by decide +kernel
theorem dX6_init_43 : decode cX6_init 43 = .ok (.dup, 1) := by decide +kernel
theorem dX6_init_44 : decode cX6_init 44 = .ok (.iconst 0, 1) := by decide +kernel
theorem dX6_init_45 : decode cX6_init 45 = .ok (.iconst 1, 1) := by decide +kernel
theorem dX6_init_46 : decode cX6_init 46 = .ok (.iastore, 1) := by decide +kernel
theorem dX6_init_47 : decode cX6_init 47 = .ok (.dup, 1) := by decide +kernel
theorem dX6_init_48 : decode cX6_init 48 = .ok (.iconst 1, 1) := by decide +kernel
theorem dX6_init_49 : decode cX6_init 49 = .ok (.iconst 0, 1) := by decide +kernel
theorem dX6_init_50 : decode cX6_init 50 = .ok (.iastore, 1) := by decide +kernel
theorem dX6_init_51 : decode cX6_init 51 = .ok (.dup, 1) := by decide +kernel
theorem dX6_init_52 : decode cX6_init 52 = .ok (.iconst 2, 1) := by decide +kernel
theorem dX6_init_53 : decode cX6_init 53 = .ok (.iconst (-1), 1) := by decide +kernel
theorem dX6_init_54 : decode cX6_init 54 = .ok (.iastore, 1) := by decide +kernel
theorem dX6_init_55 : decode cX6_init 55 = .ok (.dup, 1) := by decide +kernel
theorem dX6_init_56 : decode cX6_init 56 = .ok (.iconst 3, 1) := by decide +kernel
theorem dX6_init_57 : decode cX6_init 57 = .ok (.iconst (-1), 1) := by decide +kernel
theorem dX6_init_58 : decode cX6_init 58 = .ok (.iastore, 1) := by decide +kernel
theorem dX6_init_59 : decode cX6_init 59 = .ok (.dup, 1) := by decide +kernel
theorem dX6_init_60 : decode cX6_init 60 = .ok (.iconst 4, 1) := by decide +kernel
theorem dX6_init_61 : decode cX6_init 61 = .ok (.iconst 0, 1) := by decide +kernel
theorem dX6_init_62 : decode cX6_init 62 = .ok (.iastore, 1) := by decide +kernel
theorem dX6_init_63 : decode cX6_init 63 = .ok (.dup, 1) := by decide +kernel
theorem dX6_init_64 : decode cX6_init 64 = .ok (.iconst 5, 1) := by decide +kernel
theorem dX6_init_65 : decode cX6_init 65 = .ok (.iconst 1, 1) := by decide +kernel
theorem dX6_init_66 : decode cX6_init 66 = .ok (.iastore, 1) := by decide +kernel
theorem dX6_init_67 : decode cX6_init 67 = .ok (.putfield 25, 3) := by decide +kernel
theorem dX6_init_70 : decode cX6_init 70 = .ok (.aload_n 0, 1) := by decide +kernel
theorem dX6_init_71 : decode cX6_init 71 = .ok (.bipush 6, 2) := by decide +kernel
theorem dX6_init_73 : decode cX6_init 73 = .ok (.newarray .int, 2) := by decide +kernel
theorem dX6_init_75 : decode cX6_init 75 = .ok (.dup, 1) := by decide +kernel
theorem dX6_init_76 : decode cX6_init 76 = .ok (.iconst 0, 1) := by decide +kernel
theorem dX6_init_77 : decode cX6_init 77 = .ok (.iconst 0, 1) := by decide +kernel
theorem dX6_init_78 : decode cX6_init 78 = .ok (.iastore, 1) := by decide +kernel
theorem dX6_init_79 : decode cX6_init 79 = .ok (.dup, 1) := by decide +kernel
theorem dX6_init_80 : decode cX6_init 80 = .ok (.iconst 1, 1) := by decide +kernel
theorem dX6_init_81 : decode cX6_init 81 = .ok (.iconst 1, 1) := by decide +kernel
theorem dX6_init_82 : decode cX6_init 82 = .ok (.iastore, 1) := by decide +kernel
theorem dX6_init_83 : decode cX6_init 83 = .ok (.dup, 1) := by decide +kernel
theorem dX6_init_84 : decode cX6_init 84 = .ok (.iconst 2, 1) := by decide +kernel
theorem dX6_init_85 : decode cX6_init 85 = .ok (.iconst 1, 1) := by decide +kernel
theorem dX6_init_86 : decode cX6_init 86 = .ok (.iastore, 1) := by decide +kernel
theorem dX6_init_87 : decode cX6_init 87 = .ok (.dup, 1) := by decide +kernel
theorem dX6_init_88 : decode cX6_init 88 = .ok (.iconst 3, 1) := by decide +kernel
theorem dX6_init_89 : decode cX6_init 89 = .ok (.iconst 0, 1) := by decide +kernel
theorem dX6_init_90 : decode cX6_init 90 = .ok (.iastore, 1) := by decide +kernel
theorem dX6_init_91 : decode cX6_init 91 = .ok (.dup, 1) := by decide +kernel
theorem dX6_init_92 : decode cX6_init 92 = .ok (.iconst 4, 1) := by decide +kernel
theorem dX6_init_93 : decode cX6_init 93 = .ok (.iconst (-1), 1) := by decide +kernel
theorem dX6_init_94 : decode cX6_init 94 = .ok (.iastore, 1) := by decide +kernel
theorem dX6_init_95 : decode cX6_init 95 = .ok (.dup, 1) := by decide +kernel
theorem dX6_init_96 : decode cX6_init 96 = .ok (.iconst 5, 1) := by decide +kernel
theorem dX6_init_97 : decode cX6_init 97 = .ok (.iconst (-1), 1) := by decide +kernel
theorem dX6_init_98 : decode cX6_init 98 = .ok (.iastore, 1) := by decide +kernel
theorem dX6_init_99 : decode cX6_init 99 = .ok (.putfield 28, 3) := by decide +kernel
theorem dX6_init_102 : decode cX6_init 102 = .ok (.aload_n 0, 1) := by decide +kernel
theorem dX6_init_103 : decode cX6_init 103 = .ok (.bipush 48, 2) := by decide +kernel
theorem dX6_init_105 : decode cX6_init 105 = .ok (.newarray .int, 2) := by decide +kernel
theorem dX6_init_107 : decode cX6_init 107 = .ok (.putfield 31, 3) := by decide +kernel
theorem dX6_init_110 : decode cX6_init 110 = .ok (.aload_n 0, 1) := by decide +kernel
theorem dX6_init_111 : decode cX6_init 111 = .ok (.sipush 1200, 3) := by decide +kernel
theorem dX6_init_114 : decode cX6_init 114 = .ok (.newarray .int, 2) := by decide +kernel
theorem dX6_init_116 : decode cX6_init 116 = .ok (.putfield 34, 3) := by decide +kernel
theorem dX6_init_119 : decode cX6_init 119 = .ok (.aload_n 0, 1) := by decide +kernel
theorem dX6_init_120 : decode cX6_init 120 = .ok (.bipush 48, 2) := by decide +kernel
theorem dX6_init_122 : decode cX6_init 122 = .ok (.newarray .int, 2) := by decide +kernel
theorem dX6_init_124 : decode cX6_init 124 = .ok (.putfield 37, 3) := by decide +kernel
theorem dX6_init_127 : decode cX6_init 127 = .ok (.aload_n 0, 1) := by decide +kernel
theorem dX6_init_128 : decode cX6_init 128 = .ok (.getfield 9, 3) := by decide +kernel
theorem dX6_init_131 : decode cX6_init 131 = .ok (.iconst 2, 1) := by decide +kernel
theorem dX6_init_132 : decode cX6_init 132 = .ok (.iconst 1, 1) := by decide +kernel
theorem dX6_init_133 : decode cX6_init 133 = .ok (.iastore, 1) := by decide +kernel
theorem dX6_init_134 : decode cX6_init 134 = .ok (.aload_n 0, 1) := by decide +kernel
theorem dX6_init_135 : decode cX6_init 135 = .ok (.iconst 4, 1) := by decide +kernel
theorem dX6_init_136 : decode cX6_init 136 = .ok (.iconst 4, 1) := by decide +kernel
theorem dX6_init_137 : decode cX6_init 137 = .ok (.invokevirtual 40, 3) := by decide +kernel
theorem dX6_init_140 : decode cX6_init 140 = .ok (.return_, 1) := by decide +kernel
theorem dX6_thrown_0 : decode cX6_thrown 0 = .ok (.aload_n 0, 1) := by decide +kernel
theorem dX6_thrown_1 : decode cX6_thrown 1 = .ok (.getfield 44, 3) := by decide +kernel
theorem dX6_thrown_4 : decode cX6_thrown 4 = .ok (.ireturn, 1) := by decide +kernel
theorem dX6_in_0 : decode cX6_in 0 = .ok (.lload_n 0, 1) := by decide +kernel
theorem dX6_in_1 : decode cX6_in 1 = .ok (.lload_n 2, 1) := by decide +kernel
theorem dX6_in_2 : decode cX6_in 2 = .ok (.lcmp, 1) := by decide +kernel
theorem dX6_in_3 : decode cX6_in 3 = .ok (.ifCond .lt 14, 3) := by decide +kernel
theorem dX6_in_6 : decode cX6_in 6 = .ok (.lload_n 0, 1) := by decide +kernel
theorem dX6_in_7 : decode cX6_in 7 = .ok (.lload 4, 2) := by decide +kernel
theorem dX6_in_9 : decode cX6_in 9 = .ok (.lcmp, 1) := by decide +kernel
theorem dX6_in_10 : decode cX6_in 10 = .ok (.ifCond .gt 7, 3) := by decide +kernel
theorem dX6_in_13 : decode cX6_in 13 = .ok (.iconst 1, 1) := by decide +kernel
theorem dX6_in_14 : decode cX6_in 14 = .ok (.goto 4, 3) := by decide +kernel
theorem dX6_in_17 : decode cX6_in 17 = .ok (.iconst 0, 1) := by decide +kernel
theorem dX6_in_18 : decode cX6_in 18 = .ok (.ireturn, 1) := by decide +kernel
theorem dX6_copy_0 : decode cX6_copy 0 = .ok (.iconst 0, 1) := by decide +kernel
theorem dX6_copy_1 : decode cX6_copy 1 = .ok (.istore 4, 2) := by decide +kernel
theorem dX6_copy_3 : decode cX6_copy 3 = .ok (.iload 4, 2) := by decide +kernel
theorem dX6_copy_5 : decode cX6_copy 5 = .ok (.sipush 1786, 3) := by decide +kernel
theorem dX6_copy_8 : decode cX6_copy 8 = .ok (.if_icmp .ge 21, 3) := by decide +kernel
theorem dX6_copy_11 : decode cX6_copy 11 = .ok (.aload_n 2, 1) := by decide +kernel
theorem dX6_copy_12 : decode cX6_copy 12 = .ok (.iload_n 3, 1) := by decide +kernel
theorem dX6_copy_13 : decode cX6_copy 13 = .ok (.iload 4, 2) := by decide +kernel
theorem dX6_copy_15 : decode cX6_copy 15 = .ok (.iadd, 1) := by decide +kernel
theorem dX6_copy_16 : decode cX6_copy 16 = .ok (.aload_n 0, 1) := by decide +kernel
theorem dX6_copy_17 : decode cX6_copy 17 = .ok (.iload_n 1, 1) := by decide +kernel
theorem dX6_copy_18 : decode cX6_copy 18 = .ok (.iload 4, 2) := by decide +kernel
theorem dX6_copy_20 : decode cX6_copy 20 = .ok (.iadd, 1) := by decide +kernel
theorem dX6_copy_21 : decode cX6_copy 21 = .ok (.iaload, 1) := by decide +kernel
theorem dX6_copy_22 : decode cX6_copy 22 = .ok (.iastore, 1) := by decide +kernel
theorem dX6_copy_23 : decode cX6_copy 23 = .ok (.iinc 4 1, 3) := by decide +kernel
theorem dX6_copy_26 : decode cX6_copy 26 = .ok (.goto (-23), 3) := by decide +kernel
theorem dX6_copy_29 : decode cX6_copy 29 = .ok (.return_, 1) := by decide +kernel
theorem dX6_refuse_0 : decode cX6_refuse 0 = .ok (.aload_n 0, 1) := by decide +kernel
theorem dX6_refuse_1 : decode cX6_refuse 1 = .ok (.getfield 9, 3) := by decide +kernel
theorem dX6_refuse_4 : decode cX6_refuse 4 = .ok (.bipush 9, 2) := by decide +kernel
theorem dX6_refuse_6 : decode cX6_refuse 6 = .ok (.iload_n 1, 1) := by decide +kernel
theorem dX6_refuse_7 : decode cX6_refuse 7 = .ok (.isub, 1) := by decide +kernel
theorem dX6_refuse_8 : decode cX6_refuse 8 = .ok (.dup2, 1) := by decide +kernel
theorem dX6_refuse_9 : decode cX6_refuse 9 = .ok (.iaload, 1) := by decide +kernel
theorem dX6_refuse_10 : decode cX6_refuse 10 = .ok (.iconst 1, 1) := by decide +kernel
theorem dX6_refuse_11 : decode cX6_refuse 11 = .ok (.iadd, 1) := by decide +kernel
theorem dX6_refuse_12 : decode cX6_refuse 12 = .ok (.iastore, 1) := by decide +kernel
theorem dX6_refuse_13 : decode cX6_refuse 13 = .ok (.iload_n 1, 1) := by decide +kernel
theorem dX6_refuse_14 : decode cX6_refuse 14 = .ok (.ireturn, 1) := by decide +kernel
theorem dX6_keep_0 : decode cX6_keep 0 = .ok (.aload_n 0, 1) := by decide +kernel
theorem dX6_keep_1 : decode cX6_keep 1 = .ok (.iconst 0, 1) := by decide +kernel
theorem dX6_keep_2 : decode cX6_keep 2 = .ok (.putfield 44, 3) := by decide +kernel
theorem dX6_keep_5 : decode cX6_keep 5 = .ok (.iload_n 1, 1) := by decide +kernel
theorem dX6_keep_6 : decode cX6_keep 6 = .ok (.i2l, 1) := by decide +kernel
theorem dX6_keep_7 : decode cX6_keep 7 = .ok (.lconst 0, 1) := by decide +kernel
theorem dX6_keep_8 : decode cX6_keep 8 = .ok (.lconst 1, 1) := by decide +kernel
theorem dX6_keep_9 : decode cX6_keep 9 = .ok (.invokestatic 48, 3) := by decide +kernel
theorem dX6_keep_12 : decode cX6_keep 12 = .ok (.ifCond .ne 5, 3) := by decide +kernel
theorem dX6_keep_15 : decode cX6_keep 15 = .ok (.iconst 0, 1) := by decide +kernel
theorem dX6_keep_16 : decode cX6_keep 16 = .ok (.ireturn, 1) := by decide +kernel
theorem dX6_keep_17 : decode cX6_keep 17 = .ok (.aload_n 0, 1) := by decide +kernel
theorem dX6_keep_18 : decode cX6_keep 18 = .ok (.getfield 9, 3) := by decide +kernel
theorem dX6_keep_21 : decode cX6_keep 21 = .ok (.iconst 0, 1) := by decide +kernel
theorem dX6_keep_22 : decode cX6_keep 22 = .ok (.aload_n 0, 1) := by decide +kernel
theorem dX6_keep_23 : decode cX6_keep 23 = .ok (.getfield 18, 3) := by decide +kernel
theorem dX6_keep_26 : decode cX6_keep 26 = .ok (.sipush 1786, 3) := by decide +kernel
theorem dX6_keep_29 : decode cX6_keep 29 = .ok (.iload_n 1, 1) := by decide +kernel
theorem dX6_keep_30 : decode cX6_keep 30 = .ok (.imul, 1) := by decide +kernel
theorem dX6_keep_31 : decode cX6_keep 31 = .ok (.invokestatic 52, 3) := by decide +kernel
theorem dX6_keep_34 : decode cX6_keep 34 = .ok (.aload_n 0, 1) := by decide +kernel
theorem dX6_keep_35 : decode cX6_keep 35 = .ok (.getfield 21, 3) := by decide +kernel
theorem dX6_keep_38 : decode cX6_keep 38 = .ok (.iload_n 1, 1) := by decide +kernel
theorem dX6_keep_39 : decode cX6_keep 39 = .ok (.iconst 1, 1) := by decide +kernel
theorem dX6_keep_40 : decode cX6_keep 40 = .ok (.bastore, 1) := by decide +kernel
theorem dX6_keep_41 : decode cX6_keep 41 = .ok (.iconst 1, 1) := by decide +kernel
theorem dX6_keep_42 : decode cX6_keep 42 = .ok (.ireturn, 1) := by decide +kernel
theorem dX6_again_0 : decode cX6_again 0 = .ok (.aload_n 0, 1) := by decide +kernel
theorem dX6_again_1 : decode cX6_again 1 = .ok (.iconst 0, 1) := by decide +kernel
theorem dX6_again_2 : decode cX6_again 2 = .ok (.putfield 44, 3) := by decide +kernel
theorem dX6_again_5 : decode cX6_again 5 = .ok (.iload_n 1, 1) := by decide +kernel
theorem dX6_again_6 : decode cX6_again 6 = .ok (.i2l, 1) := by decide +kernel
theorem dX6_again_7 : decode cX6_again 7 = .ok (.lconst 0, 1) := by decide +kernel
theorem dX6_again_8 : decode cX6_again 8 = .ok (.lconst 1, 1) := by decide +kernel
theorem dX6_again_9 : decode cX6_again 9 = .ok (.invokestatic 48, 3) := by decide +kernel
theorem dX6_again_12 : decode cX6_again 12 = .ok (.ifCond .eq 12, 3) := by decide +kernel
theorem dX6_again_15 : decode cX6_again 15 = .ok (.aload_n 0, 1) := by decide +kernel
theorem dX6_again_16 : decode cX6_again 16 = .ok (.getfield 21, 3) := by decide +kernel
theorem dX6_again_19 : decode cX6_again 19 = .ok (.iload_n 1, 1) := by decide +kernel
theorem dX6_again_20 : decode cX6_again 20 = .ok (.baload, 1) := by decide +kernel
theorem dX6_again_21 : decode cX6_again 21 = .ok (.ifCond .ne 5, 3) := by decide +kernel
theorem dX6_again_24 : decode cX6_again 24 = .ok (.iconst 0, 1) := by decide +kernel
theorem dX6_again_25 : decode cX6_again 25 = .ok (.ireturn, 1) := by decide +kernel
theorem dX6_again_26 : decode cX6_again 26 = .ok (.aload_n 0, 1) := by decide +kernel
theorem dX6_again_27 : decode cX6_again 27 = .ok (.getfield 18, 3) := by decide +kernel
theorem dX6_again_30 : decode cX6_again 30 = .ok (.sipush 1786, 3) := by decide +kernel
theorem dX6_again_33 : decode cX6_again 33 = .ok (.iload_n 1, 1) := by decide +kernel
theorem dX6_again_34 : decode cX6_again 34 = .ok (.imul, 1) := by decide +kernel
theorem dX6_again_35 : decode cX6_again 35 = .ok (.aload_n 0, 1) := by decide +kernel
theorem dX6_again_36 : decode cX6_again 36 = .ok (.getfield 9, 3) := by decide +kernel
theorem dX6_again_39 : decode cX6_again 39 = .ok (.iconst 0, 1) := by decide +kernel
theorem dX6_again_40 : decode cX6_again 40 = .ok (.invokestatic 52, 3) := by decide +kernel
theorem dX6_again_43 : decode cX6_again 43 = .ok (.iconst 1, 1) := by decide +kernel
theorem dX6_again_44 : decode cX6_again 44 = .ok (.ireturn, 1) := by decide +kernel
theorem dX6_think_0 : decode cX6_think 0 = .ok (.aload_n 0, 1) := by decide +kernel
theorem dX6_think_1 : decode cX6_think 1 = .ok (.getfield 9, 3) := by decide +kernel
theorem dX6_think_4 : decode cX6_think 4 = .ok (.iconst 0, 1) := by decide +kernel
theorem dX6_think_5 : decode cX6_think 5 = .ok (.aload_n 0, 1) := by decide +kernel
theorem dX6_think_6 : decode cX6_think 6 = .ok (.getfield 15, 3) := by decide +kernel
theorem dX6_think_9 : decode cX6_think 9 = .ok (.iconst 0, 1) := by decide +kernel
theorem dX6_think_10 : decode cX6_think 10 = .ok (.invokestatic 52, 3) := by decide +kernel
theorem dX6_think_13 : decode cX6_think 13 = .ok (.return_, 1) := by decide +kernel
theorem dX6_endThought_0 : decode cX6_endThought 0 = .ok (.aload_n 0, 1) := by decide +kernel
theorem dX6_endThought_1 : decode cX6_endThought 1 = .ok (.getfield 15, 3) := by decide +kernel
theorem dX6_endThought_4 : decode cX6_endThought 4 = .ok (.iconst 0, 1) := by decide +kernel
theorem dX6_endThought_5 : decode cX6_endThought 5 = .ok (.aload_n 0, 1) := by decide +kernel
theorem dX6_endThought_6 : decode cX6_endThought 6 = .ok (.getfield 9, 3) := by decide +kernel
theorem dX6_endThought_9 : decode cX6_endThought 9 = .ok (.iconst 0, 1) := by decide +kernel
theorem dX6_endThought_10 : decode cX6_endThought 10 = .ok (.invokestatic 52, 3) := by decide +kernel
theorem dX6_endThought_13 : decode cX6_endThought 13 = .ok (.return_, 1) := by decide +kernel
theorem dX6_sign_0 : decode cX6_sign 0 = .ok (.iload_n 1, 1) := by decide +kernel
theorem dX6_sign_1 : decode cX6_sign 1 = .ok (.iload_n 0, 1) := by decide +kernel
theorem dX6_sign_2 : decode cX6_sign 2 = .ok (.iadd, 1) := by decide +kernel
theorem dX6_sign_3 : decode cX6_sign 3 = .ok (.iload_n 2, 1) := by decide +kernel
theorem dX6_sign_4 : decode cX6_sign 4 = .ok (.if_icmp .lt 7, 3) := by decide +kernel
theorem dX6_sign_7 : decode cX6_sign 7 = .ok (.iconst 1, 1) := by decide +kernel
theorem dX6_sign_8 : decode cX6_sign 8 = .ok (.goto 14, 3) := by decide +kernel
theorem dX6_sign_11 : decode cX6_sign 11 = .ok (.iload_n 1, 1) := by decide +kernel
theorem dX6_sign_12 : decode cX6_sign 12 = .ok (.iload_n 0, 1) := by decide +kernel
theorem dX6_sign_13 : decode cX6_sign 13 = .ok (.iadd, 1) := by decide +kernel
theorem dX6_sign_14 : decode cX6_sign 14 = .ok (.ifCond .ge 7, 3) := by decide +kernel
theorem dX6_sign_17 : decode cX6_sign 17 = .ok (.iconst (-1), 1) := by decide +kernel
theorem dX6_sign_18 : decode cX6_sign 18 = .ok (.goto 4, 3) := by decide +kernel
theorem dX6_sign_21 : decode cX6_sign 21 = .ok (.iconst 0, 1) := by decide +kernel
theorem dX6_sign_22 : decode cX6_sign 22 = .ok (.ireturn, 1) := by decide +kernel
theorem dX6_halfOf_0 : decode cX6_halfOf 0 = .ok (.iload 4, 2) := by decide +kernel
theorem dX6_halfOf_2 : decode cX6_halfOf 2 = .ok (.iconst 3, 1) := by decide +kernel
theorem dX6_halfOf_3 : decode cX6_halfOf 3 = .ok (.if_icmp .ge 16, 3) := by decide +kernel
theorem dX6_halfOf_6 : decode cX6_halfOf 6 = .ok (.iconst 2, 1) := by decide +kernel
theorem dX6_halfOf_7 : decode cX6_halfOf 7 = .ok (.iconst 3, 1) := by decide +kernel
theorem dX6_halfOf_8 : decode cX6_halfOf 8 = .ok (.iload_n 2, 1) := by decide +kernel
theorem dX6_halfOf_9 : decode cX6_halfOf 9 = .ok (.iload_n 0, 1) := by decide +kernel
theorem dX6_halfOf_10 : decode cX6_halfOf 10 = .ok (.iload_n 3, 1) := by decide +kernel
theorem dX6_halfOf_11 : decode cX6_halfOf 11 = .ok (.imul, 1) := by decide +kernel
theorem dX6_halfOf_12 : decode cX6_halfOf 12 = .ok (.iadd, 1) := by decide +kernel
theorem dX6_halfOf_13 : decode cX6_halfOf 13 = .ok (.imul, 1) := by decide +kernel
theorem dX6_halfOf_14 : decode cX6_halfOf 14 = .ok (.iload 4, 2) := by decide +kernel
theorem dX6_halfOf_16 : decode cX6_halfOf 16 = .ok (.iadd, 1) := by decide +kernel
theorem dX6_halfOf_17 : decode cX6_halfOf 17 = .ok (.imul, 1) := by decide +kernel
theorem dX6_halfOf_18 : decode cX6_halfOf 18 = .ok (.ireturn, 1) := by decide +kernel
theorem dX6_halfOf_19 : decode cX6_halfOf 19 = .ok (.iload_n 2, 1) := by decide +kernel
theorem dX6_halfOf_20 : decode cX6_halfOf 20 = .ok (.iload 5, 2) := by decide +kernel
theorem dX6_halfOf_22 : decode cX6_halfOf 22 = .ok (.iadd, 1) := by decide +kernel
theorem dX6_halfOf_23 : decode cX6_halfOf 23 = .ok (.iload_n 0, 1) := by decide +kernel
theorem dX6_halfOf_24 : decode cX6_halfOf 24 = .ok (.iadd, 1) := by decide +kernel
theorem dX6_halfOf_25 : decode cX6_halfOf 25 = .ok (.iload_n 0, 1) := by decide +kernel
theorem dX6_halfOf_26 : decode cX6_halfOf 26 = .ok (.irem, 1) := by decide +kernel
theorem dX6_halfOf_27 : decode cX6_halfOf 27 = .ok (.istore 7, 2) := by decide +kernel
theorem dX6_halfOf_29 : decode cX6_halfOf 29 = .ok (.iload_n 3, 1) := by decide +kernel
theorem dX6_halfOf_30 : decode cX6_halfOf 30 = .ok (.iload 6, 2) := by decide +kernel
theorem dX6_halfOf_32 : decode cX6_halfOf 32 = .ok (.iadd, 1) := by decide +kernel
theorem dX6_halfOf_33 : decode cX6_halfOf 33 = .ok (.iload_n 1, 1) := by decide +kernel
theorem dX6_halfOf_34 : decode cX6_halfOf 34 = .ok (.iadd, 1) := by decide +kernel
theorem dX6_halfOf_35 : decode cX6_halfOf 35 = .ok (.iload_n 1, 1) := by decide +kernel
theorem dX6_halfOf_36 : decode cX6_halfOf 36 = .ok (.irem, 1) := by decide +kernel
theorem dX6_halfOf_37 : decode cX6_halfOf 37 = .ok (.istore 8, 2) := by decide +kernel
theorem dX6_halfOf_39 : decode cX6_halfOf 39 = .ok (.iconst 2, 1) := by decide +kernel
theorem dX6_halfOf_40 : decode cX6_halfOf 40 = .ok (.iconst 3, 1) := by decide +kernel
theorem dX6_halfOf_41 : decode cX6_halfOf 41 = .ok (.iload 7, 2) := by decide +kernel
theorem dX6_halfOf_43 : decode cX6_halfOf 43 = .ok (.iload_n 0, 1) := by decide +kernel
theorem dX6_halfOf_44 : decode cX6_halfOf 44 = .ok (.iload 8, 2) := by decide +kernel
theorem dX6_halfOf_46 : decode cX6_halfOf 46 = .ok (.imul, 1) := by decide +kernel
theorem dX6_halfOf_47 : decode cX6_halfOf 47 = .ok (.iadd, 1) := by decide +kernel
theorem dX6_halfOf_48 : decode cX6_halfOf 48 = .ok (.imul, 1) := by decide +kernel
theorem dX6_halfOf_49 : decode cX6_halfOf 49 = .ok (.iload 4, 2) := by decide +kernel
theorem dX6_halfOf_51 : decode cX6_halfOf 51 = .ok (.iadd, 1) := by decide +kernel
theorem dX6_halfOf_52 : decode cX6_halfOf 52 = .ok (.iconst 3, 1) := by decide +kernel
theorem dX6_halfOf_53 : decode cX6_halfOf 53 = .ok (.isub, 1) := by decide +kernel
theorem dX6_halfOf_54 : decode cX6_halfOf 54 = .ok (.imul, 1) := by decide +kernel
theorem dX6_halfOf_55 : decode cX6_halfOf 55 = .ok (.iconst 1, 1) := by decide +kernel
theorem dX6_halfOf_56 : decode cX6_halfOf 56 = .ok (.iadd, 1) := by decide +kernel
theorem dX6_halfOf_57 : decode cX6_halfOf 57 = .ok (.ireturn, 1) := by decide +kernel
theorem dX6_lay_0 : decode cX6_lay 0 = .ok (.iconst 0, 1) := by decide +kernel
theorem dX6_lay_1 : decode cX6_lay 1 = .ok (.istore_n 3, 1) := by decide +kernel
theorem dX6_lay_2 : decode cX6_lay 2 = .ok (.iload_n 3, 1) := by decide +kernel
theorem dX6_lay_3 : decode cX6_lay 3 = .ok (.sipush 1786, 3) := by decide +kernel
theorem dX6_lay_6 : decode cX6_lay 6 = .ok (.if_icmp .ge 44, 3) := by decide +kernel
theorem dX6_lay_9 : decode cX6_lay 9 = .ok (.aload_n 0, 1) := by decide +kernel
theorem dX6_lay_10 : decode cX6_lay 10 = .ok (.getfield 9, 3) := by decide +kernel
theorem dX6_lay_13 : decode cX6_lay 13 = .ok (.iload_n 3, 1) := by decide +kernel
theorem dX6_lay_14 : decode cX6_lay 14 = .ok (.iload_n 3, 1) := by decide +kernel
theorem dX6_lay_15 : decode cX6_lay 15 = .ok (.iconst 2, 1) := by decide +kernel
theorem dX6_lay_16 : decode cX6_lay 16 = .ok (.if_icmp .eq 17, 3) := by decide +kernel
theorem dX6_lay_19 : decode cX6_lay 19 = .ok (.iload_n 3, 1) := by decide +kernel
theorem dX6_lay_20 : decode cX6_lay 20 = .ok (.i2l, 1) := by decide +kernel
theorem dX6_lay_21 : decode cX6_lay 21 = .ok (.ldc2_w 56, 3) := by decide +kernel
theorem dX6_lay_24 : decode cX6_lay 24 = .ok (.ldc2_w 58, 3) := by decide +kernel
theorem dX6_lay_27 : decode cX6_lay 27 = .ok (.invokestatic 48, 3) := by decide +kernel
theorem dX6_lay_30 : decode cX6_lay 30 = .ok (.ifCond .eq 12, 3) := by decide +kernel
theorem dX6_lay_33 : decode cX6_lay 33 = .ok (.aload_n 0, 1) := by decide +kernel
theorem dX6_lay_34 : decode cX6_lay 34 = .ok (.getfield 9, 3) := by decide +kernel
theorem dX6_lay_37 : decode cX6_lay 37 = .ok (.iload_n 3, 1) := by decide +kernel
theorem dX6_lay_38 : decode cX6_lay 38 = .ok (.iaload, 1) := by decide +kernel
theorem dX6_lay_39 : decode cX6_lay 39 = .ok (.goto 4, 3) := by decide +kernel
theorem dX6_lay_42 : decode cX6_lay 42 = .ok (.iconst 0, 1) := by decide +kernel
theorem dX6_lay_43 : decode cX6_lay 43 = .ok (.iastore, 1) := by decide +kernel
theorem dX6_lay_44 : decode cX6_lay 44 = .ok (.iinc 3 1, 3) := by decide +kernel
theorem dX6_lay_47 : decode cX6_lay 47 = .ok (.goto (-45), 3) := by decide +kernel
theorem dX6_lay_50 : decode cX6_lay 50 = .ok (.aload_n 0, 1) := by decide +kernel
theorem dX6_lay_51 : decode cX6_lay 51 = .ok (.getfield 9, 3) := by decide +kernel
theorem dX6_lay_54 : decode cX6_lay 54 = .ok (.iconst 0, 1) := by decide +kernel
theorem dX6_lay_55 : decode cX6_lay 55 = .ok (.iload_n 1, 1) := by decide +kernel
theorem dX6_lay_56 : decode cX6_lay 56 = .ok (.iastore, 1) := by decide +kernel
theorem dX6_lay_57 : decode cX6_lay 57 = .ok (.aload_n 0, 1) := by decide +kernel
theorem dX6_lay_58 : decode cX6_lay 58 = .ok (.getfield 9, 3) := by decide +kernel
theorem dX6_lay_61 : decode cX6_lay 61 = .ok (.iconst 1, 1) := by decide +kernel
theorem dX6_lay_62 : decode cX6_lay 62 = .ok (.iload_n 2, 1) := by decide +kernel
theorem dX6_lay_63 : decode cX6_lay 63 = .ok (.iastore, 1) := by decide +kernel
theorem dX6_lay_64 : decode cX6_lay 64 = .ok (.iconst 0, 1) := by decide +kernel
theorem dX6_lay_65 : decode cX6_lay 65 = .ok (.istore_n 3, 1) := by decide +kernel
theorem dX6_lay_66 : decode cX6_lay 66 = .ok (.iload_n 3, 1) := by decide +kernel
theorem dX6_lay_67 : decode cX6_lay 67 = .ok (.sipush 144, 3) := by decide +kernel
theorem dX6_lay_70 : decode cX6_lay 70 = .ok (.if_icmp .ge 34, 3) := by decide +kernel
theorem dX6_lay_73 : decode cX6_lay 73 = .ok (.aload_n 0, 1) := by decide +kernel
theorem dX6_lay_74 : decode cX6_lay 74 = .ok (.getfield 9, 3) := by decide +kernel
theorem dX6_lay_77 : decode cX6_lay 77 = .ok (.sipush 1456, 3) := by decide +kernel
theorem dX6_lay_80 : decode cX6_lay 80 = .ok (.iload_n 3, 1) := by decide +kernel
theorem dX6_lay_81 : decode cX6_lay 81 = .ok (.iadd, 1) := by decide +kernel
theorem dX6_lay_82 : decode cX6_lay 82 = .ok (.iload_n 3, 1) := by decide +kernel
theorem dX6_lay_83 : decode cX6_lay 83 = .ok (.iconst 3, 1) := by decide +kernel
theorem dX6_lay_84 : decode cX6_lay 84 = .ok (.iload_n 1, 1) := by decide +kernel
theorem dX6_lay_85 : decode cX6_lay 85 = .ok (.imul, 1) := by decide +kernel
theorem dX6_lay_86 : decode cX6_lay 86 = .ok (.iload_n 2, 1) := by decide +kernel
theorem dX6_lay_87 : decode cX6_lay 87 = .ok (.imul, 1) := by decide +kernel
theorem dX6_lay_88 : decode cX6_lay 88 = .ok (.if_icmp .ge 8, 3) := by decide +kernel
theorem dX6_lay_91 : decode cX6_lay 91 = .ok (.bipush 10, 2) := by decide +kernel
theorem dX6_lay_93 : decode cX6_lay 93 = .ok (.goto 4, 3) := by decide +kernel
theorem dX6_lay_96 : decode cX6_lay 96 = .ok (.iconst (-1), 1) := by decide +kernel
theorem dX6_lay_97 : decode cX6_lay 97 = .ok (.iastore, 1) := by decide +kernel
theorem dX6_lay_98 : decode cX6_lay 98 = .ok (.iinc 3 1, 3) := by decide +kernel
theorem dX6_lay_101 : decode cX6_lay 101 = .ok (.goto (-35), 3) := by decide +kernel
theorem dX6_lay_104 : decode cX6_lay 104 = .ok (.iconst 0, 1) := by decide +kernel
theorem dX6_lay_105 : decode cX6_lay 105 = .ok (.istore_n 3, 1) := by decide +kernel
theorem dX6_lay_106 : decode cX6_lay 106 = .ok (.iload_n 3, 1) := by decide +kernel
theorem dX6_lay_107 : decode cX6_lay 107 = .ok (.iload_n 1, 1) := by decide +kernel
theorem dX6_lay_108 : decode cX6_lay 108 = .ok (.iload_n 2, 1) := by decide +kernel
theorem dX6_lay_109 : decode cX6_lay 109 = .ok (.imul, 1) := by decide +kernel
theorem dX6_lay_110 : decode cX6_lay 110 = .ok (.if_icmp .ge 207, 3) := by decide +kernel
theorem dX6_lay_113 : decode cX6_lay 113 = .ok (.iload_n 3, 1) := by decide +kernel
theorem dX6_lay_114 : decode cX6_lay 114 = .ok (.iload_n 1, 1) := by decide +kernel
theorem dX6_lay_115 : decode cX6_lay 115 = .ok (.irem, 1) := by decide +kernel
theorem dX6_lay_116 : decode cX6_lay 116 = .ok (.istore 4, 2) := by decide +kernel
theorem dX6_lay_118 : decode cX6_lay 118 = .ok (.iload_n 3, 1) := by decide +kernel
theorem dX6_lay_119 : decode cX6_lay 119 = .ok (.iload_n 1, 1) := by decide +kernel
theorem dX6_lay_120 : decode cX6_lay 120 = .ok (.idiv, 1) := by decide +kernel
theorem dX6_lay_121 : decode cX6_lay 121 = .ok (.istore 5, 2) := by decide +kernel
theorem dX6_lay_123 : decode cX6_lay 123 = .ok (.aload_n 0, 1) := by decide +kernel
theorem dX6_lay_124 : decode cX6_lay 124 = .ok (.getfield 9, 3) := by decide +kernel
theorem dX6_lay_127 : decode cX6_lay 127 = .ok (.sipush 1600, 3) := by decide +kernel
theorem dX6_lay_130 : decode cX6_lay 130 = .ok (.iload_n 3, 1) := by decide +kernel
theorem dX6_lay_131 : decode cX6_lay 131 = .ok (.iadd, 1) := by decide +kernel
theorem dX6_lay_132 : decode cX6_lay 132 = .ok (.bipush 100, 2) := by decide +kernel
theorem dX6_lay_134 : decode cX6_lay 134 = .ok (.iastore, 1) := by decide +kernel
theorem dX6_lay_135 : decode cX6_lay 135 = .ok (.aload_n 0, 1) := by decide +kernel
theorem dX6_lay_136 : decode cX6_lay 136 = .ok (.getfield 9, 3) := by decide +kernel
theorem dX6_lay_139 : decode cX6_lay 139 = .ok (.sipush 1648, 3) := by decide +kernel
theorem dX6_lay_142 : decode cX6_lay 142 = .ok (.iload_n 3, 1) := by decide +kernel
theorem dX6_lay_143 : decode cX6_lay 143 = .ok (.iadd, 1) := by decide +kernel
theorem dX6_lay_144 : decode cX6_lay 144 = .ok (.bipush 6, 2) := by decide +kernel
theorem dX6_lay_146 : decode cX6_lay 146 = .ok (.iastore, 1) := by decide +kernel
theorem dX6_lay_147 : decode cX6_lay 147 = .ok (.iconst 0, 1) := by decide +kernel
theorem dX6_lay_148 : decode cX6_lay 148 = .ok (.istore 6, 2) := by decide +kernel
theorem dX6_lay_150 : decode cX6_lay 150 = .ok (.iload 6, 2) := by decide +kernel
theorem dX6_lay_152 : decode cX6_lay 152 = .ok (.bipush 6, 2) := by decide +kernel
theorem dX6_lay_154 : decode cX6_lay 154 = .ok (.if_icmp .ge 157, 3) := by decide +kernel
theorem dX6_lay_157 : decode cX6_lay 157 = .ok (.iload_n 1, 1) := by decide +kernel
theorem dX6_lay_158 : decode cX6_lay 158 = .ok (.iload_n 2, 1) := by decide +kernel
theorem dX6_lay_159 : decode cX6_lay 159 = .ok (.iload 4, 2) := by decide +kernel
theorem dX6_lay_161 : decode cX6_lay 161 = .ok (.iload 5, 2) := by decide +kernel
theorem dX6_lay_163 : decode cX6_lay 163 = .ok (.iload 6, 2) := by decide +kernel
theorem dX6_lay_165 : decode cX6_lay 165 = .ok (.aload_n 0, 1) := by decide +kernel
theorem dX6_lay_166 : decode cX6_lay 166 = .ok (.getfield 25, 3) := by decide +kernel
theorem dX6_lay_169 : decode cX6_lay 169 = .ok (.iload 6, 2) := by decide +kernel
theorem dX6_lay_171 : decode cX6_lay 171 = .ok (.iaload, 1) := by decide +kernel
theorem dX6_lay_172 : decode cX6_lay 172 = .ok (.aload_n 0, 1) := by decide +kernel
theorem dX6_lay_173 : decode cX6_lay 173 = .ok (.getfield 28, 3) := by decide +kernel
theorem dX6_lay_176 : decode cX6_lay 176 = .ok (.iload 6, 2) := by decide +kernel
theorem dX6_lay_178 : decode cX6_lay 178 = .ok (.iaload, 1) := by decide +kernel
theorem dX6_lay_179 : decode cX6_lay 179 = .ok (.invokestatic 60, 3) := by decide +kernel
theorem dX6_lay_182 : decode cX6_lay 182 = .ok (.istore 7, 2) := by decide +kernel
theorem dX6_lay_184 : decode cX6_lay 184 = .ok (.iload 6, 2) := by decide +kernel
theorem dX6_lay_186 : decode cX6_lay 186 = .ok (.iconst 1, 1) := by decide +kernel
theorem dX6_lay_187 : decode cX6_lay 187 = .ok (.iadd, 1) := by decide +kernel
theorem dX6_lay_188 : decode cX6_lay 188 = .ok (.bipush 6, 2) := by decide +kernel
theorem dX6_lay_190 : decode cX6_lay 190 = .ok (.irem, 1) := by decide +kernel
theorem dX6_lay_191 : decode cX6_lay 191 = .ok (.istore 8, 2) := by decide +kernel
theorem dX6_lay_193 : decode cX6_lay 193 = .ok (.iload_n 1, 1) := by decide +kernel
theorem dX6_lay_194 : decode cX6_lay 194 = .ok (.iload_n 2, 1) := by decide +kernel
theorem dX6_lay_195 : decode cX6_lay 195 = .ok (.iload 4, 2) := by decide +kernel
theorem dX6_lay_197 : decode cX6_lay 197 = .ok (.iload 5, 2) := by decide +kernel
theorem dX6_lay_199 : decode cX6_lay 199 = .ok (.iload 8, 2) := by decide +kernel
theorem dX6_lay_201 : decode cX6_lay 201 = .ok (.aload_n 0, 1) := by decide +kernel
theorem dX6_lay_202 : decode cX6_lay 202 = .ok (.getfield 25, 3) := by decide +kernel
theorem dX6_lay_205 : decode cX6_lay 205 = .ok (.iload 8, 2) := by decide +kernel
theorem dX6_lay_207 : decode cX6_lay 207 = .ok (.iaload, 1) := by decide +kernel
theorem dX6_lay_208 : decode cX6_lay 208 = .ok (.aload_n 0, 1) := by decide +kernel
theorem dX6_lay_209 : decode cX6_lay 209 = .ok (.getfield 28, 3) := by decide +kernel
theorem dX6_lay_212 : decode cX6_lay 212 = .ok (.iload 8, 2) := by decide +kernel
theorem dX6_lay_214 : decode cX6_lay 214 = .ok (.iaload, 1) := by decide +kernel
theorem dX6_lay_215 : decode cX6_lay 215 = .ok (.invokestatic 60, 3) := by decide +kernel
theorem dX6_lay_218 : decode cX6_lay 218 = .ok (.istore 9, 2) := by decide +kernel
theorem dX6_lay_220 : decode cX6_lay 220 = .ok (.aload_n 0, 1) := by decide +kernel
theorem dX6_lay_221 : decode cX6_lay 221 = .ok (.getfield 9, 3) := by decide +kernel
theorem dX6_lay_224 : decode cX6_lay 224 = .ok (.bipush 16, 2) := by decide +kernel
theorem dX6_lay_226 : decode cX6_lay 226 = .ok (.iload 7, 2) := by decide +kernel
theorem dX6_lay_228 : decode cX6_lay 228 = .ok (.iadd, 1) := by decide +kernel
theorem dX6_lay_229 : decode cX6_lay 229 = .ok (.iload 9, 2) := by decide +kernel
theorem dX6_lay_231 : decode cX6_lay 231 = .ok (.iastore, 1) := by decide +kernel
theorem dX6_lay_232 : decode cX6_lay 232 = .ok (.aload_n 0, 1) := by decide +kernel
theorem dX6_lay_233 : decode cX6_lay 233 = .ok (.getfield 9, 3) := by decide +kernel
theorem dX6_lay_236 : decode cX6_lay 236 = .ok (.sipush 304, 3) := by decide +kernel
theorem dX6_lay_239 : decode cX6_lay 239 = .ok (.iload 9, 2) := by decide +kernel
theorem dX6_lay_241 : decode cX6_lay 241 = .ok (.iadd, 1) := by decide +kernel
theorem dX6_lay_242 : decode cX6_lay 242 = .ok (.iload 7, 2) := by decide +kernel
theorem dX6_lay_244 : decode cX6_lay 244 = .ok (.iastore, 1) := by decide +kernel
theorem dX6_lay_245 : decode cX6_lay 245 = .ok (.aload_n 0, 1) := by decide +kernel
theorem dX6_lay_246 : decode cX6_lay 246 = .ok (.getfield 9, 3) := by decide +kernel
theorem dX6_lay_249 : decode cX6_lay 249 = .ok (.sipush 592, 3) := by decide +kernel
theorem dX6_lay_252 : decode cX6_lay 252 = .ok (.iload 7, 2) := by decide +kernel
theorem dX6_lay_254 : decode cX6_lay 254 = .ok (.iadd, 1) := by decide +kernel
theorem dX6_lay_255 : decode cX6_lay 255 = .ok (.iload_n 3, 1) := by decide +kernel
theorem dX6_lay_256 : decode cX6_lay 256 = .ok (.iastore, 1) := by decide +kernel
theorem dX6_lay_257 : decode cX6_lay 257 = .ok (.aload_n 0, 1) := by decide +kernel
theorem dX6_lay_258 : decode cX6_lay 258 = .ok (.getfield 9, 3) := by decide +kernel
theorem dX6_lay_261 : decode cX6_lay 261 = .ok (.sipush 880, 3) := by decide +kernel
theorem dX6_lay_264 : decode cX6_lay 264 = .ok (.iload 7, 2) := by decide +kernel
theorem dX6_lay_266 : decode cX6_lay 266 = .ok (.iadd, 1) := by decide +kernel
theorem dX6_lay_267 : decode cX6_lay 267 = .ok (.aload_n 0, 1) := by decide +kernel
theorem dX6_lay_268 : decode cX6_lay 268 = .ok (.getfield 25, 3) := by decide +kernel
theorem dX6_lay_271 : decode cX6_lay 271 = .ok (.iload 6, 2) := by decide +kernel
theorem dX6_lay_273 : decode cX6_lay 273 = .ok (.iaload, 1) := by decide +kernel
theorem dX6_lay_274 : decode cX6_lay 274 = .ok (.iload 4, 2) := by decide +kernel
theorem dX6_lay_276 : decode cX6_lay 276 = .ok (.iload_n 1, 1) := by decide +kernel
theorem dX6_lay_277 : decode cX6_lay 277 = .ok (.invokestatic 64, 3) := by decide +kernel
theorem dX6_lay_280 : decode cX6_lay 280 = .ok (.iastore, 1) := by decide +kernel
theorem dX6_lay_281 : decode cX6_lay 281 = .ok (.aload_n 0, 1) := by decide +kernel
theorem dX6_lay_282 : decode cX6_lay 282 = .ok (.getfield 9, 3) := by decide +kernel
theorem dX6_lay_285 : decode cX6_lay 285 = .ok (.sipush 1168, 3) := by decide +kernel
theorem dX6_lay_288 : decode cX6_lay 288 = .ok (.iload 7, 2) := by decide +kernel
theorem dX6_lay_290 : decode cX6_lay 290 = .ok (.iadd, 1) := by decide +kernel
theorem dX6_lay_291 : decode cX6_lay 291 = .ok (.aload_n 0, 1) := by decide +kernel
theorem dX6_lay_292 : decode cX6_lay 292 = .ok (.getfield 28, 3) := by decide +kernel
theorem dX6_lay_295 : decode cX6_lay 295 = .ok (.iload 6, 2) := by decide +kernel
theorem dX6_lay_297 : decode cX6_lay 297 = .ok (.iaload, 1) := by decide +kernel
theorem dX6_lay_298 : decode cX6_lay 298 = .ok (.iload 5, 2) := by decide +kernel
theorem dX6_lay_300 : decode cX6_lay 300 = .ok (.iload_n 2, 1) := by decide +kernel
theorem dX6_lay_301 : decode cX6_lay 301 = .ok (.invokestatic 64, 3) := by decide +kernel
theorem dX6_lay_304 : decode cX6_lay 304 = .ok (.iastore, 1) := by decide +kernel
theorem dX6_lay_305 : decode cX6_lay 305 = .ok (.iinc 6 1, 3) := by decide +kernel
theorem dX6_lay_308 : decode cX6_lay 308 = .ok (.goto (-158), 3) := by decide +kernel
theorem dX6_lay_311 : decode cX6_lay 311 = .ok (.iinc 3 1, 3) := by decide +kernel
theorem dX6_lay_314 : decode cX6_lay 314 = .ok (.goto (-208), 3) := by decide +kernel
theorem dX6_lay_317 : decode cX6_lay 317 = .ok (.return_, 1) := by decide +kernel
theorem dX6_ring_0 : decode cX6_ring 0 = .ok (.aload_n 0, 1) := by decide +kernel
theorem dX6_ring_1 : decode cX6_ring 1 = .ok (.iconst 0, 1) := by decide +kernel
theorem dX6_ring_2 : decode cX6_ring 2 = .ok (.putfield 44, 3) := by decide +kernel
theorem dX6_ring_5 : decode cX6_ring 5 = .ok (.iload_n 1, 1) := by decide +kernel
theorem dX6_ring_6 : decode cX6_ring 6 = .ok (.i2l, 1) := by decide +kernel
theorem dX6_ring_7 : decode cX6_ring 7 = .ok (.ldc2_w 68, 3) := by decide +kernel
theorem dX6_ring_10 : decode cX6_ring 10 = .ok (.ldc2_w 70, 3) := by decide +kernel
theorem dX6_ring_13 : decode cX6_ring 13 = .ok (.invokestatic 48, 3) := by decide +kernel
theorem dX6_ring_16 : decode cX6_ring 16 = .ok (.ifCond .eq 17, 3) := by decide +kernel
theorem dX6_ring_19 : decode cX6_ring 19 = .ok (.iload_n 2, 1) := by decide +kernel
theorem dX6_ring_20 : decode cX6_ring 20 = .ok (.i2l, 1) := by decide +kernel
theorem dX6_ring_21 : decode cX6_ring 21 = .ok (.ldc2_w 68, 3) := by decide +kernel
theorem dX6_ring_24 : decode cX6_ring 24 = .ok (.ldc2_w 70, 3) := by decide +kernel
theorem dX6_ring_27 : decode cX6_ring 27 = .ok (.invokestatic 48, 3) := by decide +kernel
theorem dX6_ring_30 : decode cX6_ring 30 = .ok (.ifCond .ne 9, 3) := by decide +kernel
theorem dX6_ring_33 : decode cX6_ring 33 = .ok (.aload_n 0, 1) := by decide +kernel
theorem dX6_ring_34 : decode cX6_ring 34 = .ok (.iconst (-1), 1) := by decide +kernel
theorem dX6_ring_35 : decode cX6_ring 35 = .ok (.invokevirtual 72, 3) := by decide +kernel
theorem dX6_ring_38 : decode cX6_ring 38 = .ok (.ireturn, 1) := by decide +kernel
theorem dX6_ring_39 : decode cX6_ring 39 = .ok (.aload_n 0, 1) := by decide +kernel
theorem dX6_ring_40 : decode cX6_ring 40 = .ok (.iload_n 1, 1) := by decide +kernel
theorem dX6_ring_41 : decode cX6_ring 41 = .ok (.iload_n 2, 1) := by decide +kernel
theorem dX6_ring_42 : decode cX6_ring 42 = .ok (.invokevirtual 40, 3) := by decide +kernel
theorem dX6_ring_45 : decode cX6_ring 45 = .ok (.iload_n 1, 1) := by decide +kernel
theorem dX6_ring_46 : decode cX6_ring 46 = .ok (.iload_n 2, 1) := by decide +kernel
theorem dX6_ring_47 : decode cX6_ring 47 = .ok (.imul, 1) := by decide +kernel
theorem dX6_ring_48 : decode cX6_ring 48 = .ok (.ireturn, 1) := by decide +kernel
theorem dX6_next_0 : decode cX6_next 0 = .ok (.aload_n 0, 1) := by decide +kernel
theorem dX6_next_1 : decode cX6_next 1 = .ok (.getfield 9, 3) := by decide +kernel
theorem dX6_next_4 : decode cX6_next 4 = .ok (.bipush 16, 2) := by decide +kernel
theorem dX6_next_6 : decode cX6_next 6 = .ok (.iload_n 1, 1) := by decide +kernel
theorem dX6_next_7 : decode cX6_next 7 = .ok (.iadd, 1) := by decide +kernel
theorem dX6_next_8 : decode cX6_next 8 = .ok (.iaload, 1) := by decide +kernel
theorem dX6_next_9 : decode cX6_next 9 = .ok (.ireturn, 1) := by decide +kernel
theorem dX6_before_0 : decode cX6_before 0 = .ok (.aload_n 0, 1) := by decide +kernel
theorem dX6_before_1 : decode cX6_before 1 = .ok (.getfield 9, 3) := by decide +kernel
theorem dX6_before_4 : decode cX6_before 4 = .ok (.sipush 304, 3) := by decide +kernel
theorem dX6_before_7 : decode cX6_before 7 = .ok (.iload_n 1, 1) := by decide +kernel
theorem dX6_before_8 : decode cX6_before 8 = .ok (.iadd, 1) := by decide +kernel
theorem dX6_before_9 : decode cX6_before 9 = .ok (.iaload, 1) := by decide +kernel
theorem dX6_before_10 : decode cX6_before 10 = .ok (.ireturn, 1) := by decide +kernel
theorem dX6_cellOf_0 : decode cX6_cellOf 0 = .ok (.aload_n 0, 1) := by decide +kernel
theorem dX6_cellOf_1 : decode cX6_cellOf 1 = .ok (.getfield 9, 3) := by decide +kernel
theorem dX6_cellOf_4 : decode cX6_cellOf 4 = .ok (.sipush 592, 3) := by decide +kernel
theorem dX6_cellOf_7 : decode cX6_cellOf 7 = .ok (.iload_n 1, 1) := by decide +kernel
theorem dX6_cellOf_8 : decode cX6_cellOf 8 = .ok (.iadd, 1) := by decide +kernel
theorem dX6_cellOf_9 : decode cX6_cellOf 9 = .ok (.iaload, 1) := by decide +kernel
theorem dX6_cellOf_10 : decode cX6_cellOf 10 = .ok (.ireturn, 1) := by decide +kernel
theorem dX6_over_0 : decode cX6_over 0 = .ok (.aload_n 0, 1) := by decide +kernel
theorem dX6_over_1 : decode cX6_over 1 = .ok (.getfield 9, 3) := by decide +kernel
theorem dX6_over_4 : decode cX6_over 4 = .ok (.sipush 592, 3) := by decide +kernel
theorem dX6_over_7 : decode cX6_over 7 = .ok (.iload_n 1, 1) := by decide +kernel
theorem dX6_over_8 : decode cX6_over 8 = .ok (.iconst 1, 1) := by decide +kernel
theorem dX6_over_9 : decode cX6_over 9 = .ok (.ixor, 1) := by decide +kernel
theorem dX6_over_10 : decode cX6_over 10 = .ok (.iadd, 1) := by decide +kernel
theorem dX6_over_11 : decode cX6_over 11 = .ok (.iaload, 1) := by decide +kernel
theorem dX6_over_12 : decode cX6_over 12 = .ok (.ireturn, 1) := by decide +kernel
theorem dX6_isCell_0 : decode cX6_isCell 0 = .ok (.iload_n 1, 1) := by decide +kernel
theorem dX6_isCell_1 : decode cX6_isCell 1 = .ok (.i2l, 1) := by decide +kernel
theorem dX6_isCell_2 : decode cX6_isCell 2 = .ok (.lconst 0, 1) := by decide +kernel
theorem dX6_isCell_3 : decode cX6_isCell 3 = .ok (.ldc2_w 76, 3) := by decide +kernel
theorem dX6_isCell_6 : decode cX6_isCell 6 = .ok (.invokestatic 48, 3) := by decide +kernel
theorem dX6_isCell_9 : decode cX6_isCell 9 = .ok (.ifCond .eq 20, 3) := by decide +kernel
theorem dX6_isCell_12 : decode cX6_isCell 12 = .ok (.aload_n 0, 1) := by decide +kernel
theorem dX6_isCell_13 : decode cX6_isCell 13 = .ok (.getfield 9, 3) := by decide +kernel
theorem dX6_isCell_16 : decode cX6_isCell 16 = .ok (.sipush 1648, 3) := by decide +kernel
theorem dX6_isCell_19 : decode cX6_isCell 19 = .ok (.iload_n 1, 1) := by decide +kernel
theorem dX6_isCell_20 : decode cX6_isCell 20 = .ok (.iadd, 1) := by decide +kernel
theorem dX6_isCell_21 : decode cX6_isCell 21 = .ok (.iaload, 1) := by decide +kernel
theorem dX6_isCell_22 : decode cX6_isCell 22 = .ok (.ifCond .le 7, 3) := by decide +kernel
theorem dX6_isCell_25 : decode cX6_isCell 25 = .ok (.iconst 1, 1) := by decide +kernel
theorem dX6_isCell_26 : decode cX6_isCell 26 = .ok (.goto 4, 3) := by decide +kernel
theorem dX6_isCell_29 : decode cX6_isCell 29 = .ok (.iconst 0, 1) := by decide +kernel
theorem dX6_isCell_30 : decode cX6_isCell 30 = .ok (.ireturn, 1) := by decide +kernel
theorem dX6_isWall_0 : decode cX6_isWall 0 = .ok (.iload_n 1, 1) := by decide +kernel
theorem dX6_isWall_1 : decode cX6_isWall 1 = .ok (.i2l, 1) := by decide +kernel
theorem dX6_isWall_2 : decode cX6_isWall 2 = .ok (.lconst 0, 1) := by decide +kernel
theorem dX6_isWall_3 : decode cX6_isWall 3 = .ok (.ldc2_w 78, 3) := by decide +kernel
theorem dX6_isWall_6 : decode cX6_isWall 6 = .ok (.invokestatic 48, 3) := by decide +kernel
theorem dX6_isWall_9 : decode cX6_isWall 9 = .ok (.ifCond .eq 21, 3) := by decide +kernel
theorem dX6_isWall_12 : decode cX6_isWall 12 = .ok (.aload_n 0, 1) := by decide +kernel
theorem dX6_isWall_13 : decode cX6_isWall 13 = .ok (.getfield 9, 3) := by decide +kernel
theorem dX6_isWall_16 : decode cX6_isWall 16 = .ok (.sipush 1456, 3) := by decide +kernel
theorem dX6_isWall_19 : decode cX6_isWall 19 = .ok (.iload_n 1, 1) := by decide +kernel
theorem dX6_isWall_20 : decode cX6_isWall 20 = .ok (.iadd, 1) := by decide +kernel
theorem dX6_isWall_21 : decode cX6_isWall 21 = .ok (.iaload, 1) := by decide +kernel
theorem dX6_isWall_22 : decode cX6_isWall 22 = .ok (.iconst (-1), 1) := by decide +kernel
theorem dX6_isWall_23 : decode cX6_isWall 23 = .ok (.if_icmp .eq 7, 3) := by decide +kernel
theorem dX6_isWall_26 : decode cX6_isWall 26 = .ok (.iconst 1, 1) := by decide +kernel
theorem dX6_isWall_27 : decode cX6_isWall 27 = .ok (.goto 4, 3) := by decide +kernel
theorem dX6_isWall_30 : decode cX6_isWall 30 = .ok (.iconst 0, 1) := by decide +kernel
theorem dX6_isWall_31 : decode cX6_isWall 31 = .ok (.ireturn, 1) := by decide +kernel
theorem dX6_sidesOf_0 : decode cX6_sidesOf 0 = .ok (.aload_n 0, 1) := by decide +kernel
theorem dX6_sidesOf_1 : decode cX6_sidesOf 1 = .ok (.getfield 9, 3) := by decide +kernel
theorem dX6_sidesOf_4 : decode cX6_sidesOf 4 = .ok (.sipush 1648, 3) := by decide +kernel
theorem dX6_sidesOf_7 : decode cX6_sidesOf 7 = .ok (.iload_n 1, 1) := by decide +kernel
theorem dX6_sidesOf_8 : decode cX6_sidesOf 8 = .ok (.iadd, 1) := by decide +kernel
theorem dX6_sidesOf_9 : decode cX6_sidesOf 9 = .ok (.iaload, 1) := by decide +kernel
theorem dX6_sidesOf_10 : decode cX6_sidesOf 10 = .ok (.ireturn, 1) := by decide +kernel
theorem dX6_firstSide_0 : decode cX6_firstSide 0 = .ok (.iconst 0, 1) := by decide +kernel
theorem dX6_firstSide_1 : decode cX6_firstSide 1 = .ok (.istore_n 2, 1) := by decide +kernel
theorem dX6_firstSide_2 : decode cX6_firstSide 2 = .ok (.iload_n 2, 1) := by decide +kernel
theorem dX6_firstSide_3 : decode cX6_firstSide 3 = .ok (.sipush 144, 3) := by decide +kernel
theorem dX6_firstSide_6 : decode cX6_firstSide 6 = .ok (.if_icmp .ge 59, 3) := by decide +kernel
theorem dX6_firstSide_9 : decode cX6_firstSide 9 = .ok (.aload_n 0, 1) := by decide +kernel
theorem dX6_firstSide_10 : decode cX6_firstSide 10 = .ok (.iload_n 2, 1) := by decide +kernel
theorem dX6_firstSide_11 : decode cX6_firstSide 11 = .ok (.invokevirtual 80, 3) := by decide +kernel
theorem dX6_firstSide_14 : decode cX6_firstSide 14 = .ok (.ifCond .eq 18, 3) := by decide +kernel
theorem dX6_firstSide_17 : decode cX6_firstSide 17 = .ok (.aload_n 0, 1) := by decide +kernel
theorem dX6_firstSide_18 : decode cX6_firstSide 18 = .ok (.iconst 2, 1) := by decide +kernel
theorem dX6_firstSide_19 : decode cX6_firstSide 19 = .ok (.iload_n 2, 1) := by decide +kernel
theorem dX6_firstSide_20 : decode cX6_firstSide 20 = .ok (.imul, 1) := by decide +kernel
theorem dX6_firstSide_21 : decode cX6_firstSide 21 = .ok (.invokevirtual 84, 3) := by decide +kernel
theorem dX6_firstSide_24 : decode cX6_firstSide 24 = .ok (.iload_n 1, 1) := by decide +kernel
theorem dX6_firstSide_25 : decode cX6_firstSide 25 = .ok (.if_icmp .ne 7, 3) := by decide +kernel
theorem dX6_firstSide_28 : decode cX6_firstSide 28 = .ok (.iconst 2, 1) := by decide +kernel
theorem dX6_firstSide_29 : decode cX6_firstSide 29 = .ok (.iload_n 2, 1) := by decide +kernel
theorem dX6_firstSide_30 : decode cX6_firstSide 30 = .ok (.imul, 1) := by decide +kernel
theorem dX6_firstSide_31 : decode cX6_firstSide 31 = .ok (.ireturn, 1) := by decide +kernel
theorem dX6_firstSide_32 : decode cX6_firstSide 32 = .ok (.aload_n 0, 1) := by decide +kernel
theorem dX6_firstSide_33 : decode cX6_firstSide 33 = .ok (.iload_n 2, 1) := by decide +kernel
theorem dX6_firstSide_34 : decode cX6_firstSide 34 = .ok (.invokevirtual 80, 3) := by decide +kernel
theorem dX6_firstSide_37 : decode cX6_firstSide 37 = .ok (.ifCond .eq 22, 3) := by decide +kernel
theorem dX6_firstSide_40 : decode cX6_firstSide 40 = .ok (.aload_n 0, 1) := by decide +kernel
theorem dX6_firstSide_41 : decode cX6_firstSide 41 = .ok (.iconst 2, 1) := by decide +kernel
theorem dX6_firstSide_42 : decode cX6_firstSide 42 = .ok (.iload_n 2, 1) := by decide +kernel
theorem dX6_firstSide_43 : decode cX6_firstSide 43 = .ok (.imul, 1) := by decide +kernel
theorem dX6_firstSide_44 : decode cX6_firstSide 44 = .ok (.iconst 1, 1) := by decide +kernel
theorem dX6_firstSide_45 : decode cX6_firstSide 45 = .ok (.iadd, 1) := by decide +kernel
theorem dX6_firstSide_46 : decode cX6_firstSide 46 = .ok (.invokevirtual 84, 3) := by decide +kernel
theorem dX6_firstSide_49 : decode cX6_firstSide 49 = .ok (.iload_n 1, 1) := by decide +kernel
theorem dX6_firstSide_50 : decode cX6_firstSide 50 = .ok (.if_icmp .ne 9, 3) := by decide +kernel
theorem dX6_firstSide_53 : decode cX6_firstSide 53 = .ok (.iconst 2, 1) := by decide +kernel
theorem dX6_firstSide_54 : decode cX6_firstSide 54 = .ok (.iload_n 2, 1) := by decide +kernel
theorem dX6_firstSide_55 : decode cX6_firstSide 55 = .ok (.imul, 1) := by decide +kernel
theorem dX6_firstSide_56 : decode cX6_firstSide 56 = .ok (.iconst 1, 1) := by decide +kernel
theorem dX6_firstSide_57 : decode cX6_firstSide 57 = .ok (.iadd, 1) := by decide +kernel
theorem dX6_firstSide_58 : decode cX6_firstSide 58 = .ok (.ireturn, 1) := by decide +kernel
theorem dX6_firstSide_59 : decode cX6_firstSide 59 = .ok (.iinc 2 1, 3) := by decide +kernel
theorem dX6_firstSide_62 : decode cX6_firstSide 62 = .ok (.goto (-60), 3) := by decide +kernel
theorem dX6_firstSide_65 : decode cX6_firstSide 65 = .ok (.iconst (-1), 1) := by decide +kernel
theorem dX6_firstSide_66 : decode cX6_firstSide 66 = .ok (.ireturn, 1) := by decide +kernel
theorem dX6_sideAt_0 : decode cX6_sideAt 0 = .ok (.aload_n 0, 1) := by decide +kernel
theorem dX6_sideAt_1 : decode cX6_sideAt 1 = .ok (.iload_n 1, 1) := by decide +kernel
theorem dX6_sideAt_2 : decode cX6_sideAt 2 = .ok (.invokevirtual 87, 3) := by decide +kernel
theorem dX6_sideAt_5 : decode cX6_sideAt 5 = .ok (.istore_n 3, 1) := by decide +kernel
theorem dX6_sideAt_6 : decode cX6_sideAt 6 = .ok (.iconst 0, 1) := by decide +kernel
theorem dX6_sideAt_7 : decode cX6_sideAt 7 = .ok (.istore 4, 2) := by decide +kernel
theorem dX6_sideAt_9 : decode cX6_sideAt 9 = .ok (.iload 4, 2) := by decide +kernel
theorem dX6_sideAt_11 : decode cX6_sideAt 11 = .ok (.iload_n 2, 1) := by decide +kernel
theorem dX6_sideAt_12 : decode cX6_sideAt 12 = .ok (.if_icmp .ge 15, 3) := by decide +kernel
theorem dX6_sideAt_15 : decode cX6_sideAt 15 = .ok (.aload_n 0, 1) := by decide +kernel
theorem dX6_sideAt_16 : decode cX6_sideAt 16 = .ok (.iload_n 3, 1) := by decide +kernel
theorem dX6_sideAt_17 : decode cX6_sideAt 17 = .ok (.invokevirtual 90, 3) := by decide +kernel
theorem dX6_sideAt_20 : decode cX6_sideAt 20 = .ok (.istore_n 3, 1) := by decide +kernel
theorem dX6_sideAt_21 : decode cX6_sideAt 21 = .ok (.iinc 4 1, 3) := by decide +kernel
theorem dX6_sideAt_24 : decode cX6_sideAt 24 = .ok (.goto (-15), 3) := by decide +kernel
theorem dX6_sideAt_27 : decode cX6_sideAt 27 = .ok (.iload_n 3, 1) := by decide +kernel
theorem dX6_sideAt_28 : decode cX6_sideAt 28 = .ok (.ireturn, 1) := by decide +kernel
theorem dX6_many_0 : decode cX6_many 0 = .ok (.iconst 0, 1) := by decide +kernel
theorem dX6_many_1 : decode cX6_many 1 = .ok (.istore_n 2, 1) := by decide +kernel
theorem dX6_many_2 : decode cX6_many 2 = .ok (.iconst 0, 1) := by decide +kernel
theorem dX6_many_3 : decode cX6_many 3 = .ok (.istore_n 3, 1) := by decide +kernel
theorem dX6_many_4 : decode cX6_many 4 = .ok (.iload_n 3, 1) := by decide +kernel
theorem dX6_many_5 : decode cX6_many 5 = .ok (.iload_n 1, 1) := by decide +kernel
theorem dX6_many_6 : decode cX6_many 6 = .ok (.ifCond .eq 8, 3) := by decide +kernel
theorem dX6_many_9 : decode cX6_many 9 = .ok (.bipush 48, 2) := by decide +kernel
theorem dX6_many_11 : decode cX6_many 11 = .ok (.goto 6, 3) := by decide +kernel
theorem dX6_many_14 : decode cX6_many 14 = .ok (.sipush 144, 3) := by decide +kernel
theorem dX6_many_17 : decode cX6_many 17 = .ok (.if_icmp .ge 45, 3) := by decide +kernel
theorem dX6_many_20 : decode cX6_many 20 = .ok (.iload_n 2, 1) := by decide +kernel
theorem dX6_many_21 : decode cX6_many 21 = .ok (.iload_n 1, 1) := by decide +kernel
theorem dX6_many_22 : decode cX6_many 22 = .ok (.ifCond .eq 19, 3) := by decide +kernel
theorem dX6_many_25 : decode cX6_many 25 = .ok (.aload_n 0, 1) := by decide +kernel
theorem dX6_many_26 : decode cX6_many 26 = .ok (.iload_n 3, 1) := by decide +kernel
theorem dX6_many_27 : decode cX6_many 27 = .ok (.invokevirtual 93, 3) := by decide +kernel
theorem dX6_many_30 : decode cX6_many 30 = .ok (.ifCond .eq 7, 3) := by decide +kernel
theorem dX6_many_33 : decode cX6_many 33 = .ok (.iconst 1, 1) := by decide +kernel
theorem dX6_many_34 : decode cX6_many 34 = .ok (.goto 20, 3) := by decide +kernel
theorem dX6_many_37 : decode cX6_many 37 = .ok (.iconst 0, 1) := by decide +kernel
theorem dX6_many_38 : decode cX6_many 38 = .ok (.goto 16, 3) := by decide +kernel
theorem dX6_many_41 : decode cX6_many 41 = .ok (.aload_n 0, 1) := by decide +kernel
theorem dX6_many_42 : decode cX6_many 42 = .ok (.iload_n 3, 1) := by decide +kernel
theorem dX6_many_43 : decode cX6_many 43 = .ok (.invokevirtual 80, 3) := by decide +kernel
theorem dX6_many_46 : decode cX6_many 46 = .ok (.ifCond .eq 7, 3) := by decide +kernel
theorem dX6_many_49 : decode cX6_many 49 = .ok (.iconst 1, 1) := by decide +kernel
theorem dX6_many_50 : decode cX6_many 50 = .ok (.goto 4, 3) := by decide +kernel
theorem dX6_many_53 : decode cX6_many 53 = .ok (.iconst 0, 1) := by decide +kernel
theorem dX6_many_54 : decode cX6_many 54 = .ok (.iadd, 1) := by decide +kernel
theorem dX6_many_55 : decode cX6_many 55 = .ok (.istore_n 2, 1) := by decide +kernel
theorem dX6_many_56 : decode cX6_many 56 = .ok (.iinc 3 1, 3) := by decide +kernel
theorem dX6_many_59 : decode cX6_many 59 = .ok (.goto (-55), 3) := by decide +kernel
theorem dX6_many_62 : decode cX6_many 62 = .ok (.iload_n 2, 1) := by decide +kernel
theorem dX6_many_63 : decode cX6_many 63 = .ok (.ireturn, 1) := by decide +kernel
theorem dX6_join_0 : decode cX6_join 0 = .ok (.aload_n 0, 1) := by decide +kernel
theorem dX6_join_1 : decode cX6_join 1 = .ok (.getfield 9, 3) := by decide +kernel
theorem dX6_join_4 : decode cX6_join 4 = .ok (.bipush 16, 2) := by decide +kernel
theorem dX6_join_6 : decode cX6_join 6 = .ok (.iload_n 1, 1) := by decide +kernel
theorem dX6_join_7 : decode cX6_join 7 = .ok (.iadd, 1) := by decide +kernel
theorem dX6_join_8 : decode cX6_join 8 = .ok (.iload_n 2, 1) := by decide +kernel
theorem dX6_join_9 : decode cX6_join 9 = .ok (.iastore, 1) := by decide +kernel
theorem dX6_join_10 : decode cX6_join 10 = .ok (.aload_n 0, 1) := by decide +kernel
theorem dX6_join_11 : decode cX6_join 11 = .ok (.getfield 9, 3) := by decide +kernel
theorem dX6_join_14 : decode cX6_join 14 = .ok (.sipush 304, 3) := by decide +kernel
theorem dX6_join_17 : decode cX6_join 17 = .ok (.iload_n 2, 1) := by decide +kernel
theorem dX6_join_18 : decode cX6_join 18 = .ok (.iadd, 1) := by decide +kernel
theorem dX6_join_19 : decode cX6_join 19 = .ok (.iload_n 1, 1) := by decide +kernel
theorem dX6_join_20 : decode cX6_join 20 = .ok (.iastore, 1) := by decide +kernel
theorem dX6_join_21 : decode cX6_join 21 = .ok (.return_, 1) := by decide +kernel
theorem dX6_leave_0 : decode cX6_leave 0 = .ok (.aload_n 0, 1) := by decide +kernel
theorem dX6_leave_1 : decode cX6_leave 1 = .ok (.aload_n 0, 1) := by decide +kernel
theorem dX6_leave_2 : decode cX6_leave 2 = .ok (.iload_n 1, 1) := by decide +kernel
theorem dX6_leave_3 : decode cX6_leave 3 = .ok (.invokevirtual 96, 3) := by decide +kernel
theorem dX6_leave_6 : decode cX6_leave 6 = .ok (.aload_n 0, 1) := by decide +kernel
theorem dX6_leave_7 : decode cX6_leave 7 = .ok (.iload_n 1, 1) := by decide +kernel
theorem dX6_leave_8 : decode cX6_leave 8 = .ok (.invokevirtual 90, 3) := by decide +kernel
theorem dX6_leave_11 : decode cX6_leave 11 = .ok (.invokevirtual 99, 3) := by decide +kernel
theorem dX6_leave_14 : decode cX6_leave 14 = .ok (.aload_n 0, 1) := by decide +kernel
theorem dX6_leave_15 : decode cX6_leave 15 = .ok (.getfield 9, 3) := by decide +kernel
theorem dX6_leave_18 : decode cX6_leave 18 = .ok (.sipush 1648, 3) := by decide +kernel
theorem dX6_leave_21 : decode cX6_leave 21 = .ok (.aload_n 0, 1) := by decide +kernel
theorem dX6_leave_22 : decode cX6_leave 22 = .ok (.iload_n 1, 1) := by decide +kernel
theorem dX6_leave_23 : decode cX6_leave 23 = .ok (.invokevirtual 84, 3) := by decide +kernel
theorem dX6_leave_26 : decode cX6_leave 26 = .ok (.iadd, 1) := by decide +kernel
theorem dX6_leave_27 : decode cX6_leave 27 = .ok (.dup2, 1) := by decide +kernel
theorem dX6_leave_28 : decode cX6_leave 28 = .ok (.iaload, 1) := by decide +kernel
theorem dX6_leave_29 : decode cX6_leave 29 = .ok (.iconst 1, 1) := by decide +kernel
theorem dX6_leave_30 : decode cX6_leave 30 = .ok (.isub, 1) := by decide +kernel
theorem dX6_leave_31 : decode cX6_leave 31 = .ok (.iastore, 1) := by decide +kernel
theorem dX6_leave_32 : decode cX6_leave 32 = .ok (.return_, 1) := by decide +kernel
theorem dX6_enter_0 : decode cX6_enter 0 = .ok (.aload_n 0, 1) := by decide +kernel
theorem dX6_enter_1 : decode cX6_enter 1 = .ok (.iload_n 2, 1) := by decide +kernel
theorem dX6_enter_2 : decode cX6_enter 2 = .ok (.invokevirtual 90, 3) := by decide +kernel
theorem dX6_enter_5 : decode cX6_enter 5 = .ok (.istore_n 3, 1) := by decide +kernel
theorem dX6_enter_6 : decode cX6_enter 6 = .ok (.aload_n 0, 1) := by decide +kernel
theorem dX6_enter_7 : decode cX6_enter 7 = .ok (.iload_n 2, 1) := by decide +kernel
theorem dX6_enter_8 : decode cX6_enter 8 = .ok (.iload_n 1, 1) := by decide +kernel
theorem dX6_enter_9 : decode cX6_enter 9 = .ok (.invokevirtual 99, 3) := by decide +kernel
theorem dX6_enter_12 : decode cX6_enter 12 = .ok (.aload_n 0, 1) := by decide +kernel
theorem dX6_enter_13 : decode cX6_enter 13 = .ok (.iload_n 1, 1) := by decide +kernel
theorem dX6_enter_14 : decode cX6_enter 14 = .ok (.iload_n 3, 1) := by decide +kernel
theorem dX6_enter_15 : decode cX6_enter 15 = .ok (.invokevirtual 99, 3) := by decide +kernel
theorem dX6_enter_18 : decode cX6_enter 18 = .ok (.aload_n 0, 1) := by decide +kernel
theorem dX6_enter_19 : decode cX6_enter 19 = .ok (.getfield 9, 3) := by decide +kernel
theorem dX6_enter_22 : decode cX6_enter 22 = .ok (.sipush 592, 3) := by decide +kernel
theorem dX6_enter_25 : decode cX6_enter 25 = .ok (.iload_n 1, 1) := by decide +kernel
theorem dX6_enter_26 : decode cX6_enter 26 = .ok (.iadd, 1) := by decide +kernel
theorem dX6_enter_27 : decode cX6_enter 27 = .ok (.aload_n 0, 1) := by decide +kernel
theorem dX6_enter_28 : decode cX6_enter 28 = .ok (.iload_n 2, 1) := by decide +kernel
theorem dX6_enter_29 : decode cX6_enter 29 = .ok (.invokevirtual 84, 3) := by decide +kernel
theorem dX6_enter_32 : decode cX6_enter 32 = .ok (.iastore, 1) := by decide +kernel
theorem dX6_enter_33 : decode cX6_enter 33 = .ok (.aload_n 0, 1) := by decide +kernel
theorem dX6_enter_34 : decode cX6_enter 34 = .ok (.getfield 9, 3) := by decide +kernel
theorem dX6_enter_37 : decode cX6_enter 37 = .ok (.sipush 1648, 3) := by decide +kernel
theorem dX6_enter_40 : decode cX6_enter 40 = .ok (.aload_n 0, 1) := by decide +kernel
theorem dX6_enter_41 : decode cX6_enter 41 = .ok (.iload_n 1, 1) := by decide +kernel
theorem dX6_enter_42 : decode cX6_enter 42 = .ok (.invokevirtual 84, 3) := by decide +kernel
theorem dX6_enter_45 : decode cX6_enter 45 = .ok (.iadd, 1) := by decide +kernel
theorem dX6_enter_46 : decode cX6_enter 46 = .ok (.dup2, 1) := by decide +kernel
theorem dX6_enter_47 : decode cX6_enter 47 = .ok (.iaload, 1) := by decide +kernel
theorem dX6_enter_48 : decode cX6_enter 48 = .ok (.iconst 1, 1) := by decide +kernel
theorem dX6_enter_49 : decode cX6_enter 49 = .ok (.iadd, 1) := by decide +kernel
theorem dX6_enter_50 : decode cX6_enter 50 = .ok (.iastore, 1) := by decide +kernel
theorem dX6_enter_51 : decode cX6_enter 51 = .ok (.return_, 1) := by decide +kernel
theorem dX6_counts_0 : decode cX6_counts 0 = .ok (.aload_n 0, 1) := by decide +kernel
theorem dX6_counts_1 : decode cX6_counts 1 = .ok (.getfield 9, 3) := by decide +kernel
theorem dX6_counts_4 : decode cX6_counts 4 = .ok (.sipush 880, 3) := by decide +kernel
theorem dX6_counts_7 : decode cX6_counts 7 = .ok (.iload_n 1, 1) := by decide +kernel
theorem dX6_counts_8 : decode cX6_counts 8 = .ok (.iadd, 1) := by decide +kernel
theorem dX6_counts_9 : decode cX6_counts 9 = .ok (.iload_n 2, 1) := by decide +kernel
theorem dX6_counts_10 : decode cX6_counts 10 = .ok (.iastore, 1) := by decide +kernel
theorem dX6_counts_11 : decode cX6_counts 11 = .ok (.aload_n 0, 1) := by decide +kernel
theorem dX6_counts_12 : decode cX6_counts 12 = .ok (.getfield 9, 3) := by decide +kernel
theorem dX6_counts_15 : decode cX6_counts 15 = .ok (.sipush 1168, 3) := by decide +kernel
theorem dX6_counts_18 : decode cX6_counts 18 = .ok (.iload_n 1, 1) := by decide +kernel
theorem dX6_counts_19 : decode cX6_counts 19 = .ok (.iadd, 1) := by decide +kernel
theorem dX6_counts_20 : decode cX6_counts 20 = .ok (.iload_n 3, 1) := by decide +kernel
theorem dX6_counts_21 : decode cX6_counts 21 = .ok (.iastore, 1) := by decide +kernel
theorem dX6_counts_22 : decode cX6_counts 22 = .ok (.aload_n 0, 1) := by decide +kernel
theorem dX6_counts_23 : decode cX6_counts 23 = .ok (.getfield 9, 3) := by decide +kernel
theorem dX6_counts_26 : decode cX6_counts 26 = .ok (.sipush 880, 3) := by decide +kernel
theorem dX6_counts_29 : decode cX6_counts 29 = .ok (.iload_n 1, 1) := by decide +kernel
theorem dX6_counts_30 : decode cX6_counts 30 = .ok (.iconst 1, 1) := by decide +kernel
theorem dX6_counts_31 : decode cX6_counts 31 = .ok (.ixor, 1) := by decide +kernel
theorem dX6_counts_32 : decode cX6_counts 32 = .ok (.iadd, 1) := by decide +kernel
theorem dX6_counts_33 : decode cX6_counts 33 = .ok (.iload_n 2, 1) := by decide +kernel
theorem dX6_counts_34 : decode cX6_counts 34 = .ok (.ineg, 1) := by decide +kernel
theorem dX6_counts_35 : decode cX6_counts 35 = .ok (.iastore, 1) := by decide +kernel
theorem dX6_counts_36 : decode cX6_counts 36 = .ok (.aload_n 0, 1) := by decide +kernel
theorem dX6_counts_37 : decode cX6_counts 37 = .ok (.getfield 9, 3) := by decide +kernel
theorem dX6_counts_40 : decode cX6_counts 40 = .ok (.sipush 1168, 3) := by decide +kernel
theorem dX6_counts_43 : decode cX6_counts 43 = .ok (.iload_n 1, 1) := by decide +kernel
theorem dX6_counts_44 : decode cX6_counts 44 = .ok (.iconst 1, 1) := by decide +kernel
theorem dX6_counts_45 : decode cX6_counts 45 = .ok (.ixor, 1) := by decide +kernel
theorem dX6_counts_46 : decode cX6_counts 46 = .ok (.iadd, 1) := by decide +kernel
theorem dX6_counts_47 : decode cX6_counts 47 = .ok (.iload_n 3, 1) := by decide +kernel
theorem dX6_counts_48 : decode cX6_counts 48 = .ok (.ineg, 1) := by decide +kernel
theorem dX6_counts_49 : decode cX6_counts 49 = .ok (.iastore, 1) := by decide +kernel
theorem dX6_counts_50 : decode cX6_counts 50 = .ok (.return_, 1) := by decide +kernel
theorem dX6_notes_0 : decode cX6_notes 0 = .ok (.aload_n 0, 1) := by decide +kernel
theorem dX6_notes_1 : decode cX6_notes 1 = .ok (.getfield 9, 3) := by decide +kernel
theorem dX6_notes_4 : decode cX6_notes 4 = .ok (.bipush 8, 2) := by decide +kernel
theorem dX6_notes_6 : decode cX6_notes 6 = .ok (.iaload, 1) := by decide +kernel
theorem dX6_notes_7 : decode cX6_notes 7 = .ok (.bipush 30, 2) := by decide +kernel
theorem dX6_notes_9 : decode cX6_notes 9 = .ok (.if_icmp .ne 55, 3) := by decide +kernel
theorem dX6_notes_12 : decode cX6_notes 12 = .ok (.aload_n 0, 1) := by decide +kernel
theorem dX6_notes_13 : decode cX6_notes 13 = .ok (.getfield 9, 3) := by decide +kernel
theorem dX6_notes_16 : decode cX6_notes 16 = .ok (.bipush 8, 2) := by decide +kernel
theorem dX6_notes_18 : decode cX6_notes 18 = .ok (.dup2, 1) := by decide +kernel
theorem dX6_notes_19 : decode cX6_notes 19 = .ok (.iaload, 1) := by decide +kernel
theorem dX6_notes_20 : decode cX6_notes 20 = .ok (.iconst 1, 1) := by decide +kernel
theorem dX6_notes_21 : decode cX6_notes 21 = .ok (.isub, 1) := by decide +kernel
theorem dX6_notes_22 : decode cX6_notes 22 = .ok (.iastore, 1) := by decide +kernel
theorem dX6_notes_23 : decode cX6_notes 23 = .ok (.sipush 1696, 3) := by decide +kernel
theorem dX6_notes_26 : decode cX6_notes 26 = .ok (.istore_n 3, 1) := by decide +kernel
theorem dX6_notes_27 : decode cX6_notes 27 = .ok (.iload_n 3, 1) := by decide +kernel
theorem dX6_notes_28 : decode cX6_notes 28 = .ok (.sipush 1696, 3) := by decide +kernel
theorem dX6_notes_31 : decode cX6_notes 31 = .ok (.iconst 3, 1) := by decide +kernel
theorem dX6_notes_32 : decode cX6_notes 32 = .ok (.aload_n 0, 1) := by decide +kernel
theorem dX6_notes_33 : decode cX6_notes 33 = .ok (.getfield 9, 3) := by decide +kernel
theorem dX6_notes_36 : decode cX6_notes 36 = .ok (.bipush 8, 2) := by decide +kernel
theorem dX6_notes_38 : decode cX6_notes 38 = .ok (.iaload, 1) := by decide +kernel
theorem dX6_notes_39 : decode cX6_notes 39 = .ok (.imul, 1) := by decide +kernel
theorem dX6_notes_40 : decode cX6_notes 40 = .ok (.iadd, 1) := by decide +kernel
theorem dX6_notes_41 : decode cX6_notes 41 = .ok (.if_icmp .ge 23, 3) := by decide +kernel
theorem dX6_notes_44 : decode cX6_notes 44 = .ok (.aload_n 0, 1) := by decide +kernel
theorem dX6_notes_45 : decode cX6_notes 45 = .ok (.getfield 9, 3) := by decide +kernel
theorem dX6_notes_48 : decode cX6_notes 48 = .ok (.iload_n 3, 1) := by decide +kernel
theorem dX6_notes_49 : decode cX6_notes 49 = .ok (.aload_n 0, 1) := by decide +kernel
theorem dX6_notes_50 : decode cX6_notes 50 = .ok (.getfield 9, 3) := by decide +kernel
theorem dX6_notes_53 : decode cX6_notes 53 = .ok (.iload_n 3, 1) := by decide +kernel
theorem dX6_notes_54 : decode cX6_notes 54 = .ok (.iconst 3, 1) := by decide +kernel
theorem dX6_notes_55 : decode cX6_notes 55 = .ok (.iadd, 1) := by decide +kernel
theorem dX6_notes_56 : decode cX6_notes 56 = .ok (.iaload, 1) := by decide +kernel
theorem dX6_notes_57 : decode cX6_notes 57 = .ok (.iastore, 1) := by decide +kernel
theorem dX6_notes_58 : decode cX6_notes 58 = .ok (.iinc 3 1, 3) := by decide +kernel
theorem dX6_notes_61 : decode cX6_notes 61 = .ok (.goto (-34), 3) := by decide +kernel
theorem dX6_notes_64 : decode cX6_notes 64 = .ok (.sipush 1696, 3) := by decide +kernel
theorem dX6_notes_67 : decode cX6_notes 67 = .ok (.iconst 3, 1) := by decide +kernel
theorem dX6_notes_68 : decode cX6_notes 68 = .ok (.aload_n 0, 1) := by decide +kernel
theorem dX6_notes_69 : decode cX6_notes 69 = .ok (.getfield 9, 3) := by decide +kernel
theorem dX6_notes_72 : decode cX6_notes 72 = .ok (.bipush 8, 2) := by decide +kernel
theorem dX6_notes_74 : decode cX6_notes 74 = .ok (.iaload, 1) := by decide +kernel
theorem dX6_notes_75 : decode cX6_notes 75 = .ok (.imul, 1) := by decide +kernel
theorem dX6_notes_76 : decode cX6_notes 76 = .ok (.iadd, 1) := by decide +kernel
theorem dX6_notes_77 : decode cX6_notes 77 = .ok (.istore_n 3, 1) := by decide +kernel
theorem dX6_notes_78 : decode cX6_notes 78 = .ok (.aload_n 0, 1) := by decide +kernel
theorem dX6_notes_79 : decode cX6_notes 79 = .ok (.getfield 9, 3) := by decide +kernel
theorem dX6_notes_82 : decode cX6_notes 82 = .ok (.iload_n 3, 1) := by decide +kernel
theorem dX6_notes_83 : decode cX6_notes 83 = .ok (.iload_n 1, 1) := by decide +kernel
theorem dX6_notes_84 : decode cX6_notes 84 = .ok (.iastore, 1) := by decide +kernel
theorem dX6_notes_85 : decode cX6_notes 85 = .ok (.aload_n 0, 1) := by decide +kernel
theorem dX6_notes_86 : decode cX6_notes 86 = .ok (.getfield 9, 3) := by decide +kernel
theorem dX6_notes_89 : decode cX6_notes 89 = .ok (.iload_n 3, 1) := by decide +kernel
theorem dX6_notes_90 : decode cX6_notes 90 = .ok (.iconst 1, 1) := by decide +kernel
theorem dX6_notes_91 : decode cX6_notes 91 = .ok (.iadd, 1) := by decide +kernel
theorem dX6_notes_92 : decode cX6_notes 92 = .ok (.aload_n 0, 1) := by decide +kernel
theorem dX6_notes_93 : decode cX6_notes 93 = .ok (.getfield 9, 3) := by decide +kernel
theorem dX6_notes_96 : decode cX6_notes 96 = .ok (.iconst 3, 1) := by decide +kernel
theorem dX6_notes_97 : decode cX6_notes 97 = .ok (.iaload, 1) := by decide +kernel
theorem dX6_notes_98 : decode cX6_notes 98 = .ok (.aload_n 0, 1) := by decide +kernel
theorem dX6_notes_99 : decode cX6_notes 99 = .ok (.getfield 102, 3) := by decide +kernel
theorem dX6_notes_102 : decode cX6_notes 102 = .ok (.iadd, 1) := by decide +kernel
theorem dX6_notes_103 : decode cX6_notes 103 = .ok (.iastore, 1) := by decide +kernel
theorem dX6_notes_104 : decode cX6_notes 104 = .ok (.aload_n 0, 1) := by decide +kernel
theorem dX6_notes_105 : decode cX6_notes 105 = .ok (.getfield 9, 3) := by decide +kernel
theorem dX6_notes_108 : decode cX6_notes 108 = .ok (.iload_n 3, 1) := by decide +kernel
theorem dX6_notes_109 : decode cX6_notes 109 = .ok (.iconst 2, 1) := by decide +kernel
theorem dX6_notes_110 : decode cX6_notes 110 = .ok (.iadd, 1) := by decide +kernel
theorem dX6_notes_111 : decode cX6_notes 111 = .ok (.iload_n 2, 1) := by decide +kernel
theorem dX6_notes_112 : decode cX6_notes 112 = .ok (.iastore, 1) := by decide +kernel
theorem dX6_notes_113 : decode cX6_notes 113 = .ok (.aload_n 0, 1) := by decide +kernel
theorem dX6_notes_114 : decode cX6_notes 114 = .ok (.getfield 9, 3) := by decide +kernel
theorem dX6_notes_117 : decode cX6_notes 117 = .ok (.bipush 8, 2) := by decide +kernel
theorem dX6_notes_119 : decode cX6_notes 119 = .ok (.dup2, 1) := by decide +kernel
theorem dX6_notes_120 : decode cX6_notes 120 = .ok (.iaload, 1) := by decide +kernel
theorem dX6_notes_121 : decode cX6_notes 121 = .ok (.iconst 1, 1) := by decide +kernel
theorem dX6_notes_122 : decode cX6_notes 122 = .ok (.iadd, 1) := by decide +kernel
theorem dX6_notes_123 : decode cX6_notes 123 = .ok (.iastore, 1) := by decide +kernel
theorem dX6_notes_124 : decode cX6_notes 124 = .ok (.return_, 1) := by decide +kernel
theorem dX6_areFour_0 : decode cX6_areFour 0 = .ok (.iload_n 0, 1) := by decide +kernel
theorem dX6_areFour_1 : decode cX6_areFour 1 = .ok (.iload_n 1, 1) := by decide +kernel
theorem dX6_areFour_2 : decode cX6_areFour 2 = .ok (.if_icmp .eq 32, 3) := by decide +kernel
theorem dX6_areFour_5 : decode cX6_areFour 5 = .ok (.iload_n 0, 1) := by decide +kernel
theorem dX6_areFour_6 : decode cX6_areFour 6 = .ok (.iload_n 2, 1) := by decide +kernel
theorem dX6_areFour_7 : decode cX6_areFour 7 = .ok (.if_icmp .eq 27, 3) := by decide +kernel
theorem dX6_areFour_10 : decode cX6_areFour 10 = .ok (.iload_n 0, 1) := by decide +kernel
theorem dX6_areFour_11 : decode cX6_areFour 11 = .ok (.iload_n 3, 1) := by decide +kernel
theorem dX6_areFour_12 : decode cX6_areFour 12 = .ok (.if_icmp .eq 22, 3) := by decide +kernel
theorem dX6_areFour_15 : decode cX6_areFour 15 = .ok (.iload_n 1, 1) := by decide +kernel
theorem dX6_areFour_16 : decode cX6_areFour 16 = .ok (.iload_n 2, 1) := by decide +kernel
theorem dX6_areFour_17 : decode cX6_areFour 17 = .ok (.if_icmp .eq 17, 3) := by decide +kernel
theorem dX6_areFour_20 : decode cX6_areFour 20 = .ok (.iload_n 1, 1) := by decide +kernel
theorem dX6_areFour_21 : decode cX6_areFour 21 = .ok (.iload_n 3, 1) := by decide +kernel
theorem dX6_areFour_22 : decode cX6_areFour 22 = .ok (.if_icmp .eq 12, 3) := by decide +kernel
theorem dX6_areFour_25 : decode cX6_areFour 25 = .ok (.iload_n 2, 1) := by decide +kernel
theorem dX6_areFour_26 : decode cX6_areFour 26 = .ok (.iload_n 3, 1) := by decide +kernel
theorem dX6_areFour_27 : decode cX6_areFour 27 = .ok (.if_icmp .eq 7, 3) := by decide +kernel
theorem dX6_areFour_30 : decode cX6_areFour 30 = .ok (.iconst 1, 1) := by decide +kernel
theorem dX6_areFour_31 : decode cX6_areFour 31 = .ok (.goto 4, 3) := by decide +kernel
theorem dX6_areFour_34 : decode cX6_areFour 34 = .ok (.iconst 0, 1) := by decide +kernel
theorem dX6_areFour_35 : decode cX6_areFour 35 = .ok (.ireturn, 1) := by decide +kernel
theorem dX6_hasFour_0 : decode cX6_hasFour 0 = .ok (.iconst 2, 1) := by decide +kernel
theorem dX6_hasFour_1 : decode cX6_hasFour 1 = .ok (.iload_n 1, 1) := by decide +kernel
theorem dX6_hasFour_2 : decode cX6_hasFour 2 = .ok (.imul, 1) := by decide +kernel
theorem dX6_hasFour_3 : decode cX6_hasFour 3 = .ok (.istore_n 2, 1) := by decide +kernel
theorem dX6_hasFour_4 : decode cX6_hasFour 4 = .ok (.aload_n 0, 1) := by decide +kernel
theorem dX6_hasFour_5 : decode cX6_hasFour 5 = .ok (.iload_n 2, 1) := by decide +kernel
theorem dX6_hasFour_6 : decode cX6_hasFour 6 = .ok (.invokevirtual 84, 3) := by decide +kernel
theorem dX6_hasFour_9 : decode cX6_hasFour 9 = .ok (.aload_n 0, 1) := by decide +kernel
theorem dX6_hasFour_10 : decode cX6_hasFour 10 = .ok (.iload_n 2, 1) := by decide +kernel
theorem dX6_hasFour_11 : decode cX6_hasFour 11 = .ok (.invokevirtual 105, 3) := by decide +kernel
theorem dX6_hasFour_14 : decode cX6_hasFour 14 = .ok (.aload_n 0, 1) := by decide +kernel
theorem dX6_hasFour_15 : decode cX6_hasFour 15 = .ok (.aload_n 0, 1) := by decide +kernel
theorem dX6_hasFour_16 : decode cX6_hasFour 16 = .ok (.iload_n 2, 1) := by decide +kernel
theorem dX6_hasFour_17 : decode cX6_hasFour 17 = .ok (.invokevirtual 90, 3) := by decide +kernel
theorem dX6_hasFour_20 : decode cX6_hasFour 20 = .ok (.invokevirtual 105, 3) := by decide +kernel
theorem dX6_hasFour_23 : decode cX6_hasFour 23 = .ok (.aload_n 0, 1) := by decide +kernel
theorem dX6_hasFour_24 : decode cX6_hasFour 24 = .ok (.aload_n 0, 1) := by decide +kernel
theorem dX6_hasFour_25 : decode cX6_hasFour 25 = .ok (.iload_n 2, 1) := by decide +kernel
theorem dX6_hasFour_26 : decode cX6_hasFour 26 = .ok (.invokevirtual 96, 3) := by decide +kernel
theorem dX6_hasFour_29 : decode cX6_hasFour 29 = .ok (.invokevirtual 105, 3) := by decide +kernel
theorem dX6_hasFour_32 : decode cX6_hasFour 32 = .ok (.invokestatic 108, 3) := by decide +kernel
theorem dX6_hasFour_35 : decode cX6_hasFour 35 = .ok (.ireturn, 1) := by decide +kernel
theorem dX6_canSwap_0 : decode cX6_canSwap 0 = .ok (.iconst 2, 1) := by decide +kernel
theorem dX6_canSwap_1 : decode cX6_canSwap 1 = .ok (.iload_n 1, 1) := by decide +kernel
theorem dX6_canSwap_2 : decode cX6_canSwap 2 = .ok (.imul, 1) := by decide +kernel
theorem dX6_canSwap_3 : decode cX6_canSwap 3 = .ok (.istore_n 2, 1) := by decide +kernel
theorem dX6_canSwap_4 : decode cX6_canSwap 4 = .ok (.aload_n 0, 1) := by decide +kernel
theorem dX6_canSwap_5 : decode cX6_canSwap 5 = .ok (.iload_n 1, 1) := by decide +kernel
theorem dX6_canSwap_6 : decode cX6_canSwap 6 = .ok (.invokevirtual 80, 3) := by decide +kernel
theorem dX6_canSwap_9 : decode cX6_canSwap 9 = .ok (.ifCond .eq 41, 3) := by decide +kernel
theorem dX6_canSwap_12 : decode cX6_canSwap 12 = .ok (.aload_n 0, 1) := by decide +kernel
theorem dX6_canSwap_13 : decode cX6_canSwap 13 = .ok (.iload_n 1, 1) := by decide +kernel
theorem dX6_canSwap_14 : decode cX6_canSwap 14 = .ok (.invokevirtual 112, 3) := by decide +kernel
theorem dX6_canSwap_17 : decode cX6_canSwap 17 = .ok (.ifCond .eq 33, 3) := by decide +kernel
theorem dX6_canSwap_20 : decode cX6_canSwap 20 = .ok (.aload_n 0, 1) := by decide +kernel
theorem dX6_canSwap_21 : decode cX6_canSwap 21 = .ok (.aload_n 0, 1) := by decide +kernel
theorem dX6_canSwap_22 : decode cX6_canSwap 22 = .ok (.iload_n 2, 1) := by decide +kernel
theorem dX6_canSwap_23 : decode cX6_canSwap 23 = .ok (.invokevirtual 84, 3) := by decide +kernel
theorem dX6_canSwap_26 : decode cX6_canSwap 26 = .ok (.invokevirtual 115, 3) := by decide +kernel
theorem dX6_canSwap_29 : decode cX6_canSwap 29 = .ok (.iconst 3, 1) := by decide +kernel
theorem dX6_canSwap_30 : decode cX6_canSwap 30 = .ok (.if_icmp .le 20, 3) := by decide +kernel
theorem dX6_canSwap_33 : decode cX6_canSwap 33 = .ok (.aload_n 0, 1) := by decide +kernel
theorem dX6_canSwap_34 : decode cX6_canSwap 34 = .ok (.aload_n 0, 1) := by decide +kernel
theorem dX6_canSwap_35 : decode cX6_canSwap 35 = .ok (.iload_n 2, 1) := by decide +kernel
theorem dX6_canSwap_36 : decode cX6_canSwap 36 = .ok (.invokevirtual 105, 3) := by decide +kernel
theorem dX6_canSwap_39 : decode cX6_canSwap 39 = .ok (.invokevirtual 115, 3) := by decide +kernel
theorem dX6_canSwap_42 : decode cX6_canSwap 42 = .ok (.iconst 3, 1) := by decide +kernel
theorem dX6_canSwap_43 : decode cX6_canSwap 43 = .ok (.if_icmp .le 7, 3) := by decide +kernel
theorem dX6_canSwap_46 : decode cX6_canSwap 46 = .ok (.iconst 1, 1) := by decide +kernel
theorem dX6_canSwap_47 : decode cX6_canSwap 47 = .ok (.goto 4, 3) := by decide +kernel
theorem dX6_canSwap_50 : decode cX6_canSwap 50 = .ok (.iconst 0, 1) := by decide +kernel
theorem dX6_canSwap_51 : decode cX6_canSwap 51 = .ok (.ireturn, 1) := by decide +kernel
theorem dX6_square_0 : decode cX6_square 0 = .ok (.iload_n 0, 1) := by decide +kernel
theorem dX6_square_1 : decode cX6_square 1 = .ok (.iload_n 0, 1) := by decide +kernel
theorem dX6_square_2 : decode cX6_square 2 = .ok (.imul, 1) := by decide +kernel
theorem dX6_square_3 : decode cX6_square 3 = .ok (.ireturn, 1) := by decide +kernel
theorem dX6_turn_0 : decode cX6_turn 0 = .ok (.bipush 6, 2) := by decide +kernel
theorem dX6_turn_2 : decode cX6_turn 2 = .ok (.aload_n 0, 1) := by decide +kernel
theorem dX6_turn_3 : decode cX6_turn 3 = .ok (.iload_n 1, 1) := by decide +kernel
theorem dX6_turn_4 : decode cX6_turn 4 = .ok (.invokevirtual 115, 3) := by decide +kernel
theorem dX6_turn_7 : decode cX6_turn 7 = .ok (.isub, 1) := by decide +kernel
theorem dX6_turn_8 : decode cX6_turn 8 = .ok (.ireturn, 1) := by decide +kernel
theorem dX6_easing_0 : decode cX6_easing 0 = .ok (.iconst 2, 1) := by decide +kernel
theorem dX6_easing_1 : decode cX6_easing 1 = .ok (.iload_n 1, 1) := by decide +kernel
theorem dX6_easing_2 : decode cX6_easing 2 = .ok (.imul, 1) := by decide +kernel
theorem dX6_easing_3 : decode cX6_easing 3 = .ok (.istore_n 2, 1) := by decide +kernel
theorem dX6_easing_4 : decode cX6_easing 4 = .ok (.aload_n 0, 1) := by decide +kernel
theorem dX6_easing_5 : decode cX6_easing 5 = .ok (.aload_n 0, 1) := by decide +kernel
theorem dX6_easing_6 : decode cX6_easing 6 = .ok (.iload_n 2, 1) := by decide +kernel
theorem dX6_easing_7 : decode cX6_easing 7 = .ok (.invokevirtual 84, 3) := by decide +kernel
theorem dX6_easing_10 : decode cX6_easing 10 = .ok (.invokevirtual 118, 3) := by decide +kernel
theorem dX6_easing_13 : decode cX6_easing 13 = .ok (.istore_n 3, 1) := by decide +kernel
theorem dX6_easing_14 : decode cX6_easing 14 = .ok (.aload_n 0, 1) := by decide +kernel
theorem dX6_easing_15 : decode cX6_easing 15 = .ok (.aload_n 0, 1) := by decide +kernel
theorem dX6_easing_16 : decode cX6_easing 16 = .ok (.iload_n 2, 1) := by decide +kernel
theorem dX6_easing_17 : decode cX6_easing 17 = .ok (.invokevirtual 105, 3) := by decide +kernel
theorem dX6_easing_20 : decode cX6_easing 20 = .ok (.invokevirtual 118, 3) := by decide +kernel
theorem dX6_easing_23 : decode cX6_easing 23 = .ok (.istore 4, 2) := by decide +kernel
theorem dX6_easing_25 : decode cX6_easing 25 = .ok (.aload_n 0, 1) := by decide +kernel
theorem dX6_easing_26 : decode cX6_easing 26 = .ok (.aload_n 0, 1) := by decide +kernel
theorem dX6_easing_27 : decode cX6_easing 27 = .ok (.aload_n 0, 1) := by decide +kernel
theorem dX6_easing_28 : decode cX6_easing 28 = .ok (.iload_n 2, 1) := by decide +kernel
theorem dX6_easing_29 : decode cX6_easing 29 = .ok (.invokevirtual 90, 3) := by decide +kernel
theorem dX6_easing_32 : decode cX6_easing 32 = .ok (.invokevirtual 105, 3) := by decide +kernel
theorem dX6_easing_35 : decode cX6_easing 35 = .ok (.invokevirtual 118, 3) := by decide +kernel
theorem dX6_easing_38 : decode cX6_easing 38 = .ok (.istore 5, 2) := by decide +kernel
theorem dX6_easing_40 : decode cX6_easing 40 = .ok (.aload_n 0, 1) := by decide +kernel
theorem dX6_easing_41 : decode cX6_easing 41 = .ok (.aload_n 0, 1) := by decide +kernel
theorem dX6_easing_42 : decode cX6_easing 42 = .ok (.aload_n 0, 1) := by decide +kernel
theorem dX6_easing_43 : decode cX6_easing 43 = .ok (.iload_n 2, 1) := by decide +kernel
theorem dX6_easing_44 : decode cX6_easing 44 = .ok (.invokevirtual 96, 3) := by decide +kernel
theorem dX6_easing_47 : decode cX6_easing 47 = .ok (.invokevirtual 105, 3) := by decide +kernel
theorem dX6_easing_50 : decode cX6_easing 50 = .ok (.invokevirtual 118, 3) := by decide +kernel
theorem dX6_easing_53 : decode cX6_easing 53 = .ok (.istore 6, 2) := by decide +kernel
theorem dX6_easing_55 : decode cX6_easing 55 = .ok (.iload_n 3, 1) := by decide +kernel
theorem dX6_easing_56 : decode cX6_easing 56 = .ok (.invokestatic 121, 3) := by decide +kernel
theorem dX6_easing_59 : decode cX6_easing 59 = .ok (.iload 4, 2) := by decide +kernel
theorem dX6_easing_61 : decode cX6_easing 61 = .ok (.invokestatic 121, 3) := by decide +kernel
theorem dX6_easing_64 : decode cX6_easing 64 = .ok (.iadd, 1) := by decide +kernel
theorem dX6_easing_65 : decode cX6_easing 65 = .ok (.iload 5, 2) := by decide +kernel
theorem dX6_easing_67 : decode cX6_easing 67 = .ok (.invokestatic 121, 3) := by decide +kernel
theorem dX6_easing_70 : decode cX6_easing 70 = .ok (.iadd, 1) := by decide +kernel
theorem dX6_easing_71 : decode cX6_easing 71 = .ok (.iload 6, 2) := by decide +kernel
theorem dX6_easing_73 : decode cX6_easing 73 = .ok (.invokestatic 121, 3) := by decide +kernel
theorem dX6_easing_76 : decode cX6_easing 76 = .ok (.iadd, 1) := by decide +kernel
theorem dX6_easing_77 : decode cX6_easing 77 = .ok (.iload_n 3, 1) := by decide +kernel
theorem dX6_easing_78 : decode cX6_easing 78 = .ok (.iconst 1, 1) := by decide +kernel
theorem dX6_easing_79 : decode cX6_easing 79 = .ok (.iadd, 1) := by decide +kernel
theorem dX6_easing_80 : decode cX6_easing 80 = .ok (.invokestatic 121, 3) := by decide +kernel
theorem dX6_easing_83 : decode cX6_easing 83 = .ok (.isub, 1) := by decide +kernel
theorem dX6_easing_84 : decode cX6_easing 84 = .ok (.iload 4, 2) := by decide +kernel
theorem dX6_easing_86 : decode cX6_easing 86 = .ok (.iconst 1, 1) := by decide +kernel
theorem dX6_easing_87 : decode cX6_easing 87 = .ok (.iadd, 1) := by decide +kernel
theorem dX6_easing_88 : decode cX6_easing 88 = .ok (.invokestatic 121, 3) := by decide +kernel
theorem dX6_easing_91 : decode cX6_easing 91 = .ok (.isub, 1) := by decide +kernel
theorem dX6_easing_92 : decode cX6_easing 92 = .ok (.iload 5, 2) := by decide +kernel
theorem dX6_easing_94 : decode cX6_easing 94 = .ok (.iconst 1, 1) := by decide +kernel
theorem dX6_easing_95 : decode cX6_easing 95 = .ok (.isub, 1) := by decide +kernel
theorem dX6_easing_96 : decode cX6_easing 96 = .ok (.invokestatic 121, 3) := by decide +kernel
theorem dX6_easing_99 : decode cX6_easing 99 = .ok (.isub, 1) := by decide +kernel
theorem dX6_easing_100 : decode cX6_easing 100 = .ok (.iload 6, 2) := by decide +kernel
theorem dX6_easing_102 : decode cX6_easing 102 = .ok (.iconst 1, 1) := by decide +kernel
theorem dX6_easing_103 : decode cX6_easing 103 = .ok (.isub, 1) := by decide +kernel
theorem dX6_easing_104 : decode cX6_easing 104 = .ok (.invokestatic 121, 3) := by decide +kernel
theorem dX6_easing_107 : decode cX6_easing 107 = .ok (.isub, 1) := by decide +kernel
theorem dX6_easing_108 : decode cX6_easing 108 = .ok (.ireturn, 1) := by decide +kernel
theorem dX6_turnWall_0 : decode cX6_turnWall 0 = .ok (.iconst 2, 1) := by decide +kernel
theorem dX6_turnWall_1 : decode cX6_turnWall 1 = .ok (.iload_n 1, 1) := by decide +kernel
theorem dX6_turnWall_2 : decode cX6_turnWall 2 = .ok (.imul, 1) := by decide +kernel
theorem dX6_turnWall_3 : decode cX6_turnWall 3 = .ok (.istore_n 2, 1) := by decide +kernel
theorem dX6_turnWall_4 : decode cX6_turnWall 4 = .ok (.iload_n 2, 1) := by decide +kernel
theorem dX6_turnWall_5 : decode cX6_turnWall 5 = .ok (.iconst 1, 1) := by decide +kernel
theorem dX6_turnWall_6 : decode cX6_turnWall 6 = .ok (.iadd, 1) := by decide +kernel
theorem dX6_turnWall_7 : decode cX6_turnWall 7 = .ok (.istore_n 3, 1) := by decide +kernel
theorem dX6_turnWall_8 : decode cX6_turnWall 8 = .ok (.aload_n 0, 1) := by decide +kernel
theorem dX6_turnWall_9 : decode cX6_turnWall 9 = .ok (.iload_n 2, 1) := by decide +kernel
theorem dX6_turnWall_10 : decode cX6_turnWall 10 = .ok (.invokevirtual 90, 3) := by decide +kernel
theorem dX6_turnWall_13 : decode cX6_turnWall 13 = .ok (.iconst 1, 1) := by decide +kernel
theorem dX6_turnWall_14 : decode cX6_turnWall 14 = .ok (.ixor, 1) := by decide +kernel
theorem dX6_turnWall_15 : decode cX6_turnWall 15 = .ok (.istore 4, 2) := by decide +kernel
theorem dX6_turnWall_17 : decode cX6_turnWall 17 = .ok (.aload_n 0, 1) := by decide +kernel
theorem dX6_turnWall_18 : decode cX6_turnWall 18 = .ok (.iload_n 2, 1) := by decide +kernel
theorem dX6_turnWall_19 : decode cX6_turnWall 19 = .ok (.invokevirtual 96, 3) := by decide +kernel
theorem dX6_turnWall_22 : decode cX6_turnWall 22 = .ok (.istore 5, 2) := by decide +kernel
theorem dX6_turnWall_24 : decode cX6_turnWall 24 = .ok (.aload_n 0, 1) := by decide +kernel
theorem dX6_turnWall_25 : decode cX6_turnWall 25 = .ok (.iload_n 3, 1) := by decide +kernel
theorem dX6_turnWall_26 : decode cX6_turnWall 26 = .ok (.invokevirtual 90, 3) := by decide +kernel
theorem dX6_turnWall_29 : decode cX6_turnWall 29 = .ok (.iconst 1, 1) := by decide +kernel
theorem dX6_turnWall_30 : decode cX6_turnWall 30 = .ok (.ixor, 1) := by decide +kernel
theorem dX6_turnWall_31 : decode cX6_turnWall 31 = .ok (.istore 6, 2) := by decide +kernel
theorem dX6_turnWall_33 : decode cX6_turnWall 33 = .ok (.aload_n 0, 1) := by decide +kernel
theorem dX6_turnWall_34 : decode cX6_turnWall 34 = .ok (.getfield 9, 3) := by decide +kernel
theorem dX6_turnWall_37 : decode cX6_turnWall 37 = .ok (.sipush 880, 3) := by decide +kernel
theorem dX6_turnWall_40 : decode cX6_turnWall 40 = .ok (.iload 4, 2) := by decide +kernel
theorem dX6_turnWall_42 : decode cX6_turnWall 42 = .ok (.iadd, 1) := by decide +kernel
theorem dX6_turnWall_43 : decode cX6_turnWall 43 = .ok (.iaload, 1) := by decide +kernel
theorem dX6_turnWall_44 : decode cX6_turnWall 44 = .ok (.aload_n 0, 1) := by decide +kernel
theorem dX6_turnWall_45 : decode cX6_turnWall 45 = .ok (.getfield 9, 3) := by decide +kernel
theorem dX6_turnWall_48 : decode cX6_turnWall 48 = .ok (.sipush 880, 3) := by decide +kernel
theorem dX6_turnWall_51 : decode cX6_turnWall 51 = .ok (.iload 5, 2) := by decide +kernel
theorem dX6_turnWall_53 : decode cX6_turnWall 53 = .ok (.iadd, 1) := by decide +kernel
theorem dX6_turnWall_54 : decode cX6_turnWall 54 = .ok (.iaload, 1) := by decide +kernel
theorem dX6_turnWall_55 : decode cX6_turnWall 55 = .ok (.iadd, 1) := by decide +kernel
theorem dX6_turnWall_56 : decode cX6_turnWall 56 = .ok (.istore 7, 2) := by decide +kernel
theorem dX6_turnWall_58 : decode cX6_turnWall 58 = .ok (.aload_n 0, 1) := by decide +kernel
theorem dX6_turnWall_59 : decode cX6_turnWall 59 = .ok (.getfield 9, 3) := by decide +kernel
theorem dX6_turnWall_62 : decode cX6_turnWall 62 = .ok (.sipush 1168, 3) := by decide +kernel
theorem dX6_turnWall_65 : decode cX6_turnWall 65 = .ok (.iload 4, 2) := by decide +kernel
theorem dX6_turnWall_67 : decode cX6_turnWall 67 = .ok (.iadd, 1) := by decide +kernel
theorem dX6_turnWall_68 : decode cX6_turnWall 68 = .ok (.iaload, 1) := by decide +kernel
theorem dX6_turnWall_69 : decode cX6_turnWall 69 = .ok (.aload_n 0, 1) := by decide +kernel
theorem dX6_turnWall_70 : decode cX6_turnWall 70 = .ok (.getfield 9, 3) := by decide +kernel
theorem dX6_turnWall_73 : decode cX6_turnWall 73 = .ok (.sipush 1168, 3) := by decide +kernel
theorem dX6_turnWall_76 : decode cX6_turnWall 76 = .ok (.iload 5, 2) := by decide +kernel
theorem dX6_turnWall_78 : decode cX6_turnWall 78 = .ok (.iadd, 1) := by decide +kernel
theorem dX6_turnWall_79 : decode cX6_turnWall 79 = .ok (.iaload, 1) := by decide +kernel
theorem dX6_turnWall_80 : decode cX6_turnWall 80 = .ok (.iadd, 1) := by decide +kernel
theorem dX6_turnWall_81 : decode cX6_turnWall 81 = .ok (.istore 8, 2) := by decide +kernel
theorem dX6_turnWall_83 : decode cX6_turnWall 83 = .ok (.aload_n 0, 1) := by decide +kernel
theorem dX6_turnWall_84 : decode cX6_turnWall 84 = .ok (.iload_n 2, 1) := by decide +kernel
theorem dX6_turnWall_85 : decode cX6_turnWall 85 = .ok (.invokevirtual 124, 3) := by decide +kernel
theorem dX6_turnWall_88 : decode cX6_turnWall 88 = .ok (.aload_n 0, 1) := by decide +kernel
theorem dX6_turnWall_89 : decode cX6_turnWall 89 = .ok (.iload_n 3, 1) := by decide +kernel
theorem dX6_turnWall_90 : decode cX6_turnWall 90 = .ok (.invokevirtual 124, 3) := by decide +kernel
theorem dX6_turnWall_93 : decode cX6_turnWall 93 = .ok (.aload_n 0, 1) := by decide +kernel
theorem dX6_turnWall_94 : decode cX6_turnWall 94 = .ok (.iload_n 2, 1) := by decide +kernel
theorem dX6_turnWall_95 : decode cX6_turnWall 95 = .ok (.iload 4, 2) := by decide +kernel
theorem dX6_turnWall_97 : decode cX6_turnWall 97 = .ok (.invokevirtual 128, 3) := by decide +kernel
theorem dX6_turnWall_100 : decode cX6_turnWall 100 = .ok (.aload_n 0, 1) := by decide +kernel
theorem dX6_turnWall_101 : decode cX6_turnWall 101 = .ok (.iload_n 3, 1) := by decide +kernel
theorem dX6_turnWall_102 : decode cX6_turnWall 102 = .ok (.iload 6, 2) := by decide +kernel
theorem dX6_turnWall_104 : decode cX6_turnWall 104 = .ok (.invokevirtual 128, 3) := by decide +kernel
theorem dX6_turnWall_107 : decode cX6_turnWall 107 = .ok (.aload_n 0, 1) := by decide +kernel
theorem dX6_turnWall_108 : decode cX6_turnWall 108 = .ok (.iload_n 2, 1) := by decide +kernel
theorem dX6_turnWall_109 : decode cX6_turnWall 109 = .ok (.iload 7, 2) := by decide +kernel
theorem dX6_turnWall_111 : decode cX6_turnWall 111 = .ok (.iload 8, 2) := by decide +kernel
theorem dX6_turnWall_113 : decode cX6_turnWall 113 = .ok (.invokevirtual 131, 3) := by decide +kernel
theorem dX6_turnWall_116 : decode cX6_turnWall 116 = .ok (.aload_n 0, 1) := by decide +kernel
theorem dX6_turnWall_117 : decode cX6_turnWall 117 = .ok (.getfield 9, 3) := by decide +kernel
theorem dX6_turnWall_120 : decode cX6_turnWall 120 = .ok (.sipush 1456, 3) := by decide +kernel
theorem dX6_turnWall_123 : decode cX6_turnWall 123 = .ok (.iload_n 1, 1) := by decide +kernel
theorem dX6_turnWall_124 : decode cX6_turnWall 124 = .ok (.iadd, 1) := by decide +kernel
theorem dX6_turnWall_125 : decode cX6_turnWall 125 = .ok (.bipush 10, 2) := by decide +kernel
theorem dX6_turnWall_127 : decode cX6_turnWall 127 = .ok (.iastore, 1) := by decide +kernel
theorem dX6_turnWall_128 : decode cX6_turnWall 128 = .ok (.return_, 1) := by decide +kernel
theorem dX6_swaps_0 : decode cX6_swaps 0 = .ok (.aload_n 0, 1) := by decide +kernel
theorem dX6_swaps_1 : decode cX6_swaps 1 = .ok (.iload_n 1, 1) := by decide +kernel
theorem dX6_swaps_2 : decode cX6_swaps 2 = .ok (.invokevirtual 135, 3) := by decide +kernel
theorem dX6_swaps_5 : decode cX6_swaps 5 = .ok (.aload_n 0, 1) := by decide +kernel
theorem dX6_swaps_6 : decode cX6_swaps 6 = .ok (.getfield 9, 3) := by decide +kernel
theorem dX6_swaps_9 : decode cX6_swaps 9 = .ok (.iconst 4, 1) := by decide +kernel
theorem dX6_swaps_10 : decode cX6_swaps 10 = .ok (.dup2, 1) := by decide +kernel
theorem dX6_swaps_11 : decode cX6_swaps 11 = .ok (.iaload, 1) := by decide +kernel
theorem dX6_swaps_12 : decode cX6_swaps 12 = .ok (.iconst 1, 1) := by decide +kernel
theorem dX6_swaps_13 : decode cX6_swaps 13 = .ok (.iadd, 1) := by decide +kernel
theorem dX6_swaps_14 : decode cX6_swaps 14 = .ok (.iastore, 1) := by decide +kernel
theorem dX6_swaps_15 : decode cX6_swaps 15 = .ok (.aload_n 0, 1) := by decide +kernel
theorem dX6_swaps_16 : decode cX6_swaps 16 = .ok (.iconst 0, 1) := by decide +kernel
theorem dX6_swaps_17 : decode cX6_swaps 17 = .ok (.iload_n 1, 1) := by decide +kernel
theorem dX6_swaps_18 : decode cX6_swaps 18 = .ok (.invokevirtual 138, 3) := by decide +kernel
theorem dX6_swaps_21 : decode cX6_swaps 21 = .ok (.return_, 1) := by decide +kernel
theorem dX6_rate_0 : decode cX6_rate 0 = .ok (.aload_n 0, 1) := by decide +kernel
theorem dX6_rate_1 : decode cX6_rate 1 = .ok (.iconst 0, 1) := by decide +kernel
theorem dX6_rate_2 : decode cX6_rate 2 = .ok (.putfield 44, 3) := by decide +kernel
theorem dX6_rate_5 : decode cX6_rate 5 = .ok (.iload_n 1, 1) := by decide +kernel
theorem dX6_rate_6 : decode cX6_rate 6 = .ok (.i2l, 1) := by decide +kernel
theorem dX6_rate_7 : decode cX6_rate 7 = .ok (.lconst 0, 1) := by decide +kernel
theorem dX6_rate_8 : decode cX6_rate 8 = .ok (.ldc2_w 56, 3) := by decide +kernel
theorem dX6_rate_11 : decode cX6_rate 11 = .ok (.invokestatic 48, 3) := by decide +kernel
theorem dX6_rate_14 : decode cX6_rate 14 = .ok (.ifCond .ne 9, 3) := by decide +kernel
theorem dX6_rate_17 : decode cX6_rate 17 = .ok (.aload_n 0, 1) := by decide +kernel
theorem dX6_rate_18 : decode cX6_rate 18 = .ok (.iconst (-1), 1) := by decide +kernel
theorem dX6_rate_19 : decode cX6_rate 19 = .ok (.invokevirtual 72, 3) := by decide +kernel
theorem dX6_rate_22 : decode cX6_rate 22 = .ok (.ireturn, 1) := by decide +kernel
theorem dX6_rate_23 : decode cX6_rate 23 = .ok (.aload_n 0, 1) := by decide +kernel
theorem dX6_rate_24 : decode cX6_rate 24 = .ok (.getfield 9, 3) := by decide +kernel
theorem dX6_rate_27 : decode cX6_rate 27 = .ok (.iconst 2, 1) := by decide +kernel
theorem dX6_rate_28 : decode cX6_rate 28 = .ok (.iaload, 1) := by decide +kernel
theorem dX6_rate_29 : decode cX6_rate 29 = .ok (.istore_n 2, 1) := by decide +kernel
theorem dX6_rate_30 : decode cX6_rate 30 = .ok (.aload_n 0, 1) := by decide +kernel
theorem dX6_rate_31 : decode cX6_rate 31 = .ok (.getfield 9, 3) := by decide +kernel
theorem dX6_rate_34 : decode cX6_rate 34 = .ok (.iconst 2, 1) := by decide +kernel
theorem dX6_rate_35 : decode cX6_rate 35 = .ok (.iload_n 1, 1) := by decide +kernel
theorem dX6_rate_36 : decode cX6_rate 36 = .ok (.iastore, 1) := by decide +kernel
theorem dX6_rate_37 : decode cX6_rate 37 = .ok (.iload_n 2, 1) := by decide +kernel
theorem dX6_rate_38 : decode cX6_rate 38 = .ok (.ireturn, 1) := by decide +kernel
theorem dX6_area_0 : decode cX6_area 0 = .ok (.aload_n 0, 1) := by decide +kernel
theorem dX6_area_1 : decode cX6_area 1 = .ok (.iconst 0, 1) := by decide +kernel
theorem dX6_area_2 : decode cX6_area 2 = .ok (.putfield 44, 3) := by decide +kernel
theorem dX6_area_5 : decode cX6_area 5 = .ok (.iload_n 2, 1) := by decide +kernel
theorem dX6_area_6 : decode cX6_area 6 = .ok (.i2l, 1) := by decide +kernel
theorem dX6_area_7 : decode cX6_area 7 = .ok (.ldc2_w 141, 3) := by decide +kernel
theorem dX6_area_10 : decode cX6_area 10 = .ok (.ldc2_w 143, 3) := by decide +kernel
theorem dX6_area_13 : decode cX6_area 13 = .ok (.invokestatic 48, 3) := by decide +kernel
theorem dX6_area_16 : decode cX6_area 16 = .ok (.ifCond .ne 9, 3) := by decide +kernel
theorem dX6_area_19 : decode cX6_area 19 = .ok (.aload_n 0, 1) := by decide +kernel
theorem dX6_area_20 : decode cX6_area 20 = .ok (.iconst (-1), 1) := by decide +kernel
theorem dX6_area_21 : decode cX6_area 21 = .ok (.invokevirtual 72, 3) := by decide +kernel
theorem dX6_area_24 : decode cX6_area 24 = .ok (.ireturn, 1) := by decide +kernel
theorem dX6_area_25 : decode cX6_area 25 = .ok (.aload_n 0, 1) := by decide +kernel
theorem dX6_area_26 : decode cX6_area 26 = .ok (.iload_n 1, 1) := by decide +kernel
theorem dX6_area_27 : decode cX6_area 27 = .ok (.invokevirtual 93, 3) := by decide +kernel
theorem dX6_area_30 : decode cX6_area 30 = .ok (.ifCond .ne 10, 3) := by decide +kernel
theorem dX6_area_33 : decode cX6_area 33 = .ok (.aload_n 0, 1) := by decide +kernel
theorem dX6_area_34 : decode cX6_area 34 = .ok (.bipush (-2), 2) := by decide +kernel
theorem dX6_area_36 : decode cX6_area 36 = .ok (.invokevirtual 72, 3) := by decide +kernel
theorem dX6_area_39 : decode cX6_area 39 = .ok (.ireturn, 1) := by decide +kernel
theorem dX6_area_40 : decode cX6_area 40 = .ok (.aload_n 0, 1) := by decide +kernel
theorem dX6_area_41 : decode cX6_area 41 = .ok (.getfield 9, 3) := by decide +kernel
theorem dX6_area_44 : decode cX6_area 44 = .ok (.sipush 1600, 3) := by decide +kernel
theorem dX6_area_47 : decode cX6_area 47 = .ok (.iload_n 1, 1) := by decide +kernel
theorem dX6_area_48 : decode cX6_area 48 = .ok (.iadd, 1) := by decide +kernel
theorem dX6_area_49 : decode cX6_area 49 = .ok (.iaload, 1) := by decide +kernel
theorem dX6_area_50 : decode cX6_area 50 = .ok (.istore_n 3, 1) := by decide +kernel
theorem dX6_area_51 : decode cX6_area 51 = .ok (.aload_n 0, 1) := by decide +kernel
theorem dX6_area_52 : decode cX6_area 52 = .ok (.getfield 9, 3) := by decide +kernel
theorem dX6_area_55 : decode cX6_area 55 = .ok (.sipush 1600, 3) := by decide +kernel
theorem dX6_area_58 : decode cX6_area 58 = .ok (.iload_n 1, 1) := by decide +kernel
theorem dX6_area_59 : decode cX6_area 59 = .ok (.iadd, 1) := by decide +kernel
theorem dX6_area_60 : decode cX6_area 60 = .ok (.iload_n 2, 1) := by decide +kernel
theorem dX6_area_61 : decode cX6_area 61 = .ok (.iastore, 1) := by decide +kernel
theorem dX6_area_62 : decode cX6_area 62 = .ok (.iload_n 3, 1) := by decide +kernel
theorem dX6_area_63 : decode cX6_area 63 = .ok (.ireturn, 1) := by decide +kernel
theorem dX6_length_0 : decode cX6_length 0 = .ok (.aload_n 0, 1) := by decide +kernel
theorem dX6_length_1 : decode cX6_length 1 = .ok (.iconst 0, 1) := by decide +kernel
theorem dX6_length_2 : decode cX6_length 2 = .ok (.putfield 44, 3) := by decide +kernel
theorem dX6_length_5 : decode cX6_length 5 = .ok (.iload_n 2, 1) := by decide +kernel
theorem dX6_length_6 : decode cX6_length 6 = .ok (.i2l, 1) := by decide +kernel
theorem dX6_length_7 : decode cX6_length 7 = .ok (.lconst 0, 1) := by decide +kernel
theorem dX6_length_8 : decode cX6_length 8 = .ok (.ldc2_w 145, 3) := by decide +kernel
theorem dX6_length_11 : decode cX6_length 11 = .ok (.invokestatic 48, 3) := by decide +kernel
theorem dX6_length_14 : decode cX6_length 14 = .ok (.ifCond .ne 9, 3) := by decide +kernel
theorem dX6_length_17 : decode cX6_length 17 = .ok (.aload_n 0, 1) := by decide +kernel
theorem dX6_length_18 : decode cX6_length 18 = .ok (.iconst (-1), 1) := by decide +kernel
theorem dX6_length_19 : decode cX6_length 19 = .ok (.invokevirtual 72, 3) := by decide +kernel
theorem dX6_length_22 : decode cX6_length 22 = .ok (.ireturn, 1) := by decide +kernel
theorem dX6_length_23 : decode cX6_length 23 = .ok (.aload_n 0, 1) := by decide +kernel
theorem dX6_length_24 : decode cX6_length 24 = .ok (.iload_n 1, 1) := by decide +kernel
theorem dX6_length_25 : decode cX6_length 25 = .ok (.invokevirtual 80, 3) := by decide +kernel
theorem dX6_length_28 : decode cX6_length 28 = .ok (.ifCond .ne 10, 3) := by decide +kernel
theorem dX6_length_31 : decode cX6_length 31 = .ok (.aload_n 0, 1) := by decide +kernel
theorem dX6_length_32 : decode cX6_length 32 = .ok (.bipush (-2), 2) := by decide +kernel
theorem dX6_length_34 : decode cX6_length 34 = .ok (.invokevirtual 72, 3) := by decide +kernel
theorem dX6_length_37 : decode cX6_length 37 = .ok (.ireturn, 1) := by decide +kernel
theorem dX6_length_38 : decode cX6_length 38 = .ok (.aload_n 0, 1) := by decide +kernel
theorem dX6_length_39 : decode cX6_length 39 = .ok (.getfield 9, 3) := by decide +kernel
theorem dX6_length_42 : decode cX6_length 42 = .ok (.sipush 1456, 3) := by decide +kernel
theorem dX6_length_45 : decode cX6_length 45 = .ok (.iload_n 1, 1) := by decide +kernel
theorem dX6_length_46 : decode cX6_length 46 = .ok (.iadd, 1) := by decide +kernel
theorem dX6_length_47 : decode cX6_length 47 = .ok (.iaload, 1) := by decide +kernel
theorem dX6_length_48 : decode cX6_length 48 = .ok (.istore_n 3, 1) := by decide +kernel
theorem dX6_length_49 : decode cX6_length 49 = .ok (.aload_n 0, 1) := by decide +kernel
theorem dX6_length_50 : decode cX6_length 50 = .ok (.getfield 9, 3) := by decide +kernel
theorem dX6_length_53 : decode cX6_length 53 = .ok (.sipush 1456, 3) := by decide +kernel
theorem dX6_length_56 : decode cX6_length 56 = .ok (.iload_n 1, 1) := by decide +kernel
theorem dX6_length_57 : decode cX6_length 57 = .ok (.iadd, 1) := by decide +kernel
theorem dX6_length_58 : decode cX6_length 58 = .ok (.iload_n 2, 1) := by decide +kernel
theorem dX6_length_59 : decode cX6_length 59 = .ok (.iastore, 1) := by decide +kernel
theorem dX6_length_60 : decode cX6_length 60 = .ok (.iload_n 3, 1) := by decide +kernel
theorem dX6_length_61 : decode cX6_length 61 = .ok (.ireturn, 1) := by decide +kernel
theorem dX6_swap_0 : decode cX6_swap 0 = .ok (.aload_n 0, 1) := by decide +kernel
theorem dX6_swap_1 : decode cX6_swap 1 = .ok (.iconst 0, 1) := by decide +kernel
theorem dX6_swap_2 : decode cX6_swap 2 = .ok (.putfield 44, 3) := by decide +kernel
theorem dX6_swap_5 : decode cX6_swap 5 = .ok (.aload_n 0, 1) := by decide +kernel
theorem dX6_swap_6 : decode cX6_swap 6 = .ok (.iload_n 1, 1) := by decide +kernel
theorem dX6_swap_7 : decode cX6_swap 7 = .ok (.invokevirtual 80, 3) := by decide +kernel
theorem dX6_swap_10 : decode cX6_swap 10 = .ok (.ifCond .ne 10, 3) := by decide +kernel
theorem dX6_swap_13 : decode cX6_swap 13 = .ok (.aload_n 0, 1) := by decide +kernel
theorem dX6_swap_14 : decode cX6_swap 14 = .ok (.bipush (-2), 2) := by decide +kernel
theorem dX6_swap_16 : decode cX6_swap 16 = .ok (.invokevirtual 72, 3) := by decide +kernel
theorem dX6_swap_19 : decode cX6_swap 19 = .ok (.ireturn, 1) := by decide +kernel
theorem dX6_swap_20 : decode cX6_swap 20 = .ok (.aload_n 0, 1) := by decide +kernel
theorem dX6_swap_21 : decode cX6_swap 21 = .ok (.iload_n 1, 1) := by decide +kernel
theorem dX6_swap_22 : decode cX6_swap 22 = .ok (.invokevirtual 147, 3) := by decide +kernel
theorem dX6_swap_25 : decode cX6_swap 25 = .ok (.ifCond .ne 10, 3) := by decide +kernel
theorem dX6_swap_28 : decode cX6_swap 28 = .ok (.aload_n 0, 1) := by decide +kernel
theorem dX6_swap_29 : decode cX6_swap 29 = .ok (.bipush (-3), 2) := by decide +kernel
theorem dX6_swap_31 : decode cX6_swap 31 = .ok (.invokevirtual 72, 3) := by decide +kernel
theorem dX6_swap_34 : decode cX6_swap 34 = .ok (.ireturn, 1) := by decide +kernel
theorem dX6_swap_35 : decode cX6_swap 35 = .ok (.sipush 1000, 3) := by decide +kernel
theorem dX6_swap_38 : decode cX6_swap 38 = .ok (.aload_n 0, 1) := by decide +kernel
theorem dX6_swap_39 : decode cX6_swap 39 = .ok (.iload_n 1, 1) := by decide +kernel
theorem dX6_swap_40 : decode cX6_swap 40 = .ok (.invokevirtual 150, 3) := by decide +kernel
theorem dX6_swap_43 : decode cX6_swap 43 = .ok (.iadd, 1) := by decide +kernel
theorem dX6_swap_44 : decode cX6_swap 44 = .ok (.istore_n 2, 1) := by decide +kernel
theorem dX6_swap_45 : decode cX6_swap 45 = .ok (.aload_n 0, 1) := by decide +kernel
theorem dX6_swap_46 : decode cX6_swap 46 = .ok (.iload_n 1, 1) := by decide +kernel
theorem dX6_swap_47 : decode cX6_swap 47 = .ok (.invokevirtual 153, 3) := by decide +kernel
theorem dX6_swap_50 : decode cX6_swap 50 = .ok (.iload_n 2, 1) := by decide +kernel
theorem dX6_swap_51 : decode cX6_swap 51 = .ok (.ireturn, 1) := by decide +kernel
theorem dX6_canVanish_0 : decode cX6_canVanish 0 = .ok (.aload_n 0, 1) := by decide +kernel
theorem dX6_canVanish_1 : decode cX6_canVanish 1 = .ok (.iload_n 1, 1) := by decide +kernel
theorem dX6_canVanish_2 : decode cX6_canVanish 2 = .ok (.invokevirtual 115, 3) := by decide +kernel
theorem dX6_canVanish_5 : decode cX6_canVanish 5 = .ok (.iconst 3, 1) := by decide +kernel
theorem dX6_canVanish_6 : decode cX6_canVanish 6 = .ok (.if_icmp .eq 5, 3) := by decide +kernel
theorem dX6_canVanish_9 : decode cX6_canVanish 9 = .ok (.iconst 0, 1) := by decide +kernel
theorem dX6_canVanish_10 : decode cX6_canVanish 10 = .ok (.ireturn, 1) := by decide +kernel
theorem dX6_canVanish_11 : decode cX6_canVanish 11 = .ok (.aload_n 0, 1) := by decide +kernel
theorem dX6_canVanish_12 : decode cX6_canVanish 12 = .ok (.iload_n 1, 1) := by decide +kernel
theorem dX6_canVanish_13 : decode cX6_canVanish 13 = .ok (.invokevirtual 87, 3) := by decide +kernel
theorem dX6_canVanish_16 : decode cX6_canVanish 16 = .ok (.istore_n 2, 1) := by decide +kernel
theorem dX6_canVanish_17 : decode cX6_canVanish 17 = .ok (.aload_n 0, 1) := by decide +kernel
theorem dX6_canVanish_18 : decode cX6_canVanish 18 = .ok (.iload_n 2, 1) := by decide +kernel
theorem dX6_canVanish_19 : decode cX6_canVanish 19 = .ok (.invokevirtual 90, 3) := by decide +kernel
theorem dX6_canVanish_22 : decode cX6_canVanish 22 = .ok (.istore_n 3, 1) := by decide +kernel
theorem dX6_canVanish_23 : decode cX6_canVanish 23 = .ok (.aload_n 0, 1) := by decide +kernel
theorem dX6_canVanish_24 : decode cX6_canVanish 24 = .ok (.iload_n 3, 1) := by decide +kernel
theorem dX6_canVanish_25 : decode cX6_canVanish 25 = .ok (.invokevirtual 90, 3) := by decide +kernel
theorem dX6_canVanish_28 : decode cX6_canVanish 28 = .ok (.istore 4, 2) := by decide +kernel
theorem dX6_canVanish_30 : decode cX6_canVanish 30 = .ok (.aload_n 0, 1) := by decide +kernel
theorem dX6_canVanish_31 : decode cX6_canVanish 31 = .ok (.iload_n 2, 1) := by decide +kernel
theorem dX6_canVanish_32 : decode cX6_canVanish 32 = .ok (.invokevirtual 105, 3) := by decide +kernel
theorem dX6_canVanish_35 : decode cX6_canVanish 35 = .ok (.aload_n 0, 1) := by decide +kernel
theorem dX6_canVanish_36 : decode cX6_canVanish 36 = .ok (.iload_n 3, 1) := by decide +kernel
theorem dX6_canVanish_37 : decode cX6_canVanish 37 = .ok (.invokevirtual 105, 3) := by decide +kernel
theorem dX6_canVanish_40 : decode cX6_canVanish 40 = .ok (.if_icmp .eq 35, 3) := by decide +kernel
theorem dX6_canVanish_43 : decode cX6_canVanish 43 = .ok (.aload_n 0, 1) := by decide +kernel
theorem dX6_canVanish_44 : decode cX6_canVanish 44 = .ok (.iload_n 2, 1) := by decide +kernel
theorem dX6_canVanish_45 : decode cX6_canVanish 45 = .ok (.invokevirtual 105, 3) := by decide +kernel
theorem dX6_canVanish_48 : decode cX6_canVanish 48 = .ok (.aload_n 0, 1) := by decide +kernel
theorem dX6_canVanish_49 : decode cX6_canVanish 49 = .ok (.iload 4, 2) := by decide +kernel
theorem dX6_canVanish_51 : decode cX6_canVanish 51 = .ok (.invokevirtual 105, 3) := by decide +kernel
theorem dX6_canVanish_54 : decode cX6_canVanish 54 = .ok (.if_icmp .eq 21, 3) := by decide +kernel
theorem dX6_canVanish_57 : decode cX6_canVanish 57 = .ok (.aload_n 0, 1) := by decide +kernel
theorem dX6_canVanish_58 : decode cX6_canVanish 58 = .ok (.iload_n 3, 1) := by decide +kernel
theorem dX6_canVanish_59 : decode cX6_canVanish 59 = .ok (.invokevirtual 105, 3) := by decide +kernel
theorem dX6_canVanish_62 : decode cX6_canVanish 62 = .ok (.aload_n 0, 1) := by decide +kernel
theorem dX6_canVanish_63 : decode cX6_canVanish 63 = .ok (.iload 4, 2) := by decide +kernel
theorem dX6_canVanish_65 : decode cX6_canVanish 65 = .ok (.invokevirtual 105, 3) := by decide +kernel
theorem dX6_canVanish_68 : decode cX6_canVanish 68 = .ok (.if_icmp .eq 7, 3) := by decide +kernel
theorem dX6_canVanish_71 : decode cX6_canVanish 71 = .ok (.iconst 1, 1) := by decide +kernel
theorem dX6_canVanish_72 : decode cX6_canVanish 72 = .ok (.goto 4, 3) := by decide +kernel
theorem dX6_canVanish_75 : decode cX6_canVanish 75 = .ok (.iconst 0, 1) := by decide +kernel
theorem dX6_canVanish_76 : decode cX6_canVanish 76 = .ok (.istore 5, 2) := by decide +kernel
theorem dX6_canVanish_78 : decode cX6_canVanish 78 = .ok (.iload 5, 2) := by decide +kernel
theorem dX6_canVanish_80 : decode cX6_canVanish 80 = .ok (.ifCond .eq 47, 3) := by decide +kernel
theorem dX6_canVanish_83 : decode cX6_canVanish 83 = .ok (.aload_n 0, 1) := by decide +kernel
theorem dX6_canVanish_84 : decode cX6_canVanish 84 = .ok (.aload_n 0, 1) := by decide +kernel
theorem dX6_canVanish_85 : decode cX6_canVanish 85 = .ok (.iload_n 2, 1) := by decide +kernel
theorem dX6_canVanish_86 : decode cX6_canVanish 86 = .ok (.invokevirtual 105, 3) := by decide +kernel
theorem dX6_canVanish_89 : decode cX6_canVanish 89 = .ok (.invokevirtual 115, 3) := by decide +kernel
theorem dX6_canVanish_92 : decode cX6_canVanish 92 = .ok (.iconst 3, 1) := by decide +kernel
theorem dX6_canVanish_93 : decode cX6_canVanish 93 = .ok (.if_icmp .le 34, 3) := by decide +kernel
theorem dX6_canVanish_96 : decode cX6_canVanish 96 = .ok (.aload_n 0, 1) := by decide +kernel
theorem dX6_canVanish_97 : decode cX6_canVanish 97 = .ok (.aload_n 0, 1) := by decide +kernel
theorem dX6_canVanish_98 : decode cX6_canVanish 98 = .ok (.iload_n 3, 1) := by decide +kernel
theorem dX6_canVanish_99 : decode cX6_canVanish 99 = .ok (.invokevirtual 105, 3) := by decide +kernel
theorem dX6_canVanish_102 : decode cX6_canVanish 102 = .ok (.invokevirtual 115, 3) := by decide +kernel
theorem dX6_canVanish_105 : decode cX6_canVanish 105 = .ok (.iconst 3, 1) := by decide +kernel
theorem dX6_canVanish_106 : decode cX6_canVanish 106 = .ok (.if_icmp .le 21, 3) := by decide +kernel
theorem dX6_canVanish_109 : decode cX6_canVanish 109 = .ok (.aload_n 0, 1) := by decide +kernel
theorem dX6_canVanish_110 : decode cX6_canVanish 110 = .ok (.aload_n 0, 1) := by decide +kernel
theorem dX6_canVanish_111 : decode cX6_canVanish 111 = .ok (.iload 4, 2) := by decide +kernel
theorem dX6_canVanish_113 : decode cX6_canVanish 113 = .ok (.invokevirtual 105, 3) := by decide +kernel
theorem dX6_canVanish_116 : decode cX6_canVanish 116 = .ok (.invokevirtual 115, 3) := by decide +kernel
theorem dX6_canVanish_119 : decode cX6_canVanish 119 = .ok (.iconst 3, 1) := by decide +kernel
theorem dX6_canVanish_120 : decode cX6_canVanish 120 = .ok (.if_icmp .le 7, 3) := by decide +kernel
theorem dX6_canVanish_123 : decode cX6_canVanish 123 = .ok (.iconst 1, 1) := by decide +kernel
theorem dX6_canVanish_124 : decode cX6_canVanish 124 = .ok (.goto 4, 3) := by decide +kernel
theorem dX6_canVanish_127 : decode cX6_canVanish 127 = .ok (.iconst 0, 1) := by decide +kernel
theorem dX6_canVanish_128 : decode cX6_canVanish 128 = .ok (.ireturn, 1) := by decide +kernel
theorem dX6_isRicher_0 : decode cX6_isRicher 0 = .ok (.aload_n 0, 1) := by decide +kernel
theorem dX6_isRicher_1 : decode cX6_isRicher 1 = .ok (.getfield 9, 3) := by decide +kernel
theorem dX6_isRicher_4 : decode cX6_isRicher 4 = .ok (.sipush 1600, 3) := by decide +kernel
theorem dX6_isRicher_7 : decode cX6_isRicher 7 = .ok (.iload_n 1, 1) := by decide +kernel
theorem dX6_isRicher_8 : decode cX6_isRicher 8 = .ok (.iadd, 1) := by decide +kernel
theorem dX6_isRicher_9 : decode cX6_isRicher 9 = .ok (.iaload, 1) := by decide +kernel
theorem dX6_isRicher_10 : decode cX6_isRicher 10 = .ok (.aload_n 0, 1) := by decide +kernel
theorem dX6_isRicher_11 : decode cX6_isRicher 11 = .ok (.getfield 9, 3) := by decide +kernel
theorem dX6_isRicher_14 : decode cX6_isRicher 14 = .ok (.sipush 1600, 3) := by decide +kernel
theorem dX6_isRicher_17 : decode cX6_isRicher 17 = .ok (.iload_n 2, 1) := by decide +kernel
theorem dX6_isRicher_18 : decode cX6_isRicher 18 = .ok (.iadd, 1) := by decide +kernel
theorem dX6_isRicher_19 : decode cX6_isRicher 19 = .ok (.iaload, 1) := by decide +kernel
theorem dX6_isRicher_20 : decode cX6_isRicher 20 = .ok (.if_icmp .gt 31, 3) := by decide +kernel
theorem dX6_isRicher_23 : decode cX6_isRicher 23 = .ok (.aload_n 0, 1) := by decide +kernel
theorem dX6_isRicher_24 : decode cX6_isRicher 24 = .ok (.getfield 9, 3) := by decide +kernel
theorem dX6_isRicher_27 : decode cX6_isRicher 27 = .ok (.sipush 1600, 3) := by decide +kernel
theorem dX6_isRicher_30 : decode cX6_isRicher 30 = .ok (.iload_n 1, 1) := by decide +kernel
theorem dX6_isRicher_31 : decode cX6_isRicher 31 = .ok (.iadd, 1) := by decide +kernel
theorem dX6_isRicher_32 : decode cX6_isRicher 32 = .ok (.iaload, 1) := by decide +kernel
theorem dX6_isRicher_33 : decode cX6_isRicher 33 = .ok (.aload_n 0, 1) := by decide +kernel
theorem dX6_isRicher_34 : decode cX6_isRicher 34 = .ok (.getfield 9, 3) := by decide +kernel
theorem dX6_isRicher_37 : decode cX6_isRicher 37 = .ok (.sipush 1600, 3) := by decide +kernel
theorem dX6_isRicher_40 : decode cX6_isRicher 40 = .ok (.iload_n 2, 1) := by decide +kernel
theorem dX6_isRicher_41 : decode cX6_isRicher 41 = .ok (.iadd, 1) := by decide +kernel
theorem dX6_isRicher_42 : decode cX6_isRicher 42 = .ok (.iaload, 1) := by decide +kernel
theorem dX6_isRicher_43 : decode cX6_isRicher 43 = .ok (.if_icmp .ne 12, 3) := by decide +kernel
theorem dX6_isRicher_46 : decode cX6_isRicher 46 = .ok (.iload_n 1, 1) := by decide +kernel
theorem dX6_isRicher_47 : decode cX6_isRicher 47 = .ok (.iload_n 2, 1) := by decide +kernel
theorem dX6_isRicher_48 : decode cX6_isRicher 48 = .ok (.if_icmp .ge 7, 3) := by decide +kernel
theorem dX6_isRicher_51 : decode cX6_isRicher 51 = .ok (.iconst 1, 1) := by decide +kernel
theorem dX6_isRicher_52 : decode cX6_isRicher 52 = .ok (.goto 4, 3) := by decide +kernel
theorem dX6_isRicher_55 : decode cX6_isRicher 55 = .ok (.iconst 0, 1) := by decide +kernel
theorem dX6_isRicher_56 : decode cX6_isRicher 56 = .ok (.ireturn, 1) := by decide +kernel
theorem dX6_vanishes_0 : decode cX6_vanishes 0 = .ok (.iconst (-1), 1) := by decide +kernel
theorem dX6_vanishes_1 : decode cX6_vanishes 1 = .ok (.istore_n 2, 1) := by decide +kernel
theorem dX6_vanishes_2 : decode cX6_vanishes 2 = .ok (.aload_n 0, 1) := by decide +kernel
theorem dX6_vanishes_3 : decode cX6_vanishes 3 = .ok (.iload_n 1, 1) := by decide +kernel
theorem dX6_vanishes_4 : decode cX6_vanishes 4 = .ok (.invokevirtual 87, 3) := by decide +kernel
theorem dX6_vanishes_7 : decode cX6_vanishes 7 = .ok (.istore_n 3, 1) := by decide +kernel
theorem dX6_vanishes_8 : decode cX6_vanishes 8 = .ok (.iconst 0, 1) := by decide +kernel
theorem dX6_vanishes_9 : decode cX6_vanishes 9 = .ok (.istore 4, 2) := by decide +kernel
theorem dX6_vanishes_11 : decode cX6_vanishes 11 = .ok (.iload 4, 2) := by decide +kernel
theorem dX6_vanishes_13 : decode cX6_vanishes 13 = .ok (.iconst 3, 1) := by decide +kernel
theorem dX6_vanishes_14 : decode cX6_vanishes 14 = .ok (.if_icmp .ge 63, 3) := by decide +kernel
theorem dX6_vanishes_17 : decode cX6_vanishes 17 = .ok (.iload_n 2, 1) := by decide +kernel
theorem dX6_vanishes_18 : decode cX6_vanishes 18 = .ok (.iconst (-1), 1) := by decide +kernel
theorem dX6_vanishes_19 : decode cX6_vanishes 19 = .ok (.if_icmp .eq 16, 3) := by decide +kernel
theorem dX6_vanishes_22 : decode cX6_vanishes 22 = .ok (.aload_n 0, 1) := by decide +kernel
theorem dX6_vanishes_23 : decode cX6_vanishes 23 = .ok (.aload_n 0, 1) := by decide +kernel
theorem dX6_vanishes_24 : decode cX6_vanishes 24 = .ok (.iload_n 3, 1) := by decide +kernel
theorem dX6_vanishes_25 : decode cX6_vanishes 25 = .ok (.invokevirtual 105, 3) := by decide +kernel
theorem dX6_vanishes_28 : decode cX6_vanishes 28 = .ok (.iload_n 2, 1) := by decide +kernel
theorem dX6_vanishes_29 : decode cX6_vanishes 29 = .ok (.invokevirtual 156, 3) := by decide +kernel
theorem dX6_vanishes_32 : decode cX6_vanishes 32 = .ok (.ifCond .eq 11, 3) := by decide +kernel
theorem dX6_vanishes_35 : decode cX6_vanishes 35 = .ok (.aload_n 0, 1) := by decide +kernel
theorem dX6_vanishes_36 : decode cX6_vanishes 36 = .ok (.iload_n 3, 1) := by decide +kernel
theorem dX6_vanishes_37 : decode cX6_vanishes 37 = .ok (.invokevirtual 105, 3) := by decide +kernel
theorem dX6_vanishes_40 : decode cX6_vanishes 40 = .ok (.goto 4, 3) := by decide +kernel
theorem dX6_vanishes_43 : decode cX6_vanishes 43 = .ok (.iload_n 2, 1) := by decide +kernel
theorem dX6_vanishes_44 : decode cX6_vanishes 44 = .ok (.istore_n 2, 1) := by decide +kernel
theorem dX6_vanishes_45 : decode cX6_vanishes 45 = .ok (.aload_n 0, 1) := by decide +kernel
theorem dX6_vanishes_46 : decode cX6_vanishes 46 = .ok (.iload_n 3, 1) := by decide +kernel
theorem dX6_vanishes_47 : decode cX6_vanishes 47 = .ok (.iconst 1, 1) := by decide +kernel
theorem dX6_vanishes_48 : decode cX6_vanishes 48 = .ok (.ixor, 1) := by decide +kernel
theorem dX6_vanishes_49 : decode cX6_vanishes 49 = .ok (.invokevirtual 124, 3) := by decide +kernel
theorem dX6_vanishes_52 : decode cX6_vanishes 52 = .ok (.aload_n 0, 1) := by decide +kernel
theorem dX6_vanishes_53 : decode cX6_vanishes 53 = .ok (.getfield 9, 3) := by decide +kernel
theorem dX6_vanishes_56 : decode cX6_vanishes 56 = .ok (.sipush 1456, 3) := by decide +kernel
theorem dX6_vanishes_59 : decode cX6_vanishes 59 = .ok (.iload_n 3, 1) := by decide +kernel
theorem dX6_vanishes_60 : decode cX6_vanishes 60 = .ok (.iconst 2, 1) := by decide +kernel
theorem dX6_vanishes_61 : decode cX6_vanishes 61 = .ok (.idiv, 1) := by decide +kernel
theorem dX6_vanishes_62 : decode cX6_vanishes 62 = .ok (.iadd, 1) := by decide +kernel
theorem dX6_vanishes_63 : decode cX6_vanishes 63 = .ok (.iconst (-1), 1) := by decide +kernel
theorem dX6_vanishes_64 : decode cX6_vanishes 64 = .ok (.iastore, 1) := by decide +kernel
theorem dX6_vanishes_65 : decode cX6_vanishes 65 = .ok (.aload_n 0, 1) := by decide +kernel
theorem dX6_vanishes_66 : decode cX6_vanishes 66 = .ok (.iload_n 3, 1) := by decide +kernel
theorem dX6_vanishes_67 : decode cX6_vanishes 67 = .ok (.invokevirtual 90, 3) := by decide +kernel
theorem dX6_vanishes_70 : decode cX6_vanishes 70 = .ok (.istore_n 3, 1) := by decide +kernel
theorem dX6_vanishes_71 : decode cX6_vanishes 71 = .ok (.iinc 4 1, 3) := by decide +kernel
theorem dX6_vanishes_74 : decode cX6_vanishes 74 = .ok (.goto (-63), 3) := by decide +kernel
theorem dX6_vanishes_77 : decode cX6_vanishes 77 = .ok (.aload_n 0, 1) := by decide +kernel
theorem dX6_vanishes_78 : decode cX6_vanishes 78 = .ok (.getfield 9, 3) := by decide +kernel
theorem dX6_vanishes_81 : decode cX6_vanishes 81 = .ok (.sipush 1600, 3) := by decide +kernel
theorem dX6_vanishes_84 : decode cX6_vanishes 84 = .ok (.iload_n 2, 1) := by decide +kernel
theorem dX6_vanishes_85 : decode cX6_vanishes 85 = .ok (.iadd, 1) := by decide +kernel
theorem dX6_vanishes_86 : decode cX6_vanishes 86 = .ok (.dup2, 1) := by decide +kernel
theorem dX6_vanishes_87 : decode cX6_vanishes 87 = .ok (.iaload, 1) := by decide +kernel
theorem dX6_vanishes_88 : decode cX6_vanishes 88 = .ok (.aload_n 0, 1) := by decide +kernel
theorem dX6_vanishes_89 : decode cX6_vanishes 89 = .ok (.getfield 9, 3) := by decide +kernel
theorem dX6_vanishes_92 : decode cX6_vanishes 92 = .ok (.sipush 1600, 3) := by decide +kernel
theorem dX6_vanishes_95 : decode cX6_vanishes 95 = .ok (.iload_n 1, 1) := by decide +kernel
theorem dX6_vanishes_96 : decode cX6_vanishes 96 = .ok (.iadd, 1) := by decide +kernel
theorem dX6_vanishes_97 : decode cX6_vanishes 97 = .ok (.iaload, 1) := by decide +kernel
theorem dX6_vanishes_98 : decode cX6_vanishes 98 = .ok (.iadd, 1) := by decide +kernel
theorem dX6_vanishes_99 : decode cX6_vanishes 99 = .ok (.iastore, 1) := by decide +kernel
theorem dX6_vanishes_100 : decode cX6_vanishes 100 = .ok (.aload_n 0, 1) := by decide +kernel
theorem dX6_vanishes_101 : decode cX6_vanishes 101 = .ok (.getfield 9, 3) := by decide +kernel
theorem dX6_vanishes_104 : decode cX6_vanishes 104 = .ok (.sipush 1648, 3) := by decide +kernel
theorem dX6_vanishes_107 : decode cX6_vanishes 107 = .ok (.iload_n 1, 1) := by decide +kernel
theorem dX6_vanishes_108 : decode cX6_vanishes 108 = .ok (.iadd, 1) := by decide +kernel
theorem dX6_vanishes_109 : decode cX6_vanishes 109 = .ok (.iconst 0, 1) := by decide +kernel
theorem dX6_vanishes_110 : decode cX6_vanishes 110 = .ok (.iastore, 1) := by decide +kernel
theorem dX6_vanishes_111 : decode cX6_vanishes 111 = .ok (.aload_n 0, 1) := by decide +kernel
theorem dX6_vanishes_112 : decode cX6_vanishes 112 = .ok (.getfield 9, 3) := by decide +kernel
theorem dX6_vanishes_115 : decode cX6_vanishes 115 = .ok (.iconst 5, 1) := by decide +kernel
theorem dX6_vanishes_116 : decode cX6_vanishes 116 = .ok (.dup2, 1) := by decide +kernel
theorem dX6_vanishes_117 : decode cX6_vanishes 117 = .ok (.iaload, 1) := by decide +kernel
theorem dX6_vanishes_118 : decode cX6_vanishes 118 = .ok (.iconst 1, 1) := by decide +kernel
theorem dX6_vanishes_119 : decode cX6_vanishes 119 = .ok (.iadd, 1) := by decide +kernel
theorem dX6_vanishes_120 : decode cX6_vanishes 120 = .ok (.iastore, 1) := by decide +kernel
theorem dX6_vanishes_121 : decode cX6_vanishes 121 = .ok (.aload_n 0, 1) := by decide +kernel
theorem dX6_vanishes_122 : decode cX6_vanishes 122 = .ok (.iconst 1, 1) := by decide +kernel
theorem dX6_vanishes_123 : decode cX6_vanishes 123 = .ok (.iload_n 1, 1) := by decide +kernel
theorem dX6_vanishes_124 : decode cX6_vanishes 124 = .ok (.invokevirtual 138, 3) := by decide +kernel
theorem dX6_vanishes_127 : decode cX6_vanishes 127 = .ok (.iload_n 2, 1) := by decide +kernel
theorem dX6_vanishes_128 : decode cX6_vanishes 128 = .ok (.ireturn, 1) := by decide +kernel
theorem dX6_vanish_0 : decode cX6_vanish 0 = .ok (.aload_n 0, 1) := by decide +kernel
theorem dX6_vanish_1 : decode cX6_vanish 1 = .ok (.iconst 0, 1) := by decide +kernel
theorem dX6_vanish_2 : decode cX6_vanish 2 = .ok (.putfield 44, 3) := by decide +kernel
theorem dX6_vanish_5 : decode cX6_vanish 5 = .ok (.aload_n 0, 1) := by decide +kernel
theorem dX6_vanish_6 : decode cX6_vanish 6 = .ok (.iload_n 1, 1) := by decide +kernel
theorem dX6_vanish_7 : decode cX6_vanish 7 = .ok (.invokevirtual 93, 3) := by decide +kernel
theorem dX6_vanish_10 : decode cX6_vanish 10 = .ok (.ifCond .ne 10, 3) := by decide +kernel
theorem dX6_vanish_13 : decode cX6_vanish 13 = .ok (.aload_n 0, 1) := by decide +kernel
theorem dX6_vanish_14 : decode cX6_vanish 14 = .ok (.bipush (-2), 2) := by decide +kernel
theorem dX6_vanish_16 : decode cX6_vanish 16 = .ok (.invokevirtual 72, 3) := by decide +kernel
theorem dX6_vanish_19 : decode cX6_vanish 19 = .ok (.ireturn, 1) := by decide +kernel
theorem dX6_vanish_20 : decode cX6_vanish 20 = .ok (.aload_n 0, 1) := by decide +kernel
theorem dX6_vanish_21 : decode cX6_vanish 21 = .ok (.iload_n 1, 1) := by decide +kernel
theorem dX6_vanish_22 : decode cX6_vanish 22 = .ok (.invokevirtual 160, 3) := by decide +kernel
theorem dX6_vanish_25 : decode cX6_vanish 25 = .ok (.ifCond .eq 11, 3) := by decide +kernel
theorem dX6_vanish_28 : decode cX6_vanish 28 = .ok (.aload_n 0, 1) := by decide +kernel
theorem dX6_vanish_29 : decode cX6_vanish 29 = .ok (.iload_n 1, 1) := by decide +kernel
theorem dX6_vanish_30 : decode cX6_vanish 30 = .ok (.invokevirtual 163, 3) := by decide +kernel
theorem dX6_vanish_33 : decode cX6_vanish 33 = .ok (.goto 9, 3) := by decide +kernel
theorem dX6_vanish_36 : decode cX6_vanish 36 = .ok (.aload_n 0, 1) := by decide +kernel
theorem dX6_vanish_37 : decode cX6_vanish 37 = .ok (.bipush (-3), 2) := by decide +kernel
theorem dX6_vanish_39 : decode cX6_vanish 39 = .ok (.invokevirtual 72, 3) := by decide +kernel
theorem dX6_vanish_42 : decode cX6_vanish 42 = .ok (.ireturn, 1) := by decide +kernel
theorem dX6_freeWall_0 : decode cX6_freeWall 0 = .ok (.iconst 0, 1) := by decide +kernel
theorem dX6_freeWall_1 : decode cX6_freeWall 1 = .ok (.istore_n 1, 1) := by decide +kernel
theorem dX6_freeWall_2 : decode cX6_freeWall 2 = .ok (.iload_n 1, 1) := by decide +kernel
theorem dX6_freeWall_3 : decode cX6_freeWall 3 = .ok (.sipush 144, 3) := by decide +kernel
theorem dX6_freeWall_6 : decode cX6_freeWall 6 = .ok (.if_icmp .ge 17, 3) := by decide +kernel
theorem dX6_freeWall_9 : decode cX6_freeWall 9 = .ok (.aload_n 0, 1) := by decide +kernel
theorem dX6_freeWall_10 : decode cX6_freeWall 10 = .ok (.iload_n 1, 1) := by decide +kernel
theorem dX6_freeWall_11 : decode cX6_freeWall 11 = .ok (.invokevirtual 80, 3) := by decide +kernel
theorem dX6_freeWall_14 : decode cX6_freeWall 14 = .ok (.ifCond .eq 9, 3) := by decide +kernel
theorem dX6_freeWall_17 : decode cX6_freeWall 17 = .ok (.iinc 1 1, 3) := by decide +kernel
theorem dX6_freeWall_20 : decode cX6_freeWall 20 = .ok (.goto (-18), 3) := by decide +kernel
theorem dX6_freeWall_23 : decode cX6_freeWall 23 = .ok (.iload_n 1, 1) := by decide +kernel
theorem dX6_freeWall_24 : decode cX6_freeWall 24 = .ok (.ireturn, 1) := by decide +kernel
theorem dX6_freeCell_0 : decode cX6_freeCell 0 = .ok (.iconst 0, 1) := by decide +kernel
theorem dX6_freeCell_1 : decode cX6_freeCell 1 = .ok (.istore_n 1, 1) := by decide +kernel
theorem dX6_freeCell_2 : decode cX6_freeCell 2 = .ok (.iload_n 1, 1) := by decide +kernel
theorem dX6_freeCell_3 : decode cX6_freeCell 3 = .ok (.bipush 48, 2) := by decide +kernel
theorem dX6_freeCell_5 : decode cX6_freeCell 5 = .ok (.if_icmp .ge 17, 3) := by decide +kernel
theorem dX6_freeCell_8 : decode cX6_freeCell 8 = .ok (.aload_n 0, 1) := by decide +kernel
theorem dX6_freeCell_9 : decode cX6_freeCell 9 = .ok (.iload_n 1, 1) := by decide +kernel
theorem dX6_freeCell_10 : decode cX6_freeCell 10 = .ok (.invokevirtual 93, 3) := by decide +kernel
theorem dX6_freeCell_13 : decode cX6_freeCell 13 = .ok (.ifCond .eq 9, 3) := by decide +kernel
theorem dX6_freeCell_16 : decode cX6_freeCell 16 = .ok (.iinc 1 1, 3) := by decide +kernel
theorem dX6_freeCell_19 : decode cX6_freeCell 19 = .ok (.goto (-17), 3) := by decide +kernel
theorem dX6_freeCell_22 : decode cX6_freeCell 22 = .ok (.iload_n 1, 1) := by decide +kernel
theorem dX6_freeCell_23 : decode cX6_freeCell 23 = .ok (.ireturn, 1) := by decide +kernel
theorem dX6_newWall_0 : decode cX6_newWall 0 = .ok (.aload_n 0, 1) := by decide +kernel
theorem dX6_newWall_1 : decode cX6_newWall 1 = .ok (.invokevirtual 166, 3) := by decide +kernel
theorem dX6_newWall_4 : decode cX6_newWall 4 = .ok (.istore_n 2, 1) := by decide +kernel
theorem dX6_newWall_5 : decode cX6_newWall 5 = .ok (.aload_n 0, 1) := by decide +kernel
theorem dX6_newWall_6 : decode cX6_newWall 6 = .ok (.getfield 9, 3) := by decide +kernel
theorem dX6_newWall_9 : decode cX6_newWall 9 = .ok (.sipush 1456, 3) := by decide +kernel
theorem dX6_newWall_12 : decode cX6_newWall 12 = .ok (.iload_n 2, 1) := by decide +kernel
theorem dX6_newWall_13 : decode cX6_newWall 13 = .ok (.iadd, 1) := by decide +kernel
theorem dX6_newWall_14 : decode cX6_newWall 14 = .ok (.iload_n 1, 1) := by decide +kernel
theorem dX6_newWall_15 : decode cX6_newWall 15 = .ok (.iastore, 1) := by decide +kernel
theorem dX6_newWall_16 : decode cX6_newWall 16 = .ok (.iconst 2, 1) := by decide +kernel
theorem dX6_newWall_17 : decode cX6_newWall 17 = .ok (.iload_n 2, 1) := by decide +kernel
theorem dX6_newWall_18 : decode cX6_newWall 18 = .ok (.imul, 1) := by decide +kernel
theorem dX6_newWall_19 : decode cX6_newWall 19 = .ok (.ireturn, 1) := by decide +kernel
theorem dX6_halves_0 : decode cX6_halves 0 = .ok (.aload_n 0, 1) := by decide +kernel
theorem dX6_halves_1 : decode cX6_halves 1 = .ok (.getfield 9, 3) := by decide +kernel
theorem dX6_halves_4 : decode cX6_halves 4 = .ok (.sipush 1456, 3) := by decide +kernel
theorem dX6_halves_7 : decode cX6_halves 7 = .ok (.iload_n 1, 1) := by decide +kernel
theorem dX6_halves_8 : decode cX6_halves 8 = .ok (.iconst 2, 1) := by decide +kernel
theorem dX6_halves_9 : decode cX6_halves 9 = .ok (.idiv, 1) := by decide +kernel
theorem dX6_halves_10 : decode cX6_halves 10 = .ok (.iadd, 1) := by decide +kernel
theorem dX6_halves_11 : decode cX6_halves 11 = .ok (.iaload, 1) := by decide +kernel
theorem dX6_halves_12 : decode cX6_halves 12 = .ok (.istore_n 2, 1) := by decide +kernel
theorem dX6_halves_13 : decode cX6_halves 13 = .ok (.aload_n 0, 1) := by decide +kernel
theorem dX6_halves_14 : decode cX6_halves 14 = .ok (.getfield 9, 3) := by decide +kernel
theorem dX6_halves_17 : decode cX6_halves 17 = .ok (.sipush 1456, 3) := by decide +kernel
theorem dX6_halves_20 : decode cX6_halves 20 = .ok (.iload_n 1, 1) := by decide +kernel
theorem dX6_halves_21 : decode cX6_halves 21 = .ok (.iconst 2, 1) := by decide +kernel
theorem dX6_halves_22 : decode cX6_halves 22 = .ok (.idiv, 1) := by decide +kernel
theorem dX6_halves_23 : decode cX6_halves 23 = .ok (.iadd, 1) := by decide +kernel
theorem dX6_halves_24 : decode cX6_halves 24 = .ok (.iload_n 2, 1) := by decide +kernel
theorem dX6_halves_25 : decode cX6_halves 25 = .ok (.iconst 1, 1) := by decide +kernel
theorem dX6_halves_26 : decode cX6_halves 26 = .ok (.iadd, 1) := by decide +kernel
theorem dX6_halves_27 : decode cX6_halves 27 = .ok (.iconst 2, 1) := by decide +kernel
theorem dX6_halves_28 : decode cX6_halves 28 = .ok (.idiv, 1) := by decide +kernel
theorem dX6_halves_29 : decode cX6_halves 29 = .ok (.iastore, 1) := by decide +kernel
theorem dX6_halves_30 : decode cX6_halves 30 = .ok (.iload_n 2, 1) := by decide +kernel
theorem dX6_halves_31 : decode cX6_halves 31 = .ok (.iconst 2, 1) := by decide +kernel
theorem dX6_halves_32 : decode cX6_halves 32 = .ok (.idiv, 1) := by decide +kernel
theorem dX6_halves_33 : decode cX6_halves 33 = .ok (.ireturn, 1) := by decide +kernel
theorem dX6_cut_0 : decode cX6_cut 0 = .ok (.aload_n 0, 1) := by decide +kernel
theorem dX6_cut_1 : decode cX6_cut 1 = .ok (.iconst 0, 1) := by decide +kernel
theorem dX6_cut_2 : decode cX6_cut 2 = .ok (.putfield 44, 3) := by decide +kernel
theorem dX6_cut_5 : decode cX6_cut 5 = .ok (.aload_n 0, 1) := by decide +kernel
theorem dX6_cut_6 : decode cX6_cut 6 = .ok (.iload_n 1, 1) := by decide +kernel
theorem dX6_cut_7 : decode cX6_cut 7 = .ok (.invokevirtual 93, 3) := by decide +kernel
theorem dX6_cut_10 : decode cX6_cut 10 = .ok (.ifCond .ne 10, 3) := by decide +kernel
theorem dX6_cut_13 : decode cX6_cut 13 = .ok (.aload_n 0, 1) := by decide +kernel
theorem dX6_cut_14 : decode cX6_cut 14 = .ok (.bipush (-2), 2) := by decide +kernel
theorem dX6_cut_16 : decode cX6_cut 16 = .ok (.invokevirtual 72, 3) := by decide +kernel
theorem dX6_cut_19 : decode cX6_cut 19 = .ok (.ireturn, 1) := by decide +kernel
theorem dX6_cut_20 : decode cX6_cut 20 = .ok (.iload_n 2, 1) := by decide +kernel
theorem dX6_cut_21 : decode cX6_cut 21 = .ok (.i2l, 1) := by decide +kernel
theorem dX6_cut_22 : decode cX6_cut 22 = .ok (.lconst 0, 1) := by decide +kernel
theorem dX6_cut_23 : decode cX6_cut 23 = .ok (.aload_n 0, 1) := by decide +kernel
theorem dX6_cut_24 : decode cX6_cut 24 = .ok (.iload_n 1, 1) := by decide +kernel
theorem dX6_cut_25 : decode cX6_cut 25 = .ok (.invokevirtual 115, 3) := by decide +kernel
theorem dX6_cut_28 : decode cX6_cut 28 = .ok (.i2l, 1) := by decide +kernel
theorem dX6_cut_29 : decode cX6_cut 29 = .ok (.lconst 1, 1) := by decide +kernel
theorem dX6_cut_30 : decode cX6_cut 30 = .ok (.lsub, 1) := by decide +kernel
theorem dX6_cut_31 : decode cX6_cut 31 = .ok (.invokestatic 48, 3) := by decide +kernel
theorem dX6_cut_34 : decode cX6_cut 34 = .ok (.ifCond .eq 25, 3) := by decide +kernel
theorem dX6_cut_37 : decode cX6_cut 37 = .ok (.iload_n 3, 1) := by decide +kernel
theorem dX6_cut_38 : decode cX6_cut 38 = .ok (.i2l, 1) := by decide +kernel
theorem dX6_cut_39 : decode cX6_cut 39 = .ok (.lconst 0, 1) := by decide +kernel
theorem dX6_cut_40 : decode cX6_cut 40 = .ok (.aload_n 0, 1) := by decide +kernel
theorem dX6_cut_41 : decode cX6_cut 41 = .ok (.iload_n 1, 1) := by decide +kernel
theorem dX6_cut_42 : decode cX6_cut 42 = .ok (.invokevirtual 115, 3) := by decide +kernel
theorem dX6_cut_45 : decode cX6_cut 45 = .ok (.i2l, 1) := by decide +kernel
theorem dX6_cut_46 : decode cX6_cut 46 = .ok (.lconst 1, 1) := by decide +kernel
theorem dX6_cut_47 : decode cX6_cut 47 = .ok (.lsub, 1) := by decide +kernel
theorem dX6_cut_48 : decode cX6_cut 48 = .ok (.invokestatic 48, 3) := by decide +kernel
theorem dX6_cut_51 : decode cX6_cut 51 = .ok (.ifCond .eq 8, 3) := by decide +kernel
theorem dX6_cut_54 : decode cX6_cut 54 = .ok (.iload_n 2, 1) := by decide +kernel
theorem dX6_cut_55 : decode cX6_cut 55 = .ok (.iload_n 3, 1) := by decide +kernel
theorem dX6_cut_56 : decode cX6_cut 56 = .ok (.if_icmp .ne 9, 3) := by decide +kernel
theorem dX6_cut_59 : decode cX6_cut 59 = .ok (.aload_n 0, 1) := by decide +kernel
theorem dX6_cut_60 : decode cX6_cut 60 = .ok (.iconst (-1), 1) := by decide +kernel
theorem dX6_cut_61 : decode cX6_cut 61 = .ok (.invokevirtual 72, 3) := by decide +kernel
theorem dX6_cut_64 : decode cX6_cut 64 = .ok (.ireturn, 1) := by decide +kernel
theorem dX6_cut_65 : decode cX6_cut 65 = .ok (.aload_n 0, 1) := by decide +kernel
theorem dX6_cut_66 : decode cX6_cut 66 = .ok (.invokevirtual 170, 3) := by decide +kernel
theorem dX6_cut_69 : decode cX6_cut 69 = .ok (.istore 4, 2) := by decide +kernel
theorem dX6_cut_71 : decode cX6_cut 71 = .ok (.iload 4, 2) := by decide +kernel
theorem dX6_cut_73 : decode cX6_cut 73 = .ok (.bipush 48, 2) := by decide +kernel
theorem dX6_cut_75 : decode cX6_cut 75 = .ok (.if_icmp .ne 10, 3) := by decide +kernel
theorem dX6_cut_78 : decode cX6_cut 78 = .ok (.aload_n 0, 1) := by decide +kernel
theorem dX6_cut_79 : decode cX6_cut 79 = .ok (.bipush (-4), 2) := by decide +kernel
theorem dX6_cut_81 : decode cX6_cut 81 = .ok (.invokevirtual 72, 3) := by decide +kernel
theorem dX6_cut_84 : decode cX6_cut 84 = .ok (.ireturn, 1) := by decide +kernel
theorem dX6_cut_85 : decode cX6_cut 85 = .ok (.aload_n 0, 1) := by decide +kernel
theorem dX6_cut_86 : decode cX6_cut 86 = .ok (.aload_n 0, 1) := by decide +kernel
theorem dX6_cut_87 : decode cX6_cut 87 = .ok (.iload_n 1, 1) := by decide +kernel
theorem dX6_cut_88 : decode cX6_cut 88 = .ok (.iload_n 2, 1) := by decide +kernel
theorem dX6_cut_89 : decode cX6_cut 89 = .ok (.invokevirtual 173, 3) := by decide +kernel
theorem dX6_cut_92 : decode cX6_cut 92 = .ok (.aload_n 0, 1) := by decide +kernel
theorem dX6_cut_93 : decode cX6_cut 93 = .ok (.iload_n 1, 1) := by decide +kernel
theorem dX6_cut_94 : decode cX6_cut 94 = .ok (.iload_n 3, 1) := by decide +kernel
theorem dX6_cut_95 : decode cX6_cut 95 = .ok (.invokevirtual 173, 3) := by decide +kernel
theorem dX6_cut_98 : decode cX6_cut 98 = .ok (.iload_n 1, 1) := by decide +kernel
theorem dX6_cut_99 : decode cX6_cut 99 = .ok (.iload 4, 2) := by decide +kernel
theorem dX6_cut_101 : decode cX6_cut 101 = .ok (.invokevirtual 177, 3) := by decide +kernel
theorem dX6_cut_104 : decode cX6_cut 104 = .ok (.aload_n 0, 1) := by decide +kernel
theorem dX6_cut_105 : decode cX6_cut 105 = .ok (.getfield 9, 3) := by decide +kernel
theorem dX6_cut_108 : decode cX6_cut 108 = .ok (.bipush 6, 2) := by decide +kernel
theorem dX6_cut_110 : decode cX6_cut 110 = .ok (.dup2, 1) := by decide +kernel
theorem dX6_cut_111 : decode cX6_cut 111 = .ok (.iaload, 1) := by decide +kernel
theorem dX6_cut_112 : decode cX6_cut 112 = .ok (.iconst 1, 1) := by decide +kernel
theorem dX6_cut_113 : decode cX6_cut 113 = .ok (.iadd, 1) := by decide +kernel
theorem dX6_cut_114 : decode cX6_cut 114 = .ok (.iastore, 1) := by decide +kernel
theorem dX6_cut_115 : decode cX6_cut 115 = .ok (.aload_n 0, 1) := by decide +kernel
theorem dX6_cut_116 : decode cX6_cut 116 = .ok (.iconst 2, 1) := by decide +kernel
theorem dX6_cut_117 : decode cX6_cut 117 = .ok (.iload_n 1, 1) := by decide +kernel
theorem dX6_cut_118 : decode cX6_cut 118 = .ok (.invokevirtual 138, 3) := by decide +kernel
theorem dX6_cut_121 : decode cX6_cut 121 = .ok (.iload 4, 2) := by decide +kernel
theorem dX6_cut_123 : decode cX6_cut 123 = .ok (.ireturn, 1) := by decide +kernel
theorem dX6_cutBy_0 : decode cX6_cutBy 0 = .ok (.aload_n 0, 1) := by decide +kernel
theorem dX6_cutBy_1 : decode cX6_cutBy 1 = .ok (.aload_n 0, 1) := by decide +kernel
theorem dX6_cutBy_2 : decode cX6_cutBy 2 = .ok (.iload_n 1, 1) := by decide +kernel
theorem dX6_cutBy_3 : decode cX6_cutBy 3 = .ok (.invokevirtual 181, 3) := by decide +kernel
theorem dX6_cutBy_6 : decode cX6_cutBy 6 = .ok (.invokevirtual 184, 3) := by decide +kernel
theorem dX6_cutBy_9 : decode cX6_cutBy 9 = .ok (.istore 5, 2) := by decide +kernel
theorem dX6_cutBy_11 : decode cX6_cutBy 11 = .ok (.aload_n 0, 1) := by decide +kernel
theorem dX6_cutBy_12 : decode cX6_cutBy 12 = .ok (.aload_n 0, 1) := by decide +kernel
theorem dX6_cutBy_13 : decode cX6_cutBy 13 = .ok (.iload_n 2, 1) := by decide +kernel
theorem dX6_cutBy_14 : decode cX6_cutBy 14 = .ok (.invokevirtual 181, 3) := by decide +kernel
theorem dX6_cutBy_17 : decode cX6_cutBy 17 = .ok (.invokevirtual 184, 3) := by decide +kernel
theorem dX6_cutBy_20 : decode cX6_cutBy 20 = .ok (.istore 6, 2) := by decide +kernel
theorem dX6_cutBy_22 : decode cX6_cutBy 22 = .ok (.aload_n 0, 1) := by decide +kernel
theorem dX6_cutBy_23 : decode cX6_cutBy 23 = .ok (.bipush 10, 2) := by decide +kernel
theorem dX6_cutBy_25 : decode cX6_cutBy 25 = .ok (.invokevirtual 184, 3) := by decide +kernel
theorem dX6_cutBy_28 : decode cX6_cutBy 28 = .ok (.istore 7, 2) := by decide +kernel
theorem dX6_cutBy_30 : decode cX6_cutBy 30 = .ok (.aload_n 0, 1) := by decide +kernel
theorem dX6_cutBy_31 : decode cX6_cutBy 31 = .ok (.iload 5, 2) := by decide +kernel
theorem dX6_cutBy_33 : decode cX6_cutBy 33 = .ok (.iconst 1, 1) := by decide +kernel
theorem dX6_cutBy_34 : decode cX6_cutBy 34 = .ok (.iadd, 1) := by decide +kernel
theorem dX6_cutBy_35 : decode cX6_cutBy 35 = .ok (.aload_n 0, 1) := by decide +kernel
theorem dX6_cutBy_36 : decode cX6_cutBy 36 = .ok (.iload_n 1, 1) := by decide +kernel
theorem dX6_cutBy_37 : decode cX6_cutBy 37 = .ok (.iconst 1, 1) := by decide +kernel
theorem dX6_cutBy_38 : decode cX6_cutBy 38 = .ok (.ixor, 1) := by decide +kernel
theorem dX6_cutBy_39 : decode cX6_cutBy 39 = .ok (.invokevirtual 96, 3) := by decide +kernel
theorem dX6_cutBy_42 : decode cX6_cutBy 42 = .ok (.invokevirtual 128, 3) := by decide +kernel
theorem dX6_cutBy_45 : decode cX6_cutBy 45 = .ok (.aload_n 0, 1) := by decide +kernel
theorem dX6_cutBy_46 : decode cX6_cutBy 46 = .ok (.iload 6, 2) := by decide +kernel
theorem dX6_cutBy_48 : decode cX6_cutBy 48 = .ok (.iconst 1, 1) := by decide +kernel
theorem dX6_cutBy_49 : decode cX6_cutBy 49 = .ok (.iadd, 1) := by decide +kernel
theorem dX6_cutBy_50 : decode cX6_cutBy 50 = .ok (.iload_n 2, 1) := by decide +kernel
theorem dX6_cutBy_51 : decode cX6_cutBy 51 = .ok (.iconst 1, 1) := by decide +kernel
theorem dX6_cutBy_52 : decode cX6_cutBy 52 = .ok (.ixor, 1) := by decide +kernel
theorem dX6_cutBy_53 : decode cX6_cutBy 53 = .ok (.invokevirtual 128, 3) := by decide +kernel
theorem dX6_cutBy_56 : decode cX6_cutBy 56 = .ok (.aload_n 0, 1) := by decide +kernel
theorem dX6_cutBy_57 : decode cX6_cutBy 57 = .ok (.iload_n 1, 1) := by decide +kernel
theorem dX6_cutBy_58 : decode cX6_cutBy 58 = .ok (.invokevirtual 90, 3) := by decide +kernel
theorem dX6_cutBy_61 : decode cX6_cutBy 61 = .ok (.istore 8, 2) := by decide +kernel
theorem dX6_cutBy_63 : decode cX6_cutBy 63 = .ok (.aload_n 0, 1) := by decide +kernel
theorem dX6_cutBy_64 : decode cX6_cutBy 64 = .ok (.iload_n 2, 1) := by decide +kernel
theorem dX6_cutBy_65 : decode cX6_cutBy 65 = .ok (.invokevirtual 96, 3) := by decide +kernel
theorem dX6_cutBy_68 : decode cX6_cutBy 68 = .ok (.istore 9, 2) := by decide +kernel
theorem dX6_cutBy_70 : decode cX6_cutBy 70 = .ok (.iload 8, 2) := by decide +kernel
theorem dX6_cutBy_72 : decode cX6_cutBy 72 = .ok (.iload_n 2, 1) := by decide +kernel
theorem dX6_cutBy_73 : decode cX6_cutBy 73 = .ok (.if_icmp .ne 7, 3) := by decide +kernel
theorem dX6_cutBy_76 : decode cX6_cutBy 76 = .ok (.iconst 1, 1) := by decide +kernel
theorem dX6_cutBy_77 : decode cX6_cutBy 77 = .ok (.goto 4, 3) := by decide +kernel
theorem dX6_cutBy_80 : decode cX6_cutBy 80 = .ok (.iconst 0, 1) := by decide +kernel
theorem dX6_cutBy_81 : decode cX6_cutBy 81 = .ok (.istore 10, 2) := by decide +kernel
theorem dX6_cutBy_83 : decode cX6_cutBy 83 = .ok (.aload_n 0, 1) := by decide +kernel
theorem dX6_cutBy_84 : decode cX6_cutBy 84 = .ok (.iload_n 1, 1) := by decide +kernel
theorem dX6_cutBy_85 : decode cX6_cutBy 85 = .ok (.iload 7, 2) := by decide +kernel
theorem dX6_cutBy_87 : decode cX6_cutBy 87 = .ok (.invokevirtual 99, 3) := by decide +kernel
theorem dX6_cutBy_90 : decode cX6_cutBy 90 = .ok (.aload_n 0, 1) := by decide +kernel
theorem dX6_cutBy_91 : decode cX6_cutBy 91 = .ok (.iload 7, 2) := by decide +kernel
theorem dX6_cutBy_93 : decode cX6_cutBy 93 = .ok (.iload_n 2, 1) := by decide +kernel
theorem dX6_cutBy_94 : decode cX6_cutBy 94 = .ok (.invokevirtual 99, 3) := by decide +kernel
theorem dX6_cutBy_97 : decode cX6_cutBy 97 = .ok (.aload_n 0, 1) := by decide +kernel
theorem dX6_cutBy_98 : decode cX6_cutBy 98 = .ok (.iload 5, 2) := by decide +kernel
theorem dX6_cutBy_100 : decode cX6_cutBy 100 = .ok (.iload 10, 2) := by decide +kernel
theorem dX6_cutBy_102 : decode cX6_cutBy 102 = .ok (.ifCond .eq 8, 3) := by decide +kernel
theorem dX6_cutBy_105 : decode cX6_cutBy 105 = .ok (.iload 6, 2) := by decide +kernel
theorem dX6_cutBy_107 : decode cX6_cutBy 107 = .ok (.goto 5, 3) := by decide +kernel
theorem dX6_cutBy_110 : decode cX6_cutBy 110 = .ok (.iload 8, 2) := by decide +kernel
theorem dX6_cutBy_112 : decode cX6_cutBy 112 = .ok (.invokevirtual 99, 3) := by decide +kernel
theorem dX6_cutBy_115 : decode cX6_cutBy 115 = .ok (.iload 10, 2) := by decide +kernel
theorem dX6_cutBy_117 : decode cX6_cutBy 117 = .ok (.ifCond .ne 11, 3) := by decide +kernel
theorem dX6_cutBy_120 : decode cX6_cutBy 120 = .ok (.aload_n 0, 1) := by decide +kernel
theorem dX6_cutBy_121 : decode cX6_cutBy 121 = .ok (.iload 9, 2) := by decide +kernel
theorem dX6_cutBy_123 : decode cX6_cutBy 123 = .ok (.iload 6, 2) := by decide +kernel
theorem dX6_cutBy_125 : decode cX6_cutBy 125 = .ok (.invokevirtual 99, 3) := by decide +kernel
theorem dX6_cutBy_128 : decode cX6_cutBy 128 = .ok (.aload_n 0, 1) := by decide +kernel
theorem dX6_cutBy_129 : decode cX6_cutBy 129 = .ok (.iload 6, 2) := by decide +kernel
theorem dX6_cutBy_131 : decode cX6_cutBy 131 = .ok (.iload 7, 2) := by decide +kernel
theorem dX6_cutBy_133 : decode cX6_cutBy 133 = .ok (.iconst 1, 1) := by decide +kernel
theorem dX6_cutBy_134 : decode cX6_cutBy 134 = .ok (.iadd, 1) := by decide +kernel
theorem dX6_cutBy_135 : decode cX6_cutBy 135 = .ok (.invokevirtual 99, 3) := by decide +kernel
theorem dX6_cutBy_138 : decode cX6_cutBy 138 = .ok (.aload_n 0, 1) := by decide +kernel
theorem dX6_cutBy_139 : decode cX6_cutBy 139 = .ok (.iload 7, 2) := by decide +kernel
theorem dX6_cutBy_141 : decode cX6_cutBy 141 = .ok (.iconst 1, 1) := by decide +kernel
theorem dX6_cutBy_142 : decode cX6_cutBy 142 = .ok (.iadd, 1) := by decide +kernel
theorem dX6_cutBy_143 : decode cX6_cutBy 143 = .ok (.iload 5, 2) := by decide +kernel
theorem dX6_cutBy_145 : decode cX6_cutBy 145 = .ok (.invokevirtual 99, 3) := by decide +kernel
theorem dX6_cutBy_148 : decode cX6_cutBy 148 = .ok (.aload_n 0, 1) := by decide +kernel
theorem dX6_cutBy_149 : decode cX6_cutBy 149 = .ok (.getfield 9, 3) := by decide +kernel
theorem dX6_cutBy_152 : decode cX6_cutBy 152 = .ok (.sipush 1648, 3) := by decide +kernel
theorem dX6_cutBy_155 : decode cX6_cutBy 155 = .ok (.iload_n 3, 1) := by decide +kernel
theorem dX6_cutBy_156 : decode cX6_cutBy 156 = .ok (.iadd, 1) := by decide +kernel
theorem dX6_cutBy_157 : decode cX6_cutBy 157 = .ok (.aload_n 0, 1) := by decide +kernel
theorem dX6_cutBy_158 : decode cX6_cutBy 158 = .ok (.iload_n 1, 1) := by decide +kernel
theorem dX6_cutBy_159 : decode cX6_cutBy 159 = .ok (.iload_n 3, 1) := by decide +kernel
theorem dX6_cutBy_160 : decode cX6_cutBy 160 = .ok (.invokevirtual 187, 3) := by decide +kernel
theorem dX6_cutBy_163 : decode cX6_cutBy 163 = .ok (.iastore, 1) := by decide +kernel
theorem dX6_cutBy_164 : decode cX6_cutBy 164 = .ok (.aload_n 0, 1) := by decide +kernel
theorem dX6_cutBy_165 : decode cX6_cutBy 165 = .ok (.getfield 9, 3) := by decide +kernel
theorem dX6_cutBy_168 : decode cX6_cutBy 168 = .ok (.sipush 1648, 3) := by decide +kernel
theorem dX6_cutBy_171 : decode cX6_cutBy 171 = .ok (.iload 4, 2) := by decide +kernel
theorem dX6_cutBy_173 : decode cX6_cutBy 173 = .ok (.iadd, 1) := by decide +kernel
theorem dX6_cutBy_174 : decode cX6_cutBy 174 = .ok (.aload_n 0, 1) := by decide +kernel
theorem dX6_cutBy_175 : decode cX6_cutBy 175 = .ok (.iload 5, 2) := by decide +kernel
theorem dX6_cutBy_177 : decode cX6_cutBy 177 = .ok (.iload 4, 2) := by decide +kernel
theorem dX6_cutBy_179 : decode cX6_cutBy 179 = .ok (.invokevirtual 187, 3) := by decide +kernel
theorem dX6_cutBy_182 : decode cX6_cutBy 182 = .ok (.iastore, 1) := by decide +kernel
theorem dX6_cutBy_183 : decode cX6_cutBy 183 = .ok (.aload_n 0, 1) := by decide +kernel
theorem dX6_cutBy_184 : decode cX6_cutBy 184 = .ok (.iload 5, 2) := by decide +kernel
theorem dX6_cutBy_186 : decode cX6_cutBy 186 = .ok (.aload_n 0, 1) := by decide +kernel
theorem dX6_cutBy_187 : decode cX6_cutBy 187 = .ok (.getfield 9, 3) := by decide +kernel
theorem dX6_cutBy_190 : decode cX6_cutBy 190 = .ok (.sipush 880, 3) := by decide +kernel
theorem dX6_cutBy_193 : decode cX6_cutBy 193 = .ok (.iload_n 1, 1) := by decide +kernel
theorem dX6_cutBy_194 : decode cX6_cutBy 194 = .ok (.iadd, 1) := by decide +kernel
theorem dX6_cutBy_195 : decode cX6_cutBy 195 = .ok (.iaload, 1) := by decide +kernel
theorem dX6_cutBy_196 : decode cX6_cutBy 196 = .ok (.aload_n 0, 1) := by decide +kernel
theorem dX6_cutBy_197 : decode cX6_cutBy 197 = .ok (.getfield 9, 3) := by decide +kernel
theorem dX6_cutBy_200 : decode cX6_cutBy 200 = .ok (.sipush 1168, 3) := by decide +kernel
theorem dX6_cutBy_203 : decode cX6_cutBy 203 = .ok (.iload_n 1, 1) := by decide +kernel
theorem dX6_cutBy_204 : decode cX6_cutBy 204 = .ok (.iadd, 1) := by decide +kernel
theorem dX6_cutBy_205 : decode cX6_cutBy 205 = .ok (.iaload, 1) := by decide +kernel
theorem dX6_cutBy_206 : decode cX6_cutBy 206 = .ok (.invokevirtual 131, 3) := by decide +kernel
theorem dX6_cutBy_209 : decode cX6_cutBy 209 = .ok (.aload_n 0, 1) := by decide +kernel
theorem dX6_cutBy_210 : decode cX6_cutBy 210 = .ok (.iload 6, 2) := by decide +kernel
theorem dX6_cutBy_212 : decode cX6_cutBy 212 = .ok (.aload_n 0, 1) := by decide +kernel
theorem dX6_cutBy_213 : decode cX6_cutBy 213 = .ok (.getfield 9, 3) := by decide +kernel
theorem dX6_cutBy_216 : decode cX6_cutBy 216 = .ok (.sipush 880, 3) := by decide +kernel
theorem dX6_cutBy_219 : decode cX6_cutBy 219 = .ok (.iload_n 2, 1) := by decide +kernel
theorem dX6_cutBy_220 : decode cX6_cutBy 220 = .ok (.iadd, 1) := by decide +kernel
theorem dX6_cutBy_221 : decode cX6_cutBy 221 = .ok (.iaload, 1) := by decide +kernel
theorem dX6_cutBy_222 : decode cX6_cutBy 222 = .ok (.aload_n 0, 1) := by decide +kernel
theorem dX6_cutBy_223 : decode cX6_cutBy 223 = .ok (.getfield 9, 3) := by decide +kernel
theorem dX6_cutBy_226 : decode cX6_cutBy 226 = .ok (.sipush 1168, 3) := by decide +kernel
theorem dX6_cutBy_229 : decode cX6_cutBy 229 = .ok (.iload_n 2, 1) := by decide +kernel
theorem dX6_cutBy_230 : decode cX6_cutBy 230 = .ok (.iadd, 1) := by decide +kernel
theorem dX6_cutBy_231 : decode cX6_cutBy 231 = .ok (.iaload, 1) := by decide +kernel
theorem dX6_cutBy_232 : decode cX6_cutBy 232 = .ok (.invokevirtual 131, 3) := by decide +kernel
theorem dX6_cutBy_235 : decode cX6_cutBy 235 = .ok (.aload_n 0, 1) := by decide +kernel
theorem dX6_cutBy_236 : decode cX6_cutBy 236 = .ok (.iload 7, 2) := by decide +kernel
theorem dX6_cutBy_238 : decode cX6_cutBy 238 = .ok (.iconst 0, 1) := by decide +kernel
theorem dX6_cutBy_239 : decode cX6_cutBy 239 = .ok (.iconst 0, 1) := by decide +kernel
theorem dX6_cutBy_240 : decode cX6_cutBy 240 = .ok (.invokevirtual 131, 3) := by decide +kernel
theorem dX6_cutBy_243 : decode cX6_cutBy 243 = .ok (.aload_n 0, 1) := by decide +kernel
theorem dX6_cutBy_244 : decode cX6_cutBy 244 = .ok (.getfield 9, 3) := by decide +kernel
theorem dX6_cutBy_247 : decode cX6_cutBy 247 = .ok (.sipush 1600, 3) := by decide +kernel
theorem dX6_cutBy_250 : decode cX6_cutBy 250 = .ok (.iload 4, 2) := by decide +kernel
theorem dX6_cutBy_252 : decode cX6_cutBy 252 = .ok (.iadd, 1) := by decide +kernel
theorem dX6_cutBy_253 : decode cX6_cutBy 253 = .ok (.aload_n 0, 1) := by decide +kernel
theorem dX6_cutBy_254 : decode cX6_cutBy 254 = .ok (.getfield 9, 3) := by decide +kernel
theorem dX6_cutBy_257 : decode cX6_cutBy 257 = .ok (.sipush 1600, 3) := by decide +kernel
theorem dX6_cutBy_260 : decode cX6_cutBy 260 = .ok (.iload_n 3, 1) := by decide +kernel
theorem dX6_cutBy_261 : decode cX6_cutBy 261 = .ok (.iadd, 1) := by decide +kernel
theorem dX6_cutBy_262 : decode cX6_cutBy 262 = .ok (.iaload, 1) := by decide +kernel
theorem dX6_cutBy_263 : decode cX6_cutBy 263 = .ok (.iconst 1, 1) := by decide +kernel
theorem dX6_cutBy_264 : decode cX6_cutBy 264 = .ok (.ishr, 1) := by decide +kernel
theorem dX6_cutBy_265 : decode cX6_cutBy 265 = .ok (.iastore, 1) := by decide +kernel
theorem dX6_cutBy_266 : decode cX6_cutBy 266 = .ok (.aload_n 0, 1) := by decide +kernel
theorem dX6_cutBy_267 : decode cX6_cutBy 267 = .ok (.getfield 9, 3) := by decide +kernel
theorem dX6_cutBy_270 : decode cX6_cutBy 270 = .ok (.sipush 1600, 3) := by decide +kernel
theorem dX6_cutBy_273 : decode cX6_cutBy 273 = .ok (.iload_n 3, 1) := by decide +kernel
theorem dX6_cutBy_274 : decode cX6_cutBy 274 = .ok (.iadd, 1) := by decide +kernel
theorem dX6_cutBy_275 : decode cX6_cutBy 275 = .ok (.dup2, 1) := by decide +kernel
theorem dX6_cutBy_276 : decode cX6_cutBy 276 = .ok (.iaload, 1) := by decide +kernel
theorem dX6_cutBy_277 : decode cX6_cutBy 277 = .ok (.aload_n 0, 1) := by decide +kernel
theorem dX6_cutBy_278 : decode cX6_cutBy 278 = .ok (.getfield 9, 3) := by decide +kernel
theorem dX6_cutBy_281 : decode cX6_cutBy 281 = .ok (.sipush 1600, 3) := by decide +kernel
theorem dX6_cutBy_284 : decode cX6_cutBy 284 = .ok (.iload 4, 2) := by decide +kernel
theorem dX6_cutBy_286 : decode cX6_cutBy 286 = .ok (.iadd, 1) := by decide +kernel
theorem dX6_cutBy_287 : decode cX6_cutBy 287 = .ok (.iaload, 1) := by decide +kernel
theorem dX6_cutBy_288 : decode cX6_cutBy 288 = .ok (.isub, 1) := by decide +kernel
theorem dX6_cutBy_289 : decode cX6_cutBy 289 = .ok (.iastore, 1) := by decide +kernel
theorem dX6_cutBy_290 : decode cX6_cutBy 290 = .ok (.return_, 1) := by decide +kernel
theorem dX6_countRound_0 : decode cX6_countRound 0 = .ok (.iconst 0, 1) := by decide +kernel
theorem dX6_countRound_1 : decode cX6_countRound 1 = .ok (.istore_n 3, 1) := by decide +kernel
theorem dX6_countRound_2 : decode cX6_countRound 2 = .ok (.iload_n 1, 1) := by decide +kernel
theorem dX6_countRound_3 : decode cX6_countRound 3 = .ok (.istore 4, 2) := by decide +kernel
theorem dX6_countRound_5 : decode cX6_countRound 5 = .ok (.aload_n 0, 1) := by decide +kernel
theorem dX6_countRound_6 : decode cX6_countRound 6 = .ok (.getfield 9, 3) := by decide +kernel
theorem dX6_countRound_9 : decode cX6_countRound 9 = .ok (.sipush 592, 3) := by decide +kernel
theorem dX6_countRound_12 : decode cX6_countRound 12 = .ok (.iload 4, 2) := by decide +kernel
theorem dX6_countRound_14 : decode cX6_countRound 14 = .ok (.iadd, 1) := by decide +kernel
theorem dX6_countRound_15 : decode cX6_countRound 15 = .ok (.iload_n 2, 1) := by decide +kernel
theorem dX6_countRound_16 : decode cX6_countRound 16 = .ok (.iastore, 1) := by decide +kernel
theorem dX6_countRound_17 : decode cX6_countRound 17 = .ok (.iinc 3 1, 3) := by decide +kernel
theorem dX6_countRound_20 : decode cX6_countRound 20 = .ok (.aload_n 0, 1) := by decide +kernel
theorem dX6_countRound_21 : decode cX6_countRound 21 = .ok (.iload 4, 2) := by decide +kernel
theorem dX6_countRound_23 : decode cX6_countRound 23 = .ok (.invokevirtual 90, 3) := by decide +kernel
theorem dX6_countRound_26 : decode cX6_countRound 26 = .ok (.istore 4, 2) := by decide +kernel
theorem dX6_countRound_28 : decode cX6_countRound 28 = .ok (.iload 4, 2) := by decide +kernel
theorem dX6_countRound_30 : decode cX6_countRound 30 = .ok (.iload_n 1, 1) := by decide +kernel
theorem dX6_countRound_31 : decode cX6_countRound 31 = .ok (.if_icmp .ne (-26), 3) := by decide +kernel
theorem dX6_countRound_34 : decode cX6_countRound 34 = .ok (.iload_n 3, 1) := by decide +kernel
theorem dX6_countRound_35 : decode cX6_countRound 35 = .ok (.ireturn, 1) := by decide +kernel
theorem dX6_wallsBetween_0 : decode cX6_wallsBetween 0 = .ok (.iconst 0, 1) := by decide +kernel
theorem dX6_wallsBetween_1 : decode cX6_wallsBetween 1 = .ok (.istore_n 3, 1) := by decide +kernel
theorem dX6_wallsBetween_2 : decode cX6_wallsBetween 2 = .ok (.iconst 0, 1) := by decide +kernel
theorem dX6_wallsBetween_3 : decode cX6_wallsBetween 3 = .ok (.istore 4, 2) := by decide +kernel
theorem dX6_wallsBetween_5 : decode cX6_wallsBetween 5 = .ok (.iload 4, 2) := by decide +kernel
theorem dX6_wallsBetween_7 : decode cX6_wallsBetween 7 = .ok (.sipush 144, 3) := by decide +kernel
theorem dX6_wallsBetween_10 : decode cX6_wallsBetween 10 = .ok (.if_icmp .ge 74, 3) := by decide +kernel
theorem dX6_wallsBetween_13 : decode cX6_wallsBetween 13 = .ok (.iload_n 3, 1) := by decide +kernel
theorem dX6_wallsBetween_14 : decode cX6_wallsBetween 14 = .ok (.aload_n 0, 1) := by decide +kernel
theorem dX6_wallsBetween_15 : decode cX6_wallsBetween 15 = .ok (.iload 4, 2) := by decide +kernel
theorem dX6_wallsBetween_17 : decode cX6_wallsBetween 17 = .ok (.invokevirtual 80, 3) := by decide +kernel
theorem dX6_wallsBetween_20 : decode cX6_wallsBetween 20 = .ok (.ifCond .eq 55, 3) := by decide +kernel
theorem dX6_wallsBetween_23 : decode cX6_wallsBetween 23 = .ok (.aload_n 0, 1) := by decide +kernel
theorem dX6_wallsBetween_24 : decode cX6_wallsBetween 24 = .ok (.iconst 2, 1) := by decide +kernel
theorem dX6_wallsBetween_25 : decode cX6_wallsBetween 25 = .ok (.iload 4, 2) := by decide +kernel
theorem dX6_wallsBetween_27 : decode cX6_wallsBetween 27 = .ok (.imul, 1) := by decide +kernel
theorem dX6_wallsBetween_28 : decode cX6_wallsBetween 28 = .ok (.invokevirtual 84, 3) := by decide +kernel
theorem dX6_wallsBetween_31 : decode cX6_wallsBetween 31 = .ok (.iload_n 1, 1) := by decide +kernel
theorem dX6_wallsBetween_32 : decode cX6_wallsBetween 32 = .ok (.if_icmp .ne 15, 3) := by decide +kernel
theorem dX6_wallsBetween_35 : decode cX6_wallsBetween 35 = .ok (.aload_n 0, 1) := by decide +kernel
theorem dX6_wallsBetween_36 : decode cX6_wallsBetween 36 = .ok (.iconst 2, 1) := by decide +kernel
theorem dX6_wallsBetween_37 : decode cX6_wallsBetween 37 = .ok (.iload 4, 2) := by decide +kernel
theorem dX6_wallsBetween_39 : decode cX6_wallsBetween 39 = .ok (.imul, 1) := by decide +kernel
theorem dX6_wallsBetween_40 : decode cX6_wallsBetween 40 = .ok (.invokevirtual 105, 3) := by decide +kernel
theorem dX6_wallsBetween_43 : decode cX6_wallsBetween 43 = .ok (.iload_n 2, 1) := by decide +kernel
theorem dX6_wallsBetween_44 : decode cX6_wallsBetween 44 = .ok (.if_icmp .eq 27, 3) := by decide +kernel
theorem dX6_wallsBetween_47 : decode cX6_wallsBetween 47 = .ok (.aload_n 0, 1) := by decide +kernel
theorem dX6_wallsBetween_48 : decode cX6_wallsBetween 48 = .ok (.iconst 2, 1) := by decide +kernel
theorem dX6_wallsBetween_49 : decode cX6_wallsBetween 49 = .ok (.iload 4, 2) := by decide +kernel
theorem dX6_wallsBetween_51 : decode cX6_wallsBetween 51 = .ok (.imul, 1) := by decide +kernel
theorem dX6_wallsBetween_52 : decode cX6_wallsBetween 52 = .ok (.invokevirtual 84, 3) := by decide +kernel
theorem dX6_wallsBetween_55 : decode cX6_wallsBetween 55 = .ok (.iload_n 2, 1) := by decide +kernel
theorem dX6_wallsBetween_56 : decode cX6_wallsBetween 56 = .ok (.if_icmp .ne 19, 3) := by decide +kernel
theorem dX6_wallsBetween_59 : decode cX6_wallsBetween 59 = .ok (.aload_n 0, 1) := by decide +kernel
theorem dX6_wallsBetween_60 : decode cX6_wallsBetween 60 = .ok (.iconst 2, 1) := by decide +kernel
theorem dX6_wallsBetween_61 : decode cX6_wallsBetween 61 = .ok (.iload 4, 2) := by decide +kernel
theorem dX6_wallsBetween_63 : decode cX6_wallsBetween 63 = .ok (.imul, 1) := by decide +kernel
theorem dX6_wallsBetween_64 : decode cX6_wallsBetween 64 = .ok (.invokevirtual 105, 3) := by decide +kernel
theorem dX6_wallsBetween_67 : decode cX6_wallsBetween 67 = .ok (.iload_n 1, 1) := by decide +kernel
theorem dX6_wallsBetween_68 : decode cX6_wallsBetween 68 = .ok (.if_icmp .ne 7, 3) := by decide +kernel
theorem dX6_wallsBetween_71 : decode cX6_wallsBetween 71 = .ok (.iconst 1, 1) := by decide +kernel
theorem dX6_wallsBetween_72 : decode cX6_wallsBetween 72 = .ok (.goto 4, 3) := by decide +kernel
theorem dX6_wallsBetween_75 : decode cX6_wallsBetween 75 = .ok (.iconst 0, 1) := by decide +kernel
theorem dX6_wallsBetween_76 : decode cX6_wallsBetween 76 = .ok (.iadd, 1) := by decide +kernel
theorem dX6_wallsBetween_77 : decode cX6_wallsBetween 77 = .ok (.istore_n 3, 1) := by decide +kernel
theorem dX6_wallsBetween_78 : decode cX6_wallsBetween 78 = .ok (.iinc 4 1, 3) := by decide +kernel
theorem dX6_wallsBetween_81 : decode cX6_wallsBetween 81 = .ok (.goto (-76), 3) := by decide +kernel
theorem dX6_wallsBetween_84 : decode cX6_wallsBetween 84 = .ok (.iload_n 3, 1) := by decide +kernel
theorem dX6_wallsBetween_85 : decode cX6_wallsBetween 85 = .ok (.ireturn, 1) := by decide +kernel
theorem dX6_canBurst_0 : decode cX6_canBurst 0 = .ok (.iconst 2, 1) := by decide +kernel
theorem dX6_canBurst_1 : decode cX6_canBurst 1 = .ok (.iload_n 1, 1) := by decide +kernel
theorem dX6_canBurst_2 : decode cX6_canBurst 2 = .ok (.imul, 1) := by decide +kernel
theorem dX6_canBurst_3 : decode cX6_canBurst 3 = .ok (.istore_n 2, 1) := by decide +kernel
theorem dX6_canBurst_4 : decode cX6_canBurst 4 = .ok (.aload_n 0, 1) := by decide +kernel
theorem dX6_canBurst_5 : decode cX6_canBurst 5 = .ok (.iload_n 2, 1) := by decide +kernel
theorem dX6_canBurst_6 : decode cX6_canBurst 6 = .ok (.invokevirtual 84, 3) := by decide +kernel
theorem dX6_canBurst_9 : decode cX6_canBurst 9 = .ok (.istore_n 3, 1) := by decide +kernel
theorem dX6_canBurst_10 : decode cX6_canBurst 10 = .ok (.aload_n 0, 1) := by decide +kernel
theorem dX6_canBurst_11 : decode cX6_canBurst 11 = .ok (.iload_n 2, 1) := by decide +kernel
theorem dX6_canBurst_12 : decode cX6_canBurst 12 = .ok (.invokevirtual 105, 3) := by decide +kernel
theorem dX6_canBurst_15 : decode cX6_canBurst 15 = .ok (.istore 4, 2) := by decide +kernel
theorem dX6_canBurst_17 : decode cX6_canBurst 17 = .ok (.aload_n 0, 1) := by decide +kernel
theorem dX6_canBurst_18 : decode cX6_canBurst 18 = .ok (.iload_n 1, 1) := by decide +kernel
theorem dX6_canBurst_19 : decode cX6_canBurst 19 = .ok (.invokevirtual 112, 3) := by decide +kernel
theorem dX6_canBurst_22 : decode cX6_canBurst 22 = .ok (.ifCond .eq 69, 3) := by decide +kernel
theorem dX6_canBurst_25 : decode cX6_canBurst 25 = .ok (.aload_n 0, 1) := by decide +kernel
theorem dX6_canBurst_26 : decode cX6_canBurst 26 = .ok (.iload_n 3, 1) := by decide +kernel
theorem dX6_canBurst_27 : decode cX6_canBurst 27 = .ok (.iload 4, 2) := by decide +kernel
theorem dX6_canBurst_29 : decode cX6_canBurst 29 = .ok (.invokevirtual 190, 3) := by decide +kernel
theorem dX6_canBurst_32 : decode cX6_canBurst 32 = .ok (.iconst 1, 1) := by decide +kernel
theorem dX6_canBurst_33 : decode cX6_canBurst 33 = .ok (.if_icmp .ne 58, 3) := by decide +kernel
theorem dX6_canBurst_36 : decode cX6_canBurst 36 = .ok (.aload_n 0, 1) := by decide +kernel
theorem dX6_canBurst_37 : decode cX6_canBurst 37 = .ok (.aload_n 0, 1) := by decide +kernel
theorem dX6_canBurst_38 : decode cX6_canBurst 38 = .ok (.aload_n 0, 1) := by decide +kernel
theorem dX6_canBurst_39 : decode cX6_canBurst 39 = .ok (.iload_n 2, 1) := by decide +kernel
theorem dX6_canBurst_40 : decode cX6_canBurst 40 = .ok (.invokevirtual 90, 3) := by decide +kernel
theorem dX6_canBurst_43 : decode cX6_canBurst 43 = .ok (.invokevirtual 105, 3) := by decide +kernel
theorem dX6_canBurst_46 : decode cX6_canBurst 46 = .ok (.invokevirtual 115, 3) := by decide +kernel
theorem dX6_canBurst_49 : decode cX6_canBurst 49 = .ok (.iconst 3, 1) := by decide +kernel
theorem dX6_canBurst_50 : decode cX6_canBurst 50 = .ok (.if_icmp .le 41, 3) := by decide +kernel
theorem dX6_canBurst_53 : decode cX6_canBurst 53 = .ok (.aload_n 0, 1) := by decide +kernel
theorem dX6_canBurst_54 : decode cX6_canBurst 54 = .ok (.aload_n 0, 1) := by decide +kernel
theorem dX6_canBurst_55 : decode cX6_canBurst 55 = .ok (.aload_n 0, 1) := by decide +kernel
theorem dX6_canBurst_56 : decode cX6_canBurst 56 = .ok (.iload_n 2, 1) := by decide +kernel
theorem dX6_canBurst_57 : decode cX6_canBurst 57 = .ok (.invokevirtual 96, 3) := by decide +kernel
theorem dX6_canBurst_60 : decode cX6_canBurst 60 = .ok (.invokevirtual 105, 3) := by decide +kernel
theorem dX6_canBurst_63 : decode cX6_canBurst 63 = .ok (.invokevirtual 115, 3) := by decide +kernel
theorem dX6_canBurst_66 : decode cX6_canBurst 66 = .ok (.iconst 3, 1) := by decide +kernel
theorem dX6_canBurst_67 : decode cX6_canBurst 67 = .ok (.if_icmp .le 24, 3) := by decide +kernel
theorem dX6_canBurst_70 : decode cX6_canBurst 70 = .ok (.aload_n 0, 1) := by decide +kernel
theorem dX6_canBurst_71 : decode cX6_canBurst 71 = .ok (.iload_n 3, 1) := by decide +kernel
theorem dX6_canBurst_72 : decode cX6_canBurst 72 = .ok (.invokevirtual 115, 3) := by decide +kernel
theorem dX6_canBurst_75 : decode cX6_canBurst 75 = .ok (.aload_n 0, 1) := by decide +kernel
theorem dX6_canBurst_76 : decode cX6_canBurst 76 = .ok (.iload 4, 2) := by decide +kernel
theorem dX6_canBurst_78 : decode cX6_canBurst 78 = .ok (.invokevirtual 115, 3) := by decide +kernel
theorem dX6_canBurst_81 : decode cX6_canBurst 81 = .ok (.iadd, 1) := by decide +kernel
theorem dX6_canBurst_82 : decode cX6_canBurst 82 = .ok (.bipush 6, 2) := by decide +kernel
theorem dX6_canBurst_84 : decode cX6_canBurst 84 = .ok (.if_icmp .le 7, 3) := by decide +kernel
theorem dX6_canBurst_87 : decode cX6_canBurst 87 = .ok (.iconst 1, 1) := by decide +kernel
theorem dX6_canBurst_88 : decode cX6_canBurst 88 = .ok (.goto 4, 3) := by decide +kernel
theorem dX6_canBurst_91 : decode cX6_canBurst 91 = .ok (.iconst 0, 1) := by decide +kernel
theorem dX6_canBurst_92 : decode cX6_canBurst 92 = .ok (.ireturn, 1) := by decide +kernel
theorem dX6_melt_0 : decode cX6_melt 0 = .ok (.iload_n 1, 1) := by decide +kernel
theorem dX6_melt_1 : decode cX6_melt 1 = .ok (.iload_n 2, 1) := by decide +kernel
theorem dX6_melt_2 : decode cX6_melt 2 = .ok (.if_icmp .ge 7, 3) := by decide +kernel
theorem dX6_melt_5 : decode cX6_melt 5 = .ok (.iload_n 1, 1) := by decide +kernel
theorem dX6_melt_6 : decode cX6_melt 6 = .ok (.goto 4, 3) := by decide +kernel
theorem dX6_melt_9 : decode cX6_melt 9 = .ok (.iload_n 2, 1) := by decide +kernel
theorem dX6_melt_10 : decode cX6_melt 10 = .ok (.istore_n 3, 1) := by decide +kernel
theorem dX6_melt_11 : decode cX6_melt 11 = .ok (.iload_n 1, 1) := by decide +kernel
theorem dX6_melt_12 : decode cX6_melt 12 = .ok (.iload_n 2, 1) := by decide +kernel
theorem dX6_melt_13 : decode cX6_melt 13 = .ok (.if_icmp .ge 7, 3) := by decide +kernel
theorem dX6_melt_16 : decode cX6_melt 16 = .ok (.iload_n 2, 1) := by decide +kernel
theorem dX6_melt_17 : decode cX6_melt 17 = .ok (.goto 4, 3) := by decide +kernel
theorem dX6_melt_20 : decode cX6_melt 20 = .ok (.iload_n 1, 1) := by decide +kernel
theorem dX6_melt_21 : decode cX6_melt 21 = .ok (.istore 4, 2) := by decide +kernel
theorem dX6_melt_23 : decode cX6_melt 23 = .ok (.aload_n 0, 1) := by decide +kernel
theorem dX6_melt_24 : decode cX6_melt 24 = .ok (.getfield 9, 3) := by decide +kernel
theorem dX6_melt_27 : decode cX6_melt 27 = .ok (.sipush 1456, 3) := by decide +kernel
theorem dX6_melt_30 : decode cX6_melt 30 = .ok (.iload_n 1, 1) := by decide +kernel
theorem dX6_melt_31 : decode cX6_melt 31 = .ok (.iconst 2, 1) := by decide +kernel
theorem dX6_melt_32 : decode cX6_melt 32 = .ok (.idiv, 1) := by decide +kernel
theorem dX6_melt_33 : decode cX6_melt 33 = .ok (.iadd, 1) := by decide +kernel
theorem dX6_melt_34 : decode cX6_melt 34 = .ok (.iaload, 1) := by decide +kernel
theorem dX6_melt_35 : decode cX6_melt 35 = .ok (.aload_n 0, 1) := by decide +kernel
theorem dX6_melt_36 : decode cX6_melt 36 = .ok (.getfield 9, 3) := by decide +kernel
theorem dX6_melt_39 : decode cX6_melt 39 = .ok (.sipush 1456, 3) := by decide +kernel
theorem dX6_melt_42 : decode cX6_melt 42 = .ok (.iload_n 2, 1) := by decide +kernel
theorem dX6_melt_43 : decode cX6_melt 43 = .ok (.iconst 2, 1) := by decide +kernel
theorem dX6_melt_44 : decode cX6_melt 44 = .ok (.idiv, 1) := by decide +kernel
theorem dX6_melt_45 : decode cX6_melt 45 = .ok (.iadd, 1) := by decide +kernel
theorem dX6_melt_46 : decode cX6_melt 46 = .ok (.iaload, 1) := by decide +kernel
theorem dX6_melt_47 : decode cX6_melt 47 = .ok (.iadd, 1) := by decide +kernel
theorem dX6_melt_48 : decode cX6_melt 48 = .ok (.istore 5, 2) := by decide +kernel
theorem dX6_melt_50 : decode cX6_melt 50 = .ok (.aload_n 0, 1) := by decide +kernel
theorem dX6_melt_51 : decode cX6_melt 51 = .ok (.getfield 9, 3) := by decide +kernel
theorem dX6_melt_54 : decode cX6_melt 54 = .ok (.sipush 1456, 3) := by decide +kernel
theorem dX6_melt_57 : decode cX6_melt 57 = .ok (.iload_n 3, 1) := by decide +kernel
theorem dX6_melt_58 : decode cX6_melt 58 = .ok (.iconst 2, 1) := by decide +kernel
theorem dX6_melt_59 : decode cX6_melt 59 = .ok (.idiv, 1) := by decide +kernel
theorem dX6_melt_60 : decode cX6_melt 60 = .ok (.iadd, 1) := by decide +kernel
theorem dX6_melt_61 : decode cX6_melt 61 = .ok (.iload 5, 2) := by decide +kernel
theorem dX6_melt_63 : decode cX6_melt 63 = .ok (.bipush 99, 2) := by decide +kernel
theorem dX6_melt_65 : decode cX6_melt 65 = .ok (.if_icmp .le 8, 3) := by decide +kernel
theorem dX6_melt_68 : decode cX6_melt 68 = .ok (.bipush 99, 2) := by decide +kernel
theorem dX6_melt_70 : decode cX6_melt 70 = .ok (.goto 5, 3) := by decide +kernel
theorem dX6_melt_73 : decode cX6_melt 73 = .ok (.iload 5, 2) := by decide +kernel
theorem dX6_melt_75 : decode cX6_melt 75 = .ok (.iastore, 1) := by decide +kernel
theorem dX6_melt_76 : decode cX6_melt 76 = .ok (.aload_n 0, 1) := by decide +kernel
theorem dX6_melt_77 : decode cX6_melt 77 = .ok (.getfield 9, 3) := by decide +kernel
theorem dX6_melt_80 : decode cX6_melt 80 = .ok (.sipush 1456, 3) := by decide +kernel
theorem dX6_melt_83 : decode cX6_melt 83 = .ok (.iload 4, 2) := by decide +kernel
theorem dX6_melt_85 : decode cX6_melt 85 = .ok (.iconst 2, 1) := by decide +kernel
theorem dX6_melt_86 : decode cX6_melt 86 = .ok (.idiv, 1) := by decide +kernel
theorem dX6_melt_87 : decode cX6_melt 87 = .ok (.iadd, 1) := by decide +kernel
theorem dX6_melt_88 : decode cX6_melt 88 = .ok (.iconst (-1), 1) := by decide +kernel
theorem dX6_melt_89 : decode cX6_melt 89 = .ok (.iastore, 1) := by decide +kernel
theorem dX6_melt_90 : decode cX6_melt 90 = .ok (.aload_n 0, 1) := by decide +kernel
theorem dX6_melt_91 : decode cX6_melt 91 = .ok (.iload 4, 2) := by decide +kernel
theorem dX6_melt_93 : decode cX6_melt 93 = .ok (.invokevirtual 124, 3) := by decide +kernel
theorem dX6_melt_96 : decode cX6_melt 96 = .ok (.aload_n 0, 1) := by decide +kernel
theorem dX6_melt_97 : decode cX6_melt 97 = .ok (.iload 4, 2) := by decide +kernel
theorem dX6_melt_99 : decode cX6_melt 99 = .ok (.iconst 1, 1) := by decide +kernel
theorem dX6_melt_100 : decode cX6_melt 100 = .ok (.ixor, 1) := by decide +kernel
theorem dX6_melt_101 : decode cX6_melt 101 = .ok (.invokevirtual 124, 3) := by decide +kernel
theorem dX6_melt_104 : decode cX6_melt 104 = .ok (.return_, 1) := by decide +kernel
theorem dX6_burst_0 : decode cX6_burst 0 = .ok (.aload_n 0, 1) := by decide +kernel
theorem dX6_burst_1 : decode cX6_burst 1 = .ok (.iconst 0, 1) := by decide +kernel
theorem dX6_burst_2 : decode cX6_burst 2 = .ok (.putfield 44, 3) := by decide +kernel
theorem dX6_burst_5 : decode cX6_burst 5 = .ok (.aload_n 0, 1) := by decide +kernel
theorem dX6_burst_6 : decode cX6_burst 6 = .ok (.iload_n 1, 1) := by decide +kernel
theorem dX6_burst_7 : decode cX6_burst 7 = .ok (.invokevirtual 80, 3) := by decide +kernel
theorem dX6_burst_10 : decode cX6_burst 10 = .ok (.ifCond .ne 10, 3) := by decide +kernel
theorem dX6_burst_13 : decode cX6_burst 13 = .ok (.aload_n 0, 1) := by decide +kernel
theorem dX6_burst_14 : decode cX6_burst 14 = .ok (.bipush (-2), 2) := by decide +kernel
theorem dX6_burst_16 : decode cX6_burst 16 = .ok (.invokevirtual 72, 3) := by decide +kernel
theorem dX6_burst_19 : decode cX6_burst 19 = .ok (.ireturn, 1) := by decide +kernel
theorem dX6_burst_20 : decode cX6_burst 20 = .ok (.aload_n 0, 1) := by decide +kernel
theorem dX6_burst_21 : decode cX6_burst 21 = .ok (.iload_n 1, 1) := by decide +kernel
theorem dX6_burst_22 : decode cX6_burst 22 = .ok (.invokevirtual 193, 3) := by decide +kernel
theorem dX6_burst_25 : decode cX6_burst 25 = .ok (.ifCond .ne 10, 3) := by decide +kernel
theorem dX6_burst_28 : decode cX6_burst 28 = .ok (.aload_n 0, 1) := by decide +kernel
theorem dX6_burst_29 : decode cX6_burst 29 = .ok (.bipush (-3), 2) := by decide +kernel
theorem dX6_burst_31 : decode cX6_burst 31 = .ok (.invokevirtual 72, 3) := by decide +kernel
theorem dX6_burst_34 : decode cX6_burst 34 = .ok (.ireturn, 1) := by decide +kernel
theorem dX6_burst_35 : decode cX6_burst 35 = .ok (.aload_n 0, 1) := by decide +kernel
theorem dX6_burst_36 : decode cX6_burst 36 = .ok (.iconst 2, 1) := by decide +kernel
theorem dX6_burst_37 : decode cX6_burst 37 = .ok (.iload_n 1, 1) := by decide +kernel
theorem dX6_burst_38 : decode cX6_burst 38 = .ok (.imul, 1) := by decide +kernel
theorem dX6_burst_39 : decode cX6_burst 39 = .ok (.invokevirtual 84, 3) := by decide +kernel
theorem dX6_burst_42 : decode cX6_burst 42 = .ok (.aload_n 0, 1) := by decide +kernel
theorem dX6_burst_43 : decode cX6_burst 43 = .ok (.iconst 2, 1) := by decide +kernel
theorem dX6_burst_44 : decode cX6_burst 44 = .ok (.iload_n 1, 1) := by decide +kernel
theorem dX6_burst_45 : decode cX6_burst 45 = .ok (.imul, 1) := by decide +kernel
theorem dX6_burst_46 : decode cX6_burst 46 = .ok (.invokevirtual 105, 3) := by decide +kernel
theorem dX6_burst_49 : decode cX6_burst 49 = .ok (.if_icmp .ge 9, 3) := by decide +kernel
theorem dX6_burst_52 : decode cX6_burst 52 = .ok (.iconst 2, 1) := by decide +kernel
theorem dX6_burst_53 : decode cX6_burst 53 = .ok (.iload_n 1, 1) := by decide +kernel
theorem dX6_burst_54 : decode cX6_burst 54 = .ok (.imul, 1) := by decide +kernel
theorem dX6_burst_55 : decode cX6_burst 55 = .ok (.goto 8, 3) := by decide +kernel
theorem dX6_burst_58 : decode cX6_burst 58 = .ok (.iconst 2, 1) := by decide +kernel
theorem dX6_burst_59 : decode cX6_burst 59 = .ok (.iload_n 1, 1) := by decide +kernel
theorem dX6_burst_60 : decode cX6_burst 60 = .ok (.imul, 1) := by decide +kernel
theorem dX6_burst_61 : decode cX6_burst 61 = .ok (.iconst 1, 1) := by decide +kernel
theorem dX6_burst_62 : decode cX6_burst 62 = .ok (.iadd, 1) := by decide +kernel
theorem dX6_burst_63 : decode cX6_burst 63 = .ok (.istore_n 2, 1) := by decide +kernel
theorem dX6_burst_64 : decode cX6_burst 64 = .ok (.iload_n 2, 1) := by decide +kernel
theorem dX6_burst_65 : decode cX6_burst 65 = .ok (.iconst 1, 1) := by decide +kernel
theorem dX6_burst_66 : decode cX6_burst 66 = .ok (.ixor, 1) := by decide +kernel
theorem dX6_burst_67 : decode cX6_burst 67 = .ok (.istore_n 3, 1) := by decide +kernel
theorem dX6_burst_68 : decode cX6_burst 68 = .ok (.aload_n 0, 1) := by decide +kernel
theorem dX6_burst_69 : decode cX6_burst 69 = .ok (.iload_n 2, 1) := by decide +kernel
theorem dX6_burst_70 : decode cX6_burst 70 = .ok (.invokevirtual 84, 3) := by decide +kernel
theorem dX6_burst_73 : decode cX6_burst 73 = .ok (.istore 4, 2) := by decide +kernel
theorem dX6_burst_75 : decode cX6_burst 75 = .ok (.aload_n 0, 1) := by decide +kernel
theorem dX6_burst_76 : decode cX6_burst 76 = .ok (.iload_n 3, 1) := by decide +kernel
theorem dX6_burst_77 : decode cX6_burst 77 = .ok (.invokevirtual 84, 3) := by decide +kernel
theorem dX6_burst_80 : decode cX6_burst 80 = .ok (.istore 5, 2) := by decide +kernel
theorem dX6_burst_82 : decode cX6_burst 82 = .ok (.aload_n 0, 1) := by decide +kernel
theorem dX6_burst_83 : decode cX6_burst 83 = .ok (.iload_n 3, 1) := by decide +kernel
theorem dX6_burst_84 : decode cX6_burst 84 = .ok (.invokevirtual 90, 3) := by decide +kernel
theorem dX6_burst_87 : decode cX6_burst 87 = .ok (.istore 6, 2) := by decide +kernel
theorem dX6_burst_89 : decode cX6_burst 89 = .ok (.iload 6, 2) := by decide +kernel
theorem dX6_burst_91 : decode cX6_burst 91 = .ok (.iload_n 3, 1) := by decide +kernel
theorem dX6_burst_92 : decode cX6_burst 92 = .ok (.if_icmp .eq 64, 3) := by decide +kernel
theorem dX6_burst_95 : decode cX6_burst 95 = .ok (.aload_n 0, 1) := by decide +kernel
theorem dX6_burst_96 : decode cX6_burst 96 = .ok (.iload 6, 2) := by decide +kernel
theorem dX6_burst_98 : decode cX6_burst 98 = .ok (.aload_n 0, 1) := by decide +kernel
theorem dX6_burst_99 : decode cX6_burst 99 = .ok (.getfield 9, 3) := by decide +kernel
theorem dX6_burst_102 : decode cX6_burst 102 = .ok (.sipush 880, 3) := by decide +kernel
theorem dX6_burst_105 : decode cX6_burst 105 = .ok (.iload 6, 2) := by decide +kernel
theorem dX6_burst_107 : decode cX6_burst 107 = .ok (.iadd, 1) := by decide +kernel
theorem dX6_burst_108 : decode cX6_burst 108 = .ok (.iaload, 1) := by decide +kernel
theorem dX6_burst_109 : decode cX6_burst 109 = .ok (.aload_n 0, 1) := by decide +kernel
theorem dX6_burst_110 : decode cX6_burst 110 = .ok (.getfield 9, 3) := by decide +kernel
theorem dX6_burst_113 : decode cX6_burst 113 = .ok (.sipush 880, 3) := by decide +kernel
theorem dX6_burst_116 : decode cX6_burst 116 = .ok (.iload_n 2, 1) := by decide +kernel
theorem dX6_burst_117 : decode cX6_burst 117 = .ok (.iadd, 1) := by decide +kernel
theorem dX6_burst_118 : decode cX6_burst 118 = .ok (.iaload, 1) := by decide +kernel
theorem dX6_burst_119 : decode cX6_burst 119 = .ok (.iadd, 1) := by decide +kernel
theorem dX6_burst_120 : decode cX6_burst 120 = .ok (.aload_n 0, 1) := by decide +kernel
theorem dX6_burst_121 : decode cX6_burst 121 = .ok (.getfield 9, 3) := by decide +kernel
theorem dX6_burst_124 : decode cX6_burst 124 = .ok (.sipush 1168, 3) := by decide +kernel
theorem dX6_burst_127 : decode cX6_burst 127 = .ok (.iload 6, 2) := by decide +kernel
theorem dX6_burst_129 : decode cX6_burst 129 = .ok (.iadd, 1) := by decide +kernel
theorem dX6_burst_130 : decode cX6_burst 130 = .ok (.iaload, 1) := by decide +kernel
theorem dX6_burst_131 : decode cX6_burst 131 = .ok (.aload_n 0, 1) := by decide +kernel
theorem dX6_burst_132 : decode cX6_burst 132 = .ok (.getfield 9, 3) := by decide +kernel
theorem dX6_burst_135 : decode cX6_burst 135 = .ok (.sipush 1168, 3) := by decide +kernel
theorem dX6_burst_138 : decode cX6_burst 138 = .ok (.iload_n 2, 1) := by decide +kernel
theorem dX6_burst_139 : decode cX6_burst 139 = .ok (.iadd, 1) := by decide +kernel
theorem dX6_burst_140 : decode cX6_burst 140 = .ok (.iaload, 1) := by decide +kernel
theorem dX6_burst_141 : decode cX6_burst 141 = .ok (.iadd, 1) := by decide +kernel
theorem dX6_burst_142 : decode cX6_burst 142 = .ok (.invokevirtual 131, 3) := by decide +kernel
theorem dX6_burst_145 : decode cX6_burst 145 = .ok (.aload_n 0, 1) := by decide +kernel
theorem dX6_burst_146 : decode cX6_burst 146 = .ok (.iload 6, 2) := by decide +kernel
theorem dX6_burst_148 : decode cX6_burst 148 = .ok (.invokevirtual 90, 3) := by decide +kernel
theorem dX6_burst_151 : decode cX6_burst 151 = .ok (.istore 6, 2) := by decide +kernel
theorem dX6_burst_153 : decode cX6_burst 153 = .ok (.goto (-64), 3) := by decide +kernel
theorem dX6_burst_156 : decode cX6_burst 156 = .ok (.aload_n 0, 1) := by decide +kernel
theorem dX6_burst_157 : decode cX6_burst 157 = .ok (.iload_n 2, 1) := by decide +kernel
theorem dX6_burst_158 : decode cX6_burst 158 = .ok (.invokevirtual 96, 3) := by decide +kernel
theorem dX6_burst_161 : decode cX6_burst 161 = .ok (.istore 6, 2) := by decide +kernel
theorem dX6_burst_163 : decode cX6_burst 163 = .ok (.aload_n 0, 1) := by decide +kernel
theorem dX6_burst_164 : decode cX6_burst 164 = .ok (.iload_n 2, 1) := by decide +kernel
theorem dX6_burst_165 : decode cX6_burst 165 = .ok (.invokevirtual 90, 3) := by decide +kernel
theorem dX6_burst_168 : decode cX6_burst 168 = .ok (.istore 7, 2) := by decide +kernel
theorem dX6_burst_170 : decode cX6_burst 170 = .ok (.aload_n 0, 1) := by decide +kernel
theorem dX6_burst_171 : decode cX6_burst 171 = .ok (.iload_n 3, 1) := by decide +kernel
theorem dX6_burst_172 : decode cX6_burst 172 = .ok (.invokevirtual 96, 3) := by decide +kernel
theorem dX6_burst_175 : decode cX6_burst 175 = .ok (.istore 8, 2) := by decide +kernel
theorem dX6_burst_177 : decode cX6_burst 177 = .ok (.aload_n 0, 1) := by decide +kernel
theorem dX6_burst_178 : decode cX6_burst 178 = .ok (.iload_n 3, 1) := by decide +kernel
theorem dX6_burst_179 : decode cX6_burst 179 = .ok (.invokevirtual 90, 3) := by decide +kernel
theorem dX6_burst_182 : decode cX6_burst 182 = .ok (.istore 9, 2) := by decide +kernel
theorem dX6_burst_184 : decode cX6_burst 184 = .ok (.aload_n 0, 1) := by decide +kernel
theorem dX6_burst_185 : decode cX6_burst 185 = .ok (.iload 6, 2) := by decide +kernel
theorem dX6_burst_187 : decode cX6_burst 187 = .ok (.iload 9, 2) := by decide +kernel
theorem dX6_burst_189 : decode cX6_burst 189 = .ok (.invokevirtual 99, 3) := by decide +kernel
theorem dX6_burst_192 : decode cX6_burst 192 = .ok (.aload_n 0, 1) := by decide +kernel
theorem dX6_burst_193 : decode cX6_burst 193 = .ok (.iload 8, 2) := by decide +kernel
theorem dX6_burst_195 : decode cX6_burst 195 = .ok (.iload 7, 2) := by decide +kernel
theorem dX6_burst_197 : decode cX6_burst 197 = .ok (.invokevirtual 99, 3) := by decide +kernel
theorem dX6_burst_200 : decode cX6_burst 200 = .ok (.aload_n 0, 1) := by decide +kernel
theorem dX6_burst_201 : decode cX6_burst 201 = .ok (.getfield 9, 3) := by decide +kernel
theorem dX6_burst_204 : decode cX6_burst 204 = .ok (.sipush 1648, 3) := by decide +kernel
theorem dX6_burst_207 : decode cX6_burst 207 = .ok (.iload 5, 2) := by decide +kernel
theorem dX6_burst_209 : decode cX6_burst 209 = .ok (.iadd, 1) := by decide +kernel
theorem dX6_burst_210 : decode cX6_burst 210 = .ok (.iconst 0, 1) := by decide +kernel
theorem dX6_burst_211 : decode cX6_burst 211 = .ok (.iastore, 1) := by decide +kernel
theorem dX6_burst_212 : decode cX6_burst 212 = .ok (.aload_n 0, 1) := by decide +kernel
theorem dX6_burst_213 : decode cX6_burst 213 = .ok (.getfield 9, 3) := by decide +kernel
theorem dX6_burst_216 : decode cX6_burst 216 = .ok (.sipush 1648, 3) := by decide +kernel
theorem dX6_burst_219 : decode cX6_burst 219 = .ok (.iload 4, 2) := by decide +kernel
theorem dX6_burst_221 : decode cX6_burst 221 = .ok (.iadd, 1) := by decide +kernel
theorem dX6_burst_222 : decode cX6_burst 222 = .ok (.aload_n 0, 1) := by decide +kernel
theorem dX6_burst_223 : decode cX6_burst 223 = .ok (.iload 7, 2) := by decide +kernel
theorem dX6_burst_225 : decode cX6_burst 225 = .ok (.iload 4, 2) := by decide +kernel
theorem dX6_burst_227 : decode cX6_burst 227 = .ok (.invokevirtual 187, 3) := by decide +kernel
theorem dX6_burst_230 : decode cX6_burst 230 = .ok (.iastore, 1) := by decide +kernel
theorem dX6_burst_231 : decode cX6_burst 231 = .ok (.aload_n 0, 1) := by decide +kernel
theorem dX6_burst_232 : decode cX6_burst 232 = .ok (.getfield 9, 3) := by decide +kernel
theorem dX6_burst_235 : decode cX6_burst 235 = .ok (.sipush 1600, 3) := by decide +kernel
theorem dX6_burst_238 : decode cX6_burst 238 = .ok (.iload 4, 2) := by decide +kernel
theorem dX6_burst_240 : decode cX6_burst 240 = .ok (.iadd, 1) := by decide +kernel
theorem dX6_burst_241 : decode cX6_burst 241 = .ok (.dup2, 1) := by decide +kernel
theorem dX6_burst_242 : decode cX6_burst 242 = .ok (.iaload, 1) := by decide +kernel
theorem dX6_burst_243 : decode cX6_burst 243 = .ok (.aload_n 0, 1) := by decide +kernel
theorem dX6_burst_244 : decode cX6_burst 244 = .ok (.getfield 9, 3) := by decide +kernel
theorem dX6_burst_247 : decode cX6_burst 247 = .ok (.sipush 1600, 3) := by decide +kernel
theorem dX6_burst_250 : decode cX6_burst 250 = .ok (.iload 5, 2) := by decide +kernel
theorem dX6_burst_252 : decode cX6_burst 252 = .ok (.iadd, 1) := by decide +kernel
theorem dX6_burst_253 : decode cX6_burst 253 = .ok (.iaload, 1) := by decide +kernel
theorem dX6_burst_254 : decode cX6_burst 254 = .ok (.iadd, 1) := by decide +kernel
theorem dX6_burst_255 : decode cX6_burst 255 = .ok (.iastore, 1) := by decide +kernel
theorem dX6_burst_256 : decode cX6_burst 256 = .ok (.aload_n 0, 1) := by decide +kernel
theorem dX6_burst_257 : decode cX6_burst 257 = .ok (.getfield 9, 3) := by decide +kernel
theorem dX6_burst_260 : decode cX6_burst 260 = .ok (.sipush 1456, 3) := by decide +kernel
theorem dX6_burst_263 : decode cX6_burst 263 = .ok (.iload_n 1, 1) := by decide +kernel
theorem dX6_burst_264 : decode cX6_burst 264 = .ok (.iadd, 1) := by decide +kernel
theorem dX6_burst_265 : decode cX6_burst 265 = .ok (.iconst (-1), 1) := by decide +kernel
theorem dX6_burst_266 : decode cX6_burst 266 = .ok (.iastore, 1) := by decide +kernel
theorem dX6_burst_267 : decode cX6_burst 267 = .ok (.aload_n 0, 1) := by decide +kernel
theorem dX6_burst_268 : decode cX6_burst 268 = .ok (.iload 6, 2) := by decide +kernel
theorem dX6_burst_270 : decode cX6_burst 270 = .ok (.iload 9, 2) := by decide +kernel
theorem dX6_burst_272 : decode cX6_burst 272 = .ok (.invokevirtual 196, 3) := by decide +kernel
theorem dX6_burst_275 : decode cX6_burst 275 = .ok (.aload_n 0, 1) := by decide +kernel
theorem dX6_burst_276 : decode cX6_burst 276 = .ok (.iload 8, 2) := by decide +kernel
theorem dX6_burst_278 : decode cX6_burst 278 = .ok (.iload 7, 2) := by decide +kernel
theorem dX6_burst_280 : decode cX6_burst 280 = .ok (.invokevirtual 196, 3) := by decide +kernel
theorem dX6_burst_283 : decode cX6_burst 283 = .ok (.aload_n 0, 1) := by decide +kernel
theorem dX6_burst_284 : decode cX6_burst 284 = .ok (.getfield 9, 3) := by decide +kernel
theorem dX6_burst_287 : decode cX6_burst 287 = .ok (.bipush 7, 2) := by decide +kernel
theorem dX6_burst_289 : decode cX6_burst 289 = .ok (.dup2, 1) := by decide +kernel
theorem dX6_burst_290 : decode cX6_burst 290 = .ok (.iaload, 1) := by decide +kernel
theorem dX6_burst_291 : decode cX6_burst 291 = .ok (.iconst 1, 1) := by decide +kernel
theorem dX6_burst_292 : decode cX6_burst 292 = .ok (.iadd, 1) := by decide +kernel
theorem dX6_burst_293 : decode cX6_burst 293 = .ok (.iastore, 1) := by decide +kernel
theorem dX6_burst_294 : decode cX6_burst 294 = .ok (.aload_n 0, 1) := by decide +kernel
theorem dX6_burst_295 : decode cX6_burst 295 = .ok (.iconst 3, 1) := by decide +kernel
theorem dX6_burst_296 : decode cX6_burst 296 = .ok (.iload_n 1, 1) := by decide +kernel
theorem dX6_burst_297 : decode cX6_burst 297 = .ok (.invokevirtual 138, 3) := by decide +kernel
theorem dX6_burst_300 : decode cX6_burst 300 = .ok (.iload 4, 2) := by decide +kernel
theorem dX6_burst_302 : decode cX6_burst 302 = .ok (.ireturn, 1) := by decide +kernel
theorem dX6_draw_0 : decode cX6_draw 0 = .ok (.aload_n 0, 1) := by decide +kernel
theorem dX6_draw_1 : decode cX6_draw 1 = .ok (.aload_n 0, 1) := by decide +kernel
theorem dX6_draw_2 : decode cX6_draw 2 = .ok (.getfield 199, 3) := by decide +kernel
theorem dX6_draw_5 : decode cX6_draw 5 = .ok (.ldc2_w 203, 3) := by decide +kernel
theorem dX6_draw_8 : decode cX6_draw 8 = .ok (.lmul, 1) := by decide +kernel
theorem dX6_draw_9 : decode cX6_draw 9 = .ok (.ldc2_w 205, 3) := by decide +kernel
theorem dX6_draw_12 : decode cX6_draw 12 = .ok (.ladd, 1) := by decide +kernel
theorem dX6_draw_13 : decode cX6_draw 13 = .ok (.ldc2_w 207, 3) := by decide +kernel
theorem dX6_draw_16 : decode cX6_draw 16 = .ok (.lrem, 1) := by decide +kernel
theorem dX6_draw_17 : decode cX6_draw 17 = .ok (.putfield 199, 3) := by decide +kernel
theorem dX6_draw_20 : decode cX6_draw 20 = .ok (.aload_n 0, 1) := by decide +kernel
theorem dX6_draw_21 : decode cX6_draw 21 = .ok (.getfield 199, 3) := by decide +kernel
theorem dX6_draw_24 : decode cX6_draw 24 = .ok (.iload_n 1, 1) := by decide +kernel
theorem dX6_draw_25 : decode cX6_draw 25 = .ok (.i2l, 1) := by decide +kernel
theorem dX6_draw_26 : decode cX6_draw 26 = .ok (.lrem, 1) := by decide +kernel
theorem dX6_draw_27 : decode cX6_draw 27 = .ok (.l2i, 1) := by decide +kernel
theorem dX6_draw_28 : decode cX6_draw 28 = .ok (.ireturn, 1) := by decide +kernel
theorem dX6_shakes_0 : decode cX6_shakes 0 = .ok (.aload_n 0, 1) := by decide +kernel
theorem dX6_shakes_1 : decode cX6_shakes 1 = .ok (.iload_n 1, 1) := by decide +kernel
theorem dX6_shakes_2 : decode cX6_shakes 2 = .ok (.i2l, 1) := by decide +kernel
theorem dX6_shakes_3 : decode cX6_shakes 3 = .ok (.putfield 199, 3) := by decide +kernel
theorem dX6_shakes_6 : decode cX6_shakes 6 = .ok (.iconst 0, 1) := by decide +kernel
theorem dX6_shakes_7 : decode cX6_shakes 7 = .ok (.istore 4, 2) := by decide +kernel
theorem dX6_shakes_9 : decode cX6_shakes 9 = .ok (.iconst 0, 1) := by decide +kernel
theorem dX6_shakes_10 : decode cX6_shakes 10 = .ok (.istore 5, 2) := by decide +kernel
theorem dX6_shakes_12 : decode cX6_shakes 12 = .ok (.iload 5, 2) := by decide +kernel
theorem dX6_shakes_14 : decode cX6_shakes 14 = .ok (.iload_n 2, 1) := by decide +kernel
theorem dX6_shakes_15 : decode cX6_shakes 15 = .ok (.if_icmp .ge 47, 3) := by decide +kernel
theorem dX6_shakes_18 : decode cX6_shakes 18 = .ok (.aload_n 0, 1) := by decide +kernel
theorem dX6_shakes_19 : decode cX6_shakes 19 = .ok (.sipush 144, 3) := by decide +kernel
theorem dX6_shakes_22 : decode cX6_shakes 22 = .ok (.invokevirtual 209, 3) := by decide +kernel
theorem dX6_shakes_25 : decode cX6_shakes 25 = .ok (.istore 6, 2) := by decide +kernel
theorem dX6_shakes_27 : decode cX6_shakes 27 = .ok (.aload_n 0, 1) := by decide +kernel
theorem dX6_shakes_28 : decode cX6_shakes 28 = .ok (.iload 6, 2) := by decide +kernel
theorem dX6_shakes_30 : decode cX6_shakes 30 = .ok (.invokevirtual 147, 3) := by decide +kernel
theorem dX6_shakes_33 : decode cX6_shakes 33 = .ok (.ifCond .eq 23, 3) := by decide +kernel
theorem dX6_shakes_36 : decode cX6_shakes 36 = .ok (.aload_n 0, 1) := by decide +kernel
theorem dX6_shakes_37 : decode cX6_shakes 37 = .ok (.iload 6, 2) := by decide +kernel
theorem dX6_shakes_39 : decode cX6_shakes 39 = .ok (.invokevirtual 150, 3) := by decide +kernel
theorem dX6_shakes_42 : decode cX6_shakes 42 = .ok (.iload_n 3, 1) := by decide +kernel
theorem dX6_shakes_43 : decode cX6_shakes 43 = .ok (.ineg, 1) := by decide +kernel
theorem dX6_shakes_44 : decode cX6_shakes 44 = .ok (.if_icmp .lt 12, 3) := by decide +kernel
theorem dX6_shakes_47 : decode cX6_shakes 47 = .ok (.aload_n 0, 1) := by decide +kernel
theorem dX6_shakes_48 : decode cX6_shakes 48 = .ok (.iload 6, 2) := by decide +kernel
theorem dX6_shakes_50 : decode cX6_shakes 50 = .ok (.invokevirtual 153, 3) := by decide +kernel
theorem dX6_shakes_53 : decode cX6_shakes 53 = .ok (.iinc 4 1, 3) := by decide +kernel
theorem dX6_shakes_56 : decode cX6_shakes 56 = .ok (.iinc 5 1, 3) := by decide +kernel
theorem dX6_shakes_59 : decode cX6_shakes 59 = .ok (.goto (-47), 3) := by decide +kernel
theorem dX6_shakes_62 : decode cX6_shakes 62 = .ok (.iload 4, 2) := by decide +kernel
theorem dX6_shakes_64 : decode cX6_shakes 64 = .ok (.ireturn, 1) := by decide +kernel
theorem dX6_shake_0 : decode cX6_shake 0 = .ok (.aload_n 0, 1) := by decide +kernel
theorem dX6_shake_1 : decode cX6_shake 1 = .ok (.iconst 0, 1) := by decide +kernel
theorem dX6_shake_2 : decode cX6_shake 2 = .ok (.putfield 44, 3) := by decide +kernel
theorem dX6_shake_5 : decode cX6_shake 5 = .ok (.iload_n 1, 1) := by decide +kernel
theorem dX6_shake_6 : decode cX6_shake 6 = .ok (.i2l, 1) := by decide +kernel
theorem dX6_shake_7 : decode cX6_shake 7 = .ok (.lconst 0, 1) := by decide +kernel
theorem dX6_shake_8 : decode cX6_shake 8 = .ok (.ldc2_w 212, 3) := by decide +kernel
theorem dX6_shake_11 : decode cX6_shake 11 = .ok (.invokestatic 48, 3) := by decide +kernel
theorem dX6_shake_14 : decode cX6_shake 14 = .ok (.ifCond .eq 37, 3) := by decide +kernel
theorem dX6_shake_17 : decode cX6_shake 17 = .ok (.iload_n 2, 1) := by decide +kernel
theorem dX6_shake_18 : decode cX6_shake 18 = .ok (.i2l, 1) := by decide +kernel
theorem dX6_shake_19 : decode cX6_shake 19 = .ok (.lconst 1, 1) := by decide +kernel
theorem dX6_shake_20 : decode cX6_shake 20 = .ok (.ldc2_w 145, 3) := by decide +kernel
theorem dX6_shake_23 : decode cX6_shake 23 = .ok (.invokestatic 48, 3) := by decide +kernel
theorem dX6_shake_26 : decode cX6_shake 26 = .ok (.ifCond .eq 25, 3) := by decide +kernel
theorem dX6_shake_29 : decode cX6_shake 29 = .ok (.iload_n 3, 1) := by decide +kernel
theorem dX6_shake_30 : decode cX6_shake 30 = .ok (.i2l, 1) := by decide +kernel
theorem dX6_shake_31 : decode cX6_shake 31 = .ok (.lconst 0, 1) := by decide +kernel
theorem dX6_shake_32 : decode cX6_shake 32 = .ok (.ldc2_w 145, 3) := by decide +kernel
theorem dX6_shake_35 : decode cX6_shake 35 = .ok (.invokestatic 48, 3) := by decide +kernel
theorem dX6_shake_38 : decode cX6_shake 38 = .ok (.ifCond .eq 13, 3) := by decide +kernel
theorem dX6_shake_41 : decode cX6_shake 41 = .ok (.aload_n 0, 1) := by decide +kernel
theorem dX6_shake_42 : decode cX6_shake 42 = .ok (.iload_n 1, 1) := by decide +kernel
theorem dX6_shake_43 : decode cX6_shake 43 = .ok (.iload_n 2, 1) := by decide +kernel
theorem dX6_shake_44 : decode cX6_shake 44 = .ok (.iload_n 3, 1) := by decide +kernel
theorem dX6_shake_45 : decode cX6_shake 45 = .ok (.invokevirtual 214, 3) := by decide +kernel
theorem dX6_shake_48 : decode cX6_shake 48 = .ok (.goto 8, 3) := by decide +kernel
theorem dX6_shake_51 : decode cX6_shake 51 = .ok (.aload_n 0, 1) := by decide +kernel
theorem dX6_shake_52 : decode cX6_shake 52 = .ok (.iconst (-1), 1) := by decide +kernel
theorem dX6_shake_53 : decode cX6_shake 53 = .ok (.invokevirtual 72, 3) := by decide +kernel
theorem dX6_shake_56 : decode cX6_shake 56 = .ok (.ireturn, 1) := by decide +kernel
theorem dX6_grows_0 : decode cX6_grows 0 = .ok (.iconst 2, 1) := by decide +kernel
theorem dX6_grows_1 : decode cX6_grows 1 = .ok (.iload_n 1, 1) := by decide +kernel
theorem dX6_grows_2 : decode cX6_grows 2 = .ok (.imul, 1) := by decide +kernel
theorem dX6_grows_3 : decode cX6_grows 3 = .ok (.istore_n 2, 1) := by decide +kernel
theorem dX6_grows_4 : decode cX6_grows 4 = .ok (.aload_n 0, 1) := by decide +kernel
theorem dX6_grows_5 : decode cX6_grows 5 = .ok (.aload_n 0, 1) := by decide +kernel
theorem dX6_grows_6 : decode cX6_grows 6 = .ok (.aload_n 0, 1) := by decide +kernel
theorem dX6_grows_7 : decode cX6_grows 7 = .ok (.iload_n 2, 1) := by decide +kernel
theorem dX6_grows_8 : decode cX6_grows 8 = .ok (.invokevirtual 90, 3) := by decide +kernel
theorem dX6_grows_11 : decode cX6_grows 11 = .ok (.invokevirtual 105, 3) := by decide +kernel
theorem dX6_grows_14 : decode cX6_grows 14 = .ok (.invokevirtual 115, 3) := by decide +kernel
theorem dX6_grows_17 : decode cX6_grows 17 = .ok (.aload_n 0, 1) := by decide +kernel
theorem dX6_grows_18 : decode cX6_grows 18 = .ok (.aload_n 0, 1) := by decide +kernel
theorem dX6_grows_19 : decode cX6_grows 19 = .ok (.aload_n 0, 1) := by decide +kernel
theorem dX6_grows_20 : decode cX6_grows 20 = .ok (.iload_n 2, 1) := by decide +kernel
theorem dX6_grows_21 : decode cX6_grows 21 = .ok (.invokevirtual 96, 3) := by decide +kernel
theorem dX6_grows_24 : decode cX6_grows 24 = .ok (.invokevirtual 105, 3) := by decide +kernel
theorem dX6_grows_27 : decode cX6_grows 27 = .ok (.invokevirtual 115, 3) := by decide +kernel
theorem dX6_grows_30 : decode cX6_grows 30 = .ok (.iadd, 1) := by decide +kernel
theorem dX6_grows_31 : decode cX6_grows 31 = .ok (.aload_n 0, 1) := by decide +kernel
theorem dX6_grows_32 : decode cX6_grows 32 = .ok (.aload_n 0, 1) := by decide +kernel
theorem dX6_grows_33 : decode cX6_grows 33 = .ok (.iload_n 2, 1) := by decide +kernel
theorem dX6_grows_34 : decode cX6_grows 34 = .ok (.invokevirtual 84, 3) := by decide +kernel
theorem dX6_grows_37 : decode cX6_grows 37 = .ok (.invokevirtual 115, 3) := by decide +kernel
theorem dX6_grows_40 : decode cX6_grows 40 = .ok (.isub, 1) := by decide +kernel
theorem dX6_grows_41 : decode cX6_grows 41 = .ok (.aload_n 0, 1) := by decide +kernel
theorem dX6_grows_42 : decode cX6_grows 42 = .ok (.aload_n 0, 1) := by decide +kernel
theorem dX6_grows_43 : decode cX6_grows 43 = .ok (.iload_n 2, 1) := by decide +kernel
theorem dX6_grows_44 : decode cX6_grows 44 = .ok (.invokevirtual 105, 3) := by decide +kernel
theorem dX6_grows_47 : decode cX6_grows 47 = .ok (.invokevirtual 115, 3) := by decide +kernel
theorem dX6_grows_50 : decode cX6_grows 50 = .ok (.isub, 1) := by decide +kernel
theorem dX6_grows_51 : decode cX6_grows 51 = .ok (.ireturn, 1) := by decide +kernel
theorem dX6_shortest_0 : decode cX6_shortest 0 = .ok (.iconst (-1), 1) := by decide +kernel
theorem dX6_shortest_1 : decode cX6_shortest 1 = .ok (.istore_n 2, 1) := by decide +kernel
theorem dX6_shortest_2 : decode cX6_shortest 2 = .ok (.iconst 0, 1) := by decide +kernel
theorem dX6_shortest_3 : decode cX6_shortest 3 = .ok (.istore_n 3, 1) := by decide +kernel
theorem dX6_shortest_4 : decode cX6_shortest 4 = .ok (.iload_n 3, 1) := by decide +kernel
theorem dX6_shortest_5 : decode cX6_shortest 5 = .ok (.sipush 144, 3) := by decide +kernel
theorem dX6_shortest_8 : decode cX6_shortest 8 = .ok (.if_icmp .ge 93, 3) := by decide +kernel
theorem dX6_shortest_11 : decode cX6_shortest 11 = .ok (.aload_n 0, 1) := by decide +kernel
theorem dX6_shortest_12 : decode cX6_shortest 12 = .ok (.iload_n 3, 1) := by decide +kernel
theorem dX6_shortest_13 : decode cX6_shortest 13 = .ok (.invokevirtual 80, 3) := by decide +kernel
theorem dX6_shortest_16 : decode cX6_shortest 16 = .ok (.ifCond .eq 37, 3) := by decide +kernel
theorem dX6_shortest_19 : decode cX6_shortest 19 = .ok (.aload_n 0, 1) := by decide +kernel
theorem dX6_shortest_20 : decode cX6_shortest 20 = .ok (.iconst 2, 1) := by decide +kernel
theorem dX6_shortest_21 : decode cX6_shortest 21 = .ok (.iload_n 3, 1) := by decide +kernel
theorem dX6_shortest_22 : decode cX6_shortest 22 = .ok (.imul, 1) := by decide +kernel
theorem dX6_shortest_23 : decode cX6_shortest 23 = .ok (.invokevirtual 84, 3) := by decide +kernel
theorem dX6_shortest_26 : decode cX6_shortest 26 = .ok (.iload_n 1, 1) := by decide +kernel
theorem dX6_shortest_27 : decode cX6_shortest 27 = .ok (.if_icmp .eq 14, 3) := by decide +kernel
theorem dX6_shortest_30 : decode cX6_shortest 30 = .ok (.aload_n 0, 1) := by decide +kernel
theorem dX6_shortest_31 : decode cX6_shortest 31 = .ok (.iconst 2, 1) := by decide +kernel
theorem dX6_shortest_32 : decode cX6_shortest 32 = .ok (.iload_n 3, 1) := by decide +kernel
theorem dX6_shortest_33 : decode cX6_shortest 33 = .ok (.imul, 1) := by decide +kernel
theorem dX6_shortest_34 : decode cX6_shortest 34 = .ok (.invokevirtual 105, 3) := by decide +kernel
theorem dX6_shortest_37 : decode cX6_shortest 37 = .ok (.iload_n 1, 1) := by decide +kernel
theorem dX6_shortest_38 : decode cX6_shortest 38 = .ok (.if_icmp .ne 15, 3) := by decide +kernel
theorem dX6_shortest_41 : decode cX6_shortest 41 = .ok (.aload_n 0, 1) := by decide +kernel
theorem dX6_shortest_42 : decode cX6_shortest 42 = .ok (.iload_n 3, 1) := by decide +kernel
theorem dX6_shortest_43 : decode cX6_shortest 43 = .ok (.invokevirtual 147, 3) := by decide +kernel
theorem dX6_shortest_46 : decode cX6_shortest 46 = .ok (.ifCond .eq 7, 3) := by decide +kernel
theorem dX6_shortest_49 : decode cX6_shortest 49 = .ok (.iconst 1, 1) := by decide +kernel
theorem dX6_shortest_50 : decode cX6_shortest 50 = .ok (.goto 4, 3) := by decide +kernel
theorem dX6_shortest_53 : decode cX6_shortest 53 = .ok (.iconst 0, 1) := by decide +kernel
theorem dX6_shortest_54 : decode cX6_shortest 54 = .ok (.istore 4, 2) := by decide +kernel
theorem dX6_shortest_56 : decode cX6_shortest 56 = .ok (.iload 4, 2) := by decide +kernel
theorem dX6_shortest_58 : decode cX6_shortest 58 = .ok (.ifCond .eq 35, 3) := by decide +kernel
theorem dX6_shortest_61 : decode cX6_shortest 61 = .ok (.iload_n 2, 1) := by decide +kernel
theorem dX6_shortest_62 : decode cX6_shortest 62 = .ok (.iconst (-1), 1) := by decide +kernel
theorem dX6_shortest_63 : decode cX6_shortest 63 = .ok (.if_icmp .eq 26, 3) := by decide +kernel
theorem dX6_shortest_66 : decode cX6_shortest 66 = .ok (.aload_n 0, 1) := by decide +kernel
theorem dX6_shortest_67 : decode cX6_shortest 67 = .ok (.getfield 9, 3) := by decide +kernel
theorem dX6_shortest_70 : decode cX6_shortest 70 = .ok (.sipush 1456, 3) := by decide +kernel
theorem dX6_shortest_73 : decode cX6_shortest 73 = .ok (.iload_n 3, 1) := by decide +kernel
theorem dX6_shortest_74 : decode cX6_shortest 74 = .ok (.iadd, 1) := by decide +kernel
theorem dX6_shortest_75 : decode cX6_shortest 75 = .ok (.iaload, 1) := by decide +kernel
theorem dX6_shortest_76 : decode cX6_shortest 76 = .ok (.aload_n 0, 1) := by decide +kernel
theorem dX6_shortest_77 : decode cX6_shortest 77 = .ok (.getfield 9, 3) := by decide +kernel
theorem dX6_shortest_80 : decode cX6_shortest 80 = .ok (.sipush 1456, 3) := by decide +kernel
theorem dX6_shortest_83 : decode cX6_shortest 83 = .ok (.iload_n 2, 1) := by decide +kernel
theorem dX6_shortest_84 : decode cX6_shortest 84 = .ok (.iadd, 1) := by decide +kernel
theorem dX6_shortest_85 : decode cX6_shortest 85 = .ok (.iaload, 1) := by decide +kernel
theorem dX6_shortest_86 : decode cX6_shortest 86 = .ok (.if_icmp .ge 7, 3) := by decide +kernel
theorem dX6_shortest_89 : decode cX6_shortest 89 = .ok (.iload_n 3, 1) := by decide +kernel
theorem dX6_shortest_90 : decode cX6_shortest 90 = .ok (.goto 4, 3) := by decide +kernel
theorem dX6_shortest_93 : decode cX6_shortest 93 = .ok (.iload_n 2, 1) := by decide +kernel
theorem dX6_shortest_94 : decode cX6_shortest 94 = .ok (.istore_n 2, 1) := by decide +kernel
theorem dX6_shortest_95 : decode cX6_shortest 95 = .ok (.iinc 3 1, 3) := by decide +kernel
theorem dX6_shortest_98 : decode cX6_shortest 98 = .ok (.goto (-94), 3) := by decide +kernel
theorem dX6_shortest_101 : decode cX6_shortest 101 = .ok (.iload_n 2, 1) := by decide +kernel
theorem dX6_shortest_102 : decode cX6_shortest 102 = .ok (.ireturn, 1) := by decide +kernel
theorem dX6_step_0 : decode cX6_step 0 = .ok (.aload_n 0, 1) := by decide +kernel
theorem dX6_step_1 : decode cX6_step 1 = .ok (.iconst 1, 1) := by decide +kernel
theorem dX6_step_2 : decode cX6_step 2 = .ok (.putfield 102, 3) := by decide +kernel
theorem dX6_step_5 : decode cX6_step 5 = .ok (.iconst 0, 1) := by decide +kernel
theorem dX6_step_6 : decode cX6_step 6 = .ok (.istore_n 1, 1) := by decide +kernel
theorem dX6_step_7 : decode cX6_step 7 = .ok (.iload_n 1, 1) := by decide +kernel
theorem dX6_step_8 : decode cX6_step 8 = .ok (.bipush 48, 2) := by decide +kernel
theorem dX6_step_10 : decode cX6_step 10 = .ok (.if_icmp .ge 49, 3) := by decide +kernel
theorem dX6_step_13 : decode cX6_step 13 = .ok (.aload_n 0, 1) := by decide +kernel
theorem dX6_step_14 : decode cX6_step 14 = .ok (.getfield 9, 3) := by decide +kernel
theorem dX6_step_17 : decode cX6_step 17 = .ok (.sipush 1600, 3) := by decide +kernel
theorem dX6_step_20 : decode cX6_step 20 = .ok (.iload_n 1, 1) := by decide +kernel
theorem dX6_step_21 : decode cX6_step 21 = .ok (.iadd, 1) := by decide +kernel
theorem dX6_step_22 : decode cX6_step 22 = .ok (.dup2, 1) := by decide +kernel
theorem dX6_step_23 : decode cX6_step 23 = .ok (.iaload, 1) := by decide +kernel
theorem dX6_step_24 : decode cX6_step 24 = .ok (.aload_n 0, 1) := by decide +kernel
theorem dX6_step_25 : decode cX6_step 25 = .ok (.iload_n 1, 1) := by decide +kernel
theorem dX6_step_26 : decode cX6_step 26 = .ok (.invokevirtual 93, 3) := by decide +kernel
theorem dX6_step_29 : decode cX6_step 29 = .ok (.ifCond .eq 21, 3) := by decide +kernel
theorem dX6_step_32 : decode cX6_step 32 = .ok (.aload_n 0, 1) := by decide +kernel
theorem dX6_step_33 : decode cX6_step 33 = .ok (.getfield 9, 3) := by decide +kernel
theorem dX6_step_36 : decode cX6_step 36 = .ok (.iconst 2, 1) := by decide +kernel
theorem dX6_step_37 : decode cX6_step 37 = .ok (.iaload, 1) := by decide +kernel
theorem dX6_step_38 : decode cX6_step 38 = .ok (.aload_n 0, 1) := by decide +kernel
theorem dX6_step_39 : decode cX6_step 39 = .ok (.iload_n 1, 1) := by decide +kernel
theorem dX6_step_40 : decode cX6_step 40 = .ok (.invokevirtual 115, 3) := by decide +kernel
theorem dX6_step_43 : decode cX6_step 43 = .ok (.bipush 6, 2) := by decide +kernel
theorem dX6_step_45 : decode cX6_step 45 = .ok (.isub, 1) := by decide +kernel
theorem dX6_step_46 : decode cX6_step 46 = .ok (.imul, 1) := by decide +kernel
theorem dX6_step_47 : decode cX6_step 47 = .ok (.goto 4, 3) := by decide +kernel
theorem dX6_step_50 : decode cX6_step 50 = .ok (.iconst 0, 1) := by decide +kernel
theorem dX6_step_51 : decode cX6_step 51 = .ok (.iadd, 1) := by decide +kernel
theorem dX6_step_52 : decode cX6_step 52 = .ok (.iastore, 1) := by decide +kernel
theorem dX6_step_53 : decode cX6_step 53 = .ok (.iinc 1 1, 3) := by decide +kernel
theorem dX6_step_56 : decode cX6_step 56 = .ok (.goto (-49), 3) := by decide +kernel
theorem dX6_step_59 : decode cX6_step 59 = .ok (.iconst 0, 1) := by decide +kernel
theorem dX6_step_60 : decode cX6_step 60 = .ok (.istore_n 1, 1) := by decide +kernel
theorem dX6_step_61 : decode cX6_step 61 = .ok (.iload_n 1, 1) := by decide +kernel
theorem dX6_step_62 : decode cX6_step 62 = .ok (.sipush 144, 3) := by decide +kernel
theorem dX6_step_65 : decode cX6_step 65 = .ok (.if_icmp .ge 64, 3) := by decide +kernel
theorem dX6_step_68 : decode cX6_step 68 = .ok (.aload_n 0, 1) := by decide +kernel
theorem dX6_step_69 : decode cX6_step 69 = .ok (.iload_n 1, 1) := by decide +kernel
theorem dX6_step_70 : decode cX6_step 70 = .ok (.invokevirtual 80, 3) := by decide +kernel
theorem dX6_step_73 : decode cX6_step 73 = .ok (.ifCond .eq 50, 3) := by decide +kernel
theorem dX6_step_76 : decode cX6_step 76 = .ok (.aload_n 0, 1) := by decide +kernel
theorem dX6_step_77 : decode cX6_step 77 = .ok (.getfield 9, 3) := by decide +kernel
theorem dX6_step_80 : decode cX6_step 80 = .ok (.sipush 1456, 3) := by decide +kernel
theorem dX6_step_83 : decode cX6_step 83 = .ok (.iload_n 1, 1) := by decide +kernel
theorem dX6_step_84 : decode cX6_step 84 = .ok (.iadd, 1) := by decide +kernel
theorem dX6_step_85 : decode cX6_step 85 = .ok (.iaload, 1) := by decide +kernel
theorem dX6_step_86 : decode cX6_step 86 = .ok (.aload_n 0, 1) := by decide +kernel
theorem dX6_step_87 : decode cX6_step 87 = .ok (.iload_n 1, 1) := by decide +kernel
theorem dX6_step_88 : decode cX6_step 88 = .ok (.invokevirtual 217, 3) := by decide +kernel
theorem dX6_step_91 : decode cX6_step 91 = .ok (.iadd, 1) := by decide +kernel
theorem dX6_step_92 : decode cX6_step 92 = .ok (.istore_n 2, 1) := by decide +kernel
theorem dX6_step_93 : decode cX6_step 93 = .ok (.aload_n 0, 1) := by decide +kernel
theorem dX6_step_94 : decode cX6_step 94 = .ok (.getfield 9, 3) := by decide +kernel
theorem dX6_step_97 : decode cX6_step 97 = .ok (.sipush 1456, 3) := by decide +kernel
theorem dX6_step_100 : decode cX6_step 100 = .ok (.iload_n 1, 1) := by decide +kernel
theorem dX6_step_101 : decode cX6_step 101 = .ok (.iadd, 1) := by decide +kernel
theorem dX6_step_102 : decode cX6_step 102 = .ok (.iload_n 2, 1) := by decide +kernel
theorem dX6_step_103 : decode cX6_step 103 = .ok (.ifCond .ge 7, 3) := by decide +kernel
theorem dX6_step_106 : decode cX6_step 106 = .ok (.iconst 0, 1) := by decide +kernel
theorem dX6_step_107 : decode cX6_step 107 = .ok (.goto 15, 3) := by decide +kernel
theorem dX6_step_110 : decode cX6_step 110 = .ok (.iload_n 2, 1) := by decide +kernel
theorem dX6_step_111 : decode cX6_step 111 = .ok (.bipush 99, 2) := by decide +kernel
theorem dX6_step_113 : decode cX6_step 113 = .ok (.if_icmp .le 8, 3) := by decide +kernel
theorem dX6_step_116 : decode cX6_step 116 = .ok (.bipush 99, 2) := by decide +kernel
theorem dX6_step_118 : decode cX6_step 118 = .ok (.goto 4, 3) := by decide +kernel
theorem dX6_step_121 : decode cX6_step 121 = .ok (.iload_n 2, 1) := by decide +kernel
theorem dX6_step_122 : decode cX6_step 122 = .ok (.iastore, 1) := by decide +kernel
theorem dX6_step_123 : decode cX6_step 123 = .ok (.iinc 1 1, 3) := by decide +kernel
theorem dX6_step_126 : decode cX6_step 126 = .ok (.goto (-65), 3) := by decide +kernel
theorem dX6_step_129 : decode cX6_step 129 = .ok (.iconst 0, 1) := by decide +kernel
theorem dX6_step_130 : decode cX6_step 130 = .ok (.istore_n 1, 1) := by decide +kernel
theorem dX6_step_131 : decode cX6_step 131 = .ok (.iload_n 1, 1) := by decide +kernel
theorem dX6_step_132 : decode cX6_step 132 = .ok (.sipush 144, 3) := by decide +kernel
theorem dX6_step_135 : decode cX6_step 135 = .ok (.if_icmp .ge 35, 3) := by decide +kernel
theorem dX6_step_138 : decode cX6_step 138 = .ok (.aload_n 0, 1) := by decide +kernel
theorem dX6_step_139 : decode cX6_step 139 = .ok (.getfield 9, 3) := by decide +kernel
theorem dX6_step_142 : decode cX6_step 142 = .ok (.sipush 1456, 3) := by decide +kernel
theorem dX6_step_145 : decode cX6_step 145 = .ok (.iload_n 1, 1) := by decide +kernel
theorem dX6_step_146 : decode cX6_step 146 = .ok (.iadd, 1) := by decide +kernel
theorem dX6_step_147 : decode cX6_step 147 = .ok (.iaload, 1) := by decide +kernel
theorem dX6_step_148 : decode cX6_step 148 = .ok (.ifCond .ne 16, 3) := by decide +kernel
theorem dX6_step_151 : decode cX6_step 151 = .ok (.aload_n 0, 1) := by decide +kernel
theorem dX6_step_152 : decode cX6_step 152 = .ok (.iload_n 1, 1) := by decide +kernel
theorem dX6_step_153 : decode cX6_step 153 = .ok (.invokevirtual 147, 3) := by decide +kernel
theorem dX6_step_156 : decode cX6_step 156 = .ok (.ifCond .eq 8, 3) := by decide +kernel
theorem dX6_step_159 : decode cX6_step 159 = .ok (.aload_n 0, 1) := by decide +kernel
theorem dX6_step_160 : decode cX6_step 160 = .ok (.iload_n 1, 1) := by decide +kernel
theorem dX6_step_161 : decode cX6_step 161 = .ok (.invokevirtual 153, 3) := by decide +kernel
theorem dX6_step_164 : decode cX6_step 164 = .ok (.iinc 1 1, 3) := by decide +kernel
theorem dX6_step_167 : decode cX6_step 167 = .ok (.goto (-36), 3) := by decide +kernel
theorem dX6_step_170 : decode cX6_step 170 = .ok (.iconst 0, 1) := by decide +kernel
theorem dX6_step_171 : decode cX6_step 171 = .ok (.istore_n 1, 1) := by decide +kernel
theorem dX6_step_172 : decode cX6_step 172 = .ok (.iload_n 1, 1) := by decide +kernel
theorem dX6_step_173 : decode cX6_step 173 = .ok (.bipush 48, 2) := by decide +kernel
theorem dX6_step_175 : decode cX6_step 175 = .ok (.if_icmp .ge 35, 3) := by decide +kernel
theorem dX6_step_178 : decode cX6_step 178 = .ok (.aload_n 0, 1) := by decide +kernel
theorem dX6_step_179 : decode cX6_step 179 = .ok (.iload_n 1, 1) := by decide +kernel
theorem dX6_step_180 : decode cX6_step 180 = .ok (.invokevirtual 93, 3) := by decide +kernel
theorem dX6_step_183 : decode cX6_step 183 = .ok (.ifCond .eq 21, 3) := by decide +kernel
theorem dX6_step_186 : decode cX6_step 186 = .ok (.aload_n 0, 1) := by decide +kernel
theorem dX6_step_187 : decode cX6_step 187 = .ok (.getfield 9, 3) := by decide +kernel
theorem dX6_step_190 : decode cX6_step 190 = .ok (.sipush 1600, 3) := by decide +kernel
theorem dX6_step_193 : decode cX6_step 193 = .ok (.iload_n 1, 1) := by decide +kernel
theorem dX6_step_194 : decode cX6_step 194 = .ok (.iadd, 1) := by decide +kernel
theorem dX6_step_195 : decode cX6_step 195 = .ok (.iaload, 1) := by decide +kernel
theorem dX6_step_196 : decode cX6_step 196 = .ok (.ifCond .gt 8, 3) := by decide +kernel
theorem dX6_step_199 : decode cX6_step 199 = .ok (.aload_n 0, 1) := by decide +kernel
theorem dX6_step_200 : decode cX6_step 200 = .ok (.iload_n 1, 1) := by decide +kernel
theorem dX6_step_201 : decode cX6_step 201 = .ok (.invokevirtual 220, 3) := by decide +kernel
theorem dX6_step_204 : decode cX6_step 204 = .ok (.iinc 1 1, 3) := by decide +kernel
theorem dX6_step_207 : decode cX6_step 207 = .ok (.goto (-35), 3) := by decide +kernel
theorem dX6_step_210 : decode cX6_step 210 = .ok (.aload_n 0, 1) := by decide +kernel
theorem dX6_step_211 : decode cX6_step 211 = .ok (.iconst 0, 1) := by decide +kernel
theorem dX6_step_212 : decode cX6_step 212 = .ok (.putfield 102, 3) := by decide +kernel
theorem dX6_step_215 : decode cX6_step 215 = .ok (.aload_n 0, 1) := by decide +kernel
theorem dX6_step_216 : decode cX6_step 216 = .ok (.getfield 9, 3) := by decide +kernel
theorem dX6_step_219 : decode cX6_step 219 = .ok (.iconst 3, 1) := by decide +kernel
theorem dX6_step_220 : decode cX6_step 220 = .ok (.dup2, 1) := by decide +kernel
theorem dX6_step_221 : decode cX6_step 221 = .ok (.iaload, 1) := by decide +kernel
theorem dX6_step_222 : decode cX6_step 222 = .ok (.iconst 1, 1) := by decide +kernel
theorem dX6_step_223 : decode cX6_step 223 = .ok (.iadd, 1) := by decide +kernel
theorem dX6_step_224 : decode cX6_step 224 = .ok (.iastore, 1) := by decide +kernel
theorem dX6_step_225 : decode cX6_step 225 = .ok (.return_, 1) := by decide +kernel
theorem dX6_shrinks_0 : decode cX6_shrinks 0 = .ok (.aload_n 0, 1) := by decide +kernel
theorem dX6_shrinks_1 : decode cX6_shrinks 1 = .ok (.iload_n 1, 1) := by decide +kernel
theorem dX6_shrinks_2 : decode cX6_shrinks 2 = .ok (.invokevirtual 115, 3) := by decide +kernel
theorem dX6_shrinks_5 : decode cX6_shrinks 5 = .ok (.iconst 3, 1) := by decide +kernel
theorem dX6_shrinks_6 : decode cX6_shrinks 6 = .ok (.if_icmp .ne 18, 3) := by decide +kernel
theorem dX6_shrinks_9 : decode cX6_shrinks 9 = .ok (.aload_n 0, 1) := by decide +kernel
theorem dX6_shrinks_10 : decode cX6_shrinks 10 = .ok (.iload_n 1, 1) := by decide +kernel
theorem dX6_shrinks_11 : decode cX6_shrinks 11 = .ok (.invokevirtual 160, 3) := by decide +kernel
theorem dX6_shrinks_14 : decode cX6_shrinks 14 = .ok (.ifCond .eq 9, 3) := by decide +kernel
theorem dX6_shrinks_17 : decode cX6_shrinks 17 = .ok (.aload_n 0, 1) := by decide +kernel
theorem dX6_shrinks_18 : decode cX6_shrinks 18 = .ok (.iload_n 1, 1) := by decide +kernel
theorem dX6_shrinks_19 : decode cX6_shrinks 19 = .ok (.invokevirtual 163, 3) := by decide +kernel
theorem dX6_shrinks_22 : decode cX6_shrinks 22 = .ok (.pop, 1) := by decide +kernel
theorem dX6_shrinks_23 : decode cX6_shrinks 23 = .ok (.return_, 1) := by decide +kernel
theorem dX6_shrinks_24 : decode cX6_shrinks 24 = .ok (.aload_n 0, 1) := by decide +kernel
theorem dX6_shrinks_25 : decode cX6_shrinks 25 = .ok (.iload_n 1, 1) := by decide +kernel
theorem dX6_shrinks_26 : decode cX6_shrinks 26 = .ok (.invokevirtual 223, 3) := by decide +kernel
theorem dX6_shrinks_29 : decode cX6_shrinks 29 = .ok (.istore_n 2, 1) := by decide +kernel
theorem dX6_shrinks_30 : decode cX6_shrinks 30 = .ok (.iload_n 2, 1) := by decide +kernel
theorem dX6_shrinks_31 : decode cX6_shrinks 31 = .ok (.iconst (-1), 1) := by decide +kernel
theorem dX6_shrinks_32 : decode cX6_shrinks 32 = .ok (.if_icmp .eq 8, 3) := by decide +kernel
theorem dX6_shrinks_35 : decode cX6_shrinks 35 = .ok (.aload_n 0, 1) := by decide +kernel
theorem dX6_shrinks_36 : decode cX6_shrinks 36 = .ok (.iload_n 2, 1) := by decide +kernel
theorem dX6_shrinks_37 : decode cX6_shrinks 37 = .ok (.invokevirtual 153, 3) := by decide +kernel
theorem dX6_shrinks_40 : decode cX6_shrinks 40 = .ok (.return_, 1) := by decide +kernel
theorem dX6_steps_0 : decode cX6_steps 0 = .ok (.aload_n 0, 1) := by decide +kernel
theorem dX6_steps_1 : decode cX6_steps 1 = .ok (.iconst 0, 1) := by decide +kernel
theorem dX6_steps_2 : decode cX6_steps 2 = .ok (.putfield 44, 3) := by decide +kernel
theorem dX6_steps_5 : decode cX6_steps 5 = .ok (.iload_n 1, 1) := by decide +kernel
theorem dX6_steps_6 : decode cX6_steps 6 = .ok (.i2l, 1) := by decide +kernel
theorem dX6_steps_7 : decode cX6_steps 7 = .ok (.lconst 1, 1) := by decide +kernel
theorem dX6_steps_8 : decode cX6_steps 8 = .ok (.ldc2_w 226, 3) := by decide +kernel
theorem dX6_steps_11 : decode cX6_steps 11 = .ok (.invokestatic 48, 3) := by decide +kernel
theorem dX6_steps_14 : decode cX6_steps 14 = .ok (.ifCond .ne 9, 3) := by decide +kernel
theorem dX6_steps_17 : decode cX6_steps 17 = .ok (.aload_n 0, 1) := by decide +kernel
theorem dX6_steps_18 : decode cX6_steps 18 = .ok (.iconst (-1), 1) := by decide +kernel
theorem dX6_steps_19 : decode cX6_steps 19 = .ok (.invokevirtual 72, 3) := by decide +kernel
theorem dX6_steps_22 : decode cX6_steps 22 = .ok (.ireturn, 1) := by decide +kernel
theorem dX6_steps_23 : decode cX6_steps 23 = .ok (.aload_n 0, 1) := by decide +kernel
theorem dX6_steps_24 : decode cX6_steps 24 = .ok (.getfield 9, 3) := by decide +kernel
theorem dX6_steps_27 : decode cX6_steps 27 = .ok (.iconst 4, 1) := by decide +kernel
theorem dX6_steps_28 : decode cX6_steps 28 = .ok (.iaload, 1) := by decide +kernel
theorem dX6_steps_29 : decode cX6_steps 29 = .ok (.aload_n 0, 1) := by decide +kernel
theorem dX6_steps_30 : decode cX6_steps 30 = .ok (.getfield 9, 3) := by decide +kernel
theorem dX6_steps_33 : decode cX6_steps 33 = .ok (.iconst 5, 1) := by decide +kernel
theorem dX6_steps_34 : decode cX6_steps 34 = .ok (.iaload, 1) := by decide +kernel
theorem dX6_steps_35 : decode cX6_steps 35 = .ok (.iadd, 1) := by decide +kernel
theorem dX6_steps_36 : decode cX6_steps 36 = .ok (.istore_n 2, 1) := by decide +kernel
theorem dX6_steps_37 : decode cX6_steps 37 = .ok (.iconst 0, 1) := by decide +kernel
theorem dX6_steps_38 : decode cX6_steps 38 = .ok (.istore_n 3, 1) := by decide +kernel
theorem dX6_steps_39 : decode cX6_steps 39 = .ok (.iload_n 3, 1) := by decide +kernel
theorem dX6_steps_40 : decode cX6_steps 40 = .ok (.iload_n 1, 1) := by decide +kernel
theorem dX6_steps_41 : decode cX6_steps 41 = .ok (.if_icmp .ge 13, 3) := by decide +kernel
theorem dX6_steps_44 : decode cX6_steps 44 = .ok (.aload_n 0, 1) := by decide +kernel
theorem dX6_steps_45 : decode cX6_steps 45 = .ok (.invokevirtual 228, 3) := by decide +kernel
theorem dX6_steps_48 : decode cX6_steps 48 = .ok (.iinc 3 1, 3) := by decide +kernel
theorem dX6_steps_51 : decode cX6_steps 51 = .ok (.goto (-12), 3) := by decide +kernel
theorem dX6_steps_54 : decode cX6_steps 54 = .ok (.aload_n 0, 1) := by decide +kernel
theorem dX6_steps_55 : decode cX6_steps 55 = .ok (.getfield 9, 3) := by decide +kernel
theorem dX6_steps_58 : decode cX6_steps 58 = .ok (.iconst 4, 1) := by decide +kernel
theorem dX6_steps_59 : decode cX6_steps 59 = .ok (.iaload, 1) := by decide +kernel
theorem dX6_steps_60 : decode cX6_steps 60 = .ok (.aload_n 0, 1) := by decide +kernel
theorem dX6_steps_61 : decode cX6_steps 61 = .ok (.getfield 9, 3) := by decide +kernel
theorem dX6_steps_64 : decode cX6_steps 64 = .ok (.iconst 5, 1) := by decide +kernel
theorem dX6_steps_65 : decode cX6_steps 65 = .ok (.iaload, 1) := by decide +kernel
theorem dX6_steps_66 : decode cX6_steps 66 = .ok (.iadd, 1) := by decide +kernel
theorem dX6_steps_67 : decode cX6_steps 67 = .ok (.iload_n 2, 1) := by decide +kernel
theorem dX6_steps_68 : decode cX6_steps 68 = .ok (.isub, 1) := by decide +kernel
theorem dX6_steps_69 : decode cX6_steps 69 = .ok (.ireturn, 1) := by decide +kernel
theorem dX6_easier_0 : decode cX6_easier 0 = .ok (.iconst (-1), 1) := by decide +kernel
theorem dX6_easier_1 : decode cX6_easier 1 = .ok (.istore_n 1, 1) := by decide +kernel
theorem dX6_easier_2 : decode cX6_easier 2 = .ok (.iconst 0, 1) := by decide +kernel
theorem dX6_easier_3 : decode cX6_easier 3 = .ok (.istore_n 2, 1) := by decide +kernel
theorem dX6_easier_4 : decode cX6_easier 4 = .ok (.iconst 0, 1) := by decide +kernel
theorem dX6_easier_5 : decode cX6_easier 5 = .ok (.istore_n 3, 1) := by decide +kernel
theorem dX6_easier_6 : decode cX6_easier 6 = .ok (.iload_n 3, 1) := by decide +kernel
theorem dX6_easier_7 : decode cX6_easier 7 = .ok (.sipush 144, 3) := by decide +kernel
theorem dX6_easier_10 : decode cX6_easier 10 = .ok (.if_icmp .ge 53, 3) := by decide +kernel
theorem dX6_easier_13 : decode cX6_easier 13 = .ok (.aload_n 0, 1) := by decide +kernel
theorem dX6_easier_14 : decode cX6_easier 14 = .ok (.iload_n 3, 1) := by decide +kernel
theorem dX6_easier_15 : decode cX6_easier 15 = .ok (.invokevirtual 147, 3) := by decide +kernel
theorem dX6_easier_18 : decode cX6_easier 18 = .ok (.ifCond .eq 11, 3) := by decide +kernel
theorem dX6_easier_21 : decode cX6_easier 21 = .ok (.aload_n 0, 1) := by decide +kernel
theorem dX6_easier_22 : decode cX6_easier 22 = .ok (.iload_n 3, 1) := by decide +kernel
theorem dX6_easier_23 : decode cX6_easier 23 = .ok (.invokevirtual 150, 3) := by decide +kernel
theorem dX6_easier_26 : decode cX6_easier 26 = .ok (.goto 4, 3) := by decide +kernel
theorem dX6_easier_29 : decode cX6_easier 29 = .ok (.iconst 0, 1) := by decide +kernel
theorem dX6_easier_30 : decode cX6_easier 30 = .ok (.istore 4, 2) := by decide +kernel
theorem dX6_easier_32 : decode cX6_easier 32 = .ok (.iload 4, 2) := by decide +kernel
theorem dX6_easier_34 : decode cX6_easier 34 = .ok (.iload_n 2, 1) := by decide +kernel
theorem dX6_easier_35 : decode cX6_easier 35 = .ok (.if_icmp .le 7, 3) := by decide +kernel
theorem dX6_easier_38 : decode cX6_easier 38 = .ok (.iload_n 3, 1) := by decide +kernel
theorem dX6_easier_39 : decode cX6_easier 39 = .ok (.goto 4, 3) := by decide +kernel
theorem dX6_easier_42 : decode cX6_easier 42 = .ok (.iload_n 1, 1) := by decide +kernel
theorem dX6_easier_43 : decode cX6_easier 43 = .ok (.istore_n 1, 1) := by decide +kernel
theorem dX6_easier_44 : decode cX6_easier 44 = .ok (.iload 4, 2) := by decide +kernel
theorem dX6_easier_46 : decode cX6_easier 46 = .ok (.iload_n 2, 1) := by decide +kernel
theorem dX6_easier_47 : decode cX6_easier 47 = .ok (.if_icmp .le 8, 3) := by decide +kernel
theorem dX6_easier_50 : decode cX6_easier 50 = .ok (.iload 4, 2) := by decide +kernel
theorem dX6_easier_52 : decode cX6_easier 52 = .ok (.goto 4, 3) := by decide +kernel
theorem dX6_easier_55 : decode cX6_easier 55 = .ok (.iload_n 2, 1) := by decide +kernel
theorem dX6_easier_56 : decode cX6_easier 56 = .ok (.istore_n 2, 1) := by decide +kernel
theorem dX6_easier_57 : decode cX6_easier 57 = .ok (.iinc 3 1, 3) := by decide +kernel
theorem dX6_easier_60 : decode cX6_easier 60 = .ok (.goto (-54), 3) := by decide +kernel
theorem dX6_easier_63 : decode cX6_easier 63 = .ok (.iload_n 1, 1) := by decide +kernel
theorem dX6_easier_64 : decode cX6_easier 64 = .ok (.ireturn, 1) := by decide +kernel
theorem dX6_relaxes_0 : decode cX6_relaxes 0 = .ok (.iconst 0, 1) := by decide +kernel
theorem dX6_relaxes_1 : decode cX6_relaxes 1 = .ok (.istore_n 1, 1) := by decide +kernel
theorem dX6_relaxes_2 : decode cX6_relaxes 2 = .ok (.aload_n 0, 1) := by decide +kernel
theorem dX6_relaxes_3 : decode cX6_relaxes 3 = .ok (.invokevirtual 231, 3) := by decide +kernel
theorem dX6_relaxes_6 : decode cX6_relaxes 6 = .ok (.istore_n 2, 1) := by decide +kernel
theorem dX6_relaxes_7 : decode cX6_relaxes 7 = .ok (.iload_n 2, 1) := by decide +kernel
theorem dX6_relaxes_8 : decode cX6_relaxes 8 = .ok (.iconst (-1), 1) := by decide +kernel
theorem dX6_relaxes_9 : decode cX6_relaxes 9 = .ok (.if_icmp .eq 19, 3) := by decide +kernel
theorem dX6_relaxes_12 : decode cX6_relaxes 12 = .ok (.aload_n 0, 1) := by decide +kernel
theorem dX6_relaxes_13 : decode cX6_relaxes 13 = .ok (.iload_n 2, 1) := by decide +kernel
theorem dX6_relaxes_14 : decode cX6_relaxes 14 = .ok (.invokevirtual 153, 3) := by decide +kernel
theorem dX6_relaxes_17 : decode cX6_relaxes 17 = .ok (.iinc 1 1, 3) := by decide +kernel
theorem dX6_relaxes_20 : decode cX6_relaxes 20 = .ok (.aload_n 0, 1) := by decide +kernel
theorem dX6_relaxes_21 : decode cX6_relaxes 21 = .ok (.invokevirtual 231, 3) := by decide +kernel
theorem dX6_relaxes_24 : decode cX6_relaxes 24 = .ok (.istore_n 2, 1) := by decide +kernel
theorem dX6_relaxes_25 : decode cX6_relaxes 25 = .ok (.goto (-18), 3) := by decide +kernel
theorem dX6_relaxes_28 : decode cX6_relaxes 28 = .ok (.iload_n 1, 1) := by decide +kernel
theorem dX6_relaxes_29 : decode cX6_relaxes 29 = .ok (.ireturn, 1) := by decide +kernel
theorem dX6_relax_0 : decode cX6_relax 0 = .ok (.aload_n 0, 1) := by decide +kernel
theorem dX6_relax_1 : decode cX6_relax 1 = .ok (.iconst 0, 1) := by decide +kernel
theorem dX6_relax_2 : decode cX6_relax 2 = .ok (.putfield 44, 3) := by decide +kernel
theorem dX6_relax_5 : decode cX6_relax 5 = .ok (.aload_n 0, 1) := by decide +kernel
theorem dX6_relax_6 : decode cX6_relax 6 = .ok (.invokevirtual 234, 3) := by decide +kernel
theorem dX6_relax_9 : decode cX6_relax 9 = .ok (.ireturn, 1) := by decide +kernel
theorem dX6_isThere_0 : decode cX6_isThere 0 = .ok (.aload_n 0, 1) := by decide +kernel
theorem dX6_isThere_1 : decode cX6_isThere 1 = .ok (.aload_n 0, 1) := by decide +kernel
theorem dX6_isThere_2 : decode cX6_isThere 2 = .ok (.iload_n 1, 1) := by decide +kernel
theorem dX6_isThere_3 : decode cX6_isThere 3 = .ok (.invokevirtual 93, 3) := by decide +kernel
theorem dX6_isThere_6 : decode cX6_isThere 6 = .ok (.ifCond .eq 7, 3) := by decide +kernel
theorem dX6_isThere_9 : decode cX6_isThere 9 = .ok (.iconst 0, 1) := by decide +kernel
theorem dX6_isThere_10 : decode cX6_isThere 10 = .ok (.goto 4, 3) := by decide +kernel
theorem dX6_isThere_13 : decode cX6_isThere 13 = .ok (.iconst 1, 1) := by decide +kernel
theorem dX6_isThere_14 : decode cX6_isThere 14 = .ok (.putfield 44, 3) := by decide +kernel
theorem dX6_isThere_17 : decode cX6_isThere 17 = .ok (.aload_n 0, 1) := by decide +kernel
theorem dX6_isThere_18 : decode cX6_isThere 18 = .ok (.getfield 44, 3) := by decide +kernel
theorem dX6_isThere_21 : decode cX6_isThere 21 = .ok (.ifCond .ne 7, 3) := by decide +kernel
theorem dX6_isThere_24 : decode cX6_isThere 24 = .ok (.iconst 1, 1) := by decide +kernel
theorem dX6_isThere_25 : decode cX6_isThere 25 = .ok (.goto 4, 3) := by decide +kernel
theorem dX6_isThere_28 : decode cX6_isThere 28 = .ok (.iconst 0, 1) := by decide +kernel
theorem dX6_isThere_29 : decode cX6_isThere 29 = .ok (.ireturn, 1) := by decide +kernel
theorem dX6_aboutOf_0 : decode cX6_aboutOf 0 = .ok (.iconst 0, 1) := by decide +kernel
theorem dX6_aboutOf_1 : decode cX6_aboutOf 1 = .ok (.istore_n 2, 1) := by decide +kernel
theorem dX6_aboutOf_2 : decode cX6_aboutOf 2 = .ok (.aload_n 0, 1) := by decide +kernel
theorem dX6_aboutOf_3 : decode cX6_aboutOf 3 = .ok (.iload_n 1, 1) := by decide +kernel
theorem dX6_aboutOf_4 : decode cX6_aboutOf 4 = .ok (.invokevirtual 87, 3) := by decide +kernel
theorem dX6_aboutOf_7 : decode cX6_aboutOf 7 = .ok (.istore_n 3, 1) := by decide +kernel
theorem dX6_aboutOf_8 : decode cX6_aboutOf 8 = .ok (.iconst 0, 1) := by decide +kernel
theorem dX6_aboutOf_9 : decode cX6_aboutOf 9 = .ok (.istore 4, 2) := by decide +kernel
theorem dX6_aboutOf_11 : decode cX6_aboutOf 11 = .ok (.iload 4, 2) := by decide +kernel
theorem dX6_aboutOf_13 : decode cX6_aboutOf 13 = .ok (.aload_n 0, 1) := by decide +kernel
theorem dX6_aboutOf_14 : decode cX6_aboutOf 14 = .ok (.iload_n 1, 1) := by decide +kernel
theorem dX6_aboutOf_15 : decode cX6_aboutOf 15 = .ok (.invokevirtual 115, 3) := by decide +kernel
theorem dX6_aboutOf_18 : decode cX6_aboutOf 18 = .ok (.if_icmp .ge 27, 3) := by decide +kernel
theorem dX6_aboutOf_21 : decode cX6_aboutOf 21 = .ok (.iload_n 2, 1) := by decide +kernel
theorem dX6_aboutOf_22 : decode cX6_aboutOf 22 = .ok (.aload_n 0, 1) := by decide +kernel
theorem dX6_aboutOf_23 : decode cX6_aboutOf 23 = .ok (.aload_n 0, 1) := by decide +kernel
theorem dX6_aboutOf_24 : decode cX6_aboutOf 24 = .ok (.iload_n 3, 1) := by decide +kernel
theorem dX6_aboutOf_25 : decode cX6_aboutOf 25 = .ok (.invokevirtual 105, 3) := by decide +kernel
theorem dX6_aboutOf_28 : decode cX6_aboutOf 28 = .ok (.invokevirtual 115, 3) := by decide +kernel
theorem dX6_aboutOf_31 : decode cX6_aboutOf 31 = .ok (.iadd, 1) := by decide +kernel
theorem dX6_aboutOf_32 : decode cX6_aboutOf 32 = .ok (.istore_n 2, 1) := by decide +kernel
theorem dX6_aboutOf_33 : decode cX6_aboutOf 33 = .ok (.aload_n 0, 1) := by decide +kernel
theorem dX6_aboutOf_34 : decode cX6_aboutOf 34 = .ok (.iload_n 3, 1) := by decide +kernel
theorem dX6_aboutOf_35 : decode cX6_aboutOf 35 = .ok (.invokevirtual 90, 3) := by decide +kernel
theorem dX6_aboutOf_38 : decode cX6_aboutOf 38 = .ok (.istore_n 3, 1) := by decide +kernel
theorem dX6_aboutOf_39 : decode cX6_aboutOf 39 = .ok (.iinc 4 1, 3) := by decide +kernel
theorem dX6_aboutOf_42 : decode cX6_aboutOf 42 = .ok (.goto (-31), 3) := by decide +kernel
theorem dX6_aboutOf_45 : decode cX6_aboutOf 45 = .ok (.iload_n 2, 1) := by decide +kernel
theorem dX6_aboutOf_46 : decode cX6_aboutOf 46 = .ok (.ireturn, 1) := by decide +kernel
theorem dX6_lengthsOf_0 : decode cX6_lengthsOf 0 = .ok (.iconst 0, 1) := by decide +kernel
theorem dX6_lengthsOf_1 : decode cX6_lengthsOf 1 = .ok (.istore_n 2, 1) := by decide +kernel
theorem dX6_lengthsOf_2 : decode cX6_lengthsOf 2 = .ok (.aload_n 0, 1) := by decide +kernel
theorem dX6_lengthsOf_3 : decode cX6_lengthsOf 3 = .ok (.iload_n 1, 1) := by decide +kernel
theorem dX6_lengthsOf_4 : decode cX6_lengthsOf 4 = .ok (.invokevirtual 87, 3) := by decide +kernel
theorem dX6_lengthsOf_7 : decode cX6_lengthsOf 7 = .ok (.istore_n 3, 1) := by decide +kernel
theorem dX6_lengthsOf_8 : decode cX6_lengthsOf 8 = .ok (.iconst 0, 1) := by decide +kernel
theorem dX6_lengthsOf_9 : decode cX6_lengthsOf 9 = .ok (.istore 4, 2) := by decide +kernel
theorem dX6_lengthsOf_11 : decode cX6_lengthsOf 11 = .ok (.iload 4, 2) := by decide +kernel
theorem dX6_lengthsOf_13 : decode cX6_lengthsOf 13 = .ok (.aload_n 0, 1) := by decide +kernel
theorem dX6_lengthsOf_14 : decode cX6_lengthsOf 14 = .ok (.iload_n 1, 1) := by decide +kernel
theorem dX6_lengthsOf_15 : decode cX6_lengthsOf 15 = .ok (.invokevirtual 115, 3) := by decide +kernel
theorem dX6_lengthsOf_18 : decode cX6_lengthsOf 18 = .ok (.if_icmp .ge 30, 3) := by decide +kernel
theorem dX6_lengthsOf_21 : decode cX6_lengthsOf 21 = .ok (.iload_n 2, 1) := by decide +kernel
theorem dX6_lengthsOf_22 : decode cX6_lengthsOf 22 = .ok (.aload_n 0, 1) := by decide +kernel
theorem dX6_lengthsOf_23 : decode cX6_lengthsOf 23 = .ok (.getfield 9, 3) := by decide +kernel
theorem dX6_lengthsOf_26 : decode cX6_lengthsOf 26 = .ok (.sipush 1456, 3) := by decide +kernel
theorem dX6_lengthsOf_29 : decode cX6_lengthsOf 29 = .ok (.iload_n 3, 1) := by decide +kernel
theorem dX6_lengthsOf_30 : decode cX6_lengthsOf 30 = .ok (.iconst 2, 1) := by decide +kernel
theorem dX6_lengthsOf_31 : decode cX6_lengthsOf 31 = .ok (.idiv, 1) := by decide +kernel
theorem dX6_lengthsOf_32 : decode cX6_lengthsOf 32 = .ok (.iadd, 1) := by decide +kernel
theorem dX6_lengthsOf_33 : decode cX6_lengthsOf 33 = .ok (.iaload, 1) := by decide +kernel
theorem dX6_lengthsOf_34 : decode cX6_lengthsOf 34 = .ok (.iadd, 1) := by decide +kernel
theorem dX6_lengthsOf_35 : decode cX6_lengthsOf 35 = .ok (.istore_n 2, 1) := by decide +kernel
theorem dX6_lengthsOf_36 : decode cX6_lengthsOf 36 = .ok (.aload_n 0, 1) := by decide +kernel
theorem dX6_lengthsOf_37 : decode cX6_lengthsOf 37 = .ok (.iload_n 3, 1) := by decide +kernel
theorem dX6_lengthsOf_38 : decode cX6_lengthsOf 38 = .ok (.invokevirtual 90, 3) := by decide +kernel
theorem dX6_lengthsOf_41 : decode cX6_lengthsOf 41 = .ok (.istore_n 3, 1) := by decide +kernel
theorem dX6_lengthsOf_42 : decode cX6_lengthsOf 42 = .ok (.iinc 4 1, 3) := by decide +kernel
theorem dX6_lengthsOf_45 : decode cX6_lengthsOf 45 = .ok (.goto (-34), 3) := by decide +kernel
theorem dX6_lengthsOf_48 : decode cX6_lengthsOf 48 = .ok (.iload_n 2, 1) := by decide +kernel
theorem dX6_lengthsOf_49 : decode cX6_lengthsOf 49 = .ok (.ireturn, 1) := by decide +kernel
theorem dX6_areBeside_0 : decode cX6_areBeside 0 = .ok (.aload_n 0, 1) := by decide +kernel
theorem dX6_areBeside_1 : decode cX6_areBeside 1 = .ok (.iload_n 1, 1) := by decide +kernel
theorem dX6_areBeside_2 : decode cX6_areBeside 2 = .ok (.iload_n 2, 1) := by decide +kernel
theorem dX6_areBeside_3 : decode cX6_areBeside 3 = .ok (.invokevirtual 190, 3) := by decide +kernel
theorem dX6_areBeside_6 : decode cX6_areBeside 6 = .ok (.ifCond .le 7, 3) := by decide +kernel
theorem dX6_areBeside_9 : decode cX6_areBeside 9 = .ok (.iconst 1, 1) := by decide +kernel
theorem dX6_areBeside_10 : decode cX6_areBeside 10 = .ok (.goto 4, 3) := by decide +kernel
theorem dX6_areBeside_13 : decode cX6_areBeside 13 = .ok (.iconst 0, 1) := by decide +kernel
theorem dX6_areBeside_14 : decode cX6_areBeside 14 = .ok (.ireturn, 1) := by decide +kernel
theorem dX6_neighbours_0 : decode cX6_neighbours 0 = .ok (.iconst 0, 1) := by decide +kernel
theorem dX6_neighbours_1 : decode cX6_neighbours 1 = .ok (.istore_n 2, 1) := by decide +kernel
theorem dX6_neighbours_2 : decode cX6_neighbours 2 = .ok (.iconst 0, 1) := by decide +kernel
theorem dX6_neighbours_3 : decode cX6_neighbours 3 = .ok (.istore_n 3, 1) := by decide +kernel
theorem dX6_neighbours_4 : decode cX6_neighbours 4 = .ok (.iload_n 3, 1) := by decide +kernel
theorem dX6_neighbours_5 : decode cX6_neighbours 5 = .ok (.bipush 48, 2) := by decide +kernel
theorem dX6_neighbours_7 : decode cX6_neighbours 7 = .ok (.if_icmp .ge 34, 3) := by decide +kernel
theorem dX6_neighbours_10 : decode cX6_neighbours 10 = .ok (.iload_n 2, 1) := by decide +kernel
theorem dX6_neighbours_11 : decode cX6_neighbours 11 = .ok (.aload_n 0, 1) := by decide +kernel
theorem dX6_neighbours_12 : decode cX6_neighbours 12 = .ok (.iload_n 3, 1) := by decide +kernel
theorem dX6_neighbours_13 : decode cX6_neighbours 13 = .ok (.invokevirtual 93, 3) := by decide +kernel
theorem dX6_neighbours_16 : decode cX6_neighbours 16 = .ok (.ifCond .eq 16, 3) := by decide +kernel
theorem dX6_neighbours_19 : decode cX6_neighbours 19 = .ok (.aload_n 0, 1) := by decide +kernel
theorem dX6_neighbours_20 : decode cX6_neighbours 20 = .ok (.iload_n 1, 1) := by decide +kernel
theorem dX6_neighbours_21 : decode cX6_neighbours 21 = .ok (.iload_n 3, 1) := by decide +kernel
theorem dX6_neighbours_22 : decode cX6_neighbours 22 = .ok (.invokevirtual 237, 3) := by decide +kernel
theorem dX6_neighbours_25 : decode cX6_neighbours 25 = .ok (.ifCond .eq 7, 3) := by decide +kernel
theorem dX6_neighbours_28 : decode cX6_neighbours 28 = .ok (.iconst 1, 1) := by decide +kernel
theorem dX6_neighbours_29 : decode cX6_neighbours 29 = .ok (.goto 4, 3) := by decide +kernel
theorem dX6_neighbours_32 : decode cX6_neighbours 32 = .ok (.iconst 0, 1) := by decide +kernel
theorem dX6_neighbours_33 : decode cX6_neighbours 33 = .ok (.iadd, 1) := by decide +kernel
theorem dX6_neighbours_34 : decode cX6_neighbours 34 = .ok (.istore_n 2, 1) := by decide +kernel
theorem dX6_neighbours_35 : decode cX6_neighbours 35 = .ok (.iinc 3 1, 3) := by decide +kernel
theorem dX6_neighbours_38 : decode cX6_neighbours 38 = .ok (.goto (-34), 3) := by decide +kernel
theorem dX6_neighbours_41 : decode cX6_neighbours 41 = .ok (.iload_n 2, 1) := by decide +kernel
theorem dX6_neighbours_42 : decode cX6_neighbours 42 = .ok (.ireturn, 1) := by decide +kernel
theorem dX6_cell_0 : decode cX6_cell 0 = .ok (.aload_n 0, 1) := by decide +kernel
theorem dX6_cell_1 : decode cX6_cell 1 = .ok (.iload_n 1, 1) := by decide +kernel
theorem dX6_cell_2 : decode cX6_cell 2 = .ok (.invokevirtual 240, 3) := by decide +kernel
theorem dX6_cell_5 : decode cX6_cell 5 = .ok (.ifCond .ne 5, 3) := by decide +kernel
theorem dX6_cell_8 : decode cX6_cell 8 = .ok (.iconst 0, 1) := by decide +kernel
theorem dX6_cell_9 : decode cX6_cell 9 = .ok (.ireturn, 1) := by decide +kernel
theorem dX6_cell_10 : decode cX6_cell 10 = .ok (.iload_n 2, 1) := by decide +kernel
theorem dX6_cell_11 : decode cX6_cell 11 = .ok (.tableswitch 78 0 5 #[37, 43, 54, 60, 66, 72], 37) := by decide +kernel
theorem dX6_cell_48 : decode cX6_cell 48 = .ok (.aload_n 0, 1) := by decide +kernel
theorem dX6_cell_49 : decode cX6_cell 49 = .ok (.iload_n 1, 1) := by decide +kernel
theorem dX6_cell_50 : decode cX6_cell 50 = .ok (.invokevirtual 115, 3) := by decide +kernel
theorem dX6_cell_53 : decode cX6_cell 53 = .ok (.ireturn, 1) := by decide +kernel
theorem dX6_cell_54 : decode cX6_cell 54 = .ok (.aload_n 0, 1) := by decide +kernel
theorem dX6_cell_55 : decode cX6_cell 55 = .ok (.getfield 9, 3) := by decide +kernel
theorem dX6_cell_58 : decode cX6_cell 58 = .ok (.sipush 1600, 3) := by decide +kernel
theorem dX6_cell_61 : decode cX6_cell 61 = .ok (.iload_n 1, 1) := by decide +kernel
theorem dX6_cell_62 : decode cX6_cell 62 = .ok (.iadd, 1) := by decide +kernel
theorem dX6_cell_63 : decode cX6_cell 63 = .ok (.iaload, 1) := by decide +kernel
theorem dX6_cell_64 : decode cX6_cell 64 = .ok (.ireturn, 1) := by decide +kernel
theorem dX6_cell_65 : decode cX6_cell 65 = .ok (.aload_n 0, 1) := by decide +kernel
theorem dX6_cell_66 : decode cX6_cell 66 = .ok (.iload_n 1, 1) := by decide +kernel
theorem dX6_cell_67 : decode cX6_cell 67 = .ok (.invokevirtual 118, 3) := by decide +kernel
theorem dX6_cell_70 : decode cX6_cell 70 = .ok (.ireturn, 1) := by decide +kernel
theorem dX6_cell_71 : decode cX6_cell 71 = .ok (.aload_n 0, 1) := by decide +kernel
theorem dX6_cell_72 : decode cX6_cell 72 = .ok (.iload_n 1, 1) := by decide +kernel
theorem dX6_cell_73 : decode cX6_cell 73 = .ok (.invokevirtual 243, 3) := by decide +kernel
theorem dX6_cell_76 : decode cX6_cell 76 = .ok (.ireturn, 1) := by decide +kernel
theorem dX6_cell_77 : decode cX6_cell 77 = .ok (.aload_n 0, 1) := by decide +kernel
theorem dX6_cell_78 : decode cX6_cell 78 = .ok (.iload_n 1, 1) := by decide +kernel
theorem dX6_cell_79 : decode cX6_cell 79 = .ok (.invokevirtual 246, 3) := by decide +kernel
theorem dX6_cell_82 : decode cX6_cell 82 = .ok (.ireturn, 1) := by decide +kernel
theorem dX6_cell_83 : decode cX6_cell 83 = .ok (.aload_n 0, 1) := by decide +kernel
theorem dX6_cell_84 : decode cX6_cell 84 = .ok (.iload_n 1, 1) := by decide +kernel
theorem dX6_cell_85 : decode cX6_cell 85 = .ok (.invokevirtual 249, 3) := by decide +kernel
theorem dX6_cell_88 : decode cX6_cell 88 = .ok (.ireturn, 1) := by decide +kernel
theorem dX6_cell_89 : decode cX6_cell 89 = .ok (.ldc 252, 2) := by decide +kernel
theorem dX6_cell_91 : decode cX6_cell 91 = .ok (.ireturn, 1) := by decide +kernel
theorem dX6_side_0 : decode cX6_side 0 = .ok (.aload_n 0, 1) := by decide +kernel
theorem dX6_side_1 : decode cX6_side 1 = .ok (.iload_n 1, 1) := by decide +kernel
theorem dX6_side_2 : decode cX6_side 2 = .ok (.invokevirtual 240, 3) := by decide +kernel
theorem dX6_side_5 : decode cX6_side 5 = .ok (.ifCond .ne 5, 3) := by decide +kernel
theorem dX6_side_8 : decode cX6_side 8 = .ok (.iconst 0, 1) := by decide +kernel
theorem dX6_side_9 : decode cX6_side 9 = .ok (.ireturn, 1) := by decide +kernel
theorem dX6_side_10 : decode cX6_side 10 = .ok (.iload_n 2, 1) := by decide +kernel
theorem dX6_side_11 : decode cX6_side 11 = .ok (.i2l, 1) := by decide +kernel
theorem dX6_side_12 : decode cX6_side 12 = .ok (.lconst 0, 1) := by decide +kernel
theorem dX6_side_13 : decode cX6_side 13 = .ok (.aload_n 0, 1) := by decide +kernel
theorem dX6_side_14 : decode cX6_side 14 = .ok (.iload_n 1, 1) := by decide +kernel
theorem dX6_side_15 : decode cX6_side 15 = .ok (.invokevirtual 115, 3) := by decide +kernel
theorem dX6_side_18 : decode cX6_side 18 = .ok (.i2l, 1) := by decide +kernel
theorem dX6_side_19 : decode cX6_side 19 = .ok (.lconst 1, 1) := by decide +kernel
theorem dX6_side_20 : decode cX6_side 20 = .ok (.lsub, 1) := by decide +kernel
theorem dX6_side_21 : decode cX6_side 21 = .ok (.invokestatic 48, 3) := by decide +kernel
theorem dX6_side_24 : decode cX6_side 24 = .ok (.ifCond .eq 15, 3) := by decide +kernel
theorem dX6_side_27 : decode cX6_side 27 = .ok (.iload_n 3, 1) := by decide +kernel
theorem dX6_side_28 : decode cX6_side 28 = .ok (.i2l, 1) := by decide +kernel
theorem dX6_side_29 : decode cX6_side 29 = .ok (.lconst 0, 1) := by decide +kernel
theorem dX6_side_30 : decode cX6_side 30 = .ok (.ldc2_w 253, 3) := by decide +kernel
theorem dX6_side_33 : decode cX6_side 33 = .ok (.invokestatic 48, 3) := by decide +kernel
theorem dX6_side_36 : decode cX6_side 36 = .ok (.ifCond .ne 5, 3) := by decide +kernel
theorem dX6_side_39 : decode cX6_side 39 = .ok (.iconst (-1), 1) := by decide +kernel
theorem dX6_side_40 : decode cX6_side 40 = .ok (.ireturn, 1) := by decide +kernel
theorem dX6_side_41 : decode cX6_side 41 = .ok (.aload_n 0, 1) := by decide +kernel
theorem dX6_side_42 : decode cX6_side 42 = .ok (.iload_n 1, 1) := by decide +kernel
theorem dX6_side_43 : decode cX6_side 43 = .ok (.iload_n 2, 1) := by decide +kernel
theorem dX6_side_44 : decode cX6_side 44 = .ok (.invokevirtual 173, 3) := by decide +kernel
theorem dX6_side_47 : decode cX6_side 47 = .ok (.istore 4, 2) := by decide +kernel
theorem dX6_side_49 : decode cX6_side 49 = .ok (.iload_n 3, 1) := by decide +kernel
theorem dX6_side_50 : decode cX6_side 50 = .ok (.ifCond .ne 10, 3) := by decide +kernel
theorem dX6_side_53 : decode cX6_side 53 = .ok (.iload 4, 2) := by decide +kernel
theorem dX6_side_55 : decode cX6_side 55 = .ok (.iconst 2, 1) := by decide +kernel
theorem dX6_side_56 : decode cX6_side 56 = .ok (.idiv, 1) := by decide +kernel
theorem dX6_side_57 : decode cX6_side 57 = .ok (.goto 27, 3) := by decide +kernel
theorem dX6_side_60 : decode cX6_side 60 = .ok (.iload_n 3, 1) := by decide +kernel
theorem dX6_side_61 : decode cX6_side 61 = .ok (.iconst 1, 1) := by decide +kernel
theorem dX6_side_62 : decode cX6_side 62 = .ok (.if_icmp .ne 12, 3) := by decide +kernel
theorem dX6_side_65 : decode cX6_side 65 = .ok (.aload_n 0, 1) := by decide +kernel
theorem dX6_side_66 : decode cX6_side 66 = .ok (.iload 4, 2) := by decide +kernel
theorem dX6_side_68 : decode cX6_side 68 = .ok (.invokevirtual 105, 3) := by decide +kernel
theorem dX6_side_71 : decode cX6_side 71 = .ok (.goto 13, 3) := by decide +kernel
theorem dX6_side_74 : decode cX6_side 74 = .ok (.aload_n 0, 1) := by decide +kernel
theorem dX6_side_75 : decode cX6_side 75 = .ok (.aload_n 0, 1) := by decide +kernel
theorem dX6_side_76 : decode cX6_side 76 = .ok (.iload 4, 2) := by decide +kernel
theorem dX6_side_78 : decode cX6_side 78 = .ok (.invokevirtual 90, 3) := by decide +kernel
theorem dX6_side_81 : decode cX6_side 81 = .ok (.invokevirtual 105, 3) := by decide +kernel
theorem dX6_side_84 : decode cX6_side 84 = .ok (.ireturn, 1) := by decide +kernel
theorem dX6_lesser_0 : decode cX6_lesser 0 = .ok (.iload_n 0, 1) := by decide +kernel
theorem dX6_lesser_1 : decode cX6_lesser 1 = .ok (.iload_n 1, 1) := by decide +kernel
theorem dX6_lesser_2 : decode cX6_lesser 2 = .ok (.if_icmp .ge 7, 3) := by decide +kernel
theorem dX6_lesser_5 : decode cX6_lesser 5 = .ok (.iload_n 0, 1) := by decide +kernel
theorem dX6_lesser_6 : decode cX6_lesser 6 = .ok (.goto 4, 3) := by decide +kernel
theorem dX6_lesser_9 : decode cX6_lesser 9 = .ok (.iload_n 1, 1) := by decide +kernel
theorem dX6_lesser_10 : decode cX6_lesser 10 = .ok (.ireturn, 1) := by decide +kernel
theorem dX6_greater_0 : decode cX6_greater 0 = .ok (.iload_n 0, 1) := by decide +kernel
theorem dX6_greater_1 : decode cX6_greater 1 = .ok (.iload_n 1, 1) := by decide +kernel
theorem dX6_greater_2 : decode cX6_greater 2 = .ok (.if_icmp .le 7, 3) := by decide +kernel
theorem dX6_greater_5 : decode cX6_greater 5 = .ok (.iload_n 0, 1) := by decide +kernel
theorem dX6_greater_6 : decode cX6_greater 6 = .ok (.goto 4, 3) := by decide +kernel
theorem dX6_greater_9 : decode cX6_greater 9 = .ok (.iload_n 1, 1) := by decide +kernel
theorem dX6_greater_10 : decode cX6_greater 10 = .ok (.ireturn, 1) := by decide +kernel
theorem dX6_wall_0 : decode cX6_wall 0 = .ok (.aload_n 0, 1) := by decide +kernel
theorem dX6_wall_1 : decode cX6_wall 1 = .ok (.iconst 0, 1) := by decide +kernel
theorem dX6_wall_2 : decode cX6_wall 2 = .ok (.putfield 44, 3) := by decide +kernel
theorem dX6_wall_5 : decode cX6_wall 5 = .ok (.aload_n 0, 1) := by decide +kernel
theorem dX6_wall_6 : decode cX6_wall 6 = .ok (.iload_n 1, 1) := by decide +kernel
theorem dX6_wall_7 : decode cX6_wall 7 = .ok (.invokevirtual 80, 3) := by decide +kernel
theorem dX6_wall_10 : decode cX6_wall 10 = .ok (.ifCond .ne 5, 3) := by decide +kernel
theorem dX6_wall_13 : decode cX6_wall 13 = .ok (.iconst (-1), 1) := by decide +kernel
theorem dX6_wall_14 : decode cX6_wall 14 = .ok (.ireturn, 1) := by decide +kernel
theorem dX6_wall_15 : decode cX6_wall 15 = .ok (.iconst 2, 1) := by decide +kernel
theorem dX6_wall_16 : decode cX6_wall 16 = .ok (.iload_n 1, 1) := by decide +kernel
theorem dX6_wall_17 : decode cX6_wall 17 = .ok (.imul, 1) := by decide +kernel
theorem dX6_wall_18 : decode cX6_wall 18 = .ok (.istore_n 3, 1) := by decide +kernel
theorem dX6_wall_19 : decode cX6_wall 19 = .ok (.aload_n 0, 1) := by decide +kernel
theorem dX6_wall_20 : decode cX6_wall 20 = .ok (.aload_n 0, 1) := by decide +kernel
theorem dX6_wall_21 : decode cX6_wall 21 = .ok (.iload_n 3, 1) := by decide +kernel
theorem dX6_wall_22 : decode cX6_wall 22 = .ok (.invokevirtual 90, 3) := by decide +kernel
theorem dX6_wall_25 : decode cX6_wall 25 = .ok (.invokevirtual 105, 3) := by decide +kernel
theorem dX6_wall_28 : decode cX6_wall 28 = .ok (.istore 4, 2) := by decide +kernel
theorem dX6_wall_30 : decode cX6_wall 30 = .ok (.aload_n 0, 1) := by decide +kernel
theorem dX6_wall_31 : decode cX6_wall 31 = .ok (.aload_n 0, 1) := by decide +kernel
theorem dX6_wall_32 : decode cX6_wall 32 = .ok (.iload_n 3, 1) := by decide +kernel
theorem dX6_wall_33 : decode cX6_wall 33 = .ok (.invokevirtual 96, 3) := by decide +kernel
theorem dX6_wall_36 : decode cX6_wall 36 = .ok (.invokevirtual 105, 3) := by decide +kernel
theorem dX6_wall_39 : decode cX6_wall 39 = .ok (.istore 5, 2) := by decide +kernel
theorem dX6_wall_41 : decode cX6_wall 41 = .ok (.iload_n 2, 1) := by decide +kernel
theorem dX6_wall_42 : decode cX6_wall 42 = .ok (.tableswitch 133 0 6 #[42, 56, 70, 78, 86, 97, 111], 42) := by decide +kernel
theorem dX6_wall_84 : decode cX6_wall 84 = .ok (.aload_n 0, 1) := by decide +kernel
theorem dX6_wall_85 : decode cX6_wall 85 = .ok (.iload_n 3, 1) := by decide +kernel
theorem dX6_wall_86 : decode cX6_wall 86 = .ok (.invokevirtual 84, 3) := by decide +kernel
theorem dX6_wall_89 : decode cX6_wall 89 = .ok (.aload_n 0, 1) := by decide +kernel
theorem dX6_wall_90 : decode cX6_wall 90 = .ok (.iload_n 3, 1) := by decide +kernel
theorem dX6_wall_91 : decode cX6_wall 91 = .ok (.invokevirtual 105, 3) := by decide +kernel
theorem dX6_wall_94 : decode cX6_wall 94 = .ok (.invokestatic 255, 3) := by decide +kernel
theorem dX6_wall_97 : decode cX6_wall 97 = .ok (.ireturn, 1) := by decide +kernel
theorem dX6_wall_98 : decode cX6_wall 98 = .ok (.aload_n 0, 1) := by decide +kernel
theorem dX6_wall_99 : decode cX6_wall 99 = .ok (.iload_n 3, 1) := by decide +kernel
theorem dX6_wall_100 : decode cX6_wall 100 = .ok (.invokevirtual 84, 3) := by decide +kernel
theorem dX6_wall_103 : decode cX6_wall 103 = .ok (.aload_n 0, 1) := by decide +kernel
theorem dX6_wall_104 : decode cX6_wall 104 = .ok (.iload_n 3, 1) := by decide +kernel
theorem dX6_wall_105 : decode cX6_wall 105 = .ok (.invokevirtual 105, 3) := by decide +kernel
theorem dX6_wall_108 : decode cX6_wall 108 = .ok (.invokestatic 258, 3) := by decide +kernel
theorem dX6_wall_111 : decode cX6_wall 111 = .ok (.ireturn, 1) := by decide +kernel
theorem dX6_wall_112 : decode cX6_wall 112 = .ok (.iload 4, 2) := by decide +kernel
theorem dX6_wall_114 : decode cX6_wall 114 = .ok (.iload 5, 2) := by decide +kernel
theorem dX6_wall_116 : decode cX6_wall 116 = .ok (.invokestatic 255, 3) := by decide +kernel
theorem dX6_wall_119 : decode cX6_wall 119 = .ok (.ireturn, 1) := by decide +kernel
theorem dX6_wall_120 : decode cX6_wall 120 = .ok (.iload 4, 2) := by decide +kernel
theorem dX6_wall_122 : decode cX6_wall 122 = .ok (.iload 5, 2) := by decide +kernel
theorem dX6_wall_124 : decode cX6_wall 124 = .ok (.invokestatic 258, 3) := by decide +kernel
theorem dX6_wall_127 : decode cX6_wall 127 = .ok (.ireturn, 1) := by decide +kernel
theorem dX6_wall_128 : decode cX6_wall 128 = .ok (.aload_n 0, 1) := by decide +kernel
theorem dX6_wall_129 : decode cX6_wall 129 = .ok (.getfield 9, 3) := by decide +kernel
theorem dX6_wall_132 : decode cX6_wall 132 = .ok (.sipush 1456, 3) := by decide +kernel
theorem dX6_wall_135 : decode cX6_wall 135 = .ok (.iload_n 1, 1) := by decide +kernel
theorem dX6_wall_136 : decode cX6_wall 136 = .ok (.iadd, 1) := by decide +kernel
theorem dX6_wall_137 : decode cX6_wall 137 = .ok (.iaload, 1) := by decide +kernel
theorem dX6_wall_138 : decode cX6_wall 138 = .ok (.ireturn, 1) := by decide +kernel
theorem dX6_wall_139 : decode cX6_wall 139 = .ok (.aload_n 0, 1) := by decide +kernel
theorem dX6_wall_140 : decode cX6_wall 140 = .ok (.iload_n 1, 1) := by decide +kernel
theorem dX6_wall_141 : decode cX6_wall 141 = .ok (.invokevirtual 147, 3) := by decide +kernel
theorem dX6_wall_144 : decode cX6_wall 144 = .ok (.ifCond .eq 7, 3) := by decide +kernel
theorem dX6_wall_147 : decode cX6_wall 147 = .ok (.iconst 1, 1) := by decide +kernel
theorem dX6_wall_148 : decode cX6_wall 148 = .ok (.goto 4, 3) := by decide +kernel
theorem dX6_wall_151 : decode cX6_wall 151 = .ok (.iconst 0, 1) := by decide +kernel
theorem dX6_wall_152 : decode cX6_wall 152 = .ok (.ireturn, 1) := by decide +kernel
theorem dX6_wall_153 : decode cX6_wall 153 = .ok (.aload_n 0, 1) := by decide +kernel
theorem dX6_wall_154 : decode cX6_wall 154 = .ok (.iload_n 1, 1) := by decide +kernel
theorem dX6_wall_155 : decode cX6_wall 155 = .ok (.invokevirtual 147, 3) := by decide +kernel
theorem dX6_wall_158 : decode cX6_wall 158 = .ok (.ifCond .eq 15, 3) := by decide +kernel
theorem dX6_wall_161 : decode cX6_wall 161 = .ok (.sipush 1000, 3) := by decide +kernel
theorem dX6_wall_164 : decode cX6_wall 164 = .ok (.aload_n 0, 1) := by decide +kernel
theorem dX6_wall_165 : decode cX6_wall 165 = .ok (.iload_n 1, 1) := by decide +kernel
theorem dX6_wall_166 : decode cX6_wall 166 = .ok (.invokevirtual 150, 3) := by decide +kernel
theorem dX6_wall_169 : decode cX6_wall 169 = .ok (.iadd, 1) := by decide +kernel
theorem dX6_wall_170 : decode cX6_wall 170 = .ok (.goto 4, 3) := by decide +kernel
theorem dX6_wall_173 : decode cX6_wall 173 = .ok (.iconst (-1), 1) := by decide +kernel
theorem dX6_wall_174 : decode cX6_wall 174 = .ok (.ireturn, 1) := by decide +kernel
theorem dX6_wall_175 : decode cX6_wall 175 = .ok (.iconst (-1), 1) := by decide +kernel
theorem dX6_wall_176 : decode cX6_wall 176 = .ok (.ireturn, 1) := by decide +kernel
theorem dX6_between_0 : decode cX6_between 0 = .ok (.aload_n 0, 1) := by decide +kernel
theorem dX6_between_1 : decode cX6_between 1 = .ok (.iconst 0, 1) := by decide +kernel
theorem dX6_between_2 : decode cX6_between 2 = .ok (.putfield 44, 3) := by decide +kernel
theorem dX6_between_5 : decode cX6_between 5 = .ok (.aload_n 0, 1) := by decide +kernel
theorem dX6_between_6 : decode cX6_between 6 = .ok (.iload_n 1, 1) := by decide +kernel
theorem dX6_between_7 : decode cX6_between 7 = .ok (.invokevirtual 93, 3) := by decide +kernel
theorem dX6_between_10 : decode cX6_between 10 = .ok (.ifCond .eq 26, 3) := by decide +kernel
theorem dX6_between_13 : decode cX6_between 13 = .ok (.aload_n 0, 1) := by decide +kernel
theorem dX6_between_14 : decode cX6_between 14 = .ok (.iload_n 2, 1) := by decide +kernel
theorem dX6_between_15 : decode cX6_between 15 = .ok (.invokevirtual 93, 3) := by decide +kernel
theorem dX6_between_18 : decode cX6_between 18 = .ok (.ifCond .eq 18, 3) := by decide +kernel
theorem dX6_between_21 : decode cX6_between 21 = .ok (.iload_n 1, 1) := by decide +kernel
theorem dX6_between_22 : decode cX6_between 22 = .ok (.iload_n 2, 1) := by decide +kernel
theorem dX6_between_23 : decode cX6_between 23 = .ok (.if_icmp .eq 13, 3) := by decide +kernel
theorem dX6_between_26 : decode cX6_between 26 = .ok (.iload_n 3, 1) := by decide +kernel
theorem dX6_between_27 : decode cX6_between 27 = .ok (.i2l, 1) := by decide +kernel
theorem dX6_between_28 : decode cX6_between 28 = .ok (.lconst 0, 1) := by decide +kernel
theorem dX6_between_29 : decode cX6_between 29 = .ok (.lconst 1, 1) := by decide +kernel
theorem dX6_between_30 : decode cX6_between 30 = .ok (.invokestatic 48, 3) := by decide +kernel
theorem dX6_between_33 : decode cX6_between 33 = .ok (.ifCond .ne 5, 3) := by decide +kernel
theorem dX6_between_36 : decode cX6_between 36 = .ok (.iconst (-1), 1) := by decide +kernel
theorem dX6_between_37 : decode cX6_between 37 = .ok (.ireturn, 1) := by decide +kernel
theorem dX6_between_38 : decode cX6_between 38 = .ok (.iload_n 3, 1) := by decide +kernel
theorem dX6_between_39 : decode cX6_between 39 = .ok (.ifCond .ne 10, 3) := by decide +kernel
theorem dX6_between_42 : decode cX6_between 42 = .ok (.aload_n 0, 1) := by decide +kernel
theorem dX6_between_43 : decode cX6_between 43 = .ok (.iload_n 1, 1) := by decide +kernel
theorem dX6_between_44 : decode cX6_between 44 = .ok (.iload_n 2, 1) := by decide +kernel
theorem dX6_between_45 : decode cX6_between 45 = .ok (.invokevirtual 190, 3) := by decide +kernel
theorem dX6_between_48 : decode cX6_between 48 = .ok (.ireturn, 1) := by decide +kernel
theorem dX6_between_49 : decode cX6_between 49 = .ok (.iconst 0, 1) := by decide +kernel
theorem dX6_between_50 : decode cX6_between 50 = .ok (.istore 4, 2) := by decide +kernel
theorem dX6_between_52 : decode cX6_between 52 = .ok (.iload 4, 2) := by decide +kernel
theorem dX6_between_54 : decode cX6_between 54 = .ok (.sipush 144, 3) := by decide +kernel
theorem dX6_between_57 : decode cX6_between 57 = .ok (.if_icmp .ge 69, 3) := by decide +kernel
theorem dX6_between_60 : decode cX6_between 60 = .ok (.aload_n 0, 1) := by decide +kernel
theorem dX6_between_61 : decode cX6_between 61 = .ok (.iload 4, 2) := by decide +kernel
theorem dX6_between_63 : decode cX6_between 63 = .ok (.invokevirtual 80, 3) := by decide +kernel
theorem dX6_between_66 : decode cX6_between 66 = .ok (.ifCond .eq 54, 3) := by decide +kernel
theorem dX6_between_69 : decode cX6_between 69 = .ok (.aload_n 0, 1) := by decide +kernel
theorem dX6_between_70 : decode cX6_between 70 = .ok (.iconst 2, 1) := by decide +kernel
theorem dX6_between_71 : decode cX6_between 71 = .ok (.iload 4, 2) := by decide +kernel
theorem dX6_between_73 : decode cX6_between 73 = .ok (.imul, 1) := by decide +kernel
theorem dX6_between_74 : decode cX6_between 74 = .ok (.invokevirtual 84, 3) := by decide +kernel
theorem dX6_between_77 : decode cX6_between 77 = .ok (.iload_n 1, 1) := by decide +kernel
theorem dX6_between_78 : decode cX6_between 78 = .ok (.if_icmp .ne 15, 3) := by decide +kernel
theorem dX6_between_81 : decode cX6_between 81 = .ok (.aload_n 0, 1) := by decide +kernel
theorem dX6_between_82 : decode cX6_between 82 = .ok (.iconst 2, 1) := by decide +kernel
theorem dX6_between_83 : decode cX6_between 83 = .ok (.iload 4, 2) := by decide +kernel
theorem dX6_between_85 : decode cX6_between 85 = .ok (.imul, 1) := by decide +kernel
theorem dX6_between_86 : decode cX6_between 86 = .ok (.invokevirtual 105, 3) := by decide +kernel
theorem dX6_between_89 : decode cX6_between 89 = .ok (.iload_n 2, 1) := by decide +kernel
theorem dX6_between_90 : decode cX6_between 90 = .ok (.if_icmp .eq 27, 3) := by decide +kernel
theorem dX6_between_93 : decode cX6_between 93 = .ok (.aload_n 0, 1) := by decide +kernel
theorem dX6_between_94 : decode cX6_between 94 = .ok (.iconst 2, 1) := by decide +kernel
theorem dX6_between_95 : decode cX6_between 95 = .ok (.iload 4, 2) := by decide +kernel
theorem dX6_between_97 : decode cX6_between 97 = .ok (.imul, 1) := by decide +kernel
theorem dX6_between_98 : decode cX6_between 98 = .ok (.invokevirtual 84, 3) := by decide +kernel
theorem dX6_between_101 : decode cX6_between 101 = .ok (.iload_n 2, 1) := by decide +kernel
theorem dX6_between_102 : decode cX6_between 102 = .ok (.if_icmp .ne 18, 3) := by decide +kernel
theorem dX6_between_105 : decode cX6_between 105 = .ok (.aload_n 0, 1) := by decide +kernel
theorem dX6_between_106 : decode cX6_between 106 = .ok (.iconst 2, 1) := by decide +kernel
theorem dX6_between_107 : decode cX6_between 107 = .ok (.iload 4, 2) := by decide +kernel
theorem dX6_between_109 : decode cX6_between 109 = .ok (.imul, 1) := by decide +kernel
theorem dX6_between_110 : decode cX6_between 110 = .ok (.invokevirtual 105, 3) := by decide +kernel
theorem dX6_between_113 : decode cX6_between 113 = .ok (.iload_n 1, 1) := by decide +kernel
theorem dX6_between_114 : decode cX6_between 114 = .ok (.if_icmp .ne 6, 3) := by decide +kernel
theorem dX6_between_117 : decode cX6_between 117 = .ok (.iload 4, 2) := by decide +kernel
theorem dX6_between_119 : decode cX6_between 119 = .ok (.ireturn, 1) := by decide +kernel
theorem dX6_between_120 : decode cX6_between 120 = .ok (.iinc 4 1, 3) := by decide +kernel
theorem dX6_between_123 : decode cX6_between 123 = .ok (.goto (-71), 3) := by decide +kernel
theorem dX6_between_126 : decode cX6_between 126 = .ok (.iconst (-1), 1) := by decide +kernel
theorem dX6_between_127 : decode cX6_between 127 = .ok (.ireturn, 1) := by decide +kernel
theorem dX6_layFar_0 : decode cX6_layFar 0 = .ok (.iconst 0, 1) := by decide +kernel
theorem dX6_layFar_1 : decode cX6_layFar 1 = .ok (.istore_n 2, 1) := by decide +kernel
theorem dX6_layFar_2 : decode cX6_layFar 2 = .ok (.iload_n 2, 1) := by decide +kernel
theorem dX6_layFar_3 : decode cX6_layFar 3 = .ok (.bipush 48, 2) := by decide +kernel
theorem dX6_layFar_5 : decode cX6_layFar 5 = .ok (.if_icmp .ge 25, 3) := by decide +kernel
theorem dX6_layFar_8 : decode cX6_layFar 8 = .ok (.aload_n 0, 1) := by decide +kernel
theorem dX6_layFar_9 : decode cX6_layFar 9 = .ok (.getfield 31, 3) := by decide +kernel
theorem dX6_layFar_12 : decode cX6_layFar 12 = .ok (.iload_n 2, 1) := by decide +kernel
theorem dX6_layFar_13 : decode cX6_layFar 13 = .ok (.iload_n 2, 1) := by decide +kernel
theorem dX6_layFar_14 : decode cX6_layFar 14 = .ok (.iload_n 1, 1) := by decide +kernel
theorem dX6_layFar_15 : decode cX6_layFar 15 = .ok (.if_icmp .ne 7, 3) := by decide +kernel
theorem dX6_layFar_18 : decode cX6_layFar 18 = .ok (.iconst 0, 1) := by decide +kernel
theorem dX6_layFar_19 : decode cX6_layFar 19 = .ok (.goto 4, 3) := by decide +kernel
theorem dX6_layFar_22 : decode cX6_layFar 22 = .ok (.iconst (-1), 1) := by decide +kernel
theorem dX6_layFar_23 : decode cX6_layFar 23 = .ok (.iastore, 1) := by decide +kernel
theorem dX6_layFar_24 : decode cX6_layFar 24 = .ok (.iinc 2 1, 3) := by decide +kernel
theorem dX6_layFar_27 : decode cX6_layFar 27 = .ok (.goto (-25), 3) := by decide +kernel
theorem dX6_layFar_30 : decode cX6_layFar 30 = .ok (.iconst 1, 1) := by decide +kernel
theorem dX6_layFar_31 : decode cX6_layFar 31 = .ok (.istore_n 2, 1) := by decide +kernel
theorem dX6_layFar_32 : decode cX6_layFar 32 = .ok (.iconst 0, 1) := by decide +kernel
theorem dX6_layFar_33 : decode cX6_layFar 33 = .ok (.istore_n 3, 1) := by decide +kernel
theorem dX6_layFar_34 : decode cX6_layFar 34 = .ok (.iload_n 2, 1) := by decide +kernel
theorem dX6_layFar_35 : decode cX6_layFar 35 = .ok (.ifCond .eq 85, 3) := by decide +kernel
theorem dX6_layFar_38 : decode cX6_layFar 38 = .ok (.iconst 0, 1) := by decide +kernel
theorem dX6_layFar_39 : decode cX6_layFar 39 = .ok (.istore_n 2, 1) := by decide +kernel
theorem dX6_layFar_40 : decode cX6_layFar 40 = .ok (.iconst 0, 1) := by decide +kernel
theorem dX6_layFar_41 : decode cX6_layFar 41 = .ok (.istore 4, 2) := by decide +kernel
theorem dX6_layFar_43 : decode cX6_layFar 43 = .ok (.iload 4, 2) := by decide +kernel
theorem dX6_layFar_45 : decode cX6_layFar 45 = .ok (.sipush 288, 3) := by decide +kernel
theorem dX6_layFar_48 : decode cX6_layFar 48 = .ok (.if_icmp .ge 66, 3) := by decide +kernel
theorem dX6_layFar_51 : decode cX6_layFar 51 = .ok (.aload_n 0, 1) := by decide +kernel
theorem dX6_layFar_52 : decode cX6_layFar 52 = .ok (.iload 4, 2) := by decide +kernel
theorem dX6_layFar_54 : decode cX6_layFar 54 = .ok (.iconst 2, 1) := by decide +kernel
theorem dX6_layFar_55 : decode cX6_layFar 55 = .ok (.idiv, 1) := by decide +kernel
theorem dX6_layFar_56 : decode cX6_layFar 56 = .ok (.invokevirtual 80, 3) := by decide +kernel
theorem dX6_layFar_59 : decode cX6_layFar 59 = .ok (.ifCond .eq 49, 3) := by decide +kernel
theorem dX6_layFar_62 : decode cX6_layFar 62 = .ok (.aload_n 0, 1) := by decide +kernel
theorem dX6_layFar_63 : decode cX6_layFar 63 = .ok (.getfield 31, 3) := by decide +kernel
theorem dX6_layFar_66 : decode cX6_layFar 66 = .ok (.aload_n 0, 1) := by decide +kernel
theorem dX6_layFar_67 : decode cX6_layFar 67 = .ok (.iload 4, 2) := by decide +kernel
theorem dX6_layFar_69 : decode cX6_layFar 69 = .ok (.invokevirtual 84, 3) := by decide +kernel
theorem dX6_layFar_72 : decode cX6_layFar 72 = .ok (.iaload, 1) := by decide +kernel
theorem dX6_layFar_73 : decode cX6_layFar 73 = .ok (.iload_n 3, 1) := by decide +kernel
theorem dX6_layFar_74 : decode cX6_layFar 74 = .ok (.if_icmp .ne 34, 3) := by decide +kernel
theorem dX6_layFar_77 : decode cX6_layFar 77 = .ok (.aload_n 0, 1) := by decide +kernel
theorem dX6_layFar_78 : decode cX6_layFar 78 = .ok (.getfield 31, 3) := by decide +kernel
theorem dX6_layFar_81 : decode cX6_layFar 81 = .ok (.aload_n 0, 1) := by decide +kernel
theorem dX6_layFar_82 : decode cX6_layFar 82 = .ok (.iload 4, 2) := by decide +kernel
theorem dX6_layFar_84 : decode cX6_layFar 84 = .ok (.invokevirtual 105, 3) := by decide +kernel
theorem dX6_layFar_87 : decode cX6_layFar 87 = .ok (.iaload, 1) := by decide +kernel
theorem dX6_layFar_88 : decode cX6_layFar 88 = .ok (.iconst (-1), 1) := by decide +kernel
theorem dX6_layFar_89 : decode cX6_layFar 89 = .ok (.if_icmp .ne 19, 3) := by decide +kernel
theorem dX6_layFar_92 : decode cX6_layFar 92 = .ok (.aload_n 0, 1) := by decide +kernel
theorem dX6_layFar_93 : decode cX6_layFar 93 = .ok (.getfield 31, 3) := by decide +kernel
theorem dX6_layFar_96 : decode cX6_layFar 96 = .ok (.aload_n 0, 1) := by decide +kernel
theorem dX6_layFar_97 : decode cX6_layFar 97 = .ok (.iload 4, 2) := by decide +kernel
theorem dX6_layFar_99 : decode cX6_layFar 99 = .ok (.invokevirtual 105, 3) := by decide +kernel
theorem dX6_layFar_102 : decode cX6_layFar 102 = .ok (.iload_n 3, 1) := by decide +kernel
theorem dX6_layFar_103 : decode cX6_layFar 103 = .ok (.iconst 1, 1) := by decide +kernel
theorem dX6_layFar_104 : decode cX6_layFar 104 = .ok (.iadd, 1) := by decide +kernel
theorem dX6_layFar_105 : decode cX6_layFar 105 = .ok (.iastore, 1) := by decide +kernel
theorem dX6_layFar_106 : decode cX6_layFar 106 = .ok (.iconst 1, 1) := by decide +kernel
theorem dX6_layFar_107 : decode cX6_layFar 107 = .ok (.istore_n 2, 1) := by decide +kernel
theorem dX6_layFar_108 : decode cX6_layFar 108 = .ok (.iinc 4 1, 3) := by decide +kernel
theorem dX6_layFar_111 : decode cX6_layFar 111 = .ok (.goto (-68), 3) := by decide +kernel
theorem dX6_layFar_114 : decode cX6_layFar 114 = .ok (.iinc 3 1, 3) := by decide +kernel
theorem dX6_layFar_117 : decode cX6_layFar 117 = .ok (.goto (-83), 3) := by decide +kernel
theorem dX6_layFar_120 : decode cX6_layFar 120 = .ok (.return_, 1) := by decide +kernel
theorem dX6_far_0 : decode cX6_far 0 = .ok (.aload_n 0, 1) := by decide +kernel
theorem dX6_far_1 : decode cX6_far 1 = .ok (.iconst 0, 1) := by decide +kernel
theorem dX6_far_2 : decode cX6_far 2 = .ok (.putfield 44, 3) := by decide +kernel
theorem dX6_far_5 : decode cX6_far 5 = .ok (.aload_n 0, 1) := by decide +kernel
theorem dX6_far_6 : decode cX6_far 6 = .ok (.iload_n 1, 1) := by decide +kernel
theorem dX6_far_7 : decode cX6_far 7 = .ok (.invokevirtual 93, 3) := by decide +kernel
theorem dX6_far_10 : decode cX6_far 10 = .ok (.ifCond .eq 11, 3) := by decide +kernel
theorem dX6_far_13 : decode cX6_far 13 = .ok (.aload_n 0, 1) := by decide +kernel
theorem dX6_far_14 : decode cX6_far 14 = .ok (.iload_n 2, 1) := by decide +kernel
theorem dX6_far_15 : decode cX6_far 15 = .ok (.invokevirtual 93, 3) := by decide +kernel
theorem dX6_far_18 : decode cX6_far 18 = .ok (.ifCond .ne 5, 3) := by decide +kernel
theorem dX6_far_21 : decode cX6_far 21 = .ok (.iconst (-1), 1) := by decide +kernel
theorem dX6_far_22 : decode cX6_far 22 = .ok (.ireturn, 1) := by decide +kernel
theorem dX6_far_23 : decode cX6_far 23 = .ok (.aload_n 0, 1) := by decide +kernel
theorem dX6_far_24 : decode cX6_far 24 = .ok (.iload_n 1, 1) := by decide +kernel
theorem dX6_far_25 : decode cX6_far 25 = .ok (.invokevirtual 261, 3) := by decide +kernel
theorem dX6_far_28 : decode cX6_far 28 = .ok (.aload_n 0, 1) := by decide +kernel
theorem dX6_far_29 : decode cX6_far 29 = .ok (.getfield 31, 3) := by decide +kernel
theorem dX6_far_32 : decode cX6_far 32 = .ok (.iload_n 2, 1) := by decide +kernel
theorem dX6_far_33 : decode cX6_far 33 = .ok (.iaload, 1) := by decide +kernel
theorem dX6_far_34 : decode cX6_far 34 = .ok (.ireturn, 1) := by decide +kernel
theorem dX6_shell_0 : decode cX6_shell 0 = .ok (.aload_n 0, 1) := by decide +kernel
theorem dX6_shell_1 : decode cX6_shell 1 = .ok (.iconst 0, 1) := by decide +kernel
theorem dX6_shell_2 : decode cX6_shell 2 = .ok (.putfield 44, 3) := by decide +kernel
theorem dX6_shell_5 : decode cX6_shell 5 = .ok (.aload_n 0, 1) := by decide +kernel
theorem dX6_shell_6 : decode cX6_shell 6 = .ok (.iload_n 1, 1) := by decide +kernel
theorem dX6_shell_7 : decode cX6_shell 7 = .ok (.invokevirtual 93, 3) := by decide +kernel
theorem dX6_shell_10 : decode cX6_shell 10 = .ok (.ifCond .eq 7, 3) := by decide +kernel
theorem dX6_shell_13 : decode cX6_shell 13 = .ok (.iload_n 2, 1) := by decide +kernel
theorem dX6_shell_14 : decode cX6_shell 14 = .ok (.ifCond .ge 5, 3) := by decide +kernel
theorem dX6_shell_17 : decode cX6_shell 17 = .ok (.iconst (-1), 1) := by decide +kernel
theorem dX6_shell_18 : decode cX6_shell 18 = .ok (.ireturn, 1) := by decide +kernel
theorem dX6_shell_19 : decode cX6_shell 19 = .ok (.aload_n 0, 1) := by decide +kernel
theorem dX6_shell_20 : decode cX6_shell 20 = .ok (.iload_n 1, 1) := by decide +kernel
theorem dX6_shell_21 : decode cX6_shell 21 = .ok (.invokevirtual 261, 3) := by decide +kernel
theorem dX6_shell_24 : decode cX6_shell 24 = .ok (.iconst 0, 1) := by decide +kernel
theorem dX6_shell_25 : decode cX6_shell 25 = .ok (.istore_n 3, 1) := by decide +kernel
theorem dX6_shell_26 : decode cX6_shell 26 = .ok (.iconst 0, 1) := by decide +kernel
theorem dX6_shell_27 : decode cX6_shell 27 = .ok (.istore 4, 2) := by decide +kernel
theorem dX6_shell_29 : decode cX6_shell 29 = .ok (.iload 4, 2) := by decide +kernel
theorem dX6_shell_31 : decode cX6_shell 31 = .ok (.bipush 48, 2) := by decide +kernel
theorem dX6_shell_33 : decode cX6_shell 33 = .ok (.if_icmp .ge 37, 3) := by decide +kernel
theorem dX6_shell_36 : decode cX6_shell 36 = .ok (.iload_n 3, 1) := by decide +kernel
theorem dX6_shell_37 : decode cX6_shell 37 = .ok (.aload_n 0, 1) := by decide +kernel
theorem dX6_shell_38 : decode cX6_shell 38 = .ok (.iload 4, 2) := by decide +kernel
theorem dX6_shell_40 : decode cX6_shell 40 = .ok (.invokevirtual 93, 3) := by decide +kernel
theorem dX6_shell_43 : decode cX6_shell 43 = .ok (.ifCond .eq 18, 3) := by decide +kernel
theorem dX6_shell_46 : decode cX6_shell 46 = .ok (.aload_n 0, 1) := by decide +kernel
theorem dX6_shell_47 : decode cX6_shell 47 = .ok (.getfield 31, 3) := by decide +kernel
theorem dX6_shell_50 : decode cX6_shell 50 = .ok (.iload 4, 2) := by decide +kernel
theorem dX6_shell_52 : decode cX6_shell 52 = .ok (.iaload, 1) := by decide +kernel
theorem dX6_shell_53 : decode cX6_shell 53 = .ok (.iload_n 2, 1) := by decide +kernel
theorem dX6_shell_54 : decode cX6_shell 54 = .ok (.if_icmp .ne 7, 3) := by decide +kernel
theorem dX6_shell_57 : decode cX6_shell 57 = .ok (.iconst 1, 1) := by decide +kernel
theorem dX6_shell_58 : decode cX6_shell 58 = .ok (.goto 4, 3) := by decide +kernel
theorem dX6_shell_61 : decode cX6_shell 61 = .ok (.iconst 0, 1) := by decide +kernel
theorem dX6_shell_62 : decode cX6_shell 62 = .ok (.iadd, 1) := by decide +kernel
theorem dX6_shell_63 : decode cX6_shell 63 = .ok (.istore_n 3, 1) := by decide +kernel
theorem dX6_shell_64 : decode cX6_shell 64 = .ok (.iinc 4 1, 3) := by decide +kernel
theorem dX6_shell_67 : decode cX6_shell 67 = .ok (.goto (-38), 3) := by decide +kernel
theorem dX6_shell_70 : decode cX6_shell 70 = .ok (.iload_n 3, 1) := by decide +kernel
theorem dX6_shell_71 : decode cX6_shell 71 = .ok (.ireturn, 1) := by decide +kernel
theorem dX6_shellOf_0 : decode cX6_shellOf 0 = .ok (.aload_n 0, 1) := by decide +kernel
theorem dX6_shellOf_1 : decode cX6_shellOf 1 = .ok (.iconst 0, 1) := by decide +kernel
theorem dX6_shellOf_2 : decode cX6_shellOf 2 = .ok (.putfield 44, 3) := by decide +kernel
theorem dX6_shellOf_5 : decode cX6_shellOf 5 = .ok (.aload_n 0, 1) := by decide +kernel
theorem dX6_shellOf_6 : decode cX6_shellOf 6 = .ok (.iload_n 1, 1) := by decide +kernel
theorem dX6_shellOf_7 : decode cX6_shellOf 7 = .ok (.invokevirtual 93, 3) := by decide +kernel
theorem dX6_shellOf_10 : decode cX6_shellOf 10 = .ok (.ifCond .eq 7, 3) := by decide +kernel
theorem dX6_shellOf_13 : decode cX6_shellOf 13 = .ok (.iload_n 2, 1) := by decide +kernel
theorem dX6_shellOf_14 : decode cX6_shellOf 14 = .ok (.ifCond .ge 5, 3) := by decide +kernel
theorem dX6_shellOf_17 : decode cX6_shellOf 17 = .ok (.iconst (-1), 1) := by decide +kernel
theorem dX6_shellOf_18 : decode cX6_shellOf 18 = .ok (.ireturn, 1) := by decide +kernel
theorem dX6_shellOf_19 : decode cX6_shellOf 19 = .ok (.aload_n 0, 1) := by decide +kernel
theorem dX6_shellOf_20 : decode cX6_shellOf 20 = .ok (.iload_n 1, 1) := by decide +kernel
theorem dX6_shellOf_21 : decode cX6_shellOf 21 = .ok (.invokevirtual 261, 3) := by decide +kernel
theorem dX6_shellOf_24 : decode cX6_shellOf 24 = .ok (.iconst 0, 1) := by decide +kernel
theorem dX6_shellOf_25 : decode cX6_shellOf 25 = .ok (.istore 4, 2) := by decide +kernel
theorem dX6_shellOf_27 : decode cX6_shellOf 27 = .ok (.iconst 0, 1) := by decide +kernel
theorem dX6_shellOf_28 : decode cX6_shellOf 28 = .ok (.istore 5, 2) := by decide +kernel
theorem dX6_shellOf_30 : decode cX6_shellOf 30 = .ok (.iload 5, 2) := by decide +kernel
theorem dX6_shellOf_32 : decode cX6_shellOf 32 = .ok (.bipush 48, 2) := by decide +kernel
theorem dX6_shellOf_34 : decode cX6_shellOf 34 = .ok (.if_icmp .ge 41, 3) := by decide +kernel
theorem dX6_shellOf_37 : decode cX6_shellOf 37 = .ok (.aload_n 0, 1) := by decide +kernel
theorem dX6_shellOf_38 : decode cX6_shellOf 38 = .ok (.iload 5, 2) := by decide +kernel
theorem dX6_shellOf_40 : decode cX6_shellOf 40 = .ok (.invokevirtual 93, 3) := by decide +kernel
theorem dX6_shellOf_43 : decode cX6_shellOf 43 = .ok (.ifCond .eq 26, 3) := by decide +kernel
theorem dX6_shellOf_46 : decode cX6_shellOf 46 = .ok (.aload_n 0, 1) := by decide +kernel
theorem dX6_shellOf_47 : decode cX6_shellOf 47 = .ok (.getfield 31, 3) := by decide +kernel
theorem dX6_shellOf_50 : decode cX6_shellOf 50 = .ok (.iload 5, 2) := by decide +kernel
theorem dX6_shellOf_52 : decode cX6_shellOf 52 = .ok (.iaload, 1) := by decide +kernel
theorem dX6_shellOf_53 : decode cX6_shellOf 53 = .ok (.iload_n 2, 1) := by decide +kernel
theorem dX6_shellOf_54 : decode cX6_shellOf 54 = .ok (.if_icmp .ne 15, 3) := by decide +kernel
theorem dX6_shellOf_57 : decode cX6_shellOf 57 = .ok (.iload 4, 2) := by decide +kernel
theorem dX6_shellOf_59 : decode cX6_shellOf 59 = .ok (.iload_n 3, 1) := by decide +kernel
theorem dX6_shellOf_60 : decode cX6_shellOf 60 = .ok (.if_icmp .ne 6, 3) := by decide +kernel
theorem dX6_shellOf_63 : decode cX6_shellOf 63 = .ok (.iload 5, 2) := by decide +kernel
theorem dX6_shellOf_65 : decode cX6_shellOf 65 = .ok (.ireturn, 1) := by decide +kernel
theorem dX6_shellOf_66 : decode cX6_shellOf 66 = .ok (.iinc 4 1, 3) := by decide +kernel
theorem dX6_shellOf_69 : decode cX6_shellOf 69 = .ok (.iinc 5 1, 3) := by decide +kernel
theorem dX6_shellOf_72 : decode cX6_shellOf 72 = .ok (.goto (-42), 3) := by decide +kernel
theorem dX6_shellOf_75 : decode cX6_shellOf 75 = .ok (.iconst (-1), 1) := by decide +kernel
theorem dX6_shellOf_76 : decode cX6_shellOf 76 = .ok (.ireturn, 1) := by decide +kernel
theorem dX6_way_0 : decode cX6_way 0 = .ok (.aload_n 0, 1) := by decide +kernel
theorem dX6_way_1 : decode cX6_way 1 = .ok (.iconst 0, 1) := by decide +kernel
theorem dX6_way_2 : decode cX6_way 2 = .ok (.putfield 44, 3) := by decide +kernel
theorem dX6_way_5 : decode cX6_way 5 = .ok (.aload_n 0, 1) := by decide +kernel
theorem dX6_way_6 : decode cX6_way 6 = .ok (.iload_n 1, 1) := by decide +kernel
theorem dX6_way_7 : decode cX6_way 7 = .ok (.invokevirtual 93, 3) := by decide +kernel
theorem dX6_way_10 : decode cX6_way 10 = .ok (.ifCond .eq 11, 3) := by decide +kernel
theorem dX6_way_13 : decode cX6_way 13 = .ok (.aload_n 0, 1) := by decide +kernel
theorem dX6_way_14 : decode cX6_way 14 = .ok (.iload_n 2, 1) := by decide +kernel
theorem dX6_way_15 : decode cX6_way 15 = .ok (.invokevirtual 93, 3) := by decide +kernel
theorem dX6_way_18 : decode cX6_way 18 = .ok (.ifCond .ne 5, 3) := by decide +kernel
theorem dX6_way_21 : decode cX6_way 21 = .ok (.iconst (-1), 1) := by decide +kernel
theorem dX6_way_22 : decode cX6_way 22 = .ok (.ireturn, 1) := by decide +kernel
theorem dX6_way_23 : decode cX6_way 23 = .ok (.aload_n 0, 1) := by decide +kernel
theorem dX6_way_24 : decode cX6_way 24 = .ok (.iload_n 2, 1) := by decide +kernel
theorem dX6_way_25 : decode cX6_way 25 = .ok (.invokevirtual 261, 3) := by decide +kernel
theorem dX6_way_28 : decode cX6_way 28 = .ok (.iload_n 3, 1) := by decide +kernel
theorem dX6_way_29 : decode cX6_way 29 = .ok (.i2l, 1) := by decide +kernel
theorem dX6_way_30 : decode cX6_way 30 = .ok (.lconst 0, 1) := by decide +kernel
theorem dX6_way_31 : decode cX6_way 31 = .ok (.aload_n 0, 1) := by decide +kernel
theorem dX6_way_32 : decode cX6_way 32 = .ok (.getfield 31, 3) := by decide +kernel
theorem dX6_way_35 : decode cX6_way 35 = .ok (.iload_n 1, 1) := by decide +kernel
theorem dX6_way_36 : decode cX6_way 36 = .ok (.iaload, 1) := by decide +kernel
theorem dX6_way_37 : decode cX6_way 37 = .ok (.i2l, 1) := by decide +kernel
theorem dX6_way_38 : decode cX6_way 38 = .ok (.invokestatic 48, 3) := by decide +kernel
theorem dX6_way_41 : decode cX6_way 41 = .ok (.ifCond .ne 5, 3) := by decide +kernel
theorem dX6_way_44 : decode cX6_way 44 = .ok (.iconst (-1), 1) := by decide +kernel
theorem dX6_way_45 : decode cX6_way 45 = .ok (.ireturn, 1) := by decide +kernel
theorem dX6_way_46 : decode cX6_way 46 = .ok (.iload_n 1, 1) := by decide +kernel
theorem dX6_way_47 : decode cX6_way 47 = .ok (.istore 4, 2) := by decide +kernel
theorem dX6_way_49 : decode cX6_way 49 = .ok (.iconst 0, 1) := by decide +kernel
theorem dX6_way_50 : decode cX6_way 50 = .ok (.istore 5, 2) := by decide +kernel
theorem dX6_way_52 : decode cX6_way 52 = .ok (.iload 5, 2) := by decide +kernel
theorem dX6_way_54 : decode cX6_way 54 = .ok (.iload_n 3, 1) := by decide +kernel
theorem dX6_way_55 : decode cX6_way 55 = .ok (.if_icmp .ge 79, 3) := by decide +kernel
theorem dX6_way_58 : decode cX6_way 58 = .ok (.iconst (-1), 1) := by decide +kernel
theorem dX6_way_59 : decode cX6_way 59 = .ok (.istore 6, 2) := by decide +kernel
theorem dX6_way_61 : decode cX6_way 61 = .ok (.bipush 47, 2) := by decide +kernel
theorem dX6_way_63 : decode cX6_way 63 = .ok (.istore 7, 2) := by decide +kernel
theorem dX6_way_65 : decode cX6_way 65 = .ok (.iload 7, 2) := by decide +kernel
theorem dX6_way_67 : decode cX6_way 67 = .ok (.ifCond .lt 57, 3) := by decide +kernel
theorem dX6_way_70 : decode cX6_way 70 = .ok (.aload_n 0, 1) := by decide +kernel
theorem dX6_way_71 : decode cX6_way 71 = .ok (.iload 7, 2) := by decide +kernel
theorem dX6_way_73 : decode cX6_way 73 = .ok (.invokevirtual 93, 3) := by decide +kernel
theorem dX6_way_76 : decode cX6_way 76 = .ok (.ifCond .eq 38, 3) := by decide +kernel
theorem dX6_way_79 : decode cX6_way 79 = .ok (.aload_n 0, 1) := by decide +kernel
theorem dX6_way_80 : decode cX6_way 80 = .ok (.getfield 31, 3) := by decide +kernel
theorem dX6_way_83 : decode cX6_way 83 = .ok (.iload 7, 2) := by decide +kernel
theorem dX6_way_85 : decode cX6_way 85 = .ok (.iaload, 1) := by decide +kernel
theorem dX6_way_86 : decode cX6_way 86 = .ok (.aload_n 0, 1) := by decide +kernel
theorem dX6_way_87 : decode cX6_way 87 = .ok (.getfield 31, 3) := by decide +kernel
theorem dX6_way_90 : decode cX6_way 90 = .ok (.iload 4, 2) := by decide +kernel
theorem dX6_way_92 : decode cX6_way 92 = .ok (.iaload, 1) := by decide +kernel
theorem dX6_way_93 : decode cX6_way 93 = .ok (.iconst 1, 1) := by decide +kernel
theorem dX6_way_94 : decode cX6_way 94 = .ok (.isub, 1) := by decide +kernel
theorem dX6_way_95 : decode cX6_way 95 = .ok (.if_icmp .ne 19, 3) := by decide +kernel
theorem dX6_way_98 : decode cX6_way 98 = .ok (.aload_n 0, 1) := by decide +kernel
theorem dX6_way_99 : decode cX6_way 99 = .ok (.iload 4, 2) := by decide +kernel
theorem dX6_way_101 : decode cX6_way 101 = .ok (.iload 7, 2) := by decide +kernel
theorem dX6_way_103 : decode cX6_way 103 = .ok (.invokevirtual 237, 3) := by decide +kernel
theorem dX6_way_106 : decode cX6_way 106 = .ok (.ifCond .eq 8, 3) := by decide +kernel
theorem dX6_way_109 : decode cX6_way 109 = .ok (.iload 7, 2) := by decide +kernel
theorem dX6_way_111 : decode cX6_way 111 = .ok (.goto 5, 3) := by decide +kernel
theorem dX6_way_114 : decode cX6_way 114 = .ok (.iload 6, 2) := by decide +kernel
theorem dX6_way_116 : decode cX6_way 116 = .ok (.istore 6, 2) := by decide +kernel
theorem dX6_way_118 : decode cX6_way 118 = .ok (.iinc 7 (-1), 3) := by decide +kernel
theorem dX6_way_121 : decode cX6_way 121 = .ok (.goto (-56), 3) := by decide +kernel
theorem dX6_way_124 : decode cX6_way 124 = .ok (.iload 6, 2) := by decide +kernel
theorem dX6_way_126 : decode cX6_way 126 = .ok (.istore 4, 2) := by decide +kernel
theorem dX6_way_128 : decode cX6_way 128 = .ok (.iinc 5 1, 3) := by decide +kernel
theorem dX6_way_131 : decode cX6_way 131 = .ok (.goto (-79), 3) := by decide +kernel
theorem dX6_way_134 : decode cX6_way 134 = .ok (.iload 4, 2) := by decide +kernel
theorem dX6_way_136 : decode cX6_way 136 = .ok (.ireturn, 1) := by decide +kernel
theorem dX6_mutual_0 : decode cX6_mutual 0 = .ok (.aload_n 0, 1) := by decide +kernel
theorem dX6_mutual_1 : decode cX6_mutual 1 = .ok (.iconst 0, 1) := by decide +kernel
theorem dX6_mutual_2 : decode cX6_mutual 2 = .ok (.putfield 44, 3) := by decide +kernel
theorem dX6_mutual_5 : decode cX6_mutual 5 = .ok (.aload_n 0, 1) := by decide +kernel
theorem dX6_mutual_6 : decode cX6_mutual 6 = .ok (.iload_n 1, 1) := by decide +kernel
theorem dX6_mutual_7 : decode cX6_mutual 7 = .ok (.invokevirtual 93, 3) := by decide +kernel
theorem dX6_mutual_10 : decode cX6_mutual 10 = .ok (.ifCond .eq 16, 3) := by decide +kernel
theorem dX6_mutual_13 : decode cX6_mutual 13 = .ok (.aload_n 0, 1) := by decide +kernel
theorem dX6_mutual_14 : decode cX6_mutual 14 = .ok (.iload_n 2, 1) := by decide +kernel
theorem dX6_mutual_15 : decode cX6_mutual 15 = .ok (.invokevirtual 93, 3) := by decide +kernel
theorem dX6_mutual_18 : decode cX6_mutual 18 = .ok (.ifCond .eq 8, 3) := by decide +kernel
theorem dX6_mutual_21 : decode cX6_mutual 21 = .ok (.iload_n 1, 1) := by decide +kernel
theorem dX6_mutual_22 : decode cX6_mutual 22 = .ok (.iload_n 2, 1) := by decide +kernel
theorem dX6_mutual_23 : decode cX6_mutual 23 = .ok (.if_icmp .ne 5, 3) := by decide +kernel
theorem dX6_mutual_26 : decode cX6_mutual 26 = .ok (.iconst (-1), 1) := by decide +kernel
theorem dX6_mutual_27 : decode cX6_mutual 27 = .ok (.ireturn, 1) := by decide +kernel
theorem dX6_mutual_28 : decode cX6_mutual 28 = .ok (.iconst 0, 1) := by decide +kernel
theorem dX6_mutual_29 : decode cX6_mutual 29 = .ok (.istore_n 3, 1) := by decide +kernel
theorem dX6_mutual_30 : decode cX6_mutual 30 = .ok (.iconst 0, 1) := by decide +kernel
theorem dX6_mutual_31 : decode cX6_mutual 31 = .ok (.istore 4, 2) := by decide +kernel
theorem dX6_mutual_33 : decode cX6_mutual 33 = .ok (.iload 4, 2) := by decide +kernel
theorem dX6_mutual_35 : decode cX6_mutual 35 = .ok (.bipush 48, 2) := by decide +kernel
theorem dX6_mutual_37 : decode cX6_mutual 37 = .ok (.if_icmp .ge 58, 3) := by decide +kernel
theorem dX6_mutual_40 : decode cX6_mutual 40 = .ok (.iload_n 3, 1) := by decide +kernel
theorem dX6_mutual_41 : decode cX6_mutual 41 = .ok (.aload_n 0, 1) := by decide +kernel
theorem dX6_mutual_42 : decode cX6_mutual 42 = .ok (.iload 4, 2) := by decide +kernel
theorem dX6_mutual_44 : decode cX6_mutual 44 = .ok (.invokevirtual 93, 3) := by decide +kernel
theorem dX6_mutual_47 : decode cX6_mutual 47 = .ok (.ifCond .eq 39, 3) := by decide +kernel
theorem dX6_mutual_50 : decode cX6_mutual 50 = .ok (.iload 4, 2) := by decide +kernel
theorem dX6_mutual_52 : decode cX6_mutual 52 = .ok (.iload_n 1, 1) := by decide +kernel
theorem dX6_mutual_53 : decode cX6_mutual 53 = .ok (.if_icmp .eq 33, 3) := by decide +kernel
theorem dX6_mutual_56 : decode cX6_mutual 56 = .ok (.iload 4, 2) := by decide +kernel
theorem dX6_mutual_58 : decode cX6_mutual 58 = .ok (.iload_n 2, 1) := by decide +kernel
theorem dX6_mutual_59 : decode cX6_mutual 59 = .ok (.if_icmp .eq 27, 3) := by decide +kernel
theorem dX6_mutual_62 : decode cX6_mutual 62 = .ok (.aload_n 0, 1) := by decide +kernel
theorem dX6_mutual_63 : decode cX6_mutual 63 = .ok (.iload 4, 2) := by decide +kernel
theorem dX6_mutual_65 : decode cX6_mutual 65 = .ok (.iload_n 1, 1) := by decide +kernel
theorem dX6_mutual_66 : decode cX6_mutual 66 = .ok (.invokevirtual 237, 3) := by decide +kernel
theorem dX6_mutual_69 : decode cX6_mutual 69 = .ok (.ifCond .eq 17, 3) := by decide +kernel
theorem dX6_mutual_72 : decode cX6_mutual 72 = .ok (.aload_n 0, 1) := by decide +kernel
theorem dX6_mutual_73 : decode cX6_mutual 73 = .ok (.iload 4, 2) := by decide +kernel
theorem dX6_mutual_75 : decode cX6_mutual 75 = .ok (.iload_n 2, 1) := by decide +kernel
theorem dX6_mutual_76 : decode cX6_mutual 76 = .ok (.invokevirtual 237, 3) := by decide +kernel
theorem dX6_mutual_79 : decode cX6_mutual 79 = .ok (.ifCond .eq 7, 3) := by decide +kernel
theorem dX6_mutual_82 : decode cX6_mutual 82 = .ok (.iconst 1, 1) := by decide +kernel
theorem dX6_mutual_83 : decode cX6_mutual 83 = .ok (.goto 4, 3) := by decide +kernel
theorem dX6_mutual_86 : decode cX6_mutual 86 = .ok (.iconst 0, 1) := by decide +kernel
theorem dX6_mutual_87 : decode cX6_mutual 87 = .ok (.iadd, 1) := by decide +kernel
theorem dX6_mutual_88 : decode cX6_mutual 88 = .ok (.istore_n 3, 1) := by decide +kernel
theorem dX6_mutual_89 : decode cX6_mutual 89 = .ok (.iinc 4 1, 3) := by decide +kernel
theorem dX6_mutual_92 : decode cX6_mutual 92 = .ok (.goto (-59), 3) := by decide +kernel
theorem dX6_mutual_95 : decode cX6_mutual 95 = .ok (.iload_n 3, 1) := by decide +kernel
theorem dX6_mutual_96 : decode cX6_mutual 96 = .ok (.ireturn, 1) := by decide +kernel
theorem dX6_ofKind_0 : decode cX6_ofKind 0 = .ok (.iconst 0, 1) := by decide +kernel
theorem dX6_ofKind_1 : decode cX6_ofKind 1 = .ok (.istore_n 3, 1) := by decide +kernel
theorem dX6_ofKind_2 : decode cX6_ofKind 2 = .ok (.iconst 0, 1) := by decide +kernel
theorem dX6_ofKind_3 : decode cX6_ofKind 3 = .ok (.istore 4, 2) := by decide +kernel
theorem dX6_ofKind_5 : decode cX6_ofKind 5 = .ok (.iload 4, 2) := by decide +kernel
theorem dX6_ofKind_7 : decode cX6_ofKind 7 = .ok (.bipush 48, 2) := by decide +kernel
theorem dX6_ofKind_9 : decode cX6_ofKind 9 = .ok (.if_icmp .ge 64, 3) := by decide +kernel
theorem dX6_ofKind_12 : decode cX6_ofKind 12 = .ok (.aload_n 0, 1) := by decide +kernel
theorem dX6_ofKind_13 : decode cX6_ofKind 13 = .ok (.iload 4, 2) := by decide +kernel
theorem dX6_ofKind_15 : decode cX6_ofKind 15 = .ok (.invokevirtual 93, 3) := by decide +kernel
theorem dX6_ofKind_18 : decode cX6_ofKind 18 = .ok (.ifCond .eq 49, 3) := by decide +kernel
theorem dX6_ofKind_21 : decode cX6_ofKind 21 = .ok (.aload_n 0, 1) := by decide +kernel
theorem dX6_ofKind_22 : decode cX6_ofKind 22 = .ok (.iload 4, 2) := by decide +kernel
theorem dX6_ofKind_24 : decode cX6_ofKind 24 = .ok (.invokevirtual 115, 3) := by decide +kernel
theorem dX6_ofKind_27 : decode cX6_ofKind 27 = .ok (.iload_n 1, 1) := by decide +kernel
theorem dX6_ofKind_28 : decode cX6_ofKind 28 = .ok (.if_icmp .ne 39, 3) := by decide +kernel
theorem dX6_ofKind_31 : decode cX6_ofKind 31 = .ok (.iload_n 3, 1) := by decide +kernel
theorem dX6_ofKind_32 : decode cX6_ofKind 32 = .ok (.iload_n 2, 1) := by decide +kernel
theorem dX6_ofKind_33 : decode cX6_ofKind 33 = .ok (.ifCond .ne 7, 3) := by decide +kernel
theorem dX6_ofKind_36 : decode cX6_ofKind 36 = .ok (.iconst 1, 1) := by decide +kernel
theorem dX6_ofKind_37 : decode cX6_ofKind 37 = .ok (.goto 28, 3) := by decide +kernel
theorem dX6_ofKind_40 : decode cX6_ofKind 40 = .ok (.iload_n 2, 1) := by decide +kernel
theorem dX6_ofKind_41 : decode cX6_ofKind 41 = .ok (.iconst 1, 1) := by decide +kernel
theorem dX6_ofKind_42 : decode cX6_ofKind 42 = .ok (.if_icmp .ne 17, 3) := by decide +kernel
theorem dX6_ofKind_45 : decode cX6_ofKind 45 = .ok (.aload_n 0, 1) := by decide +kernel
theorem dX6_ofKind_46 : decode cX6_ofKind 46 = .ok (.getfield 9, 3) := by decide +kernel
theorem dX6_ofKind_49 : decode cX6_ofKind 49 = .ok (.sipush 1600, 3) := by decide +kernel
theorem dX6_ofKind_52 : decode cX6_ofKind 52 = .ok (.iload 4, 2) := by decide +kernel
theorem dX6_ofKind_54 : decode cX6_ofKind 54 = .ok (.iadd, 1) := by decide +kernel
theorem dX6_ofKind_55 : decode cX6_ofKind 55 = .ok (.iaload, 1) := by decide +kernel
theorem dX6_ofKind_56 : decode cX6_ofKind 56 = .ok (.goto 9, 3) := by decide +kernel
theorem dX6_ofKind_59 : decode cX6_ofKind 59 = .ok (.aload_n 0, 1) := by decide +kernel
theorem dX6_ofKind_60 : decode cX6_ofKind 60 = .ok (.iload 4, 2) := by decide +kernel
theorem dX6_ofKind_62 : decode cX6_ofKind 62 = .ok (.invokevirtual 246, 3) := by decide +kernel
theorem dX6_ofKind_65 : decode cX6_ofKind 65 = .ok (.iadd, 1) := by decide +kernel
theorem dX6_ofKind_66 : decode cX6_ofKind 66 = .ok (.istore_n 3, 1) := by decide +kernel
theorem dX6_ofKind_67 : decode cX6_ofKind 67 = .ok (.iinc 4 1, 3) := by decide +kernel
theorem dX6_ofKind_70 : decode cX6_ofKind 70 = .ok (.goto (-65), 3) := by decide +kernel
theorem dX6_ofKind_73 : decode cX6_ofKind 73 = .ok (.iload_n 3, 1) := by decide +kernel
theorem dX6_ofKind_74 : decode cX6_ofKind 74 = .ok (.ireturn, 1) := by decide +kernel
theorem dX6_common_0 : decode cX6_common 0 = .ok (.iload_n 0, 1) := by decide +kernel
theorem dX6_common_1 : decode cX6_common 1 = .ok (.istore_n 2, 1) := by decide +kernel
theorem dX6_common_2 : decode cX6_common 2 = .ok (.iload_n 1, 1) := by decide +kernel
theorem dX6_common_3 : decode cX6_common 3 = .ok (.istore_n 3, 1) := by decide +kernel
theorem dX6_common_4 : decode cX6_common 4 = .ok (.iload_n 3, 1) := by decide +kernel
theorem dX6_common_5 : decode cX6_common 5 = .ok (.ifCond .eq 16, 3) := by decide +kernel
theorem dX6_common_8 : decode cX6_common 8 = .ok (.iload_n 2, 1) := by decide +kernel
theorem dX6_common_9 : decode cX6_common 9 = .ok (.iload_n 3, 1) := by decide +kernel
theorem dX6_common_10 : decode cX6_common 10 = .ok (.irem, 1) := by decide +kernel
theorem dX6_common_11 : decode cX6_common 11 = .ok (.istore 4, 2) := by decide +kernel
theorem dX6_common_13 : decode cX6_common 13 = .ok (.iload_n 3, 1) := by decide +kernel
theorem dX6_common_14 : decode cX6_common 14 = .ok (.istore_n 2, 1) := by decide +kernel
theorem dX6_common_15 : decode cX6_common 15 = .ok (.iload 4, 2) := by decide +kernel
theorem dX6_common_17 : decode cX6_common 17 = .ok (.istore_n 3, 1) := by decide +kernel
theorem dX6_common_18 : decode cX6_common 18 = .ok (.goto (-14), 3) := by decide +kernel
theorem dX6_common_21 : decode cX6_common 21 = .ok (.iload_n 2, 1) := by decide +kernel
theorem dX6_common_22 : decode cX6_common 22 = .ok (.ireturn, 1) := by decide +kernel
theorem dX6_about_0 : decode cX6_about 0 = .ok (.aload_n 0, 1) := by decide +kernel
theorem dX6_about_1 : decode cX6_about 1 = .ok (.iconst 0, 1) := by decide +kernel
theorem dX6_about_2 : decode cX6_about 2 = .ok (.putfield 44, 3) := by decide +kernel
theorem dX6_about_5 : decode cX6_about 5 = .ok (.aload_n 0, 1) := by decide +kernel
theorem dX6_about_6 : decode cX6_about 6 = .ok (.iload_n 1, 1) := by decide +kernel
theorem dX6_about_7 : decode cX6_about 7 = .ok (.iconst 0, 1) := by decide +kernel
theorem dX6_about_8 : decode cX6_about 8 = .ok (.invokevirtual 264, 3) := by decide +kernel
theorem dX6_about_11 : decode cX6_about 11 = .ok (.istore_n 3, 1) := by decide +kernel
theorem dX6_about_12 : decode cX6_about 12 = .ok (.iload_n 3, 1) := by decide +kernel
theorem dX6_about_13 : decode cX6_about 13 = .ok (.ifCond .eq 13, 3) := by decide +kernel
theorem dX6_about_16 : decode cX6_about 16 = .ok (.iload_n 2, 1) := by decide +kernel
theorem dX6_about_17 : decode cX6_about 17 = .ok (.i2l, 1) := by decide +kernel
theorem dX6_about_18 : decode cX6_about 18 = .ok (.lconst 0, 1) := by decide +kernel
theorem dX6_about_19 : decode cX6_about 19 = .ok (.lconst 1, 1) := by decide +kernel
theorem dX6_about_20 : decode cX6_about 20 = .ok (.invokestatic 48, 3) := by decide +kernel
theorem dX6_about_23 : decode cX6_about 23 = .ok (.ifCond .ne 5, 3) := by decide +kernel
theorem dX6_about_26 : decode cX6_about 26 = .ok (.iconst (-1), 1) := by decide +kernel
theorem dX6_about_27 : decode cX6_about 27 = .ok (.ireturn, 1) := by decide +kernel
theorem dX6_about_28 : decode cX6_about 28 = .ok (.aload_n 0, 1) := by decide +kernel
theorem dX6_about_29 : decode cX6_about 29 = .ok (.iload_n 1, 1) := by decide +kernel
theorem dX6_about_30 : decode cX6_about 30 = .ok (.iconst 2, 1) := by decide +kernel
theorem dX6_about_31 : decode cX6_about 31 = .ok (.invokevirtual 264, 3) := by decide +kernel
theorem dX6_about_34 : decode cX6_about 34 = .ok (.istore 4, 2) := by decide +kernel
theorem dX6_about_36 : decode cX6_about 36 = .ok (.iload_n 3, 1) := by decide +kernel
theorem dX6_about_37 : decode cX6_about 37 = .ok (.iload_n 1, 1) := by decide +kernel
theorem dX6_about_38 : decode cX6_about 38 = .ok (.imul, 1) := by decide +kernel
theorem dX6_about_39 : decode cX6_about 39 = .ok (.istore 5, 2) := by decide +kernel
theorem dX6_about_41 : decode cX6_about 41 = .ok (.iload_n 2, 1) := by decide +kernel
theorem dX6_about_42 : decode cX6_about 42 = .ok (.ifCond .ne 8, 3) := by decide +kernel
theorem dX6_about_45 : decode cX6_about 45 = .ok (.iload 4, 2) := by decide +kernel
theorem dX6_about_47 : decode cX6_about 47 = .ok (.goto 5, 3) := by decide +kernel
theorem dX6_about_50 : decode cX6_about 50 = .ok (.iload 5, 2) := by decide +kernel
theorem dX6_about_52 : decode cX6_about 52 = .ok (.iload 4, 2) := by decide +kernel
theorem dX6_about_54 : decode cX6_about 54 = .ok (.iload 5, 2) := by decide +kernel
theorem dX6_about_56 : decode cX6_about 56 = .ok (.invokestatic 267, 3) := by decide +kernel
theorem dX6_about_59 : decode cX6_about 59 = .ok (.idiv, 1) := by decide +kernel
theorem dX6_about_60 : decode cX6_about 60 = .ok (.ireturn, 1) := by decide +kernel
theorem dX6_kind_0 : decode cX6_kind 0 = .ok (.aload_n 0, 1) := by decide +kernel
theorem dX6_kind_1 : decode cX6_kind 1 = .ok (.iconst 0, 1) := by decide +kernel
theorem dX6_kind_2 : decode cX6_kind 2 = .ok (.putfield 44, 3) := by decide +kernel
theorem dX6_kind_5 : decode cX6_kind 5 = .ok (.iload_n 2, 1) := by decide +kernel
theorem dX6_kind_6 : decode cX6_kind 6 = .ok (.i2l, 1) := by decide +kernel
theorem dX6_kind_7 : decode cX6_kind 7 = .ok (.lconst 0, 1) := by decide +kernel
theorem dX6_kind_8 : decode cX6_kind 8 = .ok (.ldc2_w 253, 3) := by decide +kernel
theorem dX6_kind_11 : decode cX6_kind 11 = .ok (.invokestatic 48, 3) := by decide +kernel
theorem dX6_kind_14 : decode cX6_kind 14 = .ok (.ifCond .eq 21, 3) := by decide +kernel
theorem dX6_kind_17 : decode cX6_kind 17 = .ok (.iload_n 1, 1) := by decide +kernel
theorem dX6_kind_18 : decode cX6_kind 18 = .ok (.iconst 1, 1) := by decide +kernel
theorem dX6_kind_19 : decode cX6_kind 19 = .ok (.if_icmp .ge 7, 3) := by decide +kernel
theorem dX6_kind_22 : decode cX6_kind 22 = .ok (.iconst 0, 1) := by decide +kernel
theorem dX6_kind_23 : decode cX6_kind 23 = .ok (.goto 14, 3) := by decide +kernel
theorem dX6_kind_26 : decode cX6_kind 26 = .ok (.aload_n 0, 1) := by decide +kernel
theorem dX6_kind_27 : decode cX6_kind 27 = .ok (.iload_n 1, 1) := by decide +kernel
theorem dX6_kind_28 : decode cX6_kind 28 = .ok (.iload_n 2, 1) := by decide +kernel
theorem dX6_kind_29 : decode cX6_kind 29 = .ok (.invokevirtual 264, 3) := by decide +kernel
theorem dX6_kind_32 : decode cX6_kind 32 = .ok (.goto 5, 3) := by decide +kernel
theorem dX6_kind_35 : decode cX6_kind 35 = .ok (.ldc 252, 2) := by decide +kernel
theorem dX6_kind_37 : decode cX6_kind 37 = .ok (.ireturn, 1) := by decide +kernel
theorem dX6_pairs_0 : decode cX6_pairs 0 = .ok (.aload_n 0, 1) := by decide +kernel
theorem dX6_pairs_1 : decode cX6_pairs 1 = .ok (.iconst 0, 1) := by decide +kernel
theorem dX6_pairs_2 : decode cX6_pairs 2 = .ok (.putfield 44, 3) := by decide +kernel
theorem dX6_pairs_5 : decode cX6_pairs 5 = .ok (.iconst 0, 1) := by decide +kernel
theorem dX6_pairs_6 : decode cX6_pairs 6 = .ok (.istore_n 3, 1) := by decide +kernel
theorem dX6_pairs_7 : decode cX6_pairs 7 = .ok (.iconst 0, 1) := by decide +kernel
theorem dX6_pairs_8 : decode cX6_pairs 8 = .ok (.istore 4, 2) := by decide +kernel
theorem dX6_pairs_10 : decode cX6_pairs 10 = .ok (.iload 4, 2) := by decide +kernel
theorem dX6_pairs_12 : decode cX6_pairs 12 = .ok (.sipush 144, 3) := by decide +kernel
theorem dX6_pairs_15 : decode cX6_pairs 15 = .ok (.if_icmp .ge 78, 3) := by decide +kernel
theorem dX6_pairs_18 : decode cX6_pairs 18 = .ok (.aload_n 0, 1) := by decide +kernel
theorem dX6_pairs_19 : decode cX6_pairs 19 = .ok (.iload 4, 2) := by decide +kernel
theorem dX6_pairs_21 : decode cX6_pairs 21 = .ok (.invokevirtual 80, 3) := by decide +kernel
theorem dX6_pairs_24 : decode cX6_pairs 24 = .ok (.ifCond .eq 63, 3) := by decide +kernel
theorem dX6_pairs_27 : decode cX6_pairs 27 = .ok (.aload_n 0, 1) := by decide +kernel
theorem dX6_pairs_28 : decode cX6_pairs 28 = .ok (.aload_n 0, 1) := by decide +kernel
theorem dX6_pairs_29 : decode cX6_pairs 29 = .ok (.iconst 2, 1) := by decide +kernel
theorem dX6_pairs_30 : decode cX6_pairs 30 = .ok (.iload 4, 2) := by decide +kernel
theorem dX6_pairs_32 : decode cX6_pairs 32 = .ok (.imul, 1) := by decide +kernel
theorem dX6_pairs_33 : decode cX6_pairs 33 = .ok (.invokevirtual 84, 3) := by decide +kernel
theorem dX6_pairs_36 : decode cX6_pairs 36 = .ok (.invokevirtual 115, 3) := by decide +kernel
theorem dX6_pairs_39 : decode cX6_pairs 39 = .ok (.istore 5, 2) := by decide +kernel
theorem dX6_pairs_41 : decode cX6_pairs 41 = .ok (.aload_n 0, 1) := by decide +kernel
theorem dX6_pairs_42 : decode cX6_pairs 42 = .ok (.aload_n 0, 1) := by decide +kernel
theorem dX6_pairs_43 : decode cX6_pairs 43 = .ok (.iconst 2, 1) := by decide +kernel
theorem dX6_pairs_44 : decode cX6_pairs 44 = .ok (.iload 4, 2) := by decide +kernel
theorem dX6_pairs_46 : decode cX6_pairs 46 = .ok (.imul, 1) := by decide +kernel
theorem dX6_pairs_47 : decode cX6_pairs 47 = .ok (.invokevirtual 105, 3) := by decide +kernel
theorem dX6_pairs_50 : decode cX6_pairs 50 = .ok (.invokevirtual 115, 3) := by decide +kernel
theorem dX6_pairs_53 : decode cX6_pairs 53 = .ok (.istore 6, 2) := by decide +kernel
theorem dX6_pairs_55 : decode cX6_pairs 55 = .ok (.iload_n 3, 1) := by decide +kernel
theorem dX6_pairs_56 : decode cX6_pairs 56 = .ok (.iload 5, 2) := by decide +kernel
theorem dX6_pairs_58 : decode cX6_pairs 58 = .ok (.iload_n 1, 1) := by decide +kernel
theorem dX6_pairs_59 : decode cX6_pairs 59 = .ok (.if_icmp .ne 9, 3) := by decide +kernel
theorem dX6_pairs_62 : decode cX6_pairs 62 = .ok (.iload 6, 2) := by decide +kernel
theorem dX6_pairs_64 : decode cX6_pairs 64 = .ok (.iload_n 2, 1) := by decide +kernel
theorem dX6_pairs_65 : decode cX6_pairs 65 = .ok (.if_icmp .eq 15, 3) := by decide +kernel
theorem dX6_pairs_68 : decode cX6_pairs 68 = .ok (.iload 5, 2) := by decide +kernel
theorem dX6_pairs_70 : decode cX6_pairs 70 = .ok (.iload_n 2, 1) := by decide +kernel
theorem dX6_pairs_71 : decode cX6_pairs 71 = .ok (.if_icmp .ne 13, 3) := by decide +kernel
theorem dX6_pairs_74 : decode cX6_pairs 74 = .ok (.iload 6, 2) := by decide +kernel
theorem dX6_pairs_76 : decode cX6_pairs 76 = .ok (.iload_n 1, 1) := by decide +kernel
theorem dX6_pairs_77 : decode cX6_pairs 77 = .ok (.if_icmp .ne 7, 3) := by decide +kernel
theorem dX6_pairs_80 : decode cX6_pairs 80 = .ok (.iconst 1, 1) := by decide +kernel
theorem dX6_pairs_81 : decode cX6_pairs 81 = .ok (.goto 4, 3) := by decide +kernel
theorem dX6_pairs_84 : decode cX6_pairs 84 = .ok (.iconst 0, 1) := by decide +kernel
theorem dX6_pairs_85 : decode cX6_pairs 85 = .ok (.iadd, 1) := by decide +kernel
theorem dX6_pairs_86 : decode cX6_pairs 86 = .ok (.istore_n 3, 1) := by decide +kernel
theorem dX6_pairs_87 : decode cX6_pairs 87 = .ok (.iinc 4 1, 3) := by decide +kernel
theorem dX6_pairs_90 : decode cX6_pairs 90 = .ok (.goto (-80), 3) := by decide +kernel
theorem dX6_pairs_93 : decode cX6_pairs 93 = .ok (.iload_n 3, 1) := by decide +kernel
theorem dX6_pairs_94 : decode cX6_pairs 94 = .ok (.ireturn, 1) := by decide +kernel
theorem dX6_ranked_0 : decode cX6_ranked 0 = .ok (.aload_n 0, 1) := by decide +kernel
theorem dX6_ranked_1 : decode cX6_ranked 1 = .ok (.iconst 0, 1) := by decide +kernel
theorem dX6_ranked_2 : decode cX6_ranked 2 = .ok (.putfield 44, 3) := by decide +kernel
theorem dX6_ranked_5 : decode cX6_ranked 5 = .ok (.iconst 0, 1) := by decide +kernel
theorem dX6_ranked_6 : decode cX6_ranked 6 = .ok (.istore_n 2, 1) := by decide +kernel
theorem dX6_ranked_7 : decode cX6_ranked 7 = .ok (.iload_n 2, 1) := by decide +kernel
theorem dX6_ranked_8 : decode cX6_ranked 8 = .ok (.bipush 48, 2) := by decide +kernel
theorem dX6_ranked_10 : decode cX6_ranked 10 = .ok (.if_icmp .ge 121, 3) := by decide +kernel
theorem dX6_ranked_13 : decode cX6_ranked 13 = .ok (.iconst 0, 1) := by decide +kernel
theorem dX6_ranked_14 : decode cX6_ranked 14 = .ok (.istore_n 3, 1) := by decide +kernel
theorem dX6_ranked_15 : decode cX6_ranked 15 = .ok (.iconst 0, 1) := by decide +kernel
theorem dX6_ranked_16 : decode cX6_ranked 16 = .ok (.istore 4, 2) := by decide +kernel
theorem dX6_ranked_18 : decode cX6_ranked 18 = .ok (.iload 4, 2) := by decide +kernel
theorem dX6_ranked_20 : decode cX6_ranked 20 = .ok (.bipush 48, 2) := by decide +kernel
theorem dX6_ranked_22 : decode cX6_ranked 22 = .ok (.if_icmp .ge 88, 3) := by decide +kernel
theorem dX6_ranked_25 : decode cX6_ranked 25 = .ok (.aload_n 0, 1) := by decide +kernel
theorem dX6_ranked_26 : decode cX6_ranked 26 = .ok (.iload_n 2, 1) := by decide +kernel
theorem dX6_ranked_27 : decode cX6_ranked 27 = .ok (.invokevirtual 93, 3) := by decide +kernel
theorem dX6_ranked_30 : decode cX6_ranked 30 = .ok (.ifCond .eq 80, 3) := by decide +kernel
theorem dX6_ranked_33 : decode cX6_ranked 33 = .ok (.iload_n 3, 1) := by decide +kernel
theorem dX6_ranked_34 : decode cX6_ranked 34 = .ok (.aload_n 0, 1) := by decide +kernel
theorem dX6_ranked_35 : decode cX6_ranked 35 = .ok (.iload 4, 2) := by decide +kernel
theorem dX6_ranked_37 : decode cX6_ranked 37 = .ok (.invokevirtual 93, 3) := by decide +kernel
theorem dX6_ranked_40 : decode cX6_ranked 40 = .ok (.ifCond .eq 61, 3) := by decide +kernel
theorem dX6_ranked_43 : decode cX6_ranked 43 = .ok (.aload_n 0, 1) := by decide +kernel
theorem dX6_ranked_44 : decode cX6_ranked 44 = .ok (.getfield 9, 3) := by decide +kernel
theorem dX6_ranked_47 : decode cX6_ranked 47 = .ok (.sipush 1600, 3) := by decide +kernel
theorem dX6_ranked_50 : decode cX6_ranked 50 = .ok (.iload 4, 2) := by decide +kernel
theorem dX6_ranked_52 : decode cX6_ranked 52 = .ok (.iadd, 1) := by decide +kernel
theorem dX6_ranked_53 : decode cX6_ranked 53 = .ok (.iaload, 1) := by decide +kernel
theorem dX6_ranked_54 : decode cX6_ranked 54 = .ok (.aload_n 0, 1) := by decide +kernel
theorem dX6_ranked_55 : decode cX6_ranked 55 = .ok (.getfield 9, 3) := by decide +kernel
theorem dX6_ranked_58 : decode cX6_ranked 58 = .ok (.sipush 1600, 3) := by decide +kernel
theorem dX6_ranked_61 : decode cX6_ranked 61 = .ok (.iload_n 2, 1) := by decide +kernel
theorem dX6_ranked_62 : decode cX6_ranked 62 = .ok (.iadd, 1) := by decide +kernel
theorem dX6_ranked_63 : decode cX6_ranked 63 = .ok (.iaload, 1) := by decide +kernel
theorem dX6_ranked_64 : decode cX6_ranked 64 = .ok (.if_icmp .lt 33, 3) := by decide +kernel
theorem dX6_ranked_67 : decode cX6_ranked 67 = .ok (.aload_n 0, 1) := by decide +kernel
theorem dX6_ranked_68 : decode cX6_ranked 68 = .ok (.getfield 9, 3) := by decide +kernel
theorem dX6_ranked_71 : decode cX6_ranked 71 = .ok (.sipush 1600, 3) := by decide +kernel
theorem dX6_ranked_74 : decode cX6_ranked 74 = .ok (.iload 4, 2) := by decide +kernel
theorem dX6_ranked_76 : decode cX6_ranked 76 = .ok (.iadd, 1) := by decide +kernel
theorem dX6_ranked_77 : decode cX6_ranked 77 = .ok (.iaload, 1) := by decide +kernel
theorem dX6_ranked_78 : decode cX6_ranked 78 = .ok (.aload_n 0, 1) := by decide +kernel
theorem dX6_ranked_79 : decode cX6_ranked 79 = .ok (.getfield 9, 3) := by decide +kernel
theorem dX6_ranked_82 : decode cX6_ranked 82 = .ok (.sipush 1600, 3) := by decide +kernel
theorem dX6_ranked_85 : decode cX6_ranked 85 = .ok (.iload_n 2, 1) := by decide +kernel
theorem dX6_ranked_86 : decode cX6_ranked 86 = .ok (.iadd, 1) := by decide +kernel
theorem dX6_ranked_87 : decode cX6_ranked 87 = .ok (.iaload, 1) := by decide +kernel
theorem dX6_ranked_88 : decode cX6_ranked 88 = .ok (.if_icmp .ne 13, 3) := by decide +kernel
theorem dX6_ranked_91 : decode cX6_ranked 91 = .ok (.iload 4, 2) := by decide +kernel
theorem dX6_ranked_93 : decode cX6_ranked 93 = .ok (.iload_n 2, 1) := by decide +kernel
theorem dX6_ranked_94 : decode cX6_ranked 94 = .ok (.if_icmp .ge 7, 3) := by decide +kernel
theorem dX6_ranked_97 : decode cX6_ranked 97 = .ok (.iconst 1, 1) := by decide +kernel
theorem dX6_ranked_98 : decode cX6_ranked 98 = .ok (.goto 4, 3) := by decide +kernel
theorem dX6_ranked_101 : decode cX6_ranked 101 = .ok (.iconst 0, 1) := by decide +kernel
theorem dX6_ranked_102 : decode cX6_ranked 102 = .ok (.iadd, 1) := by decide +kernel
theorem dX6_ranked_103 : decode cX6_ranked 103 = .ok (.istore_n 3, 1) := by decide +kernel
theorem dX6_ranked_104 : decode cX6_ranked 104 = .ok (.iinc 4 1, 3) := by decide +kernel
theorem dX6_ranked_107 : decode cX6_ranked 107 = .ok (.goto (-89), 3) := by decide +kernel
theorem dX6_ranked_110 : decode cX6_ranked 110 = .ok (.aload_n 0, 1) := by decide +kernel
theorem dX6_ranked_111 : decode cX6_ranked 111 = .ok (.iload_n 2, 1) := by decide +kernel
theorem dX6_ranked_112 : decode cX6_ranked 112 = .ok (.invokevirtual 93, 3) := by decide +kernel
theorem dX6_ranked_115 : decode cX6_ranked 115 = .ok (.ifCond .eq 10, 3) := by decide +kernel
theorem dX6_ranked_118 : decode cX6_ranked 118 = .ok (.iload_n 3, 1) := by decide +kernel
theorem dX6_ranked_119 : decode cX6_ranked 119 = .ok (.iload_n 1, 1) := by decide +kernel
theorem dX6_ranked_120 : decode cX6_ranked 120 = .ok (.if_icmp .ne 5, 3) := by decide +kernel
theorem dX6_ranked_123 : decode cX6_ranked 123 = .ok (.iload_n 2, 1) := by decide +kernel
theorem dX6_ranked_124 : decode cX6_ranked 124 = .ok (.ireturn, 1) := by decide +kernel
theorem dX6_ranked_125 : decode cX6_ranked 125 = .ok (.iinc 2 1, 3) := by decide +kernel
theorem dX6_ranked_128 : decode cX6_ranked 128 = .ok (.goto (-121), 3) := by decide +kernel
theorem dX6_ranked_131 : decode cX6_ranked 131 = .ok (.iconst (-1), 1) := by decide +kernel
theorem dX6_ranked_132 : decode cX6_ranked 132 = .ok (.ireturn, 1) := by decide +kernel
theorem dX6_stateOf_0 : decode cX6_stateOf 0 = .ok (.bipush 25, 2) := by decide +kernel
theorem dX6_stateOf_2 : decode cX6_stateOf 2 = .ok (.iload_n 0, 1) := by decide +kernel
theorem dX6_stateOf_3 : decode cX6_stateOf 3 = .ok (.imul, 1) := by decide +kernel
theorem dX6_stateOf_4 : decode cX6_stateOf 4 = .ok (.iconst 5, 1) := by decide +kernel
theorem dX6_stateOf_5 : decode cX6_stateOf 5 = .ok (.iload_n 1, 1) := by decide +kernel
theorem dX6_stateOf_6 : decode cX6_stateOf 6 = .ok (.iconst 2, 1) := by decide +kernel
theorem dX6_stateOf_7 : decode cX6_stateOf 7 = .ok (.iadd, 1) := by decide +kernel
theorem dX6_stateOf_8 : decode cX6_stateOf 8 = .ok (.imul, 1) := by decide +kernel
theorem dX6_stateOf_9 : decode cX6_stateOf 9 = .ok (.iadd, 1) := by decide +kernel
theorem dX6_stateOf_10 : decode cX6_stateOf 10 = .ok (.iload_n 2, 1) := by decide +kernel
theorem dX6_stateOf_11 : decode cX6_stateOf 11 = .ok (.iadd, 1) := by decide +kernel
theorem dX6_stateOf_12 : decode cX6_stateOf 12 = .ok (.iconst 2, 1) := by decide +kernel
theorem dX6_stateOf_13 : decode cX6_stateOf 13 = .ok (.iadd, 1) := by decide +kernel
theorem dX6_stateOf_14 : decode cX6_stateOf 14 = .ok (.ireturn, 1) := by decide +kernel
theorem dX6_layWays_0 : decode cX6_layWays 0 = .ok (.iconst 0, 1) := by decide +kernel
theorem dX6_layWays_1 : decode cX6_layWays 1 = .ok (.istore_n 3, 1) := by decide +kernel
theorem dX6_layWays_2 : decode cX6_layWays 2 = .ok (.iload_n 3, 1) := by decide +kernel
theorem dX6_layWays_3 : decode cX6_layWays 3 = .ok (.sipush 1200, 3) := by decide +kernel
theorem dX6_layWays_6 : decode cX6_layWays 6 = .ok (.if_icmp .ge 16, 3) := by decide +kernel
theorem dX6_layWays_9 : decode cX6_layWays 9 = .ok (.aload_n 0, 1) := by decide +kernel
theorem dX6_layWays_10 : decode cX6_layWays 10 = .ok (.getfield 34, 3) := by decide +kernel
theorem dX6_layWays_13 : decode cX6_layWays 13 = .ok (.iload_n 3, 1) := by decide +kernel
theorem dX6_layWays_14 : decode cX6_layWays 14 = .ok (.iconst (-1), 1) := by decide +kernel
theorem dX6_layWays_15 : decode cX6_layWays 15 = .ok (.iastore, 1) := by decide +kernel
theorem dX6_layWays_16 : decode cX6_layWays 16 = .ok (.iinc 3 1, 3) := by decide +kernel
theorem dX6_layWays_19 : decode cX6_layWays 19 = .ok (.goto (-17), 3) := by decide +kernel
theorem dX6_layWays_22 : decode cX6_layWays 22 = .ok (.aload_n 0, 1) := by decide +kernel
theorem dX6_layWays_23 : decode cX6_layWays 23 = .ok (.getfield 34, 3) := by decide +kernel
theorem dX6_layWays_26 : decode cX6_layWays 26 = .ok (.iload_n 1, 1) := by decide +kernel
theorem dX6_layWays_27 : decode cX6_layWays 27 = .ok (.iconst 0, 1) := by decide +kernel
theorem dX6_layWays_28 : decode cX6_layWays 28 = .ok (.iconst 0, 1) := by decide +kernel
theorem dX6_layWays_29 : decode cX6_layWays 29 = .ok (.invokestatic 270, 3) := by decide +kernel
theorem dX6_layWays_32 : decode cX6_layWays 32 = .ok (.iconst 0, 1) := by decide +kernel
theorem dX6_layWays_33 : decode cX6_layWays 33 = .ok (.iastore, 1) := by decide +kernel
theorem dX6_layWays_34 : decode cX6_layWays 34 = .ok (.iconst 1, 1) := by decide +kernel
theorem dX6_layWays_35 : decode cX6_layWays 35 = .ok (.istore_n 3, 1) := by decide +kernel
theorem dX6_layWays_36 : decode cX6_layWays 36 = .ok (.iconst 0, 1) := by decide +kernel
theorem dX6_layWays_37 : decode cX6_layWays 37 = .ok (.istore 4, 2) := by decide +kernel
theorem dX6_layWays_39 : decode cX6_layWays 39 = .ok (.iload_n 3, 1) := by decide +kernel
theorem dX6_layWays_40 : decode cX6_layWays 40 = .ok (.ifCond .eq 62, 3) := by decide +kernel
theorem dX6_layWays_43 : decode cX6_layWays 43 = .ok (.iconst 0, 1) := by decide +kernel
theorem dX6_layWays_44 : decode cX6_layWays 44 = .ok (.istore_n 3, 1) := by decide +kernel
theorem dX6_layWays_45 : decode cX6_layWays 45 = .ok (.iconst 0, 1) := by decide +kernel
theorem dX6_layWays_46 : decode cX6_layWays 46 = .ok (.istore 5, 2) := by decide +kernel
theorem dX6_layWays_48 : decode cX6_layWays 48 = .ok (.iload 5, 2) := by decide +kernel
theorem dX6_layWays_50 : decode cX6_layWays 50 = .ok (.sipush 1200, 3) := by decide +kernel
theorem dX6_layWays_53 : decode cX6_layWays 53 = .ok (.if_icmp .ge 43, 3) := by decide +kernel
theorem dX6_layWays_56 : decode cX6_layWays 56 = .ok (.aload_n 0, 1) := by decide +kernel
theorem dX6_layWays_57 : decode cX6_layWays 57 = .ok (.getfield 34, 3) := by decide +kernel
theorem dX6_layWays_60 : decode cX6_layWays 60 = .ok (.iload 5, 2) := by decide +kernel
theorem dX6_layWays_62 : decode cX6_layWays 62 = .ok (.iaload, 1) := by decide +kernel
theorem dX6_layWays_63 : decode cX6_layWays 63 = .ok (.iload 4, 2) := by decide +kernel
theorem dX6_layWays_65 : decode cX6_layWays 65 = .ok (.if_icmp .ne 15, 3) := by decide +kernel
theorem dX6_layWays_68 : decode cX6_layWays 68 = .ok (.aload_n 0, 1) := by decide +kernel
theorem dX6_layWays_69 : decode cX6_layWays 69 = .ok (.iload 5, 2) := by decide +kernel
theorem dX6_layWays_71 : decode cX6_layWays 71 = .ok (.iload 4, 2) := by decide +kernel
theorem dX6_layWays_73 : decode cX6_layWays 73 = .ok (.iload_n 2, 1) := by decide +kernel
theorem dX6_layWays_74 : decode cX6_layWays 74 = .ok (.invokevirtual 273, 3) := by decide +kernel
theorem dX6_layWays_77 : decode cX6_layWays 77 = .ok (.ifCond .ne 7, 3) := by decide +kernel
theorem dX6_layWays_80 : decode cX6_layWays 80 = .ok (.iload_n 3, 1) := by decide +kernel
theorem dX6_layWays_81 : decode cX6_layWays 81 = .ok (.ifCond .eq 7, 3) := by decide +kernel
theorem dX6_layWays_84 : decode cX6_layWays 84 = .ok (.iconst 1, 1) := by decide +kernel
theorem dX6_layWays_85 : decode cX6_layWays 85 = .ok (.goto 4, 3) := by decide +kernel
theorem dX6_layWays_88 : decode cX6_layWays 88 = .ok (.iconst 0, 1) := by decide +kernel
theorem dX6_layWays_89 : decode cX6_layWays 89 = .ok (.istore_n 3, 1) := by decide +kernel
theorem dX6_layWays_90 : decode cX6_layWays 90 = .ok (.iinc 5 1, 3) := by decide +kernel
theorem dX6_layWays_93 : decode cX6_layWays 93 = .ok (.goto (-45), 3) := by decide +kernel
theorem dX6_layWays_96 : decode cX6_layWays 96 = .ok (.iinc 4 1, 3) := by decide +kernel
theorem dX6_layWays_99 : decode cX6_layWays 99 = .ok (.goto (-60), 3) := by decide +kernel
theorem dX6_layWays_102 : decode cX6_layWays 102 = .ok (.return_, 1) := by decide +kernel
theorem dX6_spread_0 : decode cX6_spread 0 = .ok (.iconst 0, 1) := by decide +kernel
theorem dX6_spread_1 : decode cX6_spread 1 = .ok (.istore 4, 2) := by decide +kernel
theorem dX6_spread_3 : decode cX6_spread 3 = .ok (.iload_n 1, 1) := by decide +kernel
theorem dX6_spread_4 : decode cX6_spread 4 = .ok (.bipush 25, 2) := by decide +kernel
theorem dX6_spread_6 : decode cX6_spread 6 = .ok (.idiv, 1) := by decide +kernel
theorem dX6_spread_7 : decode cX6_spread 7 = .ok (.istore 5, 2) := by decide +kernel
theorem dX6_spread_9 : decode cX6_spread 9 = .ok (.aload_n 0, 1) := by decide +kernel
theorem dX6_spread_10 : decode cX6_spread 10 = .ok (.iload 5, 2) := by decide +kernel
theorem dX6_spread_12 : decode cX6_spread 12 = .ok (.invokevirtual 87, 3) := by decide +kernel
theorem dX6_spread_15 : decode cX6_spread 15 = .ok (.istore 6, 2) := by decide +kernel
theorem dX6_spread_17 : decode cX6_spread 17 = .ok (.iconst 0, 1) := by decide +kernel
theorem dX6_spread_18 : decode cX6_spread 18 = .ok (.istore 7, 2) := by decide +kernel
theorem dX6_spread_20 : decode cX6_spread 20 = .ok (.iload 7, 2) := by decide +kernel
theorem dX6_spread_22 : decode cX6_spread 22 = .ok (.aload_n 0, 1) := by decide +kernel
theorem dX6_spread_23 : decode cX6_spread 23 = .ok (.iload 5, 2) := by decide +kernel
theorem dX6_spread_25 : decode cX6_spread 25 = .ok (.invokevirtual 115, 3) := by decide +kernel
theorem dX6_spread_28 : decode cX6_spread 28 = .ok (.if_icmp .ge 147, 3) := by decide +kernel
theorem dX6_spread_31 : decode cX6_spread 31 = .ok (.iload_n 1, 1) := by decide +kernel
theorem dX6_spread_32 : decode cX6_spread 32 = .ok (.iconst 5, 1) := by decide +kernel
theorem dX6_spread_33 : decode cX6_spread 33 = .ok (.idiv, 1) := by decide +kernel
theorem dX6_spread_34 : decode cX6_spread 34 = .ok (.iconst 5, 1) := by decide +kernel
theorem dX6_spread_35 : decode cX6_spread 35 = .ok (.irem, 1) := by decide +kernel
theorem dX6_spread_36 : decode cX6_spread 36 = .ok (.iconst 2, 1) := by decide +kernel
theorem dX6_spread_37 : decode cX6_spread 37 = .ok (.isub, 1) := by decide +kernel
theorem dX6_spread_38 : decode cX6_spread 38 = .ok (.aload_n 0, 1) := by decide +kernel
theorem dX6_spread_39 : decode cX6_spread 39 = .ok (.getfield 9, 3) := by decide +kernel
theorem dX6_spread_42 : decode cX6_spread 42 = .ok (.sipush 880, 3) := by decide +kernel
theorem dX6_spread_45 : decode cX6_spread 45 = .ok (.iload 6, 2) := by decide +kernel
theorem dX6_spread_47 : decode cX6_spread 47 = .ok (.iadd, 1) := by decide +kernel
theorem dX6_spread_48 : decode cX6_spread 48 = .ok (.iaload, 1) := by decide +kernel
theorem dX6_spread_49 : decode cX6_spread 49 = .ok (.iadd, 1) := by decide +kernel
theorem dX6_spread_50 : decode cX6_spread 50 = .ok (.istore 8, 2) := by decide +kernel
theorem dX6_spread_52 : decode cX6_spread 52 = .ok (.iload_n 1, 1) := by decide +kernel
theorem dX6_spread_53 : decode cX6_spread 53 = .ok (.iconst 5, 1) := by decide +kernel
theorem dX6_spread_54 : decode cX6_spread 54 = .ok (.irem, 1) := by decide +kernel
theorem dX6_spread_55 : decode cX6_spread 55 = .ok (.iconst 2, 1) := by decide +kernel
theorem dX6_spread_56 : decode cX6_spread 56 = .ok (.isub, 1) := by decide +kernel
theorem dX6_spread_57 : decode cX6_spread 57 = .ok (.aload_n 0, 1) := by decide +kernel
theorem dX6_spread_58 : decode cX6_spread 58 = .ok (.getfield 9, 3) := by decide +kernel
theorem dX6_spread_61 : decode cX6_spread 61 = .ok (.sipush 1168, 3) := by decide +kernel
theorem dX6_spread_64 : decode cX6_spread 64 = .ok (.iload 6, 2) := by decide +kernel
theorem dX6_spread_66 : decode cX6_spread 66 = .ok (.iadd, 1) := by decide +kernel
theorem dX6_spread_67 : decode cX6_spread 67 = .ok (.iaload, 1) := by decide +kernel
theorem dX6_spread_68 : decode cX6_spread 68 = .ok (.iadd, 1) := by decide +kernel
theorem dX6_spread_69 : decode cX6_spread 69 = .ok (.istore 9, 2) := by decide +kernel
theorem dX6_spread_71 : decode cX6_spread 71 = .ok (.iload 8, 2) := by decide +kernel
theorem dX6_spread_73 : decode cX6_spread 73 = .ok (.i2l, 1) := by decide +kernel
theorem dX6_spread_74 : decode cX6_spread 74 = .ok (.ldc2_w 277, 3) := by decide +kernel
theorem dX6_spread_77 : decode cX6_spread 77 = .ok (.ldc2_w 253, 3) := by decide +kernel
theorem dX6_spread_80 : decode cX6_spread 80 = .ok (.invokestatic 48, 3) := by decide +kernel
theorem dX6_spread_83 : decode cX6_spread 83 = .ok (.ifCond .eq 78, 3) := by decide +kernel
theorem dX6_spread_86 : decode cX6_spread 86 = .ok (.iload 9, 2) := by decide +kernel
theorem dX6_spread_88 : decode cX6_spread 88 = .ok (.i2l, 1) := by decide +kernel
theorem dX6_spread_89 : decode cX6_spread 89 = .ok (.ldc2_w 277, 3) := by decide +kernel
theorem dX6_spread_92 : decode cX6_spread 92 = .ok (.ldc2_w 253, 3) := by decide +kernel
theorem dX6_spread_95 : decode cX6_spread 95 = .ok (.invokestatic 48, 3) := by decide +kernel
theorem dX6_spread_98 : decode cX6_spread 98 = .ok (.ifCond .eq 63, 3) := by decide +kernel
theorem dX6_spread_101 : decode cX6_spread 101 = .ok (.aload_n 0, 1) := by decide +kernel
theorem dX6_spread_102 : decode cX6_spread 102 = .ok (.aload_n 0, 1) := by decide +kernel
theorem dX6_spread_103 : decode cX6_spread 103 = .ok (.iload 6, 2) := by decide +kernel
theorem dX6_spread_105 : decode cX6_spread 105 = .ok (.invokevirtual 105, 3) := by decide +kernel
theorem dX6_spread_108 : decode cX6_spread 108 = .ok (.invokevirtual 115, 3) := by decide +kernel
theorem dX6_spread_111 : decode cX6_spread 111 = .ok (.iload_n 3, 1) := by decide +kernel
theorem dX6_spread_112 : decode cX6_spread 112 = .ok (.if_icmp .lt 49, 3) := by decide +kernel
theorem dX6_spread_115 : decode cX6_spread 115 = .ok (.aload_n 0, 1) := by decide +kernel
theorem dX6_spread_116 : decode cX6_spread 116 = .ok (.getfield 34, 3) := by decide +kernel
theorem dX6_spread_119 : decode cX6_spread 119 = .ok (.aload_n 0, 1) := by decide +kernel
theorem dX6_spread_120 : decode cX6_spread 120 = .ok (.iload 6, 2) := by decide +kernel
theorem dX6_spread_122 : decode cX6_spread 122 = .ok (.invokevirtual 105, 3) := by decide +kernel
theorem dX6_spread_125 : decode cX6_spread 125 = .ok (.iload 8, 2) := by decide +kernel
theorem dX6_spread_127 : decode cX6_spread 127 = .ok (.iload 9, 2) := by decide +kernel
theorem dX6_spread_129 : decode cX6_spread 129 = .ok (.invokestatic 270, 3) := by decide +kernel
theorem dX6_spread_132 : decode cX6_spread 132 = .ok (.iaload, 1) := by decide +kernel
theorem dX6_spread_133 : decode cX6_spread 133 = .ok (.iconst (-1), 1) := by decide +kernel
theorem dX6_spread_134 : decode cX6_spread 134 = .ok (.if_icmp .ne 27, 3) := by decide +kernel
theorem dX6_spread_137 : decode cX6_spread 137 = .ok (.aload_n 0, 1) := by decide +kernel
theorem dX6_spread_138 : decode cX6_spread 138 = .ok (.getfield 34, 3) := by decide +kernel
theorem dX6_spread_141 : decode cX6_spread 141 = .ok (.aload_n 0, 1) := by decide +kernel
theorem dX6_spread_142 : decode cX6_spread 142 = .ok (.iload 6, 2) := by decide +kernel
theorem dX6_spread_144 : decode cX6_spread 144 = .ok (.invokevirtual 105, 3) := by decide +kernel
theorem dX6_spread_147 : decode cX6_spread 147 = .ok (.iload 8, 2) := by decide +kernel
theorem dX6_spread_149 : decode cX6_spread 149 = .ok (.iload 9, 2) := by decide +kernel
theorem dX6_spread_151 : decode cX6_spread 151 = .ok (.invokestatic 270, 3) := by decide +kernel
theorem dX6_spread_154 : decode cX6_spread 154 = .ok (.iload_n 2, 1) := by decide +kernel
theorem dX6_spread_155 : decode cX6_spread 155 = .ok (.iconst 1, 1) := by decide +kernel
theorem dX6_spread_156 : decode cX6_spread 156 = .ok (.iadd, 1) := by decide +kernel
theorem dX6_spread_157 : decode cX6_spread 157 = .ok (.iastore, 1) := by decide +kernel
theorem dX6_spread_158 : decode cX6_spread 158 = .ok (.iconst 1, 1) := by decide +kernel
theorem dX6_spread_159 : decode cX6_spread 159 = .ok (.istore 4, 2) := by decide +kernel
theorem dX6_spread_161 : decode cX6_spread 161 = .ok (.aload_n 0, 1) := by decide +kernel
theorem dX6_spread_162 : decode cX6_spread 162 = .ok (.iload 6, 2) := by decide +kernel
theorem dX6_spread_164 : decode cX6_spread 164 = .ok (.invokevirtual 90, 3) := by decide +kernel
theorem dX6_spread_167 : decode cX6_spread 167 = .ok (.istore 6, 2) := by decide +kernel
theorem dX6_spread_169 : decode cX6_spread 169 = .ok (.iinc 7 1, 3) := by decide +kernel
theorem dX6_spread_172 : decode cX6_spread 172 = .ok (.goto (-152), 3) := by decide +kernel
theorem dX6_spread_175 : decode cX6_spread 175 = .ok (.iload 4, 2) := by decide +kernel
theorem dX6_spread_177 : decode cX6_spread 177 = .ok (.ireturn, 1) := by decide +kernel
theorem dX6_around_0 : decode cX6_around 0 = .ok (.aload_n 0, 1) := by decide +kernel
theorem dX6_around_1 : decode cX6_around 1 = .ok (.iconst 0, 1) := by decide +kernel
theorem dX6_around_2 : decode cX6_around 2 = .ok (.putfield 44, 3) := by decide +kernel
theorem dX6_around_5 : decode cX6_around 5 = .ok (.aload_n 0, 1) := by decide +kernel
theorem dX6_around_6 : decode cX6_around 6 = .ok (.iload_n 1, 1) := by decide +kernel
theorem dX6_around_7 : decode cX6_around 7 = .ok (.invokevirtual 93, 3) := by decide +kernel
theorem dX6_around_10 : decode cX6_around 10 = .ok (.ifCond .eq 27, 3) := by decide +kernel
theorem dX6_around_13 : decode cX6_around 13 = .ok (.iload_n 2, 1) := by decide +kernel
theorem dX6_around_14 : decode cX6_around 14 = .ok (.i2l, 1) := by decide +kernel
theorem dX6_around_15 : decode cX6_around 15 = .ok (.ldc2_w 279, 3) := by decide +kernel
theorem dX6_around_18 : decode cX6_around 18 = .ok (.lconst 1, 1) := by decide +kernel
theorem dX6_around_19 : decode cX6_around 19 = .ok (.invokestatic 48, 3) := by decide +kernel
theorem dX6_around_22 : decode cX6_around 22 = .ok (.ifCond .eq 15, 3) := by decide +kernel
theorem dX6_around_25 : decode cX6_around 25 = .ok (.iload_n 3, 1) := by decide +kernel
theorem dX6_around_26 : decode cX6_around 26 = .ok (.i2l, 1) := by decide +kernel
theorem dX6_around_27 : decode cX6_around 27 = .ok (.ldc2_w 279, 3) := by decide +kernel
theorem dX6_around_30 : decode cX6_around 30 = .ok (.lconst 1, 1) := by decide +kernel
theorem dX6_around_31 : decode cX6_around 31 = .ok (.invokestatic 48, 3) := by decide +kernel
theorem dX6_around_34 : decode cX6_around 34 = .ok (.ifCond .ne 5, 3) := by decide +kernel
theorem dX6_around_37 : decode cX6_around 37 = .ok (.iconst (-1), 1) := by decide +kernel
theorem dX6_around_38 : decode cX6_around 38 = .ok (.ireturn, 1) := by decide +kernel
theorem dX6_around_39 : decode cX6_around 39 = .ok (.aload_n 0, 1) := by decide +kernel
theorem dX6_around_40 : decode cX6_around 40 = .ok (.iload_n 1, 1) := by decide +kernel
theorem dX6_around_41 : decode cX6_around 41 = .ok (.iconst 0, 1) := by decide +kernel
theorem dX6_around_42 : decode cX6_around 42 = .ok (.invokevirtual 281, 3) := by decide +kernel
theorem dX6_around_45 : decode cX6_around 45 = .ok (.aload_n 0, 1) := by decide +kernel
theorem dX6_around_46 : decode cX6_around 46 = .ok (.getfield 34, 3) := by decide +kernel
theorem dX6_around_49 : decode cX6_around 49 = .ok (.iload_n 1, 1) := by decide +kernel
theorem dX6_around_50 : decode cX6_around 50 = .ok (.iload_n 2, 1) := by decide +kernel
theorem dX6_around_51 : decode cX6_around 51 = .ok (.iload_n 3, 1) := by decide +kernel
theorem dX6_around_52 : decode cX6_around 52 = .ok (.invokestatic 270, 3) := by decide +kernel
theorem dX6_around_55 : decode cX6_around 55 = .ok (.iaload, 1) := by decide +kernel
theorem dX6_around_56 : decode cX6_around 56 = .ok (.ireturn, 1) := by decide +kernel
theorem dX6_rounds_0 : decode cX6_rounds 0 = .ok (.aload_n 0, 1) := by decide +kernel
theorem dX6_rounds_1 : decode cX6_rounds 1 = .ok (.iconst 0, 1) := by decide +kernel
theorem dX6_rounds_2 : decode cX6_rounds 2 = .ok (.putfield 44, 3) := by decide +kernel
theorem dX6_rounds_5 : decode cX6_rounds 5 = .ok (.aload_n 0, 1) := by decide +kernel
theorem dX6_rounds_6 : decode cX6_rounds 6 = .ok (.iload_n 1, 1) := by decide +kernel
theorem dX6_rounds_7 : decode cX6_rounds 7 = .ok (.invokevirtual 80, 3) := by decide +kernel
theorem dX6_rounds_10 : decode cX6_rounds 10 = .ok (.ifCond .eq 13, 3) := by decide +kernel
theorem dX6_rounds_13 : decode cX6_rounds 13 = .ok (.iload_n 2, 1) := by decide +kernel
theorem dX6_rounds_14 : decode cX6_rounds 14 = .ok (.i2l, 1) := by decide +kernel
theorem dX6_rounds_15 : decode cX6_rounds 15 = .ok (.lconst 0, 1) := by decide +kernel
theorem dX6_rounds_16 : decode cX6_rounds 16 = .ok (.lconst 1, 1) := by decide +kernel
theorem dX6_rounds_17 : decode cX6_rounds 17 = .ok (.invokestatic 48, 3) := by decide +kernel
theorem dX6_rounds_20 : decode cX6_rounds 20 = .ok (.ifCond .ne 6, 3) := by decide +kernel
theorem dX6_rounds_23 : decode cX6_rounds 23 = .ok (.ldc 252, 2) := by decide +kernel
theorem dX6_rounds_25 : decode cX6_rounds 25 = .ok (.ireturn, 1) := by decide +kernel
theorem dX6_rounds_26 : decode cX6_rounds 26 = .ok (.aload_n 0, 1) := by decide +kernel
theorem dX6_rounds_27 : decode cX6_rounds 27 = .ok (.iconst 2, 1) := by decide +kernel
theorem dX6_rounds_28 : decode cX6_rounds 28 = .ok (.iload_n 1, 1) := by decide +kernel
theorem dX6_rounds_29 : decode cX6_rounds 29 = .ok (.imul, 1) := by decide +kernel
theorem dX6_rounds_30 : decode cX6_rounds 30 = .ok (.invokevirtual 84, 3) := by decide +kernel
theorem dX6_rounds_33 : decode cX6_rounds 33 = .ok (.aload_n 0, 1) := by decide +kernel
theorem dX6_rounds_34 : decode cX6_rounds 34 = .ok (.iconst 2, 1) := by decide +kernel
theorem dX6_rounds_35 : decode cX6_rounds 35 = .ok (.iload_n 1, 1) := by decide +kernel
theorem dX6_rounds_36 : decode cX6_rounds 36 = .ok (.imul, 1) := by decide +kernel
theorem dX6_rounds_37 : decode cX6_rounds 37 = .ok (.invokevirtual 105, 3) := by decide +kernel
theorem dX6_rounds_40 : decode cX6_rounds 40 = .ok (.if_icmp .ge 9, 3) := by decide +kernel
theorem dX6_rounds_43 : decode cX6_rounds 43 = .ok (.iconst 2, 1) := by decide +kernel
theorem dX6_rounds_44 : decode cX6_rounds 44 = .ok (.iload_n 1, 1) := by decide +kernel
theorem dX6_rounds_45 : decode cX6_rounds 45 = .ok (.imul, 1) := by decide +kernel
theorem dX6_rounds_46 : decode cX6_rounds 46 = .ok (.goto 8, 3) := by decide +kernel
theorem dX6_rounds_49 : decode cX6_rounds 49 = .ok (.iconst 2, 1) := by decide +kernel
theorem dX6_rounds_50 : decode cX6_rounds 50 = .ok (.iload_n 1, 1) := by decide +kernel
theorem dX6_rounds_51 : decode cX6_rounds 51 = .ok (.imul, 1) := by decide +kernel
theorem dX6_rounds_52 : decode cX6_rounds 52 = .ok (.iconst 1, 1) := by decide +kernel
theorem dX6_rounds_53 : decode cX6_rounds 53 = .ok (.iadd, 1) := by decide +kernel
theorem dX6_rounds_54 : decode cX6_rounds 54 = .ok (.istore_n 3, 1) := by decide +kernel
theorem dX6_rounds_55 : decode cX6_rounds 55 = .ok (.aload_n 0, 1) := by decide +kernel
theorem dX6_rounds_56 : decode cX6_rounds 56 = .ok (.getfield 9, 3) := by decide +kernel
theorem dX6_rounds_59 : decode cX6_rounds 59 = .ok (.iload_n 2, 1) := by decide +kernel
theorem dX6_rounds_60 : decode cX6_rounds 60 = .ok (.ifCond .ne 9, 3) := by decide +kernel
theorem dX6_rounds_63 : decode cX6_rounds 63 = .ok (.sipush 880, 3) := by decide +kernel
theorem dX6_rounds_66 : decode cX6_rounds 66 = .ok (.goto 6, 3) := by decide +kernel
theorem dX6_rounds_69 : decode cX6_rounds 69 = .ok (.sipush 1168, 3) := by decide +kernel
theorem dX6_rounds_72 : decode cX6_rounds 72 = .ok (.iload_n 3, 1) := by decide +kernel
theorem dX6_rounds_73 : decode cX6_rounds 73 = .ok (.iadd, 1) := by decide +kernel
theorem dX6_rounds_74 : decode cX6_rounds 74 = .ok (.iaload, 1) := by decide +kernel
theorem dX6_rounds_75 : decode cX6_rounds 75 = .ok (.ireturn, 1) := by decide +kernel
theorem dX6_spans_0 : decode cX6_spans 0 = .ok (.aload_n 0, 1) := by decide +kernel
theorem dX6_spans_1 : decode cX6_spans 1 = .ok (.iconst 0, 1) := by decide +kernel
theorem dX6_spans_2 : decode cX6_spans 2 = .ok (.putfield 44, 3) := by decide +kernel
theorem dX6_spans_5 : decode cX6_spans 5 = .ok (.aload_n 0, 1) := by decide +kernel
theorem dX6_spans_6 : decode cX6_spans 6 = .ok (.iload_n 1, 1) := by decide +kernel
theorem dX6_spans_7 : decode cX6_spans 7 = .ok (.invokevirtual 93, 3) := by decide +kernel
theorem dX6_spans_10 : decode cX6_spans 10 = .ok (.ifCond .eq 13, 3) := by decide +kernel
theorem dX6_spans_13 : decode cX6_spans 13 = .ok (.iload_n 3, 1) := by decide +kernel
theorem dX6_spans_14 : decode cX6_spans 14 = .ok (.i2l, 1) := by decide +kernel
theorem dX6_spans_15 : decode cX6_spans 15 = .ok (.lconst 0, 1) := by decide +kernel
theorem dX6_spans_16 : decode cX6_spans 16 = .ok (.lconst 1, 1) := by decide +kernel
theorem dX6_spans_17 : decode cX6_spans 17 = .ok (.invokestatic 48, 3) := by decide +kernel
theorem dX6_spans_20 : decode cX6_spans 20 = .ok (.ifCond .ne 5, 3) := by decide +kernel
theorem dX6_spans_23 : decode cX6_spans 23 = .ok (.iconst (-1), 1) := by decide +kernel
theorem dX6_spans_24 : decode cX6_spans 24 = .ok (.ireturn, 1) := by decide +kernel
theorem dX6_spans_25 : decode cX6_spans 25 = .ok (.aload_n 0, 1) := by decide +kernel
theorem dX6_spans_26 : decode cX6_spans 26 = .ok (.iload_n 1, 1) := by decide +kernel
theorem dX6_spans_27 : decode cX6_spans 27 = .ok (.invokevirtual 115, 3) := by decide +kernel
theorem dX6_spans_30 : decode cX6_spans 30 = .ok (.iload_n 2, 1) := by decide +kernel
theorem dX6_spans_31 : decode cX6_spans 31 = .ok (.if_icmp .ge 5, 3) := by decide +kernel
theorem dX6_spans_34 : decode cX6_spans 34 = .ok (.iconst 0, 1) := by decide +kernel
theorem dX6_spans_35 : decode cX6_spans 35 = .ok (.ireturn, 1) := by decide +kernel
theorem dX6_spans_36 : decode cX6_spans 36 = .ok (.aload_n 0, 1) := by decide +kernel
theorem dX6_spans_37 : decode cX6_spans 37 = .ok (.iload_n 1, 1) := by decide +kernel
theorem dX6_spans_38 : decode cX6_spans 38 = .ok (.iload_n 2, 1) := by decide +kernel
theorem dX6_spans_39 : decode cX6_spans 39 = .ok (.invokevirtual 281, 3) := by decide +kernel
theorem dX6_spans_42 : decode cX6_spans 42 = .ok (.iconst 0, 1) := by decide +kernel
theorem dX6_spans_43 : decode cX6_spans 43 = .ok (.istore 4, 2) := by decide +kernel
theorem dX6_spans_45 : decode cX6_spans 45 = .ok (.bipush (-2), 2) := by decide +kernel
theorem dX6_spans_47 : decode cX6_spans 47 = .ok (.istore 5, 2) := by decide +kernel
theorem dX6_spans_49 : decode cX6_spans 49 = .ok (.iload 5, 2) := by decide +kernel
theorem dX6_spans_51 : decode cX6_spans 51 = .ok (.iconst 2, 1) := by decide +kernel
theorem dX6_spans_52 : decode cX6_spans 52 = .ok (.if_icmp .gt 47, 3) := by decide +kernel
theorem dX6_spans_55 : decode cX6_spans 55 = .ok (.aload_n 0, 1) := by decide +kernel
theorem dX6_spans_56 : decode cX6_spans 56 = .ok (.getfield 34, 3) := by decide +kernel
theorem dX6_spans_59 : decode cX6_spans 59 = .ok (.iload_n 3, 1) := by decide +kernel
theorem dX6_spans_60 : decode cX6_spans 60 = .ok (.ifCond .ne 13, 3) := by decide +kernel
theorem dX6_spans_63 : decode cX6_spans 63 = .ok (.iload_n 1, 1) := by decide +kernel
theorem dX6_spans_64 : decode cX6_spans 64 = .ok (.iconst 1, 1) := by decide +kernel
theorem dX6_spans_65 : decode cX6_spans 65 = .ok (.iload 5, 2) := by decide +kernel
theorem dX6_spans_67 : decode cX6_spans 67 = .ok (.invokestatic 270, 3) := by decide +kernel
theorem dX6_spans_70 : decode cX6_spans 70 = .ok (.goto 10, 3) := by decide +kernel
theorem dX6_spans_73 : decode cX6_spans 73 = .ok (.iload_n 1, 1) := by decide +kernel
theorem dX6_spans_74 : decode cX6_spans 74 = .ok (.iload 5, 2) := by decide +kernel
theorem dX6_spans_76 : decode cX6_spans 76 = .ok (.iconst 1, 1) := by decide +kernel
theorem dX6_spans_77 : decode cX6_spans 77 = .ok (.invokestatic 270, 3) := by decide +kernel
theorem dX6_spans_80 : decode cX6_spans 80 = .ok (.iaload, 1) := by decide +kernel
theorem dX6_spans_81 : decode cX6_spans 81 = .ok (.iconst (-1), 1) := by decide +kernel
theorem dX6_spans_82 : decode cX6_spans 82 = .ok (.if_icmp .eq 7, 3) := by decide +kernel
theorem dX6_spans_85 : decode cX6_spans 85 = .ok (.iconst 1, 1) := by decide +kernel
theorem dX6_spans_86 : decode cX6_spans 86 = .ok (.goto 5, 3) := by decide +kernel
theorem dX6_spans_89 : decode cX6_spans 89 = .ok (.iload 4, 2) := by decide +kernel
theorem dX6_spans_91 : decode cX6_spans 91 = .ok (.istore 4, 2) := by decide +kernel
theorem dX6_spans_93 : decode cX6_spans 93 = .ok (.iinc 5 1, 3) := by decide +kernel
theorem dX6_spans_96 : decode cX6_spans 96 = .ok (.goto (-47), 3) := by decide +kernel
theorem dX6_spans_99 : decode cX6_spans 99 = .ok (.iload 4, 2) := by decide +kernel
theorem dX6_spans_101 : decode cX6_spans 101 = .ok (.ireturn, 1) := by decide +kernel
theorem dX6_layPieces_0 : decode cX6_layPieces 0 = .ok (.iconst 0, 1) := by decide +kernel
theorem dX6_layPieces_1 : decode cX6_layPieces 1 = .ok (.istore_n 2, 1) := by decide +kernel
theorem dX6_layPieces_2 : decode cX6_layPieces 2 = .ok (.iload_n 2, 1) := by decide +kernel
theorem dX6_layPieces_3 : decode cX6_layPieces 3 = .ok (.bipush 48, 2) := by decide +kernel
theorem dX6_layPieces_5 : decode cX6_layPieces 5 = .ok (.if_icmp .ge 37, 3) := by decide +kernel
theorem dX6_layPieces_8 : decode cX6_layPieces 8 = .ok (.aload_n 0, 1) := by decide +kernel
theorem dX6_layPieces_9 : decode cX6_layPieces 9 = .ok (.getfield 37, 3) := by decide +kernel
theorem dX6_layPieces_12 : decode cX6_layPieces 12 = .ok (.iload_n 2, 1) := by decide +kernel
theorem dX6_layPieces_13 : decode cX6_layPieces 13 = .ok (.aload_n 0, 1) := by decide +kernel
theorem dX6_layPieces_14 : decode cX6_layPieces 14 = .ok (.iload_n 2, 1) := by decide +kernel
theorem dX6_layPieces_15 : decode cX6_layPieces 15 = .ok (.invokevirtual 93, 3) := by decide +kernel
theorem dX6_layPieces_18 : decode cX6_layPieces 18 = .ok (.ifCond .eq 16, 3) := by decide +kernel
theorem dX6_layPieces_21 : decode cX6_layPieces 21 = .ok (.aload_n 0, 1) := by decide +kernel
theorem dX6_layPieces_22 : decode cX6_layPieces 22 = .ok (.iload_n 2, 1) := by decide +kernel
theorem dX6_layPieces_23 : decode cX6_layPieces 23 = .ok (.invokevirtual 115, 3) := by decide +kernel
theorem dX6_layPieces_26 : decode cX6_layPieces 26 = .ok (.iload_n 1, 1) := by decide +kernel
theorem dX6_layPieces_27 : decode cX6_layPieces 27 = .ok (.if_icmp .lt 7, 3) := by decide +kernel
theorem dX6_layPieces_30 : decode cX6_layPieces 30 = .ok (.iload_n 2, 1) := by decide +kernel
theorem dX6_layPieces_31 : decode cX6_layPieces 31 = .ok (.goto 4, 3) := by decide +kernel
theorem dX6_layPieces_34 : decode cX6_layPieces 34 = .ok (.iconst (-1), 1) := by decide +kernel
theorem dX6_layPieces_35 : decode cX6_layPieces 35 = .ok (.iastore, 1) := by decide +kernel
theorem dX6_layPieces_36 : decode cX6_layPieces 36 = .ok (.iinc 2 1, 3) := by decide +kernel
theorem dX6_layPieces_39 : decode cX6_layPieces 39 = .ok (.goto (-37), 3) := by decide +kernel
theorem dX6_layPieces_42 : decode cX6_layPieces 42 = .ok (.iconst 1, 1) := by decide +kernel
theorem dX6_layPieces_43 : decode cX6_layPieces 43 = .ok (.istore_n 2, 1) := by decide +kernel
theorem dX6_layPieces_44 : decode cX6_layPieces 44 = .ok (.iload_n 2, 1) := by decide +kernel
theorem dX6_layPieces_45 : decode cX6_layPieces 45 = .ok (.ifCond .eq 92, 3) := by decide +kernel
theorem dX6_layPieces_48 : decode cX6_layPieces 48 = .ok (.iconst 0, 1) := by decide +kernel
theorem dX6_layPieces_49 : decode cX6_layPieces 49 = .ok (.istore_n 2, 1) := by decide +kernel
theorem dX6_layPieces_50 : decode cX6_layPieces 50 = .ok (.iconst 0, 1) := by decide +kernel
theorem dX6_layPieces_51 : decode cX6_layPieces 51 = .ok (.istore_n 3, 1) := by decide +kernel
theorem dX6_layPieces_52 : decode cX6_layPieces 52 = .ok (.iload_n 3, 1) := by decide +kernel
theorem dX6_layPieces_53 : decode cX6_layPieces 53 = .ok (.sipush 288, 3) := by decide +kernel
theorem dX6_layPieces_56 : decode cX6_layPieces 56 = .ok (.if_icmp .ge 78, 3) := by decide +kernel
theorem dX6_layPieces_59 : decode cX6_layPieces 59 = .ok (.aload_n 0, 1) := by decide +kernel
theorem dX6_layPieces_60 : decode cX6_layPieces 60 = .ok (.iload_n 3, 1) := by decide +kernel
theorem dX6_layPieces_61 : decode cX6_layPieces 61 = .ok (.iconst 2, 1) := by decide +kernel
theorem dX6_layPieces_62 : decode cX6_layPieces 62 = .ok (.idiv, 1) := by decide +kernel
theorem dX6_layPieces_63 : decode cX6_layPieces 63 = .ok (.invokevirtual 80, 3) := by decide +kernel
theorem dX6_layPieces_66 : decode cX6_layPieces 66 = .ok (.ifCond .eq 62, 3) := by decide +kernel
theorem dX6_layPieces_69 : decode cX6_layPieces 69 = .ok (.aload_n 0, 1) := by decide +kernel
theorem dX6_layPieces_70 : decode cX6_layPieces 70 = .ok (.getfield 37, 3) := by decide +kernel
theorem dX6_layPieces_73 : decode cX6_layPieces 73 = .ok (.aload_n 0, 1) := by decide +kernel
theorem dX6_layPieces_74 : decode cX6_layPieces 74 = .ok (.iload_n 3, 1) := by decide +kernel
theorem dX6_layPieces_75 : decode cX6_layPieces 75 = .ok (.invokevirtual 84, 3) := by decide +kernel
theorem dX6_layPieces_78 : decode cX6_layPieces 78 = .ok (.iaload, 1) := by decide +kernel
theorem dX6_layPieces_79 : decode cX6_layPieces 79 = .ok (.iconst (-1), 1) := by decide +kernel
theorem dX6_layPieces_80 : decode cX6_layPieces 80 = .ok (.if_icmp .eq 48, 3) := by decide +kernel
theorem dX6_layPieces_83 : decode cX6_layPieces 83 = .ok (.aload_n 0, 1) := by decide +kernel
theorem dX6_layPieces_84 : decode cX6_layPieces 84 = .ok (.getfield 37, 3) := by decide +kernel
theorem dX6_layPieces_87 : decode cX6_layPieces 87 = .ok (.aload_n 0, 1) := by decide +kernel
theorem dX6_layPieces_88 : decode cX6_layPieces 88 = .ok (.iload_n 3, 1) := by decide +kernel
theorem dX6_layPieces_89 : decode cX6_layPieces 89 = .ok (.invokevirtual 105, 3) := by decide +kernel
theorem dX6_layPieces_92 : decode cX6_layPieces 92 = .ok (.iaload, 1) := by decide +kernel
theorem dX6_layPieces_93 : decode cX6_layPieces 93 = .ok (.aload_n 0, 1) := by decide +kernel
theorem dX6_layPieces_94 : decode cX6_layPieces 94 = .ok (.getfield 37, 3) := by decide +kernel
theorem dX6_layPieces_97 : decode cX6_layPieces 97 = .ok (.aload_n 0, 1) := by decide +kernel
theorem dX6_layPieces_98 : decode cX6_layPieces 98 = .ok (.iload_n 3, 1) := by decide +kernel
theorem dX6_layPieces_99 : decode cX6_layPieces 99 = .ok (.invokevirtual 84, 3) := by decide +kernel
theorem dX6_layPieces_102 : decode cX6_layPieces 102 = .ok (.iaload, 1) := by decide +kernel
theorem dX6_layPieces_103 : decode cX6_layPieces 103 = .ok (.if_icmp .le 25, 3) := by decide +kernel
theorem dX6_layPieces_106 : decode cX6_layPieces 106 = .ok (.aload_n 0, 1) := by decide +kernel
theorem dX6_layPieces_107 : decode cX6_layPieces 107 = .ok (.getfield 37, 3) := by decide +kernel
theorem dX6_layPieces_110 : decode cX6_layPieces 110 = .ok (.aload_n 0, 1) := by decide +kernel
theorem dX6_layPieces_111 : decode cX6_layPieces 111 = .ok (.iload_n 3, 1) := by decide +kernel
theorem dX6_layPieces_112 : decode cX6_layPieces 112 = .ok (.invokevirtual 105, 3) := by decide +kernel
theorem dX6_layPieces_115 : decode cX6_layPieces 115 = .ok (.aload_n 0, 1) := by decide +kernel
theorem dX6_layPieces_116 : decode cX6_layPieces 116 = .ok (.getfield 37, 3) := by decide +kernel
theorem dX6_layPieces_119 : decode cX6_layPieces 119 = .ok (.aload_n 0, 1) := by decide +kernel
theorem dX6_layPieces_120 : decode cX6_layPieces 120 = .ok (.iload_n 3, 1) := by decide +kernel
theorem dX6_layPieces_121 : decode cX6_layPieces 121 = .ok (.invokevirtual 84, 3) := by decide +kernel
theorem dX6_layPieces_124 : decode cX6_layPieces 124 = .ok (.iaload, 1) := by decide +kernel
theorem dX6_layPieces_125 : decode cX6_layPieces 125 = .ok (.iastore, 1) := by decide +kernel
theorem dX6_layPieces_126 : decode cX6_layPieces 126 = .ok (.iconst 1, 1) := by decide +kernel
theorem dX6_layPieces_127 : decode cX6_layPieces 127 = .ok (.istore_n 2, 1) := by decide +kernel
theorem dX6_layPieces_128 : decode cX6_layPieces 128 = .ok (.iinc 3 1, 3) := by decide +kernel
theorem dX6_layPieces_131 : decode cX6_layPieces 131 = .ok (.goto (-79), 3) := by decide +kernel
theorem dX6_layPieces_134 : decode cX6_layPieces 134 = .ok (.goto (-90), 3) := by decide +kernel
theorem dX6_layPieces_137 : decode cX6_layPieces 137 = .ok (.return_, 1) := by decide +kernel
theorem dX6_pieces_0 : decode cX6_pieces 0 = .ok (.aload_n 0, 1) := by decide +kernel
theorem dX6_pieces_1 : decode cX6_pieces 1 = .ok (.iconst 0, 1) := by decide +kernel
theorem dX6_pieces_2 : decode cX6_pieces 2 = .ok (.putfield 44, 3) := by decide +kernel
theorem dX6_pieces_5 : decode cX6_pieces 5 = .ok (.iload_n 1, 1) := by decide +kernel
theorem dX6_pieces_6 : decode cX6_pieces 6 = .ok (.ifCond .lt 15, 3) := by decide +kernel
theorem dX6_pieces_9 : decode cX6_pieces 9 = .ok (.iload_n 2, 1) := by decide +kernel
theorem dX6_pieces_10 : decode cX6_pieces 10 = .ok (.i2l, 1) := by decide +kernel
theorem dX6_pieces_11 : decode cX6_pieces 11 = .ok (.lconst 0, 1) := by decide +kernel
theorem dX6_pieces_12 : decode cX6_pieces 12 = .ok (.ldc2_w 253, 3) := by decide +kernel
theorem dX6_pieces_15 : decode cX6_pieces 15 = .ok (.invokestatic 48, 3) := by decide +kernel
theorem dX6_pieces_18 : decode cX6_pieces 18 = .ok (.ifCond .ne 5, 3) := by decide +kernel
theorem dX6_pieces_21 : decode cX6_pieces 21 = .ok (.iconst (-1), 1) := by decide +kernel
theorem dX6_pieces_22 : decode cX6_pieces 22 = .ok (.ireturn, 1) := by decide +kernel
theorem dX6_pieces_23 : decode cX6_pieces 23 = .ok (.aload_n 0, 1) := by decide +kernel
theorem dX6_pieces_24 : decode cX6_pieces 24 = .ok (.iload_n 1, 1) := by decide +kernel
theorem dX6_pieces_25 : decode cX6_pieces 25 = .ok (.invokevirtual 284, 3) := by decide +kernel
theorem dX6_pieces_28 : decode cX6_pieces 28 = .ok (.iconst 0, 1) := by decide +kernel
theorem dX6_pieces_29 : decode cX6_pieces 29 = .ok (.istore_n 3, 1) := by decide +kernel
theorem dX6_pieces_30 : decode cX6_pieces 30 = .ok (.iconst 0, 1) := by decide +kernel
theorem dX6_pieces_31 : decode cX6_pieces 31 = .ok (.istore 4, 2) := by decide +kernel
theorem dX6_pieces_33 : decode cX6_pieces 33 = .ok (.iconst (-1), 1) := by decide +kernel
theorem dX6_pieces_34 : decode cX6_pieces 34 = .ok (.istore 5, 2) := by decide +kernel
theorem dX6_pieces_36 : decode cX6_pieces 36 = .ok (.iconst 0, 1) := by decide +kernel
theorem dX6_pieces_37 : decode cX6_pieces 37 = .ok (.istore 6, 2) := by decide +kernel
theorem dX6_pieces_39 : decode cX6_pieces 39 = .ok (.iload 6, 2) := by decide +kernel
theorem dX6_pieces_41 : decode cX6_pieces 41 = .ok (.bipush 48, 2) := by decide +kernel
theorem dX6_pieces_43 : decode cX6_pieces 43 = .ok (.if_icmp .ge 88, 3) := by decide +kernel
theorem dX6_pieces_46 : decode cX6_pieces 46 = .ok (.iconst 0, 1) := by decide +kernel
theorem dX6_pieces_47 : decode cX6_pieces 47 = .ok (.istore 7, 2) := by decide +kernel
theorem dX6_pieces_49 : decode cX6_pieces 49 = .ok (.iconst 0, 1) := by decide +kernel
theorem dX6_pieces_50 : decode cX6_pieces 50 = .ok (.istore 8, 2) := by decide +kernel
theorem dX6_pieces_52 : decode cX6_pieces 52 = .ok (.iload 8, 2) := by decide +kernel
theorem dX6_pieces_54 : decode cX6_pieces 54 = .ok (.bipush 48, 2) := by decide +kernel
theorem dX6_pieces_56 : decode cX6_pieces 56 = .ok (.if_icmp .ge 31, 3) := by decide +kernel
theorem dX6_pieces_59 : decode cX6_pieces 59 = .ok (.iload 7, 2) := by decide +kernel
theorem dX6_pieces_61 : decode cX6_pieces 61 = .ok (.aload_n 0, 1) := by decide +kernel
theorem dX6_pieces_62 : decode cX6_pieces 62 = .ok (.getfield 37, 3) := by decide +kernel
theorem dX6_pieces_65 : decode cX6_pieces 65 = .ok (.iload 8, 2) := by decide +kernel
theorem dX6_pieces_67 : decode cX6_pieces 67 = .ok (.iaload, 1) := by decide +kernel
theorem dX6_pieces_68 : decode cX6_pieces 68 = .ok (.iload 6, 2) := by decide +kernel
theorem dX6_pieces_70 : decode cX6_pieces 70 = .ok (.if_icmp .ne 7, 3) := by decide +kernel
theorem dX6_pieces_73 : decode cX6_pieces 73 = .ok (.iconst 1, 1) := by decide +kernel
theorem dX6_pieces_74 : decode cX6_pieces 74 = .ok (.goto 4, 3) := by decide +kernel
theorem dX6_pieces_77 : decode cX6_pieces 77 = .ok (.iconst 0, 1) := by decide +kernel
theorem dX6_pieces_78 : decode cX6_pieces 78 = .ok (.iadd, 1) := by decide +kernel
theorem dX6_pieces_79 : decode cX6_pieces 79 = .ok (.istore 7, 2) := by decide +kernel
theorem dX6_pieces_81 : decode cX6_pieces 81 = .ok (.iinc 8 1, 3) := by decide +kernel
theorem dX6_pieces_84 : decode cX6_pieces 84 = .ok (.goto (-32), 3) := by decide +kernel
theorem dX6_pieces_87 : decode cX6_pieces 87 = .ok (.iload_n 3, 1) := by decide +kernel
theorem dX6_pieces_88 : decode cX6_pieces 88 = .ok (.iload 7, 2) := by decide +kernel
theorem dX6_pieces_90 : decode cX6_pieces 90 = .ok (.ifCond .le 7, 3) := by decide +kernel
theorem dX6_pieces_93 : decode cX6_pieces 93 = .ok (.iconst 1, 1) := by decide +kernel
theorem dX6_pieces_94 : decode cX6_pieces 94 = .ok (.goto 4, 3) := by decide +kernel
theorem dX6_pieces_97 : decode cX6_pieces 97 = .ok (.iconst 0, 1) := by decide +kernel
theorem dX6_pieces_98 : decode cX6_pieces 98 = .ok (.iadd, 1) := by decide +kernel
theorem dX6_pieces_99 : decode cX6_pieces 99 = .ok (.istore_n 3, 1) := by decide +kernel
theorem dX6_pieces_100 : decode cX6_pieces 100 = .ok (.iload 7, 2) := by decide +kernel
theorem dX6_pieces_102 : decode cX6_pieces 102 = .ok (.iload 4, 2) := by decide +kernel
theorem dX6_pieces_104 : decode cX6_pieces 104 = .ok (.if_icmp .le 8, 3) := by decide +kernel
theorem dX6_pieces_107 : decode cX6_pieces 107 = .ok (.iload 6, 2) := by decide +kernel
theorem dX6_pieces_109 : decode cX6_pieces 109 = .ok (.goto 5, 3) := by decide +kernel
theorem dX6_pieces_112 : decode cX6_pieces 112 = .ok (.iload 5, 2) := by decide +kernel
theorem dX6_pieces_114 : decode cX6_pieces 114 = .ok (.istore 5, 2) := by decide +kernel
theorem dX6_pieces_116 : decode cX6_pieces 116 = .ok (.iload 7, 2) := by decide +kernel
theorem dX6_pieces_118 : decode cX6_pieces 118 = .ok (.iload 4, 2) := by decide +kernel
theorem dX6_pieces_120 : decode cX6_pieces 120 = .ok (.invokestatic 258, 3) := by decide +kernel
theorem dX6_pieces_123 : decode cX6_pieces 123 = .ok (.istore 4, 2) := by decide +kernel
theorem dX6_pieces_125 : decode cX6_pieces 125 = .ok (.iinc 6 1, 3) := by decide +kernel
theorem dX6_pieces_128 : decode cX6_pieces 128 = .ok (.goto (-89), 3) := by decide +kernel
theorem dX6_pieces_131 : decode cX6_pieces 131 = .ok (.iload_n 2, 1) := by decide +kernel
theorem dX6_pieces_132 : decode cX6_pieces 132 = .ok (.ifCond .ne 7, 3) := by decide +kernel
theorem dX6_pieces_135 : decode cX6_pieces 135 = .ok (.iload_n 3, 1) := by decide +kernel
theorem dX6_pieces_136 : decode cX6_pieces 136 = .ok (.goto 15, 3) := by decide +kernel
theorem dX6_pieces_139 : decode cX6_pieces 139 = .ok (.iload_n 2, 1) := by decide +kernel
theorem dX6_pieces_140 : decode cX6_pieces 140 = .ok (.iconst 1, 1) := by decide +kernel
theorem dX6_pieces_141 : decode cX6_pieces 141 = .ok (.if_icmp .ne 8, 3) := by decide +kernel
theorem dX6_pieces_144 : decode cX6_pieces 144 = .ok (.iload 4, 2) := by decide +kernel
theorem dX6_pieces_146 : decode cX6_pieces 146 = .ok (.goto 5, 3) := by decide +kernel
theorem dX6_pieces_149 : decode cX6_pieces 149 = .ok (.iload 5, 2) := by decide +kernel
theorem dX6_pieces_151 : decode cX6_pieces 151 = .ok (.ireturn, 1) := by decide +kernel
theorem dX6_strain_0 : decode cX6_strain 0 = .ok (.iconst 0, 1) := by decide +kernel
theorem dX6_strain_1 : decode cX6_strain 1 = .ok (.istore_n 1, 1) := by decide +kernel
theorem dX6_strain_2 : decode cX6_strain 2 = .ok (.iconst 0, 1) := by decide +kernel
theorem dX6_strain_3 : decode cX6_strain 3 = .ok (.istore_n 2, 1) := by decide +kernel
theorem dX6_strain_4 : decode cX6_strain 4 = .ok (.iload_n 2, 1) := by decide +kernel
theorem dX6_strain_5 : decode cX6_strain 5 = .ok (.bipush 48, 2) := by decide +kernel
theorem dX6_strain_7 : decode cX6_strain 7 = .ok (.if_icmp .ge 32, 3) := by decide +kernel
theorem dX6_strain_10 : decode cX6_strain 10 = .ok (.iload_n 1, 1) := by decide +kernel
theorem dX6_strain_11 : decode cX6_strain 11 = .ok (.aload_n 0, 1) := by decide +kernel
theorem dX6_strain_12 : decode cX6_strain 12 = .ok (.iload_n 2, 1) := by decide +kernel
theorem dX6_strain_13 : decode cX6_strain 13 = .ok (.invokevirtual 93, 3) := by decide +kernel
theorem dX6_strain_16 : decode cX6_strain 16 = .ok (.ifCond .eq 14, 3) := by decide +kernel
theorem dX6_strain_19 : decode cX6_strain 19 = .ok (.aload_n 0, 1) := by decide +kernel
theorem dX6_strain_20 : decode cX6_strain 20 = .ok (.iload_n 2, 1) := by decide +kernel
theorem dX6_strain_21 : decode cX6_strain 21 = .ok (.invokevirtual 118, 3) := by decide +kernel
theorem dX6_strain_24 : decode cX6_strain 24 = .ok (.invokestatic 121, 3) := by decide +kernel
theorem dX6_strain_27 : decode cX6_strain 27 = .ok (.goto 4, 3) := by decide +kernel
theorem dX6_strain_30 : decode cX6_strain 30 = .ok (.iconst 0, 1) := by decide +kernel
theorem dX6_strain_31 : decode cX6_strain 31 = .ok (.iadd, 1) := by decide +kernel
theorem dX6_strain_32 : decode cX6_strain 32 = .ok (.istore_n 1, 1) := by decide +kernel
theorem dX6_strain_33 : decode cX6_strain 33 = .ok (.iinc 2 1, 3) := by decide +kernel
theorem dX6_strain_36 : decode cX6_strain 36 = .ok (.goto (-32), 3) := by decide +kernel
theorem dX6_strain_39 : decode cX6_strain 39 = .ok (.iload_n 1, 1) := by decide +kernel
theorem dX6_strain_40 : decode cX6_strain 40 = .ok (.ireturn, 1) := by decide +kernel
theorem dX6_ofCells_0 : decode cX6_ofCells 0 = .ok (.iload_n 1, 1) := by decide +kernel
theorem dX6_ofCells_1 : decode cX6_ofCells 1 = .ok (.iconst 4, 1) := by decide +kernel
theorem dX6_ofCells_2 : decode cX6_ofCells 2 = .ok (.if_icmp .eq 9, 3) := by decide +kernel
theorem dX6_ofCells_5 : decode cX6_ofCells 5 = .ok (.iload_n 1, 1) := by decide +kernel
theorem dX6_ofCells_6 : decode cX6_ofCells 6 = .ok (.bipush 9, 2) := by decide +kernel
theorem dX6_ofCells_8 : decode cX6_ofCells 8 = .ok (.if_icmp .ne 9, 3) := by decide +kernel
theorem dX6_ofCells_11 : decode cX6_ofCells 11 = .ok (.ldc_w 287, 3) := by decide +kernel
theorem dX6_ofCells_14 : decode cX6_ofCells 14 = .ok (.goto 19, 3) := by decide +kernel
theorem dX6_ofCells_17 : decode cX6_ofCells 17 = .ok (.iload_n 1, 1) := by decide +kernel
theorem dX6_ofCells_18 : decode cX6_ofCells 18 = .ok (.iconst 2, 1) := by decide +kernel
theorem dX6_ofCells_19 : decode cX6_ofCells 19 = .ok (.if_icmp .eq 8, 3) := by decide +kernel
theorem dX6_ofCells_22 : decode cX6_ofCells 22 = .ok (.iload_n 1, 1) := by decide +kernel
theorem dX6_ofCells_23 : decode cX6_ofCells 23 = .ok (.iconst 1, 1) := by decide +kernel
theorem dX6_ofCells_24 : decode cX6_ofCells 24 = .ok (.if_icmp .ne 7, 3) := by decide +kernel
theorem dX6_ofCells_27 : decode cX6_ofCells 27 = .ok (.iconst 0, 1) := by decide +kernel
theorem dX6_ofCells_28 : decode cX6_ofCells 28 = .ok (.goto 5, 3) := by decide +kernel
theorem dX6_ofCells_31 : decode cX6_ofCells 31 = .ok (.ldc 252, 2) := by decide +kernel
theorem dX6_ofCells_33 : decode cX6_ofCells 33 = .ok (.istore_n 2, 1) := by decide +kernel
theorem dX6_ofCells_34 : decode cX6_ofCells 34 = .ok (.iconst 0, 1) := by decide +kernel
theorem dX6_ofCells_35 : decode cX6_ofCells 35 = .ok (.istore_n 3, 1) := by decide +kernel
theorem dX6_ofCells_36 : decode cX6_ofCells 36 = .ok (.iload_n 3, 1) := by decide +kernel
theorem dX6_ofCells_37 : decode cX6_ofCells 37 = .ok (.bipush 48, 2) := by decide +kernel
theorem dX6_ofCells_39 : decode cX6_ofCells 39 = .ok (.if_icmp .ge 95, 3) := by decide +kernel
theorem dX6_ofCells_42 : decode cX6_ofCells 42 = .ok (.aload_n 0, 1) := by decide +kernel
theorem dX6_ofCells_43 : decode cX6_ofCells 43 = .ok (.iload_n 3, 1) := by decide +kernel
theorem dX6_ofCells_44 : decode cX6_ofCells 44 = .ok (.invokevirtual 93, 3) := by decide +kernel
theorem dX6_ofCells_47 : decode cX6_ofCells 47 = .ok (.ifCond .eq 81, 3) := by decide +kernel
theorem dX6_ofCells_50 : decode cX6_ofCells 50 = .ok (.iload_n 1, 1) := by decide +kernel
theorem dX6_ofCells_51 : decode cX6_ofCells 51 = .ok (.iconst 1, 1) := by decide +kernel
theorem dX6_ofCells_52 : decode cX6_ofCells 52 = .ok (.if_icmp .ne 11, 3) := by decide +kernel
theorem dX6_ofCells_55 : decode cX6_ofCells 55 = .ok (.aload_n 0, 1) := by decide +kernel
theorem dX6_ofCells_56 : decode cX6_ofCells 56 = .ok (.iload_n 3, 1) := by decide +kernel
theorem dX6_ofCells_57 : decode cX6_ofCells 57 = .ok (.invokevirtual 118, 3) := by decide +kernel
theorem dX6_ofCells_60 : decode cX6_ofCells 60 = .ok (.goto 27, 3) := by decide +kernel
theorem dX6_ofCells_63 : decode cX6_ofCells 63 = .ok (.iload_n 1, 1) := by decide +kernel
theorem dX6_ofCells_64 : decode cX6_ofCells 64 = .ok (.bipush 7, 2) := by decide +kernel
theorem dX6_ofCells_66 : decode cX6_ofCells 66 = .ok (.if_icmp .le 11, 3) := by decide +kernel
theorem dX6_ofCells_69 : decode cX6_ofCells 69 = .ok (.aload_n 0, 1) := by decide +kernel
theorem dX6_ofCells_70 : decode cX6_ofCells 70 = .ok (.iload_n 3, 1) := by decide +kernel
theorem dX6_ofCells_71 : decode cX6_ofCells 71 = .ok (.invokevirtual 115, 3) := by decide +kernel
theorem dX6_ofCells_74 : decode cX6_ofCells 74 = .ok (.goto 13, 3) := by decide +kernel
theorem dX6_ofCells_77 : decode cX6_ofCells 77 = .ok (.aload_n 0, 1) := by decide +kernel
theorem dX6_ofCells_78 : decode cX6_ofCells 78 = .ok (.getfield 9, 3) := by decide +kernel
theorem dX6_ofCells_81 : decode cX6_ofCells 81 = .ok (.sipush 1600, 3) := by decide +kernel
theorem dX6_ofCells_84 : decode cX6_ofCells 84 = .ok (.iload_n 3, 1) := by decide +kernel
theorem dX6_ofCells_85 : decode cX6_ofCells 85 = .ok (.iadd, 1) := by decide +kernel
theorem dX6_ofCells_86 : decode cX6_ofCells 86 = .ok (.iaload, 1) := by decide +kernel
theorem dX6_ofCells_87 : decode cX6_ofCells 87 = .ok (.istore 4, 2) := by decide +kernel
theorem dX6_ofCells_89 : decode cX6_ofCells 89 = .ok (.iload_n 1, 1) := by decide +kernel
theorem dX6_ofCells_90 : decode cX6_ofCells 90 = .ok (.iconst 3, 1) := by decide +kernel
theorem dX6_ofCells_91 : decode cX6_ofCells 91 = .ok (.if_icmp .ge 10, 3) := by decide +kernel
theorem dX6_ofCells_94 : decode cX6_ofCells 94 = .ok (.iload_n 2, 1) := by decide +kernel
theorem dX6_ofCells_95 : decode cX6_ofCells 95 = .ok (.iload 4, 2) := by decide +kernel
theorem dX6_ofCells_97 : decode cX6_ofCells 97 = .ok (.iadd, 1) := by decide +kernel
theorem dX6_ofCells_98 : decode cX6_ofCells 98 = .ok (.goto 29, 3) := by decide +kernel
theorem dX6_ofCells_101 : decode cX6_ofCells 101 = .ok (.iload_n 1, 1) := by decide +kernel
theorem dX6_ofCells_102 : decode cX6_ofCells 102 = .ok (.iconst 3, 1) := by decide +kernel
theorem dX6_ofCells_103 : decode cX6_ofCells 103 = .ok (.if_icmp .eq 9, 3) := by decide +kernel
theorem dX6_ofCells_106 : decode cX6_ofCells 106 = .ok (.iload_n 1, 1) := by decide +kernel
theorem dX6_ofCells_107 : decode cX6_ofCells 107 = .ok (.bipush 8, 2) := by decide +kernel
theorem dX6_ofCells_109 : decode cX6_ofCells 109 = .ok (.if_icmp .ne 12, 3) := by decide +kernel
theorem dX6_ofCells_112 : decode cX6_ofCells 112 = .ok (.iload_n 2, 1) := by decide +kernel
theorem dX6_ofCells_113 : decode cX6_ofCells 113 = .ok (.iload 4, 2) := by decide +kernel
theorem dX6_ofCells_115 : decode cX6_ofCells 115 = .ok (.invokestatic 258, 3) := by decide +kernel
theorem dX6_ofCells_118 : decode cX6_ofCells 118 = .ok (.goto 9, 3) := by decide +kernel
theorem dX6_ofCells_121 : decode cX6_ofCells 121 = .ok (.iload_n 2, 1) := by decide +kernel
theorem dX6_ofCells_122 : decode cX6_ofCells 122 = .ok (.iload 4, 2) := by decide +kernel
theorem dX6_ofCells_124 : decode cX6_ofCells 124 = .ok (.invokestatic 255, 3) := by decide +kernel
theorem dX6_ofCells_127 : decode cX6_ofCells 127 = .ok (.istore_n 2, 1) := by decide +kernel
theorem dX6_ofCells_128 : decode cX6_ofCells 128 = .ok (.iinc 3 1, 3) := by decide +kernel
theorem dX6_ofCells_131 : decode cX6_ofCells 131 = .ok (.goto (-95), 3) := by decide +kernel
theorem dX6_ofCells_134 : decode cX6_ofCells 134 = .ok (.iload_n 2, 1) := by decide +kernel
theorem dX6_ofCells_135 : decode cX6_ofCells 135 = .ok (.ireturn, 1) := by decide +kernel
theorem dX6_ofWalls_0 : decode cX6_ofWalls 0 = .ok (.iconst 0, 1) := by decide +kernel
theorem dX6_ofWalls_1 : decode cX6_ofWalls 1 = .ok (.istore_n 2, 1) := by decide +kernel
theorem dX6_ofWalls_2 : decode cX6_ofWalls 2 = .ok (.iconst 0, 1) := by decide +kernel
theorem dX6_ofWalls_3 : decode cX6_ofWalls 3 = .ok (.istore_n 3, 1) := by decide +kernel
theorem dX6_ofWalls_4 : decode cX6_ofWalls 4 = .ok (.iload_n 3, 1) := by decide +kernel
theorem dX6_ofWalls_5 : decode cX6_ofWalls 5 = .ok (.sipush 144, 3) := by decide +kernel
theorem dX6_ofWalls_8 : decode cX6_ofWalls 8 = .ok (.if_icmp .ge 54, 3) := by decide +kernel
theorem dX6_ofWalls_11 : decode cX6_ofWalls 11 = .ok (.iload_n 2, 1) := by decide +kernel
theorem dX6_ofWalls_12 : decode cX6_ofWalls 12 = .ok (.iload_n 1, 1) := by decide +kernel
theorem dX6_ofWalls_13 : decode cX6_ofWalls 13 = .ok (.ifCond .eq 28, 3) := by decide +kernel
theorem dX6_ofWalls_16 : decode cX6_ofWalls 16 = .ok (.aload_n 0, 1) := by decide +kernel
theorem dX6_ofWalls_17 : decode cX6_ofWalls 17 = .ok (.iload_n 3, 1) := by decide +kernel
theorem dX6_ofWalls_18 : decode cX6_ofWalls 18 = .ok (.invokevirtual 80, 3) := by decide +kernel
theorem dX6_ofWalls_21 : decode cX6_ofWalls 21 = .ok (.ifCond .eq 16, 3) := by decide +kernel
theorem dX6_ofWalls_24 : decode cX6_ofWalls 24 = .ok (.aload_n 0, 1) := by decide +kernel
theorem dX6_ofWalls_25 : decode cX6_ofWalls 25 = .ok (.getfield 9, 3) := by decide +kernel
theorem dX6_ofWalls_28 : decode cX6_ofWalls 28 = .ok (.sipush 1456, 3) := by decide +kernel
theorem dX6_ofWalls_31 : decode cX6_ofWalls 31 = .ok (.iload_n 3, 1) := by decide +kernel
theorem dX6_ofWalls_32 : decode cX6_ofWalls 32 = .ok (.iadd, 1) := by decide +kernel
theorem dX6_ofWalls_33 : decode cX6_ofWalls 33 = .ok (.iaload, 1) := by decide +kernel
theorem dX6_ofWalls_34 : decode cX6_ofWalls 34 = .ok (.goto 20, 3) := by decide +kernel
theorem dX6_ofWalls_37 : decode cX6_ofWalls 37 = .ok (.iconst 0, 1) := by decide +kernel
theorem dX6_ofWalls_38 : decode cX6_ofWalls 38 = .ok (.goto 16, 3) := by decide +kernel
theorem dX6_ofWalls_41 : decode cX6_ofWalls 41 = .ok (.aload_n 0, 1) := by decide +kernel
theorem dX6_ofWalls_42 : decode cX6_ofWalls 42 = .ok (.iload_n 3, 1) := by decide +kernel
theorem dX6_ofWalls_43 : decode cX6_ofWalls 43 = .ok (.invokevirtual 147, 3) := by decide +kernel
theorem dX6_ofWalls_46 : decode cX6_ofWalls 46 = .ok (.ifCond .eq 7, 3) := by decide +kernel
theorem dX6_ofWalls_49 : decode cX6_ofWalls 49 = .ok (.iconst 1, 1) := by decide +kernel
theorem dX6_ofWalls_50 : decode cX6_ofWalls 50 = .ok (.goto 4, 3) := by decide +kernel
theorem dX6_ofWalls_53 : decode cX6_ofWalls 53 = .ok (.iconst 0, 1) := by decide +kernel
theorem dX6_ofWalls_54 : decode cX6_ofWalls 54 = .ok (.iadd, 1) := by decide +kernel
theorem dX6_ofWalls_55 : decode cX6_ofWalls 55 = .ok (.istore_n 2, 1) := by decide +kernel
theorem dX6_ofWalls_56 : decode cX6_ofWalls 56 = .ok (.iinc 3 1, 3) := by decide +kernel
theorem dX6_ofWalls_59 : decode cX6_ofWalls 59 = .ok (.goto (-55), 3) := by decide +kernel
theorem dX6_ofWalls_62 : decode cX6_ofWalls 62 = .ok (.iload_n 2, 1) := by decide +kernel
theorem dX6_ofWalls_63 : decode cX6_ofWalls 63 = .ok (.ireturn, 1) := by decide +kernel
theorem dX6_all_0 : decode cX6_all 0 = .ok (.aload_n 0, 1) := by decide +kernel
theorem dX6_all_1 : decode cX6_all 1 = .ok (.iconst 0, 1) := by decide +kernel
theorem dX6_all_2 : decode cX6_all 2 = .ok (.putfield 44, 3) := by decide +kernel
theorem dX6_all_5 : decode cX6_all 5 = .ok (.iload_n 1, 1) := by decide +kernel
theorem dX6_all_6 : decode cX6_all 6 = .ok (.tableswitch 77 0 7 #[46, 77, 77, 77, 77, 51, 57, 71], 46) := by decide +kernel
theorem dX6_all_52 : decode cX6_all 52 = .ok (.aload_n 0, 1) := by decide +kernel
theorem dX6_all_53 : decode cX6_all 53 = .ok (.invokevirtual 288, 3) := by decide +kernel
theorem dX6_all_56 : decode cX6_all 56 = .ok (.ireturn, 1) := by decide +kernel
theorem dX6_all_57 : decode cX6_all 57 = .ok (.aload_n 0, 1) := by decide +kernel
theorem dX6_all_58 : decode cX6_all 58 = .ok (.iconst 1, 1) := by decide +kernel
theorem dX6_all_59 : decode cX6_all 59 = .ok (.invokevirtual 291, 3) := by decide +kernel
theorem dX6_all_62 : decode cX6_all 62 = .ok (.ireturn, 1) := by decide +kernel
theorem dX6_all_63 : decode cX6_all 63 = .ok (.aload_n 0, 1) := by decide +kernel
theorem dX6_all_64 : decode cX6_all 64 = .ok (.invokevirtual 231, 3) := by decide +kernel
theorem dX6_all_67 : decode cX6_all 67 = .ok (.iconst (-1), 1) := by decide +kernel
theorem dX6_all_68 : decode cX6_all 68 = .ok (.if_icmp .ne 7, 3) := by decide +kernel
theorem dX6_all_71 : decode cX6_all 71 = .ok (.iconst 1, 1) := by decide +kernel
theorem dX6_all_72 : decode cX6_all 72 = .ok (.goto 4, 3) := by decide +kernel
theorem dX6_all_75 : decode cX6_all 75 = .ok (.iconst 0, 1) := by decide +kernel
theorem dX6_all_76 : decode cX6_all 76 = .ok (.ireturn, 1) := by decide +kernel
theorem dX6_all_77 : decode cX6_all 77 = .ok (.aload_n 0, 1) := by decide +kernel
theorem dX6_all_78 : decode cX6_all 78 = .ok (.iconst 0, 1) := by decide +kernel
theorem dX6_all_79 : decode cX6_all 79 = .ok (.invokevirtual 291, 3) := by decide +kernel
theorem dX6_all_82 : decode cX6_all 82 = .ok (.ireturn, 1) := by decide +kernel
theorem dX6_all_83 : decode cX6_all 83 = .ok (.iload_n 1, 1) := by decide +kernel
theorem dX6_all_84 : decode cX6_all 84 = .ok (.i2l, 1) := by decide +kernel
theorem dX6_all_85 : decode cX6_all 85 = .ok (.lconst 1, 1) := by decide +kernel
theorem dX6_all_86 : decode cX6_all 86 = .ok (.ldc2_w 56, 3) := by decide +kernel
theorem dX6_all_89 : decode cX6_all 89 = .ok (.invokestatic 48, 3) := by decide +kernel
theorem dX6_all_92 : decode cX6_all 92 = .ok (.ifCond .eq 11, 3) := by decide +kernel
theorem dX6_all_95 : decode cX6_all 95 = .ok (.aload_n 0, 1) := by decide +kernel
theorem dX6_all_96 : decode cX6_all 96 = .ok (.iload_n 1, 1) := by decide +kernel
theorem dX6_all_97 : decode cX6_all 97 = .ok (.invokevirtual 295, 3) := by decide +kernel
theorem dX6_all_100 : decode cX6_all 100 = .ok (.goto 5, 3) := by decide +kernel
theorem dX6_all_103 : decode cX6_all 103 = .ok (.ldc 252, 2) := by decide +kernel
theorem dX6_all_105 : decode cX6_all 105 = .ok (.ireturn, 1) := by decide +kernel
theorem dX6_easiest_0 : decode cX6_easiest 0 = .ok (.aload_n 0, 1) := by decide +kernel
theorem dX6_easiest_1 : decode cX6_easiest 1 = .ok (.iconst 0, 1) := by decide +kernel
theorem dX6_easiest_2 : decode cX6_easiest 2 = .ok (.putfield 44, 3) := by decide +kernel
theorem dX6_easiest_5 : decode cX6_easiest 5 = .ok (.aload_n 0, 1) := by decide +kernel
theorem dX6_easiest_6 : decode cX6_easiest 6 = .ok (.invokevirtual 231, 3) := by decide +kernel
theorem dX6_easiest_9 : decode cX6_easiest 9 = .ok (.ireturn, 1) := by decide +kernel
theorem dX6_eased_0 : decode cX6_eased 0 = .ok (.aload_n 0, 1) := by decide +kernel
theorem dX6_eased_1 : decode cX6_eased 1 = .ok (.invokevirtual 231, 3) := by decide +kernel
theorem dX6_eased_4 : decode cX6_eased 4 = .ok (.istore_n 1, 1) := by decide +kernel
theorem dX6_eased_5 : decode cX6_eased 5 = .ok (.iload_n 1, 1) := by decide +kernel
theorem dX6_eased_6 : decode cX6_eased 6 = .ok (.iconst (-1), 1) := by decide +kernel
theorem dX6_eased_7 : decode cX6_eased 7 = .ok (.if_icmp .ne 7, 3) := by decide +kernel
theorem dX6_eased_10 : decode cX6_eased 10 = .ok (.iconst 0, 1) := by decide +kernel
theorem dX6_eased_11 : decode cX6_eased 11 = .ok (.goto 8, 3) := by decide +kernel
theorem dX6_eased_14 : decode cX6_eased 14 = .ok (.aload_n 0, 1) := by decide +kernel
theorem dX6_eased_15 : decode cX6_eased 15 = .ok (.iload_n 1, 1) := by decide +kernel
theorem dX6_eased_16 : decode cX6_eased 16 = .ok (.invokevirtual 150, 3) := by decide +kernel
theorem dX6_eased_19 : decode cX6_eased 19 = .ok (.ireturn, 1) := by decide +kernel
theorem dX6_lowest_0 : decode cX6_lowest 0 = .ok (.aload_n 0, 1) := by decide +kernel
theorem dX6_lowest_1 : decode cX6_lowest 1 = .ok (.iconst 0, 1) := by decide +kernel
theorem dX6_lowest_2 : decode cX6_lowest 2 = .ok (.putfield 44, 3) := by decide +kernel
theorem dX6_lowest_5 : decode cX6_lowest 5 = .ok (.iload_n 1, 1) := by decide +kernel
theorem dX6_lowest_6 : decode cX6_lowest 6 = .ok (.i2l, 1) := by decide +kernel
theorem dX6_lowest_7 : decode cX6_lowest 7 = .ok (.lconst 0, 1) := by decide +kernel
theorem dX6_lowest_8 : decode cX6_lowest 8 = .ok (.ldc2_w 253, 3) := by decide +kernel
theorem dX6_lowest_11 : decode cX6_lowest 11 = .ok (.invokestatic 48, 3) := by decide +kernel
theorem dX6_lowest_14 : decode cX6_lowest 14 = .ok (.ifCond .ne 5, 3) := by decide +kernel
theorem dX6_lowest_17 : decode cX6_lowest 17 = .ok (.iconst (-1), 1) := by decide +kernel
theorem dX6_lowest_18 : decode cX6_lowest 18 = .ok (.ireturn, 1) := by decide +kernel
theorem dX6_lowest_19 : decode cX6_lowest 19 = .ok (.aload_n 0, 1) := by decide +kernel
theorem dX6_lowest_20 : decode cX6_lowest 20 = .ok (.invokevirtual 288, 3) := by decide +kernel
theorem dX6_lowest_23 : decode cX6_lowest 23 = .ok (.istore_n 2, 1) := by decide +kernel
theorem dX6_lowest_24 : decode cX6_lowest 24 = .ok (.iload_n 1, 1) := by decide +kernel
theorem dX6_lowest_25 : decode cX6_lowest 25 = .ok (.ifCond .ne 7, 3) := by decide +kernel
theorem dX6_lowest_28 : decode cX6_lowest 28 = .ok (.iconst 0, 1) := by decide +kernel
theorem dX6_lowest_29 : decode cX6_lowest 29 = .ok (.goto 7, 3) := by decide +kernel
theorem dX6_lowest_32 : decode cX6_lowest 32 = .ok (.aload_n 0, 1) := by decide +kernel
theorem dX6_lowest_33 : decode cX6_lowest 33 = .ok (.invokevirtual 298, 3) := by decide +kernel
theorem dX6_lowest_36 : decode cX6_lowest 36 = .ok (.istore_n 3, 1) := by decide +kernel
theorem dX6_lowest_37 : decode cX6_lowest 37 = .ok (.aload_n 0, 1) := by decide +kernel
theorem dX6_lowest_38 : decode cX6_lowest 38 = .ok (.invokevirtual 301, 3) := by decide +kernel
theorem dX6_lowest_41 : decode cX6_lowest 41 = .ok (.iconst 0, 1) := by decide +kernel
theorem dX6_lowest_42 : decode cX6_lowest 42 = .ok (.istore 4, 2) := by decide +kernel
theorem dX6_lowest_44 : decode cX6_lowest 44 = .ok (.iload 4, 2) := by decide +kernel
theorem dX6_lowest_46 : decode cX6_lowest 46 = .ok (.sipush 144, 3) := by decide +kernel
theorem dX6_lowest_49 : decode cX6_lowest 49 = .ok (.if_icmp .ge 66, 3) := by decide +kernel
theorem dX6_lowest_52 : decode cX6_lowest 52 = .ok (.iload_n 1, 1) := by decide +kernel
theorem dX6_lowest_53 : decode cX6_lowest 53 = .ok (.iconst 2, 1) := by decide +kernel
theorem dX6_lowest_54 : decode cX6_lowest 54 = .ok (.if_icmp .ne 61, 3) := by decide +kernel
theorem dX6_lowest_57 : decode cX6_lowest 57 = .ok (.aload_n 0, 1) := by decide +kernel
theorem dX6_lowest_58 : decode cX6_lowest 58 = .ok (.iload 4, 2) := by decide +kernel
theorem dX6_lowest_60 : decode cX6_lowest 60 = .ok (.invokevirtual 147, 3) := by decide +kernel
theorem dX6_lowest_63 : decode cX6_lowest 63 = .ok (.ifCond .eq 46, 3) := by decide +kernel
theorem dX6_lowest_66 : decode cX6_lowest 66 = .ok (.aload_n 0, 1) := by decide +kernel
theorem dX6_lowest_67 : decode cX6_lowest 67 = .ok (.iload 4, 2) := by decide +kernel
theorem dX6_lowest_69 : decode cX6_lowest 69 = .ok (.invokevirtual 150, 3) := by decide +kernel
theorem dX6_lowest_72 : decode cX6_lowest 72 = .ok (.istore 5, 2) := by decide +kernel
theorem dX6_lowest_74 : decode cX6_lowest 74 = .ok (.aload_n 0, 1) := by decide +kernel
theorem dX6_lowest_75 : decode cX6_lowest 75 = .ok (.iload 4, 2) := by decide +kernel
theorem dX6_lowest_77 : decode cX6_lowest 77 = .ok (.invokevirtual 135, 3) := by decide +kernel
theorem dX6_lowest_80 : decode cX6_lowest 80 = .ok (.iload 5, 2) := by decide +kernel
theorem dX6_lowest_82 : decode cX6_lowest 82 = .ok (.aload_n 0, 1) := by decide +kernel
theorem dX6_lowest_83 : decode cX6_lowest 83 = .ok (.invokevirtual 298, 3) := by decide +kernel
theorem dX6_lowest_86 : decode cX6_lowest 86 = .ok (.iadd, 1) := by decide +kernel
theorem dX6_lowest_87 : decode cX6_lowest 87 = .ok (.istore 5, 2) := by decide +kernel
theorem dX6_lowest_89 : decode cX6_lowest 89 = .ok (.iload 5, 2) := by decide +kernel
theorem dX6_lowest_91 : decode cX6_lowest 91 = .ok (.iload_n 3, 1) := by decide +kernel
theorem dX6_lowest_92 : decode cX6_lowest 92 = .ok (.invokestatic 258, 3) := by decide +kernel
theorem dX6_lowest_95 : decode cX6_lowest 95 = .ok (.istore_n 3, 1) := by decide +kernel
theorem dX6_lowest_96 : decode cX6_lowest 96 = .ok (.aload_n 0, 1) := by decide +kernel
theorem dX6_lowest_97 : decode cX6_lowest 97 = .ok (.getfield 15, 3) := by decide +kernel
theorem dX6_lowest_100 : decode cX6_lowest 100 = .ok (.iconst 0, 1) := by decide +kernel
theorem dX6_lowest_101 : decode cX6_lowest 101 = .ok (.aload_n 0, 1) := by decide +kernel
theorem dX6_lowest_102 : decode cX6_lowest 102 = .ok (.getfield 9, 3) := by decide +kernel
theorem dX6_lowest_105 : decode cX6_lowest 105 = .ok (.iconst 0, 1) := by decide +kernel
theorem dX6_lowest_106 : decode cX6_lowest 106 = .ok (.invokestatic 52, 3) := by decide +kernel
theorem dX6_lowest_109 : decode cX6_lowest 109 = .ok (.iinc 4 1, 3) := by decide +kernel
theorem dX6_lowest_112 : decode cX6_lowest 112 = .ok (.goto (-68), 3) := by decide +kernel
theorem dX6_lowest_115 : decode cX6_lowest 115 = .ok (.iload_n 2, 1) := by decide +kernel
theorem dX6_lowest_116 : decode cX6_lowest 116 = .ok (.iload_n 3, 1) := by decide +kernel
theorem dX6_lowest_117 : decode cX6_lowest 117 = .ok (.isub, 1) := by decide +kernel
theorem dX6_lowest_118 : decode cX6_lowest 118 = .ok (.ireturn, 1) := by decide +kernel
theorem dX6_bringsTo_0 : decode cX6_bringsTo 0 = .ok (.iconst 0, 1) := by decide +kernel
theorem dX6_bringsTo_1 : decode cX6_bringsTo 1 = .ok (.istore_n 3, 1) := by decide +kernel
theorem dX6_bringsTo_2 : decode cX6_bringsTo 2 = .ok (.iload_n 3, 1) := by decide +kernel
theorem dX6_bringsTo_3 : decode cX6_bringsTo 3 = .ok (.sipush 144, 3) := by decide +kernel
theorem dX6_bringsTo_6 : decode cX6_bringsTo 6 = .ok (.if_icmp .ge 35, 3) := by decide +kernel
theorem dX6_bringsTo_9 : decode cX6_bringsTo 9 = .ok (.aload_n 0, 1) := by decide +kernel
theorem dX6_bringsTo_10 : decode cX6_bringsTo 10 = .ok (.iload_n 3, 1) := by decide +kernel
theorem dX6_bringsTo_11 : decode cX6_bringsTo 11 = .ok (.invokevirtual 147, 3) := by decide +kernel
theorem dX6_bringsTo_14 : decode cX6_bringsTo 14 = .ok (.ifCond .eq 21, 3) := by decide +kernel
theorem dX6_bringsTo_17 : decode cX6_bringsTo 17 = .ok (.aload_n 0, 1) := by decide +kernel
theorem dX6_bringsTo_18 : decode cX6_bringsTo 18 = .ok (.iload_n 1, 1) := by decide +kernel
theorem dX6_bringsTo_19 : decode cX6_bringsTo 19 = .ok (.invokevirtual 115, 3) := by decide +kernel
theorem dX6_bringsTo_22 : decode cX6_bringsTo 22 = .ok (.aload_n 0, 1) := by decide +kernel
theorem dX6_bringsTo_23 : decode cX6_bringsTo 23 = .ok (.iload_n 1, 1) := by decide +kernel
theorem dX6_bringsTo_24 : decode cX6_bringsTo 24 = .ok (.iload_n 3, 1) := by decide +kernel
theorem dX6_bringsTo_25 : decode cX6_bringsTo 25 = .ok (.invokevirtual 304, 3) := by decide +kernel
theorem dX6_bringsTo_28 : decode cX6_bringsTo 28 = .ok (.iadd, 1) := by decide +kernel
theorem dX6_bringsTo_29 : decode cX6_bringsTo 29 = .ok (.iload_n 2, 1) := by decide +kernel
theorem dX6_bringsTo_30 : decode cX6_bringsTo 30 = .ok (.if_icmp .ne 5, 3) := by decide +kernel
theorem dX6_bringsTo_33 : decode cX6_bringsTo 33 = .ok (.iload_n 3, 1) := by decide +kernel
theorem dX6_bringsTo_34 : decode cX6_bringsTo 34 = .ok (.ireturn, 1) := by decide +kernel
theorem dX6_bringsTo_35 : decode cX6_bringsTo 35 = .ok (.iinc 3 1, 3) := by decide +kernel
theorem dX6_bringsTo_38 : decode cX6_bringsTo 38 = .ok (.goto (-36), 3) := by decide +kernel
theorem dX6_bringsTo_41 : decode cX6_bringsTo 41 = .ok (.iconst (-1), 1) := by decide +kernel
theorem dX6_bringsTo_42 : decode cX6_bringsTo 42 = .ok (.ireturn, 1) := by decide +kernel
theorem dX6_changes_0 : decode cX6_changes 0 = .ok (.iconst 2, 1) := by decide +kernel
theorem dX6_changes_1 : decode cX6_changes 1 = .ok (.iload_n 2, 1) := by decide +kernel
theorem dX6_changes_2 : decode cX6_changes 2 = .ok (.imul, 1) := by decide +kernel
theorem dX6_changes_3 : decode cX6_changes 3 = .ok (.istore_n 3, 1) := by decide +kernel
theorem dX6_changes_4 : decode cX6_changes 4 = .ok (.aload_n 0, 1) := by decide +kernel
theorem dX6_changes_5 : decode cX6_changes 5 = .ok (.iload_n 3, 1) := by decide +kernel
theorem dX6_changes_6 : decode cX6_changes 6 = .ok (.invokevirtual 84, 3) := by decide +kernel
theorem dX6_changes_9 : decode cX6_changes 9 = .ok (.iload_n 1, 1) := by decide +kernel
theorem dX6_changes_10 : decode cX6_changes 10 = .ok (.if_icmp .eq 12, 3) := by decide +kernel
theorem dX6_changes_13 : decode cX6_changes 13 = .ok (.aload_n 0, 1) := by decide +kernel
theorem dX6_changes_14 : decode cX6_changes 14 = .ok (.iload_n 3, 1) := by decide +kernel
theorem dX6_changes_15 : decode cX6_changes 15 = .ok (.invokevirtual 105, 3) := by decide +kernel
theorem dX6_changes_18 : decode cX6_changes 18 = .ok (.iload_n 1, 1) := by decide +kernel
theorem dX6_changes_19 : decode cX6_changes 19 = .ok (.if_icmp .ne 7, 3) := by decide +kernel
theorem dX6_changes_22 : decode cX6_changes 22 = .ok (.iconst (-1), 1) := by decide +kernel
theorem dX6_changes_23 : decode cX6_changes 23 = .ok (.goto 34, 3) := by decide +kernel
theorem dX6_changes_26 : decode cX6_changes 26 = .ok (.aload_n 0, 1) := by decide +kernel
theorem dX6_changes_27 : decode cX6_changes 27 = .ok (.aload_n 0, 1) := by decide +kernel
theorem dX6_changes_28 : decode cX6_changes 28 = .ok (.iload_n 3, 1) := by decide +kernel
theorem dX6_changes_29 : decode cX6_changes 29 = .ok (.invokevirtual 90, 3) := by decide +kernel
theorem dX6_changes_32 : decode cX6_changes 32 = .ok (.invokevirtual 105, 3) := by decide +kernel
theorem dX6_changes_35 : decode cX6_changes 35 = .ok (.iload_n 1, 1) := by decide +kernel
theorem dX6_changes_36 : decode cX6_changes 36 = .ok (.if_icmp .eq 16, 3) := by decide +kernel
theorem dX6_changes_39 : decode cX6_changes 39 = .ok (.aload_n 0, 1) := by decide +kernel
theorem dX6_changes_40 : decode cX6_changes 40 = .ok (.aload_n 0, 1) := by decide +kernel
theorem dX6_changes_41 : decode cX6_changes 41 = .ok (.iload_n 3, 1) := by decide +kernel
theorem dX6_changes_42 : decode cX6_changes 42 = .ok (.invokevirtual 96, 3) := by decide +kernel
theorem dX6_changes_45 : decode cX6_changes 45 = .ok (.invokevirtual 105, 3) := by decide +kernel
theorem dX6_changes_48 : decode cX6_changes 48 = .ok (.iload_n 1, 1) := by decide +kernel
theorem dX6_changes_49 : decode cX6_changes 49 = .ok (.if_icmp .ne 7, 3) := by decide +kernel
theorem dX6_changes_52 : decode cX6_changes 52 = .ok (.iconst 1, 1) := by decide +kernel
theorem dX6_changes_53 : decode cX6_changes 53 = .ok (.goto 4, 3) := by decide +kernel
theorem dX6_changes_56 : decode cX6_changes 56 = .ok (.iconst 0, 1) := by decide +kernel
theorem dX6_changes_57 : decode cX6_changes 57 = .ok (.ireturn, 1) := by decide +kernel
theorem dX6_reach_0 : decode cX6_reach 0 = .ok (.aload_n 0, 1) := by decide +kernel
theorem dX6_reach_1 : decode cX6_reach 1 = .ok (.iconst 0, 1) := by decide +kernel
theorem dX6_reach_2 : decode cX6_reach 2 = .ok (.putfield 44, 3) := by decide +kernel
theorem dX6_reach_5 : decode cX6_reach 5 = .ok (.aload_n 0, 1) := by decide +kernel
theorem dX6_reach_6 : decode cX6_reach 6 = .ok (.iload_n 1, 1) := by decide +kernel
theorem dX6_reach_7 : decode cX6_reach 7 = .ok (.invokevirtual 93, 3) := by decide +kernel
theorem dX6_reach_10 : decode cX6_reach 10 = .ok (.ifCond .eq 13, 3) := by decide +kernel
theorem dX6_reach_13 : decode cX6_reach 13 = .ok (.iload_n 3, 1) := by decide +kernel
theorem dX6_reach_14 : decode cX6_reach 14 = .ok (.i2l, 1) := by decide +kernel
theorem dX6_reach_15 : decode cX6_reach 15 = .ok (.lconst 0, 1) := by decide +kernel
theorem dX6_reach_16 : decode cX6_reach 16 = .ok (.lconst 1, 1) := by decide +kernel
theorem dX6_reach_17 : decode cX6_reach 17 = .ok (.invokestatic 48, 3) := by decide +kernel
theorem dX6_reach_20 : decode cX6_reach 20 = .ok (.ifCond .ne 5, 3) := by decide +kernel
theorem dX6_reach_23 : decode cX6_reach 23 = .ok (.iconst (-1), 1) := by decide +kernel
theorem dX6_reach_24 : decode cX6_reach 24 = .ok (.ireturn, 1) := by decide +kernel
theorem dX6_reach_25 : decode cX6_reach 25 = .ok (.aload_n 0, 1) := by decide +kernel
theorem dX6_reach_26 : decode cX6_reach 26 = .ok (.iload_n 1, 1) := by decide +kernel
theorem dX6_reach_27 : decode cX6_reach 27 = .ok (.invokevirtual 115, 3) := by decide +kernel
theorem dX6_reach_30 : decode cX6_reach 30 = .ok (.iload_n 2, 1) := by decide +kernel
theorem dX6_reach_31 : decode cX6_reach 31 = .ok (.if_icmp .ne 13, 3) := by decide +kernel
theorem dX6_reach_34 : decode cX6_reach 34 = .ok (.iload_n 3, 1) := by decide +kernel
theorem dX6_reach_35 : decode cX6_reach 35 = .ok (.ifCond .ne 7, 3) := by decide +kernel
theorem dX6_reach_38 : decode cX6_reach 38 = .ok (.iconst 0, 1) := by decide +kernel
theorem dX6_reach_39 : decode cX6_reach 39 = .ok (.goto 4, 3) := by decide +kernel
theorem dX6_reach_42 : decode cX6_reach 42 = .ok (.iconst (-1), 1) := by decide +kernel
theorem dX6_reach_43 : decode cX6_reach 43 = .ok (.ireturn, 1) := by decide +kernel
theorem dX6_reach_44 : decode cX6_reach 44 = .ok (.aload_n 0, 1) := by decide +kernel
theorem dX6_reach_45 : decode cX6_reach 45 = .ok (.iload_n 1, 1) := by decide +kernel
theorem dX6_reach_46 : decode cX6_reach 46 = .ok (.iload_n 2, 1) := by decide +kernel
theorem dX6_reach_47 : decode cX6_reach 47 = .ok (.invokevirtual 307, 3) := by decide +kernel
theorem dX6_reach_50 : decode cX6_reach 50 = .ok (.istore 4, 2) := by decide +kernel
theorem dX6_reach_52 : decode cX6_reach 52 = .ok (.iload 4, 2) := by decide +kernel
theorem dX6_reach_54 : decode cX6_reach 54 = .ok (.iconst (-1), 1) := by decide +kernel
theorem dX6_reach_55 : decode cX6_reach 55 = .ok (.if_icmp .eq 14, 3) := by decide +kernel
theorem dX6_reach_58 : decode cX6_reach 58 = .ok (.iload_n 3, 1) := by decide +kernel
theorem dX6_reach_59 : decode cX6_reach 59 = .ok (.ifCond .ne 7, 3) := by decide +kernel
theorem dX6_reach_62 : decode cX6_reach 62 = .ok (.iconst 1, 1) := by decide +kernel
theorem dX6_reach_63 : decode cX6_reach 63 = .ok (.goto 5, 3) := by decide +kernel
theorem dX6_reach_66 : decode cX6_reach 66 = .ok (.iload 4, 2) := by decide +kernel
theorem dX6_reach_68 : decode cX6_reach 68 = .ok (.ireturn, 1) := by decide +kernel
theorem dX6_reach_69 : decode cX6_reach 69 = .ok (.aload_n 0, 1) := by decide +kernel
theorem dX6_reach_70 : decode cX6_reach 70 = .ok (.invokevirtual 301, 3) := by decide +kernel
theorem dX6_reach_73 : decode cX6_reach 73 = .ok (.iconst (-1), 1) := by decide +kernel
theorem dX6_reach_74 : decode cX6_reach 74 = .ok (.istore 5, 2) := by decide +kernel
theorem dX6_reach_76 : decode cX6_reach 76 = .ok (.iconst 0, 1) := by decide +kernel
theorem dX6_reach_77 : decode cX6_reach 77 = .ok (.istore 6, 2) := by decide +kernel
theorem dX6_reach_79 : decode cX6_reach 79 = .ok (.iload 6, 2) := by decide +kernel
theorem dX6_reach_81 : decode cX6_reach 81 = .ok (.sipush 144, 3) := by decide +kernel
theorem dX6_reach_84 : decode cX6_reach 84 = .ok (.if_icmp .ge 61, 3) := by decide +kernel
theorem dX6_reach_87 : decode cX6_reach 87 = .ok (.iload 5, 2) := by decide +kernel
theorem dX6_reach_89 : decode cX6_reach 89 = .ok (.iconst (-1), 1) := by decide +kernel
theorem dX6_reach_90 : decode cX6_reach 90 = .ok (.if_icmp .ne 55, 3) := by decide +kernel
theorem dX6_reach_93 : decode cX6_reach 93 = .ok (.aload_n 0, 1) := by decide +kernel
theorem dX6_reach_94 : decode cX6_reach 94 = .ok (.iload 6, 2) := by decide +kernel
theorem dX6_reach_96 : decode cX6_reach 96 = .ok (.invokevirtual 147, 3) := by decide +kernel
theorem dX6_reach_99 : decode cX6_reach 99 = .ok (.ifCond .eq 40, 3) := by decide +kernel
theorem dX6_reach_102 : decode cX6_reach 102 = .ok (.aload_n 0, 1) := by decide +kernel
theorem dX6_reach_103 : decode cX6_reach 103 = .ok (.iload 6, 2) := by decide +kernel
theorem dX6_reach_105 : decode cX6_reach 105 = .ok (.invokevirtual 135, 3) := by decide +kernel
theorem dX6_reach_108 : decode cX6_reach 108 = .ok (.aload_n 0, 1) := by decide +kernel
theorem dX6_reach_109 : decode cX6_reach 109 = .ok (.iload_n 1, 1) := by decide +kernel
theorem dX6_reach_110 : decode cX6_reach 110 = .ok (.iload_n 2, 1) := by decide +kernel
theorem dX6_reach_111 : decode cX6_reach 111 = .ok (.invokevirtual 307, 3) := by decide +kernel
theorem dX6_reach_114 : decode cX6_reach 114 = .ok (.iconst (-1), 1) := by decide +kernel
theorem dX6_reach_115 : decode cX6_reach 115 = .ok (.if_icmp .eq 8, 3) := by decide +kernel
theorem dX6_reach_118 : decode cX6_reach 118 = .ok (.iload 6, 2) := by decide +kernel
theorem dX6_reach_120 : decode cX6_reach 120 = .ok (.goto 4, 3) := by decide +kernel
theorem dX6_reach_123 : decode cX6_reach 123 = .ok (.iconst (-1), 1) := by decide +kernel
theorem dX6_reach_124 : decode cX6_reach 124 = .ok (.istore 5, 2) := by decide +kernel
theorem dX6_reach_126 : decode cX6_reach 126 = .ok (.aload_n 0, 1) := by decide +kernel
theorem dX6_reach_127 : decode cX6_reach 127 = .ok (.getfield 15, 3) := by decide +kernel
theorem dX6_reach_130 : decode cX6_reach 130 = .ok (.iconst 0, 1) := by decide +kernel
theorem dX6_reach_131 : decode cX6_reach 131 = .ok (.aload_n 0, 1) := by decide +kernel
theorem dX6_reach_132 : decode cX6_reach 132 = .ok (.getfield 9, 3) := by decide +kernel
theorem dX6_reach_135 : decode cX6_reach 135 = .ok (.iconst 0, 1) := by decide +kernel
theorem dX6_reach_136 : decode cX6_reach 136 = .ok (.invokestatic 52, 3) := by decide +kernel
theorem dX6_reach_139 : decode cX6_reach 139 = .ok (.iinc 6 1, 3) := by decide +kernel
theorem dX6_reach_142 : decode cX6_reach 142 = .ok (.goto (-63), 3) := by decide +kernel
theorem dX6_reach_145 : decode cX6_reach 145 = .ok (.iload 5, 2) := by decide +kernel
theorem dX6_reach_147 : decode cX6_reach 147 = .ok (.iconst (-1), 1) := by decide +kernel
theorem dX6_reach_148 : decode cX6_reach 148 = .ok (.if_icmp .ne 7, 3) := by decide +kernel
theorem dX6_reach_151 : decode cX6_reach 151 = .ok (.iconst (-1), 1) := by decide +kernel
theorem dX6_reach_152 : decode cX6_reach 152 = .ok (.goto 13, 3) := by decide +kernel
theorem dX6_reach_155 : decode cX6_reach 155 = .ok (.iload_n 3, 1) := by decide +kernel
theorem dX6_reach_156 : decode cX6_reach 156 = .ok (.ifCond .ne 7, 3) := by decide +kernel
theorem dX6_reach_159 : decode cX6_reach 159 = .ok (.iconst 2, 1) := by decide +kernel
theorem dX6_reach_160 : decode cX6_reach 160 = .ok (.goto 5, 3) := by decide +kernel
theorem dX6_reach_163 : decode cX6_reach 163 = .ok (.iload 5, 2) := by decide +kernel
theorem dX6_reach_165 : decode cX6_reach 165 = .ok (.ireturn, 1) := by decide +kernel
theorem dX6_areAlike_0 : decode cX6_areAlike 0 = .ok (.iconst 1, 1) := by decide +kernel
theorem dX6_areAlike_1 : decode cX6_areAlike 1 = .ok (.istore_n 1, 1) := by decide +kernel
theorem dX6_areAlike_2 : decode cX6_areAlike 2 = .ok (.iconst 0, 1) := by decide +kernel
theorem dX6_areAlike_3 : decode cX6_areAlike 3 = .ok (.istore_n 2, 1) := by decide +kernel
theorem dX6_areAlike_4 : decode cX6_areAlike 4 = .ok (.iload_n 2, 1) := by decide +kernel
theorem dX6_areAlike_5 : decode cX6_areAlike 5 = .ok (.bipush 48, 2) := by decide +kernel
theorem dX6_areAlike_7 : decode cX6_areAlike 7 = .ok (.if_icmp .ge 42, 3) := by decide +kernel
theorem dX6_areAlike_10 : decode cX6_areAlike 10 = .ok (.iload_n 1, 1) := by decide +kernel
theorem dX6_areAlike_11 : decode cX6_areAlike 11 = .ok (.ifCond .eq 30, 3) := by decide +kernel
theorem dX6_areAlike_14 : decode cX6_areAlike 14 = .ok (.aload_n 0, 1) := by decide +kernel
theorem dX6_areAlike_15 : decode cX6_areAlike 15 = .ok (.getfield 9, 3) := by decide +kernel
theorem dX6_areAlike_18 : decode cX6_areAlike 18 = .ok (.sipush 1648, 3) := by decide +kernel
theorem dX6_areAlike_21 : decode cX6_areAlike 21 = .ok (.iload_n 2, 1) := by decide +kernel
theorem dX6_areAlike_22 : decode cX6_areAlike 22 = .ok (.iadd, 1) := by decide +kernel
theorem dX6_areAlike_23 : decode cX6_areAlike 23 = .ok (.iaload, 1) := by decide +kernel
theorem dX6_areAlike_24 : decode cX6_areAlike 24 = .ok (.aload_n 0, 1) := by decide +kernel
theorem dX6_areAlike_25 : decode cX6_areAlike 25 = .ok (.getfield 15, 3) := by decide +kernel
theorem dX6_areAlike_28 : decode cX6_areAlike 28 = .ok (.sipush 1648, 3) := by decide +kernel
theorem dX6_areAlike_31 : decode cX6_areAlike 31 = .ok (.iload_n 2, 1) := by decide +kernel
theorem dX6_areAlike_32 : decode cX6_areAlike 32 = .ok (.iadd, 1) := by decide +kernel
theorem dX6_areAlike_33 : decode cX6_areAlike 33 = .ok (.iaload, 1) := by decide +kernel
theorem dX6_areAlike_34 : decode cX6_areAlike 34 = .ok (.if_icmp .ne 7, 3) := by decide +kernel
theorem dX6_areAlike_37 : decode cX6_areAlike 37 = .ok (.iconst 1, 1) := by decide +kernel
theorem dX6_areAlike_38 : decode cX6_areAlike 38 = .ok (.goto 4, 3) := by decide +kernel
theorem dX6_areAlike_41 : decode cX6_areAlike 41 = .ok (.iconst 0, 1) := by decide +kernel
theorem dX6_areAlike_42 : decode cX6_areAlike 42 = .ok (.istore_n 1, 1) := by decide +kernel
theorem dX6_areAlike_43 : decode cX6_areAlike 43 = .ok (.iinc 2 1, 3) := by decide +kernel
theorem dX6_areAlike_46 : decode cX6_areAlike 46 = .ok (.goto (-42), 3) := by decide +kernel
theorem dX6_areAlike_49 : decode cX6_areAlike 49 = .ok (.iload_n 1, 1) := by decide +kernel
theorem dX6_areAlike_50 : decode cX6_areAlike 50 = .ok (.ireturn, 1) := by decide +kernel
theorem dX6_alike_0 : decode cX6_alike 0 = .ok (.aload_n 0, 1) := by decide +kernel
theorem dX6_alike_1 : decode cX6_alike 1 = .ok (.iconst 0, 1) := by decide +kernel
theorem dX6_alike_2 : decode cX6_alike 2 = .ok (.putfield 44, 3) := by decide +kernel
theorem dX6_alike_5 : decode cX6_alike 5 = .ok (.aload_n 0, 1) := by decide +kernel
theorem dX6_alike_6 : decode cX6_alike 6 = .ok (.invokevirtual 301, 3) := by decide +kernel
theorem dX6_alike_9 : decode cX6_alike 9 = .ok (.iconst (-1), 1) := by decide +kernel
theorem dX6_alike_10 : decode cX6_alike 10 = .ok (.istore_n 1, 1) := by decide +kernel
theorem dX6_alike_11 : decode cX6_alike 11 = .ok (.iconst 1, 1) := by decide +kernel
theorem dX6_alike_12 : decode cX6_alike 12 = .ok (.istore_n 2, 1) := by decide +kernel
theorem dX6_alike_13 : decode cX6_alike 13 = .ok (.iload_n 2, 1) := by decide +kernel
theorem dX6_alike_14 : decode cX6_alike 14 = .ok (.bipush 50, 2) := by decide +kernel
theorem dX6_alike_16 : decode cX6_alike 16 = .ok (.if_icmp .gt 31, 3) := by decide +kernel
theorem dX6_alike_19 : decode cX6_alike 19 = .ok (.iload_n 1, 1) := by decide +kernel
theorem dX6_alike_20 : decode cX6_alike 20 = .ok (.iconst (-1), 1) := by decide +kernel
theorem dX6_alike_21 : decode cX6_alike 21 = .ok (.if_icmp .ne 26, 3) := by decide +kernel
theorem dX6_alike_24 : decode cX6_alike 24 = .ok (.aload_n 0, 1) := by decide +kernel
theorem dX6_alike_25 : decode cX6_alike 25 = .ok (.invokevirtual 228, 3) := by decide +kernel
theorem dX6_alike_28 : decode cX6_alike 28 = .ok (.aload_n 0, 1) := by decide +kernel
theorem dX6_alike_29 : decode cX6_alike 29 = .ok (.invokevirtual 310, 3) := by decide +kernel
theorem dX6_alike_32 : decode cX6_alike 32 = .ok (.ifCond .eq 7, 3) := by decide +kernel
theorem dX6_alike_35 : decode cX6_alike 35 = .ok (.iload_n 2, 1) := by decide +kernel
theorem dX6_alike_36 : decode cX6_alike 36 = .ok (.goto 4, 3) := by decide +kernel
theorem dX6_alike_39 : decode cX6_alike 39 = .ok (.iconst (-1), 1) := by decide +kernel
theorem dX6_alike_40 : decode cX6_alike 40 = .ok (.istore_n 1, 1) := by decide +kernel
theorem dX6_alike_41 : decode cX6_alike 41 = .ok (.iinc 2 1, 3) := by decide +kernel
theorem dX6_alike_44 : decode cX6_alike 44 = .ok (.goto (-31), 3) := by decide +kernel
theorem dX6_alike_47 : decode cX6_alike 47 = .ok (.aload_n 0, 1) := by decide +kernel
theorem dX6_alike_48 : decode cX6_alike 48 = .ok (.invokevirtual 314, 3) := by decide +kernel
theorem dX6_alike_51 : decode cX6_alike 51 = .ok (.iload_n 1, 1) := by decide +kernel
theorem dX6_alike_52 : decode cX6_alike 52 = .ok (.ireturn, 1) := by decide +kernel
theorem dX6_until_0 : decode cX6_until 0 = .ok (.aload_n 0, 1) := by decide +kernel
theorem dX6_until_1 : decode cX6_until 1 = .ok (.iconst 0, 1) := by decide +kernel
theorem dX6_until_2 : decode cX6_until 2 = .ok (.putfield 44, 3) := by decide +kernel
theorem dX6_until_5 : decode cX6_until 5 = .ok (.aload_n 0, 1) := by decide +kernel
theorem dX6_until_6 : decode cX6_until 6 = .ok (.invokevirtual 301, 3) := by decide +kernel
theorem dX6_until_9 : decode cX6_until 9 = .ok (.aload_n 0, 1) := by decide +kernel
theorem dX6_until_10 : decode cX6_until 10 = .ok (.iconst 1, 1) := by decide +kernel
theorem dX6_until_11 : decode cX6_until 11 = .ok (.invokevirtual 317, 3) := by decide +kernel
theorem dX6_until_14 : decode cX6_until 14 = .ok (.iload_n 1, 1) := by decide +kernel
theorem dX6_until_15 : decode cX6_until 15 = .ok (.if_icmp .gt 7, 3) := by decide +kernel
theorem dX6_until_18 : decode cX6_until 18 = .ok (.iconst 0, 1) := by decide +kernel
theorem dX6_until_19 : decode cX6_until 19 = .ok (.goto 4, 3) := by decide +kernel
theorem dX6_until_22 : decode cX6_until 22 = .ok (.iconst (-1), 1) := by decide +kernel
theorem dX6_until_23 : decode cX6_until 23 = .ok (.istore_n 2, 1) := by decide +kernel
theorem dX6_until_24 : decode cX6_until 24 = .ok (.iconst 1, 1) := by decide +kernel
theorem dX6_until_25 : decode cX6_until 25 = .ok (.istore_n 3, 1) := by decide +kernel
theorem dX6_until_26 : decode cX6_until 26 = .ok (.iload_n 3, 1) := by decide +kernel
theorem dX6_until_27 : decode cX6_until 27 = .ok (.bipush 99, 2) := by decide +kernel
theorem dX6_until_29 : decode cX6_until 29 = .ok (.if_icmp .gt 33, 3) := by decide +kernel
theorem dX6_until_32 : decode cX6_until 32 = .ok (.iload_n 2, 1) := by decide +kernel
theorem dX6_until_33 : decode cX6_until 33 = .ok (.iconst (-1), 1) := by decide +kernel
theorem dX6_until_34 : decode cX6_until 34 = .ok (.if_icmp .ne 28, 3) := by decide +kernel
theorem dX6_until_37 : decode cX6_until 37 = .ok (.aload_n 0, 1) := by decide +kernel
theorem dX6_until_38 : decode cX6_until 38 = .ok (.invokevirtual 228, 3) := by decide +kernel
theorem dX6_until_41 : decode cX6_until 41 = .ok (.aload_n 0, 1) := by decide +kernel
theorem dX6_until_42 : decode cX6_until 42 = .ok (.iconst 1, 1) := by decide +kernel
theorem dX6_until_43 : decode cX6_until 43 = .ok (.invokevirtual 317, 3) := by decide +kernel
theorem dX6_until_46 : decode cX6_until 46 = .ok (.iload_n 1, 1) := by decide +kernel
theorem dX6_until_47 : decode cX6_until 47 = .ok (.if_icmp .gt 7, 3) := by decide +kernel
theorem dX6_until_50 : decode cX6_until 50 = .ok (.iload_n 3, 1) := by decide +kernel
theorem dX6_until_51 : decode cX6_until 51 = .ok (.goto 4, 3) := by decide +kernel
theorem dX6_until_54 : decode cX6_until 54 = .ok (.iconst (-1), 1) := by decide +kernel
theorem dX6_until_55 : decode cX6_until 55 = .ok (.istore_n 2, 1) := by decide +kernel
theorem dX6_until_56 : decode cX6_until 56 = .ok (.iinc 3 1, 3) := by decide +kernel
theorem dX6_until_59 : decode cX6_until 59 = .ok (.goto (-33), 3) := by decide +kernel
theorem dX6_until_62 : decode cX6_until 62 = .ok (.aload_n 0, 1) := by decide +kernel
theorem dX6_until_63 : decode cX6_until 63 = .ok (.invokevirtual 314, 3) := by decide +kernel
theorem dX6_until_66 : decode cX6_until 66 = .ok (.iload_n 2, 1) := by decide +kernel
theorem dX6_until_67 : decode cX6_until 67 = .ok (.ireturn, 1) := by decide +kernel
theorem dX6_rested_0 : decode cX6_rested 0 = .ok (.aload_n 0, 1) := by decide +kernel
theorem dX6_rested_1 : decode cX6_rested 1 = .ok (.iconst 0, 1) := by decide +kernel
theorem dX6_rested_2 : decode cX6_rested 2 = .ok (.putfield 44, 3) := by decide +kernel
theorem dX6_rested_5 : decode cX6_rested 5 = .ok (.iload_n 2, 1) := by decide +kernel
theorem dX6_rested_6 : decode cX6_rested 6 = .ok (.i2l, 1) := by decide +kernel
theorem dX6_rested_7 : decode cX6_rested 7 = .ok (.lconst 1, 1) := by decide +kernel
theorem dX6_rested_8 : decode cX6_rested 8 = .ok (.ldc2_w 320, 3) := by decide +kernel
theorem dX6_rested_11 : decode cX6_rested 11 = .ok (.invokestatic 48, 3) := by decide +kernel
theorem dX6_rested_14 : decode cX6_rested 14 = .ok (.ifCond .eq 54, 3) := by decide +kernel
theorem dX6_rested_17 : decode cX6_rested 17 = .ok (.iload_n 1, 1) := by decide +kernel
theorem dX6_rested_18 : decode cX6_rested 18 = .ok (.i2l, 1) := by decide +kernel
theorem dX6_rested_19 : decode cX6_rested 19 = .ok (.lconst 0, 1) := by decide +kernel
theorem dX6_rested_20 : decode cX6_rested 20 = .ok (.ldc2_w 322, 3) := by decide +kernel
theorem dX6_rested_23 : decode cX6_rested 23 = .ok (.iload_n 2, 1) := by decide +kernel
theorem dX6_rested_24 : decode cX6_rested 24 = .ok (.i2l, 1) := by decide +kernel
theorem dX6_rested_25 : decode cX6_rested 25 = .ok (.lsub, 1) := by decide +kernel
theorem dX6_rested_26 : decode cX6_rested 26 = .ok (.invokestatic 48, 3) := by decide +kernel
theorem dX6_rested_29 : decode cX6_rested 29 = .ok (.ifCond .eq 39, 3) := by decide +kernel
theorem dX6_rested_32 : decode cX6_rested 32 = .ok (.iload_n 3, 1) := by decide +kernel
theorem dX6_rested_33 : decode cX6_rested 33 = .ok (.i2l, 1) := by decide +kernel
theorem dX6_rested_34 : decode cX6_rested 34 = .ok (.lconst 1, 1) := by decide +kernel
theorem dX6_rested_35 : decode cX6_rested 35 = .ok (.ldc2_w 145, 3) := by decide +kernel
theorem dX6_rested_38 : decode cX6_rested 38 = .ok (.invokestatic 48, 3) := by decide +kernel
theorem dX6_rested_41 : decode cX6_rested 41 = .ok (.ifCond .eq 27, 3) := by decide +kernel
theorem dX6_rested_44 : decode cX6_rested 44 = .ok (.iload 4, 2) := by decide +kernel
theorem dX6_rested_46 : decode cX6_rested 46 = .ok (.i2l, 1) := by decide +kernel
theorem dX6_rested_47 : decode cX6_rested 47 = .ok (.lconst 0, 1) := by decide +kernel
theorem dX6_rested_48 : decode cX6_rested 48 = .ok (.ldc2_w 145, 3) := by decide +kernel
theorem dX6_rested_51 : decode cX6_rested 51 = .ok (.invokestatic 48, 3) := by decide +kernel
theorem dX6_rested_54 : decode cX6_rested 54 = .ok (.ifCond .eq 14, 3) := by decide +kernel
theorem dX6_rested_57 : decode cX6_rested 57 = .ok (.iload 5, 2) := by decide +kernel
theorem dX6_rested_59 : decode cX6_rested 59 = .ok (.i2l, 1) := by decide +kernel
theorem dX6_rested_60 : decode cX6_rested 60 = .ok (.lconst 0, 1) := by decide +kernel
theorem dX6_rested_61 : decode cX6_rested 61 = .ok (.lconst 1, 1) := by decide +kernel
theorem dX6_rested_62 : decode cX6_rested 62 = .ok (.invokestatic 48, 3) := by decide +kernel
theorem dX6_rested_65 : decode cX6_rested 65 = .ok (.ifCond .ne 5, 3) := by decide +kernel
theorem dX6_rested_68 : decode cX6_rested 68 = .ok (.iconst (-1), 1) := by decide +kernel
theorem dX6_rested_69 : decode cX6_rested 69 = .ok (.ireturn, 1) := by decide +kernel
theorem dX6_rested_70 : decode cX6_rested 70 = .ok (.aload_n 0, 1) := by decide +kernel
theorem dX6_rested_71 : decode cX6_rested 71 = .ok (.invokevirtual 301, 3) := by decide +kernel
theorem dX6_rested_74 : decode cX6_rested 74 = .ok (.iconst (-1), 1) := by decide +kernel
theorem dX6_rested_75 : decode cX6_rested 75 = .ok (.istore 6, 2) := by decide +kernel
theorem dX6_rested_77 : decode cX6_rested 77 = .ok (.iconst (-1), 1) := by decide +kernel
theorem dX6_rested_78 : decode cX6_rested 78 = .ok (.istore 7, 2) := by decide +kernel
theorem dX6_rested_80 : decode cX6_rested 80 = .ok (.iconst 0, 1) := by decide +kernel
theorem dX6_rested_81 : decode cX6_rested 81 = .ok (.istore 8, 2) := by decide +kernel
theorem dX6_rested_83 : decode cX6_rested 83 = .ok (.iload 8, 2) := by decide +kernel
theorem dX6_rested_85 : decode cX6_rested 85 = .ok (.iload_n 2, 1) := by decide +kernel
theorem dX6_rested_86 : decode cX6_rested 86 = .ok (.if_icmp .ge 57, 3) := by decide +kernel
theorem dX6_rested_89 : decode cX6_rested 89 = .ok (.aload_n 0, 1) := by decide +kernel
theorem dX6_rested_90 : decode cX6_rested 90 = .ok (.iload_n 1, 1) := by decide +kernel
theorem dX6_rested_91 : decode cX6_rested 91 = .ok (.iload 8, 2) := by decide +kernel
theorem dX6_rested_93 : decode cX6_rested 93 = .ok (.iadd, 1) := by decide +kernel
theorem dX6_rested_94 : decode cX6_rested 94 = .ok (.iload_n 3, 1) := by decide +kernel
theorem dX6_rested_95 : decode cX6_rested 95 = .ok (.iload 4, 2) := by decide +kernel
theorem dX6_rested_97 : decode cX6_rested 97 = .ok (.invokevirtual 214, 3) := by decide +kernel
theorem dX6_rested_100 : decode cX6_rested 100 = .ok (.pop, 1) := by decide +kernel
theorem dX6_rested_101 : decode cX6_rested 101 = .ok (.aload_n 0, 1) := by decide +kernel
theorem dX6_rested_102 : decode cX6_rested 102 = .ok (.invokevirtual 234, 3) := by decide +kernel
theorem dX6_rested_105 : decode cX6_rested 105 = .ok (.pop, 1) := by decide +kernel
theorem dX6_rested_106 : decode cX6_rested 106 = .ok (.iload 6, 2) := by decide +kernel
theorem dX6_rested_108 : decode cX6_rested 108 = .ok (.iconst (-1), 1) := by decide +kernel
theorem dX6_rested_109 : decode cX6_rested 109 = .ok (.if_icmp .eq 12, 3) := by decide +kernel
theorem dX6_rested_112 : decode cX6_rested 112 = .ok (.aload_n 0, 1) := by decide +kernel
theorem dX6_rested_113 : decode cX6_rested 113 = .ok (.invokevirtual 288, 3) := by decide +kernel
theorem dX6_rested_116 : decode cX6_rested 116 = .ok (.iload 6, 2) := by decide +kernel
theorem dX6_rested_118 : decode cX6_rested 118 = .ok (.if_icmp .ge 15, 3) := by decide +kernel
theorem dX6_rested_121 : decode cX6_rested 121 = .ok (.aload_n 0, 1) := by decide +kernel
theorem dX6_rested_122 : decode cX6_rested 122 = .ok (.invokevirtual 288, 3) := by decide +kernel
theorem dX6_rested_125 : decode cX6_rested 125 = .ok (.istore 6, 2) := by decide +kernel
theorem dX6_rested_127 : decode cX6_rested 127 = .ok (.iload_n 1, 1) := by decide +kernel
theorem dX6_rested_128 : decode cX6_rested 128 = .ok (.iload 8, 2) := by decide +kernel
theorem dX6_rested_130 : decode cX6_rested 130 = .ok (.iadd, 1) := by decide +kernel
theorem dX6_rested_131 : decode cX6_rested 131 = .ok (.istore 7, 2) := by decide +kernel
theorem dX6_rested_133 : decode cX6_rested 133 = .ok (.aload_n 0, 1) := by decide +kernel
theorem dX6_rested_134 : decode cX6_rested 134 = .ok (.invokevirtual 314, 3) := by decide +kernel
theorem dX6_rested_137 : decode cX6_rested 137 = .ok (.iinc 8 1, 3) := by decide +kernel
theorem dX6_rested_140 : decode cX6_rested 140 = .ok (.goto (-57), 3) := by decide +kernel
theorem dX6_rested_143 : decode cX6_rested 143 = .ok (.iload 5, 2) := by decide +kernel
theorem dX6_rested_145 : decode cX6_rested 145 = .ok (.ifCond .ne 8, 3) := by decide +kernel
theorem dX6_rested_148 : decode cX6_rested 148 = .ok (.iload 6, 2) := by decide +kernel
theorem dX6_rested_150 : decode cX6_rested 150 = .ok (.goto 5, 3) := by decide +kernel
theorem dX6_rested_153 : decode cX6_rested 153 = .ok (.iload 7, 2) := by decide +kernel
theorem dX6_rested_155 : decode cX6_rested 155 = .ok (.ireturn, 1) := by decide +kernel
theorem dX6_resting_0 : decode cX6_resting 0 = .ok (.aload_n 0, 1) := by decide +kernel
theorem dX6_resting_1 : decode cX6_resting 1 = .ok (.iconst 0, 1) := by decide +kernel
theorem dX6_resting_2 : decode cX6_resting 2 = .ok (.putfield 44, 3) := by decide +kernel
theorem dX6_resting_5 : decode cX6_resting 5 = .ok (.iload_n 1, 1) := by decide +kernel
theorem dX6_resting_6 : decode cX6_resting 6 = .ok (.i2l, 1) := by decide +kernel
theorem dX6_resting_7 : decode cX6_resting 7 = .ok (.lconst 0, 1) := by decide +kernel
theorem dX6_resting_8 : decode cX6_resting 8 = .ok (.lconst 1, 1) := by decide +kernel
theorem dX6_resting_9 : decode cX6_resting 9 = .ok (.invokestatic 48, 3) := by decide +kernel
theorem dX6_resting_12 : decode cX6_resting 12 = .ok (.ifCond .ne 5, 3) := by decide +kernel
theorem dX6_resting_15 : decode cX6_resting 15 = .ok (.iconst (-1), 1) := by decide +kernel
theorem dX6_resting_16 : decode cX6_resting 16 = .ok (.ireturn, 1) := by decide +kernel
theorem dX6_resting_17 : decode cX6_resting 17 = .ok (.aload_n 0, 1) := by decide +kernel
theorem dX6_resting_18 : decode cX6_resting 18 = .ok (.invokevirtual 301, 3) := by decide +kernel
theorem dX6_resting_21 : decode cX6_resting 21 = .ok (.aload_n 0, 1) := by decide +kernel
theorem dX6_resting_22 : decode cX6_resting 22 = .ok (.invokevirtual 234, 3) := by decide +kernel
theorem dX6_resting_25 : decode cX6_resting 25 = .ok (.istore_n 2, 1) := by decide +kernel
theorem dX6_resting_26 : decode cX6_resting 26 = .ok (.iload_n 1, 1) := by decide +kernel
theorem dX6_resting_27 : decode cX6_resting 27 = .ok (.ifCond .ne 7, 3) := by decide +kernel
theorem dX6_resting_30 : decode cX6_resting 30 = .ok (.iload_n 2, 1) := by decide +kernel
theorem dX6_resting_31 : decode cX6_resting 31 = .ok (.goto 7, 3) := by decide +kernel
theorem dX6_resting_34 : decode cX6_resting 34 = .ok (.aload_n 0, 1) := by decide +kernel
theorem dX6_resting_35 : decode cX6_resting 35 = .ok (.invokevirtual 288, 3) := by decide +kernel
theorem dX6_resting_38 : decode cX6_resting 38 = .ok (.istore_n 3, 1) := by decide +kernel
theorem dX6_resting_39 : decode cX6_resting 39 = .ok (.aload_n 0, 1) := by decide +kernel
theorem dX6_resting_40 : decode cX6_resting 40 = .ok (.invokevirtual 314, 3) := by decide +kernel
theorem dX6_resting_43 : decode cX6_resting 43 = .ok (.iload_n 3, 1) := by decide +kernel
theorem dX6_resting_44 : decode cX6_resting 44 = .ok (.ireturn, 1) := by decide +kernel
theorem dX6_later_0 : decode cX6_later 0 = .ok (.aload_n 0, 1) := by decide +kernel
theorem dX6_later_1 : decode cX6_later 1 = .ok (.iconst 0, 1) := by decide +kernel
theorem dX6_later_2 : decode cX6_later 2 = .ok (.putfield 44, 3) := by decide +kernel
theorem dX6_later_5 : decode cX6_later 5 = .ok (.iload_n 1, 1) := by decide +kernel
theorem dX6_later_6 : decode cX6_later 6 = .ok (.i2l, 1) := by decide +kernel
theorem dX6_later_7 : decode cX6_later 7 = .ok (.lconst 0, 1) := by decide +kernel
theorem dX6_later_8 : decode cX6_later 8 = .ok (.ldc2_w 226, 3) := by decide +kernel
theorem dX6_later_11 : decode cX6_later 11 = .ok (.invokestatic 48, 3) := by decide +kernel
theorem dX6_later_14 : decode cX6_later 14 = .ok (.ifCond .eq 15, 3) := by decide +kernel
theorem dX6_later_17 : decode cX6_later 17 = .ok (.iload_n 2, 1) := by decide +kernel
theorem dX6_later_18 : decode cX6_later 18 = .ok (.i2l, 1) := by decide +kernel
theorem dX6_later_19 : decode cX6_later 19 = .ok (.lconst 0, 1) := by decide +kernel
theorem dX6_later_20 : decode cX6_later 20 = .ok (.ldc2_w 324, 3) := by decide +kernel
theorem dX6_later_23 : decode cX6_later 23 = .ok (.invokestatic 48, 3) := by decide +kernel
theorem dX6_later_26 : decode cX6_later 26 = .ok (.ifCond .ne 6, 3) := by decide +kernel
theorem dX6_later_29 : decode cX6_later 29 = .ok (.ldc 252, 2) := by decide +kernel
theorem dX6_later_31 : decode cX6_later 31 = .ok (.ireturn, 1) := by decide +kernel
theorem dX6_later_32 : decode cX6_later 32 = .ok (.aload_n 0, 1) := by decide +kernel
theorem dX6_later_33 : decode cX6_later 33 = .ok (.invokevirtual 301, 3) := by decide +kernel
theorem dX6_later_36 : decode cX6_later 36 = .ok (.iconst 0, 1) := by decide +kernel
theorem dX6_later_37 : decode cX6_later 37 = .ok (.istore_n 3, 1) := by decide +kernel
theorem dX6_later_38 : decode cX6_later 38 = .ok (.iload_n 3, 1) := by decide +kernel
theorem dX6_later_39 : decode cX6_later 39 = .ok (.iload_n 1, 1) := by decide +kernel
theorem dX6_later_40 : decode cX6_later 40 = .ok (.if_icmp .ge 13, 3) := by decide +kernel
theorem dX6_later_43 : decode cX6_later 43 = .ok (.aload_n 0, 1) := by decide +kernel
theorem dX6_later_44 : decode cX6_later 44 = .ok (.invokevirtual 228, 3) := by decide +kernel
theorem dX6_later_47 : decode cX6_later 47 = .ok (.iinc 3 1, 3) := by decide +kernel
theorem dX6_later_50 : decode cX6_later 50 = .ok (.goto (-12), 3) := by decide +kernel
theorem dX6_later_53 : decode cX6_later 53 = .ok (.iload_n 2, 1) := by decide +kernel
theorem dX6_later_54 : decode cX6_later 54 = .ok (.ifCond .ne 11, 3) := by decide +kernel
theorem dX6_later_57 : decode cX6_later 57 = .ok (.aload_n 0, 1) := by decide +kernel
theorem dX6_later_58 : decode cX6_later 58 = .ok (.iconst 1, 1) := by decide +kernel
theorem dX6_later_59 : decode cX6_later 59 = .ok (.invokevirtual 317, 3) := by decide +kernel
theorem dX6_later_62 : decode cX6_later 62 = .ok (.goto 62, 3) := by decide +kernel
theorem dX6_later_65 : decode cX6_later 65 = .ok (.iload_n 2, 1) := by decide +kernel
theorem dX6_later_66 : decode cX6_later 66 = .ok (.iconst 1, 1) := by decide +kernel
theorem dX6_later_67 : decode cX6_later 67 = .ok (.if_icmp .ne 10, 3) := by decide +kernel
theorem dX6_later_70 : decode cX6_later 70 = .ok (.aload_n 0, 1) := by decide +kernel
theorem dX6_later_71 : decode cX6_later 71 = .ok (.invokevirtual 288, 3) := by decide +kernel
theorem dX6_later_74 : decode cX6_later 74 = .ok (.goto 50, 3) := by decide +kernel
theorem dX6_later_77 : decode cX6_later 77 = .ok (.iload_n 2, 1) := by decide +kernel
theorem dX6_later_78 : decode cX6_later 78 = .ok (.iconst 2, 1) := by decide +kernel
theorem dX6_later_79 : decode cX6_later 79 = .ok (.if_icmp .ne 19, 3) := by decide +kernel
theorem dX6_later_82 : decode cX6_later 82 = .ok (.aload_n 0, 1) := by decide +kernel
theorem dX6_later_83 : decode cX6_later 83 = .ok (.getfield 9, 3) := by decide +kernel
theorem dX6_later_86 : decode cX6_later 86 = .ok (.iconst 4, 1) := by decide +kernel
theorem dX6_later_87 : decode cX6_later 87 = .ok (.iaload, 1) := by decide +kernel
theorem dX6_later_88 : decode cX6_later 88 = .ok (.aload_n 0, 1) := by decide +kernel
theorem dX6_later_89 : decode cX6_later 89 = .ok (.getfield 15, 3) := by decide +kernel
theorem dX6_later_92 : decode cX6_later 92 = .ok (.iconst 4, 1) := by decide +kernel
theorem dX6_later_93 : decode cX6_later 93 = .ok (.iaload, 1) := by decide +kernel
theorem dX6_later_94 : decode cX6_later 94 = .ok (.isub, 1) := by decide +kernel
theorem dX6_later_95 : decode cX6_later 95 = .ok (.goto 29, 3) := by decide +kernel
theorem dX6_later_98 : decode cX6_later 98 = .ok (.iload_n 2, 1) := by decide +kernel
theorem dX6_later_99 : decode cX6_later 99 = .ok (.iconst 3, 1) := by decide +kernel
theorem dX6_later_100 : decode cX6_later 100 = .ok (.if_icmp .ne 19, 3) := by decide +kernel
theorem dX6_later_103 : decode cX6_later 103 = .ok (.aload_n 0, 1) := by decide +kernel
theorem dX6_later_104 : decode cX6_later 104 = .ok (.getfield 9, 3) := by decide +kernel
theorem dX6_later_107 : decode cX6_later 107 = .ok (.iconst 5, 1) := by decide +kernel
theorem dX6_later_108 : decode cX6_later 108 = .ok (.iaload, 1) := by decide +kernel
theorem dX6_later_109 : decode cX6_later 109 = .ok (.aload_n 0, 1) := by decide +kernel
theorem dX6_later_110 : decode cX6_later 110 = .ok (.getfield 15, 3) := by decide +kernel
theorem dX6_later_113 : decode cX6_later 113 = .ok (.iconst 5, 1) := by decide +kernel
theorem dX6_later_114 : decode cX6_later 114 = .ok (.iaload, 1) := by decide +kernel
theorem dX6_later_115 : decode cX6_later 115 = .ok (.isub, 1) := by decide +kernel
theorem dX6_later_116 : decode cX6_later 116 = .ok (.goto 8, 3) := by decide +kernel
theorem dX6_later_119 : decode cX6_later 119 = .ok (.aload_n 0, 1) := by decide +kernel
theorem dX6_later_120 : decode cX6_later 120 = .ok (.iconst 4, 1) := by decide +kernel
theorem dX6_later_121 : decode cX6_later 121 = .ok (.invokevirtual 295, 3) := by decide +kernel
theorem dX6_later_124 : decode cX6_later 124 = .ok (.istore_n 3, 1) := by decide +kernel
theorem dX6_later_125 : decode cX6_later 125 = .ok (.aload_n 0, 1) := by decide +kernel
theorem dX6_later_126 : decode cX6_later 126 = .ok (.invokevirtual 314, 3) := by decide +kernel
theorem dX6_later_129 : decode cX6_later 129 = .ok (.iload_n 3, 1) := by decide +kernel
theorem dX6_later_130 : decode cX6_later 130 = .ok (.ireturn, 1) := by decide +kernel
theorem dX6_gone_0 : decode cX6_gone 0 = .ok (.aload_n 0, 1) := by decide +kernel
theorem dX6_gone_1 : decode cX6_gone 1 = .ok (.iconst 0, 1) := by decide +kernel
theorem dX6_gone_2 : decode cX6_gone 2 = .ok (.putfield 44, 3) := by decide +kernel
theorem dX6_gone_5 : decode cX6_gone 5 = .ok (.aload_n 0, 1) := by decide +kernel
theorem dX6_gone_6 : decode cX6_gone 6 = .ok (.iload_n 1, 1) := by decide +kernel
theorem dX6_gone_7 : decode cX6_gone 7 = .ok (.invokevirtual 93, 3) := by decide +kernel
theorem dX6_gone_10 : decode cX6_gone 10 = .ok (.ifCond .ne 5, 3) := by decide +kernel
theorem dX6_gone_13 : decode cX6_gone 13 = .ok (.iconst (-1), 1) := by decide +kernel
theorem dX6_gone_14 : decode cX6_gone 14 = .ok (.ireturn, 1) := by decide +kernel
theorem dX6_gone_15 : decode cX6_gone 15 = .ok (.aload_n 0, 1) := by decide +kernel
theorem dX6_gone_16 : decode cX6_gone 16 = .ok (.invokevirtual 301, 3) := by decide +kernel
theorem dX6_gone_19 : decode cX6_gone 19 = .ok (.iconst (-1), 1) := by decide +kernel
theorem dX6_gone_20 : decode cX6_gone 20 = .ok (.istore_n 2, 1) := by decide +kernel
theorem dX6_gone_21 : decode cX6_gone 21 = .ok (.iconst 1, 1) := by decide +kernel
theorem dX6_gone_22 : decode cX6_gone 22 = .ok (.istore_n 3, 1) := by decide +kernel
theorem dX6_gone_23 : decode cX6_gone 23 = .ok (.iload_n 3, 1) := by decide +kernel
theorem dX6_gone_24 : decode cX6_gone 24 = .ok (.bipush 50, 2) := by decide +kernel
theorem dX6_gone_26 : decode cX6_gone 26 = .ok (.if_icmp .gt 32, 3) := by decide +kernel
theorem dX6_gone_29 : decode cX6_gone 29 = .ok (.iload_n 2, 1) := by decide +kernel
theorem dX6_gone_30 : decode cX6_gone 30 = .ok (.iconst (-1), 1) := by decide +kernel
theorem dX6_gone_31 : decode cX6_gone 31 = .ok (.if_icmp .ne 27, 3) := by decide +kernel
theorem dX6_gone_34 : decode cX6_gone 34 = .ok (.aload_n 0, 1) := by decide +kernel
theorem dX6_gone_35 : decode cX6_gone 35 = .ok (.invokevirtual 228, 3) := by decide +kernel
theorem dX6_gone_38 : decode cX6_gone 38 = .ok (.aload_n 0, 1) := by decide +kernel
theorem dX6_gone_39 : decode cX6_gone 39 = .ok (.iload_n 1, 1) := by decide +kernel
theorem dX6_gone_40 : decode cX6_gone 40 = .ok (.invokevirtual 93, 3) := by decide +kernel
theorem dX6_gone_43 : decode cX6_gone 43 = .ok (.ifCond .eq 7, 3) := by decide +kernel
theorem dX6_gone_46 : decode cX6_gone 46 = .ok (.iconst (-1), 1) := by decide +kernel
theorem dX6_gone_47 : decode cX6_gone 47 = .ok (.goto 4, 3) := by decide +kernel
theorem dX6_gone_50 : decode cX6_gone 50 = .ok (.iload_n 3, 1) := by decide +kernel
theorem dX6_gone_51 : decode cX6_gone 51 = .ok (.istore_n 2, 1) := by decide +kernel
theorem dX6_gone_52 : decode cX6_gone 52 = .ok (.iinc 3 1, 3) := by decide +kernel
theorem dX6_gone_55 : decode cX6_gone 55 = .ok (.goto (-32), 3) := by decide +kernel
theorem dX6_gone_58 : decode cX6_gone 58 = .ok (.aload_n 0, 1) := by decide +kernel
theorem dX6_gone_59 : decode cX6_gone 59 = .ok (.invokevirtual 314, 3) := by decide +kernel
theorem dX6_gone_62 : decode cX6_gone 62 = .ok (.iload_n 2, 1) := by decide +kernel
theorem dX6_gone_63 : decode cX6_gone 63 = .ok (.ireturn, 1) := by decide +kernel
theorem dX6_first_0 : decode cX6_first 0 = .ok (.aload_n 0, 1) := by decide +kernel
theorem dX6_first_1 : decode cX6_first 1 = .ok (.iconst 0, 1) := by decide +kernel
theorem dX6_first_2 : decode cX6_first 2 = .ok (.putfield 44, 3) := by decide +kernel
theorem dX6_first_5 : decode cX6_first 5 = .ok (.iload_n 1, 1) := by decide +kernel
theorem dX6_first_6 : decode cX6_first 6 = .ok (.i2l, 1) := by decide +kernel
theorem dX6_first_7 : decode cX6_first 7 = .ok (.lconst 0, 1) := by decide +kernel
theorem dX6_first_8 : decode cX6_first 8 = .ok (.lconst 1, 1) := by decide +kernel
theorem dX6_first_9 : decode cX6_first 9 = .ok (.invokestatic 48, 3) := by decide +kernel
theorem dX6_first_12 : decode cX6_first 12 = .ok (.ifCond .ne 5, 3) := by decide +kernel
theorem dX6_first_15 : decode cX6_first 15 = .ok (.iconst (-1), 1) := by decide +kernel
theorem dX6_first_16 : decode cX6_first 16 = .ok (.ireturn, 1) := by decide +kernel
theorem dX6_first_17 : decode cX6_first 17 = .ok (.aload_n 0, 1) := by decide +kernel
theorem dX6_first_18 : decode cX6_first 18 = .ok (.invokevirtual 301, 3) := by decide +kernel
theorem dX6_first_21 : decode cX6_first 21 = .ok (.iload_n 1, 1) := by decide +kernel
theorem dX6_first_22 : decode cX6_first 22 = .ok (.ifCond .ne 7, 3) := by decide +kernel
theorem dX6_first_25 : decode cX6_first 25 = .ok (.iconst 4, 1) := by decide +kernel
theorem dX6_first_26 : decode cX6_first 26 = .ok (.goto 4, 3) := by decide +kernel
theorem dX6_first_29 : decode cX6_first 29 = .ok (.iconst 5, 1) := by decide +kernel
theorem dX6_first_30 : decode cX6_first 30 = .ok (.istore_n 2, 1) := by decide +kernel
theorem dX6_first_31 : decode cX6_first 31 = .ok (.iconst (-1), 1) := by decide +kernel
theorem dX6_first_32 : decode cX6_first 32 = .ok (.istore_n 3, 1) := by decide +kernel
theorem dX6_first_33 : decode cX6_first 33 = .ok (.iconst 1, 1) := by decide +kernel
theorem dX6_first_34 : decode cX6_first 34 = .ok (.istore 4, 2) := by decide +kernel
theorem dX6_first_36 : decode cX6_first 36 = .ok (.iload 4, 2) := by decide +kernel
theorem dX6_first_38 : decode cX6_first 38 = .ok (.bipush 50, 2) := by decide +kernel
theorem dX6_first_40 : decode cX6_first 40 = .ok (.if_icmp .gt 40, 3) := by decide +kernel
theorem dX6_first_43 : decode cX6_first 43 = .ok (.iload_n 3, 1) := by decide +kernel
theorem dX6_first_44 : decode cX6_first 44 = .ok (.iconst (-1), 1) := by decide +kernel
theorem dX6_first_45 : decode cX6_first 45 = .ok (.if_icmp .ne 35, 3) := by decide +kernel
theorem dX6_first_48 : decode cX6_first 48 = .ok (.aload_n 0, 1) := by decide +kernel
theorem dX6_first_49 : decode cX6_first 49 = .ok (.invokevirtual 228, 3) := by decide +kernel
theorem dX6_first_52 : decode cX6_first 52 = .ok (.aload_n 0, 1) := by decide +kernel
theorem dX6_first_53 : decode cX6_first 53 = .ok (.getfield 9, 3) := by decide +kernel
theorem dX6_first_56 : decode cX6_first 56 = .ok (.iload_n 2, 1) := by decide +kernel
theorem dX6_first_57 : decode cX6_first 57 = .ok (.iaload, 1) := by decide +kernel
theorem dX6_first_58 : decode cX6_first 58 = .ok (.aload_n 0, 1) := by decide +kernel
theorem dX6_first_59 : decode cX6_first 59 = .ok (.getfield 15, 3) := by decide +kernel
theorem dX6_first_62 : decode cX6_first 62 = .ok (.iload_n 2, 1) := by decide +kernel
theorem dX6_first_63 : decode cX6_first 63 = .ok (.iaload, 1) := by decide +kernel
theorem dX6_first_64 : decode cX6_first 64 = .ok (.if_icmp .le 8, 3) := by decide +kernel
theorem dX6_first_67 : decode cX6_first 67 = .ok (.iload 4, 2) := by decide +kernel
theorem dX6_first_69 : decode cX6_first 69 = .ok (.goto 4, 3) := by decide +kernel
theorem dX6_first_72 : decode cX6_first 72 = .ok (.iconst (-1), 1) := by decide +kernel
theorem dX6_first_73 : decode cX6_first 73 = .ok (.istore_n 3, 1) := by decide +kernel
theorem dX6_first_74 : decode cX6_first 74 = .ok (.iinc 4 1, 3) := by decide +kernel
theorem dX6_first_77 : decode cX6_first 77 = .ok (.goto (-41), 3) := by decide +kernel
theorem dX6_first_80 : decode cX6_first 80 = .ok (.aload_n 0, 1) := by decide +kernel
theorem dX6_first_81 : decode cX6_first 81 = .ok (.invokevirtual 314, 3) := by decide +kernel
theorem dX6_first_84 : decode cX6_first 84 = .ok (.iload_n 3, 1) := by decide +kernel
theorem dX6_first_85 : decode cX6_first 85 = .ok (.ireturn, 1) := by decide +kernel
theorem dX6_log_0 : decode cX6_log 0 = .ok (.aload_n 0, 1) := by decide +kernel
theorem dX6_log_1 : decode cX6_log 1 = .ok (.iconst 0, 1) := by decide +kernel
theorem dX6_log_2 : decode cX6_log 2 = .ok (.putfield 44, 3) := by decide +kernel
theorem dX6_log_5 : decode cX6_log 5 = .ok (.iload_n 1, 1) := by decide +kernel
theorem dX6_log_6 : decode cX6_log 6 = .ok (.i2l, 1) := by decide +kernel
theorem dX6_log_7 : decode cX6_log 7 = .ok (.lconst 0, 1) := by decide +kernel
theorem dX6_log_8 : decode cX6_log 8 = .ok (.aload_n 0, 1) := by decide +kernel
theorem dX6_log_9 : decode cX6_log 9 = .ok (.getfield 9, 3) := by decide +kernel
theorem dX6_log_12 : decode cX6_log 12 = .ok (.bipush 8, 2) := by decide +kernel
theorem dX6_log_14 : decode cX6_log 14 = .ok (.iaload, 1) := by decide +kernel
theorem dX6_log_15 : decode cX6_log 15 = .ok (.i2l, 1) := by decide +kernel
theorem dX6_log_16 : decode cX6_log 16 = .ok (.lconst 1, 1) := by decide +kernel
theorem dX6_log_17 : decode cX6_log 17 = .ok (.lsub, 1) := by decide +kernel
theorem dX6_log_18 : decode cX6_log 18 = .ok (.invokestatic 48, 3) := by decide +kernel
theorem dX6_log_21 : decode cX6_log 21 = .ok (.ifCond .eq 42, 3) := by decide +kernel
theorem dX6_log_24 : decode cX6_log 24 = .ok (.iload_n 2, 1) := by decide +kernel
theorem dX6_log_25 : decode cX6_log 25 = .ok (.i2l, 1) := by decide +kernel
theorem dX6_log_26 : decode cX6_log 26 = .ok (.lconst 0, 1) := by decide +kernel
theorem dX6_log_27 : decode cX6_log 27 = .ok (.ldc2_w 253, 3) := by decide +kernel
theorem dX6_log_30 : decode cX6_log 30 = .ok (.invokestatic 48, 3) := by decide +kernel
theorem dX6_log_33 : decode cX6_log 33 = .ok (.ifCond .eq 30, 3) := by decide +kernel
theorem dX6_log_36 : decode cX6_log 36 = .ok (.aload_n 0, 1) := by decide +kernel
theorem dX6_log_37 : decode cX6_log 37 = .ok (.getfield 9, 3) := by decide +kernel
theorem dX6_log_40 : decode cX6_log 40 = .ok (.sipush 1696, 3) := by decide +kernel
theorem dX6_log_43 : decode cX6_log 43 = .ok (.iconst 3, 1) := by decide +kernel
theorem dX6_log_44 : decode cX6_log 44 = .ok (.aload_n 0, 1) := by decide +kernel
theorem dX6_log_45 : decode cX6_log 45 = .ok (.getfield 9, 3) := by decide +kernel
theorem dX6_log_48 : decode cX6_log 48 = .ok (.bipush 8, 2) := by decide +kernel
theorem dX6_log_50 : decode cX6_log 50 = .ok (.iaload, 1) := by decide +kernel
theorem dX6_log_51 : decode cX6_log 51 = .ok (.iconst 1, 1) := by decide +kernel
theorem dX6_log_52 : decode cX6_log 52 = .ok (.isub, 1) := by decide +kernel
theorem dX6_log_53 : decode cX6_log 53 = .ok (.iload_n 1, 1) := by decide +kernel
theorem dX6_log_54 : decode cX6_log 54 = .ok (.isub, 1) := by decide +kernel
theorem dX6_log_55 : decode cX6_log 55 = .ok (.imul, 1) := by decide +kernel
theorem dX6_log_56 : decode cX6_log 56 = .ok (.iadd, 1) := by decide +kernel
theorem dX6_log_57 : decode cX6_log 57 = .ok (.iload_n 2, 1) := by decide +kernel
theorem dX6_log_58 : decode cX6_log 58 = .ok (.iadd, 1) := by decide +kernel
theorem dX6_log_59 : decode cX6_log 59 = .ok (.iaload, 1) := by decide +kernel
theorem dX6_log_60 : decode cX6_log 60 = .ok (.goto 4, 3) := by decide +kernel
theorem dX6_log_63 : decode cX6_log 63 = .ok (.iconst (-1), 1) := by decide +kernel
theorem dX6_log_64 : decode cX6_log 64 = .ok (.ireturn, 1) := by decide +kernel
theorem dX6_count_0 : decode cX6_count 0 = .ok (.aload_n 0, 1) := by decide +kernel
theorem dX6_count_1 : decode cX6_count 1 = .ok (.iconst 0, 1) := by decide +kernel
theorem dX6_count_2 : decode cX6_count 2 = .ok (.putfield 44, 3) := by decide +kernel
theorem dX6_count_5 : decode cX6_count 5 = .ok (.iload_n 1, 1) := by decide +kernel
theorem dX6_count_6 : decode cX6_count 6 = .ok (.tableswitch 166 0 15 #[78, 84, 90, 100, 107, 114, 121, 129, 136, 143, 150, 166, 166, 166, 166, 158], 78) := by decide +kernel
theorem dX6_count_84 : decode cX6_count 84 = .ok (.aload_n 0, 1) := by decide +kernel
theorem dX6_count_85 : decode cX6_count 85 = .ok (.iconst 1, 1) := by decide +kernel
theorem dX6_count_86 : decode cX6_count 86 = .ok (.invokevirtual 317, 3) := by decide +kernel
theorem dX6_count_89 : decode cX6_count 89 = .ok (.ireturn, 1) := by decide +kernel
theorem dX6_count_90 : decode cX6_count 90 = .ok (.aload_n 0, 1) := by decide +kernel
theorem dX6_count_91 : decode cX6_count 91 = .ok (.iconst 0, 1) := by decide +kernel
theorem dX6_count_92 : decode cX6_count 92 = .ok (.invokevirtual 317, 3) := by decide +kernel
theorem dX6_count_95 : decode cX6_count 95 = .ok (.ireturn, 1) := by decide +kernel
theorem dX6_count_96 : decode cX6_count 96 = .ok (.iconst 2, 1) := by decide +kernel
theorem dX6_count_97 : decode cX6_count 97 = .ok (.aload_n 0, 1) := by decide +kernel
theorem dX6_count_98 : decode cX6_count 98 = .ok (.iconst 0, 1) := by decide +kernel
theorem dX6_count_99 : decode cX6_count 99 = .ok (.invokevirtual 317, 3) := by decide +kernel
theorem dX6_count_102 : decode cX6_count 102 = .ok (.imul, 1) := by decide +kernel
theorem dX6_count_103 : decode cX6_count 103 = .ok (.iconst 3, 1) := by decide +kernel
theorem dX6_count_104 : decode cX6_count 104 = .ok (.idiv, 1) := by decide +kernel
theorem dX6_count_105 : decode cX6_count 105 = .ok (.ireturn, 1) := by decide +kernel
theorem dX6_count_106 : decode cX6_count 106 = .ok (.aload_n 0, 1) := by decide +kernel
theorem dX6_count_107 : decode cX6_count 107 = .ok (.getfield 9, 3) := by decide +kernel
theorem dX6_count_110 : decode cX6_count 110 = .ok (.iconst 3, 1) := by decide +kernel
theorem dX6_count_111 : decode cX6_count 111 = .ok (.iaload, 1) := by decide +kernel
theorem dX6_count_112 : decode cX6_count 112 = .ok (.ireturn, 1) := by decide +kernel
theorem dX6_count_113 : decode cX6_count 113 = .ok (.aload_n 0, 1) := by decide +kernel
theorem dX6_count_114 : decode cX6_count 114 = .ok (.getfield 9, 3) := by decide +kernel
theorem dX6_count_117 : decode cX6_count 117 = .ok (.iconst 4, 1) := by decide +kernel
theorem dX6_count_118 : decode cX6_count 118 = .ok (.iaload, 1) := by decide +kernel
theorem dX6_count_119 : decode cX6_count 119 = .ok (.ireturn, 1) := by decide +kernel
theorem dX6_count_120 : decode cX6_count 120 = .ok (.aload_n 0, 1) := by decide +kernel
theorem dX6_count_121 : decode cX6_count 121 = .ok (.getfield 9, 3) := by decide +kernel
theorem dX6_count_124 : decode cX6_count 124 = .ok (.iconst 5, 1) := by decide +kernel
theorem dX6_count_125 : decode cX6_count 125 = .ok (.iaload, 1) := by decide +kernel
theorem dX6_count_126 : decode cX6_count 126 = .ok (.ireturn, 1) := by decide +kernel
theorem dX6_count_127 : decode cX6_count 127 = .ok (.aload_n 0, 1) := by decide +kernel
theorem dX6_count_128 : decode cX6_count 128 = .ok (.getfield 9, 3) := by decide +kernel
theorem dX6_count_131 : decode cX6_count 131 = .ok (.bipush 6, 2) := by decide +kernel
theorem dX6_count_133 : decode cX6_count 133 = .ok (.iaload, 1) := by decide +kernel
theorem dX6_count_134 : decode cX6_count 134 = .ok (.ireturn, 1) := by decide +kernel
theorem dX6_count_135 : decode cX6_count 135 = .ok (.aload_n 0, 1) := by decide +kernel
theorem dX6_count_136 : decode cX6_count 136 = .ok (.getfield 9, 3) := by decide +kernel
theorem dX6_count_139 : decode cX6_count 139 = .ok (.iconst 0, 1) := by decide +kernel
theorem dX6_count_140 : decode cX6_count 140 = .ok (.iaload, 1) := by decide +kernel
theorem dX6_count_141 : decode cX6_count 141 = .ok (.ireturn, 1) := by decide +kernel
theorem dX6_count_142 : decode cX6_count 142 = .ok (.aload_n 0, 1) := by decide +kernel
theorem dX6_count_143 : decode cX6_count 143 = .ok (.getfield 9, 3) := by decide +kernel
theorem dX6_count_146 : decode cX6_count 146 = .ok (.iconst 1, 1) := by decide +kernel
theorem dX6_count_147 : decode cX6_count 147 = .ok (.iaload, 1) := by decide +kernel
theorem dX6_count_148 : decode cX6_count 148 = .ok (.ireturn, 1) := by decide +kernel
theorem dX6_count_149 : decode cX6_count 149 = .ok (.aload_n 0, 1) := by decide +kernel
theorem dX6_count_150 : decode cX6_count 150 = .ok (.getfield 9, 3) := by decide +kernel
theorem dX6_count_153 : decode cX6_count 153 = .ok (.iconst 2, 1) := by decide +kernel
theorem dX6_count_154 : decode cX6_count 154 = .ok (.iaload, 1) := by decide +kernel
theorem dX6_count_155 : decode cX6_count 155 = .ok (.ireturn, 1) := by decide +kernel
theorem dX6_count_156 : decode cX6_count 156 = .ok (.aload_n 0, 1) := by decide +kernel
theorem dX6_count_157 : decode cX6_count 157 = .ok (.getfield 9, 3) := by decide +kernel
theorem dX6_count_160 : decode cX6_count 160 = .ok (.bipush 8, 2) := by decide +kernel
theorem dX6_count_162 : decode cX6_count 162 = .ok (.iaload, 1) := by decide +kernel
theorem dX6_count_163 : decode cX6_count 163 = .ok (.ireturn, 1) := by decide +kernel
theorem dX6_count_164 : decode cX6_count 164 = .ok (.aload_n 0, 1) := by decide +kernel
theorem dX6_count_165 : decode cX6_count 165 = .ok (.getfield 9, 3) := by decide +kernel
theorem dX6_count_168 : decode cX6_count 168 = .ok (.bipush 7, 2) := by decide +kernel
theorem dX6_count_170 : decode cX6_count 170 = .ok (.iaload, 1) := by decide +kernel
theorem dX6_count_171 : decode cX6_count 171 = .ok (.ireturn, 1) := by decide +kernel
theorem dX6_count_172 : decode cX6_count 172 = .ok (.iload_n 1, 1) := by decide +kernel
theorem dX6_count_173 : decode cX6_count 173 = .ok (.i2l, 1) := by decide +kernel
theorem dX6_count_174 : decode cX6_count 174 = .ok (.ldc2_w 326, 3) := by decide +kernel
theorem dX6_count_177 : decode cX6_count 177 = .ok (.ldc2_w 328, 3) := by decide +kernel
theorem dX6_count_180 : decode cX6_count 180 = .ok (.invokestatic 48, 3) := by decide +kernel
theorem dX6_count_183 : decode cX6_count 183 = .ok (.ifCond .eq 18, 3) := by decide +kernel
theorem dX6_count_186 : decode cX6_count 186 = .ok (.aload_n 0, 1) := by decide +kernel
theorem dX6_count_187 : decode cX6_count 187 = .ok (.getfield 9, 3) := by decide +kernel
theorem dX6_count_190 : decode cX6_count 190 = .ok (.bipush 9, 2) := by decide +kernel
theorem dX6_count_192 : decode cX6_count 192 = .ok (.iload_n 1, 1) := by decide +kernel
theorem dX6_count_193 : decode cX6_count 193 = .ok (.iadd, 1) := by decide +kernel
theorem dX6_count_194 : decode cX6_count 194 = .ok (.bipush 10, 2) := by decide +kernel
theorem dX6_count_196 : decode cX6_count 196 = .ok (.isub, 1) := by decide +kernel
theorem dX6_count_197 : decode cX6_count 197 = .ok (.iaload, 1) := by decide +kernel
theorem dX6_count_198 : decode cX6_count 198 = .ok (.goto 4, 3) := by decide +kernel
theorem dX6_count_201 : decode cX6_count 201 = .ok (.iconst (-1), 1) := by decide +kernel
theorem dX6_count_202 : decode cX6_count 202 = .ok (.ireturn, 1) := by decide +kernel
