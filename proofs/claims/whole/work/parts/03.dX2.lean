theorem dX2_init_0 : decode cX2_init 0 = .ok (.aload_n 0, 1) := by decide +kernel
theorem dX2_init_1 : decode cX2_init 1 = .ok (.invokespecial 3, 3) := by decide +kernel
theorem dX2_init_4 : decode cX2_init 4 = .ok (.aload_n 0, 1) := by decide +kernel
theorem dX2_init_5 : decode cX2_init 5 = .ok (.sipush 288, 3) := by decide +kernel
theorem dX2_init_8 : decode cX2_init 8 = .ok (.newarray .int, 2) := by decide +kernel
theorem dX2_init_10 : decode cX2_init 10 = .ok (.putfield 9, 3) := by decide +kernel
theorem dX2_init_13 : decode cX2_init 13 = .ok (.aload_n 0, 1) := by decide +kernel
theorem dX2_init_14 : decode cX2_init 14 = .ok (.sipush 288, 3) := by decide +kernel
theorem dX2_init_17 : decode cX2_init 17 = .ok (.newarray .int, 2) := by decide +kernel
theorem dX2_init_19 : decode cX2_init 19 = .ok (.putfield 15, 3) := by decide +kernel
theorem dX2_init_22 : decode cX2_init 22 = .ok (.aload_n 0, 1) := by decide +kernel
theorem dX2_init_23 : decode cX2_init 23 = .ok (.sipush 288, 3) := by decide +kernel
theorem dX2_init_26 : decode cX2_init 26 = .ok (.newarray .int, 2) := by decide +kernel
theorem dX2_init_28 : decode cX2_init 28 = .ok (.putfield 18, 3) := by decide +kernel
theorem dX2_init_31 : decode cX2_init 31 = .ok (.aload_n 0, 1) := by decide +kernel
theorem dX2_init_32 : decode cX2_init 32 = .ok (.sipush 288, 3) := by decide +kernel
theorem dX2_init_35 : decode cX2_init 35 = .ok (.newarray .int, 2) := by decide +kernel
theorem dX2_init_37 : decode cX2_init 37 = .ok (.putfield 21, 3) := by decide +kernel
theorem dX2_init_40 : decode cX2_init 40 = .ok (.aload_n 0, 1) := by decide +kernel
theorem dX2_init_41 : decode cX2_init 41 = .ok (.sipush 288, 3) := by decide +kernel
theorem dX2_init_44 : decode cX2_init 44 = .ok (.newarray .int, 2) := by decide +kernel
theorem dX2_init_46 : decode cX2_init 46 = .ok (.putfield 24, 3) := by decide +kernel
theorem dX2_init_49 : decode cX2_init 49 = .ok (.aload_n 0, 1) := by decide +kernel
theorem dX2_init_50 : decode cX2_init 50 = .ok (.sipush 144, 3) := by decide +kernel
theorem dX2_init_53 : decode cX2_init 53 = .ok (.newarray .int, 2) := by decide +kernel
theorem dX2_init_55 : decode cX2_init 55 = .ok (.putfield 27, 3) := by decide +kernel
theorem dX2_init_58 : decode cX2_init 58 = .ok (.aload_n 0, 1) := by decide +kernel
theorem dX2_init_59 : decode cX2_init 59 = .ok (.bipush 48, 2) := by decide +kernel
theorem dX2_init_61 : decode cX2_init 61 = .ok (.newarray .int, 2) := by decide +kernel
theorem dX2_init_63 : decode cX2_init 63 = .ok (.putfield 30, 3) := by decide +kernel
theorem dX2_init_66 : decode cX2_init 66 = .ok (.aload_n 0, 1) := by decide +kernel
theorem dX2_init_67 : decode cX2_init 67 = .ok (.bipush 48, 2) := by decide +kernel
theorem dX2_init_69 : decode cX2_init 69 = .ok (.newarray .int, 2) := by decide +kernel
theorem dX2_init_71 : decode cX2_init 71 = .ok (.putfield 33, 3) := by decide +kernel
theorem dX2_init_74 : decode cX2_init 74 = .ok (.return_, 1) := by decide +kernel
theorem dX2_copyOf_0 : decode cX2_copyOf 0 = .ok (.aload_n 1, 1) := by decide +kernel
theorem dX2_copyOf_1 : decode cX2_copyOf 1 = .ok (.getfield 9, 3) := by decide +kernel
theorem dX2_copyOf_4 : decode cX2_copyOf 4 = .ok (.iconst 0, 1) := by decide +kernel
theorem dX2_copyOf_5 : decode cX2_copyOf 5 = .ok (.aload_n 0, 1) := by decide +kernel
theorem dX2_copyOf_6 : decode cX2_copyOf 6 = .ok (.getfield 9, 3) := by decide +kernel
theorem dX2_copyOf_9 : decode cX2_copyOf 9 = .ok (.iconst 0, 1) := by decide +kernel
theorem dX2_copyOf_10 : decode cX2_copyOf 10 = .ok (.sipush 288, 3) := by decide +kernel
theorem dX2_copyOf_13 : decode cX2_copyOf 13 = .ok (.invokestatic 36, 3) := by decide +kernel
theorem dX2_copyOf_16 : decode cX2_copyOf 16 = .ok (.aload_n 1, 1) := by decide +kernel
theorem dX2_copyOf_17 : decode cX2_copyOf 17 = .ok (.getfield 15, 3) := by decide +kernel
theorem dX2_copyOf_20 : decode cX2_copyOf 20 = .ok (.iconst 0, 1) := by decide +kernel
theorem dX2_copyOf_21 : decode cX2_copyOf 21 = .ok (.aload_n 0, 1) := by decide +kernel
theorem dX2_copyOf_22 : decode cX2_copyOf 22 = .ok (.getfield 15, 3) := by decide +kernel
theorem dX2_copyOf_25 : decode cX2_copyOf 25 = .ok (.iconst 0, 1) := by decide +kernel
theorem dX2_copyOf_26 : decode cX2_copyOf 26 = .ok (.sipush 288, 3) := by decide +kernel
theorem dX2_copyOf_29 : decode cX2_copyOf 29 = .ok (.invokestatic 36, 3) := by decide +kernel
theorem dX2_copyOf_32 : decode cX2_copyOf 32 = .ok (.aload_n 1, 1) := by decide +kernel
theorem dX2_copyOf_33 : decode cX2_copyOf 33 = .ok (.getfield 18, 3) := by decide +kernel
theorem dX2_copyOf_36 : decode cX2_copyOf 36 = .ok (.iconst 0, 1) := by decide +kernel
theorem dX2_copyOf_37 : decode cX2_copyOf 37 = .ok (.aload_n 0, 1) := by decide +kernel
theorem dX2_copyOf_38 : decode cX2_copyOf 38 = .ok (.getfield 18, 3) := by decide +kernel
theorem dX2_copyOf_41 : decode cX2_copyOf 41 = .ok (.iconst 0, 1) := by decide +kernel
theorem dX2_copyOf_42 : decode cX2_copyOf 42 = .ok (.sipush 288, 3) := by decide +kernel
theorem dX2_copyOf_45 : decode cX2_copyOf 45 = .ok (.invokestatic 36, 3) := by decide +kernel
theorem dX2_copyOf_48 : decode cX2_copyOf 48 = .ok (.aload_n 1, 1) := by decide +kernel
theorem dX2_copyOf_49 : decode cX2_copyOf 49 = .ok (.getfield 21, 3) := by decide +kernel
theorem dX2_copyOf_52 : decode cX2_copyOf 52 = .ok (.iconst 0, 1) := by decide +kernel
theorem dX2_copyOf_53 : decode cX2_copyOf 53 = .ok (.aload_n 0, 1) := by decide +kernel
theorem dX2_copyOf_54 : decode cX2_copyOf 54 = .ok (.getfield 21, 3) := by decide +kernel
theorem dX2_copyOf_57 : decode cX2_copyOf 57 = .ok (.iconst 0, 1) := by decide +kernel
theorem dX2_copyOf_58 : decode cX2_copyOf 58 = .ok (.sipush 288, 3) := by decide +kernel
theorem dX2_copyOf_61 : decode cX2_copyOf 61 = .ok (.invokestatic 36, 3) := by decide +kernel
theorem dX2_copyOf_64 : decode cX2_copyOf 64 = .ok (.aload_n 1, 1) := by decide +kernel
theorem dX2_copyOf_65 : decode cX2_copyOf 65 = .ok (.getfield 24, 3) := by decide +kernel
theorem dX2_copyOf_68 : decode cX2_copyOf 68 = .ok (.iconst 0, 1) := by decide +kernel
theorem dX2_copyOf_69 : decode cX2_copyOf 69 = .ok (.aload_n 0, 1) := by decide +kernel
theorem dX2_copyOf_70 : decode cX2_copyOf 70 = .ok (.getfield 24, 3) := by decide +kernel
theorem dX2_copyOf_73 : decode cX2_copyOf 73 = .ok (.iconst 0, 1) := by decide +kernel
theorem dX2_copyOf_74 : decode cX2_copyOf 74 = .ok (.sipush 288, 3) := by decide +kernel
theorem dX2_copyOf_77 : decode cX2_copyOf 77 = .ok (.invokestatic 36, 3) := by decide +kernel
theorem dX2_copyOf_80 : decode cX2_copyOf 80 = .ok (.aload_n 1, 1) := by decide +kernel
theorem dX2_copyOf_81 : decode cX2_copyOf 81 = .ok (.getfield 27, 3) := by decide +kernel
theorem dX2_copyOf_84 : decode cX2_copyOf 84 = .ok (.iconst 0, 1) := by decide +kernel
theorem dX2_copyOf_85 : decode cX2_copyOf 85 = .ok (.aload_n 0, 1) := by decide +kernel
theorem dX2_copyOf_86 : decode cX2_copyOf 86 = .ok (.getfield 27, 3) := by decide +kernel
theorem dX2_copyOf_89 : decode cX2_copyOf 89 = .ok (.iconst 0, 1) := by decide +kernel
theorem dX2_copyOf_90 : decode cX2_copyOf 90 = .ok (.sipush 144, 3) := by decide +kernel
theorem dX2_copyOf_93 : decode cX2_copyOf 93 = .ok (.invokestatic 36, 3) := by decide +kernel
theorem dX2_copyOf_96 : decode cX2_copyOf 96 = .ok (.aload_n 1, 1) := by decide +kernel
theorem dX2_copyOf_97 : decode cX2_copyOf 97 = .ok (.getfield 30, 3) := by decide +kernel
theorem dX2_copyOf_100 : decode cX2_copyOf 100 = .ok (.iconst 0, 1) := by decide +kernel
theorem dX2_copyOf_101 : decode cX2_copyOf 101 = .ok (.aload_n 0, 1) := by decide +kernel
theorem dX2_copyOf_102 : decode cX2_copyOf 102 = .ok (.getfield 30, 3) := by decide +kernel
theorem dX2_copyOf_105 : decode cX2_copyOf 105 = .ok (.iconst 0, 1) := by decide +kernel
theorem dX2_copyOf_106 : decode cX2_copyOf 106 = .ok (.bipush 48, 2) := by decide +kernel
theorem dX2_copyOf_108 : decode cX2_copyOf 108 = .ok (.invokestatic 36, 3) := by decide +kernel
theorem dX2_copyOf_111 : decode cX2_copyOf 111 = .ok (.aload_n 1, 1) := by decide +kernel
theorem dX2_copyOf_112 : decode cX2_copyOf 112 = .ok (.getfield 33, 3) := by decide +kernel
theorem dX2_copyOf_115 : decode cX2_copyOf 115 = .ok (.iconst 0, 1) := by decide +kernel
theorem dX2_copyOf_116 : decode cX2_copyOf 116 = .ok (.aload_n 0, 1) := by decide +kernel
theorem dX2_copyOf_117 : decode cX2_copyOf 117 = .ok (.getfield 33, 3) := by decide +kernel
theorem dX2_copyOf_120 : decode cX2_copyOf 120 = .ok (.iconst 0, 1) := by decide +kernel
theorem dX2_copyOf_121 : decode cX2_copyOf 121 = .ok (.bipush 48, 2) := by decide +kernel
theorem dX2_copyOf_123 : decode cX2_copyOf 123 = .ok (.invokestatic 36, 3) := by decide +kernel
theorem dX2_copyOf_126 : decode cX2_copyOf 126 = .ok (.return_, 1) := by decide +kernel
theorem dX2_layRing_0 : decode cX2_layRing 0 = .ok (.iconst 0, 1) := by decide +kernel
theorem dX2_layRing_1 : decode cX2_layRing 1 = .ok (.istore_n 3, 1) := by decide +kernel
theorem dX2_layRing_2 : decode cX2_layRing 2 = .ok (.iload_n 3, 1) := by decide +kernel
theorem dX2_layRing_3 : decode cX2_layRing 3 = .ok (.sipush 288, 3) := by decide +kernel
theorem dX2_layRing_6 : decode cX2_layRing 6 = .ok (.if_icmp .ge 16, 3) := by decide +kernel
theorem dX2_layRing_9 : decode cX2_layRing 9 = .ok (.aload_n 0, 1) := by decide +kernel
theorem dX2_layRing_10 : decode cX2_layRing 10 = .ok (.getfield 9, 3) := by decide +kernel
theorem dX2_layRing_13 : decode cX2_layRing 13 = .ok (.iload_n 3, 1) := by decide +kernel
theorem dX2_layRing_14 : decode cX2_layRing 14 = .ok (.iconst (-1), 1) := by decide +kernel
theorem dX2_layRing_15 : decode cX2_layRing 15 = .ok (.iastore, 1) := by decide +kernel
theorem dX2_layRing_16 : decode cX2_layRing 16 = .ok (.iinc 3 1, 3) := by decide +kernel
theorem dX2_layRing_19 : decode cX2_layRing 19 = .ok (.goto (-17), 3) := by decide +kernel
theorem dX2_layRing_22 : decode cX2_layRing 22 = .ok (.iconst 0, 1) := by decide +kernel
theorem dX2_layRing_23 : decode cX2_layRing 23 = .ok (.istore_n 3, 1) := by decide +kernel
theorem dX2_layRing_24 : decode cX2_layRing 24 = .ok (.iload_n 3, 1) := by decide +kernel
theorem dX2_layRing_25 : decode cX2_layRing 25 = .ok (.bipush 48, 2) := by decide +kernel
theorem dX2_layRing_27 : decode cX2_layRing 27 = .ok (.if_icmp .ge 23, 3) := by decide +kernel
theorem dX2_layRing_30 : decode cX2_layRing 30 = .ok (.aload_n 0, 1) := by decide +kernel
theorem dX2_layRing_31 : decode cX2_layRing 31 = .ok (.getfield 30, 3) := by decide +kernel
theorem dX2_layRing_34 : decode cX2_layRing 34 = .ok (.iload_n 3, 1) := by decide +kernel
theorem dX2_layRing_35 : decode cX2_layRing 35 = .ok (.iconst 0, 1) := by decide +kernel
theorem dX2_layRing_36 : decode cX2_layRing 36 = .ok (.iastore, 1) := by decide +kernel
theorem dX2_layRing_37 : decode cX2_layRing 37 = .ok (.aload_n 0, 1) := by decide +kernel
theorem dX2_layRing_38 : decode cX2_layRing 38 = .ok (.getfield 33, 3) := by decide +kernel
theorem dX2_layRing_41 : decode cX2_layRing 41 = .ok (.iload_n 3, 1) := by decide +kernel
theorem dX2_layRing_42 : decode cX2_layRing 42 = .ok (.iconst 0, 1) := by decide +kernel
theorem dX2_layRing_43 : decode cX2_layRing 43 = .ok (.iastore, 1) := by decide +kernel
theorem dX2_layRing_44 : decode cX2_layRing 44 = .ok (.iinc 3 1, 3) := by decide +kernel
theorem dX2_layRing_47 : decode cX2_layRing 47 = .ok (.goto (-23), 3) := by decide +kernel
theorem dX2_layRing_50 : decode cX2_layRing 50 = .ok (.iconst 0, 1) := by decide +kernel
theorem dX2_layRing_51 : decode cX2_layRing 51 = .ok (.istore_n 3, 1) := by decide +kernel
theorem dX2_layRing_52 : decode cX2_layRing 52 = .ok (.iload_n 3, 1) := by decide +kernel
theorem dX2_layRing_53 : decode cX2_layRing 53 = .ok (.iload_n 2, 1) := by decide +kernel
theorem dX2_layRing_54 : decode cX2_layRing 54 = .ok (.if_icmp .ge 33, 3) := by decide +kernel
theorem dX2_layRing_57 : decode cX2_layRing 57 = .ok (.iconst 0, 1) := by decide +kernel
theorem dX2_layRing_58 : decode cX2_layRing 58 = .ok (.istore 4, 2) := by decide +kernel
theorem dX2_layRing_60 : decode cX2_layRing 60 = .ok (.iload 4, 2) := by decide +kernel
theorem dX2_layRing_62 : decode cX2_layRing 62 = .ok (.iload_n 1, 1) := by decide +kernel
theorem dX2_layRing_63 : decode cX2_layRing 63 = .ok (.if_icmp .ge 18, 3) := by decide +kernel
theorem dX2_layRing_66 : decode cX2_layRing 66 = .ok (.aload_n 0, 1) := by decide +kernel
theorem dX2_layRing_67 : decode cX2_layRing 67 = .ok (.iload 4, 2) := by decide +kernel
theorem dX2_layRing_69 : decode cX2_layRing 69 = .ok (.iload_n 3, 1) := by decide +kernel
theorem dX2_layRing_70 : decode cX2_layRing 70 = .ok (.iload_n 1, 1) := by decide +kernel
theorem dX2_layRing_71 : decode cX2_layRing 71 = .ok (.iload_n 2, 1) := by decide +kernel
theorem dX2_layRing_72 : decode cX2_layRing 72 = .ok (.invokevirtual 42, 3) := by decide +kernel
theorem dX2_layRing_75 : decode cX2_layRing 75 = .ok (.iinc 4 1, 3) := by decide +kernel
theorem dX2_layRing_78 : decode cX2_layRing 78 = .ok (.goto (-18), 3) := by decide +kernel
theorem dX2_layRing_81 : decode cX2_layRing 81 = .ok (.iinc 3 1, 3) := by decide +kernel
theorem dX2_layRing_84 : decode cX2_layRing 84 = .ok (.goto (-32), 3) := by decide +kernel
theorem dX2_layRing_87 : decode cX2_layRing 87 = .ok (.return_, 1) := by decide +kernel
theorem dX2_layCell_0 : decode cX2_layCell 0 = .ok (.iload_n 1, 1) := by decide +kernel
theorem dX2_layCell_1 : decode cX2_layCell 1 = .ok (.iload_n 3, 1) := by decide +kernel
theorem dX2_layCell_2 : decode cX2_layCell 2 = .ok (.iload_n 2, 1) := by decide +kernel
theorem dX2_layCell_3 : decode cX2_layCell 3 = .ok (.imul, 1) := by decide +kernel
theorem dX2_layCell_4 : decode cX2_layCell 4 = .ok (.iadd, 1) := by decide +kernel
theorem dX2_layCell_5 : decode cX2_layCell 5 = .ok (.istore 5, 2) := by decide +kernel
theorem dX2_layCell_7 : decode cX2_layCell 7 = .ok (.aload_n 0, 1) := by decide +kernel
theorem dX2_layCell_8 : decode cX2_layCell 8 = .ok (.getfield 30, 3) := by decide +kernel
theorem dX2_layCell_11 : decode cX2_layCell 11 = .ok (.iload 5, 2) := by decide +kernel
theorem dX2_layCell_13 : decode cX2_layCell 13 = .ok (.bipush 6, 2) := by decide +kernel
theorem dX2_layCell_15 : decode cX2_layCell 15 = .ok (.iastore, 1) := by decide +kernel
theorem dX2_layCell_16 : decode cX2_layCell 16 = .ok (.aload_n 0, 1) := by decide +kernel
theorem dX2_layCell_17 : decode cX2_layCell 17 = .ok (.getfield 33, 3) := by decide +kernel
theorem dX2_layCell_20 : decode cX2_layCell 20 = .ok (.iload 5, 2) := by decide +kernel
theorem dX2_layCell_22 : decode cX2_layCell 22 = .ok (.bipush 100, 2) := by decide +kernel
theorem dX2_layCell_24 : decode cX2_layCell 24 = .ok (.iastore, 1) := by decide +kernel
theorem dX2_layCell_25 : decode cX2_layCell 25 = .ok (.iload_n 1, 1) := by decide +kernel
theorem dX2_layCell_26 : decode cX2_layCell 26 = .ok (.iload_n 2, 1) := by decide +kernel
theorem dX2_layCell_27 : decode cX2_layCell 27 = .ok (.iconst 5, 1) := by decide +kernel
theorem dX2_layCell_28 : decode cX2_layCell 28 = .ok (.iload_n 3, 1) := by decide +kernel
theorem dX2_layCell_29 : decode cX2_layCell 29 = .ok (.iload 4, 2) := by decide +kernel
theorem dX2_layCell_31 : decode cX2_layCell 31 = .ok (.invokestatic 46, 3) := by decide +kernel
theorem dX2_layCell_34 : decode cX2_layCell 34 = .ok (.istore 6, 2) := by decide +kernel
theorem dX2_layCell_36 : decode cX2_layCell 36 = .ok (.iconst 0, 1) := by decide +kernel
theorem dX2_layCell_37 : decode cX2_layCell 37 = .ok (.istore 7, 2) := by decide +kernel
theorem dX2_layCell_39 : decode cX2_layCell 39 = .ok (.iload 7, 2) := by decide +kernel
theorem dX2_layCell_41 : decode cX2_layCell 41 = .ok (.bipush 6, 2) := by decide +kernel
theorem dX2_layCell_43 : decode cX2_layCell 43 = .ok (.if_icmp .ge 90, 3) := by decide +kernel
theorem dX2_layCell_46 : decode cX2_layCell 46 = .ok (.iload_n 1, 1) := by decide +kernel
theorem dX2_layCell_47 : decode cX2_layCell 47 = .ok (.iload_n 2, 1) := by decide +kernel
theorem dX2_layCell_48 : decode cX2_layCell 48 = .ok (.iload 7, 2) := by decide +kernel
theorem dX2_layCell_50 : decode cX2_layCell 50 = .ok (.iload_n 3, 1) := by decide +kernel
theorem dX2_layCell_51 : decode cX2_layCell 51 = .ok (.iload 4, 2) := by decide +kernel
theorem dX2_layCell_53 : decode cX2_layCell 53 = .ok (.invokestatic 46, 3) := by decide +kernel
theorem dX2_layCell_56 : decode cX2_layCell 56 = .ok (.istore 8, 2) := by decide +kernel
theorem dX2_layCell_58 : decode cX2_layCell 58 = .ok (.aload_n 0, 1) := by decide +kernel
theorem dX2_layCell_59 : decode cX2_layCell 59 = .ok (.getfield 9, 3) := by decide +kernel
theorem dX2_layCell_62 : decode cX2_layCell 62 = .ok (.iload 8, 2) := by decide +kernel
theorem dX2_layCell_64 : decode cX2_layCell 64 = .ok (.iload 5, 2) := by decide +kernel
theorem dX2_layCell_66 : decode cX2_layCell 66 = .ok (.iastore, 1) := by decide +kernel
theorem dX2_layCell_67 : decode cX2_layCell 67 = .ok (.aload_n 0, 1) := by decide +kernel
theorem dX2_layCell_68 : decode cX2_layCell 68 = .ok (.iload 6, 2) := by decide +kernel
theorem dX2_layCell_70 : decode cX2_layCell 70 = .ok (.iload 8, 2) := by decide +kernel
theorem dX2_layCell_72 : decode cX2_layCell 72 = .ok (.invokevirtual 50, 3) := by decide +kernel
theorem dX2_layCell_75 : decode cX2_layCell 75 = .ok (.iload 8, 2) := by decide +kernel
theorem dX2_layCell_77 : decode cX2_layCell 77 = .ok (.istore 6, 2) := by decide +kernel
theorem dX2_layCell_79 : decode cX2_layCell 79 = .ok (.iload 7, 2) := by decide +kernel
theorem dX2_layCell_81 : decode cX2_layCell 81 = .ok (.iconst 3, 1) := by decide +kernel
theorem dX2_layCell_82 : decode cX2_layCell 82 = .ok (.if_icmp .ge 45, 3) := by decide +kernel
theorem dX2_layCell_85 : decode cX2_layCell 85 = .ok (.aload_n 0, 1) := by decide +kernel
theorem dX2_layCell_86 : decode cX2_layCell 86 = .ok (.iload 8, 2) := by decide +kernel
theorem dX2_layCell_88 : decode cX2_layCell 88 = .ok (.iload_n 1, 1) := by decide +kernel
theorem dX2_layCell_89 : decode cX2_layCell 89 = .ok (.getstatic 54, 3) := by decide +kernel
theorem dX2_layCell_92 : decode cX2_layCell 92 = .ok (.iload 7, 2) := by decide +kernel
theorem dX2_layCell_94 : decode cX2_layCell 94 = .ok (.iaload, 1) := by decide +kernel
theorem dX2_layCell_95 : decode cX2_layCell 95 = .ok (.iadd, 1) := by decide +kernel
theorem dX2_layCell_96 : decode cX2_layCell 96 = .ok (.iload_n 3, 1) := by decide +kernel
theorem dX2_layCell_97 : decode cX2_layCell 97 = .ok (.invokestatic 57, 3) := by decide +kernel
theorem dX2_layCell_100 : decode cX2_layCell 100 = .ok (.iload_n 2, 1) := by decide +kernel
theorem dX2_layCell_101 : decode cX2_layCell 101 = .ok (.getstatic 61, 3) := by decide +kernel
theorem dX2_layCell_104 : decode cX2_layCell 104 = .ok (.iload 7, 2) := by decide +kernel
theorem dX2_layCell_106 : decode cX2_layCell 106 = .ok (.iaload, 1) := by decide +kernel
theorem dX2_layCell_107 : decode cX2_layCell 107 = .ok (.iadd, 1) := by decide +kernel
theorem dX2_layCell_108 : decode cX2_layCell 108 = .ok (.iload 4, 2) := by decide +kernel
theorem dX2_layCell_110 : decode cX2_layCell 110 = .ok (.invokestatic 57, 3) := by decide +kernel
theorem dX2_layCell_113 : decode cX2_layCell 113 = .ok (.invokevirtual 64, 3) := by decide +kernel
theorem dX2_layCell_116 : decode cX2_layCell 116 = .ok (.aload_n 0, 1) := by decide +kernel
theorem dX2_layCell_117 : decode cX2_layCell 117 = .ok (.getfield 27, 3) := by decide +kernel
theorem dX2_layCell_120 : decode cX2_layCell 120 = .ok (.iload 8, 2) := by decide +kernel
theorem dX2_layCell_122 : decode cX2_layCell 122 = .ok (.iconst 2, 1) := by decide +kernel
theorem dX2_layCell_123 : decode cX2_layCell 123 = .ok (.idiv, 1) := by decide +kernel
theorem dX2_layCell_124 : decode cX2_layCell 124 = .ok (.bipush 10, 2) := by decide +kernel
theorem dX2_layCell_126 : decode cX2_layCell 126 = .ok (.iastore, 1) := by decide +kernel
theorem dX2_layCell_127 : decode cX2_layCell 127 = .ok (.iinc 7 1, 3) := by decide +kernel
theorem dX2_layCell_130 : decode cX2_layCell 130 = .ok (.goto (-91), 3) := by decide +kernel
theorem dX2_layCell_133 : decode cX2_layCell 133 = .ok (.return_, 1) := by decide +kernel
theorem dX2_halfOnRing_0 : decode cX2_halfOnRing 0 = .ok (.iload_n 2, 1) := by decide +kernel
theorem dX2_halfOnRing_1 : decode cX2_halfOnRing 1 = .ok (.iconst 3, 1) := by decide +kernel
theorem dX2_halfOnRing_2 : decode cX2_halfOnRing 2 = .ok (.if_icmp .ge 15, 3) := by decide +kernel
theorem dX2_halfOnRing_5 : decode cX2_halfOnRing 5 = .ok (.iconst 2, 1) := by decide +kernel
theorem dX2_halfOnRing_6 : decode cX2_halfOnRing 6 = .ok (.iconst 3, 1) := by decide +kernel
theorem dX2_halfOnRing_7 : decode cX2_halfOnRing 7 = .ok (.iload_n 0, 1) := by decide +kernel
theorem dX2_halfOnRing_8 : decode cX2_halfOnRing 8 = .ok (.iload_n 3, 1) := by decide +kernel
theorem dX2_halfOnRing_9 : decode cX2_halfOnRing 9 = .ok (.iload_n 1, 1) := by decide +kernel
theorem dX2_halfOnRing_10 : decode cX2_halfOnRing 10 = .ok (.imul, 1) := by decide +kernel
theorem dX2_halfOnRing_11 : decode cX2_halfOnRing 11 = .ok (.iadd, 1) := by decide +kernel
theorem dX2_halfOnRing_12 : decode cX2_halfOnRing 12 = .ok (.imul, 1) := by decide +kernel
theorem dX2_halfOnRing_13 : decode cX2_halfOnRing 13 = .ok (.iload_n 2, 1) := by decide +kernel
theorem dX2_halfOnRing_14 : decode cX2_halfOnRing 14 = .ok (.iadd, 1) := by decide +kernel
theorem dX2_halfOnRing_15 : decode cX2_halfOnRing 15 = .ok (.imul, 1) := by decide +kernel
theorem dX2_halfOnRing_16 : decode cX2_halfOnRing 16 = .ok (.ireturn, 1) := by decide +kernel
theorem dX2_halfOnRing_17 : decode cX2_halfOnRing 17 = .ok (.iload_n 0, 1) := by decide +kernel
theorem dX2_halfOnRing_18 : decode cX2_halfOnRing 18 = .ok (.getstatic 54, 3) := by decide +kernel
theorem dX2_halfOnRing_21 : decode cX2_halfOnRing 21 = .ok (.iload_n 2, 1) := by decide +kernel
theorem dX2_halfOnRing_22 : decode cX2_halfOnRing 22 = .ok (.iaload, 1) := by decide +kernel
theorem dX2_halfOnRing_23 : decode cX2_halfOnRing 23 = .ok (.iadd, 1) := by decide +kernel
theorem dX2_halfOnRing_24 : decode cX2_halfOnRing 24 = .ok (.iload_n 3, 1) := by decide +kernel
theorem dX2_halfOnRing_25 : decode cX2_halfOnRing 25 = .ok (.invokestatic 68, 3) := by decide +kernel
theorem dX2_halfOnRing_28 : decode cX2_halfOnRing 28 = .ok (.istore 5, 2) := by decide +kernel
theorem dX2_halfOnRing_30 : decode cX2_halfOnRing 30 = .ok (.iload_n 1, 1) := by decide +kernel
theorem dX2_halfOnRing_31 : decode cX2_halfOnRing 31 = .ok (.getstatic 61, 3) := by decide +kernel
theorem dX2_halfOnRing_34 : decode cX2_halfOnRing 34 = .ok (.iload_n 2, 1) := by decide +kernel
theorem dX2_halfOnRing_35 : decode cX2_halfOnRing 35 = .ok (.iaload, 1) := by decide +kernel
theorem dX2_halfOnRing_36 : decode cX2_halfOnRing 36 = .ok (.iadd, 1) := by decide +kernel
theorem dX2_halfOnRing_37 : decode cX2_halfOnRing 37 = .ok (.iload 4, 2) := by decide +kernel
theorem dX2_halfOnRing_39 : decode cX2_halfOnRing 39 = .ok (.invokestatic 68, 3) := by decide +kernel
theorem dX2_halfOnRing_42 : decode cX2_halfOnRing 42 = .ok (.istore 6, 2) := by decide +kernel
theorem dX2_halfOnRing_44 : decode cX2_halfOnRing 44 = .ok (.iconst 2, 1) := by decide +kernel
theorem dX2_halfOnRing_45 : decode cX2_halfOnRing 45 = .ok (.iconst 3, 1) := by decide +kernel
theorem dX2_halfOnRing_46 : decode cX2_halfOnRing 46 = .ok (.iload 5, 2) := by decide +kernel
theorem dX2_halfOnRing_48 : decode cX2_halfOnRing 48 = .ok (.iload_n 3, 1) := by decide +kernel
theorem dX2_halfOnRing_49 : decode cX2_halfOnRing 49 = .ok (.iload 6, 2) := by decide +kernel
theorem dX2_halfOnRing_51 : decode cX2_halfOnRing 51 = .ok (.imul, 1) := by decide +kernel
theorem dX2_halfOnRing_52 : decode cX2_halfOnRing 52 = .ok (.iadd, 1) := by decide +kernel
theorem dX2_halfOnRing_53 : decode cX2_halfOnRing 53 = .ok (.imul, 1) := by decide +kernel
theorem dX2_halfOnRing_54 : decode cX2_halfOnRing 54 = .ok (.iload_n 2, 1) := by decide +kernel
theorem dX2_halfOnRing_55 : decode cX2_halfOnRing 55 = .ok (.iadd, 1) := by decide +kernel
theorem dX2_halfOnRing_56 : decode cX2_halfOnRing 56 = .ok (.iconst 3, 1) := by decide +kernel
theorem dX2_halfOnRing_57 : decode cX2_halfOnRing 57 = .ok (.isub, 1) := by decide +kernel
theorem dX2_halfOnRing_58 : decode cX2_halfOnRing 58 = .ok (.imul, 1) := by decide +kernel
theorem dX2_halfOnRing_59 : decode cX2_halfOnRing 59 = .ok (.iconst 1, 1) := by decide +kernel
theorem dX2_halfOnRing_60 : decode cX2_halfOnRing 60 = .ok (.iadd, 1) := by decide +kernel
theorem dX2_halfOnRing_61 : decode cX2_halfOnRing 61 = .ok (.ireturn, 1) := by decide +kernel
theorem dX2_over_0 : decode cX2_over 0 = .ok (.iload_n 0, 1) := by decide +kernel
theorem dX2_over_1 : decode cX2_over 1 = .ok (.iload_n 1, 1) := by decide +kernel
theorem dX2_over_2 : decode cX2_over 2 = .ok (.if_icmp .lt 7, 3) := by decide +kernel
theorem dX2_over_5 : decode cX2_over 5 = .ok (.iconst 1, 1) := by decide +kernel
theorem dX2_over_6 : decode cX2_over 6 = .ok (.goto 12, 3) := by decide +kernel
theorem dX2_over_9 : decode cX2_over 9 = .ok (.iload_n 0, 1) := by decide +kernel
theorem dX2_over_10 : decode cX2_over 10 = .ok (.ifCond .ge 7, 3) := by decide +kernel
theorem dX2_over_13 : decode cX2_over 13 = .ok (.iconst (-1), 1) := by decide +kernel
theorem dX2_over_14 : decode cX2_over 14 = .ok (.goto 4, 3) := by decide +kernel
theorem dX2_over_17 : decode cX2_over 17 = .ok (.iconst 0, 1) := by decide +kernel
theorem dX2_over_18 : decode cX2_over 18 = .ok (.ireturn, 1) := by decide +kernel
theorem dX2_link_0 : decode cX2_link 0 = .ok (.aload_n 0, 1) := by decide +kernel
theorem dX2_link_1 : decode cX2_link 1 = .ok (.getfield 15, 3) := by decide +kernel
theorem dX2_link_4 : decode cX2_link 4 = .ok (.iload_n 1, 1) := by decide +kernel
theorem dX2_link_5 : decode cX2_link 5 = .ok (.iload_n 2, 1) := by decide +kernel
theorem dX2_link_6 : decode cX2_link 6 = .ok (.iastore, 1) := by decide +kernel
theorem dX2_link_7 : decode cX2_link 7 = .ok (.aload_n 0, 1) := by decide +kernel
theorem dX2_link_8 : decode cX2_link 8 = .ok (.getfield 18, 3) := by decide +kernel
theorem dX2_link_11 : decode cX2_link 11 = .ok (.iload_n 2, 1) := by decide +kernel
theorem dX2_link_12 : decode cX2_link 12 = .ok (.iload_n 1, 1) := by decide +kernel
theorem dX2_link_13 : decode cX2_link 13 = .ok (.iastore, 1) := by decide +kernel
theorem dX2_link_14 : decode cX2_link 14 = .ok (.return_, 1) := by decide +kernel
theorem dX2_unlink_0 : decode cX2_unlink 0 = .ok (.aload_n 0, 1) := by decide +kernel
theorem dX2_unlink_1 : decode cX2_unlink 1 = .ok (.getfield 15, 3) := by decide +kernel
theorem dX2_unlink_4 : decode cX2_unlink 4 = .ok (.aload_n 0, 1) := by decide +kernel
theorem dX2_unlink_5 : decode cX2_unlink 5 = .ok (.getfield 18, 3) := by decide +kernel
theorem dX2_unlink_8 : decode cX2_unlink 8 = .ok (.iload_n 1, 1) := by decide +kernel
theorem dX2_unlink_9 : decode cX2_unlink 9 = .ok (.iaload, 1) := by decide +kernel
theorem dX2_unlink_10 : decode cX2_unlink 10 = .ok (.aload_n 0, 1) := by decide +kernel
theorem dX2_unlink_11 : decode cX2_unlink 11 = .ok (.getfield 15, 3) := by decide +kernel
theorem dX2_unlink_14 : decode cX2_unlink 14 = .ok (.iload_n 1, 1) := by decide +kernel
theorem dX2_unlink_15 : decode cX2_unlink 15 = .ok (.iaload, 1) := by decide +kernel
theorem dX2_unlink_16 : decode cX2_unlink 16 = .ok (.iastore, 1) := by decide +kernel
theorem dX2_unlink_17 : decode cX2_unlink 17 = .ok (.aload_n 0, 1) := by decide +kernel
theorem dX2_unlink_18 : decode cX2_unlink 18 = .ok (.getfield 18, 3) := by decide +kernel
theorem dX2_unlink_21 : decode cX2_unlink 21 = .ok (.aload_n 0, 1) := by decide +kernel
theorem dX2_unlink_22 : decode cX2_unlink 22 = .ok (.getfield 15, 3) := by decide +kernel
theorem dX2_unlink_25 : decode cX2_unlink 25 = .ok (.iload_n 1, 1) := by decide +kernel
theorem dX2_unlink_26 : decode cX2_unlink 26 = .ok (.iaload, 1) := by decide +kernel
theorem dX2_unlink_27 : decode cX2_unlink 27 = .ok (.aload_n 0, 1) := by decide +kernel
theorem dX2_unlink_28 : decode cX2_unlink 28 = .ok (.getfield 18, 3) := by decide +kernel
theorem dX2_unlink_31 : decode cX2_unlink 31 = .ok (.iload_n 1, 1) := by decide +kernel
theorem dX2_unlink_32 : decode cX2_unlink 32 = .ok (.iaload, 1) := by decide +kernel
theorem dX2_unlink_33 : decode cX2_unlink 33 = .ok (.iastore, 1) := by decide +kernel
theorem dX2_unlink_34 : decode cX2_unlink 34 = .ok (.return_, 1) := by decide +kernel
theorem dX2_setRound_0 : decode cX2_setRound 0 = .ok (.aload_n 0, 1) := by decide +kernel
theorem dX2_setRound_1 : decode cX2_setRound 1 = .ok (.getfield 21, 3) := by decide +kernel
theorem dX2_setRound_4 : decode cX2_setRound 4 = .ok (.iload_n 1, 1) := by decide +kernel
theorem dX2_setRound_5 : decode cX2_setRound 5 = .ok (.iload_n 2, 1) := by decide +kernel
theorem dX2_setRound_6 : decode cX2_setRound 6 = .ok (.iastore, 1) := by decide +kernel
theorem dX2_setRound_7 : decode cX2_setRound 7 = .ok (.aload_n 0, 1) := by decide +kernel
theorem dX2_setRound_8 : decode cX2_setRound 8 = .ok (.getfield 24, 3) := by decide +kernel
theorem dX2_setRound_11 : decode cX2_setRound 11 = .ok (.iload_n 1, 1) := by decide +kernel
theorem dX2_setRound_12 : decode cX2_setRound 12 = .ok (.iload_n 3, 1) := by decide +kernel
theorem dX2_setRound_13 : decode cX2_setRound 13 = .ok (.iastore, 1) := by decide +kernel
theorem dX2_setRound_14 : decode cX2_setRound 14 = .ok (.aload_n 0, 1) := by decide +kernel
theorem dX2_setRound_15 : decode cX2_setRound 15 = .ok (.getfield 21, 3) := by decide +kernel
theorem dX2_setRound_18 : decode cX2_setRound 18 = .ok (.iload_n 1, 1) := by decide +kernel
theorem dX2_setRound_19 : decode cX2_setRound 19 = .ok (.iconst 1, 1) := by decide +kernel
theorem dX2_setRound_20 : decode cX2_setRound 20 = .ok (.ixor, 1) := by decide +kernel
theorem dX2_setRound_21 : decode cX2_setRound 21 = .ok (.iload_n 2, 1) := by decide +kernel
theorem dX2_setRound_22 : decode cX2_setRound 22 = .ok (.ineg, 1) := by decide +kernel
theorem dX2_setRound_23 : decode cX2_setRound 23 = .ok (.iastore, 1) := by decide +kernel
theorem dX2_setRound_24 : decode cX2_setRound 24 = .ok (.aload_n 0, 1) := by decide +kernel
theorem dX2_setRound_25 : decode cX2_setRound 25 = .ok (.getfield 24, 3) := by decide +kernel
theorem dX2_setRound_28 : decode cX2_setRound 28 = .ok (.iload_n 1, 1) := by decide +kernel
theorem dX2_setRound_29 : decode cX2_setRound 29 = .ok (.iconst 1, 1) := by decide +kernel
theorem dX2_setRound_30 : decode cX2_setRound 30 = .ok (.ixor, 1) := by decide +kernel
theorem dX2_setRound_31 : decode cX2_setRound 31 = .ok (.iload_n 3, 1) := by decide +kernel
theorem dX2_setRound_32 : decode cX2_setRound 32 = .ok (.ineg, 1) := by decide +kernel
theorem dX2_setRound_33 : decode cX2_setRound 33 = .ok (.iastore, 1) := by decide +kernel
theorem dX2_setRound_34 : decode cX2_setRound 34 = .ok (.return_, 1) := by decide +kernel
theorem dX2_hasCell_0 : decode cX2_hasCell 0 = .ok (.iload_n 1, 1) := by decide +kernel
theorem dX2_hasCell_1 : decode cX2_hasCell 1 = .ok (.ifCond .lt 22, 3) := by decide +kernel
theorem dX2_hasCell_4 : decode cX2_hasCell 4 = .ok (.iload_n 1, 1) := by decide +kernel
theorem dX2_hasCell_5 : decode cX2_hasCell 5 = .ok (.bipush 48, 2) := by decide +kernel
theorem dX2_hasCell_7 : decode cX2_hasCell 7 = .ok (.if_icmp .ge 16, 3) := by decide +kernel
theorem dX2_hasCell_10 : decode cX2_hasCell 10 = .ok (.aload_n 0, 1) := by decide +kernel
theorem dX2_hasCell_11 : decode cX2_hasCell 11 = .ok (.getfield 30, 3) := by decide +kernel
theorem dX2_hasCell_14 : decode cX2_hasCell 14 = .ok (.iload_n 1, 1) := by decide +kernel
theorem dX2_hasCell_15 : decode cX2_hasCell 15 = .ok (.iaload, 1) := by decide +kernel
theorem dX2_hasCell_16 : decode cX2_hasCell 16 = .ok (.ifCond .le 7, 3) := by decide +kernel
theorem dX2_hasCell_19 : decode cX2_hasCell 19 = .ok (.iconst 1, 1) := by decide +kernel
theorem dX2_hasCell_20 : decode cX2_hasCell 20 = .ok (.goto 4, 3) := by decide +kernel
theorem dX2_hasCell_23 : decode cX2_hasCell 23 = .ok (.iconst 0, 1) := by decide +kernel
theorem dX2_hasCell_24 : decode cX2_hasCell 24 = .ok (.ireturn, 1) := by decide +kernel
theorem dX2_hasWall_0 : decode cX2_hasWall 0 = .ok (.iload_n 1, 1) := by decide +kernel
theorem dX2_hasWall_1 : decode cX2_hasWall 1 = .ok (.ifCond .lt 25, 3) := by decide +kernel
theorem dX2_hasWall_4 : decode cX2_hasWall 4 = .ok (.iload_n 1, 1) := by decide +kernel
theorem dX2_hasWall_5 : decode cX2_hasWall 5 = .ok (.sipush 144, 3) := by decide +kernel
theorem dX2_hasWall_8 : decode cX2_hasWall 8 = .ok (.if_icmp .ge 18, 3) := by decide +kernel
theorem dX2_hasWall_11 : decode cX2_hasWall 11 = .ok (.aload_n 0, 1) := by decide +kernel
theorem dX2_hasWall_12 : decode cX2_hasWall 12 = .ok (.getfield 9, 3) := by decide +kernel
theorem dX2_hasWall_15 : decode cX2_hasWall 15 = .ok (.iconst 2, 1) := by decide +kernel
theorem dX2_hasWall_16 : decode cX2_hasWall 16 = .ok (.iload_n 1, 1) := by decide +kernel
theorem dX2_hasWall_17 : decode cX2_hasWall 17 = .ok (.imul, 1) := by decide +kernel
theorem dX2_hasWall_18 : decode cX2_hasWall 18 = .ok (.iaload, 1) := by decide +kernel
theorem dX2_hasWall_19 : decode cX2_hasWall 19 = .ok (.ifCond .lt 7, 3) := by decide +kernel
theorem dX2_hasWall_22 : decode cX2_hasWall 22 = .ok (.iconst 1, 1) := by decide +kernel
theorem dX2_hasWall_23 : decode cX2_hasWall 23 = .ok (.goto 4, 3) := by decide +kernel
theorem dX2_hasWall_26 : decode cX2_hasWall 26 = .ok (.iconst 0, 1) := by decide +kernel
theorem dX2_hasWall_27 : decode cX2_hasWall 27 = .ok (.ireturn, 1) := by decide +kernel
theorem dX2_across_0 : decode cX2_across 0 = .ok (.aload_n 0, 1) := by decide +kernel
theorem dX2_across_1 : decode cX2_across 1 = .ok (.getfield 9, 3) := by decide +kernel
theorem dX2_across_4 : decode cX2_across 4 = .ok (.iload_n 1, 1) := by decide +kernel
theorem dX2_across_5 : decode cX2_across 5 = .ok (.iconst 1, 1) := by decide +kernel
theorem dX2_across_6 : decode cX2_across 6 = .ok (.ixor, 1) := by decide +kernel
theorem dX2_across_7 : decode cX2_across 7 = .ok (.iaload, 1) := by decide +kernel
theorem dX2_across_8 : decode cX2_across 8 = .ok (.ireturn, 1) := by decide +kernel
theorem dX2_endOf_0 : decode cX2_endOf 0 = .ok (.aload_n 0, 1) := by decide +kernel
theorem dX2_endOf_1 : decode cX2_endOf 1 = .ok (.getfield 9, 3) := by decide +kernel
theorem dX2_endOf_4 : decode cX2_endOf 4 = .ok (.aload_n 0, 1) := by decide +kernel
theorem dX2_endOf_5 : decode cX2_endOf 5 = .ok (.getfield 15, 3) := by decide +kernel
theorem dX2_endOf_8 : decode cX2_endOf 8 = .ok (.iload_n 1, 1) := by decide +kernel
theorem dX2_endOf_9 : decode cX2_endOf 9 = .ok (.iaload, 1) := by decide +kernel
theorem dX2_endOf_10 : decode cX2_endOf 10 = .ok (.iconst 1, 1) := by decide +kernel
theorem dX2_endOf_11 : decode cX2_endOf 11 = .ok (.ixor, 1) := by decide +kernel
theorem dX2_endOf_12 : decode cX2_endOf 12 = .ok (.iaload, 1) := by decide +kernel
theorem dX2_endOf_13 : decode cX2_endOf 13 = .ok (.ireturn, 1) := by decide +kernel
theorem dX2_firstHalf_0 : decode cX2_firstHalf 0 = .ok (.iconst 0, 1) := by decide +kernel
theorem dX2_firstHalf_1 : decode cX2_firstHalf 1 = .ok (.istore_n 2, 1) := by decide +kernel
theorem dX2_firstHalf_2 : decode cX2_firstHalf 2 = .ok (.iload_n 2, 1) := by decide +kernel
theorem dX2_firstHalf_3 : decode cX2_firstHalf 3 = .ok (.sipush 288, 3) := by decide +kernel
theorem dX2_firstHalf_6 : decode cX2_firstHalf 6 = .ok (.if_icmp .ge 21, 3) := by decide +kernel
theorem dX2_firstHalf_9 : decode cX2_firstHalf 9 = .ok (.aload_n 0, 1) := by decide +kernel
theorem dX2_firstHalf_10 : decode cX2_firstHalf 10 = .ok (.getfield 9, 3) := by decide +kernel
theorem dX2_firstHalf_13 : decode cX2_firstHalf 13 = .ok (.iload_n 2, 1) := by decide +kernel
theorem dX2_firstHalf_14 : decode cX2_firstHalf 14 = .ok (.iaload, 1) := by decide +kernel
theorem dX2_firstHalf_15 : decode cX2_firstHalf 15 = .ok (.iload_n 1, 1) := by decide +kernel
theorem dX2_firstHalf_16 : decode cX2_firstHalf 16 = .ok (.if_icmp .ne 5, 3) := by decide +kernel
theorem dX2_firstHalf_19 : decode cX2_firstHalf 19 = .ok (.iload_n 2, 1) := by decide +kernel
theorem dX2_firstHalf_20 : decode cX2_firstHalf 20 = .ok (.ireturn, 1) := by decide +kernel
theorem dX2_firstHalf_21 : decode cX2_firstHalf 21 = .ok (.iinc 2 1, 3) := by decide +kernel
theorem dX2_firstHalf_24 : decode cX2_firstHalf 24 = .ok (.goto (-22), 3) := by decide +kernel
theorem dX2_firstHalf_27 : decode cX2_firstHalf 27 = .ok (.iconst (-1), 1) := by decide +kernel
theorem dX2_firstHalf_28 : decode cX2_firstHalf 28 = .ok (.ireturn, 1) := by decide +kernel
theorem dX2_halfAt_0 : decode cX2_halfAt 0 = .ok (.iload_n 2, 1) := by decide +kernel
theorem dX2_halfAt_1 : decode cX2_halfAt 1 = .ok (.ifCond .lt 13, 3) := by decide +kernel
theorem dX2_halfAt_4 : decode cX2_halfAt 4 = .ok (.iload_n 2, 1) := by decide +kernel
theorem dX2_halfAt_5 : decode cX2_halfAt 5 = .ok (.aload_n 0, 1) := by decide +kernel
theorem dX2_halfAt_6 : decode cX2_halfAt 6 = .ok (.getfield 30, 3) := by decide +kernel
theorem dX2_halfAt_9 : decode cX2_halfAt 9 = .ok (.iload_n 1, 1) := by decide +kernel
theorem dX2_halfAt_10 : decode cX2_halfAt 10 = .ok (.iaload, 1) := by decide +kernel
theorem dX2_halfAt_11 : decode cX2_halfAt 11 = .ok (.if_icmp .lt 5, 3) := by decide +kernel
theorem dX2_halfAt_14 : decode cX2_halfAt 14 = .ok (.iconst (-1), 1) := by decide +kernel
theorem dX2_halfAt_15 : decode cX2_halfAt 15 = .ok (.ireturn, 1) := by decide +kernel
theorem dX2_halfAt_16 : decode cX2_halfAt 16 = .ok (.aload_n 0, 1) := by decide +kernel
theorem dX2_halfAt_17 : decode cX2_halfAt 17 = .ok (.iload_n 1, 1) := by decide +kernel
theorem dX2_halfAt_18 : decode cX2_halfAt 18 = .ok (.invokevirtual 73, 3) := by decide +kernel
theorem dX2_halfAt_21 : decode cX2_halfAt 21 = .ok (.istore_n 3, 1) := by decide +kernel
theorem dX2_halfAt_22 : decode cX2_halfAt 22 = .ok (.iconst 0, 1) := by decide +kernel
theorem dX2_halfAt_23 : decode cX2_halfAt 23 = .ok (.istore 4, 2) := by decide +kernel
theorem dX2_halfAt_25 : decode cX2_halfAt 25 = .ok (.iload 4, 2) := by decide +kernel
theorem dX2_halfAt_27 : decode cX2_halfAt 27 = .ok (.iload_n 2, 1) := by decide +kernel
theorem dX2_halfAt_28 : decode cX2_halfAt 28 = .ok (.if_icmp .ge 20, 3) := by decide +kernel
theorem dX2_halfAt_31 : decode cX2_halfAt 31 = .ok (.iload_n 3, 1) := by decide +kernel
theorem dX2_halfAt_32 : decode cX2_halfAt 32 = .ok (.ifCond .lt 16, 3) := by decide +kernel
theorem dX2_halfAt_35 : decode cX2_halfAt 35 = .ok (.aload_n 0, 1) := by decide +kernel
theorem dX2_halfAt_36 : decode cX2_halfAt 36 = .ok (.getfield 15, 3) := by decide +kernel
theorem dX2_halfAt_39 : decode cX2_halfAt 39 = .ok (.iload_n 3, 1) := by decide +kernel
theorem dX2_halfAt_40 : decode cX2_halfAt 40 = .ok (.iaload, 1) := by decide +kernel
theorem dX2_halfAt_41 : decode cX2_halfAt 41 = .ok (.istore_n 3, 1) := by decide +kernel
theorem dX2_halfAt_42 : decode cX2_halfAt 42 = .ok (.iinc 4 1, 3) := by decide +kernel
theorem dX2_halfAt_45 : decode cX2_halfAt 45 = .ok (.goto (-20), 3) := by decide +kernel
theorem dX2_halfAt_48 : decode cX2_halfAt 48 = .ok (.iload_n 3, 1) := by decide +kernel
theorem dX2_halfAt_49 : decode cX2_halfAt 49 = .ok (.ireturn, 1) := by decide +kernel
theorem dX2_canFlip_0 : decode cX2_canFlip 0 = .ok (.aload_n 0, 1) := by decide +kernel
theorem dX2_canFlip_1 : decode cX2_canFlip 1 = .ok (.getfield 9, 3) := by decide +kernel
theorem dX2_canFlip_4 : decode cX2_canFlip 4 = .ok (.iconst 2, 1) := by decide +kernel
theorem dX2_canFlip_5 : decode cX2_canFlip 5 = .ok (.iload_n 1, 1) := by decide +kernel
theorem dX2_canFlip_6 : decode cX2_canFlip 6 = .ok (.imul, 1) := by decide +kernel
theorem dX2_canFlip_7 : decode cX2_canFlip 7 = .ok (.iaload, 1) := by decide +kernel
theorem dX2_canFlip_8 : decode cX2_canFlip 8 = .ok (.istore_n 2, 1) := by decide +kernel
theorem dX2_canFlip_9 : decode cX2_canFlip 9 = .ok (.aload_n 0, 1) := by decide +kernel
theorem dX2_canFlip_10 : decode cX2_canFlip 10 = .ok (.getfield 9, 3) := by decide +kernel
theorem dX2_canFlip_13 : decode cX2_canFlip 13 = .ok (.iconst 2, 1) := by decide +kernel
theorem dX2_canFlip_14 : decode cX2_canFlip 14 = .ok (.iload_n 1, 1) := by decide +kernel
theorem dX2_canFlip_15 : decode cX2_canFlip 15 = .ok (.imul, 1) := by decide +kernel
theorem dX2_canFlip_16 : decode cX2_canFlip 16 = .ok (.iconst 1, 1) := by decide +kernel
theorem dX2_canFlip_17 : decode cX2_canFlip 17 = .ok (.iadd, 1) := by decide +kernel
theorem dX2_canFlip_18 : decode cX2_canFlip 18 = .ok (.iaload, 1) := by decide +kernel
theorem dX2_canFlip_19 : decode cX2_canFlip 19 = .ok (.istore_n 3, 1) := by decide +kernel
theorem dX2_canFlip_20 : decode cX2_canFlip 20 = .ok (.aload_n 0, 1) := by decide +kernel
theorem dX2_canFlip_21 : decode cX2_canFlip 21 = .ok (.getfield 30, 3) := by decide +kernel
theorem dX2_canFlip_24 : decode cX2_canFlip 24 = .ok (.iload_n 2, 1) := by decide +kernel
theorem dX2_canFlip_25 : decode cX2_canFlip 25 = .ok (.iaload, 1) := by decide +kernel
theorem dX2_canFlip_26 : decode cX2_canFlip 26 = .ok (.iconst 3, 1) := by decide +kernel
theorem dX2_canFlip_27 : decode cX2_canFlip 27 = .ok (.if_icmp .le 41, 3) := by decide +kernel
theorem dX2_canFlip_30 : decode cX2_canFlip 30 = .ok (.aload_n 0, 1) := by decide +kernel
theorem dX2_canFlip_31 : decode cX2_canFlip 31 = .ok (.getfield 30, 3) := by decide +kernel
theorem dX2_canFlip_34 : decode cX2_canFlip 34 = .ok (.iload_n 3, 1) := by decide +kernel
theorem dX2_canFlip_35 : decode cX2_canFlip 35 = .ok (.iaload, 1) := by decide +kernel
theorem dX2_canFlip_36 : decode cX2_canFlip 36 = .ok (.iconst 3, 1) := by decide +kernel
theorem dX2_canFlip_37 : decode cX2_canFlip 37 = .ok (.if_icmp .le 31, 3) := by decide +kernel
theorem dX2_canFlip_40 : decode cX2_canFlip 40 = .ok (.iload_n 2, 1) := by decide +kernel
theorem dX2_canFlip_41 : decode cX2_canFlip 41 = .ok (.iload_n 3, 1) := by decide +kernel
theorem dX2_canFlip_42 : decode cX2_canFlip 42 = .ok (.aload_n 0, 1) := by decide +kernel
theorem dX2_canFlip_43 : decode cX2_canFlip 43 = .ok (.iconst 2, 1) := by decide +kernel
theorem dX2_canFlip_44 : decode cX2_canFlip 44 = .ok (.iload_n 1, 1) := by decide +kernel
theorem dX2_canFlip_45 : decode cX2_canFlip 45 = .ok (.imul, 1) := by decide +kernel
theorem dX2_canFlip_46 : decode cX2_canFlip 46 = .ok (.invokevirtual 77, 3) := by decide +kernel
theorem dX2_canFlip_49 : decode cX2_canFlip 49 = .ok (.aload_n 0, 1) := by decide +kernel
theorem dX2_canFlip_50 : decode cX2_canFlip 50 = .ok (.iconst 2, 1) := by decide +kernel
theorem dX2_canFlip_51 : decode cX2_canFlip 51 = .ok (.iload_n 1, 1) := by decide +kernel
theorem dX2_canFlip_52 : decode cX2_canFlip 52 = .ok (.imul, 1) := by decide +kernel
theorem dX2_canFlip_53 : decode cX2_canFlip 53 = .ok (.iconst 1, 1) := by decide +kernel
theorem dX2_canFlip_54 : decode cX2_canFlip 54 = .ok (.iadd, 1) := by decide +kernel
theorem dX2_canFlip_55 : decode cX2_canFlip 55 = .ok (.invokevirtual 77, 3) := by decide +kernel
theorem dX2_canFlip_58 : decode cX2_canFlip 58 = .ok (.invokestatic 80, 3) := by decide +kernel
theorem dX2_canFlip_61 : decode cX2_canFlip 61 = .ok (.ifCond .eq 7, 3) := by decide +kernel
theorem dX2_canFlip_64 : decode cX2_canFlip 64 = .ok (.iconst 1, 1) := by decide +kernel
theorem dX2_canFlip_65 : decode cX2_canFlip 65 = .ok (.goto 4, 3) := by decide +kernel
theorem dX2_canFlip_68 : decode cX2_canFlip 68 = .ok (.iconst 0, 1) := by decide +kernel
theorem dX2_canFlip_69 : decode cX2_canFlip 69 = .ok (.ireturn, 1) := by decide +kernel
theorem dX2_areFour_0 : decode cX2_areFour 0 = .ok (.iload_n 0, 1) := by decide +kernel
theorem dX2_areFour_1 : decode cX2_areFour 1 = .ok (.iload_n 1, 1) := by decide +kernel
theorem dX2_areFour_2 : decode cX2_areFour 2 = .ok (.if_icmp .eq 32, 3) := by decide +kernel
theorem dX2_areFour_5 : decode cX2_areFour 5 = .ok (.iload_n 0, 1) := by decide +kernel
theorem dX2_areFour_6 : decode cX2_areFour 6 = .ok (.iload_n 2, 1) := by decide +kernel
theorem dX2_areFour_7 : decode cX2_areFour 7 = .ok (.if_icmp .eq 27, 3) := by decide +kernel
theorem dX2_areFour_10 : decode cX2_areFour 10 = .ok (.iload_n 0, 1) := by decide +kernel
theorem dX2_areFour_11 : decode cX2_areFour 11 = .ok (.iload_n 3, 1) := by decide +kernel
theorem dX2_areFour_12 : decode cX2_areFour 12 = .ok (.if_icmp .eq 22, 3) := by decide +kernel
theorem dX2_areFour_15 : decode cX2_areFour 15 = .ok (.iload_n 1, 1) := by decide +kernel
theorem dX2_areFour_16 : decode cX2_areFour 16 = .ok (.iload_n 2, 1) := by decide +kernel
theorem dX2_areFour_17 : decode cX2_areFour 17 = .ok (.if_icmp .eq 17, 3) := by decide +kernel
theorem dX2_areFour_20 : decode cX2_areFour 20 = .ok (.iload_n 1, 1) := by decide +kernel
theorem dX2_areFour_21 : decode cX2_areFour 21 = .ok (.iload_n 3, 1) := by decide +kernel
theorem dX2_areFour_22 : decode cX2_areFour 22 = .ok (.if_icmp .eq 12, 3) := by decide +kernel
theorem dX2_areFour_25 : decode cX2_areFour 25 = .ok (.iload_n 2, 1) := by decide +kernel
theorem dX2_areFour_26 : decode cX2_areFour 26 = .ok (.iload_n 3, 1) := by decide +kernel
theorem dX2_areFour_27 : decode cX2_areFour 27 = .ok (.if_icmp .eq 7, 3) := by decide +kernel
theorem dX2_areFour_30 : decode cX2_areFour 30 = .ok (.iconst 1, 1) := by decide +kernel
theorem dX2_areFour_31 : decode cX2_areFour 31 = .ok (.goto 4, 3) := by decide +kernel
theorem dX2_areFour_34 : decode cX2_areFour 34 = .ok (.iconst 0, 1) := by decide +kernel
theorem dX2_areFour_35 : decode cX2_areFour 35 = .ok (.ireturn, 1) := by decide +kernel
theorem dX2_easing_0 : decode cX2_easing 0 = .ok (.aload_n 0, 1) := by decide +kernel
theorem dX2_easing_1 : decode cX2_easing 1 = .ok (.getfield 30, 3) := by decide +kernel
theorem dX2_easing_4 : decode cX2_easing 4 = .ok (.aload_n 0, 1) := by decide +kernel
theorem dX2_easing_5 : decode cX2_easing 5 = .ok (.getfield 9, 3) := by decide +kernel
theorem dX2_easing_8 : decode cX2_easing 8 = .ok (.iconst 2, 1) := by decide +kernel
theorem dX2_easing_9 : decode cX2_easing 9 = .ok (.iload_n 1, 1) := by decide +kernel
theorem dX2_easing_10 : decode cX2_easing 10 = .ok (.imul, 1) := by decide +kernel
theorem dX2_easing_11 : decode cX2_easing 11 = .ok (.iaload, 1) := by decide +kernel
theorem dX2_easing_12 : decode cX2_easing 12 = .ok (.iaload, 1) := by decide +kernel
theorem dX2_easing_13 : decode cX2_easing 13 = .ok (.aload_n 0, 1) := by decide +kernel
theorem dX2_easing_14 : decode cX2_easing 14 = .ok (.getfield 30, 3) := by decide +kernel
theorem dX2_easing_17 : decode cX2_easing 17 = .ok (.aload_n 0, 1) := by decide +kernel
theorem dX2_easing_18 : decode cX2_easing 18 = .ok (.getfield 9, 3) := by decide +kernel
theorem dX2_easing_21 : decode cX2_easing 21 = .ok (.iconst 2, 1) := by decide +kernel
theorem dX2_easing_22 : decode cX2_easing 22 = .ok (.iload_n 1, 1) := by decide +kernel
theorem dX2_easing_23 : decode cX2_easing 23 = .ok (.imul, 1) := by decide +kernel
theorem dX2_easing_24 : decode cX2_easing 24 = .ok (.iconst 1, 1) := by decide +kernel
theorem dX2_easing_25 : decode cX2_easing 25 = .ok (.iadd, 1) := by decide +kernel
theorem dX2_easing_26 : decode cX2_easing 26 = .ok (.iaload, 1) := by decide +kernel
theorem dX2_easing_27 : decode cX2_easing 27 = .ok (.iaload, 1) := by decide +kernel
theorem dX2_easing_28 : decode cX2_easing 28 = .ok (.iadd, 1) := by decide +kernel
theorem dX2_easing_29 : decode cX2_easing 29 = .ok (.istore_n 2, 1) := by decide +kernel
theorem dX2_easing_30 : decode cX2_easing 30 = .ok (.aload_n 0, 1) := by decide +kernel
theorem dX2_easing_31 : decode cX2_easing 31 = .ok (.getfield 30, 3) := by decide +kernel
theorem dX2_easing_34 : decode cX2_easing 34 = .ok (.aload_n 0, 1) := by decide +kernel
theorem dX2_easing_35 : decode cX2_easing 35 = .ok (.iconst 2, 1) := by decide +kernel
theorem dX2_easing_36 : decode cX2_easing 36 = .ok (.iload_n 1, 1) := by decide +kernel
theorem dX2_easing_37 : decode cX2_easing 37 = .ok (.imul, 1) := by decide +kernel
theorem dX2_easing_38 : decode cX2_easing 38 = .ok (.invokevirtual 77, 3) := by decide +kernel
theorem dX2_easing_41 : decode cX2_easing 41 = .ok (.iaload, 1) := by decide +kernel
theorem dX2_easing_42 : decode cX2_easing 42 = .ok (.aload_n 0, 1) := by decide +kernel
theorem dX2_easing_43 : decode cX2_easing 43 = .ok (.getfield 30, 3) := by decide +kernel
theorem dX2_easing_46 : decode cX2_easing 46 = .ok (.aload_n 0, 1) := by decide +kernel
theorem dX2_easing_47 : decode cX2_easing 47 = .ok (.iconst 2, 1) := by decide +kernel
theorem dX2_easing_48 : decode cX2_easing 48 = .ok (.iload_n 1, 1) := by decide +kernel
theorem dX2_easing_49 : decode cX2_easing 49 = .ok (.imul, 1) := by decide +kernel
theorem dX2_easing_50 : decode cX2_easing 50 = .ok (.iconst 1, 1) := by decide +kernel
theorem dX2_easing_51 : decode cX2_easing 51 = .ok (.iadd, 1) := by decide +kernel
theorem dX2_easing_52 : decode cX2_easing 52 = .ok (.invokevirtual 77, 3) := by decide +kernel
theorem dX2_easing_55 : decode cX2_easing 55 = .ok (.iaload, 1) := by decide +kernel
theorem dX2_easing_56 : decode cX2_easing 56 = .ok (.iadd, 1) := by decide +kernel
theorem dX2_easing_57 : decode cX2_easing 57 = .ok (.istore_n 3, 1) := by decide +kernel
theorem dX2_easing_58 : decode cX2_easing 58 = .ok (.iconst 2, 1) := by decide +kernel
theorem dX2_easing_59 : decode cX2_easing 59 = .ok (.iload_n 2, 1) := by decide +kernel
theorem dX2_easing_60 : decode cX2_easing 60 = .ok (.iload_n 3, 1) := by decide +kernel
theorem dX2_easing_61 : decode cX2_easing 61 = .ok (.isub, 1) := by decide +kernel
theorem dX2_easing_62 : decode cX2_easing 62 = .ok (.imul, 1) := by decide +kernel
theorem dX2_easing_63 : decode cX2_easing 63 = .ok (.iconst 4, 1) := by decide +kernel
theorem dX2_easing_64 : decode cX2_easing 64 = .ok (.isub, 1) := by decide +kernel
theorem dX2_easing_65 : decode cX2_easing 65 = .ok (.ireturn, 1) := by decide +kernel
theorem dX2_flip_0 : decode cX2_flip 0 = .ok (.iconst 2, 1) := by decide +kernel
theorem dX2_flip_1 : decode cX2_flip 1 = .ok (.iload_n 1, 1) := by decide +kernel
theorem dX2_flip_2 : decode cX2_flip 2 = .ok (.imul, 1) := by decide +kernel
theorem dX2_flip_3 : decode cX2_flip 3 = .ok (.istore_n 2, 1) := by decide +kernel
theorem dX2_flip_4 : decode cX2_flip 4 = .ok (.iload_n 2, 1) := by decide +kernel
theorem dX2_flip_5 : decode cX2_flip 5 = .ok (.iconst 1, 1) := by decide +kernel
theorem dX2_flip_6 : decode cX2_flip 6 = .ok (.iadd, 1) := by decide +kernel
theorem dX2_flip_7 : decode cX2_flip 7 = .ok (.istore_n 3, 1) := by decide +kernel
theorem dX2_flip_8 : decode cX2_flip 8 = .ok (.aload_n 0, 1) := by decide +kernel
theorem dX2_flip_9 : decode cX2_flip 9 = .ok (.getfield 15, 3) := by decide +kernel
theorem dX2_flip_12 : decode cX2_flip 12 = .ok (.iload_n 2, 1) := by decide +kernel
theorem dX2_flip_13 : decode cX2_flip 13 = .ok (.iaload, 1) := by decide +kernel
theorem dX2_flip_14 : decode cX2_flip 14 = .ok (.iconst 1, 1) := by decide +kernel
theorem dX2_flip_15 : decode cX2_flip 15 = .ok (.ixor, 1) := by decide +kernel
theorem dX2_flip_16 : decode cX2_flip 16 = .ok (.istore 4, 2) := by decide +kernel
theorem dX2_flip_18 : decode cX2_flip 18 = .ok (.aload_n 0, 1) := by decide +kernel
theorem dX2_flip_19 : decode cX2_flip 19 = .ok (.getfield 18, 3) := by decide +kernel
theorem dX2_flip_22 : decode cX2_flip 22 = .ok (.iload_n 3, 1) := by decide +kernel
theorem dX2_flip_23 : decode cX2_flip 23 = .ok (.iaload, 1) := by decide +kernel
theorem dX2_flip_24 : decode cX2_flip 24 = .ok (.iconst 1, 1) := by decide +kernel
theorem dX2_flip_25 : decode cX2_flip 25 = .ok (.ixor, 1) := by decide +kernel
theorem dX2_flip_26 : decode cX2_flip 26 = .ok (.istore 5, 2) := by decide +kernel
theorem dX2_flip_28 : decode cX2_flip 28 = .ok (.aload_n 0, 1) := by decide +kernel
theorem dX2_flip_29 : decode cX2_flip 29 = .ok (.getfield 15, 3) := by decide +kernel
theorem dX2_flip_32 : decode cX2_flip 32 = .ok (.iload_n 3, 1) := by decide +kernel
theorem dX2_flip_33 : decode cX2_flip 33 = .ok (.iaload, 1) := by decide +kernel
theorem dX2_flip_34 : decode cX2_flip 34 = .ok (.iconst 1, 1) := by decide +kernel
theorem dX2_flip_35 : decode cX2_flip 35 = .ok (.ixor, 1) := by decide +kernel
theorem dX2_flip_36 : decode cX2_flip 36 = .ok (.istore 6, 2) := by decide +kernel
theorem dX2_flip_38 : decode cX2_flip 38 = .ok (.aload_n 0, 1) := by decide +kernel
theorem dX2_flip_39 : decode cX2_flip 39 = .ok (.getfield 18, 3) := by decide +kernel
theorem dX2_flip_42 : decode cX2_flip 42 = .ok (.iload_n 2, 1) := by decide +kernel
theorem dX2_flip_43 : decode cX2_flip 43 = .ok (.iaload, 1) := by decide +kernel
theorem dX2_flip_44 : decode cX2_flip 44 = .ok (.iconst 1, 1) := by decide +kernel
theorem dX2_flip_45 : decode cX2_flip 45 = .ok (.ixor, 1) := by decide +kernel
theorem dX2_flip_46 : decode cX2_flip 46 = .ok (.istore 7, 2) := by decide +kernel
theorem dX2_flip_48 : decode cX2_flip 48 = .ok (.aload_n 0, 1) := by decide +kernel
theorem dX2_flip_49 : decode cX2_flip 49 = .ok (.getfield 21, 3) := by decide +kernel
theorem dX2_flip_52 : decode cX2_flip 52 = .ok (.iload 4, 2) := by decide +kernel
theorem dX2_flip_54 : decode cX2_flip 54 = .ok (.iaload, 1) := by decide +kernel
theorem dX2_flip_55 : decode cX2_flip 55 = .ok (.aload_n 0, 1) := by decide +kernel
theorem dX2_flip_56 : decode cX2_flip 56 = .ok (.getfield 21, 3) := by decide +kernel
theorem dX2_flip_59 : decode cX2_flip 59 = .ok (.aload_n 0, 1) := by decide +kernel
theorem dX2_flip_60 : decode cX2_flip 60 = .ok (.getfield 18, 3) := by decide +kernel
theorem dX2_flip_63 : decode cX2_flip 63 = .ok (.iload_n 2, 1) := by decide +kernel
theorem dX2_flip_64 : decode cX2_flip 64 = .ok (.iaload, 1) := by decide +kernel
theorem dX2_flip_65 : decode cX2_flip 65 = .ok (.iaload, 1) := by decide +kernel
theorem dX2_flip_66 : decode cX2_flip 66 = .ok (.iadd, 1) := by decide +kernel
theorem dX2_flip_67 : decode cX2_flip 67 = .ok (.istore 8, 2) := by decide +kernel
theorem dX2_flip_69 : decode cX2_flip 69 = .ok (.aload_n 0, 1) := by decide +kernel
theorem dX2_flip_70 : decode cX2_flip 70 = .ok (.getfield 24, 3) := by decide +kernel
theorem dX2_flip_73 : decode cX2_flip 73 = .ok (.iload 4, 2) := by decide +kernel
theorem dX2_flip_75 : decode cX2_flip 75 = .ok (.iaload, 1) := by decide +kernel
theorem dX2_flip_76 : decode cX2_flip 76 = .ok (.aload_n 0, 1) := by decide +kernel
theorem dX2_flip_77 : decode cX2_flip 77 = .ok (.getfield 24, 3) := by decide +kernel
theorem dX2_flip_80 : decode cX2_flip 80 = .ok (.aload_n 0, 1) := by decide +kernel
theorem dX2_flip_81 : decode cX2_flip 81 = .ok (.getfield 18, 3) := by decide +kernel
theorem dX2_flip_84 : decode cX2_flip 84 = .ok (.iload_n 2, 1) := by decide +kernel
theorem dX2_flip_85 : decode cX2_flip 85 = .ok (.iaload, 1) := by decide +kernel
theorem dX2_flip_86 : decode cX2_flip 86 = .ok (.iaload, 1) := by decide +kernel
theorem dX2_flip_87 : decode cX2_flip 87 = .ok (.iadd, 1) := by decide +kernel
theorem dX2_flip_88 : decode cX2_flip 88 = .ok (.istore 9, 2) := by decide +kernel
theorem dX2_flip_90 : decode cX2_flip 90 = .ok (.aload_n 0, 1) := by decide +kernel
theorem dX2_flip_91 : decode cX2_flip 91 = .ok (.iload_n 2, 1) := by decide +kernel
theorem dX2_flip_92 : decode cX2_flip 92 = .ok (.invokevirtual 84, 3) := by decide +kernel
theorem dX2_flip_95 : decode cX2_flip 95 = .ok (.aload_n 0, 1) := by decide +kernel
theorem dX2_flip_96 : decode cX2_flip 96 = .ok (.iload_n 3, 1) := by decide +kernel
theorem dX2_flip_97 : decode cX2_flip 97 = .ok (.invokevirtual 84, 3) := by decide +kernel
theorem dX2_flip_100 : decode cX2_flip 100 = .ok (.aload_n 0, 1) := by decide +kernel
theorem dX2_flip_101 : decode cX2_flip 101 = .ok (.getfield 30, 3) := by decide +kernel
theorem dX2_flip_104 : decode cX2_flip 104 = .ok (.aload_n 0, 1) := by decide +kernel
theorem dX2_flip_105 : decode cX2_flip 105 = .ok (.getfield 9, 3) := by decide +kernel
theorem dX2_flip_108 : decode cX2_flip 108 = .ok (.iload_n 2, 1) := by decide +kernel
theorem dX2_flip_109 : decode cX2_flip 109 = .ok (.iaload, 1) := by decide +kernel
theorem dX2_flip_110 : decode cX2_flip 110 = .ok (.dup2, 1) := by decide +kernel
theorem dX2_flip_111 : decode cX2_flip 111 = .ok (.iaload, 1) := by decide +kernel
theorem dX2_flip_112 : decode cX2_flip 112 = .ok (.iconst 1, 1) := by decide +kernel
theorem dX2_flip_113 : decode cX2_flip 113 = .ok (.isub, 1) := by decide +kernel
theorem dX2_flip_114 : decode cX2_flip 114 = .ok (.iastore, 1) := by decide +kernel
theorem dX2_flip_115 : decode cX2_flip 115 = .ok (.aload_n 0, 1) := by decide +kernel
theorem dX2_flip_116 : decode cX2_flip 116 = .ok (.getfield 30, 3) := by decide +kernel
theorem dX2_flip_119 : decode cX2_flip 119 = .ok (.aload_n 0, 1) := by decide +kernel
theorem dX2_flip_120 : decode cX2_flip 120 = .ok (.getfield 9, 3) := by decide +kernel
theorem dX2_flip_123 : decode cX2_flip 123 = .ok (.iload_n 3, 1) := by decide +kernel
theorem dX2_flip_124 : decode cX2_flip 124 = .ok (.iaload, 1) := by decide +kernel
theorem dX2_flip_125 : decode cX2_flip 125 = .ok (.dup2, 1) := by decide +kernel
theorem dX2_flip_126 : decode cX2_flip 126 = .ok (.iaload, 1) := by decide +kernel
theorem dX2_flip_127 : decode cX2_flip 127 = .ok (.iconst 1, 1) := by decide +kernel
theorem dX2_flip_128 : decode cX2_flip 128 = .ok (.isub, 1) := by decide +kernel
theorem dX2_flip_129 : decode cX2_flip 129 = .ok (.iastore, 1) := by decide +kernel
theorem dX2_flip_130 : decode cX2_flip 130 = .ok (.aload_n 0, 1) := by decide +kernel
theorem dX2_flip_131 : decode cX2_flip 131 = .ok (.iload_n 2, 1) := by decide +kernel
theorem dX2_flip_132 : decode cX2_flip 132 = .ok (.iload 4, 2) := by decide +kernel
theorem dX2_flip_134 : decode cX2_flip 134 = .ok (.iload 5, 2) := by decide +kernel
theorem dX2_flip_136 : decode cX2_flip 136 = .ok (.invokevirtual 88, 3) := by decide +kernel
theorem dX2_flip_139 : decode cX2_flip 139 = .ok (.aload_n 0, 1) := by decide +kernel
theorem dX2_flip_140 : decode cX2_flip 140 = .ok (.iload_n 3, 1) := by decide +kernel
theorem dX2_flip_141 : decode cX2_flip 141 = .ok (.iload 6, 2) := by decide +kernel
theorem dX2_flip_143 : decode cX2_flip 143 = .ok (.iload 7, 2) := by decide +kernel
theorem dX2_flip_145 : decode cX2_flip 145 = .ok (.invokevirtual 88, 3) := by decide +kernel
theorem dX2_flip_148 : decode cX2_flip 148 = .ok (.aload_n 0, 1) := by decide +kernel
theorem dX2_flip_149 : decode cX2_flip 149 = .ok (.iload_n 2, 1) := by decide +kernel
theorem dX2_flip_150 : decode cX2_flip 150 = .ok (.iload 8, 2) := by decide +kernel
theorem dX2_flip_152 : decode cX2_flip 152 = .ok (.iload 9, 2) := by decide +kernel
theorem dX2_flip_154 : decode cX2_flip 154 = .ok (.invokevirtual 64, 3) := by decide +kernel
theorem dX2_flip_157 : decode cX2_flip 157 = .ok (.aload_n 0, 1) := by decide +kernel
theorem dX2_flip_158 : decode cX2_flip 158 = .ok (.getfield 27, 3) := by decide +kernel
theorem dX2_flip_161 : decode cX2_flip 161 = .ok (.iload_n 1, 1) := by decide +kernel
theorem dX2_flip_162 : decode cX2_flip 162 = .ok (.bipush 10, 2) := by decide +kernel
theorem dX2_flip_164 : decode cX2_flip 164 = .ok (.iastore, 1) := by decide +kernel
theorem dX2_flip_165 : decode cX2_flip 165 = .ok (.return_, 1) := by decide +kernel
theorem dX2_insert_0 : decode cX2_insert 0 = .ok (.aload_n 0, 1) := by decide +kernel
theorem dX2_insert_1 : decode cX2_insert 1 = .ok (.getfield 15, 3) := by decide +kernel
theorem dX2_insert_4 : decode cX2_insert 4 = .ok (.iload_n 2, 1) := by decide +kernel
theorem dX2_insert_5 : decode cX2_insert 5 = .ok (.iload_n 1, 1) := by decide +kernel
theorem dX2_insert_6 : decode cX2_insert 6 = .ok (.iastore, 1) := by decide +kernel
theorem dX2_insert_7 : decode cX2_insert 7 = .ok (.aload_n 0, 1) := by decide +kernel
theorem dX2_insert_8 : decode cX2_insert 8 = .ok (.getfield 18, 3) := by decide +kernel
theorem dX2_insert_11 : decode cX2_insert 11 = .ok (.iload_n 1, 1) := by decide +kernel
theorem dX2_insert_12 : decode cX2_insert 12 = .ok (.iload_n 2, 1) := by decide +kernel
theorem dX2_insert_13 : decode cX2_insert 13 = .ok (.iastore, 1) := by decide +kernel
theorem dX2_insert_14 : decode cX2_insert 14 = .ok (.aload_n 0, 1) := by decide +kernel
theorem dX2_insert_15 : decode cX2_insert 15 = .ok (.getfield 15, 3) := by decide +kernel
theorem dX2_insert_18 : decode cX2_insert 18 = .ok (.iload_n 1, 1) := by decide +kernel
theorem dX2_insert_19 : decode cX2_insert 19 = .ok (.iload_n 3, 1) := by decide +kernel
theorem dX2_insert_20 : decode cX2_insert 20 = .ok (.iastore, 1) := by decide +kernel
theorem dX2_insert_21 : decode cX2_insert 21 = .ok (.aload_n 0, 1) := by decide +kernel
theorem dX2_insert_22 : decode cX2_insert 22 = .ok (.getfield 18, 3) := by decide +kernel
theorem dX2_insert_25 : decode cX2_insert 25 = .ok (.iload_n 3, 1) := by decide +kernel
theorem dX2_insert_26 : decode cX2_insert 26 = .ok (.iload_n 1, 1) := by decide +kernel
theorem dX2_insert_27 : decode cX2_insert 27 = .ok (.iastore, 1) := by decide +kernel
theorem dX2_insert_28 : decode cX2_insert 28 = .ok (.aload_n 0, 1) := by decide +kernel
theorem dX2_insert_29 : decode cX2_insert 29 = .ok (.getfield 9, 3) := by decide +kernel
theorem dX2_insert_32 : decode cX2_insert 32 = .ok (.iload_n 1, 1) := by decide +kernel
theorem dX2_insert_33 : decode cX2_insert 33 = .ok (.aload_n 0, 1) := by decide +kernel
theorem dX2_insert_34 : decode cX2_insert 34 = .ok (.getfield 9, 3) := by decide +kernel
theorem dX2_insert_37 : decode cX2_insert 37 = .ok (.iload_n 2, 1) := by decide +kernel
theorem dX2_insert_38 : decode cX2_insert 38 = .ok (.iaload, 1) := by decide +kernel
theorem dX2_insert_39 : decode cX2_insert 39 = .ok (.iastore, 1) := by decide +kernel
theorem dX2_insert_40 : decode cX2_insert 40 = .ok (.aload_n 0, 1) := by decide +kernel
theorem dX2_insert_41 : decode cX2_insert 41 = .ok (.getfield 30, 3) := by decide +kernel
theorem dX2_insert_44 : decode cX2_insert 44 = .ok (.aload_n 0, 1) := by decide +kernel
theorem dX2_insert_45 : decode cX2_insert 45 = .ok (.getfield 9, 3) := by decide +kernel
theorem dX2_insert_48 : decode cX2_insert 48 = .ok (.iload_n 1, 1) := by decide +kernel
theorem dX2_insert_49 : decode cX2_insert 49 = .ok (.iaload, 1) := by decide +kernel
theorem dX2_insert_50 : decode cX2_insert 50 = .ok (.dup2, 1) := by decide +kernel
theorem dX2_insert_51 : decode cX2_insert 51 = .ok (.iaload, 1) := by decide +kernel
theorem dX2_insert_52 : decode cX2_insert 52 = .ok (.iconst 1, 1) := by decide +kernel
theorem dX2_insert_53 : decode cX2_insert 53 = .ok (.iadd, 1) := by decide +kernel
theorem dX2_insert_54 : decode cX2_insert 54 = .ok (.iastore, 1) := by decide +kernel
theorem dX2_insert_55 : decode cX2_insert 55 = .ok (.return_, 1) := by decide +kernel
theorem dX2_easiestWall_0 : decode cX2_easiestWall 0 = .ok (.iconst (-1), 1) := by decide +kernel
theorem dX2_easiestWall_1 : decode cX2_easiestWall 1 = .ok (.istore_n 1, 1) := by decide +kernel
theorem dX2_easiestWall_2 : decode cX2_easiestWall 2 = .ok (.iconst 0, 1) := by decide +kernel
theorem dX2_easiestWall_3 : decode cX2_easiestWall 3 = .ok (.istore_n 2, 1) := by decide +kernel
theorem dX2_easiestWall_4 : decode cX2_easiestWall 4 = .ok (.iconst 0, 1) := by decide +kernel
theorem dX2_easiestWall_5 : decode cX2_easiestWall 5 = .ok (.istore_n 3, 1) := by decide +kernel
theorem dX2_easiestWall_6 : decode cX2_easiestWall 6 = .ok (.iload_n 3, 1) := by decide +kernel
theorem dX2_easiestWall_7 : decode cX2_easiestWall 7 = .ok (.sipush 144, 3) := by decide +kernel
theorem dX2_easiestWall_10 : decode cX2_easiestWall 10 = .ok (.if_icmp .ge 43, 3) := by decide +kernel
theorem dX2_easiestWall_13 : decode cX2_easiestWall 13 = .ok (.aload_n 0, 1) := by decide +kernel
theorem dX2_easiestWall_14 : decode cX2_easiestWall 14 = .ok (.iload_n 3, 1) := by decide +kernel
theorem dX2_easiestWall_15 : decode cX2_easiestWall 15 = .ok (.invokevirtual 91, 3) := by decide +kernel
theorem dX2_easiestWall_18 : decode cX2_easiestWall 18 = .ok (.ifCond .eq 29, 3) := by decide +kernel
theorem dX2_easiestWall_21 : decode cX2_easiestWall 21 = .ok (.aload_n 0, 1) := by decide +kernel
theorem dX2_easiestWall_22 : decode cX2_easiestWall 22 = .ok (.iload_n 3, 1) := by decide +kernel
theorem dX2_easiestWall_23 : decode cX2_easiestWall 23 = .ok (.invokevirtual 95, 3) := by decide +kernel
theorem dX2_easiestWall_26 : decode cX2_easiestWall 26 = .ok (.istore 4, 2) := by decide +kernel
theorem dX2_easiestWall_28 : decode cX2_easiestWall 28 = .ok (.iload 4, 2) := by decide +kernel
theorem dX2_easiestWall_30 : decode cX2_easiestWall 30 = .ok (.iload_n 2, 1) := by decide +kernel
theorem dX2_easiestWall_31 : decode cX2_easiestWall 31 = .ok (.if_icmp .le 16, 3) := by decide +kernel
theorem dX2_easiestWall_34 : decode cX2_easiestWall 34 = .ok (.aload_n 0, 1) := by decide +kernel
theorem dX2_easiestWall_35 : decode cX2_easiestWall 35 = .ok (.iload_n 3, 1) := by decide +kernel
theorem dX2_easiestWall_36 : decode cX2_easiestWall 36 = .ok (.invokevirtual 98, 3) := by decide +kernel
theorem dX2_easiestWall_39 : decode cX2_easiestWall 39 = .ok (.ifCond .eq 8, 3) := by decide +kernel
theorem dX2_easiestWall_42 : decode cX2_easiestWall 42 = .ok (.iload 4, 2) := by decide +kernel
theorem dX2_easiestWall_44 : decode cX2_easiestWall 44 = .ok (.istore_n 2, 1) := by decide +kernel
theorem dX2_easiestWall_45 : decode cX2_easiestWall 45 = .ok (.iload_n 3, 1) := by decide +kernel
theorem dX2_easiestWall_46 : decode cX2_easiestWall 46 = .ok (.istore_n 1, 1) := by decide +kernel
theorem dX2_easiestWall_47 : decode cX2_easiestWall 47 = .ok (.iinc 3 1, 3) := by decide +kernel
theorem dX2_easiestWall_50 : decode cX2_easiestWall 50 = .ok (.goto (-44), 3) := by decide +kernel
theorem dX2_easiestWall_53 : decode cX2_easiestWall 53 = .ok (.iload_n 1, 1) := by decide +kernel
theorem dX2_easiestWall_54 : decode cX2_easiestWall 54 = .ok (.ireturn, 1) := by decide +kernel
theorem dX2_flippable_0 : decode cX2_flippable 0 = .ok (.iconst 0, 1) := by decide +kernel
theorem dX2_flippable_1 : decode cX2_flippable 1 = .ok (.istore_n 1, 1) := by decide +kernel
theorem dX2_flippable_2 : decode cX2_flippable 2 = .ok (.iconst 0, 1) := by decide +kernel
theorem dX2_flippable_3 : decode cX2_flippable 3 = .ok (.istore_n 2, 1) := by decide +kernel
theorem dX2_flippable_4 : decode cX2_flippable 4 = .ok (.iload_n 2, 1) := by decide +kernel
theorem dX2_flippable_5 : decode cX2_flippable 5 = .ok (.sipush 144, 3) := by decide +kernel
theorem dX2_flippable_8 : decode cX2_flippable 8 = .ok (.if_icmp .ge 28, 3) := by decide +kernel
theorem dX2_flippable_11 : decode cX2_flippable 11 = .ok (.aload_n 0, 1) := by decide +kernel
theorem dX2_flippable_12 : decode cX2_flippable 12 = .ok (.iload_n 2, 1) := by decide +kernel
theorem dX2_flippable_13 : decode cX2_flippable 13 = .ok (.invokevirtual 91, 3) := by decide +kernel
theorem dX2_flippable_16 : decode cX2_flippable 16 = .ok (.ifCond .eq 14, 3) := by decide +kernel
theorem dX2_flippable_19 : decode cX2_flippable 19 = .ok (.aload_n 0, 1) := by decide +kernel
theorem dX2_flippable_20 : decode cX2_flippable 20 = .ok (.iload_n 2, 1) := by decide +kernel
theorem dX2_flippable_21 : decode cX2_flippable 21 = .ok (.invokevirtual 98, 3) := by decide +kernel
theorem dX2_flippable_24 : decode cX2_flippable 24 = .ok (.ifCond .eq 6, 3) := by decide +kernel
theorem dX2_flippable_27 : decode cX2_flippable 27 = .ok (.iinc 1 1, 3) := by decide +kernel
theorem dX2_flippable_30 : decode cX2_flippable 30 = .ok (.iinc 2 1, 3) := by decide +kernel
theorem dX2_flippable_33 : decode cX2_flippable 33 = .ok (.goto (-29), 3) := by decide +kernel
theorem dX2_flippable_36 : decode cX2_flippable 36 = .ok (.iload_n 1, 1) := by decide +kernel
theorem dX2_flippable_37 : decode cX2_flippable 37 = .ok (.ireturn, 1) := by decide +kernel
theorem dX2_shortestSide_0 : decode cX2_shortestSide 0 = .ok (.iconst (-1), 1) := by decide +kernel
theorem dX2_shortestSide_1 : decode cX2_shortestSide 1 = .ok (.istore_n 2, 1) := by decide +kernel
theorem dX2_shortestSide_2 : decode cX2_shortestSide 2 = .ok (.iconst 0, 1) := by decide +kernel
theorem dX2_shortestSide_3 : decode cX2_shortestSide 3 = .ok (.istore_n 3, 1) := by decide +kernel
theorem dX2_shortestSide_4 : decode cX2_shortestSide 4 = .ok (.iload_n 3, 1) := by decide +kernel
theorem dX2_shortestSide_5 : decode cX2_shortestSide 5 = .ok (.sipush 144, 3) := by decide +kernel
theorem dX2_shortestSide_8 : decode cX2_shortestSide 8 = .ok (.if_icmp .ge 84, 3) := by decide +kernel
theorem dX2_shortestSide_11 : decode cX2_shortestSide 11 = .ok (.aload_n 0, 1) := by decide +kernel
theorem dX2_shortestSide_12 : decode cX2_shortestSide 12 = .ok (.iload_n 3, 1) := by decide +kernel
theorem dX2_shortestSide_13 : decode cX2_shortestSide 13 = .ok (.invokevirtual 91, 3) := by decide +kernel
theorem dX2_shortestSide_16 : decode cX2_shortestSide 16 = .ok (.ifCond .eq 33, 3) := by decide +kernel
theorem dX2_shortestSide_19 : decode cX2_shortestSide 19 = .ok (.aload_n 0, 1) := by decide +kernel
theorem dX2_shortestSide_20 : decode cX2_shortestSide 20 = .ok (.getfield 9, 3) := by decide +kernel
theorem dX2_shortestSide_23 : decode cX2_shortestSide 23 = .ok (.iconst 2, 1) := by decide +kernel
theorem dX2_shortestSide_24 : decode cX2_shortestSide 24 = .ok (.iload_n 3, 1) := by decide +kernel
theorem dX2_shortestSide_25 : decode cX2_shortestSide 25 = .ok (.imul, 1) := by decide +kernel
theorem dX2_shortestSide_26 : decode cX2_shortestSide 26 = .ok (.iaload, 1) := by decide +kernel
theorem dX2_shortestSide_27 : decode cX2_shortestSide 27 = .ok (.iload_n 1, 1) := by decide +kernel
theorem dX2_shortestSide_28 : decode cX2_shortestSide 28 = .ok (.if_icmp .eq 17, 3) := by decide +kernel
theorem dX2_shortestSide_31 : decode cX2_shortestSide 31 = .ok (.aload_n 0, 1) := by decide +kernel
theorem dX2_shortestSide_32 : decode cX2_shortestSide 32 = .ok (.getfield 9, 3) := by decide +kernel
theorem dX2_shortestSide_35 : decode cX2_shortestSide 35 = .ok (.iconst 2, 1) := by decide +kernel
theorem dX2_shortestSide_36 : decode cX2_shortestSide 36 = .ok (.iload_n 3, 1) := by decide +kernel
theorem dX2_shortestSide_37 : decode cX2_shortestSide 37 = .ok (.imul, 1) := by decide +kernel
theorem dX2_shortestSide_38 : decode cX2_shortestSide 38 = .ok (.iconst 1, 1) := by decide +kernel
theorem dX2_shortestSide_39 : decode cX2_shortestSide 39 = .ok (.iadd, 1) := by decide +kernel
theorem dX2_shortestSide_40 : decode cX2_shortestSide 40 = .ok (.iaload, 1) := by decide +kernel
theorem dX2_shortestSide_41 : decode cX2_shortestSide 41 = .ok (.iload_n 1, 1) := by decide +kernel
theorem dX2_shortestSide_42 : decode cX2_shortestSide 42 = .ok (.if_icmp .ne 7, 3) := by decide +kernel
theorem dX2_shortestSide_45 : decode cX2_shortestSide 45 = .ok (.iconst 1, 1) := by decide +kernel
theorem dX2_shortestSide_46 : decode cX2_shortestSide 46 = .ok (.goto 4, 3) := by decide +kernel
theorem dX2_shortestSide_49 : decode cX2_shortestSide 49 = .ok (.iconst 0, 1) := by decide +kernel
theorem dX2_shortestSide_50 : decode cX2_shortestSide 50 = .ok (.istore 4, 2) := by decide +kernel
theorem dX2_shortestSide_52 : decode cX2_shortestSide 52 = .ok (.iload 4, 2) := by decide +kernel
theorem dX2_shortestSide_54 : decode cX2_shortestSide 54 = .ok (.ifCond .eq 32, 3) := by decide +kernel
theorem dX2_shortestSide_57 : decode cX2_shortestSide 57 = .ok (.aload_n 0, 1) := by decide +kernel
theorem dX2_shortestSide_58 : decode cX2_shortestSide 58 = .ok (.iload_n 3, 1) := by decide +kernel
theorem dX2_shortestSide_59 : decode cX2_shortestSide 59 = .ok (.invokevirtual 98, 3) := by decide +kernel
theorem dX2_shortestSide_62 : decode cX2_shortestSide 62 = .ok (.ifCond .eq 24, 3) := by decide +kernel
theorem dX2_shortestSide_65 : decode cX2_shortestSide 65 = .ok (.iload_n 2, 1) := by decide +kernel
theorem dX2_shortestSide_66 : decode cX2_shortestSide 66 = .ok (.ifCond .lt 18, 3) := by decide +kernel
theorem dX2_shortestSide_69 : decode cX2_shortestSide 69 = .ok (.aload_n 0, 1) := by decide +kernel
theorem dX2_shortestSide_70 : decode cX2_shortestSide 70 = .ok (.getfield 27, 3) := by decide +kernel
theorem dX2_shortestSide_73 : decode cX2_shortestSide 73 = .ok (.iload_n 3, 1) := by decide +kernel
theorem dX2_shortestSide_74 : decode cX2_shortestSide 74 = .ok (.iaload, 1) := by decide +kernel
theorem dX2_shortestSide_75 : decode cX2_shortestSide 75 = .ok (.aload_n 0, 1) := by decide +kernel
theorem dX2_shortestSide_76 : decode cX2_shortestSide 76 = .ok (.getfield 27, 3) := by decide +kernel
theorem dX2_shortestSide_79 : decode cX2_shortestSide 79 = .ok (.iload_n 2, 1) := by decide +kernel
theorem dX2_shortestSide_80 : decode cX2_shortestSide 80 = .ok (.iaload, 1) := by decide +kernel
theorem dX2_shortestSide_81 : decode cX2_shortestSide 81 = .ok (.if_icmp .ge 5, 3) := by decide +kernel
theorem dX2_shortestSide_84 : decode cX2_shortestSide 84 = .ok (.iload_n 3, 1) := by decide +kernel
theorem dX2_shortestSide_85 : decode cX2_shortestSide 85 = .ok (.istore_n 2, 1) := by decide +kernel
theorem dX2_shortestSide_86 : decode cX2_shortestSide 86 = .ok (.iinc 3 1, 3) := by decide +kernel
theorem dX2_shortestSide_89 : decode cX2_shortestSide 89 = .ok (.goto (-85), 3) := by decide +kernel
theorem dX2_shortestSide_92 : decode cX2_shortestSide 92 = .ok (.iload_n 2, 1) := by decide +kernel
theorem dX2_shortestSide_93 : decode cX2_shortestSide 93 = .ok (.ireturn, 1) := by decide +kernel
theorem dX2_canShrink_0 : decode cX2_canShrink 0 = .ok (.aload_n 0, 1) := by decide +kernel
theorem dX2_canShrink_1 : decode cX2_canShrink 1 = .ok (.iload_n 1, 1) := by decide +kernel
theorem dX2_canShrink_2 : decode cX2_canShrink 2 = .ok (.invokevirtual 73, 3) := by decide +kernel
theorem dX2_canShrink_5 : decode cX2_canShrink 5 = .ok (.istore_n 2, 1) := by decide +kernel
theorem dX2_canShrink_6 : decode cX2_canShrink 6 = .ok (.aload_n 0, 1) := by decide +kernel
theorem dX2_canShrink_7 : decode cX2_canShrink 7 = .ok (.getfield 30, 3) := by decide +kernel
theorem dX2_canShrink_10 : decode cX2_canShrink 10 = .ok (.iload_n 1, 1) := by decide +kernel
theorem dX2_canShrink_11 : decode cX2_canShrink 11 = .ok (.iaload, 1) := by decide +kernel
theorem dX2_canShrink_12 : decode cX2_canShrink 12 = .ok (.iconst 3, 1) := by decide +kernel
theorem dX2_canShrink_13 : decode cX2_canShrink 13 = .ok (.if_icmp .ne 7, 3) := by decide +kernel
theorem dX2_canShrink_16 : decode cX2_canShrink 16 = .ok (.iload_n 2, 1) := by decide +kernel
theorem dX2_canShrink_17 : decode cX2_canShrink 17 = .ok (.ifCond .ge 5, 3) := by decide +kernel
theorem dX2_canShrink_20 : decode cX2_canShrink 20 = .ok (.iconst 0, 1) := by decide +kernel
theorem dX2_canShrink_21 : decode cX2_canShrink 21 = .ok (.ireturn, 1) := by decide +kernel
theorem dX2_canShrink_22 : decode cX2_canShrink 22 = .ok (.aload_n 0, 1) := by decide +kernel
theorem dX2_canShrink_23 : decode cX2_canShrink 23 = .ok (.iload_n 2, 1) := by decide +kernel
theorem dX2_canShrink_24 : decode cX2_canShrink 24 = .ok (.invokevirtual 101, 3) := by decide +kernel
theorem dX2_canShrink_27 : decode cX2_canShrink 27 = .ok (.istore_n 3, 1) := by decide +kernel
theorem dX2_canShrink_28 : decode cX2_canShrink 28 = .ok (.aload_n 0, 1) := by decide +kernel
theorem dX2_canShrink_29 : decode cX2_canShrink 29 = .ok (.aload_n 0, 1) := by decide +kernel
theorem dX2_canShrink_30 : decode cX2_canShrink 30 = .ok (.getfield 15, 3) := by decide +kernel
theorem dX2_canShrink_33 : decode cX2_canShrink 33 = .ok (.iload_n 2, 1) := by decide +kernel
theorem dX2_canShrink_34 : decode cX2_canShrink 34 = .ok (.iaload, 1) := by decide +kernel
theorem dX2_canShrink_35 : decode cX2_canShrink 35 = .ok (.invokevirtual 101, 3) := by decide +kernel
theorem dX2_canShrink_38 : decode cX2_canShrink 38 = .ok (.istore 4, 2) := by decide +kernel
theorem dX2_canShrink_40 : decode cX2_canShrink 40 = .ok (.aload_n 0, 1) := by decide +kernel
theorem dX2_canShrink_41 : decode cX2_canShrink 41 = .ok (.aload_n 0, 1) := by decide +kernel
theorem dX2_canShrink_42 : decode cX2_canShrink 42 = .ok (.getfield 18, 3) := by decide +kernel
theorem dX2_canShrink_45 : decode cX2_canShrink 45 = .ok (.iload_n 2, 1) := by decide +kernel
theorem dX2_canShrink_46 : decode cX2_canShrink 46 = .ok (.iaload, 1) := by decide +kernel
theorem dX2_canShrink_47 : decode cX2_canShrink 47 = .ok (.invokevirtual 101, 3) := by decide +kernel
theorem dX2_canShrink_50 : decode cX2_canShrink 50 = .ok (.istore 5, 2) := by decide +kernel
theorem dX2_canShrink_52 : decode cX2_canShrink 52 = .ok (.iload_n 3, 1) := by decide +kernel
theorem dX2_canShrink_53 : decode cX2_canShrink 53 = .ok (.iload 4, 2) := by decide +kernel
theorem dX2_canShrink_55 : decode cX2_canShrink 55 = .ok (.if_icmp .eq 52, 3) := by decide +kernel
theorem dX2_canShrink_58 : decode cX2_canShrink 58 = .ok (.iload 4, 2) := by decide +kernel
theorem dX2_canShrink_60 : decode cX2_canShrink 60 = .ok (.iload 5, 2) := by decide +kernel
theorem dX2_canShrink_62 : decode cX2_canShrink 62 = .ok (.if_icmp .eq 45, 3) := by decide +kernel
theorem dX2_canShrink_65 : decode cX2_canShrink 65 = .ok (.iload 5, 2) := by decide +kernel
theorem dX2_canShrink_67 : decode cX2_canShrink 67 = .ok (.iload_n 3, 1) := by decide +kernel
theorem dX2_canShrink_68 : decode cX2_canShrink 68 = .ok (.if_icmp .eq 39, 3) := by decide +kernel
theorem dX2_canShrink_71 : decode cX2_canShrink 71 = .ok (.aload_n 0, 1) := by decide +kernel
theorem dX2_canShrink_72 : decode cX2_canShrink 72 = .ok (.getfield 30, 3) := by decide +kernel
theorem dX2_canShrink_75 : decode cX2_canShrink 75 = .ok (.iload_n 3, 1) := by decide +kernel
theorem dX2_canShrink_76 : decode cX2_canShrink 76 = .ok (.iaload, 1) := by decide +kernel
theorem dX2_canShrink_77 : decode cX2_canShrink 77 = .ok (.iconst 3, 1) := by decide +kernel
theorem dX2_canShrink_78 : decode cX2_canShrink 78 = .ok (.if_icmp .le 29, 3) := by decide +kernel
theorem dX2_canShrink_81 : decode cX2_canShrink 81 = .ok (.aload_n 0, 1) := by decide +kernel
theorem dX2_canShrink_82 : decode cX2_canShrink 82 = .ok (.getfield 30, 3) := by decide +kernel
theorem dX2_canShrink_85 : decode cX2_canShrink 85 = .ok (.iload 4, 2) := by decide +kernel
theorem dX2_canShrink_87 : decode cX2_canShrink 87 = .ok (.iaload, 1) := by decide +kernel
theorem dX2_canShrink_88 : decode cX2_canShrink 88 = .ok (.iconst 3, 1) := by decide +kernel
theorem dX2_canShrink_89 : decode cX2_canShrink 89 = .ok (.if_icmp .le 18, 3) := by decide +kernel
theorem dX2_canShrink_92 : decode cX2_canShrink 92 = .ok (.aload_n 0, 1) := by decide +kernel
theorem dX2_canShrink_93 : decode cX2_canShrink 93 = .ok (.getfield 30, 3) := by decide +kernel
theorem dX2_canShrink_96 : decode cX2_canShrink 96 = .ok (.iload 5, 2) := by decide +kernel
theorem dX2_canShrink_98 : decode cX2_canShrink 98 = .ok (.iaload, 1) := by decide +kernel
theorem dX2_canShrink_99 : decode cX2_canShrink 99 = .ok (.iconst 3, 1) := by decide +kernel
theorem dX2_canShrink_100 : decode cX2_canShrink 100 = .ok (.if_icmp .le 7, 3) := by decide +kernel
theorem dX2_canShrink_103 : decode cX2_canShrink 103 = .ok (.iconst 1, 1) := by decide +kernel
theorem dX2_canShrink_104 : decode cX2_canShrink 104 = .ok (.goto 4, 3) := by decide +kernel
theorem dX2_canShrink_107 : decode cX2_canShrink 107 = .ok (.iconst 0, 1) := by decide +kernel
theorem dX2_canShrink_108 : decode cX2_canShrink 108 = .ok (.ireturn, 1) := by decide +kernel
theorem dX2_shrink_0 : decode cX2_shrink 0 = .ok (.iconst (-1), 1) := by decide +kernel
theorem dX2_shrink_1 : decode cX2_shrink 1 = .ok (.istore_n 2, 1) := by decide +kernel
theorem dX2_shrink_2 : decode cX2_shrink 2 = .ok (.iconst 0, 1) := by decide +kernel
theorem dX2_shrink_3 : decode cX2_shrink 3 = .ok (.istore_n 3, 1) := by decide +kernel
theorem dX2_shrink_4 : decode cX2_shrink 4 = .ok (.iload_n 3, 1) := by decide +kernel
theorem dX2_shrink_5 : decode cX2_shrink 5 = .ok (.sipush 144, 3) := by decide +kernel
theorem dX2_shrink_8 : decode cX2_shrink 8 = .ok (.if_icmp .ge 107, 3) := by decide +kernel
theorem dX2_shrink_11 : decode cX2_shrink 11 = .ok (.aload_n 0, 1) := by decide +kernel
theorem dX2_shrink_12 : decode cX2_shrink 12 = .ok (.iload_n 3, 1) := by decide +kernel
theorem dX2_shrink_13 : decode cX2_shrink 13 = .ok (.invokevirtual 91, 3) := by decide +kernel
theorem dX2_shrink_16 : decode cX2_shrink 16 = .ok (.ifCond .eq 93, 3) := by decide +kernel
theorem dX2_shrink_19 : decode cX2_shrink 19 = .ok (.aload_n 0, 1) := by decide +kernel
theorem dX2_shrink_20 : decode cX2_shrink 20 = .ok (.getfield 9, 3) := by decide +kernel
theorem dX2_shrink_23 : decode cX2_shrink 23 = .ok (.iconst 2, 1) := by decide +kernel
theorem dX2_shrink_24 : decode cX2_shrink 24 = .ok (.iload_n 3, 1) := by decide +kernel
theorem dX2_shrink_25 : decode cX2_shrink 25 = .ok (.imul, 1) := by decide +kernel
theorem dX2_shrink_26 : decode cX2_shrink 26 = .ok (.iaload, 1) := by decide +kernel
theorem dX2_shrink_27 : decode cX2_shrink 27 = .ok (.iload_n 1, 1) := by decide +kernel
theorem dX2_shrink_28 : decode cX2_shrink 28 = .ok (.if_icmp .eq 17, 3) := by decide +kernel
theorem dX2_shrink_31 : decode cX2_shrink 31 = .ok (.aload_n 0, 1) := by decide +kernel
theorem dX2_shrink_32 : decode cX2_shrink 32 = .ok (.getfield 9, 3) := by decide +kernel
theorem dX2_shrink_35 : decode cX2_shrink 35 = .ok (.iconst 2, 1) := by decide +kernel
theorem dX2_shrink_36 : decode cX2_shrink 36 = .ok (.iload_n 3, 1) := by decide +kernel
theorem dX2_shrink_37 : decode cX2_shrink 37 = .ok (.imul, 1) := by decide +kernel
theorem dX2_shrink_38 : decode cX2_shrink 38 = .ok (.iconst 1, 1) := by decide +kernel
theorem dX2_shrink_39 : decode cX2_shrink 39 = .ok (.iadd, 1) := by decide +kernel
theorem dX2_shrink_40 : decode cX2_shrink 40 = .ok (.iaload, 1) := by decide +kernel
theorem dX2_shrink_41 : decode cX2_shrink 41 = .ok (.iload_n 1, 1) := by decide +kernel
theorem dX2_shrink_42 : decode cX2_shrink 42 = .ok (.if_icmp .ne 67, 3) := by decide +kernel
theorem dX2_shrink_45 : decode cX2_shrink 45 = .ok (.aload_n 0, 1) := by decide +kernel
theorem dX2_shrink_46 : decode cX2_shrink 46 = .ok (.getfield 9, 3) := by decide +kernel
theorem dX2_shrink_49 : decode cX2_shrink 49 = .ok (.iconst 2, 1) := by decide +kernel
theorem dX2_shrink_50 : decode cX2_shrink 50 = .ok (.iload_n 3, 1) := by decide +kernel
theorem dX2_shrink_51 : decode cX2_shrink 51 = .ok (.imul, 1) := by decide +kernel
theorem dX2_shrink_52 : decode cX2_shrink 52 = .ok (.iaload, 1) := by decide +kernel
theorem dX2_shrink_53 : decode cX2_shrink 53 = .ok (.iload_n 1, 1) := by decide +kernel
theorem dX2_shrink_54 : decode cX2_shrink 54 = .ok (.if_icmp .ne 11, 3) := by decide +kernel
theorem dX2_shrink_57 : decode cX2_shrink 57 = .ok (.iconst 2, 1) := by decide +kernel
theorem dX2_shrink_58 : decode cX2_shrink 58 = .ok (.iload_n 3, 1) := by decide +kernel
theorem dX2_shrink_59 : decode cX2_shrink 59 = .ok (.imul, 1) := by decide +kernel
theorem dX2_shrink_60 : decode cX2_shrink 60 = .ok (.iconst 1, 1) := by decide +kernel
theorem dX2_shrink_61 : decode cX2_shrink 61 = .ok (.iadd, 1) := by decide +kernel
theorem dX2_shrink_62 : decode cX2_shrink 62 = .ok (.goto 6, 3) := by decide +kernel
theorem dX2_shrink_65 : decode cX2_shrink 65 = .ok (.iconst 2, 1) := by decide +kernel
theorem dX2_shrink_66 : decode cX2_shrink 66 = .ok (.iload_n 3, 1) := by decide +kernel
theorem dX2_shrink_67 : decode cX2_shrink 67 = .ok (.imul, 1) := by decide +kernel
theorem dX2_shrink_68 : decode cX2_shrink 68 = .ok (.istore 4, 2) := by decide +kernel
theorem dX2_shrink_70 : decode cX2_shrink 70 = .ok (.aload_n 0, 1) := by decide +kernel
theorem dX2_shrink_71 : decode cX2_shrink 71 = .ok (.getfield 9, 3) := by decide +kernel
theorem dX2_shrink_74 : decode cX2_shrink 74 = .ok (.iload 4, 2) := by decide +kernel
theorem dX2_shrink_76 : decode cX2_shrink 76 = .ok (.iaload, 1) := by decide +kernel
theorem dX2_shrink_77 : decode cX2_shrink 77 = .ok (.istore 5, 2) := by decide +kernel
theorem dX2_shrink_79 : decode cX2_shrink 79 = .ok (.aload_n 0, 1) := by decide +kernel
theorem dX2_shrink_80 : decode cX2_shrink 80 = .ok (.iload_n 2, 1) := by decide +kernel
theorem dX2_shrink_81 : decode cX2_shrink 81 = .ok (.iload 5, 2) := by decide +kernel
theorem dX2_shrink_83 : decode cX2_shrink 83 = .ok (.invokevirtual 104, 3) := by decide +kernel
theorem dX2_shrink_86 : decode cX2_shrink 86 = .ok (.istore_n 2, 1) := by decide +kernel
theorem dX2_shrink_87 : decode cX2_shrink 87 = .ok (.aload_n 0, 1) := by decide +kernel
theorem dX2_shrink_88 : decode cX2_shrink 88 = .ok (.iload 4, 2) := by decide +kernel
theorem dX2_shrink_90 : decode cX2_shrink 90 = .ok (.invokevirtual 84, 3) := by decide +kernel
theorem dX2_shrink_93 : decode cX2_shrink 93 = .ok (.aload_n 0, 1) := by decide +kernel
theorem dX2_shrink_94 : decode cX2_shrink 94 = .ok (.getfield 30, 3) := by decide +kernel
theorem dX2_shrink_97 : decode cX2_shrink 97 = .ok (.iload 5, 2) := by decide +kernel
theorem dX2_shrink_99 : decode cX2_shrink 99 = .ok (.dup2, 1) := by decide +kernel
theorem dX2_shrink_100 : decode cX2_shrink 100 = .ok (.iaload, 1) := by decide +kernel
theorem dX2_shrink_101 : decode cX2_shrink 101 = .ok (.iconst 1, 1) := by decide +kernel
theorem dX2_shrink_102 : decode cX2_shrink 102 = .ok (.isub, 1) := by decide +kernel
theorem dX2_shrink_103 : decode cX2_shrink 103 = .ok (.iastore, 1) := by decide +kernel
theorem dX2_shrink_104 : decode cX2_shrink 104 = .ok (.aload_n 0, 1) := by decide +kernel
theorem dX2_shrink_105 : decode cX2_shrink 105 = .ok (.iload_n 3, 1) := by decide +kernel
theorem dX2_shrink_106 : decode cX2_shrink 106 = .ok (.invokevirtual 107, 3) := by decide +kernel
theorem dX2_shrink_109 : decode cX2_shrink 109 = .ok (.iinc 3 1, 3) := by decide +kernel
theorem dX2_shrink_112 : decode cX2_shrink 112 = .ok (.goto (-108), 3) := by decide +kernel
theorem dX2_shrink_115 : decode cX2_shrink 115 = .ok (.iload_n 2, 1) := by decide +kernel
theorem dX2_shrink_116 : decode cX2_shrink 116 = .ok (.ifCond .lt 18, 3) := by decide +kernel
theorem dX2_shrink_119 : decode cX2_shrink 119 = .ok (.aload_n 0, 1) := by decide +kernel
theorem dX2_shrink_120 : decode cX2_shrink 120 = .ok (.getfield 33, 3) := by decide +kernel
theorem dX2_shrink_123 : decode cX2_shrink 123 = .ok (.iload_n 2, 1) := by decide +kernel
theorem dX2_shrink_124 : decode cX2_shrink 124 = .ok (.dup2, 1) := by decide +kernel
theorem dX2_shrink_125 : decode cX2_shrink 125 = .ok (.iaload, 1) := by decide +kernel
theorem dX2_shrink_126 : decode cX2_shrink 126 = .ok (.aload_n 0, 1) := by decide +kernel
theorem dX2_shrink_127 : decode cX2_shrink 127 = .ok (.getfield 33, 3) := by decide +kernel
theorem dX2_shrink_130 : decode cX2_shrink 130 = .ok (.iload_n 1, 1) := by decide +kernel
theorem dX2_shrink_131 : decode cX2_shrink 131 = .ok (.iaload, 1) := by decide +kernel
theorem dX2_shrink_132 : decode cX2_shrink 132 = .ok (.iadd, 1) := by decide +kernel
theorem dX2_shrink_133 : decode cX2_shrink 133 = .ok (.iastore, 1) := by decide +kernel
theorem dX2_shrink_134 : decode cX2_shrink 134 = .ok (.aload_n 0, 1) := by decide +kernel
theorem dX2_shrink_135 : decode cX2_shrink 135 = .ok (.iload_n 1, 1) := by decide +kernel
theorem dX2_shrink_136 : decode cX2_shrink 136 = .ok (.invokevirtual 110, 3) := by decide +kernel
theorem dX2_shrink_139 : decode cX2_shrink 139 = .ok (.iload_n 2, 1) := by decide +kernel
theorem dX2_shrink_140 : decode cX2_shrink 140 = .ok (.ireturn, 1) := by decide +kernel
theorem dX2_greater_0 : decode cX2_greater 0 = .ok (.iload_n 1, 1) := by decide +kernel
theorem dX2_greater_1 : decode cX2_greater 1 = .ok (.ifCond .lt 18, 3) := by decide +kernel
theorem dX2_greater_4 : decode cX2_greater 4 = .ok (.aload_n 0, 1) := by decide +kernel
theorem dX2_greater_5 : decode cX2_greater 5 = .ok (.getfield 33, 3) := by decide +kernel
theorem dX2_greater_8 : decode cX2_greater 8 = .ok (.iload_n 2, 1) := by decide +kernel
theorem dX2_greater_9 : decode cX2_greater 9 = .ok (.iaload, 1) := by decide +kernel
theorem dX2_greater_10 : decode cX2_greater 10 = .ok (.aload_n 0, 1) := by decide +kernel
theorem dX2_greater_11 : decode cX2_greater 11 = .ok (.getfield 33, 3) := by decide +kernel
theorem dX2_greater_14 : decode cX2_greater 14 = .ok (.iload_n 1, 1) := by decide +kernel
theorem dX2_greater_15 : decode cX2_greater 15 = .ok (.iaload, 1) := by decide +kernel
theorem dX2_greater_16 : decode cX2_greater 16 = .ok (.if_icmp .le 5, 3) := by decide +kernel
theorem dX2_greater_19 : decode cX2_greater 19 = .ok (.iload_n 2, 1) := by decide +kernel
theorem dX2_greater_20 : decode cX2_greater 20 = .ok (.ireturn, 1) := by decide +kernel
theorem dX2_greater_21 : decode cX2_greater 21 = .ok (.aload_n 0, 1) := by decide +kernel
theorem dX2_greater_22 : decode cX2_greater 22 = .ok (.getfield 33, 3) := by decide +kernel
theorem dX2_greater_25 : decode cX2_greater 25 = .ok (.iload_n 2, 1) := by decide +kernel
theorem dX2_greater_26 : decode cX2_greater 26 = .ok (.iaload, 1) := by decide +kernel
theorem dX2_greater_27 : decode cX2_greater 27 = .ok (.aload_n 0, 1) := by decide +kernel
theorem dX2_greater_28 : decode cX2_greater 28 = .ok (.getfield 33, 3) := by decide +kernel
theorem dX2_greater_31 : decode cX2_greater 31 = .ok (.iload_n 1, 1) := by decide +kernel
theorem dX2_greater_32 : decode cX2_greater 32 = .ok (.iaload, 1) := by decide +kernel
theorem dX2_greater_33 : decode cX2_greater 33 = .ok (.if_icmp .ne 11, 3) := by decide +kernel
theorem dX2_greater_36 : decode cX2_greater 36 = .ok (.iload_n 1, 1) := by decide +kernel
theorem dX2_greater_37 : decode cX2_greater 37 = .ok (.iload_n 2, 1) := by decide +kernel
theorem dX2_greater_38 : decode cX2_greater 38 = .ok (.invokestatic 113, 3) := by decide +kernel
theorem dX2_greater_41 : decode cX2_greater 41 = .ok (.goto 4, 3) := by decide +kernel
theorem dX2_greater_44 : decode cX2_greater 44 = .ok (.iload_n 1, 1) := by decide +kernel
theorem dX2_greater_45 : decode cX2_greater 45 = .ok (.ireturn, 1) := by decide +kernel
theorem dX2_dropWall_0 : decode cX2_dropWall 0 = .ok (.aload_n 0, 1) := by decide +kernel
theorem dX2_dropWall_1 : decode cX2_dropWall 1 = .ok (.getfield 9, 3) := by decide +kernel
theorem dX2_dropWall_4 : decode cX2_dropWall 4 = .ok (.iconst 2, 1) := by decide +kernel
theorem dX2_dropWall_5 : decode cX2_dropWall 5 = .ok (.iload_n 1, 1) := by decide +kernel
theorem dX2_dropWall_6 : decode cX2_dropWall 6 = .ok (.imul, 1) := by decide +kernel
theorem dX2_dropWall_7 : decode cX2_dropWall 7 = .ok (.iconst (-1), 1) := by decide +kernel
theorem dX2_dropWall_8 : decode cX2_dropWall 8 = .ok (.iastore, 1) := by decide +kernel
theorem dX2_dropWall_9 : decode cX2_dropWall 9 = .ok (.aload_n 0, 1) := by decide +kernel
theorem dX2_dropWall_10 : decode cX2_dropWall 10 = .ok (.getfield 9, 3) := by decide +kernel
theorem dX2_dropWall_13 : decode cX2_dropWall 13 = .ok (.iconst 2, 1) := by decide +kernel
theorem dX2_dropWall_14 : decode cX2_dropWall 14 = .ok (.iload_n 1, 1) := by decide +kernel
theorem dX2_dropWall_15 : decode cX2_dropWall 15 = .ok (.imul, 1) := by decide +kernel
theorem dX2_dropWall_16 : decode cX2_dropWall 16 = .ok (.iconst 1, 1) := by decide +kernel
theorem dX2_dropWall_17 : decode cX2_dropWall 17 = .ok (.iadd, 1) := by decide +kernel
theorem dX2_dropWall_18 : decode cX2_dropWall 18 = .ok (.iconst (-1), 1) := by decide +kernel
theorem dX2_dropWall_19 : decode cX2_dropWall 19 = .ok (.iastore, 1) := by decide +kernel
theorem dX2_dropWall_20 : decode cX2_dropWall 20 = .ok (.aload_n 0, 1) := by decide +kernel
theorem dX2_dropWall_21 : decode cX2_dropWall 21 = .ok (.getfield 27, 3) := by decide +kernel
theorem dX2_dropWall_24 : decode cX2_dropWall 24 = .ok (.iload_n 1, 1) := by decide +kernel
theorem dX2_dropWall_25 : decode cX2_dropWall 25 = .ok (.iconst 0, 1) := by decide +kernel
theorem dX2_dropWall_26 : decode cX2_dropWall 26 = .ok (.iastore, 1) := by decide +kernel
theorem dX2_dropWall_27 : decode cX2_dropWall 27 = .ok (.return_, 1) := by decide +kernel
theorem dX2_dropCell_0 : decode cX2_dropCell 0 = .ok (.aload_n 0, 1) := by decide +kernel
theorem dX2_dropCell_1 : decode cX2_dropCell 1 = .ok (.getfield 30, 3) := by decide +kernel
theorem dX2_dropCell_4 : decode cX2_dropCell 4 = .ok (.iload_n 1, 1) := by decide +kernel
theorem dX2_dropCell_5 : decode cX2_dropCell 5 = .ok (.iconst 0, 1) := by decide +kernel
theorem dX2_dropCell_6 : decode cX2_dropCell 6 = .ok (.iastore, 1) := by decide +kernel
theorem dX2_dropCell_7 : decode cX2_dropCell 7 = .ok (.aload_n 0, 1) := by decide +kernel
theorem dX2_dropCell_8 : decode cX2_dropCell 8 = .ok (.getfield 33, 3) := by decide +kernel
theorem dX2_dropCell_11 : decode cX2_dropCell 11 = .ok (.iload_n 1, 1) := by decide +kernel
theorem dX2_dropCell_12 : decode cX2_dropCell 12 = .ok (.iconst 0, 1) := by decide +kernel
theorem dX2_dropCell_13 : decode cX2_dropCell 13 = .ok (.iastore, 1) := by decide +kernel
theorem dX2_dropCell_14 : decode cX2_dropCell 14 = .ok (.return_, 1) := by decide +kernel
theorem dX2_split_0 : decode cX2_split 0 = .ok (.aload_n 0, 1) := by decide +kernel
theorem dX2_split_1 : decode cX2_split 1 = .ok (.invokevirtual 116, 3) := by decide +kernel
theorem dX2_split_4 : decode cX2_split 4 = .ok (.istore 4, 2) := by decide +kernel
theorem dX2_split_6 : decode cX2_split 6 = .ok (.iload 4, 2) := by decide +kernel
theorem dX2_split_8 : decode cX2_split 8 = .ok (.ifCond .lt 13, 3) := by decide +kernel
theorem dX2_split_11 : decode cX2_split 11 = .ok (.aload_n 0, 1) := by decide +kernel
theorem dX2_split_12 : decode cX2_split 12 = .ok (.invokevirtual 120, 3) := by decide +kernel
theorem dX2_split_15 : decode cX2_split 15 = .ok (.sipush 141, 3) := by decide +kernel
theorem dX2_split_18 : decode cX2_split 18 = .ok (.if_icmp .le 5, 3) := by decide +kernel
theorem dX2_split_21 : decode cX2_split 21 = .ok (.iconst (-1), 1) := by decide +kernel
theorem dX2_split_22 : decode cX2_split 22 = .ok (.ireturn, 1) := by decide +kernel
theorem dX2_split_23 : decode cX2_split 23 = .ok (.aload_n 0, 1) := by decide +kernel
theorem dX2_split_24 : decode cX2_split 24 = .ok (.getfield 15, 3) := by decide +kernel
theorem dX2_split_27 : decode cX2_split 27 = .ok (.iload_n 2, 1) := by decide +kernel
theorem dX2_split_28 : decode cX2_split 28 = .ok (.iaload, 1) := by decide +kernel
theorem dX2_split_29 : decode cX2_split 29 = .ok (.istore 5, 2) := by decide +kernel
theorem dX2_split_31 : decode cX2_split 31 = .ok (.aload_n 0, 1) := by decide +kernel
theorem dX2_split_32 : decode cX2_split 32 = .ok (.getfield 18, 3) := by decide +kernel
theorem dX2_split_35 : decode cX2_split 35 = .ok (.iload_n 3, 1) := by decide +kernel
theorem dX2_split_36 : decode cX2_split 36 = .ok (.iaload, 1) := by decide +kernel
theorem dX2_split_37 : decode cX2_split 37 = .ok (.istore 6, 2) := by decide +kernel
theorem dX2_split_39 : decode cX2_split 39 = .ok (.aload_n 0, 1) := by decide +kernel
theorem dX2_split_40 : decode cX2_split 40 = .ok (.iload 4, 2) := by decide +kernel
theorem dX2_split_42 : decode cX2_split 42 = .ok (.iload 5, 2) := by decide +kernel
theorem dX2_split_44 : decode cX2_split 44 = .ok (.iload_n 3, 1) := by decide +kernel
theorem dX2_split_45 : decode cX2_split 45 = .ok (.aload_n 0, 1) := by decide +kernel
theorem dX2_split_46 : decode cX2_split 46 = .ok (.getfield 30, 3) := by decide +kernel
theorem dX2_split_49 : decode cX2_split 49 = .ok (.iload_n 1, 1) := by decide +kernel
theorem dX2_split_50 : decode cX2_split 50 = .ok (.iaload, 1) := by decide +kernel
theorem dX2_split_51 : decode cX2_split 51 = .ok (.invokevirtual 123, 3) := by decide +kernel
theorem dX2_split_54 : decode cX2_split 54 = .ok (.istore 7, 2) := by decide +kernel
theorem dX2_split_56 : decode cX2_split 56 = .ok (.aload_n 0, 1) := by decide +kernel
theorem dX2_split_57 : decode cX2_split 57 = .ok (.iload_n 2, 1) := by decide +kernel
theorem dX2_split_58 : decode cX2_split 58 = .ok (.iload 4, 2) := by decide +kernel
theorem dX2_split_60 : decode cX2_split 60 = .ok (.invokevirtual 127, 3) := by decide +kernel
theorem dX2_split_63 : decode cX2_split 63 = .ok (.istore 8, 2) := by decide +kernel
theorem dX2_split_65 : decode cX2_split 65 = .ok (.aload_n 0, 1) := by decide +kernel
theorem dX2_split_66 : decode cX2_split 66 = .ok (.iload_n 3, 1) := by decide +kernel
theorem dX2_split_67 : decode cX2_split 67 = .ok (.iload 4, 2) := by decide +kernel
theorem dX2_split_69 : decode cX2_split 69 = .ok (.invokevirtual 127, 3) := by decide +kernel
theorem dX2_split_72 : decode cX2_split 72 = .ok (.istore 9, 2) := by decide +kernel
theorem dX2_split_74 : decode cX2_split 74 = .ok (.aload_n 0, 1) := by decide +kernel
theorem dX2_split_75 : decode cX2_split 75 = .ok (.aload_n 0, 1) := by decide +kernel
theorem dX2_split_76 : decode cX2_split 76 = .ok (.getfield 18, 3) := by decide +kernel
theorem dX2_split_79 : decode cX2_split 79 = .ok (.iload_n 2, 1) := by decide +kernel
theorem dX2_split_80 : decode cX2_split 80 = .ok (.iconst 1, 1) := by decide +kernel
theorem dX2_split_81 : decode cX2_split 81 = .ok (.ixor, 1) := by decide +kernel
theorem dX2_split_82 : decode cX2_split 82 = .ok (.iaload, 1) := by decide +kernel
theorem dX2_split_83 : decode cX2_split 83 = .ok (.iload 8, 2) := by decide +kernel
theorem dX2_split_85 : decode cX2_split 85 = .ok (.iconst 1, 1) := by decide +kernel
theorem dX2_split_86 : decode cX2_split 86 = .ok (.ixor, 1) := by decide +kernel
theorem dX2_split_87 : decode cX2_split 87 = .ok (.invokevirtual 50, 3) := by decide +kernel
theorem dX2_split_90 : decode cX2_split 90 = .ok (.aload_n 0, 1) := by decide +kernel
theorem dX2_split_91 : decode cX2_split 91 = .ok (.iload 8, 2) := by decide +kernel
theorem dX2_split_93 : decode cX2_split 93 = .ok (.iconst 1, 1) := by decide +kernel
theorem dX2_split_94 : decode cX2_split 94 = .ok (.ixor, 1) := by decide +kernel
theorem dX2_split_95 : decode cX2_split 95 = .ok (.iload_n 2, 1) := by decide +kernel
theorem dX2_split_96 : decode cX2_split 96 = .ok (.iconst 1, 1) := by decide +kernel
theorem dX2_split_97 : decode cX2_split 97 = .ok (.ixor, 1) := by decide +kernel
theorem dX2_split_98 : decode cX2_split 98 = .ok (.invokevirtual 50, 3) := by decide +kernel
theorem dX2_split_101 : decode cX2_split 101 = .ok (.aload_n 0, 1) := by decide +kernel
theorem dX2_split_102 : decode cX2_split 102 = .ok (.iload 9, 2) := by decide +kernel
theorem dX2_split_104 : decode cX2_split 104 = .ok (.iconst 1, 1) := by decide +kernel
theorem dX2_split_105 : decode cX2_split 105 = .ok (.ixor, 1) := by decide +kernel
theorem dX2_split_106 : decode cX2_split 106 = .ok (.aload_n 0, 1) := by decide +kernel
theorem dX2_split_107 : decode cX2_split 107 = .ok (.getfield 15, 3) := by decide +kernel
theorem dX2_split_110 : decode cX2_split 110 = .ok (.iload_n 3, 1) := by decide +kernel
theorem dX2_split_111 : decode cX2_split 111 = .ok (.iconst 1, 1) := by decide +kernel
theorem dX2_split_112 : decode cX2_split 112 = .ok (.ixor, 1) := by decide +kernel
theorem dX2_split_113 : decode cX2_split 113 = .ok (.iaload, 1) := by decide +kernel
theorem dX2_split_114 : decode cX2_split 114 = .ok (.invokevirtual 50, 3) := by decide +kernel
theorem dX2_split_117 : decode cX2_split 117 = .ok (.aload_n 0, 1) := by decide +kernel
theorem dX2_split_118 : decode cX2_split 118 = .ok (.iload_n 3, 1) := by decide +kernel
theorem dX2_split_119 : decode cX2_split 119 = .ok (.iconst 1, 1) := by decide +kernel
theorem dX2_split_120 : decode cX2_split 120 = .ok (.ixor, 1) := by decide +kernel
theorem dX2_split_121 : decode cX2_split 121 = .ok (.iload 9, 2) := by decide +kernel
theorem dX2_split_123 : decode cX2_split 123 = .ok (.iconst 1, 1) := by decide +kernel
theorem dX2_split_124 : decode cX2_split 124 = .ok (.ixor, 1) := by decide +kernel
theorem dX2_split_125 : decode cX2_split 125 = .ok (.invokevirtual 50, 3) := by decide +kernel
theorem dX2_split_128 : decode cX2_split 128 = .ok (.aload_n 0, 1) := by decide +kernel
theorem dX2_split_129 : decode cX2_split 129 = .ok (.iload_n 1, 1) := by decide +kernel
theorem dX2_split_130 : decode cX2_split 130 = .ok (.iload 4, 2) := by decide +kernel
theorem dX2_split_132 : decode cX2_split 132 = .ok (.bipush 10, 2) := by decide +kernel
theorem dX2_split_134 : decode cX2_split 134 = .ok (.invokevirtual 130, 3) := by decide +kernel
theorem dX2_split_137 : decode cX2_split 137 = .ok (.istore 10, 2) := by decide +kernel
theorem dX2_split_139 : decode cX2_split 139 = .ok (.aload_n 0, 1) := by decide +kernel
theorem dX2_split_140 : decode cX2_split 140 = .ok (.iload 10, 2) := by decide +kernel
theorem dX2_split_142 : decode cX2_split 142 = .ok (.iconst 0, 1) := by decide +kernel
theorem dX2_split_143 : decode cX2_split 143 = .ok (.iconst 0, 1) := by decide +kernel
theorem dX2_split_144 : decode cX2_split 144 = .ok (.invokevirtual 64, 3) := by decide +kernel
theorem dX2_split_147 : decode cX2_split 147 = .ok (.aload_n 0, 1) := by decide +kernel
theorem dX2_split_148 : decode cX2_split 148 = .ok (.iload_n 2, 1) := by decide +kernel
theorem dX2_split_149 : decode cX2_split 149 = .ok (.iload 10, 2) := by decide +kernel
theorem dX2_split_151 : decode cX2_split 151 = .ok (.invokevirtual 50, 3) := by decide +kernel
theorem dX2_split_154 : decode cX2_split 154 = .ok (.aload_n 0, 1) := by decide +kernel
theorem dX2_split_155 : decode cX2_split 155 = .ok (.iload 10, 2) := by decide +kernel
theorem dX2_split_157 : decode cX2_split 157 = .ok (.iload_n 3, 1) := by decide +kernel
theorem dX2_split_158 : decode cX2_split 158 = .ok (.invokevirtual 50, 3) := by decide +kernel
theorem dX2_split_161 : decode cX2_split 161 = .ok (.aload_n 0, 1) := by decide +kernel
theorem dX2_split_162 : decode cX2_split 162 = .ok (.iload 9, 2) := by decide +kernel
theorem dX2_split_164 : decode cX2_split 164 = .ok (.iload 10, 2) := by decide +kernel
theorem dX2_split_166 : decode cX2_split 166 = .ok (.iconst 1, 1) := by decide +kernel
theorem dX2_split_167 : decode cX2_split 167 = .ok (.ixor, 1) := by decide +kernel
theorem dX2_split_168 : decode cX2_split 168 = .ok (.invokevirtual 50, 3) := by decide +kernel
theorem dX2_split_171 : decode cX2_split 171 = .ok (.aload_n 0, 1) := by decide +kernel
theorem dX2_split_172 : decode cX2_split 172 = .ok (.iload 10, 2) := by decide +kernel
theorem dX2_split_174 : decode cX2_split 174 = .ok (.iconst 1, 1) := by decide +kernel
theorem dX2_split_175 : decode cX2_split 175 = .ok (.ixor, 1) := by decide +kernel
theorem dX2_split_176 : decode cX2_split 176 = .ok (.iload 8, 2) := by decide +kernel
theorem dX2_split_178 : decode cX2_split 178 = .ok (.invokevirtual 50, 3) := by decide +kernel
theorem dX2_split_181 : decode cX2_split 181 = .ok (.iload 7, 2) := by decide +kernel
theorem dX2_split_183 : decode cX2_split 183 = .ok (.ifCond .ne 14, 3) := by decide +kernel
theorem dX2_split_186 : decode cX2_split 186 = .ok (.aload_n 0, 1) := by decide +kernel
theorem dX2_split_187 : decode cX2_split 187 = .ok (.iload 8, 2) := by decide +kernel
theorem dX2_split_189 : decode cX2_split 189 = .ok (.iload 9, 2) := by decide +kernel
theorem dX2_split_191 : decode cX2_split 191 = .ok (.invokevirtual 50, 3) := by decide +kernel
theorem dX2_split_194 : decode cX2_split 194 = .ok (.goto 19, 3) := by decide +kernel
theorem dX2_split_197 : decode cX2_split 197 = .ok (.aload_n 0, 1) := by decide +kernel
theorem dX2_split_198 : decode cX2_split 198 = .ok (.iload 8, 2) := by decide +kernel
theorem dX2_split_200 : decode cX2_split 200 = .ok (.iload 5, 2) := by decide +kernel
theorem dX2_split_202 : decode cX2_split 202 = .ok (.invokevirtual 50, 3) := by decide +kernel
theorem dX2_split_205 : decode cX2_split 205 = .ok (.aload_n 0, 1) := by decide +kernel
theorem dX2_split_206 : decode cX2_split 206 = .ok (.iload 6, 2) := by decide +kernel
theorem dX2_split_208 : decode cX2_split 208 = .ok (.iload 9, 2) := by decide +kernel
theorem dX2_split_210 : decode cX2_split 210 = .ok (.invokevirtual 50, 3) := by decide +kernel
theorem dX2_split_213 : decode cX2_split 213 = .ok (.aload_n 0, 1) := by decide +kernel
theorem dX2_split_214 : decode cX2_split 214 = .ok (.getfield 30, 3) := by decide +kernel
theorem dX2_split_217 : decode cX2_split 217 = .ok (.iload_n 1, 1) := by decide +kernel
theorem dX2_split_218 : decode cX2_split 218 = .ok (.dup2, 1) := by decide +kernel
theorem dX2_split_219 : decode cX2_split 219 = .ok (.iaload, 1) := by decide +kernel
theorem dX2_split_220 : decode cX2_split 220 = .ok (.iconst 1, 1) := by decide +kernel
theorem dX2_split_221 : decode cX2_split 221 = .ok (.iload 7, 2) := by decide +kernel
theorem dX2_split_223 : decode cX2_split 223 = .ok (.isub, 1) := by decide +kernel
theorem dX2_split_224 : decode cX2_split 224 = .ok (.iadd, 1) := by decide +kernel
theorem dX2_split_225 : decode cX2_split 225 = .ok (.iastore, 1) := by decide +kernel
theorem dX2_split_226 : decode cX2_split 226 = .ok (.aload_n 0, 1) := by decide +kernel
theorem dX2_split_227 : decode cX2_split 227 = .ok (.getfield 30, 3) := by decide +kernel
theorem dX2_split_230 : decode cX2_split 230 = .ok (.iload 4, 2) := by decide +kernel
theorem dX2_split_232 : decode cX2_split 232 = .ok (.iconst 3, 1) := by decide +kernel
theorem dX2_split_233 : decode cX2_split 233 = .ok (.iload 7, 2) := by decide +kernel
theorem dX2_split_235 : decode cX2_split 235 = .ok (.iadd, 1) := by decide +kernel
theorem dX2_split_236 : decode cX2_split 236 = .ok (.iastore, 1) := by decide +kernel
theorem dX2_split_237 : decode cX2_split 237 = .ok (.aload_n 0, 1) := by decide +kernel
theorem dX2_split_238 : decode cX2_split 238 = .ok (.getfield 33, 3) := by decide +kernel
theorem dX2_split_241 : decode cX2_split 241 = .ok (.iload 4, 2) := by decide +kernel
theorem dX2_split_243 : decode cX2_split 243 = .ok (.aload_n 0, 1) := by decide +kernel
theorem dX2_split_244 : decode cX2_split 244 = .ok (.getfield 33, 3) := by decide +kernel
theorem dX2_split_247 : decode cX2_split 247 = .ok (.iload_n 1, 1) := by decide +kernel
theorem dX2_split_248 : decode cX2_split 248 = .ok (.iaload, 1) := by decide +kernel
theorem dX2_split_249 : decode cX2_split 249 = .ok (.iconst 2, 1) := by decide +kernel
theorem dX2_split_250 : decode cX2_split 250 = .ok (.invokestatic 134, 3) := by decide +kernel
theorem dX2_split_253 : decode cX2_split 253 = .ok (.iastore, 1) := by decide +kernel
theorem dX2_split_254 : decode cX2_split 254 = .ok (.aload_n 0, 1) := by decide +kernel
theorem dX2_split_255 : decode cX2_split 255 = .ok (.getfield 33, 3) := by decide +kernel
theorem dX2_split_258 : decode cX2_split 258 = .ok (.iload_n 1, 1) := by decide +kernel
theorem dX2_split_259 : decode cX2_split 259 = .ok (.dup2, 1) := by decide +kernel
theorem dX2_split_260 : decode cX2_split 260 = .ok (.iaload, 1) := by decide +kernel
theorem dX2_split_261 : decode cX2_split 261 = .ok (.aload_n 0, 1) := by decide +kernel
theorem dX2_split_262 : decode cX2_split 262 = .ok (.getfield 33, 3) := by decide +kernel
theorem dX2_split_265 : decode cX2_split 265 = .ok (.iload 4, 2) := by decide +kernel
theorem dX2_split_267 : decode cX2_split 267 = .ok (.iaload, 1) := by decide +kernel
theorem dX2_split_268 : decode cX2_split 268 = .ok (.isub, 1) := by decide +kernel
theorem dX2_split_269 : decode cX2_split 269 = .ok (.iastore, 1) := by decide +kernel
theorem dX2_split_270 : decode cX2_split 270 = .ok (.iload 4, 2) := by decide +kernel
theorem dX2_split_272 : decode cX2_split 272 = .ok (.ireturn, 1) := by decide +kernel
theorem dX2_handOver_0 : decode cX2_handOver 0 = .ok (.iload_n 2, 1) := by decide +kernel
theorem dX2_handOver_1 : decode cX2_handOver 1 = .ok (.istore 5, 2) := by decide +kernel
theorem dX2_handOver_3 : decode cX2_handOver 3 = .ok (.iconst 0, 1) := by decide +kernel
theorem dX2_handOver_4 : decode cX2_handOver 4 = .ok (.istore 6, 2) := by decide +kernel
theorem dX2_handOver_6 : decode cX2_handOver 6 = .ok (.iconst 0, 1) := by decide +kernel
theorem dX2_handOver_7 : decode cX2_handOver 7 = .ok (.istore 7, 2) := by decide +kernel
theorem dX2_handOver_9 : decode cX2_handOver 9 = .ok (.iload 7, 2) := by decide +kernel
theorem dX2_handOver_11 : decode cX2_handOver 11 = .ok (.iload 4, 2) := by decide +kernel
theorem dX2_handOver_13 : decode cX2_handOver 13 = .ok (.if_icmp .ge 35, 3) := by decide +kernel
theorem dX2_handOver_16 : decode cX2_handOver 16 = .ok (.iload 5, 2) := by decide +kernel
theorem dX2_handOver_18 : decode cX2_handOver 18 = .ok (.iload_n 3, 1) := by decide +kernel
theorem dX2_handOver_19 : decode cX2_handOver 19 = .ok (.if_icmp .eq 29, 3) := by decide +kernel
theorem dX2_handOver_22 : decode cX2_handOver 22 = .ok (.aload_n 0, 1) := by decide +kernel
theorem dX2_handOver_23 : decode cX2_handOver 23 = .ok (.getfield 9, 3) := by decide +kernel
theorem dX2_handOver_26 : decode cX2_handOver 26 = .ok (.iload 5, 2) := by decide +kernel
theorem dX2_handOver_28 : decode cX2_handOver 28 = .ok (.iload_n 1, 1) := by decide +kernel
theorem dX2_handOver_29 : decode cX2_handOver 29 = .ok (.iastore, 1) := by decide +kernel
theorem dX2_handOver_30 : decode cX2_handOver 30 = .ok (.iinc 6 1, 3) := by decide +kernel
theorem dX2_handOver_33 : decode cX2_handOver 33 = .ok (.aload_n 0, 1) := by decide +kernel
theorem dX2_handOver_34 : decode cX2_handOver 34 = .ok (.getfield 15, 3) := by decide +kernel
theorem dX2_handOver_37 : decode cX2_handOver 37 = .ok (.iload 5, 2) := by decide +kernel
theorem dX2_handOver_39 : decode cX2_handOver 39 = .ok (.iaload, 1) := by decide +kernel
theorem dX2_handOver_40 : decode cX2_handOver 40 = .ok (.istore 5, 2) := by decide +kernel
theorem dX2_handOver_42 : decode cX2_handOver 42 = .ok (.iinc 7 1, 3) := by decide +kernel
theorem dX2_handOver_45 : decode cX2_handOver 45 = .ok (.goto (-36), 3) := by decide +kernel
theorem dX2_handOver_48 : decode cX2_handOver 48 = .ok (.iload 6, 2) := by decide +kernel
theorem dX2_handOver_50 : decode cX2_handOver 50 = .ok (.ireturn, 1) := by decide +kernel
theorem dX2_halve_0 : decode cX2_halve 0 = .ok (.aload_n 0, 1) := by decide +kernel
theorem dX2_halve_1 : decode cX2_halve 1 = .ok (.getfield 27, 3) := by decide +kernel
theorem dX2_halve_4 : decode cX2_halve 4 = .ok (.iload_n 1, 1) := by decide +kernel
theorem dX2_halve_5 : decode cX2_halve 5 = .ok (.iconst 2, 1) := by decide +kernel
theorem dX2_halve_6 : decode cX2_halve 6 = .ok (.idiv, 1) := by decide +kernel
theorem dX2_halve_7 : decode cX2_halve 7 = .ok (.iaload, 1) := by decide +kernel
theorem dX2_halve_8 : decode cX2_halve 8 = .ok (.iconst 2, 1) := by decide +kernel
theorem dX2_halve_9 : decode cX2_halve 9 = .ok (.idiv, 1) := by decide +kernel
theorem dX2_halve_10 : decode cX2_halve 10 = .ok (.istore_n 3, 1) := by decide +kernel
theorem dX2_halve_11 : decode cX2_halve 11 = .ok (.aload_n 0, 1) := by decide +kernel
theorem dX2_halve_12 : decode cX2_halve 12 = .ok (.iload_n 2, 1) := by decide +kernel
theorem dX2_halve_13 : decode cX2_halve 13 = .ok (.aload_n 0, 1) := by decide +kernel
theorem dX2_halve_14 : decode cX2_halve 14 = .ok (.iload_n 1, 1) := by decide +kernel
theorem dX2_halve_15 : decode cX2_halve 15 = .ok (.invokevirtual 101, 3) := by decide +kernel
theorem dX2_halve_18 : decode cX2_halve 18 = .ok (.iload_n 3, 1) := by decide +kernel
theorem dX2_halve_19 : decode cX2_halve 19 = .ok (.invokevirtual 130, 3) := by decide +kernel
theorem dX2_halve_22 : decode cX2_halve 22 = .ok (.istore 4, 2) := by decide +kernel
theorem dX2_halve_24 : decode cX2_halve 24 = .ok (.aload_n 0, 1) := by decide +kernel
theorem dX2_halve_25 : decode cX2_halve 25 = .ok (.getfield 27, 3) := by decide +kernel
theorem dX2_halve_28 : decode cX2_halve 28 = .ok (.iload_n 1, 1) := by decide +kernel
theorem dX2_halve_29 : decode cX2_halve 29 = .ok (.iconst 2, 1) := by decide +kernel
theorem dX2_halve_30 : decode cX2_halve 30 = .ok (.idiv, 1) := by decide +kernel
theorem dX2_halve_31 : decode cX2_halve 31 = .ok (.dup2, 1) := by decide +kernel
theorem dX2_halve_32 : decode cX2_halve 32 = .ok (.iaload, 1) := by decide +kernel
theorem dX2_halve_33 : decode cX2_halve 33 = .ok (.iload_n 3, 1) := by decide +kernel
theorem dX2_halve_34 : decode cX2_halve 34 = .ok (.isub, 1) := by decide +kernel
theorem dX2_halve_35 : decode cX2_halve 35 = .ok (.iastore, 1) := by decide +kernel
theorem dX2_halve_36 : decode cX2_halve 36 = .ok (.aload_n 0, 1) := by decide +kernel
theorem dX2_halve_37 : decode cX2_halve 37 = .ok (.iload 4, 2) := by decide +kernel
theorem dX2_halve_39 : decode cX2_halve 39 = .ok (.aload_n 0, 1) := by decide +kernel
theorem dX2_halve_40 : decode cX2_halve 40 = .ok (.getfield 21, 3) := by decide +kernel
theorem dX2_halve_43 : decode cX2_halve 43 = .ok (.iload_n 1, 1) := by decide +kernel
theorem dX2_halve_44 : decode cX2_halve 44 = .ok (.iaload, 1) := by decide +kernel
theorem dX2_halve_45 : decode cX2_halve 45 = .ok (.aload_n 0, 1) := by decide +kernel
theorem dX2_halve_46 : decode cX2_halve 46 = .ok (.getfield 24, 3) := by decide +kernel
theorem dX2_halve_49 : decode cX2_halve 49 = .ok (.iload_n 1, 1) := by decide +kernel
theorem dX2_halve_50 : decode cX2_halve 50 = .ok (.iaload, 1) := by decide +kernel
theorem dX2_halve_51 : decode cX2_halve 51 = .ok (.invokevirtual 64, 3) := by decide +kernel
theorem dX2_halve_54 : decode cX2_halve 54 = .ok (.aload_n 0, 1) := by decide +kernel
theorem dX2_halve_55 : decode cX2_halve 55 = .ok (.getfield 30, 3) := by decide +kernel
theorem dX2_halve_58 : decode cX2_halve 58 = .ok (.aload_n 0, 1) := by decide +kernel
theorem dX2_halve_59 : decode cX2_halve 59 = .ok (.iload_n 1, 1) := by decide +kernel
theorem dX2_halve_60 : decode cX2_halve 60 = .ok (.invokevirtual 101, 3) := by decide +kernel
theorem dX2_halve_63 : decode cX2_halve 63 = .ok (.dup2, 1) := by decide +kernel
theorem dX2_halve_64 : decode cX2_halve 64 = .ok (.iaload, 1) := by decide +kernel
theorem dX2_halve_65 : decode cX2_halve 65 = .ok (.iconst 1, 1) := by decide +kernel
theorem dX2_halve_66 : decode cX2_halve 66 = .ok (.iadd, 1) := by decide +kernel
theorem dX2_halve_67 : decode cX2_halve 67 = .ok (.iastore, 1) := by decide +kernel
theorem dX2_halve_68 : decode cX2_halve 68 = .ok (.iload 4, 2) := by decide +kernel
theorem dX2_halve_70 : decode cX2_halve 70 = .ok (.ireturn, 1) := by decide +kernel
theorem dX2_addWall_0 : decode cX2_addWall 0 = .ok (.iconst 0, 1) := by decide +kernel
theorem dX2_addWall_1 : decode cX2_addWall 1 = .ok (.istore 4, 2) := by decide +kernel
theorem dX2_addWall_3 : decode cX2_addWall 3 = .ok (.iload 4, 2) := by decide +kernel
theorem dX2_addWall_5 : decode cX2_addWall 5 = .ok (.sipush 143, 3) := by decide +kernel
theorem dX2_addWall_8 : decode cX2_addWall 8 = .ok (.if_icmp .ge 18, 3) := by decide +kernel
theorem dX2_addWall_11 : decode cX2_addWall 11 = .ok (.aload_n 0, 1) := by decide +kernel
theorem dX2_addWall_12 : decode cX2_addWall 12 = .ok (.iload 4, 2) := by decide +kernel
theorem dX2_addWall_14 : decode cX2_addWall 14 = .ok (.invokevirtual 91, 3) := by decide +kernel
theorem dX2_addWall_17 : decode cX2_addWall 17 = .ok (.ifCond .eq 9, 3) := by decide +kernel
theorem dX2_addWall_20 : decode cX2_addWall 20 = .ok (.iinc 4 1, 3) := by decide +kernel
theorem dX2_addWall_23 : decode cX2_addWall 23 = .ok (.goto (-20), 3) := by decide +kernel
theorem dX2_addWall_26 : decode cX2_addWall 26 = .ok (.aload_n 0, 1) := by decide +kernel
theorem dX2_addWall_27 : decode cX2_addWall 27 = .ok (.getfield 9, 3) := by decide +kernel
theorem dX2_addWall_30 : decode cX2_addWall 30 = .ok (.iconst 2, 1) := by decide +kernel
theorem dX2_addWall_31 : decode cX2_addWall 31 = .ok (.iload 4, 2) := by decide +kernel
theorem dX2_addWall_33 : decode cX2_addWall 33 = .ok (.imul, 1) := by decide +kernel
theorem dX2_addWall_34 : decode cX2_addWall 34 = .ok (.iload_n 1, 1) := by decide +kernel
theorem dX2_addWall_35 : decode cX2_addWall 35 = .ok (.iastore, 1) := by decide +kernel
theorem dX2_addWall_36 : decode cX2_addWall 36 = .ok (.aload_n 0, 1) := by decide +kernel
theorem dX2_addWall_37 : decode cX2_addWall 37 = .ok (.getfield 9, 3) := by decide +kernel
theorem dX2_addWall_40 : decode cX2_addWall 40 = .ok (.iconst 2, 1) := by decide +kernel
theorem dX2_addWall_41 : decode cX2_addWall 41 = .ok (.iload 4, 2) := by decide +kernel
theorem dX2_addWall_43 : decode cX2_addWall 43 = .ok (.imul, 1) := by decide +kernel
theorem dX2_addWall_44 : decode cX2_addWall 44 = .ok (.iconst 1, 1) := by decide +kernel
theorem dX2_addWall_45 : decode cX2_addWall 45 = .ok (.iadd, 1) := by decide +kernel
theorem dX2_addWall_46 : decode cX2_addWall 46 = .ok (.iload_n 2, 1) := by decide +kernel
theorem dX2_addWall_47 : decode cX2_addWall 47 = .ok (.iastore, 1) := by decide +kernel
theorem dX2_addWall_48 : decode cX2_addWall 48 = .ok (.aload_n 0, 1) := by decide +kernel
theorem dX2_addWall_49 : decode cX2_addWall 49 = .ok (.getfield 27, 3) := by decide +kernel
theorem dX2_addWall_52 : decode cX2_addWall 52 = .ok (.iload 4, 2) := by decide +kernel
theorem dX2_addWall_54 : decode cX2_addWall 54 = .ok (.iload_n 3, 1) := by decide +kernel
theorem dX2_addWall_55 : decode cX2_addWall 55 = .ok (.iastore, 1) := by decide +kernel
theorem dX2_addWall_56 : decode cX2_addWall 56 = .ok (.iconst 2, 1) := by decide +kernel
theorem dX2_addWall_57 : decode cX2_addWall 57 = .ok (.iload 4, 2) := by decide +kernel
theorem dX2_addWall_59 : decode cX2_addWall 59 = .ok (.imul, 1) := by decide +kernel
theorem dX2_addWall_60 : decode cX2_addWall 60 = .ok (.ireturn, 1) := by decide +kernel
theorem dX2_freeCell_0 : decode cX2_freeCell 0 = .ok (.iconst 0, 1) := by decide +kernel
theorem dX2_freeCell_1 : decode cX2_freeCell 1 = .ok (.istore_n 1, 1) := by decide +kernel
theorem dX2_freeCell_2 : decode cX2_freeCell 2 = .ok (.iload_n 1, 1) := by decide +kernel
theorem dX2_freeCell_3 : decode cX2_freeCell 3 = .ok (.bipush 48, 2) := by decide +kernel
theorem dX2_freeCell_5 : decode cX2_freeCell 5 = .ok (.if_icmp .ge 20, 3) := by decide +kernel
theorem dX2_freeCell_8 : decode cX2_freeCell 8 = .ok (.aload_n 0, 1) := by decide +kernel
theorem dX2_freeCell_9 : decode cX2_freeCell 9 = .ok (.getfield 30, 3) := by decide +kernel
theorem dX2_freeCell_12 : decode cX2_freeCell 12 = .ok (.iload_n 1, 1) := by decide +kernel
theorem dX2_freeCell_13 : decode cX2_freeCell 13 = .ok (.iaload, 1) := by decide +kernel
theorem dX2_freeCell_14 : decode cX2_freeCell 14 = .ok (.ifCond .ne 5, 3) := by decide +kernel
theorem dX2_freeCell_17 : decode cX2_freeCell 17 = .ok (.iload_n 1, 1) := by decide +kernel
theorem dX2_freeCell_18 : decode cX2_freeCell 18 = .ok (.ireturn, 1) := by decide +kernel
theorem dX2_freeCell_19 : decode cX2_freeCell 19 = .ok (.iinc 1 1, 3) := by decide +kernel
theorem dX2_freeCell_22 : decode cX2_freeCell 22 = .ok (.goto (-20), 3) := by decide +kernel
theorem dX2_freeCell_25 : decode cX2_freeCell 25 = .ok (.iconst (-1), 1) := by decide +kernel
theorem dX2_freeCell_26 : decode cX2_freeCell 26 = .ok (.ireturn, 1) := by decide +kernel
theorem dX2_canJoin_0 : decode cX2_canJoin 0 = .ok (.aload_n 0, 1) := by decide +kernel
theorem dX2_canJoin_1 : decode cX2_canJoin 1 = .ok (.getfield 9, 3) := by decide +kernel
theorem dX2_canJoin_4 : decode cX2_canJoin 4 = .ok (.iconst 2, 1) := by decide +kernel
theorem dX2_canJoin_5 : decode cX2_canJoin 5 = .ok (.iload_n 1, 1) := by decide +kernel
theorem dX2_canJoin_6 : decode cX2_canJoin 6 = .ok (.imul, 1) := by decide +kernel
theorem dX2_canJoin_7 : decode cX2_canJoin 7 = .ok (.iaload, 1) := by decide +kernel
theorem dX2_canJoin_8 : decode cX2_canJoin 8 = .ok (.istore_n 2, 1) := by decide +kernel
theorem dX2_canJoin_9 : decode cX2_canJoin 9 = .ok (.aload_n 0, 1) := by decide +kernel
theorem dX2_canJoin_10 : decode cX2_canJoin 10 = .ok (.getfield 9, 3) := by decide +kernel
theorem dX2_canJoin_13 : decode cX2_canJoin 13 = .ok (.iconst 2, 1) := by decide +kernel
theorem dX2_canJoin_14 : decode cX2_canJoin 14 = .ok (.iload_n 1, 1) := by decide +kernel
theorem dX2_canJoin_15 : decode cX2_canJoin 15 = .ok (.imul, 1) := by decide +kernel
theorem dX2_canJoin_16 : decode cX2_canJoin 16 = .ok (.iconst 1, 1) := by decide +kernel
theorem dX2_canJoin_17 : decode cX2_canJoin 17 = .ok (.iadd, 1) := by decide +kernel
theorem dX2_canJoin_18 : decode cX2_canJoin 18 = .ok (.iaload, 1) := by decide +kernel
theorem dX2_canJoin_19 : decode cX2_canJoin 19 = .ok (.istore_n 3, 1) := by decide +kernel
theorem dX2_canJoin_20 : decode cX2_canJoin 20 = .ok (.aload_n 0, 1) := by decide +kernel
theorem dX2_canJoin_21 : decode cX2_canJoin 21 = .ok (.iconst 2, 1) := by decide +kernel
theorem dX2_canJoin_22 : decode cX2_canJoin 22 = .ok (.iload_n 1, 1) := by decide +kernel
theorem dX2_canJoin_23 : decode cX2_canJoin 23 = .ok (.imul, 1) := by decide +kernel
theorem dX2_canJoin_24 : decode cX2_canJoin 24 = .ok (.invokevirtual 77, 3) := by decide +kernel
theorem dX2_canJoin_27 : decode cX2_canJoin 27 = .ok (.istore 4, 2) := by decide +kernel
theorem dX2_canJoin_29 : decode cX2_canJoin 29 = .ok (.aload_n 0, 1) := by decide +kernel
theorem dX2_canJoin_30 : decode cX2_canJoin 30 = .ok (.iconst 2, 1) := by decide +kernel
theorem dX2_canJoin_31 : decode cX2_canJoin 31 = .ok (.iload_n 1, 1) := by decide +kernel
theorem dX2_canJoin_32 : decode cX2_canJoin 32 = .ok (.imul, 1) := by decide +kernel
theorem dX2_canJoin_33 : decode cX2_canJoin 33 = .ok (.iconst 1, 1) := by decide +kernel
theorem dX2_canJoin_34 : decode cX2_canJoin 34 = .ok (.iadd, 1) := by decide +kernel
theorem dX2_canJoin_35 : decode cX2_canJoin 35 = .ok (.invokevirtual 77, 3) := by decide +kernel
theorem dX2_canJoin_38 : decode cX2_canJoin 38 = .ok (.istore 5, 2) := by decide +kernel
theorem dX2_canJoin_40 : decode cX2_canJoin 40 = .ok (.iload_n 2, 1) := by decide +kernel
theorem dX2_canJoin_41 : decode cX2_canJoin 41 = .ok (.iload_n 3, 1) := by decide +kernel
theorem dX2_canJoin_42 : decode cX2_canJoin 42 = .ok (.iload 4, 2) := by decide +kernel
theorem dX2_canJoin_44 : decode cX2_canJoin 44 = .ok (.iload 5, 2) := by decide +kernel
theorem dX2_canJoin_46 : decode cX2_canJoin 46 = .ok (.invokestatic 80, 3) := by decide +kernel
theorem dX2_canJoin_49 : decode cX2_canJoin 49 = .ok (.ifCond .eq 57, 3) := by decide +kernel
theorem dX2_canJoin_52 : decode cX2_canJoin 52 = .ok (.aload_n 0, 1) := by decide +kernel
theorem dX2_canJoin_53 : decode cX2_canJoin 53 = .ok (.iload_n 2, 1) := by decide +kernel
theorem dX2_canJoin_54 : decode cX2_canJoin 54 = .ok (.iload_n 3, 1) := by decide +kernel
theorem dX2_canJoin_55 : decode cX2_canJoin 55 = .ok (.invokevirtual 137, 3) := by decide +kernel
theorem dX2_canJoin_58 : decode cX2_canJoin 58 = .ok (.iconst 1, 1) := by decide +kernel
theorem dX2_canJoin_59 : decode cX2_canJoin 59 = .ok (.if_icmp .ne 47, 3) := by decide +kernel
theorem dX2_canJoin_62 : decode cX2_canJoin 62 = .ok (.aload_n 0, 1) := by decide +kernel
theorem dX2_canJoin_63 : decode cX2_canJoin 63 = .ok (.getfield 30, 3) := by decide +kernel
theorem dX2_canJoin_66 : decode cX2_canJoin 66 = .ok (.iload 4, 2) := by decide +kernel
theorem dX2_canJoin_68 : decode cX2_canJoin 68 = .ok (.iaload, 1) := by decide +kernel
theorem dX2_canJoin_69 : decode cX2_canJoin 69 = .ok (.iconst 3, 1) := by decide +kernel
theorem dX2_canJoin_70 : decode cX2_canJoin 70 = .ok (.if_icmp .le 36, 3) := by decide +kernel
theorem dX2_canJoin_73 : decode cX2_canJoin 73 = .ok (.aload_n 0, 1) := by decide +kernel
theorem dX2_canJoin_74 : decode cX2_canJoin 74 = .ok (.getfield 30, 3) := by decide +kernel
theorem dX2_canJoin_77 : decode cX2_canJoin 77 = .ok (.iload 5, 2) := by decide +kernel
theorem dX2_canJoin_79 : decode cX2_canJoin 79 = .ok (.iaload, 1) := by decide +kernel
theorem dX2_canJoin_80 : decode cX2_canJoin 80 = .ok (.iconst 3, 1) := by decide +kernel
theorem dX2_canJoin_81 : decode cX2_canJoin 81 = .ok (.if_icmp .le 25, 3) := by decide +kernel
theorem dX2_canJoin_84 : decode cX2_canJoin 84 = .ok (.aload_n 0, 1) := by decide +kernel
theorem dX2_canJoin_85 : decode cX2_canJoin 85 = .ok (.getfield 30, 3) := by decide +kernel
theorem dX2_canJoin_88 : decode cX2_canJoin 88 = .ok (.iload_n 2, 1) := by decide +kernel
theorem dX2_canJoin_89 : decode cX2_canJoin 89 = .ok (.iaload, 1) := by decide +kernel
theorem dX2_canJoin_90 : decode cX2_canJoin 90 = .ok (.aload_n 0, 1) := by decide +kernel
theorem dX2_canJoin_91 : decode cX2_canJoin 91 = .ok (.getfield 30, 3) := by decide +kernel
theorem dX2_canJoin_94 : decode cX2_canJoin 94 = .ok (.iload_n 3, 1) := by decide +kernel
theorem dX2_canJoin_95 : decode cX2_canJoin 95 = .ok (.iaload, 1) := by decide +kernel
theorem dX2_canJoin_96 : decode cX2_canJoin 96 = .ok (.iadd, 1) := by decide +kernel
theorem dX2_canJoin_97 : decode cX2_canJoin 97 = .ok (.bipush 6, 2) := by decide +kernel
theorem dX2_canJoin_99 : decode cX2_canJoin 99 = .ok (.if_icmp .le 7, 3) := by decide +kernel
theorem dX2_canJoin_102 : decode cX2_canJoin 102 = .ok (.iconst 1, 1) := by decide +kernel
theorem dX2_canJoin_103 : decode cX2_canJoin 103 = .ok (.goto 4, 3) := by decide +kernel
theorem dX2_canJoin_106 : decode cX2_canJoin 106 = .ok (.iconst 0, 1) := by decide +kernel
theorem dX2_canJoin_107 : decode cX2_canJoin 107 = .ok (.ireturn, 1) := by decide +kernel
theorem dX2_join_0 : decode cX2_join 0 = .ok (.aload_n 0, 1) := by decide +kernel
theorem dX2_join_1 : decode cX2_join 1 = .ok (.getfield 9, 3) := by decide +kernel
theorem dX2_join_4 : decode cX2_join 4 = .ok (.iconst 2, 1) := by decide +kernel
theorem dX2_join_5 : decode cX2_join 5 = .ok (.iload_n 1, 1) := by decide +kernel
theorem dX2_join_6 : decode cX2_join 6 = .ok (.imul, 1) := by decide +kernel
theorem dX2_join_7 : decode cX2_join 7 = .ok (.iaload, 1) := by decide +kernel
theorem dX2_join_8 : decode cX2_join 8 = .ok (.aload_n 0, 1) := by decide +kernel
theorem dX2_join_9 : decode cX2_join 9 = .ok (.getfield 9, 3) := by decide +kernel
theorem dX2_join_12 : decode cX2_join 12 = .ok (.iconst 2, 1) := by decide +kernel
theorem dX2_join_13 : decode cX2_join 13 = .ok (.iload_n 1, 1) := by decide +kernel
theorem dX2_join_14 : decode cX2_join 14 = .ok (.imul, 1) := by decide +kernel
theorem dX2_join_15 : decode cX2_join 15 = .ok (.iconst 1, 1) := by decide +kernel
theorem dX2_join_16 : decode cX2_join 16 = .ok (.iadd, 1) := by decide +kernel
theorem dX2_join_17 : decode cX2_join 17 = .ok (.iaload, 1) := by decide +kernel
theorem dX2_join_18 : decode cX2_join 18 = .ok (.if_icmp .ge 9, 3) := by decide +kernel
theorem dX2_join_21 : decode cX2_join 21 = .ok (.iconst 2, 1) := by decide +kernel
theorem dX2_join_22 : decode cX2_join 22 = .ok (.iload_n 1, 1) := by decide +kernel
theorem dX2_join_23 : decode cX2_join 23 = .ok (.imul, 1) := by decide +kernel
theorem dX2_join_24 : decode cX2_join 24 = .ok (.goto 8, 3) := by decide +kernel
theorem dX2_join_27 : decode cX2_join 27 = .ok (.iconst 2, 1) := by decide +kernel
theorem dX2_join_28 : decode cX2_join 28 = .ok (.iload_n 1, 1) := by decide +kernel
theorem dX2_join_29 : decode cX2_join 29 = .ok (.imul, 1) := by decide +kernel
theorem dX2_join_30 : decode cX2_join 30 = .ok (.iconst 1, 1) := by decide +kernel
theorem dX2_join_31 : decode cX2_join 31 = .ok (.iadd, 1) := by decide +kernel
theorem dX2_join_32 : decode cX2_join 32 = .ok (.istore_n 2, 1) := by decide +kernel
theorem dX2_join_33 : decode cX2_join 33 = .ok (.iload_n 2, 1) := by decide +kernel
theorem dX2_join_34 : decode cX2_join 34 = .ok (.iconst 1, 1) := by decide +kernel
theorem dX2_join_35 : decode cX2_join 35 = .ok (.ixor, 1) := by decide +kernel
theorem dX2_join_36 : decode cX2_join 36 = .ok (.istore_n 3, 1) := by decide +kernel
theorem dX2_join_37 : decode cX2_join 37 = .ok (.aload_n 0, 1) := by decide +kernel
theorem dX2_join_38 : decode cX2_join 38 = .ok (.getfield 9, 3) := by decide +kernel
theorem dX2_join_41 : decode cX2_join 41 = .ok (.iload_n 2, 1) := by decide +kernel
theorem dX2_join_42 : decode cX2_join 42 = .ok (.iaload, 1) := by decide +kernel
theorem dX2_join_43 : decode cX2_join 43 = .ok (.istore 4, 2) := by decide +kernel
theorem dX2_join_45 : decode cX2_join 45 = .ok (.aload_n 0, 1) := by decide +kernel
theorem dX2_join_46 : decode cX2_join 46 = .ok (.getfield 9, 3) := by decide +kernel
theorem dX2_join_49 : decode cX2_join 49 = .ok (.iload_n 3, 1) := by decide +kernel
theorem dX2_join_50 : decode cX2_join 50 = .ok (.iaload, 1) := by decide +kernel
theorem dX2_join_51 : decode cX2_join 51 = .ok (.istore 5, 2) := by decide +kernel
theorem dX2_join_53 : decode cX2_join 53 = .ok (.aload_n 0, 1) := by decide +kernel
theorem dX2_join_54 : decode cX2_join 54 = .ok (.getfield 21, 3) := by decide +kernel
theorem dX2_join_57 : decode cX2_join 57 = .ok (.iload_n 2, 1) := by decide +kernel
theorem dX2_join_58 : decode cX2_join 58 = .ok (.iaload, 1) := by decide +kernel
theorem dX2_join_59 : decode cX2_join 59 = .ok (.istore 6, 2) := by decide +kernel
theorem dX2_join_61 : decode cX2_join 61 = .ok (.aload_n 0, 1) := by decide +kernel
theorem dX2_join_62 : decode cX2_join 62 = .ok (.getfield 24, 3) := by decide +kernel
theorem dX2_join_65 : decode cX2_join 65 = .ok (.iload_n 2, 1) := by decide +kernel
theorem dX2_join_66 : decode cX2_join 66 = .ok (.iaload, 1) := by decide +kernel
theorem dX2_join_67 : decode cX2_join 67 = .ok (.istore 7, 2) := by decide +kernel
theorem dX2_join_69 : decode cX2_join 69 = .ok (.aload_n 0, 1) := by decide +kernel
theorem dX2_join_70 : decode cX2_join 70 = .ok (.getfield 15, 3) := by decide +kernel
theorem dX2_join_73 : decode cX2_join 73 = .ok (.iload_n 3, 1) := by decide +kernel
theorem dX2_join_74 : decode cX2_join 74 = .ok (.iaload, 1) := by decide +kernel
theorem dX2_join_75 : decode cX2_join 75 = .ok (.istore 8, 2) := by decide +kernel
theorem dX2_join_77 : decode cX2_join 77 = .ok (.iconst 1, 1) := by decide +kernel
theorem dX2_join_78 : decode cX2_join 78 = .ok (.istore 9, 2) := by decide +kernel
theorem dX2_join_80 : decode cX2_join 80 = .ok (.iload 9, 2) := by decide +kernel
theorem dX2_join_82 : decode cX2_join 82 = .ok (.aload_n 0, 1) := by decide +kernel
theorem dX2_join_83 : decode cX2_join 83 = .ok (.getfield 30, 3) := by decide +kernel
theorem dX2_join_86 : decode cX2_join 86 = .ok (.iload 5, 2) := by decide +kernel
theorem dX2_join_88 : decode cX2_join 88 = .ok (.iaload, 1) := by decide +kernel
theorem dX2_join_89 : decode cX2_join 89 = .ok (.if_icmp .ge 53, 3) := by decide +kernel
theorem dX2_join_92 : decode cX2_join 92 = .ok (.aload_n 0, 1) := by decide +kernel
theorem dX2_join_93 : decode cX2_join 93 = .ok (.iload 8, 2) := by decide +kernel
theorem dX2_join_95 : decode cX2_join 95 = .ok (.aload_n 0, 1) := by decide +kernel
theorem dX2_join_96 : decode cX2_join 96 = .ok (.getfield 21, 3) := by decide +kernel
theorem dX2_join_99 : decode cX2_join 99 = .ok (.iload 8, 2) := by decide +kernel
theorem dX2_join_101 : decode cX2_join 101 = .ok (.iaload, 1) := by decide +kernel
theorem dX2_join_102 : decode cX2_join 102 = .ok (.iload 6, 2) := by decide +kernel
theorem dX2_join_104 : decode cX2_join 104 = .ok (.iadd, 1) := by decide +kernel
theorem dX2_join_105 : decode cX2_join 105 = .ok (.aload_n 0, 1) := by decide +kernel
theorem dX2_join_106 : decode cX2_join 106 = .ok (.getfield 24, 3) := by decide +kernel
theorem dX2_join_109 : decode cX2_join 109 = .ok (.iload 8, 2) := by decide +kernel
theorem dX2_join_111 : decode cX2_join 111 = .ok (.iaload, 1) := by decide +kernel
theorem dX2_join_112 : decode cX2_join 112 = .ok (.iload 7, 2) := by decide +kernel
theorem dX2_join_114 : decode cX2_join 114 = .ok (.iadd, 1) := by decide +kernel
theorem dX2_join_115 : decode cX2_join 115 = .ok (.invokevirtual 64, 3) := by decide +kernel
theorem dX2_join_118 : decode cX2_join 118 = .ok (.aload_n 0, 1) := by decide +kernel
theorem dX2_join_119 : decode cX2_join 119 = .ok (.getfield 9, 3) := by decide +kernel
theorem dX2_join_122 : decode cX2_join 122 = .ok (.iload 8, 2) := by decide +kernel
theorem dX2_join_124 : decode cX2_join 124 = .ok (.iload 4, 2) := by decide +kernel
theorem dX2_join_126 : decode cX2_join 126 = .ok (.iastore, 1) := by decide +kernel
theorem dX2_join_127 : decode cX2_join 127 = .ok (.aload_n 0, 1) := by decide +kernel
theorem dX2_join_128 : decode cX2_join 128 = .ok (.getfield 15, 3) := by decide +kernel
theorem dX2_join_131 : decode cX2_join 131 = .ok (.iload 8, 2) := by decide +kernel
theorem dX2_join_133 : decode cX2_join 133 = .ok (.iaload, 1) := by decide +kernel
theorem dX2_join_134 : decode cX2_join 134 = .ok (.istore 8, 2) := by decide +kernel
theorem dX2_join_136 : decode cX2_join 136 = .ok (.iinc 9 1, 3) := by decide +kernel
theorem dX2_join_139 : decode cX2_join 139 = .ok (.goto (-59), 3) := by decide +kernel
theorem dX2_join_142 : decode cX2_join 142 = .ok (.aload_n 0, 1) := by decide +kernel
theorem dX2_join_143 : decode cX2_join 143 = .ok (.getfield 18, 3) := by decide +kernel
theorem dX2_join_146 : decode cX2_join 146 = .ok (.iload_n 2, 1) := by decide +kernel
theorem dX2_join_147 : decode cX2_join 147 = .ok (.iaload, 1) := by decide +kernel
theorem dX2_join_148 : decode cX2_join 148 = .ok (.istore 9, 2) := by decide +kernel
theorem dX2_join_150 : decode cX2_join 150 = .ok (.aload_n 0, 1) := by decide +kernel
theorem dX2_join_151 : decode cX2_join 151 = .ok (.getfield 15, 3) := by decide +kernel
theorem dX2_join_154 : decode cX2_join 154 = .ok (.iload_n 2, 1) := by decide +kernel
theorem dX2_join_155 : decode cX2_join 155 = .ok (.iaload, 1) := by decide +kernel
theorem dX2_join_156 : decode cX2_join 156 = .ok (.istore 10, 2) := by decide +kernel
theorem dX2_join_158 : decode cX2_join 158 = .ok (.aload_n 0, 1) := by decide +kernel
theorem dX2_join_159 : decode cX2_join 159 = .ok (.getfield 18, 3) := by decide +kernel
theorem dX2_join_162 : decode cX2_join 162 = .ok (.iload_n 3, 1) := by decide +kernel
theorem dX2_join_163 : decode cX2_join 163 = .ok (.iaload, 1) := by decide +kernel
theorem dX2_join_164 : decode cX2_join 164 = .ok (.istore 11, 2) := by decide +kernel
theorem dX2_join_166 : decode cX2_join 166 = .ok (.aload_n 0, 1) := by decide +kernel
theorem dX2_join_167 : decode cX2_join 167 = .ok (.getfield 15, 3) := by decide +kernel
theorem dX2_join_170 : decode cX2_join 170 = .ok (.iload_n 3, 1) := by decide +kernel
theorem dX2_join_171 : decode cX2_join 171 = .ok (.iaload, 1) := by decide +kernel
theorem dX2_join_172 : decode cX2_join 172 = .ok (.istore 12, 2) := by decide +kernel
theorem dX2_join_174 : decode cX2_join 174 = .ok (.aload_n 0, 1) := by decide +kernel
theorem dX2_join_175 : decode cX2_join 175 = .ok (.iload 9, 2) := by decide +kernel
theorem dX2_join_177 : decode cX2_join 177 = .ok (.iload 12, 2) := by decide +kernel
theorem dX2_join_179 : decode cX2_join 179 = .ok (.invokevirtual 50, 3) := by decide +kernel
theorem dX2_join_182 : decode cX2_join 182 = .ok (.aload_n 0, 1) := by decide +kernel
theorem dX2_join_183 : decode cX2_join 183 = .ok (.iload 11, 2) := by decide +kernel
theorem dX2_join_185 : decode cX2_join 185 = .ok (.iload 10, 2) := by decide +kernel
theorem dX2_join_187 : decode cX2_join 187 = .ok (.invokevirtual 50, 3) := by decide +kernel
theorem dX2_join_190 : decode cX2_join 190 = .ok (.aload_n 0, 1) := by decide +kernel
theorem dX2_join_191 : decode cX2_join 191 = .ok (.getfield 30, 3) := by decide +kernel
theorem dX2_join_194 : decode cX2_join 194 = .ok (.iload 4, 2) := by decide +kernel
theorem dX2_join_196 : decode cX2_join 196 = .ok (.dup2, 1) := by decide +kernel
theorem dX2_join_197 : decode cX2_join 197 = .ok (.iaload, 1) := by decide +kernel
theorem dX2_join_198 : decode cX2_join 198 = .ok (.aload_n 0, 1) := by decide +kernel
theorem dX2_join_199 : decode cX2_join 199 = .ok (.getfield 30, 3) := by decide +kernel
theorem dX2_join_202 : decode cX2_join 202 = .ok (.iload 5, 2) := by decide +kernel
theorem dX2_join_204 : decode cX2_join 204 = .ok (.iaload, 1) := by decide +kernel
theorem dX2_join_205 : decode cX2_join 205 = .ok (.iconst 2, 1) := by decide +kernel
theorem dX2_join_206 : decode cX2_join 206 = .ok (.isub, 1) := by decide +kernel
theorem dX2_join_207 : decode cX2_join 207 = .ok (.iadd, 1) := by decide +kernel
theorem dX2_join_208 : decode cX2_join 208 = .ok (.iastore, 1) := by decide +kernel
theorem dX2_join_209 : decode cX2_join 209 = .ok (.aload_n 0, 1) := by decide +kernel
theorem dX2_join_210 : decode cX2_join 210 = .ok (.getfield 33, 3) := by decide +kernel
theorem dX2_join_213 : decode cX2_join 213 = .ok (.iload 4, 2) := by decide +kernel
theorem dX2_join_215 : decode cX2_join 215 = .ok (.dup2, 1) := by decide +kernel
theorem dX2_join_216 : decode cX2_join 216 = .ok (.iaload, 1) := by decide +kernel
theorem dX2_join_217 : decode cX2_join 217 = .ok (.aload_n 0, 1) := by decide +kernel
theorem dX2_join_218 : decode cX2_join 218 = .ok (.getfield 33, 3) := by decide +kernel
theorem dX2_join_221 : decode cX2_join 221 = .ok (.iload 5, 2) := by decide +kernel
theorem dX2_join_223 : decode cX2_join 223 = .ok (.iaload, 1) := by decide +kernel
theorem dX2_join_224 : decode cX2_join 224 = .ok (.iadd, 1) := by decide +kernel
theorem dX2_join_225 : decode cX2_join 225 = .ok (.iastore, 1) := by decide +kernel
theorem dX2_join_226 : decode cX2_join 226 = .ok (.aload_n 0, 1) := by decide +kernel
theorem dX2_join_227 : decode cX2_join 227 = .ok (.iload_n 1, 1) := by decide +kernel
theorem dX2_join_228 : decode cX2_join 228 = .ok (.invokevirtual 107, 3) := by decide +kernel
theorem dX2_join_231 : decode cX2_join 231 = .ok (.aload_n 0, 1) := by decide +kernel
theorem dX2_join_232 : decode cX2_join 232 = .ok (.iload 5, 2) := by decide +kernel
theorem dX2_join_234 : decode cX2_join 234 = .ok (.invokevirtual 110, 3) := by decide +kernel
theorem dX2_join_237 : decode cX2_join 237 = .ok (.aload_n 0, 1) := by decide +kernel
theorem dX2_join_238 : decode cX2_join 238 = .ok (.iload 9, 2) := by decide +kernel
theorem dX2_join_240 : decode cX2_join 240 = .ok (.iload 12, 2) := by decide +kernel
theorem dX2_join_242 : decode cX2_join 242 = .ok (.invokevirtual 140, 3) := by decide +kernel
theorem dX2_join_245 : decode cX2_join 245 = .ok (.aload_n 0, 1) := by decide +kernel
theorem dX2_join_246 : decode cX2_join 246 = .ok (.iload 11, 2) := by decide +kernel
theorem dX2_join_248 : decode cX2_join 248 = .ok (.iload 10, 2) := by decide +kernel
theorem dX2_join_250 : decode cX2_join 250 = .ok (.invokevirtual 140, 3) := by decide +kernel
theorem dX2_join_253 : decode cX2_join 253 = .ok (.iload 4, 2) := by decide +kernel
theorem dX2_join_255 : decode cX2_join 255 = .ok (.ireturn, 1) := by decide +kernel
theorem dX2_makeOne_0 : decode cX2_makeOne 0 = .ok (.iload_n 1, 1) := by decide +kernel
theorem dX2_makeOne_1 : decode cX2_makeOne 1 = .ok (.iload_n 2, 1) := by decide +kernel
theorem dX2_makeOne_2 : decode cX2_makeOne 2 = .ok (.if_icmp .ge 7, 3) := by decide +kernel
theorem dX2_makeOne_5 : decode cX2_makeOne 5 = .ok (.iload_n 1, 1) := by decide +kernel
theorem dX2_makeOne_6 : decode cX2_makeOne 6 = .ok (.goto 4, 3) := by decide +kernel
theorem dX2_makeOne_9 : decode cX2_makeOne 9 = .ok (.iload_n 2, 1) := by decide +kernel
theorem dX2_makeOne_10 : decode cX2_makeOne 10 = .ok (.istore_n 3, 1) := by decide +kernel
theorem dX2_makeOne_11 : decode cX2_makeOne 11 = .ok (.iload_n 1, 1) := by decide +kernel
theorem dX2_makeOne_12 : decode cX2_makeOne 12 = .ok (.iload_n 2, 1) := by decide +kernel
theorem dX2_makeOne_13 : decode cX2_makeOne 13 = .ok (.if_icmp .ge 7, 3) := by decide +kernel
theorem dX2_makeOne_16 : decode cX2_makeOne 16 = .ok (.iload_n 2, 1) := by decide +kernel
theorem dX2_makeOne_17 : decode cX2_makeOne 17 = .ok (.goto 4, 3) := by decide +kernel
theorem dX2_makeOne_20 : decode cX2_makeOne 20 = .ok (.iload_n 1, 1) := by decide +kernel
theorem dX2_makeOne_21 : decode cX2_makeOne 21 = .ok (.istore 4, 2) := by decide +kernel
theorem dX2_makeOne_23 : decode cX2_makeOne 23 = .ok (.aload_n 0, 1) := by decide +kernel
theorem dX2_makeOne_24 : decode cX2_makeOne 24 = .ok (.getfield 27, 3) := by decide +kernel
theorem dX2_makeOne_27 : decode cX2_makeOne 27 = .ok (.iload_n 1, 1) := by decide +kernel
theorem dX2_makeOne_28 : decode cX2_makeOne 28 = .ok (.iconst 2, 1) := by decide +kernel
theorem dX2_makeOne_29 : decode cX2_makeOne 29 = .ok (.idiv, 1) := by decide +kernel
theorem dX2_makeOne_30 : decode cX2_makeOne 30 = .ok (.iaload, 1) := by decide +kernel
theorem dX2_makeOne_31 : decode cX2_makeOne 31 = .ok (.aload_n 0, 1) := by decide +kernel
theorem dX2_makeOne_32 : decode cX2_makeOne 32 = .ok (.getfield 27, 3) := by decide +kernel
theorem dX2_makeOne_35 : decode cX2_makeOne 35 = .ok (.iload_n 2, 1) := by decide +kernel
theorem dX2_makeOne_36 : decode cX2_makeOne 36 = .ok (.iconst 2, 1) := by decide +kernel
theorem dX2_makeOne_37 : decode cX2_makeOne 37 = .ok (.idiv, 1) := by decide +kernel
theorem dX2_makeOne_38 : decode cX2_makeOne 38 = .ok (.iaload, 1) := by decide +kernel
theorem dX2_makeOne_39 : decode cX2_makeOne 39 = .ok (.iadd, 1) := by decide +kernel
theorem dX2_makeOne_40 : decode cX2_makeOne 40 = .ok (.istore 5, 2) := by decide +kernel
theorem dX2_makeOne_42 : decode cX2_makeOne 42 = .ok (.aload_n 0, 1) := by decide +kernel
theorem dX2_makeOne_43 : decode cX2_makeOne 43 = .ok (.getfield 27, 3) := by decide +kernel
theorem dX2_makeOne_46 : decode cX2_makeOne 46 = .ok (.iload_n 3, 1) := by decide +kernel
theorem dX2_makeOne_47 : decode cX2_makeOne 47 = .ok (.iconst 2, 1) := by decide +kernel
theorem dX2_makeOne_48 : decode cX2_makeOne 48 = .ok (.idiv, 1) := by decide +kernel
theorem dX2_makeOne_49 : decode cX2_makeOne 49 = .ok (.iload 5, 2) := by decide +kernel
theorem dX2_makeOne_51 : decode cX2_makeOne 51 = .ok (.bipush 99, 2) := by decide +kernel
theorem dX2_makeOne_53 : decode cX2_makeOne 53 = .ok (.invokestatic 113, 3) := by decide +kernel
theorem dX2_makeOne_56 : decode cX2_makeOne 56 = .ok (.iastore, 1) := by decide +kernel
theorem dX2_makeOne_57 : decode cX2_makeOne 57 = .ok (.aload_n 0, 1) := by decide +kernel
theorem dX2_makeOne_58 : decode cX2_makeOne 58 = .ok (.getfield 30, 3) := by decide +kernel
theorem dX2_makeOne_61 : decode cX2_makeOne 61 = .ok (.aload_n 0, 1) := by decide +kernel
theorem dX2_makeOne_62 : decode cX2_makeOne 62 = .ok (.getfield 9, 3) := by decide +kernel
theorem dX2_makeOne_65 : decode cX2_makeOne 65 = .ok (.iload 4, 2) := by decide +kernel
theorem dX2_makeOne_67 : decode cX2_makeOne 67 = .ok (.iaload, 1) := by decide +kernel
theorem dX2_makeOne_68 : decode cX2_makeOne 68 = .ok (.dup2, 1) := by decide +kernel
theorem dX2_makeOne_69 : decode cX2_makeOne 69 = .ok (.iaload, 1) := by decide +kernel
theorem dX2_makeOne_70 : decode cX2_makeOne 70 = .ok (.iconst 1, 1) := by decide +kernel
theorem dX2_makeOne_71 : decode cX2_makeOne 71 = .ok (.isub, 1) := by decide +kernel
theorem dX2_makeOne_72 : decode cX2_makeOne 72 = .ok (.iastore, 1) := by decide +kernel
theorem dX2_makeOne_73 : decode cX2_makeOne 73 = .ok (.aload_n 0, 1) := by decide +kernel
theorem dX2_makeOne_74 : decode cX2_makeOne 74 = .ok (.getfield 30, 3) := by decide +kernel
theorem dX2_makeOne_77 : decode cX2_makeOne 77 = .ok (.aload_n 0, 1) := by decide +kernel
theorem dX2_makeOne_78 : decode cX2_makeOne 78 = .ok (.iload 4, 2) := by decide +kernel
theorem dX2_makeOne_80 : decode cX2_makeOne 80 = .ok (.invokevirtual 101, 3) := by decide +kernel
theorem dX2_makeOne_83 : decode cX2_makeOne 83 = .ok (.dup2, 1) := by decide +kernel
theorem dX2_makeOne_84 : decode cX2_makeOne 84 = .ok (.iaload, 1) := by decide +kernel
theorem dX2_makeOne_85 : decode cX2_makeOne 85 = .ok (.iconst 1, 1) := by decide +kernel
theorem dX2_makeOne_86 : decode cX2_makeOne 86 = .ok (.isub, 1) := by decide +kernel
theorem dX2_makeOne_87 : decode cX2_makeOne 87 = .ok (.iastore, 1) := by decide +kernel
theorem dX2_makeOne_88 : decode cX2_makeOne 88 = .ok (.aload_n 0, 1) := by decide +kernel
theorem dX2_makeOne_89 : decode cX2_makeOne 89 = .ok (.iload 4, 2) := by decide +kernel
theorem dX2_makeOne_91 : decode cX2_makeOne 91 = .ok (.invokevirtual 84, 3) := by decide +kernel
theorem dX2_makeOne_94 : decode cX2_makeOne 94 = .ok (.aload_n 0, 1) := by decide +kernel
theorem dX2_makeOne_95 : decode cX2_makeOne 95 = .ok (.iload 4, 2) := by decide +kernel
theorem dX2_makeOne_97 : decode cX2_makeOne 97 = .ok (.iconst 1, 1) := by decide +kernel
theorem dX2_makeOne_98 : decode cX2_makeOne 98 = .ok (.ixor, 1) := by decide +kernel
theorem dX2_makeOne_99 : decode cX2_makeOne 99 = .ok (.invokevirtual 84, 3) := by decide +kernel
theorem dX2_makeOne_102 : decode cX2_makeOne 102 = .ok (.aload_n 0, 1) := by decide +kernel
theorem dX2_makeOne_103 : decode cX2_makeOne 103 = .ok (.iload 4, 2) := by decide +kernel
theorem dX2_makeOne_105 : decode cX2_makeOne 105 = .ok (.iconst 2, 1) := by decide +kernel
theorem dX2_makeOne_106 : decode cX2_makeOne 106 = .ok (.idiv, 1) := by decide +kernel
theorem dX2_makeOne_107 : decode cX2_makeOne 107 = .ok (.invokevirtual 107, 3) := by decide +kernel
theorem dX2_makeOne_110 : decode cX2_makeOne 110 = .ok (.return_, 1) := by decide +kernel
theorem dX2_wallsBetween_0 : decode cX2_wallsBetween 0 = .ok (.iconst 0, 1) := by decide +kernel
theorem dX2_wallsBetween_1 : decode cX2_wallsBetween 1 = .ok (.istore_n 3, 1) := by decide +kernel
theorem dX2_wallsBetween_2 : decode cX2_wallsBetween 2 = .ok (.iconst 0, 1) := by decide +kernel
theorem dX2_wallsBetween_3 : decode cX2_wallsBetween 3 = .ok (.istore 4, 2) := by decide +kernel
theorem dX2_wallsBetween_5 : decode cX2_wallsBetween 5 = .ok (.iload 4, 2) := by decide +kernel
theorem dX2_wallsBetween_7 : decode cX2_wallsBetween 7 = .ok (.sipush 144, 3) := by decide +kernel
theorem dX2_wallsBetween_10 : decode cX2_wallsBetween 10 = .ok (.if_icmp .ge 23, 3) := by decide +kernel
theorem dX2_wallsBetween_13 : decode cX2_wallsBetween 13 = .ok (.aload_n 0, 1) := by decide +kernel
theorem dX2_wallsBetween_14 : decode cX2_wallsBetween 14 = .ok (.iload 4, 2) := by decide +kernel
theorem dX2_wallsBetween_16 : decode cX2_wallsBetween 16 = .ok (.iload_n 1, 1) := by decide +kernel
theorem dX2_wallsBetween_17 : decode cX2_wallsBetween 17 = .ok (.iload_n 2, 1) := by decide +kernel
theorem dX2_wallsBetween_18 : decode cX2_wallsBetween 18 = .ok (.invokevirtual 143, 3) := by decide +kernel
theorem dX2_wallsBetween_21 : decode cX2_wallsBetween 21 = .ok (.ifCond .eq 6, 3) := by decide +kernel
theorem dX2_wallsBetween_24 : decode cX2_wallsBetween 24 = .ok (.iinc 3 1, 3) := by decide +kernel
theorem dX2_wallsBetween_27 : decode cX2_wallsBetween 27 = .ok (.iinc 4 1, 3) := by decide +kernel
theorem dX2_wallsBetween_30 : decode cX2_wallsBetween 30 = .ok (.goto (-25), 3) := by decide +kernel
theorem dX2_wallsBetween_33 : decode cX2_wallsBetween 33 = .ok (.iload_n 3, 1) := by decide +kernel
theorem dX2_wallsBetween_34 : decode cX2_wallsBetween 34 = .ok (.ireturn, 1) := by decide +kernel
theorem dX2_leastBetween_0 : decode cX2_leastBetween 0 = .ok (.iconst 0, 1) := by decide +kernel
theorem dX2_leastBetween_1 : decode cX2_leastBetween 1 = .ok (.istore_n 3, 1) := by decide +kernel
theorem dX2_leastBetween_2 : decode cX2_leastBetween 2 = .ok (.iload_n 3, 1) := by decide +kernel
theorem dX2_leastBetween_3 : decode cX2_leastBetween 3 = .ok (.sipush 144, 3) := by decide +kernel
theorem dX2_leastBetween_6 : decode cX2_leastBetween 6 = .ok (.if_icmp .ge 21, 3) := by decide +kernel
theorem dX2_leastBetween_9 : decode cX2_leastBetween 9 = .ok (.aload_n 0, 1) := by decide +kernel
theorem dX2_leastBetween_10 : decode cX2_leastBetween 10 = .ok (.iload_n 3, 1) := by decide +kernel
theorem dX2_leastBetween_11 : decode cX2_leastBetween 11 = .ok (.iload_n 1, 1) := by decide +kernel
theorem dX2_leastBetween_12 : decode cX2_leastBetween 12 = .ok (.iload_n 2, 1) := by decide +kernel
theorem dX2_leastBetween_13 : decode cX2_leastBetween 13 = .ok (.invokevirtual 143, 3) := by decide +kernel
theorem dX2_leastBetween_16 : decode cX2_leastBetween 16 = .ok (.ifCond .eq 5, 3) := by decide +kernel
theorem dX2_leastBetween_19 : decode cX2_leastBetween 19 = .ok (.iload_n 3, 1) := by decide +kernel
theorem dX2_leastBetween_20 : decode cX2_leastBetween 20 = .ok (.ireturn, 1) := by decide +kernel
theorem dX2_leastBetween_21 : decode cX2_leastBetween 21 = .ok (.iinc 3 1, 3) := by decide +kernel
theorem dX2_leastBetween_24 : decode cX2_leastBetween 24 = .ok (.goto (-22), 3) := by decide +kernel
theorem dX2_leastBetween_27 : decode cX2_leastBetween 27 = .ok (.iconst (-1), 1) := by decide +kernel
theorem dX2_leastBetween_28 : decode cX2_leastBetween 28 = .ok (.ireturn, 1) := by decide +kernel
theorem dX2_liesBetween_0 : decode cX2_liesBetween 0 = .ok (.aload_n 0, 1) := by decide +kernel
theorem dX2_liesBetween_1 : decode cX2_liesBetween 1 = .ok (.getfield 9, 3) := by decide +kernel
theorem dX2_liesBetween_4 : decode cX2_liesBetween 4 = .ok (.iconst 2, 1) := by decide +kernel
theorem dX2_liesBetween_5 : decode cX2_liesBetween 5 = .ok (.iload_n 1, 1) := by decide +kernel
theorem dX2_liesBetween_6 : decode cX2_liesBetween 6 = .ok (.imul, 1) := by decide +kernel
theorem dX2_liesBetween_7 : decode cX2_liesBetween 7 = .ok (.iaload, 1) := by decide +kernel
theorem dX2_liesBetween_8 : decode cX2_liesBetween 8 = .ok (.istore 4, 2) := by decide +kernel
theorem dX2_liesBetween_10 : decode cX2_liesBetween 10 = .ok (.aload_n 0, 1) := by decide +kernel
theorem dX2_liesBetween_11 : decode cX2_liesBetween 11 = .ok (.getfield 9, 3) := by decide +kernel
theorem dX2_liesBetween_14 : decode cX2_liesBetween 14 = .ok (.iconst 2, 1) := by decide +kernel
theorem dX2_liesBetween_15 : decode cX2_liesBetween 15 = .ok (.iload_n 1, 1) := by decide +kernel
theorem dX2_liesBetween_16 : decode cX2_liesBetween 16 = .ok (.imul, 1) := by decide +kernel
theorem dX2_liesBetween_17 : decode cX2_liesBetween 17 = .ok (.iconst 1, 1) := by decide +kernel
theorem dX2_liesBetween_18 : decode cX2_liesBetween 18 = .ok (.iadd, 1) := by decide +kernel
theorem dX2_liesBetween_19 : decode cX2_liesBetween 19 = .ok (.iaload, 1) := by decide +kernel
theorem dX2_liesBetween_20 : decode cX2_liesBetween 20 = .ok (.istore 5, 2) := by decide +kernel
theorem dX2_liesBetween_22 : decode cX2_liesBetween 22 = .ok (.iload 4, 2) := by decide +kernel
theorem dX2_liesBetween_24 : decode cX2_liesBetween 24 = .ok (.ifCond .lt 31, 3) := by decide +kernel
theorem dX2_liesBetween_27 : decode cX2_liesBetween 27 = .ok (.iload 4, 2) := by decide +kernel
theorem dX2_liesBetween_29 : decode cX2_liesBetween 29 = .ok (.iload_n 2, 1) := by decide +kernel
theorem dX2_liesBetween_30 : decode cX2_liesBetween 30 = .ok (.if_icmp .ne 9, 3) := by decide +kernel
theorem dX2_liesBetween_33 : decode cX2_liesBetween 33 = .ok (.iload 5, 2) := by decide +kernel
theorem dX2_liesBetween_35 : decode cX2_liesBetween 35 = .ok (.iload_n 3, 1) := by decide +kernel
theorem dX2_liesBetween_36 : decode cX2_liesBetween 36 = .ok (.if_icmp .eq 15, 3) := by decide +kernel
theorem dX2_liesBetween_39 : decode cX2_liesBetween 39 = .ok (.iload 4, 2) := by decide +kernel
theorem dX2_liesBetween_41 : decode cX2_liesBetween 41 = .ok (.iload_n 3, 1) := by decide +kernel
theorem dX2_liesBetween_42 : decode cX2_liesBetween 42 = .ok (.if_icmp .ne 13, 3) := by decide +kernel
theorem dX2_liesBetween_45 : decode cX2_liesBetween 45 = .ok (.iload 5, 2) := by decide +kernel
theorem dX2_liesBetween_47 : decode cX2_liesBetween 47 = .ok (.iload_n 2, 1) := by decide +kernel
theorem dX2_liesBetween_48 : decode cX2_liesBetween 48 = .ok (.if_icmp .ne 7, 3) := by decide +kernel
theorem dX2_liesBetween_51 : decode cX2_liesBetween 51 = .ok (.iconst 1, 1) := by decide +kernel
theorem dX2_liesBetween_52 : decode cX2_liesBetween 52 = .ok (.goto 4, 3) := by decide +kernel
theorem dX2_liesBetween_55 : decode cX2_liesBetween 55 = .ok (.iconst 0, 1) := by decide +kernel
theorem dX2_liesBetween_56 : decode cX2_liesBetween 56 = .ok (.ireturn, 1) := by decide +kernel
theorem dX2_border_0 : decode cX2_border 0 = .ok (.iconst 0, 1) := by decide +kernel
theorem dX2_border_1 : decode cX2_border 1 = .ok (.istore_n 2, 1) := by decide +kernel
theorem dX2_border_2 : decode cX2_border 2 = .ok (.iconst 0, 1) := by decide +kernel
theorem dX2_border_3 : decode cX2_border 3 = .ok (.istore_n 3, 1) := by decide +kernel
theorem dX2_border_4 : decode cX2_border 4 = .ok (.iload_n 3, 1) := by decide +kernel
theorem dX2_border_5 : decode cX2_border 5 = .ok (.sipush 288, 3) := by decide +kernel
theorem dX2_border_8 : decode cX2_border 8 = .ok (.if_icmp .ge 30, 3) := by decide +kernel
theorem dX2_border_11 : decode cX2_border 11 = .ok (.aload_n 0, 1) := by decide +kernel
theorem dX2_border_12 : decode cX2_border 12 = .ok (.getfield 9, 3) := by decide +kernel
theorem dX2_border_15 : decode cX2_border 15 = .ok (.iload_n 3, 1) := by decide +kernel
theorem dX2_border_16 : decode cX2_border 16 = .ok (.iaload, 1) := by decide +kernel
theorem dX2_border_17 : decode cX2_border 17 = .ok (.iload_n 1, 1) := by decide +kernel
theorem dX2_border_18 : decode cX2_border 18 = .ok (.if_icmp .ne 14, 3) := by decide +kernel
theorem dX2_border_21 : decode cX2_border 21 = .ok (.iload_n 2, 1) := by decide +kernel
theorem dX2_border_22 : decode cX2_border 22 = .ok (.aload_n 0, 1) := by decide +kernel
theorem dX2_border_23 : decode cX2_border 23 = .ok (.getfield 27, 3) := by decide +kernel
theorem dX2_border_26 : decode cX2_border 26 = .ok (.iload_n 3, 1) := by decide +kernel
theorem dX2_border_27 : decode cX2_border 27 = .ok (.iconst 2, 1) := by decide +kernel
theorem dX2_border_28 : decode cX2_border 28 = .ok (.idiv, 1) := by decide +kernel
theorem dX2_border_29 : decode cX2_border 29 = .ok (.iaload, 1) := by decide +kernel
theorem dX2_border_30 : decode cX2_border 30 = .ok (.iadd, 1) := by decide +kernel
theorem dX2_border_31 : decode cX2_border 31 = .ok (.istore_n 2, 1) := by decide +kernel
theorem dX2_border_32 : decode cX2_border 32 = .ok (.iinc 3 1, 3) := by decide +kernel
theorem dX2_border_35 : decode cX2_border 35 = .ok (.goto (-31), 3) := by decide +kernel
theorem dX2_border_38 : decode cX2_border 38 = .ok (.iload_n 2, 1) := by decide +kernel
theorem dX2_border_39 : decode cX2_border 39 = .ok (.ireturn, 1) := by decide +kernel
theorem dX2_sidesAbout_0 : decode cX2_sidesAbout 0 = .ok (.iconst 0, 1) := by decide +kernel
theorem dX2_sidesAbout_1 : decode cX2_sidesAbout 1 = .ok (.istore_n 2, 1) := by decide +kernel
theorem dX2_sidesAbout_2 : decode cX2_sidesAbout 2 = .ok (.iconst 0, 1) := by decide +kernel
theorem dX2_sidesAbout_3 : decode cX2_sidesAbout 3 = .ok (.istore_n 3, 1) := by decide +kernel
theorem dX2_sidesAbout_4 : decode cX2_sidesAbout 4 = .ok (.iload_n 3, 1) := by decide +kernel
theorem dX2_sidesAbout_5 : decode cX2_sidesAbout 5 = .ok (.sipush 288, 3) := by decide +kernel
theorem dX2_sidesAbout_8 : decode cX2_sidesAbout 8 = .ok (.if_icmp .ge 32, 3) := by decide +kernel
theorem dX2_sidesAbout_11 : decode cX2_sidesAbout 11 = .ok (.aload_n 0, 1) := by decide +kernel
theorem dX2_sidesAbout_12 : decode cX2_sidesAbout 12 = .ok (.getfield 9, 3) := by decide +kernel
theorem dX2_sidesAbout_15 : decode cX2_sidesAbout 15 = .ok (.iload_n 3, 1) := by decide +kernel
theorem dX2_sidesAbout_16 : decode cX2_sidesAbout 16 = .ok (.iaload, 1) := by decide +kernel
theorem dX2_sidesAbout_17 : decode cX2_sidesAbout 17 = .ok (.iload_n 1, 1) := by decide +kernel
theorem dX2_sidesAbout_18 : decode cX2_sidesAbout 18 = .ok (.if_icmp .ne 16, 3) := by decide +kernel
theorem dX2_sidesAbout_21 : decode cX2_sidesAbout 21 = .ok (.iload_n 2, 1) := by decide +kernel
theorem dX2_sidesAbout_22 : decode cX2_sidesAbout 22 = .ok (.aload_n 0, 1) := by decide +kernel
theorem dX2_sidesAbout_23 : decode cX2_sidesAbout 23 = .ok (.getfield 30, 3) := by decide +kernel
theorem dX2_sidesAbout_26 : decode cX2_sidesAbout 26 = .ok (.aload_n 0, 1) := by decide +kernel
theorem dX2_sidesAbout_27 : decode cX2_sidesAbout 27 = .ok (.iload_n 3, 1) := by decide +kernel
theorem dX2_sidesAbout_28 : decode cX2_sidesAbout 28 = .ok (.invokevirtual 101, 3) := by decide +kernel
theorem dX2_sidesAbout_31 : decode cX2_sidesAbout 31 = .ok (.iaload, 1) := by decide +kernel
theorem dX2_sidesAbout_32 : decode cX2_sidesAbout 32 = .ok (.iadd, 1) := by decide +kernel
theorem dX2_sidesAbout_33 : decode cX2_sidesAbout 33 = .ok (.istore_n 2, 1) := by decide +kernel
theorem dX2_sidesAbout_34 : decode cX2_sidesAbout 34 = .ok (.iinc 3 1, 3) := by decide +kernel
theorem dX2_sidesAbout_37 : decode cX2_sidesAbout 37 = .ok (.goto (-33), 3) := by decide +kernel
theorem dX2_sidesAbout_40 : decode cX2_sidesAbout 40 = .ok (.iload_n 2, 1) := by decide +kernel
theorem dX2_sidesAbout_41 : decode cX2_sidesAbout 41 = .ok (.ireturn, 1) := by decide +kernel
theorem dX2_unlikeAbout_0 : decode cX2_unlikeAbout 0 = .ok (.iconst 0, 1) := by decide +kernel
theorem dX2_unlikeAbout_1 : decode cX2_unlikeAbout 1 = .ok (.istore_n 2, 1) := by decide +kernel
theorem dX2_unlikeAbout_2 : decode cX2_unlikeAbout 2 = .ok (.iconst 0, 1) := by decide +kernel
theorem dX2_unlikeAbout_3 : decode cX2_unlikeAbout 3 = .ok (.istore_n 3, 1) := by decide +kernel
theorem dX2_unlikeAbout_4 : decode cX2_unlikeAbout 4 = .ok (.iload_n 3, 1) := by decide +kernel
theorem dX2_unlikeAbout_5 : decode cX2_unlikeAbout 5 = .ok (.bipush 48, 2) := by decide +kernel
theorem dX2_unlikeAbout_7 : decode cX2_unlikeAbout 7 = .ok (.if_icmp .ge 21, 3) := by decide +kernel
theorem dX2_unlikeAbout_10 : decode cX2_unlikeAbout 10 = .ok (.aload_n 0, 1) := by decide +kernel
theorem dX2_unlikeAbout_11 : decode cX2_unlikeAbout 11 = .ok (.iload_n 1, 1) := by decide +kernel
theorem dX2_unlikeAbout_12 : decode cX2_unlikeAbout 12 = .ok (.iload_n 3, 1) := by decide +kernel
theorem dX2_unlikeAbout_13 : decode cX2_unlikeAbout 13 = .ok (.invokevirtual 147, 3) := by decide +kernel
theorem dX2_unlikeAbout_16 : decode cX2_unlikeAbout 16 = .ok (.ifCond .lt 6, 3) := by decide +kernel
theorem dX2_unlikeAbout_19 : decode cX2_unlikeAbout 19 = .ok (.iinc 2 1, 3) := by decide +kernel
theorem dX2_unlikeAbout_22 : decode cX2_unlikeAbout 22 = .ok (.iinc 3 1, 3) := by decide +kernel
theorem dX2_unlikeAbout_25 : decode cX2_unlikeAbout 25 = .ok (.goto (-21), 3) := by decide +kernel
theorem dX2_unlikeAbout_28 : decode cX2_unlikeAbout 28 = .ok (.iload_n 2, 1) := by decide +kernel
theorem dX2_unlikeAbout_29 : decode cX2_unlikeAbout 29 = .ok (.ireturn, 1) := by decide +kernel
theorem dX2_howMany_0 : decode cX2_howMany 0 = .ok (.iconst 0, 1) := by decide +kernel
theorem dX2_howMany_1 : decode cX2_howMany 1 = .ok (.istore_n 2, 1) := by decide +kernel
theorem dX2_howMany_2 : decode cX2_howMany 2 = .ok (.iconst 0, 1) := by decide +kernel
theorem dX2_howMany_3 : decode cX2_howMany 3 = .ok (.istore_n 3, 1) := by decide +kernel
theorem dX2_howMany_4 : decode cX2_howMany 4 = .ok (.iload_n 3, 1) := by decide +kernel
theorem dX2_howMany_5 : decode cX2_howMany 5 = .ok (.bipush 48, 2) := by decide +kernel
theorem dX2_howMany_7 : decode cX2_howMany 7 = .ok (.if_icmp .ge 30, 3) := by decide +kernel
theorem dX2_howMany_10 : decode cX2_howMany 10 = .ok (.aload_n 0, 1) := by decide +kernel
theorem dX2_howMany_11 : decode cX2_howMany 11 = .ok (.iload_n 3, 1) := by decide +kernel
theorem dX2_howMany_12 : decode cX2_howMany 12 = .ok (.invokevirtual 150, 3) := by decide +kernel
theorem dX2_howMany_15 : decode cX2_howMany 15 = .ok (.ifCond .eq 16, 3) := by decide +kernel
theorem dX2_howMany_18 : decode cX2_howMany 18 = .ok (.aload_n 0, 1) := by decide +kernel
theorem dX2_howMany_19 : decode cX2_howMany 19 = .ok (.getfield 30, 3) := by decide +kernel
theorem dX2_howMany_22 : decode cX2_howMany 22 = .ok (.iload_n 3, 1) := by decide +kernel
theorem dX2_howMany_23 : decode cX2_howMany 23 = .ok (.iaload, 1) := by decide +kernel
theorem dX2_howMany_24 : decode cX2_howMany 24 = .ok (.iload_n 1, 1) := by decide +kernel
theorem dX2_howMany_25 : decode cX2_howMany 25 = .ok (.if_icmp .ne 6, 3) := by decide +kernel
theorem dX2_howMany_28 : decode cX2_howMany 28 = .ok (.iinc 2 1, 3) := by decide +kernel
theorem dX2_howMany_31 : decode cX2_howMany 31 = .ok (.iinc 3 1, 3) := by decide +kernel
theorem dX2_howMany_34 : decode cX2_howMany 34 = .ok (.goto (-30), 3) := by decide +kernel
theorem dX2_howMany_37 : decode cX2_howMany 37 = .ok (.iload_n 2, 1) := by decide +kernel
theorem dX2_howMany_38 : decode cX2_howMany 38 = .ok (.ireturn, 1) := by decide +kernel
theorem dX2_areaOfAll_0 : decode cX2_areaOfAll 0 = .ok (.iconst 0, 1) := by decide +kernel
theorem dX2_areaOfAll_1 : decode cX2_areaOfAll 1 = .ok (.istore_n 2, 1) := by decide +kernel
theorem dX2_areaOfAll_2 : decode cX2_areaOfAll 2 = .ok (.iconst 0, 1) := by decide +kernel
theorem dX2_areaOfAll_3 : decode cX2_areaOfAll 3 = .ok (.istore_n 3, 1) := by decide +kernel
theorem dX2_areaOfAll_4 : decode cX2_areaOfAll 4 = .ok (.iload_n 3, 1) := by decide +kernel
theorem dX2_areaOfAll_5 : decode cX2_areaOfAll 5 = .ok (.bipush 48, 2) := by decide +kernel
theorem dX2_areaOfAll_7 : decode cX2_areaOfAll 7 = .ok (.if_icmp .ge 36, 3) := by decide +kernel
theorem dX2_areaOfAll_10 : decode cX2_areaOfAll 10 = .ok (.aload_n 0, 1) := by decide +kernel
theorem dX2_areaOfAll_11 : decode cX2_areaOfAll 11 = .ok (.iload_n 3, 1) := by decide +kernel
theorem dX2_areaOfAll_12 : decode cX2_areaOfAll 12 = .ok (.invokevirtual 150, 3) := by decide +kernel
theorem dX2_areaOfAll_15 : decode cX2_areaOfAll 15 = .ok (.ifCond .eq 22, 3) := by decide +kernel
theorem dX2_areaOfAll_18 : decode cX2_areaOfAll 18 = .ok (.aload_n 0, 1) := by decide +kernel
theorem dX2_areaOfAll_19 : decode cX2_areaOfAll 19 = .ok (.getfield 30, 3) := by decide +kernel
theorem dX2_areaOfAll_22 : decode cX2_areaOfAll 22 = .ok (.iload_n 3, 1) := by decide +kernel
theorem dX2_areaOfAll_23 : decode cX2_areaOfAll 23 = .ok (.iaload, 1) := by decide +kernel
theorem dX2_areaOfAll_24 : decode cX2_areaOfAll 24 = .ok (.iload_n 1, 1) := by decide +kernel
theorem dX2_areaOfAll_25 : decode cX2_areaOfAll 25 = .ok (.if_icmp .ne 12, 3) := by decide +kernel
theorem dX2_areaOfAll_28 : decode cX2_areaOfAll 28 = .ok (.iload_n 2, 1) := by decide +kernel
theorem dX2_areaOfAll_29 : decode cX2_areaOfAll 29 = .ok (.aload_n 0, 1) := by decide +kernel
theorem dX2_areaOfAll_30 : decode cX2_areaOfAll 30 = .ok (.getfield 33, 3) := by decide +kernel
theorem dX2_areaOfAll_33 : decode cX2_areaOfAll 33 = .ok (.iload_n 3, 1) := by decide +kernel
theorem dX2_areaOfAll_34 : decode cX2_areaOfAll 34 = .ok (.iaload, 1) := by decide +kernel
theorem dX2_areaOfAll_35 : decode cX2_areaOfAll 35 = .ok (.iadd, 1) := by decide +kernel
theorem dX2_areaOfAll_36 : decode cX2_areaOfAll 36 = .ok (.istore_n 2, 1) := by decide +kernel
theorem dX2_areaOfAll_37 : decode cX2_areaOfAll 37 = .ok (.iinc 3 1, 3) := by decide +kernel
theorem dX2_areaOfAll_40 : decode cX2_areaOfAll 40 = .ok (.goto (-36), 3) := by decide +kernel
theorem dX2_areaOfAll_43 : decode cX2_areaOfAll 43 = .ok (.iload_n 2, 1) := by decide +kernel
theorem dX2_areaOfAll_44 : decode cX2_areaOfAll 44 = .ok (.ireturn, 1) := by decide +kernel
theorem dX2_sidesAboutAll_0 : decode cX2_sidesAboutAll 0 = .ok (.iconst 0, 1) := by decide +kernel
theorem dX2_sidesAboutAll_1 : decode cX2_sidesAboutAll 1 = .ok (.istore_n 2, 1) := by decide +kernel
theorem dX2_sidesAboutAll_2 : decode cX2_sidesAboutAll 2 = .ok (.iconst 0, 1) := by decide +kernel
theorem dX2_sidesAboutAll_3 : decode cX2_sidesAboutAll 3 = .ok (.istore_n 3, 1) := by decide +kernel
theorem dX2_sidesAboutAll_4 : decode cX2_sidesAboutAll 4 = .ok (.iload_n 3, 1) := by decide +kernel
theorem dX2_sidesAboutAll_5 : decode cX2_sidesAboutAll 5 = .ok (.sipush 288, 3) := by decide +kernel
theorem dX2_sidesAboutAll_8 : decode cX2_sidesAboutAll 8 = .ok (.if_icmp .ge 46, 3) := by decide +kernel
theorem dX2_sidesAboutAll_11 : decode cX2_sidesAboutAll 11 = .ok (.aload_n 0, 1) := by decide +kernel
theorem dX2_sidesAboutAll_12 : decode cX2_sidesAboutAll 12 = .ok (.getfield 9, 3) := by decide +kernel
theorem dX2_sidesAboutAll_15 : decode cX2_sidesAboutAll 15 = .ok (.iload_n 3, 1) := by decide +kernel
theorem dX2_sidesAboutAll_16 : decode cX2_sidesAboutAll 16 = .ok (.iaload, 1) := by decide +kernel
theorem dX2_sidesAboutAll_17 : decode cX2_sidesAboutAll 17 = .ok (.ifCond .lt 31, 3) := by decide +kernel
theorem dX2_sidesAboutAll_20 : decode cX2_sidesAboutAll 20 = .ok (.aload_n 0, 1) := by decide +kernel
theorem dX2_sidesAboutAll_21 : decode cX2_sidesAboutAll 21 = .ok (.getfield 30, 3) := by decide +kernel
theorem dX2_sidesAboutAll_24 : decode cX2_sidesAboutAll 24 = .ok (.aload_n 0, 1) := by decide +kernel
theorem dX2_sidesAboutAll_25 : decode cX2_sidesAboutAll 25 = .ok (.getfield 9, 3) := by decide +kernel
theorem dX2_sidesAboutAll_28 : decode cX2_sidesAboutAll 28 = .ok (.iload_n 3, 1) := by decide +kernel
theorem dX2_sidesAboutAll_29 : decode cX2_sidesAboutAll 29 = .ok (.iaload, 1) := by decide +kernel
theorem dX2_sidesAboutAll_30 : decode cX2_sidesAboutAll 30 = .ok (.iaload, 1) := by decide +kernel
theorem dX2_sidesAboutAll_31 : decode cX2_sidesAboutAll 31 = .ok (.iload_n 1, 1) := by decide +kernel
theorem dX2_sidesAboutAll_32 : decode cX2_sidesAboutAll 32 = .ok (.if_icmp .ne 16, 3) := by decide +kernel
theorem dX2_sidesAboutAll_35 : decode cX2_sidesAboutAll 35 = .ok (.iload_n 2, 1) := by decide +kernel
theorem dX2_sidesAboutAll_36 : decode cX2_sidesAboutAll 36 = .ok (.aload_n 0, 1) := by decide +kernel
theorem dX2_sidesAboutAll_37 : decode cX2_sidesAboutAll 37 = .ok (.getfield 30, 3) := by decide +kernel
theorem dX2_sidesAboutAll_40 : decode cX2_sidesAboutAll 40 = .ok (.aload_n 0, 1) := by decide +kernel
theorem dX2_sidesAboutAll_41 : decode cX2_sidesAboutAll 41 = .ok (.iload_n 3, 1) := by decide +kernel
theorem dX2_sidesAboutAll_42 : decode cX2_sidesAboutAll 42 = .ok (.invokevirtual 101, 3) := by decide +kernel
theorem dX2_sidesAboutAll_45 : decode cX2_sidesAboutAll 45 = .ok (.iaload, 1) := by decide +kernel
theorem dX2_sidesAboutAll_46 : decode cX2_sidesAboutAll 46 = .ok (.iadd, 1) := by decide +kernel
theorem dX2_sidesAboutAll_47 : decode cX2_sidesAboutAll 47 = .ok (.istore_n 2, 1) := by decide +kernel
theorem dX2_sidesAboutAll_48 : decode cX2_sidesAboutAll 48 = .ok (.iinc 3 1, 3) := by decide +kernel
theorem dX2_sidesAboutAll_51 : decode cX2_sidesAboutAll 51 = .ok (.goto (-47), 3) := by decide +kernel
theorem dX2_sidesAboutAll_54 : decode cX2_sidesAboutAll 54 = .ok (.iload_n 2, 1) := by decide +kernel
theorem dX2_sidesAboutAll_55 : decode cX2_sidesAboutAll 55 = .ok (.ireturn, 1) := by decide +kernel
theorem dX2_rankOf_0 : decode cX2_rankOf 0 = .ok (.iconst 0, 1) := by decide +kernel
theorem dX2_rankOf_1 : decode cX2_rankOf 1 = .ok (.istore_n 2, 1) := by decide +kernel
theorem dX2_rankOf_2 : decode cX2_rankOf 2 = .ok (.iconst 0, 1) := by decide +kernel
theorem dX2_rankOf_3 : decode cX2_rankOf 3 = .ok (.istore_n 3, 1) := by decide +kernel
theorem dX2_rankOf_4 : decode cX2_rankOf 4 = .ok (.iload_n 3, 1) := by decide +kernel
theorem dX2_rankOf_5 : decode cX2_rankOf 5 = .ok (.bipush 48, 2) := by decide +kernel
theorem dX2_rankOf_7 : decode cX2_rankOf 7 = .ok (.if_icmp .ge 55, 3) := by decide +kernel
theorem dX2_rankOf_10 : decode cX2_rankOf 10 = .ok (.aload_n 0, 1) := by decide +kernel
theorem dX2_rankOf_11 : decode cX2_rankOf 11 = .ok (.iload_n 3, 1) := by decide +kernel
theorem dX2_rankOf_12 : decode cX2_rankOf 12 = .ok (.invokevirtual 150, 3) := by decide +kernel
theorem dX2_rankOf_15 : decode cX2_rankOf 15 = .ok (.ifCond .eq 41, 3) := by decide +kernel
theorem dX2_rankOf_18 : decode cX2_rankOf 18 = .ok (.aload_n 0, 1) := by decide +kernel
theorem dX2_rankOf_19 : decode cX2_rankOf 19 = .ok (.getfield 33, 3) := by decide +kernel
theorem dX2_rankOf_22 : decode cX2_rankOf 22 = .ok (.iload_n 3, 1) := by decide +kernel
theorem dX2_rankOf_23 : decode cX2_rankOf 23 = .ok (.iaload, 1) := by decide +kernel
theorem dX2_rankOf_24 : decode cX2_rankOf 24 = .ok (.aload_n 0, 1) := by decide +kernel
theorem dX2_rankOf_25 : decode cX2_rankOf 25 = .ok (.getfield 33, 3) := by decide +kernel
theorem dX2_rankOf_28 : decode cX2_rankOf 28 = .ok (.iload_n 1, 1) := by decide +kernel
theorem dX2_rankOf_29 : decode cX2_rankOf 29 = .ok (.iaload, 1) := by decide +kernel
theorem dX2_rankOf_30 : decode cX2_rankOf 30 = .ok (.if_icmp .lt 23, 3) := by decide +kernel
theorem dX2_rankOf_33 : decode cX2_rankOf 33 = .ok (.aload_n 0, 1) := by decide +kernel
theorem dX2_rankOf_34 : decode cX2_rankOf 34 = .ok (.getfield 33, 3) := by decide +kernel
theorem dX2_rankOf_37 : decode cX2_rankOf 37 = .ok (.iload_n 3, 1) := by decide +kernel
theorem dX2_rankOf_38 : decode cX2_rankOf 38 = .ok (.iaload, 1) := by decide +kernel
theorem dX2_rankOf_39 : decode cX2_rankOf 39 = .ok (.aload_n 0, 1) := by decide +kernel
theorem dX2_rankOf_40 : decode cX2_rankOf 40 = .ok (.getfield 33, 3) := by decide +kernel
theorem dX2_rankOf_43 : decode cX2_rankOf 43 = .ok (.iload_n 1, 1) := by decide +kernel
theorem dX2_rankOf_44 : decode cX2_rankOf 44 = .ok (.iaload, 1) := by decide +kernel
theorem dX2_rankOf_45 : decode cX2_rankOf 45 = .ok (.if_icmp .ne 11, 3) := by decide +kernel
theorem dX2_rankOf_48 : decode cX2_rankOf 48 = .ok (.iload_n 3, 1) := by decide +kernel
theorem dX2_rankOf_49 : decode cX2_rankOf 49 = .ok (.iload_n 1, 1) := by decide +kernel
theorem dX2_rankOf_50 : decode cX2_rankOf 50 = .ok (.if_icmp .ge 6, 3) := by decide +kernel
theorem dX2_rankOf_53 : decode cX2_rankOf 53 = .ok (.iinc 2 1, 3) := by decide +kernel
theorem dX2_rankOf_56 : decode cX2_rankOf 56 = .ok (.iinc 3 1, 3) := by decide +kernel
theorem dX2_rankOf_59 : decode cX2_rankOf 59 = .ok (.goto (-55), 3) := by decide +kernel
theorem dX2_rankOf_62 : decode cX2_rankOf 62 = .ok (.iload_n 2, 1) := by decide +kernel
theorem dX2_rankOf_63 : decode cX2_rankOf 63 = .ok (.ireturn, 1) := by decide +kernel
theorem dX2_howManyCells_0 : decode cX2_howManyCells 0 = .ok (.iconst 0, 1) := by decide +kernel
theorem dX2_howManyCells_1 : decode cX2_howManyCells 1 = .ok (.istore_n 1, 1) := by decide +kernel
theorem dX2_howManyCells_2 : decode cX2_howManyCells 2 = .ok (.iconst 0, 1) := by decide +kernel
theorem dX2_howManyCells_3 : decode cX2_howManyCells 3 = .ok (.istore_n 2, 1) := by decide +kernel
theorem dX2_howManyCells_4 : decode cX2_howManyCells 4 = .ok (.iload_n 2, 1) := by decide +kernel
theorem dX2_howManyCells_5 : decode cX2_howManyCells 5 = .ok (.bipush 48, 2) := by decide +kernel
theorem dX2_howManyCells_7 : decode cX2_howManyCells 7 = .ok (.if_icmp .ge 20, 3) := by decide +kernel
theorem dX2_howManyCells_10 : decode cX2_howManyCells 10 = .ok (.aload_n 0, 1) := by decide +kernel
theorem dX2_howManyCells_11 : decode cX2_howManyCells 11 = .ok (.iload_n 2, 1) := by decide +kernel
theorem dX2_howManyCells_12 : decode cX2_howManyCells 12 = .ok (.invokevirtual 150, 3) := by decide +kernel
theorem dX2_howManyCells_15 : decode cX2_howManyCells 15 = .ok (.ifCond .eq 6, 3) := by decide +kernel
theorem dX2_howManyCells_18 : decode cX2_howManyCells 18 = .ok (.iinc 1 1, 3) := by decide +kernel
theorem dX2_howManyCells_21 : decode cX2_howManyCells 21 = .ok (.iinc 2 1, 3) := by decide +kernel
theorem dX2_howManyCells_24 : decode cX2_howManyCells 24 = .ok (.goto (-20), 3) := by decide +kernel
theorem dX2_howManyCells_27 : decode cX2_howManyCells 27 = .ok (.iload_n 1, 1) := by decide +kernel
theorem dX2_howManyCells_28 : decode cX2_howManyCells 28 = .ok (.ireturn, 1) := by decide +kernel
theorem dX2_howManyWalls_0 : decode cX2_howManyWalls 0 = .ok (.iconst 0, 1) := by decide +kernel
theorem dX2_howManyWalls_1 : decode cX2_howManyWalls 1 = .ok (.istore_n 1, 1) := by decide +kernel
theorem dX2_howManyWalls_2 : decode cX2_howManyWalls 2 = .ok (.iconst 0, 1) := by decide +kernel
theorem dX2_howManyWalls_3 : decode cX2_howManyWalls 3 = .ok (.istore_n 2, 1) := by decide +kernel
theorem dX2_howManyWalls_4 : decode cX2_howManyWalls 4 = .ok (.iload_n 2, 1) := by decide +kernel
theorem dX2_howManyWalls_5 : decode cX2_howManyWalls 5 = .ok (.sipush 144, 3) := by decide +kernel
theorem dX2_howManyWalls_8 : decode cX2_howManyWalls 8 = .ok (.if_icmp .ge 20, 3) := by decide +kernel
theorem dX2_howManyWalls_11 : decode cX2_howManyWalls 11 = .ok (.aload_n 0, 1) := by decide +kernel
theorem dX2_howManyWalls_12 : decode cX2_howManyWalls 12 = .ok (.iload_n 2, 1) := by decide +kernel
theorem dX2_howManyWalls_13 : decode cX2_howManyWalls 13 = .ok (.invokevirtual 91, 3) := by decide +kernel
theorem dX2_howManyWalls_16 : decode cX2_howManyWalls 16 = .ok (.ifCond .eq 6, 3) := by decide +kernel
theorem dX2_howManyWalls_19 : decode cX2_howManyWalls 19 = .ok (.iinc 1 1, 3) := by decide +kernel
theorem dX2_howManyWalls_22 : decode cX2_howManyWalls 22 = .ok (.iinc 2 1, 3) := by decide +kernel
theorem dX2_howManyWalls_25 : decode cX2_howManyWalls 25 = .ok (.goto (-21), 3) := by decide +kernel
theorem dX2_howManyWalls_28 : decode cX2_howManyWalls 28 = .ok (.iload_n 1, 1) := by decide +kernel
theorem dX2_howManyWalls_29 : decode cX2_howManyWalls 29 = .ok (.ireturn, 1) := by decide +kernel
theorem dX2_strain_0 : decode cX2_strain 0 = .ok (.iconst 0, 1) := by decide +kernel
theorem dX2_strain_1 : decode cX2_strain 1 = .ok (.istore_n 1, 1) := by decide +kernel
theorem dX2_strain_2 : decode cX2_strain 2 = .ok (.iconst 0, 1) := by decide +kernel
theorem dX2_strain_3 : decode cX2_strain 3 = .ok (.istore_n 2, 1) := by decide +kernel
theorem dX2_strain_4 : decode cX2_strain 4 = .ok (.iload_n 2, 1) := by decide +kernel
theorem dX2_strain_5 : decode cX2_strain 5 = .ok (.bipush 48, 2) := by decide +kernel
theorem dX2_strain_7 : decode cX2_strain 7 = .ok (.if_icmp .ge 39, 3) := by decide +kernel
theorem dX2_strain_10 : decode cX2_strain 10 = .ok (.aload_n 0, 1) := by decide +kernel
theorem dX2_strain_11 : decode cX2_strain 11 = .ok (.iload_n 2, 1) := by decide +kernel
theorem dX2_strain_12 : decode cX2_strain 12 = .ok (.invokevirtual 150, 3) := by decide +kernel
theorem dX2_strain_15 : decode cX2_strain 15 = .ok (.ifCond .eq 25, 3) := by decide +kernel
theorem dX2_strain_18 : decode cX2_strain 18 = .ok (.iload_n 1, 1) := by decide +kernel
theorem dX2_strain_19 : decode cX2_strain 19 = .ok (.bipush 6, 2) := by decide +kernel
theorem dX2_strain_21 : decode cX2_strain 21 = .ok (.aload_n 0, 1) := by decide +kernel
theorem dX2_strain_22 : decode cX2_strain 22 = .ok (.getfield 30, 3) := by decide +kernel
theorem dX2_strain_25 : decode cX2_strain 25 = .ok (.iload_n 2, 1) := by decide +kernel
theorem dX2_strain_26 : decode cX2_strain 26 = .ok (.iaload, 1) := by decide +kernel
theorem dX2_strain_27 : decode cX2_strain 27 = .ok (.isub, 1) := by decide +kernel
theorem dX2_strain_28 : decode cX2_strain 28 = .ok (.bipush 6, 2) := by decide +kernel
theorem dX2_strain_30 : decode cX2_strain 30 = .ok (.aload_n 0, 1) := by decide +kernel
theorem dX2_strain_31 : decode cX2_strain 31 = .ok (.getfield 30, 3) := by decide +kernel
theorem dX2_strain_34 : decode cX2_strain 34 = .ok (.iload_n 2, 1) := by decide +kernel
theorem dX2_strain_35 : decode cX2_strain 35 = .ok (.iaload, 1) := by decide +kernel
theorem dX2_strain_36 : decode cX2_strain 36 = .ok (.isub, 1) := by decide +kernel
theorem dX2_strain_37 : decode cX2_strain 37 = .ok (.imul, 1) := by decide +kernel
theorem dX2_strain_38 : decode cX2_strain 38 = .ok (.iadd, 1) := by decide +kernel
theorem dX2_strain_39 : decode cX2_strain 39 = .ok (.istore_n 1, 1) := by decide +kernel
theorem dX2_strain_40 : decode cX2_strain 40 = .ok (.iinc 2 1, 3) := by decide +kernel
theorem dX2_strain_43 : decode cX2_strain 43 = .ok (.goto (-39), 3) := by decide +kernel
theorem dX2_strain_46 : decode cX2_strain 46 = .ok (.iload_n 1, 1) := by decide +kernel
theorem dX2_strain_47 : decode cX2_strain 47 = .ok (.ireturn, 1) := by decide +kernel
theorem dX2_turns_0 : decode cX2_turns 0 = .ok (.iconst 0, 1) := by decide +kernel
theorem dX2_turns_1 : decode cX2_turns 1 = .ok (.istore_n 1, 1) := by decide +kernel
theorem dX2_turns_2 : decode cX2_turns 2 = .ok (.iconst 0, 1) := by decide +kernel
theorem dX2_turns_3 : decode cX2_turns 3 = .ok (.istore_n 2, 1) := by decide +kernel
theorem dX2_turns_4 : decode cX2_turns 4 = .ok (.iload_n 2, 1) := by decide +kernel
theorem dX2_turns_5 : decode cX2_turns 5 = .ok (.bipush 48, 2) := by decide +kernel
theorem dX2_turns_7 : decode cX2_turns 7 = .ok (.if_icmp .ge 29, 3) := by decide +kernel
theorem dX2_turns_10 : decode cX2_turns 10 = .ok (.aload_n 0, 1) := by decide +kernel
theorem dX2_turns_11 : decode cX2_turns 11 = .ok (.iload_n 2, 1) := by decide +kernel
theorem dX2_turns_12 : decode cX2_turns 12 = .ok (.invokevirtual 150, 3) := by decide +kernel
theorem dX2_turns_15 : decode cX2_turns 15 = .ok (.ifCond .eq 15, 3) := by decide +kernel
theorem dX2_turns_18 : decode cX2_turns 18 = .ok (.iload_n 1, 1) := by decide +kernel
theorem dX2_turns_19 : decode cX2_turns 19 = .ok (.bipush 6, 2) := by decide +kernel
theorem dX2_turns_21 : decode cX2_turns 21 = .ok (.aload_n 0, 1) := by decide +kernel
theorem dX2_turns_22 : decode cX2_turns 22 = .ok (.getfield 30, 3) := by decide +kernel
theorem dX2_turns_25 : decode cX2_turns 25 = .ok (.iload_n 2, 1) := by decide +kernel
theorem dX2_turns_26 : decode cX2_turns 26 = .ok (.iaload, 1) := by decide +kernel
theorem dX2_turns_27 : decode cX2_turns 27 = .ok (.isub, 1) := by decide +kernel
theorem dX2_turns_28 : decode cX2_turns 28 = .ok (.iadd, 1) := by decide +kernel
theorem dX2_turns_29 : decode cX2_turns 29 = .ok (.istore_n 1, 1) := by decide +kernel
theorem dX2_turns_30 : decode cX2_turns 30 = .ok (.iinc 2 1, 3) := by decide +kernel
theorem dX2_turns_33 : decode cX2_turns 33 = .ok (.goto (-29), 3) := by decide +kernel
theorem dX2_turns_36 : decode cX2_turns 36 = .ok (.iload_n 1, 1) := by decide +kernel
theorem dX2_turns_37 : decode cX2_turns 37 = .ok (.ireturn, 1) := by decide +kernel
theorem dX2_sumOfAreas_0 : decode cX2_sumOfAreas 0 = .ok (.iconst 0, 1) := by decide +kernel
theorem dX2_sumOfAreas_1 : decode cX2_sumOfAreas 1 = .ok (.istore_n 1, 1) := by decide +kernel
theorem dX2_sumOfAreas_2 : decode cX2_sumOfAreas 2 = .ok (.iconst 0, 1) := by decide +kernel
theorem dX2_sumOfAreas_3 : decode cX2_sumOfAreas 3 = .ok (.istore_n 2, 1) := by decide +kernel
theorem dX2_sumOfAreas_4 : decode cX2_sumOfAreas 4 = .ok (.iload_n 2, 1) := by decide +kernel
theorem dX2_sumOfAreas_5 : decode cX2_sumOfAreas 5 = .ok (.bipush 48, 2) := by decide +kernel
theorem dX2_sumOfAreas_7 : decode cX2_sumOfAreas 7 = .ok (.if_icmp .ge 26, 3) := by decide +kernel
theorem dX2_sumOfAreas_10 : decode cX2_sumOfAreas 10 = .ok (.aload_n 0, 1) := by decide +kernel
theorem dX2_sumOfAreas_11 : decode cX2_sumOfAreas 11 = .ok (.iload_n 2, 1) := by decide +kernel
theorem dX2_sumOfAreas_12 : decode cX2_sumOfAreas 12 = .ok (.invokevirtual 150, 3) := by decide +kernel
theorem dX2_sumOfAreas_15 : decode cX2_sumOfAreas 15 = .ok (.ifCond .eq 12, 3) := by decide +kernel
theorem dX2_sumOfAreas_18 : decode cX2_sumOfAreas 18 = .ok (.iload_n 1, 1) := by decide +kernel
theorem dX2_sumOfAreas_19 : decode cX2_sumOfAreas 19 = .ok (.aload_n 0, 1) := by decide +kernel
theorem dX2_sumOfAreas_20 : decode cX2_sumOfAreas 20 = .ok (.getfield 33, 3) := by decide +kernel
theorem dX2_sumOfAreas_23 : decode cX2_sumOfAreas 23 = .ok (.iload_n 2, 1) := by decide +kernel
theorem dX2_sumOfAreas_24 : decode cX2_sumOfAreas 24 = .ok (.iaload, 1) := by decide +kernel
theorem dX2_sumOfAreas_25 : decode cX2_sumOfAreas 25 = .ok (.iadd, 1) := by decide +kernel
theorem dX2_sumOfAreas_26 : decode cX2_sumOfAreas 26 = .ok (.istore_n 1, 1) := by decide +kernel
theorem dX2_sumOfAreas_27 : decode cX2_sumOfAreas 27 = .ok (.iinc 2 1, 3) := by decide +kernel
theorem dX2_sumOfAreas_30 : decode cX2_sumOfAreas 30 = .ok (.goto (-26), 3) := by decide +kernel
theorem dX2_sumOfAreas_33 : decode cX2_sumOfAreas 33 = .ok (.iload_n 1, 1) := by decide +kernel
theorem dX2_sumOfAreas_34 : decode cX2_sumOfAreas 34 = .ok (.ireturn, 1) := by decide +kernel
theorem dX2_greatestArea_0 : decode cX2_greatestArea 0 = .ok (.ldc 155, 2) := by decide +kernel
theorem dX2_greatestArea_2 : decode cX2_greatestArea 2 = .ok (.istore_n 1, 1) := by decide +kernel
theorem dX2_greatestArea_3 : decode cX2_greatestArea 3 = .ok (.iconst 0, 1) := by decide +kernel
theorem dX2_greatestArea_4 : decode cX2_greatestArea 4 = .ok (.istore_n 2, 1) := by decide +kernel
theorem dX2_greatestArea_5 : decode cX2_greatestArea 5 = .ok (.iload_n 2, 1) := by decide +kernel
theorem dX2_greatestArea_6 : decode cX2_greatestArea 6 = .ok (.bipush 48, 2) := by decide +kernel
theorem dX2_greatestArea_8 : decode cX2_greatestArea 8 = .ok (.if_icmp .ge 28, 3) := by decide +kernel
theorem dX2_greatestArea_11 : decode cX2_greatestArea 11 = .ok (.aload_n 0, 1) := by decide +kernel
theorem dX2_greatestArea_12 : decode cX2_greatestArea 12 = .ok (.iload_n 2, 1) := by decide +kernel
theorem dX2_greatestArea_13 : decode cX2_greatestArea 13 = .ok (.invokevirtual 150, 3) := by decide +kernel
theorem dX2_greatestArea_16 : decode cX2_greatestArea 16 = .ok (.ifCond .eq 14, 3) := by decide +kernel
theorem dX2_greatestArea_19 : decode cX2_greatestArea 19 = .ok (.iload_n 1, 1) := by decide +kernel
theorem dX2_greatestArea_20 : decode cX2_greatestArea 20 = .ok (.aload_n 0, 1) := by decide +kernel
theorem dX2_greatestArea_21 : decode cX2_greatestArea 21 = .ok (.getfield 33, 3) := by decide +kernel
theorem dX2_greatestArea_24 : decode cX2_greatestArea 24 = .ok (.iload_n 2, 1) := by decide +kernel
theorem dX2_greatestArea_25 : decode cX2_greatestArea 25 = .ok (.iaload, 1) := by decide +kernel
theorem dX2_greatestArea_26 : decode cX2_greatestArea 26 = .ok (.invokestatic 156, 3) := by decide +kernel
theorem dX2_greatestArea_29 : decode cX2_greatestArea 29 = .ok (.istore_n 1, 1) := by decide +kernel
theorem dX2_greatestArea_30 : decode cX2_greatestArea 30 = .ok (.iinc 2 1, 3) := by decide +kernel
theorem dX2_greatestArea_33 : decode cX2_greatestArea 33 = .ok (.goto (-28), 3) := by decide +kernel
theorem dX2_greatestArea_36 : decode cX2_greatestArea 36 = .ok (.iload_n 1, 1) := by decide +kernel
theorem dX2_greatestArea_37 : decode cX2_greatestArea 37 = .ok (.ireturn, 1) := by decide +kernel
theorem dX2_leastArea_0 : decode cX2_leastArea 0 = .ok (.ldc 159, 2) := by decide +kernel
theorem dX2_leastArea_2 : decode cX2_leastArea 2 = .ok (.istore_n 1, 1) := by decide +kernel
theorem dX2_leastArea_3 : decode cX2_leastArea 3 = .ok (.iconst 0, 1) := by decide +kernel
theorem dX2_leastArea_4 : decode cX2_leastArea 4 = .ok (.istore_n 2, 1) := by decide +kernel
theorem dX2_leastArea_5 : decode cX2_leastArea 5 = .ok (.iload_n 2, 1) := by decide +kernel
theorem dX2_leastArea_6 : decode cX2_leastArea 6 = .ok (.bipush 48, 2) := by decide +kernel
theorem dX2_leastArea_8 : decode cX2_leastArea 8 = .ok (.if_icmp .ge 28, 3) := by decide +kernel
theorem dX2_leastArea_11 : decode cX2_leastArea 11 = .ok (.aload_n 0, 1) := by decide +kernel
theorem dX2_leastArea_12 : decode cX2_leastArea 12 = .ok (.iload_n 2, 1) := by decide +kernel
theorem dX2_leastArea_13 : decode cX2_leastArea 13 = .ok (.invokevirtual 150, 3) := by decide +kernel
theorem dX2_leastArea_16 : decode cX2_leastArea 16 = .ok (.ifCond .eq 14, 3) := by decide +kernel
theorem dX2_leastArea_19 : decode cX2_leastArea 19 = .ok (.iload_n 1, 1) := by decide +kernel
theorem dX2_leastArea_20 : decode cX2_leastArea 20 = .ok (.aload_n 0, 1) := by decide +kernel
theorem dX2_leastArea_21 : decode cX2_leastArea 21 = .ok (.getfield 33, 3) := by decide +kernel
theorem dX2_leastArea_24 : decode cX2_leastArea 24 = .ok (.iload_n 2, 1) := by decide +kernel
theorem dX2_leastArea_25 : decode cX2_leastArea 25 = .ok (.iaload, 1) := by decide +kernel
theorem dX2_leastArea_26 : decode cX2_leastArea 26 = .ok (.invokestatic 113, 3) := by decide +kernel
theorem dX2_leastArea_29 : decode cX2_leastArea 29 = .ok (.istore_n 1, 1) := by decide +kernel
theorem dX2_leastArea_30 : decode cX2_leastArea 30 = .ok (.iinc 2 1, 3) := by decide +kernel
theorem dX2_leastArea_33 : decode cX2_leastArea 33 = .ok (.goto (-28), 3) := by decide +kernel
theorem dX2_leastArea_36 : decode cX2_leastArea 36 = .ok (.iload_n 1, 1) := by decide +kernel
theorem dX2_leastArea_37 : decode cX2_leastArea 37 = .ok (.ireturn, 1) := by decide +kernel
theorem dX2_sumOfLengths_0 : decode cX2_sumOfLengths 0 = .ok (.iconst 0, 1) := by decide +kernel
theorem dX2_sumOfLengths_1 : decode cX2_sumOfLengths 1 = .ok (.istore_n 1, 1) := by decide +kernel
theorem dX2_sumOfLengths_2 : decode cX2_sumOfLengths 2 = .ok (.iconst 0, 1) := by decide +kernel
theorem dX2_sumOfLengths_3 : decode cX2_sumOfLengths 3 = .ok (.istore_n 2, 1) := by decide +kernel
theorem dX2_sumOfLengths_4 : decode cX2_sumOfLengths 4 = .ok (.iload_n 2, 1) := by decide +kernel
theorem dX2_sumOfLengths_5 : decode cX2_sumOfLengths 5 = .ok (.sipush 144, 3) := by decide +kernel
theorem dX2_sumOfLengths_8 : decode cX2_sumOfLengths 8 = .ok (.if_icmp .ge 26, 3) := by decide +kernel
theorem dX2_sumOfLengths_11 : decode cX2_sumOfLengths 11 = .ok (.aload_n 0, 1) := by decide +kernel
theorem dX2_sumOfLengths_12 : decode cX2_sumOfLengths 12 = .ok (.iload_n 2, 1) := by decide +kernel
theorem dX2_sumOfLengths_13 : decode cX2_sumOfLengths 13 = .ok (.invokevirtual 91, 3) := by decide +kernel
theorem dX2_sumOfLengths_16 : decode cX2_sumOfLengths 16 = .ok (.ifCond .eq 12, 3) := by decide +kernel
theorem dX2_sumOfLengths_19 : decode cX2_sumOfLengths 19 = .ok (.iload_n 1, 1) := by decide +kernel
theorem dX2_sumOfLengths_20 : decode cX2_sumOfLengths 20 = .ok (.aload_n 0, 1) := by decide +kernel
theorem dX2_sumOfLengths_21 : decode cX2_sumOfLengths 21 = .ok (.getfield 27, 3) := by decide +kernel
theorem dX2_sumOfLengths_24 : decode cX2_sumOfLengths 24 = .ok (.iload_n 2, 1) := by decide +kernel
theorem dX2_sumOfLengths_25 : decode cX2_sumOfLengths 25 = .ok (.iaload, 1) := by decide +kernel
theorem dX2_sumOfLengths_26 : decode cX2_sumOfLengths 26 = .ok (.iadd, 1) := by decide +kernel
theorem dX2_sumOfLengths_27 : decode cX2_sumOfLengths 27 = .ok (.istore_n 1, 1) := by decide +kernel
theorem dX2_sumOfLengths_28 : decode cX2_sumOfLengths 28 = .ok (.iinc 2 1, 3) := by decide +kernel
theorem dX2_sumOfLengths_31 : decode cX2_sumOfLengths 31 = .ok (.goto (-27), 3) := by decide +kernel
theorem dX2_sumOfLengths_34 : decode cX2_sumOfLengths 34 = .ok (.iload_n 1, 1) := by decide +kernel
theorem dX2_sumOfLengths_35 : decode cX2_sumOfLengths 35 = .ok (.ireturn, 1) := by decide +kernel
theorem dX2_mostSides_0 : decode cX2_mostSides 0 = .ok (.iconst 0, 1) := by decide +kernel
theorem dX2_mostSides_1 : decode cX2_mostSides 1 = .ok (.istore_n 1, 1) := by decide +kernel
theorem dX2_mostSides_2 : decode cX2_mostSides 2 = .ok (.iconst 0, 1) := by decide +kernel
theorem dX2_mostSides_3 : decode cX2_mostSides 3 = .ok (.istore_n 2, 1) := by decide +kernel
theorem dX2_mostSides_4 : decode cX2_mostSides 4 = .ok (.iload_n 2, 1) := by decide +kernel
theorem dX2_mostSides_5 : decode cX2_mostSides 5 = .ok (.bipush 48, 2) := by decide +kernel
theorem dX2_mostSides_7 : decode cX2_mostSides 7 = .ok (.if_icmp .ge 20, 3) := by decide +kernel
theorem dX2_mostSides_10 : decode cX2_mostSides 10 = .ok (.iload_n 1, 1) := by decide +kernel
theorem dX2_mostSides_11 : decode cX2_mostSides 11 = .ok (.aload_n 0, 1) := by decide +kernel
theorem dX2_mostSides_12 : decode cX2_mostSides 12 = .ok (.getfield 30, 3) := by decide +kernel
theorem dX2_mostSides_15 : decode cX2_mostSides 15 = .ok (.iload_n 2, 1) := by decide +kernel
theorem dX2_mostSides_16 : decode cX2_mostSides 16 = .ok (.iaload, 1) := by decide +kernel
theorem dX2_mostSides_17 : decode cX2_mostSides 17 = .ok (.invokestatic 156, 3) := by decide +kernel
theorem dX2_mostSides_20 : decode cX2_mostSides 20 = .ok (.istore_n 1, 1) := by decide +kernel
theorem dX2_mostSides_21 : decode cX2_mostSides 21 = .ok (.iinc 2 1, 3) := by decide +kernel
theorem dX2_mostSides_24 : decode cX2_mostSides 24 = .ok (.goto (-20), 3) := by decide +kernel
theorem dX2_mostSides_27 : decode cX2_mostSides 27 = .ok (.iload_n 1, 1) := by decide +kernel
theorem dX2_mostSides_28 : decode cX2_mostSides 28 = .ok (.ireturn, 1) := by decide +kernel
theorem dX2_fewestSides_0 : decode cX2_fewestSides 0 = .ok (.sipush 288, 3) := by decide +kernel
theorem dX2_fewestSides_3 : decode cX2_fewestSides 3 = .ok (.istore_n 1, 1) := by decide +kernel
theorem dX2_fewestSides_4 : decode cX2_fewestSides 4 = .ok (.iconst 0, 1) := by decide +kernel
theorem dX2_fewestSides_5 : decode cX2_fewestSides 5 = .ok (.istore_n 2, 1) := by decide +kernel
theorem dX2_fewestSides_6 : decode cX2_fewestSides 6 = .ok (.iload_n 2, 1) := by decide +kernel
theorem dX2_fewestSides_7 : decode cX2_fewestSides 7 = .ok (.bipush 48, 2) := by decide +kernel
theorem dX2_fewestSides_9 : decode cX2_fewestSides 9 = .ok (.if_icmp .ge 28, 3) := by decide +kernel
theorem dX2_fewestSides_12 : decode cX2_fewestSides 12 = .ok (.aload_n 0, 1) := by decide +kernel
theorem dX2_fewestSides_13 : decode cX2_fewestSides 13 = .ok (.iload_n 2, 1) := by decide +kernel
theorem dX2_fewestSides_14 : decode cX2_fewestSides 14 = .ok (.invokevirtual 150, 3) := by decide +kernel
theorem dX2_fewestSides_17 : decode cX2_fewestSides 17 = .ok (.ifCond .eq 14, 3) := by decide +kernel
theorem dX2_fewestSides_20 : decode cX2_fewestSides 20 = .ok (.iload_n 1, 1) := by decide +kernel
theorem dX2_fewestSides_21 : decode cX2_fewestSides 21 = .ok (.aload_n 0, 1) := by decide +kernel
theorem dX2_fewestSides_22 : decode cX2_fewestSides 22 = .ok (.getfield 30, 3) := by decide +kernel
theorem dX2_fewestSides_25 : decode cX2_fewestSides 25 = .ok (.iload_n 2, 1) := by decide +kernel
theorem dX2_fewestSides_26 : decode cX2_fewestSides 26 = .ok (.iaload, 1) := by decide +kernel
theorem dX2_fewestSides_27 : decode cX2_fewestSides 27 = .ok (.invokestatic 113, 3) := by decide +kernel
theorem dX2_fewestSides_30 : decode cX2_fewestSides 30 = .ok (.istore_n 1, 1) := by decide +kernel
theorem dX2_fewestSides_31 : decode cX2_fewestSides 31 = .ok (.iinc 2 1, 3) := by decide +kernel
theorem dX2_fewestSides_34 : decode cX2_fewestSides 34 = .ok (.goto (-28), 3) := by decide +kernel
theorem dX2_fewestSides_37 : decode cX2_fewestSides 37 = .ok (.iload_n 1, 1) := by decide +kernel
theorem dX2_fewestSides_38 : decode cX2_fewestSides 38 = .ok (.ireturn, 1) := by decide +kernel
theorem dX2_hasSidesOf_0 : decode cX2_hasSidesOf 0 = .ok (.iconst 0, 1) := by decide +kernel
theorem dX2_hasSidesOf_1 : decode cX2_hasSidesOf 1 = .ok (.istore_n 2, 1) := by decide +kernel
theorem dX2_hasSidesOf_2 : decode cX2_hasSidesOf 2 = .ok (.iload_n 2, 1) := by decide +kernel
theorem dX2_hasSidesOf_3 : decode cX2_hasSidesOf 3 = .ok (.bipush 48, 2) := by decide +kernel
theorem dX2_hasSidesOf_5 : decode cX2_hasSidesOf 5 = .ok (.if_icmp .ge 26, 3) := by decide +kernel
theorem dX2_hasSidesOf_8 : decode cX2_hasSidesOf 8 = .ok (.aload_n 0, 1) := by decide +kernel
theorem dX2_hasSidesOf_9 : decode cX2_hasSidesOf 9 = .ok (.getfield 30, 3) := by decide +kernel
theorem dX2_hasSidesOf_12 : decode cX2_hasSidesOf 12 = .ok (.iload_n 2, 1) := by decide +kernel
theorem dX2_hasSidesOf_13 : decode cX2_hasSidesOf 13 = .ok (.iaload, 1) := by decide +kernel
theorem dX2_hasSidesOf_14 : decode cX2_hasSidesOf 14 = .ok (.aload_n 1, 1) := by decide +kernel
theorem dX2_hasSidesOf_15 : decode cX2_hasSidesOf 15 = .ok (.getfield 30, 3) := by decide +kernel
theorem dX2_hasSidesOf_18 : decode cX2_hasSidesOf 18 = .ok (.iload_n 2, 1) := by decide +kernel
theorem dX2_hasSidesOf_19 : decode cX2_hasSidesOf 19 = .ok (.iaload, 1) := by decide +kernel
theorem dX2_hasSidesOf_20 : decode cX2_hasSidesOf 20 = .ok (.if_icmp .eq 5, 3) := by decide +kernel
theorem dX2_hasSidesOf_23 : decode cX2_hasSidesOf 23 = .ok (.iconst 0, 1) := by decide +kernel
theorem dX2_hasSidesOf_24 : decode cX2_hasSidesOf 24 = .ok (.ireturn, 1) := by decide +kernel
theorem dX2_hasSidesOf_25 : decode cX2_hasSidesOf 25 = .ok (.iinc 2 1, 3) := by decide +kernel
theorem dX2_hasSidesOf_28 : decode cX2_hasSidesOf 28 = .ok (.goto (-26), 3) := by decide +kernel
theorem dX2_hasSidesOf_31 : decode cX2_hasSidesOf 31 = .ok (.iconst 1, 1) := by decide +kernel
theorem dX2_hasSidesOf_32 : decode cX2_hasSidesOf 32 = .ok (.ireturn, 1) := by decide +kernel
theorem dX2_growAreas_0 : decode cX2_growAreas 0 = .ok (.iconst 0, 1) := by decide +kernel
theorem dX2_growAreas_1 : decode cX2_growAreas 1 = .ok (.istore_n 2, 1) := by decide +kernel
theorem dX2_growAreas_2 : decode cX2_growAreas 2 = .ok (.iload_n 2, 1) := by decide +kernel
theorem dX2_growAreas_3 : decode cX2_growAreas 3 = .ok (.bipush 48, 2) := by decide +kernel
theorem dX2_growAreas_5 : decode cX2_growAreas 5 = .ok (.if_icmp .ge 37, 3) := by decide +kernel
theorem dX2_growAreas_8 : decode cX2_growAreas 8 = .ok (.aload_n 0, 1) := by decide +kernel
theorem dX2_growAreas_9 : decode cX2_growAreas 9 = .ok (.iload_n 2, 1) := by decide +kernel
theorem dX2_growAreas_10 : decode cX2_growAreas 10 = .ok (.invokevirtual 150, 3) := by decide +kernel
theorem dX2_growAreas_13 : decode cX2_growAreas 13 = .ok (.ifCond .eq 23, 3) := by decide +kernel
theorem dX2_growAreas_16 : decode cX2_growAreas 16 = .ok (.aload_n 0, 1) := by decide +kernel
theorem dX2_growAreas_17 : decode cX2_growAreas 17 = .ok (.getfield 33, 3) := by decide +kernel
theorem dX2_growAreas_20 : decode cX2_growAreas 20 = .ok (.iload_n 2, 1) := by decide +kernel
theorem dX2_growAreas_21 : decode cX2_growAreas 21 = .ok (.dup2, 1) := by decide +kernel
theorem dX2_growAreas_22 : decode cX2_growAreas 22 = .ok (.iaload, 1) := by decide +kernel
theorem dX2_growAreas_23 : decode cX2_growAreas 23 = .ok (.iload_n 1, 1) := by decide +kernel
theorem dX2_growAreas_24 : decode cX2_growAreas 24 = .ok (.aload_n 0, 1) := by decide +kernel
theorem dX2_growAreas_25 : decode cX2_growAreas 25 = .ok (.getfield 30, 3) := by decide +kernel
theorem dX2_growAreas_28 : decode cX2_growAreas 28 = .ok (.iload_n 2, 1) := by decide +kernel
theorem dX2_growAreas_29 : decode cX2_growAreas 29 = .ok (.iaload, 1) := by decide +kernel
theorem dX2_growAreas_30 : decode cX2_growAreas 30 = .ok (.bipush 6, 2) := by decide +kernel
theorem dX2_growAreas_32 : decode cX2_growAreas 32 = .ok (.isub, 1) := by decide +kernel
theorem dX2_growAreas_33 : decode cX2_growAreas 33 = .ok (.imul, 1) := by decide +kernel
theorem dX2_growAreas_34 : decode cX2_growAreas 34 = .ok (.iadd, 1) := by decide +kernel
theorem dX2_growAreas_35 : decode cX2_growAreas 35 = .ok (.iastore, 1) := by decide +kernel
theorem dX2_growAreas_36 : decode cX2_growAreas 36 = .ok (.iinc 2 1, 3) := by decide +kernel
theorem dX2_growAreas_39 : decode cX2_growAreas 39 = .ok (.goto (-37), 3) := by decide +kernel
theorem dX2_growAreas_42 : decode cX2_growAreas 42 = .ok (.return_, 1) := by decide +kernel
theorem dX2_stretchWalls_0 : decode cX2_stretchWalls 0 = .ok (.iconst 0, 1) := by decide +kernel
theorem dX2_stretchWalls_1 : decode cX2_stretchWalls 1 = .ok (.istore_n 1, 1) := by decide +kernel
theorem dX2_stretchWalls_2 : decode cX2_stretchWalls 2 = .ok (.iload_n 1, 1) := by decide +kernel
theorem dX2_stretchWalls_3 : decode cX2_stretchWalls 3 = .ok (.sipush 144, 3) := by decide +kernel
theorem dX2_stretchWalls_6 : decode cX2_stretchWalls 6 = .ok (.if_icmp .ge 104, 3) := by decide +kernel
theorem dX2_stretchWalls_9 : decode cX2_stretchWalls 9 = .ok (.aload_n 0, 1) := by decide +kernel
theorem dX2_stretchWalls_10 : decode cX2_stretchWalls 10 = .ok (.iload_n 1, 1) := by decide +kernel
theorem dX2_stretchWalls_11 : decode cX2_stretchWalls 11 = .ok (.invokevirtual 91, 3) := by decide +kernel
theorem dX2_stretchWalls_14 : decode cX2_stretchWalls 14 = .ok (.ifCond .eq 90, 3) := by decide +kernel
theorem dX2_stretchWalls_17 : decode cX2_stretchWalls 17 = .ok (.aload_n 0, 1) := by decide +kernel
theorem dX2_stretchWalls_18 : decode cX2_stretchWalls 18 = .ok (.getfield 30, 3) := by decide +kernel
theorem dX2_stretchWalls_21 : decode cX2_stretchWalls 21 = .ok (.aload_n 0, 1) := by decide +kernel
theorem dX2_stretchWalls_22 : decode cX2_stretchWalls 22 = .ok (.iconst 2, 1) := by decide +kernel
theorem dX2_stretchWalls_23 : decode cX2_stretchWalls 23 = .ok (.iload_n 1, 1) := by decide +kernel
theorem dX2_stretchWalls_24 : decode cX2_stretchWalls 24 = .ok (.imul, 1) := by decide +kernel
theorem dX2_stretchWalls_25 : decode cX2_stretchWalls 25 = .ok (.invokevirtual 77, 3) := by decide +kernel
theorem dX2_stretchWalls_28 : decode cX2_stretchWalls 28 = .ok (.iaload, 1) := by decide +kernel
theorem dX2_stretchWalls_29 : decode cX2_stretchWalls 29 = .ok (.aload_n 0, 1) := by decide +kernel
theorem dX2_stretchWalls_30 : decode cX2_stretchWalls 30 = .ok (.getfield 30, 3) := by decide +kernel
theorem dX2_stretchWalls_33 : decode cX2_stretchWalls 33 = .ok (.aload_n 0, 1) := by decide +kernel
theorem dX2_stretchWalls_34 : decode cX2_stretchWalls 34 = .ok (.iconst 2, 1) := by decide +kernel
theorem dX2_stretchWalls_35 : decode cX2_stretchWalls 35 = .ok (.iload_n 1, 1) := by decide +kernel
theorem dX2_stretchWalls_36 : decode cX2_stretchWalls 36 = .ok (.imul, 1) := by decide +kernel
theorem dX2_stretchWalls_37 : decode cX2_stretchWalls 37 = .ok (.iconst 1, 1) := by decide +kernel
theorem dX2_stretchWalls_38 : decode cX2_stretchWalls 38 = .ok (.iadd, 1) := by decide +kernel
theorem dX2_stretchWalls_39 : decode cX2_stretchWalls 39 = .ok (.invokevirtual 77, 3) := by decide +kernel
theorem dX2_stretchWalls_42 : decode cX2_stretchWalls 42 = .ok (.iaload, 1) := by decide +kernel
theorem dX2_stretchWalls_43 : decode cX2_stretchWalls 43 = .ok (.iadd, 1) := by decide +kernel
theorem dX2_stretchWalls_44 : decode cX2_stretchWalls 44 = .ok (.istore_n 2, 1) := by decide +kernel
theorem dX2_stretchWalls_45 : decode cX2_stretchWalls 45 = .ok (.aload_n 0, 1) := by decide +kernel
theorem dX2_stretchWalls_46 : decode cX2_stretchWalls 46 = .ok (.getfield 30, 3) := by decide +kernel
theorem dX2_stretchWalls_49 : decode cX2_stretchWalls 49 = .ok (.aload_n 0, 1) := by decide +kernel
theorem dX2_stretchWalls_50 : decode cX2_stretchWalls 50 = .ok (.getfield 9, 3) := by decide +kernel
theorem dX2_stretchWalls_53 : decode cX2_stretchWalls 53 = .ok (.iconst 2, 1) := by decide +kernel
theorem dX2_stretchWalls_54 : decode cX2_stretchWalls 54 = .ok (.iload_n 1, 1) := by decide +kernel
theorem dX2_stretchWalls_55 : decode cX2_stretchWalls 55 = .ok (.imul, 1) := by decide +kernel
theorem dX2_stretchWalls_56 : decode cX2_stretchWalls 56 = .ok (.iaload, 1) := by decide +kernel
theorem dX2_stretchWalls_57 : decode cX2_stretchWalls 57 = .ok (.iaload, 1) := by decide +kernel
theorem dX2_stretchWalls_58 : decode cX2_stretchWalls 58 = .ok (.aload_n 0, 1) := by decide +kernel
theorem dX2_stretchWalls_59 : decode cX2_stretchWalls 59 = .ok (.getfield 30, 3) := by decide +kernel
theorem dX2_stretchWalls_62 : decode cX2_stretchWalls 62 = .ok (.aload_n 0, 1) := by decide +kernel
theorem dX2_stretchWalls_63 : decode cX2_stretchWalls 63 = .ok (.getfield 9, 3) := by decide +kernel
theorem dX2_stretchWalls_66 : decode cX2_stretchWalls 66 = .ok (.iconst 2, 1) := by decide +kernel
theorem dX2_stretchWalls_67 : decode cX2_stretchWalls 67 = .ok (.iload_n 1, 1) := by decide +kernel
theorem dX2_stretchWalls_68 : decode cX2_stretchWalls 68 = .ok (.imul, 1) := by decide +kernel
theorem dX2_stretchWalls_69 : decode cX2_stretchWalls 69 = .ok (.iconst 1, 1) := by decide +kernel
theorem dX2_stretchWalls_70 : decode cX2_stretchWalls 70 = .ok (.iadd, 1) := by decide +kernel
theorem dX2_stretchWalls_71 : decode cX2_stretchWalls 71 = .ok (.iaload, 1) := by decide +kernel
theorem dX2_stretchWalls_72 : decode cX2_stretchWalls 72 = .ok (.iaload, 1) := by decide +kernel
theorem dX2_stretchWalls_73 : decode cX2_stretchWalls 73 = .ok (.iadd, 1) := by decide +kernel
theorem dX2_stretchWalls_74 : decode cX2_stretchWalls 74 = .ok (.istore_n 3, 1) := by decide +kernel
theorem dX2_stretchWalls_75 : decode cX2_stretchWalls 75 = .ok (.aload_n 0, 1) := by decide +kernel
theorem dX2_stretchWalls_76 : decode cX2_stretchWalls 76 = .ok (.getfield 27, 3) := by decide +kernel
theorem dX2_stretchWalls_79 : decode cX2_stretchWalls 79 = .ok (.iload_n 1, 1) := by decide +kernel
theorem dX2_stretchWalls_80 : decode cX2_stretchWalls 80 = .ok (.iaload, 1) := by decide +kernel
theorem dX2_stretchWalls_81 : decode cX2_stretchWalls 81 = .ok (.iload_n 2, 1) := by decide +kernel
theorem dX2_stretchWalls_82 : decode cX2_stretchWalls 82 = .ok (.iadd, 1) := by decide +kernel
theorem dX2_stretchWalls_83 : decode cX2_stretchWalls 83 = .ok (.iload_n 3, 1) := by decide +kernel
theorem dX2_stretchWalls_84 : decode cX2_stretchWalls 84 = .ok (.isub, 1) := by decide +kernel
theorem dX2_stretchWalls_85 : decode cX2_stretchWalls 85 = .ok (.istore 4, 2) := by decide +kernel
theorem dX2_stretchWalls_87 : decode cX2_stretchWalls 87 = .ok (.aload_n 0, 1) := by decide +kernel
theorem dX2_stretchWalls_88 : decode cX2_stretchWalls 88 = .ok (.getfield 27, 3) := by decide +kernel
theorem dX2_stretchWalls_91 : decode cX2_stretchWalls 91 = .ok (.iload_n 1, 1) := by decide +kernel
theorem dX2_stretchWalls_92 : decode cX2_stretchWalls 92 = .ok (.iconst 0, 1) := by decide +kernel
theorem dX2_stretchWalls_93 : decode cX2_stretchWalls 93 = .ok (.iload 4, 2) := by decide +kernel
theorem dX2_stretchWalls_95 : decode cX2_stretchWalls 95 = .ok (.bipush 99, 2) := by decide +kernel
theorem dX2_stretchWalls_97 : decode cX2_stretchWalls 97 = .ok (.invokestatic 113, 3) := by decide +kernel
theorem dX2_stretchWalls_100 : decode cX2_stretchWalls 100 = .ok (.invokestatic 156, 3) := by decide +kernel
theorem dX2_stretchWalls_103 : decode cX2_stretchWalls 103 = .ok (.iastore, 1) := by decide +kernel
theorem dX2_stretchWalls_104 : decode cX2_stretchWalls 104 = .ok (.iinc 1 1, 3) := by decide +kernel
theorem dX2_stretchWalls_107 : decode cX2_stretchWalls 107 = .ok (.goto (-105), 3) := by decide +kernel
theorem dX2_stretchWalls_110 : decode cX2_stretchWalls 110 = .ok (.return_, 1) := by decide +kernel
