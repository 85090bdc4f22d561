theorem dX5_init_0 : decode cX5_init 0 = .ok (.aload_n 0, 1) := by decide +kernel
theorem dX5_init_1 : decode cX5_init 1 = .ok (.invokespecial 1, 3) := by decide +kernel
theorem dX5_init_4 : decode cX5_init 4 = .ok (.aload_n 0, 1) := by decide +kernel
theorem dX5_init_5 : decode cX5_init 5 = .ok (.new 7, 3) := by decide +kernel
theorem dX5_init_8 : decode cX5_init 8 = .ok (.dup, 1) := by decide +kernel
theorem dX5_init_9 : decode cX5_init 9 = .ok (.invokespecial 9, 3) := by decide +kernel
theorem dX5_init_12 : decode cX5_init 12 = .ok (.putfield 10, 3) := by decide +kernel
theorem dX5_init_15 : decode cX5_init 15 = .ok (.aload_n 0, 1) := by decide +kernel
theorem dX5_init_16 : decode cX5_init 16 = .ok (.new 16, 3) := by decide +kernel
theorem dX5_init_19 : decode cX5_init 19 = .ok (.dup, 1) := by decide +kernel
theorem dX5_init_20 : decode cX5_init 20 = .ok (.invokespecial 18, 3) := by decide +kernel
theorem dX5_init_23 : decode cX5_init 23 = .ok (.putfield 19, 3) := by decide +kernel
theorem dX5_init_26 : decode cX5_init 26 = .ok (.aload_n 0, 1) := by decide +kernel
theorem dX5_init_27 : decode cX5_init 27 = .ok (.new 23, 3) := by decide +kernel
theorem dX5_init_30 : decode cX5_init 30 = .ok (.dup, 1) := by decide +kernel
theorem dX5_init_31 : decode cX5_init 31 = .ok (.invokespecial 25, 3) := by decide +kernel
theorem dX5_init_34 : decode cX5_init 34 = .ok (.putfield 26, 3) := by decide +kernel
theorem dX5_init_37 : decode cX5_init 37 = .ok (.aload_n 0, 1) := by decide +kernel
theorem dX5_init_38 : decode cX5_init 38 = .ok (.iconst 2, 1) := by decide +kernel
theorem dX5_init_39 : decode cX5_init 39 = .ok (.anewarray 7, 3) := by decide +kernel
theorem dX5_init_42 : decode cX5_init 42 = .ok (.putfield 30, 3) := by decide +kernel
theorem dX5_init_45 : decode cX5_init 45 = .ok (.aload_n 0, 1) := by decide +kernel
theorem dX5_init_46 : decode cX5_init 46 = .ok (.getfield 10, 3) := by decide +kernel
theorem dX5_init_49 : decode cX5_init 49 = .ok (.iconst 4, 1) := by decide +kernel
theorem dX5_init_50 : decode cX5_init 50 = .ok (.iconst 4, 1) := by decide +kernel
theorem dX5_init_51 : decode cX5_init 51 = .ok (.invokevirtual 34, 3) := by decide +kernel
theorem dX5_init_54 : decode cX5_init 54 = .ok (.return_, 1) := by decide +kernel
theorem dX5_ring_0 : decode cX5_ring 0 = .ok (.iload_n 1, 1) := by decide +kernel
theorem dX5_ring_1 : decode cX5_ring 1 = .ok (.iconst 3, 1) := by decide +kernel
theorem dX5_ring_2 : decode cX5_ring 2 = .ok (.if_icmp .lt 20, 3) := by decide +kernel
theorem dX5_ring_5 : decode cX5_ring 5 = .ok (.iload_n 1, 1) := by decide +kernel
theorem dX5_ring_6 : decode cX5_ring 6 = .ok (.bipush 6, 2) := by decide +kernel
theorem dX5_ring_8 : decode cX5_ring 8 = .ok (.if_icmp .gt 14, 3) := by decide +kernel
theorem dX5_ring_11 : decode cX5_ring 11 = .ok (.iload_n 2, 1) := by decide +kernel
theorem dX5_ring_12 : decode cX5_ring 12 = .ok (.iconst 3, 1) := by decide +kernel
theorem dX5_ring_13 : decode cX5_ring 13 = .ok (.if_icmp .lt 9, 3) := by decide +kernel
theorem dX5_ring_16 : decode cX5_ring 16 = .ok (.iload_n 2, 1) := by decide +kernel
theorem dX5_ring_17 : decode cX5_ring 17 = .ok (.bipush 6, 2) := by decide +kernel
theorem dX5_ring_19 : decode cX5_ring 19 = .ok (.if_icmp .le 12, 3) := by decide +kernel
theorem dX5_ring_22 : decode cX5_ring 22 = .ok (.aload_n 0, 1) := by decide +kernel
theorem dX5_ring_23 : decode cX5_ring 23 = .ok (.getfield 10, 3) := by decide +kernel
theorem dX5_ring_26 : decode cX5_ring 26 = .ok (.iconst (-1), 1) := by decide +kernel
theorem dX5_ring_27 : decode cX5_ring 27 = .ok (.invokevirtual 38, 3) := by decide +kernel
theorem dX5_ring_30 : decode cX5_ring 30 = .ok (.ireturn, 1) := by decide +kernel
theorem dX5_ring_31 : decode cX5_ring 31 = .ok (.aload_n 0, 1) := by decide +kernel
theorem dX5_ring_32 : decode cX5_ring 32 = .ok (.getfield 10, 3) := by decide +kernel
theorem dX5_ring_35 : decode cX5_ring 35 = .ok (.iload_n 1, 1) := by decide +kernel
theorem dX5_ring_36 : decode cX5_ring 36 = .ok (.iload_n 2, 1) := by decide +kernel
theorem dX5_ring_37 : decode cX5_ring 37 = .ok (.invokevirtual 34, 3) := by decide +kernel
theorem dX5_ring_40 : decode cX5_ring 40 = .ok (.iload_n 1, 1) := by decide +kernel
theorem dX5_ring_41 : decode cX5_ring 41 = .ok (.iload_n 2, 1) := by decide +kernel
theorem dX5_ring_42 : decode cX5_ring 42 = .ok (.imul, 1) := by decide +kernel
theorem dX5_ring_43 : decode cX5_ring 43 = .ok (.ireturn, 1) := by decide +kernel
theorem dX5_rate_0 : decode cX5_rate 0 = .ok (.iload_n 1, 1) := by decide +kernel
theorem dX5_rate_1 : decode cX5_rate 1 = .ok (.ifCond .lt 9, 3) := by decide +kernel
theorem dX5_rate_4 : decode cX5_rate 4 = .ok (.iload_n 1, 1) := by decide +kernel
theorem dX5_rate_5 : decode cX5_rate 5 = .ok (.bipush 9, 2) := by decide +kernel
theorem dX5_rate_7 : decode cX5_rate 7 = .ok (.if_icmp .le 12, 3) := by decide +kernel
theorem dX5_rate_10 : decode cX5_rate 10 = .ok (.aload_n 0, 1) := by decide +kernel
theorem dX5_rate_11 : decode cX5_rate 11 = .ok (.getfield 10, 3) := by decide +kernel
theorem dX5_rate_14 : decode cX5_rate 14 = .ok (.iconst (-1), 1) := by decide +kernel
theorem dX5_rate_15 : decode cX5_rate 15 = .ok (.invokevirtual 38, 3) := by decide +kernel
theorem dX5_rate_18 : decode cX5_rate 18 = .ok (.ireturn, 1) := by decide +kernel
theorem dX5_rate_19 : decode cX5_rate 19 = .ok (.aload_n 0, 1) := by decide +kernel
theorem dX5_rate_20 : decode cX5_rate 20 = .ok (.getfield 10, 3) := by decide +kernel
theorem dX5_rate_23 : decode cX5_rate 23 = .ok (.getfield 42, 3) := by decide +kernel
theorem dX5_rate_26 : decode cX5_rate 26 = .ok (.istore_n 2, 1) := by decide +kernel
theorem dX5_rate_27 : decode cX5_rate 27 = .ok (.aload_n 0, 1) := by decide +kernel
theorem dX5_rate_28 : decode cX5_rate 28 = .ok (.getfield 10, 3) := by decide +kernel
theorem dX5_rate_31 : decode cX5_rate 31 = .ok (.iload_n 1, 1) := by decide +kernel
theorem dX5_rate_32 : decode cX5_rate 32 = .ok (.putfield 42, 3) := by decide +kernel
theorem dX5_rate_35 : decode cX5_rate 35 = .ok (.iload_n 2, 1) := by decide +kernel
theorem dX5_rate_36 : decode cX5_rate 36 = .ok (.ireturn, 1) := by decide +kernel
theorem dX5_area_0 : decode cX5_area 0 = .ok (.iload_n 2, 1) := by decide +kernel
theorem dX5_area_1 : decode cX5_area 1 = .ok (.sipush (-999), 3) := by decide +kernel
theorem dX5_area_4 : decode cX5_area 4 = .ok (.if_icmp .lt 10, 3) := by decide +kernel
theorem dX5_area_7 : decode cX5_area 7 = .ok (.iload_n 2, 1) := by decide +kernel
theorem dX5_area_8 : decode cX5_area 8 = .ok (.sipush 9999, 3) := by decide +kernel
theorem dX5_area_11 : decode cX5_area 11 = .ok (.if_icmp .le 12, 3) := by decide +kernel
theorem dX5_area_14 : decode cX5_area 14 = .ok (.aload_n 0, 1) := by decide +kernel
theorem dX5_area_15 : decode cX5_area 15 = .ok (.getfield 10, 3) := by decide +kernel
theorem dX5_area_18 : decode cX5_area 18 = .ok (.iconst (-1), 1) := by decide +kernel
theorem dX5_area_19 : decode cX5_area 19 = .ok (.invokevirtual 38, 3) := by decide +kernel
theorem dX5_area_22 : decode cX5_area 22 = .ok (.ireturn, 1) := by decide +kernel
theorem dX5_area_23 : decode cX5_area 23 = .ok (.aload_n 0, 1) := by decide +kernel
theorem dX5_area_24 : decode cX5_area 24 = .ok (.getfield 10, 3) := by decide +kernel
theorem dX5_area_27 : decode cX5_area 27 = .ok (.getfield 46, 3) := by decide +kernel
theorem dX5_area_30 : decode cX5_area 30 = .ok (.iload_n 1, 1) := by decide +kernel
theorem dX5_area_31 : decode cX5_area 31 = .ok (.invokevirtual 50, 3) := by decide +kernel
theorem dX5_area_34 : decode cX5_area 34 = .ok (.ifCond .ne 13, 3) := by decide +kernel
theorem dX5_area_37 : decode cX5_area 37 = .ok (.aload_n 0, 1) := by decide +kernel
theorem dX5_area_38 : decode cX5_area 38 = .ok (.getfield 10, 3) := by decide +kernel
theorem dX5_area_41 : decode cX5_area 41 = .ok (.bipush (-2), 2) := by decide +kernel
theorem dX5_area_43 : decode cX5_area 43 = .ok (.invokevirtual 38, 3) := by decide +kernel
theorem dX5_area_46 : decode cX5_area 46 = .ok (.ireturn, 1) := by decide +kernel
theorem dX5_area_47 : decode cX5_area 47 = .ok (.aload_n 0, 1) := by decide +kernel
theorem dX5_area_48 : decode cX5_area 48 = .ok (.getfield 10, 3) := by decide +kernel
theorem dX5_area_51 : decode cX5_area 51 = .ok (.getfield 46, 3) := by decide +kernel
theorem dX5_area_54 : decode cX5_area 54 = .ok (.getfield 56, 3) := by decide +kernel
theorem dX5_area_57 : decode cX5_area 57 = .ok (.iload_n 1, 1) := by decide +kernel
theorem dX5_area_58 : decode cX5_area 58 = .ok (.iaload, 1) := by decide +kernel
theorem dX5_area_59 : decode cX5_area 59 = .ok (.istore_n 3, 1) := by decide +kernel
theorem dX5_area_60 : decode cX5_area 60 = .ok (.aload_n 0, 1) := by decide +kernel
theorem dX5_area_61 : decode cX5_area 61 = .ok (.getfield 10, 3) := by decide +kernel
theorem dX5_area_64 : decode cX5_area 64 = .ok (.getfield 46, 3) := by decide +kernel
theorem dX5_area_67 : decode cX5_area 67 = .ok (.getfield 56, 3) := by decide +kernel
theorem dX5_area_70 : decode cX5_area 70 = .ok (.iload_n 1, 1) := by decide +kernel
theorem dX5_area_71 : decode cX5_area 71 = .ok (.iload_n 2, 1) := by decide +kernel
theorem dX5_area_72 : decode cX5_area 72 = .ok (.iastore, 1) := by decide +kernel
theorem dX5_area_73 : decode cX5_area 73 = .ok (.iload_n 3, 1) := by decide +kernel
theorem dX5_area_74 : decode cX5_area 74 = .ok (.ireturn, 1) := by decide +kernel
theorem dX5_length_0 : decode cX5_length 0 = .ok (.iload_n 2, 1) := by decide +kernel
theorem dX5_length_1 : decode cX5_length 1 = .ok (.ifCond .lt 9, 3) := by decide +kernel
theorem dX5_length_4 : decode cX5_length 4 = .ok (.iload_n 2, 1) := by decide +kernel
theorem dX5_length_5 : decode cX5_length 5 = .ok (.bipush 99, 2) := by decide +kernel
theorem dX5_length_7 : decode cX5_length 7 = .ok (.if_icmp .le 12, 3) := by decide +kernel
theorem dX5_length_10 : decode cX5_length 10 = .ok (.aload_n 0, 1) := by decide +kernel
theorem dX5_length_11 : decode cX5_length 11 = .ok (.getfield 10, 3) := by decide +kernel
theorem dX5_length_14 : decode cX5_length 14 = .ok (.iconst (-1), 1) := by decide +kernel
theorem dX5_length_15 : decode cX5_length 15 = .ok (.invokevirtual 38, 3) := by decide +kernel
theorem dX5_length_18 : decode cX5_length 18 = .ok (.ireturn, 1) := by decide +kernel
theorem dX5_length_19 : decode cX5_length 19 = .ok (.aload_n 0, 1) := by decide +kernel
theorem dX5_length_20 : decode cX5_length 20 = .ok (.getfield 10, 3) := by decide +kernel
theorem dX5_length_23 : decode cX5_length 23 = .ok (.getfield 46, 3) := by decide +kernel
theorem dX5_length_26 : decode cX5_length 26 = .ok (.iload_n 1, 1) := by decide +kernel
theorem dX5_length_27 : decode cX5_length 27 = .ok (.invokevirtual 60, 3) := by decide +kernel
theorem dX5_length_30 : decode cX5_length 30 = .ok (.ifCond .ne 13, 3) := by decide +kernel
theorem dX5_length_33 : decode cX5_length 33 = .ok (.aload_n 0, 1) := by decide +kernel
theorem dX5_length_34 : decode cX5_length 34 = .ok (.getfield 10, 3) := by decide +kernel
theorem dX5_length_37 : decode cX5_length 37 = .ok (.bipush (-2), 2) := by decide +kernel
theorem dX5_length_39 : decode cX5_length 39 = .ok (.invokevirtual 38, 3) := by decide +kernel
theorem dX5_length_42 : decode cX5_length 42 = .ok (.ireturn, 1) := by decide +kernel
theorem dX5_length_43 : decode cX5_length 43 = .ok (.aload_n 0, 1) := by decide +kernel
theorem dX5_length_44 : decode cX5_length 44 = .ok (.getfield 10, 3) := by decide +kernel
theorem dX5_length_47 : decode cX5_length 47 = .ok (.getfield 46, 3) := by decide +kernel
theorem dX5_length_50 : decode cX5_length 50 = .ok (.getfield 63, 3) := by decide +kernel
theorem dX5_length_53 : decode cX5_length 53 = .ok (.iload_n 1, 1) := by decide +kernel
theorem dX5_length_54 : decode cX5_length 54 = .ok (.iaload, 1) := by decide +kernel
theorem dX5_length_55 : decode cX5_length 55 = .ok (.istore_n 3, 1) := by decide +kernel
theorem dX5_length_56 : decode cX5_length 56 = .ok (.aload_n 0, 1) := by decide +kernel
theorem dX5_length_57 : decode cX5_length 57 = .ok (.getfield 10, 3) := by decide +kernel
theorem dX5_length_60 : decode cX5_length 60 = .ok (.getfield 46, 3) := by decide +kernel
theorem dX5_length_63 : decode cX5_length 63 = .ok (.getfield 63, 3) := by decide +kernel
theorem dX5_length_66 : decode cX5_length 66 = .ok (.iload_n 1, 1) := by decide +kernel
theorem dX5_length_67 : decode cX5_length 67 = .ok (.iload_n 2, 1) := by decide +kernel
theorem dX5_length_68 : decode cX5_length 68 = .ok (.iastore, 1) := by decide +kernel
theorem dX5_length_69 : decode cX5_length 69 = .ok (.iload_n 3, 1) := by decide +kernel
theorem dX5_length_70 : decode cX5_length 70 = .ok (.ireturn, 1) := by decide +kernel
theorem dX5_swap_0 : decode cX5_swap 0 = .ok (.aload_n 0, 1) := by decide +kernel
theorem dX5_swap_1 : decode cX5_swap 1 = .ok (.getfield 10, 3) := by decide +kernel
theorem dX5_swap_4 : decode cX5_swap 4 = .ok (.getfield 46, 3) := by decide +kernel
theorem dX5_swap_7 : decode cX5_swap 7 = .ok (.iload_n 1, 1) := by decide +kernel
theorem dX5_swap_8 : decode cX5_swap 8 = .ok (.invokevirtual 60, 3) := by decide +kernel
theorem dX5_swap_11 : decode cX5_swap 11 = .ok (.ifCond .ne 13, 3) := by decide +kernel
theorem dX5_swap_14 : decode cX5_swap 14 = .ok (.aload_n 0, 1) := by decide +kernel
theorem dX5_swap_15 : decode cX5_swap 15 = .ok (.getfield 10, 3) := by decide +kernel
theorem dX5_swap_18 : decode cX5_swap 18 = .ok (.bipush (-2), 2) := by decide +kernel
theorem dX5_swap_20 : decode cX5_swap 20 = .ok (.invokevirtual 38, 3) := by decide +kernel
theorem dX5_swap_23 : decode cX5_swap 23 = .ok (.ireturn, 1) := by decide +kernel
theorem dX5_swap_24 : decode cX5_swap 24 = .ok (.aload_n 0, 1) := by decide +kernel
theorem dX5_swap_25 : decode cX5_swap 25 = .ok (.getfield 10, 3) := by decide +kernel
theorem dX5_swap_28 : decode cX5_swap 28 = .ok (.getfield 46, 3) := by decide +kernel
theorem dX5_swap_31 : decode cX5_swap 31 = .ok (.iload_n 1, 1) := by decide +kernel
theorem dX5_swap_32 : decode cX5_swap 32 = .ok (.invokevirtual 66, 3) := by decide +kernel
theorem dX5_swap_35 : decode cX5_swap 35 = .ok (.ifCond .ne 13, 3) := by decide +kernel
theorem dX5_swap_38 : decode cX5_swap 38 = .ok (.aload_n 0, 1) := by decide +kernel
theorem dX5_swap_39 : decode cX5_swap 39 = .ok (.getfield 10, 3) := by decide +kernel
theorem dX5_swap_42 : decode cX5_swap 42 = .ok (.bipush (-3), 2) := by decide +kernel
theorem dX5_swap_44 : decode cX5_swap 44 = .ok (.invokevirtual 38, 3) := by decide +kernel
theorem dX5_swap_47 : decode cX5_swap 47 = .ok (.ireturn, 1) := by decide +kernel
theorem dX5_swap_48 : decode cX5_swap 48 = .ok (.aload_n 0, 1) := by decide +kernel
theorem dX5_swap_49 : decode cX5_swap 49 = .ok (.getfield 10, 3) := by decide +kernel
theorem dX5_swap_52 : decode cX5_swap 52 = .ok (.getfield 46, 3) := by decide +kernel
theorem dX5_swap_55 : decode cX5_swap 55 = .ok (.iload_n 1, 1) := by decide +kernel
theorem dX5_swap_56 : decode cX5_swap 56 = .ok (.invokevirtual 69, 3) := by decide +kernel
theorem dX5_swap_59 : decode cX5_swap 59 = .ok (.istore_n 2, 1) := by decide +kernel
theorem dX5_swap_60 : decode cX5_swap 60 = .ok (.aload_n 0, 1) := by decide +kernel
theorem dX5_swap_61 : decode cX5_swap 61 = .ok (.getfield 10, 3) := by decide +kernel
theorem dX5_swap_64 : decode cX5_swap 64 = .ok (.iload_n 1, 1) := by decide +kernel
theorem dX5_swap_65 : decode cX5_swap 65 = .ok (.invokevirtual 72, 3) := by decide +kernel
theorem dX5_swap_68 : decode cX5_swap 68 = .ok (.sipush 1000, 3) := by decide +kernel
theorem dX5_swap_71 : decode cX5_swap 71 = .ok (.iload_n 2, 1) := by decide +kernel
theorem dX5_swap_72 : decode cX5_swap 72 = .ok (.iadd, 1) := by decide +kernel
theorem dX5_swap_73 : decode cX5_swap 73 = .ok (.ireturn, 1) := by decide +kernel
theorem dX5_vanish_0 : decode cX5_vanish 0 = .ok (.aload_n 0, 1) := by decide +kernel
theorem dX5_vanish_1 : decode cX5_vanish 1 = .ok (.getfield 10, 3) := by decide +kernel
theorem dX5_vanish_4 : decode cX5_vanish 4 = .ok (.getfield 46, 3) := by decide +kernel
theorem dX5_vanish_7 : decode cX5_vanish 7 = .ok (.iload_n 1, 1) := by decide +kernel
theorem dX5_vanish_8 : decode cX5_vanish 8 = .ok (.invokevirtual 50, 3) := by decide +kernel
theorem dX5_vanish_11 : decode cX5_vanish 11 = .ok (.ifCond .ne 13, 3) := by decide +kernel
theorem dX5_vanish_14 : decode cX5_vanish 14 = .ok (.aload_n 0, 1) := by decide +kernel
theorem dX5_vanish_15 : decode cX5_vanish 15 = .ok (.getfield 10, 3) := by decide +kernel
theorem dX5_vanish_18 : decode cX5_vanish 18 = .ok (.bipush (-2), 2) := by decide +kernel
theorem dX5_vanish_20 : decode cX5_vanish 20 = .ok (.invokevirtual 38, 3) := by decide +kernel
theorem dX5_vanish_23 : decode cX5_vanish 23 = .ok (.ireturn, 1) := by decide +kernel
theorem dX5_vanish_24 : decode cX5_vanish 24 = .ok (.aload_n 0, 1) := by decide +kernel
theorem dX5_vanish_25 : decode cX5_vanish 25 = .ok (.getfield 10, 3) := by decide +kernel
theorem dX5_vanish_28 : decode cX5_vanish 28 = .ok (.getfield 46, 3) := by decide +kernel
theorem dX5_vanish_31 : decode cX5_vanish 31 = .ok (.iload_n 1, 1) := by decide +kernel
theorem dX5_vanish_32 : decode cX5_vanish 32 = .ok (.invokevirtual 76, 3) := by decide +kernel
theorem dX5_vanish_35 : decode cX5_vanish 35 = .ok (.ifCond .ne 13, 3) := by decide +kernel
theorem dX5_vanish_38 : decode cX5_vanish 38 = .ok (.aload_n 0, 1) := by decide +kernel
theorem dX5_vanish_39 : decode cX5_vanish 39 = .ok (.getfield 10, 3) := by decide +kernel
theorem dX5_vanish_42 : decode cX5_vanish 42 = .ok (.bipush (-3), 2) := by decide +kernel
theorem dX5_vanish_44 : decode cX5_vanish 44 = .ok (.invokevirtual 38, 3) := by decide +kernel
theorem dX5_vanish_47 : decode cX5_vanish 47 = .ok (.ireturn, 1) := by decide +kernel
theorem dX5_vanish_48 : decode cX5_vanish 48 = .ok (.aload_n 0, 1) := by decide +kernel
theorem dX5_vanish_49 : decode cX5_vanish 49 = .ok (.getfield 10, 3) := by decide +kernel
theorem dX5_vanish_52 : decode cX5_vanish 52 = .ok (.iload_n 1, 1) := by decide +kernel
theorem dX5_vanish_53 : decode cX5_vanish 53 = .ok (.invokevirtual 79, 3) := by decide +kernel
theorem dX5_vanish_56 : decode cX5_vanish 56 = .ok (.ireturn, 1) := by decide +kernel
theorem dX5_cut_0 : decode cX5_cut 0 = .ok (.aload_n 0, 1) := by decide +kernel
theorem dX5_cut_1 : decode cX5_cut 1 = .ok (.getfield 10, 3) := by decide +kernel
theorem dX5_cut_4 : decode cX5_cut 4 = .ok (.getfield 46, 3) := by decide +kernel
theorem dX5_cut_7 : decode cX5_cut 7 = .ok (.iload_n 1, 1) := by decide +kernel
theorem dX5_cut_8 : decode cX5_cut 8 = .ok (.invokevirtual 50, 3) := by decide +kernel
theorem dX5_cut_11 : decode cX5_cut 11 = .ok (.ifCond .ne 13, 3) := by decide +kernel
theorem dX5_cut_14 : decode cX5_cut 14 = .ok (.aload_n 0, 1) := by decide +kernel
theorem dX5_cut_15 : decode cX5_cut 15 = .ok (.getfield 10, 3) := by decide +kernel
theorem dX5_cut_18 : decode cX5_cut 18 = .ok (.bipush (-2), 2) := by decide +kernel
theorem dX5_cut_20 : decode cX5_cut 20 = .ok (.invokevirtual 38, 3) := by decide +kernel
theorem dX5_cut_23 : decode cX5_cut 23 = .ok (.ireturn, 1) := by decide +kernel
theorem dX5_cut_24 : decode cX5_cut 24 = .ok (.aload_n 0, 1) := by decide +kernel
theorem dX5_cut_25 : decode cX5_cut 25 = .ok (.getfield 10, 3) := by decide +kernel
theorem dX5_cut_28 : decode cX5_cut 28 = .ok (.getfield 46, 3) := by decide +kernel
theorem dX5_cut_31 : decode cX5_cut 31 = .ok (.iload_n 1, 1) := by decide +kernel
theorem dX5_cut_32 : decode cX5_cut 32 = .ok (.iload_n 2, 1) := by decide +kernel
theorem dX5_cut_33 : decode cX5_cut 33 = .ok (.invokevirtual 82, 3) := by decide +kernel
theorem dX5_cut_36 : decode cX5_cut 36 = .ok (.istore 4, 2) := by decide +kernel
theorem dX5_cut_38 : decode cX5_cut 38 = .ok (.aload_n 0, 1) := by decide +kernel
theorem dX5_cut_39 : decode cX5_cut 39 = .ok (.getfield 10, 3) := by decide +kernel
theorem dX5_cut_42 : decode cX5_cut 42 = .ok (.getfield 46, 3) := by decide +kernel
theorem dX5_cut_45 : decode cX5_cut 45 = .ok (.iload_n 1, 1) := by decide +kernel
theorem dX5_cut_46 : decode cX5_cut 46 = .ok (.iload_n 3, 1) := by decide +kernel
theorem dX5_cut_47 : decode cX5_cut 47 = .ok (.invokevirtual 82, 3) := by decide +kernel
theorem dX5_cut_50 : decode cX5_cut 50 = .ok (.istore 5, 2) := by decide +kernel
theorem dX5_cut_52 : decode cX5_cut 52 = .ok (.iload 4, 2) := by decide +kernel
theorem dX5_cut_54 : decode cX5_cut 54 = .ok (.ifCond .lt 15, 3) := by decide +kernel
theorem dX5_cut_57 : decode cX5_cut 57 = .ok (.iload 5, 2) := by decide +kernel
theorem dX5_cut_59 : decode cX5_cut 59 = .ok (.ifCond .lt 10, 3) := by decide +kernel
theorem dX5_cut_62 : decode cX5_cut 62 = .ok (.iload 4, 2) := by decide +kernel
theorem dX5_cut_64 : decode cX5_cut 64 = .ok (.iload 5, 2) := by decide +kernel
theorem dX5_cut_66 : decode cX5_cut 66 = .ok (.if_icmp .ne 12, 3) := by decide +kernel
theorem dX5_cut_69 : decode cX5_cut 69 = .ok (.aload_n 0, 1) := by decide +kernel
theorem dX5_cut_70 : decode cX5_cut 70 = .ok (.getfield 10, 3) := by decide +kernel
theorem dX5_cut_73 : decode cX5_cut 73 = .ok (.iconst (-1), 1) := by decide +kernel
theorem dX5_cut_74 : decode cX5_cut 74 = .ok (.invokevirtual 38, 3) := by decide +kernel
theorem dX5_cut_77 : decode cX5_cut 77 = .ok (.ireturn, 1) := by decide +kernel
theorem dX5_cut_78 : decode cX5_cut 78 = .ok (.aload_n 0, 1) := by decide +kernel
theorem dX5_cut_79 : decode cX5_cut 79 = .ok (.getfield 10, 3) := by decide +kernel
theorem dX5_cut_82 : decode cX5_cut 82 = .ok (.iload_n 1, 1) := by decide +kernel
theorem dX5_cut_83 : decode cX5_cut 83 = .ok (.iload 4, 2) := by decide +kernel
theorem dX5_cut_85 : decode cX5_cut 85 = .ok (.iload 5, 2) := by decide +kernel
theorem dX5_cut_87 : decode cX5_cut 87 = .ok (.invokevirtual 86, 3) := by decide +kernel
theorem dX5_cut_90 : decode cX5_cut 90 = .ok (.istore 6, 2) := by decide +kernel
theorem dX5_cut_92 : decode cX5_cut 92 = .ok (.iload 6, 2) := by decide +kernel
theorem dX5_cut_94 : decode cX5_cut 94 = .ok (.ifCond .ge 15, 3) := by decide +kernel
theorem dX5_cut_97 : decode cX5_cut 97 = .ok (.aload_n 0, 1) := by decide +kernel
theorem dX5_cut_98 : decode cX5_cut 98 = .ok (.getfield 10, 3) := by decide +kernel
theorem dX5_cut_101 : decode cX5_cut 101 = .ok (.bipush (-4), 2) := by decide +kernel
theorem dX5_cut_103 : decode cX5_cut 103 = .ok (.invokevirtual 38, 3) := by decide +kernel
theorem dX5_cut_106 : decode cX5_cut 106 = .ok (.goto 5, 3) := by decide +kernel
theorem dX5_cut_109 : decode cX5_cut 109 = .ok (.iload 6, 2) := by decide +kernel
theorem dX5_cut_111 : decode cX5_cut 111 = .ok (.ireturn, 1) := by decide +kernel
theorem dX5_burst_0 : decode cX5_burst 0 = .ok (.aload_n 0, 1) := by decide +kernel
theorem dX5_burst_1 : decode cX5_burst 1 = .ok (.getfield 10, 3) := by decide +kernel
theorem dX5_burst_4 : decode cX5_burst 4 = .ok (.getfield 46, 3) := by decide +kernel
theorem dX5_burst_7 : decode cX5_burst 7 = .ok (.iload_n 1, 1) := by decide +kernel
theorem dX5_burst_8 : decode cX5_burst 8 = .ok (.invokevirtual 60, 3) := by decide +kernel
theorem dX5_burst_11 : decode cX5_burst 11 = .ok (.ifCond .ne 13, 3) := by decide +kernel
theorem dX5_burst_14 : decode cX5_burst 14 = .ok (.aload_n 0, 1) := by decide +kernel
theorem dX5_burst_15 : decode cX5_burst 15 = .ok (.getfield 10, 3) := by decide +kernel
theorem dX5_burst_18 : decode cX5_burst 18 = .ok (.bipush (-2), 2) := by decide +kernel
theorem dX5_burst_20 : decode cX5_burst 20 = .ok (.invokevirtual 38, 3) := by decide +kernel
theorem dX5_burst_23 : decode cX5_burst 23 = .ok (.ireturn, 1) := by decide +kernel
theorem dX5_burst_24 : decode cX5_burst 24 = .ok (.aload_n 0, 1) := by decide +kernel
theorem dX5_burst_25 : decode cX5_burst 25 = .ok (.getfield 10, 3) := by decide +kernel
theorem dX5_burst_28 : decode cX5_burst 28 = .ok (.getfield 46, 3) := by decide +kernel
theorem dX5_burst_31 : decode cX5_burst 31 = .ok (.iload_n 1, 1) := by decide +kernel
theorem dX5_burst_32 : decode cX5_burst 32 = .ok (.invokevirtual 90, 3) := by decide +kernel
theorem dX5_burst_35 : decode cX5_burst 35 = .ok (.ifCond .ne 13, 3) := by decide +kernel
theorem dX5_burst_38 : decode cX5_burst 38 = .ok (.aload_n 0, 1) := by decide +kernel
theorem dX5_burst_39 : decode cX5_burst 39 = .ok (.getfield 10, 3) := by decide +kernel
theorem dX5_burst_42 : decode cX5_burst 42 = .ok (.bipush (-3), 2) := by decide +kernel
theorem dX5_burst_44 : decode cX5_burst 44 = .ok (.invokevirtual 38, 3) := by decide +kernel
theorem dX5_burst_47 : decode cX5_burst 47 = .ok (.ireturn, 1) := by decide +kernel
theorem dX5_burst_48 : decode cX5_burst 48 = .ok (.aload_n 0, 1) := by decide +kernel
theorem dX5_burst_49 : decode cX5_burst 49 = .ok (.getfield 10, 3) := by decide +kernel
theorem dX5_burst_52 : decode cX5_burst 52 = .ok (.iload_n 1, 1) := by decide +kernel
theorem dX5_burst_53 : decode cX5_burst 53 = .ok (.invokevirtual 93, 3) := by decide +kernel
theorem dX5_burst_56 : decode cX5_burst 56 = .ok (.ireturn, 1) := by decide +kernel
theorem dX5_shake_0 : decode cX5_shake 0 = .ok (.iload_n 1, 1) := by decide +kernel
theorem dX5_shake_1 : decode cX5_shake 1 = .ok (.iload_n 2, 1) := by decide +kernel
theorem dX5_shake_2 : decode cX5_shake 2 = .ok (.iload_n 3, 1) := by decide +kernel
theorem dX5_shake_3 : decode cX5_shake 3 = .ok (.invokestatic 96, 3) := by decide +kernel
theorem dX5_shake_6 : decode cX5_shake 6 = .ok (.ifCond .ne 12, 3) := by decide +kernel
theorem dX5_shake_9 : decode cX5_shake 9 = .ok (.aload_n 0, 1) := by decide +kernel
theorem dX5_shake_10 : decode cX5_shake 10 = .ok (.getfield 10, 3) := by decide +kernel
theorem dX5_shake_13 : decode cX5_shake 13 = .ok (.iconst (-1), 1) := by decide +kernel
theorem dX5_shake_14 : decode cX5_shake 14 = .ok (.invokevirtual 38, 3) := by decide +kernel
theorem dX5_shake_17 : decode cX5_shake 17 = .ok (.ireturn, 1) := by decide +kernel
theorem dX5_shake_18 : decode cX5_shake 18 = .ok (.aload_n 0, 1) := by decide +kernel
theorem dX5_shake_19 : decode cX5_shake 19 = .ok (.getfield 10, 3) := by decide +kernel
theorem dX5_shake_22 : decode cX5_shake 22 = .ok (.iload_n 1, 1) := by decide +kernel
theorem dX5_shake_23 : decode cX5_shake 23 = .ok (.iload_n 2, 1) := by decide +kernel
theorem dX5_shake_24 : decode cX5_shake 24 = .ok (.iload_n 3, 1) := by decide +kernel
theorem dX5_shake_25 : decode cX5_shake 25 = .ok (.invokevirtual 100, 3) := by decide +kernel
theorem dX5_shake_28 : decode cX5_shake 28 = .ok (.ireturn, 1) := by decide +kernel
theorem dX5_steps_0 : decode cX5_steps 0 = .ok (.iload_n 1, 1) := by decide +kernel
theorem dX5_steps_1 : decode cX5_steps 1 = .ok (.iconst 1, 1) := by decide +kernel
theorem dX5_steps_2 : decode cX5_steps 2 = .ok (.if_icmp .lt 9, 3) := by decide +kernel
theorem dX5_steps_5 : decode cX5_steps 5 = .ok (.iload_n 1, 1) := by decide +kernel
theorem dX5_steps_6 : decode cX5_steps 6 = .ok (.bipush 50, 2) := by decide +kernel
theorem dX5_steps_8 : decode cX5_steps 8 = .ok (.if_icmp .le 12, 3) := by decide +kernel
theorem dX5_steps_11 : decode cX5_steps 11 = .ok (.aload_n 0, 1) := by decide +kernel
theorem dX5_steps_12 : decode cX5_steps 12 = .ok (.getfield 10, 3) := by decide +kernel
theorem dX5_steps_15 : decode cX5_steps 15 = .ok (.iconst (-1), 1) := by decide +kernel
theorem dX5_steps_16 : decode cX5_steps 16 = .ok (.invokevirtual 38, 3) := by decide +kernel
theorem dX5_steps_19 : decode cX5_steps 19 = .ok (.ireturn, 1) := by decide +kernel
theorem dX5_steps_20 : decode cX5_steps 20 = .ok (.aload_n 0, 1) := by decide +kernel
theorem dX5_steps_21 : decode cX5_steps 21 = .ok (.getfield 10, 3) := by decide +kernel
theorem dX5_steps_24 : decode cX5_steps 24 = .ok (.getfield 103, 3) := by decide +kernel
theorem dX5_steps_27 : decode cX5_steps 27 = .ok (.aload_n 0, 1) := by decide +kernel
theorem dX5_steps_28 : decode cX5_steps 28 = .ok (.getfield 10, 3) := by decide +kernel
theorem dX5_steps_31 : decode cX5_steps 31 = .ok (.getfield 106, 3) := by decide +kernel
theorem dX5_steps_34 : decode cX5_steps 34 = .ok (.iadd, 1) := by decide +kernel
theorem dX5_steps_35 : decode cX5_steps 35 = .ok (.istore_n 2, 1) := by decide +kernel
theorem dX5_steps_36 : decode cX5_steps 36 = .ok (.iconst 0, 1) := by decide +kernel
theorem dX5_steps_37 : decode cX5_steps 37 = .ok (.istore_n 3, 1) := by decide +kernel
theorem dX5_steps_38 : decode cX5_steps 38 = .ok (.iload_n 3, 1) := by decide +kernel
theorem dX5_steps_39 : decode cX5_steps 39 = .ok (.iload_n 1, 1) := by decide +kernel
theorem dX5_steps_40 : decode cX5_steps 40 = .ok (.if_icmp .ge 16, 3) := by decide +kernel
theorem dX5_steps_43 : decode cX5_steps 43 = .ok (.aload_n 0, 1) := by decide +kernel
theorem dX5_steps_44 : decode cX5_steps 44 = .ok (.getfield 10, 3) := by decide +kernel
theorem dX5_steps_47 : decode cX5_steps 47 = .ok (.invokevirtual 109, 3) := by decide +kernel
theorem dX5_steps_50 : decode cX5_steps 50 = .ok (.iinc 3 1, 3) := by decide +kernel
theorem dX5_steps_53 : decode cX5_steps 53 = .ok (.goto (-15), 3) := by decide +kernel
theorem dX5_steps_56 : decode cX5_steps 56 = .ok (.aload_n 0, 1) := by decide +kernel
theorem dX5_steps_57 : decode cX5_steps 57 = .ok (.getfield 10, 3) := by decide +kernel
theorem dX5_steps_60 : decode cX5_steps 60 = .ok (.getfield 103, 3) := by decide +kernel
theorem dX5_steps_63 : decode cX5_steps 63 = .ok (.aload_n 0, 1) := by decide +kernel
theorem dX5_steps_64 : decode cX5_steps 64 = .ok (.getfield 10, 3) := by decide +kernel
theorem dX5_steps_67 : decode cX5_steps 67 = .ok (.getfield 106, 3) := by decide +kernel
theorem dX5_steps_70 : decode cX5_steps 70 = .ok (.iadd, 1) := by decide +kernel
theorem dX5_steps_71 : decode cX5_steps 71 = .ok (.iload_n 2, 1) := by decide +kernel
theorem dX5_steps_72 : decode cX5_steps 72 = .ok (.isub, 1) := by decide +kernel
theorem dX5_steps_73 : decode cX5_steps 73 = .ok (.ireturn, 1) := by decide +kernel
theorem dX5_relax_0 : decode cX5_relax 0 = .ok (.aload_n 0, 1) := by decide +kernel
theorem dX5_relax_1 : decode cX5_relax 1 = .ok (.getfield 10, 3) := by decide +kernel
theorem dX5_relax_4 : decode cX5_relax 4 = .ok (.invokevirtual 112, 3) := by decide +kernel
theorem dX5_relax_7 : decode cX5_relax 7 = .ok (.ireturn, 1) := by decide +kernel
theorem dX5_keep_0 : decode cX5_keep 0 = .ok (.iload_n 1, 1) := by decide +kernel
theorem dX5_keep_1 : decode cX5_keep 1 = .ok (.ifCond .lt 8, 3) := by decide +kernel
theorem dX5_keep_4 : decode cX5_keep 4 = .ok (.iload_n 1, 1) := by decide +kernel
theorem dX5_keep_5 : decode cX5_keep 5 = .ok (.iconst 2, 1) := by decide +kernel
theorem dX5_keep_6 : decode cX5_keep 6 = .ok (.if_icmp .lt 5, 3) := by decide +kernel
theorem dX5_keep_9 : decode cX5_keep 9 = .ok (.iconst 0, 1) := by decide +kernel
theorem dX5_keep_10 : decode cX5_keep 10 = .ok (.ireturn, 1) := by decide +kernel
theorem dX5_keep_11 : decode cX5_keep 11 = .ok (.aload_n 0, 1) := by decide +kernel
theorem dX5_keep_12 : decode cX5_keep 12 = .ok (.getfield 30, 3) := by decide +kernel
theorem dX5_keep_15 : decode cX5_keep 15 = .ok (.iload_n 1, 1) := by decide +kernel
theorem dX5_keep_16 : decode cX5_keep 16 = .ok (.aaload, 1) := by decide +kernel
theorem dX5_keep_17 : decode cX5_keep 17 = .ok (.ifnonnull 16, 3) := by decide +kernel
theorem dX5_keep_20 : decode cX5_keep 20 = .ok (.aload_n 0, 1) := by decide +kernel
theorem dX5_keep_21 : decode cX5_keep 21 = .ok (.getfield 30, 3) := by decide +kernel
theorem dX5_keep_24 : decode cX5_keep 24 = .ok (.iload_n 1, 1) := by decide +kernel
theorem dX5_keep_25 : decode cX5_keep 25 = .ok (.new 7, 3) := by decide +kernel
theorem dX5_keep_28 : decode cX5_keep 28 = .ok (.dup, 1) := by decide +kernel
theorem dX5_keep_29 : decode cX5_keep 29 = .ok (.invokespecial 9, 3) := by decide +kernel
theorem dX5_keep_32 : decode cX5_keep 32 = .ok (.aastore, 1) := by decide +kernel
theorem dX5_keep_33 : decode cX5_keep 33 = .ok (.aload_n 0, 1) := by decide +kernel
theorem dX5_keep_34 : decode cX5_keep 34 = .ok (.getfield 30, 3) := by decide +kernel
theorem dX5_keep_37 : decode cX5_keep 37 = .ok (.iload_n 1, 1) := by decide +kernel
theorem dX5_keep_38 : decode cX5_keep 38 = .ok (.aaload, 1) := by decide +kernel
theorem dX5_keep_39 : decode cX5_keep 39 = .ok (.aload_n 0, 1) := by decide +kernel
theorem dX5_keep_40 : decode cX5_keep 40 = .ok (.getfield 10, 3) := by decide +kernel
theorem dX5_keep_43 : decode cX5_keep 43 = .ok (.invokevirtual 116, 3) := by decide +kernel
theorem dX5_keep_46 : decode cX5_keep 46 = .ok (.iconst 1, 1) := by decide +kernel
theorem dX5_keep_47 : decode cX5_keep 47 = .ok (.ireturn, 1) := by decide +kernel
theorem dX5_again_0 : decode cX5_again 0 = .ok (.iload_n 1, 1) := by decide +kernel
theorem dX5_again_1 : decode cX5_again 1 = .ok (.ifCond .lt 17, 3) := by decide +kernel
theorem dX5_again_4 : decode cX5_again 4 = .ok (.iload_n 1, 1) := by decide +kernel
theorem dX5_again_5 : decode cX5_again 5 = .ok (.iconst 2, 1) := by decide +kernel
theorem dX5_again_6 : decode cX5_again 6 = .ok (.if_icmp .ge 12, 3) := by decide +kernel
theorem dX5_again_9 : decode cX5_again 9 = .ok (.aload_n 0, 1) := by decide +kernel
theorem dX5_again_10 : decode cX5_again 10 = .ok (.getfield 30, 3) := by decide +kernel
theorem dX5_again_13 : decode cX5_again 13 = .ok (.iload_n 1, 1) := by decide +kernel
theorem dX5_again_14 : decode cX5_again 14 = .ok (.aaload, 1) := by decide +kernel
theorem dX5_again_15 : decode cX5_again 15 = .ok (.ifnonnull 5, 3) := by decide +kernel
theorem dX5_again_18 : decode cX5_again 18 = .ok (.iconst 0, 1) := by decide +kernel
theorem dX5_again_19 : decode cX5_again 19 = .ok (.ireturn, 1) := by decide +kernel
theorem dX5_again_20 : decode cX5_again 20 = .ok (.aload_n 0, 1) := by decide +kernel
theorem dX5_again_21 : decode cX5_again 21 = .ok (.getfield 10, 3) := by decide +kernel
theorem dX5_again_24 : decode cX5_again 24 = .ok (.aload_n 0, 1) := by decide +kernel
theorem dX5_again_25 : decode cX5_again 25 = .ok (.getfield 30, 3) := by decide +kernel
theorem dX5_again_28 : decode cX5_again 28 = .ok (.iload_n 1, 1) := by decide +kernel
theorem dX5_again_29 : decode cX5_again 29 = .ok (.aaload, 1) := by decide +kernel
theorem dX5_again_30 : decode cX5_again 30 = .ok (.invokevirtual 116, 3) := by decide +kernel
theorem dX5_again_33 : decode cX5_again 33 = .ok (.iconst 1, 1) := by decide +kernel
theorem dX5_again_34 : decode cX5_again 34 = .ok (.ireturn, 1) := by decide +kernel
theorem dX5_cell_0 : decode cX5_cell 0 = .ok (.aload_n 0, 1) := by decide +kernel
theorem dX5_cell_1 : decode cX5_cell 1 = .ok (.getfield 10, 3) := by decide +kernel
theorem dX5_cell_4 : decode cX5_cell 4 = .ok (.getfield 46, 3) := by decide +kernel
theorem dX5_cell_7 : decode cX5_cell 7 = .ok (.iload_n 1, 1) := by decide +kernel
theorem dX5_cell_8 : decode cX5_cell 8 = .ok (.invokevirtual 50, 3) := by decide +kernel
theorem dX5_cell_11 : decode cX5_cell 11 = .ok (.ifCond .ne 13, 3) := by decide +kernel
theorem dX5_cell_14 : decode cX5_cell 14 = .ok (.new 120, 3) := by decide +kernel
theorem dX5_cell_17 : decode cX5_cell 17 = .ok (.dup, 1) := by decide +kernel
theorem dX5_cell_18 : decode cX5_cell 18 = .ok (.ldc 122, 2) := by decide +kernel
theorem dX5_cell_20 : decode cX5_cell 20 = .ok (.invokespecial 124, 3) := by decide +kernel
theorem dX5_cell_23 : decode cX5_cell 23 = .ok (.athrow, 1) := by decide +kernel
theorem dX5_cell_24 : decode cX5_cell 24 = .ok (.iload_n 2, 1) := by decide +kernel
theorem dX5_cell_25 : decode cX5_cell 25 = .ok (.tableswitch 117 0 5 #[39, 52, 65, 81, 93, 105], 39) := by decide +kernel
theorem dX5_cell_64 : decode cX5_cell 64 = .ok (.aload_n 0, 1) := by decide +kernel
theorem dX5_cell_65 : decode cX5_cell 65 = .ok (.getfield 10, 3) := by decide +kernel
theorem dX5_cell_68 : decode cX5_cell 68 = .ok (.getfield 46, 3) := by decide +kernel
theorem dX5_cell_71 : decode cX5_cell 71 = .ok (.getfield 127, 3) := by decide +kernel
theorem dX5_cell_74 : decode cX5_cell 74 = .ok (.iload_n 1, 1) := by decide +kernel
theorem dX5_cell_75 : decode cX5_cell 75 = .ok (.iaload, 1) := by decide +kernel
theorem dX5_cell_76 : decode cX5_cell 76 = .ok (.ireturn, 1) := by decide +kernel
theorem dX5_cell_77 : decode cX5_cell 77 = .ok (.aload_n 0, 1) := by decide +kernel
theorem dX5_cell_78 : decode cX5_cell 78 = .ok (.getfield 10, 3) := by decide +kernel
theorem dX5_cell_81 : decode cX5_cell 81 = .ok (.getfield 46, 3) := by decide +kernel
theorem dX5_cell_84 : decode cX5_cell 84 = .ok (.getfield 56, 3) := by decide +kernel
theorem dX5_cell_87 : decode cX5_cell 87 = .ok (.iload_n 1, 1) := by decide +kernel
theorem dX5_cell_88 : decode cX5_cell 88 = .ok (.iaload, 1) := by decide +kernel
theorem dX5_cell_89 : decode cX5_cell 89 = .ok (.ireturn, 1) := by decide +kernel
theorem dX5_cell_90 : decode cX5_cell 90 = .ok (.bipush 6, 2) := by decide +kernel
theorem dX5_cell_92 : decode cX5_cell 92 = .ok (.aload_n 0, 1) := by decide +kernel
theorem dX5_cell_93 : decode cX5_cell 93 = .ok (.getfield 10, 3) := by decide +kernel
theorem dX5_cell_96 : decode cX5_cell 96 = .ok (.getfield 46, 3) := by decide +kernel
theorem dX5_cell_99 : decode cX5_cell 99 = .ok (.getfield 127, 3) := by decide +kernel
theorem dX5_cell_102 : decode cX5_cell 102 = .ok (.iload_n 1, 1) := by decide +kernel
theorem dX5_cell_103 : decode cX5_cell 103 = .ok (.iaload, 1) := by decide +kernel
theorem dX5_cell_104 : decode cX5_cell 104 = .ok (.isub, 1) := by decide +kernel
theorem dX5_cell_105 : decode cX5_cell 105 = .ok (.ireturn, 1) := by decide +kernel
theorem dX5_cell_106 : decode cX5_cell 106 = .ok (.aload_n 0, 1) := by decide +kernel
theorem dX5_cell_107 : decode cX5_cell 107 = .ok (.getfield 10, 3) := by decide +kernel
theorem dX5_cell_110 : decode cX5_cell 110 = .ok (.getfield 46, 3) := by decide +kernel
theorem dX5_cell_113 : decode cX5_cell 113 = .ok (.iload_n 1, 1) := by decide +kernel
theorem dX5_cell_114 : decode cX5_cell 114 = .ok (.invokevirtual 130, 3) := by decide +kernel
theorem dX5_cell_117 : decode cX5_cell 117 = .ok (.ireturn, 1) := by decide +kernel
theorem dX5_cell_118 : decode cX5_cell 118 = .ok (.aload_n 0, 1) := by decide +kernel
theorem dX5_cell_119 : decode cX5_cell 119 = .ok (.getfield 10, 3) := by decide +kernel
theorem dX5_cell_122 : decode cX5_cell 122 = .ok (.getfield 46, 3) := by decide +kernel
theorem dX5_cell_125 : decode cX5_cell 125 = .ok (.iload_n 1, 1) := by decide +kernel
theorem dX5_cell_126 : decode cX5_cell 126 = .ok (.invokevirtual 133, 3) := by decide +kernel
theorem dX5_cell_129 : decode cX5_cell 129 = .ok (.ireturn, 1) := by decide +kernel
theorem dX5_cell_130 : decode cX5_cell 130 = .ok (.aload_n 0, 1) := by decide +kernel
theorem dX5_cell_131 : decode cX5_cell 131 = .ok (.getfield 10, 3) := by decide +kernel
theorem dX5_cell_134 : decode cX5_cell 134 = .ok (.getfield 46, 3) := by decide +kernel
theorem dX5_cell_137 : decode cX5_cell 137 = .ok (.iload_n 1, 1) := by decide +kernel
theorem dX5_cell_138 : decode cX5_cell 138 = .ok (.invokevirtual 136, 3) := by decide +kernel
theorem dX5_cell_141 : decode cX5_cell 141 = .ok (.ireturn, 1) := by decide +kernel
theorem dX5_cell_142 : decode cX5_cell 142 = .ok (.ldc 141, 2) := by decide +kernel
theorem dX5_cell_144 : decode cX5_cell 144 = .ok (.ireturn, 1) := by decide +kernel
theorem dX5_side_0 : decode cX5_side 0 = .ok (.aload_n 0, 1) := by decide +kernel
theorem dX5_side_1 : decode cX5_side 1 = .ok (.getfield 10, 3) := by decide +kernel
theorem dX5_side_4 : decode cX5_side 4 = .ok (.getfield 46, 3) := by decide +kernel
theorem dX5_side_7 : decode cX5_side 7 = .ok (.iload_n 1, 1) := by decide +kernel
theorem dX5_side_8 : decode cX5_side 8 = .ok (.invokevirtual 50, 3) := by decide +kernel
theorem dX5_side_11 : decode cX5_side 11 = .ok (.ifCond .ne 13, 3) := by decide +kernel
theorem dX5_side_14 : decode cX5_side 14 = .ok (.new 120, 3) := by decide +kernel
theorem dX5_side_17 : decode cX5_side 17 = .ok (.dup, 1) := by decide +kernel
theorem dX5_side_18 : decode cX5_side 18 = .ok (.ldc 122, 2) := by decide +kernel
theorem dX5_side_20 : decode cX5_side 20 = .ok (.invokespecial 124, 3) := by decide +kernel
theorem dX5_side_23 : decode cX5_side 23 = .ok (.athrow, 1) := by decide +kernel
theorem dX5_side_24 : decode cX5_side 24 = .ok (.aload_n 0, 1) := by decide +kernel
theorem dX5_side_25 : decode cX5_side 25 = .ok (.getfield 10, 3) := by decide +kernel
theorem dX5_side_28 : decode cX5_side 28 = .ok (.getfield 46, 3) := by decide +kernel
theorem dX5_side_31 : decode cX5_side 31 = .ok (.iload_n 1, 1) := by decide +kernel
theorem dX5_side_32 : decode cX5_side 32 = .ok (.iload_n 2, 1) := by decide +kernel
theorem dX5_side_33 : decode cX5_side 33 = .ok (.invokevirtual 82, 3) := by decide +kernel
theorem dX5_side_36 : decode cX5_side 36 = .ok (.istore 4, 2) := by decide +kernel
theorem dX5_side_38 : decode cX5_side 38 = .ok (.iload 4, 2) := by decide +kernel
theorem dX5_side_40 : decode cX5_side 40 = .ok (.ifCond .ge 5, 3) := by decide +kernel
theorem dX5_side_43 : decode cX5_side 43 = .ok (.iconst (-1), 1) := by decide +kernel
theorem dX5_side_44 : decode cX5_side 44 = .ok (.ireturn, 1) := by decide +kernel
theorem dX5_side_45 : decode cX5_side 45 = .ok (.iload_n 3, 1) := by decide +kernel
theorem dX5_side_46 : decode cX5_side 46 = .ok (.tableswitch 57 0 2 #[26, 31, 44], 26) := by decide +kernel
theorem dX5_side_72 : decode cX5_side 72 = .ok (.iload 4, 2) := by decide +kernel
theorem dX5_side_74 : decode cX5_side 74 = .ok (.iconst 2, 1) := by decide +kernel
theorem dX5_side_75 : decode cX5_side 75 = .ok (.idiv, 1) := by decide +kernel
theorem dX5_side_76 : decode cX5_side 76 = .ok (.ireturn, 1) := by decide +kernel
theorem dX5_side_77 : decode cX5_side 77 = .ok (.aload_n 0, 1) := by decide +kernel
theorem dX5_side_78 : decode cX5_side 78 = .ok (.getfield 10, 3) := by decide +kernel
theorem dX5_side_81 : decode cX5_side 81 = .ok (.getfield 46, 3) := by decide +kernel
theorem dX5_side_84 : decode cX5_side 84 = .ok (.iload 4, 2) := by decide +kernel
theorem dX5_side_86 : decode cX5_side 86 = .ok (.invokevirtual 142, 3) := by decide +kernel
theorem dX5_side_89 : decode cX5_side 89 = .ok (.ireturn, 1) := by decide +kernel
theorem dX5_side_90 : decode cX5_side 90 = .ok (.aload_n 0, 1) := by decide +kernel
theorem dX5_side_91 : decode cX5_side 91 = .ok (.getfield 10, 3) := by decide +kernel
theorem dX5_side_94 : decode cX5_side 94 = .ok (.getfield 46, 3) := by decide +kernel
theorem dX5_side_97 : decode cX5_side 97 = .ok (.iload 4, 2) := by decide +kernel
theorem dX5_side_99 : decode cX5_side 99 = .ok (.invokevirtual 145, 3) := by decide +kernel
theorem dX5_side_102 : decode cX5_side 102 = .ok (.ireturn, 1) := by decide +kernel
theorem dX5_side_103 : decode cX5_side 103 = .ok (.iconst (-1), 1) := by decide +kernel
theorem dX5_side_104 : decode cX5_side 104 = .ok (.ireturn, 1) := by decide +kernel
theorem dX5_wall_0 : decode cX5_wall 0 = .ok (.aload_n 0, 1) := by decide +kernel
theorem dX5_wall_1 : decode cX5_wall 1 = .ok (.getfield 10, 3) := by decide +kernel
theorem dX5_wall_4 : decode cX5_wall 4 = .ok (.getfield 46, 3) := by decide +kernel
theorem dX5_wall_7 : decode cX5_wall 7 = .ok (.iload_n 1, 1) := by decide +kernel
theorem dX5_wall_8 : decode cX5_wall 8 = .ok (.invokevirtual 60, 3) := by decide +kernel
theorem dX5_wall_11 : decode cX5_wall 11 = .ok (.ifCond .ne 5, 3) := by decide +kernel
theorem dX5_wall_14 : decode cX5_wall 14 = .ok (.iconst (-1), 1) := by decide +kernel
theorem dX5_wall_15 : decode cX5_wall 15 = .ok (.ireturn, 1) := by decide +kernel
theorem dX5_wall_16 : decode cX5_wall 16 = .ok (.aload_n 0, 1) := by decide +kernel
theorem dX5_wall_17 : decode cX5_wall 17 = .ok (.getfield 10, 3) := by decide +kernel
theorem dX5_wall_20 : decode cX5_wall 20 = .ok (.getfield 46, 3) := by decide +kernel
theorem dX5_wall_23 : decode cX5_wall 23 = .ok (.astore_n 3, 1) := by decide +kernel
theorem dX5_wall_24 : decode cX5_wall 24 = .ok (.aload_n 3, 1) := by decide +kernel
theorem dX5_wall_25 : decode cX5_wall 25 = .ok (.getfield 148, 3) := by decide +kernel
theorem dX5_wall_28 : decode cX5_wall 28 = .ok (.iconst 2, 1) := by decide +kernel
theorem dX5_wall_29 : decode cX5_wall 29 = .ok (.iload_n 1, 1) := by decide +kernel
theorem dX5_wall_30 : decode cX5_wall 30 = .ok (.imul, 1) := by decide +kernel
theorem dX5_wall_31 : decode cX5_wall 31 = .ok (.iaload, 1) := by decide +kernel
theorem dX5_wall_32 : decode cX5_wall 32 = .ok (.istore 4, 2) := by decide +kernel
theorem dX5_wall_34 : decode cX5_wall 34 = .ok (.aload_n 3, 1) := by decide +kernel
theorem dX5_wall_35 : decode cX5_wall 35 = .ok (.getfield 148, 3) := by decide +kernel
theorem dX5_wall_38 : decode cX5_wall 38 = .ok (.iconst 2, 1) := by decide +kernel
theorem dX5_wall_39 : decode cX5_wall 39 = .ok (.iload_n 1, 1) := by decide +kernel
theorem dX5_wall_40 : decode cX5_wall 40 = .ok (.imul, 1) := by decide +kernel
theorem dX5_wall_41 : decode cX5_wall 41 = .ok (.iconst 1, 1) := by decide +kernel
theorem dX5_wall_42 : decode cX5_wall 42 = .ok (.iadd, 1) := by decide +kernel
theorem dX5_wall_43 : decode cX5_wall 43 = .ok (.iaload, 1) := by decide +kernel
theorem dX5_wall_44 : decode cX5_wall 44 = .ok (.istore 5, 2) := by decide +kernel
theorem dX5_wall_46 : decode cX5_wall 46 = .ok (.aload_n 3, 1) := by decide +kernel
theorem dX5_wall_47 : decode cX5_wall 47 = .ok (.iconst 2, 1) := by decide +kernel
theorem dX5_wall_48 : decode cX5_wall 48 = .ok (.iload_n 1, 1) := by decide +kernel
theorem dX5_wall_49 : decode cX5_wall 49 = .ok (.imul, 1) := by decide +kernel
theorem dX5_wall_50 : decode cX5_wall 50 = .ok (.invokevirtual 145, 3) := by decide +kernel
theorem dX5_wall_53 : decode cX5_wall 53 = .ok (.istore 6, 2) := by decide +kernel
theorem dX5_wall_55 : decode cX5_wall 55 = .ok (.aload_n 3, 1) := by decide +kernel
theorem dX5_wall_56 : decode cX5_wall 56 = .ok (.iconst 2, 1) := by decide +kernel
theorem dX5_wall_57 : decode cX5_wall 57 = .ok (.iload_n 1, 1) := by decide +kernel
theorem dX5_wall_58 : decode cX5_wall 58 = .ok (.imul, 1) := by decide +kernel
theorem dX5_wall_59 : decode cX5_wall 59 = .ok (.iconst 1, 1) := by decide +kernel
theorem dX5_wall_60 : decode cX5_wall 60 = .ok (.iadd, 1) := by decide +kernel
theorem dX5_wall_61 : decode cX5_wall 61 = .ok (.invokevirtual 145, 3) := by decide +kernel
theorem dX5_wall_64 : decode cX5_wall 64 = .ok (.istore 7, 2) := by decide +kernel
theorem dX5_wall_66 : decode cX5_wall 66 = .ok (.iload_n 2, 1) := by decide +kernel
theorem dX5_wall_67 : decode cX5_wall 67 = .ok (.tableswitch 116 0 6 #[41, 49, 57, 65, 73, 80, 94], 41) := by decide +kernel
theorem dX5_wall_108 : decode cX5_wall 108 = .ok (.iload 4, 2) := by decide +kernel
theorem dX5_wall_110 : decode cX5_wall 110 = .ok (.iload 5, 2) := by decide +kernel
theorem dX5_wall_112 : decode cX5_wall 112 = .ok (.invokestatic 151, 3) := by decide +kernel
theorem dX5_wall_115 : decode cX5_wall 115 = .ok (.ireturn, 1) := by decide +kernel
theorem dX5_wall_116 : decode cX5_wall 116 = .ok (.iload 4, 2) := by decide +kernel
theorem dX5_wall_118 : decode cX5_wall 118 = .ok (.iload 5, 2) := by decide +kernel
theorem dX5_wall_120 : decode cX5_wall 120 = .ok (.invokestatic 156, 3) := by decide +kernel
theorem dX5_wall_123 : decode cX5_wall 123 = .ok (.ireturn, 1) := by decide +kernel
theorem dX5_wall_124 : decode cX5_wall 124 = .ok (.iload 6, 2) := by decide +kernel
theorem dX5_wall_126 : decode cX5_wall 126 = .ok (.iload 7, 2) := by decide +kernel
theorem dX5_wall_128 : decode cX5_wall 128 = .ok (.invokestatic 151, 3) := by decide +kernel
theorem dX5_wall_131 : decode cX5_wall 131 = .ok (.ireturn, 1) := by decide +kernel
theorem dX5_wall_132 : decode cX5_wall 132 = .ok (.iload 6, 2) := by decide +kernel
theorem dX5_wall_134 : decode cX5_wall 134 = .ok (.iload 7, 2) := by decide +kernel
theorem dX5_wall_136 : decode cX5_wall 136 = .ok (.invokestatic 156, 3) := by decide +kernel
theorem dX5_wall_139 : decode cX5_wall 139 = .ok (.ireturn, 1) := by decide +kernel
theorem dX5_wall_140 : decode cX5_wall 140 = .ok (.aload_n 3, 1) := by decide +kernel
theorem dX5_wall_141 : decode cX5_wall 141 = .ok (.getfield 63, 3) := by decide +kernel
theorem dX5_wall_144 : decode cX5_wall 144 = .ok (.iload_n 1, 1) := by decide +kernel
theorem dX5_wall_145 : decode cX5_wall 145 = .ok (.iaload, 1) := by decide +kernel
theorem dX5_wall_146 : decode cX5_wall 146 = .ok (.ireturn, 1) := by decide +kernel
theorem dX5_wall_147 : decode cX5_wall 147 = .ok (.aload_n 3, 1) := by decide +kernel
theorem dX5_wall_148 : decode cX5_wall 148 = .ok (.iload_n 1, 1) := by decide +kernel
theorem dX5_wall_149 : decode cX5_wall 149 = .ok (.invokevirtual 66, 3) := by decide +kernel
theorem dX5_wall_152 : decode cX5_wall 152 = .ok (.ifCond .eq 7, 3) := by decide +kernel
theorem dX5_wall_155 : decode cX5_wall 155 = .ok (.iconst 1, 1) := by decide +kernel
theorem dX5_wall_156 : decode cX5_wall 156 = .ok (.goto 4, 3) := by decide +kernel
theorem dX5_wall_159 : decode cX5_wall 159 = .ok (.iconst 0, 1) := by decide +kernel
theorem dX5_wall_160 : decode cX5_wall 160 = .ok (.ireturn, 1) := by decide +kernel
theorem dX5_wall_161 : decode cX5_wall 161 = .ok (.aload_n 3, 1) := by decide +kernel
theorem dX5_wall_162 : decode cX5_wall 162 = .ok (.iload_n 1, 1) := by decide +kernel
theorem dX5_wall_163 : decode cX5_wall 163 = .ok (.invokevirtual 66, 3) := by decide +kernel
theorem dX5_wall_166 : decode cX5_wall 166 = .ok (.ifCond .eq 15, 3) := by decide +kernel
theorem dX5_wall_169 : decode cX5_wall 169 = .ok (.sipush 1000, 3) := by decide +kernel
theorem dX5_wall_172 : decode cX5_wall 172 = .ok (.aload_n 3, 1) := by decide +kernel
theorem dX5_wall_173 : decode cX5_wall 173 = .ok (.iload_n 1, 1) := by decide +kernel
theorem dX5_wall_174 : decode cX5_wall 174 = .ok (.invokevirtual 69, 3) := by decide +kernel
theorem dX5_wall_177 : decode cX5_wall 177 = .ok (.iadd, 1) := by decide +kernel
theorem dX5_wall_178 : decode cX5_wall 178 = .ok (.goto 4, 3) := by decide +kernel
theorem dX5_wall_181 : decode cX5_wall 181 = .ok (.iconst (-1), 1) := by decide +kernel
theorem dX5_wall_182 : decode cX5_wall 182 = .ok (.ireturn, 1) := by decide +kernel
theorem dX5_wall_183 : decode cX5_wall 183 = .ok (.iconst (-1), 1) := by decide +kernel
theorem dX5_wall_184 : decode cX5_wall 184 = .ok (.ireturn, 1) := by decide +kernel
theorem dX5_between_0 : decode cX5_between 0 = .ok (.aload_n 0, 1) := by decide +kernel
theorem dX5_between_1 : decode cX5_between 1 = .ok (.iload_n 1, 1) := by decide +kernel
theorem dX5_between_2 : decode cX5_between 2 = .ok (.iload_n 2, 1) := by decide +kernel
theorem dX5_between_3 : decode cX5_between 3 = .ok (.invokevirtual 159, 3) := by decide +kernel
theorem dX5_between_6 : decode cX5_between 6 = .ok (.ifCond .ne 5, 3) := by decide +kernel
theorem dX5_between_9 : decode cX5_between 9 = .ok (.iconst (-1), 1) := by decide +kernel
theorem dX5_between_10 : decode cX5_between 10 = .ok (.ireturn, 1) := by decide +kernel
theorem dX5_between_11 : decode cX5_between 11 = .ok (.iload_n 3, 1) := by decide +kernel
theorem dX5_between_12 : decode cX5_between 12 = .ok (.lookupswitch 54 #[(0, 28), (1, 41)], 28) := by decide +kernel
theorem dX5_between_40 : decode cX5_between 40 = .ok (.aload_n 0, 1) := by decide +kernel
theorem dX5_between_41 : decode cX5_between 41 = .ok (.getfield 10, 3) := by decide +kernel
theorem dX5_between_44 : decode cX5_between 44 = .ok (.getfield 46, 3) := by decide +kernel
theorem dX5_between_47 : decode cX5_between 47 = .ok (.iload_n 1, 1) := by decide +kernel
theorem dX5_between_48 : decode cX5_between 48 = .ok (.iload_n 2, 1) := by decide +kernel
theorem dX5_between_49 : decode cX5_between 49 = .ok (.invokevirtual 163, 3) := by decide +kernel
theorem dX5_between_52 : decode cX5_between 52 = .ok (.ireturn, 1) := by decide +kernel
theorem dX5_between_53 : decode cX5_between 53 = .ok (.aload_n 0, 1) := by decide +kernel
theorem dX5_between_54 : decode cX5_between 54 = .ok (.getfield 10, 3) := by decide +kernel
theorem dX5_between_57 : decode cX5_between 57 = .ok (.getfield 46, 3) := by decide +kernel
theorem dX5_between_60 : decode cX5_between 60 = .ok (.iload_n 1, 1) := by decide +kernel
theorem dX5_between_61 : decode cX5_between 61 = .ok (.iload_n 2, 1) := by decide +kernel
theorem dX5_between_62 : decode cX5_between 62 = .ok (.invokevirtual 166, 3) := by decide +kernel
theorem dX5_between_65 : decode cX5_between 65 = .ok (.ireturn, 1) := by decide +kernel
theorem dX5_between_66 : decode cX5_between 66 = .ok (.iconst (-1), 1) := by decide +kernel
theorem dX5_between_67 : decode cX5_between 67 = .ok (.ireturn, 1) := by decide +kernel
theorem dX5_far_0 : decode cX5_far 0 = .ok (.aload_n 0, 1) := by decide +kernel
theorem dX5_far_1 : decode cX5_far 1 = .ok (.getfield 10, 3) := by decide +kernel
theorem dX5_far_4 : decode cX5_far 4 = .ok (.getfield 46, 3) := by decide +kernel
theorem dX5_far_7 : decode cX5_far 7 = .ok (.iload_n 1, 1) := by decide +kernel
theorem dX5_far_8 : decode cX5_far 8 = .ok (.invokevirtual 50, 3) := by decide +kernel
theorem dX5_far_11 : decode cX5_far 11 = .ok (.ifCond .eq 17, 3) := by decide +kernel
theorem dX5_far_14 : decode cX5_far 14 = .ok (.aload_n 0, 1) := by decide +kernel
theorem dX5_far_15 : decode cX5_far 15 = .ok (.getfield 10, 3) := by decide +kernel
theorem dX5_far_18 : decode cX5_far 18 = .ok (.getfield 46, 3) := by decide +kernel
theorem dX5_far_21 : decode cX5_far 21 = .ok (.iload_n 2, 1) := by decide +kernel
theorem dX5_far_22 : decode cX5_far 22 = .ok (.invokevirtual 50, 3) := by decide +kernel
theorem dX5_far_25 : decode cX5_far 25 = .ok (.ifCond .ne 5, 3) := by decide +kernel
theorem dX5_far_28 : decode cX5_far 28 = .ok (.iconst (-1), 1) := by decide +kernel
theorem dX5_far_29 : decode cX5_far 29 = .ok (.ireturn, 1) := by decide +kernel
theorem dX5_far_30 : decode cX5_far 30 = .ok (.aload_n 0, 1) := by decide +kernel
theorem dX5_far_31 : decode cX5_far 31 = .ok (.getfield 26, 3) := by decide +kernel
theorem dX5_far_34 : decode cX5_far 34 = .ok (.aload_n 0, 1) := by decide +kernel
theorem dX5_far_35 : decode cX5_far 35 = .ok (.getfield 10, 3) := by decide +kernel
theorem dX5_far_38 : decode cX5_far 38 = .ok (.getfield 46, 3) := by decide +kernel
theorem dX5_far_41 : decode cX5_far 41 = .ok (.iload_n 1, 1) := by decide +kernel
theorem dX5_far_42 : decode cX5_far 42 = .ok (.invokevirtual 169, 3) := by decide +kernel
theorem dX5_far_45 : decode cX5_far 45 = .ok (.aload_n 0, 1) := by decide +kernel
theorem dX5_far_46 : decode cX5_far 46 = .ok (.getfield 26, 3) := by decide +kernel
theorem dX5_far_49 : decode cX5_far 49 = .ok (.getfield 173, 3) := by decide +kernel
theorem dX5_far_52 : decode cX5_far 52 = .ok (.iload_n 2, 1) := by decide +kernel
theorem dX5_far_53 : decode cX5_far 53 = .ok (.iaload, 1) := by decide +kernel
theorem dX5_far_54 : decode cX5_far 54 = .ok (.ireturn, 1) := by decide +kernel
theorem dX5_shell_0 : decode cX5_shell 0 = .ok (.aload_n 0, 1) := by decide +kernel
theorem dX5_shell_1 : decode cX5_shell 1 = .ok (.getfield 10, 3) := by decide +kernel
theorem dX5_shell_4 : decode cX5_shell 4 = .ok (.getfield 46, 3) := by decide +kernel
theorem dX5_shell_7 : decode cX5_shell 7 = .ok (.iload_n 1, 1) := by decide +kernel
theorem dX5_shell_8 : decode cX5_shell 8 = .ok (.invokevirtual 50, 3) := by decide +kernel
theorem dX5_shell_11 : decode cX5_shell 11 = .ok (.ifCond .eq 7, 3) := by decide +kernel
theorem dX5_shell_14 : decode cX5_shell 14 = .ok (.iload_n 2, 1) := by decide +kernel
theorem dX5_shell_15 : decode cX5_shell 15 = .ok (.ifCond .ge 5, 3) := by decide +kernel
theorem dX5_shell_18 : decode cX5_shell 18 = .ok (.iconst (-1), 1) := by decide +kernel
theorem dX5_shell_19 : decode cX5_shell 19 = .ok (.ireturn, 1) := by decide +kernel
theorem dX5_shell_20 : decode cX5_shell 20 = .ok (.aload_n 0, 1) := by decide +kernel
theorem dX5_shell_21 : decode cX5_shell 21 = .ok (.getfield 26, 3) := by decide +kernel
theorem dX5_shell_24 : decode cX5_shell 24 = .ok (.aload_n 0, 1) := by decide +kernel
theorem dX5_shell_25 : decode cX5_shell 25 = .ok (.getfield 10, 3) := by decide +kernel
theorem dX5_shell_28 : decode cX5_shell 28 = .ok (.getfield 46, 3) := by decide +kernel
theorem dX5_shell_31 : decode cX5_shell 31 = .ok (.iload_n 1, 1) := by decide +kernel
theorem dX5_shell_32 : decode cX5_shell 32 = .ok (.invokevirtual 169, 3) := by decide +kernel
theorem dX5_shell_35 : decode cX5_shell 35 = .ok (.aload_n 0, 1) := by decide +kernel
theorem dX5_shell_36 : decode cX5_shell 36 = .ok (.getfield 26, 3) := by decide +kernel
theorem dX5_shell_39 : decode cX5_shell 39 = .ok (.iload_n 2, 1) := by decide +kernel
theorem dX5_shell_40 : decode cX5_shell 40 = .ok (.invokevirtual 176, 3) := by decide +kernel
theorem dX5_shell_43 : decode cX5_shell 43 = .ok (.ireturn, 1) := by decide +kernel
theorem dX5_shellOf_0 : decode cX5_shellOf 0 = .ok (.aload_n 0, 1) := by decide +kernel
theorem dX5_shellOf_1 : decode cX5_shellOf 1 = .ok (.getfield 10, 3) := by decide +kernel
theorem dX5_shellOf_4 : decode cX5_shellOf 4 = .ok (.getfield 46, 3) := by decide +kernel
theorem dX5_shellOf_7 : decode cX5_shellOf 7 = .ok (.iload_n 1, 1) := by decide +kernel
theorem dX5_shellOf_8 : decode cX5_shellOf 8 = .ok (.invokevirtual 50, 3) := by decide +kernel
theorem dX5_shellOf_11 : decode cX5_shellOf 11 = .ok (.ifCond .eq 11, 3) := by decide +kernel
theorem dX5_shellOf_14 : decode cX5_shellOf 14 = .ok (.iload_n 2, 1) := by decide +kernel
theorem dX5_shellOf_15 : decode cX5_shellOf 15 = .ok (.ifCond .lt 7, 3) := by decide +kernel
theorem dX5_shellOf_18 : decode cX5_shellOf 18 = .ok (.iload_n 3, 1) := by decide +kernel
theorem dX5_shellOf_19 : decode cX5_shellOf 19 = .ok (.ifCond .ge 5, 3) := by decide +kernel
theorem dX5_shellOf_22 : decode cX5_shellOf 22 = .ok (.iconst (-1), 1) := by decide +kernel
theorem dX5_shellOf_23 : decode cX5_shellOf 23 = .ok (.ireturn, 1) := by decide +kernel
theorem dX5_shellOf_24 : decode cX5_shellOf 24 = .ok (.aload_n 0, 1) := by decide +kernel
theorem dX5_shellOf_25 : decode cX5_shellOf 25 = .ok (.getfield 26, 3) := by decide +kernel
theorem dX5_shellOf_28 : decode cX5_shellOf 28 = .ok (.aload_n 0, 1) := by decide +kernel
theorem dX5_shellOf_29 : decode cX5_shellOf 29 = .ok (.getfield 10, 3) := by decide +kernel
theorem dX5_shellOf_32 : decode cX5_shellOf 32 = .ok (.getfield 46, 3) := by decide +kernel
theorem dX5_shellOf_35 : decode cX5_shellOf 35 = .ok (.iload_n 1, 1) := by decide +kernel
theorem dX5_shellOf_36 : decode cX5_shellOf 36 = .ok (.invokevirtual 169, 3) := by decide +kernel
theorem dX5_shellOf_39 : decode cX5_shellOf 39 = .ok (.aload_n 0, 1) := by decide +kernel
theorem dX5_shellOf_40 : decode cX5_shellOf 40 = .ok (.getfield 26, 3) := by decide +kernel
theorem dX5_shellOf_43 : decode cX5_shellOf 43 = .ok (.iload_n 2, 1) := by decide +kernel
theorem dX5_shellOf_44 : decode cX5_shellOf 44 = .ok (.iload_n 3, 1) := by decide +kernel
theorem dX5_shellOf_45 : decode cX5_shellOf 45 = .ok (.invokevirtual 179, 3) := by decide +kernel
theorem dX5_shellOf_48 : decode cX5_shellOf 48 = .ok (.ireturn, 1) := by decide +kernel
theorem dX5_way_0 : decode cX5_way 0 = .ok (.aload_n 0, 1) := by decide +kernel
theorem dX5_way_1 : decode cX5_way 1 = .ok (.getfield 10, 3) := by decide +kernel
theorem dX5_way_4 : decode cX5_way 4 = .ok (.getfield 46, 3) := by decide +kernel
theorem dX5_way_7 : decode cX5_way 7 = .ok (.iload_n 1, 1) := by decide +kernel
theorem dX5_way_8 : decode cX5_way 8 = .ok (.invokevirtual 50, 3) := by decide +kernel
theorem dX5_way_11 : decode cX5_way 11 = .ok (.ifCond .eq 21, 3) := by decide +kernel
theorem dX5_way_14 : decode cX5_way 14 = .ok (.aload_n 0, 1) := by decide +kernel
theorem dX5_way_15 : decode cX5_way 15 = .ok (.getfield 10, 3) := by decide +kernel
theorem dX5_way_18 : decode cX5_way 18 = .ok (.getfield 46, 3) := by decide +kernel
theorem dX5_way_21 : decode cX5_way 21 = .ok (.iload_n 2, 1) := by decide +kernel
theorem dX5_way_22 : decode cX5_way 22 = .ok (.invokevirtual 50, 3) := by decide +kernel
theorem dX5_way_25 : decode cX5_way 25 = .ok (.ifCond .eq 7, 3) := by decide +kernel
theorem dX5_way_28 : decode cX5_way 28 = .ok (.iload_n 3, 1) := by decide +kernel
theorem dX5_way_29 : decode cX5_way 29 = .ok (.ifCond .ge 5, 3) := by decide +kernel
theorem dX5_way_32 : decode cX5_way 32 = .ok (.iconst (-1), 1) := by decide +kernel
theorem dX5_way_33 : decode cX5_way 33 = .ok (.ireturn, 1) := by decide +kernel
theorem dX5_way_34 : decode cX5_way 34 = .ok (.aload_n 0, 1) := by decide +kernel
theorem dX5_way_35 : decode cX5_way 35 = .ok (.getfield 26, 3) := by decide +kernel
theorem dX5_way_38 : decode cX5_way 38 = .ok (.aload_n 0, 1) := by decide +kernel
theorem dX5_way_39 : decode cX5_way 39 = .ok (.getfield 10, 3) := by decide +kernel
theorem dX5_way_42 : decode cX5_way 42 = .ok (.getfield 46, 3) := by decide +kernel
theorem dX5_way_45 : decode cX5_way 45 = .ok (.iload_n 2, 1) := by decide +kernel
theorem dX5_way_46 : decode cX5_way 46 = .ok (.invokevirtual 169, 3) := by decide +kernel
theorem dX5_way_49 : decode cX5_way 49 = .ok (.aload_n 0, 1) := by decide +kernel
theorem dX5_way_50 : decode cX5_way 50 = .ok (.getfield 26, 3) := by decide +kernel
theorem dX5_way_53 : decode cX5_way 53 = .ok (.aload_n 0, 1) := by decide +kernel
theorem dX5_way_54 : decode cX5_way 54 = .ok (.getfield 10, 3) := by decide +kernel
theorem dX5_way_57 : decode cX5_way 57 = .ok (.getfield 46, 3) := by decide +kernel
theorem dX5_way_60 : decode cX5_way 60 = .ok (.iload_n 1, 1) := by decide +kernel
theorem dX5_way_61 : decode cX5_way 61 = .ok (.iload_n 3, 1) := by decide +kernel
theorem dX5_way_62 : decode cX5_way 62 = .ok (.invokevirtual 182, 3) := by decide +kernel
theorem dX5_way_65 : decode cX5_way 65 = .ok (.ireturn, 1) := by decide +kernel
theorem dX5_mutual_0 : decode cX5_mutual 0 = .ok (.aload_n 0, 1) := by decide +kernel
theorem dX5_mutual_1 : decode cX5_mutual 1 = .ok (.iload_n 1, 1) := by decide +kernel
theorem dX5_mutual_2 : decode cX5_mutual 2 = .ok (.iload_n 2, 1) := by decide +kernel
theorem dX5_mutual_3 : decode cX5_mutual 3 = .ok (.invokevirtual 159, 3) := by decide +kernel
theorem dX5_mutual_6 : decode cX5_mutual 6 = .ok (.ifCond .ne 5, 3) := by decide +kernel
theorem dX5_mutual_9 : decode cX5_mutual 9 = .ok (.iconst (-1), 1) := by decide +kernel
theorem dX5_mutual_10 : decode cX5_mutual 10 = .ok (.ireturn, 1) := by decide +kernel
theorem dX5_mutual_11 : decode cX5_mutual 11 = .ok (.iconst 0, 1) := by decide +kernel
theorem dX5_mutual_12 : decode cX5_mutual 12 = .ok (.istore_n 3, 1) := by decide +kernel
theorem dX5_mutual_13 : decode cX5_mutual 13 = .ok (.iconst 0, 1) := by decide +kernel
theorem dX5_mutual_14 : decode cX5_mutual 14 = .ok (.istore 4, 2) := by decide +kernel
theorem dX5_mutual_16 : decode cX5_mutual 16 = .ok (.iload 4, 2) := by decide +kernel
theorem dX5_mutual_18 : decode cX5_mutual 18 = .ok (.bipush 48, 2) := by decide +kernel
theorem dX5_mutual_20 : decode cX5_mutual 20 = .ok (.if_icmp .ge 44, 3) := by decide +kernel
theorem dX5_mutual_23 : decode cX5_mutual 23 = .ok (.aload_n 0, 1) := by decide +kernel
theorem dX5_mutual_24 : decode cX5_mutual 24 = .ok (.getfield 10, 3) := by decide +kernel
theorem dX5_mutual_27 : decode cX5_mutual 27 = .ok (.getfield 46, 3) := by decide +kernel
theorem dX5_mutual_30 : decode cX5_mutual 30 = .ok (.iload 4, 2) := by decide +kernel
theorem dX5_mutual_32 : decode cX5_mutual 32 = .ok (.iload_n 1, 1) := by decide +kernel
theorem dX5_mutual_33 : decode cX5_mutual 33 = .ok (.invokevirtual 163, 3) := by decide +kernel
theorem dX5_mutual_36 : decode cX5_mutual 36 = .ok (.ifCond .le 22, 3) := by decide +kernel
theorem dX5_mutual_39 : decode cX5_mutual 39 = .ok (.aload_n 0, 1) := by decide +kernel
theorem dX5_mutual_40 : decode cX5_mutual 40 = .ok (.getfield 10, 3) := by decide +kernel
theorem dX5_mutual_43 : decode cX5_mutual 43 = .ok (.getfield 46, 3) := by decide +kernel
theorem dX5_mutual_46 : decode cX5_mutual 46 = .ok (.iload 4, 2) := by decide +kernel
theorem dX5_mutual_48 : decode cX5_mutual 48 = .ok (.iload_n 2, 1) := by decide +kernel
theorem dX5_mutual_49 : decode cX5_mutual 49 = .ok (.invokevirtual 163, 3) := by decide +kernel
theorem dX5_mutual_52 : decode cX5_mutual 52 = .ok (.ifCond .le 6, 3) := by decide +kernel
theorem dX5_mutual_55 : decode cX5_mutual 55 = .ok (.iinc 3 1, 3) := by decide +kernel
theorem dX5_mutual_58 : decode cX5_mutual 58 = .ok (.iinc 4 1, 3) := by decide +kernel
theorem dX5_mutual_61 : decode cX5_mutual 61 = .ok (.goto (-45), 3) := by decide +kernel
theorem dX5_mutual_64 : decode cX5_mutual 64 = .ok (.iload_n 3, 1) := by decide +kernel
theorem dX5_mutual_65 : decode cX5_mutual 65 = .ok (.ireturn, 1) := by decide +kernel
theorem dX5_about_0 : decode cX5_about 0 = .ok (.aload_n 0, 1) := by decide +kernel
theorem dX5_about_1 : decode cX5_about 1 = .ok (.getfield 10, 3) := by decide +kernel
theorem dX5_about_4 : decode cX5_about 4 = .ok (.getfield 46, 3) := by decide +kernel
theorem dX5_about_7 : decode cX5_about 7 = .ok (.iload_n 1, 1) := by decide +kernel
theorem dX5_about_8 : decode cX5_about 8 = .ok (.invokevirtual 186, 3) := by decide +kernel
theorem dX5_about_11 : decode cX5_about 11 = .ok (.iload_n 1, 1) := by decide +kernel
theorem dX5_about_12 : decode cX5_about 12 = .ok (.imul, 1) := by decide +kernel
theorem dX5_about_13 : decode cX5_about 13 = .ok (.istore_n 3, 1) := by decide +kernel
theorem dX5_about_14 : decode cX5_about 14 = .ok (.iload_n 3, 1) := by decide +kernel
theorem dX5_about_15 : decode cX5_about 15 = .ok (.ifCond .gt 5, 3) := by decide +kernel
theorem dX5_about_18 : decode cX5_about 18 = .ok (.iconst (-1), 1) := by decide +kernel
theorem dX5_about_19 : decode cX5_about 19 = .ok (.ireturn, 1) := by decide +kernel
theorem dX5_about_20 : decode cX5_about 20 = .ok (.aload_n 0, 1) := by decide +kernel
theorem dX5_about_21 : decode cX5_about 21 = .ok (.getfield 10, 3) := by decide +kernel
theorem dX5_about_24 : decode cX5_about 24 = .ok (.getfield 46, 3) := by decide +kernel
theorem dX5_about_27 : decode cX5_about 27 = .ok (.iload_n 1, 1) := by decide +kernel
theorem dX5_about_28 : decode cX5_about 28 = .ok (.invokevirtual 189, 3) := by decide +kernel
theorem dX5_about_31 : decode cX5_about 31 = .ok (.istore 4, 2) := by decide +kernel
theorem dX5_about_33 : decode cX5_about 33 = .ok (.iload 4, 2) := by decide +kernel
theorem dX5_about_35 : decode cX5_about 35 = .ok (.iload_n 3, 1) := by decide +kernel
theorem dX5_about_36 : decode cX5_about 36 = .ok (.invokestatic 192, 3) := by decide +kernel
theorem dX5_about_39 : decode cX5_about 39 = .ok (.istore 5, 2) := by decide +kernel
theorem dX5_about_41 : decode cX5_about 41 = .ok (.iload 5, 2) := by decide +kernel
theorem dX5_about_43 : decode cX5_about 43 = .ok (.ifCond .gt 5, 3) := by decide +kernel
theorem dX5_about_46 : decode cX5_about 46 = .ok (.iconst (-1), 1) := by decide +kernel
theorem dX5_about_47 : decode cX5_about 47 = .ok (.ireturn, 1) := by decide +kernel
theorem dX5_about_48 : decode cX5_about 48 = .ok (.iload_n 2, 1) := by decide +kernel
theorem dX5_about_49 : decode cX5_about 49 = .ok (.lookupswitch 38 #[(0, 27), (1, 33)], 27) := by decide +kernel
theorem dX5_about_76 : decode cX5_about 76 = .ok (.iload 4, 2) := by decide +kernel
theorem dX5_about_78 : decode cX5_about 78 = .ok (.iload 5, 2) := by decide +kernel
theorem dX5_about_80 : decode cX5_about 80 = .ok (.idiv, 1) := by decide +kernel
theorem dX5_about_81 : decode cX5_about 81 = .ok (.ireturn, 1) := by decide +kernel
theorem dX5_about_82 : decode cX5_about 82 = .ok (.iload_n 3, 1) := by decide +kernel
theorem dX5_about_83 : decode cX5_about 83 = .ok (.iload 5, 2) := by decide +kernel
theorem dX5_about_85 : decode cX5_about 85 = .ok (.idiv, 1) := by decide +kernel
theorem dX5_about_86 : decode cX5_about 86 = .ok (.ireturn, 1) := by decide +kernel
theorem dX5_about_87 : decode cX5_about 87 = .ok (.iconst (-1), 1) := by decide +kernel
theorem dX5_about_88 : decode cX5_about 88 = .ok (.ireturn, 1) := by decide +kernel
theorem dX5_kind_0 : decode cX5_kind 0 = .ok (.iload_n 2, 1) := by decide +kernel
theorem dX5_kind_1 : decode cX5_kind 1 = .ok (.tableswitch 63 0 2 #[27, 39, 51], 27) := by decide +kernel
theorem dX5_kind_28 : decode cX5_kind 28 = .ok (.aload_n 0, 1) := by decide +kernel
theorem dX5_kind_29 : decode cX5_kind 29 = .ok (.getfield 10, 3) := by decide +kernel
theorem dX5_kind_32 : decode cX5_kind 32 = .ok (.getfield 46, 3) := by decide +kernel
theorem dX5_kind_35 : decode cX5_kind 35 = .ok (.iload_n 1, 1) := by decide +kernel
theorem dX5_kind_36 : decode cX5_kind 36 = .ok (.invokevirtual 186, 3) := by decide +kernel
theorem dX5_kind_39 : decode cX5_kind 39 = .ok (.ireturn, 1) := by decide +kernel
theorem dX5_kind_40 : decode cX5_kind 40 = .ok (.aload_n 0, 1) := by decide +kernel
theorem dX5_kind_41 : decode cX5_kind 41 = .ok (.getfield 10, 3) := by decide +kernel
theorem dX5_kind_44 : decode cX5_kind 44 = .ok (.getfield 46, 3) := by decide +kernel
theorem dX5_kind_47 : decode cX5_kind 47 = .ok (.iload_n 1, 1) := by decide +kernel
theorem dX5_kind_48 : decode cX5_kind 48 = .ok (.invokevirtual 195, 3) := by decide +kernel
theorem dX5_kind_51 : decode cX5_kind 51 = .ok (.ireturn, 1) := by decide +kernel
theorem dX5_kind_52 : decode cX5_kind 52 = .ok (.aload_n 0, 1) := by decide +kernel
theorem dX5_kind_53 : decode cX5_kind 53 = .ok (.getfield 10, 3) := by decide +kernel
theorem dX5_kind_56 : decode cX5_kind 56 = .ok (.getfield 46, 3) := by decide +kernel
theorem dX5_kind_59 : decode cX5_kind 59 = .ok (.iload_n 1, 1) := by decide +kernel
theorem dX5_kind_60 : decode cX5_kind 60 = .ok (.invokevirtual 189, 3) := by decide +kernel
theorem dX5_kind_63 : decode cX5_kind 63 = .ok (.ireturn, 1) := by decide +kernel
theorem dX5_kind_64 : decode cX5_kind 64 = .ok (.ldc 141, 2) := by decide +kernel
theorem dX5_kind_66 : decode cX5_kind 66 = .ok (.ireturn, 1) := by decide +kernel
theorem dX5_pairs_0 : decode cX5_pairs 0 = .ok (.aload_n 0, 1) := by decide +kernel
theorem dX5_pairs_1 : decode cX5_pairs 1 = .ok (.getfield 10, 3) := by decide +kernel
theorem dX5_pairs_4 : decode cX5_pairs 4 = .ok (.getfield 46, 3) := by decide +kernel
theorem dX5_pairs_7 : decode cX5_pairs 7 = .ok (.astore_n 3, 1) := by decide +kernel
theorem dX5_pairs_8 : decode cX5_pairs 8 = .ok (.iconst 0, 1) := by decide +kernel
theorem dX5_pairs_9 : decode cX5_pairs 9 = .ok (.istore 4, 2) := by decide +kernel
theorem dX5_pairs_11 : decode cX5_pairs 11 = .ok (.iconst 0, 1) := by decide +kernel
theorem dX5_pairs_12 : decode cX5_pairs 12 = .ok (.istore 5, 2) := by decide +kernel
theorem dX5_pairs_14 : decode cX5_pairs 14 = .ok (.iload 5, 2) := by decide +kernel
theorem dX5_pairs_16 : decode cX5_pairs 16 = .ok (.sipush 144, 3) := by decide +kernel
theorem dX5_pairs_19 : decode cX5_pairs 19 = .ok (.if_icmp .ge 79, 3) := by decide +kernel
theorem dX5_pairs_22 : decode cX5_pairs 22 = .ok (.aload_n 3, 1) := by decide +kernel
theorem dX5_pairs_23 : decode cX5_pairs 23 = .ok (.iload 5, 2) := by decide +kernel
theorem dX5_pairs_25 : decode cX5_pairs 25 = .ok (.invokevirtual 60, 3) := by decide +kernel
theorem dX5_pairs_28 : decode cX5_pairs 28 = .ok (.ifCond .eq 64, 3) := by decide +kernel
theorem dX5_pairs_31 : decode cX5_pairs 31 = .ok (.aload_n 3, 1) := by decide +kernel
theorem dX5_pairs_32 : decode cX5_pairs 32 = .ok (.getfield 127, 3) := by decide +kernel
theorem dX5_pairs_35 : decode cX5_pairs 35 = .ok (.aload_n 3, 1) := by decide +kernel
theorem dX5_pairs_36 : decode cX5_pairs 36 = .ok (.getfield 148, 3) := by decide +kernel
theorem dX5_pairs_39 : decode cX5_pairs 39 = .ok (.iconst 2, 1) := by decide +kernel
theorem dX5_pairs_40 : decode cX5_pairs 40 = .ok (.iload 5, 2) := by decide +kernel
theorem dX5_pairs_42 : decode cX5_pairs 42 = .ok (.imul, 1) := by decide +kernel
theorem dX5_pairs_43 : decode cX5_pairs 43 = .ok (.iaload, 1) := by decide +kernel
theorem dX5_pairs_44 : decode cX5_pairs 44 = .ok (.iaload, 1) := by decide +kernel
theorem dX5_pairs_45 : decode cX5_pairs 45 = .ok (.istore 6, 2) := by decide +kernel
theorem dX5_pairs_47 : decode cX5_pairs 47 = .ok (.aload_n 3, 1) := by decide +kernel
theorem dX5_pairs_48 : decode cX5_pairs 48 = .ok (.getfield 127, 3) := by decide +kernel
theorem dX5_pairs_51 : decode cX5_pairs 51 = .ok (.aload_n 3, 1) := by decide +kernel
theorem dX5_pairs_52 : decode cX5_pairs 52 = .ok (.getfield 148, 3) := by decide +kernel
theorem dX5_pairs_55 : decode cX5_pairs 55 = .ok (.iconst 2, 1) := by decide +kernel
theorem dX5_pairs_56 : decode cX5_pairs 56 = .ok (.iload 5, 2) := by decide +kernel
theorem dX5_pairs_58 : decode cX5_pairs 58 = .ok (.imul, 1) := by decide +kernel
theorem dX5_pairs_59 : decode cX5_pairs 59 = .ok (.iconst 1, 1) := by decide +kernel
theorem dX5_pairs_60 : decode cX5_pairs 60 = .ok (.iadd, 1) := by decide +kernel
theorem dX5_pairs_61 : decode cX5_pairs 61 = .ok (.iaload, 1) := by decide +kernel
theorem dX5_pairs_62 : decode cX5_pairs 62 = .ok (.iaload, 1) := by decide +kernel
theorem dX5_pairs_63 : decode cX5_pairs 63 = .ok (.istore 7, 2) := by decide +kernel
theorem dX5_pairs_65 : decode cX5_pairs 65 = .ok (.iload 6, 2) := by decide +kernel
theorem dX5_pairs_67 : decode cX5_pairs 67 = .ok (.iload_n 1, 1) := by decide +kernel
theorem dX5_pairs_68 : decode cX5_pairs 68 = .ok (.if_icmp .ne 9, 3) := by decide +kernel
theorem dX5_pairs_71 : decode cX5_pairs 71 = .ok (.iload 7, 2) := by decide +kernel
theorem dX5_pairs_73 : decode cX5_pairs 73 = .ok (.iload_n 2, 1) := by decide +kernel
theorem dX5_pairs_74 : decode cX5_pairs 74 = .ok (.if_icmp .eq 15, 3) := by decide +kernel
theorem dX5_pairs_77 : decode cX5_pairs 77 = .ok (.iload 6, 2) := by decide +kernel
theorem dX5_pairs_79 : decode cX5_pairs 79 = .ok (.iload_n 2, 1) := by decide +kernel
theorem dX5_pairs_80 : decode cX5_pairs 80 = .ok (.if_icmp .ne 12, 3) := by decide +kernel
theorem dX5_pairs_83 : decode cX5_pairs 83 = .ok (.iload 7, 2) := by decide +kernel
theorem dX5_pairs_85 : decode cX5_pairs 85 = .ok (.iload_n 1, 1) := by decide +kernel
theorem dX5_pairs_86 : decode cX5_pairs 86 = .ok (.if_icmp .ne 6, 3) := by decide +kernel
theorem dX5_pairs_89 : decode cX5_pairs 89 = .ok (.iinc 4 1, 3) := by decide +kernel
theorem dX5_pairs_92 : decode cX5_pairs 92 = .ok (.iinc 5 1, 3) := by decide +kernel
theorem dX5_pairs_95 : decode cX5_pairs 95 = .ok (.goto (-81), 3) := by decide +kernel
theorem dX5_pairs_98 : decode cX5_pairs 98 = .ok (.iload 4, 2) := by decide +kernel
theorem dX5_pairs_100 : decode cX5_pairs 100 = .ok (.ireturn, 1) := by decide +kernel
theorem dX5_ranked_0 : decode cX5_ranked 0 = .ok (.iconst 0, 1) := by decide +kernel
theorem dX5_ranked_1 : decode cX5_ranked 1 = .ok (.istore_n 2, 1) := by decide +kernel
theorem dX5_ranked_2 : decode cX5_ranked 2 = .ok (.iload_n 2, 1) := by decide +kernel
theorem dX5_ranked_3 : decode cX5_ranked 3 = .ok (.bipush 48, 2) := by decide +kernel
theorem dX5_ranked_5 : decode cX5_ranked 5 = .ok (.if_icmp .ge 40, 3) := by decide +kernel
theorem dX5_ranked_8 : decode cX5_ranked 8 = .ok (.aload_n 0, 1) := by decide +kernel
theorem dX5_ranked_9 : decode cX5_ranked 9 = .ok (.getfield 10, 3) := by decide +kernel
theorem dX5_ranked_12 : decode cX5_ranked 12 = .ok (.getfield 46, 3) := by decide +kernel
theorem dX5_ranked_15 : decode cX5_ranked 15 = .ok (.iload_n 2, 1) := by decide +kernel
theorem dX5_ranked_16 : decode cX5_ranked 16 = .ok (.invokevirtual 50, 3) := by decide +kernel
theorem dX5_ranked_19 : decode cX5_ranked 19 = .ok (.ifCond .eq 20, 3) := by decide +kernel
theorem dX5_ranked_22 : decode cX5_ranked 22 = .ok (.aload_n 0, 1) := by decide +kernel
theorem dX5_ranked_23 : decode cX5_ranked 23 = .ok (.getfield 10, 3) := by decide +kernel
theorem dX5_ranked_26 : decode cX5_ranked 26 = .ok (.getfield 46, 3) := by decide +kernel
theorem dX5_ranked_29 : decode cX5_ranked 29 = .ok (.iload_n 2, 1) := by decide +kernel
theorem dX5_ranked_30 : decode cX5_ranked 30 = .ok (.invokevirtual 198, 3) := by decide +kernel
theorem dX5_ranked_33 : decode cX5_ranked 33 = .ok (.iload_n 1, 1) := by decide +kernel
theorem dX5_ranked_34 : decode cX5_ranked 34 = .ok (.if_icmp .ne 5, 3) := by decide +kernel
theorem dX5_ranked_37 : decode cX5_ranked 37 = .ok (.iload_n 2, 1) := by decide +kernel
theorem dX5_ranked_38 : decode cX5_ranked 38 = .ok (.ireturn, 1) := by decide +kernel
theorem dX5_ranked_39 : decode cX5_ranked 39 = .ok (.iinc 2 1, 3) := by decide +kernel
theorem dX5_ranked_42 : decode cX5_ranked 42 = .ok (.goto (-40), 3) := by decide +kernel
theorem dX5_ranked_45 : decode cX5_ranked 45 = .ok (.iconst (-1), 1) := by decide +kernel
theorem dX5_ranked_46 : decode cX5_ranked 46 = .ok (.ireturn, 1) := by decide +kernel
theorem dX5_around_0 : decode cX5_around 0 = .ok (.aload_n 0, 1) := by decide +kernel
theorem dX5_around_1 : decode cX5_around 1 = .ok (.getfield 10, 3) := by decide +kernel
theorem dX5_around_4 : decode cX5_around 4 = .ok (.getfield 46, 3) := by decide +kernel
theorem dX5_around_7 : decode cX5_around 7 = .ok (.iload_n 1, 1) := by decide +kernel
theorem dX5_around_8 : decode cX5_around 8 = .ok (.invokevirtual 50, 3) := by decide +kernel
theorem dX5_around_11 : decode cX5_around 11 = .ok (.ifCond .eq 23, 3) := by decide +kernel
theorem dX5_around_14 : decode cX5_around 14 = .ok (.iload_n 2, 1) := by decide +kernel
theorem dX5_around_15 : decode cX5_around 15 = .ok (.iconst (-1), 1) := by decide +kernel
theorem dX5_around_16 : decode cX5_around 16 = .ok (.if_icmp .lt 18, 3) := by decide +kernel
theorem dX5_around_19 : decode cX5_around 19 = .ok (.iload_n 2, 1) := by decide +kernel
theorem dX5_around_20 : decode cX5_around 20 = .ok (.iconst 1, 1) := by decide +kernel
theorem dX5_around_21 : decode cX5_around 21 = .ok (.if_icmp .gt 13, 3) := by decide +kernel
theorem dX5_around_24 : decode cX5_around 24 = .ok (.iload_n 3, 1) := by decide +kernel
theorem dX5_around_25 : decode cX5_around 25 = .ok (.iconst (-1), 1) := by decide +kernel
theorem dX5_around_26 : decode cX5_around 26 = .ok (.if_icmp .lt 8, 3) := by decide +kernel
theorem dX5_around_29 : decode cX5_around 29 = .ok (.iload_n 3, 1) := by decide +kernel
theorem dX5_around_30 : decode cX5_around 30 = .ok (.iconst 1, 1) := by decide +kernel
theorem dX5_around_31 : decode cX5_around 31 = .ok (.if_icmp .le 5, 3) := by decide +kernel
theorem dX5_around_34 : decode cX5_around 34 = .ok (.iconst (-1), 1) := by decide +kernel
theorem dX5_around_35 : decode cX5_around 35 = .ok (.ireturn, 1) := by decide +kernel
theorem dX5_around_36 : decode cX5_around 36 = .ok (.aload_n 0, 1) := by decide +kernel
theorem dX5_around_37 : decode cX5_around 37 = .ok (.getfield 26, 3) := by decide +kernel
theorem dX5_around_40 : decode cX5_around 40 = .ok (.aload_n 0, 1) := by decide +kernel
theorem dX5_around_41 : decode cX5_around 41 = .ok (.getfield 10, 3) := by decide +kernel
theorem dX5_around_44 : decode cX5_around 44 = .ok (.getfield 46, 3) := by decide +kernel
theorem dX5_around_47 : decode cX5_around 47 = .ok (.iload_n 1, 1) := by decide +kernel
theorem dX5_around_48 : decode cX5_around 48 = .ok (.iconst 0, 1) := by decide +kernel
theorem dX5_around_49 : decode cX5_around 49 = .ok (.invokevirtual 201, 3) := by decide +kernel
theorem dX5_around_52 : decode cX5_around 52 = .ok (.aload_n 0, 1) := by decide +kernel
theorem dX5_around_53 : decode cX5_around 53 = .ok (.getfield 26, 3) := by decide +kernel
theorem dX5_around_56 : decode cX5_around 56 = .ok (.getfield 205, 3) := by decide +kernel
theorem dX5_around_59 : decode cX5_around 59 = .ok (.iload_n 1, 1) := by decide +kernel
theorem dX5_around_60 : decode cX5_around 60 = .ok (.iload_n 2, 1) := by decide +kernel
theorem dX5_around_61 : decode cX5_around 61 = .ok (.iload_n 3, 1) := by decide +kernel
theorem dX5_around_62 : decode cX5_around 62 = .ok (.invokestatic 208, 3) := by decide +kernel
theorem dX5_around_65 : decode cX5_around 65 = .ok (.iaload, 1) := by decide +kernel
theorem dX5_around_66 : decode cX5_around 66 = .ok (.ireturn, 1) := by decide +kernel
theorem dX5_rounds_0 : decode cX5_rounds 0 = .ok (.aload_n 0, 1) := by decide +kernel
theorem dX5_rounds_1 : decode cX5_rounds 1 = .ok (.getfield 10, 3) := by decide +kernel
theorem dX5_rounds_4 : decode cX5_rounds 4 = .ok (.getfield 46, 3) := by decide +kernel
theorem dX5_rounds_7 : decode cX5_rounds 7 = .ok (.iload_n 1, 1) := by decide +kernel
theorem dX5_rounds_8 : decode cX5_rounds 8 = .ok (.invokevirtual 60, 3) := by decide +kernel
theorem dX5_rounds_11 : decode cX5_rounds 11 = .ok (.ifCond .ne 6, 3) := by decide +kernel
theorem dX5_rounds_14 : decode cX5_rounds 14 = .ok (.ldc 141, 2) := by decide +kernel
theorem dX5_rounds_16 : decode cX5_rounds 16 = .ok (.ireturn, 1) := by decide +kernel
theorem dX5_rounds_17 : decode cX5_rounds 17 = .ok (.aload_n 0, 1) := by decide +kernel
theorem dX5_rounds_18 : decode cX5_rounds 18 = .ok (.getfield 10, 3) := by decide +kernel
theorem dX5_rounds_21 : decode cX5_rounds 21 = .ok (.getfield 46, 3) := by decide +kernel
theorem dX5_rounds_24 : decode cX5_rounds 24 = .ok (.astore_n 3, 1) := by decide +kernel
theorem dX5_rounds_25 : decode cX5_rounds 25 = .ok (.aload_n 3, 1) := by decide +kernel
theorem dX5_rounds_26 : decode cX5_rounds 26 = .ok (.getfield 148, 3) := by decide +kernel
theorem dX5_rounds_29 : decode cX5_rounds 29 = .ok (.iconst 2, 1) := by decide +kernel
theorem dX5_rounds_30 : decode cX5_rounds 30 = .ok (.iload_n 1, 1) := by decide +kernel
theorem dX5_rounds_31 : decode cX5_rounds 31 = .ok (.imul, 1) := by decide +kernel
theorem dX5_rounds_32 : decode cX5_rounds 32 = .ok (.iaload, 1) := by decide +kernel
theorem dX5_rounds_33 : decode cX5_rounds 33 = .ok (.aload_n 3, 1) := by decide +kernel
theorem dX5_rounds_34 : decode cX5_rounds 34 = .ok (.getfield 148, 3) := by decide +kernel
theorem dX5_rounds_37 : decode cX5_rounds 37 = .ok (.iconst 2, 1) := by decide +kernel
theorem dX5_rounds_38 : decode cX5_rounds 38 = .ok (.iload_n 1, 1) := by decide +kernel
theorem dX5_rounds_39 : decode cX5_rounds 39 = .ok (.imul, 1) := by decide +kernel
theorem dX5_rounds_40 : decode cX5_rounds 40 = .ok (.iconst 1, 1) := by decide +kernel
theorem dX5_rounds_41 : decode cX5_rounds 41 = .ok (.iadd, 1) := by decide +kernel
theorem dX5_rounds_42 : decode cX5_rounds 42 = .ok (.iaload, 1) := by decide +kernel
theorem dX5_rounds_43 : decode cX5_rounds 43 = .ok (.if_icmp .ge 9, 3) := by decide +kernel
theorem dX5_rounds_46 : decode cX5_rounds 46 = .ok (.iconst 2, 1) := by decide +kernel
theorem dX5_rounds_47 : decode cX5_rounds 47 = .ok (.iload_n 1, 1) := by decide +kernel
theorem dX5_rounds_48 : decode cX5_rounds 48 = .ok (.imul, 1) := by decide +kernel
theorem dX5_rounds_49 : decode cX5_rounds 49 = .ok (.goto 8, 3) := by decide +kernel
theorem dX5_rounds_52 : decode cX5_rounds 52 = .ok (.iconst 2, 1) := by decide +kernel
theorem dX5_rounds_53 : decode cX5_rounds 53 = .ok (.iload_n 1, 1) := by decide +kernel
theorem dX5_rounds_54 : decode cX5_rounds 54 = .ok (.imul, 1) := by decide +kernel
theorem dX5_rounds_55 : decode cX5_rounds 55 = .ok (.iconst 1, 1) := by decide +kernel
theorem dX5_rounds_56 : decode cX5_rounds 56 = .ok (.iadd, 1) := by decide +kernel
theorem dX5_rounds_57 : decode cX5_rounds 57 = .ok (.istore 4, 2) := by decide +kernel
theorem dX5_rounds_59 : decode cX5_rounds 59 = .ok (.iload_n 2, 1) := by decide +kernel
theorem dX5_rounds_60 : decode cX5_rounds 60 = .ok (.lookupswitch 44 #[(0, 28), (1, 36)], 28) := by decide +kernel
theorem dX5_rounds_88 : decode cX5_rounds 88 = .ok (.aload_n 3, 1) := by decide +kernel
theorem dX5_rounds_89 : decode cX5_rounds 89 = .ok (.getfield 211, 3) := by decide +kernel
theorem dX5_rounds_92 : decode cX5_rounds 92 = .ok (.iload 4, 2) := by decide +kernel
theorem dX5_rounds_94 : decode cX5_rounds 94 = .ok (.iaload, 1) := by decide +kernel
theorem dX5_rounds_95 : decode cX5_rounds 95 = .ok (.ireturn, 1) := by decide +kernel
theorem dX5_rounds_96 : decode cX5_rounds 96 = .ok (.aload_n 3, 1) := by decide +kernel
theorem dX5_rounds_97 : decode cX5_rounds 97 = .ok (.getfield 214, 3) := by decide +kernel
theorem dX5_rounds_100 : decode cX5_rounds 100 = .ok (.iload 4, 2) := by decide +kernel
theorem dX5_rounds_102 : decode cX5_rounds 102 = .ok (.iaload, 1) := by decide +kernel
theorem dX5_rounds_103 : decode cX5_rounds 103 = .ok (.ireturn, 1) := by decide +kernel
theorem dX5_rounds_104 : decode cX5_rounds 104 = .ok (.ldc 141, 2) := by decide +kernel
theorem dX5_rounds_106 : decode cX5_rounds 106 = .ok (.ireturn, 1) := by decide +kernel
theorem dX5_spans_0 : decode cX5_spans 0 = .ok (.aload_n 0, 1) := by decide +kernel
theorem dX5_spans_1 : decode cX5_spans 1 = .ok (.getfield 10, 3) := by decide +kernel
theorem dX5_spans_4 : decode cX5_spans 4 = .ok (.getfield 46, 3) := by decide +kernel
theorem dX5_spans_7 : decode cX5_spans 7 = .ok (.iload_n 1, 1) := by decide +kernel
theorem dX5_spans_8 : decode cX5_spans 8 = .ok (.invokevirtual 50, 3) := by decide +kernel
theorem dX5_spans_11 : decode cX5_spans 11 = .ok (.ifCond .eq 12, 3) := by decide +kernel
theorem dX5_spans_14 : decode cX5_spans 14 = .ok (.iload_n 3, 1) := by decide +kernel
theorem dX5_spans_15 : decode cX5_spans 15 = .ok (.ifCond .lt 8, 3) := by decide +kernel
theorem dX5_spans_18 : decode cX5_spans 18 = .ok (.iload_n 3, 1) := by decide +kernel
theorem dX5_spans_19 : decode cX5_spans 19 = .ok (.iconst 1, 1) := by decide +kernel
theorem dX5_spans_20 : decode cX5_spans 20 = .ok (.if_icmp .le 5, 3) := by decide +kernel
theorem dX5_spans_23 : decode cX5_spans 23 = .ok (.iconst (-1), 1) := by decide +kernel
theorem dX5_spans_24 : decode cX5_spans 24 = .ok (.ireturn, 1) := by decide +kernel
theorem dX5_spans_25 : decode cX5_spans 25 = .ok (.aload_n 0, 1) := by decide +kernel
theorem dX5_spans_26 : decode cX5_spans 26 = .ok (.getfield 10, 3) := by decide +kernel
theorem dX5_spans_29 : decode cX5_spans 29 = .ok (.getfield 46, 3) := by decide +kernel
theorem dX5_spans_32 : decode cX5_spans 32 = .ok (.getfield 127, 3) := by decide +kernel
theorem dX5_spans_35 : decode cX5_spans 35 = .ok (.iload_n 1, 1) := by decide +kernel
theorem dX5_spans_36 : decode cX5_spans 36 = .ok (.iaload, 1) := by decide +kernel
theorem dX5_spans_37 : decode cX5_spans 37 = .ok (.iload_n 2, 1) := by decide +kernel
theorem dX5_spans_38 : decode cX5_spans 38 = .ok (.if_icmp .ge 5, 3) := by decide +kernel
theorem dX5_spans_41 : decode cX5_spans 41 = .ok (.iconst 0, 1) := by decide +kernel
theorem dX5_spans_42 : decode cX5_spans 42 = .ok (.ireturn, 1) := by decide +kernel
theorem dX5_spans_43 : decode cX5_spans 43 = .ok (.aload_n 0, 1) := by decide +kernel
theorem dX5_spans_44 : decode cX5_spans 44 = .ok (.getfield 26, 3) := by decide +kernel
theorem dX5_spans_47 : decode cX5_spans 47 = .ok (.aload_n 0, 1) := by decide +kernel
theorem dX5_spans_48 : decode cX5_spans 48 = .ok (.getfield 10, 3) := by decide +kernel
theorem dX5_spans_51 : decode cX5_spans 51 = .ok (.getfield 46, 3) := by decide +kernel
theorem dX5_spans_54 : decode cX5_spans 54 = .ok (.iload_n 1, 1) := by decide +kernel
theorem dX5_spans_55 : decode cX5_spans 55 = .ok (.iload_n 2, 1) := by decide +kernel
theorem dX5_spans_56 : decode cX5_spans 56 = .ok (.invokevirtual 201, 3) := by decide +kernel
theorem dX5_spans_59 : decode cX5_spans 59 = .ok (.bipush (-2), 2) := by decide +kernel
theorem dX5_spans_61 : decode cX5_spans 61 = .ok (.istore 4, 2) := by decide +kernel
theorem dX5_spans_63 : decode cX5_spans 63 = .ok (.iload 4, 2) := by decide +kernel
theorem dX5_spans_65 : decode cX5_spans 65 = .ok (.iconst 2, 1) := by decide +kernel
theorem dX5_spans_66 : decode cX5_spans 66 = .ok (.if_icmp .gt 47, 3) := by decide +kernel
theorem dX5_spans_69 : decode cX5_spans 69 = .ok (.iload_n 3, 1) := by decide +kernel
theorem dX5_spans_70 : decode cX5_spans 70 = .ok (.ifCond .ne 13, 3) := by decide +kernel
theorem dX5_spans_73 : decode cX5_spans 73 = .ok (.iload_n 1, 1) := by decide +kernel
theorem dX5_spans_74 : decode cX5_spans 74 = .ok (.iconst 1, 1) := by decide +kernel
theorem dX5_spans_75 : decode cX5_spans 75 = .ok (.iload 4, 2) := by decide +kernel
theorem dX5_spans_77 : decode cX5_spans 77 = .ok (.invokestatic 208, 3) := by decide +kernel
theorem dX5_spans_80 : decode cX5_spans 80 = .ok (.goto 10, 3) := by decide +kernel
theorem dX5_spans_83 : decode cX5_spans 83 = .ok (.iload_n 1, 1) := by decide +kernel
theorem dX5_spans_84 : decode cX5_spans 84 = .ok (.iload 4, 2) := by decide +kernel
theorem dX5_spans_86 : decode cX5_spans 86 = .ok (.iconst 1, 1) := by decide +kernel
theorem dX5_spans_87 : decode cX5_spans 87 = .ok (.invokestatic 208, 3) := by decide +kernel
theorem dX5_spans_90 : decode cX5_spans 90 = .ok (.istore 5, 2) := by decide +kernel
theorem dX5_spans_92 : decode cX5_spans 92 = .ok (.aload_n 0, 1) := by decide +kernel
theorem dX5_spans_93 : decode cX5_spans 93 = .ok (.getfield 26, 3) := by decide +kernel
theorem dX5_spans_96 : decode cX5_spans 96 = .ok (.getfield 205, 3) := by decide +kernel
theorem dX5_spans_99 : decode cX5_spans 99 = .ok (.iload 5, 2) := by decide +kernel
theorem dX5_spans_101 : decode cX5_spans 101 = .ok (.iaload, 1) := by decide +kernel
theorem dX5_spans_102 : decode cX5_spans 102 = .ok (.ifCond .lt 5, 3) := by decide +kernel
theorem dX5_spans_105 : decode cX5_spans 105 = .ok (.iconst 1, 1) := by decide +kernel
theorem dX5_spans_106 : decode cX5_spans 106 = .ok (.ireturn, 1) := by decide +kernel
theorem dX5_spans_107 : decode cX5_spans 107 = .ok (.iinc 4 1, 3) := by decide +kernel
theorem dX5_spans_110 : decode cX5_spans 110 = .ok (.goto (-47), 3) := by decide +kernel
theorem dX5_spans_113 : decode cX5_spans 113 = .ok (.iconst 0, 1) := by decide +kernel
theorem dX5_spans_114 : decode cX5_spans 114 = .ok (.ireturn, 1) := by decide +kernel
theorem dX5_pieces_0 : decode cX5_pieces 0 = .ok (.iload_n 1, 1) := by decide +kernel
theorem dX5_pieces_1 : decode cX5_pieces 1 = .ok (.ifCond .lt 12, 3) := by decide +kernel
theorem dX5_pieces_4 : decode cX5_pieces 4 = .ok (.iload_n 2, 1) := by decide +kernel
theorem dX5_pieces_5 : decode cX5_pieces 5 = .ok (.ifCond .lt 8, 3) := by decide +kernel
theorem dX5_pieces_8 : decode cX5_pieces 8 = .ok (.iload_n 2, 1) := by decide +kernel
theorem dX5_pieces_9 : decode cX5_pieces 9 = .ok (.iconst 2, 1) := by decide +kernel
theorem dX5_pieces_10 : decode cX5_pieces 10 = .ok (.if_icmp .le 5, 3) := by decide +kernel
theorem dX5_pieces_13 : decode cX5_pieces 13 = .ok (.iconst (-1), 1) := by decide +kernel
theorem dX5_pieces_14 : decode cX5_pieces 14 = .ok (.ireturn, 1) := by decide +kernel
theorem dX5_pieces_15 : decode cX5_pieces 15 = .ok (.aload_n 0, 1) := by decide +kernel
theorem dX5_pieces_16 : decode cX5_pieces 16 = .ok (.getfield 26, 3) := by decide +kernel
theorem dX5_pieces_19 : decode cX5_pieces 19 = .ok (.aload_n 0, 1) := by decide +kernel
theorem dX5_pieces_20 : decode cX5_pieces 20 = .ok (.getfield 10, 3) := by decide +kernel
theorem dX5_pieces_23 : decode cX5_pieces 23 = .ok (.getfield 46, 3) := by decide +kernel
theorem dX5_pieces_26 : decode cX5_pieces 26 = .ok (.iload_n 1, 1) := by decide +kernel
theorem dX5_pieces_27 : decode cX5_pieces 27 = .ok (.invokevirtual 217, 3) := by decide +kernel
theorem dX5_pieces_30 : decode cX5_pieces 30 = .ok (.iload_n 2, 1) := by decide +kernel
theorem dX5_pieces_31 : decode cX5_pieces 31 = .ok (.lookupswitch 41 #[(0, 25), (1, 33)], 25) := by decide +kernel
theorem dX5_pieces_56 : decode cX5_pieces 56 = .ok (.aload_n 0, 1) := by decide +kernel
theorem dX5_pieces_57 : decode cX5_pieces 57 = .ok (.getfield 26, 3) := by decide +kernel
theorem dX5_pieces_60 : decode cX5_pieces 60 = .ok (.getfield 220, 3) := by decide +kernel
theorem dX5_pieces_63 : decode cX5_pieces 63 = .ok (.ireturn, 1) := by decide +kernel
theorem dX5_pieces_64 : decode cX5_pieces 64 = .ok (.aload_n 0, 1) := by decide +kernel
theorem dX5_pieces_65 : decode cX5_pieces 65 = .ok (.getfield 26, 3) := by decide +kernel
theorem dX5_pieces_68 : decode cX5_pieces 68 = .ok (.getfield 223, 3) := by decide +kernel
theorem dX5_pieces_71 : decode cX5_pieces 71 = .ok (.ireturn, 1) := by decide +kernel
theorem dX5_pieces_72 : decode cX5_pieces 72 = .ok (.aload_n 0, 1) := by decide +kernel
theorem dX5_pieces_73 : decode cX5_pieces 73 = .ok (.getfield 26, 3) := by decide +kernel
theorem dX5_pieces_76 : decode cX5_pieces 76 = .ok (.getfield 226, 3) := by decide +kernel
theorem dX5_pieces_79 : decode cX5_pieces 79 = .ok (.ireturn, 1) := by decide +kernel
theorem dX5_all_0 : decode cX5_all 0 = .ok (.aload_n 0, 1) := by decide +kernel
theorem dX5_all_1 : decode cX5_all 1 = .ok (.getfield 10, 3) := by decide +kernel
theorem dX5_all_4 : decode cX5_all 4 = .ok (.getfield 46, 3) := by decide +kernel
theorem dX5_all_7 : decode cX5_all 7 = .ok (.astore_n 2, 1) := by decide +kernel
theorem dX5_all_8 : decode cX5_all 8 = .ok (.iload_n 1, 1) := by decide +kernel
theorem dX5_all_9 : decode cX5_all 9 = .ok (.tableswitch 113 0 9 #[55, 60, 65, 70, 75, 80, 85, 98, 103, 108], 55) := by decide +kernel
theorem dX5_all_64 : decode cX5_all 64 = .ok (.aload_n 2, 1) := by decide +kernel
theorem dX5_all_65 : decode cX5_all 65 = .ok (.invokevirtual 229, 3) := by decide +kernel
theorem dX5_all_68 : decode cX5_all 68 = .ok (.ireturn, 1) := by decide +kernel
theorem dX5_all_69 : decode cX5_all 69 = .ok (.aload_n 2, 1) := by decide +kernel
theorem dX5_all_70 : decode cX5_all 70 = .ok (.invokevirtual 232, 3) := by decide +kernel
theorem dX5_all_73 : decode cX5_all 73 = .ok (.ireturn, 1) := by decide +kernel
theorem dX5_all_74 : decode cX5_all 74 = .ok (.aload_n 2, 1) := by decide +kernel
theorem dX5_all_75 : decode cX5_all 75 = .ok (.invokevirtual 235, 3) := by decide +kernel
theorem dX5_all_78 : decode cX5_all 78 = .ok (.ireturn, 1) := by decide +kernel
theorem dX5_all_79 : decode cX5_all 79 = .ok (.aload_n 2, 1) := by decide +kernel
theorem dX5_all_80 : decode cX5_all 80 = .ok (.invokevirtual 238, 3) := by decide +kernel
theorem dX5_all_83 : decode cX5_all 83 = .ok (.ireturn, 1) := by decide +kernel
theorem dX5_all_84 : decode cX5_all 84 = .ok (.aload_n 2, 1) := by decide +kernel
theorem dX5_all_85 : decode cX5_all 85 = .ok (.invokevirtual 241, 3) := by decide +kernel
theorem dX5_all_88 : decode cX5_all 88 = .ok (.ireturn, 1) := by decide +kernel
theorem dX5_all_89 : decode cX5_all 89 = .ok (.aload_n 2, 1) := by decide +kernel
theorem dX5_all_90 : decode cX5_all 90 = .ok (.invokevirtual 244, 3) := by decide +kernel
theorem dX5_all_93 : decode cX5_all 93 = .ok (.ireturn, 1) := by decide +kernel
theorem dX5_all_94 : decode cX5_all 94 = .ok (.aload_n 2, 1) := by decide +kernel
theorem dX5_all_95 : decode cX5_all 95 = .ok (.invokevirtual 247, 3) := by decide +kernel
theorem dX5_all_98 : decode cX5_all 98 = .ok (.ifCond .ge 7, 3) := by decide +kernel
theorem dX5_all_101 : decode cX5_all 101 = .ok (.iconst 1, 1) := by decide +kernel
theorem dX5_all_102 : decode cX5_all 102 = .ok (.goto 4, 3) := by decide +kernel
theorem dX5_all_105 : decode cX5_all 105 = .ok (.iconst 0, 1) := by decide +kernel
theorem dX5_all_106 : decode cX5_all 106 = .ok (.ireturn, 1) := by decide +kernel
theorem dX5_all_107 : decode cX5_all 107 = .ok (.aload_n 2, 1) := by decide +kernel
theorem dX5_all_108 : decode cX5_all 108 = .ok (.invokevirtual 250, 3) := by decide +kernel
theorem dX5_all_111 : decode cX5_all 111 = .ok (.ireturn, 1) := by decide +kernel
theorem dX5_all_112 : decode cX5_all 112 = .ok (.aload_n 2, 1) := by decide +kernel
theorem dX5_all_113 : decode cX5_all 113 = .ok (.invokevirtual 253, 3) := by decide +kernel
theorem dX5_all_116 : decode cX5_all 116 = .ok (.ireturn, 1) := by decide +kernel
theorem dX5_all_117 : decode cX5_all 117 = .ok (.aload_n 2, 1) := by decide +kernel
theorem dX5_all_118 : decode cX5_all 118 = .ok (.invokevirtual 256, 3) := by decide +kernel
theorem dX5_all_121 : decode cX5_all 121 = .ok (.ireturn, 1) := by decide +kernel
theorem dX5_all_122 : decode cX5_all 122 = .ok (.ldc 141, 2) := by decide +kernel
theorem dX5_all_124 : decode cX5_all 124 = .ok (.ireturn, 1) := by decide +kernel
theorem dX5_easiest_0 : decode cX5_easiest 0 = .ok (.aload_n 0, 1) := by decide +kernel
theorem dX5_easiest_1 : decode cX5_easiest 1 = .ok (.getfield 10, 3) := by decide +kernel
theorem dX5_easiest_4 : decode cX5_easiest 4 = .ok (.getfield 46, 3) := by decide +kernel
theorem dX5_easiest_7 : decode cX5_easiest 7 = .ok (.invokevirtual 247, 3) := by decide +kernel
theorem dX5_easiest_10 : decode cX5_easiest 10 = .ok (.ireturn, 1) := by decide +kernel
theorem dX5_lowest_0 : decode cX5_lowest 0 = .ok (.iload_n 1, 1) := by decide +kernel
theorem dX5_lowest_1 : decode cX5_lowest 1 = .ok (.ifCond .lt 8, 3) := by decide +kernel
theorem dX5_lowest_4 : decode cX5_lowest 4 = .ok (.iload_n 1, 1) := by decide +kernel
theorem dX5_lowest_5 : decode cX5_lowest 5 = .ok (.iconst 2, 1) := by decide +kernel
theorem dX5_lowest_6 : decode cX5_lowest 6 = .ok (.if_icmp .le 7, 3) := by decide +kernel
theorem dX5_lowest_9 : decode cX5_lowest 9 = .ok (.iconst (-1), 1) := by decide +kernel
theorem dX5_lowest_10 : decode cX5_lowest 10 = .ok (.goto 15, 3) := by decide +kernel
theorem dX5_lowest_13 : decode cX5_lowest 13 = .ok (.aload_n 0, 1) := by decide +kernel
theorem dX5_lowest_14 : decode cX5_lowest 14 = .ok (.getfield 19, 3) := by decide +kernel
theorem dX5_lowest_17 : decode cX5_lowest 17 = .ok (.aload_n 0, 1) := by decide +kernel
theorem dX5_lowest_18 : decode cX5_lowest 18 = .ok (.getfield 10, 3) := by decide +kernel
theorem dX5_lowest_21 : decode cX5_lowest 21 = .ok (.iload_n 1, 1) := by decide +kernel
theorem dX5_lowest_22 : decode cX5_lowest 22 = .ok (.invokevirtual 259, 3) := by decide +kernel
theorem dX5_lowest_25 : decode cX5_lowest 25 = .ok (.ireturn, 1) := by decide +kernel
theorem dX5_reach_0 : decode cX5_reach 0 = .ok (.aload_n 0, 1) := by decide +kernel
theorem dX5_reach_1 : decode cX5_reach 1 = .ok (.getfield 10, 3) := by decide +kernel
theorem dX5_reach_4 : decode cX5_reach 4 = .ok (.getfield 46, 3) := by decide +kernel
theorem dX5_reach_7 : decode cX5_reach 7 = .ok (.iload_n 1, 1) := by decide +kernel
theorem dX5_reach_8 : decode cX5_reach 8 = .ok (.invokevirtual 50, 3) := by decide +kernel
theorem dX5_reach_11 : decode cX5_reach 11 = .ok (.ifCond .eq 12, 3) := by decide +kernel
theorem dX5_reach_14 : decode cX5_reach 14 = .ok (.iload_n 3, 1) := by decide +kernel
theorem dX5_reach_15 : decode cX5_reach 15 = .ok (.ifCond .lt 8, 3) := by decide +kernel
theorem dX5_reach_18 : decode cX5_reach 18 = .ok (.iload_n 3, 1) := by decide +kernel
theorem dX5_reach_19 : decode cX5_reach 19 = .ok (.iconst 1, 1) := by decide +kernel
theorem dX5_reach_20 : decode cX5_reach 20 = .ok (.if_icmp .le 5, 3) := by decide +kernel
theorem dX5_reach_23 : decode cX5_reach 23 = .ok (.iconst (-1), 1) := by decide +kernel
theorem dX5_reach_24 : decode cX5_reach 24 = .ok (.ireturn, 1) := by decide +kernel
theorem dX5_reach_25 : decode cX5_reach 25 = .ok (.aload_n 0, 1) := by decide +kernel
theorem dX5_reach_26 : decode cX5_reach 26 = .ok (.getfield 10, 3) := by decide +kernel
theorem dX5_reach_29 : decode cX5_reach 29 = .ok (.getfield 46, 3) := by decide +kernel
theorem dX5_reach_32 : decode cX5_reach 32 = .ok (.getfield 127, 3) := by decide +kernel
theorem dX5_reach_35 : decode cX5_reach 35 = .ok (.iload_n 1, 1) := by decide +kernel
theorem dX5_reach_36 : decode cX5_reach 36 = .ok (.iaload, 1) := by decide +kernel
theorem dX5_reach_37 : decode cX5_reach 37 = .ok (.iload_n 2, 1) := by decide +kernel
theorem dX5_reach_38 : decode cX5_reach 38 = .ok (.if_icmp .ne 13, 3) := by decide +kernel
theorem dX5_reach_41 : decode cX5_reach 41 = .ok (.iload_n 3, 1) := by decide +kernel
theorem dX5_reach_42 : decode cX5_reach 42 = .ok (.ifCond .ne 7, 3) := by decide +kernel
theorem dX5_reach_45 : decode cX5_reach 45 = .ok (.iconst 0, 1) := by decide +kernel
theorem dX5_reach_46 : decode cX5_reach 46 = .ok (.goto 4, 3) := by decide +kernel
theorem dX5_reach_49 : decode cX5_reach 49 = .ok (.iconst (-1), 1) := by decide +kernel
theorem dX5_reach_50 : decode cX5_reach 50 = .ok (.ireturn, 1) := by decide +kernel
theorem dX5_reach_51 : decode cX5_reach 51 = .ok (.aload_n 0, 1) := by decide +kernel
theorem dX5_reach_52 : decode cX5_reach 52 = .ok (.getfield 19, 3) := by decide +kernel
theorem dX5_reach_55 : decode cX5_reach 55 = .ok (.aload_n 0, 1) := by decide +kernel
theorem dX5_reach_56 : decode cX5_reach 56 = .ok (.getfield 10, 3) := by decide +kernel
theorem dX5_reach_59 : decode cX5_reach 59 = .ok (.iload_n 1, 1) := by decide +kernel
theorem dX5_reach_60 : decode cX5_reach 60 = .ok (.iload_n 2, 1) := by decide +kernel
theorem dX5_reach_61 : decode cX5_reach 61 = .ok (.invokevirtual 263, 3) := by decide +kernel
theorem dX5_reach_64 : decode cX5_reach 64 = .ok (.istore 4, 2) := by decide +kernel
theorem dX5_reach_66 : decode cX5_reach 66 = .ok (.iload 4, 2) := by decide +kernel
theorem dX5_reach_68 : decode cX5_reach 68 = .ok (.ifCond .lt 14, 3) := by decide +kernel
theorem dX5_reach_71 : decode cX5_reach 71 = .ok (.iload_n 3, 1) := by decide +kernel
theorem dX5_reach_72 : decode cX5_reach 72 = .ok (.ifCond .ne 7, 3) := by decide +kernel
theorem dX5_reach_75 : decode cX5_reach 75 = .ok (.iconst 1, 1) := by decide +kernel
theorem dX5_reach_76 : decode cX5_reach 76 = .ok (.goto 5, 3) := by decide +kernel
theorem dX5_reach_79 : decode cX5_reach 79 = .ok (.iload 4, 2) := by decide +kernel
theorem dX5_reach_81 : decode cX5_reach 81 = .ok (.ireturn, 1) := by decide +kernel
theorem dX5_reach_82 : decode cX5_reach 82 = .ok (.aload_n 0, 1) := by decide +kernel
theorem dX5_reach_83 : decode cX5_reach 83 = .ok (.getfield 19, 3) := by decide +kernel
theorem dX5_reach_86 : decode cX5_reach 86 = .ok (.aload_n 0, 1) := by decide +kernel
theorem dX5_reach_87 : decode cX5_reach 87 = .ok (.getfield 10, 3) := by decide +kernel
theorem dX5_reach_90 : decode cX5_reach 90 = .ok (.iload_n 1, 1) := by decide +kernel
theorem dX5_reach_91 : decode cX5_reach 91 = .ok (.iload_n 2, 1) := by decide +kernel
theorem dX5_reach_92 : decode cX5_reach 92 = .ok (.invokevirtual 267, 3) := by decide +kernel
theorem dX5_reach_95 : decode cX5_reach 95 = .ok (.istore 4, 2) := by decide +kernel
theorem dX5_reach_97 : decode cX5_reach 97 = .ok (.iload 4, 2) := by decide +kernel
theorem dX5_reach_99 : decode cX5_reach 99 = .ok (.ifCond .lt 14, 3) := by decide +kernel
theorem dX5_reach_102 : decode cX5_reach 102 = .ok (.iload_n 3, 1) := by decide +kernel
theorem dX5_reach_103 : decode cX5_reach 103 = .ok (.ifCond .ne 7, 3) := by decide +kernel
theorem dX5_reach_106 : decode cX5_reach 106 = .ok (.iconst 2, 1) := by decide +kernel
theorem dX5_reach_107 : decode cX5_reach 107 = .ok (.goto 5, 3) := by decide +kernel
theorem dX5_reach_110 : decode cX5_reach 110 = .ok (.iload 4, 2) := by decide +kernel
theorem dX5_reach_112 : decode cX5_reach 112 = .ok (.ireturn, 1) := by decide +kernel
theorem dX5_reach_113 : decode cX5_reach 113 = .ok (.iconst (-1), 1) := by decide +kernel
theorem dX5_reach_114 : decode cX5_reach 114 = .ok (.ireturn, 1) := by decide +kernel
theorem dX5_alike_0 : decode cX5_alike 0 = .ok (.aload_n 0, 1) := by decide +kernel
theorem dX5_alike_1 : decode cX5_alike 1 = .ok (.getfield 19, 3) := by decide +kernel
theorem dX5_alike_4 : decode cX5_alike 4 = .ok (.aload_n 0, 1) := by decide +kernel
theorem dX5_alike_5 : decode cX5_alike 5 = .ok (.getfield 10, 3) := by decide +kernel
theorem dX5_alike_8 : decode cX5_alike 8 = .ok (.invokevirtual 270, 3) := by decide +kernel
theorem dX5_alike_11 : decode cX5_alike 11 = .ok (.ireturn, 1) := by decide +kernel
theorem dX5_until_0 : decode cX5_until 0 = .ok (.aload_n 0, 1) := by decide +kernel
theorem dX5_until_1 : decode cX5_until 1 = .ok (.getfield 19, 3) := by decide +kernel
theorem dX5_until_4 : decode cX5_until 4 = .ok (.aload_n 0, 1) := by decide +kernel
theorem dX5_until_5 : decode cX5_until 5 = .ok (.getfield 10, 3) := by decide +kernel
theorem dX5_until_8 : decode cX5_until 8 = .ok (.iload_n 1, 1) := by decide +kernel
theorem dX5_until_9 : decode cX5_until 9 = .ok (.invokevirtual 274, 3) := by decide +kernel
theorem dX5_until_12 : decode cX5_until 12 = .ok (.ireturn, 1) := by decide +kernel
theorem dX5_rested_0 : decode cX5_rested 0 = .ok (.iload_n 1, 1) := by decide +kernel
theorem dX5_rested_1 : decode cX5_rested 1 = .ok (.iload_n 3, 1) := by decide +kernel
theorem dX5_rested_2 : decode cX5_rested 2 = .ok (.iload 4, 2) := by decide +kernel
theorem dX5_rested_4 : decode cX5_rested 4 = .ok (.invokestatic 96, 3) := by decide +kernel
theorem dX5_rested_7 : decode cX5_rested 7 = .ok (.ifCond .eq 25, 3) := by decide +kernel
theorem dX5_rested_10 : decode cX5_rested 10 = .ok (.iload_n 2, 1) := by decide +kernel
theorem dX5_rested_11 : decode cX5_rested 11 = .ok (.iconst 1, 1) := by decide +kernel
theorem dX5_rested_12 : decode cX5_rested 12 = .ok (.if_icmp .lt 20, 3) := by decide +kernel
theorem dX5_rested_15 : decode cX5_rested 15 = .ok (.iload_n 2, 1) := by decide +kernel
theorem dX5_rested_16 : decode cX5_rested 16 = .ok (.bipush 10, 2) := by decide +kernel
theorem dX5_rested_18 : decode cX5_rested 18 = .ok (.if_icmp .gt 14, 3) := by decide +kernel
theorem dX5_rested_21 : decode cX5_rested 21 = .ok (.iload 5, 2) := by decide +kernel
theorem dX5_rested_23 : decode cX5_rested 23 = .ok (.ifCond .lt 9, 3) := by decide +kernel
theorem dX5_rested_26 : decode cX5_rested 26 = .ok (.iload 5, 2) := by decide +kernel
theorem dX5_rested_28 : decode cX5_rested 28 = .ok (.iconst 1, 1) := by decide +kernel
theorem dX5_rested_29 : decode cX5_rested 29 = .ok (.if_icmp .le 5, 3) := by decide +kernel
theorem dX5_rested_32 : decode cX5_rested 32 = .ok (.iconst (-1), 1) := by decide +kernel
theorem dX5_rested_33 : decode cX5_rested 33 = .ok (.ireturn, 1) := by decide +kernel
theorem dX5_rested_34 : decode cX5_rested 34 = .ok (.iload_n 1, 1) := by decide +kernel
theorem dX5_rested_35 : decode cX5_rested 35 = .ok (.ldc_w 277, 3) := by decide +kernel
theorem dX5_rested_38 : decode cX5_rested 38 = .ok (.iload_n 2, 1) := by decide +kernel
theorem dX5_rested_39 : decode cX5_rested 39 = .ok (.iconst 1, 1) := by decide +kernel
theorem dX5_rested_40 : decode cX5_rested 40 = .ok (.isub, 1) := by decide +kernel
theorem dX5_rested_41 : decode cX5_rested 41 = .ok (.isub, 1) := by decide +kernel
theorem dX5_rested_42 : decode cX5_rested 42 = .ok (.if_icmp .le 5, 3) := by decide +kernel
theorem dX5_rested_45 : decode cX5_rested 45 = .ok (.iconst (-1), 1) := by decide +kernel
theorem dX5_rested_46 : decode cX5_rested 46 = .ok (.ireturn, 1) := by decide +kernel
theorem dX5_rested_47 : decode cX5_rested 47 = .ok (.aload_n 0, 1) := by decide +kernel
theorem dX5_rested_48 : decode cX5_rested 48 = .ok (.getfield 19, 3) := by decide +kernel
theorem dX5_rested_51 : decode cX5_rested 51 = .ok (.aload_n 0, 1) := by decide +kernel
theorem dX5_rested_52 : decode cX5_rested 52 = .ok (.getfield 10, 3) := by decide +kernel
theorem dX5_rested_55 : decode cX5_rested 55 = .ok (.iload_n 1, 1) := by decide +kernel
theorem dX5_rested_56 : decode cX5_rested 56 = .ok (.iload_n 2, 1) := by decide +kernel
theorem dX5_rested_57 : decode cX5_rested 57 = .ok (.iload_n 3, 1) := by decide +kernel
theorem dX5_rested_58 : decode cX5_rested 58 = .ok (.iload 4, 2) := by decide +kernel
theorem dX5_rested_60 : decode cX5_rested 60 = .ok (.invokevirtual 278, 3) := by decide +kernel
theorem dX5_rested_63 : decode cX5_rested 63 = .ok (.istore 6, 2) := by decide +kernel
theorem dX5_rested_65 : decode cX5_rested 65 = .ok (.iload 5, 2) := by decide +kernel
theorem dX5_rested_67 : decode cX5_rested 67 = .ok (.ifCond .ne 13, 3) := by decide +kernel
theorem dX5_rested_70 : decode cX5_rested 70 = .ok (.aload_n 0, 1) := by decide +kernel
theorem dX5_rested_71 : decode cX5_rested 71 = .ok (.getfield 19, 3) := by decide +kernel
theorem dX5_rested_74 : decode cX5_rested 74 = .ok (.getfield 282, 3) := by decide +kernel
theorem dX5_rested_77 : decode cX5_rested 77 = .ok (.goto 5, 3) := by decide +kernel
theorem dX5_rested_80 : decode cX5_rested 80 = .ok (.iload 6, 2) := by decide +kernel
theorem dX5_rested_82 : decode cX5_rested 82 = .ok (.ireturn, 1) := by decide +kernel
theorem dX5_resting_0 : decode cX5_resting 0 = .ok (.iload_n 1, 1) := by decide +kernel
theorem dX5_resting_1 : decode cX5_resting 1 = .ok (.ifCond .lt 8, 3) := by decide +kernel
theorem dX5_resting_4 : decode cX5_resting 4 = .ok (.iload_n 1, 1) := by decide +kernel
theorem dX5_resting_5 : decode cX5_resting 5 = .ok (.iconst 1, 1) := by decide +kernel
theorem dX5_resting_6 : decode cX5_resting 6 = .ok (.if_icmp .le 5, 3) := by decide +kernel
theorem dX5_resting_9 : decode cX5_resting 9 = .ok (.iconst (-1), 1) := by decide +kernel
theorem dX5_resting_10 : decode cX5_resting 10 = .ok (.ireturn, 1) := by decide +kernel
theorem dX5_resting_11 : decode cX5_resting 11 = .ok (.aload_n 0, 1) := by decide +kernel
theorem dX5_resting_12 : decode cX5_resting 12 = .ok (.getfield 19, 3) := by decide +kernel
theorem dX5_resting_15 : decode cX5_resting 15 = .ok (.aload_n 0, 1) := by decide +kernel
theorem dX5_resting_16 : decode cX5_resting 16 = .ok (.getfield 10, 3) := by decide +kernel
theorem dX5_resting_19 : decode cX5_resting 19 = .ok (.invokevirtual 285, 3) := by decide +kernel
theorem dX5_resting_22 : decode cX5_resting 22 = .ok (.istore_n 2, 1) := by decide +kernel
theorem dX5_resting_23 : decode cX5_resting 23 = .ok (.iload_n 1, 1) := by decide +kernel
theorem dX5_resting_24 : decode cX5_resting 24 = .ok (.ifCond .ne 7, 3) := by decide +kernel
theorem dX5_resting_27 : decode cX5_resting 27 = .ok (.iload_n 2, 1) := by decide +kernel
theorem dX5_resting_28 : decode cX5_resting 28 = .ok (.goto 16, 3) := by decide +kernel
theorem dX5_resting_31 : decode cX5_resting 31 = .ok (.aload_n 0, 1) := by decide +kernel
theorem dX5_resting_32 : decode cX5_resting 32 = .ok (.getfield 19, 3) := by decide +kernel
theorem dX5_resting_35 : decode cX5_resting 35 = .ok (.getfield 288, 3) := by decide +kernel
theorem dX5_resting_38 : decode cX5_resting 38 = .ok (.getfield 46, 3) := by decide +kernel
theorem dX5_resting_41 : decode cX5_resting 41 = .ok (.invokevirtual 229, 3) := by decide +kernel
theorem dX5_resting_44 : decode cX5_resting 44 = .ok (.ireturn, 1) := by decide +kernel
theorem dX5_later_0 : decode cX5_later 0 = .ok (.iload_n 1, 1) := by decide +kernel
theorem dX5_later_1 : decode cX5_later 1 = .ok (.ifCond .lt 18, 3) := by decide +kernel
theorem dX5_later_4 : decode cX5_later 4 = .ok (.iload_n 1, 1) := by decide +kernel
theorem dX5_later_5 : decode cX5_later 5 = .ok (.bipush 50, 2) := by decide +kernel
theorem dX5_later_7 : decode cX5_later 7 = .ok (.if_icmp .gt 12, 3) := by decide +kernel
theorem dX5_later_10 : decode cX5_later 10 = .ok (.iload_n 2, 1) := by decide +kernel
theorem dX5_later_11 : decode cX5_later 11 = .ok (.ifCond .lt 8, 3) := by decide +kernel
theorem dX5_later_14 : decode cX5_later 14 = .ok (.iload_n 2, 1) := by decide +kernel
theorem dX5_later_15 : decode cX5_later 15 = .ok (.iconst 4, 1) := by decide +kernel
theorem dX5_later_16 : decode cX5_later 16 = .ok (.if_icmp .le 6, 3) := by decide +kernel
theorem dX5_later_19 : decode cX5_later 19 = .ok (.ldc 141, 2) := by decide +kernel
theorem dX5_later_21 : decode cX5_later 21 = .ok (.ireturn, 1) := by decide +kernel
theorem dX5_later_22 : decode cX5_later 22 = .ok (.aload_n 0, 1) := by decide +kernel
theorem dX5_later_23 : decode cX5_later 23 = .ok (.getfield 19, 3) := by decide +kernel
theorem dX5_later_26 : decode cX5_later 26 = .ok (.aload_n 0, 1) := by decide +kernel
theorem dX5_later_27 : decode cX5_later 27 = .ok (.getfield 10, 3) := by decide +kernel
theorem dX5_later_30 : decode cX5_later 30 = .ok (.iload_n 1, 1) := by decide +kernel
theorem dX5_later_31 : decode cX5_later 31 = .ok (.invokevirtual 291, 3) := by decide +kernel
theorem dX5_later_34 : decode cX5_later 34 = .ok (.iload_n 2, 1) := by decide +kernel
theorem dX5_later_35 : decode cX5_later 35 = .ok (.tableswitch 95 0 3 #[29, 43, 57, 76], 29) := by decide +kernel
theorem dX5_later_64 : decode cX5_later 64 = .ok (.aload_n 0, 1) := by decide +kernel
theorem dX5_later_65 : decode cX5_later 65 = .ok (.getfield 19, 3) := by decide +kernel
theorem dX5_later_68 : decode cX5_later 68 = .ok (.getfield 288, 3) := by decide +kernel
theorem dX5_later_71 : decode cX5_later 71 = .ok (.getfield 46, 3) := by decide +kernel
theorem dX5_later_74 : decode cX5_later 74 = .ok (.invokevirtual 295, 3) := by decide +kernel
theorem dX5_later_77 : decode cX5_later 77 = .ok (.ireturn, 1) := by decide +kernel
theorem dX5_later_78 : decode cX5_later 78 = .ok (.aload_n 0, 1) := by decide +kernel
theorem dX5_later_79 : decode cX5_later 79 = .ok (.getfield 19, 3) := by decide +kernel
theorem dX5_later_82 : decode cX5_later 82 = .ok (.getfield 288, 3) := by decide +kernel
theorem dX5_later_85 : decode cX5_later 85 = .ok (.getfield 46, 3) := by decide +kernel
theorem dX5_later_88 : decode cX5_later 88 = .ok (.invokevirtual 229, 3) := by decide +kernel
theorem dX5_later_91 : decode cX5_later 91 = .ok (.ireturn, 1) := by decide +kernel
theorem dX5_later_92 : decode cX5_later 92 = .ok (.aload_n 0, 1) := by decide +kernel
theorem dX5_later_93 : decode cX5_later 93 = .ok (.getfield 19, 3) := by decide +kernel
theorem dX5_later_96 : decode cX5_later 96 = .ok (.getfield 288, 3) := by decide +kernel
theorem dX5_later_99 : decode cX5_later 99 = .ok (.getfield 103, 3) := by decide +kernel
theorem dX5_later_102 : decode cX5_later 102 = .ok (.aload_n 0, 1) := by decide +kernel
theorem dX5_later_103 : decode cX5_later 103 = .ok (.getfield 10, 3) := by decide +kernel
theorem dX5_later_106 : decode cX5_later 106 = .ok (.getfield 103, 3) := by decide +kernel
theorem dX5_later_109 : decode cX5_later 109 = .ok (.isub, 1) := by decide +kernel
theorem dX5_later_110 : decode cX5_later 110 = .ok (.ireturn, 1) := by decide +kernel
theorem dX5_later_111 : decode cX5_later 111 = .ok (.aload_n 0, 1) := by decide +kernel
theorem dX5_later_112 : decode cX5_later 112 = .ok (.getfield 19, 3) := by decide +kernel
theorem dX5_later_115 : decode cX5_later 115 = .ok (.getfield 288, 3) := by decide +kernel
theorem dX5_later_118 : decode cX5_later 118 = .ok (.getfield 106, 3) := by decide +kernel
theorem dX5_later_121 : decode cX5_later 121 = .ok (.aload_n 0, 1) := by decide +kernel
theorem dX5_later_122 : decode cX5_later 122 = .ok (.getfield 10, 3) := by decide +kernel
theorem dX5_later_125 : decode cX5_later 125 = .ok (.getfield 106, 3) := by decide +kernel
theorem dX5_later_128 : decode cX5_later 128 = .ok (.isub, 1) := by decide +kernel
theorem dX5_later_129 : decode cX5_later 129 = .ok (.ireturn, 1) := by decide +kernel
theorem dX5_later_130 : decode cX5_later 130 = .ok (.aload_n 0, 1) := by decide +kernel
theorem dX5_later_131 : decode cX5_later 131 = .ok (.getfield 19, 3) := by decide +kernel
theorem dX5_later_134 : decode cX5_later 134 = .ok (.getfield 288, 3) := by decide +kernel
theorem dX5_later_137 : decode cX5_later 137 = .ok (.getfield 46, 3) := by decide +kernel
theorem dX5_later_140 : decode cX5_later 140 = .ok (.invokevirtual 241, 3) := by decide +kernel
theorem dX5_later_143 : decode cX5_later 143 = .ok (.ireturn, 1) := by decide +kernel
theorem dX5_gone_0 : decode cX5_gone 0 = .ok (.aload_n 0, 1) := by decide +kernel
theorem dX5_gone_1 : decode cX5_gone 1 = .ok (.getfield 10, 3) := by decide +kernel
theorem dX5_gone_4 : decode cX5_gone 4 = .ok (.getfield 46, 3) := by decide +kernel
theorem dX5_gone_7 : decode cX5_gone 7 = .ok (.iload_n 1, 1) := by decide +kernel
theorem dX5_gone_8 : decode cX5_gone 8 = .ok (.invokevirtual 50, 3) := by decide +kernel
theorem dX5_gone_11 : decode cX5_gone 11 = .ok (.ifCond .eq 18, 3) := by decide +kernel
theorem dX5_gone_14 : decode cX5_gone 14 = .ok (.aload_n 0, 1) := by decide +kernel
theorem dX5_gone_15 : decode cX5_gone 15 = .ok (.getfield 19, 3) := by decide +kernel
theorem dX5_gone_18 : decode cX5_gone 18 = .ok (.aload_n 0, 1) := by decide +kernel
theorem dX5_gone_19 : decode cX5_gone 19 = .ok (.getfield 10, 3) := by decide +kernel
theorem dX5_gone_22 : decode cX5_gone 22 = .ok (.iload_n 1, 1) := by decide +kernel
theorem dX5_gone_23 : decode cX5_gone 23 = .ok (.invokevirtual 298, 3) := by decide +kernel
theorem dX5_gone_26 : decode cX5_gone 26 = .ok (.goto 4, 3) := by decide +kernel
theorem dX5_gone_29 : decode cX5_gone 29 = .ok (.iconst (-1), 1) := by decide +kernel
theorem dX5_gone_30 : decode cX5_gone 30 = .ok (.ireturn, 1) := by decide +kernel
theorem dX5_first_0 : decode cX5_first 0 = .ok (.iload_n 1, 1) := by decide +kernel
theorem dX5_first_1 : decode cX5_first 1 = .ok (.ifCond .lt 8, 3) := by decide +kernel
theorem dX5_first_4 : decode cX5_first 4 = .ok (.iload_n 1, 1) := by decide +kernel
theorem dX5_first_5 : decode cX5_first 5 = .ok (.iconst 1, 1) := by decide +kernel
theorem dX5_first_6 : decode cX5_first 6 = .ok (.if_icmp .le 7, 3) := by decide +kernel
theorem dX5_first_9 : decode cX5_first 9 = .ok (.iconst (-1), 1) := by decide +kernel
theorem dX5_first_10 : decode cX5_first 10 = .ok (.goto 15, 3) := by decide +kernel
theorem dX5_first_13 : decode cX5_first 13 = .ok (.aload_n 0, 1) := by decide +kernel
theorem dX5_first_14 : decode cX5_first 14 = .ok (.getfield 19, 3) := by decide +kernel
theorem dX5_first_17 : decode cX5_first 17 = .ok (.aload_n 0, 1) := by decide +kernel
theorem dX5_first_18 : decode cX5_first 18 = .ok (.getfield 10, 3) := by decide +kernel
theorem dX5_first_21 : decode cX5_first 21 = .ok (.iload_n 1, 1) := by decide +kernel
theorem dX5_first_22 : decode cX5_first 22 = .ok (.invokevirtual 301, 3) := by decide +kernel
theorem dX5_first_25 : decode cX5_first 25 = .ok (.ireturn, 1) := by decide +kernel
theorem dX5_log_0 : decode cX5_log 0 = .ok (.aload_n 0, 1) := by decide +kernel
theorem dX5_log_1 : decode cX5_log 1 = .ok (.getfield 10, 3) := by decide +kernel
theorem dX5_log_4 : decode cX5_log 4 = .ok (.getfield 304, 3) := by decide +kernel
theorem dX5_log_7 : decode cX5_log 7 = .ok (.iload_n 1, 1) := by decide +kernel
theorem dX5_log_8 : decode cX5_log 8 = .ok (.iload_n 2, 1) := by decide +kernel
theorem dX5_log_9 : decode cX5_log 9 = .ok (.invokevirtual 308, 3) := by decide +kernel
theorem dX5_log_12 : decode cX5_log 12 = .ok (.ireturn, 1) := by decide +kernel
theorem dX5_count_0 : decode cX5_count 0 = .ok (.iload_n 1, 1) := by decide +kernel
theorem dX5_count_1 : decode cX5_count 1 = .ok (.tableswitch 231 0 15 #[79, 90, 101, 116, 124, 132, 140, 148, 156, 164, 172, 183, 193, 203, 213, 223], 79) := by decide +kernel
theorem dX5_count_80 : decode cX5_count 80 = .ok (.aload_n 0, 1) := by decide +kernel
theorem dX5_count_81 : decode cX5_count 81 = .ok (.getfield 10, 3) := by decide +kernel
theorem dX5_count_84 : decode cX5_count 84 = .ok (.getfield 46, 3) := by decide +kernel
theorem dX5_count_87 : decode cX5_count 87 = .ok (.invokevirtual 295, 3) := by decide +kernel
theorem dX5_count_90 : decode cX5_count 90 = .ok (.ireturn, 1) := by decide +kernel
theorem dX5_count_91 : decode cX5_count 91 = .ok (.aload_n 0, 1) := by decide +kernel
theorem dX5_count_92 : decode cX5_count 92 = .ok (.getfield 10, 3) := by decide +kernel
theorem dX5_count_95 : decode cX5_count 95 = .ok (.getfield 46, 3) := by decide +kernel
theorem dX5_count_98 : decode cX5_count 98 = .ok (.invokevirtual 313, 3) := by decide +kernel
theorem dX5_count_101 : decode cX5_count 101 = .ok (.ireturn, 1) := by decide +kernel
theorem dX5_count_102 : decode cX5_count 102 = .ok (.aload_n 0, 1) := by decide +kernel
theorem dX5_count_103 : decode cX5_count 103 = .ok (.getfield 10, 3) := by decide +kernel
theorem dX5_count_106 : decode cX5_count 106 = .ok (.getfield 46, 3) := by decide +kernel
theorem dX5_count_109 : decode cX5_count 109 = .ok (.invokevirtual 313, 3) := by decide +kernel
theorem dX5_count_112 : decode cX5_count 112 = .ok (.iconst 3, 1) := by decide +kernel
theorem dX5_count_113 : decode cX5_count 113 = .ok (.idiv, 1) := by decide +kernel
theorem dX5_count_114 : decode cX5_count 114 = .ok (.iconst 2, 1) := by decide +kernel
theorem dX5_count_115 : decode cX5_count 115 = .ok (.imul, 1) := by decide +kernel
theorem dX5_count_116 : decode cX5_count 116 = .ok (.ireturn, 1) := by decide +kernel
theorem dX5_count_117 : decode cX5_count 117 = .ok (.aload_n 0, 1) := by decide +kernel
theorem dX5_count_118 : decode cX5_count 118 = .ok (.getfield 10, 3) := by decide +kernel
theorem dX5_count_121 : decode cX5_count 121 = .ok (.getfield 316, 3) := by decide +kernel
theorem dX5_count_124 : decode cX5_count 124 = .ok (.ireturn, 1) := by decide +kernel
theorem dX5_count_125 : decode cX5_count 125 = .ok (.aload_n 0, 1) := by decide +kernel
theorem dX5_count_126 : decode cX5_count 126 = .ok (.getfield 10, 3) := by decide +kernel
theorem dX5_count_129 : decode cX5_count 129 = .ok (.getfield 103, 3) := by decide +kernel
theorem dX5_count_132 : decode cX5_count 132 = .ok (.ireturn, 1) := by decide +kernel
theorem dX5_count_133 : decode cX5_count 133 = .ok (.aload_n 0, 1) := by decide +kernel
theorem dX5_count_134 : decode cX5_count 134 = .ok (.getfield 10, 3) := by decide +kernel
theorem dX5_count_137 : decode cX5_count 137 = .ok (.getfield 106, 3) := by decide +kernel
theorem dX5_count_140 : decode cX5_count 140 = .ok (.ireturn, 1) := by decide +kernel
theorem dX5_count_141 : decode cX5_count 141 = .ok (.aload_n 0, 1) := by decide +kernel
theorem dX5_count_142 : decode cX5_count 142 = .ok (.getfield 10, 3) := by decide +kernel
theorem dX5_count_145 : decode cX5_count 145 = .ok (.getfield 319, 3) := by decide +kernel
theorem dX5_count_148 : decode cX5_count 148 = .ok (.ireturn, 1) := by decide +kernel
theorem dX5_count_149 : decode cX5_count 149 = .ok (.aload_n 0, 1) := by decide +kernel
theorem dX5_count_150 : decode cX5_count 150 = .ok (.getfield 10, 3) := by decide +kernel
theorem dX5_count_153 : decode cX5_count 153 = .ok (.getfield 322, 3) := by decide +kernel
theorem dX5_count_156 : decode cX5_count 156 = .ok (.ireturn, 1) := by decide +kernel
theorem dX5_count_157 : decode cX5_count 157 = .ok (.aload_n 0, 1) := by decide +kernel
theorem dX5_count_158 : decode cX5_count 158 = .ok (.getfield 10, 3) := by decide +kernel
theorem dX5_count_161 : decode cX5_count 161 = .ok (.getfield 325, 3) := by decide +kernel
theorem dX5_count_164 : decode cX5_count 164 = .ok (.ireturn, 1) := by decide +kernel
theorem dX5_count_165 : decode cX5_count 165 = .ok (.aload_n 0, 1) := by decide +kernel
theorem dX5_count_166 : decode cX5_count 166 = .ok (.getfield 10, 3) := by decide +kernel
theorem dX5_count_169 : decode cX5_count 169 = .ok (.getfield 42, 3) := by decide +kernel
theorem dX5_count_172 : decode cX5_count 172 = .ok (.ireturn, 1) := by decide +kernel
theorem dX5_count_173 : decode cX5_count 173 = .ok (.aload_n 0, 1) := by decide +kernel
theorem dX5_count_174 : decode cX5_count 174 = .ok (.getfield 10, 3) := by decide +kernel
theorem dX5_count_177 : decode cX5_count 177 = .ok (.getfield 304, 3) := by decide +kernel
theorem dX5_count_180 : decode cX5_count 180 = .ok (.getfield 328, 3) := by decide +kernel
theorem dX5_count_183 : decode cX5_count 183 = .ok (.ireturn, 1) := by decide +kernel
theorem dX5_count_184 : decode cX5_count 184 = .ok (.aload_n 0, 1) := by decide +kernel
theorem dX5_count_185 : decode cX5_count 185 = .ok (.getfield 10, 3) := by decide +kernel
theorem dX5_count_188 : decode cX5_count 188 = .ok (.getfield 331, 3) := by decide +kernel
theorem dX5_count_191 : decode cX5_count 191 = .ok (.iconst 0, 1) := by decide +kernel
theorem dX5_count_192 : decode cX5_count 192 = .ok (.iaload, 1) := by decide +kernel
theorem dX5_count_193 : decode cX5_count 193 = .ok (.ireturn, 1) := by decide +kernel
theorem dX5_count_194 : decode cX5_count 194 = .ok (.aload_n 0, 1) := by decide +kernel
theorem dX5_count_195 : decode cX5_count 195 = .ok (.getfield 10, 3) := by decide +kernel
theorem dX5_count_198 : decode cX5_count 198 = .ok (.getfield 331, 3) := by decide +kernel
theorem dX5_count_201 : decode cX5_count 201 = .ok (.iconst 1, 1) := by decide +kernel
theorem dX5_count_202 : decode cX5_count 202 = .ok (.iaload, 1) := by decide +kernel
theorem dX5_count_203 : decode cX5_count 203 = .ok (.ireturn, 1) := by decide +kernel
theorem dX5_count_204 : decode cX5_count 204 = .ok (.aload_n 0, 1) := by decide +kernel
theorem dX5_count_205 : decode cX5_count 205 = .ok (.getfield 10, 3) := by decide +kernel
theorem dX5_count_208 : decode cX5_count 208 = .ok (.getfield 331, 3) := by decide +kernel
theorem dX5_count_211 : decode cX5_count 211 = .ok (.iconst 2, 1) := by decide +kernel
theorem dX5_count_212 : decode cX5_count 212 = .ok (.iaload, 1) := by decide +kernel
theorem dX5_count_213 : decode cX5_count 213 = .ok (.ireturn, 1) := by decide +kernel
theorem dX5_count_214 : decode cX5_count 214 = .ok (.aload_n 0, 1) := by decide +kernel
theorem dX5_count_215 : decode cX5_count 215 = .ok (.getfield 10, 3) := by decide +kernel
theorem dX5_count_218 : decode cX5_count 218 = .ok (.getfield 331, 3) := by decide +kernel
theorem dX5_count_221 : decode cX5_count 221 = .ok (.iconst 3, 1) := by decide +kernel
theorem dX5_count_222 : decode cX5_count 222 = .ok (.iaload, 1) := by decide +kernel
theorem dX5_count_223 : decode cX5_count 223 = .ok (.ireturn, 1) := by decide +kernel
theorem dX5_count_224 : decode cX5_count 224 = .ok (.aload_n 0, 1) := by decide +kernel
theorem dX5_count_225 : decode cX5_count 225 = .ok (.getfield 10, 3) := by decide +kernel
theorem dX5_count_228 : decode cX5_count 228 = .ok (.getfield 334, 3) := by decide +kernel
theorem dX5_count_231 : decode cX5_count 231 = .ok (.ireturn, 1) := by decide +kernel
theorem dX5_count_232 : decode cX5_count 232 = .ok (.iconst (-1), 1) := by decide +kernel
theorem dX5_count_233 : decode cX5_count 233 = .ok (.ireturn, 1) := by decide +kernel
theorem dX5_areTwo_0 : decode cX5_areTwo 0 = .ok (.iload_n 1, 1) := by decide +kernel
theorem dX5_areTwo_1 : decode cX5_areTwo 1 = .ok (.iload_n 2, 1) := by decide +kernel
theorem dX5_areTwo_2 : decode cX5_areTwo 2 = .ok (.if_icmp .eq 35, 3) := by decide +kernel
theorem dX5_areTwo_5 : decode cX5_areTwo 5 = .ok (.aload_n 0, 1) := by decide +kernel
theorem dX5_areTwo_6 : decode cX5_areTwo 6 = .ok (.getfield 10, 3) := by decide +kernel
theorem dX5_areTwo_9 : decode cX5_areTwo 9 = .ok (.getfield 46, 3) := by decide +kernel
theorem dX5_areTwo_12 : decode cX5_areTwo 12 = .ok (.iload_n 1, 1) := by decide +kernel
theorem dX5_areTwo_13 : decode cX5_areTwo 13 = .ok (.invokevirtual 50, 3) := by decide +kernel
theorem dX5_areTwo_16 : decode cX5_areTwo 16 = .ok (.ifCond .eq 21, 3) := by decide +kernel
theorem dX5_areTwo_19 : decode cX5_areTwo 19 = .ok (.aload_n 0, 1) := by decide +kernel
theorem dX5_areTwo_20 : decode cX5_areTwo 20 = .ok (.getfield 10, 3) := by decide +kernel
theorem dX5_areTwo_23 : decode cX5_areTwo 23 = .ok (.getfield 46, 3) := by decide +kernel
theorem dX5_areTwo_26 : decode cX5_areTwo 26 = .ok (.iload_n 2, 1) := by decide +kernel
theorem dX5_areTwo_27 : decode cX5_areTwo 27 = .ok (.invokevirtual 50, 3) := by decide +kernel
theorem dX5_areTwo_30 : decode cX5_areTwo 30 = .ok (.ifCond .eq 7, 3) := by decide +kernel
theorem dX5_areTwo_33 : decode cX5_areTwo 33 = .ok (.iconst 1, 1) := by decide +kernel
theorem dX5_areTwo_34 : decode cX5_areTwo 34 = .ok (.goto 4, 3) := by decide +kernel
theorem dX5_areTwo_37 : decode cX5_areTwo 37 = .ok (.iconst 0, 1) := by decide +kernel
theorem dX5_areTwo_38 : decode cX5_areTwo 38 = .ok (.ireturn, 1) := by decide +kernel
theorem dX5_isShake_0 : decode cX5_isShake 0 = .ok (.iload_n 0, 1) := by decide +kernel
theorem dX5_isShake_1 : decode cX5_isShake 1 = .ok (.ifCond .lt 35, 3) := by decide +kernel
theorem dX5_isShake_4 : decode cX5_isShake 4 = .ok (.iload_n 0, 1) := by decide +kernel
theorem dX5_isShake_5 : decode cX5_isShake 5 = .ok (.ldc_w 277, 3) := by decide +kernel
theorem dX5_isShake_8 : decode cX5_isShake 8 = .ok (.if_icmp .gt 28, 3) := by decide +kernel
theorem dX5_isShake_11 : decode cX5_isShake 11 = .ok (.iload_n 1, 1) := by decide +kernel
theorem dX5_isShake_12 : decode cX5_isShake 12 = .ok (.iconst 1, 1) := by decide +kernel
theorem dX5_isShake_13 : decode cX5_isShake 13 = .ok (.if_icmp .lt 23, 3) := by decide +kernel
theorem dX5_isShake_16 : decode cX5_isShake 16 = .ok (.iload_n 1, 1) := by decide +kernel
theorem dX5_isShake_17 : decode cX5_isShake 17 = .ok (.bipush 99, 2) := by decide +kernel
theorem dX5_isShake_19 : decode cX5_isShake 19 = .ok (.if_icmp .gt 17, 3) := by decide +kernel
theorem dX5_isShake_22 : decode cX5_isShake 22 = .ok (.iload_n 2, 1) := by decide +kernel
theorem dX5_isShake_23 : decode cX5_isShake 23 = .ok (.ifCond .lt 13, 3) := by decide +kernel
theorem dX5_isShake_26 : decode cX5_isShake 26 = .ok (.iload_n 2, 1) := by decide +kernel
theorem dX5_isShake_27 : decode cX5_isShake 27 = .ok (.bipush 99, 2) := by decide +kernel
theorem dX5_isShake_29 : decode cX5_isShake 29 = .ok (.if_icmp .gt 7, 3) := by decide +kernel
theorem dX5_isShake_32 : decode cX5_isShake 32 = .ok (.iconst 1, 1) := by decide +kernel
theorem dX5_isShake_33 : decode cX5_isShake 33 = .ok (.goto 4, 3) := by decide +kernel
theorem dX5_isShake_36 : decode cX5_isShake 36 = .ok (.iconst 0, 1) := by decide +kernel
theorem dX5_isShake_37 : decode cX5_isShake 37 = .ok (.ireturn, 1) := by decide +kernel
theorem dX5_commonDivisor_0 : decode cX5_commonDivisor 0 = .ok (.iload_n 0, 1) := by decide +kernel
theorem dX5_commonDivisor_1 : decode cX5_commonDivisor 1 = .ok (.istore_n 2, 1) := by decide +kernel
theorem dX5_commonDivisor_2 : decode cX5_commonDivisor 2 = .ok (.iload_n 1, 1) := by decide +kernel
theorem dX5_commonDivisor_3 : decode cX5_commonDivisor 3 = .ok (.istore_n 3, 1) := by decide +kernel
theorem dX5_commonDivisor_4 : decode cX5_commonDivisor 4 = .ok (.iconst 0, 1) := by decide +kernel
theorem dX5_commonDivisor_5 : decode cX5_commonDivisor 5 = .ok (.istore 4, 2) := by decide +kernel
theorem dX5_commonDivisor_7 : decode cX5_commonDivisor 7 = .ok (.iload 4, 2) := by decide +kernel
theorem dX5_commonDivisor_9 : decode cX5_commonDivisor 9 = .ok (.bipush 100, 2) := by decide +kernel
theorem dX5_commonDivisor_11 : decode cX5_commonDivisor 11 = .ok (.if_icmp .ge 23, 3) := by decide +kernel
theorem dX5_commonDivisor_14 : decode cX5_commonDivisor 14 = .ok (.iload_n 3, 1) := by decide +kernel
theorem dX5_commonDivisor_15 : decode cX5_commonDivisor 15 = .ok (.ifCond .le 19, 3) := by decide +kernel
theorem dX5_commonDivisor_18 : decode cX5_commonDivisor 18 = .ok (.iload_n 2, 1) := by decide +kernel
theorem dX5_commonDivisor_19 : decode cX5_commonDivisor 19 = .ok (.iload_n 3, 1) := by decide +kernel
theorem dX5_commonDivisor_20 : decode cX5_commonDivisor 20 = .ok (.irem, 1) := by decide +kernel
theorem dX5_commonDivisor_21 : decode cX5_commonDivisor 21 = .ok (.istore 5, 2) := by decide +kernel
theorem dX5_commonDivisor_23 : decode cX5_commonDivisor 23 = .ok (.iload_n 3, 1) := by decide +kernel
theorem dX5_commonDivisor_24 : decode cX5_commonDivisor 24 = .ok (.istore_n 2, 1) := by decide +kernel
theorem dX5_commonDivisor_25 : decode cX5_commonDivisor 25 = .ok (.iload 5, 2) := by decide +kernel
theorem dX5_commonDivisor_27 : decode cX5_commonDivisor 27 = .ok (.istore_n 3, 1) := by decide +kernel
theorem dX5_commonDivisor_28 : decode cX5_commonDivisor 28 = .ok (.iinc 4 1, 3) := by decide +kernel
theorem dX5_commonDivisor_31 : decode cX5_commonDivisor 31 = .ok (.goto (-24), 3) := by decide +kernel
theorem dX5_commonDivisor_34 : decode cX5_commonDivisor 34 = .ok (.iload_n 2, 1) := by decide +kernel
theorem dX5_commonDivisor_35 : decode cX5_commonDivisor 35 = .ok (.ireturn, 1) := by decide +kernel
